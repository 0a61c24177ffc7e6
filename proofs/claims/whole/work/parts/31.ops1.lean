/-! BoneSteps: bones and goals -/
def noL (r : Int32) : Int64 := -9223372036854775808 - r.toInt64
def oAbout (z : St) (x y : Int32) : Int32 := if isB z x then (if y = 0 then oI (kPar (zK z) (bN x)) else if y = 1 then nI (kLen (zK z) (bN x)) else if y = 2 then nI (kLow (zK z) (bN x)) else if y = 3 then nI (kSpr (zK z) (bN x)) else if y = 4 then nI (kTrn (zK z) (bN x)) else -2) else -2
def oTurn (z : St) (x y : Int32) : Int32 × St := if isB z x ∧ (0 ≤ y.toInt ∧ y.toInt ≤ 35) then (if wi (kLow (zK z) (bN x)) (kSpr (zK z) (bN x)) (bN y) then (nI (kTrn (zK z) (bN x)), pK z (setP (zK z) (va_up (kTrn (zK z)) (bN x) (bN y)))) else (-3, z)) else (-2, z)
def oRoot (z : St) (x y : Int64) : Int32 × St := if plc x ∧ plc y then (if kLck (zK z) = none then (1, pK z (kRt (zK z) x y)) else (-3, z)) else (-2, z)
def oFar (z : St) (x : Int32) (p q : Int64) : Int64 := if isB z x ∧ plc p ∧ plc q then farK (zK z) (bN x) p q else noL (-2)
def oTwo (z : St) (x : Int32) (p q : Int64) : Int64 × St := if isB z x ∧ plc p ∧ plc q then (if kLck (zK z) = none then (farK (twoK (zK z) (bN x) p q) (bN x) p q, pK z (twoK (zK z) (bN x) p q)) else (noL (-3), z)) else (noL (-2), z)
def oRounds (z : St) (x : Int32) (p q : Int64) (n : Int32) : Int64 × St := if isB z x ∧ (plc p ∧ plc q) ∧ (1 ≤ n.toInt ∧ n.toInt ≤ 20) then (if kLck (zK z) = none then (farK (rndsG (bN x) p q (bN n) (zK z) true) (bN x) p q, pK z (rndsG (bN x) p q (bN n) (zK z) true)) else (noL (-3), z)) else (noL (-2), z)
theorem twoK_same (k : Sk) (b : Nat) (x y : Int64) : SameB k (twoK k b x y) := by
  unfold twoK
  split
  · exact ⟨rfl, rfl, rfl, rfl, rfl, rfl⟩
  · exact SameB.kU (SameB.kU (twoL_same k b _ x y 36) _ _) _ _
theorem rndsG_same (b : Nat) (x y : Int64) (k0 : Sk) : ∀ n k c, SameB k0 k → SameB k0 (rndsG b x y n k c)
  | 0, _, _, h => h
  | n + 1, k, c, h => by
    rw [rndsG]
    split
    · exact rndsG_same b x y k0 n _ _ (rndG_same b x y k0 10 _ _ _ h)
    · exact h
theorem stl_n (k : Sk) (x y : Int64) : kN (stl k x y) = kN k := by unfold stl; split <;> rfl
theorem lck_n {o : Option Nat} (h : oI o = -1) (hb : ∀ n, o = some n → n < 10) : o = none := oI_m1 (fun n e => Nat.lt_trans (hb n e) (by decide)) h

set_option maxRecDepth 100000 in
theorem c_X8_about (z : St) (x y : Int32) (w : Wd) (z0 : RX z w) : Cc yX8_about mX8_about [.ref 20, .int x, .int y] w (fun r w' => r = some (.int (oAbout z x y)) ∧ w' = w) := by
  refine Cc.of (by decide) rfl rfl (Nat.le_of_ble_eq_true rfl) (fun X => ?_)
  change V _ X _ 0 [(0, _), (1, _), (2, _)] [] _ (0, 0)
  by_cases hx : isB z x
  · obtain ⟨b, hb, rfl⟩ := isB_n z0 hx
    have hbN : bN (nI b) = b := bN_nI (by have := z0.1.1.n10; omega)
    first | refine V_aload_n dX8_about_0 rfl rfl ?_ | refine V_aload_nN dX8_about_0 rfl rfl ?_
    first | refine V_getr (by first | exact z0.1.1.1.k _ rfl rfl | exact z0.1.1.kb hb) fX8_12 dX8_about_1 (by exact z0.1.1.1.r _ _ rfl) ?_ | refine V_getrN (by first | exact z0.1.1.1.k _ rfl rfl | exact z0.1.1.kb hb) fX8_12 dX8_about_1 (by exact z0.1.1.1.r _ _ rfl) ?_
    refine V_iload_n dX8_about_4 rfl rfl ?_
    refine V_callV (As := [_]) (st := _) (c_X6_find_s (zK z) b w z0.1.1 hb) kX8_48 (by first | exact z0.1.1.1.k _ rfl rfl | exact z0.1.1.kb hb) ⟨rfl, rfl, rfl⟩ ⟨(Nat.le_of_ble_eq_true rfl), (Nat.le_of_ble_eq_true rfl)⟩ dX8_about_5 rfl rfl (Nat.le_of_ble_eq_true rfl) ⟨(Nat.le_of_ble_eq_true rfl), (Nat.le_of_ble_eq_true rfl)⟩ ?_
    first | refine S_astore_n (L' := [(2, _), (3, _)]) dX8_about_8 rfl rfl rfl ?_ | refine S_astore_nN (L' := [(2, _), (3, _)]) dX8_about_8 rfl rfl rfl ?_
    first | refine V_aload_n dX8_about_9 rfl rfl ?_ | refine V_aload_nN dX8_about_9 rfl rfl ?_
    refine V_ifnonnull (tgt := 16) dX8_about_10 (by decide) ?_
    refine V_iload_n dX8_about_16 rfl rfl ?_
    refine V_topi (fun sw esw => ?_)
    by_cases s0 : sw = 0
    · rw [s0] at esw ⊢
      refine V_tableIn (off := 35) (tgt := 52) dX8_about_17 (by decide) (by decide) (by decide) (by decide) ?_
      first | refine V_aload_n dX8_about_52 rfl rfl ?_ | refine V_aload_nN dX8_about_52 rfl rfl ?_
      refine G_geti (by first | exact z0.1.1.1.k _ rfl rfl | exact z0.1.1.kb hb) fX8_81 dX8_about_53 (by first | exact (z0.1.1.bone hb).1 | exact (z0.1.1.bone hb).2.2.1 | exact (z0.1.1.bone hb).2.2.2.1 | exact (z0.1.1.bone hb).2.2.2.2.1 | exact (z0.1.1.bone hb).2.2.2.2.2.2) ?_
      refine V_iret rfl dX8_about_56 (Nat.le_of_ble_eq_true rfl) (Nat.le_of_ble_eq_true rfl) ?_
      exact ok2i (by unfold oAbout; rw [if_pos hx, hbN, ← esw]; rfl)
    by_cases s1 : sw = 1
    · rw [s1] at esw ⊢
      refine V_tableIn (off := 40) (tgt := 57) dX8_about_17 (by decide) (by decide) (by decide) (by decide) ?_
      first | refine V_aload_n dX8_about_57 rfl rfl ?_ | refine V_aload_nN dX8_about_57 rfl rfl ?_
      refine G_geti (by first | exact z0.1.1.1.k _ rfl rfl | exact z0.1.1.kb hb) fX8_84 dX8_about_58 (by first | exact (z0.1.1.bone hb).1 | exact (z0.1.1.bone hb).2.2.1 | exact (z0.1.1.bone hb).2.2.2.1 | exact (z0.1.1.bone hb).2.2.2.2.1 | exact (z0.1.1.bone hb).2.2.2.2.2.2) ?_
      refine V_iret rfl dX8_about_61 (Nat.le_of_ble_eq_true rfl) (Nat.le_of_ble_eq_true rfl) ?_
      exact ok2i (by unfold oAbout; rw [if_pos hx, hbN, ← esw]; rfl)
    by_cases s2 : sw = 2
    · rw [s2] at esw ⊢
      refine V_tableIn (off := 45) (tgt := 62) dX8_about_17 (by decide) (by decide) (by decide) (by decide) ?_
      first | refine V_aload_n dX8_about_62 rfl rfl ?_ | refine V_aload_nN dX8_about_62 rfl rfl ?_
      refine G_geti (by first | exact z0.1.1.1.k _ rfl rfl | exact z0.1.1.kb hb) fX8_87 dX8_about_63 (by first | exact (z0.1.1.bone hb).1 | exact (z0.1.1.bone hb).2.2.1 | exact (z0.1.1.bone hb).2.2.2.1 | exact (z0.1.1.bone hb).2.2.2.2.1 | exact (z0.1.1.bone hb).2.2.2.2.2.2) ?_
      refine V_iret rfl dX8_about_66 (Nat.le_of_ble_eq_true rfl) (Nat.le_of_ble_eq_true rfl) ?_
      exact ok2i (by unfold oAbout; rw [if_pos hx, hbN, ← esw]; rfl)
    by_cases s3 : sw = 3
    · rw [s3] at esw ⊢
      refine V_tableIn (off := 50) (tgt := 67) dX8_about_17 (by decide) (by decide) (by decide) (by decide) ?_
      first | refine V_aload_n dX8_about_67 rfl rfl ?_ | refine V_aload_nN dX8_about_67 rfl rfl ?_
      refine G_geti (by first | exact z0.1.1.1.k _ rfl rfl | exact z0.1.1.kb hb) fX8_90 dX8_about_68 (by first | exact (z0.1.1.bone hb).1 | exact (z0.1.1.bone hb).2.2.1 | exact (z0.1.1.bone hb).2.2.2.1 | exact (z0.1.1.bone hb).2.2.2.2.1 | exact (z0.1.1.bone hb).2.2.2.2.2.2) ?_
      refine V_iret rfl dX8_about_71 (Nat.le_of_ble_eq_true rfl) (Nat.le_of_ble_eq_true rfl) ?_
      exact ok2i (by unfold oAbout; rw [if_pos hx, hbN, ← esw]; rfl)
    by_cases s4 : sw = 4
    · rw [s4] at esw ⊢
      refine V_tableIn (off := 55) (tgt := 72) dX8_about_17 (by decide) (by decide) (by decide) (by decide) ?_
      first | refine V_aload_n dX8_about_72 rfl rfl ?_ | refine V_aload_nN dX8_about_72 rfl rfl ?_
      refine G_geti (by first | exact z0.1.1.1.k _ rfl rfl | exact z0.1.1.kb hb) fX8_93 dX8_about_73 (by first | exact (z0.1.1.bone hb).1 | exact (z0.1.1.bone hb).2.2.1 | exact (z0.1.1.bone hb).2.2.2.1 | exact (z0.1.1.bone hb).2.2.2.2.1 | exact (z0.1.1.bone hb).2.2.2.2.2.2) ?_
      refine V_iret rfl dX8_about_76 (Nat.le_of_ble_eq_true rfl) (Nat.le_of_ble_eq_true rfl) ?_
      exact ok2i (by unfold oAbout; rw [if_pos hx, hbN, ← esw]; rfl)
    refine V_tableOut (tgt := 77) dX8_about_17 (by have g0 := i32_neN 0 (by decide) s0; have g1 := i32_neN 1 (by decide) s1; have g2 := i32_neN 2 (by decide) s2; have g3 := i32_neN 3 (by decide) s3; have g4 := i32_neN 4 (by decide) s4; omega) (by decide) ?_
    refine V_bipush (v := -2) dX8_about_77 (by decide) ?_
    refine V_iret rfl dX8_about_79 (Nat.le_of_ble_eq_true rfl) (Nat.le_of_ble_eq_true rfl) ?_
    exact ok2i (by unfold oAbout; rw [if_pos hx, if_neg (fun q => s0 (esw.trans q)), if_neg (fun q => s1 (esw.trans q)), if_neg (fun q => s2 (esw.trans q)), if_neg (fun q => s3 (esw.trans q)), if_neg (fun q => s4 (esw.trans q))])
  · first | refine V_aload_n dX8_about_0 rfl rfl ?_ | refine V_aload_nN dX8_about_0 rfl rfl ?_
    first | refine V_getr (by first | exact z0.1.1.1.k _ rfl rfl | exact z0.1.1.kb hb) fX8_12 dX8_about_1 (by exact z0.1.1.1.r _ _ rfl) ?_ | refine V_getrN (by first | exact z0.1.1.1.k _ rfl rfl | exact z0.1.1.kb hb) fX8_12 dX8_about_1 (by exact z0.1.1.1.r _ _ rfl) ?_
    refine V_iload_n dX8_about_4 rfl rfl ?_
    refine V_callV (As := [_]) (st := _) (c_X6_find_n (zK z) x w z0.1.1 hx) kX8_48 (by first | exact z0.1.1.1.k _ rfl rfl | exact z0.1.1.kb hb) ⟨rfl, rfl, rfl⟩ ⟨(Nat.le_of_ble_eq_true rfl), (Nat.le_of_ble_eq_true rfl)⟩ dX8_about_5 rfl rfl (Nat.le_of_ble_eq_true rfl) ⟨(Nat.le_of_ble_eq_true rfl), (Nat.le_of_ble_eq_true rfl)⟩ ?_
    first | refine S_astore_n (L' := [(2, _), (3, _)]) dX8_about_8 rfl rfl rfl ?_ | refine S_astore_nN (L' := [(2, _), (3, _)]) dX8_about_8 rfl rfl rfl ?_
    first | refine V_aload_n dX8_about_9 rfl rfl ?_ | refine V_aload_nN dX8_about_9 rfl rfl ?_
    refine V_ifnonnullN dX8_about_10 ?_
    refine V_bipush (v := -2) dX8_about_13 (by decide) ?_
    refine V_iret rfl dX8_about_15 (Nat.le_of_ble_eq_true rfl) (Nat.le_of_ble_eq_true rfl) ?_
    exact ok2i (by unfold oAbout; rw [if_neg hx])

set_option maxRecDepth 100000 in
theorem c_X8_turn (z : St) (x y : Int32) (w : Wd) (z0 : RX z w) : Cc yX8_turn mX8_turn [.ref 20, .int x, .int y] w (fun r w' => ∃ v, r = some v ∧ (v = .int (oTurn z x y).1 ∧ RX (oTurn z x y).2 w' ∧ Keep clA w w')) := by
  refine Cc.of (by decide) rfl rfl (Nat.le_of_ble_eq_true rfl) (fun X => ?_)
  change V _ X _ 0 [(0, _), (1, _), (2, _)] [] _ (0, 0)
  by_cases hx : isB z x
  · obtain ⟨b, hb, rfl⟩ := isB_n z0 hx
    have hbN : bN (nI b) = b := bN_nI (by have := z0.1.1.n10; omega)
    first | refine V_aload_n dX8_turn_0 rfl rfl ?_ | refine V_aload_nN dX8_turn_0 rfl rfl ?_
    first | refine V_getr (by first | exact z0.1.1.1.k _ rfl rfl | exact z0.1.1.kb hb) fX8_12 dX8_turn_1 (by exact z0.1.1.1.r _ _ rfl) ?_ | refine V_getrN (by first | exact z0.1.1.1.k _ rfl rfl | exact z0.1.1.kb hb) fX8_12 dX8_turn_1 (by exact z0.1.1.1.r _ _ rfl) ?_
    refine V_iload_n dX8_turn_4 rfl rfl ?_
    refine V_callV (As := [_]) (st := _) (c_X6_find_s (zK z) b w z0.1.1 hb) kX8_48 (by first | exact z0.1.1.1.k _ rfl rfl | exact z0.1.1.kb hb) ⟨rfl, rfl, rfl⟩ ⟨(Nat.le_of_ble_eq_true rfl), (Nat.le_of_ble_eq_true rfl)⟩ dX8_turn_5 rfl rfl (Nat.le_of_ble_eq_true rfl) ⟨(Nat.le_of_ble_eq_true rfl), (Nat.le_of_ble_eq_true rfl)⟩ ?_
    first | refine S_astore_n (L' := [(0, _), (2, _), (3, _)]) dX8_turn_8 rfl rfl rfl ?_ | refine S_astore_nN (L' := [(0, _), (2, _), (3, _)]) dX8_turn_8 rfl rfl rfl ?_
    first | refine V_aload_n dX8_turn_9 rfl rfl ?_ | refine V_aload_nN dX8_turn_9 rfl rfl ?_
    refine V_ifnull dX8_turn_10 ?_
    refine V_iload_n dX8_turn_13 rfl rfl ?_
    refine V_callS (As := [_]) (st := _) (c_X8_isTurn y w) kX8_58 ⟨rfl, rfl, rfl⟩ ⟨(Nat.le_of_ble_eq_true rfl), (Nat.le_of_ble_eq_true rfl)⟩ dX8_turn_14 rfl rfl (Nat.le_of_ble_eq_true rfl) ⟨(Nat.le_of_ble_eq_true rfl), (Nat.le_of_ble_eq_true rfl)⟩ ?_
    refine V_if_ne (tgt := 23) dX8_turn_17 (by decide) (fun c17 => ?_) (fun c17 => ?_)
    · have hy := b01_1 c17
      have hy36 : bN y < 36 := by unfold bN; omega
      have hyE : y = y := rfl
      refine V_sub (L' := [(0, .ref 20), (2, .int (nI (bN y))), (3, .ref (300 + b))]) (by rw [← i32_nat hy.1]; rfl) ?_
      first | refine V_aload_n dX8_turn_23 rfl rfl ?_ | refine V_aload_nN dX8_turn_23 rfl rfl ?_
      refine V_iload_n dX8_turn_24 rfl rfl ?_
      refine V_callV (As := [_]) (st := _) (c_X0_allows (bN y) (300 + b) _ _ w (z0.1.1.kb hb) (z0.1.1.bone hb).2.2.2.1 (z0.1.1.bone hb).2.2.2.2.1 (z0.1.1.wf hb).2.2.2.2.1 (z0.1.1.wf hb).2.2.2.2.2.1 hy36) kX8_96 (by first | exact z0.1.1.1.k _ rfl rfl | exact z0.1.1.kb hb) ⟨rfl, rfl, rfl⟩ ⟨(Nat.le_of_ble_eq_true rfl), (Nat.le_of_ble_eq_true rfl)⟩ dX8_turn_25 rfl rfl (Nat.le_of_ble_eq_true rfl) ⟨(Nat.le_of_ble_eq_true rfl), (Nat.le_of_ble_eq_true rfl)⟩ ?_
      refine V_if_ne (tgt := 34) dX8_turn_28 (by decide) (fun c28 => ?_) (fun c28 => ?_)
      · first | refine V_aload_n dX8_turn_34 rfl rfl ?_ | refine V_aload_nN dX8_turn_34 rfl rfl ?_
        refine G_geti (by first | exact z0.1.1.1.k _ rfl rfl | exact z0.1.1.kb hb) fX8_93 dX8_turn_35 (by exact (z0.1.1.bone hb).2.2.2.2.2.2) ?_
        refine S_istore (L' := [(0, _), (2, _), (3, _), (4, _)]) dX8_turn_38 rfl rfl ?_
        first | refine V_aload_n dX8_turn_40 rfl rfl ?_ | refine V_aload_nN dX8_turn_40 rfl rfl ?_
        refine V_iload_n dX8_turn_41 rfl rfl ?_
        refine V_puti (by first | exact z0.1.1.1.k _ rfl rfl | exact z0.1.1.kb hb) pfX8_93 (fun h => nomatch h) dX8_turn_42 ⟨rfl, rfl⟩ ?_
        have hs1 := z0.1.1.kU (b := b) hy36
        first | refine V_aload_n dX8_turn_45 rfl rfl ?_ | refine V_aload_nN dX8_turn_45 rfl rfl ?_
        first | refine V_getr (by first | exact z0.1.1.1.k _ rfl rfl | exact z0.1.1.kb hb) fX8_12 dX8_turn_46 (by exact z0.1.1.1.r _ _ rfl) ?_ | refine V_getrN (by first | exact z0.1.1.1.k _ rfl rfl | exact z0.1.1.kb hb) fX8_12 dX8_turn_46 (by exact z0.1.1.1.r _ _ rfl) ?_
        refine V_callVvr (As := []) (st := _) (c_X6_settle _ (oldX (zK z)) (oldY (zK z)) _ hs1 (SkP.old z0.1 rfl)) kX8_99 (by first | exact z0.1.1.1.k _ rfl rfl | exact z0.1.1.kb hb) ⟨rfl, rfl, rfl⟩ ⟨(Nat.le_of_ble_eq_true rfl), (Nat.le_of_ble_eq_true rfl)⟩ dX8_turn_49 rfl rfl (Nat.le_of_ble_eq_true rfl) ⟨(Nat.le_of_ble_eq_true rfl), (Nat.le_of_ble_eq_true rfl)⟩ (fun w1 hw1 => ?_)
        obtain ⟨a1, a2, a3⟩ := hw1
        refine V_iload dX8_turn_52 rfl ?_
        refine V_iret rfl dX8_turn_54 (Nat.le_of_ble_eq_true rfl) (Nat.le_of_ble_eq_true rfl) ?_
        have e : oTurn z (nI b) y = (nI (kTrn (zK z) b), pK z (setP (zK z) (va_up (kTrn (zK z)) b (bN y)))) := by
          unfold oTurn
          rw [if_pos ⟨hx, hy⟩, hbN, if_pos (b01_1 c28)]
        have e2 : RX (pK z (setP (zK z) (va_up (kTrn (zK z)) b (bN y)))) w1 := z0.setK ((Keep.sI w (by have := z0.1.1.n10; unfold skA; omega) 7 _).trans a1) a3 (stl_n _ _ _)
        exact ⟨_, rfl, by rw [e], by rw [e]; exact e2, ((Keep.sI w (by have := z0.1.1.n10; unfold clA; omega) 7 _).trans (a1.mono (fun a => by unfold skA clA; omega)))⟩
      · refine V_bipush (v := -3) dX8_turn_31 (by decide) ?_
        refine V_iret rfl dX8_turn_33 (Nat.le_of_ble_eq_true rfl) (Nat.le_of_ble_eq_true rfl) ?_
        have e : oTurn z (nI b) y = (-3, z) := by
          unfold oTurn
          rw [if_pos ⟨hx, hy⟩, hbN, if_neg (b01_0 c28)]
        exact ⟨_, rfl, by rw [e], by rw [e]; exact z0, Keep.refl _ _⟩
    · refine V_bipush (v := -2) dX8_turn_20 (by decide) ?_
      refine V_iret rfl dX8_turn_22 (Nat.le_of_ble_eq_true rfl) (Nat.le_of_ble_eq_true rfl) ?_
      exact ⟨_, rfl, by unfold oTurn; rw [if_neg (fun q => b01_0 c17 q.2)], by unfold oTurn; rw [if_neg (fun q => b01_0 c17 q.2)]; exact z0, Keep.refl _ _⟩
  · first | refine V_aload_n dX8_turn_0 rfl rfl ?_ | refine V_aload_nN dX8_turn_0 rfl rfl ?_
    first | refine V_getr (by first | exact z0.1.1.1.k _ rfl rfl | exact z0.1.1.kb hb) fX8_12 dX8_turn_1 (by exact z0.1.1.1.r _ _ rfl) ?_ | refine V_getrN (by first | exact z0.1.1.1.k _ rfl rfl | exact z0.1.1.kb hb) fX8_12 dX8_turn_1 (by exact z0.1.1.1.r _ _ rfl) ?_
    refine V_iload_n dX8_turn_4 rfl rfl ?_
    refine V_callV (As := [_]) (st := _) (c_X6_find_n (zK z) x w z0.1.1 hx) kX8_48 (by first | exact z0.1.1.1.k _ rfl rfl | exact z0.1.1.kb hb) ⟨rfl, rfl, rfl⟩ ⟨(Nat.le_of_ble_eq_true rfl), (Nat.le_of_ble_eq_true rfl)⟩ dX8_turn_5 rfl rfl (Nat.le_of_ble_eq_true rfl) ⟨(Nat.le_of_ble_eq_true rfl), (Nat.le_of_ble_eq_true rfl)⟩ ?_
    first | refine S_astore_n (L' := [(0, _), (2, _), (3, _)]) dX8_turn_8 rfl rfl rfl ?_ | refine S_astore_nN (L' := [(0, _), (2, _), (3, _)]) dX8_turn_8 rfl rfl rfl ?_
    first | refine V_aload_n dX8_turn_9 rfl rfl ?_ | refine V_aload_nN dX8_turn_9 rfl rfl ?_
    refine V_ifnullN (tgt := 20) dX8_turn_10 (by decide) ?_
    refine V_bipush (v := -2) dX8_turn_20 (by decide) ?_
    refine V_iret rfl dX8_turn_22 (Nat.le_of_ble_eq_true rfl) (Nat.le_of_ble_eq_true rfl) ?_
    exact ⟨_, rfl, by unfold oTurn; rw [if_neg (fun q => hx q.1)], by unfold oTurn; rw [if_neg (fun q => hx q.1)]; exact z0, Keep.refl _ _⟩

set_option maxRecDepth 100000 in
theorem c_X8_root (z : St) (x y : Int64) (w : Wd) (z0 : RX z w) : Cc yX8_root mX8_root [.ref 20, .long x, .long y] w (fun r w' => ∃ v, r = some v ∧ (v = .int (oRoot z x y).1 ∧ RX (oRoot z x y).2 w' ∧ Keep clA w w')) := by
  refine Cc.of (by decide) rfl rfl (Nat.le_of_ble_eq_true rfl) (fun X => ?_)
  change V _ X _ 0 [(0, _), (1, _), (3, _)] [] _ (0, 0)
  refine V_lload_n dX8_root_0 rfl rfl ?_
  refine V_lload_n dX8_root_1 rfl rfl ?_
  refine V_callS (As := [_, _]) (st := _) (c_X8_isPlace _ _ _) kX8_102 ⟨rfl, rfl, rfl⟩ ⟨(Nat.le_of_ble_eq_true rfl), (Nat.le_of_ble_eq_true rfl)⟩ dX8_root_2 rfl rfl (Nat.le_of_ble_eq_true rfl) ⟨(Nat.le_of_ble_eq_true rfl), (Nat.le_of_ble_eq_true rfl)⟩ ?_
  refine V_if_ne (tgt := 11) dX8_root_5 (by decide) (fun c5 => ?_) (fun c5 => ?_)
  · first | refine V_aload_n dX8_root_11 rfl rfl ?_ | refine V_aload_nN dX8_root_11 rfl rfl ?_
    first | refine V_getr (by first | exact z0.1.1.1.k _ rfl rfl | exact z0.1.1.kb hb) fX8_12 dX8_root_12 (by exact z0.1.1.1.r _ _ rfl) ?_ | refine V_getrN (by first | exact z0.1.1.1.k _ rfl rfl | exact z0.1.1.kb hb) fX8_12 dX8_root_12 (by exact z0.1.1.1.r _ _ rfl) ?_
    refine G_geti (by first | exact z0.1.1.1.k _ rfl rfl | exact z0.1.1.kb hb) fX8_106 dX8_root_15 (by exact z0.1.1.lck) ?_
    refine V_iconst (v := -1) dX8_root_18 (by decide) ?_
    refine V_icmp_eq (tgt := 25) dX8_root_19 (by decide) (fun c19 => ?_) (fun c19 => ?_)
    · first | refine V_aload_n dX8_root_25 rfl rfl ?_ | refine V_aload_nN dX8_root_25 rfl rfl ?_
      first | refine V_getr (by first | exact z0.1.1.1.k _ rfl rfl | exact z0.1.1.kb hb) fX8_12 dX8_root_26 (by exact z0.1.1.1.r _ _ rfl) ?_ | refine V_getrN (by first | exact z0.1.1.1.k _ rfl rfl | exact z0.1.1.kb hb) fX8_12 dX8_root_26 (by exact z0.1.1.1.r _ _ rfl) ?_
      refine V_lload_n dX8_root_29 rfl rfl ?_
      refine V_lload_n dX8_root_30 rfl rfl ?_
      refine V_callVvr (As := [_, _]) (st := _) (c_X6_moveRoot (zK z) x y w z0.1.1) kX8_109 (by first | exact z0.1.1.1.k _ rfl rfl | exact z0.1.1.kb hb) ⟨rfl, rfl, rfl⟩ ⟨(Nat.le_of_ble_eq_true rfl), (Nat.le_of_ble_eq_true rfl)⟩ dX8_root_31 rfl rfl (Nat.le_of_ble_eq_true rfl) ⟨(Nat.le_of_ble_eq_true rfl), (Nat.le_of_ble_eq_true rfl)⟩ (fun w1 hw1 => ?_)
      obtain ⟨a1, a2, a3⟩ := hw1
      refine V_iconst (v := 1) dX8_root_34 (by decide) ?_
      refine V_iret rfl dX8_root_35 (Nat.le_of_ble_eq_true rfl) (Nat.le_of_ble_eq_true rfl) ?_
      exact ⟨_, rfl, by unfold oRoot; rw [if_pos (b01_1 c5), if_pos (lck_n c19 (fun n e => Nat.lt_of_lt_of_le (z0.1.1.2.2.1.2.2 n e) z0.1.1.n10))], by unfold oRoot; rw [if_pos (b01_1 c5), if_pos (lck_n c19 (fun n e => Nat.lt_of_lt_of_le (z0.1.1.2.2.1.2.2 n e) z0.1.1.n10))]; exact z0.setK a1 a3 rfl, a1.mono (fun a => by unfold skA clA; omega)⟩
    · refine V_bipush (v := -3) dX8_root_22 (by decide) ?_
      refine V_iret rfl dX8_root_24 (Nat.le_of_ble_eq_true rfl) (Nat.le_of_ble_eq_true rfl) ?_
      have hl : ¬ kLck (zK z) = none := fun q => c19 (by rw [q]; rfl)
      exact ⟨_, rfl, by unfold oRoot; rw [if_pos (b01_1 c5), if_neg hl], by unfold oRoot; rw [if_pos (b01_1 c5), if_neg hl]; exact z0, Keep.refl _ _⟩
  · refine V_bipush (v := -2) dX8_root_8 (by decide) ?_
    refine V_iret rfl dX8_root_10 (Nat.le_of_ble_eq_true rfl) (Nat.le_of_ble_eq_true rfl) ?_
    exact ⟨_, rfl, by unfold oRoot; rw [if_neg (b01_0 c5)], by unfold oRoot; rw [if_neg (b01_0 c5)]; exact z0, Keep.refl _ _⟩

set_option maxRecDepth 100000 in
theorem c_X8_far (z : St) (x : Int32) (p q : Int64) (w : Wd) (z0 : RX z w) : Cc yX8_far mX8_far [.ref 20, .int x, .long p, .long q] w (fun r w' => r = some (.long (oFar z x p q)) ∧ w' = w) := by
  refine Cc.of (by decide) rfl rfl (Nat.le_of_ble_eq_true rfl) (fun X => ?_)
  change V _ X _ 0 [(0, _), (1, _), (2, _), (4, _)] [] _ (0, 0)
  by_cases hx : isB z x
  · obtain ⟨b, hb, rfl⟩ := isB_n z0 hx
    have hbN : bN (nI b) = b := bN_nI (by have := z0.1.1.n10; omega)
    first | refine V_aload_n dX8_far_0 rfl rfl ?_ | refine V_aload_nN dX8_far_0 rfl rfl ?_
    first | refine V_getr (by first | exact z0.1.1.1.k _ rfl rfl | exact z0.1.1.kb hb) fX8_12 dX8_far_1 (by exact z0.1.1.1.r _ _ rfl) ?_ | refine V_getrN (by first | exact z0.1.1.1.k _ rfl rfl | exact z0.1.1.kb hb) fX8_12 dX8_far_1 (by exact z0.1.1.1.r _ _ rfl) ?_
    refine V_iload_n dX8_far_4 rfl rfl ?_
    refine V_callV (As := [_]) (st := _) (c_X6_find_s (zK z) b w z0.1.1 hb) kX8_48 (by first | exact z0.1.1.1.k _ rfl rfl | exact z0.1.1.kb hb) ⟨rfl, rfl, rfl⟩ ⟨(Nat.le_of_ble_eq_true rfl), (Nat.le_of_ble_eq_true rfl)⟩ dX8_far_5 rfl rfl (Nat.le_of_ble_eq_true rfl) ⟨(Nat.le_of_ble_eq_true rfl), (Nat.le_of_ble_eq_true rfl)⟩ ?_
    first | refine S_astore (L' := [(2, _), (4, _), (6, _)]) dX8_far_8 rfl rfl ?_ | refine S_astoreN (L' := [(2, _), (4, _), (6, _)]) dX8_far_8 rfl rfl ?_
    first | refine V_aload dX8_far_10 rfl ?_ | refine V_aloadN dX8_far_10 rfl ?_
    refine V_ifnull dX8_far_12 ?_
    refine V_lload_n dX8_far_15 rfl rfl ?_
    refine V_lload dX8_far_16 rfl ?_
    refine V_callS (As := [_, _]) (st := _) (c_X8_isPlace _ _ _) kX8_102 ⟨rfl, rfl, rfl⟩ ⟨(Nat.le_of_ble_eq_true rfl), (Nat.le_of_ble_eq_true rfl)⟩ dX8_far_18 rfl rfl (Nat.le_of_ble_eq_true rfl) ⟨(Nat.le_of_ble_eq_true rfl), (Nat.le_of_ble_eq_true rfl)⟩ ?_
    refine V_if_ne (tgt := 30) dX8_far_21 (by decide) (fun c21 => ?_) (fun c21 => ?_)
    · first | refine V_aload dX8_far_30 rfl ?_ | refine V_aloadN dX8_far_30 rfl ?_
      refine V_lload_n dX8_far_32 rfl rfl ?_
      refine V_lload dX8_far_33 rfl ?_
      refine V_callV (As := [_, _]) (st := _) (z0.1.far hb p q) kX8_130 (by first | exact z0.1.1.1.k _ rfl rfl | exact z0.1.1.kb hb) ⟨rfl, rfl, rfl⟩ ⟨(Nat.le_of_ble_eq_true rfl), (Nat.le_of_ble_eq_true rfl)⟩ dX8_far_35 rfl rfl (Nat.le_of_ble_eq_true rfl) ⟨(Nat.le_of_ble_eq_true rfl), (Nat.le_of_ble_eq_true rfl)⟩ ?_
      refine V_lret rfl dX8_far_38 (Nat.le_of_ble_eq_true rfl) (Nat.le_of_ble_eq_true rfl) ?_
      exact ok2l (by unfold oFar; rw [if_pos ⟨hx, b01_1 c21⟩, hbN])
    · refine V_bipush (v := -2) dX8_far_24 (by decide) ?_
      refine V_callS (As := [_]) (st := _) (c_X8_asLong _ _) kX8_113 ⟨rfl, rfl, rfl⟩ ⟨(Nat.le_of_ble_eq_true rfl), (Nat.le_of_ble_eq_true rfl)⟩ dX8_far_26 rfl rfl (Nat.le_of_ble_eq_true rfl) ⟨(Nat.le_of_ble_eq_true rfl), (Nat.le_of_ble_eq_true rfl)⟩ ?_
      refine V_lret rfl dX8_far_29 (Nat.le_of_ble_eq_true rfl) (Nat.le_of_ble_eq_true rfl) ?_
      exact ok2l (by unfold oFar; rw [if_neg (fun q => b01_0 c21 q.2)]; rfl)
  · first | refine V_aload_n dX8_far_0 rfl rfl ?_ | refine V_aload_nN dX8_far_0 rfl rfl ?_
    first | refine V_getr (by first | exact z0.1.1.1.k _ rfl rfl | exact z0.1.1.kb hb) fX8_12 dX8_far_1 (by exact z0.1.1.1.r _ _ rfl) ?_ | refine V_getrN (by first | exact z0.1.1.1.k _ rfl rfl | exact z0.1.1.kb hb) fX8_12 dX8_far_1 (by exact z0.1.1.1.r _ _ rfl) ?_
    refine V_iload_n dX8_far_4 rfl rfl ?_
    refine V_callV (As := [_]) (st := _) (c_X6_find_n (zK z) x w z0.1.1 hx) kX8_48 (by first | exact z0.1.1.1.k _ rfl rfl | exact z0.1.1.kb hb) ⟨rfl, rfl, rfl⟩ ⟨(Nat.le_of_ble_eq_true rfl), (Nat.le_of_ble_eq_true rfl)⟩ dX8_far_5 rfl rfl (Nat.le_of_ble_eq_true rfl) ⟨(Nat.le_of_ble_eq_true rfl), (Nat.le_of_ble_eq_true rfl)⟩ ?_
    first | refine S_astore (L' := [(2, _), (4, _), (6, _)]) dX8_far_8 rfl rfl ?_ | refine S_astoreN (L' := [(2, _), (4, _), (6, _)]) dX8_far_8 rfl rfl ?_
    first | refine V_aload dX8_far_10 rfl ?_ | refine V_aloadN dX8_far_10 rfl ?_
    refine V_ifnullN (tgt := 24) dX8_far_12 (by decide) ?_
    refine V_bipush (v := -2) dX8_far_24 (by decide) ?_
    refine V_callS (As := [_]) (st := _) (c_X8_asLong _ _) kX8_113 ⟨rfl, rfl, rfl⟩ ⟨(Nat.le_of_ble_eq_true rfl), (Nat.le_of_ble_eq_true rfl)⟩ dX8_far_26 rfl rfl (Nat.le_of_ble_eq_true rfl) ⟨(Nat.le_of_ble_eq_true rfl), (Nat.le_of_ble_eq_true rfl)⟩ ?_
    refine V_lret rfl dX8_far_29 (Nat.le_of_ble_eq_true rfl) (Nat.le_of_ble_eq_true rfl) ?_
    exact ok2l (by unfold oFar; rw [if_neg (fun q => hx q.1)]; rfl)
