/-! BoneSteps: two, rounds, end, lock -/
theorem posN_congr {k k' : Sk} (h1 : kPar k' = kPar k) (h2 : kLen k' = kLen k) (h3 : kTrn k' = kTrn k) (h4 : kRx k' = kRx k) (h5 : kRy k' = kRy k) : ∀ n, posN k' n = posN k n
  | 0 => rfl
  | n + 1 => by
    rw [posN, posN, posN_congr h1 h2 h3 h4 h5 n]
    unfold pStep pStart
    rw [h1, h2, h3, h4, h5]
theorem pos_lk (k : Sk) (o : Option Nat) : pos (kLk k o) = pos k := funext fun b => congrFun (posN_congr (k := k) (k' := kLk k o) rfl rfl rfl rfl rfl (b + 1)) b
theorem SkP.lock {k : Sk} {w : Wd} (h : SkP k w) {o : Option Nat} (ho : ∀ b, o = some b → b < kN k) : SkP (kLk k o) (sI w 21 2 (oI o)) := by
  have hb := h.1.n10
  refine ⟨⟨h.1.1, h.1.2.1, ⟨h.1.2.2.1.1, h.1.2.2.1.2.1, ho⟩, (rdI_ne (by decide)).trans h.1.2.2.2.1, rdI_eq, h.1.2.2.2.2.2.1, h.1.2.2.2.2.2.2.1, fun b hb2 => ?_⟩, fun b hb2 => ?_⟩
  · rw [show wI (sI w 21 2 (oI o)) (300 + b) = wI w (300 + b) from sI_ne w _ (by omega)]
    exact h.1.2.2.2.2.2.2.2 b hb2
  · rw [pos_lk]
    exact h.2 b hb2
def oLock (z : St) (x : Int32) : Int32 × St := if x = -1 then (oI (kLck (zK z)), pK z (kLk (zK z) none)) else if isB z x then (oI (kLck (zK z)), pK z (kLk (zK z) (some (bN x)))) else (-2, z)
def oEnd (z : St) (x y : Int32) : Int64 := if (isB z x ∨ x = -1) ∧ (0 ≤ y.toInt ∧ y.toInt ≤ 1) then (if isB z x then (if y = 0 then (pos (zK z) (bN x)).2.2.1 else (pos (zK z) (bN x)).2.2.2) else (if y = 0 then kRx (zK z) else kRy (zK z))) else noL (-2)

set_option maxRecDepth 100000 in
theorem c_X8_two (z : St) (x : Int32) (p q : Int64) (w : Wd) (z0 : RX z w) : Cc yX8_two mX8_two [.ref 20, .int x, .long p, .long q] w (fun r w' => ∃ v, r = some v ∧ (v = .long (oTwo z x p q).1 ∧ RX (oTwo z x p q).2 w' ∧ Keep clA w w')) := by
  refine Cc.of (by decide) rfl rfl (Nat.le_of_ble_eq_true rfl) (fun X => ?_)
  change V _ X _ 0 [(0, _), (1, _), (2, _), (4, _)] [] _ (0, 0)
  by_cases hx : isB z x
  · obtain ⟨b, hb, rfl⟩ := isB_n z0 hx
    have hbN : bN (nI b) = b := bN_nI (by have := z0.1.1.n10; omega)
    first | refine V_aload_n dX8_two_0 rfl rfl ?_ | refine V_aload_nN dX8_two_0 rfl rfl ?_
    first | refine V_getr (by first | exact z0.1.1.1.k _ rfl rfl | exact z0.1.1.kb hb) fX8_12 dX8_two_1 (by exact z0.1.1.1.r _ _ rfl) ?_ | refine V_getrN (by first | exact z0.1.1.1.k _ rfl rfl | exact z0.1.1.kb hb) fX8_12 dX8_two_1 (by exact z0.1.1.1.r _ _ rfl) ?_
    refine V_iload_n dX8_two_4 rfl rfl ?_
    refine V_callV (As := [_]) (st := _) (c_X6_find_s (zK z) b w z0.1.1 hb) kX8_48 (by first | exact z0.1.1.1.k _ rfl rfl | exact z0.1.1.kb hb) ⟨rfl, rfl, rfl⟩ ⟨(Nat.le_of_ble_eq_true rfl), (Nat.le_of_ble_eq_true rfl)⟩ dX8_two_5 rfl rfl (Nat.le_of_ble_eq_true rfl) ⟨(Nat.le_of_ble_eq_true rfl), (Nat.le_of_ble_eq_true rfl)⟩ ?_
    first | refine S_astore (L' := [(0, _), (2, _), (4, _), (6, _)]) dX8_two_8 rfl rfl ?_ | refine S_astoreN (L' := [(0, _), (2, _), (4, _), (6, _)]) dX8_two_8 rfl rfl ?_
    first | refine V_aload dX8_two_10 rfl ?_ | refine V_aloadN dX8_two_10 rfl ?_
    refine V_ifnull dX8_two_12 ?_
    refine V_lload_n dX8_two_15 rfl rfl ?_
    refine V_lload dX8_two_16 rfl ?_
    refine V_callS (As := [_, _]) (st := _) (c_X8_isPlace _ _ _) kX8_102 ⟨rfl, rfl, rfl⟩ ⟨(Nat.le_of_ble_eq_true rfl), (Nat.le_of_ble_eq_true rfl)⟩ dX8_two_18 rfl rfl (Nat.le_of_ble_eq_true rfl) ⟨(Nat.le_of_ble_eq_true rfl), (Nat.le_of_ble_eq_true rfl)⟩ ?_
    refine V_if_ne (tgt := 30) dX8_two_21 (by decide) (fun c21 => ?_) (fun c21 => ?_)
    · first | refine V_aload_n dX8_two_30 rfl rfl ?_ | refine V_aload_nN dX8_two_30 rfl rfl ?_
      first | refine V_getr (by first | exact z0.1.1.1.k _ rfl rfl | exact z0.1.1.kb hb) fX8_12 dX8_two_31 (by exact z0.1.1.1.r _ _ rfl) ?_ | refine V_getrN (by first | exact z0.1.1.1.k _ rfl rfl | exact z0.1.1.kb hb) fX8_12 dX8_two_31 (by exact z0.1.1.1.r _ _ rfl) ?_
      refine G_geti (by first | exact z0.1.1.1.k _ rfl rfl | exact z0.1.1.kb hb) fX8_106 dX8_two_34 (by exact z0.1.1.lck) ?_
      refine V_iconst (v := -1) dX8_two_37 (by decide) ?_
      refine V_icmp_eq (tgt := 47) dX8_two_38 (by decide) (fun c38 => ?_) (fun c38 => ?_)
      · first | refine V_aload_n dX8_two_47 rfl rfl ?_ | refine V_aload_nN dX8_two_47 rfl rfl ?_
        first | refine V_getr (by first | exact z0.1.1.1.k _ rfl rfl | exact z0.1.1.kb hb) fX8_12 dX8_two_48 (by exact z0.1.1.1.r _ _ rfl) ?_ | refine V_getrN (by first | exact z0.1.1.1.k _ rfl rfl | exact z0.1.1.kb hb) fX8_12 dX8_two_48 (by exact z0.1.1.1.r _ _ rfl) ?_
        first | refine V_aload dX8_two_51 rfl ?_ | refine V_aloadN dX8_two_51 rfl ?_
        refine V_lload_n dX8_two_53 rfl rfl ?_
        refine V_lload dX8_two_54 rfl ?_
        refine V_callVvr (As := [_, _, _]) (st := _) (c_X6_reachByTwo (zK z) b p q w z0.1 hb) kX8_134 (by first | exact z0.1.1.1.k _ rfl rfl | exact z0.1.1.kb hb) ⟨rfl, rfl, rfl⟩ ⟨(Nat.le_of_ble_eq_true rfl), (Nat.le_of_ble_eq_true rfl)⟩ dX8_two_56 rfl rfl (Nat.le_of_ble_eq_true rfl) ⟨(Nat.le_of_ble_eq_true rfl), (Nat.le_of_ble_eq_true rfl)⟩ (fun w1 hw1 => ?_)
        obtain ⟨a1, h2⟩ := hw1
        have hs := twoK_same (zK z) b p q
        first | refine V_aload dX8_two_59 rfl ?_ | refine V_aloadN dX8_two_59 rfl ?_
        refine V_lload_n dX8_two_61 rfl rfl ?_
        refine V_lload dX8_two_62 rfl ?_
        refine V_callV (As := [_, _]) (st := _) (h2.far (by rw [hs.1]; exact hb) p q) kX8_130 (by exact h2.1.kb (by rw [hs.1]; exact hb)) ⟨rfl, rfl, rfl⟩ ⟨(Nat.le_of_ble_eq_true rfl), (Nat.le_of_ble_eq_true rfl)⟩ dX8_two_64 rfl rfl (Nat.le_of_ble_eq_true rfl) ⟨(Nat.le_of_ble_eq_true rfl), (Nat.le_of_ble_eq_true rfl)⟩ ?_
        refine V_lret rfl dX8_two_67 (Nat.le_of_ble_eq_true rfl) (Nat.le_of_ble_eq_true rfl) ?_
        exact ⟨_, rfl, by unfold oTwo; rw [if_pos ⟨hx, b01_1 c21⟩, if_pos (lck_n c38 (fun n e => Nat.lt_of_lt_of_le (z0.1.1.2.2.1.2.2 n e) z0.1.1.n10)), hbN], by unfold oTwo; rw [if_pos ⟨hx, b01_1 c21⟩, if_pos (lck_n c38 (fun n e => Nat.lt_of_lt_of_le (z0.1.1.2.2.1.2.2 n e) z0.1.1.n10)), hbN]; exact z0.setK (a1.mono (fun _ y => Or.inr y)) h2 hs.1, a1.mono (fun a => by unfold boA clA; omega)⟩
      · refine V_bipush (v := -3) dX8_two_41 (by decide) ?_
        refine V_callS (As := [_]) (st := _) (c_X8_asLong _ _) kX8_113 ⟨rfl, rfl, rfl⟩ ⟨(Nat.le_of_ble_eq_true rfl), (Nat.le_of_ble_eq_true rfl)⟩ dX8_two_43 rfl rfl (Nat.le_of_ble_eq_true rfl) ⟨(Nat.le_of_ble_eq_true rfl), (Nat.le_of_ble_eq_true rfl)⟩ ?_
        refine V_lret rfl dX8_two_46 (Nat.le_of_ble_eq_true rfl) (Nat.le_of_ble_eq_true rfl) ?_
        have hl : ¬ kLck (zK z) = none := fun y => c38 (by rw [y]; rfl)
        exact ⟨_, rfl, by unfold oTwo; rw [if_pos ⟨hx, b01_1 c21⟩, if_neg hl]; rfl, by unfold oTwo; rw [if_pos ⟨hx, b01_1 c21⟩, if_neg hl]; exact z0, Keep.refl _ _⟩
    · refine V_bipush (v := -2) dX8_two_24 (by decide) ?_
      refine V_callS (As := [_]) (st := _) (c_X8_asLong _ _) kX8_113 ⟨rfl, rfl, rfl⟩ ⟨(Nat.le_of_ble_eq_true rfl), (Nat.le_of_ble_eq_true rfl)⟩ dX8_two_26 rfl rfl (Nat.le_of_ble_eq_true rfl) ⟨(Nat.le_of_ble_eq_true rfl), (Nat.le_of_ble_eq_true rfl)⟩ ?_
      refine V_lret rfl dX8_two_29 (Nat.le_of_ble_eq_true rfl) (Nat.le_of_ble_eq_true rfl) ?_
      exact ⟨_, rfl, by unfold oTwo; rw [if_neg (fun y => b01_0 c21 y.2)]; rfl, by unfold oTwo; rw [if_neg (fun y => b01_0 c21 y.2)]; exact z0, Keep.refl _ _⟩
  · first | refine V_aload_n dX8_two_0 rfl rfl ?_ | refine V_aload_nN dX8_two_0 rfl rfl ?_
    first | refine V_getr (by first | exact z0.1.1.1.k _ rfl rfl | exact z0.1.1.kb hb) fX8_12 dX8_two_1 (by exact z0.1.1.1.r _ _ rfl) ?_ | refine V_getrN (by first | exact z0.1.1.1.k _ rfl rfl | exact z0.1.1.kb hb) fX8_12 dX8_two_1 (by exact z0.1.1.1.r _ _ rfl) ?_
    refine V_iload_n dX8_two_4 rfl rfl ?_
    refine V_callV (As := [_]) (st := _) (c_X6_find_n (zK z) x w z0.1.1 hx) kX8_48 (by first | exact z0.1.1.1.k _ rfl rfl | exact z0.1.1.kb hb) ⟨rfl, rfl, rfl⟩ ⟨(Nat.le_of_ble_eq_true rfl), (Nat.le_of_ble_eq_true rfl)⟩ dX8_two_5 rfl rfl (Nat.le_of_ble_eq_true rfl) ⟨(Nat.le_of_ble_eq_true rfl), (Nat.le_of_ble_eq_true rfl)⟩ ?_
    first | refine S_astore (L' := [(0, _), (2, _), (4, _), (6, _)]) dX8_two_8 rfl rfl ?_ | refine S_astoreN (L' := [(0, _), (2, _), (4, _), (6, _)]) dX8_two_8 rfl rfl ?_
    first | refine V_aload dX8_two_10 rfl ?_ | refine V_aloadN dX8_two_10 rfl ?_
    refine V_ifnullN (tgt := 24) dX8_two_12 (by decide) ?_
    refine V_bipush (v := -2) dX8_two_24 (by decide) ?_
    refine V_callS (As := [_]) (st := _) (c_X8_asLong _ _) kX8_113 ⟨rfl, rfl, rfl⟩ ⟨(Nat.le_of_ble_eq_true rfl), (Nat.le_of_ble_eq_true rfl)⟩ dX8_two_26 rfl rfl (Nat.le_of_ble_eq_true rfl) ⟨(Nat.le_of_ble_eq_true rfl), (Nat.le_of_ble_eq_true rfl)⟩ ?_
    refine V_lret rfl dX8_two_29 (Nat.le_of_ble_eq_true rfl) (Nat.le_of_ble_eq_true rfl) ?_
    exact ⟨_, rfl, by unfold oTwo; rw [if_neg (fun q => hx q.1)]; rfl, by unfold oTwo; rw [if_neg (fun q => hx q.1)]; exact z0, Keep.refl _ _⟩

set_option maxRecDepth 100000 in
theorem c_X8_rounds (z : St) (x : Int32) (p q : Int64) (n : Int32) (w : Wd) (z0 : RX z w) : Cc yX8_rounds mX8_rounds [.ref 20, .int x, .long p, .long q, .int n] w (fun r w' => ∃ v, r = some v ∧ (v = .long (oRounds z x p q n).1 ∧ RX (oRounds z x p q n).2 w' ∧ Keep clA w w')) := by
  refine Cc.of (by decide) rfl rfl (Nat.le_of_ble_eq_true rfl) (fun X => ?_)
  change V _ X _ 0 [(0, _), (1, _), (2, _), (4, _), (6, _)] [] _ (0, 0)
  by_cases hx : isB z x
  · obtain ⟨b, hb, rfl⟩ := isB_n z0 hx
    have hbN : bN (nI b) = b := bN_nI (by have := z0.1.1.n10; omega)
    first | refine V_aload_n dX8_rounds_0 rfl rfl ?_ | refine V_aload_nN dX8_rounds_0 rfl rfl ?_
    first | refine V_getr (by first | exact z0.1.1.1.k _ rfl rfl | exact z0.1.1.kb hb) fX8_12 dX8_rounds_1 (by exact z0.1.1.1.r _ _ rfl) ?_ | refine V_getrN (by first | exact z0.1.1.1.k _ rfl rfl | exact z0.1.1.kb hb) fX8_12 dX8_rounds_1 (by exact z0.1.1.1.r _ _ rfl) ?_
    refine V_iload_n dX8_rounds_4 rfl rfl ?_
    refine V_callV (As := [_]) (st := _) (c_X6_find_s (zK z) b w z0.1.1 hb) kX8_48 (by first | exact z0.1.1.1.k _ rfl rfl | exact z0.1.1.kb hb) ⟨rfl, rfl, rfl⟩ ⟨(Nat.le_of_ble_eq_true rfl), (Nat.le_of_ble_eq_true rfl)⟩ dX8_rounds_5 rfl rfl (Nat.le_of_ble_eq_true rfl) ⟨(Nat.le_of_ble_eq_true rfl), (Nat.le_of_ble_eq_true rfl)⟩ ?_
    first | refine S_astore (L' := [(0, _), (2, _), (4, _), (6, _), (7, _)]) dX8_rounds_8 rfl rfl ?_ | refine S_astoreN (L' := [(0, _), (2, _), (4, _), (6, _), (7, _)]) dX8_rounds_8 rfl rfl ?_
    first | refine V_aload dX8_rounds_10 rfl ?_ | refine V_aloadN dX8_rounds_10 rfl ?_
    refine V_ifnull dX8_rounds_12 ?_
    refine V_lload_n dX8_rounds_15 rfl rfl ?_
    refine V_lload dX8_rounds_16 rfl ?_
    refine V_callS (As := [_, _]) (st := _) (c_X8_isPlace _ _ _) kX8_102 ⟨rfl, rfl, rfl⟩ ⟨(Nat.le_of_ble_eq_true rfl), (Nat.le_of_ble_eq_true rfl)⟩ dX8_rounds_18 rfl rfl (Nat.le_of_ble_eq_true rfl) ⟨(Nat.le_of_ble_eq_true rfl), (Nat.le_of_ble_eq_true rfl)⟩ ?_
    refine V_if_eq (tgt := 37) dX8_rounds_21 (by decide) (fun c21 => ?_) (fun c21 => ?_)
    · refine V_bipush (v := -2) dX8_rounds_37 (by decide) ?_
      refine V_callS (As := [_]) (st := _) (c_X8_asLong _ _) kX8_113 ⟨rfl, rfl, rfl⟩ ⟨(Nat.le_of_ble_eq_true rfl), (Nat.le_of_ble_eq_true rfl)⟩ dX8_rounds_39 rfl rfl (Nat.le_of_ble_eq_true rfl) ⟨(Nat.le_of_ble_eq_true rfl), (Nat.le_of_ble_eq_true rfl)⟩ ?_
      refine V_lret rfl dX8_rounds_42 (Nat.le_of_ble_eq_true rfl) (Nat.le_of_ble_eq_true rfl) ?_
      have hno : ¬ (isB z (nI b) ∧ (plc p ∧ plc q) ∧ (1 ≤ n.toInt ∧ n.toInt ≤ 20)) := fun y => by
        first | exact b01_0 c34 (by unfold inL; rw [Int32.toInt_toInt64, show (1 : Int64).toInt = 1 from rfl, show (20 : Int64).toInt = 20 from rfl]; exact y.2.2) | exact b01_0 c21 y.2.1
      exact ⟨_, rfl, by unfold oRounds; rw [if_neg hno]; rfl, by unfold oRounds; rw [if_neg hno]; exact z0, Keep.refl _ _⟩
    · refine V_iload dX8_rounds_24 rfl ?_
      refine V_i2l dX8_rounds_26 ?_
      refine V_lconst (v := 1) dX8_rounds_27 (by decide) ?_
      refine V_ldc2 ctX8_138 dX8_rounds_28 ?_
      refine V_callS (As := [_, _, _]) (st := _) (c_X8_isIn _ _ _ _) kX8_54 ⟨rfl, rfl, rfl⟩ ⟨(Nat.le_of_ble_eq_true rfl), (Nat.le_of_ble_eq_true rfl)⟩ dX8_rounds_31 rfl rfl (Nat.le_of_ble_eq_true rfl) ⟨(Nat.le_of_ble_eq_true rfl), (Nat.le_of_ble_eq_true rfl)⟩ ?_
      refine V_if_ne (tgt := 43) dX8_rounds_34 (by decide) (fun c34 => ?_) (fun c34 => ?_)
      · have hn : 1 ≤ n.toInt ∧ n.toInt ≤ 20 := (by have h9 := b01_1 c34; unfold inL at h9; rw [Int32.toInt_toInt64, show (1 : Int64).toInt = 1 from rfl, show (20 : Int64).toInt = 20 from rfl] at h9; exact h9)
        have hne := i32_nat (x := n) (by omega)
        refine V_sub (L' := [(0, .ref 20), (2, .long p), (4, .long q), (6, .int (nI (bN n))), (7, .ref (300 + b))]) (by rw [← hne]; rfl) ?_
        first | refine V_aload_n dX8_rounds_43 rfl rfl ?_ | refine V_aload_nN dX8_rounds_43 rfl rfl ?_
        first | refine V_getr (by first | exact z0.1.1.1.k _ rfl rfl | exact z0.1.1.kb hb) fX8_12 dX8_rounds_44 (by exact z0.1.1.1.r _ _ rfl) ?_ | refine V_getrN (by first | exact z0.1.1.1.k _ rfl rfl | exact z0.1.1.kb hb) fX8_12 dX8_rounds_44 (by exact z0.1.1.1.r _ _ rfl) ?_
        refine G_geti (by first | exact z0.1.1.1.k _ rfl rfl | exact z0.1.1.kb hb) fX8_106 dX8_rounds_47 (by exact z0.1.1.lck) ?_
        refine V_iconst (v := -1) dX8_rounds_50 (by decide) ?_
        refine V_icmp_eq (tgt := 60) dX8_rounds_51 (by decide) (fun c51 => ?_) (fun c51 => ?_)
        · first | refine V_aload_n dX8_rounds_60 rfl rfl ?_ | refine V_aload_nN dX8_rounds_60 rfl rfl ?_
          first | refine V_getr (by first | exact z0.1.1.1.k _ rfl rfl | exact z0.1.1.kb hb) fX8_12 dX8_rounds_61 (by exact z0.1.1.1.r _ _ rfl) ?_ | refine V_getrN (by first | exact z0.1.1.1.k _ rfl rfl | exact z0.1.1.kb hb) fX8_12 dX8_rounds_61 (by exact z0.1.1.1.r _ _ rfl) ?_
          first | refine V_aload dX8_rounds_64 rfl ?_ | refine V_aloadN dX8_rounds_64 rfl ?_
          refine V_lload_n dX8_rounds_66 rfl rfl ?_
          refine V_lload dX8_rounds_67 rfl ?_
          refine V_iload dX8_rounds_69 rfl ?_
          refine V_callVvr (As := [_, _, _, _]) (st := _) (c_X6_reachByRounds (zK z) b (bN n) p q w z0.1 hb (by unfold bN; omega)) kX8_140 (by first | exact z0.1.1.1.k _ rfl rfl | exact z0.1.1.kb hb) ⟨rfl, rfl, rfl⟩ ⟨(Nat.le_of_ble_eq_true rfl), (Nat.le_of_ble_eq_true rfl)⟩ dX8_rounds_71 rfl rfl (Nat.le_of_ble_eq_true rfl) ⟨(Nat.le_of_ble_eq_true rfl), (Nat.le_of_ble_eq_true rfl)⟩ (fun w1 hw1 => ?_)
          obtain ⟨a1, h2⟩ := hw1
          have hs := rndsG_same b p q (zK z) (bN n) (zK z) true ⟨rfl, rfl, rfl, rfl, rfl, rfl⟩
          first | refine V_aload dX8_rounds_74 rfl ?_ | refine V_aloadN dX8_rounds_74 rfl ?_
          refine V_lload_n dX8_rounds_76 rfl rfl ?_
          refine V_lload dX8_rounds_77 rfl ?_
          refine V_callV (As := [_, _]) (st := _) (h2.far (by rw [hs.1]; exact hb) p q) kX8_130 (by exact h2.1.kb (by rw [hs.1]; exact hb)) ⟨rfl, rfl, rfl⟩ ⟨(Nat.le_of_ble_eq_true rfl), (Nat.le_of_ble_eq_true rfl)⟩ dX8_rounds_79 rfl rfl (Nat.le_of_ble_eq_true rfl) ⟨(Nat.le_of_ble_eq_true rfl), (Nat.le_of_ble_eq_true rfl)⟩ ?_
          refine V_lret rfl dX8_rounds_82 (Nat.le_of_ble_eq_true rfl) (Nat.le_of_ble_eq_true rfl) ?_
          exact ⟨_, rfl, by unfold oRounds; rw [if_pos ⟨hx, b01_1 c21, hn⟩, if_pos (lck_n c51 (fun n e => Nat.lt_of_lt_of_le (z0.1.1.2.2.1.2.2 n e) z0.1.1.n10)), hbN], by unfold oRounds; rw [if_pos ⟨hx, b01_1 c21, hn⟩, if_pos (lck_n c51 (fun n e => Nat.lt_of_lt_of_le (z0.1.1.2.2.1.2.2 n e) z0.1.1.n10)), hbN]; exact z0.setK (a1.mono (fun _ y => Or.inr y)) h2 hs.1, a1.mono (fun a => by unfold boA clA; omega)⟩
        · refine V_bipush (v := -3) dX8_rounds_54 (by decide) ?_
          refine V_callS (As := [_]) (st := _) (c_X8_asLong _ _) kX8_113 ⟨rfl, rfl, rfl⟩ ⟨(Nat.le_of_ble_eq_true rfl), (Nat.le_of_ble_eq_true rfl)⟩ dX8_rounds_56 rfl rfl (Nat.le_of_ble_eq_true rfl) ⟨(Nat.le_of_ble_eq_true rfl), (Nat.le_of_ble_eq_true rfl)⟩ ?_
          refine V_lret rfl dX8_rounds_59 (Nat.le_of_ble_eq_true rfl) (Nat.le_of_ble_eq_true rfl) ?_
          have hl : ¬ kLck (zK z) = none := fun y => c51 (by rw [y]; rfl)
          exact ⟨_, rfl, by unfold oRounds; rw [if_pos ⟨hx, b01_1 c21, hn⟩, if_neg hl]; rfl, by unfold oRounds; rw [if_pos ⟨hx, b01_1 c21, hn⟩, if_neg hl]; exact z0, Keep.refl _ _⟩
      · refine V_bipush (v := -2) dX8_rounds_37 (by decide) ?_
        refine V_callS (As := [_]) (st := _) (c_X8_asLong _ _) kX8_113 ⟨rfl, rfl, rfl⟩ ⟨(Nat.le_of_ble_eq_true rfl), (Nat.le_of_ble_eq_true rfl)⟩ dX8_rounds_39 rfl rfl (Nat.le_of_ble_eq_true rfl) ⟨(Nat.le_of_ble_eq_true rfl), (Nat.le_of_ble_eq_true rfl)⟩ ?_
        refine V_lret rfl dX8_rounds_42 (Nat.le_of_ble_eq_true rfl) (Nat.le_of_ble_eq_true rfl) ?_
        have hno : ¬ (isB z (nI b) ∧ (plc p ∧ plc q) ∧ (1 ≤ n.toInt ∧ n.toInt ≤ 20)) := fun y => by
          first | exact b01_0 c34 (by unfold inL; rw [Int32.toInt_toInt64, show (1 : Int64).toInt = 1 from rfl, show (20 : Int64).toInt = 20 from rfl]; exact y.2.2) | exact b01_0 c21 y.2.1
        exact ⟨_, rfl, by unfold oRounds; rw [if_neg hno]; rfl, by unfold oRounds; rw [if_neg hno]; exact z0, Keep.refl _ _⟩
  · first | refine V_aload_n dX8_rounds_0 rfl rfl ?_ | refine V_aload_nN dX8_rounds_0 rfl rfl ?_
    first | refine V_getr (by first | exact z0.1.1.1.k _ rfl rfl | exact z0.1.1.kb hb) fX8_12 dX8_rounds_1 (by exact z0.1.1.1.r _ _ rfl) ?_ | refine V_getrN (by first | exact z0.1.1.1.k _ rfl rfl | exact z0.1.1.kb hb) fX8_12 dX8_rounds_1 (by exact z0.1.1.1.r _ _ rfl) ?_
    refine V_iload_n dX8_rounds_4 rfl rfl ?_
    refine V_callV (As := [_]) (st := _) (c_X6_find_n (zK z) x w z0.1.1 hx) kX8_48 (by first | exact z0.1.1.1.k _ rfl rfl | exact z0.1.1.kb hb) ⟨rfl, rfl, rfl⟩ ⟨(Nat.le_of_ble_eq_true rfl), (Nat.le_of_ble_eq_true rfl)⟩ dX8_rounds_5 rfl rfl (Nat.le_of_ble_eq_true rfl) ⟨(Nat.le_of_ble_eq_true rfl), (Nat.le_of_ble_eq_true rfl)⟩ ?_
    first | refine S_astore (L' := [(0, _), (2, _), (4, _), (6, _), (7, _)]) dX8_rounds_8 rfl rfl ?_ | refine S_astoreN (L' := [(0, _), (2, _), (4, _), (6, _), (7, _)]) dX8_rounds_8 rfl rfl ?_
    first | refine V_aload dX8_rounds_10 rfl ?_ | refine V_aloadN dX8_rounds_10 rfl ?_
    refine V_ifnullN (tgt := 37) dX8_rounds_12 (by decide) ?_
    refine V_bipush (v := -2) dX8_rounds_37 (by decide) ?_
    refine V_callS (As := [_]) (st := _) (c_X8_asLong _ _) kX8_113 ⟨rfl, rfl, rfl⟩ ⟨(Nat.le_of_ble_eq_true rfl), (Nat.le_of_ble_eq_true rfl)⟩ dX8_rounds_39 rfl rfl (Nat.le_of_ble_eq_true rfl) ⟨(Nat.le_of_ble_eq_true rfl), (Nat.le_of_ble_eq_true rfl)⟩ ?_
    refine V_lret rfl dX8_rounds_42 (Nat.le_of_ble_eq_true rfl) (Nat.le_of_ble_eq_true rfl) ?_
    exact ⟨_, rfl, by unfold oRounds; rw [if_neg (fun q => hx q.1)]; rfl, by unfold oRounds; rw [if_neg (fun q => hx q.1)]; exact z0, Keep.refl _ _⟩

set_option maxRecDepth 100000 in
theorem c_X8_lock (z : St) (x : Int32) (w : Wd) (z0 : RX z w) : Cc yX8_lock mX8_lock [.ref 20, .int x] w (fun r w' => ∃ v, r = some v ∧ (v = .int (oLock z x).1 ∧ RX (oLock z x).2 w' ∧ Keep clA w w')) := by
  refine Cc.of (by decide) rfl rfl (Nat.le_of_ble_eq_true rfl) (fun X => ?_)
  change V _ X _ 0 [(0, _), (1, _)] [] _ (0, 0)
  by_cases hm : x = -1
  · subst hm
    refine V_iload_n dX8_lock_0 rfl rfl ?_
    refine V_iconst (v := -1) dX8_lock_1 (by decide) ?_
    refine V_icmp_eq (tgt := 19) dX8_lock_2 (by decide) (fun c2 => ?_) (fun c2 => False.elim (by exact c2 rfl))
    first | refine V_aload_n dX8_lock_19 rfl rfl ?_ | refine V_aload_nN dX8_lock_19 rfl rfl ?_
    first | refine V_getr (by first | exact z0.1.1.1.k _ rfl rfl | exact z0.1.1.kb hb) fX8_12 dX8_lock_20 (by exact z0.1.1.1.r _ _ rfl) ?_ | refine V_getrN (by first | exact z0.1.1.1.k _ rfl rfl | exact z0.1.1.kb hb) fX8_12 dX8_lock_20 (by exact z0.1.1.1.r _ _ rfl) ?_
    refine G_geti (by first | exact z0.1.1.1.k _ rfl rfl | exact z0.1.1.kb hb) fX8_106 dX8_lock_23 (by exact z0.1.1.lck) ?_
    refine S_istore_n (L' := [(0, _), (1, _), (2, _)]) dX8_lock_26 rfl rfl rfl ?_
    first | refine V_aload_n dX8_lock_27 rfl rfl ?_ | refine V_aload_nN dX8_lock_27 rfl rfl ?_
    first | refine V_getr (by first | exact z0.1.1.1.k _ rfl rfl | exact z0.1.1.kb hb) fX8_12 dX8_lock_28 (by exact z0.1.1.1.r _ _ rfl) ?_ | refine V_getrN (by first | exact z0.1.1.1.k _ rfl rfl | exact z0.1.1.kb hb) fX8_12 dX8_lock_28 (by exact z0.1.1.1.r _ _ rfl) ?_
    refine V_iload_n dX8_lock_31 rfl rfl ?_
    refine V_puti (by first | exact z0.1.1.1.k _ rfl rfl | exact z0.1.1.kb hb) pfX8_106 (fun h => nomatch h) dX8_lock_32 ⟨rfl, rfl⟩ ?_
    refine V_iload_n dX8_lock_35 rfl rfl ?_
    refine V_iret rfl dX8_lock_36 (Nat.le_of_ble_eq_true rfl) (Nat.le_of_ble_eq_true rfl) ?_
    exact ⟨_, rfl, by unfold oLock; rw [if_pos rfl], by unfold oLock; rw [if_pos rfl]; exact z0.setK (Keep.sI w (Or.inl rfl) 2 _) (z0.1.lock (o := none) (fun b e => by cases e)) rfl, Keep.sI w (by decide) 2 _⟩
  · by_cases hx : isB z x
    · obtain ⟨b, hb, rfl⟩ := isB_n z0 hx
      have hbN : bN (nI b) = b := bN_nI (by have := z0.1.1.n10; omega)
      refine V_iload_n dX8_lock_0 rfl rfl ?_
      refine V_iconst (v := -1) dX8_lock_1 (by decide) ?_
      refine V_icmp_eq (tgt := 19) dX8_lock_2 (by decide) (fun c2 => False.elim (by exact hm c2)) (fun c2 => ?_)
      first | refine V_aload_n dX8_lock_5 rfl rfl ?_ | refine V_aload_nN dX8_lock_5 rfl rfl ?_
      first | refine V_getr (by first | exact z0.1.1.1.k _ rfl rfl | exact z0.1.1.kb hb) fX8_12 dX8_lock_6 (by exact z0.1.1.1.r _ _ rfl) ?_ | refine V_getrN (by first | exact z0.1.1.1.k _ rfl rfl | exact z0.1.1.kb hb) fX8_12 dX8_lock_6 (by exact z0.1.1.1.r _ _ rfl) ?_
      refine V_iload_n dX8_lock_9 rfl rfl ?_
      refine V_callV (As := [_]) (st := _) (c_X6_find_s (zK z) b w z0.1.1 hb) kX8_48 (by first | exact z0.1.1.1.k _ rfl rfl | exact z0.1.1.kb hb) ⟨rfl, rfl, rfl⟩ ⟨(Nat.le_of_ble_eq_true rfl), (Nat.le_of_ble_eq_true rfl)⟩ dX8_lock_10 rfl rfl (Nat.le_of_ble_eq_true rfl) ⟨(Nat.le_of_ble_eq_true rfl), (Nat.le_of_ble_eq_true rfl)⟩ ?_
      refine V_ifnonnull (tgt := 19) dX8_lock_13 (by decide) ?_
      first | refine V_aload_n dX8_lock_19 rfl rfl ?_ | refine V_aload_nN dX8_lock_19 rfl rfl ?_
      first | refine V_getr (by first | exact z0.1.1.1.k _ rfl rfl | exact z0.1.1.kb hb) fX8_12 dX8_lock_20 (by exact z0.1.1.1.r _ _ rfl) ?_ | refine V_getrN (by first | exact z0.1.1.1.k _ rfl rfl | exact z0.1.1.kb hb) fX8_12 dX8_lock_20 (by exact z0.1.1.1.r _ _ rfl) ?_
      refine G_geti (by first | exact z0.1.1.1.k _ rfl rfl | exact z0.1.1.kb hb) fX8_106 dX8_lock_23 (by exact z0.1.1.lck) ?_
      refine S_istore_n (L' := [(0, _), (1, _), (2, _)]) dX8_lock_26 rfl rfl rfl ?_
      first | refine V_aload_n dX8_lock_27 rfl rfl ?_ | refine V_aload_nN dX8_lock_27 rfl rfl ?_
      first | refine V_getr (by first | exact z0.1.1.1.k _ rfl rfl | exact z0.1.1.kb hb) fX8_12 dX8_lock_28 (by exact z0.1.1.1.r _ _ rfl) ?_ | refine V_getrN (by first | exact z0.1.1.1.k _ rfl rfl | exact z0.1.1.kb hb) fX8_12 dX8_lock_28 (by exact z0.1.1.1.r _ _ rfl) ?_
      refine V_iload_n dX8_lock_31 rfl rfl ?_
      refine V_puti (by first | exact z0.1.1.1.k _ rfl rfl | exact z0.1.1.kb hb) pfX8_106 (fun h => nomatch h) dX8_lock_32 ⟨rfl, rfl⟩ ?_
      refine V_iload_n dX8_lock_35 rfl rfl ?_
      refine V_iret rfl dX8_lock_36 (Nat.le_of_ble_eq_true rfl) (Nat.le_of_ble_eq_true rfl) ?_
      exact ⟨_, rfl, by unfold oLock; rw [if_neg hm, if_pos hx], by unfold oLock; rw [if_neg hm, if_pos hx, hbN]; exact z0.setK (Keep.sI w (Or.inl rfl) 2 _) (z0.1.lock (o := some b) (fun c e => by cases e; exact hb)) rfl, Keep.sI w (by decide) 2 _⟩
    · refine V_iload_n dX8_lock_0 rfl rfl ?_
      refine V_iconst (v := -1) dX8_lock_1 (by decide) ?_
      refine V_icmp_eq (tgt := 19) dX8_lock_2 (by decide) (fun c2 => False.elim (by exact hm c2)) (fun c2 => ?_)
      first | refine V_aload_n dX8_lock_5 rfl rfl ?_ | refine V_aload_nN dX8_lock_5 rfl rfl ?_
      first | refine V_getr (by first | exact z0.1.1.1.k _ rfl rfl | exact z0.1.1.kb hb) fX8_12 dX8_lock_6 (by exact z0.1.1.1.r _ _ rfl) ?_ | refine V_getrN (by first | exact z0.1.1.1.k _ rfl rfl | exact z0.1.1.kb hb) fX8_12 dX8_lock_6 (by exact z0.1.1.1.r _ _ rfl) ?_
      refine V_iload_n dX8_lock_9 rfl rfl ?_
      refine V_callV (As := [_]) (st := _) (c_X6_find_n (zK z) x w z0.1.1 hx) kX8_48 (by first | exact z0.1.1.1.k _ rfl rfl | exact z0.1.1.kb hb) ⟨rfl, rfl, rfl⟩ ⟨(Nat.le_of_ble_eq_true rfl), (Nat.le_of_ble_eq_true rfl)⟩ dX8_lock_10 rfl rfl (Nat.le_of_ble_eq_true rfl) ⟨(Nat.le_of_ble_eq_true rfl), (Nat.le_of_ble_eq_true rfl)⟩ ?_
      refine V_ifnonnullN dX8_lock_13 ?_
      refine V_bipush (v := -2) dX8_lock_16 (by decide) ?_
      refine V_iret rfl dX8_lock_18 (Nat.le_of_ble_eq_true rfl) (Nat.le_of_ble_eq_true rfl) ?_
      exact ⟨_, rfl, by unfold oLock; rw [if_neg hm, if_neg hx], by unfold oLock; rw [if_neg hm, if_neg hx]; exact z0, Keep.refl _ _⟩

set_option maxRecDepth 100000 in
theorem c_X8_end (z : St) (x y : Int32) (w : Wd) (z0 : RX z w) : Cc yX8_end mX8_end [.ref 20, .int x, .int y] w (fun r w' => r = some (.long (oEnd z x y)) ∧ w' = w) := by
  refine Cc.of (by decide) rfl rfl (Nat.le_of_ble_eq_true rfl) (fun X => ?_)
  change V _ X _ 0 [(0, _), (1, _), (2, _)] [] _ (0, 0)
  by_cases hx : isB z x
  · obtain ⟨b, hb, rfl⟩ := isB_n z0 hx
    have hbN : bN (nI b) = b := bN_nI (by have := z0.1.1.n10; omega)
    first | refine V_aload_n dX8_end_0 rfl rfl ?_ | refine V_aload_nN dX8_end_0 rfl rfl ?_
    first | refine V_getr (by first | exact z0.1.1.1.k _ rfl rfl | exact z0.1.1.kb hb) fX8_12 dX8_end_1 (by exact z0.1.1.1.r _ _ rfl) ?_ | refine V_getrN (by first | exact z0.1.1.1.k _ rfl rfl | exact z0.1.1.kb hb) fX8_12 dX8_end_1 (by exact z0.1.1.1.r _ _ rfl) ?_
    refine V_iload_n dX8_end_4 rfl rfl ?_
    refine V_callV (As := [_]) (st := _) (c_X6_find_s (zK z) b w z0.1.1 hb) kX8_48 (by first | exact z0.1.1.1.k _ rfl rfl | exact z0.1.1.kb hb) ⟨rfl, rfl, rfl⟩ ⟨(Nat.le_of_ble_eq_true rfl), (Nat.le_of_ble_eq_true rfl)⟩ dX8_end_5 rfl rfl (Nat.le_of_ble_eq_true rfl) ⟨(Nat.le_of_ble_eq_true rfl), (Nat.le_of_ble_eq_true rfl)⟩ ?_
    first | refine S_astore_n (L' := [(0, _), (1, _), (2, _), (3, _)]) dX8_end_8 rfl rfl rfl ?_ | refine S_astore_nN (L' := [(0, _), (1, _), (2, _), (3, _)]) dX8_end_8 rfl rfl rfl ?_
    first | refine V_aload_n dX8_end_9 rfl rfl ?_ | refine V_aload_nN dX8_end_9 rfl rfl ?_
    refine V_ifnonnull (tgt := 18) dX8_end_10 (by decide) ?_
    refine V_iload_n dX8_end_18 rfl rfl ?_
    refine V_i2l dX8_end_19 ?_
    refine V_lconst (v := 0) dX8_end_20 (by decide) ?_
    refine V_lconst (v := 1) dX8_end_21 (by decide) ?_
    refine V_callS (As := [_, _, _]) (st := _) (c_X8_isIn _ _ _ _) kX8_54 ⟨rfl, rfl, rfl⟩ ⟨(Nat.le_of_ble_eq_true rfl), (Nat.le_of_ble_eq_true rfl)⟩ dX8_end_22 rfl rfl (Nat.le_of_ble_eq_true rfl) ⟨(Nat.le_of_ble_eq_true rfl), (Nat.le_of_ble_eq_true rfl)⟩ ?_
    refine V_if_ne (tgt := 34) dX8_end_25 (by decide) (fun c25 => ?_) (fun c25 => ?_)
    · first | refine V_aload_n dX8_end_34 rfl rfl ?_ | refine V_aload_nN dX8_end_34 rfl rfl ?_
      refine V_ifnonnull (tgt := 60) dX8_end_35 (by decide) ?_
      refine V_iload_n dX8_end_60 rfl rfl ?_
      refine V_if_ne (tgt := 71) dX8_end_61 (by decide) (fun c61 => ?_) (fun c61 => ?_)
      · first | refine V_aload_n dX8_end_71 rfl rfl ?_ | refine V_aload_nN dX8_end_71 rfl rfl ?_
        refine G_getl (by first | exact z0.1.1.1.k _ rfl rfl | exact z0.1.1.kb hb) fX8_127 dX8_end_72 (by first | exact (z0.1.2 b hb).2.2.2.2.1 | exact (z0.1.2 b hb).2.2.2.2.2) ?_
        refine V_lret rfl dX8_end_75 (Nat.le_of_ble_eq_true rfl) (Nat.le_of_ble_eq_true rfl) ?_
        have hyi : 0 ≤ y.toInt ∧ y.toInt ≤ 1 := (by have h9 := b01_1 c25; unfold inL at h9; rw [Int32.toInt_toInt64] at h9; exact h9)
        exact ok2l (by unfold oEnd; rw [if_pos ⟨Or.inl hx, hyi⟩, if_pos hx, hbN]; first | rw [if_pos c61] | rw [if_neg c61])
      · first | refine V_aload_n dX8_end_64 rfl rfl ?_ | refine V_aload_nN dX8_end_64 rfl rfl ?_
        refine G_getl (by first | exact z0.1.1.1.k _ rfl rfl | exact z0.1.1.kb hb) fX8_124 dX8_end_65 (by first | exact (z0.1.2 b hb).2.2.2.2.1 | exact (z0.1.2 b hb).2.2.2.2.2) ?_
        refine V_goto (tgt := 75) dX8_end_68 (by decide) ?_
        refine V_lret rfl dX8_end_75 (Nat.le_of_ble_eq_true rfl) (Nat.le_of_ble_eq_true rfl) ?_
        have hyi : 0 ≤ y.toInt ∧ y.toInt ≤ 1 := (by have h9 := b01_1 c25; unfold inL at h9; rw [Int32.toInt_toInt64] at h9; exact h9)
        exact ok2l (by unfold oEnd; rw [if_pos ⟨Or.inl hx, hyi⟩, if_pos hx, hbN]; first | rw [if_pos c61] | rw [if_neg c61])
    · refine V_bipush (v := -2) dX8_end_28 (by decide) ?_
      refine V_callS (As := [_]) (st := _) (c_X8_asLong _ _) kX8_113 ⟨rfl, rfl, rfl⟩ ⟨(Nat.le_of_ble_eq_true rfl), (Nat.le_of_ble_eq_true rfl)⟩ dX8_end_30 rfl rfl (Nat.le_of_ble_eq_true rfl) ⟨(Nat.le_of_ble_eq_true rfl), (Nat.le_of_ble_eq_true rfl)⟩ ?_
      refine V_lret rfl dX8_end_33 (Nat.le_of_ble_eq_true rfl) (Nat.le_of_ble_eq_true rfl) ?_
      exact ok2l (by unfold oEnd; rw [if_neg (fun g => (fun h9 => b01_0 c25 (by unfold inL; rw [Int32.toInt_toInt64]; exact h9)) g.2)]; rfl)
  · first | refine V_aload_n dX8_end_0 rfl rfl ?_ | refine V_aload_nN dX8_end_0 rfl rfl ?_
    first | refine V_getr (by first | exact z0.1.1.1.k _ rfl rfl | exact z0.1.1.kb hb) fX8_12 dX8_end_1 (by exact z0.1.1.1.r _ _ rfl) ?_ | refine V_getrN (by first | exact z0.1.1.1.k _ rfl rfl | exact z0.1.1.kb hb) fX8_12 dX8_end_1 (by exact z0.1.1.1.r _ _ rfl) ?_
    refine V_iload_n dX8_end_4 rfl rfl ?_
    refine V_callV (As := [_]) (st := _) (c_X6_find_n (zK z) x w z0.1.1 hx) kX8_48 (by first | exact z0.1.1.1.k _ rfl rfl | exact z0.1.1.kb hb) ⟨rfl, rfl, rfl⟩ ⟨(Nat.le_of_ble_eq_true rfl), (Nat.le_of_ble_eq_true rfl)⟩ dX8_end_5 rfl rfl (Nat.le_of_ble_eq_true rfl) ⟨(Nat.le_of_ble_eq_true rfl), (Nat.le_of_ble_eq_true rfl)⟩ ?_
    first | refine S_astore_n (L' := [(0, _), (1, _), (2, _), (3, _)]) dX8_end_8 rfl rfl rfl ?_ | refine S_astore_nN (L' := [(0, _), (1, _), (2, _), (3, _)]) dX8_end_8 rfl rfl rfl ?_
    first | refine V_aload_n dX8_end_9 rfl rfl ?_ | refine V_aload_nN dX8_end_9 rfl rfl ?_
    refine V_ifnonnullN dX8_end_10 ?_
    refine V_iload_n dX8_end_13 rfl rfl ?_
    refine V_iconst (v := -1) dX8_end_14 (by decide) ?_
    refine V_icmp_ne (tgt := 28) dX8_end_15 (by decide) (fun c15 => ?_) (fun c15 => ?_)
    · refine V_bipush (v := -2) dX8_end_28 (by decide) ?_
      refine V_callS (As := [_]) (st := _) (c_X8_asLong _ _) kX8_113 ⟨rfl, rfl, rfl⟩ ⟨(Nat.le_of_ble_eq_true rfl), (Nat.le_of_ble_eq_true rfl)⟩ dX8_end_30 rfl rfl (Nat.le_of_ble_eq_true rfl) ⟨(Nat.le_of_ble_eq_true rfl), (Nat.le_of_ble_eq_true rfl)⟩ ?_
      refine V_lret rfl dX8_end_33 (Nat.le_of_ble_eq_true rfl) (Nat.le_of_ble_eq_true rfl) ?_
      refine ok2l ?_
      unfold oEnd
      first | (rw [if_neg (fun g => (fun h9 => b01_0 c25 (by unfold inL; rw [Int32.toInt_toInt64]; exact h9)) g.2)]; rfl) | (rw [if_neg (fun g => g.1.elim hx c15)]; rfl)
    · refine V_iload_n dX8_end_18 rfl rfl ?_
      refine V_i2l dX8_end_19 ?_
      refine V_lconst (v := 0) dX8_end_20 (by decide) ?_
      refine V_lconst (v := 1) dX8_end_21 (by decide) ?_
      refine V_callS (As := [_, _, _]) (st := _) (c_X8_isIn _ _ _ _) kX8_54 ⟨rfl, rfl, rfl⟩ ⟨(Nat.le_of_ble_eq_true rfl), (Nat.le_of_ble_eq_true rfl)⟩ dX8_end_22 rfl rfl (Nat.le_of_ble_eq_true rfl) ⟨(Nat.le_of_ble_eq_true rfl), (Nat.le_of_ble_eq_true rfl)⟩ ?_
      refine V_if_ne (tgt := 34) dX8_end_25 (by decide) (fun c25 => ?_) (fun c25 => ?_)
      · first | refine V_aload_n dX8_end_34 rfl rfl ?_ | refine V_aload_nN dX8_end_34 rfl rfl ?_
        refine V_ifnonnullN dX8_end_35 ?_
        refine V_iload_n dX8_end_38 rfl rfl ?_
        refine V_if_ne (tgt := 52) dX8_end_39 (by decide) (fun c39 => ?_) (fun c39 => ?_)
        · first | refine V_aload_n dX8_end_52 rfl rfl ?_ | refine V_aload_nN dX8_end_52 rfl rfl ?_
          first | refine V_getr (by first | exact z0.1.1.1.k _ rfl rfl | exact z0.1.1.kb hb) fX8_12 dX8_end_53 (by exact z0.1.1.1.r _ _ rfl) ?_ | refine V_getrN (by first | exact z0.1.1.1.k _ rfl rfl | exact z0.1.1.kb hb) fX8_12 dX8_end_53 (by exact z0.1.1.1.r _ _ rfl) ?_
          refine G_getl (by first | exact z0.1.1.1.k _ rfl rfl | exact z0.1.1.kb hb) fX8_121 dX8_end_56 (by first | exact z0.1.1.rx | exact z0.1.1.ry) ?_
          refine V_lret rfl dX8_end_59 (Nat.le_of_ble_eq_true rfl) (Nat.le_of_ble_eq_true rfl) ?_
          have hyi : 0 ≤ y.toInt ∧ y.toInt ≤ 1 := (by have h9 := b01_1 c25; unfold inL at h9; rw [Int32.toInt_toInt64] at h9; exact h9)
          exact ok2l (by unfold oEnd; rw [if_pos ⟨Or.inr c15, hyi⟩, if_neg hx]; first | rw [if_pos c39] | rw [if_neg c39])
        · first | refine V_aload_n dX8_end_42 rfl rfl ?_ | refine V_aload_nN dX8_end_42 rfl rfl ?_
          first | refine V_getr (by first | exact z0.1.1.1.k _ rfl rfl | exact z0.1.1.kb hb) fX8_12 dX8_end_43 (by exact z0.1.1.1.r _ _ rfl) ?_ | refine V_getrN (by first | exact z0.1.1.1.k _ rfl rfl | exact z0.1.1.kb hb) fX8_12 dX8_end_43 (by exact z0.1.1.1.r _ _ rfl) ?_
          refine G_getl (by first | exact z0.1.1.1.k _ rfl rfl | exact z0.1.1.kb hb) fX8_117 dX8_end_46 (by first | exact z0.1.1.rx | exact z0.1.1.ry) ?_
          refine V_goto (tgt := 59) dX8_end_49 (by decide) ?_
          refine V_lret rfl dX8_end_59 (Nat.le_of_ble_eq_true rfl) (Nat.le_of_ble_eq_true rfl) ?_
          have hyi : 0 ≤ y.toInt ∧ y.toInt ≤ 1 := (by have h9 := b01_1 c25; unfold inL at h9; rw [Int32.toInt_toInt64] at h9; exact h9)
          exact ok2l (by unfold oEnd; rw [if_pos ⟨Or.inr c15, hyi⟩, if_neg hx]; first | rw [if_pos c39] | rw [if_neg c39])
      · refine V_bipush (v := -2) dX8_end_28 (by decide) ?_
        refine V_callS (As := [_]) (st := _) (c_X8_asLong _ _) kX8_113 ⟨rfl, rfl, rfl⟩ ⟨(Nat.le_of_ble_eq_true rfl), (Nat.le_of_ble_eq_true rfl)⟩ dX8_end_30 rfl rfl (Nat.le_of_ble_eq_true rfl) ⟨(Nat.le_of_ble_eq_true rfl), (Nat.le_of_ble_eq_true rfl)⟩ ?_
        refine V_lret rfl dX8_end_33 (Nat.le_of_ble_eq_true rfl) (Nat.le_of_ble_eq_true rfl) ?_
        refine ok2l ?_
        unfold oEnd
        first | (rw [if_neg (fun g => (fun h9 => b01_0 c25 (by unfold inL; rw [Int32.toInt_toInt64]; exact h9)) g.2)]; rfl) | (rw [if_neg (fun g => g.1.elim hx c15)]; rfl)
