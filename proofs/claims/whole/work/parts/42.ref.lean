/-! THE REFERENCE: bones, root, places, lock, turn -/
set_option maxRecDepth 100000 in
theorem c_X9_about (z : St) (x y : Int32) (w : Wd) (z0 : RM z w) : Cc yX9_about mX9_about [.ref 400, .int x, .int y] w (fun r w' => r = some (.int (oAbout z x y)) ∧ w' = w) := by
  refine Cc.of (by decide) rfl rfl (Nat.le_of_ble_eq_true rfl) (fun X => ?_)
  change V _ X _ 0 [(0, _), (1, _), (2, _)] [] _ (0, 0)
  by_cases hx : isB z x
  · obtain ⟨b, hb, rfl⟩ := isB_s z0 hx
    have hbN : bN (nI b) = b := bN_nI (by have := z0.1.n10; omega)
    first | refine V_aload_n dX9_about_0 rfl rfl ?_ | refine V_aload_nN dX9_about_0 rfl rfl ?_
    refine V_iload_n dX9_about_1 rfl rfl ?_
    refine V_callV (As := [_]) (st := _) (c_X9_isBone (zK z) _ w z0.1) kX9_132 (by exact z0.1.1.k _ rfl rfl) ⟨rfl, rfl, rfl⟩ ⟨(Nat.le_of_ble_eq_true rfl), (Nat.le_of_ble_eq_true rfl)⟩ dX9_about_2 rfl rfl (Nat.le_of_ble_eq_true rfl) ⟨(Nat.le_of_ble_eq_true rfl), (Nat.le_of_ble_eq_true rfl)⟩ ?_
    refine V_if_ne (tgt := 11) dX9_about_5 (by decide) (fun c5 => ?_) (fun c5 => False.elim (by exact b01_0 c5 hx))
    refine V_iload_n dX9_about_11 rfl rfl ?_
    refine V_topi (fun sw esw => ?_)
    by_cases s0 : sw = 0
    · rw [s0] at esw ⊢
      refine V_tableIn (off := 36) (tgt := 48) dX9_about_12 (by decide) (by decide) (by decide) (by decide) ?_
      first | refine V_aload_n dX9_about_48 rfl rfl ?_ | refine V_aload_nN dX9_about_48 rfl rfl ?_
      first | refine V_getr (by exact z0.1.1.k _ rfl rfl) fX9_16 dX9_about_49 (by exact (z0.1.1.r 3 rfl (by decide) : _ = some 404)) ?_ | refine V_getrN (by exact z0.1.1.k _ rfl rfl) fX9_16 dX9_about_49 (by exact (z0.1.1.r 3 rfl (by decide) : _ = some 404)) ?_
      refine V_iload_n dX9_about_52 rfl rfl ?_
      refine G_iald (j := b) (by exact z0.1.1.k _ rfl rfl) (by rfl) (by exact z0.1.1.lt 404 (m := 10) rfl rfl (by decide) rfl (by have := z0.1.n10; omega)) (by exact z0.1.1.nlt 404 rfl rfl (by decide)) dX9_about_53 (by exact z0.1.par hb) ?_
      refine V_iret rfl dX9_about_54 (Nat.le_of_ble_eq_true rfl) (Nat.le_of_ble_eq_true rfl) ?_
      exact ok2i (by unfold oAbout; rw [if_pos hx, hbN, ← esw]; rfl)
    by_cases s1 : sw = 1
    · rw [s1] at esw ⊢
      refine V_tableIn (off := 43) (tgt := 55) dX9_about_12 (by decide) (by decide) (by decide) (by decide) ?_
      first | refine V_aload_n dX9_about_55 rfl rfl ?_ | refine V_aload_nN dX9_about_55 rfl rfl ?_
      first | refine V_getr (by exact z0.1.1.k _ rfl rfl) fX9_19 dX9_about_56 (by exact (z0.1.1.r 4 rfl (by decide) : _ = some 405)) ?_ | refine V_getrN (by exact z0.1.1.k _ rfl rfl) fX9_19 dX9_about_56 (by exact (z0.1.1.r 4 rfl (by decide) : _ = some 405)) ?_
      refine V_iload_n dX9_about_59 rfl rfl ?_
      refine G_iald (j := b) (by exact z0.1.1.k _ rfl rfl) (by rfl) (by exact z0.1.1.lt 405 (m := 10) rfl rfl (by decide) rfl (by have := z0.1.n10; omega)) (by exact z0.1.1.nlt 405 rfl rfl (by decide)) dX9_about_60 (by exact z0.1.len hb) ?_
      refine V_iret rfl dX9_about_61 (Nat.le_of_ble_eq_true rfl) (Nat.le_of_ble_eq_true rfl) ?_
      exact ok2i (by unfold oAbout; rw [if_pos hx, hbN, ← esw]; rfl)
    by_cases s2 : sw = 2
    · rw [s2] at esw ⊢
      refine V_tableIn (off := 50) (tgt := 62) dX9_about_12 (by decide) (by decide) (by decide) (by decide) ?_
      first | refine V_aload_n dX9_about_62 rfl rfl ?_ | refine V_aload_nN dX9_about_62 rfl rfl ?_
      first | refine V_getr (by exact z0.1.1.k _ rfl rfl) fX9_22 dX9_about_63 (by exact (z0.1.1.r 5 rfl (by decide) : _ = some 406)) ?_ | refine V_getrN (by exact z0.1.1.k _ rfl rfl) fX9_22 dX9_about_63 (by exact (z0.1.1.r 5 rfl (by decide) : _ = some 406)) ?_
      refine V_iload_n dX9_about_66 rfl rfl ?_
      refine G_iald (j := b) (by exact z0.1.1.k _ rfl rfl) (by rfl) (by exact z0.1.1.lt 406 (m := 10) rfl rfl (by decide) rfl (by have := z0.1.n10; omega)) (by exact z0.1.1.nlt 406 rfl rfl (by decide)) dX9_about_67 (by exact z0.1.low hb) ?_
      refine V_iret rfl dX9_about_68 (Nat.le_of_ble_eq_true rfl) (Nat.le_of_ble_eq_true rfl) ?_
      exact ok2i (by unfold oAbout; rw [if_pos hx, hbN, ← esw]; rfl)
    by_cases s3 : sw = 3
    · rw [s3] at esw ⊢
      refine V_tableIn (off := 57) (tgt := 69) dX9_about_12 (by decide) (by decide) (by decide) (by decide) ?_
      first | refine V_aload_n dX9_about_69 rfl rfl ?_ | refine V_aload_nN dX9_about_69 rfl rfl ?_
      first | refine V_getr (by exact z0.1.1.k _ rfl rfl) fX9_25 dX9_about_70 (by exact (z0.1.1.r 6 rfl (by decide) : _ = some 407)) ?_ | refine V_getrN (by exact z0.1.1.k _ rfl rfl) fX9_25 dX9_about_70 (by exact (z0.1.1.r 6 rfl (by decide) : _ = some 407)) ?_
      refine V_iload_n dX9_about_73 rfl rfl ?_
      refine G_iald (j := b) (by exact z0.1.1.k _ rfl rfl) (by rfl) (by exact z0.1.1.lt 407 (m := 10) rfl rfl (by decide) rfl (by have := z0.1.n10; omega)) (by exact z0.1.1.nlt 407 rfl rfl (by decide)) dX9_about_74 (by exact z0.1.spr hb) ?_
      refine V_iret rfl dX9_about_75 (Nat.le_of_ble_eq_true rfl) (Nat.le_of_ble_eq_true rfl) ?_
      exact ok2i (by unfold oAbout; rw [if_pos hx, hbN, ← esw]; rfl)
    by_cases s4 : sw = 4
    · rw [s4] at esw ⊢
      refine V_tableIn (off := 64) (tgt := 76) dX9_about_12 (by decide) (by decide) (by decide) (by decide) ?_
      first | refine V_aload_n dX9_about_76 rfl rfl ?_ | refine V_aload_nN dX9_about_76 rfl rfl ?_
      first | refine V_getr (by exact z0.1.1.k _ rfl rfl) fX9_31 dX9_about_77 (by exact (z0.1.1.r 8 rfl (by decide) : _ = some 409)) ?_ | refine V_getrN (by exact z0.1.1.k _ rfl rfl) fX9_31 dX9_about_77 (by exact (z0.1.1.r 8 rfl (by decide) : _ = some 409)) ?_
      refine V_iload_n dX9_about_80 rfl rfl ?_
      refine G_iald (j := b) (by exact z0.1.1.k _ rfl rfl) (by rfl) (by exact z0.1.1.lt 409 (m := 10) rfl rfl (by decide) rfl (by have := z0.1.n10; omega)) (by exact z0.1.1.nlt 409 rfl rfl (by decide)) dX9_about_81 (by exact z0.1.trn hb) ?_
      refine V_iret rfl dX9_about_82 (Nat.le_of_ble_eq_true rfl) (Nat.le_of_ble_eq_true rfl) ?_
      exact ok2i (by unfold oAbout; rw [if_pos hx, hbN, ← esw]; rfl)
    refine V_tableOut (tgt := 83) dX9_about_12 (by have g0 := i32_neN 0 (by decide) s0; have g1 := i32_neN 1 (by decide) s1; have g2 := i32_neN 2 (by decide) s2; have g3 := i32_neN 3 (by decide) s3; have g4 := i32_neN 4 (by decide) s4; omega) (by decide) ?_
    refine V_bipush (v := -2) dX9_about_83 (by decide) ?_
    refine V_iret rfl dX9_about_85 (Nat.le_of_ble_eq_true rfl) (Nat.le_of_ble_eq_true rfl) ?_
    exact ok2i (by unfold oAbout; rw [if_pos hx, if_neg (fun q => s0 (esw.trans q)), if_neg (fun q => s1 (esw.trans q)), if_neg (fun q => s2 (esw.trans q)), if_neg (fun q => s3 (esw.trans q)), if_neg (fun q => s4 (esw.trans q))])
  · first | refine V_aload_n dX9_about_0 rfl rfl ?_ | refine V_aload_nN dX9_about_0 rfl rfl ?_
    refine V_iload_n dX9_about_1 rfl rfl ?_
    refine V_callV (As := [_]) (st := _) (c_X9_isBone (zK z) x w z0.1) kX9_132 (by exact z0.1.1.k _ rfl rfl) ⟨rfl, rfl, rfl⟩ ⟨(Nat.le_of_ble_eq_true rfl), (Nat.le_of_ble_eq_true rfl)⟩ dX9_about_2 rfl rfl (Nat.le_of_ble_eq_true rfl) ⟨(Nat.le_of_ble_eq_true rfl), (Nat.le_of_ble_eq_true rfl)⟩ ?_
    refine V_if_ne (tgt := 11) dX9_about_5 (by decide) (fun c5 => False.elim (by exact hx (b01_1 c5))) (fun c5 => ?_)
    refine V_bipush (v := -2) dX9_about_8 (by decide) ?_
    refine V_iret rfl dX9_about_10 (Nat.le_of_ble_eq_true rfl) (Nat.le_of_ble_eq_true rfl) ?_
    exact ok2i (by unfold oAbout; rw [if_neg hx])

set_option maxRecDepth 100000 in
theorem c_X9_root (z : St) (x y : Int64) (w : Wd) (z0 : RM z w) : Cc yX9_root mX9_root [.ref 400, .long x, .long y] w (fun r w' => ∃ v, r = some v ∧ (v = .int (oRoot z x y).1 ∧ RM (oRoot z x y).2 w' ∧ Keep moA w w')) := by
  refine Cc.of (by decide) rfl rfl (Nat.le_of_ble_eq_true rfl) (fun X => ?_)
  change V _ X _ 0 [(0, _), (1, _), (3, _)] [] _ (0, 0)
  refine V_lload_n dX9_root_0 rfl rfl ?_
  refine V_lload_n dX9_root_1 rfl rfl ?_
  refine V_callS (As := [_, _]) (st := _) (c_X9_isPlace _ _ _) kX9_162 ⟨rfl, rfl, rfl⟩ ⟨(Nat.le_of_ble_eq_true rfl), (Nat.le_of_ble_eq_true rfl)⟩ dX9_root_2 rfl rfl (Nat.le_of_ble_eq_true rfl) ⟨(Nat.le_of_ble_eq_true rfl), (Nat.le_of_ble_eq_true rfl)⟩ ?_
  refine V_if_ne (tgt := 11) dX9_root_5 (by decide) (fun c5 => ?_) (fun c5 => ?_)
  · first | refine V_aload_n dX9_root_11 rfl rfl ?_ | refine V_aload_nN dX9_root_11 rfl rfl ?_
    refine G_geti (by exact z0.1.1.k _ rfl rfl) fX9_34 dX9_root_12 (by exact z0.1.lck) ?_
    refine V_iconst (v := -1) dX9_root_15 (by decide) ?_
    refine V_icmp_eq (tgt := 22) dX9_root_16 (by decide) (fun c16 => ?_) (fun c16 => ?_)
    · first | refine V_aload_n dX9_root_22 rfl rfl ?_ | refine V_aload_nN dX9_root_22 rfl rfl ?_
      refine V_lload_n dX9_root_23 rfl rfl ?_
      refine V_putl (by exact z0.1.1.k _ rfl rfl) pfX9_140 (fun h => nomatch h) dX9_root_24 ?_
      first | refine V_aload_n dX9_root_27 rfl rfl ?_ | refine V_aload_nN dX9_root_27 rfl rfl ?_
      refine V_lload_n dX9_root_28 rfl rfl ?_
      refine V_putl (by exact z0.1.1.k _ rfl rfl) pfX9_144 (fun h => nomatch h) dX9_root_29 ?_
      refine V_iconst (v := 1) dX9_root_32 (by decide) ?_
      refine V_iret rfl dX9_root_33 (Nat.le_of_ble_eq_true rfl) (Nat.le_of_ble_eq_true rfl) ?_
      have g : Kp skI skJ w (sJ (sJ w 400 9 x) 400 10 y) := (Kp.sJ w (by unfold skJ; omega) _).trans (Kp.sJ _ (by unfold skJ; omega) _)
      exact ⟨_, rfl, by unfold oRoot; rw [if_pos (b01_1 c5), if_pos (lck_n c16 (fun n e => Nat.lt_of_lt_of_le (z0.1.2.1.2.2 n e) z0.1.n10))], by unfold oRoot; rw [if_pos (b01_1 c5), if_pos (lck_n c16 (fun n e => Nat.lt_of_lt_of_le (z0.1.2.1.2.2 n e) z0.1.n10))]; exact z0.setK g (z0.1.root x y) rfl, g.mo⟩
    · refine V_bipush (v := -3) dX9_root_19 (by decide) ?_
      refine V_iret rfl dX9_root_21 (Nat.le_of_ble_eq_true rfl) (Nat.le_of_ble_eq_true rfl) ?_
      have hl : ¬ kLck (zK z) = none := fun q => c16 (by rw [q]; rfl)
      exact ⟨_, rfl, by unfold oRoot; rw [if_pos (b01_1 c5), if_neg hl], by unfold oRoot; rw [if_pos (b01_1 c5), if_neg hl]; exact z0, Keep.refl _ _⟩
  · refine V_bipush (v := -2) dX9_root_8 (by decide) ?_
    refine V_iret rfl dX9_root_10 (Nat.le_of_ble_eq_true rfl) (Nat.le_of_ble_eq_true rfl) ?_
    exact ⟨_, rfl, by unfold oRoot; rw [if_neg (b01_0 c5)], by unfold oRoot; rw [if_neg (b01_0 c5)]; exact z0, Keep.refl _ _⟩

set_option maxRecDepth 100000 in
theorem c_X9_lock (z : St) (x : Int32) (w : Wd) (z0 : RM z w) : Cc yX9_lock mX9_lock [.ref 400, .int x] w (fun r w' => ∃ v, r = some v ∧ (v = .int (oLock z x).1 ∧ RM (oLock z x).2 w' ∧ Keep moA w w')) := by
  refine Cc.of (by decide) rfl rfl (Nat.le_of_ble_eq_true rfl) (fun X => ?_)
  change V _ X _ 0 [(0, _), (1, _)] [] _ (0, 0)
  refine V_iload_n dX9_lock_0 rfl rfl ?_
  refine V_i2l dX9_lock_1 ?_
  refine V_ldc2 ctX9_122 dX9_lock_2 ?_
  first | refine V_aload_n dX9_lock_5 rfl rfl ?_ | refine V_aload_nN dX9_lock_5 rfl rfl ?_
  refine G_geti (by exact z0.1.1.k _ rfl rfl) fX9_111 dX9_lock_6 (by exact z0.1.n) ?_
  refine V_iconst (v := 1) dX9_lock_9 (by decide) ?_
  refine V_isub dX9_lock_10 ?_
  refine V_i2l dX9_lock_11 ?_
  refine V_callS (As := [_, _, _]) (st := _) (in9m x (kN (zK z)) (by have := z0.1.n10; omega) w) kX9_114 ⟨rfl, rfl, rfl⟩ ⟨(Nat.le_of_ble_eq_true rfl), (Nat.le_of_ble_eq_true rfl)⟩ dX9_lock_12 rfl rfl (Nat.le_of_ble_eq_true rfl) ⟨(Nat.le_of_ble_eq_true rfl), (Nat.le_of_ble_eq_true rfl)⟩ ?_
  refine V_if_ne (tgt := 21) dX9_lock_15 (by decide) (fun c15 => ?_) (fun c15 => ?_)
  · first | refine V_aload_n dX9_lock_21 rfl rfl ?_ | refine V_aload_nN dX9_lock_21 rfl rfl ?_
    refine G_geti (by exact z0.1.1.k _ rfl rfl) fX9_34 dX9_lock_22 (by exact z0.1.lck) ?_
    refine S_istore_n (L' := [(0, _), (1, _), (2, _)]) dX9_lock_25 rfl rfl rfl ?_
    first | refine V_aload_n dX9_lock_26 rfl rfl ?_ | refine V_aload_nN dX9_lock_26 rfl rfl ?_
    refine V_iload_n dX9_lock_27 rfl rfl ?_
    refine V_puti (by exact z0.1.1.k _ rfl rfl) pfX9_34 (fun h => nomatch h) dX9_lock_28 ⟨rfl, rfl⟩ ?_
    refine V_iload_n dX9_lock_31 rfl rfl ?_
    refine V_iret rfl dX9_lock_32 (Nat.le_of_ble_eq_true rfl) (Nat.le_of_ble_eq_true rfl) ?_
    have g : Kp skI skJ w (sI w 400 11 x) := Kp.sI w (by unfold skI; omega) _
    have e : ∃ o : Option Nat, x = oI o ∧ (∀ b, o = some b → b < kN (zK z)) ∧ oLock z x = (oI (kLck (zK z)), pK z (kLk (zK z) o)) := by
      by_cases hm : x = -1
      · exact ⟨none, hm, fun b hb => (by cases hb), by unfold oLock; rw [if_pos hm]⟩
      · have hx : isB z x := (b01_1 c15).elim id (fun q => absurd q hm)
        obtain ⟨b, hb, rfl⟩ := isB_s z0 hx
        refine ⟨some b, rfl, fun c hc => (by cases hc; exact hb), ?_⟩
        unfold oLock
        rw [if_neg hm, if_pos hx, bN_nI (by have := z0.1.n10; omega)]
    obtain ⟨o, e1, e2, e3⟩ := e
    exact ⟨_, rfl, by rw [e3], by rw [e3]; rw [e1]; exact z0.setK (e1 ▸ g) (z0.1.lock e2) rfl, g.mo⟩
  · refine V_bipush (v := -2) dX9_lock_18 (by decide) ?_
    refine V_iret rfl dX9_lock_20 (Nat.le_of_ble_eq_true rfl) (Nat.le_of_ble_eq_true rfl) ?_
    have h1 := b01_0 c15
    have e : oLock z x = (-2, z) := by unfold oLock; rw [if_neg (fun q => h1 (Or.inr q)), if_neg (fun q => h1 (Or.inl q))]
    exact ⟨_, rfl, by rw [e], by rw [e]; exact z0, Keep.refl _ _⟩

set_option maxRecDepth 100000 in
theorem c_X9_end (z : St) (x y : Int32) (w : Wd) (z0 : RM z w) : Cc yX9_end mX9_end [.ref 400, .int x, .int y] w (fun r w' => ∃ v, r = some v ∧ (v = .long (oEnd z x y) ∧ RM z w' ∧ Keep moA w w')) := by
  refine Cc.of (by decide) rfl rfl (Nat.le_of_ble_eq_true rfl) (fun X => ?_)
  change V _ X _ 0 [(0, _), (1, _), (2, _)] [] _ (0, 0)
  refine V_iload_n dX9_end_0 rfl rfl ?_
  refine V_i2l dX9_end_1 ?_
  refine V_ldc2 ctX9_122 dX9_end_2 ?_
  first | refine V_aload_n dX9_end_5 rfl rfl ?_ | refine V_aload_nN dX9_end_5 rfl rfl ?_
  refine G_geti (by exact z0.1.1.k _ rfl rfl) fX9_111 dX9_end_6 (by exact z0.1.n) ?_
  refine V_iconst (v := 1) dX9_end_9 (by decide) ?_
  refine V_isub dX9_end_10 ?_
  refine V_i2l dX9_end_11 ?_
  refine V_callS (As := [_, _, _]) (st := _) (in9m x (kN (zK z)) (by have := z0.1.n10; omega) w) kX9_114 ⟨rfl, rfl, rfl⟩ ⟨(Nat.le_of_ble_eq_true rfl), (Nat.le_of_ble_eq_true rfl)⟩ dX9_end_12 rfl rfl (Nat.le_of_ble_eq_true rfl) ⟨(Nat.le_of_ble_eq_true rfl), (Nat.le_of_ble_eq_true rfl)⟩ ?_
  refine V_if_eq (tgt := 28) dX9_end_15 (by decide) (fun c15 => ?_) (fun c15 => ?_)
  · refine V_bipush (v := -2) dX9_end_28 (by decide) ?_
    refine V_callS (As := [_]) (st := _) (c_X9_no _ _) kX9_166 ⟨rfl, rfl, rfl⟩ ⟨(Nat.le_of_ble_eq_true rfl), (Nat.le_of_ble_eq_true rfl)⟩ dX9_end_30 rfl rfl (Nat.le_of_ble_eq_true rfl) ⟨(Nat.le_of_ble_eq_true rfl), (Nat.le_of_ble_eq_true rfl)⟩ ?_
    refine V_lret rfl dX9_end_33 (Nat.le_of_ble_eq_true rfl) (Nat.le_of_ble_eq_true rfl) ?_
    refine ⟨_, rfl, congrArg Value.long ?_, z0, Keep.refl _ _⟩
    unfold oEnd
    first | rw [if_neg (fun q => b01_0 c25 q.2)] | rw [if_neg (fun q => b01_0 c15 q.1)]
    rfl
  · refine V_iload_n dX9_end_18 rfl rfl ?_
    refine V_i2l dX9_end_19 ?_
    refine V_lconst (v := 0) dX9_end_20 (by decide) ?_
    refine V_lconst (v := 1) dX9_end_21 (by decide) ?_
    refine V_callS (As := [_, _, _]) (st := _) (in9 y 0 1 0 1 rfl rfl w) kX9_114 ⟨rfl, rfl, rfl⟩ ⟨(Nat.le_of_ble_eq_true rfl), (Nat.le_of_ble_eq_true rfl)⟩ dX9_end_22 rfl rfl (Nat.le_of_ble_eq_true rfl) ⟨(Nat.le_of_ble_eq_true rfl), (Nat.le_of_ble_eq_true rfl)⟩ ?_
    refine V_if_ne (tgt := 34) dX9_end_25 (by decide) (fun c25 => ?_) (fun c25 => ?_)
    · first | refine V_aload_n dX9_end_34 rfl rfl ?_ | refine V_aload_nN dX9_end_34 rfl rfl ?_
      refine V_callVvr (As := []) (st := _) (c_X9_place (zK z) w z0.1) kX9_147 (by exact z0.1.1.k _ rfl rfl) ⟨rfl, rfl, rfl⟩ ⟨(Nat.le_of_ble_eq_true rfl), (Nat.le_of_ble_eq_true rfl)⟩ dX9_end_35 rfl rfl (Nat.le_of_ble_eq_true rfl) ⟨(Nat.le_of_ble_eq_true rfl), (Nat.le_of_ble_eq_true rfl)⟩ (fun w1 hw1 => ?_)
      obtain ⟨a1, a2⟩ := hw1
      have z1 : RM z w1 := z0.kp a1
      refine V_iload_n dX9_end_38 rfl rfl ?_
      refine V_iconst (v := -1) dX9_end_39 (by decide) ?_
      refine V_icmp_ne (tgt := 61) dX9_end_40 (by decide) (fun c40 => ?_) (fun c40 => ?_)
      · obtain ⟨b, hb, hxb⟩ := isB_s z0 ((b01_1 c15).elim id (fun q => absurd q c40))
        refine V_iload_n dX9_end_61 rfl rfl ?_
        refine V_if_ne (tgt := 74) dX9_end_62 (by decide) (fun c62 => ?_) (fun c62 => ?_)
        · first | refine V_aload_n dX9_end_74 rfl rfl ?_ | refine V_aload_nN dX9_end_74 rfl rfl ?_
          first | refine V_getr (by exact z1.1.1.k _ rfl rfl) fX9_48 dX9_end_75 (by exact (z1.1.1.r 15 rfl (by decide) : _ = some 416)) ?_ | refine V_getrN (by exact z1.1.1.k _ rfl rfl) fX9_48 dX9_end_75 (by exact (z1.1.1.r 15 rfl (by decide) : _ = some 416)) ?_
          refine V_iload_n dX9_end_78 rfl rfl ?_
          refine G_lald (j := b) (by exact z1.1.1.k _ rfl rfl) (by exact hxb) (by exact z1.1.1.lt 416 (m := 10) rfl rfl (by decide) rfl (by have := z0.1.n10; omega)) (by exact z1.1.1.nlt 416 rfl rfl (by decide)) dX9_end_79 (by exact (a2 b hb).2.2.2) ?_
          refine V_lret rfl dX9_end_80 (Nat.le_of_ble_eq_true rfl) (Nat.le_of_ble_eq_true rfl) ?_
          have hnb : x = -1 → ¬ isB z x := fun q h => by rw [q] at h; exact absurd h.1 (by decide)
          refine ⟨_, rfl, congrArg Value.long ?_, z1, a1.mo0⟩
          unfold oEnd
          rw [if_pos ⟨b01_1 c15, b01_1 c25⟩]
          first
            | rw [if_neg (hnb c40), if_pos c44]
            | rw [if_neg (hnb c40), if_neg c44]
            | rw [if_pos ((b01_1 c15).elim id (fun q => absurd q c40)), if_pos c62, hxb, bN_nI (by have := z0.1.n10; omega)]
            | rw [if_pos ((b01_1 c15).elim id (fun q => absurd q c40)), if_neg c62, hxb, bN_nI (by have := z0.1.n10; omega)]
        · first | refine V_aload_n dX9_end_65 rfl rfl ?_ | refine V_aload_nN dX9_end_65 rfl rfl ?_
          first | refine V_getr (by exact z1.1.1.k _ rfl rfl) fX9_45 dX9_end_66 (by exact (z1.1.1.r 14 rfl (by decide) : _ = some 415)) ?_ | refine V_getrN (by exact z1.1.1.k _ rfl rfl) fX9_45 dX9_end_66 (by exact (z1.1.1.r 14 rfl (by decide) : _ = some 415)) ?_
          refine V_iload_n dX9_end_69 rfl rfl ?_
          refine G_lald (j := b) (by exact z1.1.1.k _ rfl rfl) (by exact hxb) (by exact z1.1.1.lt 415 (m := 10) rfl rfl (by decide) rfl (by have := z0.1.n10; omega)) (by exact z1.1.1.nlt 415 rfl rfl (by decide)) dX9_end_70 (by exact (a2 b hb).2.2.1) ?_
          refine V_goto (tgt := 80) dX9_end_71 (by decide) ?_
          refine V_lret rfl dX9_end_80 (Nat.le_of_ble_eq_true rfl) (Nat.le_of_ble_eq_true rfl) ?_
          have hnb : x = -1 → ¬ isB z x := fun q h => by rw [q] at h; exact absurd h.1 (by decide)
          refine ⟨_, rfl, congrArg Value.long ?_, z1, a1.mo0⟩
          unfold oEnd
          rw [if_pos ⟨b01_1 c15, b01_1 c25⟩]
          first
            | rw [if_neg (hnb c40), if_pos c44]
            | rw [if_neg (hnb c40), if_neg c44]
            | rw [if_pos ((b01_1 c15).elim id (fun q => absurd q c40)), if_pos c62, hxb, bN_nI (by have := z0.1.n10; omega)]
            | rw [if_pos ((b01_1 c15).elim id (fun q => absurd q c40)), if_neg c62, hxb, bN_nI (by have := z0.1.n10; omega)]
      · refine V_iload_n dX9_end_43 rfl rfl ?_
        refine V_if_ne (tgt := 54) dX9_end_44 (by decide) (fun c44 => ?_) (fun c44 => ?_)
        · first | refine V_aload_n dX9_end_54 rfl rfl ?_ | refine V_aload_nN dX9_end_54 rfl rfl ?_
          refine G_getl (by exact z1.1.1.k _ rfl rfl) fX9_144 dX9_end_55 (by exact z1.1.ry) ?_
          refine V_goto (tgt := 80) dX9_end_58 (by decide) ?_
          refine V_lret rfl dX9_end_80 (Nat.le_of_ble_eq_true rfl) (Nat.le_of_ble_eq_true rfl) ?_
          have hnb : x = -1 → ¬ isB z x := fun q h => by rw [q] at h; exact absurd h.1 (by decide)
          refine ⟨_, rfl, congrArg Value.long ?_, z1, a1.mo0⟩
          unfold oEnd
          rw [if_pos ⟨b01_1 c15, b01_1 c25⟩]
          first
            | rw [if_neg (hnb c40), if_pos c44]
            | rw [if_neg (hnb c40), if_neg c44]
            | rw [if_pos ((b01_1 c15).elim id (fun q => absurd q c40)), if_pos c62, hxb, bN_nI (by have := z0.1.n10; omega)]
            | rw [if_pos ((b01_1 c15).elim id (fun q => absurd q c40)), if_neg c62, hxb, bN_nI (by have := z0.1.n10; omega)]
        · first | refine V_aload_n dX9_end_47 rfl rfl ?_ | refine V_aload_nN dX9_end_47 rfl rfl ?_
          refine G_getl (by exact z1.1.1.k _ rfl rfl) fX9_140 dX9_end_48 (by exact z1.1.rx) ?_
          refine V_goto (tgt := 80) dX9_end_51 (by decide) ?_
          refine V_lret rfl dX9_end_80 (Nat.le_of_ble_eq_true rfl) (Nat.le_of_ble_eq_true rfl) ?_
          have hnb : x = -1 → ¬ isB z x := fun q h => by rw [q] at h; exact absurd h.1 (by decide)
          refine ⟨_, rfl, congrArg Value.long ?_, z1, a1.mo0⟩
          unfold oEnd
          rw [if_pos ⟨b01_1 c15, b01_1 c25⟩]
          first
            | rw [if_neg (hnb c40), if_pos c44]
            | rw [if_neg (hnb c40), if_neg c44]
            | rw [if_pos ((b01_1 c15).elim id (fun q => absurd q c40)), if_pos c62, hxb, bN_nI (by have := z0.1.n10; omega)]
            | rw [if_pos ((b01_1 c15).elim id (fun q => absurd q c40)), if_neg c62, hxb, bN_nI (by have := z0.1.n10; omega)]
    · refine V_bipush (v := -2) dX9_end_28 (by decide) ?_
      refine V_callS (As := [_]) (st := _) (c_X9_no _ _) kX9_166 ⟨rfl, rfl, rfl⟩ ⟨(Nat.le_of_ble_eq_true rfl), (Nat.le_of_ble_eq_true rfl)⟩ dX9_end_30 rfl rfl (Nat.le_of_ble_eq_true rfl) ⟨(Nat.le_of_ble_eq_true rfl), (Nat.le_of_ble_eq_true rfl)⟩ ?_
      refine V_lret rfl dX9_end_33 (Nat.le_of_ble_eq_true rfl) (Nat.le_of_ble_eq_true rfl) ?_
      refine ⟨_, rfl, congrArg Value.long ?_, z0, Keep.refl _ _⟩
      unfold oEnd
      first | rw [if_neg (fun q => b01_0 c25 q.2)] | rw [if_neg (fun q => b01_0 c15 q.1)]
      rfl

set_option maxRecDepth 100000 in
theorem c_X9_far (z : St) (x : Int32) (p q : Int64) (w : Wd) (z0 : RM z w) (hB : rtB 600 (zK z)) : Cc yX9_far mX9_far [.ref 400, .int x, .long p, .long q] w (fun r w' => ∃ v, r = some v ∧ (v = .long (oFar z x p q) ∧ RM z w' ∧ Keep moA w w')) := by
  refine Cc.of (by decide) rfl rfl (Nat.le_of_ble_eq_true rfl) (fun X => ?_)
  change V _ X _ 0 [(0, _), (1, _), (2, _), (4, _)] [] _ (0, 0)
  by_cases hx : isB z x
  · obtain ⟨b, hb, rfl⟩ := isB_s z0 hx
    have hbN : bN (nI b) = b := bN_nI (by have := z0.1.n10; omega)
    first | refine V_aload_n dX9_far_0 rfl rfl ?_ | refine V_aload_nN dX9_far_0 rfl rfl ?_
    refine V_iload_n dX9_far_1 rfl rfl ?_
    refine V_callV (As := [_]) (st := _) (c_X9_isBone (zK z) _ w z0.1) kX9_132 (by exact z0.1.1.k _ rfl rfl) ⟨rfl, rfl, rfl⟩ ⟨(Nat.le_of_ble_eq_true rfl), (Nat.le_of_ble_eq_true rfl)⟩ dX9_far_2 rfl rfl (Nat.le_of_ble_eq_true rfl) ⟨(Nat.le_of_ble_eq_true rfl), (Nat.le_of_ble_eq_true rfl)⟩ ?_
    refine V_if_eq (tgt := 28) dX9_far_5 (by decide) (fun c5 => False.elim (by exact b01_0 c5 hx)) (fun c5 => ?_)
    refine V_lload_n dX9_far_8 rfl rfl ?_
    refine V_lload dX9_far_9 rfl ?_
    refine V_callS (As := [_, _]) (st := _) (c_X9_isPlace _ _ _) kX9_162 ⟨rfl, rfl, rfl⟩ ⟨(Nat.le_of_ble_eq_true rfl), (Nat.le_of_ble_eq_true rfl)⟩ dX9_far_11 rfl rfl (Nat.le_of_ble_eq_true rfl) ⟨(Nat.le_of_ble_eq_true rfl), (Nat.le_of_ble_eq_true rfl)⟩ ?_
    refine V_if_eq (tgt := 28) dX9_far_14 (by decide) (fun c14 => ?_) (fun c14 => ?_)
    · refine V_bipush (v := -2) dX9_far_28 (by decide) ?_
      refine V_callS (As := [_]) (st := _) (c_X9_no _ _) kX9_166 ⟨rfl, rfl, rfl⟩ ⟨(Nat.le_of_ble_eq_true rfl), (Nat.le_of_ble_eq_true rfl)⟩ dX9_far_30 rfl rfl (Nat.le_of_ble_eq_true rfl) ⟨(Nat.le_of_ble_eq_true rfl), (Nat.le_of_ble_eq_true rfl)⟩ ?_
      refine V_lret rfl dX9_far_33 (Nat.le_of_ble_eq_true rfl) (Nat.le_of_ble_eq_true rfl) ?_
      first
        | (refine ⟨_, rfl, ?_, z0.kp a1, a1.mo0⟩
           unfold oFar
           rw [if_pos ⟨hx, b01_1 c14⟩, hbN])
        | (refine ⟨_, rfl, congrArg Value.long ?_, z0, Keep.refl _ _⟩
           unfold oFar
           rw [if_neg (fun q => b01_0 c14 q.2)]
           rfl)
    · first | refine V_aload_n dX9_far_17 rfl rfl ?_ | refine V_aload_nN dX9_far_17 rfl rfl ?_
      refine V_iload_n dX9_far_18 rfl rfl ?_
      refine V_lload_n dX9_far_19 rfl rfl ?_
      refine V_lload dX9_far_20 rfl ?_
      refine V_callVr (As := [_, _, _]) (st := _) (c_X9_farOf (zK z) b p q w z0.1 hB hb (b01_1 c14).1 (b01_1 c14).2) kX9_170 (by exact z0.1.1.k _ rfl rfl) ⟨rfl, rfl, rfl⟩ ⟨(Nat.le_of_ble_eq_true rfl), (Nat.le_of_ble_eq_true rfl)⟩ dX9_far_22 rfl rfl (Nat.le_of_ble_eq_true rfl) ⟨(Nat.le_of_ble_eq_true rfl), (Nat.le_of_ble_eq_true rfl)⟩ (fun v1 w1 hw1 => ?_)
      obtain ⟨rfl, a1⟩ := hw1
      refine V_goto (tgt := 33) dX9_far_25 (by decide) ?_
      refine V_lret rfl dX9_far_33 (Nat.le_of_ble_eq_true rfl) (Nat.le_of_ble_eq_true rfl) ?_
      first
        | (refine ⟨_, rfl, ?_, z0.kp a1, a1.mo0⟩
           unfold oFar
           rw [if_pos ⟨hx, b01_1 c14⟩, hbN])
        | (refine ⟨_, rfl, congrArg Value.long ?_, z0, Keep.refl _ _⟩
           unfold oFar
           rw [if_neg (fun q => b01_0 c14 q.2)]
           rfl)
  · first | refine V_aload_n dX9_far_0 rfl rfl ?_ | refine V_aload_nN dX9_far_0 rfl rfl ?_
    refine V_iload_n dX9_far_1 rfl rfl ?_
    refine V_callV (As := [_]) (st := _) (c_X9_isBone (zK z) x w z0.1) kX9_132 (by exact z0.1.1.k _ rfl rfl) ⟨rfl, rfl, rfl⟩ ⟨(Nat.le_of_ble_eq_true rfl), (Nat.le_of_ble_eq_true rfl)⟩ dX9_far_2 rfl rfl (Nat.le_of_ble_eq_true rfl) ⟨(Nat.le_of_ble_eq_true rfl), (Nat.le_of_ble_eq_true rfl)⟩ ?_
    refine V_if_eq (tgt := 28) dX9_far_5 (by decide) (fun c5 => ?_) (fun c5 => False.elim (by exact hx (b01_1 c5)))
    refine V_bipush (v := -2) dX9_far_28 (by decide) ?_
    refine V_callS (As := [_]) (st := _) (c_X9_no _ _) kX9_166 ⟨rfl, rfl, rfl⟩ ⟨(Nat.le_of_ble_eq_true rfl), (Nat.le_of_ble_eq_true rfl)⟩ dX9_far_30 rfl rfl (Nat.le_of_ble_eq_true rfl) ⟨(Nat.le_of_ble_eq_true rfl), (Nat.le_of_ble_eq_true rfl)⟩ ?_
    refine V_lret rfl dX9_far_33 (Nat.le_of_ble_eq_true rfl) (Nat.le_of_ble_eq_true rfl) ?_
    exact ⟨_, rfl, congrArg Value.long (by unfold oFar; rw [if_neg (fun q => hx q.1)]; rfl), z0, Keep.refl _ _⟩

set_option maxRecDepth 100000 in
theorem c_X9_turn (z : St) (x y : Int32) (w : Wd) (z0 : RM z w) : Cc yX9_turn mX9_turn [.ref 400, .int x, .int y] w (fun r w' => ∃ v, r = some v ∧ (v = .int (oTurn z x y).1 ∧ RM (oTurn z x y).2 w' ∧ Keep moA w w')) := by
  refine Cc.of (by decide) rfl rfl (Nat.le_of_ble_eq_true rfl) (fun X => ?_)
  change V _ X _ 0 [(0, _), (1, _), (2, _)] [] _ (0, 0)
  by_cases hx : isB z x
  · obtain ⟨b, hb, rfl⟩ := isB_s z0 hx
    have hbN : bN (nI b) = b := bN_nI (by have := z0.1.n10; omega)
    first | refine V_aload_n dX9_turn_0 rfl rfl ?_ | refine V_aload_nN dX9_turn_0 rfl rfl ?_
    refine V_iload_n dX9_turn_1 rfl rfl ?_
    refine V_callV (As := [_]) (st := _) (c_X9_isBone (zK z) _ w z0.1) kX9_132 (by exact z0.1.1.k _ rfl rfl) ⟨rfl, rfl, rfl⟩ ⟨(Nat.le_of_ble_eq_true rfl), (Nat.le_of_ble_eq_true rfl)⟩ dX9_turn_2 rfl rfl (Nat.le_of_ble_eq_true rfl) ⟨(Nat.le_of_ble_eq_true rfl), (Nat.le_of_ble_eq_true rfl)⟩ ?_
    refine V_if_eq (tgt := 20) dX9_turn_5 (by decide) (fun c5 => False.elim (by exact b01_0 c5 hx)) (fun c5 => ?_)
    refine V_iload_n dX9_turn_8 rfl rfl ?_
    refine V_i2l dX9_turn_9 ?_
    refine V_lconst (v := 0) dX9_turn_10 (by decide) ?_
    refine V_ldc2 ctX9_126 dX9_turn_11 ?_
    refine V_callS (As := [_, _, _]) (st := _) (in9 y 0 35 0 35 rfl rfl w) kX9_114 ⟨rfl, rfl, rfl⟩ ⟨(Nat.le_of_ble_eq_true rfl), (Nat.le_of_ble_eq_true rfl)⟩ dX9_turn_14 rfl rfl (Nat.le_of_ble_eq_true rfl) ⟨(Nat.le_of_ble_eq_true rfl), (Nat.le_of_ble_eq_true rfl)⟩ ?_
    refine V_if_ne (tgt := 23) dX9_turn_17 (by decide) (fun c17 => ?_) (fun c17 => ?_)
    · have hy := b01_1 c17
      have hy36 : bN y < 36 := by unfold bN; omega
      refine V_sub (L' := [(0, .ref 400), (1, .int (nI b)), (2, .int (nI (bN y)))]) (by rw [← i32_nat hy.1]; rfl) ?_
      first | refine V_aload_n dX9_turn_23 rfl rfl ?_ | refine V_aload_nN dX9_turn_23 rfl rfl ?_
      refine V_iload_n dX9_turn_24 rfl rfl ?_
      refine V_iload_n dX9_turn_25 rfl rfl ?_
      refine V_callV (As := [_, _]) (st := _) (c_X9_isWithin (zK z) b (bN y) w z0.1 hb hy36) kX9_100 (by exact z0.1.1.k _ rfl rfl) ⟨rfl, rfl, rfl⟩ ⟨(Nat.le_of_ble_eq_true rfl), (Nat.le_of_ble_eq_true rfl)⟩ dX9_turn_26 rfl rfl (Nat.le_of_ble_eq_true rfl) ⟨(Nat.le_of_ble_eq_true rfl), (Nat.le_of_ble_eq_true rfl)⟩ ?_
      refine V_if_ne (tgt := 35) dX9_turn_29 (by decide) (fun c29 => ?_) (fun c29 => ?_)
      · first | refine V_aload_n dX9_turn_35 rfl rfl ?_ | refine V_aload_nN dX9_turn_35 rfl rfl ?_
        first | refine V_getr (by exact z0.1.1.k _ rfl rfl) fX9_31 dX9_turn_36 (by exact (z0.1.1.r 8 rfl (by decide) : _ = some 409)) ?_ | refine V_getrN (by exact z0.1.1.k _ rfl rfl) fX9_31 dX9_turn_36 (by exact (z0.1.1.r 8 rfl (by decide) : _ = some 409)) ?_
        refine V_iload_n dX9_turn_39 rfl rfl ?_
        refine G_iald (j := b) (by exact z0.1.1.k _ rfl rfl) (by rfl) (by exact z0.1.1.lt 409 (m := 10) rfl rfl (by decide) rfl (by have := z0.1.n10; omega)) (by exact z0.1.1.nlt 409 rfl rfl (by decide)) dX9_turn_40 (by exact z0.1.trn hb) ?_
        refine S_istore_n (L' := [(0, _), (1, _), (2, _), (3, _)]) dX9_turn_41 rfl rfl rfl ?_
        first | refine V_aload_n dX9_turn_42 rfl rfl ?_ | refine V_aload_nN dX9_turn_42 rfl rfl ?_
        refine V_callVvr (As := []) (st := _) (c_X9_hold (zK z) w z0.1) kX9_156 (by exact z0.1.1.k _ rfl rfl) ⟨rfl, rfl, rfl⟩ ⟨(Nat.le_of_ble_eq_true rfl), (Nat.le_of_ble_eq_true rfl)⟩ dX9_turn_43 rfl rfl (Nat.le_of_ble_eq_true rfl) ⟨(Nat.le_of_ble_eq_true rfl), (Nat.le_of_ble_eq_true rfl)⟩ (fun w1 hw1 => ?_)
        obtain ⟨a1, a2, a3⟩ := hw1
        have h1 : MSk (zK z) w1 := z0.1.kp a1 (fun _ _ q => q.elim) (fun a j q => by unfold hoJ at q; unfold msJ; omega)
        first | refine V_aload_n dX9_turn_46 rfl rfl ?_ | refine V_aload_nN dX9_turn_46 rfl rfl ?_
        first | refine V_getr (by exact h1.1.k _ rfl rfl) fX9_31 dX9_turn_47 (by exact (h1.1.r 8 rfl (by decide) : _ = some 409)) ?_ | refine V_getrN (by exact h1.1.k _ rfl rfl) fX9_31 dX9_turn_47 (by exact (h1.1.r 8 rfl (by decide) : _ = some 409)) ?_
        refine V_iload_n dX9_turn_50 rfl rfl ?_
        refine V_iload_n dX9_turn_51 rfl rfl ?_
        refine G_iast (j := b) (by exact h1.1.k _ rfl rfl) (by rfl) (by exact h1.1.lt 409 (m := 10) rfl rfl (by decide) rfl (by have := z0.1.n10; omega)) (by exact h1.1.nlt 409 rfl rfl (by decide)) dX9_turn_52 ?_
        have h2 : MSk (kT (zK z) (va_up (kTrn (zK z)) b (bN y))) (sI w1 409 b (nI (bN y))) := h1.kU hy36
        first | refine V_aload_n dX9_turn_53 rfl rfl ?_ | refine V_aload_nN dX9_turn_53 rfl rfl ?_
        refine V_callVvr (As := []) (st := _) (c_X9_settle _ (oldX (zK z)) (oldY (zK z)) _ h2 (fun _ _ => ⟨a2, a3⟩)) kX9_159 (by exact h2.1.k _ rfl rfl) ⟨rfl, rfl, rfl⟩ ⟨(Nat.le_of_ble_eq_true rfl), (Nat.le_of_ble_eq_true rfl)⟩ dX9_turn_54 rfl rfl (Nat.le_of_ble_eq_true rfl) ⟨(Nat.le_of_ble_eq_true rfl), (Nat.le_of_ble_eq_true rfl)⟩ (fun w2 hw2 => ?_)
        obtain ⟨b1, b2⟩ := hw2
        refine V_iload_n dX9_turn_57 rfl rfl ?_
        refine V_iret rfl dX9_turn_58 (Nat.le_of_ble_eq_true rfl) (Nat.le_of_ble_eq_true rfl) ?_
        have e : oTurn z (nI b) y = (nI (kTrn (zK z) b), pK z (setP (zK z) (va_up (kTrn (zK z)) b (bN y)))) := by
          unfold oTurn
          rw [if_pos ⟨hx, hy⟩, hbN, if_pos (b01_1 c29)]
        have g : Kp skI skJ w w2 := ((a1.mono (fun _ _ q => q.elim) (fun a j q => by unfold hoJ at q; unfold skJ; omega)).trans (Kp.sI w1 (by unfold skI; omega) _)).trans (b1.mono (fun _ _ q => q.elim) (fun a j q => by unfold stJ at q; unfold skJ; omega))
        exact ⟨_, rfl, by rw [e], by rw [e]; exact z0.setK g b2 (stl_n _ _ _), g.mo⟩
      · refine V_bipush (v := -3) dX9_turn_32 (by decide) ?_
        refine V_iret rfl dX9_turn_34 (Nat.le_of_ble_eq_true rfl) (Nat.le_of_ble_eq_true rfl) ?_
        have e : oTurn z (nI b) y = (-3, z) := by
          unfold oTurn
          rw [if_pos ⟨hx, hy⟩, hbN, if_neg (b01_0 c29)]
        exact ⟨_, rfl, by rw [e], by rw [e]; exact z0, Keep.refl _ _⟩
    · refine V_bipush (v := -2) dX9_turn_20 (by decide) ?_
      refine V_iret rfl dX9_turn_22 (Nat.le_of_ble_eq_true rfl) (Nat.le_of_ble_eq_true rfl) ?_
      exact ⟨_, rfl, by unfold oTurn; rw [if_neg (fun q => b01_0 c17 q.2)], by unfold oTurn; rw [if_neg (fun q => b01_0 c17 q.2)]; exact z0, Keep.refl _ _⟩
  · first | refine V_aload_n dX9_turn_0 rfl rfl ?_ | refine V_aload_nN dX9_turn_0 rfl rfl ?_
    refine V_iload_n dX9_turn_1 rfl rfl ?_
    refine V_callV (As := [_]) (st := _) (c_X9_isBone (zK z) x w z0.1) kX9_132 (by exact z0.1.1.k _ rfl rfl) ⟨rfl, rfl, rfl⟩ ⟨(Nat.le_of_ble_eq_true rfl), (Nat.le_of_ble_eq_true rfl)⟩ dX9_turn_2 rfl rfl (Nat.le_of_ble_eq_true rfl) ⟨(Nat.le_of_ble_eq_true rfl), (Nat.le_of_ble_eq_true rfl)⟩ ?_
    refine V_if_eq (tgt := 20) dX9_turn_5 (by decide) (fun c5 => ?_) (fun c5 => False.elim (by exact hx (b01_1 c5)))
    refine V_bipush (v := -2) dX9_turn_20 (by decide) ?_
    refine V_iret rfl dX9_turn_22 (Nat.le_of_ble_eq_true rfl) (Nat.le_of_ble_eq_true rfl) ?_
    exact ⟨_, rfl, by unfold oTurn; rw [if_neg (fun q => hx q.1)], by unfold oTurn; rw [if_neg (fun q => hx q.1)]; exact z0, Keep.refl _ _⟩
