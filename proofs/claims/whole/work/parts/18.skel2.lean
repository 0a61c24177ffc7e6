/-! Skeleton: rounds, digest -/
set_option maxRecDepth 100000 in
theorem c_X6_reachByRounds (k : Sk) (b n : Nat) (x y : Int64) (w : Wd) (h : SkP k w) (hb : b < kN k) (hn : n ≤ 20) : Cc yX6_reachByRounds mX6_reachByRounds [.ref 21, .ref (300 + b), .long x, .long y, .int (nI n)] w (fun r w' => r = none ∧ Keep boA w w' ∧ SkP (rndsG b x y n k true) w') := by
  refine Cc.of (by decide) rfl rfl (Nat.le_of_ble_eq_true rfl) (fun X => ?_)
  change V _ X _ 0 [(0, _), (1, _), (2, _), (4, _), (6, _)] [] _ (0, 0)
  have loop : ∀ (d j : Nat) (k1 : Sk) (c : Bool) (w1 : Wd), j + d = n → Keep boA w w1 → SkP k1 w1 → SameB k k1 → V mX6_reachByRounds X (mq mX6_reachByRounds X (fun r w' => r = none ∧ Keep boA w w' ∧ SkP (rndsG b x y d k1 c) w')) 6 [(0, .ref 21), (1, .ref (300 + b)), (2, .long x), (4, .long y), (6, .int (nI n)), (7, .int (bI c)), (8, .int (nI j))] [] w1 (0, 0) := by
    intro d
    induction d with
    | zero =>
      intro j k1 c w1 hd g1 h1 hs
      refine V_iload dX6_reachByRounds_6 rfl ?_
      refine V_iload dX6_reachByRounds_8 rfl ?_
      refine V_icmp_ge (tgt := 34) dX6_reachByRounds_10 (by decide) (fun c10 => ?_) (fun c10 => False.elim (by exact c10 (nI_le (by omega) (by omega))))
      refine V_vret rfl dX6_reachByRounds_34 (Nat.le_of_ble_eq_true rfl) (Nat.le_of_ble_eq_true rfl) ?_
      exact ⟨rfl, g1, h1⟩
    | succ d ih =>
      intro j k1 c w1 hd g1 h1 hs
      have hbz : b < kN k1 := by rw [hs.1]; exact hb
      cases c with
      | false =>
        refine V_iload dX6_reachByRounds_6 rfl ?_
        refine V_iload dX6_reachByRounds_8 rfl ?_
        refine V_icmp_ge (tgt := 34) dX6_reachByRounds_10 (by decide) (fun c10 => False.elim (by exact nI_ge (a := j) (b := n) (by omega) (by omega) c10)) (fun c10 => ?_)
        refine V_iload dX6_reachByRounds_13 rfl ?_
        refine V_if_eq (tgt := 34) dX6_reachByRounds_15 (by decide) (fun c15 => ?_) (fun c15 => False.elim (by exact c15 rfl))
        refine V_vret rfl dX6_reachByRounds_34 (Nat.le_of_ble_eq_true rfl) (Nat.le_of_ble_eq_true rfl) ?_
        exact ⟨rfl, g1, h1⟩
      | true =>
        rw [rndsG, if_pos rfl]
        refine V_iload dX6_reachByRounds_6 rfl ?_
        refine V_iload dX6_reachByRounds_8 rfl ?_
        refine V_icmp_ge (tgt := 34) dX6_reachByRounds_10 (by decide) (fun c10 => False.elim (by exact nI_ge (a := j) (b := n) (by omega) (by omega) c10)) (fun c10 => ?_)
        refine V_iload dX6_reachByRounds_13 rfl ?_
        refine V_if_eq (tgt := 34) dX6_reachByRounds_15 (by decide) (fun c15 => False.elim (by exact absurd c15 (by decide))) (fun c15 => ?_)
        first | refine V_aload_n dX6_reachByRounds_18 rfl rfl ?_ | refine V_aload_nN dX6_reachByRounds_18 rfl rfl ?_
        first | refine V_aload_n dX6_reachByRounds_19 rfl rfl ?_ | refine V_aload_nN dX6_reachByRounds_19 rfl rfl ?_
        refine V_lload_n dX6_reachByRounds_20 rfl rfl ?_
        refine V_lload dX6_reachByRounds_21 rfl ?_
        refine V_callVr (As := [_, _, _]) (st := _) (c_X6_reachByRound k1 b x y w1 h1 hbz) kX6_96 (by first | exact h1.1.1.k _ rfl rfl | exact h1.1.kb hbz) ⟨rfl, rfl, rfl⟩ ⟨(Nat.le_of_ble_eq_true rfl), (Nat.le_of_ble_eq_true rfl)⟩ dX6_reachByRounds_23 rfl rfl (Nat.le_of_ble_eq_true rfl) ⟨(Nat.le_of_ble_eq_true rfl), (Nat.le_of_ble_eq_true rfl)⟩ (fun v w2 hw2 => ?_)
        obtain ⟨rfl, a1, h2⟩ := hw2
        refine S_istore (L' := [(0, _), (1, _), (2, _), (4, _), (6, _), (7, _), (8, _)]) dX6_reachByRounds_26 rfl rfl ?_
        refine S_iinc (L' := [(0, _), (1, _), (2, _), (4, _), (6, _), (7, _), (8, _)]) dX6_reachByRounds_28 rfl rfl rfl rfl ?_
        rw [nI_inc]
        refine V_goto (tgt := 6) dX6_reachByRounds_31 (by decide) ?_
        exact ih (j + 1) _ _ w2 (by omega) (g1.trans a1) h2 (rndG_same b x y k 10 _ _ _ hs)
  refine V_iconst (v := 1) dX6_reachByRounds_0 (by decide) ?_
  refine S_istore (L' := [(0, _), (1, _), (2, _), (4, _), (6, _), (7, _)]) dX6_reachByRounds_1 rfl rfl ?_
  refine V_iconst (v := 0) dX6_reachByRounds_3 (by decide) ?_
  refine S_istore (L' := [(0, _), (1, _), (2, _), (4, _), (6, _), (7, _), (8, _)]) dX6_reachByRounds_4 rfl rfl ?_
  exact loop n 0 k true w (by omega) (Keep.refl _ _) h ⟨rfl, rfl, rfl, rfl, rfl, rfl⟩

/-- the bones' part of the digest -/
def dgB (k : Sk) (h : Int64) : Nat → Int64
  | 0 => h
  | b + 1 => 31 * (31 * (31 * dgB k h b + (nI (kTrn k b)).toInt64) + (pos k b).2.2.1) + (pos k b).2.2.2

set_option maxRecDepth 100000 in
theorem c_X6_digestOn (k : Sk) (z : Int64) (w : Wd) (h : SkP k w) : Cc yX6_digestOn mX6_digestOn [.ref 21, .long z] w (fun r w' => r = some (.long (dgB k z (kN k))) ∧ w' = w) := by
  refine Cc.of (by decide) rfl rfl (Nat.le_of_ble_eq_true rfl) (fun X => ?_)
  change V _ X _ 0 [(0, _), (1, _)] [] _ (0, 0)
  have loop : ∀ (d b : Nat), b + d = kN k → V mX6_digestOn X (mq mX6_digestOn X (fun r w' => r = some (.long (dgB k z (kN k))) ∧ w' = w)) 5 [(0, .ref 21), (3, .long (dgB k z b)), (5, .int (nI b))] [] w (0, 0) := by
    intro d
    induction d with
    | zero =>
      intro b hd
      obtain rfl : b = kN k := hd
      refine V_iload dX6_digestOn_5 rfl ?_
      first | refine V_aload_n dX6_digestOn_7 rfl rfl ?_ | refine V_aload_nN dX6_digestOn_7 rfl rfl ?_
      refine G_geti (by first | exact h.1.1.k _ rfl rfl | exact h.1.kb hb) fX6_21 dX6_digestOn_8 (by first | exact h.1.size | exact (h.1.bone hb).2.2.2.2.2.2 | exact (h.2 b hb).2.2.2.2.1 | exact (h.2 b hb).2.2.2.2.2) ?_
      refine V_icmp_ge (tgt := 72) dX6_digestOn_11 (by decide) (fun c11 => ?_) (fun c11 => False.elim (by exact c11 (nI_le (Nat.le_refl _) (by have := h.1.n10; omega))))
      refine V_lload_n dX6_digestOn_72 rfl rfl ?_
      refine V_lret rfl dX6_digestOn_73 (Nat.le_of_ble_eq_true rfl) (Nat.le_of_ble_eq_true rfl) ?_
      exact ⟨rfl, rfl⟩
    | succ d ih =>
      intro b hd
      have hb : b < kN k := by omega
      refine V_iload dX6_digestOn_5 rfl ?_
      first | refine V_aload_n dX6_digestOn_7 rfl rfl ?_ | refine V_aload_nN dX6_digestOn_7 rfl rfl ?_
      refine G_geti (by first | exact h.1.1.k _ rfl rfl | exact h.1.kb hb) fX6_21 dX6_digestOn_8 (by first | exact h.1.size | exact (h.1.bone hb).2.2.2.2.2.2 | exact (h.2 b hb).2.2.2.2.1 | exact (h.2 b hb).2.2.2.2.2) ?_
      refine V_icmp_ge (tgt := 72) dX6_digestOn_11 (by decide) (fun c11 => False.elim (by exact nI_ge (a := b) (b := kN k) (by omega) (by have := h.1.n10; omega) c11)) (fun c11 => ?_)
      refine V_ldc2 ctX6_100 dX6_digestOn_14 ?_
      refine V_lload_n dX6_digestOn_17 rfl rfl ?_
      refine V_lmul dX6_digestOn_18 ?_
      first | refine V_aload_n dX6_digestOn_19 rfl rfl ?_ | refine V_aload_nN dX6_digestOn_19 rfl rfl ?_
      first | refine V_getr (by first | exact h.1.1.k _ rfl rfl | exact h.1.kb hb) fX6_11 dX6_digestOn_20 (by first | exact h.1.1.r _ _ rfl | exact h.1.rb hb) ?_ | refine V_getrN (by first | exact h.1.1.k _ rfl rfl | exact h.1.kb hb) fX6_11 dX6_digestOn_20 (by first | exact h.1.1.r _ _ rfl | exact h.1.rb hb) ?_
      refine V_iload dX6_digestOn_23 rfl ?_
      refine G_aald14 (j := b) (by first | exact h.1.1.k _ rfl rfl | exact h.1.kb hb) (by rfl) (by rw [h.1.1.n 26 rfl rfl]; show b < 10; have := h.1.n10; omega) (by rw [h.1.1.n 26 rfl rfl]; decide) (by first | exact h.1.1.r _ _ rfl | exact h.1.rb hb) dX6_digestOn_25 ?_
      refine G_geti (by first | exact h.1.1.k _ rfl rfl | exact h.1.kb hb) fX6_51 dX6_digestOn_26 (by first | exact h.1.size | exact (h.1.bone hb).2.2.2.2.2.2 | exact (h.2 b hb).2.2.2.2.1 | exact (h.2 b hb).2.2.2.2.2) ?_
      refine V_i2l dX6_digestOn_29 ?_
      refine V_ladd dX6_digestOn_30 ?_
      refine S_lstore_n (L' := [(0, _), (3, _), (5, _)]) dX6_digestOn_31 rfl rfl rfl ?_
      refine V_ldc2 ctX6_100 dX6_digestOn_32 ?_
      refine V_lload_n dX6_digestOn_35 rfl rfl ?_
      refine V_lmul dX6_digestOn_36 ?_
      first | refine V_aload_n dX6_digestOn_37 rfl rfl ?_ | refine V_aload_nN dX6_digestOn_37 rfl rfl ?_
      first | refine V_getr (by first | exact h.1.1.k _ rfl rfl | exact h.1.kb hb) fX6_11 dX6_digestOn_38 (by first | exact h.1.1.r _ _ rfl | exact h.1.rb hb) ?_ | refine V_getrN (by first | exact h.1.1.k _ rfl rfl | exact h.1.kb hb) fX6_11 dX6_digestOn_38 (by first | exact h.1.1.r _ _ rfl | exact h.1.rb hb) ?_
      refine V_iload dX6_digestOn_41 rfl ?_
      refine G_aald14 (j := b) (by first | exact h.1.1.k _ rfl rfl | exact h.1.kb hb) (by rfl) (by rw [h.1.1.n 26 rfl rfl]; show b < 10; have := h.1.n10; omega) (by rw [h.1.1.n 26 rfl rfl]; decide) (by first | exact h.1.1.r _ _ rfl | exact h.1.rb hb) dX6_digestOn_43 ?_
      refine G_getl (by first | exact h.1.1.k _ rfl rfl | exact h.1.kb hb) fX6_45 dX6_digestOn_44 (by first | exact h.1.size | exact (h.1.bone hb).2.2.2.2.2.2 | exact (h.2 b hb).2.2.2.2.1 | exact (h.2 b hb).2.2.2.2.2) ?_
      refine V_ladd dX6_digestOn_47 ?_
      refine S_lstore_n (L' := [(0, _), (3, _), (5, _)]) dX6_digestOn_48 rfl rfl rfl ?_
      refine V_ldc2 ctX6_100 dX6_digestOn_49 ?_
      refine V_lload_n dX6_digestOn_52 rfl rfl ?_
      refine V_lmul dX6_digestOn_53 ?_
      first | refine V_aload_n dX6_digestOn_54 rfl rfl ?_ | refine V_aload_nN dX6_digestOn_54 rfl rfl ?_
      first | refine V_getr (by first | exact h.1.1.k _ rfl rfl | exact h.1.kb hb) fX6_11 dX6_digestOn_55 (by first | exact h.1.1.r _ _ rfl | exact h.1.rb hb) ?_ | refine V_getrN (by first | exact h.1.1.k _ rfl rfl | exact h.1.kb hb) fX6_11 dX6_digestOn_55 (by first | exact h.1.1.r _ _ rfl | exact h.1.rb hb) ?_
      refine V_iload dX6_digestOn_58 rfl ?_
      refine G_aald14 (j := b) (by first | exact h.1.1.k _ rfl rfl | exact h.1.kb hb) (by rfl) (by rw [h.1.1.n 26 rfl rfl]; show b < 10; have := h.1.n10; omega) (by rw [h.1.1.n 26 rfl rfl]; decide) (by first | exact h.1.1.r _ _ rfl | exact h.1.rb hb) dX6_digestOn_60 ?_
      refine G_getl (by first | exact h.1.1.k _ rfl rfl | exact h.1.kb hb) fX6_48 dX6_digestOn_61 (by first | exact h.1.size | exact (h.1.bone hb).2.2.2.2.2.2 | exact (h.2 b hb).2.2.2.2.1 | exact (h.2 b hb).2.2.2.2.2) ?_
      refine V_ladd dX6_digestOn_64 ?_
      refine S_lstore_n (L' := [(0, _), (3, _), (5, _)]) dX6_digestOn_65 rfl rfl rfl ?_
      refine S_iinc (L' := [(0, _), (3, _), (5, _)]) dX6_digestOn_66 rfl rfl rfl rfl ?_
      rw [nI_inc]
      refine V_goto (tgt := 5) dX6_digestOn_69 (by decide) ?_
      exact ih (b + 1) (by omega)
  refine V_lload_n dX6_digestOn_0 rfl rfl ?_
  refine S_lstore_n (L' := [(0, _), (3, _)]) dX6_digestOn_1 rfl rfl rfl ?_
  refine V_iconst (v := 0) dX6_digestOn_2 (by decide) ?_
  refine S_istore (L' := [(0, _), (3, _), (5, _)]) dX6_digestOn_3 rfl rfl ?_
  exact loop (kN k) 0 (by omega)
