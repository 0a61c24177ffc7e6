/-! Graph: keepPath, findWalk -/
abbrev ptA (a : Nat) : Prop := a = 24 ∨ a = 29
/-- the path that the class holds -/
def RPt (pn : Nat) (sq : Nat → Option Nat) (I : Nat → Nat → Int32) : Prop := I 24 3 = nI pn ∧ pn ≤ 180 ∧ ∀ n v, n < pn → sq n = some v → I 29 n = nI v
theorem pnG_le (F : Nat → Option Nat) (a g : Nat) : ∀ d n, pnG F a g d n ≤ n + d
  | 0, n => Nat.le_refl _
  | d + 1, n => by
    rw [pnG]
    split
    · omega
    · have := pnG_le F a g d (n + 1); omega
theorem sqF_lt {F : Nat → Option Nat} {a g : Nat} (ha : a < 180) (hF : ∀ v u, F v = some u → u < 180) : ∀ n v, sqF F a g n = some v → v < 180
  | 0, v, h => by cases h; exact ha
  | n + 1, v, h => by
    rw [sqF] at h
    split at h
    · cases h
    · split at h
      · cases h
      · exact hF _ _ h

set_option maxRecDepth 100000 in
theorem c_X3_keepPath_n (a g : Nat) (w : Wd) (lx : LayX w) (hw : wI w 24 1 = -1) : Cc yX3_keepPath mX3_keepPath [.ref 24, .int (nI a), .int (nI g)] w (fun r w' => r = none ∧ w' = sI w 24 3 0) := by
  refine Cc.of (by decide) rfl rfl (Nat.le_of_ble_eq_true rfl) (fun X => ?_)
  change V _ X _ 0 [(0, _), (1, _), (2, _)] [] _ (0, 0)
  first | refine V_aload_n dX3_keepPath_0 rfl rfl ?_ | refine V_aload_nN dX3_keepPath_0 rfl rfl ?_
  refine V_iconst (v := 0) dX3_keepPath_1 (by decide) ?_
  refine V_puti (by exact lx.k _ rfl rfl) pfX3_82 (fun h => nomatch h) dX3_keepPath_2 ⟨rfl, rfl⟩ ?_
  first | refine V_aload_n dX3_keepPath_5 rfl rfl ?_ | refine V_aload_nN dX3_keepPath_5 rfl rfl ?_
  refine G_geti (by exact lx.k _ rfl rfl) fX3_15 dX3_keepPath_6 (by exact (rdI_ne (by decide)).trans hw) ?_
  refine V_iconst (v := -1) dX3_keepPath_9 (by decide) ?_
  refine V_icmp_ne (tgt := 14) dX3_keepPath_10 (by decide) (fun c10 => False.elim (by exact c10 rfl)) (fun c10 => ?_)
  refine V_vret rfl dX3_keepPath_13 (Nat.le_of_ble_eq_true rfl) (Nat.le_of_ble_eq_true rfl) ?_
  exact ⟨rfl, rfl⟩

set_option maxRecDepth 100000 in
theorem c_X3_keepPath_s (F : Nat → Option Nat) (a g : Nat) (w : Wd) (lx0 : LayX w) (hw : ¬ wI w 24 1 = -1) (ha : a < 180) (hg : g < 180) (hFo : ∀ v, v < 180 → wI w 32 v = oI (F v)) (hF : ∀ v u, F v = some u → u < 180) : Cc yX3_keepPath mX3_keepPath [.ref 24, .int (nI a), .int (nI g)] w (fun r w' => r = none ∧ Keep ptA w w' ∧ (∀ j, j ≠ 3 → wI w' 24 j = wI w 24 j) ∧ RPt (pnG F a g 180 0) (sqF F a g) (wI w')) := by
  have lx := lx0
  refine Cc.of (by decide) rfl rfl (Nat.le_of_ble_eq_true rfl) (fun X => ?_)
  change V _ X _ 0 [(0, _), (1, _), (2, _)] [] _ (0, 0)
  have loop : ∀ (d n : Nat) (w1 : Wd), n + d = 180 → Keep ptA w w1 → (∀ j, j ≠ 3 → wI w1 24 j = wI w 24 j) → wI w1 24 3 = nI n → (∀ m v, m < n → sqF F a g m = some v → wI w1 29 m = nI v) → V mX3_keepPath X (mq mX3_keepPath X (fun r w' => r = none ∧ Keep ptA w w' ∧ (∀ j, j ≠ 3 → wI w' 24 j = wI w 24 j) ∧ RPt (pnG F a g d n) (sqF F a g) (wI w'))) 19 [(0, .ref 24), (2, .int (nI g)), (3, .int (oI (sqF F a g n))), (4, .int (nI n))] [] w1 (0, 0) := by
    intro d
    induction d with
    | zero =>
      intro n w1 hd g1 g2 g3 g4
      have lx : LayX w1 := lx0.keep g1
      obtain rfl : n = 180 := hd
      refine V_iload dX3_keepPath_19 rfl ?_
      refine V_sipush (v := 180) dX3_keepPath_21 (by decide) ?_
      refine V_icmp_ge (tgt := 70) dX3_keepPath_24 (by decide) (fun c24 => ?_) (fun c24 => False.elim (by exact c24 (by decide)))
      refine V_vret rfl dX3_keepPath_70 (Nat.le_of_ble_eq_true rfl) (Nat.le_of_ble_eq_true rfl) ?_
      exact ⟨rfl, g1, g2, g3, Nat.le_refl _, g4⟩
    | succ d ih =>
      intro n w1 hd g1 g2 g3 g4
      have lx : LayX w1 := lx0.keep g1
      cases hsq : sqF F a g n with
      | none =>
        rw [pnG, hsq]
        refine V_iload dX3_keepPath_19 rfl ?_
        refine V_sipush (v := 180) dX3_keepPath_21 (by decide) ?_
        refine V_icmp_ge (tgt := 70) dX3_keepPath_24 (by decide) (fun c24 => False.elim (by exact nI_ge (a := n) (b := 180) (by omega) (by decide) c24)) (fun c24 => ?_)
        refine V_iload_n dX3_keepPath_27 rfl rfl ?_
        refine V_iconst (v := -1) dX3_keepPath_28 (by decide) ?_
        refine V_icmp_eq (tgt := 70) dX3_keepPath_29 (by decide) (fun c29 => ?_) (fun c29 => False.elim (by exact c29 rfl))
        refine V_vret rfl dX3_keepPath_70 (Nat.le_of_ble_eq_true rfl) (Nat.le_of_ble_eq_true rfl) ?_
        exact ⟨rfl, g1, g2, g3, by show n ≤ 180; omega, g4⟩
      | some v =>
        have hv : v < 180 := sqF_lt ha hF n v hsq
        rw [pnG, hsq]
        change V _ _ _ 19 [(0, _), (2, _), (3, .int (nI v)), (4, _)] [] _ _
        by_cases hvg : v = g
        · refine V_iload dX3_keepPath_19 rfl ?_
          refine V_sipush (v := 180) dX3_keepPath_21 (by decide) ?_
          refine V_icmp_ge (tgt := 70) dX3_keepPath_24 (by decide) (fun c24 => False.elim (by exact nI_ge (a := n) (b := 180) (by omega) (by decide) c24)) (fun c24 => ?_)
          refine V_iload_n dX3_keepPath_27 rfl rfl ?_
          refine V_iconst (v := -1) dX3_keepPath_28 (by decide) ?_
          refine V_icmp_eq (tgt := 70) dX3_keepPath_29 (by decide) (fun c29 => False.elim (by exact absurd (oI_m1 (o := some v) (fun m e => by cases e; omega) c29) (by simp))) (fun c29 => ?_)
          first | refine V_aload_n dX3_keepPath_32 rfl rfl ?_ | refine V_aload_nN dX3_keepPath_32 rfl rfl ?_
          first | refine V_getr (by exact lx.k _ rfl rfl) fX3_18 dX3_keepPath_33 (by exact lx.r _ _ rfl) ?_ | refine V_getrN (by exact lx.k _ rfl rfl) fX3_18 dX3_keepPath_33 (by exact lx.r _ _ rfl) ?_
          refine V_iload dX3_keepPath_36 rfl ?_
          refine V_iload_n dX3_keepPath_38 rfl rfl ?_
          refine G_iast (j := n) (by exact lx.k _ rfl rfl) (by rfl) (by exact Nat.lt_of_lt_of_eq (show n < 180 by omega) (lx.n 29 rfl rfl).symm) (by first | exact Nat.lt_of_le_of_lt (Nat.le_of_eq (lx.n 29 rfl rfl)) (by decide) | exact Nat.lt_of_le_of_lt (Nat.le_of_eq (lx.n 30 rfl rfl)) (by decide) | exact Nat.lt_of_le_of_lt (Nat.le_of_eq (lx.n 31 rfl rfl)) (by decide) | exact Nat.lt_of_le_of_lt (Nat.le_of_eq (lx.n 32 rfl rfl)) (by decide) | exact Nat.lt_of_le_of_lt (Nat.le_of_eq (lx.n 33 rfl rfl)) (by decide)) dX3_keepPath_39 ?_
          first | refine V_aload_n dX3_keepPath_40 rfl rfl ?_ | refine V_aload_nN dX3_keepPath_40 rfl rfl ?_
          refine V_iload dX3_keepPath_41 rfl ?_
          refine V_iconst (v := 1) dX3_keepPath_43 (by decide) ?_
          refine V_iadd dX3_keepPath_44 ?_
          rw [nI_1]
          refine V_puti (by exact lx.k _ rfl rfl) pfX3_82 (fun h => nomatch h) dX3_keepPath_45 ⟨rfl, rfl⟩ ?_
          refine V_iload_n dX3_keepPath_48 rfl rfl ?_
          refine V_iload_n dX3_keepPath_49 rfl rfl ?_
          refine V_icmp_ne (tgt := 57) dX3_keepPath_50 (by decide) (fun c50 => False.elim (by exact c50 (by rw [hvg]))) (fun c50 => ?_)
          refine V_iconst (v := -1) dX3_keepPath_53 (by decide) ?_
          refine V_goto (tgt := 63) dX3_keepPath_54 (by decide) ?_
          refine S_istore_n (L' := [(0, _), (2, _), (3, _), (4, _)]) dX3_keepPath_63 rfl rfl rfl ?_
          refine S_iinc (L' := [(0, _), (2, _), (3, _), (4, _)]) dX3_keepPath_64 rfl rfl rfl rfl ?_
          rw [nI_inc]
          refine V_goto (tgt := 19) dX3_keepPath_67 (by decide) ?_
          have hq : sqF F a g (n + 1) = none := by rw [sqF, hsq]; simp only; rw [if_pos hvg]
          have := ih (n + 1) (sI (sI w1 29 n (nI v)) 24 3 (nI (n + 1))) (by omega) ((g1.trans (Keep.sI w1 (by unfold ptA; omega) _ _)).trans (Keep.sI _ (by unfold ptA; omega) _ _)) (fun j hj => by rw [rdI_ne hj, rdI_nn (by decide)]; exact g2 j hj) rdI_eq (fun m u hm hu => by
            rw [rdI_nn (by decide)]
            by_cases e : m = n
            · subst e; rw [hsq] at hu; cases hu; exact rdI_eq
            · rw [rdI_ne e]; exact g4 m u (by omega) hu)
          rw [hq] at this
          exact this
        · refine V_iload dX3_keepPath_19 rfl ?_
          refine V_sipush (v := 180) dX3_keepPath_21 (by decide) ?_
          refine V_icmp_ge (tgt := 70) dX3_keepPath_24 (by decide) (fun c24 => False.elim (by exact nI_ge (a := n) (b := 180) (by omega) (by decide) c24)) (fun c24 => ?_)
          refine V_iload_n dX3_keepPath_27 rfl rfl ?_
          refine V_iconst (v := -1) dX3_keepPath_28 (by decide) ?_
          refine V_icmp_eq (tgt := 70) dX3_keepPath_29 (by decide) (fun c29 => False.elim (by exact absurd (oI_m1 (o := some v) (fun m e => by cases e; omega) c29) (by simp))) (fun c29 => ?_)
          first | refine V_aload_n dX3_keepPath_32 rfl rfl ?_ | refine V_aload_nN dX3_keepPath_32 rfl rfl ?_
          first | refine V_getr (by exact lx.k _ rfl rfl) fX3_18 dX3_keepPath_33 (by exact lx.r _ _ rfl) ?_ | refine V_getrN (by exact lx.k _ rfl rfl) fX3_18 dX3_keepPath_33 (by exact lx.r _ _ rfl) ?_
          refine V_iload dX3_keepPath_36 rfl ?_
          refine V_iload_n dX3_keepPath_38 rfl rfl ?_
          refine G_iast (j := n) (by exact lx.k _ rfl rfl) (by rfl) (by exact Nat.lt_of_lt_of_eq (show n < 180 by omega) (lx.n 29 rfl rfl).symm) (by first | exact Nat.lt_of_le_of_lt (Nat.le_of_eq (lx.n 29 rfl rfl)) (by decide) | exact Nat.lt_of_le_of_lt (Nat.le_of_eq (lx.n 30 rfl rfl)) (by decide) | exact Nat.lt_of_le_of_lt (Nat.le_of_eq (lx.n 31 rfl rfl)) (by decide) | exact Nat.lt_of_le_of_lt (Nat.le_of_eq (lx.n 32 rfl rfl)) (by decide) | exact Nat.lt_of_le_of_lt (Nat.le_of_eq (lx.n 33 rfl rfl)) (by decide)) dX3_keepPath_39 ?_
          first | refine V_aload_n dX3_keepPath_40 rfl rfl ?_ | refine V_aload_nN dX3_keepPath_40 rfl rfl ?_
          refine V_iload dX3_keepPath_41 rfl ?_
          refine V_iconst (v := 1) dX3_keepPath_43 (by decide) ?_
          refine V_iadd dX3_keepPath_44 ?_
          rw [nI_1]
          refine V_puti (by exact lx.k _ rfl rfl) pfX3_82 (fun h => nomatch h) dX3_keepPath_45 ⟨rfl, rfl⟩ ?_
          refine V_iload_n dX3_keepPath_48 rfl rfl ?_
          refine V_iload_n dX3_keepPath_49 rfl rfl ?_
          refine V_icmp_ne (tgt := 57) dX3_keepPath_50 (by decide) (fun c50 => ?_) (fun c50 => False.elim (by rw [nI_eq (by omega) (by omega)] at c50; exact hvg c50))
          first | refine V_aload_n dX3_keepPath_57 rfl rfl ?_ | refine V_aload_nN dX3_keepPath_57 rfl rfl ?_
          first | refine V_getr (by exact lx.k _ rfl rfl) fX3_28 dX3_keepPath_58 (by exact lx.r _ _ rfl) ?_ | refine V_getrN (by exact lx.k _ rfl rfl) fX3_28 dX3_keepPath_58 (by exact lx.r _ _ rfl) ?_
          refine V_iload_n dX3_keepPath_61 rfl rfl ?_
          refine G_iald (j := v) (by exact lx.k _ rfl rfl) (by rfl) (by exact Nat.lt_of_lt_of_eq (show v < 180 by exact hv) (lx.n 32 rfl rfl).symm) (by first | exact Nat.lt_of_le_of_lt (Nat.le_of_eq (lx.n 29 rfl rfl)) (by decide) | exact Nat.lt_of_le_of_lt (Nat.le_of_eq (lx.n 30 rfl rfl)) (by decide) | exact Nat.lt_of_le_of_lt (Nat.le_of_eq (lx.n 31 rfl rfl)) (by decide) | exact Nat.lt_of_le_of_lt (Nat.le_of_eq (lx.n 32 rfl rfl)) (by decide) | exact Nat.lt_of_le_of_lt (Nat.le_of_eq (lx.n 33 rfl rfl)) (by decide)) dX3_keepPath_62 (by exact ((rdI_nn (by decide)).trans (rdI_nn (by decide))).trans ((congrFun (g1.I (a := 32) (by unfold ptA; omega)) v).trans (hFo v hv))) ?_
          refine S_istore_n (L' := [(0, _), (2, _), (3, _), (4, _)]) dX3_keepPath_63 rfl rfl rfl ?_
          refine S_iinc (L' := [(0, _), (2, _), (3, _), (4, _)]) dX3_keepPath_64 rfl rfl rfl rfl ?_
          rw [nI_inc]
          refine V_goto (tgt := 19) dX3_keepPath_67 (by decide) ?_
          have hq : sqF F a g (n + 1) = F v := by rw [sqF, hsq]; simp only; rw [if_neg hvg]
          have := ih (n + 1) (sI (sI w1 29 n (nI v)) 24 3 (nI (n + 1))) (by omega) ((g1.trans (Keep.sI w1 (by unfold ptA; omega) _ _)).trans (Keep.sI _ (by unfold ptA; omega) _ _)) (fun j hj => by rw [rdI_ne hj, rdI_nn (by decide)]; exact g2 j hj) rdI_eq (fun m u hm hu => by
            rw [rdI_nn (by decide)]
            by_cases e : m = n
            · subst e; rw [hsq] at hu; cases hu; exact rdI_eq
            · rw [rdI_ne e]; exact g4 m u (by omega) hu)
          rw [hq] at this
          exact this
  first | refine V_aload_n dX3_keepPath_0 rfl rfl ?_ | refine V_aload_nN dX3_keepPath_0 rfl rfl ?_
  refine V_iconst (v := 0) dX3_keepPath_1 (by decide) ?_
  refine V_puti (by exact lx.k _ rfl rfl) pfX3_82 (fun h => nomatch h) dX3_keepPath_2 ⟨rfl, rfl⟩ ?_
  first | refine V_aload_n dX3_keepPath_5 rfl rfl ?_ | refine V_aload_nN dX3_keepPath_5 rfl rfl ?_
  refine G_geti (by exact lx.k _ rfl rfl) fX3_15 dX3_keepPath_6 (by exact rdI_ne (by decide)) ?_
  refine V_iconst (v := -1) dX3_keepPath_9 (by decide) ?_
  refine V_icmp_ne (tgt := 14) dX3_keepPath_10 (by decide) (fun c10 => ?_) (fun c10 => False.elim (by exact absurd c10 hw))
  refine V_iload_n dX3_keepPath_14 rfl rfl ?_
  refine S_istore_n (L' := [(0, _), (2, _), (3, _)]) dX3_keepPath_15 rfl rfl rfl ?_
  refine V_iconst (v := 0) dX3_keepPath_16 (by decide) ?_
  refine S_istore (L' := [(0, _), (2, _), (3, _), (4, _)]) dX3_keepPath_17 rfl rfl ?_
  exact loop 180 0 _ rfl (Keep.sI w (Or.inl rfl) 3 _) (fun j hj => rdI_ne hj) rdI_eq (fun n v hn => absurd hn (Nat.not_lt_zero _))
