/-! Packing: findKeys, keepKeys -/
abbrev pkA (a : Nat) : Prop := a = 23 ∨ a = 28
/-- the keys that the class holds -/
def RPk (kn : Nat) (ky : Nat → Nat) (I : Nat → Nat → Int32) : Prop := I 23 1 = nI kn ∧ kn ≤ 30 ∧ ∀ n, n < kn → I 28 n = nI (ky n)
theorem SkX.keep {k : Sk} {S : Nat → Prop} {w w' : Wd} (h : SkX k w) (g : Keep S w w') (hS : ∀ a, S a → ¬ skA a) : SkX k w' := by
  refine ⟨h.1.keep g, h.2.1.keep g, h.2.2.1, ?_⟩
  have hb := h.n10
  have e21I := g.I (a := 21) (fun q => hS _ q (Or.inl rfl))
  have e21J := g.J (a := 21) (fun q => hS _ q (Or.inl rfl))
  obtain ⟨h1, h2, h3, h4, h5⟩ := h.2.2.2
  refine ⟨by rw [e21I]; exact h1, by rw [e21I]; exact h2, by rw [e21J]; exact h3, by rw [e21J]; exact h4, fun b hb2 => ?_⟩
  rw [g.I (a := 300 + b) (fun q => hS _ q (by unfold skA; omega))]
  exact h5 b hb2
theorem SkP.keep {k : Sk} {S : Nat → Prop} {w w' : Wd} (h : SkP k w) (g : Keep S w w') (hS : ∀ a, S a → ¬ skA a) : SkP k w' := by
  refine ⟨h.1.keep g hS, fun b hb => ?_⟩
  have := h.1.n10
  rw [g.J (a := 300 + b) (fun q => hS _ q (by unfold skA; omega))]
  exact h.2 b hb
theorem lat_c {nx : Nat → Nat} {sz n : Nat} (h1 : sz ≤ 30) (h2 : ∀ m, n = m + 1 → kyF nx m < sz) : nI sz - 1 ≤ lat nx n ↔ ¬ (match n with
      | 0 => 0
      | n + 1 => kyF nx n + 1) < sz := by
  rw [Int32.le_iff_toInt_le, nI_m1 (by omega)]
  cases n with
  | zero =>
    rw [show (lat nx 0).toInt = -1 from rfl]
    simp only
    omega
  | succ n =>
    have := h2 n rfl
    rw [show (lat nx (n + 1)).toInt = (kyF nx n : Int) from nI_toInt (by omega)]
    simp only
    omega

set_option maxRecDepth 100000 in
theorem c_X4_findKeys (k : Sk) (q : Cp) (c m : Nat) (w : Wd) (s : SkX k w) (h : CpX (kN k) q w) (hc : c < 6) (hm : m ≤ 18) : Cc yX4_findKeys mX4_findKeys [.ref 23, .ref 21, .ref (40 + c), .int (nI m)] w (fun r w' => r = none ∧ Keep pkA w w' ∧ RPk (knF (nxK k (q.2 c) (q.1 c) m) (q.1 c)) (kyF (nxK k (q.2 c) (q.1 c) m)) (wI w')) := by
  refine Cc.of (by decide) rfl rfl (Nat.le_of_ble_eq_true rfl) (fun X => ?_)
  change V _ X _ 0 [(0, _), (1, _), (2, _), (3, _)] [] _ (0, 0)
  have loop : ∀ (d n : Nat) (w1 : Wd), n + d = 30 → (∀ j, n = j + 1 → kyF (nxK k (q.2 c) (q.1 c) m) j < q.1 c) → Keep pkA w w1 → wI w1 23 1 = nI n → (∀ i, i < n → wI w1 28 i = nI (kyF (nxK k (q.2 c) (q.1 c) m) i)) → V mX4_findKeys X (mq mX4_findKeys X (fun r w' => r = none ∧ Keep pkA w w' ∧ RPk (knG (nxK k (q.2 c) (q.1 c) m) (q.1 c) d n) (kyF (nxK k (q.2 c) (q.1 c) m)) (wI w'))) 11 [(0, .ref 23), (1, .ref 21), (2, .ref (40 + c)), (3, .int (nI m)), (4, .int (lat (nxK k (q.2 c) (q.1 c) m) n)), (5, .int (nI n))] [] w1 (0, 0) := by
    intro d
    induction d with
    | zero =>
      intro n w1 hd hk g1 g2 g3
      have s1 : SkX k w1 := s.keep g1 (fun a => by unfold pkA skA; omega)
      have h1 : CpX (kN k) q w1 := h.keep g1 (fun a => by unfold pkA cpA; omega)
      refine V_iload dX4_findKeys_11 rfl ?_
      refine V_bipush (v := 30) dX4_findKeys_13 (by decide) ?_
      refine V_icmp_ge (tgt := 72) dX4_findKeys_15 (by decide) (fun c15 => ?_) (fun c15 => False.elim (by exact c15 (nI_le (a := 30) (by omega) (by omega))))
      refine V_vret rfl dX4_findKeys_72 (Nat.le_of_ble_eq_true rfl) (Nat.le_of_ble_eq_true rfl) ?_
      exact ⟨rfl, g1, g2, by rw [knG]; omega, g3⟩
    | succ d ih =>
      intro n w1 hd hk g1 g2 g3
      have s1 : SkX k w1 := s.keep g1 (fun a => by unfold pkA skA; omega)
      have h1 : CpX (kN k) q w1 := h.keep g1 (fun a => by unfold pkA cpA; omega)
      cases n with
      | zero =>
        refine V_iload dX4_findKeys_11 rfl ?_
        refine V_bipush (v := 30) dX4_findKeys_13 (by decide) ?_
        refine V_icmp_ge (tgt := 72) dX4_findKeys_15 (by decide) (fun c15 => False.elim (by exact nI_ge (a := 0) (b := 30) (by decide) (by decide) c15)) (fun c15 => ?_)
        refine V_iload dX4_findKeys_18 rfl ?_
        first | refine V_aload_n dX4_findKeys_20 rfl rfl ?_ | refine V_aload_nN dX4_findKeys_20 rfl rfl ?_
        refine G_geti (by first | exact s1.1.k _ rfl rfl | exact h1.1.kc hc) fX4_19 dX4_findKeys_21 (by exact h1.sz hc) ?_
        refine V_iconst (v := 1) dX4_findKeys_24 (by decide) ?_
        refine V_isub dX4_findKeys_25 ?_
        refine V_icmp_ge (tgt := 72) dX4_findKeys_26 (by decide) (fun c26 => ?_) (fun c26 => ?_)
        · refine V_vret rfl dX4_findKeys_72 (Nat.le_of_ble_eq_true rfl) (Nat.le_of_ble_eq_true rfl) ?_
          rw [lat_c (h.le hc) hk] at c26
          refine ⟨rfl, g1, ?_⟩
          rw [knG, if_neg c26]
          exact ⟨g2, by omega, g3⟩
        · refine V_iload dX4_findKeys_29 rfl ?_
          refine V_iconst (v := -1) dX4_findKeys_31 (by decide) ?_
          refine V_icmp_ne (tgt := 39) dX4_findKeys_32 (by decide) (fun c32 => False.elim (by exact c32 rfl)) (fun c32 => ?_)
          refine V_iconst (v := 0) dX4_findKeys_35 (by decide) ?_
          refine V_goto (tgt := 47) dX4_findKeys_36 (by decide) ?_
          refine S_istore (L' := [(0, _), (1, _), (2, _), (3, _), (4, _), (5, _)]) dX4_findKeys_47 rfl rfl ?_
          first | refine V_aload_n dX4_findKeys_49 rfl rfl ?_ | refine V_aload_nN dX4_findKeys_49 rfl rfl ?_
          first | refine V_getr (by first | exact s1.1.k _ rfl rfl | exact h1.1.kc hc) fX4_9 dX4_findKeys_50 (by exact s1.1.r _ _ rfl) ?_ | refine V_getrN (by first | exact s1.1.k _ rfl rfl | exact h1.1.kc hc) fX4_9 dX4_findKeys_50 (by exact s1.1.r _ _ rfl) ?_
          refine V_iload dX4_findKeys_53 rfl ?_
          refine V_iload dX4_findKeys_55 rfl ?_
          refine G_iast (j := 0) (by first | exact s1.1.k _ rfl rfl | exact h1.1.kc hc) (by rfl) (by rw [s1.1.n 28 rfl rfl]; decide) (by rw [s1.1.n 28 rfl rfl]; decide) dX4_findKeys_57 ?_
          first | refine V_aload_n dX4_findKeys_58 rfl rfl ?_ | refine V_aload_nN dX4_findKeys_58 rfl rfl ?_
          refine V_iload dX4_findKeys_59 rfl ?_
          refine V_iconst (v := 1) dX4_findKeys_61 (by decide) ?_
          refine V_iadd dX4_findKeys_62 ?_
          rw [show nI 0 + 1 = nI (0 + 1) from nI_1 0]
          refine V_puti (by first | exact s1.1.k _ rfl rfl | exact h1.1.kc hc) pfX4_15 (fun h => nomatch h) dX4_findKeys_63 ⟨rfl, rfl⟩ ?_
          refine S_iinc (L' := [(0, _), (1, _), (2, _), (3, _), (4, _), (5, _)]) dX4_findKeys_66 rfl rfl rfl rfl ?_
          rw [show nI 0 + Int32.ofInt 1 = nI (0 + 1) from nI_inc 0]
          refine V_goto (tgt := 11) dX4_findKeys_69 (by decide) ?_
          rw [lat_c (h.le hc) hk] at c26
          have c26 := Classical.not_not.mp c26
          rw [knG, if_pos c26]
          exact ih (0 + 1) _ (by omega) (fun m e => by cases e; exact c26) (g1.trans ((Keep.sI w1 (Or.inr rfl) _ _).trans (Keep.sI _ (Or.inl rfl) 1 _))) rdI_eq (fun i hi => by
            rw [rdI_nn (by decide)]
            by_cases e : i = 0
            · subst e; exact rdI_eq
            · rw [rdI_ne e]; exact g3 i (by omega))
      | succ n =>
        refine V_iload dX4_findKeys_11 rfl ?_
        refine V_bipush (v := 30) dX4_findKeys_13 (by decide) ?_
        refine V_icmp_ge (tgt := 72) dX4_findKeys_15 (by decide) (fun c15 => False.elim (by exact nI_ge (a := n + 1) (b := 30) (by omega) (by decide) c15)) (fun c15 => ?_)
        refine V_iload dX4_findKeys_18 rfl ?_
        first | refine V_aload_n dX4_findKeys_20 rfl rfl ?_ | refine V_aload_nN dX4_findKeys_20 rfl rfl ?_
        refine G_geti (by first | exact s1.1.k _ rfl rfl | exact h1.1.kc hc) fX4_19 dX4_findKeys_21 (by exact h1.sz hc) ?_
        refine V_iconst (v := 1) dX4_findKeys_24 (by decide) ?_
        refine V_isub dX4_findKeys_25 ?_
        refine V_icmp_ge (tgt := 72) dX4_findKeys_26 (by decide) (fun c26 => ?_) (fun c26 => ?_)
        · refine V_vret rfl dX4_findKeys_72 (Nat.le_of_ble_eq_true rfl) (Nat.le_of_ble_eq_true rfl) ?_
          rw [lat_c (h.le hc) hk] at c26
          refine ⟨rfl, g1, ?_⟩
          rw [knG, if_neg c26]
          exact ⟨g2, by omega, g3⟩
        · refine V_iload dX4_findKeys_29 rfl ?_
          refine V_iconst (v := -1) dX4_findKeys_31 (by decide) ?_
          refine V_icmp_ne (tgt := 39) dX4_findKeys_32 (by decide) (fun c32 => ?_) (fun c32 => False.elim (by exact absurd (congrArg Int32.toInt c32) (by rw [show (lat (nxK k (q.2 c) (q.1 c) m) (n + 1)).toInt = (kyF (nxK k (q.2 c) (q.1 c) m) n : Int) from nI_toInt (by have := hk n rfl; have := h.le hc; omega)]; show ¬ _ = (-1 : Int); omega)))
          first | refine V_aload_n dX4_findKeys_39 rfl rfl ?_ | refine V_aload_nN dX4_findKeys_39 rfl rfl ?_
          first | refine V_aload_n dX4_findKeys_40 rfl rfl ?_ | refine V_aload_nN dX4_findKeys_40 rfl rfl ?_
          refine V_iload dX4_findKeys_41 rfl ?_
          refine V_iload_n dX4_findKeys_43 rfl rfl ?_
          have hmore : kyF (nxK k (q.2 c) (q.1 c) m) n + 1 < q.1 c := Classical.not_not.mp (fun z => c26 ((lat_c (h.le hc) hk).mpr z))
          change V _ _ _ _ _ (.int (nI m) :: .int (nI (kyF (nxK k (q.2 c) (q.1 c) m) n)) :: _) _ _
          refine V_callS (As := [_, _, _, _]) (st := _) (c_X4_nextKey k q c (kyF (nxK k (q.2 c) (q.1 c) m) n) m w1 s1 h1 hc hmore hm) kX4_22 ⟨rfl, rfl, rfl⟩ ⟨(Nat.le_of_ble_eq_true rfl), (Nat.le_of_ble_eq_true rfl)⟩ dX4_findKeys_44 rfl rfl (Nat.le_of_ble_eq_true rfl) ⟨(Nat.le_of_ble_eq_true rfl), (Nat.le_of_ble_eq_true rfl)⟩ ?_
          refine S_istore (L' := [(0, _), (1, _), (2, _), (3, _), (4, _), (5, _)]) dX4_findKeys_47 rfl rfl ?_
          first | refine V_aload_n dX4_findKeys_49 rfl rfl ?_ | refine V_aload_nN dX4_findKeys_49 rfl rfl ?_
          first | refine V_getr (by first | exact s1.1.k _ rfl rfl | exact h1.1.kc hc) fX4_9 dX4_findKeys_50 (by exact s1.1.r _ _ rfl) ?_ | refine V_getrN (by first | exact s1.1.k _ rfl rfl | exact h1.1.kc hc) fX4_9 dX4_findKeys_50 (by exact s1.1.r _ _ rfl) ?_
          refine V_iload dX4_findKeys_53 rfl ?_
          refine V_iload dX4_findKeys_55 rfl ?_
          refine G_iast (j := n + 1) (by first | exact s1.1.k _ rfl rfl | exact h1.1.kc hc) (by rfl) (by rw [s1.1.n 28 rfl rfl]; show n + 1 < 30; omega) (by rw [s1.1.n 28 rfl rfl]; decide) dX4_findKeys_57 ?_
          first | refine V_aload_n dX4_findKeys_58 rfl rfl ?_ | refine V_aload_nN dX4_findKeys_58 rfl rfl ?_
          refine V_iload dX4_findKeys_59 rfl ?_
          refine V_iconst (v := 1) dX4_findKeys_61 (by decide) ?_
          refine V_iadd dX4_findKeys_62 ?_
          rw [nI_1]
          refine V_puti (by first | exact s1.1.k _ rfl rfl | exact h1.1.kc hc) pfX4_15 (fun h => nomatch h) dX4_findKeys_63 ⟨rfl, rfl⟩ ?_
          refine S_iinc (L' := [(0, _), (1, _), (2, _), (3, _), (4, _), (5, _)]) dX4_findKeys_66 rfl rfl rfl rfl ?_
          rw [nI_inc]
          refine V_goto (tgt := 11) dX4_findKeys_69 (by decide) ?_
          rw [lat_c (h.le hc) hk] at c26
          have c26 := Classical.not_not.mp c26
          rw [knG, if_pos c26]
          exact ih ((n + 1) + 1) _ (by omega) (fun m e => by cases e; exact (nxK_rng k (q.2 c) c26).2) (g1.trans ((Keep.sI w1 (Or.inr rfl) _ _).trans (Keep.sI _ (Or.inl rfl) 1 _))) rdI_eq (fun i hi => by
            rw [rdI_nn (by decide)]
            by_cases e : i = (n + 1)
            · subst e; exact rdI_eq
            · rw [rdI_ne e]; exact g3 i (by omega))
  first | refine V_aload_n dX4_findKeys_0 rfl rfl ?_ | refine V_aload_nN dX4_findKeys_0 rfl rfl ?_
  refine V_iconst (v := 0) dX4_findKeys_1 (by decide) ?_
  refine V_puti (by exact s.1.k _ rfl rfl) pfX4_15 (fun h => nomatch h) dX4_findKeys_2 ⟨rfl, rfl⟩ ?_
  refine V_iconst (v := -1) dX4_findKeys_5 (by decide) ?_
  refine S_istore (L' := [(0, _), (1, _), (2, _), (3, _), (4, _)]) dX4_findKeys_6 rfl rfl ?_
  refine V_iconst (v := 0) dX4_findKeys_8 (by decide) ?_
  refine S_istore (L' := [(0, _), (1, _), (2, _), (3, _), (4, _), (5, _)]) dX4_findKeys_9 rfl rfl ?_
  exact loop 30 0 _ rfl (fun m e => by cases e) (Keep.sI w (Or.inl rfl) 1 _) rdI_eq (fun i hi => absurd hi (Nat.not_lt_zero _))
