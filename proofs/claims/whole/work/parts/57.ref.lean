/-! THE REFERENCE: walk -/
theorem pnG_stop {F : Nat → Option Nat} {a g n : Nat} (hn : sqF F a g n = none) : ∀ d m, m ≤ n → n ≤ m + d → (∀ i, m ≤ i → i < n → ∃ v, sqF F a g i = some v) → pnG F a g d m = n
  | 0, m, h1, h2, _ => by
    show m = n
    omega
  | d + 1, m, h1, h2, h3 => by
    unfold pnG
    by_cases e : m = n
    · subst e
      rw [hn]
    · obtain ⟨v, hv⟩ := h3 m (Nat.le_refl _) (by omega)
      rw [hv]
      exact pnG_stop hn d (m + 1) (by omega) (by omega) (fun i hi hi2 => h3 i (by omega) hi2)
/-- in the midst of a walk: n frames are told, the last of them is v -/
def WkI (F : Nat → Option Nat) (D : Nat → Option Nat) (a g : Nat) (w0 : Wd) (n v : Nat) (w1 : Wd) : Prop := Kp (fun x j => x = 430 ∨ (x = 400 ∧ j = 28)) noA w0 w1 ∧ wI w1 400 28 = nI n ∧ 1 ≤ n ∧ n ≤ 180 ∧ v < 180 ∧ sqF F a g (n - 1) = some v ∧ (∀ i, i < n → ∃ x, sqF F a g i = some x ∧ wI w1 430 i = nI x) ∧ ∃ ev, D v = some ev ∧ ∃ S : Nat → Bool, cntF S 180 = n ∧ ∀ x, S x = true → ∃ ex, D x = some ex ∧ ev ≤ ex
theorem WkI.next {E : Nat → Nat → Option Nat} {D : Nat → Option Nat} {a g n v u c du ev : Nat} {w0 w1 : Wd} (h : WkI (nxD E D) D a g w0 n v w1) (hv : D v = some ev) (hg : ¬ v = g) (hu : u < 180) (h1 : E v u = some c) (hc : 1 ≤ c) (h2 : D u = some du) (h3 : ev = c + du) (hl : ∀ j, j < u → nxB E D v j = false) : n < 180 ∧ WkI (nxD E D) D a g w0 (n + 1) u (sI (sI w1 430 n (nI u)) 400 28 (nI (n + 1))) := by
  obtain ⟨k1, k2, k3, k4, k5, k6, k7, ev', k8, S, k9, k10⟩ := h
  rw [hv] at k8
  cases k8
  have hSu : S u = false := by
    cases hx : S u with
    | false => rfl
    | true =>
      obtain ⟨ex, e1, e2⟩ := k10 u hx
      rw [h2] at e1
      cases e1
      omega
  have hcnt := cntF_set (S := S) (v := u) hSu (m := 180)
  rw [if_pos hu, k9] at hcnt
  have hle := cntF_le (setB S u) 180
  have hnx : nxD E D v = some u := lstN_eq hu (nxB_t.mpr ⟨c, du, ev, h1, h2, hv, h3⟩) hl
  have hsq : sqF (nxD E D) a g n = some u := by
    have e : sqF (nxD E D) a g ((n - 1) + 1) = some u := by
      unfold sqF
      rw [k6]
      dsimp only
      rw [if_neg hg]
      exact hnx
    rwa [show n - 1 + 1 = n by omega] at e
  refine ⟨by omega, k1.trans ((Kp.sI w1 (Or.inl rfl) _).trans (Kp.sI _ (Or.inr ⟨rfl, rfl⟩) _)), rdI_eq, by omega, by omega, hu, by rw [show n + 1 - 1 = n by omega]; exact hsq, fun i hi => ?_, du, h2, setB S u, hcnt, fun x hx => ?_⟩
  · rw [rdI_nn (by decide)]
    by_cases e : i = n
    · rw [e]; exact ⟨u, hsq, rdI_eq⟩
    · rw [rdI_ne e]; exact k7 i (by omega)
  · unfold setB at hx
    by_cases e : x = u
    · rw [e]; exact ⟨du, h2, Nat.le_refl _⟩
    · rw [if_neg e] at hx
      obtain ⟨ex, e1, e2⟩ := k10 x hx
      exact ⟨ex, e1, by omega⟩
theorem WkI.fin {E : Nat → Nat → Option Nat} {D : Nat → Option Nat} {a g n v : Nat} {w0 w1 : Wd} (h : WkI (nxD E D) D a g w0 n v w1) (hg : v = g) {e0 : Nat} (ha : D a = some e0) : wpN E D a g = n := by
  obtain ⟨k1, k2, k3, k4, k5, k6, k7, -⟩ := h
  unfold wpN
  rw [ha]
  dsimp only
  refine pnG_stop ?_ 180 0 (Nat.zero_le _) (by omega) (fun i _ hi => ?_)
  · have e : sqF (nxD E D) a g ((n - 1) + 1) = none := by
      unfold sqF
      rw [k6]
      dsimp only
      rw [if_pos hg]
    rwa [show n - 1 + 1 = n by omega] at e
  · obtain ⟨x, hx, -⟩ := k7 i hi
    exact ⟨x, hx⟩
theorem slot_B (x y : Int32) : 30 * x + y = 30 * x + y := rfl

set_option maxRecDepth 100000 in
theorem c_X9_walk (z : St) (D : Nat → Option Nat) (x y u p : Int32) (w : Wd) (z0 : RM z w) (hb : BE (egZ z) (30 * bN u + bN p) D) : Cc yX9_walk mX9_walk [.ref 400, .int x, .int y, .int u, .int p] w (fun r w' => ∃ v, r = some v ∧ (v = .int (oWalk z D x y u p).1 ∧ RM (oWalk z D x y u p).2 w' ∧ Keep moA w w')) := by
  refine Cc.of (by decide) rfl rfl (Nat.le_of_ble_eq_true rfl) (fun X => ?_)
  change V _ X _ 0 [(0, _), (1, _), (2, _), (3, _), (4, _)] [] _ (0, 0)
  have lpW : ∀ c f d g, c < 6 → f < (zQ z).1 c → d < 6 → g < (zQ z).1 d → pP (zQ z) (30 * c + f) → pP (zQ z) (30 * d + g) → BE (egZ z) (30 * d + g) D → oWalk z D (nI c) (nI f) (nI d) (nI g) = (oI (D (30 * c + f)), pG z (zJ z, D (30 * c + f), wpN (egZ z) D (30 * c + f) (30 * d + g), sqF (nxD (egZ z) D) (30 * c + f) (30 * d + g))) → ∀ w1, Kp diI noA w w1 → MCo (zQ z) (kN (zK z)) (zJ z) w1 → (∀ v, v < 180 → wI w1 426 v = oI (D v)) → (∀ v e, D v = some e → e ≤ 18540) → ∀ e0, D (30 * c + f) = some e0 → ∀ (k n v : Nat) (w2 : Wd), n + k = 180 → WkI (nxD (egZ z) D) D (30 * c + f) (30 * d + g) (sI w1 400 27 (oI (D (30 * c + f)))) n v w2 → V mX9_walk X (mq mX9_walk X (fun r w' => ∃ v, r = some v ∧ (v = .int (oWalk z D (nI c) (nI f) (nI d) (nI g)).1 ∧ RM (oWalk z D (nI c) (nI f) (nI d) (nI g)).2 w' ∧ Keep moA w w'))) 84 [(0, .ref 400), (5, .int (nI v)), (6, .int (nI (30 * d + g)))] [] w2 (0, 0) := by
    intro c f d g hc hf hd hg hP1 hP2 hb e w1 a1 a2 a3 a4 e0 he0 k
    have hP20 := hP2.1
    induction k with
    | zero =>
      intro n v w2 hk k1
      have h2 : LayM w2 := LayM.kp (w := sI w1 400 27 (oI (D (30 * c + f)))) (show LayM w1 from LayM.kp z0.1.1 a1) k1.1
      have hv180 := k1.2.2.2.2.1
      by_cases hvg : v = 30 * d + g
      · refine V_iload dX9_walk_84 rfl ?_
        refine V_iload dX9_walk_86 rfl ?_
        refine V_icmp_eq (tgt := 189) dX9_walk_88 (by decide) (fun c88 => ?_) (fun c88 => False.elim (by exact c88 (by rw [hvg])))
        first | refine V_aload_n dX9_walk_189 rfl rfl ?_ | refine V_aload_nN dX9_walk_189 rfl rfl ?_
        refine G_geti (by exact h2.k _ rfl rfl) fX9_76 dX9_walk_190 (by exact (k1.1.I (by omega)).trans rdI_eq) ?_
        refine V_iret rfl dX9_walk_193 (Nat.le_of_ble_eq_true rfl) (Nat.le_of_ble_eq_true rfl) ?_
        have hfin := k1.fin hvg he0
        have hW0 : Kp grI noA w w2 := ((a1.mono (fun a j z => by unfold diI at z; unfold grI; omega) (fun _ _ z => z)).trans (Kp.sI (SI := grI) (SJ := noA) w1 (by unfold grI; omega) _)).trans (k1.1.mono (fun a j z => by unfold grI; omega) (fun _ _ z => z))
        have hG : MGr (zJ z, D (30 * c + f), wpN (egZ z) D (30 * c + f) (30 * d + g), sqF (nxD (egZ z) D) (30 * c + f) (30 * d + g)) w2 := by
          rw [hfin]
          exact ⟨(k1.1.I (by omega)).trans ((rdI_ne (by decide)).trans ((a1.I (by unfold diI; omega)).trans z0.2.2.2.1.1)), z0.2.2.2.1.2.1, (k1.1.I (by omega)).trans rdI_eq, k1.2.1, k1.2.2.2.1, k1.2.2.2.2.2.2.1⟩
        exact ⟨_, rfl, by rw [e], by rw [e]; exact z0.setG hW0 hG, hW0.mog⟩
      · exfalso
        have k1' := k1
        obtain ⟨-, -, -, -, -, -, -, ev, hv, -⟩ := k1'
        obtain ⟨u0, c0, d0, q1, q2, q3⟩ := hb.2.2 v ev hvg hv
        have hu0 := (eg_P (jn := zJ z) z0.2.2.2.1.2.1 v u0 c0 q1).2.1.1
        have hc0 := (eg_P (jn := zJ z) z0.2.2.2.1.2.1 v u0 c0 q1).2.2
        have hx0 : nxB (egZ z) D v u0 = true := nxB_t.mpr ⟨c0, d0, ev, q1, q2, hv, q3⟩
        cases hl : lstN (nxB (egZ z) D v) 180 with
        | none => rw [lstN_no hl u0 hu0] at hx0; cases hx0
        | some u =>
          obtain ⟨l1, l2, l3⟩ := lstN_some hl
          obtain ⟨cc, dd, ee, r1, r2, r3, r4⟩ := nxB_t.mp l2
          rw [hv] at r3
          cases r3
          have := (k1.next hv hvg l1 r1 (eg_P (jn := zJ z) z0.2.2.2.1.2.1 v u cc r1).2.2 r2 r4 l3).1
          omega
    | succ k ihW =>
      intro n v w2 hk k1
      have h2 : LayM w2 := LayM.kp (w := sI w1 400 27 (oI (D (30 * c + f)))) (show LayM w1 from LayM.kp z0.1.1 a1) k1.1
      have hv180 := k1.2.2.2.2.1
      have lpU : ∀ u0, u0 < 180 → ∀ ev, D v = some ev → nxB (egZ z) D v u0 = true → ¬ v = 30 * d + g → ∀ (m u : Nat), u + m = u0 → (∀ j, j < u → nxB (egZ z) D v j = false) → V mX9_walk X (mq mX9_walk X (fun r w' => ∃ v, r = some v ∧ (v = .int (oWalk z D (nI c) (nI f) (nI d) (nI g)).1 ∧ RM (oWalk z D (nI c) (nI f) (nI d) (nI g)).2 w' ∧ Keep moA w w'))) 94 [(0, .ref 400), (5, .int (nI v)), (6, .int (nI (30 * d + g))), (7, .int (nI u))] [] w2 (0, 0) := by
        intro u0 hu0 ev hv hx0 hvg m
        induction m with
        | zero =>
          intro u hm hno
          first | refine V_aload_n dX9_walk_94 rfl rfl ?_ | refine V_aload_nN dX9_walk_94 rfl rfl ?_
          first | refine V_getr (by exact h2.k _ rfl rfl) fX9_63 dX9_walk_95 (by exact (h2.r 23 rfl (by decide) : _ = some 424)) ?_ | refine V_getrN (by exact h2.k _ rfl rfl) fX9_63 dX9_walk_95 (by exact (h2.r 23 rfl (by decide) : _ = some 424)) ?_
          refine V_sipush (v := 180) dX9_walk_98 (by decide) ?_
          refine V_iload dX9_walk_101 rfl ?_
          refine V_imul dX9_walk_103 ?_
          refine V_iload dX9_walk_104 rfl ?_
          refine V_iadd dX9_walk_106 ?_
          rw [sp180]
          refine G_iald (j := 180 * v + u) (by exact h2.k _ rfl rfl) (by rfl) (by exact h2.lt 424 (m := 32400) rfl rfl (by decide) rfl (by omega)) (by exact h2.nlt 424 rfl rfl (by decide)) dX9_walk_107 (by exact ((a2.kp (Kp.sI (SI := fun x j => x = 400 ∧ j = 27) (SJ := noA) w1 ⟨rfl, rfl⟩ _) (fun a j z => by omega)).kp k1.1 (fun a j z => by omega)) v u (by omega) (by omega)) ?_
          refine V_iconst (v := -1) dX9_walk_108 (by decide) ?_
          refine V_icmp_eq (tgt := 155) dX9_walk_109 (by decide) (fun c109 => ?_) (fun c109 => ?_)
          · refine S_iinc (L' := [(0, _), (5, _), (6, _), (7, _)]) dX9_walk_155 rfl rfl rfl rfl ?_
            rw [nI_inc]
            refine V_goto (tgt := 94) dX9_walk_158 (by decide) ?_
            have huv : nxB (egZ z) D v u = false := by
              cases hx : nxB (egZ z) D v u with
              | false => rfl
              | true =>
                exfalso
                obtain ⟨cc, dd, ee, q1, q2, q3, q4⟩ := nxB_t.mp hx
                rw [hv] at q3
                cases q3
                first
                  | (have h109 := c109
                     rw [show eg (zQ z) (kN (zK z)) (zJ z) v u = some cc from q1] at h109
                     have hlt := eg_lt (jn := zJ z) z0.2.2.2.1.2.1 q1
                     exact nI_nm1 (by omega) h109)
                  | (have h120 := c120
                     rw [q2] at h120
                     have hlt := a4 u dd q2
                     exact nI_nm1 (by omega) h120)
                  | (have h152 := c152
                     rw [show eg (zQ z) (kN (zK z)) (zJ z) v u = some cc from q1, q2] at h152
                     exact h152 (by show nI cc + nI dd = nI _; rw [nI_add, q4]))
            have hne : u ≠ u0 := fun q => by rw [q, hx0] at huv; cases huv
            exact absurd (show u = u0 by omega) hne
          · first | refine V_aload_n dX9_walk_112 rfl rfl ?_ | refine V_aload_nN dX9_walk_112 rfl rfl ?_
            first | refine V_getr (by exact h2.k _ rfl rfl) fX9_70 dX9_walk_113 (by exact (h2.r 25 rfl (by decide) : _ = some 426)) ?_ | refine V_getrN (by exact h2.k _ rfl rfl) fX9_70 dX9_walk_113 (by exact (h2.r 25 rfl (by decide) : _ = some 426)) ?_
            refine V_iload dX9_walk_116 rfl ?_
            refine G_iald (j := u) (by exact h2.k _ rfl rfl) (by rfl) (by exact h2.lt 426 (m := 180) rfl rfl (by decide) rfl (by omega)) (by exact h2.nlt 426 rfl rfl (by decide)) dX9_walk_118 (by exact ((k1.1.I (by omega)).trans ((rdI_nn (by decide)).trans (a3 u (by omega))))) ?_
            refine V_iconst (v := -1) dX9_walk_119 (by decide) ?_
            refine V_icmp_eq (tgt := 155) dX9_walk_120 (by decide) (fun c120 => ?_) (fun c120 => ?_)
            · refine S_iinc (L' := [(0, _), (5, _), (6, _), (7, _)]) dX9_walk_155 rfl rfl rfl rfl ?_
              rw [nI_inc]
              refine V_goto (tgt := 94) dX9_walk_158 (by decide) ?_
              have huv : nxB (egZ z) D v u = false := by
                cases hx : nxB (egZ z) D v u with
                | false => rfl
                | true =>
                  exfalso
                  obtain ⟨cc, dd, ee, q1, q2, q3, q4⟩ := nxB_t.mp hx
                  rw [hv] at q3
                  cases q3
                  first
                    | (have h109 := c109
                       rw [show eg (zQ z) (kN (zK z)) (zJ z) v u = some cc from q1] at h109
                       have hlt := eg_lt (jn := zJ z) z0.2.2.2.1.2.1 q1
                       exact nI_nm1 (by omega) h109)
                    | (have h120 := c120
                       rw [q2] at h120
                       have hlt := a4 u dd q2
                       exact nI_nm1 (by omega) h120)
                    | (have h152 := c152
                       rw [show eg (zQ z) (kN (zK z)) (zJ z) v u = some cc from q1, q2] at h152
                       exact h152 (by show nI cc + nI dd = nI _; rw [nI_add, q4]))
              have hne : u ≠ u0 := fun q => by rw [q, hx0] at huv; cases huv
              exact absurd (show u = u0 by omega) hne
            · first | refine V_aload_n dX9_walk_123 rfl rfl ?_ | refine V_aload_nN dX9_walk_123 rfl rfl ?_
              first | refine V_getr (by exact h2.k _ rfl rfl) fX9_63 dX9_walk_124 (by exact (h2.r 23 rfl (by decide) : _ = some 424)) ?_ | refine V_getrN (by exact h2.k _ rfl rfl) fX9_63 dX9_walk_124 (by exact (h2.r 23 rfl (by decide) : _ = some 424)) ?_
              refine V_sipush (v := 180) dX9_walk_127 (by decide) ?_
              refine V_iload dX9_walk_130 rfl ?_
              refine V_imul dX9_walk_132 ?_
              refine V_iload dX9_walk_133 rfl ?_
              refine V_iadd dX9_walk_135 ?_
              rw [sp180]
              refine G_iald (j := 180 * v + u) (by exact h2.k _ rfl rfl) (by rfl) (by exact h2.lt 424 (m := 32400) rfl rfl (by decide) rfl (by omega)) (by exact h2.nlt 424 rfl rfl (by decide)) dX9_walk_136 (by exact ((a2.kp (Kp.sI (SI := fun x j => x = 400 ∧ j = 27) (SJ := noA) w1 ⟨rfl, rfl⟩ _) (fun a j z => by omega)).kp k1.1 (fun a j z => by omega)) v u (by omega) (by omega)) ?_
              first | refine V_aload_n dX9_walk_137 rfl rfl ?_ | refine V_aload_nN dX9_walk_137 rfl rfl ?_
              first | refine V_getr (by exact h2.k _ rfl rfl) fX9_70 dX9_walk_138 (by exact (h2.r 25 rfl (by decide) : _ = some 426)) ?_ | refine V_getrN (by exact h2.k _ rfl rfl) fX9_70 dX9_walk_138 (by exact (h2.r 25 rfl (by decide) : _ = some 426)) ?_
              refine V_iload dX9_walk_141 rfl ?_
              refine G_iald (j := u) (by exact h2.k _ rfl rfl) (by rfl) (by exact h2.lt 426 (m := 180) rfl rfl (by decide) rfl (by omega)) (by exact h2.nlt 426 rfl rfl (by decide)) dX9_walk_143 (by exact ((k1.1.I (by omega)).trans ((rdI_nn (by decide)).trans (a3 u (by omega))))) ?_
              refine V_iadd dX9_walk_144 ?_
              first | refine V_aload_n dX9_walk_145 rfl rfl ?_ | refine V_aload_nN dX9_walk_145 rfl rfl ?_
              first | refine V_getr (by exact h2.k _ rfl rfl) fX9_70 dX9_walk_146 (by exact (h2.r 25 rfl (by decide) : _ = some 426)) ?_ | refine V_getrN (by exact h2.k _ rfl rfl) fX9_70 dX9_walk_146 (by exact (h2.r 25 rfl (by decide) : _ = some 426)) ?_
              refine V_iload dX9_walk_149 rfl ?_
              refine G_iald (j := v) (by exact h2.k _ rfl rfl) (by rfl) (by exact h2.lt 426 (m := 180) rfl rfl (by decide) rfl (by omega)) (by exact h2.nlt 426 rfl rfl (by decide)) dX9_walk_151 (by exact (((k1.1.I (by omega)).trans ((rdI_nn (by decide)).trans (a3 v (by omega)))).trans (congrArg oI hv) : _ = nI ev)) ?_
              refine V_icmp_eq (tgt := 161) dX9_walk_152 (by decide) (fun c152 => ?_) (fun c152 => ?_)
              · refine V_iload dX9_walk_161 rfl ?_
                refine S_istore (L' := [(0, _), (5, _), (6, _), (7, _)]) dX9_walk_163 rfl rfl ?_
                first | refine V_aload_n dX9_walk_165 rfl rfl ?_ | refine V_aload_nN dX9_walk_165 rfl rfl ?_
                first | refine V_getr (by exact h2.k _ rfl rfl) fX9_79 dX9_walk_166 (by exact (h2.r 29 rfl (by decide) : _ = some 430)) ?_ | refine V_getrN (by exact h2.k _ rfl rfl) fX9_79 dX9_walk_166 (by exact (h2.r 29 rfl (by decide) : _ = some 430)) ?_
                first | refine V_aload_n dX9_walk_169 rfl rfl ?_ | refine V_aload_nN dX9_walk_169 rfl rfl ?_
                refine G_geti (by exact h2.k _ rfl rfl) fX9_225 dX9_walk_170 (by exact k1.2.1) ?_
                refine V_iload dX9_walk_173 rfl ?_
                refine G_iast (j := n) (by exact h2.k _ rfl rfl) (by rfl) (by exact h2.lt 430 (m := 180) rfl rfl (by decide) rfl (by omega)) (by exact h2.nlt 430 rfl rfl (by decide)) dX9_walk_175 ?_
                first | refine V_aload_n dX9_walk_176 rfl rfl ?_ | refine V_aload_nN dX9_walk_176 rfl rfl ?_
                refine V_dup dX9_walk_177 rfl ?_
                refine G_geti (by exact h2.k _ rfl rfl) fX9_225 dX9_walk_178 (by exact (rdI_nn (by decide)).trans k1.2.1) ?_
                refine V_iconst (v := 1) dX9_walk_181 (by decide) ?_
                refine V_iadd dX9_walk_182 ?_
                rw [nI_1]
                refine V_puti (by exact h2.k _ rfl rfl) pfX9_225 (fun h => nomatch h) dX9_walk_183 ⟨rfl, rfl⟩ ?_
                refine V_goto (tgt := 84) dX9_walk_186 (by decide) ?_
                have hcn : ¬ egZ z v u = none := fun z => c109 (congrArg oI z)
                obtain ⟨cc, hcc⟩ := Option.ne_none_iff_exists'.mp hcn
                have hdn : ¬ D u = none := fun z => c120 (congrArg oI z)
                obtain ⟨du, hdu⟩ := Option.ne_none_iff_exists'.mp hdn
                have hlt := eg_lt (jn := zJ z) z0.2.2.2.1.2.1 hcc
                have hld := a4 u du hdu
                have hlv := a4 v ev hv
                have h152 := c152
                rw [show eg (zQ z) (kN (zK z)) (zJ z) v u = some cc from hcc, hdu] at h152
                have hev : cc + du = ev := (nI_eq (by omega) (by omega)).mp (by rw [← nI_add]; exact h152)
                obtain ⟨hn180, hk⟩ := k1.next hv hvg (by omega) hcc (eg_P (jn := zJ z) z0.2.2.2.1.2.1 v u cc hcc).2.2 hdu hev.symm hno
                refine V_sub (L' := [(0, _), (5, _), (6, _)]) rfl ?_
                exact ihW (n + 1) u _ (by omega) hk
              · refine S_iinc (L' := [(0, _), (5, _), (6, _), (7, _)]) dX9_walk_155 rfl rfl rfl rfl ?_
                rw [nI_inc]
                refine V_goto (tgt := 94) dX9_walk_158 (by decide) ?_
                have huv : nxB (egZ z) D v u = false := by
                  cases hx : nxB (egZ z) D v u with
                  | false => rfl
                  | true =>
                    exfalso
                    obtain ⟨cc, dd, ee, q1, q2, q3, q4⟩ := nxB_t.mp hx
                    rw [hv] at q3
                    cases q3
                    first
                      | (have h109 := c109
                         rw [show eg (zQ z) (kN (zK z)) (zJ z) v u = some cc from q1] at h109
                         have hlt := eg_lt (jn := zJ z) z0.2.2.2.1.2.1 q1
                         exact nI_nm1 (by omega) h109)
                      | (have h120 := c120
                         rw [q2] at h120
                         have hlt := a4 u dd q2
                         exact nI_nm1 (by omega) h120)
                      | (have h152 := c152
                         rw [show eg (zQ z) (kN (zK z)) (zJ z) v u = some cc from q1, q2] at h152
                         exact h152 (by show nI cc + nI dd = nI _; rw [nI_add, q4]))
                have hne : u ≠ u0 := fun q => by rw [q, hx0] at huv; cases huv
                exact absurd (show u = u0 by omega) hne
        | succ m ihU =>
          intro u hm hno
          first | refine V_aload_n dX9_walk_94 rfl rfl ?_ | refine V_aload_nN dX9_walk_94 rfl rfl ?_
          first | refine V_getr (by exact h2.k _ rfl rfl) fX9_63 dX9_walk_95 (by exact (h2.r 23 rfl (by decide) : _ = some 424)) ?_ | refine V_getrN (by exact h2.k _ rfl rfl) fX9_63 dX9_walk_95 (by exact (h2.r 23 rfl (by decide) : _ = some 424)) ?_
          refine V_sipush (v := 180) dX9_walk_98 (by decide) ?_
          refine V_iload dX9_walk_101 rfl ?_
          refine V_imul dX9_walk_103 ?_
          refine V_iload dX9_walk_104 rfl ?_
          refine V_iadd dX9_walk_106 ?_
          rw [sp180]
          refine G_iald (j := 180 * v + u) (by exact h2.k _ rfl rfl) (by rfl) (by exact h2.lt 424 (m := 32400) rfl rfl (by decide) rfl (by omega)) (by exact h2.nlt 424 rfl rfl (by decide)) dX9_walk_107 (by exact ((a2.kp (Kp.sI (SI := fun x j => x = 400 ∧ j = 27) (SJ := noA) w1 ⟨rfl, rfl⟩ _) (fun a j z => by omega)).kp k1.1 (fun a j z => by omega)) v u (by omega) (by omega)) ?_
          refine V_iconst (v := -1) dX9_walk_108 (by decide) ?_
          refine V_icmp_eq (tgt := 155) dX9_walk_109 (by decide) (fun c109 => ?_) (fun c109 => ?_)
          · refine S_iinc (L' := [(0, _), (5, _), (6, _), (7, _)]) dX9_walk_155 rfl rfl rfl rfl ?_
            rw [nI_inc]
            refine V_goto (tgt := 94) dX9_walk_158 (by decide) ?_
            have huv : nxB (egZ z) D v u = false := by
              cases hx : nxB (egZ z) D v u with
              | false => rfl
              | true =>
                exfalso
                obtain ⟨cc, dd, ee, q1, q2, q3, q4⟩ := nxB_t.mp hx
                rw [hv] at q3
                cases q3
                first
                  | (have h109 := c109
                     rw [show eg (zQ z) (kN (zK z)) (zJ z) v u = some cc from q1] at h109
                     have hlt := eg_lt (jn := zJ z) z0.2.2.2.1.2.1 q1
                     exact nI_nm1 (by omega) h109)
                  | (have h120 := c120
                     rw [q2] at h120
                     have hlt := a4 u dd q2
                     exact nI_nm1 (by omega) h120)
                  | (have h152 := c152
                     rw [show eg (zQ z) (kN (zK z)) (zJ z) v u = some cc from q1, q2] at h152
                     exact h152 (by show nI cc + nI dd = nI _; rw [nI_add, q4]))
            have hne : u ≠ u0 := fun q => by rw [q, hx0] at huv; cases huv
            have hlu : u < u0 := by omega
            exact ihU (u + 1) (by omega) (fun j hj => by
              by_cases q : j = u
              · rw [q]; exact huv
              · exact hno j (by omega))
          · first | refine V_aload_n dX9_walk_112 rfl rfl ?_ | refine V_aload_nN dX9_walk_112 rfl rfl ?_
            first | refine V_getr (by exact h2.k _ rfl rfl) fX9_70 dX9_walk_113 (by exact (h2.r 25 rfl (by decide) : _ = some 426)) ?_ | refine V_getrN (by exact h2.k _ rfl rfl) fX9_70 dX9_walk_113 (by exact (h2.r 25 rfl (by decide) : _ = some 426)) ?_
            refine V_iload dX9_walk_116 rfl ?_
            refine G_iald (j := u) (by exact h2.k _ rfl rfl) (by rfl) (by exact h2.lt 426 (m := 180) rfl rfl (by decide) rfl (by omega)) (by exact h2.nlt 426 rfl rfl (by decide)) dX9_walk_118 (by exact ((k1.1.I (by omega)).trans ((rdI_nn (by decide)).trans (a3 u (by omega))))) ?_
            refine V_iconst (v := -1) dX9_walk_119 (by decide) ?_
            refine V_icmp_eq (tgt := 155) dX9_walk_120 (by decide) (fun c120 => ?_) (fun c120 => ?_)
            · refine S_iinc (L' := [(0, _), (5, _), (6, _), (7, _)]) dX9_walk_155 rfl rfl rfl rfl ?_
              rw [nI_inc]
              refine V_goto (tgt := 94) dX9_walk_158 (by decide) ?_
              have huv : nxB (egZ z) D v u = false := by
                cases hx : nxB (egZ z) D v u with
                | false => rfl
                | true =>
                  exfalso
                  obtain ⟨cc, dd, ee, q1, q2, q3, q4⟩ := nxB_t.mp hx
                  rw [hv] at q3
                  cases q3
                  first
                    | (have h109 := c109
                       rw [show eg (zQ z) (kN (zK z)) (zJ z) v u = some cc from q1] at h109
                       have hlt := eg_lt (jn := zJ z) z0.2.2.2.1.2.1 q1
                       exact nI_nm1 (by omega) h109)
                    | (have h120 := c120
                       rw [q2] at h120
                       have hlt := a4 u dd q2
                       exact nI_nm1 (by omega) h120)
                    | (have h152 := c152
                       rw [show eg (zQ z) (kN (zK z)) (zJ z) v u = some cc from q1, q2] at h152
                       exact h152 (by show nI cc + nI dd = nI _; rw [nI_add, q4]))
              have hne : u ≠ u0 := fun q => by rw [q, hx0] at huv; cases huv
              have hlu : u < u0 := by omega
              exact ihU (u + 1) (by omega) (fun j hj => by
                by_cases q : j = u
                · rw [q]; exact huv
                · exact hno j (by omega))
            · first | refine V_aload_n dX9_walk_123 rfl rfl ?_ | refine V_aload_nN dX9_walk_123 rfl rfl ?_
              first | refine V_getr (by exact h2.k _ rfl rfl) fX9_63 dX9_walk_124 (by exact (h2.r 23 rfl (by decide) : _ = some 424)) ?_ | refine V_getrN (by exact h2.k _ rfl rfl) fX9_63 dX9_walk_124 (by exact (h2.r 23 rfl (by decide) : _ = some 424)) ?_
              refine V_sipush (v := 180) dX9_walk_127 (by decide) ?_
              refine V_iload dX9_walk_130 rfl ?_
              refine V_imul dX9_walk_132 ?_
              refine V_iload dX9_walk_133 rfl ?_
              refine V_iadd dX9_walk_135 ?_
              rw [sp180]
              refine G_iald (j := 180 * v + u) (by exact h2.k _ rfl rfl) (by rfl) (by exact h2.lt 424 (m := 32400) rfl rfl (by decide) rfl (by omega)) (by exact h2.nlt 424 rfl rfl (by decide)) dX9_walk_136 (by exact ((a2.kp (Kp.sI (SI := fun x j => x = 400 ∧ j = 27) (SJ := noA) w1 ⟨rfl, rfl⟩ _) (fun a j z => by omega)).kp k1.1 (fun a j z => by omega)) v u (by omega) (by omega)) ?_
              first | refine V_aload_n dX9_walk_137 rfl rfl ?_ | refine V_aload_nN dX9_walk_137 rfl rfl ?_
              first | refine V_getr (by exact h2.k _ rfl rfl) fX9_70 dX9_walk_138 (by exact (h2.r 25 rfl (by decide) : _ = some 426)) ?_ | refine V_getrN (by exact h2.k _ rfl rfl) fX9_70 dX9_walk_138 (by exact (h2.r 25 rfl (by decide) : _ = some 426)) ?_
              refine V_iload dX9_walk_141 rfl ?_
              refine G_iald (j := u) (by exact h2.k _ rfl rfl) (by rfl) (by exact h2.lt 426 (m := 180) rfl rfl (by decide) rfl (by omega)) (by exact h2.nlt 426 rfl rfl (by decide)) dX9_walk_143 (by exact ((k1.1.I (by omega)).trans ((rdI_nn (by decide)).trans (a3 u (by omega))))) ?_
              refine V_iadd dX9_walk_144 ?_
              first | refine V_aload_n dX9_walk_145 rfl rfl ?_ | refine V_aload_nN dX9_walk_145 rfl rfl ?_
              first | refine V_getr (by exact h2.k _ rfl rfl) fX9_70 dX9_walk_146 (by exact (h2.r 25 rfl (by decide) : _ = some 426)) ?_ | refine V_getrN (by exact h2.k _ rfl rfl) fX9_70 dX9_walk_146 (by exact (h2.r 25 rfl (by decide) : _ = some 426)) ?_
              refine V_iload dX9_walk_149 rfl ?_
              refine G_iald (j := v) (by exact h2.k _ rfl rfl) (by rfl) (by exact h2.lt 426 (m := 180) rfl rfl (by decide) rfl (by omega)) (by exact h2.nlt 426 rfl rfl (by decide)) dX9_walk_151 (by exact (((k1.1.I (by omega)).trans ((rdI_nn (by decide)).trans (a3 v (by omega)))).trans (congrArg oI hv) : _ = nI ev)) ?_
              refine V_icmp_eq (tgt := 161) dX9_walk_152 (by decide) (fun c152 => ?_) (fun c152 => ?_)
              · refine V_iload dX9_walk_161 rfl ?_
                refine S_istore (L' := [(0, _), (5, _), (6, _), (7, _)]) dX9_walk_163 rfl rfl ?_
                first | refine V_aload_n dX9_walk_165 rfl rfl ?_ | refine V_aload_nN dX9_walk_165 rfl rfl ?_
                first | refine V_getr (by exact h2.k _ rfl rfl) fX9_79 dX9_walk_166 (by exact (h2.r 29 rfl (by decide) : _ = some 430)) ?_ | refine V_getrN (by exact h2.k _ rfl rfl) fX9_79 dX9_walk_166 (by exact (h2.r 29 rfl (by decide) : _ = some 430)) ?_
                first | refine V_aload_n dX9_walk_169 rfl rfl ?_ | refine V_aload_nN dX9_walk_169 rfl rfl ?_
                refine G_geti (by exact h2.k _ rfl rfl) fX9_225 dX9_walk_170 (by exact k1.2.1) ?_
                refine V_iload dX9_walk_173 rfl ?_
                refine G_iast (j := n) (by exact h2.k _ rfl rfl) (by rfl) (by exact h2.lt 430 (m := 180) rfl rfl (by decide) rfl (by omega)) (by exact h2.nlt 430 rfl rfl (by decide)) dX9_walk_175 ?_
                first | refine V_aload_n dX9_walk_176 rfl rfl ?_ | refine V_aload_nN dX9_walk_176 rfl rfl ?_
                refine V_dup dX9_walk_177 rfl ?_
                refine G_geti (by exact h2.k _ rfl rfl) fX9_225 dX9_walk_178 (by exact (rdI_nn (by decide)).trans k1.2.1) ?_
                refine V_iconst (v := 1) dX9_walk_181 (by decide) ?_
                refine V_iadd dX9_walk_182 ?_
                rw [nI_1]
                refine V_puti (by exact h2.k _ rfl rfl) pfX9_225 (fun h => nomatch h) dX9_walk_183 ⟨rfl, rfl⟩ ?_
                refine V_goto (tgt := 84) dX9_walk_186 (by decide) ?_
                have hcn : ¬ egZ z v u = none := fun z => c109 (congrArg oI z)
                obtain ⟨cc, hcc⟩ := Option.ne_none_iff_exists'.mp hcn
                have hdn : ¬ D u = none := fun z => c120 (congrArg oI z)
                obtain ⟨du, hdu⟩ := Option.ne_none_iff_exists'.mp hdn
                have hlt := eg_lt (jn := zJ z) z0.2.2.2.1.2.1 hcc
                have hld := a4 u du hdu
                have hlv := a4 v ev hv
                have h152 := c152
                rw [show eg (zQ z) (kN (zK z)) (zJ z) v u = some cc from hcc, hdu] at h152
                have hev : cc + du = ev := (nI_eq (by omega) (by omega)).mp (by rw [← nI_add]; exact h152)
                obtain ⟨hn180, hk⟩ := k1.next hv hvg (by omega) hcc (eg_P (jn := zJ z) z0.2.2.2.1.2.1 v u cc hcc).2.2 hdu hev.symm hno
                refine V_sub (L' := [(0, _), (5, _), (6, _)]) rfl ?_
                exact ihW (n + 1) u _ (by omega) hk
              · refine S_iinc (L' := [(0, _), (5, _), (6, _), (7, _)]) dX9_walk_155 rfl rfl rfl rfl ?_
                rw [nI_inc]
                refine V_goto (tgt := 94) dX9_walk_158 (by decide) ?_
                have huv : nxB (egZ z) D v u = false := by
                  cases hx : nxB (egZ z) D v u with
                  | false => rfl
                  | true =>
                    exfalso
                    obtain ⟨cc, dd, ee, q1, q2, q3, q4⟩ := nxB_t.mp hx
                    rw [hv] at q3
                    cases q3
                    first
                      | (have h109 := c109
                         rw [show eg (zQ z) (kN (zK z)) (zJ z) v u = some cc from q1] at h109
                         have hlt := eg_lt (jn := zJ z) z0.2.2.2.1.2.1 q1
                         exact nI_nm1 (by omega) h109)
                      | (have h120 := c120
                         rw [q2] at h120
                         have hlt := a4 u dd q2
                         exact nI_nm1 (by omega) h120)
                      | (have h152 := c152
                         rw [show eg (zQ z) (kN (zK z)) (zJ z) v u = some cc from q1, q2] at h152
                         exact h152 (by show nI cc + nI dd = nI _; rw [nI_add, q4]))
                have hne : u ≠ u0 := fun q => by rw [q, hx0] at huv; cases huv
                have hlu : u < u0 := by omega
                exact ihU (u + 1) (by omega) (fun j hj => by
                  by_cases q : j = u
                  · rw [q]; exact huv
                  · exact hno j (by omega))
      refine V_iload dX9_walk_84 rfl ?_
      refine V_iload dX9_walk_86 rfl ?_
      refine V_icmp_eq (tgt := 189) dX9_walk_88 (by decide) (fun c88 => ?_) (fun c88 => ?_)
      · first | refine V_aload_n dX9_walk_189 rfl rfl ?_ | refine V_aload_nN dX9_walk_189 rfl rfl ?_
        refine G_geti (by exact h2.k _ rfl rfl) fX9_76 dX9_walk_190 (by exact (k1.1.I (by omega)).trans rdI_eq) ?_
        refine V_iret rfl dX9_walk_193 (Nat.le_of_ble_eq_true rfl) (Nat.le_of_ble_eq_true rfl) ?_
        have hvg : v = 30 * d + g := (nI_eq (by omega) (by have := hP2.1; omega)).mp c88
        have hfin := k1.fin hvg he0
        have hW0 : Kp grI noA w w2 := ((a1.mono (fun a j z => by unfold diI at z; unfold grI; omega) (fun _ _ z => z)).trans (Kp.sI (SI := grI) (SJ := noA) w1 (by unfold grI; omega) _)).trans (k1.1.mono (fun a j z => by unfold grI; omega) (fun _ _ z => z))
        have hG : MGr (zJ z, D (30 * c + f), wpN (egZ z) D (30 * c + f) (30 * d + g), sqF (nxD (egZ z) D) (30 * c + f) (30 * d + g)) w2 := by
          rw [hfin]
          exact ⟨(k1.1.I (by omega)).trans ((rdI_ne (by decide)).trans ((a1.I (by unfold diI; omega)).trans z0.2.2.2.1.1)), z0.2.2.2.1.2.1, (k1.1.I (by omega)).trans rdI_eq, k1.2.1, k1.2.2.2.1, k1.2.2.2.2.2.2.1⟩
        exact ⟨_, rfl, by rw [e], by rw [e]; exact z0.setG hW0 hG, hW0.mog⟩
      · refine V_iconst (v := 0) dX9_walk_91 (by decide) ?_
        refine S_istore (L' := [(0, _), (5, _), (6, _), (7, _)]) dX9_walk_92 rfl rfl ?_
        have hvg : ¬ v = 30 * d + g := fun z => c88 (by rw [z])
        have k1' := k1
        obtain ⟨-, -, -, -, -, -, -, ev, hv, -⟩ := k1'
        obtain ⟨u0, c0, d0, q1, q2, q3⟩ := hb.2.2 v ev hvg hv
        have hu0 := (eg_P (jn := zJ z) z0.2.2.2.1.2.1 v u0 c0 q1).2.1.1
        have hc0 := (eg_P (jn := zJ z) z0.2.2.2.1.2.1 v u0 c0 q1).2.2
        exact lpU u0 hu0 ev hv (nxB_t.mpr ⟨c0, d0, ev, q1, q2, hv, q3⟩) hvg u0 0 (by omega) (fun j hj => absurd hj (Nat.not_lt_zero _))
  first | refine V_aload_n dX9_walk_0 rfl rfl ?_ | refine V_aload_nN dX9_walk_0 rfl rfl ?_
  refine V_iload_n dX9_walk_1 rfl rfl ?_
  refine V_iload_n dX9_walk_2 rfl rfl ?_
  refine V_callV (As := [_, _]) (st := _) (c_X9_isFrame (kN (zK z)) (zQ z) x y w z0.2.1) kX9_184 (by exact z0.1.1.k _ rfl rfl) ⟨rfl, rfl, rfl⟩ ⟨(Nat.le_of_ble_eq_true rfl), (Nat.le_of_ble_eq_true rfl)⟩ dX9_walk_3 rfl rfl (Nat.le_of_ble_eq_true rfl) ⟨(Nat.le_of_ble_eq_true rfl), (Nat.le_of_ble_eq_true rfl)⟩ ?_
  refine V_if_eq (tgt := 19) dX9_walk_6 (by decide) (fun c6 => ?_) (fun c6 => ?_)
  · refine V_bipush (v := -2) dX9_walk_19 (by decide) ?_
    refine V_iret rfl dX9_walk_21 (Nat.le_of_ble_eq_true rfl) (Nat.le_of_ble_eq_true rfl) ?_
    first
      | (have hn := b01_0 c16
         have e : oWalk z D x y u p = (-2, z) := by unfold oWalk; rw [if_neg (fun q => hn q.2)]
         exact ⟨_, rfl, by rw [e], by rw [e]; exact z0, Keep.refl _ _⟩)
      | (have hn := b01_0 c6
         have e : oWalk z D x y u p = (-2, z) := by unfold oWalk; rw [if_neg (fun q => hn q.1)]
         exact ⟨_, rfl, by rw [e], by rw [e]; exact z0, Keep.refl _ _⟩)
  · first | refine V_aload_n dX9_walk_9 rfl rfl ?_ | refine V_aload_nN dX9_walk_9 rfl rfl ?_
    refine V_iload_n dX9_walk_10 rfl rfl ?_
    refine V_iload dX9_walk_11 rfl ?_
    refine V_callV (As := [_, _]) (st := _) (c_X9_isFrame (kN (zK z)) (zQ z) u p w z0.2.1) kX9_184 (by exact z0.1.1.k _ rfl rfl) ⟨rfl, rfl, rfl⟩ ⟨(Nat.le_of_ble_eq_true rfl), (Nat.le_of_ble_eq_true rfl)⟩ dX9_walk_13 rfl rfl (Nat.le_of_ble_eq_true rfl) ⟨(Nat.le_of_ble_eq_true rfl), (Nat.le_of_ble_eq_true rfl)⟩ ?_
    refine V_if_ne (tgt := 22) dX9_walk_16 (by decide) (fun c16 => ?_) (fun c16 => ?_)
    · obtain ⟨c, f, hc, hf, rfl, rfl⟩ := isFr_s z0 (b01_1 c6)
      obtain ⟨d, g, hd, hg, rfl, rfl⟩ := isFr_s z0 (b01_1 c16)
      have hcc := z0.2.1.le hc
      have hdd := z0.2.1.le hd
      have b1 : bN (nI c) = c := bN_nI (by omega)
      have b2 : bN (nI f) = f := bN_nI (by omega)
      have b3 : bN (nI d) = d := bN_nI (by omega)
      have b4 : bN (nI g) = g := bN_nI (by omega)
      rw [b3, b4] at hb
      have hP1 : pP (zQ z) (30 * c + f) := ⟨by omega, decide_eq_true (by rw [show (30 * c + f) % 30 = f by omega, show (30 * c + f) / 30 = c by omega]; exact hf)⟩
      have hP2 : pP (zQ z) (30 * d + g) := ⟨by omega, decide_eq_true (by rw [show (30 * d + g) % 30 = g by omega, show (30 * d + g) / 30 = d by omega]; exact hg)⟩
      have e : oWalk z D (nI c) (nI f) (nI d) (nI g) = (oI (D (30 * c + f)), pG z (zJ z, D (30 * c + f), wpN (egZ z) D (30 * c + f) (30 * d + g), sqF (nxD (egZ z) D) (30 * c + f) (30 * d + g))) := by
        unfold oWalk
        rw [if_pos ⟨b01_1 c6, b01_1 c16⟩, b1, b2, b3, b4]
      refine V_bipush (v := 30) dX9_walk_22 (by decide) ?_
      refine V_iload_n dX9_walk_24 rfl rfl ?_
      refine V_imul dX9_walk_25 ?_
      refine V_iload_n dX9_walk_26 rfl rfl ?_
      refine V_iadd dX9_walk_27 ?_
      rw [slot_N]
      refine S_istore (L' := [(0, _), (3, _), (4, _), (5, _)]) dX9_walk_28 rfl rfl ?_
      refine V_bipush (v := 30) dX9_walk_30 (by decide) ?_
      refine V_iload_n dX9_walk_32 rfl rfl ?_
      refine V_imul dX9_walk_33 ?_
      refine V_iload dX9_walk_34 rfl ?_
      refine V_iadd dX9_walk_36 ?_
      rw [slot_N]
      refine S_istore (L' := [(0, _), (5, _), (6, _)]) dX9_walk_37 rfl rfl ?_
      first | refine V_aload_n dX9_walk_39 rfl rfl ?_ | refine V_aload_nN dX9_walk_39 rfl rfl ?_
      refine V_iload dX9_walk_40 rfl ?_
      refine V_callVvr (As := [_]) (st := _) (c_X9_findDistances z (30 * d + g) D w z0 hP2 hb) kX9_221 (by exact z0.1.1.k _ rfl rfl) ⟨rfl, rfl, rfl⟩ ⟨(Nat.le_of_ble_eq_true rfl), (Nat.le_of_ble_eq_true rfl)⟩ dX9_walk_42 rfl rfl (Nat.le_of_ble_eq_true rfl) ⟨(Nat.le_of_ble_eq_true rfl), (Nat.le_of_ble_eq_true rfl)⟩ (fun w1 hw1 => ?_)
      obtain ⟨a1, a2, a3, a4⟩ := hw1
      have hl1 : LayM w1 := z0.1.1.kp a1
      first | refine V_aload_n dX9_walk_45 rfl rfl ?_ | refine V_aload_nN dX9_walk_45 rfl rfl ?_
      first | refine V_aload_n dX9_walk_46 rfl rfl ?_ | refine V_aload_nN dX9_walk_46 rfl rfl ?_
      first | refine V_getr (by exact hl1.k _ rfl rfl) fX9_70 dX9_walk_47 (by exact (hl1.r 25 rfl (by decide) : _ = some 426)) ?_ | refine V_getrN (by exact hl1.k _ rfl rfl) fX9_70 dX9_walk_47 (by exact (hl1.r 25 rfl (by decide) : _ = some 426)) ?_
      refine V_iload dX9_walk_50 rfl ?_
      refine G_iald (j := 30 * c + f) (by exact hl1.k _ rfl rfl) (by rfl) (by exact hl1.lt 426 (m := 180) rfl rfl (by decide) rfl (by exact hP1.1)) (by exact hl1.nlt 426 rfl rfl (by decide)) dX9_walk_52 (by exact a3 (30 * c + f) hP1.1) ?_
      refine V_puti (by exact hl1.k _ rfl rfl) pfX9_76 (fun h => nomatch h) dX9_walk_53 ⟨rfl, rfl⟩ ?_
      first | refine V_aload_n dX9_walk_56 rfl rfl ?_ | refine V_aload_nN dX9_walk_56 rfl rfl ?_
      refine V_iconst (v := 0) dX9_walk_57 (by decide) ?_
      refine V_puti (by exact hl1.k _ rfl rfl) pfX9_225 (fun h => nomatch h) dX9_walk_58 ⟨rfl, rfl⟩ ?_
      first | refine V_aload_n dX9_walk_61 rfl rfl ?_ | refine V_aload_nN dX9_walk_61 rfl rfl ?_
      refine G_geti (by exact hl1.k _ rfl rfl) fX9_76 dX9_walk_62 (by exact (rdI_ne (by decide)).trans rdI_eq) ?_
      refine V_iconst (v := -1) dX9_walk_65 (by decide) ?_
      refine V_icmp_ne (tgt := 71) dX9_walk_66 (by decide) (fun c66 => ?_) (fun c66 => ?_)
      · first | refine V_aload_n dX9_walk_71 rfl rfl ?_ | refine V_aload_nN dX9_walk_71 rfl rfl ?_
        first | refine V_getr (by exact hl1.k _ rfl rfl) fX9_79 dX9_walk_72 (by exact (hl1.r 29 rfl (by decide) : _ = some 430)) ?_ | refine V_getrN (by exact hl1.k _ rfl rfl) fX9_79 dX9_walk_72 (by exact (hl1.r 29 rfl (by decide) : _ = some 430)) ?_
        refine V_iconst (v := 0) dX9_walk_75 (by decide) ?_
        refine V_iload dX9_walk_76 rfl ?_
        refine G_iast (j := 0) (by exact hl1.k _ rfl rfl) (by rfl) (by exact hl1.lt 430 (m := 180) rfl rfl (by decide) rfl (by decide)) (by exact hl1.nlt 430 rfl rfl (by decide)) dX9_walk_78 ?_
        first | refine V_aload_n dX9_walk_79 rfl rfl ?_ | refine V_aload_nN dX9_walk_79 rfl rfl ?_
        refine V_iconst (v := 1) dX9_walk_80 (by decide) ?_
        refine V_puti (by exact hl1.k _ rfl rfl) pfX9_225 (fun h => nomatch h) dX9_walk_81 ⟨rfl, rfl⟩ ?_
        have hn : ¬ D (30 * c + f) = none := fun z => c66 (congrArg oI z)
        obtain ⟨e0, he0⟩ := Option.ne_none_iff_exists'.mp hn
        exact lpW c f d g hc hf hd hg hP1 hP2 hb e w1 a1 a2 a3 a4 e0 he0 179 1 (30 * c + f) _ (by omega) ⟨(Kp.sI (SI := fun x j => x = 430 ∨ (x = 400 ∧ j = 28)) (SJ := noA) _ (Or.inr ⟨rfl, rfl⟩) _).trans ((Kp.sI _ (Or.inl rfl) _).trans (Kp.sI _ (Or.inr ⟨rfl, rfl⟩) _)), rdI_eq, by decide, by decide, hP1.1, rfl, fun i hi => by
          obtain rfl : i = 0 := by omega
          exact ⟨30 * c + f, rfl, (rdI_nn (by decide)).trans rdI_eq⟩, e0, he0, setB (fun _ => false) (30 * c + f), by rw [cntF_set rfl, cnt_z, if_pos hP1.1], fun x hx => by
          unfold setB at hx
          by_cases q : x = 30 * c + f
          · rw [q]; exact ⟨e0, he0, Nat.le_refl _⟩
          · rw [if_neg q] at hx; cases hx⟩
      · refine V_iconst (v := -1) dX9_walk_69 (by decide) ?_
        refine V_iret rfl dX9_walk_70 (Nat.le_of_ble_eq_true rfl) (Nat.le_of_ble_eq_true rfl) ?_
        have hn : D (30 * c + f) = none := (oI_some (fun n hn => by have := a4 _ n hn; omega)).mp c66
        rw [hn] at e
        have g9 : Kp grI noA w (sI (sI w1 400 27 (oI (D (30 * c + f)))) 400 28 0) := (a1.mono (fun a j z => by unfold diI at z; unfold grI; omega) (fun _ _ z => z)).trans ((Kp.sI w1 (by unfold grI; omega) _).trans (Kp.sI _ (by unfold grI; omega) _))
        have hw0 : wpN (egZ z) D (30 * c + f) (30 * d + g) = 0 := by unfold wpN; rw [hn]
        have hG : MGr (zJ z, none, wpN (egZ z) D (30 * c + f) (30 * d + g), sqF (nxD (egZ z) D) (30 * c + f) (30 * d + g)) (sI (sI w1 400 27 (oI (D (30 * c + f)))) 400 28 0) := by
          rw [hw0, hn]
          exact ⟨(rdI_ne (by decide)).trans ((rdI_ne (by decide)).trans ((a1.I (by unfold diI; omega)).trans z0.2.2.2.1.1)), z0.2.2.2.1.2.1, (rdI_ne (by decide)).trans rdI_eq, rdI_eq, Nat.zero_le _, fun n hn => absurd hn (Nat.not_lt_zero _)⟩
        exact ⟨_, rfl, by rw [e]; rfl, by rw [e]; exact z0.setG g9 hG, g9.mog⟩
    · refine V_bipush (v := -2) dX9_walk_19 (by decide) ?_
      refine V_iret rfl dX9_walk_21 (Nat.le_of_ble_eq_true rfl) (Nat.le_of_ble_eq_true rfl) ?_
      first
        | (have hn := b01_0 c16
           have e : oWalk z D x y u p = (-2, z) := by unfold oWalk; rw [if_neg (fun q => hn q.2)]
           exact ⟨_, rfl, by rw [e], by rw [e]; exact z0, Keep.refl _ _⟩)
        | (have hn := b01_0 c6
           have e : oWalk z D x y u p = (-2, z) := by unfold oWalk; rw [if_neg (fun q => hn q.1)]
           exact ⟨_, rfl, by rw [e], by rw [e]; exact z0, Keep.refl _ _⟩)
