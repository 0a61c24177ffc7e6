/-! THE REFERENCE: two -/
theorem kk_same (k : Sk) (b t u : Nat) : kLow (kU (kkp k b t) b u) = kLow k ∧ kSpr (kU (kkp k b t) b u) = kSpr k ∧ kN (kU (kkp k b t) b u) = kN k ∧ kRx (kU (kkp k b t) b u) = kRx k ∧ kRy (kU (kkp k b t) b u) = kRy k := by
  unfold kkp
  cases kPar k b with
  | none => exact ⟨rfl, rfl, rfl, rfl, rfl⟩
  | some p => exact ⟨rfl, rfl, rfl, rfl, rfl⟩
theorem kk_first {k : Sk} (h : Wf k) {b : Nat} (hb : b < kN k) : ∃ a1 a2, a1 < 36 ∧ a2 < 36 ∧ kU (kkp k b a1) b a2 = k := by
  have h1 := (h.2.1 b hb).2.2.2.2.2.2
  unfold kkp
  cases hp : kPar k b with
  | none => exact ⟨0, kTrn k b, by decide, h1, kU_self k b⟩
  | some p =>
    have hpb := (h.2.1 b hb).1 p hp
    refine ⟨kTrn k p, kTrn k b, (h.2.1 p (by omega)).2.2.2.2.2.2, h1, ?_⟩
    dsimp only
    rw [kU_self, kU_self]
theorem kk_p {k : Sk} {b p : Nat} (hp : kPar k b = some p) (hpb : p < b) (a1 a2 t : Nat) : kU (kU (kkp k b a1) b a2) p t = kU (kkp k b t) b a2 := by
  unfold kkp
  rw [hp]
  dsimp only
  rw [kU_comm (kU k p a1) (show b ≠ p by omega), kU_kU]
theorem kk_n {k : Sk} {b : Nat} (hp : kPar k b = none) (a1 a2 : Nat) : kkp k b a1 = kkp k b a2 := by
  unfold kkp
  rw [hp]
theorem kk_B {k : Sk} {b t u : Nat} (h : rtB 600 k) : rtB 600 (kU (kkp k b t) b u) := by
  unfold rtB
  rw [(kk_same k b t u).2.2.2.1, (kk_same k b t u).2.2.2.2]
  exact h
theorem row_st {F : Nat → Int64} {al : Nat → Bool} {t u : Nat} {s : Int64 × Nat × Nat} : rowM F al t (u + 1) s = if al u = true ∧ ((rowM F al t u s).1 < 0 ∨ F u < (rowM F al t u s).1) then (F u, t, u) else rowM F al t u s := rfl
theorem m2_st {k : Sk} {b : Nat} {x y : Int64} {t : Nat} : m2 k b x y (t + 1) = if alP k b t = true then rowM (F2 k b x y t) (alB (kLow k b) (kSpr k b)) t 36 (m2 k b x y t) else m2 k b x y t := rfl

set_option maxRecDepth 100000 in
theorem c_X9_two (z : St) (x : Int32) (p q : Int64) (w : Wd) (z0 : RM z w) (hB : rtB 600 (zK z)) : Cc yX9_two mX9_two [.ref 400, .int x, .long p, .long q] w (fun r w' => ∃ v, r = some v ∧ (v = .long (oTwo z x p q).1 ∧ RM (oTwo z x p q).2 w' ∧ Keep moA w w')) := by
  refine Cc.of (by decide) rfl rfl (Nat.le_of_ble_eq_true rfl) (fun X => ?_)
  change V _ X _ 0 [(0, _), (1, _), (2, _), (4, _)] [] _ (0, 0)
  by_cases hx : isB z x
  · obtain ⟨b, hb, rfl⟩ := isB_s z0 hx
    have hbN : bN (nI b) = b := bN_nI (by have := z0.1.n10; omega)
    have loopT : plc p → plc q → oTwo z (nI b) p q = (farK (twoK (zK z) b p q) b p q, pK z (twoK (zK z) b p q)) → ∀ (d t a1 a2 : Nat) (w1 : Wd), t + d = 36 → a1 < 36 → a2 < 36 → MSk (kU (kkp (zK z) b a1) b a2) w1 → Kp pzI plJ w w1 → V mX9_two X (mq mX9_two X (fun r w' => ∃ v, r = some v ∧ (v = .long (oTwo z (nI b) p q).1 ∧ RM (oTwo z (nI b) p q).2 w' ∧ Keep moA w w'))) 59 [(0, .ref 400), (1, .int (nI b)), (2, .long p), (4, .long q), (6, .int (oI (kPar (zK z) b))), (7, .long (m2 (zK z) b p q t).1), (9, .int (nI (m2 (zK z) b p q t).2.1)), (10, .int (nI (m2 (zK z) b p q t).2.2)), (11, .int (nI t))] [] w1 (0, 0) := by
      intro hx hy e d
      induction d with
      | zero =>
        intro t a1 a2 w1 hd l1 l2 h1 g1
        obtain rfl : t = 36 := hd
        cases hp : kPar (zK z) b with
        | none =>
          refine V_iload dX9_two_59 rfl ?_
          refine V_bipush (v := 36) dX9_two_61 (by decide) ?_
          refine V_icmp_ge (tgt := 183) dX9_two_63 (by decide) (fun c63 => ?_) (fun c63 => False.elim (by exact c63 (by decide)))
          refine V_iload dX9_two_183 rfl ?_
          refine V_iconst (v := -1) dX9_two_185 (by decide) ?_
          refine V_icmp_eq (tgt := 198) dX9_two_186 (by decide) (fun c186 => ?_) (fun c186 => False.elim (by exact c186 rfl))
          first | refine V_aload_n dX9_two_198 rfl rfl ?_ | refine V_aload_nN dX9_two_198 rfl rfl ?_
          first | refine V_getr (by exact h1.1.k _ rfl rfl) fX9_31 dX9_two_199 (by exact (h1.1.r 8 rfl (by decide) : _ = some 409)) ?_ | refine V_getrN (by exact h1.1.k _ rfl rfl) fX9_31 dX9_two_199 (by exact (h1.1.r 8 rfl (by decide) : _ = some 409)) ?_
          refine V_iload_n dX9_two_202 rfl rfl ?_
          refine V_iload dX9_two_203 rfl ?_
          refine G_iast (j := b) (by exact h1.1.k _ rfl rfl) (by rfl) (by exact h1.1.lt 409 (m := 10) rfl rfl (by decide) rfl (by have := z0.1.n10; omega)) (by exact h1.1.nlt 409 rfl rfl (by decide)) dX9_two_205 ?_
          refine V_lload dX9_two_206 rfl ?_
          refine V_lret rfl dX9_two_208 (Nat.le_of_ble_eq_true rfl) (Nat.le_of_ble_eq_true rfl) ?_
          obtain ⟨t1, t2, t3, t4⟩ := two_ok z0.1.2.1 hB hb hx hy
          have hm : MSk (twoK (zK z) b p q) (sI w1 409 b (nI (m2 (zK z) b p q 36).2.2)) := by
            rw [t1, kk_n hp _ a1]
            exact upd9 h1 t4
          obtain ⟨r1, r2⟩ := z0.goal (kp_pz1 g1) hm (by rw [t1]; exact (kk_same _ _ _ _).2.2.1)
          refine ⟨_, rfl, ?_, by rw [e]; exact r1, r2⟩
          rw [e, t1, t2]
          rfl
        | some r =>
          have hpb := (z0.1.wf hb).1 r hp
          refine V_iload dX9_two_59 rfl ?_
          refine V_bipush (v := 36) dX9_two_61 (by decide) ?_
          refine V_icmp_ge (tgt := 183) dX9_two_63 (by decide) (fun c63 => ?_) (fun c63 => False.elim (by exact c63 (by decide)))
          refine V_iload dX9_two_183 rfl ?_
          refine V_iconst (v := -1) dX9_two_185 (by decide) ?_
          refine V_icmp_eq (tgt := 198) dX9_two_186 (by decide) (fun c186 => False.elim (by exact nI_nm1 (by have := z0.1.n10; omega) c186)) (fun c186 => ?_)
          first | refine V_aload_n dX9_two_189 rfl rfl ?_ | refine V_aload_nN dX9_two_189 rfl rfl ?_
          first | refine V_getr (by exact h1.1.k _ rfl rfl) fX9_31 dX9_two_190 (by exact (h1.1.r 8 rfl (by decide) : _ = some 409)) ?_ | refine V_getrN (by exact h1.1.k _ rfl rfl) fX9_31 dX9_two_190 (by exact (h1.1.r 8 rfl (by decide) : _ = some 409)) ?_
          refine V_iload dX9_two_193 rfl ?_
          refine V_iload dX9_two_195 rfl ?_
          refine G_iast (j := r) (by exact h1.1.k _ rfl rfl) (by rfl) (by exact h1.1.lt 409 (m := 10) rfl rfl (by decide) rfl (by have := z0.1.n10; omega)) (by exact h1.1.nlt 409 rfl rfl (by decide)) dX9_two_197 ?_
          first | refine V_aload_n dX9_two_198 rfl rfl ?_ | refine V_aload_nN dX9_two_198 rfl rfl ?_
          first | refine V_getr (by exact h1.1.k _ rfl rfl) fX9_31 dX9_two_199 (by exact (h1.1.r 8 rfl (by decide) : _ = some 409)) ?_ | refine V_getrN (by exact h1.1.k _ rfl rfl) fX9_31 dX9_two_199 (by exact (h1.1.r 8 rfl (by decide) : _ = some 409)) ?_
          refine V_iload_n dX9_two_202 rfl rfl ?_
          refine V_iload dX9_two_203 rfl ?_
          refine G_iast (j := b) (by exact h1.1.k _ rfl rfl) (by rfl) (by exact h1.1.lt 409 (m := 10) rfl rfl (by decide) rfl (by have := z0.1.n10; omega)) (by exact h1.1.nlt 409 rfl rfl (by decide)) dX9_two_205 ?_
          refine V_lload dX9_two_206 rfl ?_
          refine V_lret rfl dX9_two_208 (Nat.le_of_ble_eq_true rfl) (Nat.le_of_ble_eq_true rfl) ?_
          obtain ⟨t1, t2, t3, t4⟩ := two_ok z0.1.2.1 hB hb hx hy
          have hm : MSk (twoK (zK z) b p q) (sI (sI w1 409 r (nI (m2 (zK z) b p q 36).2.1)) 409 b (nI (m2 (zK z) b p q 36).2.2)) := by
            rw [t1]
            have h3 := h1.kU (b := r) t3
            rw [kk_p hp hpb] at h3
            exact upd9 h3 t4
          obtain ⟨r1, r2⟩ := z0.goal (kp_pz1 (kp_pz1 g1)) hm (by rw [t1]; exact (kk_same _ _ _ _).2.2.1)
          refine ⟨_, rfl, ?_, by rw [e]; exact r1, r2⟩
          rw [e, t1, t2]
          rfl
      | succ d ih =>
        intro t a1 a2 w1 hd l1 l2 h1 g1
        have ht36 : t < 36 := by omega
        have loopU : ∀ t, t < 36 → (∀ a3 w3, a3 < 36 → MSk (kU (kkp (zK z) b t) b a3) w3 → Kp pzI plJ w w3 → V mX9_two X (mq mX9_two X (fun r w' => ∃ v, r = some v ∧ (v = .long (oTwo z (nI b) p q).1 ∧ RM (oTwo z (nI b) p q).2 w' ∧ Keep moA w w'))) 59 [(0, .ref 400), (1, .int (nI b)), (2, .long p), (4, .long q), (6, .int (oI (kPar (zK z) b))), (7, .long (rowM (F2 (zK z) b p q t) (alB (kLow (zK z) b) (kSpr (zK z) b)) t 36 (m2 (zK z) b p q t)).1), (9, .int (nI (rowM (F2 (zK z) b p q t) (alB (kLow (zK z) b) (kSpr (zK z) b)) t 36 (m2 (zK z) b p q t)).2.1)), (10, .int (nI (rowM (F2 (zK z) b p q t) (alB (kLow (zK z) b) (kSpr (zK z) b)) t 36 (m2 (zK z) b p q t)).2.2)), (11, .int (nI (t + 1)))] [] w3 (0, 0)) → ∀ (e u a2 : Nat) (w2 : Wd), u + e = 36 → a2 < 36 → MSk (kU (kkp (zK z) b t) b a2) w2 → Kp pzI plJ w w2 → V mX9_two X (mq mX9_two X (fun r w' => ∃ v, r = some v ∧ (v = .long (oTwo z (nI b) p q).1 ∧ RM (oTwo z (nI b) p q).2 w' ∧ Keep moA w w'))) 109 [(0, .ref 400), (1, .int (nI b)), (2, .long p), (4, .long q), (6, .int (oI (kPar (zK z) b))), (7, .long (rowM (F2 (zK z) b p q t) (alB (kLow (zK z) b) (kSpr (zK z) b)) t u (m2 (zK z) b p q t)).1), (9, .int (nI (rowM (F2 (zK z) b p q t) (alB (kLow (zK z) b) (kSpr (zK z) b)) t u (m2 (zK z) b p q t)).2.1)), (10, .int (nI (rowM (F2 (zK z) b p q t) (alB (kLow (zK z) b) (kSpr (zK z) b)) t u (m2 (zK z) b p q t)).2.2)), (11, .int (nI t)), (12, .int (nI u))] [] w2 (0, 0) := by
          intro t ht36 go e
          induction e with
          | zero =>
            intro u a2 w2 hd l2 h2 g2
            obtain rfl : u = 36 := hd
            refine V_iload dX9_two_109 rfl ?_
            refine V_bipush (v := 36) dX9_two_111 (by decide) ?_
            refine V_icmp_ge (tgt := 177) dX9_two_113 (by decide) (fun c113 => ?_) (fun c113 => False.elim (by exact c113 (by decide)))
            refine S_iinc (L' := [(0, _), (1, _), (2, _), (4, _), (6, _), (7, _), (9, _), (10, _), (11, _)]) dX9_two_177 rfl rfl rfl rfl ?_
            rw [nI_inc]
            refine V_goto (tgt := 59) dX9_two_180 (by decide) ?_
            exact go a2 w2 l2 h2 g2
          | succ e ihU =>
            intro u a2 w2 hd l2 h2 g2
            have hu36 : u < 36 := by omega
            refine V_iload dX9_two_109 rfl ?_
            refine V_bipush (v := 36) dX9_two_111 (by decide) ?_
            refine V_icmp_ge (tgt := 177) dX9_two_113 (by decide) (fun c113 => False.elim (by exact nI_ge (a := u) (b := 36) (by omega) (by decide) c113)) (fun c113 => ?_)
            first | refine V_aload_n dX9_two_116 rfl rfl ?_ | refine V_aload_nN dX9_two_116 rfl rfl ?_
            refine V_iload_n dX9_two_117 rfl rfl ?_
            refine V_iload dX9_two_118 rfl ?_
            refine V_callV (As := [_, _]) (st := _) (c_X9_isWithin _ b u w2 h2 (by rw [(kk_same _ _ _ _).2.2.1]; exact hb) hu36) kX9_100 (by exact h2.1.k _ rfl rfl) ⟨rfl, rfl, rfl⟩ ⟨(Nat.le_of_ble_eq_true rfl), (Nat.le_of_ble_eq_true rfl)⟩ dX9_two_120 rfl rfl (Nat.le_of_ble_eq_true rfl) ⟨(Nat.le_of_ble_eq_true rfl), (Nat.le_of_ble_eq_true rfl)⟩ ?_
            rw [(kk_same _ _ _ _).1, (kk_same _ _ _ _).2.1]
            refine V_if_eq (tgt := 171) dX9_two_123 (by decide) (fun c123 => ?_) (fun c123 => ?_)
            · refine S_iinc (L' := [(0, _), (1, _), (2, _), (4, _), (6, _), (7, _), (9, _), (10, _), (11, _), (12, _)]) dX9_two_171 rfl rfl rfl rfl ?_
              rw [nI_inc]
              refine V_goto (tgt := 109) dX9_two_174 (by decide) ?_
              first
                | (have hal := b01_1 c123
                   have key := ihU (u + 1) u _ (by omega) hu36 (pl_kp (upd9 h2 hu36) a3) (kp_pz g2 a3)
                   rw [row_st] at key
                   by_cases hcc : ((rowM (F2 (zK z) b p q t) (alB (kLow (zK z) b) (kSpr (zK z) b)) t u (m2 (zK z) b p q t)).1 < 0 ∨ F2 (zK z) b p q t u < (rowM (F2 (zK z) b p q t) (alB (kLow (zK z) b) (kSpr (zK z) b)) t u (m2 (zK z) b p q t)).1)
                   · rw [if_pos ⟨decide_eq_true hal, hcc⟩] at key
                     first
                       | exact key
                       | exact absurd hcc (fun q => q.elim c147 c155)
                   · rw [if_neg (fun q => hcc q.2)] at key
                     first
                       | exact absurd (Or.inl c147) hcc
                       | exact absurd (Or.inr c155) hcc
                       | exact key)
                | (have hal := b01_0 c123
                   have key := ihU (u + 1) a2 w2 (by omega) l2 h2 g2
                   rw [row_st, if_neg (fun q => hal (of_decide_eq_true q.1))] at key
                   exact key)
            · first | refine V_aload_n dX9_two_126 rfl rfl ?_ | refine V_aload_nN dX9_two_126 rfl rfl ?_
              first | refine V_getr (by exact h2.1.k _ rfl rfl) fX9_31 dX9_two_127 (by exact (h2.1.r 8 rfl (by decide) : _ = some 409)) ?_ | refine V_getrN (by exact h2.1.k _ rfl rfl) fX9_31 dX9_two_127 (by exact (h2.1.r 8 rfl (by decide) : _ = some 409)) ?_
              refine V_iload_n dX9_two_130 rfl rfl ?_
              refine V_iload dX9_two_131 rfl ?_
              refine G_iast (j := b) (by exact h2.1.k _ rfl rfl) (by rfl) (by exact h2.1.lt 409 (m := 10) rfl rfl (by decide) rfl (by have := z0.1.n10; omega)) (by exact h2.1.nlt 409 rfl rfl (by decide)) dX9_two_133 ?_
              first | refine V_aload_n dX9_two_134 rfl rfl ?_ | refine V_aload_nN dX9_two_134 rfl rfl ?_
              refine V_iload_n dX9_two_135 rfl rfl ?_
              refine V_lload_n dX9_two_136 rfl rfl ?_
              refine V_lload dX9_two_137 rfl ?_
              refine V_callVr (As := [_, _, _]) (st := _) (c_X9_farOf (kU (kkp (zK z) b t) b u) b p q _ (upd9 h2 hu36) (kk_B hB) (by rw [(kk_same _ _ _ _).2.2.1]; exact hb) hx hy) kX9_170 (by exact h2.1.k _ rfl rfl) ⟨rfl, rfl, rfl⟩ ⟨(Nat.le_of_ble_eq_true rfl), (Nat.le_of_ble_eq_true rfl)⟩ dX9_two_139 rfl rfl (Nat.le_of_ble_eq_true rfl) ⟨(Nat.le_of_ble_eq_true rfl), (Nat.le_of_ble_eq_true rfl)⟩ (fun v1 w3 hw3 => ?_)
              obtain ⟨rfl, a3⟩ := hw3
              refine S_lstore (L' := [(0, _), (1, _), (2, _), (4, _), (6, _), (7, _), (9, _), (10, _), (11, _), (12, _), (13, _)]) dX9_two_142 rfl rfl ?_
              refine V_lload dX9_two_144 rfl ?_
              refine V_lconst (v := 0) dX9_two_146 (by decide) ?_
              refine V_lcmp_lt (tgt := 159) dX9_two_147 dX9_two_148 (by decide) (fun c147 => ?_) (fun c147 => ?_)
              · refine V_lload dX9_two_159 rfl ?_
                refine S_lstore (L' := [(0, _), (1, _), (2, _), (4, _), (6, _), (7, _), (11, _), (12, _)]) dX9_two_161 rfl rfl ?_
                refine V_iload dX9_two_163 rfl ?_
                refine S_istore (L' := [(0, _), (1, _), (2, _), (4, _), (6, _), (7, _), (9, _), (11, _), (12, _)]) dX9_two_165 rfl rfl ?_
                refine V_iload dX9_two_167 rfl ?_
                refine S_istore (L' := [(0, _), (1, _), (2, _), (4, _), (6, _), (7, _), (9, _), (10, _), (11, _), (12, _)]) dX9_two_169 rfl rfl ?_
                refine S_iinc (L' := [(0, _), (1, _), (2, _), (4, _), (6, _), (7, _), (9, _), (10, _), (11, _), (12, _)]) dX9_two_171 rfl rfl rfl rfl ?_
                rw [nI_inc]
                refine V_goto (tgt := 109) dX9_two_174 (by decide) ?_
                first
                  | (have hal := b01_1 c123
                     have key := ihU (u + 1) u _ (by omega) hu36 (pl_kp (upd9 h2 hu36) a3) (kp_pz g2 a3)
                     rw [row_st] at key
                     by_cases hcc : ((rowM (F2 (zK z) b p q t) (alB (kLow (zK z) b) (kSpr (zK z) b)) t u (m2 (zK z) b p q t)).1 < 0 ∨ F2 (zK z) b p q t u < (rowM (F2 (zK z) b p q t) (alB (kLow (zK z) b) (kSpr (zK z) b)) t u (m2 (zK z) b p q t)).1)
                     · rw [if_pos ⟨decide_eq_true hal, hcc⟩] at key
                       first
                         | exact key
                         | exact absurd hcc (fun q => q.elim c147 c155)
                     · rw [if_neg (fun q => hcc q.2)] at key
                       first
                         | exact absurd (Or.inl c147) hcc
                         | exact absurd (Or.inr c155) hcc
                         | exact key)
                  | (have hal := b01_0 c123
                     have key := ihU (u + 1) a2 w2 (by omega) l2 h2 g2
                     rw [row_st, if_neg (fun q => hal (of_decide_eq_true q.1))] at key
                     exact key)
              · refine V_lload dX9_two_151 rfl ?_
                refine V_lload dX9_two_153 rfl ?_
                refine V_lcmp_ge (tgt := 171) dX9_two_155 dX9_two_156 (by decide) (fun c155 => ?_) (fun c155 => ?_)
                · refine S_iinc (L' := [(0, _), (1, _), (2, _), (4, _), (6, _), (7, _), (9, _), (10, _), (11, _), (12, _)]) dX9_two_171 rfl rfl rfl rfl ?_
                  rw [nI_inc]
                  refine V_goto (tgt := 109) dX9_two_174 (by decide) ?_
                  first
                    | (have hal := b01_1 c123
                       have key := ihU (u + 1) u _ (by omega) hu36 (pl_kp (upd9 h2 hu36) a3) (kp_pz g2 a3)
                       rw [row_st] at key
                       by_cases hcc : ((rowM (F2 (zK z) b p q t) (alB (kLow (zK z) b) (kSpr (zK z) b)) t u (m2 (zK z) b p q t)).1 < 0 ∨ F2 (zK z) b p q t u < (rowM (F2 (zK z) b p q t) (alB (kLow (zK z) b) (kSpr (zK z) b)) t u (m2 (zK z) b p q t)).1)
                       · rw [if_pos ⟨decide_eq_true hal, hcc⟩] at key
                         first
                           | exact key
                           | exact absurd hcc (fun q => q.elim c147 c155)
                       · rw [if_neg (fun q => hcc q.2)] at key
                         first
                           | exact absurd (Or.inl c147) hcc
                           | exact absurd (Or.inr c155) hcc
                           | exact key)
                    | (have hal := b01_0 c123
                       have key := ihU (u + 1) a2 w2 (by omega) l2 h2 g2
                       rw [row_st, if_neg (fun q => hal (of_decide_eq_true q.1))] at key
                       exact key)
                · refine V_lload dX9_two_159 rfl ?_
                  refine S_lstore (L' := [(0, _), (1, _), (2, _), (4, _), (6, _), (7, _), (11, _), (12, _)]) dX9_two_161 rfl rfl ?_
                  refine V_iload dX9_two_163 rfl ?_
                  refine S_istore (L' := [(0, _), (1, _), (2, _), (4, _), (6, _), (7, _), (9, _), (11, _), (12, _)]) dX9_two_165 rfl rfl ?_
                  refine V_iload dX9_two_167 rfl ?_
                  refine S_istore (L' := [(0, _), (1, _), (2, _), (4, _), (6, _), (7, _), (9, _), (10, _), (11, _), (12, _)]) dX9_two_169 rfl rfl ?_
                  refine S_iinc (L' := [(0, _), (1, _), (2, _), (4, _), (6, _), (7, _), (9, _), (10, _), (11, _), (12, _)]) dX9_two_171 rfl rfl rfl rfl ?_
                  rw [nI_inc]
                  refine V_goto (tgt := 109) dX9_two_174 (by decide) ?_
                  first
                    | (have hal := b01_1 c123
                       have key := ihU (u + 1) u _ (by omega) hu36 (pl_kp (upd9 h2 hu36) a3) (kp_pz g2 a3)
                       rw [row_st] at key
                       by_cases hcc : ((rowM (F2 (zK z) b p q t) (alB (kLow (zK z) b) (kSpr (zK z) b)) t u (m2 (zK z) b p q t)).1 < 0 ∨ F2 (zK z) b p q t u < (rowM (F2 (zK z) b p q t) (alB (kLow (zK z) b) (kSpr (zK z) b)) t u (m2 (zK z) b p q t)).1)
                       · rw [if_pos ⟨decide_eq_true hal, hcc⟩] at key
                         first
                           | exact key
                           | exact absurd hcc (fun q => q.elim c147 c155)
                       · rw [if_neg (fun q => hcc q.2)] at key
                         first
                           | exact absurd (Or.inl c147) hcc
                           | exact absurd (Or.inr c155) hcc
                           | exact key)
                    | (have hal := b01_0 c123
                       have key := ihU (u + 1) a2 w2 (by omega) l2 h2 g2
                       rw [row_st, if_neg (fun q => hal (of_decide_eq_true q.1))] at key
                       exact key)
        cases hp : kPar (zK z) b with
        | none =>
          rw [hp] at ih loopU
          refine V_iload dX9_two_59 rfl ?_
          refine V_bipush (v := 36) dX9_two_61 (by decide) ?_
          refine V_icmp_ge (tgt := 183) dX9_two_63 (by decide) (fun c63 => False.elim (by exact nI_ge (a := t) (b := 36) (by omega) (by decide) c63)) (fun c63 => ?_)
          refine V_iload dX9_two_66 rfl ?_
          refine V_iconst (v := -1) dX9_two_68 (by decide) ?_
          refine V_icmp_ne (tgt := 80) dX9_two_69 (by decide) (fun c69 => False.elim (by exact c69 rfl)) (fun c69 => ?_)
          refine V_iload dX9_two_72 rfl ?_
          refine V_if_ne (tgt := 177) dX9_two_74 (by decide) (fun c74 => ?_) (fun c74 => ?_)
          · refine S_iinc (L' := [(0, _), (1, _), (2, _), (4, _), (6, _), (7, _), (9, _), (10, _), (11, _)]) dX9_two_177 rfl rfl rfl rfl ?_
            rw [nI_inc]
            refine V_goto (tgt := 59) dX9_two_180 (by decide) ?_
            have ht0 : ¬ t = 0 := fun q => c74 (by rw [q]; rfl)
            have hap : ¬ alP (zK z) b t = true := by unfold alP; rw [hp]; simpa using ht0
            have key := ih (t + 1) a1 a2 w1 (by omega) l1 l2 h1 g1
            rw [m2_st, if_neg hap] at key
            exact key
          · refine V_goto (tgt := 91) dX9_two_77 (by decide) ?_
            refine V_iload dX9_two_91 rfl ?_
            refine V_iconst (v := -1) dX9_two_93 (by decide) ?_
            refine V_icmp_eq (tgt := 106) dX9_two_94 (by decide) (fun c94 => ?_) (fun c94 => False.elim (by exact c94 rfl))
            refine V_iconst (v := 0) dX9_two_106 (by decide) ?_
            refine S_istore (L' := [(0, _), (1, _), (2, _), (4, _), (6, _), (7, _), (9, _), (10, _), (11, _), (12, _)]) dX9_two_107 rfl rfl ?_
            have ht0 : t = 0 := (nI_eq (b := 0) (by omega) (by decide)).mp c74
            have hap : alP (zK z) b t = true := by unfold alP; rw [hp, ht0]; rfl
            exact loopU t ht36 (fun a3 w3 l3 h3 g3 => by
              have key := ih (t + 1) t a3 w3 (by omega) ht36 l3 h3 g3
              rw [m2_st, if_pos hap] at key
              exact key) 36 0 a2 w1 (by omega) l2 (by rw [kk_n hp t a1]; exact h1) g1
        | some r =>
          have hpb := (z0.1.wf hb).1 r hp
          rw [hp] at ih loopU
          refine V_iload dX9_two_59 rfl ?_
          refine V_bipush (v := 36) dX9_two_61 (by decide) ?_
          refine V_icmp_ge (tgt := 183) dX9_two_63 (by decide) (fun c63 => False.elim (by exact nI_ge (a := t) (b := 36) (by omega) (by decide) c63)) (fun c63 => ?_)
          refine V_iload dX9_two_66 rfl ?_
          refine V_iconst (v := -1) dX9_two_68 (by decide) ?_
          refine V_icmp_ne (tgt := 80) dX9_two_69 (by decide) (fun c69 => ?_) (fun c69 => False.elim (by exact nI_nm1 (by have := z0.1.n10; omega) c69))
          first | refine V_aload_n dX9_two_80 rfl rfl ?_ | refine V_aload_nN dX9_two_80 rfl rfl ?_
          refine V_iload dX9_two_81 rfl ?_
          refine V_iload dX9_two_83 rfl ?_
          refine V_callV (As := [_, _]) (st := _) (c_X9_isWithin _ r t w1 h1 (by rw [(kk_same _ _ _ _).2.2.1]; omega) ht36) kX9_100 (by exact h1.1.k _ rfl rfl) ⟨rfl, rfl, rfl⟩ ⟨(Nat.le_of_ble_eq_true rfl), (Nat.le_of_ble_eq_true rfl)⟩ dX9_two_85 rfl rfl (Nat.le_of_ble_eq_true rfl) ⟨(Nat.le_of_ble_eq_true rfl), (Nat.le_of_ble_eq_true rfl)⟩ ?_
          rw [(kk_same _ _ _ _).1, (kk_same _ _ _ _).2.1]
          refine V_if_eq (tgt := 177) dX9_two_88 (by decide) (fun c88 => ?_) (fun c88 => ?_)
          · refine S_iinc (L' := [(0, _), (1, _), (2, _), (4, _), (6, _), (7, _), (9, _), (10, _), (11, _)]) dX9_two_177 rfl rfl rfl rfl ?_
            rw [nI_inc]
            refine V_goto (tgt := 59) dX9_two_180 (by decide) ?_
            have hap : ¬ alP (zK z) b t = true := by unfold alP; rw [hp]; exact fun q => b01_0 c88 (of_decide_eq_true q)
            have key := ih (t + 1) a1 a2 w1 (by omega) l1 l2 h1 g1
            rw [m2_st, if_neg hap] at key
            exact key
          · refine V_iload dX9_two_91 rfl ?_
            refine V_iconst (v := -1) dX9_two_93 (by decide) ?_
            refine V_icmp_eq (tgt := 106) dX9_two_94 (by decide) (fun c94 => False.elim (by exact nI_nm1 (by have := z0.1.n10; omega) c94)) (fun c94 => ?_)
            first | refine V_aload_n dX9_two_97 rfl rfl ?_ | refine V_aload_nN dX9_two_97 rfl rfl ?_
            first | refine V_getr (by exact h1.1.k _ rfl rfl) fX9_31 dX9_two_98 (by exact (h1.1.r 8 rfl (by decide) : _ = some 409)) ?_ | refine V_getrN (by exact h1.1.k _ rfl rfl) fX9_31 dX9_two_98 (by exact (h1.1.r 8 rfl (by decide) : _ = some 409)) ?_
            refine V_iload dX9_two_101 rfl ?_
            refine V_iload dX9_two_103 rfl ?_
            refine G_iast (j := r) (by exact h1.1.k _ rfl rfl) (by rfl) (by exact h1.1.lt 409 (m := 10) rfl rfl (by decide) rfl (by have := z0.1.n10; omega)) (by exact h1.1.nlt 409 rfl rfl (by decide)) dX9_two_105 ?_
            refine V_iconst (v := 0) dX9_two_106 (by decide) ?_
            refine S_istore (L' := [(0, _), (1, _), (2, _), (4, _), (6, _), (7, _), (9, _), (10, _), (11, _), (12, _)]) dX9_two_107 rfl rfl ?_
            have hap : alP (zK z) b t = true := by unfold alP; rw [hp]; exact decide_eq_true (b01_1 c88)
            have h3 := h1.kU (b := r) ht36
            rw [kk_p hp hpb] at h3
            exact loopU t ht36 (fun a3 w3 l3 h3 g3 => by
              have key := ih (t + 1) t a3 w3 (by omega) ht36 l3 h3 g3
              rw [m2_st, if_pos hap] at key
              exact key) 36 0 a2 _ (by omega) l2 h3 (kp_pz1 g1)
    first | refine V_aload_n dX9_two_0 rfl rfl ?_ | refine V_aload_nN dX9_two_0 rfl rfl ?_
    refine V_iload_n dX9_two_1 rfl rfl ?_
    refine V_callV (As := [_]) (st := _) (c_X9_isBone (zK z) _ w z0.1) kX9_132 (by exact z0.1.1.k _ rfl rfl) ⟨rfl, rfl, rfl⟩ ⟨(Nat.le_of_ble_eq_true rfl), (Nat.le_of_ble_eq_true rfl)⟩ dX9_two_2 rfl rfl (Nat.le_of_ble_eq_true rfl) ⟨(Nat.le_of_ble_eq_true rfl), (Nat.le_of_ble_eq_true rfl)⟩ ?_
    refine V_if_eq (tgt := 17) dX9_two_5 (by decide) (fun c5 => False.elim (by exact b01_0 c5 hx)) (fun c5 => ?_)
    refine V_lload_n dX9_two_8 rfl rfl ?_
    refine V_lload dX9_two_9 rfl ?_
    refine V_callS (As := [_, _]) (st := _) (c_X9_isPlace _ _ _) kX9_162 ⟨rfl, rfl, rfl⟩ ⟨(Nat.le_of_ble_eq_true rfl), (Nat.le_of_ble_eq_true rfl)⟩ dX9_two_11 rfl rfl (Nat.le_of_ble_eq_true rfl) ⟨(Nat.le_of_ble_eq_true rfl), (Nat.le_of_ble_eq_true rfl)⟩ ?_
    refine V_if_ne (tgt := 23) dX9_two_14 (by decide) (fun c14 => ?_) (fun c14 => ?_)
    · have hP := b01_1 c14
      first | refine V_aload_n dX9_two_23 rfl rfl ?_ | refine V_aload_nN dX9_two_23 rfl rfl ?_
      refine G_geti (by exact z0.1.1.k _ rfl rfl) fX9_34 dX9_two_24 (by exact z0.1.lck) ?_
      refine V_iconst (v := -1) dX9_two_27 (by decide) ?_
      refine V_icmp_eq (tgt := 37) dX9_two_28 (by decide) (fun c28 => ?_) (fun c28 => ?_)
      · have hlk := (lck_n c28 (fun n e => Nat.lt_of_lt_of_le (z0.1.2.1.2.2 n e) z0.1.n10))
        have e : oTwo z (nI b) p q = (farK (twoK (zK z) b p q) b p q, pK z (twoK (zK z) b p q)) := by
          unfold oTwo
          rw [if_pos ⟨hx, hP⟩, hbN, if_pos hlk]
        first | refine V_aload_n dX9_two_37 rfl rfl ?_ | refine V_aload_nN dX9_two_37 rfl rfl ?_
        first | refine V_getr (by exact z0.1.1.k _ rfl rfl) fX9_16 dX9_two_38 (by exact (z0.1.1.r 3 rfl (by decide) : _ = some 404)) ?_ | refine V_getrN (by exact z0.1.1.k _ rfl rfl) fX9_16 dX9_two_38 (by exact (z0.1.1.r 3 rfl (by decide) : _ = some 404)) ?_
        refine V_iload_n dX9_two_41 rfl rfl ?_
        refine G_iald (j := b) (by exact z0.1.1.k _ rfl rfl) (by rfl) (by exact z0.1.1.lt 404 (m := 10) rfl rfl (by decide) rfl (by have := z0.1.n10; omega)) (by exact z0.1.1.nlt 404 rfl rfl (by decide)) dX9_two_42 (by exact z0.1.par hb) ?_
        refine S_istore (L' := [(0, _), (1, _), (2, _), (4, _), (6, _)]) dX9_two_43 rfl rfl ?_
        refine V_ldc2 ctX9_122 dX9_two_45 ?_
        refine S_lstore (L' := [(0, _), (1, _), (2, _), (4, _), (6, _), (7, _)]) dX9_two_48 rfl rfl ?_
        refine V_iconst (v := 0) dX9_two_50 (by decide) ?_
        refine S_istore (L' := [(0, _), (1, _), (2, _), (4, _), (6, _), (7, _), (9, _)]) dX9_two_51 rfl rfl ?_
        refine V_iconst (v := 0) dX9_two_53 (by decide) ?_
        refine S_istore (L' := [(0, _), (1, _), (2, _), (4, _), (6, _), (7, _), (9, _), (10, _)]) dX9_two_54 rfl rfl ?_
        refine V_iconst (v := 0) dX9_two_56 (by decide) ?_
        refine S_istore (L' := [(0, _), (1, _), (2, _), (4, _), (6, _), (7, _), (9, _), (10, _), (11, _)]) dX9_two_57 rfl rfl ?_
        obtain ⟨a1, a2, l1, l2, ek⟩ := kk_first z0.1.2.1 hb
        exact loopT hP.1 hP.2 e 36 0 a1 a2 w (by omega) l1 l2 (by rw [ek]; exact z0.1) (Kp.refl _ _ _)
      · refine V_bipush (v := -3) dX9_two_31 (by decide) ?_
        refine V_callS (As := [_]) (st := _) (c_X9_no _ _) kX9_166 ⟨rfl, rfl, rfl⟩ ⟨(Nat.le_of_ble_eq_true rfl), (Nat.le_of_ble_eq_true rfl)⟩ dX9_two_33 rfl rfl (Nat.le_of_ble_eq_true rfl) ⟨(Nat.le_of_ble_eq_true rfl), (Nat.le_of_ble_eq_true rfl)⟩ ?_
        refine V_lret rfl dX9_two_36 (Nat.le_of_ble_eq_true rfl) (Nat.le_of_ble_eq_true rfl) ?_
        have hl : ¬ kLck (zK z) = none := fun q => c28 (by rw [q]; rfl)
        have e : oTwo z (nI b) p q = (noL (-3), z) := by unfold oTwo; rw [if_pos ⟨hx, hP⟩, if_neg hl]
        exact ⟨_, rfl, by rw [e]; rfl, by rw [e]; exact z0, Keep.refl _ _⟩
    · refine V_bipush (v := -2) dX9_two_17 (by decide) ?_
      refine V_callS (As := [_]) (st := _) (c_X9_no _ _) kX9_166 ⟨rfl, rfl, rfl⟩ ⟨(Nat.le_of_ble_eq_true rfl), (Nat.le_of_ble_eq_true rfl)⟩ dX9_two_19 rfl rfl (Nat.le_of_ble_eq_true rfl) ⟨(Nat.le_of_ble_eq_true rfl), (Nat.le_of_ble_eq_true rfl)⟩ ?_
      refine V_lret rfl dX9_two_22 (Nat.le_of_ble_eq_true rfl) (Nat.le_of_ble_eq_true rfl) ?_
      first
        | (have hn := b01_0 c14
           have e : oTwo z (nI b) p q = (noL (-2), z) := by unfold oTwo; rw [if_neg (fun q => hn q.2)]
           exact ⟨_, rfl, by rw [e]; rfl, by rw [e]; exact z0, Keep.refl _ _⟩)
  · first | refine V_aload_n dX9_two_0 rfl rfl ?_ | refine V_aload_nN dX9_two_0 rfl rfl ?_
    refine V_iload_n dX9_two_1 rfl rfl ?_
    refine V_callV (As := [_]) (st := _) (c_X9_isBone (zK z) x w z0.1) kX9_132 (by exact z0.1.1.k _ rfl rfl) ⟨rfl, rfl, rfl⟩ ⟨(Nat.le_of_ble_eq_true rfl), (Nat.le_of_ble_eq_true rfl)⟩ dX9_two_2 rfl rfl (Nat.le_of_ble_eq_true rfl) ⟨(Nat.le_of_ble_eq_true rfl), (Nat.le_of_ble_eq_true rfl)⟩ ?_
    refine V_if_eq (tgt := 17) dX9_two_5 (by decide) (fun c5 => ?_) (fun c5 => False.elim (by exact hx (b01_1 c5)))
    refine V_bipush (v := -2) dX9_two_17 (by decide) ?_
    refine V_callS (As := [_]) (st := _) (c_X9_no _ _) kX9_166 ⟨rfl, rfl, rfl⟩ ⟨(Nat.le_of_ble_eq_true rfl), (Nat.le_of_ble_eq_true rfl)⟩ dX9_two_19 rfl rfl (Nat.le_of_ble_eq_true rfl) ⟨(Nat.le_of_ble_eq_true rfl), (Nat.le_of_ble_eq_true rfl)⟩ ?_
    refine V_lret rfl dX9_two_22 (Nat.le_of_ble_eq_true rfl) (Nat.le_of_ble_eq_true rfl) ?_
    exact ⟨_, rfl, by unfold oTwo; rw [if_neg (fun q => hx q.1)]; rfl, by unfold oTwo; rw [if_neg (fun q => hx q.1)]; exact z0, Keep.refl _ _⟩
