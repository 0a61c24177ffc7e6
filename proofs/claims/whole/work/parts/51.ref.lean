/-! THE REFERENCE: two, rounds -/
theorem upd9 {k : Sk} {w : Wd} {b t t0 : Nat} (h : MSk (kU k b t0) w) (ht : t < 36) : MSk (kU k b t) (sI w 409 b (nI t)) := by
  have := h.kU (b := b) ht
  rw [kU_kU] at this
  exact this
theorem kp_pz {w w1 w2 : Wd} {b : Nat} {v : Int32} (g : Kp pzI plJ w w1) (g2 : Kp noA plJ (sI w1 409 b v) w2) : Kp pzI plJ w w2 := (g.trans (Kp.sI (SI := pzI) (SJ := plJ) w1 (show 409 = 409 from rfl) _)).trans (g2.mono (fun _ _ q => q.elim) (fun _ _ q => q))
theorem kp_pz0 {w w1 w2 : Wd} (g : Kp pzI plJ w w1) (g2 : Kp noA plJ w1 w2) : Kp pzI plJ w w2 := g.trans (g2.mono (fun _ _ q => q.elim) (fun _ _ q => q))
theorem kp_pz1 {w w1 : Wd} {b : Nat} {v : Int32} (g : Kp pzI plJ w w1) : Kp pzI plJ w (sI w1 409 b v) := g.trans (Kp.sI (SI := pzI) (SJ := plJ) w1 (show 409 = 409 from rfl) _)
theorem RM.goal {z : St} {w w1 : Wd} {k : Sk} (z0 : RM z w) (g : Kp pzI plJ w w1) (h : MSk k w1) (hn : kN k = kN (zK z)) : RM (pK z k) w1 ∧ Keep moA w w1 := by
  have g2 : Kp skI skJ w w1 := g.mono (fun a j q => by unfold pzI at q; unfold skI; omega) (fun a j q => by unfold plJ at q; unfold skJ; omega)
  exact ⟨z0.setK g2 h hn, g2.mo⟩
theorem pl_kp {k : Sk} {w w1 : Wd} (h : MSk k w) (g : Kp noA plJ w w1) : MSk k w1 := h.kp g (fun _ _ q => q.elim) (fun a j q => by unfold plJ at q; unfold msJ; omega)
/-- the least and the best, of the reference's search in a row -/
theorem scan_st {f : Nat → Int64} {al : Nat → Bool} {t : Nat} {z0 : Int64 × Nat} : scan f al (t + 1) z0 = if al t = true ∧ f t < (scan f al t z0).1 then (f t, t) else scan f al t z0 := rfl

theorem upK_kU (k : Sk) (a t : Nat) : ∀ m b, upK (kU k a t) m b = upK k m b
  | 0, _ => rfl
  | m + 1, b => by
    show (match kPar k b with
      | none => none
      | some p => upK (kU k a t) m p) = (match kPar k b with
      | none => none
      | some p => upK k m p)
    cases kPar k b with
    | none => rfl
    | some p => exact upK_kU k a t m p
theorem upK_s {k : Sk} : ∀ {n b a c : Nat}, upK k n b = some a → kPar k a = some c → upK k (n + 1) b = some c
  | 0, b, a, c, h, hc => by
    cases h
    show (match kPar k b with
      | none => none
      | some p => some p) = some c
    rw [hc]
  | n + 1, b, a, c, h, hc => by
    show (match kPar k b with
      | none => none
      | some p => upK k (n + 1) p) = some c
    have h' : (match kPar k b with
      | none => none
      | some p => upK k n p) = some a := h
    cases hp : kPar k b with
    | none => rw [hp] at h'; cases h'
    | some p =>
      rw [hp] at h'
      exact upK_s h' hc

set_option maxRecDepth 100000 in
theorem c_X9_rounds (z : St) (x : Int32) (p q : Int64) (n : Int32) (w : Wd) (z0 : RM z w) (hB : rtB 600 (zK z)) : Cc yX9_rounds mX9_rounds [.ref 400, .int x, .long p, .long q, .int n] w (fun r w' => ∃ v, r = some v ∧ (v = .long (oRounds z x p q n).1 ∧ RM (oRounds z x p q n).2 w' ∧ Keep moA w w')) := by
  refine Cc.of (by decide) rfl rfl (Nat.le_of_ble_eq_true rfl) (fun X => ?_)
  change V _ X _ 0 [(0, _), (1, _), (2, _), (4, _), (6, _)] [] _ (0, 0)
  by_cases hx : isB z x
  · obtain ⟨b, hb, rfl⟩ := isB_s z0 hx
    have hbN : bN (nI b) = b := bN_nI (by have := z0.1.n10; omega)
    have loopR : plc p → plc q → bN n ≤ 20 → oRounds z (nI b) p q n = (farK (itR b p q (bN n) (zK z)) b p q, pK z (itR b p q (bN n) (zK z))) → ∀ (d r : Nat) (k : Sk) (w1 : Wd), r + d = bN n → MSk k w1 → Kp pzI plJ w w1 → SameB (zK z) k → (kRx k = kRx (zK z) ∧ kRy k = kRy (zK z)) → itR b p q (bN n - r) k = itR b p q (bN n) (zK z) → V mX9_rounds X (mq mX9_rounds X (fun r w' => ∃ v, r = some v ∧ (v = .long (oRounds z (nI b) p q n).1 ∧ RM (oRounds z (nI b) p q n).2 w' ∧ Keep moA w w'))) 53 [(0, .ref 400), (1, .int (nI b)), (2, .long p), (4, .long q), (6, .int (nI (bN n))), (7, .int (nI r))] [] w1 (0, 0) := by
      intro hx hy hnN e d
      have loopA : ∀ r, r < bN n → (∀ k2 w2, MSk k2 w2 → Kp pzI plJ w w2 → SameB (zK z) k2 → (kRx k2 = kRx (zK z) ∧ kRy k2 = kRy (zK z)) → itR b p q (bN n - (r + 1)) k2 = itR b p q (bN n) (zK z) → V mX9_rounds X (mq mX9_rounds X (fun r w' => ∃ v, r = some v ∧ (v = .long (oRounds z (nI b) p q n).1 ∧ RM (oRounds z (nI b) p q n).2 w' ∧ Keep moA w w'))) 53 [(0, .ref 400), (1, .int (nI b)), (2, .long p), (4, .long q), (6, .int (nI (bN n))), (7, .int (nI (r + 1)))] [] w2 (0, 0)) → ∀ (f : Nat) (k : Sk) (o : Option Nat) (w1 : Wd), MSk k w1 → Kp pzI plJ w w1 → SameB (zK z) k → (kRx k = kRx (zK z) ∧ kRy k = kRy (zK z)) → (∀ a, o = some a → a < f ∧ a < kN k ∧ ∃ m, upK k m b = some a) → itR b p q (bN n - (r + 1)) (rndR b p q f k o) = itR b p q (bN n) (zK z) → V mX9_rounds X (mq mX9_rounds X (fun r w' => ∃ v, r = some v ∧ (v = .long (oRounds z (nI b) p q n).1 ∧ RM (oRounds z (nI b) p q n).2 w' ∧ Keep moA w w'))) 63 [(0, .ref 400), (1, .int (nI b)), (2, .long p), (4, .long q), (6, .int (nI (bN n))), (7, .int (nI r)), (8, .int (oI o))] [] w1 (0, 0) := by
        intro r hr go f
        induction f with
        | zero =>
          intro k o w1 h1 g1 hs hr1 ho hit
          cases o with
          | some a => exact absurd (ho a rfl).1 (Nat.not_lt_zero _)
          | none =>
            refine V_iload dX9_rounds_63 rfl ?_
            refine V_iconst (v := -1) dX9_rounds_65 (by decide) ?_
            refine V_icmp_eq (tgt := 171) dX9_rounds_66 (by decide) (fun c66 => ?_) (fun c66 => False.elim (by exact c66 rfl))
            refine S_iinc (L' := [(0, _), (1, _), (2, _), (4, _), (6, _), (7, _)]) dX9_rounds_171 rfl rfl rfl rfl ?_
            rw [nI_inc]
            refine V_goto (tgt := 53) dX9_rounds_174 (by decide) ?_
            exact go k w1 h1 g1 hs hr1 hit
        | succ f ihA =>
          intro k o w1 h1 g1 hs hr1 ho hit
          cases o with
          | none =>
            refine V_iload dX9_rounds_63 rfl ?_
            refine V_iconst (v := -1) dX9_rounds_65 (by decide) ?_
            refine V_icmp_eq (tgt := 171) dX9_rounds_66 (by decide) (fun c66 => ?_) (fun c66 => False.elim (by exact c66 rfl))
            refine S_iinc (L' := [(0, _), (1, _), (2, _), (4, _), (6, _), (7, _)]) dX9_rounds_171 rfl rfl rfl rfl ?_
            rw [nI_inc]
            refine V_goto (tgt := 53) dX9_rounds_174 (by decide) ?_
            exact go k w1 h1 g1 hs hr1 hit
          | some a =>
            obtain ⟨haf, ha, m, hu⟩ := ho a rfl
            have h10 := h1.n10
            have hB1 : rtB 600 k := by unfold rtB; rw [hr1.1, hr1.2]; exact hB
            have hb1 : b < kN k := by rw [hs.1]; exact hb
            have loopT : ∀ (e t t1 : Nat) (w2 : Wd), t + e = 36 → t1 < 36 → MSk (kU k a t1) w2 → Kp pzI plJ w w2 → V mX9_rounds X (mq mX9_rounds X (fun r w' => ∃ v, r = some v ∧ (v = .long (oRounds z (nI b) p q n).1 ∧ RM (oRounds z (nI b) p q n).2 w' ∧ Keep moA w w'))) 91 [(0, .ref 400), (1, .int (nI b)), (2, .long p), (4, .long q), (6, .int (nI (bN n))), (7, .int (nI r)), (8, .int (oI (some a))), (9, .int (nI (scan (fun t => farK (kU k a t) b p q) (alB (kLow k a) (kSpr k a)) t (farK k b p q, kTrn k a)).2)), (10, .long (scan (fun t => farK (kU k a t) b p q) (alB (kLow k a) (kSpr k a)) t (farK k b p q, kTrn k a)).1), (12, .int (nI t))] [] w2 (0, 0) := by
              intro e
              induction e with
              | zero =>
                intro t t1 w2 hd ht1 h2 g2
                obtain rfl : t = 36 := hd
                refine V_iload dX9_rounds_91 rfl ?_
                refine V_bipush (v := 36) dX9_rounds_93 (by decide) ?_
                refine V_icmp_ge (tgt := 150) dX9_rounds_95 (by decide) (fun c95 => ?_) (fun c95 => False.elim (by exact c95 (by decide)))
                first | refine V_aload_n dX9_rounds_150 rfl rfl ?_ | refine V_aload_nN dX9_rounds_150 rfl rfl ?_
                first | refine V_getr (by exact h2.1.k _ rfl rfl) fX9_31 dX9_rounds_151 (by exact (h2.1.r 8 rfl (by decide) : _ = some 409)) ?_ | refine V_getrN (by exact h2.1.k _ rfl rfl) fX9_31 dX9_rounds_151 (by exact (h2.1.r 8 rfl (by decide) : _ = some 409)) ?_
                refine V_iload dX9_rounds_154 rfl ?_
                refine V_iload dX9_rounds_156 rfl ?_
                refine G_iast (j := a) (by exact h2.1.k _ rfl rfl) (by rfl) (by exact h2.1.lt 409 (m := 10) rfl rfl (by decide) rfl (by have := h1.n10; omega)) (by exact h2.1.nlt 409 rfl rfl (by decide)) dX9_rounds_158 ?_
                first | refine V_aload_n dX9_rounds_159 rfl rfl ?_ | refine V_aload_nN dX9_rounds_159 rfl rfl ?_
                first | refine V_getr (by exact h2.1.k _ rfl rfl) fX9_16 dX9_rounds_160 (by exact (h2.1.r 3 rfl (by decide) : _ = some 404)) ?_ | refine V_getrN (by exact h2.1.k _ rfl rfl) fX9_16 dX9_rounds_160 (by exact (h2.1.r 3 rfl (by decide) : _ = some 404)) ?_
                refine V_iload dX9_rounds_163 rfl ?_
                refine G_iald (j := a) (by exact h2.1.k _ rfl rfl) (by rfl) (by exact h2.1.lt 404 (m := 10) rfl rfl (by decide) rfl (by have := h1.n10; omega)) (by exact h2.1.nlt 404 rfl rfl (by decide)) dX9_rounds_165 (by exact (rdI_nn (by decide)).trans (h2.par ha)) ?_
                refine S_istore (L' := [(0, _), (1, _), (2, _), (4, _), (6, _), (7, _), (8, _)]) dX9_rounds_166 rfl rfl ?_
                refine V_goto (tgt := 63) dX9_rounds_168 (by decide) ?_
                have hbe : (scan (fun t => farK (kU k a t) b p q) (alB (kLow k a) (kSpr k a)) 36 (farK k b p q, kTrn k a)).2 = ntK k a b p q (kTrn k a) := by
                  rw [ntK_eq h1.2.1 hB1 ha hb1 hu p q (h1.wf ha).2.2.2.2.2.2, kU_self]
                rw [hbe]
                have hlt : ntK k a b p q (kTrn k a) < 36 := ntK_lt (h1.wf ha).2.2.2.2.2.2
                exact ihA (kU k a (ntK k a b p q (kTrn k a))) (kPar k a) _ (upd9 h2 hlt) (kp_pz1 g2) hs hr1 (fun a' ha' => by
                  have hlt' := (h1.wf ha).1 a' ha'
                  refine ⟨by omega, show a' < kN k by omega, m + 1, ?_⟩
                  rw [upK_kU]
                  exact upK_s hu ha') hit
              | succ e ihT =>
                intro t t1 w2 hd ht1 h2 g2
                have ht36 : t < 36 := by omega
                refine V_iload dX9_rounds_91 rfl ?_
                refine V_bipush (v := 36) dX9_rounds_93 (by decide) ?_
                refine V_icmp_ge (tgt := 150) dX9_rounds_95 (by decide) (fun c95 => False.elim (by exact nI_ge (a := t) (b := 36) (by omega) (by decide) c95)) (fun c95 => ?_)
                first | refine V_aload_n dX9_rounds_98 rfl rfl ?_ | refine V_aload_nN dX9_rounds_98 rfl rfl ?_
                refine V_iload dX9_rounds_99 rfl ?_
                refine V_iload dX9_rounds_101 rfl ?_
                refine V_callV (As := [_, _]) (st := _) (c_X9_isWithin _ a t w2 h2 ha ht36) kX9_100 (by exact h2.1.k _ rfl rfl) ⟨rfl, rfl, rfl⟩ ⟨(Nat.le_of_ble_eq_true rfl), (Nat.le_of_ble_eq_true rfl)⟩ dX9_rounds_103 rfl rfl (Nat.le_of_ble_eq_true rfl) ⟨(Nat.le_of_ble_eq_true rfl), (Nat.le_of_ble_eq_true rfl)⟩ ?_
                refine V_if_eq (tgt := 144) dX9_rounds_106 (by decide) (fun c106 => ?_) (fun c106 => ?_)
                · refine S_iinc (L' := [(0, _), (1, _), (2, _), (4, _), (6, _), (7, _), (8, _), (9, _), (10, _), (12, _)]) dX9_rounds_144 rfl rfl rfl rfl ?_
                  rw [nI_inc]
                  refine V_goto (tgt := 91) dX9_rounds_147 (by decide) ?_
                  first
                    | (have h132 := c132
                       have hal := b01_1 c106
                       have key := ihT (t + 1) t _ (by omega) ht36 (pl_kp (upd9 h2 ht36) a3) (kp_pz g2 a3)
                       first
                         | (rw [scan_st, if_pos ⟨decide_eq_true hal, h132⟩] at key
                            exact key)
                         | (rw [scan_st, if_neg (fun q => h132 q.2)] at key
                            exact key))
                    | (have hal := b01_0 c106
                       have key := ihT (t + 1) t1 w2 (by omega) ht1 h2 g2
                       rw [scan_st, if_neg (fun q => hal (of_decide_eq_true q.1))] at key
                       exact key)
                · first | refine V_aload_n dX9_rounds_109 rfl rfl ?_ | refine V_aload_nN dX9_rounds_109 rfl rfl ?_
                  first | refine V_getr (by exact h2.1.k _ rfl rfl) fX9_31 dX9_rounds_110 (by exact (h2.1.r 8 rfl (by decide) : _ = some 409)) ?_ | refine V_getrN (by exact h2.1.k _ rfl rfl) fX9_31 dX9_rounds_110 (by exact (h2.1.r 8 rfl (by decide) : _ = some 409)) ?_
                  refine V_iload dX9_rounds_113 rfl ?_
                  refine V_iload dX9_rounds_115 rfl ?_
                  refine G_iast (j := a) (by exact h2.1.k _ rfl rfl) (by rfl) (by exact h2.1.lt 409 (m := 10) rfl rfl (by decide) rfl (by have := h1.n10; omega)) (by exact h2.1.nlt 409 rfl rfl (by decide)) dX9_rounds_117 ?_
                  first | refine V_aload_n dX9_rounds_118 rfl rfl ?_ | refine V_aload_nN dX9_rounds_118 rfl rfl ?_
                  refine V_iload_n dX9_rounds_119 rfl rfl ?_
                  refine V_lload_n dX9_rounds_120 rfl rfl ?_
                  refine V_lload dX9_rounds_121 rfl ?_
                  refine V_callVr (As := [_, _, _]) (st := _) (c_X9_farOf (kU k a t) b p q _ (upd9 h2 ht36) hB1 hb1 hx hy) kX9_170 (by exact h2.1.k _ rfl rfl) ⟨rfl, rfl, rfl⟩ ⟨(Nat.le_of_ble_eq_true rfl), (Nat.le_of_ble_eq_true rfl)⟩ dX9_rounds_123 rfl rfl (Nat.le_of_ble_eq_true rfl) ⟨(Nat.le_of_ble_eq_true rfl), (Nat.le_of_ble_eq_true rfl)⟩ (fun v1 w3 hw3 => ?_)
                  obtain ⟨rfl, a3⟩ := hw3
                  refine S_lstore (L' := [(0, _), (1, _), (2, _), (4, _), (6, _), (7, _), (8, _), (9, _), (10, _), (12, _), (13, _)]) dX9_rounds_126 rfl rfl ?_
                  refine V_lload dX9_rounds_128 rfl ?_
                  refine V_lload dX9_rounds_130 rfl ?_
                  refine V_lcmp_ge (tgt := 144) dX9_rounds_132 dX9_rounds_133 (by decide) (fun c132 => ?_) (fun c132 => ?_)
                  · refine S_iinc (L' := [(0, _), (1, _), (2, _), (4, _), (6, _), (7, _), (8, _), (9, _), (10, _), (12, _)]) dX9_rounds_144 rfl rfl rfl rfl ?_
                    rw [nI_inc]
                    refine V_goto (tgt := 91) dX9_rounds_147 (by decide) ?_
                    first
                      | (have h132 := c132
                         have hal := b01_1 c106
                         have key := ihT (t + 1) t _ (by omega) ht36 (pl_kp (upd9 h2 ht36) a3) (kp_pz g2 a3)
                         first
                           | (rw [scan_st, if_pos ⟨decide_eq_true hal, h132⟩] at key
                              exact key)
                           | (rw [scan_st, if_neg (fun q => h132 q.2)] at key
                              exact key))
                      | (have hal := b01_0 c106
                         have key := ihT (t + 1) t1 w2 (by omega) ht1 h2 g2
                         rw [scan_st, if_neg (fun q => hal (of_decide_eq_true q.1))] at key
                         exact key)
                  · refine V_lload dX9_rounds_136 rfl ?_
                    refine S_lstore (L' := [(0, _), (1, _), (2, _), (4, _), (6, _), (7, _), (8, _), (10, _), (12, _)]) dX9_rounds_138 rfl rfl ?_
                    refine V_iload dX9_rounds_140 rfl ?_
                    refine S_istore (L' := [(0, _), (1, _), (2, _), (4, _), (6, _), (7, _), (8, _), (9, _), (10, _), (12, _)]) dX9_rounds_142 rfl rfl ?_
                    refine S_iinc (L' := [(0, _), (1, _), (2, _), (4, _), (6, _), (7, _), (8, _), (9, _), (10, _), (12, _)]) dX9_rounds_144 rfl rfl rfl rfl ?_
                    rw [nI_inc]
                    refine V_goto (tgt := 91) dX9_rounds_147 (by decide) ?_
                    first
                      | (have h132 := c132
                         have hal := b01_1 c106
                         have key := ihT (t + 1) t _ (by omega) ht36 (pl_kp (upd9 h2 ht36) a3) (kp_pz g2 a3)
                         first
                           | (rw [scan_st, if_pos ⟨decide_eq_true hal, h132⟩] at key
                              exact key)
                           | (rw [scan_st, if_neg (fun q => h132 q.2)] at key
                              exact key))
                      | (have hal := b01_0 c106
                         have key := ihT (t + 1) t1 w2 (by omega) ht1 h2 g2
                         rw [scan_st, if_neg (fun q => hal (of_decide_eq_true q.1))] at key
                         exact key)
            refine V_iload dX9_rounds_63 rfl ?_
            refine V_iconst (v := -1) dX9_rounds_65 (by decide) ?_
            refine V_icmp_eq (tgt := 171) dX9_rounds_66 (by decide) (fun c66 => False.elim (by exact nI_nm1 (by omega) c66)) (fun c66 => ?_)
            first | refine V_aload_n dX9_rounds_69 rfl rfl ?_ | refine V_aload_nN dX9_rounds_69 rfl rfl ?_
            first | refine V_getr (by exact h1.1.k _ rfl rfl) fX9_31 dX9_rounds_70 (by exact (h1.1.r 8 rfl (by decide) : _ = some 409)) ?_ | refine V_getrN (by exact h1.1.k _ rfl rfl) fX9_31 dX9_rounds_70 (by exact (h1.1.r 8 rfl (by decide) : _ = some 409)) ?_
            refine V_iload dX9_rounds_73 rfl ?_
            refine G_iald (j := a) (by exact h1.1.k _ rfl rfl) (by rfl) (by exact h1.1.lt 409 (m := 10) rfl rfl (by decide) rfl (by have := h1.n10; omega)) (by exact h1.1.nlt 409 rfl rfl (by decide)) dX9_rounds_75 (by exact h1.trn ha) ?_
            refine S_istore (L' := [(0, _), (1, _), (2, _), (4, _), (6, _), (7, _), (8, _), (9, _)]) dX9_rounds_76 rfl rfl ?_
            first | refine V_aload_n dX9_rounds_78 rfl rfl ?_ | refine V_aload_nN dX9_rounds_78 rfl rfl ?_
            refine V_iload_n dX9_rounds_79 rfl rfl ?_
            refine V_lload_n dX9_rounds_80 rfl rfl ?_
            refine V_lload dX9_rounds_81 rfl ?_
            refine V_callVr (As := [_, _, _]) (st := _) (c_X9_farOf k b p q w1 h1 hB1 hb1 hx hy) kX9_170 (by exact h1.1.k _ rfl rfl) ⟨rfl, rfl, rfl⟩ ⟨(Nat.le_of_ble_eq_true rfl), (Nat.le_of_ble_eq_true rfl)⟩ dX9_rounds_83 rfl rfl (Nat.le_of_ble_eq_true rfl) ⟨(Nat.le_of_ble_eq_true rfl), (Nat.le_of_ble_eq_true rfl)⟩ (fun v1 w2 hw2 => ?_)
            obtain ⟨rfl, a1⟩ := hw2
            refine S_lstore (L' := [(0, _), (1, _), (2, _), (4, _), (6, _), (7, _), (8, _), (9, _), (10, _)]) dX9_rounds_86 rfl rfl ?_
            refine V_iconst (v := 0) dX9_rounds_88 (by decide) ?_
            refine S_istore (L' := [(0, _), (1, _), (2, _), (4, _), (6, _), (7, _), (8, _), (9, _), (10, _), (12, _)]) dX9_rounds_89 rfl rfl ?_
            exact loopT 36 0 (kTrn k a) w2 (by omega) (h1.wf ha).2.2.2.2.2.2 (by rw [kU_self]; exact pl_kp h1 a1) (kp_pz0 g1 a1)
      induction d with
      | zero =>
        intro r k w1 hd h1 g1 hs hr1 hit
        obtain rfl : r = bN n := hd
        have hB1 : rtB 600 k := by unfold rtB; rw [hr1.1, hr1.2]; exact hB
        have hb1 : b < kN k := by rw [hs.1]; exact hb
        refine V_iload dX9_rounds_53 rfl ?_
        refine V_iload dX9_rounds_55 rfl ?_
        refine V_icmp_ge (tgt := 177) dX9_rounds_57 (by decide) (fun c57 => ?_) (fun c57 => False.elim (by exact c57 (nI_le (Nat.le_refl _) (by omega))))
        first | refine V_aload_n dX9_rounds_177 rfl rfl ?_ | refine V_aload_nN dX9_rounds_177 rfl rfl ?_
        refine V_iload_n dX9_rounds_178 rfl rfl ?_
        refine V_lload_n dX9_rounds_179 rfl rfl ?_
        refine V_lload dX9_rounds_180 rfl ?_
        refine V_callVr (As := [_, _, _]) (st := _) (c_X9_farOf k b p q w1 h1 hB1 hb1 hx hy) kX9_170 (by exact h1.1.k _ rfl rfl) ⟨rfl, rfl, rfl⟩ ⟨(Nat.le_of_ble_eq_true rfl), (Nat.le_of_ble_eq_true rfl)⟩ dX9_rounds_182 rfl rfl (Nat.le_of_ble_eq_true rfl) ⟨(Nat.le_of_ble_eq_true rfl), (Nat.le_of_ble_eq_true rfl)⟩ (fun v1 w2 hw2 => ?_)
        obtain ⟨rfl, a1⟩ := hw2
        refine V_lret rfl dX9_rounds_185 (Nat.le_of_ble_eq_true rfl) (Nat.le_of_ble_eq_true rfl) ?_
        have hk : k = itR b p q (bN n) (zK z) := by rw [← hit]; show _ = itR b p q (bN n - bN n) k; rw [Nat.sub_self]; rfl
        obtain ⟨r1, r2⟩ := z0.goal (kp_pz0 g1 a1) (pl_kp h1 a1) hs.1
        exact ⟨_, rfl, by rw [e, ← hk], by rw [e, ← hk]; exact r1, r2⟩
      | succ d ih =>
        intro r k w1 hd h1 g1 hs hr1 hit
        have hr : r < bN n := by omega
        have hit2 : itR b p q (bN n - (r + 1)) (rndR b p q 10 k (some b)) = itR b p q (bN n) (zK z) := by
          rw [← hit, show bN n - r = (bN n - (r + 1)) + 1 by omega]
          rfl
        refine V_iload dX9_rounds_53 rfl ?_
        refine V_iload dX9_rounds_55 rfl ?_
        refine V_icmp_ge (tgt := 177) dX9_rounds_57 (by decide) (fun c57 => False.elim (by exact nI_ge (a := r) (b := bN n) hr (by omega) c57)) (fun c57 => ?_)
        refine V_iload_n dX9_rounds_60 rfl rfl ?_
        refine S_istore (L' := [(0, _), (1, _), (2, _), (4, _), (6, _), (7, _), (8, _)]) dX9_rounds_61 rfl rfl ?_
        exact loopA r hr (fun k2 w2 h2 g2 s2 r2 t2 => ih (r + 1) k2 w2 (by omega) h2 g2 s2 r2 t2) 10 k (some b) w1 h1 g1 hs hr1 (fun a ha => by cases ha; exact ⟨by have := z0.1.n10; omega, by rw [hs.1]; exact hb, 0, rfl⟩) hit2
    first | refine V_aload_n dX9_rounds_0 rfl rfl ?_ | refine V_aload_nN dX9_rounds_0 rfl rfl ?_
    refine V_iload_n dX9_rounds_1 rfl rfl ?_
    refine V_callV (As := [_]) (st := _) (c_X9_isBone (zK z) _ w z0.1) kX9_132 (by exact z0.1.1.k _ rfl rfl) ⟨rfl, rfl, rfl⟩ ⟨(Nat.le_of_ble_eq_true rfl), (Nat.le_of_ble_eq_true rfl)⟩ dX9_rounds_2 rfl rfl (Nat.le_of_ble_eq_true rfl) ⟨(Nat.le_of_ble_eq_true rfl), (Nat.le_of_ble_eq_true rfl)⟩ ?_
    refine V_if_eq (tgt := 30) dX9_rounds_5 (by decide) (fun c5 => False.elim (by exact b01_0 c5 hx)) (fun c5 => ?_)
    refine V_lload_n dX9_rounds_8 rfl rfl ?_
    refine V_lload dX9_rounds_9 rfl ?_
    refine V_callS (As := [_, _]) (st := _) (c_X9_isPlace _ _ _) kX9_162 ⟨rfl, rfl, rfl⟩ ⟨(Nat.le_of_ble_eq_true rfl), (Nat.le_of_ble_eq_true rfl)⟩ dX9_rounds_11 rfl rfl (Nat.le_of_ble_eq_true rfl) ⟨(Nat.le_of_ble_eq_true rfl), (Nat.le_of_ble_eq_true rfl)⟩ ?_
    refine V_if_eq (tgt := 30) dX9_rounds_14 (by decide) (fun c14 => ?_) (fun c14 => ?_)
    · refine V_bipush (v := -2) dX9_rounds_30 (by decide) ?_
      refine V_callS (As := [_]) (st := _) (c_X9_no _ _) kX9_166 ⟨rfl, rfl, rfl⟩ ⟨(Nat.le_of_ble_eq_true rfl), (Nat.le_of_ble_eq_true rfl)⟩ dX9_rounds_32 rfl rfl (Nat.le_of_ble_eq_true rfl) ⟨(Nat.le_of_ble_eq_true rfl), (Nat.le_of_ble_eq_true rfl)⟩ ?_
      refine V_lret rfl dX9_rounds_35 (Nat.le_of_ble_eq_true rfl) (Nat.le_of_ble_eq_true rfl) ?_
      first
        | (have hn := b01_0 c27
           have e : oRounds z (nI b) p q n = (noL (-2), z) := by unfold oRounds; rw [if_neg (fun q => hn q.2.2)]
           exact ⟨_, rfl, by rw [e]; rfl, by rw [e]; exact z0, Keep.refl _ _⟩)
        | (have hn := b01_0 c14
           have e : oRounds z (nI b) p q n = (noL (-2), z) := by unfold oRounds; rw [if_neg (fun q => hn q.2.1)]
           exact ⟨_, rfl, by rw [e]; rfl, by rw [e]; exact z0, Keep.refl _ _⟩)
    · refine V_iload dX9_rounds_17 rfl ?_
      refine V_i2l dX9_rounds_19 ?_
      refine V_lconst (v := 1) dX9_rounds_20 (by decide) ?_
      refine V_ldc2 ctX9_174 dX9_rounds_21 ?_
      refine V_callS (As := [_, _, _]) (st := _) (in9 n 1 20 1 20 rfl rfl w) kX9_114 ⟨rfl, rfl, rfl⟩ ⟨(Nat.le_of_ble_eq_true rfl), (Nat.le_of_ble_eq_true rfl)⟩ dX9_rounds_24 rfl rfl (Nat.le_of_ble_eq_true rfl) ⟨(Nat.le_of_ble_eq_true rfl), (Nat.le_of_ble_eq_true rfl)⟩ ?_
      refine V_if_ne (tgt := 36) dX9_rounds_27 (by decide) (fun c27 => ?_) (fun c27 => ?_)
      · have hP := b01_1 c14
        have hn := b01_1 c27
        first | refine V_aload_n dX9_rounds_36 rfl rfl ?_ | refine V_aload_nN dX9_rounds_36 rfl rfl ?_
        refine G_geti (by exact z0.1.1.k _ rfl rfl) fX9_34 dX9_rounds_37 (by exact z0.1.lck) ?_
        refine V_iconst (v := -1) dX9_rounds_40 (by decide) ?_
        refine V_icmp_eq (tgt := 50) dX9_rounds_41 (by decide) (fun c41 => ?_) (fun c41 => ?_)
        · have hlk := (lck_n c41 (fun n e => Nat.lt_of_lt_of_le (z0.1.2.1.2.2 n e) z0.1.n10))
          have hn0 : 0 ≤ n.toInt := by have := hn.1; omega
          have hnN : bN n ≤ 20 := by unfold bN; omega
          have e : oRounds z (nI b) p q n = (farK (itR b p q (bN n) (zK z)) b p q, pK z (itR b p q (bN n) (zK z))) := by
            unfold oRounds
            rw [if_pos ⟨hx, hP, hn⟩, hbN, if_pos hlk, rnds_ok]
          refine V_sub (L' := [(0, .ref 400), (1, .int (nI b)), (2, .long p), (4, .long q), (6, .int (nI (bN n)))]) (by rw [← i32_nat hn0]; rfl) ?_
          refine V_iconst (v := 0) dX9_rounds_50 (by decide) ?_
          refine S_istore (L' := [(0, _), (1, _), (2, _), (4, _), (6, _), (7, _)]) dX9_rounds_51 rfl rfl ?_
          exact loopR hP.1 hP.2 hnN e (bN n) 0 (zK z) w (by omega) z0.1 (Kp.refl _ _ _) ⟨rfl, rfl, rfl, rfl, rfl, rfl⟩ ⟨rfl, rfl⟩ rfl
        · refine V_bipush (v := -3) dX9_rounds_44 (by decide) ?_
          refine V_callS (As := [_]) (st := _) (c_X9_no _ _) kX9_166 ⟨rfl, rfl, rfl⟩ ⟨(Nat.le_of_ble_eq_true rfl), (Nat.le_of_ble_eq_true rfl)⟩ dX9_rounds_46 rfl rfl (Nat.le_of_ble_eq_true rfl) ⟨(Nat.le_of_ble_eq_true rfl), (Nat.le_of_ble_eq_true rfl)⟩ ?_
          refine V_lret rfl dX9_rounds_49 (Nat.le_of_ble_eq_true rfl) (Nat.le_of_ble_eq_true rfl) ?_
          have hl : ¬ kLck (zK z) = none := fun q => c41 (by rw [q]; rfl)
          have e : oRounds z (nI b) p q n = (noL (-3), z) := by unfold oRounds; rw [if_pos ⟨hx, hP, hn⟩, if_neg hl]
          exact ⟨_, rfl, by rw [e]; rfl, by rw [e]; exact z0, Keep.refl _ _⟩
      · refine V_bipush (v := -2) dX9_rounds_30 (by decide) ?_
        refine V_callS (As := [_]) (st := _) (c_X9_no _ _) kX9_166 ⟨rfl, rfl, rfl⟩ ⟨(Nat.le_of_ble_eq_true rfl), (Nat.le_of_ble_eq_true rfl)⟩ dX9_rounds_32 rfl rfl (Nat.le_of_ble_eq_true rfl) ⟨(Nat.le_of_ble_eq_true rfl), (Nat.le_of_ble_eq_true rfl)⟩ ?_
        refine V_lret rfl dX9_rounds_35 (Nat.le_of_ble_eq_true rfl) (Nat.le_of_ble_eq_true rfl) ?_
        first
          | (have hn := b01_0 c27
             have e : oRounds z (nI b) p q n = (noL (-2), z) := by unfold oRounds; rw [if_neg (fun q => hn q.2.2)]
             exact ⟨_, rfl, by rw [e]; rfl, by rw [e]; exact z0, Keep.refl _ _⟩)
          | (have hn := b01_0 c14
             have e : oRounds z (nI b) p q n = (noL (-2), z) := by unfold oRounds; rw [if_neg (fun q => hn q.2.1)]
             exact ⟨_, rfl, by rw [e]; rfl, by rw [e]; exact z0, Keep.refl _ _⟩)
  · first | refine V_aload_n dX9_rounds_0 rfl rfl ?_ | refine V_aload_nN dX9_rounds_0 rfl rfl ?_
    refine V_iload_n dX9_rounds_1 rfl rfl ?_
    refine V_callV (As := [_]) (st := _) (c_X9_isBone (zK z) x w z0.1) kX9_132 (by exact z0.1.1.k _ rfl rfl) ⟨rfl, rfl, rfl⟩ ⟨(Nat.le_of_ble_eq_true rfl), (Nat.le_of_ble_eq_true rfl)⟩ dX9_rounds_2 rfl rfl (Nat.le_of_ble_eq_true rfl) ⟨(Nat.le_of_ble_eq_true rfl), (Nat.le_of_ble_eq_true rfl)⟩ ?_
    refine V_if_eq (tgt := 30) dX9_rounds_5 (by decide) (fun c5 => ?_) (fun c5 => False.elim (by exact hx (b01_1 c5)))
    refine V_bipush (v := -2) dX9_rounds_30 (by decide) ?_
    refine V_callS (As := [_]) (st := _) (c_X9_no _ _) kX9_166 ⟨rfl, rfl, rfl⟩ ⟨(Nat.le_of_ble_eq_true rfl), (Nat.le_of_ble_eq_true rfl)⟩ dX9_rounds_32 rfl rfl (Nat.le_of_ble_eq_true rfl) ⟨(Nat.le_of_ble_eq_true rfl), (Nat.le_of_ble_eq_true rfl)⟩ ?_
    refine V_lret rfl dX9_rounds_35 (Nat.le_of_ble_eq_true rfl) (Nat.le_of_ble_eq_true rfl) ?_
    exact ⟨_, rfl, by unfold oRounds; rw [if_neg (fun q => hx q.1)]; rfl, by unfold oRounds; rw [if_neg (fun q => hx q.1)]; exact z0, Keep.refl _ _⟩
