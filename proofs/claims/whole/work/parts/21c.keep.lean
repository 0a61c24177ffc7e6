/-! Packing: keepKeys -/
/-- a clip's frames alone stay that are keys -/
def thinQ (q : Cp) (c kn : Nat) (ky : Nat → Nat) : Cp := (va_up q.1 c kn, va_up q.2 c (fun f => q.2 c (ky f)))
abbrev frA (c a : Nat) : Prop := 100 + 30 * c ≤ a ∧ a < 130 + 30 * c
theorem sumN_pos {f : Nat → Nat} : ∀ {n : Nat}, 0 < sumN f n → ∃ i, i < n ∧ 0 < f i
  | 0, h => absurd h (Nat.lt_irrefl 0)
  | n + 1, h => by
    rw [sumN] at h
    by_cases h0 : 0 < f n
    · exact ⟨n, by omega, h0⟩
    · obtain ⟨i, hi, h1⟩ := sumN_pos (f := f) (n := n) (by omega)
      exact ⟨i, by omega, h1⟩
theorem sumN_at {f : Nat → Nat} {i n : Nat} (hi : i < n) (h : 0 < f i) : 0 < sumN f n := by
  have := sumN_mono (f := f) (a := i + 1) (b := n) (by omega)
  rw [sumN] at this
  omega

set_option maxRecDepth 100000 in
theorem c_X4_keepKeys (nb : Nat) (q : Cp) (c kn : Nat) (ky : Nat → Nat) (w : Wd) (h : CpX nb q w) (hc : c < 6) (p : RPk kn ky (wI w)) (hk : ∀ n, n < kn → ky n < q.1 c ∧ n ≤ ky n) : Cc yX4_keepKeys mX4_keepKeys [.ref 23, .ref (40 + c)] w (fun r w' => r = none ∧ Keep cpA w w' ∧ CpX nb (thinQ q c kn ky) w') := by
  refine Cc.of (by decide) rfl rfl (Nat.le_of_ble_eq_true rfl) (fun X => ?_)
  change V _ X _ 0 [(0, _), (1, _)] [] _ (0, 0)
  have loop : ∀ (d n : Nat) (w1 : Wd), n + d = kn → Keep (frA c) w w1 → (∀ f, f < n → ∀ j, j < 10 → wI w1 (100 + (30 * c + f)) j = wI w (100 + (30 * c + ky f)) j) → (∀ f, n ≤ f → f < 30 → wI w1 (100 + (30 * c + f)) = wI w (100 + (30 * c + f))) → V mX4_keepKeys X (mq mX4_keepKeys X (fun r w' => r = none ∧ Keep cpA w w' ∧ CpX nb (thinQ q c kn ky) w')) 2 [(0, .ref 23), (1, .ref (40 + c)), (2, .int (nI n))] [] w1 (0, 0) := by
    intro d
    induction d with
    | zero =>
      intro n w1 hd g1 g2 g3
      have lx : LayX w1 := h.1.keep g1
      obtain rfl : kn = n := hd.symm
      refine V_iload_n dX4_keepKeys_2 rfl rfl ?_
      first | refine V_aload_n dX4_keepKeys_3 rfl rfl ?_ | refine V_aload_nN dX4_keepKeys_3 rfl rfl ?_
      refine G_geti (by first | exact lx.k _ rfl rfl | exact lx.kc hc | exact lx.kf hc | exact lx.kr hc hky | exact lx.kr hc hn30) fX4_15 dX4_keepKeys_4 (by exact (congrFun (g1.I (a := 23) (by unfold frA; omega)) 1).trans p.1) ?_
      refine V_icmp_ge (tgt := 40) dX4_keepKeys_7 (by decide) (fun c7 => ?_) (fun c7 => False.elim (by exact c7 (nI_le (Nat.le_refl _) (by have := p.2.1; omega))))
      first | refine V_aload_n dX4_keepKeys_40 rfl rfl ?_ | refine V_aload_nN dX4_keepKeys_40 rfl rfl ?_
      first | refine V_aload_n dX4_keepKeys_41 rfl rfl ?_ | refine V_aload_nN dX4_keepKeys_41 rfl rfl ?_
      refine G_geti (by first | exact lx.k _ rfl rfl | exact lx.kc hc | exact lx.kf hc | exact lx.kr hc hky | exact lx.kr hc hn30) fX4_15 dX4_keepKeys_42 (by exact (congrFun (g1.I (a := 23) (by unfold frA; omega)) 1).trans p.1) ?_
      refine V_puti (by first | exact lx.k _ rfl rfl | exact lx.kc hc | exact lx.kf hc | exact lx.kr hc hky | exact lx.kr hc hn30) pfX4_19 (fun h => nomatch h) dX4_keepKeys_45 ⟨rfl, rfl⟩ ?_
      refine V_vret rfl dX4_keepKeys_48 (Nat.le_of_ble_eq_true rfl) (Nat.le_of_ble_eq_true rfl) ?_
      refine ⟨rfl, (g1.mono (fun a => by unfold frA cpA; omega)).trans (Keep.sI w1 (by unfold cpA; omega) 1 _), lx, h.2.1, fun d hd => ?_, fun hs => ?_⟩
      · by_cases e : d = c
        · subst e
          refine ⟨by rw [rdI_eq]; show _ = nI (va_up q.1 d kn d); rw [va_up_self], by show va_up q.1 d kn d ≤ 30; rw [va_up_self]; exact p.2.1, fun f hf b hb => ?_⟩
          rw [show (thinQ q d kn ky).1 d = kn from va_up_self _ _ _] at hf
          rw [rdI_nn (by omega), g2 f hf b (by have := h.2.1; omega), show (thinQ q d kn ky).2 d f b = q.2 d (ky f) b by unfold thinQ; simp only [va_up_self]]
          exact h.fr hc (hk f hf).1 hb
        · have e1 : (thinQ q c kn ky).1 d = q.1 d := va_up_ne _ _ e
          have e2 : (thinQ q c kn ky).2 d = q.2 d := va_up_ne _ _ e
          rw [e1, e2]
          refine ⟨?_, h.le hd, fun f hf b hb => ?_⟩
          · rw [rdI_nn (by omega), g1.I (a := 40 + d) (by unfold frA; omega)]; exact h.sz hd
          · have := h.le hd
            rw [rdI_nn (by omega), g1.I (a := 100 + (30 * d + f)) (by unfold frA; omega)]
            exact h.fr hd hf hb
      · rw [rdI_nn (by omega), g1.I (a := 22) (by unfold frA; omega)]
        refine h.2.2.2 ?_
        obtain ⟨d, hd, h0⟩ := sumN_pos hs
        by_cases e : d = c
        · subst e
          rw [show (thinQ q d kn ky).1 d = kn from va_up_self _ _ _] at h0
          exact sumN_at hd (Nat.lt_of_le_of_lt (Nat.zero_le _) (hk 0 h0).1)
        · rw [show (thinQ q c kn ky).1 d = q.1 d from va_up_ne _ _ e] at h0
          exact sumN_at hd h0
    | succ d ih =>
      intro n w1 hd g1 g2 g3
      have lx : LayX w1 := h.1.keep g1
      have hn : n < kn := by omega
      have hky : ky n < 30 := Nat.lt_of_lt_of_le (hk n hn).1 (h.le hc)
      have hkn := (hk n hn).2
      have hn30 : n < 30 := by have := p.2.1; omega
      refine V_iload_n dX4_keepKeys_2 rfl rfl ?_
      first | refine V_aload_n dX4_keepKeys_3 rfl rfl ?_ | refine V_aload_nN dX4_keepKeys_3 rfl rfl ?_
      refine G_geti (by first | exact lx.k _ rfl rfl | exact lx.kc hc | exact lx.kf hc | exact lx.kr hc hky | exact lx.kr hc hn30) fX4_15 dX4_keepKeys_4 (by exact (congrFun (g1.I (a := 23) (by unfold frA; omega)) 1).trans p.1) ?_
      refine V_icmp_ge (tgt := 40) dX4_keepKeys_7 (by decide) (fun c7 => False.elim (by exact nI_ge (a := n) (b := kn) (by omega) (by have := p.2.1; omega) c7)) (fun c7 => ?_)
      first | refine V_aload_n dX4_keepKeys_10 rfl rfl ?_ | refine V_aload_nN dX4_keepKeys_10 rfl rfl ?_
      first | refine V_getr (by first | exact lx.k _ rfl rfl | exact lx.kc hc | exact lx.kf hc | exact lx.kr hc hky | exact lx.kr hc hn30) fX4_37 dX4_keepKeys_11 (by first | exact lx.r _ _ rfl | exact lx.rf hc | exact lx.rr hc hky | exact lx.rr hc hn30) ?_ | refine V_getrN (by first | exact lx.k _ rfl rfl | exact lx.kc hc | exact lx.kf hc | exact lx.kr hc hky | exact lx.kr hc hn30) fX4_37 dX4_keepKeys_11 (by first | exact lx.r _ _ rfl | exact lx.rf hc | exact lx.rr hc hky | exact lx.rr hc hn30) ?_
      first | refine V_aload_n dX4_keepKeys_14 rfl rfl ?_ | refine V_aload_nN dX4_keepKeys_14 rfl rfl ?_
      first | refine V_getr (by first | exact lx.k _ rfl rfl | exact lx.kc hc | exact lx.kf hc | exact lx.kr hc hky | exact lx.kr hc hn30) fX4_9 dX4_keepKeys_15 (by first | exact lx.r _ _ rfl | exact lx.rf hc | exact lx.rr hc hky | exact lx.rr hc hn30) ?_ | refine V_getrN (by first | exact lx.k _ rfl rfl | exact lx.kc hc | exact lx.kf hc | exact lx.kr hc hky | exact lx.kr hc hn30) fX4_9 dX4_keepKeys_15 (by first | exact lx.r _ _ rfl | exact lx.rf hc | exact lx.rr hc hky | exact lx.rr hc hn30) ?_
      refine V_iload_n dX4_keepKeys_18 rfl rfl ?_
      refine G_iald (j := n) (by first | exact lx.k _ rfl rfl | exact lx.kc hc | exact lx.kf hc | exact lx.kr hc hky | exact lx.kr hc hn30) (by rfl) (by rw [lx.n 28 rfl rfl]; show n < 30; omega) (by first | (rw [lx.n 28 rfl rfl]; decide) | (rw [lx.nf hc]; decide)) dX4_keepKeys_19 (by exact (congrFun (g1.I (a := 28) (by unfold frA; omega)) n).trans (p.2.2 n hn)) ?_
      refine G_aald17 (j := ky n) (by first | exact lx.k _ rfl rfl | exact lx.kc hc | exact lx.kf hc | exact lx.kr hc hky | exact lx.kr hc hn30) (by rfl) (by rw [lx.nf hc]; exact hky) (by first | (rw [lx.n 28 rfl rfl]; decide) | (rw [lx.nf hc]; decide)) (by first | exact lx.r _ _ rfl | exact lx.rf hc | exact lx.rr hc hky | exact lx.rr hc hn30) dX4_keepKeys_20 ?_
      refine V_iconst (v := 0) dX4_keepKeys_21 (by decide) ?_
      first | refine V_aload_n dX4_keepKeys_22 rfl rfl ?_ | refine V_aload_nN dX4_keepKeys_22 rfl rfl ?_
      first | refine V_getr (by first | exact lx.k _ rfl rfl | exact lx.kc hc | exact lx.kf hc | exact lx.kr hc hky | exact lx.kr hc hn30) fX4_37 dX4_keepKeys_23 (by first | exact lx.r _ _ rfl | exact lx.rf hc | exact lx.rr hc hky | exact lx.rr hc hn30) ?_ | refine V_getrN (by first | exact lx.k _ rfl rfl | exact lx.kc hc | exact lx.kf hc | exact lx.kr hc hky | exact lx.kr hc hn30) fX4_37 dX4_keepKeys_23 (by first | exact lx.r _ _ rfl | exact lx.rf hc | exact lx.rr hc hky | exact lx.rr hc hn30) ?_
      refine V_iload_n dX4_keepKeys_26 rfl rfl ?_
      refine G_aald17 (j := n) (by first | exact lx.k _ rfl rfl | exact lx.kc hc | exact lx.kf hc | exact lx.kr hc hky | exact lx.kr hc hn30) (by rfl) (by rw [lx.nf hc]; exact hn30) (by first | (rw [lx.n 28 rfl rfl]; decide) | (rw [lx.nf hc]; decide)) (by first | exact lx.r _ _ rfl | exact lx.rf hc | exact lx.rr hc hky | exact lx.rr hc hn30) dX4_keepKeys_27 ?_
      refine V_iconst (v := 0) dX4_keepKeys_28 (by decide) ?_
      refine V_bipush (v := 10) dX4_keepKeys_29 (by decide) ?_
      refine V_copy koX4_53 sy_copy.1 sy_copy.2.1 sy_copy.2.2 (by first | exact lx.k _ rfl rfl | exact lx.kc hc | exact lx.kf hc | exact lx.kr hc hky | exact lx.kr hc hn30) (by first | exact lx.k _ rfl rfl | exact lx.kc hc | exact lx.kf hc | exact lx.kr hc hky | exact lx.kr hc hn30) (by decide) (by decide) (by decide) (by rw [lx.nr hc hky]; decide) (by rw [lx.nr hc hn30]; decide) (Nat.le_of_ble_eq_true rfl) (Nat.le_of_ble_eq_true rfl) dX4_keepKeys_31 ?_
      refine S_iinc (L' := [(0, _), (1, _), (2, _)]) dX4_keepKeys_34 rfl rfl rfl rfl ?_
      rw [nI_inc]
      refine V_goto (tgt := 2) dX4_keepKeys_37 (by decide) ?_
      exact ih (n + 1) _ (by omega) (g1.trans (Keep.sV w1 (by unfold frA; omega) _)) (fun f hf j hj => by
        by_cases e : f = n
        · subst e
          refine Eq.trans (if_pos rfl) ?_
          rw [show Int32.toNatClampNeg 0 = 0 from rfl, show Int32.toNatClampNeg 10 = 10 from rfl, pk_cpy_in (by omega) (by omega)]
          rw [g3 (ky f) (by omega) hky]
          exact congrArg _ (by omega)
        · rw [show wI (sV w1 (100 + (30 * c + n)) _) (100 + (30 * c + f)) j = wI w1 (100 + (30 * c + f)) j from if_neg (by omega)]
          exact g2 f (by omega) j hj) (fun f hf h30 => funext fun j => by
        rw [show wI (sV w1 (100 + (30 * c + n)) _) (100 + (30 * c + f)) j = wI w1 (100 + (30 * c + f)) j from if_neg (by omega)]
        rw [g3 f (by omega) h30])
  refine V_iconst (v := 0) dX4_keepKeys_0 (by decide) ?_
  refine S_istore_n (L' := [(0, _), (1, _), (2, _)]) dX4_keepKeys_1 rfl rfl rfl ?_
  exact loop kn 0 w (by omega) (Keep.refl _ _) (fun f hf => absurd hf (Nat.not_lt_zero _)) (fun f _ _ => rfl)
