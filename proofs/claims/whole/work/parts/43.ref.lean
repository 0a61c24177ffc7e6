/-! THE REFERENCE: clips -/
theorem spot_N (c f : Nat) : 300 * nI c + 10 * nI f = nI (300 * c + 10 * f) := by
  rw [show (300 : Int32) = nI 300 from rfl, show (10 : Int32) = nI 10 from rfl, pk_mul, pk_mul, nI_add]
theorem MCp.f1 {nb : Nat} {q : Cp} {w : Wd} (h : MCp nb q w) {s : Nat} (hs : s < 180) (hp : s % 30 < q.1 (s / 30)) {b : Nat} (hb : b < nb) : wI w 420 (10 * s + b) = nI (tr q s b) ∧ tr q s b < 36 := by
  have := h.fr (c := s / 30) (f := s % 30) (b := b) (by omega) hp hb
  rwa [show 300 * (s / 30) + 10 * (s % 30) + b = 10 * s + b by omega] at this
abbrev pzI (a _ : Nat) : Prop := a = 409
theorem MSk.mix {k : Sk} {u : Nat → Nat} {w1 : Wd} {b v : Nat} (h : MSk (kT k (mixT b u (kTrn k))) w1) (hu : ∀ i, i < kN k → u i < 36) (ht : ∀ i, i < kN k → kTrn k i < 36) (hv : u b = v) : MSk (kT k (mixT (b + 1) u (kTrn k))) (sI w1 409 b (nI v)) := by
  refine MSk.turn h ?_ (fun i hi => ?_) (fun i hi e => ?_)
  · unfold mixT; rw [if_pos (by omega)]; exact hv
  · unfold mixT
    split
    · exact hu i hi
    · exact ht i hi
  · unfold mixT
    by_cases c : i < b
    · rw [if_pos c, if_pos (by omega)]
    · rw [if_neg c, if_neg (by omega)]
theorem MSk.trnb {k : Sk} {u : Nat → Nat} {w1 : Wd} {b : Nat} (h : MSk (kT k (mixT b u (kTrn k))) w1) (hb : b < kN k) : wI w1 409 b = nI (kTrn k b) := by
  have := h.trn hb
  rw [this]
  show nI (mixT b u (kTrn k) b) = _
  unfold mixT
  rw [if_neg (by omega)]
/-- in the midst of a loop that changes the pose -/
def PzI (k : Sk) (u : Nat → Nat) (w : Wd) (b : Nat) (w1 : Wd) : Prop := Kp pzI hoJ w w1 ∧ MSk (kT k (mixT b u (kTrn k))) w1 ∧ wJ w1 400 16 = oldX k ∧ wJ w1 400 17 = oldY k
theorem PzI.first {k : Sk} {u : Nat → Nat} {w w1 : Wd} (h : MSk k w) (g : Kp noA hoJ w w1) (hx : wJ w1 400 16 = oldX k) (hy : wJ w1 400 17 = oldY k) : PzI k u w 0 w1 :=
  ⟨g.mono (fun _ _ q => q.elim) (fun _ _ q => q), by rw [mixT_0]; exact h.kp g (fun _ _ q => q.elim) (fun a j q => by unfold hoJ at q; unfold msJ; omega), hx, hy⟩
theorem PzI.next {k : Sk} {u : Nat → Nat} {w w1 : Wd} {b v : Nat} (h : PzI k u w b w1) (hk : MSk k w) (hu : ∀ i, i < kN k → u i < 36) (hv : u b = v) : PzI k u w (b + 1) (sI w1 409 b (nI v)) :=
  ⟨h.1.trans (Kp.sI (SI := pzI) (SJ := hoJ) w1 (show 409 = 409 from rfl) _), h.2.1.mix hu (fun i hi => (hk.wf hi).2.2.2.2.2.2) hv, h.2.2.1, h.2.2.2⟩
theorem PzI.skip {k : Sk} {u : Nat → Nat} {w w1 : Wd} {b : Nat} (h : PzI k u w b w1) (hv : u b = kTrn k b) : PzI k u w (b + 1) w1 :=
  ⟨h.1, by rw [mixT_same hv]; exact h.2.1, h.2.2⟩
theorem PzI.cp {k : Sk} {u : Nat → Nat} {w w1 : Wd} {b nb : Nat} {q : Cp} (h : PzI k u w b w1) (hq : MCp nb q w) : MCp nb q w1 := hq.kp h.1 (fun a j z => by unfold pzI at z; omega)
theorem PzI.fin {z : St} {u : Nat → Nat} {w w1 w2 : Wd} (h : PzI (zK z) u w (kN (zK z)) w1) (z0 : RM z w) (g : Kp noA stJ w1 w2) (hs : MSk (stl (kT (zK z) (mixT (kN (zK z)) u (kTrn (zK z)))) (oldX (zK z)) (oldY (zK z))) w2) : RM (pK z (setP (zK z) (mixT (kN (zK z)) u (kTrn (zK z))))) w2 ∧ Keep moA w w2 := by
  have g2 : Kp skI skJ w w2 := (h.1.mono (fun a j q => by unfold pzI at q; unfold skI; omega) (fun a j q => by unfold hoJ at q; unfold skJ; omega)).trans (g.mono (fun _ _ q => q.elim) (fun a j q => by unfold stJ at q; unfold skJ; omega))
  exact ⟨z0.setK g2 hs (stl_n _ _ _), g2.mo⟩
theorem isFr_s {z : St} {w : Wd} (h : RM z w) {x y : Int32} (hx : isFr z x y) : ∃ c f, c < 6 ∧ f < (zQ z).1 c ∧ x = nI c ∧ y = nI f := by
  obtain ⟨c, hc, rfl⟩ := isC_n hx.1
  have h2 := hx.2
  rw [bN_nI (by omega)] at h2
  exact ⟨c, bN y, hc, by unfold bN; omega, rfl, i32_nat h2.1⟩

set_option maxRecDepth 100000 in
theorem c_X9_isFrame (nb : Nat) (q : Cp) (x y : Int32) (w : Wd) (h : MCp nb q w) : Cc yX9_isFrame mX9_isFrame [.ref 400, .int x, .int y] w (fun r w' => r = some (.int (b01 (isC x ∧ (0 ≤ y.toInt ∧ y.toInt < q.1 (bN x))))) ∧ w' = w) := by
  refine Cc.of (by decide) rfl rfl (Nat.le_of_ble_eq_true rfl) (fun X => ?_)
  change V _ X _ 0 [(0, _), (1, _), (2, _)] [] _ (0, 0)
  refine V_iload_n dX9_isFrame_0 rfl rfl ?_
  refine V_callS (As := [_]) (st := _) (c_X9_isClip _ _) kX9_178 ⟨rfl, rfl, rfl⟩ ⟨(Nat.le_of_ble_eq_true rfl), (Nat.le_of_ble_eq_true rfl)⟩ dX9_isFrame_1 rfl rfl (Nat.le_of_ble_eq_true rfl) ⟨(Nat.le_of_ble_eq_true rfl), (Nat.le_of_ble_eq_true rfl)⟩ ?_
  refine V_if_eq (tgt := 29) dX9_isFrame_4 (by decide) (fun c4 => ?_) (fun c4 => ?_)
  · refine V_iconst (v := 0) dX9_isFrame_29 (by decide) ?_
    refine V_zret rfl dX9_isFrame_30 (Nat.le_of_ble_eq_true rfl) (Nat.le_of_ble_eq_true rfl) rfl ?_
    refine ok2i ?_
    first
      | (have z22 := b01_1 c22
         refine (b01_t ⟨⟨(b01_1 c4).1, by have := (b01_1 c4).2; omega⟩, ?_⟩).symm
         rw [hcN]; exact z22)
      | (have z22 := b01_0 c22
         refine (b01_f (fun z => z22 ?_)).symm
         have := z.2
         rw [hcN] at this; exact this)
      | exact (b01_f (fun z => b01_0 c4 ⟨z.1.1, by have := z.1.2; omega⟩)).symm
  · obtain ⟨c, hc, rfl⟩ := isC_n (x := x) (by have := b01_1 c4; unfold isC; omega)
    have hcN : bN (nI c) = c := bN_nI (by omega)
    refine V_iload_n dX9_isFrame_7 rfl rfl ?_
    refine V_i2l dX9_isFrame_8 ?_
    refine V_lconst (v := 0) dX9_isFrame_9 (by decide) ?_
    first | refine V_aload_n dX9_isFrame_10 rfl rfl ?_ | refine V_aload_nN dX9_isFrame_10 rfl rfl ?_
    first | refine V_getr (by exact h.1.k _ rfl rfl) fX9_51 dX9_isFrame_11 (by exact (h.1.r 18 rfl (by decide) : _ = some 419)) ?_ | refine V_getrN (by exact h.1.k _ rfl rfl) fX9_51 dX9_isFrame_11 (by exact (h.1.r 18 rfl (by decide) : _ = some 419)) ?_
    refine V_iload_n dX9_isFrame_14 rfl rfl ?_
    refine G_iald (j := c) (by exact h.1.k _ rfl rfl) (by rfl) (by exact h.1.lt 419 (m := 6) rfl rfl (by decide) rfl (by omega)) (by exact h.1.nlt 419 rfl rfl (by decide)) dX9_isFrame_15 (by exact h.sz hc) ?_
    refine V_iconst (v := 1) dX9_isFrame_16 (by decide) ?_
    refine V_isub dX9_isFrame_17 ?_
    refine V_i2l dX9_isFrame_18 ?_
    refine V_callS (As := [_, _, _]) (st := _) (in9n y (q.1 c) (by have := h.le hc; omega) w) kX9_114 ⟨rfl, rfl, rfl⟩ ⟨(Nat.le_of_ble_eq_true rfl), (Nat.le_of_ble_eq_true rfl)⟩ dX9_isFrame_19 rfl rfl (Nat.le_of_ble_eq_true rfl) ⟨(Nat.le_of_ble_eq_true rfl), (Nat.le_of_ble_eq_true rfl)⟩ ?_
    refine V_if_eq (tgt := 29) dX9_isFrame_22 (by decide) (fun c22 => ?_) (fun c22 => ?_)
    · refine V_iconst (v := 0) dX9_isFrame_29 (by decide) ?_
      refine V_zret rfl dX9_isFrame_30 (Nat.le_of_ble_eq_true rfl) (Nat.le_of_ble_eq_true rfl) rfl ?_
      refine ok2i ?_
      first
        | (have z22 := b01_1 c22
           refine (b01_t ⟨⟨(b01_1 c4).1, by have := (b01_1 c4).2; omega⟩, ?_⟩).symm
           rw [hcN]; exact z22)
        | (have z22 := b01_0 c22
           refine (b01_f (fun z => z22 ?_)).symm
           have := z.2
           rw [hcN] at this; exact this)
        | exact (b01_f (fun z => b01_0 c4 ⟨z.1.1, by have := z.1.2; omega⟩)).symm
    · refine V_iconst (v := 1) dX9_isFrame_25 (by decide) ?_
      refine V_goto (tgt := 30) dX9_isFrame_26 (by decide) ?_
      refine V_zret rfl dX9_isFrame_30 (Nat.le_of_ble_eq_true rfl) (Nat.le_of_ble_eq_true rfl) rfl ?_
      refine ok2i ?_
      first
        | (have z22 := b01_1 c22
           refine (b01_t ⟨⟨(b01_1 c4).1, by have := (b01_1 c4).2; omega⟩, ?_⟩).symm
           rw [hcN]; exact z22)
        | (have z22 := b01_0 c22
           refine (b01_f (fun z => z22 ?_)).symm
           have := z.2
           rw [hcN] at this; exact this)
        | exact (b01_f (fun z => b01_0 c4 ⟨z.1.1, by have := z.1.2; omega⟩)).symm

abbrev cqI (a _ : Nat) : Prop := 419 ≤ a ∧ a < 421
theorem RM.setQ {z : St} {w w' : Wd} {q : Cp} (h : RM z w) (g : Kp cqI noA w w') (hq : MCp (kN (zK z)) q w') : RM (pQ z q) w' :=
  ⟨h.1.kp g (fun a j z => by unfold cqI at z; unfold msI; omega) (fun _ _ z => z.elim), hq, h.2.2.1.kp g (fun a j z => by unfold cqI at z; omega), h.2.2.2.1.kp g (fun a j z => by unfold cqI at z; omega), h.2.2.2.2.1.kp g (fun a j z => by unfold cqI at z; omega), (g.I (by unfold cqI; omega)).trans h.2.2.2.2.2.1, h.2.2.2.2.2.2⟩
theorem Kp.moq {w w' : Wd} (g : Kp cqI noA w w') : Keep moA w w' := g.keep (fun a j q => by unfold cqI at q; unfold moA; omega) (fun _ _ q => q.elim)
theorem MCp.clear {nb : Nat} {q : Cp} {w : Wd} (h : MCp nb q w) {c : Nat} (hc : c < 6) : MCp nb (va_up q.1 c 0, q.2) (sI w 419 c 0) := by
  refine ⟨h.1, h.2.1, fun d hd => ?_⟩
  show wI (sI w 419 c 0) 419 d = nI (va_up q.1 c 0 d) ∧ va_up q.1 c 0 d ≤ 30 ∧ ∀ f, f < va_up q.1 c 0 d → _
  by_cases e : d = c
  · subst e
    rw [rdI_eq, va_up_self]
    exact ⟨rfl, by omega, fun f hf => by omega⟩
  · rw [rdI_ne e, va_up_ne _ _ e]
    exact ⟨h.sz hd, h.le hd, fun f hf b hb => by rw [rdI_nn (by decide)]; exact h.fr hd hf hb⟩

set_option maxRecDepth 100000 in
theorem c_X9_clear (z : St) (x : Int32) (w : Wd) (z0 : RM z w) : Cc yX9_clear mX9_clear [.ref 400, .int x] w (fun r w' => ∃ v, r = some v ∧ (v = .int (oClear z x).1 ∧ RM (oClear z x).2 w' ∧ Keep moA w w')) := by
  refine Cc.of (by decide) rfl rfl (Nat.le_of_ble_eq_true rfl) (fun X => ?_)
  change V _ X _ 0 [(0, _), (1, _)] [] _ (0, 0)
  refine V_iload_n dX9_clear_0 rfl rfl ?_
  refine V_callS (As := [_]) (st := _) (c_X9_isClip _ _) kX9_178 ⟨rfl, rfl, rfl⟩ ⟨(Nat.le_of_ble_eq_true rfl), (Nat.le_of_ble_eq_true rfl)⟩ dX9_clear_1 rfl rfl (Nat.le_of_ble_eq_true rfl) ⟨(Nat.le_of_ble_eq_true rfl), (Nat.le_of_ble_eq_true rfl)⟩ ?_
  refine V_if_ne (tgt := 10) dX9_clear_4 (by decide) (fun c4 => ?_) (fun c4 => ?_)
  · have hxC : isC x := ⟨(b01_1 c4).1, by have := (b01_1 c4).2; omega⟩
    obtain ⟨c, hc, rfl⟩ := isC_n hxC
    have hcN : bN (nI c) = c := bN_nI (by omega)
    first | refine V_aload_n dX9_clear_10 rfl rfl ?_ | refine V_aload_nN dX9_clear_10 rfl rfl ?_
    first | refine V_getr (by exact z0.1.1.k _ rfl rfl) fX9_51 dX9_clear_11 (by exact (z0.1.1.r 18 rfl (by decide) : _ = some 419)) ?_ | refine V_getrN (by exact z0.1.1.k _ rfl rfl) fX9_51 dX9_clear_11 (by exact (z0.1.1.r 18 rfl (by decide) : _ = some 419)) ?_
    refine V_iload_n dX9_clear_14 rfl rfl ?_
    refine G_iald (j := c) (by exact z0.1.1.k _ rfl rfl) (by rfl) (by exact z0.1.1.lt 419 (m := 6) rfl rfl (by decide) rfl (by omega)) (by exact z0.1.1.nlt 419 rfl rfl (by decide)) dX9_clear_15 (by exact z0.2.1.sz hc) ?_
    refine S_istore_n (L' := [(0, _), (1, _), (2, _)]) dX9_clear_16 rfl rfl rfl ?_
    first | refine V_aload_n dX9_clear_17 rfl rfl ?_ | refine V_aload_nN dX9_clear_17 rfl rfl ?_
    first | refine V_getr (by exact z0.1.1.k _ rfl rfl) fX9_51 dX9_clear_18 (by exact (z0.1.1.r 18 rfl (by decide) : _ = some 419)) ?_ | refine V_getrN (by exact z0.1.1.k _ rfl rfl) fX9_51 dX9_clear_18 (by exact (z0.1.1.r 18 rfl (by decide) : _ = some 419)) ?_
    refine V_iload_n dX9_clear_21 rfl rfl ?_
    refine V_iconst (v := 0) dX9_clear_22 (by decide) ?_
    refine G_iast (j := c) (by exact z0.1.1.k _ rfl rfl) (by rfl) (by exact z0.1.1.lt 419 (m := 6) rfl rfl (by decide) rfl (by omega)) (by exact z0.1.1.nlt 419 rfl rfl (by decide)) dX9_clear_23 ?_
    refine V_iload_n dX9_clear_24 rfl rfl ?_
    refine V_iret rfl dX9_clear_25 (Nat.le_of_ble_eq_true rfl) (Nat.le_of_ble_eq_true rfl) ?_
    have g : Kp cqI noA w (sI w 419 c 0) := Kp.sI w (by unfold cqI; omega) _
    exact ⟨_, rfl, by unfold oClear; rw [if_pos hxC, hcN], by unfold oClear; rw [if_pos hxC, hcN]; exact z0.setQ g (z0.2.1.clear hc), g.moq⟩
  · refine V_bipush (v := -2) dX9_clear_7 (by decide) ?_
    refine V_iret rfl dX9_clear_9 (Nat.le_of_ble_eq_true rfl) (Nat.le_of_ble_eq_true rfl) ?_
    exact ⟨_, rfl, by unfold oClear; rw [if_neg (fun (q : isC x) => b01_0 c4 ⟨q.1, by have := q.2; omega⟩)], by unfold oClear; rw [if_neg (fun (q : isC x) => b01_0 c4 ⟨q.1, by have := q.2; omega⟩)]; exact z0, Keep.refl _ _⟩

theorem MCp.frame {nb : Nat} {q : Cp} {w w1 : Wd} {t : Nat → Nat} (h : MCp nb q w) {c : Nat} (hc : c < 6) (hs : q.1 c < 30) (ht : ∀ b, b < nb → t b < 36) (g : Kp (fun a j => a = 420 ∧ 300 * c + 10 * q.1 c ≤ j ∧ j < 300 * c + 10 * q.1 c + 10) noA w w1) (g2 : ∀ i, i < nb → wI w1 420 (300 * c + 10 * q.1 c + i) = nI (t i)) : MCp nb (frQ q c t) (sI w1 419 c (nI (q.1 c + 1))) := by
  have hnb := h.2.1
  have hl1 : LayM w1 := h.1.kp g
  refine ⟨hl1, h.2.1, fun d hd => ?_⟩
  have hle := h.le hd
  show wI (sI w1 419 c (nI (q.1 c + 1))) 419 d = nI (va_up q.1 c (q.1 c + 1) d) ∧ va_up q.1 c (q.1 c + 1) d ≤ 30 ∧ ∀ f, f < va_up q.1 c (q.1 c + 1) d → ∀ b, b < nb → wI (sI w1 419 c (nI (q.1 c + 1))) 420 (300 * d + 10 * f + b) = nI (va_up q.2 c (va_up (q.2 c) (q.1 c) t) d f b) ∧ va_up q.2 c (va_up (q.2 c) (q.1 c) t) d f b < 36
  by_cases e : d = c
  · subst e
    rw [rdI_eq, va_up_self, va_up_self]
    refine ⟨rfl, by omega, fun f hf b hb => ?_⟩
    rw [rdI_nn (by decide)]
    by_cases e2 : f = q.1 d
    · subst e2
      rw [va_up_self]
      exact ⟨g2 b hb, ht b hb⟩
    · rw [va_up_ne _ _ e2, g.I (fun z => by omega)]
      exact h.fr hd (by omega) hb
  · rw [rdI_ne e, va_up_ne _ _ e, va_up_ne _ _ e, g.I (fun z => by omega)]
    refine ⟨h.sz hd, h.le hd, fun f hf b hb => ?_⟩
    rw [rdI_nn (by decide), g.I (fun z => by omega)]
    exact h.fr hd hf hb

set_option maxRecDepth 100000 in
theorem c_X9_frame (z : St) (x : Int32) (w : Wd) (z0 : RM z w) : Cc yX9_frame mX9_frame [.ref 400, .int x] w (fun r w' => ∃ v, r = some v ∧ (v = .int (oFrame z x).1 ∧ RM (oFrame z x).2 w' ∧ Keep moA w w')) := by
  refine Cc.of (by decide) rfl rfl (Nat.le_of_ble_eq_true rfl) (fun X => ?_)
  change V _ X _ 0 [(0, _), (1, _)] [] _ (0, 0)
  have loop : ∀ c, c < 6 → bN (nI c) = c → isC (nI c) → ¬ kN (zK z) = 0 → (zQ z).1 c < 30 → ∀ (d b : Nat) (w1 : Wd), b + d = kN (zK z) → Kp (fun a j => a = 420 ∧ 300 * c + 10 * (zQ z).1 c ≤ j ∧ j < 300 * c + 10 * (zQ z).1 c + 10) noA w w1 → (∀ i, i < b → wI w1 420 (300 * c + 10 * (zQ z).1 c + i) = nI (kTrn (zK z) i)) → V mX9_frame X (mq mX9_frame X (fun r w' => ∃ v, r = some v ∧ (v = .int (oFrame z (nI c)).1 ∧ RM (oFrame z (nI c)).2 w' ∧ Keep moA w w'))) 36 [(0, .ref 400), (1, .int (nI c)), (2, .int (nI b))] [] w1 (0, 0) := by
    intro c hc hcN hxC hn0 hs d
    induction d with
    | zero =>
      intro b w1 hd g1 g2
      have h1 : MSk (zK z) w1 := z0.1.kp g1 (fun a j q => by unfold msI; omega) (fun _ _ q => q.elim)
      obtain rfl : b = kN (zK z) := hd
      refine V_iload_n dX9_frame_36 rfl rfl ?_
      first | refine V_aload_n dX9_frame_37 rfl rfl ?_ | refine V_aload_nN dX9_frame_37 rfl rfl ?_
      refine G_geti (by exact h1.1.k _ rfl rfl) fX9_111 dX9_frame_38 (by exact h1.n) ?_
      refine V_icmp_ge (tgt := 73) dX9_frame_41 (by decide) (fun c41 => ?_) (fun c41 => False.elim (by exact c41 (nI_le (Nat.le_refl _) (by have := z0.1.n10; omega))))
      first | refine V_aload_n dX9_frame_73 rfl rfl ?_ | refine V_aload_nN dX9_frame_73 rfl rfl ?_
      first | refine V_getr (by exact h1.1.k _ rfl rfl) fX9_51 dX9_frame_74 (by exact (h1.1.r 18 rfl (by decide) : _ = some 419)) ?_ | refine V_getrN (by exact h1.1.k _ rfl rfl) fX9_51 dX9_frame_74 (by exact (h1.1.r 18 rfl (by decide) : _ = some 419)) ?_
      refine V_iload_n dX9_frame_77 rfl rfl ?_
      refine V_dup2 dX9_frame_78 rfl rfl ?_
      refine G_iald (j := c) (by exact h1.1.k _ rfl rfl) (by rfl) (by exact h1.1.lt 419 (m := 6) rfl rfl (by decide) rfl (by omega)) (by exact h1.1.nlt 419 rfl rfl (by decide)) dX9_frame_79 (by exact (g1.I (by omega)).trans (z0.2.1.sz hc)) ?_
      refine V_iconst (v := 1) dX9_frame_80 (by decide) ?_
      refine V_iadd dX9_frame_81 ?_
      rw [nI_1]
      refine G_iast (j := c) (by exact h1.1.k _ rfl rfl) (by rfl) (by exact h1.1.lt 419 (m := 6) rfl rfl (by decide) rfl (by omega)) (by exact h1.1.nlt 419 rfl rfl (by decide)) dX9_frame_82 ?_
      first | refine V_aload_n dX9_frame_83 rfl rfl ?_ | refine V_aload_nN dX9_frame_83 rfl rfl ?_
      first | refine V_getr (by exact h1.1.k _ rfl rfl) fX9_51 dX9_frame_84 (by exact (h1.1.r 18 rfl (by decide) : _ = some 419)) ?_ | refine V_getrN (by exact h1.1.k _ rfl rfl) fX9_51 dX9_frame_84 (by exact (h1.1.r 18 rfl (by decide) : _ = some 419)) ?_
      refine V_iload_n dX9_frame_87 rfl rfl ?_
      refine G_iald (j := c) (by exact h1.1.k _ rfl rfl) (by rfl) (by exact h1.1.lt 419 (m := 6) rfl rfl (by decide) rfl (by omega)) (by exact h1.1.nlt 419 rfl rfl (by decide)) dX9_frame_88 (by exact rdI_eq) ?_
      refine V_iret rfl dX9_frame_89 (Nat.le_of_ble_eq_true rfl) (Nat.le_of_ble_eq_true rfl) ?_
      have e : oFrame z (nI c) = (nI ((zQ z).1 c + 1), pQ z (frQ (zQ z) c (kTrn (zK z)))) := by
        unfold oFrame
        rw [if_pos hxC, hcN, if_neg hn0, if_neg (by omega)]
      have g : Kp cqI noA w (sI w1 419 c (nI ((zQ z).1 c + 1))) := (g1.mono (fun a j q => by unfold cqI; omega) (fun _ _ q => q)).trans (Kp.sI w1 (by unfold cqI; omega) _)
      exact ⟨_, rfl, by rw [e], by rw [e]; exact z0.setQ g (z0.2.1.frame hc hs (fun b hb => (z0.1.wf hb).2.2.2.2.2.2) g1 g2), g.moq⟩
    | succ d ih =>
      intro b w1 hd g1 g2
      have h1 : MSk (zK z) w1 := z0.1.kp g1 (fun a j q => by unfold msI; omega) (fun _ _ q => q.elim)
      have hb : b < kN (zK z) := by omega
      refine V_iload_n dX9_frame_36 rfl rfl ?_
      first | refine V_aload_n dX9_frame_37 rfl rfl ?_ | refine V_aload_nN dX9_frame_37 rfl rfl ?_
      refine G_geti (by exact h1.1.k _ rfl rfl) fX9_111 dX9_frame_38 (by exact h1.n) ?_
      refine V_icmp_ge (tgt := 73) dX9_frame_41 (by decide) (fun c41 => False.elim (by exact nI_ge (a := b) (b := kN (zK z)) hb (by have := z0.1.n10; omega) c41)) (fun c41 => ?_)
      first | refine V_aload_n dX9_frame_44 rfl rfl ?_ | refine V_aload_nN dX9_frame_44 rfl rfl ?_
      first | refine V_getr (by exact h1.1.k _ rfl rfl) fX9_54 dX9_frame_45 (by exact (h1.1.r 19 rfl (by decide) : _ = some 420)) ?_ | refine V_getrN (by exact h1.1.k _ rfl rfl) fX9_54 dX9_frame_45 (by exact (h1.1.r 19 rfl (by decide) : _ = some 420)) ?_
      refine V_iload_n dX9_frame_48 rfl rfl ?_
      first | refine V_aload_n dX9_frame_49 rfl rfl ?_ | refine V_aload_nN dX9_frame_49 rfl rfl ?_
      first | refine V_getr (by exact h1.1.k _ rfl rfl) fX9_51 dX9_frame_50 (by exact (h1.1.r 18 rfl (by decide) : _ = some 419)) ?_ | refine V_getrN (by exact h1.1.k _ rfl rfl) fX9_51 dX9_frame_50 (by exact (h1.1.r 18 rfl (by decide) : _ = some 419)) ?_
      refine V_iload_n dX9_frame_53 rfl rfl ?_
      refine G_iald (j := c) (by exact h1.1.k _ rfl rfl) (by rfl) (by exact h1.1.lt 419 (m := 6) rfl rfl (by decide) rfl (by omega)) (by exact h1.1.nlt 419 rfl rfl (by decide)) dX9_frame_54 (by exact (g1.I (by omega)).trans (z0.2.1.sz hc)) ?_
      refine V_callS (As := [_, _]) (st := _) (c_X9_spot _ _ _) kX9_181 ⟨rfl, rfl, rfl⟩ ⟨(Nat.le_of_ble_eq_true rfl), (Nat.le_of_ble_eq_true rfl)⟩ dX9_frame_55 rfl rfl (Nat.le_of_ble_eq_true rfl) ⟨(Nat.le_of_ble_eq_true rfl), (Nat.le_of_ble_eq_true rfl)⟩ ?_
      rw [spot_N]
      refine V_iload_n dX9_frame_58 rfl rfl ?_
      refine V_iadd dX9_frame_59 ?_
      rw [nI_add]
      first | refine V_aload_n dX9_frame_60 rfl rfl ?_ | refine V_aload_nN dX9_frame_60 rfl rfl ?_
      first | refine V_getr (by exact h1.1.k _ rfl rfl) fX9_31 dX9_frame_61 (by exact (h1.1.r 8 rfl (by decide) : _ = some 409)) ?_ | refine V_getrN (by exact h1.1.k _ rfl rfl) fX9_31 dX9_frame_61 (by exact (h1.1.r 8 rfl (by decide) : _ = some 409)) ?_
      refine V_iload_n dX9_frame_64 rfl rfl ?_
      refine G_iald (j := b) (by exact h1.1.k _ rfl rfl) (by rfl) (by exact h1.1.lt 409 (m := 10) rfl rfl (by decide) rfl (by have := z0.1.n10; omega)) (by exact h1.1.nlt 409 rfl rfl (by decide)) dX9_frame_65 (by exact h1.trn hb) ?_
      refine G_iast (j := 300 * c + 10 * (zQ z).1 c + b) (by exact h1.1.k _ rfl rfl) (by rfl) (by exact h1.1.lt 420 (m := 1800) rfl rfl (by decide) rfl (by have := z0.1.n10; omega)) (by exact h1.1.nlt 420 rfl rfl (by decide)) dX9_frame_66 ?_
      refine S_iinc (L' := [(0, _), (1, _), (2, _)]) dX9_frame_67 rfl rfl rfl rfl ?_
      rw [nI_inc]
      refine V_goto (tgt := 36) dX9_frame_70 (by decide) ?_
      refine ih (b + 1) _ (by omega) (g1.trans (Kp.sI w1 (by have := z0.1.n10; omega) _)) (fun i hi => ?_)
      by_cases e : i = b
      · rw [e]; exact rdI_eq
      · rw [rdI_ne (by omega)]; exact g2 i (by omega)
  refine V_iload_n dX9_frame_0 rfl rfl ?_
  refine V_callS (As := [_]) (st := _) (c_X9_isClip _ _) kX9_178 ⟨rfl, rfl, rfl⟩ ⟨(Nat.le_of_ble_eq_true rfl), (Nat.le_of_ble_eq_true rfl)⟩ dX9_frame_1 rfl rfl (Nat.le_of_ble_eq_true rfl) ⟨(Nat.le_of_ble_eq_true rfl), (Nat.le_of_ble_eq_true rfl)⟩ ?_
  refine V_if_ne (tgt := 10) dX9_frame_4 (by decide) (fun c4 => ?_) (fun c4 => ?_)
  · have hxC : isC x := ⟨(b01_1 c4).1, by have := (b01_1 c4).2; omega⟩
    obtain ⟨c, hc, rfl⟩ := isC_n hxC
    have hcN : bN (nI c) = c := bN_nI (by omega)
    have h30 := z0.2.1.le hc
    first | refine V_aload_n dX9_frame_10 rfl rfl ?_ | refine V_aload_nN dX9_frame_10 rfl rfl ?_
    refine G_geti (by exact z0.1.1.k _ rfl rfl) fX9_111 dX9_frame_11 (by exact z0.1.n) ?_
    refine V_if_ne (tgt := 20) dX9_frame_14 (by decide) (fun c14 => ?_) (fun c14 => ?_)
    · have hn0 : ¬ kN (zK z) = 0 := fun q => c14 (by rw [q]; rfl)
      first | refine V_aload_n dX9_frame_20 rfl rfl ?_ | refine V_aload_nN dX9_frame_20 rfl rfl ?_
      first | refine V_getr (by exact z0.1.1.k _ rfl rfl) fX9_51 dX9_frame_21 (by exact (z0.1.1.r 18 rfl (by decide) : _ = some 419)) ?_ | refine V_getrN (by exact z0.1.1.k _ rfl rfl) fX9_51 dX9_frame_21 (by exact (z0.1.1.r 18 rfl (by decide) : _ = some 419)) ?_
      refine V_iload_n dX9_frame_24 rfl rfl ?_
      refine G_iald (j := c) (by exact z0.1.1.k _ rfl rfl) (by rfl) (by exact z0.1.1.lt 419 (m := 6) rfl rfl (by decide) rfl (by omega)) (by exact z0.1.1.nlt 419 rfl rfl (by decide)) dX9_frame_25 (by exact z0.2.1.sz hc) ?_
      refine V_bipush (v := 30) dX9_frame_26 (by decide) ?_
      refine V_icmp_ne (tgt := 34) dX9_frame_28 (by decide) (fun c28 => ?_) (fun c28 => ?_)
      · have hs : (zQ z).1 c < 30 := by
          have : ¬ (zQ z).1 c = 30 := fun q => c28 (by rw [q]; rfl)
          omega
        refine V_iconst (v := 0) dX9_frame_34 (by decide) ?_
        refine S_istore_n (L' := [(0, _), (1, _), (2, _)]) dX9_frame_35 rfl rfl rfl ?_
        exact loop c hc hcN hxC hn0 hs (kN (zK z)) 0 w (by omega) (Kp.refl _ _ _) (fun i hi => absurd hi (Nat.not_lt_zero _))
      · refine V_bipush (v := -4) dX9_frame_31 (by decide) ?_
        refine V_iret rfl dX9_frame_33 (Nat.le_of_ble_eq_true rfl) (Nat.le_of_ble_eq_true rfl) ?_
        have hs : (zQ z).1 c = 30 := (nI_eq (b := 30) (by omega) (by decide)).mp c28
        have e : oFrame z (nI c) = (-4, z) := by
          unfold oFrame
          rw [if_pos hxC, hcN, if_neg hn0, if_pos (by omega)]
        exact ⟨_, rfl, by rw [e], by rw [e]; exact z0, Keep.refl _ _⟩
    · refine V_bipush (v := -3) dX9_frame_17 (by decide) ?_
      refine V_iret rfl dX9_frame_19 (Nat.le_of_ble_eq_true rfl) (Nat.le_of_ble_eq_true rfl) ?_
      have hn0 : kN (zK z) = 0 := (nI_eq (b := 0) (by have := z0.1.n10; omega) (by decide)).mp c14
      have e : oFrame z (nI c) = (-3, z) := by
        unfold oFrame
        rw [if_pos hxC, hcN, if_pos hn0]
      exact ⟨_, rfl, by rw [e], by rw [e]; exact z0, Keep.refl _ _⟩
  · refine V_bipush (v := -2) dX9_frame_7 (by decide) ?_
    refine V_iret rfl dX9_frame_9 (Nat.le_of_ble_eq_true rfl) (Nat.le_of_ble_eq_true rfl) ?_
    exact ⟨_, rfl, by unfold oFrame; rw [if_neg (fun (q : isC x) => b01_0 c4 ⟨q.1, by have := q.2; omega⟩)], by unfold oFrame; rw [if_neg (fun (q : isC x) => b01_0 c4 ⟨q.1, by have := q.2; omega⟩)]; exact z0, Keep.refl _ _⟩

set_option maxRecDepth 100000 in
theorem c_X9_at (z : St) (x y v : Int32) (w : Wd) (z0 : RM z w) : Cc yX9_at mX9_at [.ref 400, .int x, .int y, .int v] w (fun r w' => r = some (.int (oAt z x y v)) ∧ w' = w) := by
  refine Cc.of (by decide) rfl rfl (Nat.le_of_ble_eq_true rfl) (fun X => ?_)
  change V _ X _ 0 [(0, _), (1, _), (2, _), (3, _)] [] _ (0, 0)
  first | refine V_aload_n dX9_at_0 rfl rfl ?_ | refine V_aload_nN dX9_at_0 rfl rfl ?_
  refine V_iload_n dX9_at_1 rfl rfl ?_
  refine V_iload_n dX9_at_2 rfl rfl ?_
  refine V_callV (As := [_, _]) (st := _) (c_X9_isFrame (kN (zK z)) (zQ z) x y w z0.2.1) kX9_184 (by exact z0.1.1.k _ rfl rfl) ⟨rfl, rfl, rfl⟩ ⟨(Nat.le_of_ble_eq_true rfl), (Nat.le_of_ble_eq_true rfl)⟩ dX9_at_3 rfl rfl (Nat.le_of_ble_eq_true rfl) ⟨(Nat.le_of_ble_eq_true rfl), (Nat.le_of_ble_eq_true rfl)⟩ ?_
  refine V_if_eq (tgt := 32) dX9_at_6 (by decide) (fun c6 => ?_) (fun c6 => ?_)
  · refine V_bipush (v := -2) dX9_at_32 (by decide) ?_
    refine V_iret rfl dX9_at_34 (Nat.le_of_ble_eq_true rfl) (Nat.le_of_ble_eq_true rfl) ?_
    refine ok2i ?_
    unfold oAt
    first
      | rw [if_pos ⟨b01_1 c6, b01_1 c14⟩, bN_nI (by omega), bN_nI (by omega), bN_nI (by omega)]
      | rw [if_neg (fun q => b01_0 c14 q.2)]
      | rw [if_neg (fun q => b01_0 c6 q.1)]
  · first | refine V_aload_n dX9_at_9 rfl rfl ?_ | refine V_aload_nN dX9_at_9 rfl rfl ?_
    refine V_iload_n dX9_at_10 rfl rfl ?_
    refine V_callV (As := [_]) (st := _) (c_X9_isBone (zK z) v w z0.1) kX9_132 (by exact z0.1.1.k _ rfl rfl) ⟨rfl, rfl, rfl⟩ ⟨(Nat.le_of_ble_eq_true rfl), (Nat.le_of_ble_eq_true rfl)⟩ dX9_at_11 rfl rfl (Nat.le_of_ble_eq_true rfl) ⟨(Nat.le_of_ble_eq_true rfl), (Nat.le_of_ble_eq_true rfl)⟩ ?_
    refine V_if_eq (tgt := 32) dX9_at_14 (by decide) (fun c14 => ?_) (fun c14 => ?_)
    · refine V_bipush (v := -2) dX9_at_32 (by decide) ?_
      refine V_iret rfl dX9_at_34 (Nat.le_of_ble_eq_true rfl) (Nat.le_of_ble_eq_true rfl) ?_
      refine ok2i ?_
      unfold oAt
      first
        | rw [if_pos ⟨b01_1 c6, b01_1 c14⟩, bN_nI (by omega), bN_nI (by omega), bN_nI (by omega)]
        | rw [if_neg (fun q => b01_0 c14 q.2)]
        | rw [if_neg (fun q => b01_0 c6 q.1)]
    · obtain ⟨c, f, hc, hf, rfl, rfl⟩ := isFr_s z0 (b01_1 c6)
      obtain ⟨b, hb, rfl⟩ := isB_s z0 (b01_1 c14)
      have h30 := z0.2.1.le hc
      have h10 := z0.1.n10
      first | refine V_aload_n dX9_at_17 rfl rfl ?_ | refine V_aload_nN dX9_at_17 rfl rfl ?_
      first | refine V_getr (by exact z0.1.1.k _ rfl rfl) fX9_54 dX9_at_18 (by exact (z0.1.1.r 19 rfl (by decide) : _ = some 420)) ?_ | refine V_getrN (by exact z0.1.1.k _ rfl rfl) fX9_54 dX9_at_18 (by exact (z0.1.1.r 19 rfl (by decide) : _ = some 420)) ?_
      refine V_iload_n dX9_at_21 rfl rfl ?_
      refine V_iload_n dX9_at_22 rfl rfl ?_
      refine V_callS (As := [_, _]) (st := _) (c_X9_spot _ _ _) kX9_181 ⟨rfl, rfl, rfl⟩ ⟨(Nat.le_of_ble_eq_true rfl), (Nat.le_of_ble_eq_true rfl)⟩ dX9_at_23 rfl rfl (Nat.le_of_ble_eq_true rfl) ⟨(Nat.le_of_ble_eq_true rfl), (Nat.le_of_ble_eq_true rfl)⟩ ?_
      refine V_iload_n dX9_at_26 rfl rfl ?_
      refine V_iadd dX9_at_27 ?_
      rw [spot_N, nI_add]
      refine G_iald (j := 300 * c + 10 * f + b) (by exact z0.1.1.k _ rfl rfl) (by rfl) (by exact z0.1.1.lt 420 (m := 1800) rfl rfl (by decide) rfl (by omega)) (by exact z0.1.1.nlt 420 rfl rfl (by decide)) dX9_at_28 (by exact (z0.2.1.fr hc hf hb).1) ?_
      refine V_goto (tgt := 34) dX9_at_29 (by decide) ?_
      refine V_iret rfl dX9_at_34 (Nat.le_of_ble_eq_true rfl) (Nat.le_of_ble_eq_true rfl) ?_
      refine ok2i ?_
      unfold oAt
      first
        | rw [if_pos ⟨b01_1 c6, b01_1 c14⟩, bN_nI (by omega), bN_nI (by omega), bN_nI (by omega)]
        | rw [if_neg (fun q => b01_0 c14 q.2)]
        | rw [if_neg (fun q => b01_0 c6 q.1)]

theorem bl_rng {t u v : Nat} (ht : t < 36) (hu : u < 36) (hv : v ≤ 100) : -2000 ≤ shortN t u * v ∧ shortN t u * v ≤ 2000 := by
  have hr := shortN_rng ht hu
  have h1 : (shortN t u * v).natAbs ≤ 18 * 100 := mul_abs (by omega) (by omega)
  omega

set_option maxRecDepth 100000 in
theorem c_X9_blended (k : Sk) (b t u v : Nat) (w : Wd) (h : MSk k w) (hb : b < kN k) (ht : t < 36) (hu : u < 36) (hv : v ≤ 100) : Cc yX9_blended mX9_blended [.ref 400, .int (nI b), .int (nI t), .int (nI u), .int (nI v)] w (fun r w' => r = some (.int (nI (blendN (kLow k b) (kSpr k b) t u v))) ∧ w' = w) := by
  refine Cc.of (by decide) rfl rfl (Nat.le_of_ble_eq_true rfl) (fun X => ?_)
  change V _ X _ 0 [(0, _), (1, _), (2, _), (3, _), (4, _)] [] _ (0, 0)
  first | refine V_aload_n dX9_blended_0 rfl rfl ?_ | refine V_aload_nN dX9_blended_0 rfl rfl ?_
  refine V_iload_n dX9_blended_1 rfl rfl ?_
  refine V_iload_n dX9_blended_2 rfl rfl ?_
  refine V_iload_n dX9_blended_3 rfl rfl ?_
  refine V_iload_n dX9_blended_4 rfl rfl ?_
  refine V_callS (As := [_, _]) (st := _) (c_X9_shortWay _ _ _) kX9_104 ⟨rfl, rfl, rfl⟩ ⟨(Nat.le_of_ble_eq_true rfl), (Nat.le_of_ble_eq_true rfl)⟩ dX9_blended_5 rfl rfl (Nat.le_of_ble_eq_true rfl) ⟨(Nat.le_of_ble_eq_true rfl), (Nat.le_of_ble_eq_true rfl)⟩ ?_
  rw [mShort_N ht hu]
  refine V_iload dX9_blended_8 rfl ?_
  refine V_imul dX9_blended_10 ?_
  refine V_bipush (v := 100) dX9_blended_11 (by decide) ?_
  refine V_idiv dX9_blended_13 (by decide) ?_
  refine V_iadd dX9_blended_14 ?_
  have hr := shortN_rng ht hu
  have hB := tdiv_rng (z := shortN t u * v) (bl_rng ht hu hv).1 (bl_rng ht hu hv).2
  refine V_callS (As := [_]) (st := _) (c_X9_round _ _) kX9_96 ⟨rfl, rfl, rfl⟩ ⟨(Nat.le_of_ble_eq_true rfl), (Nat.le_of_ble_eq_true rfl)⟩ dX9_blended_15 rfl rfl (Nat.le_of_ble_eq_true rfl) ⟨(Nat.le_of_ble_eq_true rfl), (Nat.le_of_ble_eq_true rfl)⟩ ?_
  rw [bl_num ht hu hv, rN_add ht (by have := hB.1; omega) (by have := hB.2; omega)]
  refine V_callV (As := [_, _]) (st := _) (c_X9_intoLimits k b (addN t ((shortN t u * v).tdiv 100)) w h hb (addN_lt _ _)) kX9_187 (by exact h.1.k _ rfl rfl) ⟨rfl, rfl, rfl⟩ ⟨(Nat.le_of_ble_eq_true rfl), (Nat.le_of_ble_eq_true rfl)⟩ dX9_blended_18 rfl rfl (Nat.le_of_ble_eq_true rfl) ⟨(Nat.le_of_ble_eq_true rfl), (Nat.le_of_ble_eq_true rfl)⟩ ?_
  refine V_iret rfl dX9_blended_21 (Nat.le_of_ble_eq_true rfl) (Nat.le_of_ble_eq_true rfl) ?_
  exact ⟨rfl, rfl⟩
