/-! Clips -/
/-- the clips: how many frames, the turns -/
abbrev Cp : Type := (Nat → Nat) × (Nat → Nat → Nat → Nat)
def sumN (f : Nat → Nat) : Nat → Nat
  | 0 => 0
  | n + 1 => sumN f n + f n
theorem sumN_le {f : Nat → Nat} {m : Nat} : ∀ n, (∀ i, i < n → f i ≤ m) → sumN f n ≤ n * m
  | 0, _ => by simp [sumN]
  | n + 1, h => by
    have := sumN_le (f := f) (m := m) n (fun i hi => h i (by omega))
    have := h n (by omega)
    rw [sumN, Nat.succ_mul]
    omega
theorem sumN_mono {f : Nat → Nat} : ∀ {a b : Nat}, a ≤ b → sumN f a ≤ sumN f b
  | a, 0, h => by obtain rfl : a = 0 := by omega
                  exact Nat.le_refl _
  | a, b + 1, h => by
    by_cases e : a = b + 1
    · rw [e]; exact Nat.le_refl _
    · have := sumN_mono (f := f) (a := a) (b := b) (by omega)
      rw [sumN]; omega
theorem sumN_congr {f g : Nat → Nat} : ∀ n, (∀ i, i < n → f i = g i) → sumN f n = sumN g n
  | 0, _ => rfl
  | n + 1, h => by rw [sumN, sumN, sumN_congr n (fun i hi => h i (by omega)), h n (by omega)]
def RCp (nb : Nat) (q : Cp) (I : Nat → Nat → Int32) : Prop := (∀ c, c < 6 → I (40 + c) 1 = nI (q.1 c) ∧ q.1 c ≤ 30 ∧ ∀ f, f < q.1 c → ∀ b, b < nb → I (100 + (30 * c + f)) b = nI (q.2 c f b) ∧ q.2 c f b < 36) ∧ (0 < sumN q.1 6 → I 22 1 = nI nb)
abbrev cpA (a : Nat) : Prop := a = 22 ∨ (40 ≤ a ∧ a < 46) ∨ (100 ≤ a ∧ a < 280)
def CpX (nb : Nat) (q : Cp) (w : Wd) : Prop := LayX w ∧ nb ≤ 10 ∧ RCp nb q (wI w)
theorem CpX.sz {nb : Nat} {q : Cp} {w : Wd} (h : CpX nb q w) {c : Nat} (hc : c < 6) : wI w (40 + c) 1 = nI (q.1 c) := (h.2.2.1 c hc).1
theorem CpX.le {nb : Nat} {q : Cp} {w : Wd} (h : CpX nb q w) {c : Nat} (hc : c < 6) : q.1 c ≤ 30 := (h.2.2.1 c hc).2.1
theorem CpX.fr {nb : Nat} {q : Cp} {w : Wd} (h : CpX nb q w) {c f b : Nat} (hc : c < 6) (hf : f < q.1 c) (hb : b < nb) : wI w (100 + (30 * c + f)) b = nI (q.2 c f b) ∧ q.2 c f b < 36 := (h.2.2.1 c hc).2.2 f hf b hb
theorem CpX.keep {nb : Nat} {q : Cp} {S : Nat → Prop} {w w' : Wd} (h : CpX nb q w) (g : Keep S w w') (hS : ∀ a, S a → ¬ cpA a) : CpX nb q w' := by
  refine ⟨h.1.keep g, h.2.1, fun c hc => ?_, fun ht => ?_⟩
  · obtain ⟨h1, h2, h3⟩ := h.2.2.1 c hc
    refine ⟨?_, h2, fun f hf b hb => ?_⟩
    · rw [g.I (a := 40 + c) (fun q => hS _ q (by unfold cpA; omega))]; exact h1
    · rw [g.I (a := 100 + (30 * c + f)) (fun q => hS _ q (by unfold cpA; omega))]; exact h3 f hf b hb
  · rw [g.I (a := 22) (fun q => hS _ q (by unfold cpA; omega))]; exact h.2.2.2 ht
theorem CpX.pos {nb : Nat} {q : Cp} {w : Wd} (h : CpX nb q w) {c f : Nat} (hc : c < 6) (hf : f < q.1 c) : wI w 22 1 = nI nb := by
  refine h.2.2.2 ?_
  have h1 : sumN q.1 (c + 1) ≤ sumN q.1 6 := sumN_mono (by omega)
  rw [sumN] at h1
  omega
/-- a number that is below n and not below 0 -/
theorem ix {x : Int32} {n : Nat} (hn : n < 2147483648) (h0 : ¬ x < 0) (h1 : ¬ nI n ≤ x) : ∃ j, j < n ∧ x = nI j := by
  rcases pk_ix x (n := n) (by omega) with h | h | h
  · exact absurd h h0
  · exact absurd h h1
  · exact h
/-- there is such a frame -/
def isF (q : Cp) (x y : Int32) : Prop := ∃ c f, x = nI c ∧ y = nI f ∧ c < 6 ∧ f < q.1 c

set_option maxRecDepth 100000 in
theorem c_X2_find_s (c : Nat) (w : Wd) (h : LayX w) (hc : c < 6) : Cc yX2_find mX2_find [.ref 22, .int (nI c)] w (fun r w' => r = some (.ref (40 + c)) ∧ w' = w) := by
  refine Cc.of (by decide) rfl rfl (Nat.le_of_ble_eq_true rfl) (fun X => ?_)
  change V _ X _ 0 [(0, _), (1, _)] [] _ (0, 0)
  refine V_iload_n dX2_find_0 rfl rfl ?_
  refine V_i2l dX2_find_1 ?_
  refine V_lconst (v := 0) dX2_find_2 (by decide) ?_
  refine V_ldc2 ctX2_18 dX2_find_3 ?_
  refine V_callSN (As := [_, _, _]) (st := _) (c_X8_isIn _ _ _ _) kX2_20 ⟨rfl, rfl, rfl⟩ ⟨(Nat.le_of_ble_eq_true rfl), (Nat.le_of_ble_eq_true rfl)⟩ dX2_find_6 rfl rfl (Nat.le_of_ble_eq_true rfl) ⟨(Nat.le_of_ble_eq_true rfl), (Nat.le_of_ble_eq_true rfl)⟩ ?_
  refine V_if_eq (tgt := 21) dX2_find_9 (by decide) (fun c9 => False.elim (by exact b01_0 c9 (by unfold inL; rw [Int32.toInt_toInt64, nI_toInt (by omega)]; show (0 : Int) ≤ c ∧ (c : Int) ≤ 5; omega))) (fun c9 => ?_)
  first | refine V_aload_n dX2_find_12 rfl rfl ?_ | refine V_aload_nN dX2_find_12 rfl rfl ?_
  first | refine V_getr (by exact h.k _ rfl rfl) fX2_11 dX2_find_13 (by first | exact h.r _ _ rfl | exact h.rc hc) ?_ | refine V_getrN (by exact h.k _ rfl rfl) fX2_11 dX2_find_13 (by first | exact h.r _ _ rfl | exact h.rc hc) ?_
  refine V_iload_n dX2_find_16 rfl rfl ?_
  refine G_aald15 (j := c) (by exact h.k _ rfl rfl) (by rfl) (by rw [h.n 27 rfl rfl]; exact hc) (by rw [h.n 27 rfl rfl]; decide) (by first | exact h.r _ _ rfl | exact h.rc hc) dX2_find_17 ?_
  refine V_goto (tgt := 22) dX2_find_18 (by decide) ?_
  refine V_aret rfl (Or.inl ⟨_, rfl⟩) dX2_find_22 (Nat.le_of_ble_eq_true rfl) (Nat.le_of_ble_eq_true rfl) (by first | exact Or.inr ⟨_, rfl⟩ | exact Or.inl rfl) ?_
  exact ⟨rfl, rfl⟩

set_option maxRecDepth 100000 in
theorem c_X2_find_n (x : Int32) (w : Wd) (h : LayX w) (hx : ¬ (0 ≤ x.toInt ∧ x.toInt < 6)) : Cc yX2_find mX2_find [.ref 22, .int x] w (fun r w' => r = some .null ∧ w' = w) := by
  refine Cc.of (by decide) rfl rfl (Nat.le_of_ble_eq_true rfl) (fun X => ?_)
  change V _ X _ 0 [(0, _), (1, _)] [] _ (0, 0)
  refine V_iload_n dX2_find_0 rfl rfl ?_
  refine V_i2l dX2_find_1 ?_
  refine V_lconst (v := 0) dX2_find_2 (by decide) ?_
  refine V_ldc2 ctX2_18 dX2_find_3 ?_
  refine V_callSN (As := [_, _, _]) (st := _) (c_X8_isIn _ _ _ _) kX2_20 ⟨rfl, rfl, rfl⟩ ⟨(Nat.le_of_ble_eq_true rfl), (Nat.le_of_ble_eq_true rfl)⟩ dX2_find_6 rfl rfl (Nat.le_of_ble_eq_true rfl) ⟨(Nat.le_of_ble_eq_true rfl), (Nat.le_of_ble_eq_true rfl)⟩ ?_
  refine V_if_eq (tgt := 21) dX2_find_9 (by decide) (fun c9 => ?_) (fun c9 => False.elim (by have h9 := b01_1 c9; unfold inL at h9; rw [Int32.toInt_toInt64, show (0 : Int64).toInt = 0 from rfl, show (5 : Int64).toInt = 5 from rfl] at h9; omega))
  refine V_null dX2_find_21 ?_
  refine V_aret rfl (Or.inl ⟨_, rfl⟩) dX2_find_22 (Nat.le_of_ble_eq_true rfl) (Nat.le_of_ble_eq_true rfl) (by first | exact Or.inr ⟨_, rfl⟩ | exact Or.inl rfl) ?_
  exact ⟨rfl, rfl⟩

set_option maxRecDepth 100000 in
theorem c_X2_findFrame_s (nb : Nat) (q : Cp) (c f : Nat) (w : Wd) (h : CpX nb q w) (hc : c < 6) (hf : f < q.1 c) : Cc yX2_findFrame mX2_findFrame [.ref 22, .int (nI c), .int (nI f)] w (fun r w' => r = some (.ref (100 + (30 * c + f))) ∧ w' = w) := by
  have hf30 : f < 30 := Nat.lt_of_lt_of_le hf (h.le hc)
  refine Cc.of (by decide) rfl rfl (Nat.le_of_ble_eq_true rfl) (fun X => ?_)
  change V _ X _ 0 [(0, _), (1, _), (2, _)] [] _ (0, 0)
  refine V_iload_n dX2_findFrame_0 rfl rfl ?_
  refine V_if_lt (tgt := 27) dX2_findFrame_1 (by decide) (fun c1 => False.elim (by exact nI_pos (by omega) c1)) (fun c1 => ?_)
  refine V_iload_n dX2_findFrame_4 rfl rfl ?_
  refine V_bipush (v := 6) dX2_findFrame_5 (by decide) ?_
  refine V_icmp_ge (tgt := 27) dX2_findFrame_7 (by decide) (fun c7 => False.elim (by exact nI_ge (a := c) (b := 6) (by omega) (by decide) c7)) (fun c7 => ?_)
  refine V_iload_n dX2_findFrame_10 rfl rfl ?_
  refine V_if_lt (tgt := 27) dX2_findFrame_11 (by decide) (fun c11 => False.elim (by exact nI_pos (by omega) c11)) (fun c11 => ?_)
  refine V_iload_n dX2_findFrame_14 rfl rfl ?_
  first | refine V_aload_n dX2_findFrame_15 rfl rfl ?_ | refine V_aload_nN dX2_findFrame_15 rfl rfl ?_
  first | refine V_getr (by first | exact h.1.k _ rfl rfl | exact h.1.kc hc | exact h.1.kf hc | exact h.1.kr hc hf30) fX2_11 dX2_findFrame_16 (by first | exact h.1.r _ _ rfl | exact h.1.rc hc | exact h.1.rf hc | exact h.1.rr hc hf30) ?_ | refine V_getrN (by first | exact h.1.k _ rfl rfl | exact h.1.kc hc | exact h.1.kf hc | exact h.1.kr hc hf30) fX2_11 dX2_findFrame_16 (by first | exact h.1.r _ _ rfl | exact h.1.rc hc | exact h.1.rf hc | exact h.1.rr hc hf30) ?_
  refine V_iload_n dX2_findFrame_19 rfl rfl ?_
  refine G_aald15 (j := c) (by first | exact h.1.k _ rfl rfl | exact h.1.kc hc | exact h.1.kf hc | exact h.1.kr hc hf30) (by rfl) (by rw [h.1.n 27 rfl rfl]; show c < 6; omega) (by first | (rw [h.1.n 27 rfl rfl]; decide) | (rw [h.1.nf hc]; decide) | (rw [h.1.nr hc hf30]; decide)) (by first | exact h.1.r _ _ rfl | exact h.1.rc hc | exact h.1.rf hc | exact h.1.rr hc hf30) dX2_findFrame_20 ?_
  refine G_geti (by first | exact h.1.k _ rfl rfl | exact h.1.kc hc | exact h.1.kf hc | exact h.1.kr hc hf30) fX2_24 dX2_findFrame_21 (by exact h.sz hc) ?_
  refine V_icmp_lt (tgt := 29) dX2_findFrame_24 (by decide) (fun c24 => ?_) (fun c24 => False.elim (by exact c24 (nI_lt hf (by have := h.le hc; omega))))
  first | refine V_aload_n dX2_findFrame_29 rfl rfl ?_ | refine V_aload_nN dX2_findFrame_29 rfl rfl ?_
  first | refine V_getr (by first | exact h.1.k _ rfl rfl | exact h.1.kc hc | exact h.1.kf hc | exact h.1.kr hc hf30) fX2_11 dX2_findFrame_30 (by first | exact h.1.r _ _ rfl | exact h.1.rc hc | exact h.1.rf hc | exact h.1.rr hc hf30) ?_ | refine V_getrN (by first | exact h.1.k _ rfl rfl | exact h.1.kc hc | exact h.1.kf hc | exact h.1.kr hc hf30) fX2_11 dX2_findFrame_30 (by first | exact h.1.r _ _ rfl | exact h.1.rc hc | exact h.1.rf hc | exact h.1.rr hc hf30) ?_
  refine V_iload_n dX2_findFrame_33 rfl rfl ?_
  refine G_aald15 (j := c) (by first | exact h.1.k _ rfl rfl | exact h.1.kc hc | exact h.1.kf hc | exact h.1.kr hc hf30) (by rfl) (by rw [h.1.n 27 rfl rfl]; show c < 6; omega) (by first | (rw [h.1.n 27 rfl rfl]; decide) | (rw [h.1.nf hc]; decide) | (rw [h.1.nr hc hf30]; decide)) (by first | exact h.1.r _ _ rfl | exact h.1.rc hc | exact h.1.rf hc | exact h.1.rr hc hf30) dX2_findFrame_34 ?_
  first | refine V_getr (by first | exact h.1.k _ rfl rfl | exact h.1.kc hc | exact h.1.kf hc | exact h.1.kr hc hf30) fX2_28 dX2_findFrame_35 (by first | exact h.1.r _ _ rfl | exact h.1.rc hc | exact h.1.rf hc | exact h.1.rr hc hf30) ?_ | refine V_getrN (by first | exact h.1.k _ rfl rfl | exact h.1.kc hc | exact h.1.kf hc | exact h.1.kr hc hf30) fX2_28 dX2_findFrame_35 (by first | exact h.1.r _ _ rfl | exact h.1.rc hc | exact h.1.rf hc | exact h.1.rr hc hf30) ?_
  refine V_iload_n dX2_findFrame_38 rfl rfl ?_
  refine G_aald17 (j := f) (by first | exact h.1.k _ rfl rfl | exact h.1.kc hc | exact h.1.kf hc | exact h.1.kr hc hf30) (by rfl) (by rw [h.1.nf hc]; exact hf30) (by first | (rw [h.1.n 27 rfl rfl]; decide) | (rw [h.1.nf hc]; decide) | (rw [h.1.nr hc hf30]; decide)) (by first | exact h.1.r _ _ rfl | exact h.1.rc hc | exact h.1.rf hc | exact h.1.rr hc hf30) dX2_findFrame_39 ?_
  refine V_aret rfl (Or.inr ⟨_, rfl⟩) dX2_findFrame_40 (Nat.le_of_ble_eq_true rfl) (Nat.le_of_ble_eq_true rfl) (by first | exact Or.inr ⟨_, rfl⟩ | exact Or.inl rfl) ?_
  exact ⟨rfl, rfl⟩

set_option maxRecDepth 100000 in
theorem c_X2_findFrame_n (nb : Nat) (q : Cp) (x y : Int32) (w : Wd) (h : CpX nb q w) (hx : ¬ isF q x y) : Cc yX2_findFrame mX2_findFrame [.ref 22, .int x, .int y] w (fun r w' => r = some .null ∧ w' = w) := by
  refine Cc.of (by decide) rfl rfl (Nat.le_of_ble_eq_true rfl) (fun X => ?_)
  change V _ X _ 0 [(0, _), (1, _), (2, _)] [] _ (0, 0)
  refine V_iload_n dX2_findFrame_0 rfl rfl ?_
  refine V_if_lt (tgt := 27) dX2_findFrame_1 (by decide) (fun c1 => ?_) (fun c1 => ?_)
  · refine V_null dX2_findFrame_27 ?_
    refine V_aret rfl (Or.inr ⟨_, rfl⟩) dX2_findFrame_28 (Nat.le_of_ble_eq_true rfl) (Nat.le_of_ble_eq_true rfl) (by first | exact Or.inr ⟨_, rfl⟩ | exact Or.inl rfl) ?_
    exact ⟨rfl, rfl⟩
  · refine V_iload_n dX2_findFrame_4 rfl rfl ?_
    refine V_bipush (v := 6) dX2_findFrame_5 (by decide) ?_
    refine V_icmp_ge (tgt := 27) dX2_findFrame_7 (by decide) (fun c7 => ?_) (fun c7 => ?_)
    · refine V_null dX2_findFrame_27 ?_
      refine V_aret rfl (Or.inr ⟨_, rfl⟩) dX2_findFrame_28 (Nat.le_of_ble_eq_true rfl) (Nat.le_of_ble_eq_true rfl) (by first | exact Or.inr ⟨_, rfl⟩ | exact Or.inl rfl) ?_
      exact ⟨rfl, rfl⟩
    · refine V_iload_n dX2_findFrame_10 rfl rfl ?_
      refine V_if_lt (tgt := 27) dX2_findFrame_11 (by decide) (fun c11 => ?_) (fun c11 => ?_)
      · refine V_null dX2_findFrame_27 ?_
        refine V_aret rfl (Or.inr ⟨_, rfl⟩) dX2_findFrame_28 (Nat.le_of_ble_eq_true rfl) (Nat.le_of_ble_eq_true rfl) (by first | exact Or.inr ⟨_, rfl⟩ | exact Or.inl rfl) ?_
        exact ⟨rfl, rfl⟩
      · obtain ⟨c, hc, rfl⟩ := ix (n := 6) (by decide) c1 c7
        refine V_iload_n dX2_findFrame_14 rfl rfl ?_
        first | refine V_aload_n dX2_findFrame_15 rfl rfl ?_ | refine V_aload_nN dX2_findFrame_15 rfl rfl ?_
        first | refine V_getr (by first | exact h.1.k _ rfl rfl | exact h.1.kc hc | exact h.1.kf hc | exact h.1.kr hc hf30) fX2_11 dX2_findFrame_16 (by first | exact h.1.r _ _ rfl | exact h.1.rc hc | exact h.1.rf hc | exact h.1.rr hc hf30) ?_ | refine V_getrN (by first | exact h.1.k _ rfl rfl | exact h.1.kc hc | exact h.1.kf hc | exact h.1.kr hc hf30) fX2_11 dX2_findFrame_16 (by first | exact h.1.r _ _ rfl | exact h.1.rc hc | exact h.1.rf hc | exact h.1.rr hc hf30) ?_
        refine V_iload_n dX2_findFrame_19 rfl rfl ?_
        refine G_aald15 (j := c) (by first | exact h.1.k _ rfl rfl | exact h.1.kc hc | exact h.1.kf hc | exact h.1.kr hc hf30) (by rfl) (by rw [h.1.n 27 rfl rfl]; show c < 6; omega) (by first | (rw [h.1.n 27 rfl rfl]; decide) | (rw [h.1.nf hc]; decide) | (rw [h.1.nr hc hf30]; decide)) (by first | exact h.1.r _ _ rfl | exact h.1.rc hc | exact h.1.rf hc | exact h.1.rr hc hf30) dX2_findFrame_20 ?_
        refine G_geti (by first | exact h.1.k _ rfl rfl | exact h.1.kc hc | exact h.1.kf hc | exact h.1.kr hc hf30) fX2_24 dX2_findFrame_21 (by exact h.sz hc) ?_
        refine V_icmp_lt (tgt := 29) dX2_findFrame_24 (by decide) (fun c24 => False.elim (by have := h.le hc; obtain ⟨f, hf, rfl⟩ := ix (n := q.1 c) (by omega) c11 (Int32.not_le.mpr c24); exact hx ⟨c, f, rfl, rfl, hc, hf⟩)) (fun c24 => ?_)
        refine V_null dX2_findFrame_27 ?_
        refine V_aret rfl (Or.inr ⟨_, rfl⟩) dX2_findFrame_28 (Nat.le_of_ble_eq_true rfl) (Nat.le_of_ble_eq_true rfl) (by first | exact Or.inr ⟨_, rfl⟩ | exact Or.inl rfl) ?_
        exact ⟨rfl, rfl⟩

set_option maxRecDepth 100000 in
theorem c_X2_findSlot_s (nb : Nat) (q : Cp) (s : Nat) (w : Wd) (h : CpX nb q w) (hs : s < 180) (hf : s % 30 < q.1 (s / 30)) : Cc yX2_findSlot mX2_findSlot [.ref 22, .int (nI s)] w (fun r w' => r = some (.ref (100 + s)) ∧ w' = w) := by
  refine Cc.of (by decide) rfl rfl (Nat.le_of_ble_eq_true rfl) (fun X => ?_)
  change V _ X _ 0 [(0, _), (1, _)] [] _ (0, 0)
  first | refine V_aload_n dX2_findSlot_0 rfl rfl ?_ | refine V_aload_nN dX2_findSlot_0 rfl rfl ?_
  refine V_iload_n dX2_findSlot_1 rfl rfl ?_
  refine V_bipush (v := 30) dX2_findSlot_2 (by decide) ?_
  refine V_idiv dX2_findSlot_4 (by decide) ?_
  refine V_iload_n dX2_findSlot_5 rfl rfl ?_
  refine V_bipush (v := 30) dX2_findSlot_6 (by decide) ?_
  refine V_irem dX2_findSlot_8 (by decide) ?_
  rw [show (30 : Int32) = nI 30 from rfl, pk_rem (by omega) (by decide) (by decide), pk_div (by omega) (by decide) (by decide)]
  refine V_callV (As := [_, _]) (st := _) (c_X2_findFrame_s nb q (s / 30) (s % 30) w h (by omega) hf) kX2_32 (by first | exact h.1.k _ rfl rfl | exact h.1.kc hc | exact h.1.kf hc | exact h.1.kr hc hf30) ⟨rfl, rfl, rfl⟩ ⟨(Nat.le_of_ble_eq_true rfl), (Nat.le_of_ble_eq_true rfl)⟩ dX2_findSlot_9 rfl rfl (Nat.le_of_ble_eq_true rfl) ⟨(Nat.le_of_ble_eq_true rfl), (Nat.le_of_ble_eq_true rfl)⟩ ?_
  refine V_aret rfl (Or.inr ⟨_, rfl⟩) dX2_findSlot_12 (Nat.le_of_ble_eq_true rfl) (Nat.le_of_ble_eq_true rfl) (by first | exact Or.inr ⟨_, rfl⟩ | exact Or.inl rfl) ?_
  exact ⟨by rw [Nat.div_add_mod], rfl⟩

set_option maxRecDepth 100000 in
theorem c_X2_findSlot_n (nb : Nat) (q : Cp) (s : Nat) (w : Wd) (h : CpX nb q w) (hs : s < 180) (hf : ¬ s % 30 < q.1 (s / 30)) : Cc yX2_findSlot mX2_findSlot [.ref 22, .int (nI s)] w (fun r w' => r = some .null ∧ w' = w) := by
  refine Cc.of (by decide) rfl rfl (Nat.le_of_ble_eq_true rfl) (fun X => ?_)
  change V _ X _ 0 [(0, _), (1, _)] [] _ (0, 0)
  first | refine V_aload_n dX2_findSlot_0 rfl rfl ?_ | refine V_aload_nN dX2_findSlot_0 rfl rfl ?_
  refine V_iload_n dX2_findSlot_1 rfl rfl ?_
  refine V_bipush (v := 30) dX2_findSlot_2 (by decide) ?_
  refine V_idiv dX2_findSlot_4 (by decide) ?_
  refine V_iload_n dX2_findSlot_5 rfl rfl ?_
  refine V_bipush (v := 30) dX2_findSlot_6 (by decide) ?_
  refine V_irem dX2_findSlot_8 (by decide) ?_
  rw [show (30 : Int32) = nI 30 from rfl, pk_rem (by omega) (by decide) (by decide), pk_div (by omega) (by decide) (by decide)]
  refine V_callV (As := [_, _]) (st := _) (c_X2_findFrame_n nb q _ _ w h (fun z => by obtain ⟨c, f, e1, e2, hc, hf2⟩ := z; have := h.le hc; rw [nI_eq (by omega) (by omega)] at e1 e2; subst e1; subst e2; exact hf hf2)) kX2_32 (by first | exact h.1.k _ rfl rfl | exact h.1.kc hc | exact h.1.kf hc | exact h.1.kr hc hf30) ⟨rfl, rfl, rfl⟩ ⟨(Nat.le_of_ble_eq_true rfl), (Nat.le_of_ble_eq_true rfl)⟩ dX2_findSlot_9 rfl rfl (Nat.le_of_ble_eq_true rfl) ⟨(Nat.le_of_ble_eq_true rfl), (Nat.le_of_ble_eq_true rfl)⟩ ?_
  refine V_aret rfl (Or.inr ⟨_, rfl⟩) dX2_findSlot_12 (Nat.le_of_ble_eq_true rfl) (Nat.le_of_ble_eq_true rfl) (by first | exact Or.inr ⟨_, rfl⟩ | exact Or.inl rfl) ?_
  exact ⟨rfl, rfl⟩

set_option maxRecDepth 100000 in
theorem c_X2_total (nb : Nat) (q : Cp) (w : Wd) (h : CpX nb q w) : Cc yX2_total mX2_total [.ref 22] w (fun r w' => r = some (.int (nI (sumN q.1 6))) ∧ w' = w) := by
  refine Cc.of (by decide) rfl rfl (Nat.le_of_ble_eq_true rfl) (fun X => ?_)
  change V _ X _ 0 [(0, _)] [] _ (0, 0)
  have loop : ∀ (d c : Nat), c + d = 6 → V mX2_total X (mq mX2_total X (fun r w' => r = some (.int (nI (sumN q.1 6))) ∧ w' = w)) 4 [(0, .ref 22), (1, .int (nI (sumN q.1 c))), (2, .int (nI c))] [] w (0, 0) := by
    intro d
    induction d with
    | zero =>
      intro c hd
      obtain rfl : c = 6 := hd
      refine V_iload_n dX2_total_4 rfl rfl ?_
      refine V_bipush (v := 6) dX2_total_5 (by decide) ?_
      refine V_icmp_ge (tgt := 28) dX2_total_7 (by decide) (fun c7 => ?_) (fun c7 => False.elim (by exact c7 (by decide)))
      refine V_iload_n dX2_total_28 rfl rfl ?_
      refine V_iret rfl dX2_total_29 (Nat.le_of_ble_eq_true rfl) (Nat.le_of_ble_eq_true rfl) ?_
      exact ⟨rfl, rfl⟩
    | succ d ih =>
      intro c hd
      have hc : c < 6 := by omega
      refine V_iload_n dX2_total_4 rfl rfl ?_
      refine V_bipush (v := 6) dX2_total_5 (by decide) ?_
      refine V_icmp_ge (tgt := 28) dX2_total_7 (by decide) (fun c7 => False.elim (by exact nI_ge (a := c) (b := 6) (by omega) (by decide) c7)) (fun c7 => ?_)
      refine V_iload_n dX2_total_10 rfl rfl ?_
      first | refine V_aload_n dX2_total_11 rfl rfl ?_ | refine V_aload_nN dX2_total_11 rfl rfl ?_
      first | refine V_getr (by first | exact h.1.k _ rfl rfl | exact h.1.kc hc | exact h.1.kf hc | exact h.1.kr hc hf30) fX2_11 dX2_total_12 (by first | exact h.1.r _ _ rfl | exact h.1.rc hc | exact h.1.rf hc | exact h.1.rr hc hf30) ?_ | refine V_getrN (by first | exact h.1.k _ rfl rfl | exact h.1.kc hc | exact h.1.kf hc | exact h.1.kr hc hf30) fX2_11 dX2_total_12 (by first | exact h.1.r _ _ rfl | exact h.1.rc hc | exact h.1.rf hc | exact h.1.rr hc hf30) ?_
      refine V_iload_n dX2_total_15 rfl rfl ?_
      refine G_aald15 (j := c) (by first | exact h.1.k _ rfl rfl | exact h.1.kc hc | exact h.1.kf hc | exact h.1.kr hc hf30) (by rfl) (by rw [h.1.n 27 rfl rfl]; show c < 6; omega) (by first | (rw [h.1.n 27 rfl rfl]; decide) | (rw [h.1.nf hc]; decide) | (rw [h.1.nr hc hf30]; decide)) (by first | exact h.1.r _ _ rfl | exact h.1.rc hc | exact h.1.rf hc | exact h.1.rr hc hf30) dX2_total_16 ?_
      refine G_geti (by first | exact h.1.k _ rfl rfl | exact h.1.kc hc | exact h.1.kf hc | exact h.1.kr hc hf30) fX2_24 dX2_total_17 (by exact h.sz hc) ?_
      refine V_iadd dX2_total_20 ?_
      rw [nI_add]
      refine S_istore_n (L' := [(0, _), (1, _), (2, _)]) dX2_total_21 rfl rfl rfl ?_
      refine S_iinc (L' := [(0, _), (1, _), (2, _)]) dX2_total_22 rfl rfl rfl rfl ?_
      rw [nI_inc]
      refine V_goto (tgt := 4) dX2_total_25 (by decide) ?_
      exact ih (c + 1) (by omega)
  refine V_iconst (v := 0) dX2_total_0 (by decide) ?_
  refine S_istore_n (L' := [(0, _), (1, _)]) dX2_total_1 rfl rfl rfl ?_
  refine V_iconst (v := 0) dX2_total_2 (by decide) ?_
  refine S_istore_n (L' := [(0, _), (1, _), (2, _)]) dX2_total_3 rfl rfl rfl ?_
  exact loop 6 0 rfl

def likN (g1 g2 : Nat → Nat) (n : Nat) : Nat := sumN (fun b => distN (g1 b) (g2 b)) n
theorem distN_le (a b : Nat) : distN a b ≤ 18 := by unfold distN; simp only; split <;> omega
theorem likN_le (g1 g2 : Nat → Nat) (n : Nat) : likN g1 g2 n ≤ n * 18 := sumN_le n (fun i _ => distN_le _ _)

set_option maxRecDepth 100000 in
theorem c_X2_likeness (nb : Nat) (g1 g2 : Nat → Nat) (n1 n2 : Nat) (e : Int32) (w : Wd) (h : LayX w) (h10 : nb ≤ 10) (hw : wI w 22 1 = nI nb) (hk1 : wK w n1 = 11) (hn1 : wN w n1 = 10) (hg1 : ∀ b, b < nb → wI w n1 b = nI (g1 b) ∧ g1 b < 36) (hk2 : wK w n2 = 11) (hn2 : wN w n2 = 10) (hg2 : ∀ b, b < nb → wI w n2 b = nI (g2 b) ∧ g2 b < 36) : Cc yX2_likeness mX2_likeness [.ref 22, .ref n1, .ref n2, .int e] w (fun r w' => ∃ v, r = some v ∧ (w' = w ∧ ∃ m : Nat, v = .int (nI m) ∧ m ≤ likN g1 g2 nb ∧ (nI m ≤ e → m = likN g1 g2 nb))) := by
  refine Cc.of (by decide) rfl rfl (Nat.le_of_ble_eq_true rfl) (fun X => ?_)
  change V _ X _ 0 [(0, _), (1, _), (2, _), (3, _)] [] _ (0, 0)
  have loop : ∀ (d b : Nat), b + d = nb → V mX2_likeness X (mq mX2_likeness X (fun r w' => ∃ v, r = some v ∧ (w' = w ∧ ∃ m : Nat, v = .int (nI m) ∧ m ≤ likN g1 g2 nb ∧ (nI m ≤ e → m = likN g1 g2 nb)))) 6 [(0, .ref 22), (1, .ref n1), (2, .ref n2), (3, .int e), (4, .int (nI (likN g1 g2 b))), (5, .int (nI b))] [] w (0, 0) := by
    intro d
    induction d with
    | zero =>
      intro b hd
      obtain rfl : b = nb := hd
      refine V_iload dX2_likeness_6 rfl ?_
      first | refine V_aload_n dX2_likeness_8 rfl rfl ?_ | refine V_aload_nN dX2_likeness_8 rfl rfl ?_
      refine G_geti (by first | exact h.k _ rfl rfl | exact hk1 | exact hk2) fX2_36 dX2_likeness_9 (by exact hw) ?_
      refine V_icmp_ge (tgt := 43) dX2_likeness_12 (by decide) (fun c12 => ?_) (fun c12 => False.elim (by exact c12 (nI_le (Nat.le_refl _) (by omega))))
      refine V_iload dX2_likeness_43 rfl ?_
      refine V_iret rfl dX2_likeness_45 (Nat.le_of_ble_eq_true rfl) (Nat.le_of_ble_eq_true rfl) ?_
      exact ⟨_, rfl, rfl, _, rfl, Nat.le_refl _, fun _ => rfl⟩
    | succ d ih =>
      intro b hd
      have hb : b < nb := by omega
      refine V_iload dX2_likeness_6 rfl ?_
      first | refine V_aload_n dX2_likeness_8 rfl rfl ?_ | refine V_aload_nN dX2_likeness_8 rfl rfl ?_
      refine G_geti (by first | exact h.k _ rfl rfl | exact hk1 | exact hk2) fX2_36 dX2_likeness_9 (by exact hw) ?_
      refine V_icmp_ge (tgt := 43) dX2_likeness_12 (by decide) (fun c12 => False.elim (by exact nI_ge (a := b) (b := nb) (by omega) (by omega) c12)) (fun c12 => ?_)
      refine V_iload dX2_likeness_15 rfl ?_
      refine V_iload_n dX2_likeness_17 rfl rfl ?_
      refine V_icmp_gt (tgt := 43) dX2_likeness_18 (by decide) (fun c18 => ?_) (fun c18 => ?_)
      · refine V_iload dX2_likeness_43 rfl ?_
        refine V_iret rfl dX2_likeness_45 (Nat.le_of_ble_eq_true rfl) (Nat.le_of_ble_eq_true rfl) ?_
        exact ⟨_, rfl, rfl, _, rfl, sumN_mono (by omega), fun z => absurd c18 (by rw [Int32.not_lt]; exact z)⟩
      · refine V_iload dX2_likeness_21 rfl ?_
        first | refine V_aload_n dX2_likeness_23 rfl rfl ?_ | refine V_aload_nN dX2_likeness_23 rfl rfl ?_
        refine V_iload dX2_likeness_24 rfl ?_
        refine G_iald (j := b) (by first | exact h.k _ rfl rfl | exact hk1 | exact hk2) (by rfl) (by rw [hn1]; omega) (by first | (rw [hn1]; decide) | (rw [hn2]; decide)) dX2_likeness_26 (by exact (hg1 b hb).1) ?_
        first | refine V_aload_n dX2_likeness_27 rfl rfl ?_ | refine V_aload_nN dX2_likeness_27 rfl rfl ?_
        refine V_iload dX2_likeness_28 rfl ?_
        refine G_iald (j := b) (by first | exact h.k _ rfl rfl | exact hk1 | exact hk2) (by rfl) (by rw [hn2]; omega) (by first | (rw [hn1]; decide) | (rw [hn2]; decide)) dX2_likeness_30 (by exact (hg2 b hb).1) ?_
        refine V_callS (As := [_, _]) (st := _) (c_X7_distance _ _ _) kX2_39 ⟨rfl, rfl, rfl⟩ ⟨(Nat.le_of_ble_eq_true rfl), (Nat.le_of_ble_eq_true rfl)⟩ dX2_likeness_31 rfl rfl (Nat.le_of_ble_eq_true rfl) ⟨(Nat.le_of_ble_eq_true rfl), (Nat.le_of_ble_eq_true rfl)⟩ ?_
        rw [tDist_N (hg1 b hb).2 (hg2 b hb).2]
        refine V_iadd dX2_likeness_34 ?_
        rw [nI_add]
        refine S_istore (L' := [(0, _), (1, _), (2, _), (3, _), (4, _), (5, _)]) dX2_likeness_35 rfl rfl ?_
        refine S_iinc (L' := [(0, _), (1, _), (2, _), (3, _), (4, _), (5, _)]) dX2_likeness_37 rfl rfl rfl rfl ?_
        rw [nI_inc]
        refine V_goto (tgt := 6) dX2_likeness_40 (by decide) ?_
        exact ih (b + 1) (by omega)
  refine V_iconst (v := 0) dX2_likeness_0 (by decide) ?_
  refine S_istore (L' := [(0, _), (1, _), (2, _), (3, _), (4, _)]) dX2_likeness_1 rfl rfl ?_
  refine V_iconst (v := 0) dX2_likeness_3 (by decide) ?_
  refine S_istore (L' := [(0, _), (1, _), (2, _), (3, _), (4, _), (5, _)]) dX2_likeness_4 rfl rfl ?_
  exact loop nb 0 (by omega)
