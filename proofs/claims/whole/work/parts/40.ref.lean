/-! THE REFERENCE: what it holds of a skeleton -/
/-- the same cells; other numbers at most where SI, SJ say -/
def Kp (SI SJ : Nat → Nat → Prop) (w w' : Wd) : Prop := wK w' = wK w ∧ wN w' = wN w ∧ wR w' = wR w ∧ wL w' = wL w ∧ (∀ a j, ¬ SI a j → wI w' a j = wI w a j) ∧ ∀ a j, ¬ SJ a j → wJ w' a j = wJ w a j
theorem Kp.refl (SI SJ : Nat → Nat → Prop) (w : Wd) : Kp SI SJ w w := ⟨rfl, rfl, rfl, rfl, fun _ _ _ => rfl, fun _ _ _ => rfl⟩
theorem Kp.trans {SI SJ : Nat → Nat → Prop} {w w1 w2 : Wd} (h : Kp SI SJ w w1) (g : Kp SI SJ w1 w2) : Kp SI SJ w w2 := ⟨g.1.trans h.1, g.2.1.trans h.2.1, g.2.2.1.trans h.2.2.1, g.2.2.2.1.trans h.2.2.2.1, fun a j ha => (g.2.2.2.2.1 a j ha).trans (h.2.2.2.2.1 a j ha), fun a j ha => (g.2.2.2.2.2 a j ha).trans (h.2.2.2.2.2 a j ha)⟩
theorem Kp.mono {SI SJ SI' SJ' : Nat → Nat → Prop} {w w1 : Wd} (h : Kp SI SJ w w1) (hi : ∀ a j, SI a j → SI' a j) (hj : ∀ a j, SJ a j → SJ' a j) : Kp SI' SJ' w w1 := ⟨h.1, h.2.1, h.2.2.1, h.2.2.2.1, fun a j ha => h.2.2.2.2.1 a j (fun q => ha (hi a j q)), fun a j ha => h.2.2.2.2.2 a j (fun q => ha (hj a j q))⟩
theorem Kp.I {SI SJ : Nat → Nat → Prop} {w w1 : Wd} (h : Kp SI SJ w w1) {a j : Nat} (ha : ¬ SI a j) : wI w1 a j = wI w a j := h.2.2.2.2.1 a j ha
theorem Kp.J {SI SJ : Nat → Nat → Prop} {w w1 : Wd} (h : Kp SI SJ w w1) {a j : Nat} (ha : ¬ SJ a j) : wJ w1 a j = wJ w a j := h.2.2.2.2.2 a j ha
theorem Kp.sI {SI SJ : Nat → Nat → Prop} (w : Wd) {n k : Nat} (hn : SI n k) (x : Int32) : Kp SI SJ w (sI w n k x) := ⟨rfl, rfl, rfl, rfl, fun a j ha => if_neg (fun (q : a = n ∧ j = k) => ha (by rw [q.1, q.2]; exact hn)), fun _ _ _ => rfl⟩
theorem Kp.sJ {SI SJ : Nat → Nat → Prop} (w : Wd) {n k : Nat} (hn : SJ n k) (x : Int64) : Kp SI SJ w (sJ w n k x) := ⟨rfl, rfl, rfl, rfl, fun _ _ _ => rfl, fun a j ha => if_neg (fun (q : a = n ∧ j = k) => ha (by rw [q.1, q.2]; exact hn))⟩
theorem Kp.keep {SI SJ : Nat → Nat → Prop} {S : Nat → Prop} {w w1 : Wd} (h : Kp SI SJ w w1) (hi : ∀ a j, SI a j → S a) (hj : ∀ a j, SJ a j → S a) : Keep S w w1 := ⟨h.1, h.2.1, h.2.2.1, h.2.2.2.1, fun a ha => ⟨funext fun j => h.I (fun q => ha (hi a j q)), funext fun j => h.J (fun q => ha (hj a j q))⟩⟩
theorem LayM.kp {SI SJ : Nat → Nat → Prop} {w w' : Wd} (h : LayM w) (g : Kp SI SJ w w') : LayM w' := h.keep (g.keep (S := fun _ => True) (fun _ _ _ => trivial) (fun _ _ _ => trivial))
theorem nM_le (n : Nat) : nM n ≤ 32400 := by unfold nM; repeat' split
                                             all_goals omega
theorem LayM.lt {w : Wd} (h : LayM w) (n : Nat) {j m : Nat} (h1 : Nat.ble 401 n = true) (h2 : Nat.blt n 436 = true) (h3 : kM n ≠ 0) (hm : nM n = m) (hj : j < m) : j < wN w n := by rw [h.n n h1 h2 h3, hm]; exact hj
theorem LayM.nlt {w : Wd} (h : LayM w) (n : Nat) (h1 : Nat.ble 401 n = true) (h2 : Nat.blt n 436 = true) (h3 : kM n ≠ 0) : wN w n < 2147483648 := by rw [h.n n h1 h2 h3]; exact Nat.lt_of_le_of_lt (nM_le n) (by decide)
abbrev noA (_ _ : Nat) : Prop := False
abbrev plJ (a _ : Nat) : Prop := 413 ≤ a ∧ a < 417
abbrev msI (a j : Nat) : Prop := (a = 400 ∧ (j = 2 ∨ j = 11)) ∨ (401 ≤ a ∧ a < 403) ∨ (404 ≤ a ∧ a < 410)
abbrev msJ (a j : Nat) : Prop := a = 400 ∧ (j = 9 ∨ j = 10)
def MSk (k : Sk) (w : Wd) : Prop := LayM w ∧ Wf k ∧ (∀ t, t < 36 → wI w 401 t = cosF t ∧ wI w 402 t = sinF t) ∧ wI w 400 2 = nI (kN k) ∧ wI w 400 11 = oI (kLck k) ∧ wJ w 400 9 = kRx k ∧ wJ w 400 10 = kRy k ∧ ∀ b, b < kN k → wI w 404 b = oI (kPar k b) ∧ wI w 405 b = nI (kLen k b) ∧ wI w 406 b = nI (kLow k b) ∧ wI w 407 b = nI (kSpr k b) ∧ wI w 408 b = nI (dep k b) ∧ wI w 409 b = nI (kTrn k b)
section
variable {k : Sk} {w : Wd} (h : MSk k w)
theorem MSk.cs (h : MSk k w) {t : Nat} (ht : t < 36) : wI w 401 t = cosF t := (h.2.2.1 t ht).1
theorem MSk.ss (h : MSk k w) {t : Nat} (ht : t < 36) : wI w 402 t = sinF t := (h.2.2.1 t ht).2
theorem MSk.n (h : MSk k w) : wI w 400 2 = nI (kN k) := h.2.2.2.1
theorem MSk.lck (h : MSk k w) : wI w 400 11 = oI (kLck k) := h.2.2.2.2.1
theorem MSk.rx (h : MSk k w) : wJ w 400 9 = kRx k := h.2.2.2.2.2.1
theorem MSk.ry (h : MSk k w) : wJ w 400 10 = kRy k := h.2.2.2.2.2.2.1
theorem MSk.n10 (h : MSk k w) : kN k ≤ 10 := h.2.1.1
theorem MSk.wf (h : MSk k w) {b : Nat} (hb : b < kN k) : (∀ p, kPar k b = some p → p < b) ∧ dep k b ≤ 5 ∧ 1 ≤ kLen k b ∧ kLen k b ≤ 100 ∧ kLow k b < 36 ∧ kSpr k b < 36 ∧ kTrn k b < 36 := h.2.1.2.1 b hb
theorem MSk.par (h : MSk k w) {b : Nat} (hb : b < kN k) : wI w 404 b = oI (kPar k b) := (h.2.2.2.2.2.2.2 b hb).1
theorem MSk.len (h : MSk k w) {b : Nat} (hb : b < kN k) : wI w 405 b = nI (kLen k b) := (h.2.2.2.2.2.2.2 b hb).2.1
theorem MSk.low (h : MSk k w) {b : Nat} (hb : b < kN k) : wI w 406 b = nI (kLow k b) := (h.2.2.2.2.2.2.2 b hb).2.2.1
theorem MSk.spr (h : MSk k w) {b : Nat} (hb : b < kN k) : wI w 407 b = nI (kSpr k b) := (h.2.2.2.2.2.2.2 b hb).2.2.2.1
theorem MSk.dep (h : MSk k w) {b : Nat} (hb : b < kN k) : wI w 408 b = nI (dep k b) := (h.2.2.2.2.2.2.2 b hb).2.2.2.2.1
theorem MSk.trn (h : MSk k w) {b : Nat} (hb : b < kN k) : wI w 409 b = nI (kTrn k b) := (h.2.2.2.2.2.2.2 b hb).2.2.2.2.2
end
theorem MSk.kp {k : Sk} {SI SJ : Nat → Nat → Prop} {w w' : Wd} (h : MSk k w) (g : Kp SI SJ w w') (hI : ∀ a j, SI a j → ¬ msI a j) (hJ : ∀ a j, SJ a j → ¬ msJ a j) : MSk k w' := by
  have e : ∀ a j, msI a j → wI w' a j = wI w a j := fun a j q => g.I (fun z => hI a j z q)
  have f : ∀ a j, msJ a j → wJ w' a j = wJ w a j := fun a j q => g.J (fun z => hJ a j z q)
  refine ⟨h.1.kp g, h.2.1, fun t ht => ⟨?_, ?_⟩, ?_, ?_, ?_, ?_, fun b hb => ⟨?_, ?_, ?_, ?_, ?_, ?_⟩⟩
  · rw [e _ _ (by unfold msI; omega)]; exact h.cs ht
  · rw [e _ _ (by unfold msI; omega)]; exact h.ss ht
  · rw [e _ _ (by unfold msI; omega)]; exact h.n
  · rw [e _ _ (by unfold msI; omega)]; exact h.lck
  · rw [f _ _ (by unfold msJ; omega)]; exact h.rx
  · rw [f _ _ (by unfold msJ; omega)]; exact h.ry
  · rw [e _ _ (by unfold msI; omega)]; exact h.par hb
  · rw [e _ _ (by unfold msI; omega)]; exact h.len hb
  · rw [e _ _ (by unfold msI; omega)]; exact h.low hb
  · rw [e _ _ (by unfold msI; omega)]; exact h.spr hb
  · rw [e _ _ (by unfold msI; omega)]; exact h.dep hb
  · rw [e _ _ (by unfold msI; omega)]; exact h.trn hb
/-- the kept places of the first n bones -/
def MPos (k : Sk) (n : Nat) (w : Wd) : Prop := ∀ b, b < n → wJ w 413 b = (pos k b).1 ∧ wJ w 414 b = (pos k b).2.1 ∧ wJ w 415 b = (pos k b).2.2.1 ∧ wJ w 416 b = (pos k b).2.2.2
def pW (w : Wd) (b : Nat) (v : Q4) : Wd := sJ (sJ (sJ (sJ w 413 b v.1) 414 b v.2.1) 415 b v.2.2.1) 416 b v.2.2.2
theorem pW_1 (w : Wd) (b i : Nat) (v : Q4) : wJ (pW w b v) 413 i = if i = b then v.1 else wJ w 413 i := by
  unfold pW; rw [rdJ_nn (by decide), rdJ_nn (by decide), rdJ_nn (by decide), wJ_sJ]; simp
theorem pW_2 (w : Wd) (b i : Nat) (v : Q4) : wJ (pW w b v) 414 i = if i = b then v.2.1 else wJ w 414 i := by
  unfold pW; rw [rdJ_nn (by decide), rdJ_nn (by decide), wJ_sJ, rdJ_nn (by decide)]; simp
theorem pW_3 (w : Wd) (b i : Nat) (v : Q4) : wJ (pW w b v) 415 i = if i = b then v.2.2.1 else wJ w 415 i := by
  unfold pW; rw [rdJ_nn (by decide), wJ_sJ, rdJ_nn (by decide), rdJ_nn (by decide)]; simp
theorem pW_4 (w : Wd) (b i : Nat) (v : Q4) : wJ (pW w b v) 416 i = if i = b then v.2.2.2 else wJ w 416 i := by
  unfold pW; rw [wJ_sJ, rdJ_nn (by decide), rdJ_nn (by decide), rdJ_nn (by decide)]; simp
theorem MPos.step {k : Sk} {w : Wd} {b : Nat} {v : Q4} (h : MPos k b w) (hv : v = pos k b) : MPos k (b + 1) (pW w b v) := by
  subst hv
  intro i hi
  rw [pW_1, pW_2, pW_3, pW_4]
  by_cases e : i = b
  · subst e
    simp
  · simp only [if_neg e]
    exact h i (by omega)
theorem Kp.pW (w : Wd) (b : Nat) (v : Q4) : Kp noA plJ w (pW w b v) := (((Kp.sJ w (by unfold plJ; omega) _).trans (Kp.sJ _ (by unfold plJ; omega) _)).trans (Kp.sJ _ (by unfold plJ; omega) _)).trans (Kp.sJ _ (by unfold plJ; omega) _)
theorem nI_nm1 {p : Nat} (h : p < 2147483648) : ¬ nI p = -1 := fun q => by
  have := nI_toInt h
  rw [q] at this
  exact absurd this (by show ¬ (-1 : Int) = _; omega)
theorem MPos.kp {k : Sk} {n : Nat} {SI SJ : Nat → Nat → Prop} {w w' : Wd} (h : MPos k n w) (g : Kp SI SJ w w') (hJ : ∀ a j, SJ a j → ¬ plJ a j) : MPos k n w' := fun b hb => by
  rw [g.J (a := 413) (fun q => hJ _ _ q (by unfold plJ; omega)), g.J (a := 414) (fun q => hJ _ _ q (by unfold plJ; omega)), g.J (a := 415) (fun q => hJ _ _ q (by unfold plJ; omega)), g.J (a := 416) (fun q => hJ _ _ q (by unfold plJ; omega))]
  exact h b hb
theorem wi_N {lo t : Nat} (hl : lo < 36) (ht : t < 36) : rN (nI t - nI lo) = (t + 36 - lo) % 36 := by
  unfold rN
  rw [fb_subI (by rw [nI_toInt (by omega), nI_toInt (by omega)]; omega) (by rw [nI_toInt (by omega), nI_toInt (by omega)]; omega), nI_toInt (by omega), nI_toInt (by omega)]
  omega
theorem rN_sum {a b : Nat} (ha : a < 36) (hb : b < 36) : rN (nI a + nI b) = (a + b) % 36 := by
  unfold rN
  rw [nI_add, nI_toInt (by omega)]
  omega

theorem i64_in (x : Int32) (lo hi : Int64) {a b : Int} (h1 : lo.toInt = a) (h2 : hi.toInt = b) : inL x.toInt64 lo hi ↔ a ≤ x.toInt ∧ x.toInt ≤ b := by
  unfold inL
  rw [Int32.toInt_toInt64, h1, h2]
def MCp (nb : Nat) (q : Cp) (w : Wd) : Prop := LayM w ∧ nb ≤ 10 ∧ ∀ c, c < 6 → wI w 419 c = nI (q.1 c) ∧ q.1 c ≤ 30 ∧ ∀ f, f < q.1 c → ∀ b, b < nb → wI w 420 (300 * c + 10 * f + b) = nI (q.2 c f b) ∧ q.2 c f b < 36
theorem MCp.sz {nb : Nat} {q : Cp} {w : Wd} (h : MCp nb q w) {c : Nat} (hc : c < 6) : wI w 419 c = nI (q.1 c) := (h.2.2 c hc).1
theorem MCp.le {nb : Nat} {q : Cp} {w : Wd} (h : MCp nb q w) {c : Nat} (hc : c < 6) : q.1 c ≤ 30 := (h.2.2 c hc).2.1
theorem MCp.fr {nb : Nat} {q : Cp} {w : Wd} (h : MCp nb q w) {c f b : Nat} (hc : c < 6) (hf : f < q.1 c) (hb : b < nb) : wI w 420 (300 * c + 10 * f + b) = nI (q.2 c f b) ∧ q.2 c f b < 36 := (h.2.2 c hc).2.2 f hf b hb
theorem MCp.kp {nb : Nat} {q : Cp} {SI SJ : Nat → Nat → Prop} {w w' : Wd} (h : MCp nb q w) (g : Kp SI SJ w w') (hI : ∀ a j, SI a j → ¬ (419 ≤ a ∧ a < 421)) : MCp nb q w' := by
  refine ⟨h.1.kp g, h.2.1, fun c hc => ⟨?_, h.le hc, fun f hf b hb => ?_⟩⟩
  · rw [g.I (fun z => hI _ _ z (by omega))]; exact h.sz hc
  · rw [g.I (fun z => hI _ _ z (by omega))]; exact h.fr hc hf hb

set_option maxRecDepth 100000 in
theorem c_X9_isBone (k : Sk) (x : Int32) (w : Wd) (h : MSk k w) : Cc yX9_isBone mX9_isBone [.ref 400, .int x] w (fun r w' => r = some (.int (b01 (0 ≤ x.toInt ∧ x.toInt < kN k))) ∧ w' = w) := by
  refine Cc.of (by decide) rfl rfl (Nat.le_of_ble_eq_true rfl) (fun X => ?_)
  change V _ X _ 0 [(0, _), (1, _)] [] _ (0, 0)
  refine V_iload_n dX9_isBone_0 rfl rfl ?_
  refine V_i2l dX9_isBone_1 ?_
  refine V_lconst (v := 0) dX9_isBone_2 (by decide) ?_
  first | refine V_aload_n dX9_isBone_3 rfl rfl ?_ | refine V_aload_nN dX9_isBone_3 rfl rfl ?_
  refine G_geti (by exact h.1.k _ rfl rfl) fX9_111 dX9_isBone_4 (by exact h.n) ?_
  refine V_iconst (v := 1) dX9_isBone_7 (by decide) ?_
  refine V_isub dX9_isBone_8 ?_
  refine V_i2l dX9_isBone_9 ?_
  refine V_callS (As := [_, _, _]) (st := _) (c_X9_in _ _ _ _) kX9_114 ⟨rfl, rfl, rfl⟩ ⟨(Nat.le_of_ble_eq_true rfl), (Nat.le_of_ble_eq_true rfl)⟩ dX9_isBone_10 rfl rfl (Nat.le_of_ble_eq_true rfl) ⟨(Nat.le_of_ble_eq_true rfl), (Nat.le_of_ble_eq_true rfl)⟩ ?_
  refine V_zret rfl dX9_isBone_13 (Nat.le_of_ble_eq_true rfl) (Nat.le_of_ble_eq_true rfl) (b01_nar _) ?_
  exact ok2i (b01_c (inL_n _ (by have := h.n10; omega)))

set_option maxRecDepth 100000 in
theorem c_X9_isWithin (k : Sk) (b t : Nat) (w : Wd) (h : MSk k w) (hb : b < kN k) (ht : t < 36) : Cc yX9_isWithin mX9_isWithin [.ref 400, .int (nI b), .int (nI t)] w (fun r w' => r = some (.int (b01 (wi (kLow k b) (kSpr k b) t))) ∧ w' = w) := by
  refine Cc.of (by decide) rfl rfl (Nat.le_of_ble_eq_true rfl) (fun X => ?_)
  change V _ X _ 0 [(0, _), (1, _), (2, _)] [] _ (0, 0)
  refine V_iload_n dX9_isWithin_0 rfl rfl ?_
  first | refine V_aload_n dX9_isWithin_1 rfl rfl ?_ | refine V_aload_nN dX9_isWithin_1 rfl rfl ?_
  first | refine V_getr (by exact h.1.k _ rfl rfl) fX9_22 dX9_isWithin_2 (by exact (h.1.r 5 rfl (by decide) : _ = some 406)) ?_ | refine V_getrN (by exact h.1.k _ rfl rfl) fX9_22 dX9_isWithin_2 (by exact (h.1.r 5 rfl (by decide) : _ = some 406)) ?_
  refine V_iload_n dX9_isWithin_5 rfl rfl ?_
  refine G_iald (j := b) (by exact h.1.k _ rfl rfl) (by rfl) (by exact h.1.lt 406 (m := 10) rfl rfl (by decide) rfl (by have := h.n10; omega)) (by exact h.1.nlt 406 rfl rfl (by decide)) dX9_isWithin_6 (by exact h.low hb) ?_
  refine V_isub dX9_isWithin_7 ?_
  refine V_callS (As := [_]) (st := _) (c_X9_round _ _) kX9_96 ⟨rfl, rfl, rfl⟩ ⟨(Nat.le_of_ble_eq_true rfl), (Nat.le_of_ble_eq_true rfl)⟩ dX9_isWithin_8 rfl rfl (Nat.le_of_ble_eq_true rfl) ⟨(Nat.le_of_ble_eq_true rfl), (Nat.le_of_ble_eq_true rfl)⟩ ?_
  rw [(wi_N (h.wf hb).2.2.2.2.1 ht)]
  first | refine V_aload_n dX9_isWithin_11 rfl rfl ?_ | refine V_aload_nN dX9_isWithin_11 rfl rfl ?_
  first | refine V_getr (by exact h.1.k _ rfl rfl) fX9_25 dX9_isWithin_12 (by exact (h.1.r 6 rfl (by decide) : _ = some 407)) ?_ | refine V_getrN (by exact h.1.k _ rfl rfl) fX9_25 dX9_isWithin_12 (by exact (h.1.r 6 rfl (by decide) : _ = some 407)) ?_
  refine V_iload_n dX9_isWithin_15 rfl rfl ?_
  refine G_iald (j := b) (by exact h.1.k _ rfl rfl) (by rfl) (by exact h.1.lt 407 (m := 10) rfl rfl (by decide) rfl (by have := h.n10; omega)) (by exact h.1.nlt 407 rfl rfl (by decide)) dX9_isWithin_16 (by exact h.spr hb) ?_
  refine V_icmp_gt (tgt := 24) dX9_isWithin_17 (by decide) (fun c17 => ?_) (fun c17 => ?_)
  · refine V_iconst (v := 0) dX9_isWithin_24 (by decide) ?_
    refine V_zret rfl dX9_isWithin_25 (Nat.le_of_ble_eq_true rfl) (Nat.le_of_ble_eq_true rfl) rfl ?_
    first | exact ok2i (b01_f (fun q => absurd ((nI_ltI (by have := (h.wf hb).2.2.2.2.2.1; omega) (by omega)).mp c17) (by unfold wi at q; omega))).symm | exact ok2i (b01_t (by unfold wi; exact Nat.not_lt.mp (fun q => c17 ((nI_ltI (by have := (h.wf hb).2.2.2.2.2.1; omega) (by omega)).mpr q)))).symm
  · refine V_iconst (v := 1) dX9_isWithin_20 (by decide) ?_
    refine V_goto (tgt := 25) dX9_isWithin_21 (by decide) ?_
    refine V_zret rfl dX9_isWithin_25 (Nat.le_of_ble_eq_true rfl) (Nat.le_of_ble_eq_true rfl) rfl ?_
    first | exact ok2i (b01_f (fun q => absurd ((nI_ltI (by have := (h.wf hb).2.2.2.2.2.1; omega) (by omega)).mp c17) (by unfold wi at q; omega))).symm | exact ok2i (b01_t (by unfold wi; exact Nat.not_lt.mp (fun q => c17 ((nI_ltI (by have := (h.wf hb).2.2.2.2.2.1; omega) (by omega)).mpr q)))).symm

set_option maxRecDepth 100000 in
theorem c_X9_intoLimits (k : Sk) (b t : Nat) (w : Wd) (h : MSk k w) (hb : b < kN k) (ht : t < 36) : Cc yX9_intoLimits mX9_intoLimits [.ref 400, .int (nI b), .int (nI t)] w (fun r w' => r = some (.int (nI (intoN (kLow k b) (kSpr k b) t))) ∧ w' = w) := by
  refine Cc.of (by decide) rfl rfl (Nat.le_of_ble_eq_true rfl) (fun X => ?_)
  change V _ X _ 0 [(0, _), (1, _), (2, _)] [] _ (0, 0)
  first | refine V_aload_n dX9_intoLimits_0 rfl rfl ?_ | refine V_aload_nN dX9_intoLimits_0 rfl rfl ?_
  refine V_iload_n dX9_intoLimits_1 rfl rfl ?_
  refine V_iload_n dX9_intoLimits_2 rfl rfl ?_
  refine V_callV (As := [_, _]) (st := _) (c_X9_isWithin k b t w h hb ht) kX9_100 (by exact h.1.k _ rfl rfl) ⟨rfl, rfl, rfl⟩ ⟨(Nat.le_of_ble_eq_true rfl), (Nat.le_of_ble_eq_true rfl)⟩ dX9_intoLimits_3 rfl rfl (Nat.le_of_ble_eq_true rfl) ⟨(Nat.le_of_ble_eq_true rfl), (Nat.le_of_ble_eq_true rfl)⟩ ?_
  refine V_if_eq (tgt := 11) dX9_intoLimits_6 (by decide) (fun c6 => ?_) (fun c6 => ?_)
  · first | refine V_aload_n dX9_intoLimits_11 rfl rfl ?_ | refine V_aload_nN dX9_intoLimits_11 rfl rfl ?_
    first | refine V_getr (by exact h.1.k _ rfl rfl) fX9_22 dX9_intoLimits_12 (by exact (h.1.r 5 rfl (by decide) : _ = some 406)) ?_ | refine V_getrN (by exact h.1.k _ rfl rfl) fX9_22 dX9_intoLimits_12 (by exact (h.1.r 5 rfl (by decide) : _ = some 406)) ?_
    refine V_iload_n dX9_intoLimits_15 rfl rfl ?_
    refine G_iald (j := b) (by exact h.1.k _ rfl rfl) (by rfl) (by exact h.1.lt 406 (m := 10) rfl rfl (by decide) rfl (by have := h.n10; omega)) (by exact h.1.nlt 406 rfl rfl (by decide)) dX9_intoLimits_16 (by exact h.low hb) ?_
    first | refine V_aload_n dX9_intoLimits_17 rfl rfl ?_ | refine V_aload_nN dX9_intoLimits_17 rfl rfl ?_
    first | refine V_getr (by exact h.1.k _ rfl rfl) fX9_25 dX9_intoLimits_18 (by exact (h.1.r 6 rfl (by decide) : _ = some 407)) ?_ | refine V_getrN (by exact h.1.k _ rfl rfl) fX9_25 dX9_intoLimits_18 (by exact (h.1.r 6 rfl (by decide) : _ = some 407)) ?_
    refine V_iload_n dX9_intoLimits_21 rfl rfl ?_
    refine G_iald (j := b) (by exact h.1.k _ rfl rfl) (by rfl) (by exact h.1.lt 407 (m := 10) rfl rfl (by decide) rfl (by have := h.n10; omega)) (by exact h.1.nlt 407 rfl rfl (by decide)) dX9_intoLimits_22 (by exact h.spr hb) ?_
    refine V_iadd dX9_intoLimits_23 ?_
    refine V_callS (As := [_]) (st := _) (c_X9_round _ _) kX9_96 ⟨rfl, rfl, rfl⟩ ⟨(Nat.le_of_ble_eq_true rfl), (Nat.le_of_ble_eq_true rfl)⟩ dX9_intoLimits_24 rfl rfl (Nat.le_of_ble_eq_true rfl) ⟨(Nat.le_of_ble_eq_true rfl), (Nat.le_of_ble_eq_true rfl)⟩ ?_
    rw [rN_sum (h.wf hb).2.2.2.2.1 (h.wf hb).2.2.2.2.2.1]
    change V _ X _ 27 _ [.int (nI (lastN (kLow k b) (kSpr k b)))] _ _
    refine S_istore_n (L' := [(0, _), (1, _), (2, _), (3, _)]) dX9_intoLimits_27 rfl rfl rfl ?_
    refine V_iload_n dX9_intoLimits_28 rfl rfl ?_
    refine V_iload_n dX9_intoLimits_29 rfl rfl ?_
    refine V_callS (As := [_, _]) (st := _) (c_X9_shortWay _ _ _) kX9_104 ⟨rfl, rfl, rfl⟩ ⟨(Nat.le_of_ble_eq_true rfl), (Nat.le_of_ble_eq_true rfl)⟩ dX9_intoLimits_30 rfl rfl (Nat.le_of_ble_eq_true rfl) ⟨(Nat.le_of_ble_eq_true rfl), (Nat.le_of_ble_eq_true rfl)⟩ ?_
    rw [mShort_N ht (lastN_lt _ _)]
    refine V_callS (As := [_]) (st := _) (c_X9_amount _ _) kX9_108 ⟨rfl, rfl, rfl⟩ ⟨(Nat.le_of_ble_eq_true rfl), (Nat.le_of_ble_eq_true rfl)⟩ dX9_intoLimits_33 rfl rfl (Nat.le_of_ble_eq_true rfl) ⟨(Nat.le_of_ble_eq_true rfl), (Nat.le_of_ble_eq_true rfl)⟩ ?_
    rw [mAmt_N ht (lastN_lt _ _)]
    refine V_iload_n dX9_intoLimits_36 rfl rfl ?_
    first | refine V_aload_n dX9_intoLimits_37 rfl rfl ?_ | refine V_aload_nN dX9_intoLimits_37 rfl rfl ?_
    first | refine V_getr (by exact h.1.k _ rfl rfl) fX9_22 dX9_intoLimits_38 (by exact (h.1.r 5 rfl (by decide) : _ = some 406)) ?_ | refine V_getrN (by exact h.1.k _ rfl rfl) fX9_22 dX9_intoLimits_38 (by exact (h.1.r 5 rfl (by decide) : _ = some 406)) ?_
    refine V_iload_n dX9_intoLimits_41 rfl rfl ?_
    refine G_iald (j := b) (by exact h.1.k _ rfl rfl) (by rfl) (by exact h.1.lt 406 (m := 10) rfl rfl (by decide) rfl (by have := h.n10; omega)) (by exact h.1.nlt 406 rfl rfl (by decide)) dX9_intoLimits_42 (by exact h.low hb) ?_
    refine V_callS (As := [_, _]) (st := _) (c_X9_shortWay _ _ _) kX9_104 ⟨rfl, rfl, rfl⟩ ⟨(Nat.le_of_ble_eq_true rfl), (Nat.le_of_ble_eq_true rfl)⟩ dX9_intoLimits_43 rfl rfl (Nat.le_of_ble_eq_true rfl) ⟨(Nat.le_of_ble_eq_true rfl), (Nat.le_of_ble_eq_true rfl)⟩ ?_
    rw [mShort_N ht (h.wf hb).2.2.2.2.1]
    refine V_callS (As := [_]) (st := _) (c_X9_amount _ _) kX9_108 ⟨rfl, rfl, rfl⟩ ⟨(Nat.le_of_ble_eq_true rfl), (Nat.le_of_ble_eq_true rfl)⟩ dX9_intoLimits_46 rfl rfl (Nat.le_of_ble_eq_true rfl) ⟨(Nat.le_of_ble_eq_true rfl), (Nat.le_of_ble_eq_true rfl)⟩ ?_
    rw [mAmt_N ht (h.wf hb).2.2.2.2.1]
    have d1 : distN t (kLow k b) < 2147483648 := Nat.lt_of_le_of_lt (distN_le _ _) (by decide)
    have d2 : distN t (lastN (kLow k b) (kSpr k b)) < 2147483648 := Nat.lt_of_le_of_lt (distN_le _ _) (by decide)
    refine V_icmp_ge (tgt := 56) dX9_intoLimits_49 (by decide) (fun c49 => ?_) (fun c49 => ?_)
    · first | refine V_aload_n dX9_intoLimits_56 rfl rfl ?_ | refine V_aload_nN dX9_intoLimits_56 rfl rfl ?_
      first | refine V_getr (by exact h.1.k _ rfl rfl) fX9_22 dX9_intoLimits_57 (by exact (h.1.r 5 rfl (by decide) : _ = some 406)) ?_ | refine V_getrN (by exact h.1.k _ rfl rfl) fX9_22 dX9_intoLimits_57 (by exact (h.1.r 5 rfl (by decide) : _ = some 406)) ?_
      refine V_iload_n dX9_intoLimits_60 rfl rfl ?_
      refine G_iald (j := b) (by exact h.1.k _ rfl rfl) (by rfl) (by exact h.1.lt 406 (m := 10) rfl rfl (by decide) rfl (by have := h.n10; omega)) (by exact h.1.nlt 406 rfl rfl (by decide)) dX9_intoLimits_61 (by exact h.low hb) ?_
      refine V_iret rfl dX9_intoLimits_62 (Nat.le_of_ble_eq_true rfl) (Nat.le_of_ble_eq_true rfl) ?_
      refine ok2i (congrArg nI ?_)
      unfold intoN
      rw [if_neg (b01_0 c6)]
      first | rw [if_pos ((nI_leI d1 d2).mp c49)] | rw [if_neg (fun q => c49 ((nI_leI d1 d2).mpr q))]
    · refine V_iload_n dX9_intoLimits_52 rfl rfl ?_
      refine V_goto (tgt := 62) dX9_intoLimits_53 (by decide) ?_
      refine V_iret rfl dX9_intoLimits_62 (Nat.le_of_ble_eq_true rfl) (Nat.le_of_ble_eq_true rfl) ?_
      refine ok2i (congrArg nI ?_)
      unfold intoN
      rw [if_neg (b01_0 c6)]
      first | rw [if_pos ((nI_leI d1 d2).mp c49)] | rw [if_neg (fun q => c49 ((nI_leI d1 d2).mpr q))]
  · refine V_iload_n dX9_intoLimits_9 rfl rfl ?_
    refine V_iret rfl dX9_intoLimits_10 (Nat.le_of_ble_eq_true rfl) (Nat.le_of_ble_eq_true rfl) ?_
    exact ok2i (congrArg nI (if_pos (b01_1 c6)).symm)

set_option maxRecDepth 100000 in
theorem c_X9_frames (nb : Nat) (q : Cp) (w : Wd) (h : MCp nb q w) : Cc yX9_frames mX9_frames [.ref 400] w (fun r w' => r = some (.int (nI (sumN q.1 6))) ∧ w' = w) := by
  refine Cc.of (by decide) rfl rfl (Nat.le_of_ble_eq_true rfl) (fun X => ?_)
  change V _ X _ 0 [(0, _)] [] _ (0, 0)
  have loop : ∀ (d c : Nat), c + d = 6 → V mX9_frames X (mq mX9_frames X (fun r w' => r = some (.int (nI (sumN q.1 6))) ∧ w' = w)) 4 [(0, .ref 400), (1, .int (nI (sumN q.1 c))), (2, .int (nI c))] [] w (0, 0) := by
    intro d
    induction d with
    | zero =>
      intro c hd
      obtain rfl : c = 6 := hd
      refine V_iload_n dX9_frames_4 rfl rfl ?_
      refine V_bipush (v := 6) dX9_frames_5 (by decide) ?_
      refine V_icmp_ge (tgt := 25) dX9_frames_7 (by decide) (fun c7 => ?_) (fun c7 => False.elim (by exact c7 (by decide)))
      refine V_iload_n dX9_frames_25 rfl rfl ?_
      refine V_iret rfl dX9_frames_26 (Nat.le_of_ble_eq_true rfl) (Nat.le_of_ble_eq_true rfl) ?_
      exact ⟨rfl, rfl⟩
    | succ d ih =>
      intro c hd
      have hc : c < 6 := by omega
      refine V_iload_n dX9_frames_4 rfl rfl ?_
      refine V_bipush (v := 6) dX9_frames_5 (by decide) ?_
      refine V_icmp_ge (tgt := 25) dX9_frames_7 (by decide) (fun c7 => False.elim (by exact nI_ge (a := c) (b := 6) hc (by decide) c7)) (fun c7 => ?_)
      refine V_iload_n dX9_frames_10 rfl rfl ?_
      first | refine V_aload_n dX9_frames_11 rfl rfl ?_ | refine V_aload_nN dX9_frames_11 rfl rfl ?_
      first | refine V_getr (by exact h.1.k _ rfl rfl) fX9_51 dX9_frames_12 (by exact (h.1.r 18 rfl (by decide) : _ = some 419)) ?_ | refine V_getrN (by exact h.1.k _ rfl rfl) fX9_51 dX9_frames_12 (by exact (h.1.r 18 rfl (by decide) : _ = some 419)) ?_
      refine V_iload_n dX9_frames_15 rfl rfl ?_
      refine G_iald (j := c) (by exact h.1.k _ rfl rfl) (by rfl) (by exact h.1.lt 419 (m := 6) rfl rfl (by decide) rfl (by omega)) (by exact h.1.nlt 419 rfl rfl (by decide)) dX9_frames_16 (by exact h.sz hc) ?_
      refine V_iadd dX9_frames_17 ?_
      rw [nI_add]
      refine S_istore_n (L' := [(0, _), (1, _), (2, _)]) dX9_frames_18 rfl rfl rfl ?_
      refine S_iinc (L' := [(0, _), (1, _), (2, _)]) dX9_frames_19 rfl rfl rfl rfl ?_
      rw [nI_inc]
      refine V_goto (tgt := 4) dX9_frames_22 (by decide) ?_
      exact ih (c + 1) (by omega)
  refine V_iconst (v := 0) dX9_frames_0 (by decide) ?_
  refine S_istore_n (L' := [(0, _), (1, _)]) dX9_frames_1 rfl rfl rfl ?_
  refine V_iconst (v := 0) dX9_frames_2 (by decide) ?_
  refine S_istore_n (L' := [(0, _), (1, _), (2, _)]) dX9_frames_3 rfl rfl rfl ?_
  exact loop 6 0 rfl

set_option maxRecDepth 100000 in
theorem c_X9_place (k : Sk) (w : Wd) (h : MSk k w) : Cc yX9_place mX9_place [.ref 400] w (fun r w' => r = none ∧ Kp noA plJ w w' ∧ MPos k (kN k) w') := by
  refine Cc.of (by decide) rfl rfl (Nat.le_of_ble_eq_true rfl) (fun X => ?_)
  change V _ X _ 0 [(0, _)] [] _ (0, 0)
  have loop : ∀ (d b : Nat) (w1 : Wd), b + d = kN k → Kp noA plJ w w1 → MPos k b w1 → V mX9_place X (mq mX9_place X (fun r w' => r = none ∧ Kp noA plJ w w' ∧ MPos k (kN k) w')) 2 [(0, .ref 400), (1, .int (nI b))] [] w1 (0, 0) := by
    intro d
    induction d with
    | zero =>
      intro b w1 hd g1 g2
      have h1 : MSk k w1 := h.kp g1 (fun _ _ q => q.elim) (fun a j q => by unfold msJ; unfold plJ at q; omega)
      obtain rfl : b = kN k := hd
      refine V_iload_n dX9_place_2 rfl rfl ?_
      first | refine V_aload_n dX9_place_3 rfl rfl ?_ | refine V_aload_nN dX9_place_3 rfl rfl ?_
      refine G_geti (by exact h1.1.k _ rfl rfl) fX9_111 dX9_place_4 (by exact h1.n) ?_
      refine V_icmp_ge (tgt := 204) dX9_place_7 (by decide) (fun c7 => ?_) (fun c7 => False.elim (by exact c7 (nI_le (Nat.le_refl _) (by have := h.n10; omega))))
      refine V_vret rfl dX9_place_204 (Nat.le_of_ble_eq_true rfl) (Nat.le_of_ble_eq_true rfl) ?_
      exact ⟨rfl, g1, g2⟩
    | succ d ih =>
      intro b w1 hd g1 g2
      have h1 : MSk k w1 := h.kp g1 (fun _ _ q => q.elim) (fun a j q => by unfold msJ; unfold plJ at q; omega)
      have hb : b < kN k := by omega
      cases hp : kPar k b with
      | none =>
        refine V_iload_n dX9_place_2 rfl rfl ?_
        first | refine V_aload_n dX9_place_3 rfl rfl ?_ | refine V_aload_nN dX9_place_3 rfl rfl ?_
        refine G_geti (by exact h1.1.k _ rfl rfl) fX9_111 dX9_place_4 (by exact h1.n) ?_
        refine V_icmp_ge (tgt := 204) dX9_place_7 (by decide) (fun c7 => False.elim (by exact nI_ge (a := b) (b := kN k) hb (by have := h.n10; omega) c7)) (fun c7 => ?_)
        first | refine V_aload_n dX9_place_10 rfl rfl ?_ | refine V_aload_nN dX9_place_10 rfl rfl ?_
        first | refine V_getr (by exact h1.1.k _ rfl rfl) fX9_16 dX9_place_11 (by exact (h1.1.r 3 rfl (by decide) : _ = some 404)) ?_ | refine V_getrN (by exact h1.1.k _ rfl rfl) fX9_16 dX9_place_11 (by exact (h1.1.r 3 rfl (by decide) : _ = some 404)) ?_
        refine V_iload_n dX9_place_14 rfl rfl ?_
        refine G_iald (j := b) (by exact h1.1.k _ rfl rfl) (by rfl) (by exact h1.1.lt 404 (m := 10) rfl rfl (by decide) rfl (by have := h.n10; omega)) (by exact h1.1.nlt 404 rfl rfl (by decide)) dX9_place_15 (by exact ((h1.par hb).trans (congrArg oI hp) : _ = (-1 : Int32))) ?_
        refine S_istore_n (L' := [(0, _), (1, _), (2, _)]) dX9_place_16 rfl rfl rfl ?_
        refine V_iload_n dX9_place_17 rfl rfl ?_
        refine V_iconst (v := -1) dX9_place_18 (by decide) ?_
        refine V_icmp_ne (tgt := 28) dX9_place_19 (by decide) (fun c19 => False.elim (by exact c19 rfl)) (fun c19 => ?_)
        refine V_ldc2 ctX9_136 dX9_place_22 ?_
        refine V_goto (tgt := 34) dX9_place_25 (by decide) ?_
        refine S_lstore_n (L' := [(0, _), (1, _), (2, _), (3, _)]) dX9_place_34 rfl rfl rfl ?_
        refine V_iload_n dX9_place_35 rfl rfl ?_
        refine V_iconst (v := -1) dX9_place_36 (by decide) ?_
        refine V_icmp_ne (tgt := 44) dX9_place_37 (by decide) (fun c37 => False.elim (by exact c37 rfl)) (fun c37 => ?_)
        refine V_lconst (v := 0) dX9_place_40 (by decide) ?_
        refine V_goto (tgt := 50) dX9_place_41 (by decide) ?_
        refine S_lstore (L' := [(0, _), (1, _), (2, _), (3, _), (5, _)]) dX9_place_50 rfl rfl ?_
        first | refine V_aload_n dX9_place_52 rfl rfl ?_ | refine V_aload_nN dX9_place_52 rfl rfl ?_
        first | refine V_getr (by exact h1.1.k _ rfl rfl) fX9_7 dX9_place_53 (by exact (h1.1.r 0 rfl (by decide) : _ = some 401)) ?_ | refine V_getrN (by exact h1.1.k _ rfl rfl) fX9_7 dX9_place_53 (by exact (h1.1.r 0 rfl (by decide) : _ = some 401)) ?_
        first | refine V_aload_n dX9_place_56 rfl rfl ?_ | refine V_aload_nN dX9_place_56 rfl rfl ?_
        first | refine V_getr (by exact h1.1.k _ rfl rfl) fX9_31 dX9_place_57 (by exact (h1.1.r 8 rfl (by decide) : _ = some 409)) ?_ | refine V_getrN (by exact h1.1.k _ rfl rfl) fX9_31 dX9_place_57 (by exact (h1.1.r 8 rfl (by decide) : _ = some 409)) ?_
        refine V_iload_n dX9_place_60 rfl rfl ?_
        refine G_iald (j := b) (by exact h1.1.k _ rfl rfl) (by rfl) (by exact h1.1.lt 409 (m := 10) rfl rfl (by decide) rfl (by have := h.n10; omega)) (by exact h1.1.nlt 409 rfl rfl (by decide)) dX9_place_61 (by exact h1.trn hb) ?_
        refine G_iald (j := kTrn k b) (by exact h1.1.k _ rfl rfl) (by rfl) (by exact h1.1.lt 401 (m := 36) rfl rfl (by decide) rfl (by exact (h1.wf hb).2.2.2.2.2.2)) (by exact h1.1.nlt 401 rfl rfl (by decide)) dX9_place_62 (by exact h1.cs (h1.wf hb).2.2.2.2.2.2) ?_
        refine V_i2l dX9_place_63 ?_
        refine S_lstore (L' := [(0, _), (1, _), (2, _), (3, _), (5, _), (7, _)]) dX9_place_64 rfl rfl ?_
        first | refine V_aload_n dX9_place_66 rfl rfl ?_ | refine V_aload_nN dX9_place_66 rfl rfl ?_
        first | refine V_getr (by exact h1.1.k _ rfl rfl) fX9_13 dX9_place_67 (by exact (h1.1.r 1 rfl (by decide) : _ = some 402)) ?_ | refine V_getrN (by exact h1.1.k _ rfl rfl) fX9_13 dX9_place_67 (by exact (h1.1.r 1 rfl (by decide) : _ = some 402)) ?_
        first | refine V_aload_n dX9_place_70 rfl rfl ?_ | refine V_aload_nN dX9_place_70 rfl rfl ?_
        first | refine V_getr (by exact h1.1.k _ rfl rfl) fX9_31 dX9_place_71 (by exact (h1.1.r 8 rfl (by decide) : _ = some 409)) ?_ | refine V_getrN (by exact h1.1.k _ rfl rfl) fX9_31 dX9_place_71 (by exact (h1.1.r 8 rfl (by decide) : _ = some 409)) ?_
        refine V_iload_n dX9_place_74 rfl rfl ?_
        refine G_iald (j := b) (by exact h1.1.k _ rfl rfl) (by rfl) (by exact h1.1.lt 409 (m := 10) rfl rfl (by decide) rfl (by have := h.n10; omega)) (by exact h1.1.nlt 409 rfl rfl (by decide)) dX9_place_75 (by exact h1.trn hb) ?_
        refine G_iald (j := kTrn k b) (by exact h1.1.k _ rfl rfl) (by rfl) (by exact h1.1.lt 402 (m := 36) rfl rfl (by decide) rfl (by exact (h1.wf hb).2.2.2.2.2.2)) (by exact h1.1.nlt 402 rfl rfl (by decide)) dX9_place_76 (by exact h1.ss (h1.wf hb).2.2.2.2.2.2) ?_
        refine V_i2l dX9_place_77 ?_
        refine S_lstore (L' := [(0, _), (1, _), (2, _), (3, _), (5, _), (7, _), (9, _)]) dX9_place_78 rfl rfl ?_
        first | refine V_aload_n dX9_place_80 rfl rfl ?_ | refine V_aload_nN dX9_place_80 rfl rfl ?_
        first | refine V_getr (by exact h1.1.k _ rfl rfl) fX9_38 dX9_place_81 (by exact (h1.1.r 12 rfl (by decide) : _ = some 413)) ?_ | refine V_getrN (by exact h1.1.k _ rfl rfl) fX9_38 dX9_place_81 (by exact (h1.1.r 12 rfl (by decide) : _ = some 413)) ?_
        refine V_iload_n dX9_place_84 rfl rfl ?_
        refine V_lload_n dX9_place_85 rfl rfl ?_
        refine V_lload dX9_place_86 rfl ?_
        refine V_lmul dX9_place_88 ?_
        refine V_lload dX9_place_89 rfl ?_
        refine V_lload dX9_place_91 rfl ?_
        refine V_lmul dX9_place_93 ?_
        refine V_lsub dX9_place_94 ?_
        refine V_ldc2 ctX9_138 dX9_place_95 ?_
        refine V_ldiv dX9_place_98 (by decide) ?_
        refine G_last (j := b) (by exact h1.1.k _ rfl rfl) (by rfl) (by exact h1.1.lt 413 (m := 10) rfl rfl (by decide) rfl (by have := h.n10; omega)) (by exact h1.1.nlt 413 rfl rfl (by decide)) dX9_place_99 ?_
        first | refine V_aload_n dX9_place_100 rfl rfl ?_ | refine V_aload_nN dX9_place_100 rfl rfl ?_
        first | refine V_getr (by exact h1.1.k _ rfl rfl) fX9_42 dX9_place_101 (by exact (h1.1.r 13 rfl (by decide) : _ = some 414)) ?_ | refine V_getrN (by exact h1.1.k _ rfl rfl) fX9_42 dX9_place_101 (by exact (h1.1.r 13 rfl (by decide) : _ = some 414)) ?_
        refine V_iload_n dX9_place_104 rfl rfl ?_
        refine V_lload_n dX9_place_105 rfl rfl ?_
        refine V_lload dX9_place_106 rfl ?_
        refine V_lmul dX9_place_108 ?_
        refine V_lload dX9_place_109 rfl ?_
        refine V_lload dX9_place_111 rfl ?_
        refine V_lmul dX9_place_113 ?_
        refine V_ladd dX9_place_114 ?_
        refine V_ldc2 ctX9_138 dX9_place_115 ?_
        refine V_ldiv dX9_place_118 (by decide) ?_
        refine G_last (j := b) (by exact h1.1.k _ rfl rfl) (by rfl) (by exact h1.1.lt 414 (m := 10) rfl rfl (by decide) rfl (by have := h.n10; omega)) (by exact h1.1.nlt 414 rfl rfl (by decide)) dX9_place_119 ?_
        first | refine V_aload_n dX9_place_120 rfl rfl ?_ | refine V_aload_nN dX9_place_120 rfl rfl ?_
        first | refine V_getr (by exact h1.1.k _ rfl rfl) fX9_45 dX9_place_121 (by exact (h1.1.r 14 rfl (by decide) : _ = some 415)) ?_ | refine V_getrN (by exact h1.1.k _ rfl rfl) fX9_45 dX9_place_121 (by exact (h1.1.r 14 rfl (by decide) : _ = some 415)) ?_
        refine V_iload_n dX9_place_124 rfl rfl ?_
        refine V_iload_n dX9_place_125 rfl rfl ?_
        refine V_iconst (v := -1) dX9_place_126 (by decide) ?_
        refine V_icmp_ne (tgt := 137) dX9_place_127 (by decide) (fun c127 => False.elim (by exact c127 rfl)) (fun c127 => ?_)
        first | refine V_aload_n dX9_place_130 rfl rfl ?_ | refine V_aload_nN dX9_place_130 rfl rfl ?_
        refine G_getl (by exact h1.1.k _ rfl rfl) fX9_140 dX9_place_131 (by exact (rdJ_nn (by decide)).trans ((rdJ_nn (by decide)).trans h1.rx)) ?_
        refine V_goto (tgt := 143) dX9_place_134 (by decide) ?_
        first | refine V_aload_n dX9_place_143 rfl rfl ?_ | refine V_aload_nN dX9_place_143 rfl rfl ?_
        first | refine V_getr (by exact h1.1.k _ rfl rfl) fX9_19 dX9_place_144 (by exact (h1.1.r 4 rfl (by decide) : _ = some 405)) ?_ | refine V_getrN (by exact h1.1.k _ rfl rfl) fX9_19 dX9_place_144 (by exact (h1.1.r 4 rfl (by decide) : _ = some 405)) ?_
        refine V_iload_n dX9_place_147 rfl rfl ?_
        refine G_iald (j := b) (by exact h1.1.k _ rfl rfl) (by rfl) (by exact h1.1.lt 405 (m := 10) rfl rfl (by decide) rfl (by have := h.n10; omega)) (by exact h1.1.nlt 405 rfl rfl (by decide)) dX9_place_148 (by exact h1.len hb) ?_
        refine V_i2l dX9_place_149 ?_
        first | refine V_aload_n dX9_place_150 rfl rfl ?_ | refine V_aload_nN dX9_place_150 rfl rfl ?_
        first | refine V_getr (by exact h1.1.k _ rfl rfl) fX9_38 dX9_place_151 (by exact (h1.1.r 12 rfl (by decide) : _ = some 413)) ?_ | refine V_getrN (by exact h1.1.k _ rfl rfl) fX9_38 dX9_place_151 (by exact (h1.1.r 12 rfl (by decide) : _ = some 413)) ?_
        refine V_iload_n dX9_place_154 rfl rfl ?_
        refine G_lald (j := b) (by exact h1.1.k _ rfl rfl) (by rfl) (by exact h1.1.lt 413 (m := 10) rfl rfl (by decide) rfl (by have := h.n10; omega)) (by exact h1.1.nlt 413 rfl rfl (by decide)) dX9_place_155 (by exact (rdJ_nn (by decide)).trans rdJ_eq) ?_
        refine V_lmul dX9_place_156 ?_
        refine V_ladd dX9_place_157 ?_
        refine G_last (j := b) (by exact h1.1.k _ rfl rfl) (by rfl) (by exact h1.1.lt 415 (m := 10) rfl rfl (by decide) rfl (by have := h.n10; omega)) (by exact h1.1.nlt 415 rfl rfl (by decide)) dX9_place_158 ?_
        first | refine V_aload_n dX9_place_159 rfl rfl ?_ | refine V_aload_nN dX9_place_159 rfl rfl ?_
        first | refine V_getr (by exact h1.1.k _ rfl rfl) fX9_48 dX9_place_160 (by exact (h1.1.r 15 rfl (by decide) : _ = some 416)) ?_ | refine V_getrN (by exact h1.1.k _ rfl rfl) fX9_48 dX9_place_160 (by exact (h1.1.r 15 rfl (by decide) : _ = some 416)) ?_
        refine V_iload_n dX9_place_163 rfl rfl ?_
        refine V_iload_n dX9_place_164 rfl rfl ?_
        refine V_iconst (v := -1) dX9_place_165 (by decide) ?_
        refine V_icmp_ne (tgt := 176) dX9_place_166 (by decide) (fun c166 => False.elim (by exact c166 rfl)) (fun c166 => ?_)
        first | refine V_aload_n dX9_place_169 rfl rfl ?_ | refine V_aload_nN dX9_place_169 rfl rfl ?_
        refine G_getl (by exact h1.1.k _ rfl rfl) fX9_144 dX9_place_170 (by exact (rdJ_nn (by decide)).trans ((rdJ_nn (by decide)).trans ((rdJ_nn (by decide)).trans h1.ry))) ?_
        refine V_goto (tgt := 182) dX9_place_173 (by decide) ?_
        first | refine V_aload_n dX9_place_182 rfl rfl ?_ | refine V_aload_nN dX9_place_182 rfl rfl ?_
        first | refine V_getr (by exact h1.1.k _ rfl rfl) fX9_19 dX9_place_183 (by exact (h1.1.r 4 rfl (by decide) : _ = some 405)) ?_ | refine V_getrN (by exact h1.1.k _ rfl rfl) fX9_19 dX9_place_183 (by exact (h1.1.r 4 rfl (by decide) : _ = some 405)) ?_
        refine V_iload_n dX9_place_186 rfl rfl ?_
        refine G_iald (j := b) (by exact h1.1.k _ rfl rfl) (by rfl) (by exact h1.1.lt 405 (m := 10) rfl rfl (by decide) rfl (by have := h.n10; omega)) (by exact h1.1.nlt 405 rfl rfl (by decide)) dX9_place_187 (by exact h1.len hb) ?_
        refine V_i2l dX9_place_188 ?_
        first | refine V_aload_n dX9_place_189 rfl rfl ?_ | refine V_aload_nN dX9_place_189 rfl rfl ?_
        first | refine V_getr (by exact h1.1.k _ rfl rfl) fX9_42 dX9_place_190 (by exact (h1.1.r 13 rfl (by decide) : _ = some 414)) ?_ | refine V_getrN (by exact h1.1.k _ rfl rfl) fX9_42 dX9_place_190 (by exact (h1.1.r 13 rfl (by decide) : _ = some 414)) ?_
        refine V_iload_n dX9_place_193 rfl rfl ?_
        refine G_lald (j := b) (by exact h1.1.k _ rfl rfl) (by rfl) (by exact h1.1.lt 414 (m := 10) rfl rfl (by decide) rfl (by have := h.n10; omega)) (by exact h1.1.nlt 414 rfl rfl (by decide)) dX9_place_194 (by exact (rdJ_nn (by decide)).trans rdJ_eq) ?_
        refine V_lmul dX9_place_195 ?_
        refine V_ladd dX9_place_196 ?_
        refine G_last (j := b) (by exact h1.1.k _ rfl rfl) (by rfl) (by exact h1.1.lt 416 (m := 10) rfl rfl (by decide) rfl (by have := h.n10; omega)) (by exact h1.1.nlt 416 rfl rfl (by decide)) dX9_place_197 ?_
        have e := pos_eq h.2.1 hb
        unfold pStep pStart at e
        rw [hp] at e
        dsimp only at e
        refine S_iinc (L' := [(0, _), (1, _)]) dX9_place_198 rfl rfl rfl rfl ?_
        rw [nI_inc]
        refine V_goto (tgt := 2) dX9_place_201 (by decide) ?_
        exact ih (b + 1) (pW w1 b (_, _, _, _)) (by omega) (g1.trans (Kp.pW _ _ _)) (MPos.step g2 e.symm)
      | some p =>
        have hpb : p < b := (h1.wf hb).1 p hp
        refine V_iload_n dX9_place_2 rfl rfl ?_
        first | refine V_aload_n dX9_place_3 rfl rfl ?_ | refine V_aload_nN dX9_place_3 rfl rfl ?_
        refine G_geti (by exact h1.1.k _ rfl rfl) fX9_111 dX9_place_4 (by exact h1.n) ?_
        refine V_icmp_ge (tgt := 204) dX9_place_7 (by decide) (fun c7 => False.elim (by exact nI_ge (a := b) (b := kN k) hb (by have := h.n10; omega) c7)) (fun c7 => ?_)
        first | refine V_aload_n dX9_place_10 rfl rfl ?_ | refine V_aload_nN dX9_place_10 rfl rfl ?_
        first | refine V_getr (by exact h1.1.k _ rfl rfl) fX9_16 dX9_place_11 (by exact (h1.1.r 3 rfl (by decide) : _ = some 404)) ?_ | refine V_getrN (by exact h1.1.k _ rfl rfl) fX9_16 dX9_place_11 (by exact (h1.1.r 3 rfl (by decide) : _ = some 404)) ?_
        refine V_iload_n dX9_place_14 rfl rfl ?_
        refine G_iald (j := b) (by exact h1.1.k _ rfl rfl) (by rfl) (by exact h1.1.lt 404 (m := 10) rfl rfl (by decide) rfl (by have := h.n10; omega)) (by exact h1.1.nlt 404 rfl rfl (by decide)) dX9_place_15 (by exact ((h1.par hb).trans (congrArg oI hp) : _ = nI p)) ?_
        refine S_istore_n (L' := [(0, _), (1, _), (2, _)]) dX9_place_16 rfl rfl rfl ?_
        refine V_iload_n dX9_place_17 rfl rfl ?_
        refine V_iconst (v := -1) dX9_place_18 (by decide) ?_
        refine V_icmp_ne (tgt := 28) dX9_place_19 (by decide) (fun c19 => ?_) (fun c19 => False.elim (by exact (nI_nm1 (by have := h.n10; omega)) c19))
        first | refine V_aload_n dX9_place_28 rfl rfl ?_ | refine V_aload_nN dX9_place_28 rfl rfl ?_
        first | refine V_getr (by exact h1.1.k _ rfl rfl) fX9_38 dX9_place_29 (by exact (h1.1.r 12 rfl (by decide) : _ = some 413)) ?_ | refine V_getrN (by exact h1.1.k _ rfl rfl) fX9_38 dX9_place_29 (by exact (h1.1.r 12 rfl (by decide) : _ = some 413)) ?_
        refine V_iload_n dX9_place_32 rfl rfl ?_
        refine G_lald (j := p) (by exact h1.1.k _ rfl rfl) (by rfl) (by exact h1.1.lt 413 (m := 10) rfl rfl (by decide) rfl (by have := h.n10; omega)) (by exact h1.1.nlt 413 rfl rfl (by decide)) dX9_place_33 (by exact (g2 p hpb).1) ?_
        refine S_lstore_n (L' := [(0, _), (1, _), (2, _), (3, _)]) dX9_place_34 rfl rfl rfl ?_
        refine V_iload_n dX9_place_35 rfl rfl ?_
        refine V_iconst (v := -1) dX9_place_36 (by decide) ?_
        refine V_icmp_ne (tgt := 44) dX9_place_37 (by decide) (fun c37 => ?_) (fun c37 => False.elim (by exact (nI_nm1 (by have := h.n10; omega)) c37))
        first | refine V_aload_n dX9_place_44 rfl rfl ?_ | refine V_aload_nN dX9_place_44 rfl rfl ?_
        first | refine V_getr (by exact h1.1.k _ rfl rfl) fX9_42 dX9_place_45 (by exact (h1.1.r 13 rfl (by decide) : _ = some 414)) ?_ | refine V_getrN (by exact h1.1.k _ rfl rfl) fX9_42 dX9_place_45 (by exact (h1.1.r 13 rfl (by decide) : _ = some 414)) ?_
        refine V_iload_n dX9_place_48 rfl rfl ?_
        refine G_lald (j := p) (by exact h1.1.k _ rfl rfl) (by rfl) (by exact h1.1.lt 414 (m := 10) rfl rfl (by decide) rfl (by have := h.n10; omega)) (by exact h1.1.nlt 414 rfl rfl (by decide)) dX9_place_49 (by exact (g2 p hpb).2.1) ?_
        refine S_lstore (L' := [(0, _), (1, _), (2, _), (3, _), (5, _)]) dX9_place_50 rfl rfl ?_
        first | refine V_aload_n dX9_place_52 rfl rfl ?_ | refine V_aload_nN dX9_place_52 rfl rfl ?_
        first | refine V_getr (by exact h1.1.k _ rfl rfl) fX9_7 dX9_place_53 (by exact (h1.1.r 0 rfl (by decide) : _ = some 401)) ?_ | refine V_getrN (by exact h1.1.k _ rfl rfl) fX9_7 dX9_place_53 (by exact (h1.1.r 0 rfl (by decide) : _ = some 401)) ?_
        first | refine V_aload_n dX9_place_56 rfl rfl ?_ | refine V_aload_nN dX9_place_56 rfl rfl ?_
        first | refine V_getr (by exact h1.1.k _ rfl rfl) fX9_31 dX9_place_57 (by exact (h1.1.r 8 rfl (by decide) : _ = some 409)) ?_ | refine V_getrN (by exact h1.1.k _ rfl rfl) fX9_31 dX9_place_57 (by exact (h1.1.r 8 rfl (by decide) : _ = some 409)) ?_
        refine V_iload_n dX9_place_60 rfl rfl ?_
        refine G_iald (j := b) (by exact h1.1.k _ rfl rfl) (by rfl) (by exact h1.1.lt 409 (m := 10) rfl rfl (by decide) rfl (by have := h.n10; omega)) (by exact h1.1.nlt 409 rfl rfl (by decide)) dX9_place_61 (by exact h1.trn hb) ?_
        refine G_iald (j := kTrn k b) (by exact h1.1.k _ rfl rfl) (by rfl) (by exact h1.1.lt 401 (m := 36) rfl rfl (by decide) rfl (by exact (h1.wf hb).2.2.2.2.2.2)) (by exact h1.1.nlt 401 rfl rfl (by decide)) dX9_place_62 (by exact h1.cs (h1.wf hb).2.2.2.2.2.2) ?_
        refine V_i2l dX9_place_63 ?_
        refine S_lstore (L' := [(0, _), (1, _), (2, _), (3, _), (5, _), (7, _)]) dX9_place_64 rfl rfl ?_
        first | refine V_aload_n dX9_place_66 rfl rfl ?_ | refine V_aload_nN dX9_place_66 rfl rfl ?_
        first | refine V_getr (by exact h1.1.k _ rfl rfl) fX9_13 dX9_place_67 (by exact (h1.1.r 1 rfl (by decide) : _ = some 402)) ?_ | refine V_getrN (by exact h1.1.k _ rfl rfl) fX9_13 dX9_place_67 (by exact (h1.1.r 1 rfl (by decide) : _ = some 402)) ?_
        first | refine V_aload_n dX9_place_70 rfl rfl ?_ | refine V_aload_nN dX9_place_70 rfl rfl ?_
        first | refine V_getr (by exact h1.1.k _ rfl rfl) fX9_31 dX9_place_71 (by exact (h1.1.r 8 rfl (by decide) : _ = some 409)) ?_ | refine V_getrN (by exact h1.1.k _ rfl rfl) fX9_31 dX9_place_71 (by exact (h1.1.r 8 rfl (by decide) : _ = some 409)) ?_
        refine V_iload_n dX9_place_74 rfl rfl ?_
        refine G_iald (j := b) (by exact h1.1.k _ rfl rfl) (by rfl) (by exact h1.1.lt 409 (m := 10) rfl rfl (by decide) rfl (by have := h.n10; omega)) (by exact h1.1.nlt 409 rfl rfl (by decide)) dX9_place_75 (by exact h1.trn hb) ?_
        refine G_iald (j := kTrn k b) (by exact h1.1.k _ rfl rfl) (by rfl) (by exact h1.1.lt 402 (m := 36) rfl rfl (by decide) rfl (by exact (h1.wf hb).2.2.2.2.2.2)) (by exact h1.1.nlt 402 rfl rfl (by decide)) dX9_place_76 (by exact h1.ss (h1.wf hb).2.2.2.2.2.2) ?_
        refine V_i2l dX9_place_77 ?_
        refine S_lstore (L' := [(0, _), (1, _), (2, _), (3, _), (5, _), (7, _), (9, _)]) dX9_place_78 rfl rfl ?_
        first | refine V_aload_n dX9_place_80 rfl rfl ?_ | refine V_aload_nN dX9_place_80 rfl rfl ?_
        first | refine V_getr (by exact h1.1.k _ rfl rfl) fX9_38 dX9_place_81 (by exact (h1.1.r 12 rfl (by decide) : _ = some 413)) ?_ | refine V_getrN (by exact h1.1.k _ rfl rfl) fX9_38 dX9_place_81 (by exact (h1.1.r 12 rfl (by decide) : _ = some 413)) ?_
        refine V_iload_n dX9_place_84 rfl rfl ?_
        refine V_lload_n dX9_place_85 rfl rfl ?_
        refine V_lload dX9_place_86 rfl ?_
        refine V_lmul dX9_place_88 ?_
        refine V_lload dX9_place_89 rfl ?_
        refine V_lload dX9_place_91 rfl ?_
        refine V_lmul dX9_place_93 ?_
        refine V_lsub dX9_place_94 ?_
        refine V_ldc2 ctX9_138 dX9_place_95 ?_
        refine V_ldiv dX9_place_98 (by decide) ?_
        refine G_last (j := b) (by exact h1.1.k _ rfl rfl) (by rfl) (by exact h1.1.lt 413 (m := 10) rfl rfl (by decide) rfl (by have := h.n10; omega)) (by exact h1.1.nlt 413 rfl rfl (by decide)) dX9_place_99 ?_
        first | refine V_aload_n dX9_place_100 rfl rfl ?_ | refine V_aload_nN dX9_place_100 rfl rfl ?_
        first | refine V_getr (by exact h1.1.k _ rfl rfl) fX9_42 dX9_place_101 (by exact (h1.1.r 13 rfl (by decide) : _ = some 414)) ?_ | refine V_getrN (by exact h1.1.k _ rfl rfl) fX9_42 dX9_place_101 (by exact (h1.1.r 13 rfl (by decide) : _ = some 414)) ?_
        refine V_iload_n dX9_place_104 rfl rfl ?_
        refine V_lload_n dX9_place_105 rfl rfl ?_
        refine V_lload dX9_place_106 rfl ?_
        refine V_lmul dX9_place_108 ?_
        refine V_lload dX9_place_109 rfl ?_
        refine V_lload dX9_place_111 rfl ?_
        refine V_lmul dX9_place_113 ?_
        refine V_ladd dX9_place_114 ?_
        refine V_ldc2 ctX9_138 dX9_place_115 ?_
        refine V_ldiv dX9_place_118 (by decide) ?_
        refine G_last (j := b) (by exact h1.1.k _ rfl rfl) (by rfl) (by exact h1.1.lt 414 (m := 10) rfl rfl (by decide) rfl (by have := h.n10; omega)) (by exact h1.1.nlt 414 rfl rfl (by decide)) dX9_place_119 ?_
        first | refine V_aload_n dX9_place_120 rfl rfl ?_ | refine V_aload_nN dX9_place_120 rfl rfl ?_
        first | refine V_getr (by exact h1.1.k _ rfl rfl) fX9_45 dX9_place_121 (by exact (h1.1.r 14 rfl (by decide) : _ = some 415)) ?_ | refine V_getrN (by exact h1.1.k _ rfl rfl) fX9_45 dX9_place_121 (by exact (h1.1.r 14 rfl (by decide) : _ = some 415)) ?_
        refine V_iload_n dX9_place_124 rfl rfl ?_
        refine V_iload_n dX9_place_125 rfl rfl ?_
        refine V_iconst (v := -1) dX9_place_126 (by decide) ?_
        refine V_icmp_ne (tgt := 137) dX9_place_127 (by decide) (fun c127 => ?_) (fun c127 => False.elim (by exact (nI_nm1 (by have := h.n10; omega)) c127))
        first | refine V_aload_n dX9_place_137 rfl rfl ?_ | refine V_aload_nN dX9_place_137 rfl rfl ?_
        first | refine V_getr (by exact h1.1.k _ rfl rfl) fX9_45 dX9_place_138 (by exact (h1.1.r 14 rfl (by decide) : _ = some 415)) ?_ | refine V_getrN (by exact h1.1.k _ rfl rfl) fX9_45 dX9_place_138 (by exact (h1.1.r 14 rfl (by decide) : _ = some 415)) ?_
        refine V_iload_n dX9_place_141 rfl rfl ?_
        refine G_lald (j := p) (by exact h1.1.k _ rfl rfl) (by rfl) (by exact h1.1.lt 415 (m := 10) rfl rfl (by decide) rfl (by have := h.n10; omega)) (by exact h1.1.nlt 415 rfl rfl (by decide)) dX9_place_142 (by exact (rdJ_nn (by decide)).trans ((rdJ_nn (by decide)).trans (g2 p hpb).2.2.1)) ?_
        first | refine V_aload_n dX9_place_143 rfl rfl ?_ | refine V_aload_nN dX9_place_143 rfl rfl ?_
        first | refine V_getr (by exact h1.1.k _ rfl rfl) fX9_19 dX9_place_144 (by exact (h1.1.r 4 rfl (by decide) : _ = some 405)) ?_ | refine V_getrN (by exact h1.1.k _ rfl rfl) fX9_19 dX9_place_144 (by exact (h1.1.r 4 rfl (by decide) : _ = some 405)) ?_
        refine V_iload_n dX9_place_147 rfl rfl ?_
        refine G_iald (j := b) (by exact h1.1.k _ rfl rfl) (by rfl) (by exact h1.1.lt 405 (m := 10) rfl rfl (by decide) rfl (by have := h.n10; omega)) (by exact h1.1.nlt 405 rfl rfl (by decide)) dX9_place_148 (by exact h1.len hb) ?_
        refine V_i2l dX9_place_149 ?_
        first | refine V_aload_n dX9_place_150 rfl rfl ?_ | refine V_aload_nN dX9_place_150 rfl rfl ?_
        first | refine V_getr (by exact h1.1.k _ rfl rfl) fX9_38 dX9_place_151 (by exact (h1.1.r 12 rfl (by decide) : _ = some 413)) ?_ | refine V_getrN (by exact h1.1.k _ rfl rfl) fX9_38 dX9_place_151 (by exact (h1.1.r 12 rfl (by decide) : _ = some 413)) ?_
        refine V_iload_n dX9_place_154 rfl rfl ?_
        refine G_lald (j := b) (by exact h1.1.k _ rfl rfl) (by rfl) (by exact h1.1.lt 413 (m := 10) rfl rfl (by decide) rfl (by have := h.n10; omega)) (by exact h1.1.nlt 413 rfl rfl (by decide)) dX9_place_155 (by exact (rdJ_nn (by decide)).trans rdJ_eq) ?_
        refine V_lmul dX9_place_156 ?_
        refine V_ladd dX9_place_157 ?_
        refine G_last (j := b) (by exact h1.1.k _ rfl rfl) (by rfl) (by exact h1.1.lt 415 (m := 10) rfl rfl (by decide) rfl (by have := h.n10; omega)) (by exact h1.1.nlt 415 rfl rfl (by decide)) dX9_place_158 ?_
        first | refine V_aload_n dX9_place_159 rfl rfl ?_ | refine V_aload_nN dX9_place_159 rfl rfl ?_
        first | refine V_getr (by exact h1.1.k _ rfl rfl) fX9_48 dX9_place_160 (by exact (h1.1.r 15 rfl (by decide) : _ = some 416)) ?_ | refine V_getrN (by exact h1.1.k _ rfl rfl) fX9_48 dX9_place_160 (by exact (h1.1.r 15 rfl (by decide) : _ = some 416)) ?_
        refine V_iload_n dX9_place_163 rfl rfl ?_
        refine V_iload_n dX9_place_164 rfl rfl ?_
        refine V_iconst (v := -1) dX9_place_165 (by decide) ?_
        refine V_icmp_ne (tgt := 176) dX9_place_166 (by decide) (fun c166 => ?_) (fun c166 => False.elim (by exact (nI_nm1 (by have := h.n10; omega)) c166))
        first | refine V_aload_n dX9_place_176 rfl rfl ?_ | refine V_aload_nN dX9_place_176 rfl rfl ?_
        first | refine V_getr (by exact h1.1.k _ rfl rfl) fX9_48 dX9_place_177 (by exact (h1.1.r 15 rfl (by decide) : _ = some 416)) ?_ | refine V_getrN (by exact h1.1.k _ rfl rfl) fX9_48 dX9_place_177 (by exact (h1.1.r 15 rfl (by decide) : _ = some 416)) ?_
        refine V_iload_n dX9_place_180 rfl rfl ?_
        refine G_lald (j := p) (by exact h1.1.k _ rfl rfl) (by rfl) (by exact h1.1.lt 416 (m := 10) rfl rfl (by decide) rfl (by have := h.n10; omega)) (by exact h1.1.nlt 416 rfl rfl (by decide)) dX9_place_181 (by exact (rdJ_nn (by decide)).trans ((rdJ_nn (by decide)).trans ((rdJ_nn (by decide)).trans (g2 p hpb).2.2.2))) ?_
        first | refine V_aload_n dX9_place_182 rfl rfl ?_ | refine V_aload_nN dX9_place_182 rfl rfl ?_
        first | refine V_getr (by exact h1.1.k _ rfl rfl) fX9_19 dX9_place_183 (by exact (h1.1.r 4 rfl (by decide) : _ = some 405)) ?_ | refine V_getrN (by exact h1.1.k _ rfl rfl) fX9_19 dX9_place_183 (by exact (h1.1.r 4 rfl (by decide) : _ = some 405)) ?_
        refine V_iload_n dX9_place_186 rfl rfl ?_
        refine G_iald (j := b) (by exact h1.1.k _ rfl rfl) (by rfl) (by exact h1.1.lt 405 (m := 10) rfl rfl (by decide) rfl (by have := h.n10; omega)) (by exact h1.1.nlt 405 rfl rfl (by decide)) dX9_place_187 (by exact h1.len hb) ?_
        refine V_i2l dX9_place_188 ?_
        first | refine V_aload_n dX9_place_189 rfl rfl ?_ | refine V_aload_nN dX9_place_189 rfl rfl ?_
        first | refine V_getr (by exact h1.1.k _ rfl rfl) fX9_42 dX9_place_190 (by exact (h1.1.r 13 rfl (by decide) : _ = some 414)) ?_ | refine V_getrN (by exact h1.1.k _ rfl rfl) fX9_42 dX9_place_190 (by exact (h1.1.r 13 rfl (by decide) : _ = some 414)) ?_
        refine V_iload_n dX9_place_193 rfl rfl ?_
        refine G_lald (j := b) (by exact h1.1.k _ rfl rfl) (by rfl) (by exact h1.1.lt 414 (m := 10) rfl rfl (by decide) rfl (by have := h.n10; omega)) (by exact h1.1.nlt 414 rfl rfl (by decide)) dX9_place_194 (by exact (rdJ_nn (by decide)).trans rdJ_eq) ?_
        refine V_lmul dX9_place_195 ?_
        refine V_ladd dX9_place_196 ?_
        refine G_last (j := b) (by exact h1.1.k _ rfl rfl) (by rfl) (by exact h1.1.lt 416 (m := 10) rfl rfl (by decide) rfl (by have := h.n10; omega)) (by exact h1.1.nlt 416 rfl rfl (by decide)) dX9_place_197 ?_
        have e := pos_eq h.2.1 hb
        unfold pStep pStart at e
        rw [hp] at e
        dsimp only at e
        refine S_iinc (L' := [(0, _), (1, _)]) dX9_place_198 rfl rfl rfl rfl ?_
        rw [nI_inc]
        refine V_goto (tgt := 2) dX9_place_201 (by decide) ?_
        exact ih (b + 1) (pW w1 b (_, _, _, _)) (by omega) (g1.trans (Kp.pW _ _ _)) (MPos.step g2 e.symm)
  refine V_iconst (v := 0) dX9_place_0 (by decide) ?_
  refine S_istore_n (L' := [(0, _), (1, _)]) dX9_place_1 rfl rfl rfl ?_
  exact loop (kN k) 0 w (by omega) (Kp.refl _ _ _) (fun _ q => absurd q (Nat.not_lt_zero _))
