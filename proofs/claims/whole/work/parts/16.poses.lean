/-! Skeleton: poses taken from rows -/
theorem SkX.mix {k : Sk} {u : Nat → Nat} {w1 : Wd} {b v : Nat} (h : SkX (kT k (mixT b u (kTrn k))) w1) (hu : ∀ i, i < kN k → u i < 36) (ht : ∀ i, i < kN k → kTrn k i < 36) (hv : u b = v) : SkX (kT k (mixT (b + 1) u (kTrn k))) (sI w1 (300 + b) 7 (nI v)) := by
  refine SkX.turn h (by unfold mixT; rw [if_pos (by omega)]; exact hv) (fun i hi => ?_) (fun i hi hne => ?_)
  · unfold mixT
    split
    · exact hu i hi
    · exact ht i hi
  · unfold mixT
    by_cases hl : i < b
    · rw [if_pos hl, if_pos (by omega)]
    · rw [if_neg hl, if_neg (by omega)]
theorem mixT_same {u t : Nat → Nat} {b : Nat} (h : u b = t b) : mixT (b + 1) u t = mixT b u t := funext fun i => by
  unfold mixT
  by_cases hl : i < b
  · rw [if_pos hl, if_pos (by omega)]
  · by_cases e : i = b
    · subst e; rw [if_pos (by omega), if_neg hl, h]
    · rw [if_neg hl, if_neg (by omega)]
theorem SkX.trnb {k : Sk} {u : Nat → Nat} {w1 : Wd} {b : Nat} (h : SkX (kT k (mixT b u (kTrn k))) w1) (hb : b < kN k) : wI w1 (300 + b) 7 = nI (kTrn k b) := by
  have h1 := (h.bone hb).2.2.2.2.2.2
  rw [h1]
  exact congrArg nI (if_neg (Nat.lt_irrefl b))
theorem SkP.old {k : Sk} {t : Nat → Nat} {w w1 : Wd} (h : SkP k w) (e : wJ w1 = wJ w) : ∀ b, kLck (kT k t) = some b → wJ w1 (300 + b) 12 = oldX k ∧ wJ w1 (300 + b) 13 = oldY k := by
  intro b hb
  have hb' : kLck k = some b := hb
  have g := h.2 b (h.1.2.2.1.2.2 b hb')
  unfold oldX oldY
  rw [e, hb']
  exact ⟨g.2.2.2.2.1, g.2.2.2.2.2⟩
def cntF (p : Nat → Bool) : Nat → Nat
  | 0 => 0
  | b + 1 => cntF p b + (if p b = true then 1 else 0)
theorem cntF_le (p : Nat → Bool) : ∀ n, cntF p n ≤ n
  | 0 => Nat.le_refl 0
  | n + 1 => by rw [cntF]; have := cntF_le p n; split <;> omega
theorem cntF_b01 (p : Nat → Bool) (q : Prop) [Decidable q] (n : Nat) (h : p n = true ↔ q) : nI (cntF p n) + b01 q = nI (cntF p (n + 1)) := by
  rw [cntF]
  by_cases hq : q
  · rw [b01_t hq, if_pos (h.mpr hq)]; exact nI_1 _
  · rw [b01_f hq, if_neg (fun z => hq (h.mp z))]
    show nI _ + nI 0 = _
    rw [nI_add]
def mBit (m : Int32) (b : Nat) : Prop := m >>> (nI b &&& 31) &&& 1 = 1
theorem Keep.skI {w : Wd} {n : Nat} (h : ¬ skA n) {w1 : Wd} (g : Keep boA w w1) : wI w1 n = wI w n := g.I (fun q => h (Or.inr q))

theorem SkX.other {k : Sk} {w : Wd} (h : SkX k w) {n : Nat} (hn : ¬ skA n) (j : Nat) (x : Int32) : SkX k (sI w n j x) := by
  refine ⟨h.1, h.2.1, h.2.2.1, ?_⟩
  have h4 := h.2.2.2
  have hb := h.n10
  obtain ⟨g1, g2, g3, g4, g5⟩ := h4
  refine ⟨(rdI_nn (by omega)).trans g1, (rdI_nn (by omega)).trans g2, g3, g4, fun b hb => ?_⟩
  rw [show wI (sI w n j x) (300 + b) = wI w (300 + b) from sI_ne w x (by omega)]
  exact g5 b hb

set_option maxRecDepth 100000 in
theorem c_X6_tellTurns (k : Sk) (n : Nat) (w : Wd) (h : SkX k w) (hn : wK w n = 11) (hN : kN k ≤ wN w n) (hM : wN w n < 2147483648) (hD : ¬ skA n) : Cc yX6_tellTurns mX6_tellTurns [.ref 21, .ref n] w (fun r w' => r = none ∧ Keep (fun a => a = n) w w' ∧ ∀ i, i < kN k → wI w' n i = nI (kTrn k i)) := by
  refine Cc.of (by decide) rfl rfl (Nat.le_of_ble_eq_true rfl) (fun X => ?_)
  change V _ X _ 0 [(0, _), (1, _)] [] _ (0, 0)
  have loop : ∀ (d b : Nat) (w1 : Wd), b + d = kN k → Keep (fun a => a = n) w w1 → SkX k w1 → (∀ i, i < b → wI w1 n i = nI (kTrn k i)) → V mX6_tellTurns X (mq mX6_tellTurns X (fun r w' => r = none ∧ Keep (fun a => a = n) w w' ∧ ∀ i, i < kN k → wI w' n i = nI (kTrn k i))) 2 [(0, .ref 21), (1, .ref n), (2, .int (nI b))] [] w1 (0, 0) := by
    intro d
    induction d with
    | zero =>
      intro b w1 hd g1 h1 g3
      obtain rfl : b = kN k := hd
      refine V_iload_n dX6_tellTurns_2 rfl rfl ?_
      first | refine V_aload_n dX6_tellTurns_3 rfl rfl ?_ | refine V_aload_nN dX6_tellTurns_3 rfl rfl ?_
      refine G_geti (by first | exact h1.1.k _ rfl rfl | exact h1.kb hb | exact (congrFun g1.1 _).trans hn) fX6_21 dX6_tellTurns_4 (by first | exact h1.size | exact (h1.bone hb).2.2.2.2.2.2) ?_
      refine V_icmp_ge (tgt := 28) dX6_tellTurns_7 (by decide) (fun c7 => ?_) (fun c7 => False.elim (by exact c7 (nI_le (Nat.le_refl _) (by have := h.n10; omega))))
      refine V_vret rfl dX6_tellTurns_28 (Nat.le_of_ble_eq_true rfl) (Nat.le_of_ble_eq_true rfl) ?_
      exact ⟨rfl, g1, g3⟩
    | succ d ih =>
      intro b w1 hd g1 h1 g3
      have hb : b < kN k := by omega
      refine V_iload_n dX6_tellTurns_2 rfl rfl ?_
      first | refine V_aload_n dX6_tellTurns_3 rfl rfl ?_ | refine V_aload_nN dX6_tellTurns_3 rfl rfl ?_
      refine G_geti (by first | exact h1.1.k _ rfl rfl | exact h1.kb hb | exact (congrFun g1.1 _).trans hn) fX6_21 dX6_tellTurns_4 (by first | exact h1.size | exact (h1.bone hb).2.2.2.2.2.2) ?_
      refine V_icmp_ge (tgt := 28) dX6_tellTurns_7 (by decide) (fun c7 => False.elim (by exact nI_ge (a := b) (b := kN k) (by omega) (by have := h.n10; omega) c7)) (fun c7 => ?_)
      first | refine V_aload_n dX6_tellTurns_10 rfl rfl ?_ | refine V_aload_nN dX6_tellTurns_10 rfl rfl ?_
      refine V_iload_n dX6_tellTurns_11 rfl rfl ?_
      first | refine V_aload_n dX6_tellTurns_12 rfl rfl ?_ | refine V_aload_nN dX6_tellTurns_12 rfl rfl ?_
      first | refine V_getr (by first | exact h1.1.k _ rfl rfl | exact h1.kb hb | exact (congrFun g1.1 _).trans hn) fX6_11 dX6_tellTurns_13 (by first | exact h1.1.r _ _ rfl | exact h1.rb hb) ?_ | refine V_getrN (by first | exact h1.1.k _ rfl rfl | exact h1.kb hb | exact (congrFun g1.1 _).trans hn) fX6_11 dX6_tellTurns_13 (by first | exact h1.1.r _ _ rfl | exact h1.rb hb) ?_
      refine V_iload_n dX6_tellTurns_16 rfl rfl ?_
      refine G_aald14 (j := b) (by first | exact h1.1.k _ rfl rfl | exact h1.kb hb | exact (congrFun g1.1 _).trans hn) (by rfl) (by rw [h1.1.n 26 rfl rfl]; show b < 10; have : kN k ≤ 10 := h1.n10; omega) (by first | (rw [h1.1.n 26 rfl rfl]; decide) | (rw [congrFun g1.2.1 n]; exact hM)) (by first | exact h1.1.r _ _ rfl | exact h1.rb hb) dX6_tellTurns_17 ?_
      refine G_geti (by first | exact h1.1.k _ rfl rfl | exact h1.kb hb | exact (congrFun g1.1 _).trans hn) fX6_51 dX6_tellTurns_18 (by first | exact h1.size | exact (h1.bone hb).2.2.2.2.2.2) ?_
      refine G_iast (j := b) (by first | exact h1.1.k _ rfl rfl | exact h1.kb hb | exact (congrFun g1.1 _).trans hn) (by rfl) (by rw [congrFun g1.2.1 n]; omega) (by first | (rw [h1.1.n 26 rfl rfl]; decide) | (rw [congrFun g1.2.1 n]; exact hM)) dX6_tellTurns_21 ?_
      refine S_iinc (L' := [(0, _), (1, _), (2, _)]) dX6_tellTurns_22 rfl rfl rfl rfl ?_
      rw [nI_inc]
      refine V_goto (tgt := 2) dX6_tellTurns_25 (by decide) ?_
      exact ih (b + 1) _ (by omega) (g1.trans (Keep.sI (S := fun a => a = n) _ rfl _ _)) (h1.other hD _ _) (fun i hi => by
        by_cases e : i = b
        · subst e; exact rdI_eq
        · rw [rdI_ne e]; exact g3 i (by omega))
  refine V_iconst (v := 0) dX6_tellTurns_0 (by decide) ?_
  refine S_istore_n (L' := [(0, _), (1, _), (2, _)]) dX6_tellTurns_1 rfl rfl rfl ?_
  exact loop (kN k) 0 w (by omega) (Keep.refl _ _) h (fun _ q => absurd q (Nat.not_lt_zero _))

set_option maxRecDepth 100000 in
theorem c_X6_takeTurns (k : Sk) (g : Nat → Nat) (n : Nat) (w : Wd) (h : SkP k w) (hn : wK w n = 11) (hN : kN k ≤ wN w n) (hM : wN w n < 2147483648) (hg : ∀ b, b < kN k → wI w n b = nI (g b) ∧ g b < 36) (hD : ¬ skA n) : Cc yX6_takeTurns mX6_takeTurns [.ref 21, .ref n] w (fun r w' => r = none ∧ Keep skA w w' ∧ SkP (setP k (mixT (kN k) g (kTrn k))) w') := by
  refine Cc.of (by decide) rfl rfl (Nat.le_of_ble_eq_true rfl) (fun X => ?_)
  change V _ X _ 0 [(0, _), (1, _)] [] _ (0, 0)
  have loop : ∀ (d b : Nat) (w1 : Wd), b + d = kN k → Keep boA w w1 → wJ w1 = wJ w → SkX (kT k (mixT b g (kTrn k))) w1 → V mX6_takeTurns X (mq mX6_takeTurns X (fun r w' => r = none ∧ Keep skA w w' ∧ SkP (setP k (mixT (kN k) g (kTrn k))) w')) 2 [(0, .ref 21), (1, .ref n), (2, .int (nI b))] [] w1 (0, 0) := by
    intro d
    induction d with
    | zero =>
      intro b w1 hd g1 g2 h1
      obtain rfl : b = kN k := hd
      refine V_iload_n dX6_takeTurns_2 rfl rfl ?_
      first | refine V_aload_n dX6_takeTurns_3 rfl rfl ?_ | refine V_aload_nN dX6_takeTurns_3 rfl rfl ?_
      refine G_geti (by first | exact h1.1.k _ rfl rfl | exact h1.kb hb | exact (congrFun g1.1 _).trans hn) fX6_21 dX6_takeTurns_4 (by first | exact h1.size | exact h1.trnb hb) ?_
      refine V_icmp_ge (tgt := 28) dX6_takeTurns_7 (by decide) (fun c7 => ?_) (fun c7 => False.elim (by exact c7 (nI_le (Nat.le_refl _) (by have := h.1.n10; omega))))
      first | refine V_aload_n dX6_takeTurns_28 rfl rfl ?_ | refine V_aload_nN dX6_takeTurns_28 rfl rfl ?_
      refine V_callVvr (As := []) (st := _) (c_X6_settle _ _ _ w1 h1 (h.old g2)) kX6_54 (by first | exact h1.1.k _ rfl rfl | exact h1.kb hb | exact (congrFun g1.1 _).trans hn) ⟨rfl, rfl, rfl⟩ ⟨(Nat.le_of_ble_eq_true rfl), (Nat.le_of_ble_eq_true rfl)⟩ dX6_takeTurns_29 rfl rfl (Nat.le_of_ble_eq_true rfl) ⟨(Nat.le_of_ble_eq_true rfl), (Nat.le_of_ble_eq_true rfl)⟩ (fun w2 hw2 => ?_)
      obtain ⟨a1, a2, a3⟩ := hw2
      refine V_vret rfl dX6_takeTurns_32 (Nat.le_of_ble_eq_true rfl) (Nat.le_of_ble_eq_true rfl) ?_
      exact ⟨rfl, (g1.mono (fun _ q => Or.inr q)).trans a1, a3⟩
    | succ d ih =>
      intro b w1 hd g1 g2 h1
      have hb : b < kN k := by omega
      refine V_iload_n dX6_takeTurns_2 rfl rfl ?_
      first | refine V_aload_n dX6_takeTurns_3 rfl rfl ?_ | refine V_aload_nN dX6_takeTurns_3 rfl rfl ?_
      refine G_geti (by first | exact h1.1.k _ rfl rfl | exact h1.kb hb | exact (congrFun g1.1 _).trans hn) fX6_21 dX6_takeTurns_4 (by first | exact h1.size | exact h1.trnb hb) ?_
      refine V_icmp_ge (tgt := 28) dX6_takeTurns_7 (by decide) (fun c7 => False.elim (by exact nI_ge (a := b) (b := kN k) (by omega) (by have := h.1.n10; omega) c7)) (fun c7 => ?_)
      first | refine V_aload_n dX6_takeTurns_10 rfl rfl ?_ | refine V_aload_nN dX6_takeTurns_10 rfl rfl ?_
      first | refine V_getr (by first | exact h1.1.k _ rfl rfl | exact h1.kb hb | exact (congrFun g1.1 _).trans hn) fX6_11 dX6_takeTurns_11 (by first | exact h1.1.r _ _ rfl | exact h1.rb hb) ?_ | refine V_getrN (by first | exact h1.1.k _ rfl rfl | exact h1.kb hb | exact (congrFun g1.1 _).trans hn) fX6_11 dX6_takeTurns_11 (by first | exact h1.1.r _ _ rfl | exact h1.rb hb) ?_
      refine V_iload_n dX6_takeTurns_14 rfl rfl ?_
      refine G_aald14 (j := b) (by first | exact h1.1.k _ rfl rfl | exact h1.kb hb | exact (congrFun g1.1 _).trans hn) (by rfl) (by rw [h1.1.n 26 rfl rfl]; show b < 10; have : kN k ≤ 10 := h1.n10; omega) (by first | (rw [h1.1.n 26 rfl rfl]; decide) | (rw [congrFun g1.2.1 n]; exact hM)) (by first | exact h1.1.r _ _ rfl | exact h1.rb hb) dX6_takeTurns_15 ?_
      first | refine V_aload_n dX6_takeTurns_16 rfl rfl ?_ | refine V_aload_nN dX6_takeTurns_16 rfl rfl ?_
      refine V_iload_n dX6_takeTurns_17 rfl rfl ?_
      refine G_iald (j := b) (by first | exact h1.1.k _ rfl rfl | exact h1.kb hb | exact (congrFun g1.1 _).trans hn) (by rfl) (by rw [congrFun g1.2.1 n]; omega) (by first | (rw [h1.1.n 26 rfl rfl]; decide) | (rw [congrFun g1.2.1 n]; exact hM)) dX6_takeTurns_18 (by exact (congrFun (Keep.skI hD g1) b).trans (hg b hb).1) ?_
      refine V_puti (by first | exact h1.1.k _ rfl rfl | exact h1.kb hb | exact (congrFun g1.1 _).trans hn) pfX6_51 (fun h => nomatch h) dX6_takeTurns_19 ⟨rfl, rfl⟩ ?_
      refine S_iinc (L' := [(0, _), (1, _), (2, _)]) dX6_takeTurns_22 rfl rfl rfl rfl ?_
      rw [nI_inc]
      refine V_goto (tgt := 2) dX6_takeTurns_25 (by decide) ?_
      exact ih (b + 1) _ (by omega) (g1.trans (Keep.sI _ (by have := h.1.n10; unfold boA; omega) _ _)) g2 (h1.mix (fun i hi => (hg i hi).2) (fun i hi => (h.1.wf hi).2.2.2.2.2.2) rfl)
  refine V_iconst (v := 0) dX6_takeTurns_0 (by decide) ?_
  refine S_istore_n (L' := [(0, _), (1, _), (2, _)]) dX6_takeTurns_1 rfl rfl rfl ?_
  exact loop (kN k) 0 w (by omega) (Keep.refl _ _) rfl (by rw [mixT_0]; exact h.1)

theorem blendN_lt {lo sp t u w : Nat} (hl : lo < 36) : blendN lo sp t u w < 36 := intoN_lt hl (addN_lt _ _)
/-- what a bone's turn becomes by blending -/
def blT (k : Sk) (g : Nat → Nat) (v : Nat) (m : Int32) : Nat → Nat := fun i => if m >>> (nI i &&& 31) &&& 1 = 1 then blendN (kLow k i) (kSpr k i) (kTrn k i) (g i) v else kTrn k i

set_option maxRecDepth 100000 in
theorem c_X6_blendWith (k : Sk) (g : Nat → Nat) (n v : Nat) (m : Int32) (w : Wd) (h : SkP k w) (hv : v ≤ 100) (hn : wK w n = 11) (hN : kN k ≤ wN w n) (hM : wN w n < 2147483648) (hg : ∀ b, b < kN k → wI w n b = nI (g b) ∧ g b < 36) (hD : ¬ skA n) : Cc yX6_blendWith mX6_blendWith [.ref 21, .ref n, .int (nI v), .int m] w (fun r w' => r = none ∧ Keep skA w w' ∧ SkP (setP k (mixT (kN k) (blT k g v m) (kTrn k))) w') := by
  refine Cc.of (by decide) rfl rfl (Nat.le_of_ble_eq_true rfl) (fun X => ?_)
  change V _ X _ 0 [(0, _), (1, _), (2, _), (3, _)] [] _ (0, 0)
  have hu : ∀ i, i < kN k → blT k g v m i < 36 := fun i hi => by
    unfold blT
    split
    · exact blendN_lt (h.1.wf hi).2.2.2.2.1
    · exact (h.1.wf hi).2.2.2.2.2.2
  have loop : ∀ (d b : Nat) (w1 : Wd), b + d = kN k → Keep boA w w1 → wJ w1 = wJ w → SkX (kT k (mixT b (blT k g v m) (kTrn k))) w1 → V mX6_blendWith X (mq mX6_blendWith X (fun r w' => r = none ∧ Keep skA w w' ∧ SkP (setP k (mixT (kN k) (blT k g v m) (kTrn k))) w')) 3 [(0, .ref 21), (1, .ref n), (2, .int (nI v)), (3, .int m), (4, .int (nI b))] [] w1 (0, 0) := by
    intro d
    induction d with
    | zero =>
      intro b w1 hd g1 g2 h1
      obtain rfl : b = kN k := hd
      refine V_iload dX6_blendWith_3 rfl ?_
      first | refine V_aload_n dX6_blendWith_5 rfl rfl ?_ | refine V_aload_nN dX6_blendWith_5 rfl rfl ?_
      refine G_geti (by first | exact h1.1.k _ rfl rfl | exact h1.kb hb | exact (congrFun g1.1 _).trans hn) fX6_21 dX6_blendWith_6 (by first | exact h1.size | exact h1.trnb hb) ?_
      refine V_icmp_ge (tgt := 63) dX6_blendWith_9 (by decide) (fun c9 => ?_) (fun c9 => False.elim (by exact c9 (nI_le (Nat.le_refl _) (by have := h.1.n10; omega))))
      first | refine V_aload_n dX6_blendWith_63 rfl rfl ?_ | refine V_aload_nN dX6_blendWith_63 rfl rfl ?_
      refine V_callVvr (As := []) (st := _) (c_X6_settle _ _ _ w1 h1 (h.old g2)) kX6_54 (by first | exact h1.1.k _ rfl rfl | exact h1.kb hb | exact (congrFun g1.1 _).trans hn) ⟨rfl, rfl, rfl⟩ ⟨(Nat.le_of_ble_eq_true rfl), (Nat.le_of_ble_eq_true rfl)⟩ dX6_blendWith_64 rfl rfl (Nat.le_of_ble_eq_true rfl) ⟨(Nat.le_of_ble_eq_true rfl), (Nat.le_of_ble_eq_true rfl)⟩ (fun w2 hw2 => ?_)
      obtain ⟨a1, a2, a3⟩ := hw2
      refine V_vret rfl dX6_blendWith_67 (Nat.le_of_ble_eq_true rfl) (Nat.le_of_ble_eq_true rfl) ?_
      exact ⟨rfl, (g1.mono (fun _ q => Or.inr q)).trans a1, a3⟩
    | succ d ih =>
      intro b w1 hd g1 g2 h1
      have hb : b < kN k := by omega
      refine V_iload dX6_blendWith_3 rfl ?_
      first | refine V_aload_n dX6_blendWith_5 rfl rfl ?_ | refine V_aload_nN dX6_blendWith_5 rfl rfl ?_
      refine G_geti (by first | exact h1.1.k _ rfl rfl | exact h1.kb hb | exact (congrFun g1.1 _).trans hn) fX6_21 dX6_blendWith_6 (by first | exact h1.size | exact h1.trnb hb) ?_
      refine V_icmp_ge (tgt := 63) dX6_blendWith_9 (by decide) (fun c9 => False.elim (by exact nI_ge (a := b) (b := kN k) (by omega) (by have := h.1.n10; omega) c9)) (fun c9 => ?_)
      refine V_iload_n dX6_blendWith_12 rfl rfl ?_
      refine V_iload dX6_blendWith_13 rfl ?_
      refine V_ishr dX6_blendWith_15 ?_
      refine V_iconst (v := 1) dX6_blendWith_16 (by decide) ?_
      refine V_iand dX6_blendWith_17 ?_
      refine V_iconst (v := 1) dX6_blendWith_18 (by decide) ?_
      refine V_icmp_ne (tgt := 57) dX6_blendWith_19 (by decide) (fun c19 => ?_) (fun c19 => ?_)
      · refine S_iinc (L' := [(0, _), (1, _), (2, _), (3, _), (4, _)]) dX6_blendWith_57 rfl rfl rfl rfl ?_
        rw [nI_inc]
        refine V_goto (tgt := 3) dX6_blendWith_60 (by decide) ?_
        first | exact ih (b + 1) _ (by omega) (g1.trans (Keep.sI _ (by have := h.1.n10; unfold boA; omega) _ _)) g2 (h1.mix hu (fun i hi => (h.1.wf hi).2.2.2.2.2.2) (if_pos c19)) | exact ih (b + 1) _ (by omega) g1 g2 (by rw [mixT_same (if_neg c19)]; exact h1)
      · first | refine V_aload_n dX6_blendWith_22 rfl rfl ?_ | refine V_aload_nN dX6_blendWith_22 rfl rfl ?_
        first | refine V_getr (by first | exact h1.1.k _ rfl rfl | exact h1.kb hb | exact (congrFun g1.1 _).trans hn) fX6_11 dX6_blendWith_23 (by first | exact h1.1.r _ _ rfl | exact h1.rb hb) ?_ | refine V_getrN (by first | exact h1.1.k _ rfl rfl | exact h1.kb hb | exact (congrFun g1.1 _).trans hn) fX6_11 dX6_blendWith_23 (by first | exact h1.1.r _ _ rfl | exact h1.rb hb) ?_
        refine V_iload dX6_blendWith_26 rfl ?_
        refine G_aald14 (j := b) (by first | exact h1.1.k _ rfl rfl | exact h1.kb hb | exact (congrFun g1.1 _).trans hn) (by rfl) (by rw [h1.1.n 26 rfl rfl]; show b < 10; have : kN k ≤ 10 := h1.n10; omega) (by first | (rw [h1.1.n 26 rfl rfl]; decide) | (rw [congrFun g1.2.1 n]; exact hM)) (by first | exact h1.1.r _ _ rfl | exact h1.rb hb) dX6_blendWith_28 ?_
        first | refine V_aload_n dX6_blendWith_29 rfl rfl ?_ | refine V_aload_nN dX6_blendWith_29 rfl rfl ?_
        first | refine V_getr (by first | exact h1.1.k _ rfl rfl | exact h1.kb hb | exact (congrFun g1.1 _).trans hn) fX6_11 dX6_blendWith_30 (by first | exact h1.1.r _ _ rfl | exact h1.rb hb) ?_ | refine V_getrN (by first | exact h1.1.k _ rfl rfl | exact h1.kb hb | exact (congrFun g1.1 _).trans hn) fX6_11 dX6_blendWith_30 (by first | exact h1.1.r _ _ rfl | exact h1.rb hb) ?_
        refine V_iload dX6_blendWith_33 rfl ?_
        refine G_aald14 (j := b) (by first | exact h1.1.k _ rfl rfl | exact h1.kb hb | exact (congrFun g1.1 _).trans hn) (by rfl) (by rw [h1.1.n 26 rfl rfl]; show b < 10; have : kN k ≤ 10 := h1.n10; omega) (by first | (rw [h1.1.n 26 rfl rfl]; decide) | (rw [congrFun g1.2.1 n]; exact hM)) (by first | exact h1.1.r _ _ rfl | exact h1.rb hb) dX6_blendWith_35 ?_
        first | refine V_aload_n dX6_blendWith_36 rfl rfl ?_ | refine V_aload_nN dX6_blendWith_36 rfl rfl ?_
        first | refine V_getr (by first | exact h1.1.k _ rfl rfl | exact h1.kb hb | exact (congrFun g1.1 _).trans hn) fX6_11 dX6_blendWith_37 (by first | exact h1.1.r _ _ rfl | exact h1.rb hb) ?_ | refine V_getrN (by first | exact h1.1.k _ rfl rfl | exact h1.kb hb | exact (congrFun g1.1 _).trans hn) fX6_11 dX6_blendWith_37 (by first | exact h1.1.r _ _ rfl | exact h1.rb hb) ?_
        refine V_iload dX6_blendWith_40 rfl ?_
        refine G_aald14 (j := b) (by first | exact h1.1.k _ rfl rfl | exact h1.kb hb | exact (congrFun g1.1 _).trans hn) (by rfl) (by rw [h1.1.n 26 rfl rfl]; show b < 10; have : kN k ≤ 10 := h1.n10; omega) (by first | (rw [h1.1.n 26 rfl rfl]; decide) | (rw [congrFun g1.2.1 n]; exact hM)) (by first | exact h1.1.r _ _ rfl | exact h1.rb hb) dX6_blendWith_42 ?_
        refine G_geti (by first | exact h1.1.k _ rfl rfl | exact h1.kb hb | exact (congrFun g1.1 _).trans hn) fX6_51 dX6_blendWith_43 (by first | exact h1.size | exact h1.trnb hb) ?_
        first | refine V_aload_n dX6_blendWith_46 rfl rfl ?_ | refine V_aload_nN dX6_blendWith_46 rfl rfl ?_
        refine V_iload dX6_blendWith_47 rfl ?_
        refine G_iald (j := b) (by first | exact h1.1.k _ rfl rfl | exact h1.kb hb | exact (congrFun g1.1 _).trans hn) (by rfl) (by rw [congrFun g1.2.1 n]; omega) (by first | (rw [h1.1.n 26 rfl rfl]; decide) | (rw [congrFun g1.2.1 n]; exact hM)) dX6_blendWith_49 (by exact (congrFun (Keep.skI hD g1) b).trans (hg b hb).1) ?_
        refine V_iload_n dX6_blendWith_50 rfl rfl ?_
        refine V_callV (As := [_, _, _]) (st := _) (c_X0_blended (kTrn k b) (g b) v (300 + b) (kLow k b) (kSpr k b) w1 (h1.kb hb) (h1.bone hb).2.2.2.1 (h1.bone hb).2.2.2.2.1 (h.1.wf hb).2.2.2.2.1 (h.1.wf hb).2.2.2.2.2.1 (h1.bone hb).2.2.2.2.2.1 (h.1.wf hb).2.2.2.2.2.2 (hg b hb).2 hv) kX6_57 (by first | exact h1.1.k _ rfl rfl | exact h1.kb hb | exact (congrFun g1.1 _).trans hn) ⟨rfl, rfl, rfl⟩ ⟨(Nat.le_of_ble_eq_true rfl), (Nat.le_of_ble_eq_true rfl)⟩ dX6_blendWith_51 rfl rfl (Nat.le_of_ble_eq_true rfl) ⟨(Nat.le_of_ble_eq_true rfl), (Nat.le_of_ble_eq_true rfl)⟩ ?_
        refine V_puti (by first | exact h1.1.k _ rfl rfl | exact h1.kb hb | exact (congrFun g1.1 _).trans hn) pfX6_51 (fun h => nomatch h) dX6_blendWith_54 ⟨rfl, rfl⟩ ?_
        refine S_iinc (L' := [(0, _), (1, _), (2, _), (3, _), (4, _)]) dX6_blendWith_57 rfl rfl rfl rfl ?_
        rw [nI_inc]
        refine V_goto (tgt := 3) dX6_blendWith_60 (by decide) ?_
        first | exact ih (b + 1) _ (by omega) (g1.trans (Keep.sI _ (by have := h.1.n10; unfold boA; omega) _ _)) g2 (h1.mix hu (fun i hi => (h.1.wf hi).2.2.2.2.2.2) (if_pos c19)) | exact ih (b + 1) _ (by omega) g1 g2 (by rw [mixT_same (if_neg c19)]; exact h1)
  refine V_iconst (v := 0) dX6_blendWith_0 (by decide) ?_
  refine S_istore (L' := [(0, _), (1, _), (2, _), (3, _), (4, _)]) dX6_blendWith_1 rfl rfl ?_
  exact loop (kN k) 0 w (by omega) (Keep.refl _ _) rfl (by rw [mixT_0]; exact h.1)

def adT (k : Sk) (p q : Nat → Nat) : Nat → Nat := fun i => addN (kTrn k i) (shortN (q i) (p i))
/-- a turn taken into limits -/
def inT (k : Sk) (a : Nat → Nat) : Nat → Nat := fun i => intoN (kLow k i) (kSpr k i) (a i)
/-- whether it was outside -/
def ouT (k : Sk) (a : Nat → Nat) : Nat → Bool := fun i => decide (¬ wi (kLow k i) (kSpr k i) (a i))

set_option maxRecDepth 100000 in
theorem c_X6_addDifference (k : Sk) (g gq : Nat → Nat) (n n2 : Nat) (w : Wd) (h : SkP k w) (hn : wK w n = 11) (hN : kN k ≤ wN w n) (hM : wN w n < 2147483648) (hg : ∀ b, b < kN k → wI w n b = nI (g b) ∧ g b < 36) (hD : ¬ skA n) (hn2 : wK w n2 = 11) (hN2 : kN k ≤ wN w n2) (hM2 : wN w n2 < 2147483648) (hg2 : ∀ b, b < kN k → wI w n2 b = nI (gq b) ∧ gq b < 36) (hD2 : ¬ skA n2) : Cc yX6_addDifference mX6_addDifference [.ref 21, .ref n, .ref n2] w (fun r w' => ∃ v, r = some v ∧ v = .int (nI (cntF (ouT k (adT k g gq)) (kN k))) ∧ Keep skA w w' ∧ SkP (setP k (mixT (kN k) (inT k (adT k g gq)) (kTrn k))) w') := by
  refine Cc.of (by decide) rfl rfl (Nat.le_of_ble_eq_true rfl) (fun X => ?_)
  change V _ X _ 0 [(0, _), (1, _), (2, _)] [] _ (0, 0)
  have hu : ∀ iz, iz < kN k → (inT k (adT k g gq)) iz < 36 := fun iz hi => intoN_lt (h.1.wf hi).2.2.2.2.1 (by exact addN_lt _ _)
  have loop : ∀ (d b : Nat) (w1 : Wd), b + d = kN k → Keep boA w w1 → wJ w1 = wJ w → SkX (kT k (mixT b (inT k (adT k g gq)) (kTrn k))) w1 → V mX6_addDifference X (mq mX6_addDifference X (fun r w' => ∃ v, r = some v ∧ v = .int (nI (cntF (ouT k (adT k g gq)) (kN k))) ∧ Keep skA w w' ∧ SkP (setP k (mixT (kN k) (inT k (adT k g gq)) (kTrn k))) w')) 5 [(0, .ref 21), (1, .ref n), (2, .ref n2), (3, .int (nI (cntF (ouT k (adT k g gq)) b))), (4, .int (nI b))] [] w1 (0, 0) := by
    intro d
    induction d with
    | zero =>
      intro b w1 hd g1 g2 h1
      obtain rfl : b = kN k := hd
      refine V_iload dX6_addDifference_5 rfl ?_
      first | refine V_aload_n dX6_addDifference_7 rfl rfl ?_ | refine V_aload_nN dX6_addDifference_7 rfl rfl ?_
      refine G_geti (by first | exact h1.1.k _ rfl rfl | exact h1.kb hb | exact (congrFun g1.1 _).trans hn | exact (congrFun g1.1 _).trans hn2) fX6_21 dX6_addDifference_8 (by first | exact h1.size | exact h1.trnb hb) ?_
      refine V_icmp_ge (tgt := 62) dX6_addDifference_11 (by decide) (fun c11 => ?_) (fun c11 => False.elim (by exact c11 (nI_le (Nat.le_refl _) (by have := h.1.n10; omega))))
      first | refine V_aload_n dX6_addDifference_62 rfl rfl ?_ | refine V_aload_nN dX6_addDifference_62 rfl rfl ?_
      refine V_callVvr (As := []) (st := _) (c_X6_settle _ _ _ w1 h1 (h.old g2)) kX6_54 (by first | exact h1.1.k _ rfl rfl | exact h1.kb hb | exact (congrFun g1.1 _).trans hn | exact (congrFun g1.1 _).trans hn2) ⟨rfl, rfl, rfl⟩ ⟨(Nat.le_of_ble_eq_true rfl), (Nat.le_of_ble_eq_true rfl)⟩ dX6_addDifference_63 rfl rfl (Nat.le_of_ble_eq_true rfl) ⟨(Nat.le_of_ble_eq_true rfl), (Nat.le_of_ble_eq_true rfl)⟩ (fun w2 hw2 => ?_)
      obtain ⟨a1, a2, a3⟩ := hw2
      refine V_iload_n dX6_addDifference_66 rfl rfl ?_
      refine V_iret rfl dX6_addDifference_67 (Nat.le_of_ble_eq_true rfl) (Nat.le_of_ble_eq_true rfl) ?_
      exact ⟨_, rfl, rfl, (g1.mono (fun _ q => Or.inr q)).trans a1, a3⟩
    | succ d ih =>
      intro b w1 hd g1 g2 h1
      have hb : b < kN k := by omega
      refine V_iload dX6_addDifference_5 rfl ?_
      first | refine V_aload_n dX6_addDifference_7 rfl rfl ?_ | refine V_aload_nN dX6_addDifference_7 rfl rfl ?_
      refine G_geti (by first | exact h1.1.k _ rfl rfl | exact h1.kb hb | exact (congrFun g1.1 _).trans hn | exact (congrFun g1.1 _).trans hn2) fX6_21 dX6_addDifference_8 (by first | exact h1.size | exact h1.trnb hb) ?_
      refine V_icmp_ge (tgt := 62) dX6_addDifference_11 (by decide) (fun c11 => False.elim (by exact nI_ge (a := b) (b := kN k) (by omega) (by have := h.1.n10; omega) c11)) (fun c11 => ?_)
      first | refine V_aload_n dX6_addDifference_14 rfl rfl ?_ | refine V_aload_nN dX6_addDifference_14 rfl rfl ?_
      refine V_iload dX6_addDifference_15 rfl ?_
      refine G_iald (j := b) (by first | exact h1.1.k _ rfl rfl | exact h1.kb hb | exact (congrFun g1.1 _).trans hn | exact (congrFun g1.1 _).trans hn2) (by rfl) (by rw [congrFun g1.2.1 n2]; omega) (by first | (rw [h1.1.n 26 rfl rfl]; decide) | (rw [congrFun g1.2.1 n]; exact hM) | (rw [congrFun g1.2.1 n2]; exact hM2)) dX6_addDifference_17 (by exact (congrFun (Keep.skI hD2 g1) b).trans (hg2 b hb).1) ?_
      first | refine V_aload_n dX6_addDifference_18 rfl rfl ?_ | refine V_aload_nN dX6_addDifference_18 rfl rfl ?_
      refine V_iload dX6_addDifference_19 rfl ?_
      refine G_iald (j := b) (by first | exact h1.1.k _ rfl rfl | exact h1.kb hb | exact (congrFun g1.1 _).trans hn | exact (congrFun g1.1 _).trans hn2) (by rfl) (by rw [congrFun g1.2.1 n]; omega) (by first | (rw [h1.1.n 26 rfl rfl]; decide) | (rw [congrFun g1.2.1 n]; exact hM) | (rw [congrFun g1.2.1 n2]; exact hM2)) dX6_addDifference_21 (by exact (congrFun (Keep.skI hD g1) b).trans (hg b hb).1) ?_
      refine V_callS (As := [_, _]) (st := _) (c_X7_shortWay _ _ _) kX6_61 ⟨rfl, rfl, rfl⟩ ⟨(Nat.le_of_ble_eq_true rfl), (Nat.le_of_ble_eq_true rfl)⟩ dX6_addDifference_22 rfl rfl (Nat.le_of_ble_eq_true rfl) ⟨(Nat.le_of_ble_eq_true rfl), (Nat.le_of_ble_eq_true rfl)⟩ ?_
      refine S_istore (L' := [(0, _), (1, _), (2, _), (3, _), (4, _), (5, _)]) dX6_addDifference_25 rfl rfl ?_
      refine V_iload_n dX6_addDifference_27 rfl rfl ?_
      first | refine V_aload_n dX6_addDifference_28 rfl rfl ?_ | refine V_aload_nN dX6_addDifference_28 rfl rfl ?_
      first | refine V_getr (by first | exact h1.1.k _ rfl rfl | exact h1.kb hb | exact (congrFun g1.1 _).trans hn | exact (congrFun g1.1 _).trans hn2) fX6_11 dX6_addDifference_29 (by first | exact h1.1.r _ _ rfl | exact h1.rb hb) ?_ | refine V_getrN (by first | exact h1.1.k _ rfl rfl | exact h1.kb hb | exact (congrFun g1.1 _).trans hn | exact (congrFun g1.1 _).trans hn2) fX6_11 dX6_addDifference_29 (by first | exact h1.1.r _ _ rfl | exact h1.rb hb) ?_
      refine V_iload dX6_addDifference_32 rfl ?_
      refine G_aald14 (j := b) (by first | exact h1.1.k _ rfl rfl | exact h1.kb hb | exact (congrFun g1.1 _).trans hn | exact (congrFun g1.1 _).trans hn2) (by rfl) (by rw [h1.1.n 26 rfl rfl]; show b < 10; have : kN k ≤ 10 := h1.n10; omega) (by first | (rw [h1.1.n 26 rfl rfl]; decide) | (rw [congrFun g1.2.1 n]; exact hM) | (rw [congrFun g1.2.1 n2]; exact hM2)) (by first | exact h1.1.r _ _ rfl | exact h1.rb hb) dX6_addDifference_34 ?_
      first | refine V_aload_n dX6_addDifference_35 rfl rfl ?_ | refine V_aload_nN dX6_addDifference_35 rfl rfl ?_
      first | refine V_getr (by first | exact h1.1.k _ rfl rfl | exact h1.kb hb | exact (congrFun g1.1 _).trans hn | exact (congrFun g1.1 _).trans hn2) fX6_11 dX6_addDifference_36 (by first | exact h1.1.r _ _ rfl | exact h1.rb hb) ?_ | refine V_getrN (by first | exact h1.1.k _ rfl rfl | exact h1.kb hb | exact (congrFun g1.1 _).trans hn | exact (congrFun g1.1 _).trans hn2) fX6_11 dX6_addDifference_36 (by first | exact h1.1.r _ _ rfl | exact h1.rb hb) ?_
      refine V_iload dX6_addDifference_39 rfl ?_
      refine G_aald14 (j := b) (by first | exact h1.1.k _ rfl rfl | exact h1.kb hb | exact (congrFun g1.1 _).trans hn | exact (congrFun g1.1 _).trans hn2) (by rfl) (by rw [h1.1.n 26 rfl rfl]; show b < 10; have : kN k ≤ 10 := h1.n10; omega) (by first | (rw [h1.1.n 26 rfl rfl]; decide) | (rw [congrFun g1.2.1 n]; exact hM) | (rw [congrFun g1.2.1 n2]; exact hM2)) (by first | exact h1.1.r _ _ rfl | exact h1.rb hb) dX6_addDifference_41 ?_
      refine G_geti (by first | exact h1.1.k _ rfl rfl | exact h1.kb hb | exact (congrFun g1.1 _).trans hn | exact (congrFun g1.1 _).trans hn2) fX6_51 dX6_addDifference_42 (by first | exact h1.size | exact h1.trnb hb) ?_
      refine V_iload dX6_addDifference_45 rfl ?_
      refine V_iadd dX6_addDifference_47 ?_
      refine V_callS (As := [_]) (st := _) (c_X7_normal _ _) kX6_67 ⟨rfl, rfl, rfl⟩ ⟨(Nat.le_of_ble_eq_true rfl), (Nat.le_of_ble_eq_true rfl)⟩ dX6_addDifference_48 rfl rfl (Nat.le_of_ble_eq_true rfl) ⟨(Nat.le_of_ble_eq_true rfl), (Nat.le_of_ble_eq_true rfl)⟩ ?_
      rw [tShort_N (hg2 b hb).2 (hg b hb).2, rN_add (h.1.wf hb).2.2.2.2.2.2 (by have := shortN_rng (hg2 b hb).2 (hg b hb).2; omega) (by have := shortN_rng (hg2 b hb).2 (hg b hb).2; omega)]
      refine V_callV (As := [_]) (st := _) (c_X0_takeTurn _ (300 + b) (kLow k b) (kSpr k b) w1 (h1.kb hb) (h1.bone hb).2.2.2.1 (h1.bone hb).2.2.2.2.1 (h.1.wf hb).2.2.2.2.1 (h.1.wf hb).2.2.2.2.2.1 (h1.bone hb).2.2.2.2.2.1 (addN_lt _ _)) kX6_71 (by first | exact h1.1.k _ rfl rfl | exact h1.kb hb | exact (congrFun g1.1 _).trans hn | exact (congrFun g1.1 _).trans hn2) ⟨rfl, rfl, rfl⟩ ⟨(Nat.le_of_ble_eq_true rfl), (Nat.le_of_ble_eq_true rfl)⟩ dX6_addDifference_51 rfl rfl (Nat.le_of_ble_eq_true rfl) ⟨(Nat.le_of_ble_eq_true rfl), (Nat.le_of_ble_eq_true rfl)⟩ ?_
      refine V_iadd dX6_addDifference_54 ?_
      rw [cntF_b01 (ouT k (adT k g gq)) _ b (by simp [ouT, adT])]
      refine S_istore_n (L' := [(0, _), (1, _), (2, _), (3, _), (4, _)]) dX6_addDifference_55 rfl rfl rfl ?_
      refine S_iinc (L' := [(0, _), (1, _), (2, _), (3, _), (4, _)]) dX6_addDifference_56 rfl rfl rfl rfl ?_
      rw [nI_inc]
      refine V_goto (tgt := 5) dX6_addDifference_59 (by decide) ?_
      exact ih (b + 1) _ (by omega) (g1.trans (Keep.sI _ (by have := h.1.n10; unfold boA; omega) _ _)) g2 (h1.mix hu (fun i hi => (h.1.wf hi).2.2.2.2.2.2) rfl)
  refine V_iconst (v := 0) dX6_addDifference_0 (by decide) ?_
  refine S_istore_n (L' := [(0, _), (1, _), (2, _), (3, _)]) dX6_addDifference_1 rfl rfl rfl ?_
  refine V_iconst (v := 0) dX6_addDifference_2 (by decide) ?_
  refine S_istore (L' := [(0, _), (1, _), (2, _), (3, _), (4, _)]) dX6_addDifference_3 rfl rfl ?_
  exact loop (kN k) 0 w (by omega) (Keep.refl _ _) rfl (by rw [mixT_0]; exact h.1)

set_option maxRecDepth 100000 in
theorem c_X6_takeItems (k : Sk) (n i : Nat) (w : Wd) (h : SkP k w) (hn : wK w n = 11) (hN : i + kN k ≤ wN w n) (hM : wN w n < 2147483648) (hD : ¬ skA n) : Cc yX6_takeItems mX6_takeItems [.ref 21, .ref n, .int (nI i)] w (fun r w' => ∃ v, r = some v ∧ v = .int (nI (cntF (ouT k (fun j => rN (wI w n (i + j)))) (kN k))) ∧ Keep skA w w' ∧ SkP (setP k (mixT (kN k) (inT k (fun j => rN (wI w n (i + j)))) (kTrn k))) w') := by
  refine Cc.of (by decide) rfl rfl (Nat.le_of_ble_eq_true rfl) (fun X => ?_)
  change V _ X _ 0 [(0, _), (1, _), (2, _)] [] _ (0, 0)
  have hu : ∀ iz, iz < kN k → (inT k (fun j => rN (wI w n (i + j)))) iz < 36 := fun iz hi => intoN_lt (h.1.wf hi).2.2.2.2.1 (by exact rN_lt _)
  have loop : ∀ (d b : Nat) (w1 : Wd), b + d = kN k → Keep boA w w1 → wJ w1 = wJ w → SkX (kT k (mixT b (inT k (fun j => rN (wI w n (i + j)))) (kTrn k))) w1 → V mX6_takeItems X (mq mX6_takeItems X (fun r w' => ∃ v, r = some v ∧ v = .int (nI (cntF (ouT k (fun j => rN (wI w n (i + j)))) (kN k))) ∧ Keep skA w w' ∧ SkP (setP k (mixT (kN k) (inT k (fun j => rN (wI w n (i + j)))) (kTrn k))) w')) 5 [(0, .ref 21), (1, .ref n), (2, .int (nI i)), (3, .int (nI (cntF (ouT k (fun j => rN (wI w n (i + j)))) b))), (4, .int (nI b))] [] w1 (0, 0) := by
    intro d
    induction d with
    | zero =>
      intro b w1 hd g1 g2 h1
      obtain rfl : b = kN k := hd
      refine V_iload dX6_takeItems_5 rfl ?_
      first | refine V_aload_n dX6_takeItems_7 rfl rfl ?_ | refine V_aload_nN dX6_takeItems_7 rfl rfl ?_
      refine G_geti (by first | exact h1.1.k _ rfl rfl | exact h1.kb hb | exact (congrFun g1.1 _).trans hn) fX6_21 dX6_takeItems_8 (by first | exact h1.size | exact h1.trnb hb) ?_
      refine V_icmp_ge (tgt := 42) dX6_takeItems_11 (by decide) (fun c11 => ?_) (fun c11 => False.elim (by exact c11 (nI_le (Nat.le_refl _) (by have := h.1.n10; omega))))
      first | refine V_aload_n dX6_takeItems_42 rfl rfl ?_ | refine V_aload_nN dX6_takeItems_42 rfl rfl ?_
      refine V_callVvr (As := []) (st := _) (c_X6_settle _ _ _ w1 h1 (h.old g2)) kX6_54 (by first | exact h1.1.k _ rfl rfl | exact h1.kb hb | exact (congrFun g1.1 _).trans hn) ⟨rfl, rfl, rfl⟩ ⟨(Nat.le_of_ble_eq_true rfl), (Nat.le_of_ble_eq_true rfl)⟩ dX6_takeItems_43 rfl rfl (Nat.le_of_ble_eq_true rfl) ⟨(Nat.le_of_ble_eq_true rfl), (Nat.le_of_ble_eq_true rfl)⟩ (fun w2 hw2 => ?_)
      obtain ⟨a1, a2, a3⟩ := hw2
      refine V_iload_n dX6_takeItems_46 rfl rfl ?_
      refine V_iret rfl dX6_takeItems_47 (Nat.le_of_ble_eq_true rfl) (Nat.le_of_ble_eq_true rfl) ?_
      exact ⟨_, rfl, rfl, (g1.mono (fun _ q => Or.inr q)).trans a1, a3⟩
    | succ d ih =>
      intro b w1 hd g1 g2 h1
      have hb : b < kN k := by omega
      refine V_iload dX6_takeItems_5 rfl ?_
      first | refine V_aload_n dX6_takeItems_7 rfl rfl ?_ | refine V_aload_nN dX6_takeItems_7 rfl rfl ?_
      refine G_geti (by first | exact h1.1.k _ rfl rfl | exact h1.kb hb | exact (congrFun g1.1 _).trans hn) fX6_21 dX6_takeItems_8 (by first | exact h1.size | exact h1.trnb hb) ?_
      refine V_icmp_ge (tgt := 42) dX6_takeItems_11 (by decide) (fun c11 => False.elim (by exact nI_ge (a := b) (b := kN k) (by omega) (by have := h.1.n10; omega) c11)) (fun c11 => ?_)
      refine V_iload_n dX6_takeItems_14 rfl rfl ?_
      first | refine V_aload_n dX6_takeItems_15 rfl rfl ?_ | refine V_aload_nN dX6_takeItems_15 rfl rfl ?_
      first | refine V_getr (by first | exact h1.1.k _ rfl rfl | exact h1.kb hb | exact (congrFun g1.1 _).trans hn) fX6_11 dX6_takeItems_16 (by first | exact h1.1.r _ _ rfl | exact h1.rb hb) ?_ | refine V_getrN (by first | exact h1.1.k _ rfl rfl | exact h1.kb hb | exact (congrFun g1.1 _).trans hn) fX6_11 dX6_takeItems_16 (by first | exact h1.1.r _ _ rfl | exact h1.rb hb) ?_
      refine V_iload dX6_takeItems_19 rfl ?_
      refine G_aald14 (j := b) (by first | exact h1.1.k _ rfl rfl | exact h1.kb hb | exact (congrFun g1.1 _).trans hn) (by rfl) (by rw [h1.1.n 26 rfl rfl]; show b < 10; have : kN k ≤ 10 := h1.n10; omega) (by first | (rw [h1.1.n 26 rfl rfl]; decide) | (rw [congrFun g1.2.1 n]; exact hM)) (by first | exact h1.1.r _ _ rfl | exact h1.rb hb) dX6_takeItems_21 ?_
      first | refine V_aload_n dX6_takeItems_22 rfl rfl ?_ | refine V_aload_nN dX6_takeItems_22 rfl rfl ?_
      refine V_iload_n dX6_takeItems_23 rfl rfl ?_
      refine V_iload dX6_takeItems_24 rfl ?_
      refine V_iadd dX6_takeItems_26 ?_
      refine G_iald (j := i + b) (by first | exact h1.1.k _ rfl rfl | exact h1.kb hb | exact (congrFun g1.1 _).trans hn) (by exact nI_add _ _) (by rw [congrFun g1.2.1 n]; omega) (by first | (rw [h1.1.n 26 rfl rfl]; decide) | (rw [congrFun g1.2.1 n]; exact hM)) dX6_takeItems_27 (by exact congrFun (Keep.skI hD g1) (i + b)) ?_
      refine V_callS (As := [_]) (st := _) (c_X7_normal _ _) kX6_67 ⟨rfl, rfl, rfl⟩ ⟨(Nat.le_of_ble_eq_true rfl), (Nat.le_of_ble_eq_true rfl)⟩ dX6_takeItems_28 rfl rfl (Nat.le_of_ble_eq_true rfl) ⟨(Nat.le_of_ble_eq_true rfl), (Nat.le_of_ble_eq_true rfl)⟩ ?_
      refine V_callV (As := [_]) (st := _) (c_X0_takeTurn _ (300 + b) (kLow k b) (kSpr k b) w1 (h1.kb hb) (h1.bone hb).2.2.2.1 (h1.bone hb).2.2.2.2.1 (h.1.wf hb).2.2.2.2.1 (h.1.wf hb).2.2.2.2.2.1 (h1.bone hb).2.2.2.2.2.1 (rN_lt _)) kX6_71 (by first | exact h1.1.k _ rfl rfl | exact h1.kb hb | exact (congrFun g1.1 _).trans hn) ⟨rfl, rfl, rfl⟩ ⟨(Nat.le_of_ble_eq_true rfl), (Nat.le_of_ble_eq_true rfl)⟩ dX6_takeItems_31 rfl rfl (Nat.le_of_ble_eq_true rfl) ⟨(Nat.le_of_ble_eq_true rfl), (Nat.le_of_ble_eq_true rfl)⟩ ?_
      refine V_iadd dX6_takeItems_34 ?_
      rw [cntF_b01 (ouT k (fun j => rN (wI w n (i + j)))) _ b (by simp [ouT])]
      refine S_istore_n (L' := [(0, _), (1, _), (2, _), (3, _), (4, _)]) dX6_takeItems_35 rfl rfl rfl ?_
      refine S_iinc (L' := [(0, _), (1, _), (2, _), (3, _), (4, _)]) dX6_takeItems_36 rfl rfl rfl rfl ?_
      rw [nI_inc]
      refine V_goto (tgt := 5) dX6_takeItems_39 (by decide) ?_
      exact ih (b + 1) _ (by omega) (g1.trans (Keep.sI _ (by have := h.1.n10; unfold boA; omega) _ _)) g2 (h1.mix hu (fun i hi => (h.1.wf hi).2.2.2.2.2.2) rfl)
  refine V_iconst (v := 0) dX6_takeItems_0 (by decide) ?_
  refine S_istore_n (L' := [(0, _), (1, _), (2, _), (3, _)]) dX6_takeItems_1 rfl rfl rfl ?_
  refine V_iconst (v := 0) dX6_takeItems_2 (by decide) ?_
  refine S_istore (L' := [(0, _), (1, _), (2, _), (3, _), (4, _)]) dX6_takeItems_3 rfl rfl ?_
  exact loop (kN k) 0 w (by omega) (Keep.refl _ _) rfl (by rw [mixT_0]; exact h.1)
