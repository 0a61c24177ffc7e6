/-! Clips: digest; Packing -/
def dg1 (g : Nat → Nat) (h : Int64) : Nat → Int64
  | 0 => h
  | b + 1 => 31 * dg1 g h b + (nI (g b)).toInt64
def dg2 (F : Nat → Nat → Nat) (nb : Nat) (h : Int64) : Nat → Int64
  | 0 => h
  | f + 1 => dg1 (F f) (dg2 F nb h f) nb
def dg3 (q : Cp) (nb : Nat) (h : Int64) : Nat → Int64
  | 0 => h
  | c + 1 => dg2 (q.2 c) nb (dg3 q nb h c) (q.1 c)

set_option maxRecDepth 100000 in
theorem c_X2_digestOn (nb : Nat) (q : Cp) (z : Int64) (w : Wd) (h : CpX nb q w) : Cc yX2_digestOn mX2_digestOn [.ref 22, .long z] w (fun r w' => r = some (.long (dg3 q nb z 6)) ∧ w' = w) := by
  refine Cc.of (by decide) rfl rfl (Nat.le_of_ble_eq_true rfl) (fun X => ?_)
  change V _ X _ 0 [(0, _), (1, _)] [] _ (0, 0)
  have inner : ∀ (c f : Nat) (hc : c < 6) (hf : f < q.1 c) (H : Int64), V mX2_digestOn X (mq mX2_digestOn X (fun r w' => r = some (.long (dg3 q nb z 6)) ∧ w' = w)) 15 [(0, .ref 22), (3, .long (dg1 (q.2 c f) H nb)), (5, .int (nI c)), (6, .int (nI (f + 1)))] [] w (0, 0) → ∀ (d b : Nat), b + d = nb → V mX2_digestOn X (mq mX2_digestOn X (fun r w' => r = some (.long (dg3 q nb z 6)) ∧ w' = w)) 33 [(0, .ref 22), (3, .long (dg1 (q.2 c f) H b)), (5, .int (nI c)), (6, .int (nI f)), (7, .int (nI b))] [] w (0, 0) := by
    intro c f hc hf H go d
    induction d with
    | zero =>
      intro b hd
      obtain rfl : b = nb := hd
      refine V_iload dX2_digestOn_33 rfl ?_
      first | refine V_aload_n dX2_digestOn_35 rfl rfl ?_ | refine V_aload_nN dX2_digestOn_35 rfl rfl ?_
      refine G_geti (by first | exact h.1.k _ rfl rfl | exact h.1.kc hc | exact h.1.kf hc | exact h.1.kr hc (Nat.lt_of_lt_of_le hf (h.le hc))) fX2_36 dX2_digestOn_36 (by first | exact h.sz hc | exact h.pos hc hf | exact (h.fr hc hf hb).1) ?_
      refine V_icmp_ge (tgt := 72) dX2_digestOn_39 (by decide) (fun c39 => ?_) (fun c39 => False.elim (by exact c39 (nI_le (Nat.le_refl _) (by have := h.2.1; omega))))
      refine S_iinc (L' := [(0, _), (3, _), (5, _), (6, _)]) dX2_digestOn_72 rfl rfl rfl rfl ?_
      rw [nI_inc]
      refine V_goto (tgt := 15) dX2_digestOn_75 (by decide) ?_
      exact go
    | succ d ih =>
      intro b hd
      have hb : b < nb := by omega
      refine V_iload dX2_digestOn_33 rfl ?_
      first | refine V_aload_n dX2_digestOn_35 rfl rfl ?_ | refine V_aload_nN dX2_digestOn_35 rfl rfl ?_
      refine G_geti (by first | exact h.1.k _ rfl rfl | exact h.1.kc hc | exact h.1.kf hc | exact h.1.kr hc (Nat.lt_of_lt_of_le hf (h.le hc))) fX2_36 dX2_digestOn_36 (by first | exact h.sz hc | exact h.pos hc hf | exact (h.fr hc hf hb).1) ?_
      refine V_icmp_ge (tgt := 72) dX2_digestOn_39 (by decide) (fun c39 => False.elim (by exact nI_ge (a := b) (b := nb) (by omega) (by have := h.2.1; omega) c39)) (fun c39 => ?_)
      refine V_ldc2 ctX2_45 dX2_digestOn_42 ?_
      refine V_lload_n dX2_digestOn_45 rfl rfl ?_
      refine V_lmul dX2_digestOn_46 ?_
      first | refine V_aload_n dX2_digestOn_47 rfl rfl ?_ | refine V_aload_nN dX2_digestOn_47 rfl rfl ?_
      first | refine V_getr (by first | exact h.1.k _ rfl rfl | exact h.1.kc hc | exact h.1.kf hc | exact h.1.kr hc (Nat.lt_of_lt_of_le hf (h.le hc))) fX2_11 dX2_digestOn_48 (by first | exact h.1.r _ _ rfl | exact h.1.rc hc | exact h.1.rf hc | exact h.1.rr hc (Nat.lt_of_lt_of_le hf (h.le hc))) ?_ | refine V_getrN (by first | exact h.1.k _ rfl rfl | exact h.1.kc hc | exact h.1.kf hc | exact h.1.kr hc (Nat.lt_of_lt_of_le hf (h.le hc))) fX2_11 dX2_digestOn_48 (by first | exact h.1.r _ _ rfl | exact h.1.rc hc | exact h.1.rf hc | exact h.1.rr hc (Nat.lt_of_lt_of_le hf (h.le hc))) ?_
      refine V_iload dX2_digestOn_51 rfl ?_
      refine G_aald15 (j := c) (by first | exact h.1.k _ rfl rfl | exact h.1.kc hc | exact h.1.kf hc | exact h.1.kr hc (Nat.lt_of_lt_of_le hf (h.le hc))) (by rfl) (by rw [h.1.n 27 rfl rfl]; show c < 6; omega) (by first | (rw [h.1.n 27 rfl rfl]; decide) | (rw [h.1.nf hc]; decide) | (rw [h.1.nr hc (Nat.lt_of_lt_of_le hf (h.le hc))]; decide)) (by first | exact h.1.r _ _ rfl | exact h.1.rc hc | exact h.1.rf hc | exact h.1.rr hc (Nat.lt_of_lt_of_le hf (h.le hc))) dX2_digestOn_53 ?_
      first | refine V_getr (by first | exact h.1.k _ rfl rfl | exact h.1.kc hc | exact h.1.kf hc | exact h.1.kr hc (Nat.lt_of_lt_of_le hf (h.le hc))) fX2_28 dX2_digestOn_54 (by first | exact h.1.r _ _ rfl | exact h.1.rc hc | exact h.1.rf hc | exact h.1.rr hc (Nat.lt_of_lt_of_le hf (h.le hc))) ?_ | refine V_getrN (by first | exact h.1.k _ rfl rfl | exact h.1.kc hc | exact h.1.kf hc | exact h.1.kr hc (Nat.lt_of_lt_of_le hf (h.le hc))) fX2_28 dX2_digestOn_54 (by first | exact h.1.r _ _ rfl | exact h.1.rc hc | exact h.1.rf hc | exact h.1.rr hc (Nat.lt_of_lt_of_le hf (h.le hc))) ?_
      refine V_iload dX2_digestOn_57 rfl ?_
      refine G_aald17 (j := f) (by first | exact h.1.k _ rfl rfl | exact h.1.kc hc | exact h.1.kf hc | exact h.1.kr hc (Nat.lt_of_lt_of_le hf (h.le hc))) (by rfl) (by rw [h.1.nf hc]; exact Nat.lt_of_lt_of_le hf (h.le hc)) (by first | (rw [h.1.n 27 rfl rfl]; decide) | (rw [h.1.nf hc]; decide) | (rw [h.1.nr hc (Nat.lt_of_lt_of_le hf (h.le hc))]; decide)) (by first | exact h.1.r _ _ rfl | exact h.1.rc hc | exact h.1.rf hc | exact h.1.rr hc (Nat.lt_of_lt_of_le hf (h.le hc))) dX2_digestOn_59 ?_
      refine V_iload dX2_digestOn_60 rfl ?_
      refine G_iald (j := b) (by first | exact h.1.k _ rfl rfl | exact h.1.kc hc | exact h.1.kf hc | exact h.1.kr hc (Nat.lt_of_lt_of_le hf (h.le hc))) (by rfl) (by rw [h.1.nr hc (Nat.lt_of_lt_of_le hf (h.le hc))]; have := h.2.1; omega) (by first | (rw [h.1.n 27 rfl rfl]; decide) | (rw [h.1.nf hc]; decide) | (rw [h.1.nr hc (Nat.lt_of_lt_of_le hf (h.le hc))]; decide)) dX2_digestOn_62 (by first | exact h.sz hc | exact h.pos hc hf | exact (h.fr hc hf hb).1) ?_
      refine V_i2l dX2_digestOn_63 ?_
      refine V_ladd dX2_digestOn_64 ?_
      refine S_lstore_n (L' := [(0, _), (3, _), (5, _), (6, _), (7, _)]) dX2_digestOn_65 rfl rfl rfl ?_
      refine S_iinc (L' := [(0, _), (3, _), (5, _), (6, _), (7, _)]) dX2_digestOn_66 rfl rfl rfl rfl ?_
      rw [nI_inc]
      refine V_goto (tgt := 33) dX2_digestOn_69 (by decide) ?_
      exact ih (b + 1) (by omega)
  have mid : ∀ (c : Nat) (hc : c < 6) (H : Int64), V mX2_digestOn X (mq mX2_digestOn X (fun r w' => r = some (.long (dg3 q nb z 6)) ∧ w' = w)) 5 [(0, .ref 22), (3, .long (dg2 (q.2 c) nb H (q.1 c))), (5, .int (nI (c + 1)))] [] w (0, 0) → ∀ (d f : Nat), f + d = q.1 c → V mX2_digestOn X (mq mX2_digestOn X (fun r w' => r = some (.long (dg3 q nb z 6)) ∧ w' = w)) 15 [(0, .ref 22), (3, .long (dg2 (q.2 c) nb H f)), (5, .int (nI c)), (6, .int (nI f))] [] w (0, 0) := by
    intro c hc H go d
    induction d with
    | zero =>
      intro f hd
      obtain rfl : f = q.1 c := hd
      refine V_iload dX2_digestOn_15 rfl ?_
      first | refine V_aload_n dX2_digestOn_17 rfl rfl ?_ | refine V_aload_nN dX2_digestOn_17 rfl rfl ?_
      first | refine V_getr (by first | exact h.1.k _ rfl rfl | exact h.1.kc hc | exact h.1.kf hc | exact h.1.kr hc (Nat.lt_of_lt_of_le hf (h.le hc))) fX2_11 dX2_digestOn_18 (by first | exact h.1.r _ _ rfl | exact h.1.rc hc | exact h.1.rf hc | exact h.1.rr hc (Nat.lt_of_lt_of_le hf (h.le hc))) ?_ | refine V_getrN (by first | exact h.1.k _ rfl rfl | exact h.1.kc hc | exact h.1.kf hc | exact h.1.kr hc (Nat.lt_of_lt_of_le hf (h.le hc))) fX2_11 dX2_digestOn_18 (by first | exact h.1.r _ _ rfl | exact h.1.rc hc | exact h.1.rf hc | exact h.1.rr hc (Nat.lt_of_lt_of_le hf (h.le hc))) ?_
      refine V_iload dX2_digestOn_21 rfl ?_
      refine G_aald15 (j := c) (by first | exact h.1.k _ rfl rfl | exact h.1.kc hc | exact h.1.kf hc | exact h.1.kr hc (Nat.lt_of_lt_of_le hf (h.le hc))) (by rfl) (by rw [h.1.n 27 rfl rfl]; show c < 6; omega) (by first | (rw [h.1.n 27 rfl rfl]; decide) | (rw [h.1.nf hc]; decide) | (rw [h.1.nr hc (Nat.lt_of_lt_of_le hf (h.le hc))]; decide)) (by first | exact h.1.r _ _ rfl | exact h.1.rc hc | exact h.1.rf hc | exact h.1.rr hc (Nat.lt_of_lt_of_le hf (h.le hc))) dX2_digestOn_23 ?_
      refine G_geti (by first | exact h.1.k _ rfl rfl | exact h.1.kc hc | exact h.1.kf hc | exact h.1.kr hc (Nat.lt_of_lt_of_le hf (h.le hc))) fX2_24 dX2_digestOn_24 (by first | exact h.sz hc | exact h.pos hc hf | exact (h.fr hc hf hb).1) ?_
      refine V_icmp_ge (tgt := 78) dX2_digestOn_27 (by decide) (fun c27 => ?_) (fun c27 => False.elim (by exact c27 (nI_le (Nat.le_refl _) (by have := h.le hc; omega))))
      refine S_iinc (L' := [(0, _), (3, _), (5, _)]) dX2_digestOn_78 rfl rfl rfl rfl ?_
      rw [nI_inc]
      refine V_goto (tgt := 5) dX2_digestOn_81 (by decide) ?_
      exact go
    | succ d ih =>
      intro f hd
      have hf : f < q.1 c := by omega
      refine V_iload dX2_digestOn_15 rfl ?_
      first | refine V_aload_n dX2_digestOn_17 rfl rfl ?_ | refine V_aload_nN dX2_digestOn_17 rfl rfl ?_
      first | refine V_getr (by first | exact h.1.k _ rfl rfl | exact h.1.kc hc | exact h.1.kf hc | exact h.1.kr hc (Nat.lt_of_lt_of_le hf (h.le hc))) fX2_11 dX2_digestOn_18 (by first | exact h.1.r _ _ rfl | exact h.1.rc hc | exact h.1.rf hc | exact h.1.rr hc (Nat.lt_of_lt_of_le hf (h.le hc))) ?_ | refine V_getrN (by first | exact h.1.k _ rfl rfl | exact h.1.kc hc | exact h.1.kf hc | exact h.1.kr hc (Nat.lt_of_lt_of_le hf (h.le hc))) fX2_11 dX2_digestOn_18 (by first | exact h.1.r _ _ rfl | exact h.1.rc hc | exact h.1.rf hc | exact h.1.rr hc (Nat.lt_of_lt_of_le hf (h.le hc))) ?_
      refine V_iload dX2_digestOn_21 rfl ?_
      refine G_aald15 (j := c) (by first | exact h.1.k _ rfl rfl | exact h.1.kc hc | exact h.1.kf hc | exact h.1.kr hc (Nat.lt_of_lt_of_le hf (h.le hc))) (by rfl) (by rw [h.1.n 27 rfl rfl]; show c < 6; omega) (by first | (rw [h.1.n 27 rfl rfl]; decide) | (rw [h.1.nf hc]; decide) | (rw [h.1.nr hc (Nat.lt_of_lt_of_le hf (h.le hc))]; decide)) (by first | exact h.1.r _ _ rfl | exact h.1.rc hc | exact h.1.rf hc | exact h.1.rr hc (Nat.lt_of_lt_of_le hf (h.le hc))) dX2_digestOn_23 ?_
      refine G_geti (by first | exact h.1.k _ rfl rfl | exact h.1.kc hc | exact h.1.kf hc | exact h.1.kr hc (Nat.lt_of_lt_of_le hf (h.le hc))) fX2_24 dX2_digestOn_24 (by first | exact h.sz hc | exact h.pos hc hf | exact (h.fr hc hf hb).1) ?_
      refine V_icmp_ge (tgt := 78) dX2_digestOn_27 (by decide) (fun c27 => False.elim (by exact nI_ge (a := f) (b := q.1 c) (by omega) (by have := h.le hc; omega) c27)) (fun c27 => ?_)
      refine V_iconst (v := 0) dX2_digestOn_30 (by decide) ?_
      refine S_istore (L' := [(0, _), (3, _), (5, _), (6, _), (7, _)]) dX2_digestOn_31 rfl rfl ?_
      exact inner c f hc hf (dg2 (q.2 c) nb H f) (ih (f + 1) (by omega)) nb 0 (by omega)
  have outer : ∀ (d c : Nat), c + d = 6 → V mX2_digestOn X (mq mX2_digestOn X (fun r w' => r = some (.long (dg3 q nb z 6)) ∧ w' = w)) 5 [(0, .ref 22), (3, .long (dg3 q nb z c)), (5, .int (nI c))] [] w (0, 0) := by
    intro d
    induction d with
    | zero =>
      intro c hd
      obtain rfl : c = 6 := hd
      refine V_iload dX2_digestOn_5 rfl ?_
      refine V_bipush (v := 6) dX2_digestOn_7 (by decide) ?_
      refine V_icmp_ge (tgt := 84) dX2_digestOn_9 (by decide) (fun c9 => ?_) (fun c9 => False.elim (by exact c9 (by decide)))
      refine V_lload_n dX2_digestOn_84 rfl rfl ?_
      refine V_lret rfl dX2_digestOn_85 (Nat.le_of_ble_eq_true rfl) (Nat.le_of_ble_eq_true rfl) ?_
      exact ⟨rfl, rfl⟩
    | succ d ih =>
      intro c hd
      have hc : c < 6 := by omega
      refine V_iload dX2_digestOn_5 rfl ?_
      refine V_bipush (v := 6) dX2_digestOn_7 (by decide) ?_
      refine V_icmp_ge (tgt := 84) dX2_digestOn_9 (by decide) (fun c9 => False.elim (by exact nI_ge (a := c) (b := 6) (by omega) (by decide) c9)) (fun c9 => ?_)
      refine V_iconst (v := 0) dX2_digestOn_12 (by decide) ?_
      refine S_istore (L' := [(0, _), (3, _), (5, _), (6, _)]) dX2_digestOn_13 rfl rfl ?_
      exact mid c hc (dg3 q nb z c) (ih (c + 1) (by omega)) (q.1 c) 0 (by omega)
  refine V_lload_n dX2_digestOn_0 rfl rfl ?_
  refine S_lstore_n (L' := [(0, _), (3, _)]) dX2_digestOn_1 rfl rfl rfl ?_
  refine V_iconst (v := 0) dX2_digestOn_2 (by decide) ?_
  refine S_istore (L' := [(0, _), (3, _), (5, _)]) dX2_digestOn_3 rfl rfl ?_
  exact outer 6 0 rfl

def allB (p : Nat → Bool) : Nat → Bool
  | 0 => true
  | n + 1 => allB p n && p n
theorem allB_s {p : Nat → Bool} {n : Nat} (h : allB p n = true) (h2 : p n = true) : allB p (n + 1) = true := by rw [allB, h, h2]; rfl
theorem allB_f {p : Nat → Bool} {b : Nat} (h : p b = false) : ∀ {n : Nat}, b < n → allB p n = false
  | n + 1, hb => by
    rw [allB]
    by_cases e : b = n
    · rw [← e, h, Bool.and_false]
    · rw [allB_f h (by omega), Bool.false_and]
/-- frame t lies near enough between frames i and j -/
def spB (k : Sk) (F : Nat → Nat → Nat) (i j m t : Nat) : Bool := allB (fun b => decide (distN (blendN (kLow k b) (kSpr k b) (F i b) (F j b) (100 * (t - i) / (j - i))) (F t b) ≤ m)) (kN k)
def spanB (k : Sk) (F : Nat → Nat → Nat) (i j m : Nat) : Bool := allB (fun d => spB k F i j m (i + 1 + d)) (j - i - 1)
theorem w100 {i j t : Nat} (h1 : i < t) (h2 : t < j) : 100 * (t - i) / (j - i) ≤ 100 := by
  have : 100 * (t - i) / (j - i) ≤ 100 * (j - i) / (j - i) := Nat.div_le_div_right (by omega)
  rw [Nat.mul_div_cancel _ (by omega)] at this
  exact this
theorem nI_dec (t : Nat) : nI (t + 1) + Int32.ofInt (-1) = nI t := pk_m1 t

set_option maxRecDepth 100000 in
theorem c_X4_spans (k : Sk) (q : Cp) (c i j m : Nat) (w : Wd) (s : SkX k w) (h : CpX (kN k) q w) (hc : c < 6) (hij : i < j) (hj : j < q.1 c) (hm : m ≤ 18) : Cc yX4_spans mX4_spans [.ref 21, .ref (40 + c), .int (nI i), .int (nI j), .int (nI m)] w (fun r w' => r = some (.int (bI (spanB k (q.2 c) i j m))) ∧ w' = w) := by
  refine Cc.of (by decide) rfl rfl (Nat.le_of_ble_eq_true rfl) (fun X => ?_)
  change V _ X _ 0 [(0, _), (1, _), (2, _), (3, _), (4, _)] [] _ (0, 0)
  have inner : ∀ (t : Nat) (hit : i < t) (htj : t < j), (spB k (q.2 c) i j m t = true → V mX4_spans X (mq mX4_spans X (fun r w' => r = some (.int (bI (spanB k (q.2 c) i j m))) ∧ w' = w)) 5 [(0, .ref 21), (1, .ref (40 + c)), (2, .int (nI i)), (3, .int (nI j)), (4, .int (nI m)), (5, .int (nI (t + 1)))] [] w (0, 0)) → ∀ (d b : Nat), b + d = kN k → allB (fun b => decide (distN (blendN (kLow k b) (kSpr k b) (q.2 c i b) (q.2 c j b) (100 * (t - i) / (j - i))) (q.2 c t b) ≤ m)) b = true → V mX4_spans X (mq mX4_spans X (fun r w' => r = some (.int (bI (spanB k (q.2 c) i j m))) ∧ w' = w)) 27 [(0, .ref 21), (1, .ref (40 + c)), (2, .int (nI i)), (3, .int (nI j)), (4, .int (nI m)), (5, .int (nI t)), (6, .int (nI (100 * (t - i) / (j - i)))), (7, .int (nI b))] [] w (0, 0) := by
    intro t hit htj go d
    induction d with
    | zero =>
      intro b hd hall
      obtain rfl : b = kN k := hd
      refine V_iload dX4_spans_27 rfl ?_
      first | refine V_aload_n dX4_spans_29 rfl rfl ?_ | refine V_aload_nN dX4_spans_29 rfl rfl ?_
      refine G_geti (by first | exact s.1.k _ rfl rfl | exact s.kb hb | exact h.1.kc hc | exact h.1.kf hc | exact h.1.kr hc (by have := h.le hc; omega)) fX4_30 dX4_spans_30 (by exact s.size) ?_
      refine V_icmp_ge (tgt := 96) dX4_spans_33 (by decide) (fun c33 => ?_) (fun c33 => False.elim (by exact c33 (nI_le (Nat.le_refl _) (by have := s.n10; omega))))
      refine S_iinc (L' := [(0, _), (1, _), (2, _), (3, _), (4, _), (5, _)]) dX4_spans_96 rfl rfl rfl rfl ?_
      rw [nI_inc]
      refine V_goto (tgt := 5) dX4_spans_99 (by decide) ?_
      exact go hall
    | succ d ih =>
      intro b hd hall
      have hb : b < kN k := by omega
      refine V_iload dX4_spans_27 rfl ?_
      first | refine V_aload_n dX4_spans_29 rfl rfl ?_ | refine V_aload_nN dX4_spans_29 rfl rfl ?_
      refine G_geti (by first | exact s.1.k _ rfl rfl | exact s.kb hb | exact h.1.kc hc | exact h.1.kf hc | exact h.1.kr hc (by have := h.le hc; omega)) fX4_30 dX4_spans_30 (by exact s.size) ?_
      refine V_icmp_ge (tgt := 96) dX4_spans_33 (by decide) (fun c33 => False.elim (by exact nI_ge (a := b) (b := kN k) (by omega) (by have := s.n10; omega) c33)) (fun c33 => ?_)
      first | refine V_aload_n dX4_spans_36 rfl rfl ?_ | refine V_aload_nN dX4_spans_36 rfl rfl ?_
      first | refine V_getr (by first | exact s.1.k _ rfl rfl | exact s.kb hb | exact h.1.kc hc | exact h.1.kf hc | exact h.1.kr hc (by have := h.le hc; omega)) fX4_33 dX4_spans_37 (by first | exact s.1.r _ _ rfl | exact s.rb hb | exact h.1.rf hc) ?_ | refine V_getrN (by first | exact s.1.k _ rfl rfl | exact s.kb hb | exact h.1.kc hc | exact h.1.kf hc | exact h.1.kr hc (by have := h.le hc; omega)) fX4_33 dX4_spans_37 (by first | exact s.1.r _ _ rfl | exact s.rb hb | exact h.1.rf hc) ?_
      refine V_iload dX4_spans_40 rfl ?_
      refine G_aald14 (j := b) (by first | exact s.1.k _ rfl rfl | exact s.kb hb | exact h.1.kc hc | exact h.1.kf hc | exact h.1.kr hc (by have := h.le hc; omega)) (by rfl) (by rw [s.1.n 26 rfl rfl]; show b < 10; have := s.n10; omega) (by first | (rw [s.1.n 26 rfl rfl]; decide) | (rw [h.1.nf hc]; decide) | (rw [h.1.nr hc (by have := h.le hc; omega)]; decide)) (by first | exact s.1.r _ _ rfl | exact s.rb hb | exact h.1.rf hc) dX4_spans_42 ?_
      first | refine V_aload_n dX4_spans_43 rfl rfl ?_ | refine V_aload_nN dX4_spans_43 rfl rfl ?_
      first | refine V_getr (by first | exact s.1.k _ rfl rfl | exact s.kb hb | exact h.1.kc hc | exact h.1.kf hc | exact h.1.kr hc (by have := h.le hc; omega)) fX4_37 dX4_spans_44 (by first | exact s.1.r _ _ rfl | exact s.rb hb | exact h.1.rf hc) ?_ | refine V_getrN (by first | exact s.1.k _ rfl rfl | exact s.kb hb | exact h.1.kc hc | exact h.1.kf hc | exact h.1.kr hc (by have := h.le hc; omega)) fX4_37 dX4_spans_44 (by first | exact s.1.r _ _ rfl | exact s.rb hb | exact h.1.rf hc) ?_
      refine V_iload_n dX4_spans_47 rfl rfl ?_
      refine G_aald17 (j := i) (by first | exact s.1.k _ rfl rfl | exact s.kb hb | exact h.1.kc hc | exact h.1.kf hc | exact h.1.kr hc (by have := h.le hc; omega)) (by rfl) (by rw [h.1.nf hc]; have := h.le hc; omega) (by first | (rw [s.1.n 26 rfl rfl]; decide) | (rw [h.1.nf hc]; decide) | (rw [h.1.nr hc (by have := h.le hc; omega)]; decide)) (by exact h.1.rr hc (f := i) (by have := h.le hc; omega)) dX4_spans_48 ?_
      refine V_iload dX4_spans_49 rfl ?_
      refine G_iald (j := b) (by first | exact s.1.k _ rfl rfl | exact s.kb hb | exact h.1.kc hc | exact h.1.kf hc | exact h.1.kr hc (by have := h.le hc; omega)) (by rfl) (by rw [h.1.nr hc (f := i) (by have := h.le hc; omega)]; have := s.n10; omega) (by first | (rw [s.1.n 26 rfl rfl]; decide) | (rw [h.1.nf hc]; decide) | (rw [h.1.nr hc (by have := h.le hc; omega)]; decide)) dX4_spans_51 (by exact (h.fr hc (f := i) (by omega) hb).1) ?_
      first | refine V_aload_n dX4_spans_52 rfl rfl ?_ | refine V_aload_nN dX4_spans_52 rfl rfl ?_
      first | refine V_getr (by first | exact s.1.k _ rfl rfl | exact s.kb hb | exact h.1.kc hc | exact h.1.kf hc | exact h.1.kr hc (by have := h.le hc; omega)) fX4_37 dX4_spans_53 (by first | exact s.1.r _ _ rfl | exact s.rb hb | exact h.1.rf hc) ?_ | refine V_getrN (by first | exact s.1.k _ rfl rfl | exact s.kb hb | exact h.1.kc hc | exact h.1.kf hc | exact h.1.kr hc (by have := h.le hc; omega)) fX4_37 dX4_spans_53 (by first | exact s.1.r _ _ rfl | exact s.rb hb | exact h.1.rf hc) ?_
      refine V_iload_n dX4_spans_56 rfl rfl ?_
      refine G_aald17 (j := j) (by first | exact s.1.k _ rfl rfl | exact s.kb hb | exact h.1.kc hc | exact h.1.kf hc | exact h.1.kr hc (by have := h.le hc; omega)) (by rfl) (by rw [h.1.nf hc]; have := h.le hc; omega) (by first | (rw [s.1.n 26 rfl rfl]; decide) | (rw [h.1.nf hc]; decide) | (rw [h.1.nr hc (by have := h.le hc; omega)]; decide)) (by exact h.1.rr hc (f := j) (by have := h.le hc; omega)) dX4_spans_57 ?_
      refine V_iload dX4_spans_58 rfl ?_
      refine G_iald (j := b) (by first | exact s.1.k _ rfl rfl | exact s.kb hb | exact h.1.kc hc | exact h.1.kf hc | exact h.1.kr hc (by have := h.le hc; omega)) (by rfl) (by rw [h.1.nr hc (f := j) (by have := h.le hc; omega)]; have := s.n10; omega) (by first | (rw [s.1.n 26 rfl rfl]; decide) | (rw [h.1.nf hc]; decide) | (rw [h.1.nr hc (by have := h.le hc; omega)]; decide)) dX4_spans_60 (by exact (h.fr hc (f := j) (by omega) hb).1) ?_
      refine V_iload dX4_spans_61 rfl ?_
      refine V_callV (As := [_, _, _]) (st := _) (c_X0_blended _ _ _ (300 + b) (kLow k b) (kSpr k b) w (s.kb hb) (s.bone hb).2.2.2.1 (s.bone hb).2.2.2.2.1 (s.wf hb).2.2.2.2.1 (s.wf hb).2.2.2.2.2.1 (s.bone hb).2.2.2.2.2.1 (h.fr hc (f := i) (by omega) hb).2 (h.fr hc (f := j) (by omega) hb).2 (w100 hit htj)) kX4_41 (by first | exact s.1.k _ rfl rfl | exact s.kb hb | exact h.1.kc hc | exact h.1.kf hc | exact h.1.kr hc (by have := h.le hc; omega)) ⟨rfl, rfl, rfl⟩ ⟨(Nat.le_of_ble_eq_true rfl), (Nat.le_of_ble_eq_true rfl)⟩ dX4_spans_63 rfl rfl (Nat.le_of_ble_eq_true rfl) ⟨(Nat.le_of_ble_eq_true rfl), (Nat.le_of_ble_eq_true rfl)⟩ ?_
      refine S_istore (L' := [(0, _), (1, _), (2, _), (3, _), (4, _), (5, _), (6, _), (7, _), (8, _)]) dX4_spans_66 rfl rfl ?_
      refine V_iload dX4_spans_68 rfl ?_
      first | refine V_aload_n dX4_spans_70 rfl rfl ?_ | refine V_aload_nN dX4_spans_70 rfl rfl ?_
      first | refine V_getr (by first | exact s.1.k _ rfl rfl | exact s.kb hb | exact h.1.kc hc | exact h.1.kf hc | exact h.1.kr hc (by have := h.le hc; omega)) fX4_37 dX4_spans_71 (by first | exact s.1.r _ _ rfl | exact s.rb hb | exact h.1.rf hc) ?_ | refine V_getrN (by first | exact s.1.k _ rfl rfl | exact s.kb hb | exact h.1.kc hc | exact h.1.kf hc | exact h.1.kr hc (by have := h.le hc; omega)) fX4_37 dX4_spans_71 (by first | exact s.1.r _ _ rfl | exact s.rb hb | exact h.1.rf hc) ?_
      refine V_iload dX4_spans_74 rfl ?_
      refine G_aald17 (j := t) (by first | exact s.1.k _ rfl rfl | exact s.kb hb | exact h.1.kc hc | exact h.1.kf hc | exact h.1.kr hc (by have := h.le hc; omega)) (by rfl) (by rw [h.1.nf hc]; have := h.le hc; omega) (by first | (rw [s.1.n 26 rfl rfl]; decide) | (rw [h.1.nf hc]; decide) | (rw [h.1.nr hc (by have := h.le hc; omega)]; decide)) (by exact h.1.rr hc (f := t) (by have := h.le hc; omega)) dX4_spans_76 ?_
      refine V_iload dX4_spans_77 rfl ?_
      refine G_iald (j := b) (by first | exact s.1.k _ rfl rfl | exact s.kb hb | exact h.1.kc hc | exact h.1.kf hc | exact h.1.kr hc (by have := h.le hc; omega)) (by rfl) (by rw [h.1.nr hc (f := t) (by have := h.le hc; omega)]; have := s.n10; omega) (by first | (rw [s.1.n 26 rfl rfl]; decide) | (rw [h.1.nf hc]; decide) | (rw [h.1.nr hc (by have := h.le hc; omega)]; decide)) dX4_spans_79 (by exact (h.fr hc (f := t) (by omega) hb).1) ?_
      refine V_callS (As := [_, _]) (st := _) (c_X7_distance _ _ _) kX4_47 ⟨rfl, rfl, rfl⟩ ⟨(Nat.le_of_ble_eq_true rfl), (Nat.le_of_ble_eq_true rfl)⟩ dX4_spans_80 rfl rfl (Nat.le_of_ble_eq_true rfl) ⟨(Nat.le_of_ble_eq_true rfl), (Nat.le_of_ble_eq_true rfl)⟩ ?_
      rw [tDist_N (blendN_lt (s.wf hb).2.2.2.2.1) (h.fr hc (f := t) (by omega) hb).2]
      refine V_iload dX4_spans_83 rfl ?_
      refine V_icmp_le (tgt := 90) dX4_spans_85 (by decide) (fun c85 => ?_) (fun c85 => ?_)
      · refine S_iinc (L' := [(0, _), (1, _), (2, _), (3, _), (4, _), (5, _), (6, _), (7, _)]) dX4_spans_90 rfl rfl rfl rfl ?_
        rw [nI_inc]
        refine V_goto (tgt := 27) dX4_spans_93 (by decide) ?_
        rw [nI_leI (by have := distN_le (blendN (kLow k b) (kSpr k b) (q.2 c i b) (q.2 c j b) (100 * (t - i) / (j - i))) (q.2 c t b); omega) (by omega)] at c85
        exact ih (b + 1) (by omega) (allB_s hall (by simpa using c85))
      · refine V_iconst (v := 0) dX4_spans_88 (by decide) ?_
        refine V_zret rfl dX4_spans_89 (Nat.le_of_ble_eq_true rfl) (Nat.le_of_ble_eq_true rfl) rfl ?_
        rw [nI_leI (by have := distN_le (blendN (kLow k b) (kSpr k b) (q.2 c i b) (q.2 c j b) (100 * (t - i) / (j - i))) (q.2 c t b); omega) (by omega)] at c85
        exact ok2i (by
          rw [show spanB k (q.2 c) i j m = false from allB_f (b := t - i - 1) (by rw [show i + 1 + (t - i - 1) = t by omega]; exact allB_f (b := b) (by simpa using c85) hb) (by omega)]
          rfl)
  have outer : ∀ (d e : Nat), i + 1 + e + d = j → allB (fun d => spB k (q.2 c) i j m (i + 1 + d)) e = true → V mX4_spans X (mq mX4_spans X (fun r w' => r = some (.int (bI (spanB k (q.2 c) i j m))) ∧ w' = w)) 5 [(0, .ref 21), (1, .ref (40 + c)), (2, .int (nI i)), (3, .int (nI j)), (4, .int (nI m)), (5, .int (nI (i + 1 + e)))] [] w (0, 0) := by
    intro d
    induction d with
    | zero =>
      intro e hd hall
      refine V_iload dX4_spans_5 rfl ?_
      refine V_iload_n dX4_spans_7 rfl rfl ?_
      refine V_icmp_ge (tgt := 102) dX4_spans_8 (by decide) (fun c8 => ?_) (fun c8 => False.elim (by exact c8 (nI_le (by omega) (by have := h.le hc; omega))))
      refine V_iconst (v := 1) dX4_spans_102 (by decide) ?_
      refine V_zret rfl dX4_spans_103 (Nat.le_of_ble_eq_true rfl) (Nat.le_of_ble_eq_true rfl) rfl ?_
      exact ok2i (by rw [show spanB k (q.2 c) i j m = true from by unfold spanB; rw [show j - i - 1 = e by omega]; exact hall]; rfl)
    | succ d ih =>
      intro e hd hall
      refine V_iload dX4_spans_5 rfl ?_
      refine V_iload_n dX4_spans_7 rfl rfl ?_
      refine V_icmp_ge (tgt := 102) dX4_spans_8 (by decide) (fun c8 => False.elim (by exact nI_ge (a := i + 1 + e) (b := j) (by omega) (by have := h.le hc; omega) c8)) (fun c8 => ?_)
      refine V_bipush (v := 100) dX4_spans_11 (by decide) ?_
      refine V_iload dX4_spans_13 rfl ?_
      refine V_iload_n dX4_spans_15 rfl rfl ?_
      refine V_isub dX4_spans_16 ?_
      refine V_imul dX4_spans_17 ?_
      refine V_iload_n dX4_spans_18 rfl rfl ?_
      refine V_iload_n dX4_spans_19 rfl rfl ?_
      refine V_isub dX4_spans_20 ?_
      refine V_idiv dX4_spans_21 (by rw [pk_sub (by omega)]; exact nI_ne0 (by omega) (by have := h.le hc; omega)) ?_
      rw [pk_sub (a := i + 1 + e) (b := i) (by omega), pk_sub (a := j) (b := i) (by omega), show (100 : Int32) = nI 100 from rfl, pk_mul, pk_div (by have := h.le hc; omega) (by omega) (by have := h.le hc; omega)]
      refine S_istore (L' := [(0, _), (1, _), (2, _), (3, _), (4, _), (5, _), (6, _)]) dX4_spans_22 rfl rfl ?_
      refine V_iconst (v := 0) dX4_spans_24 (by decide) ?_
      refine S_istore (L' := [(0, _), (1, _), (2, _), (3, _), (4, _), (5, _), (6, _), (7, _)]) dX4_spans_25 rfl rfl ?_
      exact inner (i + 1 + e) (by omega) (by omega) (fun z => ih (e + 1) (by omega) (allB_s hall z)) (kN k) 0 (by omega) rfl
  refine V_iload_n dX4_spans_0 rfl rfl ?_
  refine V_iconst (v := 1) dX4_spans_1 (by decide) ?_
  refine V_iadd dX4_spans_2 ?_
  rw [show nI i + 1 = nI (i + 1) from nI_1 i]
  refine S_istore (L' := [(0, _), (1, _), (2, _), (3, _), (4, _), (5, _)]) dX4_spans_3 rfl rfl ?_
  exact outer (j - i - 1) 0 (by omega) rfl
