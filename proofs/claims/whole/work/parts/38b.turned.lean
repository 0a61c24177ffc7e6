/-! A TURNED BONE carries what hangs on it along, exactly -/
def upK (k : Sk) : Nat → Nat → Option Nat
  | 0, b => some b
  | n + 1, b => match kPar k b with
    | none => none
    | some p => upK k n p
theorem kU_self (k : Sk) (a : Nat) : kU k a (kTrn k a) = k := by
  unfold kU
  rw [show va_up (kTrn k) a (kTrn k a) = kTrn k from funext fun i => by
    by_cases e : i = a
    · rw [e, va_up_self]
    · rw [va_up_ne _ _ e]]
  rfl
theorem Wf.kU {k : Sk} (h : Wf k) (a : Nat) {t : Nat} (ht : t < 36) : Wf (kU k a t) := by
  refine ⟨h.1, fun b hb => ?_, h.2.2⟩
  obtain ⟨h1, h2, h3, h4, h5, h6, h7⟩ := h.2.1 b hb
  refine ⟨h1, h2, h3, h4, h5, h6, ?_⟩
  show va_up (kTrn k) a t b < 36
  by_cases e : b = a
  · rw [e, va_up_self]; exact ht
  · rw [va_up_ne _ _ e]; exact h7
theorem pStep_kU {k : Sk} {a t b : Nat} (P : Nat → Q4) (h : b ≠ a) : pStep (kU k a t) P b = pStep k P b := by
  unfold pStep
  rw [show kTrn (kU k a t) b = kTrn k b from va_up_ne _ _ h]
  rfl
theorem posN_kU (k : Sk) (a t : Nat) : ∀ n, n ≤ a → posN (kU k a t) n = posN k n
  | 0, _ => rfl
  | n + 1, h => by
    show va_up (posN (kU k a t) n) n (pStep (kU k a t) (posN (kU k a t) n) n) = va_up (posN k n) n (pStep k (posN k n) n)
    rw [posN_kU k a t n (by omega), pStep_kU _ (by omega)]
theorem pos_kU {k : Sk} {a t b : Nat} (h : b < a) : pos (kU k a t) b = pos k b := congrFun (posN_kU k a t (b + 1) h) b
theorem pStart_kU {k : Sk} (h : Wf k) {a t : Nat} (ha : a < kN k) : pStart (kU k a t) (pos (kU k a t)) a = pStart k (pos k) a := by
  unfold pStart
  show (match kPar k a with
    | none => _
    | some p => pos (kU k a t) p) = _
  cases hp : kPar k a with
  | none => rfl
  | some p => exact pos_kU ((h.2.1 a ha).1 p hp)
theorem upK_le {k : Sk} (h : Wf k) : ∀ n b a, b < kN k → upK k n b = some a → a ≤ b
  | 0, b, a, _, e => by cases e; exact Nat.le_refl _
  | n + 1, b, a, hb, e => by
    unfold upK at e
    cases hp : kPar k b with
    | none => rw [hp] at e; cases e
    | some p =>
      rw [hp] at e
      have hpb := (h.2.1 b hb).1 p hp
      have := upK_le h n p a (by omega) e
      omega
theorem turn_ex {k : Sk} {a : Nat} (h : Wf k) (hB : rtB 600 k) (ha : a < kN k) : ∀ n b, b < kN k → upK k n b = some a →
    ∃ U V S T : Int, (∃ u v : Int, U = eD (dep k b) * u ∧ V = eD (dep k b) * v) ∧ ∀ t, t < 36 →
      (pos (kU k a t) b).1.toInt = gc t * U - gs t * V ∧ (pos (kU k a t) b).2.1.toInt = gs t * U + gc t * V ∧
      (pos (kU k a t) b).2.2.1.toInt = (pStart k (pos k) a).2.2.1.toInt + (gc t * S - gs t * T) ∧ (pos (kU k a t) b).2.2.2.toInt = (pStart k (pos k) a).2.2.2.toInt + (gs t * S + gc t * T)
  | 0, b, hb, e => by
    obtain rfl : b = a := Option.some.inj e
    obtain ⟨h0, h1⟩ := ok_start h ha (fun p hp => ok_pos h hB p (by omega))
    have hd := (h.2.1 b hb).2.1
    have hg0 := g_rng (t := 0) (by decide)
    obtain ⟨p, q, e1, e2, ⟨u, v, eu, ev⟩, -⟩ := (okQ.step h0 (c := cosF 0) (s := sinF 0) (l := nI (kLen k b)) (by omega) hg0.1 hg0.2.1 (len_i h hb) hB).1
    rw [show dep k b - 1 + 1 = dep k b by omega] at eu ev
    refine ⟨p, q, (nI (kLen k b)).toInt * p, (nI (kLen k b)).toInt * q, ⟨u, v, eu, ev⟩, fun t ht => ?_⟩
    have hg := g_rng ht
    obtain ⟨p', q', f1, f2, -, dx, dy, ex, ey⟩ := (okQ.step h0 (c := cosF t) (s := sinF t) (l := nI (kLen k b)) (by omega) hg.1 hg.2.1 (len_i h hb) hB).1
    obtain rfl : p = p' := by omega
    obtain rfl : q = q' := by omega
    have epos : pos (kU k b t) b = pEv (pStart k (pos k) b) (cosF t) (sinF t) (nI (kLen k b)) := by
      rw [pos_eq (h.kU b ht) hb]
      unfold pStep
      rw [pStart_kU h hb, show kTrn (kU k b t) b = t from va_up_self _ _ _]
      rfl
    rw [epos, dx, dy, ex, ey]
    change p * gc t - q * gs t = _ ∧ p * gs t + q * gc t = _ ∧ _ + _ * (p * gc t - q * gs t) = _ ∧ _ + _ * (p * gs t + q * gc t) = _
    generalize (nI (kLen k b)).toInt = l
    refine ⟨?_, ?_, ?_, ?_⟩ <;> grind
  | n + 1, b, hb, e => by
    unfold upK at e
    cases hp : kPar k b with
    | none => rw [hp] at e; cases e
    | some p =>
      rw [hp] at e
      have hpb := (h.2.1 b hb).1 p hp
      obtain ⟨U, V, S, T, ⟨u, v, eU, eV⟩, key⟩ := turn_ex h hB ha n p (by omega) e
      have hap := upK_le h n p a (by omega) e
      have hd := (h.2.1 b hb).2.1
      have hdb : dep k b = dep k p + 1 := by
        have := dep_eq h hb
        rw [hp] at this
        exact this
      rw [eD_s (by omega), ← hdb, Int.mul_assoc] at eU eV
      generalize hU1 : eD (dep k b) * u = U1 at eU
      generalize hV1 : eD (dep k b) * v = V1 at eV
      have htb := (h.2.1 b hb).2.2.2.2.2.2
      have hgb := g_rng htb
      refine ⟨U1 * gc (kTrn k b) - V1 * gs (kTrn k b), U1 * gs (kTrn k b) + V1 * gc (kTrn k b), S + (nI (kLen k b)).toInt * (U1 * gc (kTrn k b) - V1 * gs (kTrn k b)), T + (nI (kLen k b)).toInt * (U1 * gs (kTrn k b) + V1 * gc (kTrn k b)), ⟨u * gc (kTrn k b) - v * gs (kTrn k b), u * gs (kTrn k b) + v * gc (kTrn k b), by rw [← hU1, ← hV1]; grind, by rw [← hU1, ← hV1]; grind⟩, fun t ht => ?_⟩
      obtain ⟨k1, k2, k3, k4⟩ := key t ht
      have h0 := ok_pos (h.kU a ht) (show rtB 600 (kU k a t) from hB) p (show p < kN k by omega)
      obtain ⟨p', q', f1, f2, -, dx, dy, ex, ey⟩ := (okQ.step h0 (c := cosF (kTrn k b)) (s := sinF (kTrn k b)) (l := nI (kLen k b)) (show dep k p ≤ 4 by omega) hgb.1 hgb.2.1 (len_i h hb) hB).1
      have epos : pos (kU k a t) b = pEv (pos (kU k a t) p) (cosF (kTrn k b)) (sinF (kTrn k b)) (nI (kLen k b)) := by
        rw [pos_eq (h.kU a ht) hb, pStep_kU _ (show b ≠ a by omega)]
        unfold pStep pStart
        rw [hp]
        rfl
      rw [epos, dx, dy, ex, ey, k3, k4]
      rw [k1, eU, eV] at f1
      rw [k2, eU, eV] at f2
      have g1 : p' = gc t * U1 - gs t * V1 := by
        have : 65 * p' = 65 * (gc t * U1 - gs t * V1) := by rw [← f1]; grind
        omega
      have g2 : q' = gs t * U1 + gc t * V1 := by
        have : 65 * q' = 65 * (gs t * U1 + gc t * V1) := by rw [← f2]; grind
        omega
      rw [g1, g2]
      change _ * gc (kTrn k b) - _ * gs (kTrn k b) = _ ∧ _ * gs (kTrn k b) + _ * gc (kTrn k b) = _ ∧ _ + _ * (_ * gc (kTrn k b) - _ * gs (kTrn k b)) = _ ∧ _ + _ * (_ * gs (kTrn k b) + _ * gc (kTrn k b)) = _
      generalize (nI (kLen k b)).toInt = l
      generalize gc (kTrn k b) = cb
      generalize gs (kTrn k b) = sb
      generalize gc t = ct
      generalize gs t = st
      refine ⟨?_, ?_, ?_, ?_⟩ <;> grind
theorem start_rng {k : Sk} (h : Wf k) (hB : rtB 600 k) {a : Nat} (ha : a < kN k) : ((pStart k (pos k) a).2.2.1.toInt - (kRx k).toInt).natAbs ≤ 18564650000000 ∧ ((pStart k (pos k) a).2.2.2.toInt - (kRy k).toInt).natAbs ≤ 18564650000000 := by
  obtain ⟨h0, h1⟩ := ok_start h ha (fun p hp => ok_pos h hB p (by omega))
  have hd := (h.2.1 a ha).2.1
  have h2 := h0.2.2.2.1
  have h3 := h0.2.2.2.2
  omega
theorem sub_b {a b : Int} (h : (a - b).natAbs ≤ 40000000000000) : -9223372036854775808 ≤ a - b ∧ a - b < 9223372036854775808 ∧ (a - b).natAbs ≤ 2 ^ 50 := by omega
theorem s_b {A B S : Int} (h1 : A.natAbs ≤ 40000000000000 * 65) (h2 : B.natAbs ≤ 40000000000000 * 65) (e : A + B = 65 * (65 * S) ∨ A - B = 65 * (65 * S)) : (65 * S).natAbs ≤ 2 ^ 50 := by omega
theorem sq_1 (c s S T : Int) : (c * S - s * T) * c + (s * S + c * T) * s = (c * c + s * s) * S := by grind
theorem sq_2 (c s S T : Int) : (s * S + c * T) * c - (c * S - s * T) * s = (c * c + s * s) * T := by grind
theorem i65 (S : Int) : 4225 * S = 65 * (65 * S) := by omega
theorem m65 (c s S T : Int) : 65 * S * c - 65 * T * s = 65 * (c * S - s * T) := by grind
theorem p65 (c s S T : Int) : 65 * S * s + 65 * T * c = 65 * (s * S + c * T) := by grind
theorem eq_sub {a b c : Int} (h : a = b + c) : a - b = c := by omega
theorem near_core {ex ey sx sy fx fy : Int64} {S T : Int} {t0 t : Nat} (h0 : t0 < 36) (ht : t < 36) (k3 : ex.toInt = sx.toInt + (gc t0 * S - gs t0 * T)) (k4 : ey.toInt = sy.toInt + (gs t0 * S + gc t0 * T)) (m3 : fx.toInt = sx.toInt + (gc t * S - gs t * T)) (m4 : fy.toInt = sy.toInt + (gs t * S + gc t * T)) (bx : (ex.toInt - sx.toInt).natAbs ≤ 40000000000000) (bY : (ey.toInt - sy.toInt).natAbs ≤ 40000000000000) :
    sx + (strX ex ey sx sy t0 * (cosF t).toInt64 - strY ex ey sx sy t0 * (sinF t).toInt64) / 65 = fx ∧ sy + (strX ex ey sx sy t0 * (sinF t).toInt64 + strY ex ey sx sy t0 * (cosF t).toInt64) / 65 = fy := by
  obtain ⟨c0, s0, q0⟩ := g_rng h0
  obtain ⟨c1, s1, -⟩ := g_rng ht
  obtain ⟨x1, x2, x3⟩ := sub_b bx
  obtain ⟨y1, y2, y3⟩ := sub_b bY
  have ux := fb_subL x1 x2
  have uy := fb_subL y1 y2
  rw [← ux] at x3 bx
  rw [← uy] at y3 bY
  have wx := ux.trans (eq_sub k3)
  have wy := uy.trans (eq_sub k4)
  have i1 : (ex - sx).toInt * gc t0 + (ey - sy).toInt * gs t0 = 65 * (65 * S) := by rw [wx, wy, sq_1, q0, i65]
  have i2 : (ey - sy).toInt * gc t0 - (ex - sx).toInt * gs t0 = 65 * (65 * T) := by rw [wx, wy, sq_2, q0, i65]
  have bS := s_b (mul_abs bx c0) (mul_abs bY s0) (Or.inl i1)
  have bT := s_b (mul_abs bY c0) (mul_abs bx s0) (Or.inr i2)
  have e1 : (strX ex ey sx sy t0).toInt = 65 * S := linS x3 y3 c0 s0 i1
  have e2 : (strY ex ey sx sy t0).toInt = 65 * T := linD y3 x3 c0 s0 i2
  generalize strX ex ey sx sy t0 = qx at e1 ⊢
  generalize strY ex ey sx sy t0 = qy at e2 ⊢
  rw [← e1] at bS
  rw [← e2] at bT
  have r1 : ((qx * (cosF t).toInt64 - qy * (sinF t).toInt64) / 65).toInt = gc t * S - gs t * T := linD bS bT c1 s1 (by rw [e1, e2]; exact m65 _ _ _ _)
  have r2 : ((qx * (sinF t).toInt64 + qy * (cosF t).toInt64) / 65).toInt = gs t * S + gc t * T := linS bS bT s1 c1 (by rw [e1, e2]; exact p65 _ _ _ _)
  have gx := fb_rngL fx
  have gy := fb_rngL fy
  rw [m3] at gx
  rw [m4] at gy
  exact ⟨Int64.toInt_inj.mp (by rw [fb_addL (by rw [r1]; exact gx.1) (by rw [r1]; exact gx.2), r1, m3]), Int64.toInt_inj.mp (by rw [fb_addL (by rw [r2]; exact gy.1) (by rw [r2]; exact gy.2), r2, m4])⟩
theorem dif_b {a b r : Int} (h1 : (a - r).natAbs ≤ 18564650000000) (h2 : (b - r).natAbs ≤ 18564650000000) : (a - b).natAbs ≤ 40000000000000 := by omega
theorem near_eq {k : Sk} {a b n : Nat} (h : Wf k) (hB : rtB 600 k) (ha : a < kN k) (hb : b < kN k) (hu : upK k n b = some a) (x y : Int64) {t : Nat} (ht : t < 36) :
    nearF (pos k b).2.2.1 (pos k b).2.2.2 (pStart k (pos k) a).2.2.1 (pStart k (pos k) a).2.2.2 x y (kTrn k a) t = farK (kU k a t) b x y := by
  obtain ⟨U, V, S, T, -, key⟩ := turn_ex h hB ha n b hb hu
  have h0 := (h.2.1 a ha).2.2.2.2.2.2
  obtain ⟨-, -, k3, k4⟩ := key (kTrn k a) h0
  rw [kU_self] at k3 k4
  obtain ⟨-, -, m3, m4⟩ := key t ht
  obtain ⟨-, -, p3, p4⟩ := pos_rng h hB hb
  obtain ⟨s1, s2⟩ := start_rng h hB ha
  obtain ⟨z1, z2⟩ := near_core h0 ht k3 k4 m3 m4 (dif_b p3 s1) (dif_b p4 s2)
  unfold nearF farK farT
  rw [z1, z2]
theorem scan_congr {f g : Nat → Int64} {al : Nat → Bool} {z : Int64 × Nat} : ∀ n, (∀ t, t < n → f t = g t) → scan f al n z = scan g al n z
  | 0, _ => rfl
  | n + 1, h => by rw [scan, scan, scan_congr n (fun t ht => h t (by omega)), h n (by omega)]
theorem ntK_eq {k : Sk} {a b n : Nat} (h : Wf k) (hB : rtB 600 k) (ha : a < kN k) (hb : b < kN k) (hu : upK k n b = some a) (x y : Int64) {fa : Nat} (hf : fa < 36) :
    ntK k a b x y fa = (scan (fun t => farK (kU k a t) b x y) (alB (kLow k a) (kSpr k a)) 36 (farK (kU k a fa) b x y, fa)).2 := by
  unfold ntK nearT
  rw [near_eq h hB ha hb hu x y hf, scan_congr 36 (fun t ht => near_eq h hB ha hb hu x y ht)]
/-- how far, as the reference counts it -/
theorem far_M {ex x : Int64} (h1 : ex.toInt.natAbs ≤ 2 ^ 56) (h2 : plc x) : labs (ex - x) = if x < ex then ex - x else x - ex := by
  unfold labs
  have hs : (ex - x).toInt = ex.toInt - x.toInt := fb_subL (by have := h2.1; have := h2.2; omega) (by have := h2.1; have := h2.2; omega)
  by_cases c : x < ex
  · rw [if_pos c, if_pos]
    rw [Int64.lt_iff_toInt_lt] at c ⊢
    rw [hs]
    show (0 : Int) < _
    omega
  · rw [if_neg c, if_neg]
    · exact Int64.neg_sub
    · intro q
      apply c
      rw [Int64.lt_iff_toInt_lt] at q ⊢
      rw [hs] at q
      have : (0 : Int) < ex.toInt - x.toInt := q
      omega
