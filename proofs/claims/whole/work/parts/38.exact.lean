/-! EXACT PLACES: no division leaves a rest, no number wraps around -/
theorem i64_divT (x y : Int64) (h : y.toInt ≠ -1) : (x / y).toInt = x.toInt.tdiv y.toInt := by
  have hx := fb_rngL x
  rw [Int64.toInt_div]
  by_cases h0 : y.toInt = 0
  · rw [h0, Int.tdiv_zero]; rfl
  have h1 : (x.toInt.tdiv y.toInt).natAbs = x.toInt.natAbs / y.toInt.natAbs := Int.natAbs_tdiv ..
  have h2 : 2 ≤ y.toInt.natAbs ∨ y.toInt = 1 := by omega
  apply fb_bmodL
  · rcases h2 with h2 | h2
    · have : x.toInt.natAbs / y.toInt.natAbs ≤ x.toInt.natAbs / 2 := Nat.div_le_div_left h2 (by omega)
      omega
    · rw [h2, Int.tdiv_one]; omega
  · rcases h2 with h2 | h2
    · have : x.toInt.natAbs / y.toInt.natAbs ≤ x.toInt.natAbs / 2 := Nat.div_le_div_left h2 (by omega)
      omega
    · rw [h2, Int.tdiv_one]; omega
theorem mul_abs {p c : Int} {B C : Nat} (hp : p.natAbs ≤ B) (hc : c.natAbs ≤ C) : (p * c).natAbs ≤ B * C := by
  rw [Int.natAbs_mul]; exact Nat.mul_le_mul hp hc
def gc (t : Nat) : Int := (cosF t).toInt
def gs (t : Nat) : Int := (sinF t).toInt
theorem g_rng {t : Nat} (ht : t < 36) : (gc t).natAbs ≤ 65 ∧ (gs t).natAbs ≤ 65 ∧ gc t * gc t + gs t * gs t = 4225 :=
  (by decide +kernel : ∀ t : Fin 36, (gc t).natAbs ≤ 65 ∧ (gs t).natAbs ≤ 65 ∧ gc t * gc t + gs t * gs t = 4225) ⟨t, ht⟩
theorem mul_i64 {x : Int64} {a : Int32} (hx : x.toInt.natAbs ≤ 2 ^ 50) (ha : a.toInt.natAbs ≤ 100) : (x * a.toInt64).toInt = x.toInt * a.toInt ∧ (x.toInt * a.toInt).natAbs ≤ 2 ^ 50 * 100 := by
  have h := mul_abs hx ha
  refine ⟨?_, h⟩
  rw [fb_mulL (by rw [Int32.toInt_toInt64]; omega) (by rw [Int32.toInt_toInt64]; omega), Int32.toInt_toInt64]
theorem linS {x y : Int64} {a b : Int32} {z : Int} (hx : x.toInt.natAbs ≤ 2 ^ 50) (hy : y.toInt.natAbs ≤ 2 ^ 50) (ha : a.toInt.natAbs ≤ 65) (hb : b.toInt.natAbs ≤ 65) (hz : x.toInt * a.toInt + y.toInt * b.toInt = 65 * z) : ((x * a.toInt64 + y * b.toInt64) / 65).toInt = z := by
  obtain ⟨e1, b1⟩ := mul_i64 hx (a := a) (by omega)
  obtain ⟨e2, b2⟩ := mul_i64 hy (a := b) (by omega)
  rw [i64_divT _ _ (by decide), fb_addL (by rw [e1, e2]; omega) (by rw [e1, e2]; omega), e1, e2, hz]
  exact Int.mul_tdiv_cancel_left z (by decide)
theorem linD {x y : Int64} {a b : Int32} {z : Int} (hx : x.toInt.natAbs ≤ 2 ^ 50) (hy : y.toInt.natAbs ≤ 2 ^ 50) (ha : a.toInt.natAbs ≤ 65) (hb : b.toInt.natAbs ≤ 65) (hz : x.toInt * a.toInt - y.toInt * b.toInt = 65 * z) : ((x * a.toInt64 - y * b.toInt64) / 65).toInt = z := by
  obtain ⟨e1, b1⟩ := mul_i64 hx (a := a) (by omega)
  obtain ⟨e2, b2⟩ := mul_i64 hy (a := b) (by omega)
  rw [i64_divT _ _ (by decide), fb_subL (by rw [e1, e2]; omega) (by rw [e1, e2]; omega), e1, e2, hz]
  exact Int.mul_tdiv_cancel_left z (by decide)
/-- what is left of the unit at a depth, and how far a direction may go there -/
def eD (d : Nat) : Int := match d with
  | 0 => 1160290625
  | 1 => 17850625
  | 2 => 274625
  | 3 => 4225
  | 4 => 65
  | _ => 1
def bD (d : Nat) : Nat := match d with
  | 0 => 1160290625
  | 1 => 2320581250
  | 2 => 4641162500
  | 3 => 9282325000
  | 4 => 18564650000
  | _ => 37129300000
theorem eD_s {d : Nat} (h : d ≤ 4) : eD d = 65 * eD (d + 1) := (by decide : ∀ d : Fin 5, eD d.val = 65 * eD (d.val + 1)) ⟨d, by omega⟩
theorem bD_s {d : Nat} (h : d ≤ 4) : bD (d + 1) = 2 * bD d := (by decide : ∀ d : Fin 5, bD (d.val + 1) = 2 * bD d.val) ⟨d, by omega⟩
theorem bD_le {d : Nat} (h : d ≤ 5) : bD d ≤ 37129300000 := (by decide : ∀ d : Fin 6, bD d.val ≤ 37129300000) ⟨d, by omega⟩
def rtB (n : Nat) (k : Sk) : Prop := (kRx k).toInt.natAbs ≤ 1000000000000 + 50000000000000 * n ∧ (kRy k).toInt.natAbs ≤ 1000000000000 + 50000000000000 * n
/-- a direction and an end at depth d -/
def okQ (k : Sk) (d : Nat) (f : Q4) : Prop := (∃ u v : Int, f.1.toInt = eD d * u ∧ f.2.1.toInt = eD d * v) ∧ f.1.toInt.natAbs ≤ bD d ∧ f.2.1.toInt.natAbs ≤ bD d ∧ (f.2.2.1.toInt - (kRx k).toInt).natAbs ≤ 3712930000000 * d ∧ (f.2.2.2.toInt - (kRy k).toInt).natAbs ≤ 3712930000000 * d
theorem add_b {a r m : Int} {d : Nat} (h1 : (a - r).natAbs ≤ 3712930000000 * d) (h2 : r.natAbs ≤ 1000000000000 + 50000000000000 * 600) (h3 : m.natAbs ≤ 3712930000000) (hd : d ≤ 4) : (-9223372036854775808 ≤ a + m ∧ a + m < 9223372036854775808) ∧ (a + m - r).natAbs ≤ 3712930000000 * (d + 1) := by omega
theorem lin_b {A B : Int} {D : Nat} (h1 : (65 * A).natAbs ≤ D * 65) (h2 : (65 * B).natAbs ≤ D * 65) : (A - B).natAbs ≤ 2 * D ∧ (A + B).natAbs ≤ 2 * D := by omega
theorem abs_65 {p : Int} {D : Nat} (h : (65 * p).natAbs ≤ D) : p.natAbs ≤ D := by omega
theorem rng_50 {p : Int} {D : Nat} (h : p.natAbs ≤ D) (hD : D ≤ 37129300000) : p.natAbs ≤ 2 ^ 50 := by omega
theorem mul_r {l m : Int} {D : Nat} (hl : l.natAbs ≤ 100) (hm : m.natAbs ≤ D) (hD : D ≤ 37129300000) : (l * m).natAbs ≤ 3712930000000 := by
  have := mul_abs hl hm
  omega
theorem lm_i64 {l : Int32} {x : Int64} {m : Int} (hx : x.toInt = m) (hb : (l.toInt * m).natAbs ≤ 3712930000000) : (l.toInt64 * x).toInt = l.toInt * m := by
  have e : l.toInt64.toInt * x.toInt = l.toInt * m := by rw [Int32.toInt_toInt64, hx]
  rw [fb_mulL (by rw [e]; omega) (by rw [e]; omega), e]
theorem okQ.step {k : Sk} {d : Nat} {f : Q4} {c s l : Int32} (h : okQ k d f) (hd : d ≤ 4) (hc : c.toInt.natAbs ≤ 65) (hs : s.toInt.natAbs ≤ 65) (hl : l.toInt.natAbs ≤ 100) (hB : rtB 600 k) :
    (∃ p q : Int, f.1.toInt = 65 * p ∧ f.2.1.toInt = 65 * q ∧ (∃ u v : Int, p = eD (d + 1) * u ∧ q = eD (d + 1) * v) ∧ (pEv f c s l).1.toInt = p * c.toInt - q * s.toInt ∧ (pEv f c s l).2.1.toInt = p * s.toInt + q * c.toInt ∧ (pEv f c s l).2.2.1.toInt = f.2.2.1.toInt + l.toInt * (p * c.toInt - q * s.toInt) ∧ (pEv f c s l).2.2.2.toInt = f.2.2.2.toInt + l.toInt * (p * s.toInt + q * c.toInt)) ∧ okQ k (d + 1) (pEv f c s l) := by
  obtain ⟨⟨u, v, e1, e2⟩, b1, b2, b3, b4⟩ := h
  have hb := bD_le (d := d) (Nat.le_trans hd (by decide))
  have hb1 := bD_s hd
  rw [eD_s hd, Int.mul_assoc] at e1 e2
  generalize hp : eD (d + 1) * u = p at e1
  generalize hq : eD (d + 1) * v = q at e2
  have m1 := mul_abs (p := 65 * p) (by rw [← e1]; exact b1) hc
  have m2 := mul_abs (p := 65 * q) (by rw [← e2]; exact b2) hs
  have m3 := mul_abs (p := 65 * p) (by rw [← e1]; exact b1) hs
  have m4 := mul_abs (p := 65 * q) (by rw [← e2]; exact b2) hc
  have dx : (pEv f c s l).1.toInt = p * c.toInt - q * s.toInt := linD (rng_50 b1 hb) (rng_50 b2 hb) hc hs (by rw [e1, e2, Int.mul_assoc, Int.mul_assoc, Int.mul_sub])
  have dy : (pEv f c s l).2.1.toInt = p * s.toInt + q * c.toInt := linS (rng_50 b1 hb) (rng_50 b2 hb) hs hc (by rw [e1, e2, Int.mul_assoc, Int.mul_assoc, Int.mul_add])
  rw [Int.mul_assoc] at m1 m2 m3 m4
  have n1 : (p * c.toInt - q * s.toInt).natAbs ≤ bD (d + 1) := hb1 ▸ (lin_b m1 m2).1
  have n2 : (p * s.toInt + q * c.toInt).natAbs ≤ bD (d + 1) := hb1 ▸ (lin_b m3 m4).2
  have hb5 := bD_le (d := d + 1) (Nat.succ_le_succ hd)
  have l1 := mul_r hl n1 hb5
  have l2 := mul_r hl n2 hb5
  have x1 := lm_i64 dx l1
  have x2 := lm_i64 dy l2
  obtain ⟨r1, r2⟩ := hB
  have y1 : (pEv f c s l).2.2.1.toInt = f.2.2.1.toInt + l.toInt * (p * c.toInt - q * s.toInt) := by
    show (f.2.2.1 + l.toInt64 * (pEv f c s l).1).toInt = _
    rw [fb_addL (by rw [x1]; exact (add_b b3 r1 l1 hd).1.1) (by rw [x1]; exact (add_b b3 r1 l1 hd).1.2), x1]
  have y2 : (pEv f c s l).2.2.2.toInt = f.2.2.2.toInt + l.toInt * (p * s.toInt + q * c.toInt) := by
    show (f.2.2.2 + l.toInt64 * (pEv f c s l).2.1).toInt = _
    rw [fb_addL (by rw [x2]; exact (add_b b4 r2 l2 hd).1.1) (by rw [x2]; exact (add_b b4 r2 l2 hd).1.2), x2]
  refine ⟨⟨p, q, e1, e2, ⟨u, v, hp.symm, hq.symm⟩, dx, dy, y1, y2⟩, ⟨⟨u * c.toInt - v * s.toInt, u * s.toInt + v * c.toInt, ?_, ?_⟩, ?_, ?_, ?_, ?_⟩⟩
  · rw [dx, ← hp, ← hq, Int.mul_sub, Int.mul_assoc, Int.mul_assoc]
  · rw [dy, ← hp, ← hq, Int.mul_add, Int.mul_assoc, Int.mul_assoc]
  · rw [dx]; exact n1
  · rw [dy]; exact n2
  · rw [y1]; exact (add_b b3 r1 l1 hd).2
  · rw [y2]; exact (add_b b4 r2 l2 hd).2
theorem len_i {k : Sk} (h : Wf k) {b : Nat} (hb : b < kN k) : (nI (kLen k b)).toInt.natAbs ≤ 100 := by
  have := (h.2.1 b hb).2.2.2.1
  rw [nI_toInt (by omega)]
  omega
/-- every start and every place is exact -/
theorem ok_start {k : Sk} (h : Wf k) {b : Nat} (hb : b < kN k) (ih : ∀ p, p < b → okQ k (dep k p) (pos k p)) : okQ k (dep k b - 1) (pStart k (pos k) b) ∧ 1 ≤ dep k b := by
  have hd := dep_eq h hb
  unfold pStart
  cases hp : kPar k b with
  | none =>
    rw [hp] at hd
    have hd1 : dep k b = 1 := hd
    rw [hd1]
    exact ⟨⟨⟨1, 0, rfl, rfl⟩, (by decide : (1160290625 : Int64).toInt.natAbs ≤ bD 0), (by decide : (0 : Int64).toInt.natAbs ≤ bD 0), by show ((kRx k).toInt - (kRx k).toInt).natAbs ≤ _; omega, by show ((kRy k).toInt - (kRy k).toInt).natAbs ≤ _; omega⟩, by decide⟩
  | some p =>
    rw [hp] at hd
    have hd1 : dep k b = dep k p + 1 := hd
    have hpb := (h.2.1 b hb).1 p hp
    rw [hd1]
    exact ⟨ih p hpb, by omega⟩
theorem ok_pos {k : Sk} (h : Wf k) (hB : rtB 600 k) : ∀ b, b < kN k → okQ k (dep k b) (pos k b) := by
  intro b
  induction b using Nat.strongRecOn with
  | ind b ih =>
    intro hb
    obtain ⟨h0, h1⟩ := ok_start h hb (fun p hp => ih p hp (by omega))
    have hd := (h.2.1 b hb).2.1
    have ht := (h.2.1 b hb).2.2.2.2.2.2
    have hg := g_rng ht
    have := (okQ.step h0 (c := cosF (kTrn k b)) (s := sinF (kTrn k b)) (l := nI (kLen k b)) (by omega) hg.1 hg.2.1 (len_i h hb) hB).2
    rw [pos_eq h hb]
    rw [show dep k b - 1 + 1 = dep k b by omega] at this
    exact this
theorem pos_rng {k : Sk} (h : Wf k) (hB : rtB 600 k) {b : Nat} (hb : b < kN k) : (pos k b).2.2.1.toInt.natAbs ≤ 2 ^ 56 ∧ (pos k b).2.2.2.toInt.natAbs ≤ 2 ^ 56 ∧ ((pos k b).2.2.1.toInt - (kRx k).toInt).natAbs ≤ 18564650000000 ∧ ((pos k b).2.2.2.toInt - (kRy k).toInt).natAbs ≤ 18564650000000 := by
  have h1 := ok_pos h hB b hb
  have hd := (h.2.1 b hb).2.1
  have h2 := h1.2.2.2.1
  have h3 := h1.2.2.2.2
  have r1 := hB.1
  have r2 := hB.2
  omega
