/-! THE WHOLE STATE, and what the class holds of it -/
abbrev St : Type := Sk × Cp × (Nat × (Nat → Nat)) × (Nat × Option Nat × Nat × (Nat → Option Nat)) × Sh × Nat
def zK (z : St) : Sk := z.1
def zQ (z : St) : Cp := z.2.1
def zN (z : St) : Nat := z.2.2.1.1
def zY (z : St) : Nat → Nat := z.2.2.1.2
def zJ (z : St) : Nat := z.2.2.2.1.1
def zW (z : St) : Option Nat := z.2.2.2.1.2.1
def zP (z : St) : Nat := z.2.2.2.1.2.2.1
def zS (z : St) : Nat → Option Nat := z.2.2.2.1.2.2.2
def zH (z : St) : Sh := z.2.2.2.2.1
def zF (z : St) : Nat := z.2.2.2.2.2
def pK (z : St) (k : Sk) : St := (k, z.2)
def pQ (z : St) (q : Cp) : St := (z.1, q, z.2.2)
def pY (z : St) (n : Nat) (y : Nat → Nat) : St := (z.1, z.2.1, (n, y), z.2.2.2)
def pG (z : St) (g : Nat × Option Nat × Nat × (Nat → Option Nat)) : St := (z.1, z.2.1, z.2.2.1, g, z.2.2.2.2)
def pH (z : St) (h : Sh) (f : Nat) : St := (z.1, z.2.1, z.2.2.1, z.2.2.2.1, h, f)
def RGr (g : Nat × Option Nat × Nat × (Nat → Option Nat)) (I : Nat → Nat → Int32) : Prop := I 24 0 = nI g.1 ∧ g.1 ≤ 100 ∧ I 24 1 = oI g.2.1 ∧ RPt g.2.2.1 g.2.2.2 I ∧ ∀ n, n < g.2.2.1 → ∃ v, g.2.2.2 n = some v
def RX (z : St) (w : Wd) : Prop := SkP (zK z) w ∧ CpX (kN (zK z)) (zQ z) w ∧ RPk (zN z) (zY z) (wI w) ∧ RGr z.2.2.2.1 (wI w) ∧ ShX (zH z) w ∧ wI w 20 5 = nI (zF z) ∧ zF z ≤ 5
theorem RPk.keep {n : Nat} {y : Nat → Nat} {S : Nat → Prop} {w w' : Wd} (h : RPk n y (wI w)) (g : Keep S w w') (hS : ∀ a, S a → ¬ pkA a) : RPk n y (wI w') := by
  unfold RPk
  rw [g.I (a := 23) (fun q => hS _ q (Or.inl rfl)), g.I (a := 28) (fun q => hS _ q (Or.inr rfl))]
  exact h
theorem RGr.keep {x : Nat × Option Nat × Nat × (Nat → Option Nat)} {S : Nat → Prop} {w w' : Wd} (h : RGr x (wI w)) (g : Keep S w w') (hS : ∀ a, S a → ¬ ptA a) : RGr x (wI w') := by
  unfold RGr RPt
  rw [g.I (a := 24) (fun q => hS _ q (Or.inl rfl)), g.I (a := 29) (fun q => hS _ q (Or.inr rfl))]
  exact h
theorem RX.setK {z : St} {w w' : Wd} {k : Sk} (h : RX z w) (g : Keep skA w w') (hk : SkP k w') (hn : kN k = kN (zK z)) : RX (pK z k) w' :=
  ⟨hk, by show CpX (kN k) (zQ z) w'; rw [hn]; exact h.2.1.keep g (fun a => by unfold skA cpA; omega), h.2.2.1.keep g (fun a => by unfold skA pkA; omega), h.2.2.2.1.keep g (fun a => by unfold skA ptA; omega), h.2.2.2.2.1.keep g (fun a => by unfold skA; omega), (congrFun (g.I (a := 20) (by unfold skA; omega)) 5).trans h.2.2.2.2.2.1, h.2.2.2.2.2.2⟩
theorem RX.setQ {z : St} {w w' : Wd} {q : Cp} (h : RX z w) (g : Keep cpA w w') (hq : CpX (kN (zK z)) q w') : RX (pQ z q) w' :=
  ⟨h.1.keep g (fun a => by unfold skA cpA; omega), hq, h.2.2.1.keep g (fun a => by unfold cpA pkA; omega), h.2.2.2.1.keep g (fun a => by unfold cpA ptA; omega), h.2.2.2.2.1.keep g (fun a => by unfold cpA; omega), (congrFun (g.I (a := 20) (by unfold cpA; omega)) 5).trans h.2.2.2.2.2.1, h.2.2.2.2.2.2⟩
theorem RX.setY {z : St} {w w' : Wd} {n : Nat} {y : Nat → Nat} (h : RX z w) (g : Keep pkA w w') (hy : RPk n y (wI w')) : RX (pY z n y) w' :=
  ⟨h.1.keep g (fun a => by unfold skA pkA; omega), h.2.1.keep g (fun a => by unfold cpA pkA; omega), hy, h.2.2.2.1.keep g (fun a => by unfold pkA ptA; omega), h.2.2.2.2.1.keep g (fun a => by unfold pkA; omega), (congrFun (g.I (a := 20) (by unfold pkA; omega)) 5).trans h.2.2.2.2.2.1, h.2.2.2.2.2.2⟩
theorem RX.setG {z : St} {w w' : Wd} {x : Nat × Option Nat × Nat × (Nat → Option Nat)} (h : RX z w) (g : Keep grA w w') (hx : RGr x (wI w')) : RX (pG z x) w' :=
  ⟨h.1.keep g (fun a => by unfold skA grA; omega), h.2.1.keep g (fun a => by unfold cpA grA; omega), h.2.2.1.keep g (fun a => by unfold grA pkA; omega), hx, h.2.2.2.2.1.keep g (fun a => by unfold grA; omega), (congrFun (g.I (a := 20) (by unfold grA; omega)) 5).trans h.2.2.2.2.2.1, h.2.2.2.2.2.2⟩
theorem RX.setH {z : St} {w w' : Wd} {x : Sh} {f : Nat} (h : RX z w) (g : Keep shA w w') (hx : ShX x w') (hf : wI w' 20 5 = nI f) (h5 : f ≤ 5) : RX (pH z x f) w' :=
  ⟨h.1.keep g (fun a => by unfold skA shA; omega), h.2.1.keep g (fun a => by unfold cpA shA; omega), h.2.2.1.keep g (fun a => by unfold shA pkA; omega), h.2.2.2.1.keep g (fun a => by unfold shA ptA; omega), hx, hf, h5⟩
abbrev clA (a : Nat) : Prop := a < 400
/-- a bone's number -/
abbrev isB (z : St) (x : Int32) : Prop := 0 ≤ x.toInt ∧ x.toInt < kN (zK z)
theorem isB_n {z : St} {w : Wd} (h : RX z w) {x : Int32} (hx : isB z x) : ∃ b, b < kN (zK z) ∧ x = nI b := by
  have hn := h.1.1.n10
  refine ⟨x.toInt.toNat, by have := hx.1; have := hx.2; omega, Int32.toInt_inj.mp ?_⟩
  have h1 := hx.1
  have h2 := hx.2
  rw [nI_toInt (by omega)]
  omega
def bN (x : Int32) : Nat := x.toInt.toNat
theorem bN_nI {b : Nat} (h : b < 2147483648) : bN (nI b) = b := by unfold bN; rw [nI_toInt h]; rfl
theorem i32_nat {x : Int32} (h0 : 0 ≤ x.toInt) : x = nI (bN x) := by
  apply Int32.toInt_inj.mp
  have := fb_rng x
  unfold bN
  rw [nI_toInt (by omega)]
  omega
