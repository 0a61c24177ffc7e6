/-! what stays: worlds but for some names -/
def Keep (S : Nat → Prop) (w w' : Wd) : Prop := wK w' = wK w ∧ wN w' = wN w ∧ wR w' = wR w ∧ wL w' = wL w ∧ ∀ a, ¬ S a → wI w' a = wI w a ∧ wJ w' a = wJ w a
theorem Keep.refl (S : Nat → Prop) (w : Wd) : Keep S w w := ⟨rfl, rfl, rfl, rfl, fun _ _ => ⟨rfl, rfl⟩⟩
theorem Keep.trans {S : Nat → Prop} {w w1 w2 : Wd} (h : Keep S w w1) (g : Keep S w1 w2) : Keep S w w2 := ⟨g.1.trans h.1, g.2.1.trans h.2.1, g.2.2.1.trans h.2.2.1, g.2.2.2.1.trans h.2.2.2.1, fun a ha => ⟨(g.2.2.2.2 a ha).1.trans (h.2.2.2.2 a ha).1, (g.2.2.2.2 a ha).2.trans (h.2.2.2.2 a ha).2⟩⟩
theorem Keep.mono {S S' : Nat → Prop} {w w1 : Wd} (h : Keep S w w1) (hs : ∀ a, S a → S' a) : Keep S' w w1 := ⟨h.1, h.2.1, h.2.2.1, h.2.2.2.1, fun a ha => h.2.2.2.2 a (fun q => ha (hs a q))⟩
theorem Keep.I {S : Nat → Prop} {w w1 : Wd} (h : Keep S w w1) {a : Nat} (ha : ¬ S a) : wI w1 a = wI w a := (h.2.2.2.2 a ha).1
theorem Keep.J {S : Nat → Prop} {w w1 : Wd} (h : Keep S w w1) {a : Nat} (ha : ¬ S a) : wJ w1 a = wJ w a := (h.2.2.2.2 a ha).2
theorem Keep.sI {S : Nat → Prop} (w : Wd) {n : Nat} (hn : S n) (k : Nat) (x : Int32) : Keep S w (sI w n k x) := ⟨rfl, rfl, rfl, rfl, fun a ha => ⟨sI_ne w x (fun q => ha (q ▸ hn)), rfl⟩⟩
theorem Keep.sJ {S : Nat → Prop} (w : Wd) {n : Nat} (hn : S n) (k : Nat) (x : Int64) : Keep S w (sJ w n k x) := ⟨rfl, rfl, rfl, rfl, fun a ha => ⟨rfl, sJ_ne w x (fun q => ha (q ▸ hn))⟩⟩
theorem Keep.sV {S : Nat → Prop} (w : Wd) {n : Nat} (hn : S n) (f : Nat → Int32) : Keep S w (sV w n f) := ⟨rfl, rfl, rfl, rfl, fun a ha => ⟨funext fun j => if_neg (fun (q : a = n) => ha (q ▸ hn)), rfl⟩⟩
theorem LayX.keep {S : Nat → Prop} {w w' : Wd} (h : LayX w) (g : Keep S w w') : LayX w' := by
  obtain ⟨h1, h2, h3, -, -⟩ := g
  unfold LayX
  rw [h1, h2, h3]
  exact h
theorem LayM.keep {S : Nat → Prop} {w w' : Wd} (h : LayM w) (g : Keep S w w') : LayM w' := by
  obtain ⟨h1, h2, h3, -, -⟩ := g
  unfold LayM
  rw [h1, h2, h3]
  exact h
theorem LayB.keep {S : Nat → Prop} {k : Sk} {w w' : Wd} (h : LayB k w) (g : Keep S w w') : LayB k w' := by
  obtain ⟨h1, h2, h3, -, -⟩ := g
  unfold LayB
  rw [h1, h3]
  exact h
/-- the skeleton's names -/
abbrev skA (a : Nat) : Prop := a = 21 ∨ (300 ≤ a ∧ a < 310)
/-- the class holds the skeleton k (the kept places aside) -/
def SkX (k : Sk) (w : Wd) : Prop := LayX w ∧ LayB k w ∧ Wf k ∧ RSk0 k (wI w) (wJ w)
def SkP (k : Sk) (w : Wd) : Prop := SkX k w ∧ RPos k (kN k) (wJ w)
theorem SkX.n10 {k : Sk} {w : Wd} (h : SkX k w) : kN k ≤ 10 := h.2.2.1.1
theorem SkX.size {k : Sk} {w : Wd} (h : SkX k w) : wI w 21 1 = nI (kN k) := h.2.2.2.1
theorem SkX.lck {k : Sk} {w : Wd} (h : SkX k w) : wI w 21 2 = oI (kLck k) := h.2.2.2.2.1
theorem SkX.rx {k : Sk} {w : Wd} (h : SkX k w) : wJ w 21 3 = kRx k := h.2.2.2.2.2.1
theorem SkX.ry {k : Sk} {w : Wd} (h : SkX k w) : wJ w 21 4 = kRy k := h.2.2.2.2.2.2.1
theorem SkX.bone {k : Sk} {w : Wd} (h : SkX k w) {b : Nat} (hb : b < kN k) : wI w (300 + b) 1 = oI (kPar k b) ∧ wI w (300 + b) 2 = nI (dep k b) ∧ wI w (300 + b) 3 = nI (kLen k b) ∧ wI w (300 + b) 4 = nI (kLow k b) ∧ wI w (300 + b) 5 = nI (kSpr k b) ∧ wI w (300 + b) 6 = nI (lastN (kLow k b) (kSpr k b)) ∧ wI w (300 + b) 7 = nI (kTrn k b) := h.2.2.2.2.2.2.2 b hb
theorem SkX.kb {k : Sk} {w : Wd} (h : SkX k w) {b : Nat} (hb : b < kN k) : wK w (300 + b) = 1 := (h.2.1 b hb).1
theorem SkX.rb {k : Sk} {w : Wd} (h : SkX k w) {b : Nat} (hb : b < kN k) : wR w 26 b = some (300 + b) := (h.2.1 b hb).2.1
theorem SkX.pb {k : Sk} {w : Wd} (h : SkX k w) {b : Nat} (hb : b < kN k) : wR w (300 + b) 0 = (kPar k b).map (fun p => 300 + p) := (h.2.1 b hb).2.2
theorem SkX.wf {k : Sk} {w : Wd} (h : SkX k w) {b : Nat} (hb : b < kN k) : (∀ p, kPar k b = some p → p < b) ∧ dep k b ≤ 5 ∧ 1 ≤ kLen k b ∧ kLen k b ≤ 100 ∧ kLow k b < 36 ∧ kSpr k b < 36 ∧ kTrn k b < 36 := h.2.2.1.2.1 b hb
/-- a turn is written -/
theorem RSk0.turn {k : Sk} {t t' : Nat → Nat} {I : Nat → Nat → Int32} {J : Nat → Nat → Int64} {b v : Nat} (h : RSk0 (kT k t) I J) (hv : t' b = v) (ho : ∀ i, i < kN k → i ≠ b → t' i = t i) : RSk0 (kT k t') (up2 I (300 + b) 7 (nI v)) J := by
  obtain ⟨h1, h2, h3, h4, h5⟩ := h
  refine ⟨(up2_ne _ _ (by omega)).trans h1, (up2_ne _ _ (by omega)).trans h2, h3, h4, fun i hi => ?_⟩
  obtain ⟨g1, g2, g3, g4, g5, g6, g7⟩ := h5 i hi
  refine ⟨(up2_ne _ _ (by omega)).trans g1, (up2_ne _ _ (by omega)).trans g2, (up2_ne _ _ (by omega)).trans g3, (up2_ne _ _ (by omega)).trans g4, (up2_ne _ _ (by omega)).trans g5, (up2_ne _ _ (by omega)).trans g6, ?_⟩
  by_cases e : i = b
  · subst e
    rw [up2_self, ← hv]
    rfl
  · rw [up2_ne _ _ (by omega), g7]
    exact congrArg nI (ho i hi e).symm
theorem SkX.turn {k : Sk} {t t' : Nat → Nat} {w : Wd} {b v : Nat} (h : SkX (kT k t) w) (hv : t' b = v) (hlt : ∀ i, i < kN k → t' i < 36) (ho : ∀ i, i < kN k → i ≠ b → t' i = t i) : SkX (kT k t') (sI w (300 + b) 7 (nI v)) :=
  ⟨h.1, h.2.1, ⟨h.2.2.1.1, fun i hi => ⟨(h.2.2.1.2.1 i hi).1, (h.2.2.1.2.1 i hi).2.1, (h.2.2.1.2.1 i hi).2.2.1, (h.2.2.1.2.1 i hi).2.2.2.1, (h.2.2.1.2.1 i hi).2.2.2.2.1, (h.2.2.1.2.1 i hi).2.2.2.2.2.1, hlt i hi⟩, h.2.2.1.2.2⟩, h.2.2.2.turn hv ho⟩
/-- the root gives way, so that the locked bone's end stays at ox, oy -/
def stl (k : Sk) (ox oy : Int64) : Sk := match kLck k with
  | none => k
  | some b => kRt k (kRx k + (ox - (pos k b).2.2.1)) (kRy k + (oy - (pos k b).2.2.2))
/-- where the locked bone's end is -/
def oldX (k : Sk) : Int64 := match kLck k with
  | none => 0
  | some b => (pos k b).2.2.1
def oldY (k : Sk) : Int64 := match kLck k with
  | none => 0
  | some b => (pos k b).2.2.2
/-- the pose becomes t -/
def setP (k : Sk) (t : Nat → Nat) : Sk := stl (kT k t) (oldX k) (oldY k)
/-- turns of the bones below n by g, of the others by t -/
def mixT (n : Nat) (g t : Nat → Nat) : Nat → Nat := fun i => if i < n then g i else t i
theorem mixT_0 (g t : Nat → Nat) : mixT 0 g t = t := funext fun i => if_neg (by omega)
theorem oI_toInt (o : Option Nat) (h : ∀ b, o = some b → b < 2147483648) : (oI o).toInt = (match o with
    | none => -1
    | some b => (b : Int)) := by
  cases o with
  | none => rfl
  | some b => exact nI_toInt (h b rfl)
theorem nI_m1 {n : Nat} (h : n < 1000000000) : (nI n - 1).toInt = (n : Int) - 1 := by
  rw [fb_subI] <;> rw [nI_toInt (by omega), show (1 : Int32).toInt = 1 from rfl] <;> omega
