/-! THE STATE: names of the class's cells and of the reference's, layouts, the numbers that they hold -/
/-- the same cells, other numbers -/
def wS (w : Wd) (I : Nat → Nat → Int32) (J : Nat → Nat → Int64) : Wd := (wK w, wN w, I, J, wR w, wL w)
theorem wS_self (w : Wd) : wS w (wI w) (wJ w) = w := rfl
def kS (n : Nat) : Nat := if n = 20 then 8 else if n = 21 then 7 else if n = 22 then 3 else if n = 23 then 5 else if n = 24 then 4 else if n = 25 then 16 else if n = 26 then 14 else if n = 27 then 15 else if n = 28 then 11 else if n = 29 then 11 else if n = 30 then 11 else if n = 31 then 11 else if n = 32 then 11 else if n = 33 then 13 else 0
def nS (n : Nat) : Nat := if n = 25 then 4 else if n = 26 then 10 else if n = 27 then 6 else if n = 28 then 30 else 180
def rS (n k : Nat) : Option Nat := if n = 20 then some (21 + k) else if n = 21 then some 26 else if n = 22 then some 27 else if n = 23 then some 28 else if k = 2 then some 29 else if k = 4 then some 30 else some (25 + k)
def rSok (n k : Nat) : Bool := (n == 20 && Nat.blt k 5) || ((n == 21 || n == 22 || n == 23) && k == 0) || (n == 24 && (k == 2 || k == 4 || k == 6 || k == 7 || k == 8))
/-- the class's cells: one BoneSteps (20), its Skeleton 21, Clips 22, Packing 23, Graph 24, Sheet[] 25, Bone[] 26, Clip[] 27, keys 28, path 29, slots 30, costs 31, followers 32, settled 33; Clips 40.., their int[][] 50.., rows 100 and 30 c and f; Sheets 60.., items 70..; Bones 300.. -/
def LayX (w : Wd) : Prop :=
  (∀ n, 20 ≤ n → n < 34 → wK w n = kS n ∧ (25 ≤ n → wN w n = nS n)) ∧ (∀ n k, rSok n k = true → wR w n k = rS n k) ∧
  (∀ c, c < 6 → wK w (40 + c) = 2 ∧ wK w (50 + c) = 17 ∧ wN w (50 + c) = 30 ∧ wR w (40 + c) 0 = some (50 + c) ∧ wR w 27 c = some (40 + c) ∧ ∀ f, f < 30 → wK w (100 + (30 * c + f)) = 11 ∧ wN w (100 + (30 * c + f)) = 10 ∧ wR w (50 + c) f = some (100 + (30 * c + f))) ∧
  (∀ s, s < 4 → wK w (60 + s) = 6 ∧ wK w (70 + s) = 11 ∧ wN w (70 + s) = 60 ∧ wR w (60 + s) 0 = some (70 + s) ∧ wR w 25 s = some (60 + s))
theorem LayX.k {w : Wd} (h : LayX w) (n : Nat) (h1 : Nat.ble 20 n = true) (h2 : Nat.blt n 34 = true) : wK w n = kS n := (h.1 n (Nat.ble_eq.mp h1) (Nat.blt_eq.mp h2)).1
theorem LayX.n {w : Wd} (h : LayX w) (n : Nat) (h1 : Nat.ble 25 n = true) (h2 : Nat.blt n 34 = true) : wN w n = nS n := (h.1 n (by have := Nat.ble_eq.mp h1; omega) (Nat.blt_eq.mp h2)).2 (Nat.ble_eq.mp h1)
theorem LayX.r {w : Wd} (h : LayX w) (n k : Nat) (h1 : rSok n k = true) : wR w n k = rS n k := h.2.1 n k h1
theorem LayX.kc {w : Wd} (h : LayX w) {c : Nat} (hc : c < 6) : wK w (40 + c) = 2 := (h.2.2.1 c hc).1
theorem LayX.kf {w : Wd} (h : LayX w) {c : Nat} (hc : c < 6) : wK w (50 + c) = 17 := (h.2.2.1 c hc).2.1
theorem LayX.nf {w : Wd} (h : LayX w) {c : Nat} (hc : c < 6) : wN w (50 + c) = 30 := (h.2.2.1 c hc).2.2.1
theorem LayX.rf {w : Wd} (h : LayX w) {c : Nat} (hc : c < 6) : wR w (40 + c) 0 = some (50 + c) := (h.2.2.1 c hc).2.2.2.1
theorem LayX.rc {w : Wd} (h : LayX w) {c : Nat} (hc : c < 6) : wR w 27 c = some (40 + c) := (h.2.2.1 c hc).2.2.2.2.1
theorem LayX.kr {w : Wd} (h : LayX w) {c f : Nat} (hc : c < 6) (hf : f < 30) : wK w (100 + (30 * c + f)) = 11 := ((h.2.2.1 c hc).2.2.2.2.2 f hf).1
theorem LayX.nr {w : Wd} (h : LayX w) {c f : Nat} (hc : c < 6) (hf : f < 30) : wN w (100 + (30 * c + f)) = 10 := ((h.2.2.1 c hc).2.2.2.2.2 f hf).2.1
theorem LayX.rr {w : Wd} (h : LayX w) {c f : Nat} (hc : c < 6) (hf : f < 30) : wR w (50 + c) f = some (100 + (30 * c + f)) := ((h.2.2.1 c hc).2.2.2.2.2 f hf).2.2
theorem LayX.ks {w : Wd} (h : LayX w) {s : Nat} (hs : s < 4) : wK w (60 + s) = 6 := (h.2.2.2 s hs).1
theorem LayX.ki {w : Wd} (h : LayX w) {s : Nat} (hs : s < 4) : wK w (70 + s) = 11 := (h.2.2.2 s hs).2.1
theorem LayX.ni {w : Wd} (h : LayX w) {s : Nat} (hs : s < 4) : wN w (70 + s) = 60 := (h.2.2.2 s hs).2.2.1
theorem LayX.ri {w : Wd} (h : LayX w) {s : Nat} (hs : s < 4) : wR w (60 + s) 0 = some (70 + s) := (h.2.2.2 s hs).2.2.2.1
theorem LayX.rs {w : Wd} (h : LayX w) {s : Nat} (hs : s < 4) : wR w 25 s = some (60 + s) := (h.2.2.2 s hs).2.2.2.2
/-- the reference's cells: the object 400, the row in its field k at 401 and k -/
def kM (n : Nat) : Nat := if n = 400 then 9 else if n = 413 ∨ n = 414 ∨ n = 415 ∨ n = 416 then 12 else if n = 425 ∨ n = 427 then 13 else if n = 403 ∨ n = 410 ∨ n = 411 ∨ n = 412 ∨ n = 417 ∨ n = 418 ∨ n = 421 ∨ n = 423 ∨ n = 428 ∨ n = 429 ∨ n = 435 then 0 else 11
def nM (n : Nat) : Nat := if n < 403 then 36 else if n < 417 then 10 else if n = 419 then 6 else if n = 420 then 1800 else if n = 422 then 30 else if n = 424 then 32400 else if n = 425 ∨ n = 426 ∨ n = 427 ∨ n = 430 then 180 else if n = 431 ∨ n = 432 then 4 else if n = 433 then 240 else 60
def LayM (w : Wd) : Prop := (∀ n, 400 ≤ n → n < 436 → wK w n = kM n ∧ (kM n ≠ 0 → 401 ≤ n → wN w n = nM n)) ∧ ∀ k, k < 35 → kM (401 + k) ≠ 0 → wR w 400 k = some (401 + k)
theorem LayM.k {w : Wd} (h : LayM w) (n : Nat) (h1 : Nat.ble 400 n = true) (h2 : Nat.blt n 436 = true) : wK w n = kM n := (h.1 n (Nat.ble_eq.mp h1) (Nat.blt_eq.mp h2)).1
theorem LayM.n {w : Wd} (h : LayM w) (n : Nat) (h1 : Nat.ble 401 n = true) (h2 : Nat.blt n 436 = true) (h3 : kM n ≠ 0) : wN w n = nM n := (h.1 n (by have := Nat.ble_eq.mp h1; omega) (Nat.blt_eq.mp h2)).2 h3 (Nat.ble_eq.mp h1)
theorem LayM.r {w : Wd} (h : LayM w) (k : Nat) (h1 : Nat.blt k 35 = true) (h2 : kM (401 + k) ≠ 0) : wR w 400 k = some (401 + k) := h.2 k (Nat.blt_eq.mp h1) h2
/-- none is -1 -/
def oI (o : Option Nat) : Int32 := match o with
  | none => -1
  | some n => nI n
def sinF (t : Nat) : Int32 := cosF ((t + 27) % 36)
/-- a TURN within LIMITS -/
abbrev wi (lo sp t : Nat) : Prop := (t + 36 - lo) % 36 ≤ sp
def shortN (t u : Nat) : Int := let d := (u + 36 - t) % 36; if d ≤ 18 then d else (d : Int) - 36
def distN (t u : Nat) : Nat := let d := (u + 36 - t) % 36; if d ≤ 18 then d else 36 - d
def lastN (lo sp : Nat) : Nat := (lo + sp) % 36
def intoN (lo sp t : Nat) : Nat := if wi lo sp t then t else if distN t lo ≤ distN t (lastN lo sp) then lo else lastN lo sp
def addN (t : Nat) (z : Int) : Nat := ((t + z) % 36).toNat
def blendN (lo sp t u w : Nat) : Nat := intoN lo sp (addN t ((shortN t u * w).tdiv 100))
abbrev Sk : Type := Nat × (Nat → Option Nat) × (Nat → Nat) × (Nat → Nat) × (Nat → Nat) × (Nat → Nat) × Int64 × Int64 × Option Nat
def kN (k : Sk) : Nat := k.1
def kPar (k : Sk) : Nat → Option Nat := k.2.1
def kLen (k : Sk) : Nat → Nat := k.2.2.1
def kLow (k : Sk) : Nat → Nat := k.2.2.2.1
def kSpr (k : Sk) : Nat → Nat := k.2.2.2.2.1
def kTrn (k : Sk) : Nat → Nat := k.2.2.2.2.2.1
def kRx (k : Sk) : Int64 := k.2.2.2.2.2.2.1
def kRy (k : Sk) : Int64 := k.2.2.2.2.2.2.2.1
def kLck (k : Sk) : Option Nat := k.2.2.2.2.2.2.2.2
def kT (k : Sk) (t : Nat → Nat) : Sk := (kN k, kPar k, kLen k, kLow k, kSpr k, t, kRx k, kRy k, kLck k)
def kRt (k : Sk) (x y : Int64) : Sk := (kN k, kPar k, kLen k, kLow k, kSpr k, kTrn k, x, y, kLck k)
def kLk (k : Sk) (o : Option Nat) : Sk := (kN k, kPar k, kLen k, kLow k, kSpr k, kTrn k, kRx k, kRy k, o)
/-- directions and ends, by the order of numbers -/
abbrev Q4 : Type := Int64 × Int64 × Int64 × Int64
def pStart (k : Sk) (P : Nat → Q4) (b : Nat) : Q4 := match kPar k b with
  | none => (1160290625, 0, kRx k, kRy k)
  | some p => P p
def pStep (k : Sk) (P : Nat → Q4) (b : Nat) : Q4 :=
  let f := pStart k P b
  let c := (cosF (kTrn k b)).toInt64
  let s := (sinF (kTrn k b)).toInt64
  let dx := (f.1 * c - f.2.1 * s) / 65
  let dy := (f.1 * s + f.2.1 * c) / 65
  (dx, dy, f.2.2.1 + (nI (kLen k b)).toInt64 * dx, f.2.2.2 + (nI (kLen k b)).toInt64 * dy)
def posN (k : Sk) : Nat → Nat → Q4
  | 0 => fun _ => (0, 0, 0, 0)
  | b + 1 => va_up (posN k b) b (pStep k (posN k b) b)
def pos (k : Sk) (b : Nat) : Q4 := posN k (b + 1) b
theorem posN_lt (k : Sk) : ∀ n b, b < n → posN k n b = pos k b := by
  intro n
  induction n with
  | zero => intro b h; omega
  | succ n ih =>
    intro b h
    show va_up (posN k n) n _ b = _
    by_cases e : b = n
    · subst e; rfl
    · rw [va_up_ne _ _ e]
      exact ih b (by omega)
def depN (par : Nat → Option Nat) : Nat → Nat → Nat
  | 0 => fun _ => 0
  | b + 1 => va_up (depN par b) b (match par b with
    | none => 1
    | some p => depN par b p + 1)
def dep (k : Sk) (b : Nat) : Nat := depN (kPar k) (b + 1) b
theorem depN_lt (k : Sk) : ∀ n b, b < n → depN (kPar k) n b = dep k b := by
  intro n
  induction n with
  | zero => intro b h; omega
  | succ n ih =>
    intro b h
    show va_up (depN (kPar k) n) n _ b = _
    by_cases e : b = n
    · subst e; rfl
    · rw [va_up_ne _ _ e]
      exact ih b (by omega)
/-- a skeleton as the document allows it -/
def Wf (k : Sk) : Prop := kN k ≤ 10 ∧ (∀ b, b < kN k → (∀ p, kPar k b = some p → p < b) ∧ dep k b ≤ 5 ∧ 1 ≤ kLen k b ∧ kLen k b ≤ 100 ∧ kLow k b < 36 ∧ kSpr k b < 36 ∧ kTrn k b < 36) ∧ ∀ b, kLck k = some b → b < kN k
theorem pos_eq {k : Sk} (h : Wf k) {b : Nat} (hb : b < kN k) : pos k b = pStep k (pos k) b := by
  show va_up (posN k b) b (pStep k (posN k b) b) b = _
  rw [va_up_self]
  unfold pStep pStart
  cases hp : kPar k b with
  | none => rfl
  | some p => simp only [posN_lt k b p ((h.2.1 b hb).1 p hp)]
theorem dep_eq {k : Sk} (h : Wf k) {b : Nat} (hb : b < kN k) : dep k b = (match kPar k b with
    | none => 1
    | some p => dep k p + 1) := by
  show va_up (depN (kPar k) b) b _ b = _
  rw [va_up_self]
  cases hp : kPar k b with
  | none => rfl
  | some p => simp only [depN_lt k b p ((h.2.1 b hb).1 p hp)]
/-- the bones' references -/
def LayB (k : Sk) (w : Wd) : Prop := ∀ b, b < kN k → wK w (300 + b) = 1 ∧ wR w 26 b = some (300 + b) ∧ wR w (300 + b) 0 = (kPar k b).map (fun p => 300 + p)
/-- the class's skeleton but for the places that are kept, and those -/
def RSk0 (k : Sk) (I : Nat → Nat → Int32) (J : Nat → Nat → Int64) : Prop := I 21 1 = nI (kN k) ∧ I 21 2 = oI (kLck k) ∧ J 21 3 = kRx k ∧ J 21 4 = kRy k ∧ ∀ b, b < kN k → I (300 + b) 1 = oI (kPar k b) ∧ I (300 + b) 2 = nI (dep k b) ∧ I (300 + b) 3 = nI (kLen k b) ∧ I (300 + b) 4 = nI (kLow k b) ∧ I (300 + b) 5 = nI (kSpr k b) ∧ I (300 + b) 6 = nI (lastN (kLow k b) (kSpr k b)) ∧ I (300 + b) 7 = nI (kTrn k b)
def RPos (k : Sk) (n : Nat) (J : Nat → Nat → Int64) : Prop := ∀ b, b < n → J (300 + b) 8 = (pStart k (pos k) b).2.2.1 ∧ J (300 + b) 9 = (pStart k (pos k) b).2.2.2 ∧ J (300 + b) 10 = (pos k b).1 ∧ J (300 + b) 11 = (pos k b).2.1 ∧ J (300 + b) 12 = (pos k b).2.2.1 ∧ J (300 + b) 13 = (pos k b).2.2.2
