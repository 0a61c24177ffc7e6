/-! A NEW BONE -/
def kAdd (k : Sk) (o : Option Nat) (l lo sp : Nat) : Sk := (kN k + 1, va_up (kPar k) (kN k) o, va_up (kLen k) (kN k) l, va_up (kLow k) (kN k) lo, va_up (kSpr k) (kN k) sp, va_up (kTrn k) (kN k) lo, kRx k, kRy k, kLck k)
abbrev badB (z : St) (p l lo sp : Int32) : Prop := ((isB z p ∨ p = -1) ∧ (1 ≤ l.toInt ∧ l.toInt ≤ 100) ∧ (0 ≤ lo.toInt ∧ lo.toInt ≤ 35) ∧ (0 ≤ sp.toInt ∧ sp.toInt ≤ 35)) ∧ ¬ (isB z p ∧ 5 ≤ dep (zK z) (bN p))
def oBone (z : St) (p l lo sp : Int32) : Int32 × St := if badB z p l lo sp then (if 0 < sumN (zQ z).1 6 then (-3, z) else if 10 ≤ kN (zK z) then (-4, z) else (nI (kN (zK z)), pK z (kAdd (zK z) (if p = -1 then none else some (bN p)) (bN l) (bN lo) (bN sp)))) else (-2, z)
theorem depN_add (k : Sk) (o : Option Nat) (l lo sp : Nat) : ∀ n, n ≤ kN k → depN (kPar (kAdd k o l lo sp)) n = depN (kPar k) n
  | 0, _ => rfl
  | n + 1, h => by
    have ih := depN_add k o l lo sp n (by omega)
    have e : kPar (kAdd k o l lo sp) n = kPar k n := va_up_ne _ _ (by omega)
    show va_up (depN (kPar (kAdd k o l lo sp)) n) n _ = va_up (depN (kPar k) n) n _
    rw [ih, e]
theorem dep_add {k : Sk} {o : Option Nat} {l lo sp b : Nat} (hb : b < kN k) : dep (kAdd k o l lo sp) b = dep k b := congrFun (depN_add k o l lo sp (b + 1) hb) b
theorem posN_add (k : Sk) (o : Option Nat) (l lo sp : Nat) : ∀ n, n ≤ kN k → posN (kAdd k o l lo sp) n = posN k n
  | 0, _ => rfl
  | n + 1, h => by
    have ih := posN_add k o l lo sp n (by omega)
    have e1 : kPar (kAdd k o l lo sp) n = kPar k n := va_up_ne _ _ (by omega)
    have e2 : kLen (kAdd k o l lo sp) n = kLen k n := va_up_ne _ _ (by omega)
    have e3 : kTrn (kAdd k o l lo sp) n = kTrn k n := va_up_ne _ _ (by omega)
    show va_up (posN (kAdd k o l lo sp) n) n (pStep (kAdd k o l lo sp) (posN (kAdd k o l lo sp) n) n) = va_up (posN k n) n (pStep k (posN k n) n)
    rw [ih]
    congr 1
    unfold pStep pStart
    rw [e1, e2, e3]
    rfl
theorem pos_add {k : Sk} {o : Option Nat} {l lo sp b : Nat} (hb : b < kN k) : pos (kAdd k o l lo sp) b = pos k b := congrFun (posN_add k o l lo sp (b + 1) hb) b
theorem dep_new {k : Sk} {o : Option Nat} {l lo sp : Nat} (h : Wf k) (ho : ∀ p, o = some p → p < kN k) : dep (kAdd k o l lo sp) (kN k) = (match o with
    | none => 1
    | some p => dep k p + 1) := by
  show va_up (depN (kPar (kAdd k o l lo sp)) (kN k)) (kN k) _ (kN k) = _
  rw [va_up_self, show kPar (kAdd k o l lo sp) (kN k) = o from va_up_self _ _ _]
  cases o with
  | none => rfl
  | some p => simp only [depN_add k (some p) l lo sp (kN k) (Nat.le_refl _), depN_lt k (kN k) p (ho p rfl)]
theorem Wf.add {k : Sk} {o : Option Nat} {l lo sp : Nat} (h : Wf k) (hk : kN k < 10) (ho : ∀ p, o = some p → p < kN k ∧ dep k p < 5) (h1 : 1 ≤ l) (h2 : l ≤ 100) (h3 : lo < 36) (h4 : sp < 36) : Wf (kAdd k o l lo sp) := by
  refine ⟨by show kN k + 1 ≤ 10; omega, fun b hb => ?_, fun b hb => Nat.lt_succ_of_lt (h.2.2 b hb)⟩
  have hb' : b < kN k + 1 := hb
  by_cases e : b = kN k
  · subst e
    refine ⟨fun p hp => ?_, ?_, ?_, ?_, ?_, ?_, ?_⟩
    · have : va_up (kPar k) (kN k) o (kN k) = some p := hp
      rw [va_up_self] at this
      exact (ho p this).1
    · rw [dep_new h (fun p hp => (ho p hp).1)]
      cases o with
      | none => show 1 ≤ 5; decide
      | some p => have := (ho p rfl).2; show dep k p + 1 ≤ 5; omega
    · show 1 ≤ va_up (kLen k) (kN k) l (kN k); rw [va_up_self]; exact h1
    · show va_up (kLen k) (kN k) l (kN k) ≤ 100; rw [va_up_self]; exact h2
    · show va_up (kLow k) (kN k) lo (kN k) < 36; rw [va_up_self]; exact h3
    · show va_up (kSpr k) (kN k) sp (kN k) < 36; rw [va_up_self]; exact h4
    · show va_up (kTrn k) (kN k) lo (kN k) < 36; rw [va_up_self]; exact h3
  · obtain ⟨q1, q2, q3, q4, q5, q6, q7⟩ := h.2.1 b (by omega)
    refine ⟨fun p hp => q1 p ?_, by rw [dep_add (by omega)]; exact q2, ?_, ?_, ?_, ?_, ?_⟩
    · have : va_up (kPar k) (kN k) o b = some p := hp
      rwa [va_up_ne _ _ e] at this
    · show 1 ≤ va_up (kLen k) (kN k) l b; rw [va_up_ne _ _ e]; exact q3
    · show va_up (kLen k) (kN k) l b ≤ 100; rw [va_up_ne _ _ e]; exact q4
    · show va_up (kLow k) (kN k) lo b < 36; rw [va_up_ne _ _ e]; exact q5
    · show va_up (kSpr k) (kN k) sp b < 36; rw [va_up_ne _ _ e]; exact q6
    · show va_up (kTrn k) (kN k) lo b < 36; rw [va_up_ne _ _ e]; exact q7
/-- what the world is behind a new bone -/
def grW (w : Wd) (k : Sk) (o : Option Nat) (pn dp : Int32) (l lo sp : Nat) : Wd :=
  let n := 300 + kN k
  let w1 := bnW (nw w n 1 0) n (o.map (fun p => 300 + p)) pn dp (nI l) (nI lo) (nI sp) (nI (lastN lo sp))
  growW w1 (kN k) n (o.map (fun p => 300 + p)) lo l
/-- nothing but at names in S has changed -/
def KeN (S : Nat → Prop) (w w' : Wd) : Prop := ∀ a, ¬ S a → wK w' a = wK w a ∧ wN w' a = wN w a ∧ wI w' a = wI w a ∧ wJ w' a = wJ w a ∧ wR w' a = wR w a
theorem KeN.refl (S : Nat → Prop) (w : Wd) : KeN S w w := fun _ _ => ⟨rfl, rfl, rfl, rfl, rfl⟩
theorem KeN.of {S : Nat → Prop} {w w' : Wd} (h : Keep S w w') : KeN S w w' := fun a ha => ⟨congrFun h.1 a, congrFun h.2.1 a, h.I ha, h.J ha, congrFun h.2.2.1 a⟩
theorem gr_ne {w : Wd} {k : Sk} {o : Option Nat} {pn dp : Int32} {l lo sp a : Nat} (h : a ≠ 300 + kN k) : wK (grW w k o pn dp l lo sp) a = wK w a ∧ wN (grW w k o pn dp l lo sp) a = wN w a ∧ wJ (grW w k o pn dp l lo sp) a = wJ w a := by
  refine ⟨va_up_ne _ _ h, va_up_ne _ _ h, funext fun j => ?_⟩
  unfold grW growW plW
  dsimp only
  rw [wJ_sI, rdJ_nn h, rdJ_nn h, rdJ_nn h, rdJ_nn h, rdJ_nn h, rdJ_nn h]
  exact congrFun (va_up_ne _ _ h) j
theorem gr_R {w : Wd} {k : Sk} {o : Option Nat} {pn dp : Int32} {l lo sp a : Nat} (h : a ≠ 300 + kN k) (j : Nat) : wR (grW w k o pn dp l lo sp) a j = if a = 26 ∧ j = kN k then some (300 + kN k) else wR w a j := by
  show (if a = 26 ∧ j = kN k then some (300 + kN k) else wR (bnW (nw w (300 + kN k) 1 0) (300 + kN k) (o.map (fun p => 300 + p)) pn dp (nI l) (nI lo) (nI sp) (nI (lastN lo sp))) a j) = _
  congr 1
  show (if a = 300 + kN k ∧ j = 0 then _ else wR (nw w (300 + kN k) 1 0) a j) = _
  rw [if_neg (fun q => h q.1)]
  exact congrFun (va_up_ne _ _ h) j
theorem wI_plW (w : Wd) (n : Nat) (f v : Q4) : wI (plW w n f v) = wI w := rfl
theorem wI_sR (w : Wd) (n k : Nat) (x : Option Nat) : wI (sR w n k x) = wI w := rfl
theorem bn_I {w : Wd} {n : Nat} {po : Option Nat} {pn dp l lo sp la : Int32} {a : Nat} (h : a ≠ n) (j : Nat) : wI (bnW w n po pn dp l lo sp la) a j = wI w a j := by
  unfold bnW
  rw [rdI_nn h, rdI_nn h, rdI_nn h, rdI_nn h, rdI_nn h, rdI_nn h, rdI_nn h, wI_sR]
theorem bn_s {w : Wd} {n : Nat} {po : Option Nat} {pn dp l lo sp la : Int32} : wI (bnW w n po pn dp l lo sp la) n 1 = pn ∧ wI (bnW w n po pn dp l lo sp la) n 2 = dp ∧ wI (bnW w n po pn dp l lo sp la) n 3 = l ∧ wI (bnW w n po pn dp l lo sp la) n 4 = lo ∧ wI (bnW w n po pn dp l lo sp la) n 5 = sp ∧ wI (bnW w n po pn dp l lo sp la) n 6 = la ∧ wI (bnW w n po pn dp l lo sp la) n 7 = lo := by
  unfold bnW
  refine ⟨?_, ?_, ?_, ?_, ?_, ?_, ?_⟩
  · rw [rdI_ne (by decide), rdI_ne (by decide), rdI_ne (by decide), rdI_ne (by decide), rdI_ne (by decide), rdI_ne (by decide), rdI_eq]
  · rw [rdI_ne (by decide), rdI_ne (by decide), rdI_ne (by decide), rdI_ne (by decide), rdI_ne (by decide), rdI_eq]
  · rw [rdI_ne (by decide), rdI_ne (by decide), rdI_ne (by decide), rdI_ne (by decide), rdI_eq]
  · rw [rdI_ne (by decide), rdI_ne (by decide), rdI_ne (by decide), rdI_eq]
  · rw [rdI_ne (by decide), rdI_ne (by decide), rdI_eq]
  · rw [rdI_ne (by decide), rdI_eq]
  · rw [rdI_eq]
theorem gr_W (w : Wd) (k : Sk) (o : Option Nat) (pn dp : Int32) (l lo sp : Nat) : ∃ f v, grW w k o pn dp l lo sp = sI (plW (sR (bnW (nw w (300 + kN k) 1 0) (300 + kN k) (o.map (fun p => 300 + p)) pn dp (nI l) (nI lo) (nI sp) (nI (lastN lo sp))) 26 (kN k) (some (300 + kN k))) (300 + kN k) f v) 21 1 (nI (kN k + 1)) := ⟨_, _, rfl⟩
theorem gr_I {w : Wd} {k : Sk} {o : Option Nat} {pn dp : Int32} {l lo sp a : Nat} (h : a ≠ 300 + kN k) (j : Nat) : wI (grW w k o pn dp l lo sp) a j = if a = 21 ∧ j = 1 then nI (kN k + 1) else wI w a j := by
  obtain ⟨f, v, e⟩ := gr_W w k o pn dp l lo sp
  rw [e, wI_sI, wI_plW, wI_sR, bn_I h]
  congr 1
  exact congrFun (va_up_ne _ _ h) j
theorem gr_keep {w : Wd} {k : Sk} {o : Option Nat} {pn dp : Int32} {l lo sp : Nat} : KeN (fun a => a = 21 ∨ a = 26 ∨ a = 300 + kN k) w (grW w k o pn dp l lo sp) := fun a ha => by
  have h1 : a ≠ 300 + kN k := fun q => ha (Or.inr (Or.inr q))
  obtain ⟨q1, q2, q3⟩ := gr_ne (w := w) (o := o) (pn := pn) (dp := dp) (l := l) (lo := lo) (sp := sp) h1
  exact ⟨q1, q2, funext fun j => by rw [gr_I h1, if_neg (fun q => ha (Or.inl q.1))], q3, funext fun j => by rw [gr_R h1, if_neg (fun q => ha (Or.inr (Or.inl q.1)))]⟩
theorem gr_n {w : Wd} {k : Sk} {o : Option Nat} {pn dp : Int32} {l lo sp : Nat} : wK (grW w k o pn dp l lo sp) (300 + kN k) = 1 ∧ wR (grW w k o pn dp l lo sp) (300 + kN k) 0 = o.map (fun p => 300 + p) := by
  refine ⟨va_up_self _ _ _, ?_⟩
  show (if 300 + kN k = 26 ∧ 0 = kN k then some (300 + kN k) else if 300 + kN k = 300 + kN k ∧ 0 = 0 then o.map (fun p => 300 + p) else _) = _
  rw [if_neg (by omega), if_pos ⟨rfl, rfl⟩]
theorem gr_nI {w : Wd} {k : Sk} {o : Option Nat} {pn dp : Int32} {l lo sp : Nat} : wI (grW w k o pn dp l lo sp) (300 + kN k) 1 = pn ∧ wI (grW w k o pn dp l lo sp) (300 + kN k) 2 = dp ∧ wI (grW w k o pn dp l lo sp) (300 + kN k) 3 = nI l ∧ wI (grW w k o pn dp l lo sp) (300 + kN k) 4 = nI lo ∧ wI (grW w k o pn dp l lo sp) (300 + kN k) 5 = nI sp ∧ wI (grW w k o pn dp l lo sp) (300 + kN k) 6 = nI (lastN lo sp) ∧ wI (grW w k o pn dp l lo sp) (300 + kN k) 7 = nI lo := by
  obtain ⟨f, v, e⟩ := gr_W w k o pn dp l lo sp
  have e2 : wI (grW w k o pn dp l lo sp) (300 + kN k) = wI (bnW (nw w (300 + kN k) 1 0) (300 + kN k) (o.map (fun p => 300 + p)) pn dp (nI l) (nI lo) (nI sp) (nI (lastN lo sp))) (300 + kN k) := by
    rw [e]
    exact (sI_ne _ _ (by omega)).trans (by rw [wI_plW, wI_sR])
  rw [e2]
  exact bn_s
theorem LayX.ken {S : Nat → Prop} {w w' : Wd} (h : LayX w) (g : KeN S w w') (hs : ∀ a, S a → a = 21 ∨ a = 26 ∨ 300 ≤ a) (h1 : wK w' 21 = 7 ∧ wR w' 21 0 = some 26) (h2 : wK w' 26 = 14 ∧ wN w' 26 = 10) : LayX w' := by
  have e : ∀ a, a ≠ 21 → a ≠ 26 → a < 300 → wK w' a = wK w a ∧ wN w' a = wN w a ∧ wR w' a = wR w a := fun a q1 q2 q3 => by
    obtain ⟨z1, z2, -, -, z5⟩ := g a (fun z => by have := hs a z; omega)
    exact ⟨z1, z2, z5⟩
  refine ⟨fun n q1 q2 => ?_, fun n k q => ?_, fun c hc => ?_, fun s hs => ?_⟩
  · by_cases c1 : n = 21
    · subst c1; exact ⟨h1.1, fun z => by omega⟩
    · by_cases c2 : n = 26
      · subst c2; exact ⟨h2.1, fun _ => h2.2⟩
      · obtain ⟨z1, z2, -⟩ := e n c1 c2 (by omega)
        rw [z1, z2]; exact h.1 n q1 q2
  · by_cases c1 : n = 21
    · subst c1
      have hk : k = 0 := by
        unfold rSok at q
        simp at q
        omega
      subst hk
      exact h1.2
    · by_cases c2 : n = 26
      · subst c2
        unfold rSok at q
        simp at q
      · have hn : n < 300 := by
          unfold rSok at q
          simp at q
          omega
        rw [(e n c1 c2 hn).2.2]
        exact h.2.1 n k q
  · obtain ⟨q1, q2, q3, q4, q5, q6⟩ := h.2.2.1 c hc
    refine ⟨by rw [(e (40 + c) (by omega) (by omega) (by omega)).1]; exact q1, by rw [(e (50 + c) (by omega) (by omega) (by omega)).1]; exact q2, by rw [(e (50 + c) (by omega) (by omega) (by omega)).2.1]; exact q3, by rw [(e (40 + c) (by omega) (by omega) (by omega)).2.2]; exact q4, by rw [(e 27 (by omega) (by omega) (by omega)).2.2]; exact q5, fun f hf => ?_⟩
    obtain ⟨r1, r2, r3⟩ := q6 f hf
    exact ⟨by rw [(e (100 + (30 * c + f)) (by omega) (by omega) (by omega)).1]; exact r1, by rw [(e (100 + (30 * c + f)) (by omega) (by omega) (by omega)).2.1]; exact r2, by rw [(e (50 + c) (by omega) (by omega) (by omega)).2.2]; exact r3⟩
  · obtain ⟨q1, q2, q3, q4, q5⟩ := h.2.2.2 s hs
    exact ⟨by rw [(e (60 + s) (by omega) (by omega) (by omega)).1]; exact q1, by rw [(e (70 + s) (by omega) (by omega) (by omega)).1]; exact q2, by rw [(e (70 + s) (by omega) (by omega) (by omega)).2.1]; exact q3, by rw [(e (60 + s) (by omega) (by omega) (by omega)).2.2]; exact q4, by rw [(e 25 (by omega) (by omega) (by omega)).2.2]; exact q5⟩
theorem SkP.add {k : Sk} {o : Option Nat} {l lo sp : Nat} {w : Wd} (h : SkP k w) (hk : kN k < 10) (ho : ∀ p, o = some p → p < kN k ∧ dep k p < 5) (h1 : 1 ≤ l) (h2 : l ≤ 100) (h3 : lo < 36) (h4 : sp < 36) : SkP (kAdd k o l lo sp) (grW w k o (oI o) (nI (dep (kAdd k o l lo sp) (kN k))) l lo sp) := by
  have hwf : Wf (kAdd k o l lo sp) := h.1.2.2.1.add hk ho h1 h2 h3 h4
  generalize hW : grW w k o (oI o) (nI (dep (kAdd k o l lo sp) (kN k))) l lo sp = W
  have hne : ∀ a, a ≠ 300 + kN k → wK W a = wK w a ∧ wN W a = wN w a ∧ wJ W a = wJ w a := fun a ha => by rw [← hW]; exact gr_ne ha
  have hR : ∀ a, a ≠ 300 + kN k → ∀ j, wR W a j = if a = 26 ∧ j = kN k then some (300 + kN k) else wR w a j := fun a ha j => by rw [← hW]; exact gr_R ha j
  have hI : ∀ a, a ≠ 300 + kN k → ∀ j, wI W a j = if a = 21 ∧ j = 1 then nI (kN k + 1) else wI w a j := fun a ha j => by rw [← hW]; exact gr_I ha j
  obtain ⟨n1, n2⟩ : wK W (300 + kN k) = 1 ∧ wR W (300 + kN k) 0 = o.map (fun p => 300 + p) := by rw [← hW]; exact gr_n
  obtain ⟨i1, i2, i3, i4, i5, i6, i7⟩ : wI W (300 + kN k) 1 = oI o ∧ wI W (300 + kN k) 2 = nI (dep (kAdd k o l lo sp) (kN k)) ∧ wI W (300 + kN k) 3 = nI l ∧ wI W (300 + kN k) 4 = nI lo ∧ wI W (300 + kN k) 5 = nI sp ∧ wI W (300 + kN k) 6 = nI (lastN lo sp) ∧ wI W (300 + kN k) 7 = nI lo := by rw [← hW]; exact gr_nI
  have hx := h.1.1
  have hlay : LayX W := hx.ken (S := fun a => a = 21 ∨ a = 26 ∨ a = 300 + kN k) (by rw [← hW]; exact gr_keep) (fun a q => by omega) ⟨by rw [(hne 21 (by omega)).1]; exact hx.k 21 rfl rfl, by rw [hR 21 (by omega), if_neg (by omega)]; exact hx.r 21 0 rfl⟩ ⟨by rw [(hne 26 (by omega)).1]; exact hx.k 26 rfl rfl, by rw [(hne 26 (by omega)).2.1]; exact hx.n 26 rfl rfl⟩
  have hpar : ∀ b, b < kN k → kPar (kAdd k o l lo sp) b = kPar k b := fun b hb => va_up_ne _ _ (by omega)
  refine ⟨⟨hlay, fun b hb => ?_, hwf, ?_, ?_, ?_, ?_, fun b hb => ?_⟩, fun b hb => ?_⟩
  · have hb' : b < kN k + 1 := hb
    by_cases e : b = kN k
    · subst e
      refine ⟨n1, by rw [hR 26 (by omega), if_pos ⟨rfl, rfl⟩], ?_⟩
      rw [n2, show kPar (kAdd k o l lo sp) (kN k) = o from va_up_self _ _ _]
    · obtain ⟨q1, q2, q3⟩ := h.1.2.1 b (by omega)
      rw [(hne (300 + b) (by omega)).1, hR 26 (by omega), if_neg (by omega), hR (300 + b) (by omega), if_neg (by omega), hpar b (by omega)]
      exact ⟨q1, q2, q3⟩
  · rw [hI 21 (by omega), if_pos ⟨rfl, rfl⟩]; rfl
  · rw [hI 21 (by omega), if_neg (by omega)]; exact h.1.lck
  · rw [(hne 21 (by omega)).2.2]; exact h.1.rx
  · rw [(hne 21 (by omega)).2.2]; exact h.1.ry
  · have hb' : b < kN k + 1 := hb
    by_cases e : b = kN k
    · subst e
      rw [i1, i2, i3, i4, i5, i6, i7]
      rw [show kPar (kAdd k o l lo sp) (kN k) = o from va_up_self _ _ _, show kLen (kAdd k o l lo sp) (kN k) = l from va_up_self _ _ _, show kLow (kAdd k o l lo sp) (kN k) = lo from va_up_self _ _ _, show kSpr (kAdd k o l lo sp) (kN k) = sp from va_up_self _ _ _, show kTrn (kAdd k o l lo sp) (kN k) = lo from va_up_self _ _ _]
      exact ⟨rfl, rfl, rfl, rfl, rfl, rfl, rfl⟩
    · have hI' : ∀ j, wI W (300 + b) j = wI w (300 + b) j := fun j => by rw [hI (300 + b) (by omega), if_neg (by omega)]
      simp only [hI']
      rw [dep_add (by omega), hpar b (by omega), show kLen (kAdd k o l lo sp) b = kLen k b from va_up_ne _ _ e, show kLow (kAdd k o l lo sp) b = kLow k b from va_up_ne _ _ e, show kSpr (kAdd k o l lo sp) b = kSpr k b from va_up_ne _ _ e, show kTrn (kAdd k o l lo sp) b = kTrn k b from va_up_ne _ _ e]
      exact h.1.bone (by omega)
  · have hb' : b < kN k + 1 := hb
    by_cases e : b = kN k
    · subst e
      have hf : pSt w (kRx k) (kRy k) (o.map (fun p => 300 + p)) = pStart (kAdd k o l lo sp) (pos (kAdd k o l lo sp)) (kN k) := by
        unfold pStart
        rw [show kPar (kAdd k o l lo sp) (kN k) = o from va_up_self _ _ _]
        cases o with
        | none => rfl
        | some p =>
          have hp := (ho p rfl).1
          obtain ⟨-, -, g1, g2, g3, g4⟩ := h.2 p hp
          show (wJ w (300 + p) 10, wJ w (300 + p) 11, wJ w (300 + p) 12, wJ w (300 + p) 13) = pos (kAdd k (some p) l lo sp) p
          rw [pos_add hp, g1, g2, g3, g4]
      have hf1 : ∀ w1 : Wd, (∀ a, a ≠ 300 + kN k → wJ w1 a = wJ w a) → pSt w1 (wJ w1 21 3) (wJ w1 21 4) (o.map (fun p => 300 + p)) = pStart (kAdd k o l lo sp) (pos (kAdd k o l lo sp)) (kN k) := fun w1 hw1 => by
        rw [← hf, hw1 21 (by omega), h.1.rx, h.1.ry]
        cases o with
        | none => rfl
        | some p =>
          have hp := (ho p rfl).1
          show (wJ w1 (300 + p) 10, wJ w1 (300 + p) 11, wJ w1 (300 + p) 12, wJ w1 (300 + p) 13) = (wJ w (300 + p) 10, wJ w (300 + p) 11, wJ w (300 + p) 12, wJ w (300 + p) 13)
          rw [hw1 (300 + p) (by omega)]
      have hp2 : pos (kAdd k o l lo sp) (kN k) = pEv (pStart (kAdd k o l lo sp) (pos (kAdd k o l lo sp)) (kN k)) (cosF lo) (sinF lo) (nI l) := by
        rw [pos_eq hwf (show kN k < kN k + 1 by omega)]
        unfold pStep
        rw [show kTrn (kAdd k o l lo sp) (kN k) = lo from va_up_self _ _ _, show kLen (kAdd k o l lo sp) (kN k) = l from va_up_self _ _ _]
        rfl
      have hfin : ∀ j, wJ W (300 + kN k) j = wJ (plW (nw w (300 + kN k) 1 0) (300 + kN k) (pStart (kAdd k o l lo sp) (pos (kAdd k o l lo sp)) (kN k)) (pos (kAdd k o l lo sp) (kN k))) (300 + kN k) j := fun j => by
        rw [← hW, hp2, ← hf1 (bnW (nw w (300 + kN k) 1 0) (300 + kN k) (o.map (fun p => 300 + p)) (oI o) (nI (dep (kAdd k o l lo sp) (kN k))) (nI l) (nI lo) (nI sp) (nI (lastN lo sp))) (fun a ha => va_up_ne _ _ ha)]
        rfl
      simp only [hfin]
      unfold plW
      refine ⟨?_, ?_, ?_, ?_, ?_, ?_⟩
      · rw [rdJ_ne (by decide), rdJ_ne (by decide), rdJ_ne (by decide), rdJ_ne (by decide), rdJ_ne (by decide), rdJ_eq]
      · rw [rdJ_ne (by decide), rdJ_ne (by decide), rdJ_ne (by decide), rdJ_ne (by decide), rdJ_eq]
      · rw [rdJ_ne (by decide), rdJ_ne (by decide), rdJ_ne (by decide), rdJ_eq]
      · rw [rdJ_ne (by decide), rdJ_ne (by decide), rdJ_eq]
      · rw [rdJ_ne (by decide), rdJ_eq]
      · rw [rdJ_eq]
    · have hst : pStart (kAdd k o l lo sp) (pos (kAdd k o l lo sp)) b = pStart k (pos k) b := by
        unfold pStart
        rw [hpar b (by omega)]
        cases hp : kPar k b with
        | none => rfl
        | some p => exact pos_add (by have := (h.1.wf (show b < kN k by omega)).1 p hp; omega)
      rw [hst, pos_add (by omega), (hne (300 + b) (by omega)).2.2]
      exact h.2 b (by omega)
