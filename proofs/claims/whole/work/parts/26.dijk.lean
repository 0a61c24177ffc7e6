/-! least costs: what settles them, and how they are found -/
def BE (E : Nat → Nat → Option Nat) (g : Nat) (D : Nat → Option Nat) : Prop := D g = some 0 ∧ (∀ v u c d, v ≠ g → E v u = some c → D u = some d → ∃ e, D v = some e ∧ e ≤ c + d) ∧ ∀ v e, v ≠ g → D v = some e → ∃ u c d, E v u = some c ∧ D u = some d ∧ e = c + d
/-- edges run among the nodes and cost something -/
def EP (P : Nat → Prop) (E : Nat → Nat → Option Nat) : Prop := ∀ v u c, E v u = some c → P v ∧ P u ∧ 1 ≤ c
def DI (P : Nat → Prop) (E : Nat → Nat → Option Nat) (g : Nat) (D : Nat → Option Nat) (S : Nat → Bool) (C F : Nat → Option Nat) : Prop :=
  (∀ s, S s = true → P s ∧ C s = D s ∧ ∃ d, D s = some d) ∧ (S g = false → C g = some 0) ∧
  (∀ s, s ≠ g → P s → S s = false → ∀ u c d, S u = true → E s u = some c → D u = some d → ∃ e, C s = some e ∧ e ≤ c + d) ∧
  (∀ s, s ≠ g → P s → S s = false → ∀ e, C s = some e → ∃ u c d, S u = true ∧ E s u = some c ∧ D u = some d ∧ e = c + d ∧ F s = some u ∧ ∀ u' c' d', S u' = true → E s u' = some c' → D u' = some d' → e = c' + d' → u ≤ u') ∧
  (∀ u s, S u = true → P s → S s = false → ∀ d e, D u = some d → D s = some e → d ≤ e) ∧
  (∀ s, S s = true → s ≠ g → ∃ u c d e, D s = some e ∧ S u = true ∧ E s u = some c ∧ D u = some d ∧ e = c + d ∧ F s = some u ∧ ∀ u' c' d', E s u' = some c' → D u' = some d' → e = c' + d' → u ≤ u') ∧
  (S g = true ∨ ∀ s, S s = false)
section
variable {P : Nat → Prop} {E : Nat → Nat → Option Nat} {g : Nat} {D : Nat → Option Nat} {S : Nat → Bool} {C F : Nat → Option Nat}
theorem DI.opn (h : DI P E g D S C F) (hb : BE E g D) (he : EP P E) (hg : P g) : ∀ e x, P x → S x = false → D x = some e → ∃ y, P y ∧ S y = false ∧ ∃ c, C y = some c ∧ c ≤ e := by
  intro e
  induction e using Nat.strongRecOn with
  | ind e ih =>
    intro x hx hS hD
    by_cases hxg : x = g
    · subst hxg
      exact ⟨x, hx, hS, 0, h.2.1 hS, Nat.zero_le _⟩
    · obtain ⟨u, c, d, h1, h2, h3⟩ := hb.2.2 x e hxg hD
      obtain ⟨-, hu, hc⟩ := he x u c h1
      cases hSu : S u with
      | true =>
        obtain ⟨e', h4, h5⟩ := h.2.2.1 x hxg hx hS u c d hSu h1 h2
        exact ⟨x, hx, hS, e', h4, by omega⟩
      | false =>
        obtain ⟨y, y1, y2, c', y3, y4⟩ := ih d (by omega) u hu hSu h2
        exact ⟨y, y1, y2, c', y3, by omega⟩
theorem DI.near (h : DI P E g D S C F) (hb : BE E g D) (he : EP P E) (hg : P g) {v d : Nat} (hv : P v) (hS : S v = false) (hC : C v = some d) (hm : ∀ s e, P s → S s = false → C s = some e → d ≤ e) : D v = some d := by
  by_cases hvg : v = g
  · subst hvg
    have := h.2.1 hS
    rw [hC] at this
    rw [this]
    exact hb.1
  · obtain ⟨u, c, d1, h1, h2, h3, h4, -, -⟩ := h.2.2.2.1 v hvg hv hS d hC
    obtain ⟨e, h5, h6⟩ := hb.2.1 v u c d1 hvg h2 h3
    obtain ⟨y, y1, y2, c', y3, y4⟩ := h.opn hb he hg e v hv hS h5
    have := hm y c' y1 y2 y3
    rw [h5, show e = d by omega]
theorem DI.nothing (h : DI P E g D S C F) (hb : BE E g D) (he : EP P E) (hg : P g) (hn : ∀ s, P s → S s = false → C s = none) {x : Nat} (hx : P x) (hS : S x = false) : D x = none := by
  cases hD : D x with
  | none => rfl
  | some e =>
    obtain ⟨y, y1, y2, c, y3, -⟩ := h.opn hb he hg e x hx hS hD
    rw [hn y y1 y2] at y3
    cases y3
theorem DI.step {S' : Nat → Bool} {C' F' : Nat → Option Nat} (h : DI P E g D S C F) (hb : BE E g D) (he : EP P E) (hg : P g) {v d : Nat} (hv : P v) (hS : S v = false) (hC : C v = some d) (hm : ∀ s e, P s → S s = false → C s = some e → d ≤ e)
    (hS' : ∀ s, S' s = true ↔ S s = true ∨ s = v) (hk : ∀ s, S' s = true → C' s = C s ∧ F' s = F s)
    (hu : ∀ s c, P s → S' s = false → E s v = some c → btB d c v (C s) (F s) = true → C' s = some (d + c) ∧ F' s = some v)
    (hn : ∀ s, P s → S' s = false → (∀ c, E s v = some c → btB d c v (C s) (F s) = false) → C' s = C s ∧ F' s = F s) : DI P E g D S' C' F' := by
  have hD := h.near hb he hg hv hS hC hm
  have hSf : ∀ s, S' s = false → S s = false ∧ s ≠ v := fun s hs => by
    constructor
    · cases hx : S s with
      | false => rfl
      | true => rw [(hS' s).mpr (Or.inl hx)] at hs; cases hs
    · intro e
      rw [(hS' s).mpr (Or.inr e)] at hs
      cases hs
  have hgS : S' g = true := by
    rcases h.2.2.2.2.2.2 with q | q
    · exact (hS' g).mpr (Or.inl q)
    · by_cases e : v = g
      · exact (hS' g).mpr (Or.inr e.symm)
      · obtain ⟨u, c, d1, h1, -⟩ := h.2.2.2.1 v e hv hS d hC
        rw [q u] at h1
        cases h1
  have hcase : ∀ s, P s → S' s = false → (∃ c, E s v = some c ∧ btB d c v (C s) (F s) = true ∧ C' s = some (d + c) ∧ F' s = some v) ∨ (C' s = C s ∧ F' s = F s ∧ ∀ c, E s v = some c → btB d c v (C s) (F s) = false) := fun s hp hs => by
    by_cases q : ∃ c, E s v = some c ∧ btB d c v (C s) (F s) = true
    · obtain ⟨c, q1, q2⟩ := q
      exact Or.inl ⟨c, q1, q2, hu s c hp hs q1 q2⟩
    · have q' : ∀ c, E s v = some c → btB d c v (C s) (F s) = false := fun c q1 => by
        cases hx : btB d c v (C s) (F s) with
        | false => rfl
        | true => exact absurd ⟨c, q1, hx⟩ q
      obtain ⟨a, b⟩ := hn s hp hs q'
      exact Or.inr ⟨a, b, q'⟩
  refine ⟨fun s hs => ?_, fun q => (by rw [hgS] at q; cases q), fun s hsg hp hs u c d1 hSu hE hDu => ?_, fun s hsg hp hs e hCe => ?_, fun u s hSu hp hs d1 e h1 h2 => ?_, fun s hs hsg => ?_, Or.inl hgS⟩
  · rcases (hS' s).mp hs with q | q
    · obtain ⟨a, b, c⟩ := h.1 s q
      exact ⟨a, by rw [(hk s hs).1]; exact b, c⟩
    · subst q
      exact ⟨hv, by rw [(hk s hs).1, hC, hD], d, hD⟩
  · obtain ⟨hs1, hs2⟩ := hSf s hs
    rcases hcase s hp hs with ⟨c1, q1, q2, q3, -⟩ | ⟨q1, -, q3⟩
    · refine ⟨d + c1, q3, ?_⟩
      rcases (hS' u).mp hSu with z | z
      · obtain ⟨e0, e1, e2⟩ := h.2.2.1 s hsg hp hs1 u c d1 z hE hDu
        rw [e1] at q2
        unfold btB at q2
        simp only [Bool.or_eq_true, decide_eq_true_eq, Bool.and_eq_true] at q2
        omega
      · subst z
        rw [q1] at hE
        cases hE
        rw [hD] at hDu
        cases hDu
        omega
    · rw [q1]
      rcases (hS' u).mp hSu with z | z
      · exact h.2.2.1 s hsg hp hs1 u c d1 z hE hDu
      · subst z
        have q4 := q3 c hE
        rw [hD] at hDu
        cases hDu
        cases hx : C s with
        | none => rw [hx] at q4; cases q4
        | some e0 =>
          rw [hx] at q4
          unfold btB at q4
          simp only [Bool.or_eq_false_iff, decide_eq_false_iff_not] at q4
          exact ⟨e0, rfl, by omega⟩
  · obtain ⟨hs1, hs2⟩ := hSf s hs
    rcases hcase s hp hs with ⟨c1, q1, q2, q3, q5⟩ | ⟨q1, q2, q3⟩
    · rw [q3] at hCe
      cases hCe
      refine ⟨v, c1, d, (hS' v).mpr (Or.inr rfl), q1, hD, by omega, q5, fun u' c' d' h1 h2 h3 h4 => ?_⟩
      rcases (hS' u').mp h1 with z | z
      · obtain ⟨e0, e1, e2⟩ := h.2.2.1 s hsg hp hs1 u' c' d' z h2 h3
        obtain ⟨f, c9, d9, f1, f2, f3, f4, f5, f6⟩ := h.2.2.2.1 s hsg hp hs1 e0 e1
        rw [e1, f5] at q2
        unfold btB at q2
        simp only [Bool.or_eq_true, decide_eq_true_eq, Bool.and_eq_true] at q2
        have : f ≤ u' := f6 u' c' d' z h2 h3 (by omega)
        omega
      · omega
    · rw [q1] at hCe
      obtain ⟨u, c9, d9, f1, f2, f3, f4, f5, f6⟩ := h.2.2.2.1 s hsg hp hs1 e hCe
      refine ⟨u, c9, d9, (hS' u).mpr (Or.inl f1), f2, f3, f4, by rw [q2]; exact f5, fun u' c' d' h1 h2 h3 h4 => ?_⟩
      rcases (hS' u').mp h1 with z | z
      · exact f6 u' c' d' z h2 h3 h4
      · subst z
        have q4 := q3 c' h2
        rw [hD] at h3
        cases h3
        rw [hCe, f5] at q4
        unfold btB at q4
        simp only [Bool.or_eq_false_iff, decide_eq_false_iff_not, Bool.and_eq_false_iff] at q4
        omega
  · obtain ⟨hs1, hs2⟩ := hSf s hs
    rcases (hS' u).mp hSu with z | z
    · exact h.2.2.2.2.1 u s z hp hs1 d1 e h1 h2
    · subst z
      rw [hD] at h1
      cases h1
      obtain ⟨y, y1, y2, c', y3, y4⟩ := h.opn hb he hg e s hp hs1 h2
      have := hm y c' y1 y2 y3
      omega
  · rw [(hk s hs).2]
    rcases (hS' s).mp hs with z | z
    · obtain ⟨u, c, d1, e, a1, a2, a3, a4, a5, a6, a7⟩ := h.2.2.2.2.2.1 s z hsg
      exact ⟨u, c, d1, e, a1, (hS' u).mpr (Or.inl a2), a3, a4, a5, a6, a7⟩
    · subst z
      obtain ⟨u, c9, d9, f1, f2, f3, f4, f5, f6⟩ := h.2.2.2.1 s hsg hv hS d hC
      refine ⟨u, c9, d9, d, hD, (hS' u).mpr (Or.inl f1), f2, f3, f4, f5, fun u' c' d' h2 h3 h4 => ?_⟩
      obtain ⟨-, pu, hc1⟩ := he s u' c' h2
      cases hx : S u' with
      | true => exact f6 u' c' d' hx h2 h3 h4
      | false =>
        exfalso
        obtain ⟨y, y1, y2, c2, y3, y4⟩ := h.opn hb he hg d' u' pu hx h3
        have := hm y c2 y1 y2 y3
        omega
theorem DI.init (hb : BE E g D) : DI P E g D (fun _ => false) (fun s => if s = g then some 0 else none) (fun _ => none) := by
  refine ⟨fun s h => (by cases h), fun _ => if_pos rfl, fun s _ _ _ u c d h => (by cases h), fun s hs _ _ e h => ?_, fun u s h => (by cases h), fun s h => (by cases h), Or.inr fun _ => rfl⟩
  dsimp only at h
  rw [if_neg hs] at h
  cases h
end
/-- the least one below n with p -/
def lstN (p : Nat → Bool) : Nat → Option Nat
  | 0 => none
  | n + 1 => match lstN p n with
    | some i => some i
    | none => if p n = true then some n else none
theorem lstN_no {p : Nat → Bool} : ∀ {n : Nat}, lstN p n = none → ∀ j, j < n → p j = false
  | 0, _, j, hj => absurd hj (Nat.not_lt_zero _)
  | n + 1, h, j, hj => by
    rw [lstN] at h
    cases hx : lstN p n with
    | some k => rw [hx] at h; cases h
    | none =>
      rw [hx] at h
      simp only at h
      split at h
      · cases h
      · rename_i hn
        by_cases e : j = n
        · subst e; exact Bool.eq_false_iff.mpr hn
        · exact lstN_no hx j (by omega)
theorem lstN_some {p : Nat → Bool} : ∀ {n i : Nat}, lstN p n = some i → i < n ∧ p i = true ∧ ∀ j, j < i → p j = false
  | n + 1, i, h => by
    rw [lstN] at h
    cases hx : lstN p n with
    | some k =>
      rw [hx] at h
      cases h
      obtain ⟨a, b, c⟩ := lstN_some hx
      exact ⟨by omega, b, c⟩
    | none =>
      rw [hx] at h
      simp only at h
      split at h
      · cases h
        exact ⟨by omega, by assumption, fun j hj => lstN_no hx j hj⟩
      · cases h
theorem lstN_eq {p : Nat → Bool} {n i : Nat} (hi : i < n) (hp : p i = true) (hl : ∀ j, j < i → p j = false) : lstN p n = some i := by
  cases hx : lstN p n with
  | none => rw [lstN_no hx i hi] at hp; cases hp
  | some k =>
    obtain ⟨a, b, c⟩ := lstN_some hx
    have h1 : ¬ k < i := fun z => by rw [hl k z] at b; cases b
    have h2 : ¬ i < k := fun z => by rw [c i z] at hp; cases hp
    rw [show k = i by omega]
/-- where the least walk goes on to -/
def nxB (E : Nat → Nat → Option Nat) (D : Nat → Option Nat) (v u : Nat) : Bool := match E v u, D u, D v with
  | some c, some d, some e => decide (e = c + d)
  | _, _, _ => false
def nxD (E : Nat → Nat → Option Nat) (D : Nat → Option Nat) (v : Nat) : Option Nat := lstN (nxB E D v) 180
theorem nxB_t {E : Nat → Nat → Option Nat} {D : Nat → Option Nat} {v u : Nat} : nxB E D v u = true ↔ ∃ c d e, E v u = some c ∧ D u = some d ∧ D v = some e ∧ e = c + d := by
  unfold nxB
  cases E v u with
  | none => simp
  | some c =>
    cases D u with
    | none => simp
    | some d =>
      cases D v with
      | none => simp
      | some e => simp
def sqF (F : Nat → Option Nat) (a g : Nat) : Nat → Option Nat
  | 0 => some a
  | n + 1 => match sqF F a g n with
    | none => none
    | some v => if v = g then none else F v
def pnG (F : Nat → Option Nat) (a g : Nat) : Nat → Nat → Nat
  | 0, n => n
  | d + 1, n => match sqF F a g n with
    | none => n
    | some _ => pnG F a g d (n + 1)
