/-! THE REFERENCE'S GRAPH, as numbers -/
/-- one relaxation -/
def rx (ec : Option Nat) (d : Nat) (o : Option Nat) : Option Nat := match ec with
  | none => o
  | some c => (match o with
    | none => some (d + c)
    | some e => if d + c < e then some (d + c) else some e)
def RI (P : Nat → Prop) (E : Nat → Nat → Option Nat) (g : Nat) (D : Nat → Option Nat) (S : Nat → Bool) (C : Nat → Option Nat) : Prop :=
  (∀ s, S s = true → P s ∧ C s = D s ∧ ∃ d, D s = some d) ∧ (S g = false → C g = some 0) ∧
  (∀ s, s ≠ g → P s → S s = false → ∀ u c d, S u = true → E s u = some c → D u = some d → ∃ e, C s = some e ∧ e ≤ c + d) ∧
  (∀ s, s ≠ g → P s → S s = false → ∀ e, C s = some e → ∃ u c d, S u = true ∧ E s u = some c ∧ D u = some d ∧ e = c + d) ∧
  (∀ u s, S u = true → P s → S s = false → ∀ d e, D u = some d → D s = some e → d ≤ e) ∧
  (S g = true ∨ ∀ s, S s = false) ∧ ∀ s, ¬ P s → C s = none
section
variable {P : Nat → Prop} {E : Nat → Nat → Option Nat} {g : Nat} {D : Nat → Option Nat} {S : Nat → Bool} {C : Nat → Option Nat}
theorem RI.opn (h : RI P E g D S C) (hb : BE E g D) (he : EP P E) : ∀ e x, P x → S x = false → D x = some e → ∃ y, P y ∧ S y = false ∧ ∃ c, C y = some c ∧ c ≤ e := by
  intro e
  induction e using Nat.strongRecOn with
  | ind e ih =>
    intro x hx hS hD
    by_cases hxg : x = g
    · subst hxg
      exact ⟨x, hx, hS, 0, h.2.1 hS, Nat.zero_le _⟩
    · obtain ⟨u, c, d, h1, h2, h3⟩ := hb.2.2 x e hxg hD
      obtain ⟨-, hu, hc⟩ := he x u c h1
      cases hSu : S u with
      | true =>
        obtain ⟨e', h4, h5⟩ := h.2.2.1 x hxg hx hS u c d hSu h1 h2
        exact ⟨x, hx, hS, e', h4, by omega⟩
      | false =>
        obtain ⟨y, y1, y2, c', y3, y4⟩ := ih d (by omega) u hu hSu h2
        exact ⟨y, y1, y2, c', y3, by omega⟩
theorem RI.near (h : RI P E g D S C) (hb : BE E g D) (he : EP P E) {v d : Nat} (hv : P v) (hS : S v = false) (hC : C v = some d) (hm : ∀ s e, P s → S s = false → C s = some e → d ≤ e) : D v = some d := by
  by_cases hvg : v = g
  · subst hvg
    have := h.2.1 hS
    rw [hC] at this
    rw [this]
    exact hb.1
  · obtain ⟨u, c, d1, h1, h2, h3, h4⟩ := h.2.2.2.1 v hvg hv hS d hC
    obtain ⟨e, h5, h6⟩ := hb.2.1 v u c d1 hvg h2 h3
    obtain ⟨y, y1, y2, c', y3, y4⟩ := h.opn hb he e v hv hS h5
    have := hm y c' y1 y2 y3
    rw [h5, show e = d by omega]
theorem RI.done (h : RI P E g D S C) (hb : BE E g D) (he : EP P E) (hg : P g) (hn : ∀ s, P s → S s = false → C s = none) (x : Nat) : C x = D x := by
  by_cases hx : P x
  · cases hS : S x with
    | true => exact (h.1 x hS).2.1
    | false =>
      rw [hn x hx hS]
      cases hD : D x with
      | none => rfl
      | some e =>
        obtain ⟨y, y1, y2, c, y3, -⟩ := h.opn hb he e x hx hS hD
        rw [hn y y1 y2] at y3
        cases y3
  · rw [h.2.2.2.2.2.2 x hx]
    cases hD : D x with
    | none => rfl
    | some e =>
      obtain ⟨u, c, d, h1, -⟩ := hb.2.2 x e (fun q => hx (q ▸ hg)) hD
      exact absurd (he x u c h1).1 hx
theorem rx_le {ec : Option Nat} {d e : Nat} {o : Option Nat} (h : o = some e) : ∃ e', rx ec d o = some e' ∧ e' ≤ e := by
  subst h
  unfold rx
  cases ec with
  | none => exact ⟨e, rfl, Nat.le_refl _⟩
  | some c =>
    dsimp only
    by_cases q : d + c < e
    · rw [if_pos q]; exact ⟨d + c, rfl, Nat.le_of_lt q⟩
    · rw [if_neg q]; exact ⟨e, rfl, Nat.le_refl _⟩
theorem rx_new {c d : Nat} (o : Option Nat) : ∃ e', rx (some c) d o = some e' ∧ e' ≤ d + c := by
  unfold rx
  cases o with
  | none => exact ⟨d + c, rfl, Nat.le_refl _⟩
  | some e =>
    dsimp only
    by_cases q : d + c < e
    · rw [if_pos q]; exact ⟨d + c, rfl, Nat.le_refl _⟩
    · rw [if_neg q]; exact ⟨e, rfl, by omega⟩
theorem rx_or {ec : Option Nat} {d e : Nat} {o : Option Nat} (h : rx ec d o = some e) : o = some e ∨ ∃ c, ec = some c ∧ e = d + c := by
  unfold rx at h
  cases ec with
  | none => exact Or.inl h
  | some c =>
    cases o with
    | none => cases h; exact Or.inr ⟨c, rfl, rfl⟩
    | some e0 =>
      dsimp only at h
      by_cases q : d + c < e0
      · rw [if_pos q] at h; cases h; exact Or.inr ⟨c, rfl, rfl⟩
      · rw [if_neg q] at h; exact Or.inl h
theorem rx_old {ec : Option Nat} {d e : Nat} (h : e ≤ d) : rx ec d (some e) = some e := by
  unfold rx
  cases ec with
  | none => rfl
  | some c => exact if_neg (by omega)
theorem RI.step {S' : Nat → Bool} {C' : Nat → Option Nat} (h : RI P E g D S C) (hb : BE E g D) (he : EP P E) (hE : ∀ v, E v v = none) {v d : Nat} (hv : P v) (hS : S v = false) (hC : C v = some d) (hm : ∀ s e, P s → S s = false → C s = some e → d ≤ e)
    (hS' : ∀ s, S' s = true ↔ S s = true ∨ s = v) (hc : ∀ s, C' s = rx (E s v) d (C s)) : RI P E g D S' C' := by
  have hD := h.near hb he hv hS hC hm
  have hSf : ∀ s, S' s = false → S s = false ∧ s ≠ v := fun s hs => by
    constructor
    · cases hx : S s with
      | false => rfl
      | true => rw [(hS' s).mpr (Or.inl hx)] at hs; cases hs
    · intro e
      rw [(hS' s).mpr (Or.inr e)] at hs
      cases hs
  have hgS : S' g = true := by
    rcases h.2.2.2.2.2.1 with q | q
    · exact (hS' g).mpr (Or.inl q)
    · by_cases e : v = g
      · exact (hS' g).mpr (Or.inr e.symm)
      · obtain ⟨u, c, d1, h1, -⟩ := h.2.2.2.1 v e hv hS d hC
        rw [q u] at h1
        cases h1
  refine ⟨fun s hs => ?_, fun q => (by rw [hgS] at q; cases q), fun s hsg hp hs u c d1 hSu hEs hDu => ?_, fun s hsg hp hs e hCe => ?_, fun u s hSu hp hs d1 e h1 h2 => ?_, Or.inl hgS, fun s hp => ?_⟩
  · rcases (hS' s).mp hs with q | q
    · obtain ⟨a, b, d1, hd1⟩ := h.1 s q
      refine ⟨a, ?_, d1, hd1⟩
      rw [hc, b, hd1, rx_old (h.2.2.2.2.1 s v q hv hS d1 d hd1 hD)]
    · subst q
      refine ⟨hv, ?_, d, hD⟩
      rw [hc, hE, hC, hD]
      rfl
  · obtain ⟨hs1, hs2⟩ := hSf s hs
    rw [hc]
    rcases (hS' u).mp hSu with z | z
    · obtain ⟨e0, e1, e2⟩ := h.2.2.1 s hsg hp hs1 u c d1 z hEs hDu
      obtain ⟨e', q1, q2⟩ := rx_le (ec := E s v) (d := d) e1
      exact ⟨e', q1, by omega⟩
    · subst z
      rw [hD] at hDu
      cases hDu
      rw [hEs]
      obtain ⟨e', q1, q2⟩ := rx_new (c := c) (d := d) (C s)
      exact ⟨e', q1, by omega⟩
  · obtain ⟨hs1, hs2⟩ := hSf s hs
    rw [hc] at hCe
    rcases rx_or hCe with q | ⟨c, q1, q2⟩
    · obtain ⟨u, c, d1, f1, f2, f3, f4⟩ := h.2.2.2.1 s hsg hp hs1 e q
      exact ⟨u, c, d1, (hS' u).mpr (Or.inl f1), f2, f3, f4⟩
    · exact ⟨v, c, d, (hS' v).mpr (Or.inr rfl), q1, hD, by omega⟩
  · obtain ⟨hs1, hs2⟩ := hSf s hs
    rcases (hS' u).mp hSu with z | z
    · exact h.2.2.2.2.1 u s z hp hs1 d1 e h1 h2
    · subst z
      rw [hD] at h1
      cases h1
      obtain ⟨y, y1, y2, c', y3, y4⟩ := h.opn hb he e s hp hs1 h2
      have := hm y c' y1 y2 y3
      omega
  · rw [hc, h.2.2.2.2.2.2 s hp]
    cases hx : E s v with
    | none => rfl
    | some c => exact absurd (he s v c hx).1 hp
theorem RI.init (hg : P g) : RI P E g D (fun _ => false) (fun s => if s = g then some 0 else none) :=
  ⟨fun s h => (by cases h), fun _ => if_pos rfl, fun _ _ _ _ u _ _ h => (by cases h), fun s hs _ _ e h => (by
    have h' : (if s = g then some 0 else none : Option Nat) = some e := h
    rw [if_neg hs] at h'; cases h'), fun u _ h => (by cases h), Or.inr (fun _ => rfl), fun s hs => if_neg (fun (q : s = g) => hs (by rw [q]; exact hg))⟩
end
/-- live: what stays when dead ends are pruned -/
def lvS (q : Cp) (nb jn v : Nat) : Bool := decide (v < 180 ∧ v % 30 < lvN q nb jn (v / 30))
theorem ljN_some (p : Nat → Bool) : ∀ n m, ljN p n = some m → p m = true ∧ ∀ j, m < j → j < n → p j = false
  | 0, m, h => by cases h
  | n + 1, m, h => by
    unfold ljN at h
    by_cases c : p n = true
    · rw [if_pos c] at h
      cases h
      exact ⟨c, fun j h1 h2 => by omega⟩
    · rw [if_neg c] at h
      obtain ⟨h1, h2⟩ := ljN_some p n m h
      refine ⟨h1, fun j hj hn => ?_⟩
      by_cases e : j = n
      · rw [e]; simpa using c
      · exact h2 j hj (by omega)
theorem ljN_none (p : Nat → Bool) : ∀ n, ljN p n = none → ∀ j, j < n → p j = false
  | 0, _, j, hj => by omega
  | n + 1, h, j, hj => by
    unfold ljN at h
    by_cases c : p n = true
    · rw [if_pos c] at h; cases h
    · rw [if_neg c] at h
      by_cases e : j = n
      · rw [e]; simpa using c
      · exact ljN_none p n h j (by omega)
/-- the frame is there and like enough to another one -/
def jdB (q : Cp) (nb jn v : Nat) : Bool := decide (v % 30 < q.1 (v / 30)) && jnB q nb jn v
theorem lv_top {q : Cp} {nb jn c f : Nat} (hc : c < 6) (h : f + 1 = lvN q nb jn c) : f < 30 ∧ jdB q nb jn (30 * c + f) = true := by
  unfold lvN at h
  cases hl : ljC q nb jn c with
  | none =>
    rw [hl] at h
    exact absurd h (Nat.succ_ne_zero f)
  | some m =>
    rw [hl] at h
    obtain rfl : f = m := by dsimp only at h; omega
    have h30 := ljN_lt _ 30 f hl
    have h1 := (ljN_some _ 30 f hl).1
    refine ⟨h30, ?_⟩
    unfold jdB
    rw [show (30 * c + f) % 30 = f by omega, show (30 * c + f) / 30 = c by omega]
    exact h1
theorem lv_above {q : Cp} {nb jn v : Nat} (hv : v < 180) (h : jdB q nb jn v = true) : v % 30 < lvN q nb jn (v / 30) := by
  have h1 : (decide (v % 30 < q.1 (v / 30)) && jnB q nb jn (30 * (v / 30) + v % 30)) = true := by
    show (decide (v % 30 < q.1 (v / 30)) && jnB q nb jn (30 * (v / 30) + v % 30)) = true
    rw [show 30 * (v / 30) + v % 30 = v by omega]
    exact h
  unfold lvN
  cases hl : ljC q nb jn (v / 30) with
  | none =>
    have h2 : (decide (v % 30 < q.1 (v / 30)) && jnB q nb jn (30 * (v / 30) + v % 30)) = false := ljN_none _ 30 hl (v % 30) (by omega)
    rw [h2] at h1; cases h1
  | some m =>
    dsimp only
    by_cases c : m < v % 30
    · have h2 : (decide (v % 30 < q.1 (v / 30)) && jnB q nb jn (30 * (v / 30) + v % 30)) = false := (ljN_some _ 30 m hl).2 (v % 30) c (by omega)
      rw [h2] at h1; cases h1
    · omega
theorem anyB_ex {p : Nat → Bool} : ∀ {n : Nat}, anyB p n = true → ∃ b, b < n ∧ p b = true
  | 0, h => by cases h
  | n + 1, h => by
    rw [anyB] at h
    cases hp : p n with
    | true => exact ⟨n, by omega, hp⟩
    | false =>
      rw [hp, Bool.or_false] at h
      obtain ⟨b, h1, h2⟩ := anyB_ex h
      exact ⟨b, by omega, h2⟩
theorem likN_sym {g1 g2 : Nat → Nat} : ∀ n, (∀ b, b < n → g1 b < 36 ∧ g2 b < 36) → likN g1 g2 n = likN g2 g1 n := fun n h => sumN_congr n (fun i hi => distN_sym (h i hi).1 (h i hi).2)
def okQ36 (nb : Nat) (q : Cp) : Prop := (∀ c, c < 6 → q.1 c ≤ 30) ∧ ∀ c f b, c < 6 → f < q.1 c → b < nb → q.2 c f b < 36
theorem lkS_sym {nb : Nat} {q : Cp} (h : okQ36 nb q) {s t : Nat} (hs : pP q s) (ht : pP q t) : lkS q nb s t = lkS q nb t s := by
  have h1 : s % 30 < q.1 (s / 30) := of_decide_eq_true hs.2
  have h2 : t % 30 < q.1 (t / 30) := of_decide_eq_true ht.2
  exact likN_sym nb (fun b hb => ⟨h.2 _ _ b (by omega) h1 hb, h.2 _ _ b (by omega) h2 hb⟩)
theorem jd_ex {nb jn : Nat} {q : Cp} {v : Nat} (h : jdB q nb jn v = true) : v % 30 < q.1 (v / 30) ∧ ∃ o, o < 180 ∧ pP q o ∧ o ≠ v ∧ lkS q nb v o ≤ jn := by
  unfold jdB at h
  rw [Bool.and_eq_true] at h
  obtain ⟨o, h1, h2⟩ := anyB_ex h.2
  obtain ⟨h3, h4, h5⟩ := of_decide_eq_true h2
  exact ⟨of_decide_eq_true h.1, o, h1, ⟨h1, decide_eq_true h3⟩, h4, h5⟩
theorem jd_of {nb jn : Nat} {q : Cp} {v o : Nat} (hv : pP q v) (ho : pP q o) (hne : o ≠ v) (hl : lkS q nb v o ≤ jn) : jdB q nb jn v = true := by
  unfold jdB jnB
  rw [Bool.and_eq_true]
  exact ⟨hv.2, anyB_t (b := o) (decide_eq_true ⟨of_decide_eq_true ho.2, hne, hl⟩) ho.1⟩
theorem lvS_P {nb jn : Nat} {q : Cp} {v : Nat} (h : lvS q nb jn v = true) : pP q v := by
  obtain ⟨h1, h2⟩ := of_decide_eq_true h
  refine ⟨h1, decide_eq_true ?_⟩
  generalize hl : lvN q nb jn (v / 30) = l at h2
  cases l with
  | zero => omega
  | succ f =>
    obtain ⟨h3, h4⟩ := lv_top (c := v / 30) (f := f) (by omega) hl.symm
    have h5 := (jd_ex h4).1
    rw [show (30 * (v / 30) + f) % 30 = f by omega, show (30 * (v / 30) + f) / 30 = v / 30 by omega] at h5
    omega
/-- every live one has a live one to go on to -/
theorem lvS_goes {nb jn : Nat} {q : Cp} (hq : okQ36 nb q) {v : Nat} (h : lvS q nb jn v = true) : ∃ u, u < 180 ∧ lvS q nb jn u = true ∧ ∃ c, eg q nb jn v u = some c := by
  have hP := lvS_P h
  obtain ⟨h1, h2⟩ := of_decide_eq_true h
  by_cases e : v % 30 + 1 < lvN q nb jn (v / 30)
  · have hle := lvN_le q nb jn (v / 30)
    have hm : (v + 1) % 30 = v % 30 + 1 := by omega
    have hd : (v + 1) / 30 = v / 30 := by omega
    have h3 : lvS q nb jn (v + 1) = true := decide_eq_true ⟨by omega, by rw [hm, hd]; exact e⟩
    refine ⟨v + 1, by omega, h3, 1, ?_⟩
    rw [eg_y hP (lvS_P h3) (by omega)]
    unfold wcN
    rw [if_pos ⟨rfl, by omega⟩]
  · have hj : jdB q nb jn v = true := by
      have := (lv_top (q := q) (nb := nb) (jn := jn) (c := v / 30) (f := v % 30) (by omega) (by omega)).2
      rwa [show 30 * (v / 30) + v % 30 = v by omega] at this
    obtain ⟨-, o, o1, o2, o3, o4⟩ := jd_ex hj
    have hjo : jdB q nb jn o = true := jd_of o2 hP (fun q => o3 q.symm) (by rw [lkS_sym hq o2 hP]; exact o4)
    refine ⟨o, o1, decide_eq_true ⟨o1, lv_above o1 hjo⟩, ?_⟩
    rw [eg_y hP o2 (fun q => o3 q.symm)]
    unfold wcN
    by_cases c : o = v + 1 ∧ ¬ o % 30 = 0
    · rw [if_pos c]; exact ⟨1, rfl⟩
    · rw [if_neg c, if_pos o4]; exact ⟨_, rfl⟩
/-- and nothing else stays -/
theorem live_eq {nb jn : Nat} {q : Cp} (hq : okQ36 nb q) {S : Nat → Bool} (h1 : ∀ v, lvS q nb jn v = true → S v = true) (h2 : ∀ v, S v = true → pP q v) (h3 : ∀ v, v < 180 → S v = true → ∃ u, u < 180 ∧ S u = true ∧ ∃ c, eg q nb jn v u = some c) : ∀ d v, v % 30 + d = 30 → S v = true → lvS q nb jn v = true
  | 0, v, hd, hv => by omega
  | d + 1, v, hd, hv => by
    have hP := h2 v hv
    cases hl : lvS q nb jn v with
    | true => rfl
    | false =>
      obtain ⟨u, u1, u2, c, u3⟩ := h3 v hP.1 hv
      have hPu := h2 u u2
      have hne : v ≠ u := fun q => by
        unfold eg at u3
        rw [if_neg (fun z => z.2.2 q)] at u3
        cases u3
      rw [eg_y hP hPu hne] at u3
      unfold wcN at u3
      have hnj : ∀ x, pP q x → lvS q nb jn x = false → jdB q nb jn x = false := fun x hx hf => by
        cases hj : jdB q nb jn x with
        | false => rfl
        | true => exact absurd ⟨hx.1, lv_above hx.1 hj⟩ (of_decide_eq_false hf)
      by_cases c1 : u = v + 1 ∧ ¬ u % 30 = 0
      · obtain ⟨c2, c3⟩ := c1
        subst c2
        have hh := live_eq hq h1 h2 h3 d (v + 1) (by omega) u2
        have hh2 := (of_decide_eq_true hh).2
        rw [show (v + 1) / 30 = v / 30 by omega] at hh2
        have hl2 := of_decide_eq_false hl
        exact absurd ⟨hP.1, by omega⟩ hl2
      · rw [if_neg c1] at u3
        by_cases c2 : lkS q nb v u ≤ jn
        · have := hnj v hP hl
          rw [jd_of hP hPu (fun q => hne q.symm) c2] at this
          cases this
        · rw [if_neg c2] at u3
          cases u3
theorem cnt_congr {p q : Nat → Bool} : ∀ n, (∀ i, i < n → p i = q i) → cntF p n = cntF q n
  | 0, _ => rfl
  | n + 1, h => by rw [cntF, cntF, cnt_congr n (fun i hi => h i (by omega)), h n (by omega)]
theorem cnt_row (f : Nat → Bool) (c l : Nat) (hl : l ≤ 30) (h : ∀ i, i < 30 → (f (30 * c + i) = true ↔ i < l)) : ∀ m, m ≤ 30 → cntF f (30 * c + m) = cntF f (30 * c) + min m l
  | 0, _ => by simp
  | m + 1, hm => by
    have ih := cnt_row f c l hl h m (by omega)
    show cntF f ((30 * c + m) + 1) = _
    rw [cntF, ih]
    by_cases q : m < l
    · rw [if_pos ((h m (by omega)).mpr q)]; omega
    · rw [if_neg (fun z => q ((h m (by omega)).mp z))]; omega
theorem cnt_lv (q : Cp) (nb jn : Nat) : ∀ c, c ≤ 6 → cntF (lvS q nb jn) (30 * c) = sumN (lvN q nb jn) c
  | 0, _ => rfl
  | c + 1, hc => by
    have h := cnt_row (lvS q nb jn) c (lvN q nb jn c) (lvN_le q nb jn c) (fun i hi => by
      unfold lvS
      rw [decide_eq_true_eq, show (30 * c + i) % 30 = i by omega, show (30 * c + i) / 30 = c by omega]
      omega) 30 (Nat.le_refl _)
    rw [show 30 * (c + 1) = 30 * c + 30 by omega, h, cnt_lv q nb jn c (by omega), sumN]
    have := lvN_le q nb jn c
    omega
