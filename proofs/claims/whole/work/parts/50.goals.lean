/-! GOALS: what the class finds by turning back is what the reference finds by trying -/
theorem labs_rng {ex x : Int64} (h1 : ex.toInt.natAbs ≤ 2 ^ 56) (h2 : plc x) : 0 ≤ (labs (ex - x)).toInt ∧ (labs (ex - x)).toInt ≤ 2 ^ 57 := by
  obtain ⟨p1, p2⟩ := h2
  rw [far_M h1 ⟨p1, p2⟩]
  by_cases c : x < ex
  · rw [if_pos c]
    rw [Int64.lt_iff_toInt_lt] at c
    rw [fb_subL (by omega) (by omega)]
    omega
  · rw [if_neg c]
    rw [Int64.lt_iff_toInt_lt] at c
    rw [fb_subL (by omega) (by omega)]
    omega
theorem far_rng {k : Sk} (h : Wf k) (hB : rtB 600 k) {b : Nat} (hb : b < kN k) {x y : Int64} (hx : plc x) (hy : plc y) : 0 ≤ (farK k b x y).toInt ∧ (farK k b x y).toInt ≤ 2 ^ 57 := by
  obtain ⟨b1, b2, -, -⟩ := pos_rng h hB hb
  unfold farK farL lmax
  split
  · exact labs_rng b1 hx
  · exact labs_rng b2 hy
theorem scan_val {f : Nat → Int64} {al : Nat → Bool} {a : Nat} : ∀ n, (scan f al n (f a, a)).1 = f (scan f al n (f a, a)).2
  | 0 => rfl
  | n + 1 => by
    rw [scan]
    split
    · rfl
    · exact scan_val n
theorem kU_kU (k : Sk) (b t u : Nat) : kU (kU k b t) b u = kU k b u := by
  show kT k (va_up (va_up (kTrn k) b t) b u) = kT k (va_up (kTrn k) b u)
  rw [show va_up (va_up (kTrn k) b t) b u = va_up (kTrn k) b u from funext fun i => by
    by_cases e : i = b
    · rw [e, va_up_self, va_up_self]
    · rw [va_up_ne _ _ e, va_up_ne _ _ e, va_up_ne _ _ e]]
theorem kU_comm (k : Sk) {a b : Nat} (h : a ≠ b) (t u : Nat) : kU (kU k a t) b u = kU (kU k b u) a t := by
  show kT k (va_up (va_up (kTrn k) a t) b u) = kT k (va_up (va_up (kTrn k) b u) a t)
  rw [show va_up (va_up (kTrn k) a t) b u = va_up (va_up (kTrn k) b u) a t from funext fun i => by
    by_cases e : i = a
    · rw [e, va_up_self, va_up_ne _ _ h, va_up_self]
    · rw [va_up_ne (va_up (kTrn k) b u) _ e]
      by_cases e2 : i = b
      · rw [e2, va_up_self, va_up_self]
      · rw [va_up_ne _ _ e2, va_up_ne _ _ e2, va_up_ne _ _ e]]
/-- the reference's search over one row of turns, and over two -/
def rowM (F : Nat → Int64) (al : Nat → Bool) (t : Nat) : Nat → Int64 × Nat × Nat → Int64 × Nat × Nat
  | 0, s => s
  | u + 1, s => if al u = true ∧ ((rowM F al t u s).1 < 0 ∨ F u < (rowM F al t u s).1) then (F u, t, u) else rowM F al t u s
def twoM (F : Nat → Nat → Int64) (al ap : Nat → Bool) : Nat → Int64 × Nat × Nat
  | 0 => (-1, 0, 0)
  | t + 1 => if ap t = true then rowM (F t) al t 36 (twoM F al ap t) else twoM F al ap t
theorem scan_low {f : Nat → Int64} {al : Nat → Bool} {z : Int64 × Nat} {l : Nat} (h : ∀ u, u < l → al u = false) : ∀ n, n ≤ l → scan f al n z = z
  | 0, _ => rfl
  | n + 1, hn => by rw [scan, scan_low h n (by omega), if_neg (fun q => by rw [h n (by omega)] at q; exact absurd q.1 (by decide))]
theorem row_eq {F : Nat → Int64} {al : Nat → Bool} {l t : Nat} (hl : al l = true) (hlo : ∀ u, u < l → al u = false) (s : Int64 × Nat × Nat) : ∀ n, (∀ u, u < n → 0 ≤ (F u).toInt) → rowM F al t n s = if n ≤ l then s else if s.1 < 0 ∨ (scan F al n (F l, l)).1 < s.1 then ((scan F al n (F l, l)).1, t, (scan F al n (F l, l)).2) else s
  | 0, _ => by rw [if_pos (Nat.zero_le _)]; rfl
  | n + 1, hF => by
    have ih := row_eq (t := t) hl hlo s n (fun u hu => hF u (by omega))
    have hn := hF n (by omega)
    rw [rowM, ih]
    by_cases c : n + 1 ≤ l
    · have hal := hlo n (by omega)
      simp only [hal, Bool.false_eq_true, false_and, if_false]
      rw [if_pos c, if_pos (show n ≤ l by omega)]
    · rw [if_neg c]
      by_cases e : n = l
      · subst e
        rw [if_pos (Nat.le_refl _)]
        have es : scan F al (n + 1) (F n, n) = (F n, n) := by
          rw [scan, scan_low hlo n (Nat.le_refl _), if_neg (fun q => Int64.lt_irrefl q.2)]
        rw [es]
        simp only [hl, true_and]
      · have hnl : ¬ n ≤ l := by omega
        rw [if_neg hnl]
        have hv := scan_val (f := F) (al := al) (a := l) n
        rw [scan]
        generalize hz : scan F al n (F l, l) = z at hv ⊢
        by_cases ca : al n = true
        · simp only [ca, true_and]
          have h0 : (0 : Int64).toInt = 0 := rfl
          by_cases c1 : s.1 < 0 ∨ z.1 < s.1
          · rw [if_pos c1]
            by_cases c2 : F n < z.1
            · rw [if_pos (Or.inr c2), if_pos c2]
              rw [if_pos]
              rcases c1 with q | q
              · exact Or.inl q
              · right
                rw [Int64.lt_iff_toInt_lt] at q c2 ⊢
                show (F n).toInt < _
                omega
            · rw [if_neg c2, if_pos c1, if_neg]
              rintro (q | q)
              · have hz0 : 0 ≤ z.1.toInt := by
                  rw [hv]
                  have : z.2 < n := by
                    have := scan_le (f := F) (al := al) (z := (F l, l)) (m := n) (show l < n by omega) n (Nat.le_refl _)
                    rw [hz] at this
                    exact this
                  exact hF _ (by omega)
                rw [Int64.lt_iff_toInt_lt, h0] at q
                have q' : z.1.toInt < 0 := q
                omega
              · exact c2 q
          · rw [if_neg c1]
            have n1 : ¬ s.1 < 0 := fun q => c1 (Or.inl q)
            have n2 : ¬ z.1 < s.1 := fun q => c1 (Or.inr q)
            by_cases c2 : F n < s.1
            · have c3 : F n < z.1 := by
                rw [Int64.lt_iff_toInt_lt] at c2 n2 ⊢
                omega
              rw [if_pos (Or.inr c2), if_pos c3, if_pos (Or.inr c2)]
            · rw [if_neg (fun q => q.elim n1 c2)]
              by_cases c3 : F n < z.1
              · rw [if_pos c3, if_neg (fun q => q.elim n1 c2)]
              · rw [if_neg c3, if_neg c1]
        · simp only [ca, Bool.false_eq_true, false_and, if_false]
def kkp (k : Sk) (b t : Nat) : Sk := match kPar k b with
  | none => k
  | some p => kU k p t
def alP (k : Sk) (b t : Nat) : Bool := match kPar k b with
  | none => t == 0
  | some p => alB (kLow k p) (kSpr k p) t
def F2 (k : Sk) (b : Nat) (x y : Int64) (t u : Nat) : Int64 := farK (kU (kkp k b t) b u) b x y
def m2 (k : Sk) (b : Nat) (x y : Int64) (n : Nat) : Int64 × Nat × Nat := twoM (F2 k b x y) (alB (kLow k b) (kSpr k b)) (alP k b) n
theorem lst_al {k : Sk} {b : Nat} (h1 : kLow k b < 36) (h2 : kSpr k b < 36) : alB (kLow k b) (kSpr k b) (lst k b) = true ∧ ∀ u, u < lst k b → alB (kLow k b) (kSpr k b) u = false := by
  unfold alB lst lastN
  generalize kLow k b = lo at *
  generalize kSpr k b = sp at *
  by_cases c : lo + sp < 36
  · rw [if_neg (by rw [Nat.mod_eq_of_lt c]; omega)]
    exact ⟨decide_eq_true (by unfold wi; omega), fun u hu => decide_eq_false (by unfold wi; omega)⟩
  · rw [if_pos (by omega)]
    exact ⟨decide_eq_true (by unfold wi; omega), fun u hu => absurd hu (Nat.not_lt_zero _)⟩
theorem F2_rng {k : Sk} (h : Wf k) (hB : rtB 600 k) {b : Nat} (hb : b < kN k) {x y : Int64} (hx : plc x) (hy : plc y) {t u : Nat} (ht : t < 36) (hu : u < 36) : 0 ≤ (F2 k b x y t u).toInt ∧ (F2 k b x y t u).toInt ≤ 2 ^ 57 := by
  unfold F2 kkp
  cases hp : kPar k b with
  | none => exact far_rng (h.kU b hu) hB hb hx hy
  | some p => exact far_rng ((h.kU p ht).kU b hu) hB hb hx hy
theorem row_36 {k : Sk} (h : Wf k) (hB : rtB 600 k) {b : Nat} (hb : b < kN k) {x y : Int64} (hx : plc x) (hy : plc y) {t : Nat} (ht : t < 36) (s : Int64 × Nat × Nat) (K1 : Sk) (hw : Wf K1) (hB1 : rtB 600 K1) (hn1 : b < kN K1) (hl1 : kLow K1 b = kLow k b ∧ kSpr K1 b = kSpr k b) (hK : ∀ u, kU K1 b u = kU (kkp k b t) b u) :
    rowM (F2 k b x y t) (alB (kLow k b) (kSpr k b)) t 36 s = if s.1 < 0 ∨ F2 k b x y t (ntK K1 b b x y (lst k b)) < s.1 then (F2 k b x y t (ntK K1 b b x y (lst k b)), t, ntK K1 b b x y (lst k b)) else s := by
  obtain ⟨-, -, -, -, h5, h6, -⟩ := h.2.1 b hb
  obtain ⟨a1, a2⟩ := lst_al h5 h6
  have h36 : lst k b < 36 := lst_lt h5
  have e := row_eq (F := F2 k b x y t) (t := t) a1 a2 s 36 (fun u hu => (F2_rng h hB hb hx hy ht hu).1)
  rw [if_neg (by omega)] at e
  have hnt : ntK K1 b b x y (lst k b) = (scan (F2 k b x y t) (alB (kLow k b) (kSpr k b)) 36 (F2 k b x y t (lst k b), lst k b)).2 := by
    rw [ntK_eq (n := 0) hw hB1 hn1 hn1 rfl x y h36, hl1.1, hl1.2]
    unfold F2
    simp only [hK]
  rw [e, hnt, ← scan_val (f := F2 k b x y t) (al := alB (kLow k b) (kSpr k b)) (a := lst k b) 36]
theorem two_none {k : Sk} (h : Wf k) (hB : rtB 600 k) {b : Nat} (hb : b < kN k) {x y : Int64} (hx : plc x) (hy : plc y) (hp : kPar k b = none) : ∀ n, m2 k b x y (n + 1) = (F2 k b x y 0 (ntK k b b x y (lst k b)), 0, ntK k b b x y (lst k b))
  | 0 => by
    have e := row_36 h hB hb hx hy (t := 0) (by decide) (-1, 0, 0) k h hB hb ⟨rfl, rfl⟩ (fun u => by unfold kkp; rw [hp])
    rw [if_pos (Or.inl (by decide))] at e
    unfold m2 twoM
    rw [if_pos (show alP k b 0 = true by unfold alP; rw [hp]; rfl)]
    exact e
  | n + 1 => by
    have ih := two_none h hB hb hx hy hp n
    unfold m2 at ih ⊢
    rw [twoM, if_neg (show ¬ alP k b (n + 1) = true by unfold alP; rw [hp]; simp), ih]
theorem two_some {k : Sk} (h : Wf k) (hB : rtB 600 k) {b p : Nat} (hb : b < kN k) {x y : Int64} (hx : plc x) (hy : plc y) (hp : kPar k b = some p) : ∀ n, n ≤ 36 →
    (∃ a1 a2, a1 < 36 ∧ a2 < 36 ∧ (twoL k b p x y n).1 = kU (kU k p a1) b a2) ∧
    (((∀ t, t < n → alP k b t = false) ∧ (twoL k b p x y n).2.1 = 9223372036854775807 ∧ m2 k b x y n = (-1, 0, 0)) ∨
      (m2 k b x y n = (twoL k b p x y n).2 ∧ 0 ≤ (m2 k b x y n).1.toInt ∧ (m2 k b x y n).1 = F2 k b x y (m2 k b x y n).2.1 (m2 k b x y n).2.2 ∧ (m2 k b x y n).2.1 < 36 ∧ (m2 k b x y n).2.2 < 36))
  | 0, _ => by
    have hpb := (h.2.1 b hb).1 p hp
    refine ⟨⟨kTrn k p, kTrn k b, (h.2.1 p (by omega)).2.2.2.2.2.2, (h.2.1 b hb).2.2.2.2.2.2, ?_⟩, Or.inl ⟨fun t ht => absurd ht (Nat.not_lt_zero _), rfl, rfl⟩⟩
    show k = _
    rw [kU_self, kU_self]
  | n + 1, hn => by
    have hpb := (h.2.1 b hb).1 p hp
    obtain ⟨⟨a1, a2, l1, l2, ek⟩, ih⟩ := two_some h hB hb hx hy hp n (by omega)
    have hkk : ∀ t, kkp k b t = kU k p t := fun t => by unfold kkp; rw [hp]
    have hap : alP k b n = alB (kLow k p) (kSpr k p) n := by unfold alP; rw [hp]
    have hT : twoL k b p x y (n + 1) = twoS b p x y n (twoL k b p x y n) := rfl
    have hM : m2 k b x y (n + 1) = if alP k b n = true then rowM (F2 k b x y n) (alB (kLow k b) (kSpr k b)) n 36 (m2 k b x y n) else m2 k b x y n := rfl
    generalize twoL k b p x y n = z at *
    by_cases ca : wi (kLow k p) (kSpr k p) n
    · have cb : alP k b n = true := by rw [hap]; exact decide_eq_true ca
      rw [if_pos cb] at hM
      have e1 : tk1 p z.1 n = kU (kU k p n) b a2 := by
        unfold tk1
        rw [ek, kU_comm (kU k p a1) (show b ≠ p by omega), kU_kU]
      have ell : lst z.1 b = lst k b := by rw [ek]; rfl
      have etu : tu b p x y z.1 n = ntK (kU (kU k p n) b a2) b b x y (lst k b) := by unfold tu; rw [e1, ell]
      have hrow := row_36 h hB hb hx hy (t := n) (by omega) (m2 k b x y n) (kU (kU k p n) b a2) ((h.kU p (by omega)).kU b l2) hB hb ⟨rfl, rfl⟩ (fun u => by rw [kU_kU, hkk])
      rw [← etu] at hrow
      have hA : tu b p x y z.1 n < 36 := by rw [etu]; exact ntK_lt (lst_lt (h.2.1 b hb).2.2.2.2.1)
      have e2 : tk2 b p x y z.1 n = kU (kU k p n) b (tu b p x y z.1 n) := by
        unfold tk2
        rw [e1, kU_kU]
      have ef : farK (tk2 b p x y z.1 n) b x y = F2 k b x y n (tu b p x y z.1 n) := by
        unfold F2
        rw [e2, hkk]
      have hr := F2_rng h hB hb hx hy (t := n) (u := tu b p x y z.1 n) (by omega) hA
      have hz : wi (kLow z.1 p) (kSpr z.1 p) n := by rw [ek]; exact ca
      have hS : twoS b p x y n z = (if farK (tk2 b p x y z.1 n) b x y < z.2.1 then (tk2 b p x y z.1 n, farK (tk2 b p x y z.1 n) b x y, n, tu b p x y z.1 n) else (tk2 b p x y z.1 n, z.2.1, z.2.2.1, z.2.2.2)) := if_pos hz
      rw [hT, hS, ef]
      generalize hAA : tu b p x y z.1 n = A at *
      generalize hVV : F2 k b x y n A = V at *
      have hfirst : ∀ B : Prop, ∀ _ : Decidable B, ∃ a1 a2, a1 < 36 ∧ a2 < 36 ∧ (if B then (tk2 b p x y z.1 n, V, n, A) else (tk2 b p x y z.1 n, z.2.1, z.2.2.1, z.2.2.2) : ZT).1 = kU (kU k p a1) b a2 := fun B dB => by
        refine ⟨n, A, by omega, hA, ?_⟩
        split
        · exact e2
        · exact e2
      refine ⟨hfirst _ _, Or.inr ?_⟩
      rw [hM, hrow]
      rcases ih with ⟨-, i2, i3⟩ | ⟨i1, i2, i3, i4, i5⟩
      · rw [i3, i2, if_pos (Or.inl (by decide)), if_pos]
        · exact ⟨rfl, hr.1, hVV.symm, by show n < 36; omega, hA⟩
        · rw [Int64.lt_iff_toInt_lt]
          show V.toInt < 9223372036854775807
          omega
      · have hn0 : ¬ (m2 k b x y n).1 < 0 := by
          rw [Int64.lt_iff_toInt_lt]
          show ¬ (m2 k b x y n).1.toInt < 0
          omega
        by_cases c : V < (m2 k b x y n).1
        · rw [if_pos (Or.inr c), if_pos (by rw [← i1]; exact c)]
          exact ⟨rfl, hr.1, hVV.symm, by show n < 36; omega, hA⟩
        · rw [if_neg (fun q => q.elim hn0 c), if_neg (by rw [← i1]; exact c)]
          exact ⟨i1, i2, i3, i4, i5⟩
    · have cb : ¬ alP k b n = true := by rw [hap]; exact fun q => ca (of_decide_eq_true q)
      rw [if_neg cb] at hM
      have hz : ¬ wi (kLow z.1 p) (kSpr z.1 p) n := by rw [ek]; exact ca
      have hS : twoS b p x y n z = z := if_neg hz
      rw [hT, hS, hM]
      refine ⟨⟨a1, a2, l1, l2, ek⟩, ih.imp (fun q => ⟨fun t ht => ?_, q.2⟩) id⟩
      by_cases e : t = n
      · rw [e]; simpa using cb
      · exact q.1 t (by omega)
theorem two_ok {k : Sk} (h : Wf k) (hB : rtB 600 k) {b : Nat} (hb : b < kN k) {x y : Int64} (hx : plc x) (hy : plc y) : twoK k b x y = kU (kkp k b (m2 k b x y 36).2.1) b (m2 k b x y 36).2.2 ∧ (m2 k b x y 36).1 = F2 k b x y (m2 k b x y 36).2.1 (m2 k b x y 36).2.2 ∧ (m2 k b x y 36).2.1 < 36 ∧ (m2 k b x y 36).2.2 < 36 := by
  cases hp : kPar k b with
  | none =>
    rw [two_none h hB hb hx hy hp 35]
    have h1 : ntK k b b x y (lst k b) < 36 := ntK_lt (lst_lt (h.2.1 b hb).2.2.2.2.1)
    refine ⟨?_, rfl, (by decide : 0 < 36), h1⟩
    unfold twoK kkp
    rw [hp]
  | some p =>
    have hpb := (h.2.1 b hb).1 p hp
    obtain ⟨⟨a1, a2, -, -, ek⟩, q⟩ := two_some h hB hb hx hy hp 36 (Nat.le_refl _)
    rcases q with ⟨q, -⟩ | ⟨q1, -, q3, q4, q5⟩
    · have hlo := (h.2.1 p (by omega)).2.2.2.2.1
      have := q (kLow k p) hlo
      unfold alP at this
      rw [hp] at this
      exact absurd (wi_low hlo) (of_decide_eq_false this)
    · refine ⟨?_, q3, q4, q5⟩
      unfold twoK kkp
      rw [hp]
      dsimp only
      rw [ek, ← q1, kU_comm (kU k p a1) (show b ≠ p by omega), kU_kU, kU_kU]
/-- rounds, bone by bone -/
def rndR (b : Nat) (x y : Int64) : Nat → Sk → Option Nat → Sk
  | 0, k, _ => k
  | _ + 1, k, none => k
  | n + 1, k, some a => rndR b x y n (kU k a (ntK k a b x y (kTrn k a))) (kPar k a)
def itR (b : Nat) (x y : Int64) : Nat → Sk → Sk
  | 0, k => k
  | n + 1, k => itR b x y n (rndR b x y 10 k (some b))
theorem rndG_R (b : Nat) (x y : Int64) : ∀ n k o c, (rndG b x y n k o c).1 = rndR b x y n k o ∧ ((rndG b x y n k o c).2 = false → c = false ∧ rndR b x y n k o = k)
  | 0, k, o, c => ⟨rfl, fun q => ⟨q, rfl⟩⟩
  | n + 1, k, none, c => ⟨rfl, fun q => ⟨q, rfl⟩⟩
  | n + 1, k, some a, c => by
    rw [rndG, rndR]
    by_cases e : ntK k a b x y (kTrn k a) = kTrn k a
    · rw [if_pos e, e, kU_self]
      exact rndG_R b x y n k (kPar k a) c
    · rw [if_neg e]
      obtain ⟨h1, h2⟩ := rndG_R b x y n (kU k a (ntK k a b x y (kTrn k a))) (kPar k a) true
      exact ⟨h1, fun q => absurd (h2 q).1 (by decide)⟩
theorem itR_fix {b : Nat} {x y : Int64} {k : Sk} (h : rndR b x y 10 k (some b) = k) : ∀ n, itR b x y n k = k
  | 0 => rfl
  | n + 1 => by rw [itR, h]; exact itR_fix h n
theorem rnds_ok (b : Nat) (x y : Int64) : ∀ n k, rndsG b x y n k true = itR b x y n k
  | 0, _ => rfl
  | n + 1, k => by
    obtain ⟨h1, h2⟩ := rndG_R b x y 10 k (some b) false
    rw [rndsG, if_pos rfl, itR, ← h1]
    cases hc : (rndG b x y 10 k (some b) false).2 with
    | true => exact rnds_ok b x y n _
    | false =>
      have h3 := (h2 hc).2
      rw [h1, h3, itR_fix h3]
      cases n with
      | zero => rfl
      | succ m => rw [rndsG, if_neg (by decide)]
