/-! THE START: what the entry gives -/
theorem arr_p {s : State} {args : Array Value} {ty : FieldType} (hty : ty = .int ∨ ty = .long ∨ ty = .boolean) (h : (Cond.arrayClass ty).before args s = true) : ∃ cA, ArrOfT s cA ty ∧ va_RA s cA ty := by
  obtain ⟨c, k, comp, h1, h2, h3⟩ := Cond.arrayClass_spec h
  refine ⟨c, fun n z => ⟨fun k h => (by cases h), k, h2, comp, h3⟩, ?_⟩
  rcases hty with rfl | rfl | rfl <;> exact h1
theorem arr_o {s : State} {args : Array Value} {C : String} (h : (Cond.arrayOver (.object C)).before args s = true) : ∃ cA, ArrOfT s cA (.object C) ∧ va_RA s cA (.object C) := by
  obtain ⟨comp, c, k, h1, h2, h3, h4, h5⟩ := Cond.arrayOver_spec h
  exact ⟨c, fun n z => ⟨fun k h => (by cases h), k, h3, comp, h4⟩, k, comp, h3, h4, h1, h5⟩
theorem arr_a {s : State} {args : Array Value} (h : (Cond.arrayOver (.array .int)).before args s = true) : ∃ cA, ArrOfT s cA (.array .int) ∧ va_RA s cA (.array .int) := by
  obtain ⟨comp, c, k, h1, h2, h3, h4⟩ := Cond.arrayOver_specA h
  exact ⟨c, fun n z => ⟨fun k h => (by cases h), k, h2, comp, h3⟩, h4⟩
theorem nw_in : ∀ q ∈ nwL, nwC q ∈ lw_tbl := by decide +kernel
theorem ao_b : Cond.arrayOver (.object "BoneSteps$Bone") ∈ lw_tbl := by decide +kernel
theorem ao_c : Cond.arrayOver (.object "BoneSteps$Clip") ∈ lw_tbl := by decide +kernel
theorem ao_s : Cond.arrayOver (.object "BoneSteps$Sheet") ∈ lw_tbl := by decide +kernel
theorem ao_a : Cond.arrayOver (.array .int) ∈ lw_tbl := by decide +kernel
theorem law_hy {s : State} {args : Array Value} (hts : ∀ w ∈ lw_tbl, w.before args s = true) : ∃ (D : va_G) (cy : Nat → ClassId), Hy D cy s := by
  have htb : ∀ w ∈ tb, w.before args s = true := fun w hw => hts w (List.mem_filter.mp hw).1
  have kn : ∀ {own : String} {idx ci N : Nat}, NL own idx ci N → ∃ p : ClassId × (Nat → Nat), ∀ q, vwCl[ci]? = some q → u_Kn s q.1 q.2.1 q.2.2 p.1 p.2 := by
    intro own idx ci N h
    obtain ⟨-, -, C, T, ty, h1, h2, -, -, h5, -⟩ := h
    obtain ⟨c, i, hk⟩ := u_known (N := N) (n := N) htb h2 (htb _ h5)
    exact ⟨(c, i), fun q hq => by rw [h1] at hq; cases hq; exact hk⟩
  have k9 : ∀ ci : Nat, ∃ p : ClassId × (Nat → Nat), ∀ q, vwCl[ci]? = some q → u_Kn s q.1 q.2.1 q.2.2 p.1 p.2 := by
    intro ci
    match ci with
    | 0 => exact kn nlX8_63
    | 1 => exact kn nlX2_9
    | 2 => exact kn nlX8_16
    | 3 => exact kn nlX8_30
    | 4 => exact kn nlX8_23
    | 5 => exact kn nlX8_37
    | 6 => exact kn nlX8_9
    | 7 => exact kn nlL_7
    | 8 => exact kn nlL_10
    | n + 9 =>
      obtain ⟨p, -⟩ := kn nlL_7
      exact ⟨p, fun q hq => by rw [List.getElem?_eq_none (by simp [vwCl])] at hq; cases hq⟩
  obtain ⟨g, hg⟩ := Classical.axiomOfChoice k9
  obtain ⟨a0, A0⟩ := arr_p (Or.inl rfl) (htb _ ac_int)
  obtain ⟨a1, A1⟩ := arr_p (Or.inr (Or.inl rfl)) (htb _ ac_long)
  obtain ⟨a2, A2⟩ := arr_p (Or.inr (Or.inr rfl)) (htb _ ac_boolean)
  obtain ⟨a3, A3⟩ := arr_o (hts _ ao_b)
  obtain ⟨a4, A4⟩ := arr_o (hts _ ao_c)
  obtain ⟨a5, A5⟩ := arr_o (hts _ ao_s)
  obtain ⟨a6, A6⟩ := arr_a (hts _ ao_a)
  refine ⟨(fun k => (g k).1, fun k => (g k).2), fun k => [a0, a1, a2, a3, a4, a5, a6].getD k a0, ⟨fun c q hq => hg c q hq, fun k q hk => ?_⟩, fun q hq => va_Nw.of rfl (hts _ (nw_in q hq)), va_AO.of (hts _ ao_b), va_AO.of (hts _ ao_c), va_AO.of (hts _ ao_s), hts _ ao_a⟩
  match k, hk with
  | 0, hk => cases hk; exact A0
  | 1, hk => cases hk; exact A1
  | 2, hk => cases hk; exact A2
  | 3, hk => cases hk; exact A3
  | 4, hk => cases hk; exact A4
  | 5, hk => cases hk; exact A5
  | 6, hk => cases hk; exact A6
  | n + 7, hk => cases hk
theorem law_cos : ∀ j : Fin 36, Cond.eq (.elem (.static "BoneSteps$Turns" "COSINES" "[I") (.int (Int32.ofNat j.val))) (.int (cosF j.val)) ∈ flatC (Jvm.Cond.and given_1 narrow_1) := by decide +kernel
theorem law_sta {s : State} {args : Array Value} {A : Nat → Prop} (hts : ∀ w ∈ lw_tbl, w.before args s = true) (hgv : (Jvm.Cond.and given_1 narrow_1).before args s = true) (hA : ∀ a : Nat, a < s.heap.size → ¬ A a) : ∃ t : Nat, Sta t A s s.heap := by
  have hs := flat_of_before _ hgv
  obtain ⟨t, ht, hT⟩ := va_Tof (tm := .static "BoneSteps$Turns" "COSINES" "[I") (ty := .int) (N := 36) (f := fun j => .int (cosF j)) (A := A) (by decide) (hs _ (by decide +kernel)) (va_eqt (z := 36) (hs _ (by decide +kernel))) (fun j hj => va_eqt (hs _ (law_cos ⟨j, hj⟩))) hA
  exact ⟨t, va_Zof (hts (.laysStatic "BoneSteps$Turns" "COSINES" "[I") (by decide +kernel)) (hts (.initialized "BoneSteps$Turns") (by decide +kernel)) ht hA, hT⟩
def w000 : Wd := (fun _ => 0, fun _ => 0, fun _ _ => 0, fun _ _ => 0, fun _ _ => none, [])
def adS (b t n : Nat) : Nat := if n = 8 then b else t
theorem whole_start {p : Program} {e : Env} {s : State} {m : MethodId} {below : List Frame} {meth : Method} {c : Code} (l : Launch) {b L : Nat} {xs : Nat → Int32} (hL : L ≤ 3584) (C0 : lw_At p s m meth c b L xs) : W p l e room_1 s m #[Value.ref b] below meth c s.heap [] 0 0 (lw_Z below #[Value.ref b] s) (entryFrame m ([Value.ref b] : List Value).toArray 4) := by
  obtain ⟨hx, hb, hr, hml, hown, hts, hX, hbl, hlocks, hgv⟩ := id C0
  obtain ⟨D, cy, hH⟩ := law_hy hts
  have hA : ∀ a : Nat, a < s.heap.size → ¬ va_A [] s.heap.size a := fun a ha q => by
    rcases q with ⟨k, e1, q⟩ | q
    · cases q
    · omega
  obtain ⟨t, hS⟩ := law_sta hts hgv hA
  have hl := lv_entry ([.ref b]) (n := 4) (Nat.le_of_ble_eq_true rfl)
  rw [lg_entry_eq]
  generalize (lg_sl ([.ref b]) ++ List.replicate (4 - (lg_sl ([.ref b])).length) Slot.unset).toArray = ls at hl ⊢
  have hl : lv_has ls 4 [(0, .ref b)] := hl
  have key := law_all (nm := meth.name) (X := (p, l, e, s, m, below, meth, c, D, cy, adS b t, w000, [.ref 8], some (L, xs))) (Q := lw_Z below #[Value.ref b] s) (n := L) (f := xs) rfl hL (fun L1 w1 cs h1 h2 o ad' H locs ls1 h hl1 => ?_) (w := w000) ⟨fun n q => (by cases q), fun a k n q => (by cases q)⟩
  · exact key ⟨hx, hb, hml, hr, hown, fun w hw => hts w (List.mem_filter.mp hw).1, hlocks, hH, hS, rfl, fun q h => (by cases h; exact ⟨hX, hbl, hA b hbl⟩)⟩ (adS b t) s.heap [] ls ⟨⟨List.nodup_nil, fun n q => absurd rfl q, fun n q => (by cases q)⟩, fun k q h => (by cases h), ⟨fun i j p q h => (by cases h), fun k q h => (by cases h)⟩, va_S.rf, ⟨fun _ _ => rfl, fun _ h => h⟩, Or.inr rfl⟩ hl
  · have hS1 := h.2.2.2.1.2.2
    show W p l e room_1 s m #[Value.ref b] below meth c H locs cs.1 cs.2 (lw_Z below #[Value.ref b] s) (F0 m 1613 ls1 [.int 1])
    refine va_forget (fun q hq => ?_) (W.widen h1 h2 (lw_ret hx hb hr hlocks dL_law_1613))
    rcases hS1 q hq with ⟨k, e1, q⟩ | q
    · cases q
    · exact q
