/-! returns, calls -/
section
variable {M : Mi} {X : Cx} {Q : State → Prop} {pc : Nat} {L : List (Nat × Value)} {st : List Value} {w : Wd} {cs : Nat × Nat} {P : Option Value → Wd → Prop}
theorem Qg_end {ad : Nat → Nat} {H : Heap} {locs : List Loc} {r : Option Value} {t : State} (h : Hd M X ad w H locs) (hp : P r w) (ht : t.heap = H) : Qg M.2.2.2.2.2.2 (xD X) (xcy X) (xad X) (xw X) (xs X).heap.size P (xargs X) (xs X) (.returned (r.map (mv ad))) t :=
  ⟨⟨r, w, ad, rfl, hp, h.1, by rw [ht]; exact h.2.1, h.2.2.1, h.2.2.2.2.1, h.2.2.2.2.2⟩, h.2.2.2.1.F ht⟩
theorem V_iret {x : Int32} (hr : M.2.2.2.1 = some .int) (hd : decode M.2.1 pc = .ok (.ireturn, 1)) (hc : cs.1 ≤ M.2.2.2.2.1.cells) (hs : cs.2 ≤ M.2.2.2.2.1.slots) (hp : P (some (.int x)) w) : V M X (mq M X P) pc L [.int x] w cs := fun o ad H locs ls h hl => by
  have hlocks := o.2.2.2.2.2.2.1
  exact W.widen hc hs (W.iret o.1 o.2.1 (o.2.2.2.1.trans hr) (fun t ht hW => Qg_end (r := some (.int x)) h hp ht) h.2.2.2.1.2.2 hd hlocks)
theorem V_zret {x : Int32} (hr : M.2.2.2.1 = some .boolean) (hd : decode M.2.1 pc = .ok (.ireturn, 1)) (hc : cs.1 ≤ M.2.2.2.2.1.cells) (hs : cs.2 ≤ M.2.2.2.2.1.slots) (hn : narrow .boolean (.int x) = .int x) (hp : P (some (.int x)) w) : V M X (mq M X P) pc L [.int x] w cs := fun o ad H locs ls h hl => by
  have hlocks := o.2.2.2.2.2.2.1
  exact W.widen hc hs (W.zret o.1 o.2.1 (o.2.2.2.1.trans hr) hn (fun t ht hW => Qg_end (r := some (.int x)) h hp ht) h.2.2.2.1.2.2 hd hlocks)
theorem V_lret {x : Int64} (hr : M.2.2.2.1 = some .long) (hd : decode M.2.1 pc = .ok (.lreturn, 1)) (hc : cs.1 ≤ M.2.2.2.2.1.cells) (hs : cs.2 ≤ M.2.2.2.2.1.slots) (hp : P (some (.long x)) w) : V M X (mq M X P) pc L [.long x] w cs := fun o ad H locs ls h hl => by
  have hlocks := o.2.2.2.2.2.2.1
  exact W.widen hc hs (W.lret o.1 o.2.1 (o.2.2.2.1.trans hr) (fun t ht hW => Qg_end (r := some (.long x)) h hp ht) h.2.2.2.1.2.2 hd hlocks)
theorem V_vret (hr : M.2.2.2.1 = none) (hd : decode M.2.1 pc = .ok (.return_, 1)) (hc : cs.1 ≤ M.2.2.2.2.1.cells) (hs : cs.2 ≤ M.2.2.2.2.1.slots) (hp : P none w) : V M X (mq M X P) pc L [] w cs := fun o ad H locs ls h hl => by
  have hlocks := o.2.2.2.2.2.2.1
  exact W.widen hc hs (W.vret o.1 o.2.1 (o.2.2.2.1.trans hr) (fun t ht hW => Qg_end (r := none) h hp ht) h.2.2.2.1.2.2 hd hlocks)
theorem V_aret {rt : FieldType} {v : Value} (hr : M.2.2.2.1 = some rt) (hrt : (∃ n, rt = .object n) ∨ ∃ t, rt = .array t) (hd : decode M.2.1 pc = .ok (.areturn, 1)) (hc : cs.1 ≤ M.2.2.2.2.1.cells) (hs : cs.2 ≤ M.2.2.2.2.1.slots) (hv : v = .null ∨ ∃ n, v = .ref n) (hp : P (some v) w) : V M X (mq M X P) pc L [v] w cs := fun o ad H locs ls h hl => by
  have hlocks := o.2.2.2.2.2.2.1
  refine W.widen hc hs (W.aret (v := mv ad v) o.1 o.2.1 (o.2.2.2.1.trans hr) hrt ?_ (fun t ht hW => Qg_end (r := some v) h hp ht) h.2.2.2.1.2.2 hd hlocks)
  rcases hv with rfl | ⟨n, rfl⟩
  · exact Or.inl rfl
  · exact Or.inr ⟨_, rfl⟩
/-- what is called leaves the caller's own references where they are -/
def refIn (w : Wd) : Value → Prop
  | .ref n => n ∈ wL w ∨ n = 9 ∨ n = 8
  | _ => True
theorem mv_ext {ad ad' : Nat → Nat} {w : Wd} (he : ∀ n, (n ∈ wL w ∨ n = 9 ∨ n = 8) → ad' n = ad n) {v : Value} (hv : refIn w v) : mv ad' v = mv ad v := by
  cases v with
  | ref n => show Value.ref (ad' n) = Value.ref (ad n); rw [he n hv]
  | _ => rfl
theorem xA_of {ad : Nat → Nat} {H : Heap} {locs : List Loc} (h : Hd M X ad w H locs) : ∀ q, va_A (pl (xcy X) ad w) H.size q → xA X q := fun q hq => by
  rcases hq with ⟨k, e, hk⟩ | hq
  · exact h.2.2.1.2 k _ hk
  · exact Or.inr (Nat.le_trans h.2.2.2.1.1 hq)
theorem V_after {al : Bool} {mc ms : Nat} {P' : Option Value → Wd → Prop} {st0 : List Value} {a : Array Value}
    (run : Ok M X → ∀ (ad : Nat → Nat) (H : Heap) (locs : List Loc) (ls : Array Slot), Hd M X ad w H locs → lv_has ls M.2.2.1 (mL ad L) → va_Run X.1 X.2.1 X.2.2.1 M.2.2.2.2.1 (xs X) (xm X) (xargs X) X.2.2.2.2.2.1 X.2.2.2.2.2.2.1 X.2.2.2.2.2.2.2.1 H locs cs.1 cs.2 mc ms (F0 (xm X) pc ls (st0.map (mv ad))) (st.map (mv ad)) (Qg al (xD X) (xcy X) ad w H.size P' a) (va_A (pl (xcy X) ad w) H.size))
    (hal : al = false ∨ (M.2.2.2.2.2.2 = true ∧ (∀ q ∈ L, refIn w q.2) ∧ ∀ v ∈ st, refIn w v))
    (kk : ∀ r w', P' r w' → V M X Q (pc + 3) L (r.toList ++ st) w' (cs.1 + mc, cs.2 + ms)) : V M X Q pc L st0 w cs := fun o ad H locs ls h hl => by
  intro T hT S
  obtain ⟨v, st₀, t, T', L1, h0, S', hL, e1, e2, ⟨⟨r, w', ad', hv, hp, hok, hP, hD, hext, hals⟩, hz, hk⟩, go⟩ := run o ad H locs ls h hl T hT S
  cases hv
  rw [h0] at hz hk
  have hin := xA_of h
  have hmL : mL ad' L = mL ad L ∧ st.map (mv ad') = st.map (mv ad) := by
    rcases hal with ha | ⟨-, h1, h2⟩
    · rcases hals with q | q
      · rw [ha] at q; cases q
      · rw [q]; exact ⟨rfl, rfl⟩
    · refine ⟨List.map_congr_left fun q hq => ?_, List.map_congr_left fun q hq => mv_ext hext.1 (h2 q hq)⟩
      rw [mv_ext hext.1 (h1 q hq)]
  have hS' : va_S (xA X) (xs X).heap T'.heap (locs ++ L1) := by
    refine ⟨Nat.le_trans h.2.2.2.1.1 (by rw [e1]; exact hz), fun q h1 h2 => ?_, fun q hq => ?_⟩
    · rw [e1, hk q (Nat.lt_of_lt_of_le h1 h.2.2.2.1.1) (fun z => h2 (hin q z))]
      exact h.2.2.2.1.2.1 q h1 h2
    · rcases List.mem_append.mp hq with z | z
      · exact h.2.2.2.1.2.2 q z
      · exact hin _ (hL q z)
  have hd' : Hd M X ad' w' T'.heap (locs ++ L1) := by
    refine ⟨hok, by rw [e1]; exact hP, hD.weaken (fun _ q _ z => hin _ z), hS', ⟨fun n hn => ?_, fun n hn => hext.2 n (h.2.2.2.2.1.2 n hn)⟩, ?_⟩
    · rw [hext.1 n (hn.elim (fun z => Or.inl (h.2.2.2.2.1.2 n z)) Or.inr)]
      exact h.2.2.2.2.1.1 n hn
    · rcases hal with ha | ⟨ha, -⟩
      · rcases hals with q | q
        · rw [ha] at q; cases q
        · rw [q]; exact h.2.2.2.2.2
      · exact Or.inl ha
  have hW := kk r w' hp o ad' T'.heap (locs ++ L1) ls hd' (by rw [hmL.1]; exact hl) T' rfl S'
  have es : (r.toList ++ st).map (mv ad') = (r.map (mv ad')).toList ++ st.map (mv ad) := by
    rw [List.map_append, hmL.2]
    cases r <;> rfl
  rw [es] at hW
  obtain ⟨t2, a1, b1⟩ := hW
  exact ⟨t2, go t2 a1, b1⟩
/-- room for a call -/
def Rm (M M' : Mi) : Prop := M'.2.2.2.2.1.frames + 1 ≤ M.2.2.2.2.1.frames ∧ 8 + (M'.2.2.1 + 11) + M'.2.2.2.2.1.locals ≤ M.2.2.2.2.1.locals
/-- the words of a call -/
def LkB (y : MethodName) (M' : Mi) (n : Nat) : Prop := .initialized y.cls ∈ tb ∧ .code y M'.2.1 M'.2.2.1 M'.2.2.2.1 ∈ tb ∧ (y.cls ≠ "java/lang/invoke/MethodHandle" ∧ y.cls ≠ "java/lang/invoke/VarHandle" ∧ (parseMethodDescriptor y.desc).map (fun d => d.parameters.length) = some n)
theorem Pre_of {ad : Nat → Nat} {H : Heap} {locs : List Loc} (o : Ok M X) (h : Hd M X ad w H locs) {U : State} (hU : U.heap = H) (hW : (xs X).WarmedH U.vm) : Pre0 (xD X) (xcy X) ad w H.size U := by
  have hin := xA_of h
  refine ⟨by rw [hU], h.1, by rw [hU]; exact h.2.1, h.2.2.1.weaken (fun _ _ _ _ => trivial), o.2.2.2.2.2.2.2.1.warm hW, ?_, ?_⟩
  · have e : ad 9 = xad X 9 := h.2.2.2.2.1.1 9 (Or.inr (Or.inl rfl))
    rw [e, hU]
    exact (va_Z.moved hW.alike (o.2.2.2.2.2.2.2.2.1.1.kept h.2.2.2.1.2.1)).narrow hin
  · have e : ad 9 = xad X 9 := h.2.2.2.2.1.1 9 (Or.inr (Or.inl rfl))
    rw [e, hU]
    exact (va_T.moved hW.alike (o.2.2.2.2.2.2.2.2.1.2.kept h.2.2.2.1.2.1)).narrow hin
theorem sum_cat (ad : Nat → Nat) (st : List Value) : ((st.map (mv ad)).map fun v => v.category) = st.map fun v => v.category := by
  rw [List.map_map]
  exact List.map_congr_left fun v _ => mv_cat ad v
/-- a static method -/
theorem V_invS {y : MethodName} {M' : Mi} {idx n : Nat} {As st0 : List Value} {Pre : List Value → Wd → Prop} {Post : List Value → Wd → Option Value → Wd → Prop} (hC : ∀ l, Ct l y M' Pre Post) (hb : LkB y M' n) (hl1 : .methodLink M.1 idx y ∈ tb) (hl2 : .static y ∈ tb) (hR : Rm M M') (hd : decode M.2.1 pc = .ok (.invokestatic idx, 3)) (hn : As.length = n) (hst : st0 = As.reverse ++ st) (hsz : (st.map fun v => v.category).sum ≤ 8) (hcs : cs.1 + M'.2.2.2.2.1.cells ≤ M.2.2.2.2.1.cells ∧ cs.2 + M'.2.2.2.2.1.slots ≤ M.2.2.2.2.1.slots)
    (hal : M'.2.2.2.2.2.2 = false ∨ (M.2.2.2.2.2.2 = true ∧ (∀ q ∈ L, refIn w q.2) ∧ ∀ v ∈ st, refIn w v)) (hp : Pre As w) (kk : ∀ r w', Post As w r w' → V M X Q (pc + 3) L (r.toList ++ st) w' (cs.1 + M'.2.2.2.2.1.cells, cs.2 + M'.2.2.2.2.1.slots)) : V M X Q pc L st0 w cs := by
  refine V_after (a := (As.map (mv (fun _ => 0))).toArray) (P' := Post As w) (fun o ad H locs ls h hl => ?_) hal kk
  have hG := tb_good hb.2.1
  have cb := callB_of (R := M.2.2.2.2.1) (s := xs X) (args := xargs X) (own := M.1) (index := idx) (y := y) (bytes := M'.2.1) (maxL := M'.2.2.1) (ret := M'.2.2.2.1) (rm := M'.2.2.2.2.1) n o.2.2.2.2.2.1 hG rfl rfl rfl (o.2.2.2.2.2.1 _ hb.1) (o.2.2.2.2.2.1 _ hl1) hb.2.2 hR
  exact va_runS (As := As.map (mv ad)) ⟨o.1, o.2.1, o.2.2.1, o.2.2.2.2.1, o.2.2.2.2.2.1⟩ (hC X.2.1 (xD X) (xcy X) ad w H.size As hp) ⟨cb, o.2.2.2.2.2.1 _ hl2⟩ ⟨Pre0.blind, fun U hU hW => ⟨rfl, Pre_of o h hU hW⟩⟩ rfl (by rw [List.length_map]; exact hn) hl.1 (by show st0.map (mv ad) = _; rw [hst, List.map_append, List.map_reverse]) (by rw [show 2 * (F0 (xm X) pc ls (st0.map (mv ad))).monitorRoom = 0 from rfl, sum_cat]; omega) hd hcs
/-- a static method of a nest mate that is private there -/
theorem V_invSN {y : MethodName} {M' : Mi} {idx n : Nat} {host : String} {As st0 : List Value} {Pre : List Value → Wd → Prop} {Post : List Value → Wd → Option Value → Wd → Prop} (hC : ∀ l, Ct l y M' Pre Post) (hb : LkB y M' n) (hl1 : (M.1, idx, y, host) ∈ nwL) (hl2 : .static y ∈ tb) (hR : Rm M M') (hd : decode M.2.1 pc = .ok (.invokestatic idx, 3)) (hn : As.length = n) (hst : st0 = As.reverse ++ st) (hsz : (st.map fun v => v.category).sum ≤ 8) (hcs : cs.1 + M'.2.2.2.2.1.cells ≤ M.2.2.2.2.1.cells ∧ cs.2 + M'.2.2.2.2.1.slots ≤ M.2.2.2.2.1.slots)
    (hal : M'.2.2.2.2.2.2 = false ∨ (M.2.2.2.2.2.2 = true ∧ (∀ q ∈ L, refIn w q.2) ∧ ∀ v ∈ st, refIn w v)) (hp : Pre As w) (kk : ∀ r w', Post As w r w' → V M X Q (pc + 3) L (r.toList ++ st) w' (cs.1 + M'.2.2.2.2.1.cells, cs.2 + M'.2.2.2.2.1.slots)) : V M X Q pc L st0 w cs := by
  refine V_after (a := (As.map (mv (fun _ => 0))).toArray) (P' := Post As w) (fun o ad H locs ls h hl => ?_) hal kk
  have hG := tb_good hb.2.1
  have cb := va_cnB (R := M.2.2.2.2.1) (s := xs X) (args := xargs X) (own := M.1) (host := host) (index := idx) (y := y) (bytes := M'.2.1) (maxL := M'.2.2.1) (ret := M'.2.2.2.1) (rm := M'.2.2.2.2.1) n o.2.2.2.2.2.1 hG rfl rfl rfl (o.2.2.2.2.2.2.2.1.2.1 _ hl1) (o.2.2.2.2.2.1 _ hb.1) hb.2.2 hR
  exact va_runSN (As := As.map (mv ad)) ⟨o.1, o.2.1, o.2.2.1, o.2.2.2.2.1, o.2.2.2.2.2.1⟩ (hC X.2.1 (xD X) (xcy X) ad w H.size As hp) ⟨cb, o.2.2.2.2.2.1 _ hl2, trivial⟩ ⟨Pre0.blind, fun U hU hW => ⟨rfl, Pre_of o h hU hW⟩⟩ rfl (by rw [List.length_map]; exact hn) hl.1 (by show st0.map (mv ad) = _; rw [hst, List.map_append, List.map_reverse]) (by rw [show 2 * (F0 (xm X) pc ls (st0.map (mv ad))).monitorRoom = 0 from rfl, sum_cat]; omega) hd hcs
/-- an instance method -/
theorem V_invV {y : MethodName} {M' : Mi} {idx n b ci : Nat} {As st0 : List Value} {r0 : vw_C} {Pre : List Value → Wd → Prop} {Post : List Value → Wd → Option Value → Wd → Prop} (hC : ∀ l, Ct l y M' Pre Post) (hb : LkB y M' n) (hl1 : .methodLink M.1 idx y ∈ tb) (hl2 : .instanceMethod y ∈ tb) (hl3 : .selects y.cls y y ∈ tb) (hc : vwCl[ci]? = some r0) (hc1 : r0.1 = y.cls) (hc2 : ci < 9) (hK : wK w b = ci + 1) (hR : Rm M M') (hd : decode M.2.1 pc = .ok (.invokevirtual idx, 3)) (hn : As.length = n) (hst : st0 = As.reverse ++ .ref b :: st) (hsz : (st.map fun v => v.category).sum ≤ 8) (hcs : cs.1 + M'.2.2.2.2.1.cells ≤ M.2.2.2.2.1.cells ∧ cs.2 + M'.2.2.2.2.1.slots ≤ M.2.2.2.2.1.slots)
    (hal : M'.2.2.2.2.2.2 = false ∨ (M.2.2.2.2.2.2 = true ∧ (∀ q ∈ L, refIn w q.2) ∧ ∀ v ∈ st, refIn w v)) (hp : Pre (.ref b :: As) w) (kk : ∀ r w', Post (.ref b :: As) w r w' → V M X Q (pc + 3) L (r.toList ++ st) w' (cs.1 + M'.2.2.2.2.1.cells, cs.2 + M'.2.2.2.2.1.slots)) : V M X Q pc L st0 w cs := by
  refine V_after (a := (As.map (mv (fun _ => 0))).toArray) (P' := Post (.ref b :: As) w) (fun o ad H locs ls h hl => ?_) hal kk
  have hG := tb_good hb.2.1
  have cb := callB_of (R := M.2.2.2.2.1) (s := xs X) (args := xargs X) (own := M.1) (index := idx) (y := y) (bytes := M'.2.1) (maxL := M'.2.2.1) (ret := M'.2.2.2.1) (rm := M'.2.2.2.2.1) n o.2.2.2.2.2.1 hG rfl rfl rfl (o.2.2.2.2.2.1 _ hb.1) (o.2.2.2.2.2.1 _ hl1) hb.2.2 hR
  obtain ⟨q0, -, hq⟩ := pl_get (cy := xcy X) (ad := ad) (dom h.1 hK)
  rw [en_o hK hc2] at hq
  have hrc := va_recv o.2.2.2.2.2.2.2.1.1 h.2.1 hc hq
  rw [hc1] at hrc
  exact va_runV (C := y.cls) (b := ad b) (As := As.map (mv ad)) ⟨o.1, o.2.1, o.2.2.1, o.2.2.2.2.1, o.2.2.2.2.2.1⟩ (hC X.2.1 (xD X) (xcy X) ad w H.size (.ref b :: As) hp) ⟨cb, o.2.2.2.2.2.1 _ hl2, o.2.2.2.2.2.1 _ hl3⟩ ⟨Pre0.blind, hrc, fun U hU hW => ⟨rfl, Pre_of o h hU hW⟩⟩ rfl (by rw [List.length_map]; exact hn) hl.1 (by show st0.map (mv ad) = _; rw [hst, List.map_append, List.map_reverse]; rfl) (by rw [show 2 * (F0 (xm X) pc ls (st0.map (mv ad))).monitorRoom = 0 from rfl, sum_cat]; omega) hd hcs
/-- Math.abs and Math.max of longs -/
theorem V_labs {idx : Nat} {x : Int64} (h1 : .methodLink M.1 idx Lib.MathLoose.abs_long.x ∈ tb) (h2 : .static Lib.MathLoose.abs_long.x ∈ tb) (h3 : .initialized "java/lang/Math" ∈ tb) (h4 : .code Lib.MathLoose.abs_long.x Lib.MathLoose.abs_long.code 2 (some .long) ∈ tb) (hf : 1 ≤ M.2.2.2.2.1.frames) (hlo : (st.map fun v => v.category).sum + 13 ≤ M.2.2.2.2.1.locals) (hc : cs.1 ≤ M.2.2.2.2.1.cells) (hs : cs.2 ≤ M.2.2.2.2.1.slots) (hd : decode M.2.1 pc = .ok (.invokestatic idx, 3)) (kk : V M X Q (pc + 3) L (.long (if 0 < x then x else -x) :: st) w cs) : V M X Q pc L (.long x :: st) w cs := fun o ad H locs ls h hl =>
  va_mabs_long o.1 o.2.1 (o.2.2.1.trans hl.1.symm) o.2.2.2.2.1 (o.2.2.2.2.2.1 _ h1) (o.2.2.2.2.2.1 _ h2) (o.2.2.2.2.2.1 _ h3) (o.2.2.2.2.2.1 _ h4) hf (by rw [sum_cat]; exact hlo) hc hs hd (kk o ad H locs ls h hl)
theorem V_lmax {idx : Nat} {x y : Int64} (h1 : .methodLink M.1 idx Lib.MathLoose.max_long.x ∈ tb) (h2 : .static Lib.MathLoose.max_long.x ∈ tb) (h3 : .initialized "java/lang/Math" ∈ tb) (h4 : .code Lib.MathLoose.max_long.x Lib.MathLoose.max_long.code 4 (some .long) ∈ tb) (hf : 1 ≤ M.2.2.2.2.1.frames) (hlo : (st.map fun v => v.category).sum + 15 ≤ M.2.2.2.2.1.locals) (hc : cs.1 ≤ M.2.2.2.2.1.cells) (hs : cs.2 ≤ M.2.2.2.2.1.slots) (hd : decode M.2.1 pc = .ok (.invokestatic idx, 3)) (kk : V M X Q (pc + 3) L (.long (if y < x then x else y) :: st) w cs) : V M X Q pc L (.long y :: .long x :: st) w cs := fun o ad H locs ls h hl =>
  va_mmax_long o.1 o.2.1 (o.2.2.1.trans hl.1.symm) o.2.2.2.2.1 (o.2.2.2.2.2.1 _ h1) (o.2.2.2.2.2.1 _ h2) (o.2.2.2.2.2.1 _ h3) (o.2.2.2.2.2.1 _ h4) hf (by rw [sum_cat]; exact hlo) hc hs hd (kk o ad H locs ls h hl)
/-- System.arraycopy between rows of ints -/
theorem V_copy {idx n0 n1 : Nat} {sp dp n : Int32} (h1 : .methodLink M.1 idx arraycopyName ∈ tb) (h2 : .native arraycopyName ∈ tb) (h3 : .static arraycopyName ∈ tb) (h4 : .initialized "java/lang/System" ∈ tb) (hK0 : wK w n0 = 11) (hK1 : wK w n1 = 11) (g1 : ¬ sp < 0) (g2 : ¬ dp < 0) (g3 : ¬ n < 0) (g4 : sp.toNatClampNeg + n.toNatClampNeg ≤ wN w n0) (g5 : dp.toNatClampNeg + n.toNatClampNeg ≤ wN w n1) (hf : 1 ≤ M.2.2.2.2.1.frames) (hlo : (st.map fun v => v.category).sum + (nativeFrameWords "java/lang/System" "arraycopy" 5 + 11) ≤ M.2.2.2.2.1.locals) (hd : decode M.2.1 pc = .ok (.invokestatic idx, 3)) (kk : V M X Q (pc + 3) L st (sV w n1 (va_cpy (wI w n0) (wI w n1) sp.toNatClampNeg dp.toNatClampNeg n.toNatClampNeg)) cs) : V M X Q pc L (.int n :: .int dp :: .ref n1 :: .int sp :: .ref n0 :: st) w cs := fun o ad H locs ls h hl => by
  obtain ⟨q0, -, hq⟩ := pl_get (cy := xcy X) (ad := ad) (dom h.1 (k := 10) hK0)
  obtain ⟨q1, hq1, hqq⟩ := pl_get (cy := xcy X) (ad := ad) (dom h.1 (k := 10) hK1)
  rw [show en (xcy X) ad w n0 = .inl (xcy X 0, wN w n0, .inl (wI w n0)) by simp only [en, hK0]] at hq
  rw [show en (xcy X) ad w n1 = .inl (xcy X 0, wN w n1, .inl (wI w n1)) by simp only [en, hK1]] at hqq
  have e : (pl (xcy X) ad w).set q1 (ad n1, .inl (xcy X 0, wN w n1, .inl (va_cpy (wI w n0) (wI w n1) sp.toNatClampNeg dp.toNatClampNeg n.toNatClampNeg))) = pl (xcy X) ad (sV w n1 (va_cpy (wI w n0) (wI w n1) sp.toNatClampNeg dp.toNatClampNeg n.toNatClampNeg)) := pl_set h.1 hq1 rfl (by
    have hK2 : wK (sV w n1 (va_cpy (wI w n0) (wI w n1) sp.toNatClampNeg dp.toNatClampNeg n.toNatClampNeg)) n1 = 11 := hK1
    simp only [en, hK2]
    rw [show wI (sV w n1 (va_cpy (wI w n0) (wI w n1) sp.toNatClampNeg dp.toNatClampNeg n.toNatClampNeg)) n1 = va_cpy (wI w n0) (wI w n1) sp.toNatClampNeg dp.toNatClampNeg n.toNatClampNeg from funext fun j => if_pos rfl]
    rfl) (fun m hm => en_congr rfl rfl (funext fun j => if_neg hm) rfl rfl)
  exact va_copyi o.1 o.2.1 (o.2.2.1.trans hl.1.symm) o.2.2.2.2.1 (o.2.2.2.2.2.1 _ h1) (o.2.2.2.2.2.1 _ h2) (o.2.2.2.2.2.1 _ h3) (o.2.2.2.2.2.1 _ h4) o.2.2.2.2.2.2.2.1.1 h.2.1 h.2.2.1 h.2.2.2.1 q0 q1 0 0 (ty := .int) hq hqq rfl rfl rfl g1 g2 g3 g4 g5 (fun i _ => rfl) hf (by rw [sum_cat]; exact hlo) hd (fun H1 locs1 hP hD hS => kk o ad H1 locs1 ls ⟨h.1, e ▸ hP, e ▸ hD, hS, h.2.2.2.2⟩ hl)
end
