/-! THE JUDGEMENT: V says of a world by names what W says of the machine. -/
def tys (cy : Nat → ClassId) : List (ClassId × FieldType) := [(cy 0, .int), (cy 1, .long), (cy 2, .boolean), (cy 3, .object "BoneSteps$Bone"), (cy 4, .object "BoneSteps$Clip"), (cy 5, .object "BoneSteps$Sheet"), (cy 6, .array .int)]
/-- the tables' words that every method takes along -/
def tb : List Cond := lw_tbl.filter goodWord
theorem tb_at {w : Cond} (i : Nat) (h : lw_tbl[i]? = some w) (hg : goodWord w = true) : w ∈ tb := List.mem_filter.mpr ⟨List.mem_of_getElem? h, hg⟩
theorem tb_good {c : Cond} (h : c ∈ tb) : GoodIn tb (c :: tb) := fun w hw => by
  have hm : w ∈ tb := (List.mem_cons.mp hw).elim (fun e => e ▸ h) id
  exact ⟨hm, good_of_word (List.mem_filter.mp hm).2⟩
/-- the words on private members of nest mates -/
def nwL : List (String × Nat × MethodName × String) := [("BoneSteps", 11, ⟨"BoneSteps$Skeleton", "<init>", "()V"⟩, "BoneSteps"), ("BoneSteps", 25, ⟨"BoneSteps$Packing", "<init>", "()V"⟩, "BoneSteps"), ("BoneSteps", 32, ⟨"BoneSteps$Graph", "<init>", "()V"⟩, "BoneSteps"), ("BoneSteps", 47, ⟨"BoneSteps$Sheet", "<init>", "()V"⟩, "BoneSteps"), ("BoneSteps$Clips", 17, ⟨"BoneSteps$Clip", "<init>", "()V"⟩, "BoneSteps"), ("BoneSteps$Clips", 20, ⟨"BoneSteps", "isIn", "(JJJ)Z"⟩, "BoneSteps"), ("BoneSteps$Sheet", 32, ⟨"BoneSteps", "isIn", "(JJJ)Z"⟩, "BoneSteps"), ("BoneSteps$Skeleton", 24, ⟨"BoneSteps", "isIn", "(JJJ)Z"⟩, "BoneSteps")]
def nwC (q : String × Nat × MethodName × String) : Cond := .methodLinkNest q.1 q.2.1 q.2.2.1 q.2.2.2
/-- arrays of these have been made before -/
def aoH (U : State) : Prop := va_AO "BoneSteps$Bone" U ∧ va_AO "BoneSteps$Clip" U ∧ va_AO "BoneSteps$Sheet" U ∧ (Cond.arrayOver (.array .int)).before #[] U = true
theorem aoH.moved {s U : State} (hvm : s.vm.Alike U.vm) (h : aoH s) : aoH U := ⟨h.1.moved hvm, h.2.1.moved hvm, h.2.2.1.moved hvm, arrayOver_alikeB hvm h.2.2.2⟩
def Hy (D : va_G) (cy : Nat → ClassId) (U : State) : Prop := va_K D vwCl (tys cy) U ∧ (∀ q ∈ nwL, va_Nw (nwC q) U) ∧ aoH U
theorem Hy.warm {D : va_G} {cy : Nat → ClassId} {s U : State} (h : Hy D cy s) (hW : s.WarmedH U.vm) : Hy D cy U := ⟨va_K.moved hW.alike h.1, fun q hq => va_Nw.warmM hW (h.2.1 q hq), h.2.2.moved hW.alike⟩
theorem Hy.same {D : va_G} {cy : Nat → ClassId} {s U : State} (h : Hy D cy s) (e : s.vm = U.vm) : Hy D cy U := ⟨va_K.moved (by rw [e]; exact Vm.Alike.refl U.vm) h.1, fun q hq => va_Nw.same rfl e (h.2.1 q hq), h.2.2.moved (by rw [e]; exact Vm.Alike.refl U.vm)⟩
def cosL : List Int32 := [65, 63, 60, 56, 52, 39, 33, 25, 16, 0, -16, -25, -33, -39, -52, -56, -60, -63, -65, -63, -60, -56, -52, -39, -33, -25, -16, 0, 16, 25, 33, 39, 52, 56, 60, 63]
def cosF (j : Nat) : Int32 := cosL.getD j 0
def Sta (t : Nat) (A : Nat → Prop) (U : State) (H : Heap) : Prop := va_Z RX7 "COSINES" "[I" (.ref t) A U H ∧ va_T .int t 36 (fun j => .int (cosF j)) A U H
/-- a method: its class, bytes, locals, answer's type, room, name, whether it makes cells -/
abbrev Mi : Type := String × ByteArray × Nat × Option FieldType × Room × String × Bool
/-- what stands still while a method runs -/
abbrev Cx : Type := Program × Launch × Env × State × MethodId × List Frame × Method × Code × va_G × (Nat → ClassId) × (Nat → Nat) × Wd × List Value × Option (Nat × (Nat → Int32))
def xs (X : Cx) : State := X.2.2.2.1
def xm (X : Cx) : MethodId := X.2.2.2.2.1
def xD (X : Cx) : va_G := X.2.2.2.2.2.2.2.2.1
def xcy (X : Cx) : Nat → ClassId := X.2.2.2.2.2.2.2.2.2.1
def xad (X : Cx) : Nat → Nat := X.2.2.2.2.2.2.2.2.2.2.1
def xw (X : Cx) : Wd := X.2.2.2.2.2.2.2.2.2.2.2.1
def xav (X : Cx) : List Value := X.2.2.2.2.2.2.2.2.2.2.2.2.1
def xsc (X : Cx) : Option (Nat × (Nat → Int32)) := X.2.2.2.2.2.2.2.2.2.2.2.2.2
def xA (X : Cx) : Nat → Prop := va_A (pl (xcy X) (xad X) (xw X)) (xs X).heap.size
def xargs (X : Cx) : Array Value := ((xav X).map (mv (xad X))).toArray
def Ok (M : Mi) (X : Cx) : Prop :=
  X.1.tables.exec = Jvm.exec ∧ X.2.2.2.2.2.2.2.1.code = M.2.1 ∧ X.2.2.2.2.2.2.2.1.maxLocals = M.2.2.1 ∧ X.2.2.2.2.2.2.1.sig.returnType = M.2.2.2.1 ∧ (xs X).vm.findClass M.1 = some (xm X).cls ∧ (∀ w ∈ tb, w.before (xargs X) (xs X) = true) ∧ X.2.2.2.2.2.2.1.locks = false ∧ Hy (xD X) (xcy X) (xs X) ∧ Sta (xad X 9) (xA X) (xs X) (xs X).heap ∧ X.2.2.2.2.2.2.1.name = M.2.2.2.2.2.1 ∧ ∀ q, xsc X = some q → va_X (xad X 8) q.1 q.2 (xs X) (xs X).heap ∧ xad X 8 < (xs X).heap.size ∧ ¬ xA X (xad X 8)
def Hd (M : Mi) (X : Cx) (ad : Nat → Nat) (w : Wd) (H : Heap) (locs : List Loc) : Prop :=
  Wok w ∧ va_P (xD X) vwCl (pl (xcy X) ad w) H ∧ va_D (xA X) (pl (xcy X) ad w) ∧ va_S (xA X) (xs X).heap H locs ∧ ((∀ n, (n ∈ wL (xw X) ∨ n = 9 ∨ n = 8) → ad n = xad X n) ∧ ∀ n, n ∈ wL (xw X) → n ∈ wL w) ∧ (M.2.2.2.2.2.2 = true ∨ ad = xad X)
/-- W at this context -/
def WX (M : Mi) (X : Cx) (H : Heap) (locs : List Loc) (cs : Nat × Nat) (Q : State → Prop) (g : JFrame) : Prop :=
  W X.1 X.2.1 X.2.2.1 M.2.2.2.2.1 (xs X) (xm X) (xargs X) X.2.2.2.2.2.1 X.2.2.2.2.2.2.1 X.2.2.2.2.2.2.2.1 H locs cs.1 cs.2 Q g
def V (M : Mi) (X : Cx) (Q : State → Prop) (pc : Nat) (L : List (Nat × Value)) (st : List Value) (w : Wd) (cs : Nat × Nat) : Prop :=
  Ok M X → ∀ (ad : Nat → Nat) (H : Heap) (locs : List Loc) (ls : Array Slot), Hd M X ad w H locs → lv_has ls M.2.2.1 (mL ad L) → WX M X H locs cs Q (F0 (xm X) pc ls (st.map (mv ad)))
/-- what a method's end says: the answer and the world behind it -/
def Qg (al : Bool) (D : va_G) (cy : Nat → ClassId) (ad : Nat → Nat) (w : Wd) (sz : Nat) (P : Option Value → Wd → Prop) : Array Value → State → Outcome → State → Prop := fun _ st oc t =>
  (∃ (r : Option Value) (w' : Wd) (ad' : Nat → Nat), oc = .returned (r.map (mv ad')) ∧ P r w' ∧ Wok w' ∧ va_P D vwCl (pl cy ad' w') t.heap ∧ va_D (va_A (pl cy ad w) sz) (pl cy ad' w') ∧ ((∀ n, (n ∈ wL w ∨ n = 9 ∨ n = 8) → ad' n = ad n) ∧ ∀ n, n ∈ wL w → n ∈ wL w') ∧ (al = true ∨ ad' = ad)) ∧ va_F (va_A (pl cy ad w) sz) st t
def mq (M : Mi) (X : Cx) (P : Option Value → Wd → Prop) : State → Prop :=
  MQ X.2.2.2.2.2.1 (Qg M.2.2.2.2.2.2 (xD X) (xcy X) (xad X) (xw X) (xs X).heap.size P) (xargs X) (xs X) M.2.2.2.2.1.cells M.2.2.2.2.1.slots (xA X)
def Pre0 (D : va_G) (cy : Nat → ClassId) (ad : Nat → Nat) (w : Wd) (sz : Nat) (U : State) : Prop :=
  U.heap.size = sz ∧ Wok w ∧ va_P D vwCl (pl cy ad w) U.heap ∧ va_D (fun _ => True) (pl cy ad w) ∧ Hy D cy U ∧ Sta (ad 9) (va_A (pl cy ad w) sz) U U.heap
theorem Pre0.blind {D : va_G} {cy : Nat → ClassId} {ad : Nat → Nat} {w : Wd} {sz : Nat} {av : List Value} : FrameBlind (va_Pc av (Pre0 D cy ad w sz)) := fun a U g mk q => by
  obtain ⟨q0, q1, q2, q3, q4, q5, q6, q7⟩ := q
  exact ⟨q0, q1, q2, q3, q4, q5.same rfl, va_Z.moved (u := U) (U := U.calling g mk a) (Vm.Alike.refl U.vm) q6, va_T.moved (u := U) (U := U.calling g mk a) (Vm.Alike.refl U.vm) q7⟩
/-- A CONTRACT: from every world and arguments with Pre the method comes to an answer and a world with Post -/
def Ct (l : Launch) (y : MethodName) (M : Mi) (Pre : List Value → Wd → Prop) (Post : List Value → Wd → Option Value → Wd → Prop) : Prop :=
  ∀ (D : va_G) (cy : Nat → ClassId) (ad : Nat → Nat) (w : Wd) (sz : Nat) (av : List Value), Pre av w →
    Met l y (.code y M.2.1 M.2.2.1 M.2.2.2.1 :: tb) M.2.2.2.2.1 (va_Pc (av.map (mv ad)) (Pre0 D cy ad w sz)) (Qg M.2.2.2.2.2.2 D cy ad w sz (Post av w)) M.2.2.2.2.1.cells M.2.2.2.2.1.slots (va_A (pl cy ad w) sz)
theorem Ct.of {l : Launch} {y : MethodName} {M : Mi} {Pre : List Value → Wd → Prop} {Post : List Value → Wd → Option Value → Wd → Prop} (hy : plainName y.cls = true) (hc : y.cls = M.1) (hn : y.name = M.2.2.2.2.2.1) (hlen : ∀ av w, Pre av w → (lg_sl av).length ≤ M.2.2.1)
    (body : ∀ (X : Cx) (av : List Value) (w : Wd), Pre av w → V M X (mq M X (Post av w)) 0 (lv_args 0 av) [] w (0, 0)) : Ct l y M Pre Post := by
  intro D cy ad w sz av hp
  refine Met.ofW (cc := M.2.1) (maxL := M.2.2.1) (ret := M.2.2.2.1) hy rfl ?_
  intro p e s m args below meth c s₁ B hml hv
  obtain ⟨rfl, hsz, hw, hP, hD0, hH, hZ, hT⟩ := hv
  subst hsz
  have hts : ∀ w ∈ tb, w.before (av.map (mv ad)).toArray s = true := fun w hw => atoms_spec (ws := .code y M.2.1 M.2.2.1 M.2.2.2.1 :: tb) B.pre w (List.mem_cons_of_mem _ hw)
  have hown : s.vm.findClass M.1 = some m.cls := by rw [← hc]; exact findClass_of_methodNamed B.named
  have hnm : meth.name = M.2.2.2.2.2.1 := by rw [← hn]; exact (name_of_methodNamed B.named B.method).1
  have hl := lv_entry (av.map (mv ad)) (n := M.2.2.1) (by rw [lg_sl_mv]; exact hlen av w hp)
  rw [lg_entry_eq]
  generalize (lg_sl (av.map (mv ad)) ++ List.replicate (M.2.2.1 - (lg_sl (av.map (mv ad))).length) Slot.unset).toArray = ls at hl ⊢
  rw [lv_args_mv] at hl
  have key := body (p, l, e, s, m, below, meth, c, D, cy, ad, w, av, none) av w hp ⟨B.exec, B.bytes, hml, B.returns, hown, hts, B.notSynchronized, hH, ⟨hZ, hT⟩, hnm, fun q h => by cases h⟩ ad s.heap [] ls ⟨hw, hP, hD0.self, va_S.rf, ⟨fun _ _ => rfl, fun _ h => h⟩, Or.inr rfl⟩ hl
  exact key
