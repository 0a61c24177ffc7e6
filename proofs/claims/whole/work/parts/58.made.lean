/-! NEW ROWS OF ROWS, rows of references; constructors called -/
def vr_up {α : Type} (f : Nat → α) (l : List Nat) (v : α) : Nat → α := fun a => if a ∈ l then v else f a
theorem vr_up_in {α : Type} {f : Nat → α} {l : List Nat} {v : α} {a : Nat} (h : a ∈ l) : vr_up f l v a = v := if_pos h
theorem vr_up_ne {α : Type} {f : Nat → α} {l : List Nat} {v : α} {a : Nat} (h : a ∉ l) : vr_up f l v a = f a := if_neg h
theorem vr_rows {L l : List Nat} {f : Nat → va_E} {e : va_E} (h : ∀ a, a ∈ l → a ∉ L) : va_pl L f ++ l.map (fun a => (a, e)) = va_pl (L ++ l) (vr_up f l e) := by
  unfold va_pl
  rw [List.map_append]
  congr 1
  · apply List.map_congr_left
    intro a ha
    rw [vr_up_ne (fun q => h a q ha)]
  · apply List.map_congr_left
    intro a ha
    rw [vr_up_in ha]
theorem vr_lay {X rows : va_W} {x : Nat × va_E} {pl : va_W} {D : va_G} {cl : List vw_C} {H : Heap} (hP : va_P D cl (((X ++ pl) ++ [x]) ++ rows) H) : va_P D cl ((X ++ [x]) ++ (pl ++ rows)) H := by
  rw [List.append_assoc (X ++ pl)] at hP
  have h := va_P.swap hP
  rw [← List.append_assoc X] at h
  have h2 := va_P.swap h
  rw [List.append_assoc (X ++ [x])] at h2
  exact h2
theorem vr_layD {X rows : va_W} {x : Nat × va_E} {pl : va_W} {A : Nat → Prop} (hD : va_D A (((X ++ pl) ++ [x]) ++ rows)) : va_D A ((X ++ [x]) ++ (pl ++ rows)) := by
  rw [List.append_assoc (X ++ pl)] at hD
  have h := va_D.swap hD
  rw [← List.append_assoc X] at h
  have h2 := va_D.swap h
  rw [List.append_assoc (X ++ [x])] at h2
  exact h2
theorem vr_outer (c : ClassId) (N h0 : Nat) : ∀ i : Nat, Jvm.Free.Multi.outerC c N h0 i = arrV c N (fun j => va_rf (if j < i then some (h0 + 1 + j) else none))
  | 0 => by
    show ({ cls := c, slots := Array.replicate N .null, vm := .none } : Cell) = _
    rw [arrV_new]
    refine congrArg (arrV c N) (funext fun j => ?_)
    simp [va_rf]
  | i + 1 => by
    show (Jvm.Free.Multi.outerC c N h0 i).setSlot i (.ref (h0 + 1 + i)) = _
    rw [vr_outer c N h0 i, arrV_store]
    refine congrArg (arrV c N) (funext fun j => ?_)
    by_cases e : j = i
    · subst e
      simp [updV, va_rf]
    · by_cases h : j < i
      · simp [updV, e, h, Nat.lt_succ_of_lt h]
      · simp [updV, e, h, show ¬ j < i + 1 by omega]
section VGM
variable {p : Program} {l : Launch} {e : Env} {R : Room} {s : State} {m : MethodId} {args : Array Value} {below : List Frame} {meth : Method} {c : Code} {H : Heap} {locs : List Loc} {cells slots : Nat} {Q : State → Prop}
variable {cc : ByteArray} {pc : Nat} {ls : Array Slot} {rest : List Value} {D : va_G} {cl : List vw_C} {A : Nat → Prop} {a : Nat} {tys : List (ClassId × FieldType)} {ws : va_W} {H0 : Heap}
theorem va_mna {X : va_W} {L : List Nat} {f : Nat → va_E} {cc : ByteArray} (hexec : p.tables.exec = Jvm.exec) (hb : c.code = cc) {own : String} {index : Nat} {ty : FieldType} {cy : ClassId} (hown : s.vm.findClass own = some m.cls) (hclink : (Cond.classLink own index ("[" ++ (FieldType.array ty).toString)).before args s = true) (hover : (Cond.arrayOver (.array ty)).before args s = true) (harr : (Cond.arrayClass ty).before args s = true) (hcy : s.vm.findClass (FieldType.array ty).toString = some cy)
    (hK : va_K D cl tys s) (hP : va_P D cl (X ++ va_pl L f) H) (hD : va_D A (X ++ va_pl L f)) (hS : va_S A H0 H locs) (hA : ∀ q, H0.size ≤ q → A q) {n k : Int32} {N' K' : Nat} {z : vp_A} (hn : ¬ n < 0) (hk : ¬ k < 0) (hN : n.toNatClampNeg = N') (hM : k.toNatClampNeg = K')
    (hb1 : N' * 4 ≤ 536870912) (hb2 : K' * componentBytes ty ≤ 536870912) (hb3 : K' ≤ 536870912) (hdf : fits ty (defaultValue ty) = true) (hdd : (defaultValue ty).isDefault = true) (hcells : cells + (1 + N') ≤ R.cells) (hslots : slots + (N' + N' * K') ≤ R.slots) (hz : ∀ c : ClassId, Jvm.Free.Multi.innerC c K' (defaultValue ty) = vp_cell c z) (hdg : decode cc pc = .ok (.multianewarray index 2, 4))
    (kk : ∀ (q : Nat) (r : Nat → Nat) (cA : ClassId) (H1 : Heap), (∀ i j : Nat, i < N' → j < N' → r i = r j → i = j) → (∀ i : Nat, i < N' → r i ∉ L) → va_K D cl (tys ++ [(cA, .array ty)]) s →
      va_P D cl ((X ++ [(q, .inl (cA, N', .inr (.inr (.inr (.inr (fun i => if i < N' then some (r i) else none))))))]) ++ va_pl (L ++ (List.range N').map r) (vr_up f ((List.range N').map r) (.inl (cy, z)))) H1 → va_D A ((X ++ [(q, .inl (cA, N', .inr (.inr (.inr (.inr (fun i => if i < N' then some (r i) else none))))))]) ++ va_pl (L ++ (List.range N').map r) (vr_up f ((List.range N').map r) (.inl (cy, z)))) → va_S A H0 H1 locs →
      W p l e R s m args below meth c H1 locs (cells + 1 + N') (slots + N' + N' * K') Q (F0 m (pc + 4) ls (.ref q :: rest))) : W p l e R s m args below meth c H locs cells slots Q (F0 m pc ls (.int k :: .int n :: rest)) := by
  subst hN
  subst hM
  intro T hT Xs
  obtain ⟨vm₁, cA, comp, -, fA, fC, hO, -, X', step⟩ := Xs.multianewarray2F hexec hown hclink hover harr (g := F0 m pc ls (.int k :: .int n :: rest)) rfl (by rw [hb]; exact hdg) rfl hn hk hb1 hb2 hb3 hdf hdd hcells hslots
  have ec : some cy = some comp := hcy.symm.trans fC
  cases ec
  generalize hF : Jvm.Free.Multi.fill (T.setVm vm₁) cA cy n.toNatClampNeg k.toNatClampNeg (defaultValue ty) n.toNatClampNeg = F at X' step
  have hTh : (T.setVm vm₁).heap = H := hT
  obtain ⟨f1, f2, -, -⟩ := Jvm.Free.Multi.fill_facts (T.setVm vm₁) cA cy n.toNatClampNeg k.toNatClampNeg (defaultValue ty) n.toNatClampNeg
  rw [hF, hTh] at f1 f2
  have hold : ∀ x : Nat, x < H.size → F.heap[x]? = H[x]? := fun x hx => by
    have := Jvm.Free.Multi.fill_old (T.setVm vm₁) cA cy n.toNatClampNeg k.toNatClampNeg (defaultValue ty) (a := x) (by rw [hTh]; exact hx) n.toNatClampNeg
    rw [hF, hTh] at this
    exact this
  have hrow : ∀ j : Nat, j < n.toNatClampNeg → F.heap[H.size + 1 + j]? = some (vp_cell cy z) := fun j hj => by
    have := Jvm.Free.Multi.fill_inner (T.setVm vm₁) cA cy n.toNatClampNeg k.toNatClampNeg (defaultValue ty) n.toNatClampNeg j hj
    rw [hF, hTh, hz] at this
    exact this
  have hout : Jvm.Free.Multi.outerC cA n.toNatClampNeg H.size n.toNatClampNeg = vp_cell cA (n.toNatClampNeg, .inr (.inr (.inr (.inr (fun i => if i < n.toNatClampNeg then some (H.size + 1 + i) else none))))) := by
    rw [vp_cell_q]
    exact vr_outer cA n.toNatClampNeg H.size n.toNatClampNeg
  rw [hout] at f2
  have hlt : ∀ a, a ∈ L → a < H.size := fun a ha => by
    obtain ⟨k9, hk9⟩ := va_pl_get (X := X) (f := f) ha
    exact (hP k9 _ hk9).lt
  have hnl : ∀ i : Nat, i < n.toNatClampNeg → H.size + 1 + i ∉ L := fun i _ h => by
    have := hlt _ h
    omega
  have hnm : ∀ a, a ∈ (List.range n.toNatClampNeg).map (fun i => H.size + 1 + i) → a ∉ L := fun a ha h => by
    obtain ⟨i, -, rfl⟩ := List.mem_map.mp ha
    have := hlt _ h
    omega
  have hP0 : va_P D cl (X ++ va_pl L f) F.heap := hP.kept (fun k9 x hx => hold x.1 ((hP k9 x hx).lt))
  have hP1 : va_P D cl ((X ++ va_pl L f) ++ [(H.size, .inl (cA, n.toNatClampNeg, .inr (.inr (.inr (.inr (fun i => if i < n.toNatClampNeg then some (H.size + 1 + i) else none))))))]) F.heap := hP0.app (fun k9 x hx => by
    have h0 : k9 < 1 := (List.getElem?_eq_some_iff.mp hx).1
    rw [show k9 = 0 by omega] at hx
    cases hx
    exact f2)
  have hP2 : va_P D cl (((X ++ va_pl L f) ++ [(H.size, .inl (cA, n.toNatClampNeg, .inr (.inr (.inr (.inr (fun i => if i < n.toNatClampNeg then some (H.size + 1 + i) else none))))))]) ++ ((List.range n.toNatClampNeg).map (fun i => H.size + 1 + i)).map (fun a => (a, .inl (cy, z)))) F.heap := hP1.app (fun k9 x hx => by
    obtain ⟨a, ha, rfl⟩ := List.mem_map.mp (List.mem_of_getElem? hx)
    obtain ⟨i, hi, rfl⟩ := List.mem_map.mp ha
    exact hrow i (List.mem_range.mp hi))
  have hD2 : va_D A (((X ++ va_pl L f) ++ [(H.size, .inl (cA, n.toNatClampNeg, .inr (.inr (.inr (.inr (fun i => if i < n.toNatClampNeg then some (H.size + 1 + i) else none))))))]) ++ ((List.range n.toNatClampNeg).map (fun i => H.size + 1 + i)).map (fun a => (a, .inl (cy, z)))) := by
    have hD1 := hD.push (e := .inl (cA, n.toNatClampNeg, .inr (.inr (.inr (.inr (fun i => if i < n.toNatClampNeg then some (H.size + 1 + i) else none)))))) hP rfl (hA _ hS.1)
    generalize hW1 : (X ++ va_pl L f) ++ [(H.size, .inl (cA, n.toNatClampNeg, .inr (.inr (.inr (.inr (fun i => if i < n.toNatClampNeg then some (H.size + 1 + i) else none))))))] = W1 at hD1 hP1 ⊢
    have hle : ∀ (k9 : Nat) (x : Nat × va_E), W1[k9]? = some x → x.1 ≤ H.size := fun k9 x hx => by
      rw [← hW1] at hx
      by_cases hl : k9 < (X ++ va_pl L f).length
      · rw [List.getElem?_append_left hl] at hx
        exact Nat.le_of_lt ((hP k9 x hx).lt)
      · rw [List.getElem?_append_right (by omega)] at hx
        have h0 : k9 - (X ++ va_pl L f).length < 1 := (List.getElem?_eq_some_iff.mp hx).1
        rw [show k9 - (X ++ va_pl L f).length = 0 by omega] at hx
        cases hx
        exact Nat.le_refl _
    have hr : ∀ (k9 : Nat) (x : Nat × va_E), (((List.range n.toNatClampNeg).map (fun i => H.size + 1 + i)).map (fun a => ((a, .inl (cy, z)) : Nat × va_E)))[k9]? = some x → x.1 = H.size + 1 + k9 := fun k9 x hx => by
      rw [List.getElem?_map, List.getElem?_map] at hx
      by_cases h9 : k9 < n.toNatClampNeg
      · rw [List.getElem?_range h9] at hx
        cases hx
        rfl
      · have hn0 : (List.range n.toNatClampNeg)[k9]? = none := List.getElem?_eq_none (by rw [List.length_range]; omega)
        rw [hn0] at hx
        cases hx
    refine ⟨fun i j x y hi hj hxy => ?_, fun k9 x hx => ?_⟩
    · by_cases h1 : i < W1.length <;> by_cases h2 : j < W1.length
      · rw [List.getElem?_append_left h1] at hi
        rw [List.getElem?_append_left h2] at hj
        exact hD1.1 i j x y hi hj hxy
      · rw [List.getElem?_append_left h1] at hi
        rw [List.getElem?_append_right (by omega)] at hj
        have := hle _ _ hi
        have := hr _ _ hj
        omega
      · rw [List.getElem?_append_right (by omega)] at hi
        rw [List.getElem?_append_left h2] at hj
        have := hle _ _ hj
        have := hr _ _ hi
        omega
      · rw [List.getElem?_append_right (by omega)] at hi hj
        have := hr _ _ hi
        have := hr _ _ hj
        omega
    · by_cases h1 : k9 < W1.length
      · rw [List.getElem?_append_left h1] at hx
        exact hD1.2 k9 x hx
      · rw [List.getElem?_append_right (by omega)] at hx
        have := hr _ _ hx
        exact hA _ (by have := hS.1; omega)
  have hAr : ArrOfT s cA (.array ty) := fun N9 z9 => by
    obtain ⟨-, k9, hk9, cm9, hkk9⟩ := (hO 0 0 0).1
    exact ⟨(fun q hq => by cases hq), k9, hk9, cm9, hkk9⟩
  have hK2 : va_K D cl (tys ++ [(cA, .array ty)]) s := ⟨hK.1, fun k9 x hx => by
    by_cases hl : k9 < tys.length
    · rw [List.getElem?_append_left hl] at hx
      exact hK.2 k9 x hx
    · rw [List.getElem?_append_right (by omega)] at hx
      have h0 : k9 - tys.length < 1 := (List.getElem?_eq_some_iff.mp hx).1
      rw [show k9 - tys.length = 0 by omega] at hx
      cases hx
      exact ⟨hAr, fA⟩⟩
  obtain ⟨t, a1, b1⟩ := kk H.size (fun i => H.size + 1 + i) cA F.heap (fun i j _ _ h => by have h9 : H.size + 1 + i = H.size + 1 + j := h; omega) hnl hK2 (by rw [← vr_rows hnm]; exact vr_lay hP2) (by rw [← vr_rows hnm]; exact vr_layD hD2) ⟨by rw [f1]; have := hS.1; omega, fun x h1 h2 => (hold x (Nat.lt_of_lt_of_le h1 hS.1)).trans (hS.2.1 x h1 h2), hS.2.2⟩ F rfl X'
  refine ⟨t, step t ?_, b1⟩
  have e : T.heap.size = H.size := by rw [hT]
  rw [e]
  exact a1
end VGM
theorem w_oi : Cond.instanceMethod objectInit ∈ tb := (tb_at 51 (by decide +kernel) (by decide +kernel))
theorem w_oc : Cond.code objectInit ⟨#[0xb1]⟩ 1 none ∈ tb := (tb_at 52 (by decide +kernel) (by decide +kernel))
theorem w_mm : Cond.classLink RX1 9 "[[I" ∈ tb := (tb_at 97 (by decide +kernel) (by decide +kernel))
theorem w_qb : Cond.classLink RX6 9 "BoneSteps$Bone" ∈ tb := (tb_at 59 (by decide +kernel) (by decide +kernel))
theorem w_qc : Cond.classLink RX2 9 "BoneSteps$Clip" ∈ tb := (tb_at 90 (by decide +kernel) (by decide +kernel))
theorem w_qs : Cond.classLink RX8 37 "BoneSteps$Sheet" ∈ tb := (tb_at 174 (by decide +kernel) (by decide +kernel))
section
variable {M : Mi} {X : Cx} {Q : State → Prop} {pc : Nat} {L : List (Nat × Value)} {st : List Value} {w : Wd} {cs : Nat × Nat}
theorem V_wok (k : Wok w → V M X Q pc L st w cs) : V M X Q pc L st w cs := fun o ad H locs ls h hl => k h.1 o ad H locs ls h hl
theorem V_objInit {idx b : Nat} (h1 : .methodLink M.1 idx objectInit ∈ tb) (hd : decode M.2.1 pc = .ok (.invokespecial idx, 3)) (hf : 1 ≤ M.2.2.2.2.1.frames) (hlo : (st.map fun v => v.category).sum + 12 ≤ M.2.2.2.2.1.locals) (kk : V M X Q (pc + 3) L st w cs) : V M X Q pc L (.ref b :: st) w cs := fun o ad H locs ls h hl =>
  W.objInit o.1 o.2.1 o.2.2.2.2.1 (o.2.2.2.2.2.1 _ h1) (o.2.2.2.2.2.1 _ w_oi) (o.2.2.2.2.2.1 _ w_oc) rfl (hl.1.trans o.2.2.1.symm) rfl hd hf (by rw [show 2 * (F0 (xm X) pc ls ((Value.ref b :: st).map (mv ad))).monitorRoom = 0 from rfl, sum_cat]; omega) (kk o ad H locs ls h hl)
/-- rows of references: kinds 14, 15, 16 -/
theorem V_newq {n kd len t0 idx : Nat} {i : Int32} {C : String} (hkd : (kd = 14 ∧ C = "BoneSteps$Bone" ∧ t0 = 3) ∨ (kd = 15 ∧ C = "BoneSteps$Clip" ∧ t0 = 4) ∨ (kd = 16 ∧ C = "BoneSteps$Sheet" ∧ t0 = 5)) (hw : Cond.classLink M.1 idx C ∈ tb) (hi : i = nI len) (hlen : len ≤ 40000) (hfr : Frs w n) (hal : M.2.2.2.2.2.2 = true) (hL : ∀ q ∈ L, nRf n q.2 = true) (hst : ∀ v ∈ st, nRf n v = true) (hd : decode M.2.1 pc = .ok (.anewarray idx, 3)) (hcs : cs.1 + 1 ≤ M.2.2.2.2.1.cells ∧ cs.2 + len ≤ M.2.2.2.2.1.slots)
    (kk : V M X Q (pc + 3) L (.ref n :: st) (nw w n kd len) (cs.1 + 1, cs.2 + len)) : V M X Q pc L (.int i :: st) w cs := by
  subst hi
  refine V_made (st0 := .int (nI len) :: st) hfr hal hL hst (fun o ad H locs ls h go => ?_) kk
  have hy := o.2.2.2.2.2.2.2.1
  have hover : va_AO C (xs X) := by
    rcases hkd with ⟨-, rfl, -⟩ | ⟨-, rfl, -⟩ | ⟨-, rfl, -⟩
    · exact hy.2.2.1
    · exact hy.2.2.2.1
    · exact hy.2.2.2.2.1
  have hcyk : (xs X).vm.findClass ("[" ++ (FieldType.object C).toString) = some (xcy X t0) := by
    rcases hkd with ⟨-, rfl, rfl⟩ | ⟨-, rfl, rfl⟩ | ⟨-, rfl, rfl⟩
    · obtain ⟨-, -, -, -, -, z⟩ := (hy.1.2 3 (xcy X 3, .object "BoneSteps$Bone") rfl).2
      exact z
    · obtain ⟨-, -, -, -, -, z⟩ := (hy.1.2 4 (xcy X 4, .object "BoneSteps$Clip") rfl).2
      exact z
    · obtain ⟨-, -, -, -, -, z⟩ := (hy.1.2 5 (xcy X 5, .object "BoneSteps$Sheet") rfl).2
      exact z
  have hNn : (nI len).toNatClampNeg = len := nI_clamp (by omega)
  refine W.anew o.1 o.2.1 o.2.2.2.2.1 (o.2.2.2.2.2.1 _ hw) (va_AO.use hover) rfl hd rfl (nI_pos (by omega)) (by rw [hNn]; omega) hcs.1 (by rw [hNn]; exact hcs.2) fun cA kA comp f1 f2 f3 f4 => ?_
  rw [hNn]
  obtain rfl : cA = xcy X t0 := Option.some.inj (f1.symm.trans hcyk)
  generalize hH1 : H.push ({ cls := xcy X t0, slots := Array.replicate len .null, vm := .none } : Cell) = H1
  have z1 : H1.size = H.size + 1 := by rw [← hH1, Array.size_push]
  have e1 : H1[H.size]? = some (arrV (xcy X t0) len (fun _ => .null)) := by rw [← hH1, Array.getElem?_push_size, ← arrV_new]
  have o1 : ∀ q : Nat, q < H.size → H1[q]? = H[q]? := fun q hq => by rw [← hH1, Array.getElem?_push, if_neg (Nat.ne_of_lt hq)]
  have hk : ∀ (k : Nat) (x : Nat × va_E), (pl (xcy X) ad w)[k]? = some x → H1[x.1]? = H[x.1]? := fun k x hx => o1 x.1 ((h.2.1 k x hx).lt)
  refine go H.size H1 (.inl (xcy X t0, len, .inr (.inr (.inr (.inr (fun _ => none)))))) ?_ ((h.2.1.kept hk).app (fun k x hx => ?_)) (h.2.2.1.push h.2.1 rfl (Or.inr h.2.2.2.1.1)) ⟨Nat.le_trans h.2.2.2.1.1 (by omega), fun x h1 h2 => (o1 x (Nat.lt_of_lt_of_le h1 h.2.2.2.1.1)).trans (h.2.2.2.1.2.1 x h1 h2), h.2.2.2.1.2.2⟩
  · have hw4 : wK (nw w n kd len) n = kd := va_up_self _ _ _
    have hw3 : wN (nw w n kd len) n = len := va_up_self _ _ _
    have hw5 : wR (nw w n kd len) n = fun _ => none := va_up_self _ _ _
    rcases hkd with ⟨rfl, -, rfl⟩ | ⟨rfl, -, rfl⟩ | ⟨rfl, -, rfl⟩
    · simp only [en, hw4, hw3, hw5]; rfl
    · simp only [en, hw4, hw3, hw5]; rfl
    · simp only [en, hw4, hw3, hw5]; rfl
  · have hz : k < 1 := (List.getElem?_eq_some_iff.mp hx).1
    rw [show k = 0 by omega] at hx
    cases hx
    show H1[H.size]? = some (vp_cell _ _)
    rw [vp_cell_q]
    exact e1
/-- constructors -/
theorem V_invI {y : MethodName} {M' : Mi} {idx n b : Nat} {As st0 : List Value} {Pre : List Value → Wd → Prop} {Post : List Value → Wd → Option Value → Wd → Prop} (hC : ∀ l, Ct l y M' Pre Post) (hb : LkB y M' n) (hl1 : .methodLink M.1 idx y ∈ tb) (hl2 : .instanceMethod y ∈ tb) (hy : y.name = "<init>") (hret : M'.2.2.2.1 = none) (hR : Rm M M') (hd : decode M.2.1 pc = .ok (.invokespecial idx, 3)) (hn : As.length = n) (hst : st0 = As.reverse ++ .ref b :: st) (hsz : (st.map fun v => v.category).sum ≤ 8) (hcs : cs.1 + M'.2.2.2.2.1.cells ≤ M.2.2.2.2.1.cells ∧ cs.2 + M'.2.2.2.2.1.slots ≤ M.2.2.2.2.1.slots)
    (hal : M'.2.2.2.2.2.2 = false ∨ (M.2.2.2.2.2.2 = true ∧ (∀ q ∈ L, refIn w q.2) ∧ ∀ v ∈ st, refIn w v)) (hp : Pre (.ref b :: As) w) (kk : ∀ r w', Post (.ref b :: As) w r w' → V M X Q (pc + 3) L (r.toList ++ st) w' (cs.1 + M'.2.2.2.2.1.cells, cs.2 + M'.2.2.2.2.1.slots)) : V M X Q pc L st0 w cs := by
  refine V_after (a := (As.map (mv (fun _ => 0))).toArray) (P' := Post (.ref b :: As) w) (fun o ad H locs ls h hl => ?_) hal kk
  have hG := tb_good hb.2.1
  have cb := callB_of (R := M.2.2.2.2.1) (s := xs X) (args := xargs X) (own := M.1) (index := idx) (y := y) (bytes := M'.2.1) (maxL := M'.2.2.1) (ret := M'.2.2.2.1) (rm := M'.2.2.2.2.1) n o.2.2.2.2.2.1 hG rfl rfl rfl (o.2.2.2.2.2.1 _ hb.1) (o.2.2.2.2.2.1 _ hl1) hb.2.2 hR
  have hM := hC X.2.1 (xD X) (xcy X) ad w H.size (.ref b :: As) hp
  rw [hret] at cb hM
  exact va_runI (b := ad b) (As := As.map (mv ad)) ⟨o.1, o.2.1, o.2.2.1, o.2.2.2.2.1, o.2.2.2.2.2.1⟩ hM ⟨cb, hy, o.2.2.2.2.2.1 _ hl2⟩ ⟨Pre0.blind, fun U hU hW => ⟨rfl, Pre_of o h hU hW⟩⟩ rfl (by rw [List.length_map]; exact hn) hl.1 (by show st0.map (mv ad) = _; rw [hst, List.map_append, List.map_reverse]; rfl) (by rw [show 2 * (F0 (xm X) pc ls (st0.map (mv ad))).monitorRoom = 0 from rfl, sum_cat]; omega) hd hcs
theorem V_invIN {y : MethodName} {M' : Mi} {idx n b : Nat} {host : String} {As st0 : List Value} {Pre : List Value → Wd → Prop} {Post : List Value → Wd → Option Value → Wd → Prop} (hC : ∀ l, Ct l y M' Pre Post) (hb : LkB y M' n) (hl1 : (M.1, idx, y, host) ∈ nwL) (hl2 : .instanceMethod y ∈ tb) (hy : y.name = "<init>") (hret : M'.2.2.2.1 = none) (hR : Rm M M') (hd : decode M.2.1 pc = .ok (.invokespecial idx, 3)) (hn : As.length = n) (hst : st0 = As.reverse ++ .ref b :: st) (hsz : (st.map fun v => v.category).sum ≤ 8) (hcs : cs.1 + M'.2.2.2.2.1.cells ≤ M.2.2.2.2.1.cells ∧ cs.2 + M'.2.2.2.2.1.slots ≤ M.2.2.2.2.1.slots)
    (hal : M'.2.2.2.2.2.2 = false ∨ (M.2.2.2.2.2.2 = true ∧ (∀ q ∈ L, refIn w q.2) ∧ ∀ v ∈ st, refIn w v)) (hp : Pre (.ref b :: As) w) (kk : ∀ r w', Post (.ref b :: As) w r w' → V M X Q (pc + 3) L (r.toList ++ st) w' (cs.1 + M'.2.2.2.2.1.cells, cs.2 + M'.2.2.2.2.1.slots)) : V M X Q pc L st0 w cs := by
  refine V_after (a := (As.map (mv (fun _ => 0))).toArray) (P' := Post (.ref b :: As) w) (fun o ad H locs ls h hl => ?_) hal kk
  have hG := tb_good hb.2.1
  have cb := va_cnB (R := M.2.2.2.2.1) (s := xs X) (args := xargs X) (own := M.1) (host := host) (index := idx) (y := y) (bytes := M'.2.1) (maxL := M'.2.2.1) (ret := M'.2.2.2.1) (rm := M'.2.2.2.2.1) n o.2.2.2.2.2.1 hG rfl rfl rfl (o.2.2.2.2.2.2.2.1.2.1 _ hl1) (o.2.2.2.2.2.1 _ hb.1) hb.2.2 hR
  have hM := hC X.2.1 (xD X) (xcy X) ad w H.size (.ref b :: As) hp
  rw [hret] at cb hM
  exact va_runIN (b := ad b) (As := As.map (mv ad)) ⟨o.1, o.2.1, o.2.2.1, o.2.2.2.2.1, o.2.2.2.2.2.1⟩ hM ⟨cb, hy, o.2.2.2.2.2.1 _ hl2⟩ ⟨Pre0.blind, fun U hU hW => ⟨rfl, Pre_of o h hU hW⟩⟩ rfl (by rw [List.length_map]; exact hn) hl.1 (by show st0.map (mv ad) = _; rw [hst, List.map_append, List.map_reverse]; rfl) (by rw [show 2 * (F0 (xm X) pc ls (st0.map (mv ad))).monitorRoom = 0 from rfl, sum_cat]; omega) hd hcs
variable {y : MethodName} {M' : Mi} {idx n b : Nat} {As st0 : List Value} {P : Option Value → Wd → Prop}
def Alr (M M' : Mi) (L : List (Nat × Value)) (st : List Value) (w : Wd) : Prop := M'.2.2.2.2.2.2 = false ∨ (M.2.2.2.2.2.2 = true ∧ (∀ q ∈ L, refIn w q.2) ∧ ∀ v ∈ st, refIn w v)
theorem V_cI (hC : Cc y M' (.ref b :: As) w P) (hk : LkI M.1 idx y M' n) (hy : y.name = "<init>") (hret : M'.2.2.2.1 = none) (hR : Rm M M') (hd : decode M.2.1 pc = .ok (.invokespecial idx, 3)) (hn : As.length = n) (hst : st0 = As.reverse ++ .ref b :: st) (hsz : (st.map fun v => v.category).sum ≤ 8) (hcs : cs.1 + M'.2.2.2.2.1.cells ≤ M.2.2.2.2.1.cells ∧ cs.2 + M'.2.2.2.2.1.slots ≤ M.2.2.2.2.1.slots) (hal : Alr M M' L st w) (kk : ∀ r w', P r w' → V M X Q (pc + 3) L (r.toList ++ st) w' (cs.1 + M'.2.2.2.2.1.cells, cs.2 + M'.2.2.2.2.1.slots)) : V M X Q pc L st0 w cs :=
  V_invI hC hk.1 hk.2.1 hk.2.2 hy hret hR hd hn hst hsz hcs hal ⟨rfl, rfl⟩ kk
theorem V_cIN (hC : Cc y M' (.ref b :: As) w P) (hk : LkIN M.1 idx y M' n) (hy : y.name = "<init>") (hret : M'.2.2.2.1 = none) (hR : Rm M M') (hd : decode M.2.1 pc = .ok (.invokespecial idx, 3)) (hn : As.length = n) (hst : st0 = As.reverse ++ .ref b :: st) (hsz : (st.map fun v => v.category).sum ≤ 8) (hcs : cs.1 + M'.2.2.2.2.1.cells ≤ M.2.2.2.2.1.cells ∧ cs.2 + M'.2.2.2.2.1.slots ≤ M.2.2.2.2.1.slots) (hal : Alr M M' L st w) (kk : ∀ r w', P r w' → V M X Q (pc + 3) L (r.toList ++ st) w' (cs.1 + M'.2.2.2.2.1.cells, cs.2 + M'.2.2.2.2.1.slots)) : V M X Q pc L st0 w cs := by
  obtain ⟨hb, ⟨host, hh⟩, hs⟩ := hk
  exact V_invIN hC hb hh hs hy hret hR hd hn hst hsz hcs hal ⟨rfl, rfl⟩ kk
/-- a call of an instance method that may make cells -/
theorem V_cVA {ci : Nat} (hC : Cc y M' (.ref b :: As) w P) (hk : LkV M.1 idx y M' n ci) (hK : wK w b = ci + 1) (hR : Rm M M') (hd : decode M.2.1 pc = .ok (.invokevirtual idx, 3)) (hn : As.length = n) (hst : st0 = As.reverse ++ .ref b :: st) (hsz : (st.map fun v => v.category).sum ≤ 8) (hcs : cs.1 + M'.2.2.2.2.1.cells ≤ M.2.2.2.2.1.cells ∧ cs.2 + M'.2.2.2.2.1.slots ≤ M.2.2.2.2.1.slots) (hal : Alr M M' L st w) (kk : ∀ r w', P r w' → V M X Q (pc + 3) L (r.toList ++ st) w' (cs.1 + M'.2.2.2.2.1.cells, cs.2 + M'.2.2.2.2.1.slots)) : V M X Q pc L st0 w cs := by
  obtain ⟨hb, h1, h2, h3, ⟨r0, h4, h5⟩, h6⟩ := hk
  exact V_invV hC hb h1 h2 h3 h4 h5 h6 hK hR hd hn hst hsz hcs hal ⟨rfl, rfl⟩ kk
/-- thirty rows of ten ints: the row of rows n, the rows m, m + 1 .. -/
def mnW (w : Wd) (n m : Nat) : Wd := (fun a => if a = n then 17 else if m ≤ a ∧ a < m + 30 then 11 else wK w a, fun a => if a = n then 30 else if m ≤ a ∧ a < m + 30 then 10 else wN w a, fun a => if a = n ∨ (m ≤ a ∧ a < m + 30) then (fun _ => 0) else wI w a, fun a => if a = n ∨ (m ≤ a ∧ a < m + 30) then (fun _ => 0) else wJ w a, fun a => if a = n then (fun i => if i < 30 then some (m + i) else none) else if m ≤ a ∧ a < m + 30 then (fun _ => none) else wR w a, (wL w ++ [n]) ++ (List.range 30).map (fun i => m + i))
abbrev mnN (n m a : Nat) : Prop := a = n ∨ (m ≤ a ∧ a < m + 30)
def mnA (ad : Nat → Nat) (n m q : Nat) (r : Nat → Nat) : Nat → Nat := fun a => if a = n then q else if m ≤ a ∧ a < m + 30 then r (a - m) else ad a
theorem V_mna {m : Nat} (hcl : .classLink M.1 idx "[[I" ∈ tb) (hfr : ∀ a, mnN n m a → Frs w a) (hnm : ¬ (m ≤ n ∧ n < m + 30)) (hal : M.2.2.2.2.2.2 = true) (hL : ∀ q ∈ L, ∀ a, mnN n m a → q.2 ≠ .ref a) (hst : ∀ v ∈ st, ∀ a, mnN n m a → v ≠ .ref a) (hd : decode M.2.1 pc = .ok (.multianewarray idx 2, 4)) (hcs : cs.1 + 31 ≤ M.2.2.2.2.1.cells ∧ cs.2 + 330 ≤ M.2.2.2.2.1.slots)
    (kk : V M X Q (pc + 4) L (.ref n :: st) (mnW w n m) (cs.1 + 31, cs.2 + 330)) : V M X Q pc L (.int 10 :: .int 30 :: st) w cs := fun o ad H locs ls h hl => by
  have hy := o.2.2.2.2.2.2.2.1
  have hcy : (xs X).vm.findClass (FieldType.array .int).toString = some (xcy X 0) := (hy.1.2 0 (xcy X 0, .int) rfl).2
  refine va_mna (X := pl (xcy X) ad w) (L := []) (f := fun _ => .inl (xcy X 0, 0, .inl (fun _ => 0))) (N' := 30) (K' := 10) (z := (10, .inl (fun _ => 0))) (ty := .int) (D := xD X) (cl := vwCl) (A := xA X) (H0 := (xs X).heap) o.1 o.2.1 o.2.2.2.2.1 (o.2.2.2.2.2.1 _ hcl) hy.2.2.2.2.2 (o.2.2.2.2.2.1 _ ac_int) hcy hy.1 (by rw [show va_pl [] _ = [] from rfl, List.append_nil]; exact h.2.1) (by rw [show va_pl [] _ = [] from rfl, List.append_nil]; exact h.2.2.1) h.2.2.2.1 (fun q hq => Or.inr hq) (by decide) (by decide) (by decide) (by decide) (by decide) (by decide) (by decide) (by decide) (by decide) hcs.1 hcs.2 (fun c => ?_) hd (fun q r cA H1 hinj _ hK1 hP hD hS => ?_)
  · exact (arrV_new c 10 _)
  obtain rfl : cA = xcy X 6 := by
    have h1 := (hK1.2 7 (cA, .array .int) rfl).2
    have h2 := (hy.1.2 6 (xcy X 6, .array .int) rfl).2
    exact Option.some.inj (h1.symm.trans h2)
  have hrows : pl (xcy X) (mnA ad n m q r) (mnW w n m) = (pl (xcy X) ad w ++ [(q, .inl (xcy X 6, 30, .inr (.inr (.inr (.inr (fun i => if i < 30 then some (r i) else none))))))]) ++ va_pl ([] ++ (List.range 30).map r) (vr_up (fun _ => .inl (xcy X 0, 0, .inl (fun _ => 0))) ((List.range 30).map r) (.inl (xcy X 0, 10, .inl (fun _ => 0)))) := by
    unfold pl
    show ((wL w ++ [n]) ++ (List.range 30).map (fun i => m + i)).map _ = _
    rw [List.map_append, List.map_append]
    congr 1
    · congr 1
      · apply List.map_congr_left
        intro a ha
        have hna : ¬ mnN n m a := fun z => (hfr a z).1 ha
        have e1 : a ≠ n := fun z => hna (Or.inl z)
        have e2 : ¬ (m ≤ a ∧ a < m + 30) := fun z => hna (Or.inr z)
        have e3 : mnA ad n m q r a = ad a := by unfold mnA; rw [if_neg e1, if_neg e2]
        rw [e3]
        congr 1
        refine (en_congr (w := w) (w' := mnW w n m) (m := a) ?_ ?_ ?_ ?_ ?_).trans (en_map (fun j => ?_))
        · show (if a = n then 17 else _) = _; rw [if_neg e1, if_neg e2]
        · show (if a = n then 30 else _) = _; rw [if_neg e1, if_neg e2]
        · show (if mnN n m a then _ else _) = _; rw [if_neg hna]
        · show (if mnN n m a then _ else _) = _; rw [if_neg hna]
        · show (if a = n then _ else _) = _; rw [if_neg e1, if_neg e2]
        · cases hr : wR w a j with
          | none => rfl
          | some c =>
            show some (mnA ad n m q r c) = some (ad c)
            have hnc : ¬ mnN n m c := fun z => (hfr c z).2.1 a j hr
            unfold mnA
            rw [if_neg (fun z => hnc (Or.inl z)), if_neg (fun z => hnc (Or.inr z))]
      · show [(mnA ad n m q r n, _)] = _
        have e1 : mnA ad n m q r n = q := if_pos rfl
        rw [e1]
        congr 2
        have hw4 : wK (mnW w n m) n = 17 := if_pos rfl
        have hw3 : wN (mnW w n m) n = 30 := if_pos rfl
        have hw5 : wR (mnW w n m) n = fun i => if i < 30 then some (m + i) else none := if_pos rfl
        simp only [en, hw4, hw3, hw5]
        congr 7
        funext i
        by_cases c : i < 30
        · rw [if_pos c, if_pos c]
          show some (mnA ad n m q r (m + i)) = some (r i)
          unfold mnA
          rw [if_neg (by omega), if_pos (by omega), show m + i - m = i by omega]
        · rw [if_neg c, if_neg c]; rfl
    · unfold va_pl
      rw [List.nil_append, List.map_map, List.map_map]
      apply List.map_congr_left
      intro i hi
      rw [List.mem_range] at hi
      have e1 : mnA ad n m q r (m + i) = r i := by
        unfold mnA
        rw [if_neg (by omega), if_pos (by omega), show m + i - m = i by omega]
      show (mnA ad n m q r (m + i), en (xcy X) (mnA ad n m q r) (mnW w n m) (m + i)) = (r i, vr_up _ _ _ (r i))
      rw [e1, vr_up_in (List.mem_map.mpr ⟨i, List.mem_range.mpr hi, rfl⟩)]
      have hw4 : wK (mnW w n m) (m + i) = 11 := by show (if m + i = n then 17 else if m ≤ m + i ∧ m + i < m + 30 then 11 else _) = 11; rw [if_neg (by omega), if_pos (by omega)]
      have hw3 : wN (mnW w n m) (m + i) = 10 := by show (if m + i = n then 30 else if m ≤ m + i ∧ m + i < m + 30 then 10 else _) = 10; rw [if_neg (by omega), if_pos (by omega)]
      have hw5 : wI (mnW w n m) (m + i) = fun _ => 0 := if_pos (Or.inr (by omega))
      simp only [en, hw4, hw3, hw5]
  have hext : ∀ a, ¬ mnN n m a → mnA ad n m q r a = ad a := fun a ha => by
    unfold mnA
    rw [if_neg (fun z => ha (Or.inl z)), if_neg (fun z => ha (Or.inr z))]
  have hmv : ∀ v : Value, (∀ a, mnN n m a → v ≠ .ref a) → mv (mnA ad n m q r) v = mv ad v := fun v hv => by
    cases v with
    | ref c => show Value.ref (mnA ad n m q r c) = .ref (ad c); rw [hext c (fun z => hv c z rfl)]
    | _ => rfl
  have hd' : Hd M X (mnA ad n m q r) (mnW w n m) H1 locs := by
    refine ⟨⟨?_, fun a ha => ?_, fun a ha => ?_⟩, hrows ▸ hP, hrows ▸ hD, hS, ⟨fun a ha => ?_, fun a ha => List.mem_append_left _ (List.mem_append_left _ (h.2.2.2.2.1.2 a ha))⟩, Or.inl hal⟩
    · show ((wL w ++ [n]) ++ (List.range 30).map (fun i => m + i)).Nodup
      rw [List.nodup_append, List.nodup_append]
      refine ⟨⟨h.1.1, by simp, fun a ha b hb => ?_⟩, ?_, fun a ha b hb => ?_⟩
      · rw [List.mem_singleton] at hb
        rintro rfl
        exact (hfr a (Or.inl hb)).1 ha
      · exact List.Pairwise.map _ (fun a b hab => fun z => hab (by omega)) List.nodup_range
      · obtain ⟨i, hi, rfl⟩ := List.mem_map.mp hb
        rw [List.mem_range] at hi
        rintro rfl
        rcases List.mem_append.mp ha with z | z
        · exact (hfr (m + i) (Or.inr (by omega))).1 z
        · rw [List.mem_singleton] at z
          omega
    · show a ∈ (wL w ++ [n]) ++ (List.range 30).map (fun i => m + i)
      by_cases c : mnN n m a
      · rcases c with c | c
        · rw [c]; simp
        · exact List.mem_append_right _ (List.mem_map.mpr ⟨a - m, List.mem_range.mpr (by omega), by omega⟩)
      · refine List.mem_append_left _ (List.mem_append_left _ (h.1.2.1 a ?_))
        have e : wK (mnW w n m) a = wK w a := by show (if a = n then 17 else if m ≤ a ∧ a < m + 30 then 11 else _) = _; rw [if_neg (fun z => c (Or.inl z)), if_neg (fun z => c (Or.inr z))]
        rw [← e]; exact ha
    · rcases List.mem_append.mp (show a ∈ (wL w ++ [n]) ++ (List.range 30).map (fun i => m + i) from ha) with z | z
      · rcases List.mem_append.mp z with z | z
        · exact h.1.2.2 a z
        · rw [List.mem_singleton] at z
          rw [z]; exact (hfr n (Or.inl rfl)).2.2
      · obtain ⟨i, hi, rfl⟩ := List.mem_map.mp z
        rw [List.mem_range] at hi
        exact (hfr (m + i) (Or.inr (by omega))).2.2
    · rw [hext a (fun z => ?_)]
      · exact h.2.2.2.2.1.1 a ha
      · have hf := hfr a z
        rcases ha with c | c | c
        · exact hf.1 (h.2.2.2.2.1.2 a c)
        · exact hf.2.2.1 c
        · exact hf.2.2.2 c
  have key := kk o (mnA ad n m q r) H1 locs ls hd' (by
    have : mL (mnA ad n m q r) L = mL ad L := List.map_congr_left fun p hp => by rw [hmv p.2 (hL p hp)]
    rw [this]; exact hl)
  have e9 : (Value.ref n :: st).map (mv (mnA ad n m q r)) = .ref q :: st.map (mv ad) := by
    rw [List.map_cons]
    congr 1
    · show Value.ref (mnA ad n m q r n) = _; unfold mnA; rw [if_pos rfl]
    · exact List.map_congr_left fun v hv => hmv v (hst v hv)
  rw [e9] at key
  exact key
end
