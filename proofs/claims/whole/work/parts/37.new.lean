/-! NEW CELLS -/
def nw (w : Wd) (n kd len : Nat) : Wd := (va_up (wK w) n kd, va_up (wN w) n len, va_up (wI w) n (fun _ => 0), va_up (wJ w) n (fun _ => 0), va_up (wR w) n (fun _ => none), wL w ++ [n])
/-- a name that nothing has and nothing holds -/
def Frs (w : Wd) (n : Nat) : Prop := n ∉ wL w ∧ (∀ a k, wR w a k ≠ some n) ∧ n ≠ 9 ∧ n ≠ 8
theorem map_nw {w : Wd} {n q : Nat} {ad : Nat → Nat} (hf : Frs w n) (a j : Nat) : (wR w a j).map (va_up ad n q) = (wR w a j).map ad := by
  cases h : wR w a j with
  | none => rfl
  | some b =>
    show some (va_up ad n q b) = some (ad b)
    rw [va_up_ne _ _ (fun e => hf.2.1 a j (by rw [h, e]))]
theorem en_map {cy : Nat → ClassId} {ad ad' : Nat → Nat} {w : Wd} {m : Nat} (h : ∀ j, (wR w m j).map ad' = (wR w m j).map ad) : en cy ad' w m = en cy ad w m := by
  have h2 : (fun j => (wR w m j).map ad') = fun j => (wR w m j).map ad := funext h
  have h3 : ∀ ci, fl ci ad' w m = fl ci ad w m := fun ci => by
    unfold fl
    apply List.map_congr_left
    intro k _
    unfold fv
    rw [h k]
  unfold en
  simp only [h2, h3]
theorem en_nw {cy : Nat → ClassId} {ad : Nat → Nat} {w : Wd} {n kd len q m : Nat} (hf : Frs w n) (hm : m ≠ n) : en cy (va_up ad n q) (nw w n kd len) m = en cy ad w m :=
  (en_congr (w := w) (w' := nw w n kd len) (m := m) (va_up_ne _ _ hm) (va_up_ne _ _ hm) (va_up_ne _ _ hm) (va_up_ne _ _ hm) (va_up_ne _ _ hm)).trans (en_map (map_nw hf m))
theorem pl_nw {cy : Nat → ClassId} {ad : Nat → Nat} {w : Wd} {n kd len q : Nat} (hf : Frs w n) : pl cy (va_up ad n q) (nw w n kd len) = pl cy ad w ++ [(q, en cy (va_up ad n q) (nw w n kd len) n)] := by
  unfold pl
  show (wL w ++ [n]).map _ = _
  rw [List.map_append]
  congr 1
  · apply List.map_congr_left
    intro m hm
    have hne : m ≠ n := fun e => hf.1 (e ▸ hm)
    rw [en_nw hf hne, va_up_ne _ _ hne]
  · show [(va_up ad n q n, _)] = _
    rw [va_up_self]
theorem Wok_nw {w : Wd} {n kd len : Nat} (h : Wok w) (hf : Frs w n) : Wok (nw w n kd len) := by
  refine ⟨?_, fun m hm => ?_, fun m hm => ?_⟩
  · show (wL w ++ [n]).Nodup
    rw [List.nodup_append]
    exact ⟨h.1, by simp, fun a ha b hb => by rw [List.mem_singleton] at hb; rintro rfl; exact hf.1 (hb ▸ ha)⟩
  · show m ∈ wL w ++ [n]
    by_cases e : m = n
    · rw [e]; simp
    · refine List.mem_append_left _ (h.2.1 m ?_)
      have : wK (nw w n kd len) m = wK w m := va_up_ne _ _ e
      rw [← this]; exact hm
  · rcases List.mem_append.mp (show m ∈ wL w ++ [n] from hm) with q | q
    · exact h.2.2 m q
    · rw [List.mem_singleton] at q
      rw [q]; exact hf.2.2
theorem mv_nw {ad : Nat → Nat} {n q : Nat} {v : Value} (h : v ≠ .ref n) : mv (va_up ad n q) v = mv ad v := by
  cases v with
  | ref m => show Value.ref (va_up ad n q m) = .ref (ad m); rw [va_up_ne _ _ (fun e => h (by rw [e]))]
  | _ => rfl
def nRf (n : Nat) (v : Value) : Bool := match v with
  | .ref m => m != n
  | _ => true
theorem nRf_ne {n : Nat} {v : Value} (h : nRf n v = true) : v ≠ .ref n := fun e => by
  subst e
  unfold nRf at h
  simp at h
section
variable {M : Mi} {X : Cx} {Q : State → Prop} {pc : Nat} {L : List (Nat × Value)} {st : List Value} {w : Wd} {cs : Nat × Nat}
theorem V_made {n kd len dc ds l : Nat} {st0 : List Value} (hfr : Frs w n) (hal : M.2.2.2.2.2.2 = true) (hL : ∀ q ∈ L, nRf n q.2 = true) (hst : ∀ v ∈ st, nRf n v = true)
    (run : Ok M X → ∀ (ad : Nat → Nat) (H : Heap) (locs : List Loc) (ls : Array Slot), Hd M X ad w H locs →
      (∀ (q : Nat) (H1 : Heap) (E : va_E), E = en (xcy X) (va_up ad n q) (nw w n kd len) n → va_P (xD X) vwCl (pl (xcy X) ad w ++ [(q, E)]) H1 → va_D (xA X) (pl (xcy X) ad w ++ [(q, E)]) → va_S (xA X) (xs X).heap H1 locs → WX M X H1 locs (cs.1 + dc, cs.2 + ds) Q (F0 (xm X) (pc + l) ls (.ref q :: st.map (mv ad)))) → WX M X H locs cs Q (F0 (xm X) pc ls (st0.map (mv ad))))
    (kk : V M X Q (pc + l) L (.ref n :: st) (nw w n kd len) (cs.1 + dc, cs.2 + ds)) : V M X Q pc L st0 w cs := fun o ad H locs ls h hl => by
  refine run o ad H locs ls h (fun q H1 E e hP hD hS => ?_)
  subst e
  have e2 := pl_nw (cy := xcy X) (ad := ad) (kd := kd) (len := len) (q := q) hfr
  have hext : ∀ m, m ≠ n → va_up ad n q m = ad m := fun m hm => va_up_ne _ _ hm
  have hd : Hd M X (va_up ad n q) (nw w n kd len) H1 locs := by
    refine ⟨Wok_nw h.1 hfr, e2 ▸ hP, e2 ▸ hD, hS, ⟨fun m hm => ?_, fun m hm => List.mem_append_left _ (h.2.2.2.2.1.2 m hm)⟩, Or.inl hal⟩
    rw [hext m (fun e => ?_)]
    · exact h.2.2.2.2.1.1 m hm
    · subst e
      rcases hm with z | z | z
      · exact hfr.1 (h.2.2.2.2.1.2 m z)
      · exact hfr.2.2.1 z
      · exact hfr.2.2.2 z
  have key := kk o (va_up ad n q) H1 locs ls hd (by
    have : mL (va_up ad n q) L = mL ad L := List.map_congr_left fun p hp => by rw [mv_nw (nRf_ne (hL p hp))]
    rw [this]; exact hl)
  have : (Value.ref n :: st).map (mv (va_up ad n q)) = .ref q :: st.map (mv ad) := by
    rw [List.map_cons]
    congr 1
    · show Value.ref (va_up ad n q n) = _; rw [va_up_self]
    · exact List.map_congr_left fun v hv => mv_nw (nRf_ne (hst v hv))
  rw [this] at key
  exact key
def dfV (tag : Nat) : Value := if tag = 0 then .int 0 else if tag = 1 then .long 0 else .null
/-- the words for new objects of a class -/
def NL (own : String) (idx ci N : Nat) : Prop := ci < 9 ∧ (fts ci).length = N ∧ ∃ (C : String) (T : u_T) (ty : Nat → FieldType), vwCl[ci]? = some (C, T, N) ∧ (∀ w ∈ u_ws C T N, w ∈ tb) ∧ (∀ k, k < N → parseFieldDescriptor (T k).2.2.1 = some (ty k)) ∧ Cond.classLink own idx C ∈ tb ∧ Cond.instantiable C N ∈ tb ∧ Cond.initialized C ∈ tb ∧ ∀ k, k < N → defaultValue (ty k) = dfV ((fts ci).getD k 0)
theorem V_new {n idx ci N : Nat} (hn : NL M.1 idx ci N) (hfr : Frs w n) (hal : M.2.2.2.2.2.2 = true) (hL : ∀ q ∈ L, nRf n q.2 = true) (hst : ∀ v ∈ st, nRf n v = true) (hd : decode M.2.1 pc = .ok (.new idx, 3)) (hcs : cs.1 + 1 ≤ M.2.2.2.2.1.cells ∧ cs.2 + N ≤ M.2.2.2.2.1.slots)
    (kk : V M X Q (pc + 3) L (.ref n :: st) (nw w n (ci + 1) 0) (cs.1 + 1, cs.2 + N)) : V M X Q pc L st w cs := by
  obtain ⟨hc, hlen, C, T, ty, h1, h2, h3, h4, h5, h6, h7⟩ := hn
  refine V_made (st0 := st) hfr hal hL hst (fun o ad H locs ls h go => ?_) kk
  refine va_new (D := xD X) (cl := vwCl) (ws := pl (xcy X) ad w) (A := xA X) (H0 := (xs X).heap) (fs := fl ci (fun _ => 0) (nw w n (ci + 1) 0) n) o.1 o.2.1 (fun w hw => o.2.2.2.2.2.1 w hw) h2 ty h3 o.2.2.2.2.1 (o.2.2.2.2.2.1 _ h4) (o.2.2.2.2.2.1 _ h5) (o.2.2.2.2.2.1 _ h6) o.2.2.2.2.2.2.2.1.1 h.2.1 h.2.2.1 h.2.2.2.1 (fun q hq => Or.inr hq) h1 (fun j hj => ?_) hcs.1 hcs.2 hd (fun q H1 hP hD hS => go q H1 _ ?_ hP hD hS)
  · obtain ⟨t, ht⟩ : ∃ t, (fts ci)[j]? = some t := ⟨_, List.getElem?_eq_getElem (by omega)⟩
    rw [h7 j hj]
    unfold vp_V
    rw [List.getD_eq_getElem?_getD, List.getD_eq_getElem?_getD, fl_at ht, ht]
    show dfV t = fv t (fun _ => 0) (nw w n (ci + 1) 0) n j
    unfold dfV fv
    rw [show wI (nw w n (ci + 1) 0) n j = 0 from congrFun (va_up_self _ _ _) j, show wJ (nw w n (ci + 1) 0) n j = 0 from congrFun (va_up_self _ _ _) j, show wR (nw w n (ci + 1) 0) n j = none from congrFun (va_up_self _ _ _) j]
    rfl
  · rw [en_o (show wK (nw w n (ci + 1) 0) n = ci + 1 from va_up_self _ _ _) hc]
    congr 2
    unfold fl
    apply List.map_congr_left
    intro k _
    unfold fv
    rw [show wR (nw w n (ci + 1) 0) n k = none from congrFun (va_up_self _ _ _) k]
    rfl
/-- rows of numbers: kinds 11, 12, 13 -/
def aTy (kd : Nat) : ArrayType := if kd = 11 then .int else if kd = 12 then .long else .boolean
theorem V_newa {n kd len : Nat} {i : Int32} {at0 : ArrayType} {ty : FieldType} (hkd : (kd = 11 ∧ at0 = .int ∧ ty = .int) ∨ (kd = 12 ∧ at0 = .long ∧ ty = .long) ∨ (kd = 13 ∧ at0 = .boolean ∧ ty = .boolean)) (hw : Cond.arrayClass ty ∈ tb) (hi : i = nI len) (hlen : len ≤ 40000) (hfr : Frs w n) (hal : M.2.2.2.2.2.2 = true) (hL : ∀ q ∈ L, nRf n q.2 = true) (hst : ∀ v ∈ st, nRf n v = true) (hd : decode M.2.1 pc = .ok (.newarray at0, 2)) (hcs : cs.1 + 1 ≤ M.2.2.2.2.1.cells ∧ cs.2 + len ≤ M.2.2.2.2.1.slots)
    (kk : V M X Q (pc + 2) L (.ref n :: st) (nw w n kd len) (cs.1 + 1, cs.2 + len)) : V M X Q pc L (.int i :: st) w cs := by
  subst hi
  refine V_made (st0 := .int (nI len) :: st) hfr hal hL hst (fun o ad H locs ls h go => ?_) kk
  have hK := o.2.2.2.2.2.2.2.1.1
  have hword := o.2.2.2.2.2.1 _ hw
  have hNn : (nI len).toNatClampNeg = len := nI_clamp (by omega)
  have hw1 : ∀ j, wI (nw w n kd len) n j = 0 := fun j => congrFun (va_up_self _ _ _) j
  have hw2 : ∀ j, wJ (nw w n kd len) n j = 0 := fun j => congrFun (va_up_self _ _ _) j
  have hw3 : wN (nw w n kd len) n = len := va_up_self _ _ _
  have hw4 : wK (nw w n kd len) n = kd := va_up_self _ _ _
  have fin : ∀ (a0 : vp_A) (cA cB : ClassId), (∀ q, .inl (cB, a0) = en (xcy X) (va_up ad n q) (nw w n kd len) n) → (∀ c : ClassId, vp_cell c a0 = arrV c len (fun _ => defaultValue ty)) → cA = cB → ∀ H1 : Heap, H1[H.size]? = some (arrV cA len (fun _ => defaultValue ty)) → H1.size = H.size + 1 → (∀ q, q < H.size → H1[q]? = H[q]?) → WX M X H1 locs (cs.1 + 1, cs.2 + len) Q (F0 (xm X) (pc + 2) ls (.ref H.size :: st.map (mv ad))) := by
    intro a0 cA cB e1 e2 e3 H1 g1 g2 g3
    subst e3
    have hk : ∀ (k : Nat) (x : Nat × va_E), (pl (xcy X) ad w)[k]? = some x → H1[x.1]? = H[x.1]? := fun k x hx => g3 x.1 ((h.2.1 k x hx).lt)
    refine go H.size H1 (.inl (cA, a0)) (e1 _) ((h.2.1.kept hk).app (fun k x hx => ?_)) (h.2.2.1.push h.2.1 rfl (Or.inr h.2.2.2.1.1)) ⟨Nat.le_trans h.2.2.2.1.1 (by omega), fun x h1 h2 => (g3 x (Nat.lt_of_lt_of_le h1 h.2.2.2.1.1)).trans (h.2.2.2.1.2.1 x h1 h2), h.2.2.2.1.2.2⟩
    have hz : k < 1 := (List.getElem?_eq_some_iff.mp hx).1
    rw [show k = 0 by omega] at hx
    cases hx
    show H1[H.size]? = some (vp_cell _ _)
    rw [e2]
    exact g1
  rcases hkd with ⟨rfl, rfl, rfl⟩ | ⟨rfl, rfl, rfl⟩ | ⟨rfl, rfl, rfl⟩
  · refine va_newaK (atype := .int) o.1 o.2.1 hword rfl hd rfl (nI_pos (by omega)) hNn (by show len * 4 ≤ _; omega) hcs.1 hcs.2 rfl (fun H1 cA g1 g2 g3 _ g5 => fin (len, .inl (fun _ => 0)) cA (xcy X 0) (fun q => ?_) (fun c => ?_) (Option.some.inj (g5.symm.trans (hK.2 0 (xcy X 0, .int) rfl).2)) H1 g1 g2 g3)
    · simp only [en, hw4, hw3]
      rw [show wI (nw w n 11 len) n = fun _ => 0 from va_up_self _ _ _]
    · rfl
  · refine va_newaK (atype := .long) o.1 o.2.1 hword rfl hd rfl (nI_pos (by omega)) hNn (by show len * 8 ≤ _; omega) hcs.1 hcs.2 rfl (fun H1 cA g1 g2 g3 _ g5 => fin (len, .inr (.inl (fun _ => 0))) cA (xcy X 1) (fun q => ?_) (fun c => ?_) (Option.some.inj (g5.symm.trans (hK.2 1 (xcy X 1, .long) rfl).2)) H1 g1 g2 g3)
    · simp only [en, hw4, hw3]
      rw [show wJ (nw w n 12 len) n = fun _ => 0 from va_up_self _ _ _]
    · rfl
  · refine va_newaK (atype := .boolean) o.1 o.2.1 hword rfl hd rfl (nI_pos (by omega)) hNn (by show len * 1 ≤ _; omega) hcs.1 hcs.2 rfl (fun H1 cA g1 g2 g3 _ g5 => fin (len, .inl (fun _ => 0)) cA (xcy X 2) (fun q => ?_) (fun c => ?_) (Option.some.inj (g5.symm.trans (hK.2 2 (xcy X 2, .boolean) rfl).2)) H1 g1 g2 g3)
    · simp only [en, hw4, hw3]
      rw [show wI (nw w n 13 len) n = fun _ => 0 from va_up_self _ _ _]
    · rfl
end

theorem nlL_7 : NL RL 7 7 6 := ⟨by decide, rfl, RX8, TX8, tyX8, rfl, inX8, tyX8_ok, (tb_at 45 (by decide +kernel) (by decide +kernel) : (Cond.classLink RL 7 RX8) ∈ tb), (tb_at 46 (by decide +kernel) (by decide +kernel) : (Cond.instantiable RX8 6) ∈ tb), (tb_at 32 (by decide +kernel) (by decide +kernel) : (Cond.initialized RX8) ∈ tb), by decide +kernel⟩
theorem nlX8_9 : NL RX8 9 6 5 := ⟨by decide, rfl, RX6, TX6, tyX6, rfl, inX6, tyX6_ok, (tb_at 53 (by decide +kernel) (by decide +kernel) : (Cond.classLink RX8 9 RX6) ∈ tb), (tb_at 54 (by decide +kernel) (by decide +kernel) : (Cond.instantiable RX6 5) ∈ tb), (tb_at 33 (by decide +kernel) (by decide +kernel) : (Cond.initialized RX6) ∈ tb), by decide +kernel⟩
theorem nlX8_16 : NL RX8 16 2 2 := ⟨by decide, rfl, RX2, TX2, tyX2, rfl, inX2, tyX2_ok, (tb_at 84 (by decide +kernel) (by decide +kernel) : (Cond.classLink RX8 16 RX2) ∈ tb), (tb_at 85 (by decide +kernel) (by decide +kernel) : (Cond.instantiable RX2 2) ∈ tb), (tb_at 34 (by decide +kernel) (by decide +kernel) : (Cond.initialized RX2) ∈ tb), by decide +kernel⟩
theorem nlX2_9 : NL RX2 9 1 2 := ⟨by decide, rfl, RX1, TX1, tyX1, rfl, inX1, tyX1_ok, (tb_at 90 (by decide +kernel) (by decide +kernel) : (Cond.classLink RX2 9 RX1) ∈ tb), (tb_at 92 (by decide +kernel) (by decide +kernel) : (Cond.instantiable RX1 2) ∈ tb), (tb_at 35 (by decide +kernel) (by decide +kernel) : (Cond.initialized RX1) ∈ tb), by decide +kernel⟩
theorem nlX8_23 : NL RX8 23 4 2 := ⟨by decide, rfl, RX4, TX4, tyX4, rfl, inX4, tyX4_ok, (tb_at 120 (by decide +kernel) (by decide +kernel) : (Cond.classLink RX8 23 RX4) ∈ tb), (tb_at 121 (by decide +kernel) (by decide +kernel) : (Cond.instantiable RX4 2) ∈ tb), (tb_at 36 (by decide +kernel) (by decide +kernel) : (Cond.initialized RX4) ∈ tb), by decide +kernel⟩
theorem nlX8_30 : NL RX8 30 3 9 := ⟨by decide, rfl, RX3, TX3, tyX3, rfl, inX3, tyX3_ok, (tb_at 135 (by decide +kernel) (by decide +kernel) : (Cond.classLink RX8 30 RX3) ∈ tb), (tb_at 136 (by decide +kernel) (by decide +kernel) : (Cond.instantiable RX3 9) ∈ tb), (tb_at 37 (by decide +kernel) (by decide +kernel) : (Cond.initialized RX3) ∈ tb), by decide +kernel⟩
theorem nlX8_37 : NL RX8 37 5 4 := ⟨by decide, rfl, RX5, TX5, tyX5, rfl, inX5, tyX5_ok, (tb_at 174 (by decide +kernel) (by decide +kernel) : (Cond.classLink RX8 37 RX5) ∈ tb), (tb_at 176 (by decide +kernel) (by decide +kernel) : (Cond.instantiable RX5 4) ∈ tb), (tb_at 38 (by decide +kernel) (by decide +kernel) : (Cond.initialized RX5) ∈ tb), by decide +kernel⟩
theorem nlX8_63 : NL RX8 63 0 14 := ⟨by decide, rfl, RX0, TX0, tyX0, rfl, inX0, tyX0_ok, (tb_at 238 (by decide +kernel) (by decide +kernel) : (Cond.classLink RX8 63 RX0) ∈ tb), (tb_at 239 (by decide +kernel) (by decide +kernel) : (Cond.instantiable RX0 14) ∈ tb), (tb_at 40 (by decide +kernel) (by decide +kernel) : (Cond.initialized RX0) ∈ tb), by decide +kernel⟩
theorem nlL_10 : NL RL 10 8 35 := ⟨by decide, rfl, RX9, TX9, tyX9, rfl, inX9, tyX9_ok, (tb_at 688 (by decide +kernel) (by decide +kernel) : (Cond.classLink RL 10 RX9) ∈ tb), (tb_at 689 (by decide +kernel) (by decide +kernel) : (Cond.instantiable RX9 35) ∈ tb), (tb_at 39 (by decide +kernel) (by decide +kernel) : (Cond.initialized RX9) ∈ tb), by decide +kernel⟩
theorem ac_int : Cond.arrayClass .int ∈ tb := tb_at 111 (by decide +kernel) (by decide +kernel)
theorem ac_long : Cond.arrayClass .long ∈ tb := tb_at 800 (by decide +kernel) (by decide +kernel)
theorem ac_boolean : Cond.arrayClass .boolean ∈ tb := tb_at 173 (by decide +kernel) (by decide +kernel)