/-! rows of V that read and write the world -/
def FL (own : String) (idx ci k tag : Nat) : Prop := ci < 9 ∧ (fts ci)[k]? = some tag ∧ ∃ (C : String) (T : u_T) (N : Nat), vwCl[ci]? = some (C, T, N) ∧ k < N ∧ Cond.fieldLink own idx (T k).1 (T k).2.1 (T k).2.2.1 ∈ tb ∧ ∀ w ∈ u_ws C T N, w ∈ tb
def PF (own : String) (idx ci k tag : Nat) (ty : FieldType) (fin : Bool) : Prop := ci < 9 ∧ (fts ci)[k]? = some tag ∧ ∃ (C : String) (T : u_T) (N : Nat) (ty0 : Nat → FieldType), vwCl[ci]? = some (C, T, N) ∧ k < N ∧ Cond.fieldLink own idx (T k).1 (T k).2.1 (T k).2.2.1 ∈ tb ∧ (∀ w ∈ u_ws C T N, w ∈ tb) ∧ (∀ k, k < N → parseFieldDescriptor (T k).2.2.1 = some (ty0 k)) ∧ (∀ a, a < N → ∀ b, b < N → a ≠ b → (T a).2.1 ≠ (T b).2.1) ∧ (T k).2.2.2 = fin ∧ parseFieldDescriptor (T k).2.2.1 = some ty ∧ (fin = true → (T k).1 = own)
theorem en_congr {cy : Nat → ClassId} {ad : Nat → Nat} {w w' : Wd} {m : Nat} (h1 : wK w' m = wK w m) (h2 : wN w' m = wN w m) (h3 : wI w' m = wI w m) (h4 : wJ w' m = wJ w m) (h5 : wR w' m = wR w m) : en cy ad w' m = en cy ad w m := by
  unfold en fl fv
  rw [h1, h2, h3, h4, h5]
theorem sI_ne (w : Wd) {n k m : Nat} (x : Int32) (h : m ≠ n) : wI (sI w n k x) m = wI w m := funext fun j => up2_nn _ x h
theorem sJ_ne (w : Wd) {n k m : Nat} (x : Int64) (h : m ≠ n) : wJ (sJ w n k x) m = wJ w m := funext fun j => up2_nn _ x h
theorem sR_ne (w : Wd) {n k m : Nat} (x : Option Nat) (h : m ≠ n) : wR (sR w n k x) m = wR w m := funext fun j => up2_nn _ x h
theorem fv_sI {ad : Nat → Nat} {w : Wd} {n k j : Nat} {x : Int32} (t : Nat) (h : j ≠ k) : fv t ad (sI w n k x) n j = fv t ad w n j := by
  unfold fv
  rw [show wI (sI w n k x) n j = wI w n j from up2_ne _ x (fun q => h q.2)]
  rfl
theorem fv_sJ {ad : Nat → Nat} {w : Wd} {n k j : Nat} {x : Int64} (t : Nat) (h : j ≠ k) : fv t ad (sJ w n k x) n j = fv t ad w n j := by
  unfold fv
  rw [show wJ (sJ w n k x) n j = wJ w n j from up2_ne _ x (fun q => h q.2)]
  rfl
theorem fv_sR {ad : Nat → Nat} {w : Wd} {n k j : Nat} {x : Option Nat} (t : Nat) (h : j ≠ k) : fv t ad (sR w n k x) n j = fv t ad w n j := by
  unfold fv
  rw [show wR (sR w n k x) n j = wR w n j from up2_ne _ x (fun q => h q.2)]
  rfl
theorem dom {w : Wd} (h : Wok w) {n k : Nat} (hk : wK w n = k + 1) : n ∈ wL w := h.2.1 n (by omega)
section
variable {M : Mi} {X : Cx} {Q : State → Prop} {pc : Nat} {L : List (Nat × Value)} {st : List Value} {w : Wd} {cs : Nat × Nat}
theorem V_get {n ci k idx tag : Nat} {v : Value} (hK : wK w n = ci + 1) (hf : FL M.1 idx ci k tag) (hd : decode M.2.1 pc = .ok (.getfield idx, 3)) (hv : ∀ ad, fv tag ad w n k = mv ad v) (kk : V M X Q (pc + 3) L (v :: st) w cs) : V M X Q pc L (.ref n :: st) w cs := fun o ad H locs ls h hl => by
  obtain ⟨hc, ht, C, T, N, h1, h2, h3, h4⟩ := hf
  obtain ⟨q0, -, hq⟩ := pl_get (cy := xcy X) (ad := ad) (dom h.1 hK)
  rw [en_o hK hc] at hq
  exact va_get (D := xD X) (ci := ci) (C := C) (T := T) (N := N) o.1 o.2.1 (fun w hw => o.2.2.2.2.2.1 w hw) h4 o.2.2.2.2.1 o.2.2.2.2.2.2.2.1.1 h.2.1 q0 hq h1 k h2 (o.2.2.2.2.2.1 _ h3) (fun _ h9 => h9) ((fl_at ht).trans (congrArg some (hv ad))) hd (kk o ad H locs ls h hl)
theorem V_geti {n ci k idx : Nat} (hK : wK w n = ci + 1) (hf : FL M.1 idx ci k 0) (hd : decode M.2.1 pc = .ok (.getfield idx, 3)) (kk : V M X Q (pc + 3) L (.int (wI w n k) :: st) w cs) : V M X Q pc L (.ref n :: st) w cs := V_get hK hf hd (fun _ => rfl) kk
theorem V_getl {n ci k idx : Nat} (hK : wK w n = ci + 1) (hf : FL M.1 idx ci k 1) (hd : decode M.2.1 pc = .ok (.getfield idx, 3)) (kk : V M X Q (pc + 3) L (.long (wJ w n k) :: st) w cs) : V M X Q pc L (.ref n :: st) w cs := V_get hK hf hd (fun _ => rfl) kk
theorem V_getr {n ci k idx b : Nat} (hK : wK w n = ci + 1) (hf : FL M.1 idx ci k 2) (hd : decode M.2.1 pc = .ok (.getfield idx, 3)) (hb : wR w n k = some b) (kk : V M X Q (pc + 3) L (.ref b :: st) w cs) : V M X Q pc L (.ref n :: st) w cs := V_get hK hf hd (fun ad => by simp [fv, hb, va_rf, mv]) kk
theorem V_getrN {n ci k idx : Nat} (hK : wK w n = ci + 1) (hf : FL M.1 idx ci k 2) (hd : decode M.2.1 pc = .ok (.getfield idx, 3)) (hb : wR w n k = none) (kk : V M X Q (pc + 3) L (.null :: st) w cs) : V M X Q pc L (.ref n :: st) w cs := V_get hK hf hd (fun ad => by simp [fv, hb, va_rf, mv]) kk
theorem V_put {n ci k idx tag : Nat} {ty : FieldType} {fin : Bool} {v : Value} {w' : Wd} (hK : wK w n = ci + 1) (hf : PF M.1 idx ci k tag ty fin) (hi : fin = true → M.2.2.2.2.2.1 = "<init>") (hd : decode M.2.1 pc = .ok (.putfield idx, 3)) (hn : ∀ ad, narrow ty (mv ad v) = mv ad v ∧ fits ty (mv ad v) = true)
    (hw1 : wK w' = wK w) (hw2 : wL w' = wL w) (hv : ∀ ad, fv tag ad w' n k = mv ad v) (ho : ∀ ad j t, j ≠ k → fv t ad w' n j = fv t ad w n j) (hm : ∀ cy ad m, m ≠ n → en cy ad w' m = en cy ad w m)
    (kk : V M X Q (pc + 3) L st w' cs) : V M X Q pc L (v :: .ref n :: st) w cs := fun o ad H locs ls h hl => by
  obtain ⟨hc, ht, C, T, N, ty0, h1, h2, h3, h4, h5, h6, h7, h8, h9⟩ := hf
  obtain ⟨q0, hq0, hq⟩ := pl_get (cy := xcy X) (ad := ad) (dom h.1 hK)
  have e : (pl (xcy X) ad w).set q0 (ad n, .inr (ci, (fl ci ad w n).set k (mv ad v))) = pl (xcy X) ad w' := pl_set h.1 hq0 hw2 (by rw [fl_set ht (hv ad) (ho ad)]; exact en_o (by rw [hw1]; exact hK) hc) (hm (xcy X) ad)
  rw [en_o hK hc] at hq
  have hwok : Wok w' := by unfold Wok; rw [hw1, hw2]; exact h.1
  have hlen : k < (fl ci ad w n).length := by rw [fl_len]; exact (List.getElem?_eq_some_iff.mp ht).1
  cases fin with
  | false => exact va_put (D := xD X) (ci := ci) (C := C) (T := T) (N := N) o.1 o.2.1 (fun w hw => o.2.2.2.2.2.1 w hw) h4 ty0 h5 h6 o.2.2.2.2.1 o.2.2.2.2.2.2.2.1.1 h.2.1 h.2.2.1 h.2.2.2.1 q0 hq h1 k h2 (o.2.2.2.2.2.1 _ h3) (fun _ h9 => h9) h7 h8 (hn ad).1 (hn ad).2 hlen hd (fun H1 locs1 hP hD hS => kk o ad H1 locs1 ls ⟨hwok, e ▸ hP, e ▸ hD, hS, ⟨h.2.2.2.2.1.1, fun m hm => by rw [hw2]; exact h.2.2.2.2.1.2 m hm⟩, h.2.2.2.2.2⟩ hl)
  | true => exact va_putF (D := xD X) (ci := ci) (C := C) (T := T) (N := N) o.1 o.2.1 (fun w hw => o.2.2.2.2.2.1 w hw) h4 ty0 h5 h6 o.2.2.2.2.1 o.2.2.2.2.2.2.2.1.1 h.2.1 h.2.2.1 h.2.2.2.1 q0 hq h1 k h2 (o.2.2.2.2.2.1 _ h3) (fun _ h9 => h9) h7 (o.2.2.2.2.2.2.2.2.2.1.trans (hi rfl)) (h9 rfl) h8 (hn ad).1 (hn ad).2 hlen hd (fun H1 locs1 hP hD hS => kk o ad H1 locs1 ls ⟨hwok, e ▸ hP, e ▸ hD, hS, ⟨h.2.2.2.2.1.1, fun m hm => by rw [hw2]; exact h.2.2.2.2.1.2 m hm⟩, h.2.2.2.2.2⟩ hl)
theorem V_puti {n ci k idx : Nat} {ty : FieldType} {fin : Bool} {x : Int32} (hK : wK w n = ci + 1) (hf : PF M.1 idx ci k 0 ty fin) (hi : fin = true → M.2.2.2.2.2.1 = "<init>") (hd : decode M.2.1 pc = .ok (.putfield idx, 3)) (hn : narrow ty (.int x) = .int x ∧ fits ty (.int x) = true) (kk : V M X Q (pc + 3) L st (sI w n k x) cs) : V M X Q pc L (.int x :: .ref n :: st) w cs :=
  V_put (w' := sI w n k x) hK hf hi hd (fun _ => hn) rfl rfl (fun ad => by show Value.int (up2 _ _ _ _ _ _) = _; rw [up2_self]; rfl) (fun ad j t hj => fv_sI t hj) (fun cy ad m hm => en_congr rfl rfl (sI_ne w x hm) rfl rfl) kk
theorem V_putl {n ci k idx : Nat} {fin : Bool} {x : Int64} (hK : wK w n = ci + 1) (hf : PF M.1 idx ci k 1 .long fin) (hi : fin = true → M.2.2.2.2.2.1 = "<init>") (hd : decode M.2.1 pc = .ok (.putfield idx, 3)) (kk : V M X Q (pc + 3) L st (sJ w n k x) cs) : V M X Q pc L (.long x :: .ref n :: st) w cs :=
  V_put (w' := sJ w n k x) hK hf hi hd (fun _ => ⟨rfl, rfl⟩) rfl rfl (fun ad => by show Value.long (up2 _ _ _ _ _ _) = _; rw [up2_self]; rfl) (fun ad j t hj => fv_sJ t hj) (fun cy ad m hm => en_congr rfl rfl rfl (sJ_ne w x hm) rfl) kk
theorem V_putr {n ci k idx b : Nat} {ty : FieldType} {fin : Bool} (hK : wK w n = ci + 1) (hf : PF M.1 idx ci k 2 ty fin) (hi : fin = true → M.2.2.2.2.2.1 = "<init>") (hd : decode M.2.1 pc = .ok (.putfield idx, 3)) (hn : ∀ a, narrow ty (.ref a) = .ref a ∧ fits ty (.ref a) = true) (kk : V M X Q (pc + 3) L st (sR w n k (some b)) cs) : V M X Q pc L (.ref b :: .ref n :: st) w cs :=
  V_put (w' := sR w n k (some b)) hK hf hi hd (fun ad => hn (ad b)) rfl rfl (fun ad => by show va_rf (Option.map ad (up2 _ _ _ _ _ _)) = _; rw [up2_self]; rfl) (fun ad j t hj => fv_sR t hj) (fun cy ad m hm => en_congr rfl rfl rfl rfl (sR_ne w _ hm)) kk
theorem V_putrN {n ci k idx : Nat} {ty : FieldType} {fin : Bool} (hK : wK w n = ci + 1) (hf : PF M.1 idx ci k 2 ty fin) (hi : fin = true → M.2.2.2.2.2.1 = "<init>") (hd : decode M.2.1 pc = .ok (.putfield idx, 3)) (hn : narrow ty .null = .null ∧ fits ty .null = true) (kk : V M X Q (pc + 3) L st (sR w n k none) cs) : V M X Q pc L (.null :: .ref n :: st) w cs :=
  V_put (w' := sR w n k none) hK hf hi hd (fun ad => hn) rfl rfl (fun ad => by show va_rf (Option.map ad (up2 _ _ _ _ _ _)) = _; rw [up2_self]; rfl) (fun ad j t hj => fv_sR t hj) (fun cy ad m hm => en_congr rfl rfl rfl rfl (sR_ne w _ hm)) kk
theorem V_iald {n : Nat} {i : Int32} (hK : wK w n = 11) (hin : vp_in i (wN w n)) (hd : decode M.2.1 pc = .ok (.iaload, 1)) (kk : V M X Q (pc + 1) L (.int (wI w n i.toNatClampNeg) :: st) w cs) : V M X Q pc L (.int i :: .ref n :: st) w cs := fun o ad H locs ls h hl => by
  obtain ⟨q0, -, hq⟩ := pl_get (cy := xcy X) (ad := ad) (dom h.1 (k := 10) hK)
  rw [show en (xcy X) ad w n = .inl (xcy X 0, wN w n, .inl (wI w n)) by simp only [en, hK]] at hq
  exact va_iald o.1 o.2.1 o.2.2.2.2.2.2.2.1.1 h.2.1 q0 0 hq rfl hin hd (kk o ad H locs ls h hl)
theorem V_zald {n : Nat} {i : Int32} (hK : wK w n = 13) (hin : vp_in i (wN w n)) (hd : decode M.2.1 pc = .ok (.baload, 1)) (kk : V M X Q (pc + 1) L (.int (wI w n i.toNatClampNeg) :: st) w cs) : V M X Q pc L (.int i :: .ref n :: st) w cs := fun o ad H locs ls h hl => by
  obtain ⟨q0, -, hq⟩ := pl_get (cy := xcy X) (ad := ad) (dom h.1 (k := 12) hK)
  rw [show en (xcy X) ad w n = .inl (xcy X 2, wN w n, .inl (wI w n)) by simp only [en, hK]] at hq
  exact va_zald o.1 o.2.1 o.2.2.2.2.2.2.2.1.1 h.2.1 q0 2 hq rfl hin hd (kk o ad H locs ls h hl)
theorem V_lald {n : Nat} {i : Int32} (hK : wK w n = 12) (hin : vp_in i (wN w n)) (hd : decode M.2.1 pc = .ok (.laload, 1)) (kk : V M X Q (pc + 1) L (.long (wJ w n i.toNatClampNeg) :: st) w cs) : V M X Q pc L (.int i :: .ref n :: st) w cs := fun o ad H locs ls h hl => by
  obtain ⟨q0, -, hq⟩ := pl_get (cy := xcy X) (ad := ad) (dom h.1 (k := 11) hK)
  rw [show en (xcy X) ad w n = .inl (xcy X 1, wN w n, .inr (.inl (wJ w n))) by simp only [en, hK]] at hq
  exact va_lald o.1 o.2.1 o.2.2.2.2.2.2.2.1.1 h.2.1 q0 1 hq rfl hin hd (kk o ad H locs ls h hl)
theorem V_alen {n : Nat} {v : Int32} (hK : wK w n = 11) (hv : Int32.ofNat (wN w n) = v) (hd : decode M.2.1 pc = .ok (.arraylength, 1)) (kk : V M X Q (pc + 1) L (.int v :: st) w cs) : V M X Q pc L (.ref n :: st) w cs := fun o ad H locs ls h hl => by
  obtain ⟨q0, -, hq⟩ := pl_get (cy := xcy X) (ad := ad) (dom h.1 (k := 10) hK)
  rw [show en (xcy X) ad w n = .inl (xcy X 0, wN w n, .inl (wI w n)) by simp only [en, hK]] at hq
  exact va_alen o.1 o.2.1 o.2.2.2.2.2.2.2.1.1 h.2.1 q0 0 hq rfl hv hd (kk o ad H locs ls h hl)
theorem sI_row (w : Wd) (n k : Nat) (x : Int32) : wI (sI w n k x) n = upd (wI w n) k x := funext fun j => by
  show (if n = n ∧ j = k then x else wI w n j) = _
  unfold upd
  simp
theorem sJ_row (w : Wd) (n k : Nat) (x : Int64) : wJ (sJ w n k x) n = vp_updL (wJ w n) k x := funext fun j => by
  show (if n = n ∧ j = k then x else wJ w n j) = _
  unfold vp_updL
  simp
theorem V_iast {n : Nat} {i x : Int32} (hK : wK w n = 11) (hin : vp_in i (wN w n)) (hd : decode M.2.1 pc = .ok (.iastore, 1)) (kk : V M X Q (pc + 1) L st (sI w n i.toNatClampNeg x) cs) : V M X Q pc L (.int x :: .int i :: .ref n :: st) w cs := fun o ad H locs ls h hl => by
  obtain ⟨q0, hq0, hq⟩ := pl_get (cy := xcy X) (ad := ad) (dom h.1 (k := 10) hK)
  rw [show en (xcy X) ad w n = .inl (xcy X 0, wN w n, .inl (wI w n)) by simp only [en, hK]] at hq
  have e : (pl (xcy X) ad w).set q0 (ad n, .inl (xcy X 0, wN w n, .inl (upd (wI w n) i.toNatClampNeg x))) = pl (xcy X) ad (sI w n i.toNatClampNeg x) := pl_set h.1 hq0 rfl (by
    have hK2 : wK (sI w n i.toNatClampNeg x) n = 11 := hK
    simp only [en, hK2, sI_row]
    rfl) (fun m hm => en_congr rfl rfl (sI_ne w x hm) rfl rfl)
  exact va_iast o.1 o.2.1 o.2.2.2.2.2.2.2.1.1 h.2.1 h.2.2.1 h.2.2.2.1 q0 0 hq rfl hin hd (fun H1 locs1 hP hD hS => kk o ad H1 locs1 ls ⟨h.1, e ▸ hP, e ▸ hD, hS, h.2.2.2.2⟩ hl)
theorem V_zast {n : Nat} {i x : Int32} (hK : wK w n = 13) (hin : vp_in i (wN w n)) (hx : vp_nar .boolean x = x) (hd : decode M.2.1 pc = .ok (.bastore, 1)) (kk : V M X Q (pc + 1) L st (sI w n i.toNatClampNeg x) cs) : V M X Q pc L (.int x :: .int i :: .ref n :: st) w cs := fun o ad H locs ls h hl => by
  obtain ⟨q0, hq0, hq⟩ := pl_get (cy := xcy X) (ad := ad) (dom h.1 (k := 12) hK)
  rw [show en (xcy X) ad w n = .inl (xcy X 2, wN w n, .inl (wI w n)) by simp only [en, hK]] at hq
  have e : (pl (xcy X) ad w).set q0 (ad n, .inl (xcy X 2, wN w n, .inl (upd (wI w n) i.toNatClampNeg (vp_nar .boolean x)))) = pl (xcy X) ad (sI w n i.toNatClampNeg x) := pl_set h.1 hq0 rfl (by
    have hK2 : wK (sI w n i.toNatClampNeg x) n = 13 := hK
    simp only [en, hK2, sI_row, hx]
    rfl) (fun m hm => en_congr rfl rfl (sI_ne w x hm) rfl rfl)
  exact va_zast o.1 o.2.1 o.2.2.2.2.2.2.2.1.1 h.2.1 h.2.2.1 h.2.2.2.1 q0 2 hq rfl hin hd (fun H1 locs1 hP hD hS => kk o ad H1 locs1 ls ⟨h.1, e ▸ hP, e ▸ hD, hS, h.2.2.2.2⟩ hl)
theorem V_last {n : Nat} {i : Int32} {x : Int64} (hK : wK w n = 12) (hin : vp_in i (wN w n)) (hd : decode M.2.1 pc = .ok (.lastore, 1)) (kk : V M X Q (pc + 1) L st (sJ w n i.toNatClampNeg x) cs) : V M X Q pc L (.long x :: .int i :: .ref n :: st) w cs := fun o ad H locs ls h hl => by
  obtain ⟨q0, hq0, hq⟩ := pl_get (cy := xcy X) (ad := ad) (dom h.1 (k := 11) hK)
  rw [show en (xcy X) ad w n = .inl (xcy X 1, wN w n, .inr (.inl (wJ w n))) by simp only [en, hK]] at hq
  have e : (pl (xcy X) ad w).set q0 (ad n, .inl (xcy X 1, wN w n, .inr (.inl (vp_updL (wJ w n) i.toNatClampNeg x)))) = pl (xcy X) ad (sJ w n i.toNatClampNeg x) := pl_set h.1 hq0 rfl (by
    have hK2 : wK (sJ w n i.toNatClampNeg x) n = 12 := hK
    simp only [en, hK2, sJ_row]
    rfl) (fun m hm => en_congr rfl rfl rfl (sJ_ne w x hm) rfl)
  exact va_last o.1 o.2.1 o.2.2.2.2.2.2.2.1.1 h.2.1 h.2.2.1 h.2.2.2.1 q0 1 hq rfl hin hd (fun H1 locs1 hP hD hS => kk o ad H1 locs1 ls ⟨h.1, e ▸ hP, e ▸ hD, hS, h.2.2.2.2⟩ hl)

theorem V_aald14 {n b : Nat} {i : Int32} (hK : wK w n = 14) (hin : vp_in i (wN w n)) (hb : wR w n i.toNatClampNeg = some b) (hd : decode M.2.1 pc = .ok (.aaload, 1)) (kk : V M X Q (pc + 1) L (.ref b :: st) w cs) : V M X Q pc L (.int i :: .ref n :: st) w cs := fun o ad H locs ls h hl => by
  obtain ⟨q0, -, hq⟩ := pl_get (cy := xcy X) (ad := ad) (dom h.1 (k := 13) hK)
  rw [show en (xcy X) ad w n = .inl (xcy X 3, wN w n, .inr (.inr (.inr (.inr (fun j => (wR w n j).map ad))))) by simp only [en, hK]] at hq
  refine va_aldq (C := "BoneSteps$Bone") o.1 o.2.1 o.2.2.2.2.2.2.2.1.1 h.2.1 q0 3 hq rfl hin hd ?_
  rw [hb]
  exact kk o ad H locs ls h hl
theorem V_aast14 {n b ci : Nat} {r : vw_C} {i : Int32} (hK : wK w n = 14) (hb : wK w b = ci + 1) (hc : ci < 9) (hr : vwCl[ci]? = some r) (hr2 : r.1 = "BoneSteps$Bone") (hin : vp_in i (wN w n)) (hd : decode M.2.1 pc = .ok (.aastore, 1)) (kk : V M X Q (pc + 1) L st (sR w n i.toNatClampNeg (some b)) cs) : V M X Q pc L (.ref b :: .int i :: .ref n :: st) w cs := fun o ad H locs ls h hl => by
  obtain ⟨q0, hq0, hq⟩ := pl_get (cy := xcy X) (ad := ad) (dom h.1 (k := 13) hK)
  obtain ⟨q1, -, hq1⟩ := pl_get (cy := xcy X) (ad := ad) (dom h.1 hb)
  rw [show en (xcy X) ad w n = .inl (xcy X 3, wN w n, .inr (.inr (.inr (.inr (fun j => (wR w n j).map ad))))) by simp only [en, hK]] at hq
  rw [en_o hb hc] at hq1
  have e : (pl (xcy X) ad w).set q0 (ad n, .inl (xcy X 3, wN w n, .inr (.inr (.inr (.inr (va_up (fun j => (wR w n j).map ad) i.toNatClampNeg (some (ad b)))))))) = pl (xcy X) ad (sR w n i.toNatClampNeg (some b)) := pl_set h.1 hq0 rfl (by
    have hK2 : wK (sR w n i.toNatClampNeg (some b)) n = 14 := hK
    simp only [en, hK2]
    have e2 : (fun j => (wR (sR w n i.toNatClampNeg (some b)) n j).map ad) = va_up (fun j => (wR w n j).map ad) i.toNatClampNeg (some (ad b)) := funext fun j => by
      show (if n = n ∧ j = i.toNatClampNeg then some b else wR w n j).map ad = _
      unfold va_up
      by_cases hj : j = i.toNatClampNeg <;> simp [hj]
    rw [e2]
    rfl) (fun m hm => en_congr rfl rfl rfl rfl (sR_ne w _ hm))
  exact va_astq (r := r) o.1 o.2.1 o.2.2.2.2.2.2.2.1.1 h.2.1 h.2.2.1 h.2.2.2.1 q0 3 q1 ci hq (by rw [hr2]; rfl) hq1 hr hin hd (fun H1 locs1 hP hD hS => kk o ad H1 locs1 ls ⟨h.1, e ▸ hP, e ▸ hD, hS, h.2.2.2.2⟩ hl)
theorem V_aald15 {n b : Nat} {i : Int32} (hK : wK w n = 15) (hin : vp_in i (wN w n)) (hb : wR w n i.toNatClampNeg = some b) (hd : decode M.2.1 pc = .ok (.aaload, 1)) (kk : V M X Q (pc + 1) L (.ref b :: st) w cs) : V M X Q pc L (.int i :: .ref n :: st) w cs := fun o ad H locs ls h hl => by
  obtain ⟨q0, -, hq⟩ := pl_get (cy := xcy X) (ad := ad) (dom h.1 (k := 14) hK)
  rw [show en (xcy X) ad w n = .inl (xcy X 4, wN w n, .inr (.inr (.inr (.inr (fun j => (wR w n j).map ad))))) by simp only [en, hK]] at hq
  refine va_aldq (C := "BoneSteps$Clip") o.1 o.2.1 o.2.2.2.2.2.2.2.1.1 h.2.1 q0 4 hq rfl hin hd ?_
  rw [hb]
  exact kk o ad H locs ls h hl
theorem V_aast15 {n b ci : Nat} {r : vw_C} {i : Int32} (hK : wK w n = 15) (hb : wK w b = ci + 1) (hc : ci < 9) (hr : vwCl[ci]? = some r) (hr2 : r.1 = "BoneSteps$Clip") (hin : vp_in i (wN w n)) (hd : decode M.2.1 pc = .ok (.aastore, 1)) (kk : V M X Q (pc + 1) L st (sR w n i.toNatClampNeg (some b)) cs) : V M X Q pc L (.ref b :: .int i :: .ref n :: st) w cs := fun o ad H locs ls h hl => by
  obtain ⟨q0, hq0, hq⟩ := pl_get (cy := xcy X) (ad := ad) (dom h.1 (k := 14) hK)
  obtain ⟨q1, -, hq1⟩ := pl_get (cy := xcy X) (ad := ad) (dom h.1 hb)
  rw [show en (xcy X) ad w n = .inl (xcy X 4, wN w n, .inr (.inr (.inr (.inr (fun j => (wR w n j).map ad))))) by simp only [en, hK]] at hq
  rw [en_o hb hc] at hq1
  have e : (pl (xcy X) ad w).set q0 (ad n, .inl (xcy X 4, wN w n, .inr (.inr (.inr (.inr (va_up (fun j => (wR w n j).map ad) i.toNatClampNeg (some (ad b)))))))) = pl (xcy X) ad (sR w n i.toNatClampNeg (some b)) := pl_set h.1 hq0 rfl (by
    have hK2 : wK (sR w n i.toNatClampNeg (some b)) n = 15 := hK
    simp only [en, hK2]
    have e2 : (fun j => (wR (sR w n i.toNatClampNeg (some b)) n j).map ad) = va_up (fun j => (wR w n j).map ad) i.toNatClampNeg (some (ad b)) := funext fun j => by
      show (if n = n ∧ j = i.toNatClampNeg then some b else wR w n j).map ad = _
      unfold va_up
      by_cases hj : j = i.toNatClampNeg <;> simp [hj]
    rw [e2]
    rfl) (fun m hm => en_congr rfl rfl rfl rfl (sR_ne w _ hm))
  exact va_astq (r := r) o.1 o.2.1 o.2.2.2.2.2.2.2.1.1 h.2.1 h.2.2.1 h.2.2.2.1 q0 4 q1 ci hq (by rw [hr2]; rfl) hq1 hr hin hd (fun H1 locs1 hP hD hS => kk o ad H1 locs1 ls ⟨h.1, e ▸ hP, e ▸ hD, hS, h.2.2.2.2⟩ hl)
theorem V_aald16 {n b : Nat} {i : Int32} (hK : wK w n = 16) (hin : vp_in i (wN w n)) (hb : wR w n i.toNatClampNeg = some b) (hd : decode M.2.1 pc = .ok (.aaload, 1)) (kk : V M X Q (pc + 1) L (.ref b :: st) w cs) : V M X Q pc L (.int i :: .ref n :: st) w cs := fun o ad H locs ls h hl => by
  obtain ⟨q0, -, hq⟩ := pl_get (cy := xcy X) (ad := ad) (dom h.1 (k := 15) hK)
  rw [show en (xcy X) ad w n = .inl (xcy X 5, wN w n, .inr (.inr (.inr (.inr (fun j => (wR w n j).map ad))))) by simp only [en, hK]] at hq
  refine va_aldq (C := "BoneSteps$Sheet") o.1 o.2.1 o.2.2.2.2.2.2.2.1.1 h.2.1 q0 5 hq rfl hin hd ?_
  rw [hb]
  exact kk o ad H locs ls h hl
theorem V_aast16 {n b ci : Nat} {r : vw_C} {i : Int32} (hK : wK w n = 16) (hb : wK w b = ci + 1) (hc : ci < 9) (hr : vwCl[ci]? = some r) (hr2 : r.1 = "BoneSteps$Sheet") (hin : vp_in i (wN w n)) (hd : decode M.2.1 pc = .ok (.aastore, 1)) (kk : V M X Q (pc + 1) L st (sR w n i.toNatClampNeg (some b)) cs) : V M X Q pc L (.ref b :: .int i :: .ref n :: st) w cs := fun o ad H locs ls h hl => by
  obtain ⟨q0, hq0, hq⟩ := pl_get (cy := xcy X) (ad := ad) (dom h.1 (k := 15) hK)
  obtain ⟨q1, -, hq1⟩ := pl_get (cy := xcy X) (ad := ad) (dom h.1 hb)
  rw [show en (xcy X) ad w n = .inl (xcy X 5, wN w n, .inr (.inr (.inr (.inr (fun j => (wR w n j).map ad))))) by simp only [en, hK]] at hq
  rw [en_o hb hc] at hq1
  have e : (pl (xcy X) ad w).set q0 (ad n, .inl (xcy X 5, wN w n, .inr (.inr (.inr (.inr (va_up (fun j => (wR w n j).map ad) i.toNatClampNeg (some (ad b)))))))) = pl (xcy X) ad (sR w n i.toNatClampNeg (some b)) := pl_set h.1 hq0 rfl (by
    have hK2 : wK (sR w n i.toNatClampNeg (some b)) n = 16 := hK
    simp only [en, hK2]
    have e2 : (fun j => (wR (sR w n i.toNatClampNeg (some b)) n j).map ad) = va_up (fun j => (wR w n j).map ad) i.toNatClampNeg (some (ad b)) := funext fun j => by
      show (if n = n ∧ j = i.toNatClampNeg then some b else wR w n j).map ad = _
      unfold va_up
      by_cases hj : j = i.toNatClampNeg <;> simp [hj]
    rw [e2]
    rfl) (fun m hm => en_congr rfl rfl rfl rfl (sR_ne w _ hm))
  exact va_astq (r := r) o.1 o.2.1 o.2.2.2.2.2.2.2.1.1 h.2.1 h.2.2.1 h.2.2.2.1 q0 5 q1 ci hq (by rw [hr2]; rfl) hq1 hr hin hd (fun H1 locs1 hP hD hS => kk o ad H1 locs1 ls ⟨h.1, e ▸ hP, e ▸ hD, hS, h.2.2.2.2⟩ hl)
theorem V_aald14N {n : Nat} {i : Int32} (hK : wK w n = 14) (hin : vp_in i (wN w n)) (hb : wR w n i.toNatClampNeg = none) (hd : decode M.2.1 pc = .ok (.aaload, 1)) (kk : V M X Q (pc + 1) L (.null :: st) w cs) : V M X Q pc L (.int i :: .ref n :: st) w cs := fun o ad H locs ls h hl => by
  obtain ⟨q0, -, hq⟩ := pl_get (cy := xcy X) (ad := ad) (dom h.1 (k := 13) hK)
  rw [show en (xcy X) ad w n = .inl (xcy X 3, wN w n, .inr (.inr (.inr (.inr (fun j => (wR w n j).map ad))))) by simp only [en, hK]] at hq
  refine va_aldq (C := "BoneSteps$Bone") o.1 o.2.1 o.2.2.2.2.2.2.2.1.1 h.2.1 q0 3 hq rfl hin hd ?_
  rw [hb]
  exact kk o ad H locs ls h hl
theorem V_aald17 {n b : Nat} {i : Int32} (hK : wK w n = 17) (hin : vp_in i (wN w n)) (hb : wR w n i.toNatClampNeg = some b) (hd : decode M.2.1 pc = .ok (.aaload, 1)) (kk : V M X Q (pc + 1) L (.ref b :: st) w cs) : V M X Q pc L (.int i :: .ref n :: st) w cs := fun o ad H locs ls h hl => by
  obtain ⟨q0, -, hq⟩ := pl_get (cy := xcy X) (ad := ad) (dom h.1 (k := 16) hK)
  rw [show en (xcy X) ad w n = .inl (xcy X 6, wN w n, .inr (.inr (.inr (.inr (fun j => (wR w n j).map ad))))) by simp only [en, hK]] at hq
  have hlt : i.toNatClampNeg < wN w n := Nat.not_le.mp fun q => hin (Or.inr q)
  refine W.aald (v := va_rf ((wR w n i.toNatClampNeg).map ad)) (ty := .array .int) o.1 o.2.1 (h.2.1 q0 _ hq) ((o.2.2.2.2.2.2.2.1.1.2 6 _ rfl).1 (wN w n) (fun j => va_rf ((wR w n j).map ad))) rfl (fun q => by cases q) (by show ¬ (i < 0 ∨ (arrV _ _ _).slots.size ≤ _); rw [arrV_size]; exact hin) (by show (arrV _ _ _).slots[_]? = _; rw [arrV_read _ _ hlt]) rfl rfl hd ?_
  rw [hb]
  exact kk o ad H locs ls h hl
/-- the cosines: the static row, by the name 9 -/
theorem V_cos {idx : Nat} (hl2 : Cond.fieldLink M.1 idx RX7 "COSINES" "[I" ∈ tb) (hd : decode M.2.1 pc = .ok (.getstatic idx, 3)) (kk : V M X Q (pc + 3) L (.ref 9 :: st) w cs) : V M X Q pc L st w cs := fun o ad H locs ls h hl => by
  refine va_gets (v := .ref (xad X 9)) o.1 o.2.1 o.2.2.2.2.2.2.2.2.1.1 h.2.2.2.1 o.2.2.2.2.1 (o.2.2.2.2.2.1 _ hl2) (fun _ h9 => h9) hd ?_
  have := kk o ad H locs ls h hl
  rw [show xad X 9 = ad 9 from (h.2.2.2.2.1.1 9 (Or.inr (Or.inl rfl))).symm]
  exact this
theorem V_cosld {i : Int32} (hin : vp_in i 36) (hd : decode M.2.1 pc = .ok (.iaload, 1)) (kk : V M X Q (pc + 1) L (.int (cosF i.toNatClampNeg) :: st) w cs) : V M X Q pc L (.int i :: .ref 9 :: st) w cs := fun o ad H locs ls h hl => by
  have e : ad 9 = xad X 9 := h.2.2.2.2.1.1 9 (Or.inr (Or.inl rfl))
  have hT : va_T .int (ad 9) 36 (fun j => .int (cosF j)) (xA X) (xs X) (xs X).heap := by rw [e]; exact o.2.2.2.2.2.2.2.2.1.2
  exact va_ti o.1 o.2.1 hT h.2.2.2.1 hin rfl hd (kk o ad H locs ls h hl)
/-- the script, by the name 8 -/
theorem V_sld {i : Int32} {n : Nat} {f : Nat → Int32} (hs : xsc X = some (n, f)) (hin : vp_in i n) (hd : decode M.2.1 pc = .ok (.iaload, 1)) (kk : V M X Q (pc + 1) L (.int (f i.toNatClampNeg) :: st) w cs) : V M X Q pc L (.int i :: .ref 8 :: st) w cs := fun o ad H locs ls h hl => by
  obtain ⟨hX, hb, hA⟩ := o.2.2.2.2.2.2.2.2.2.2 _ hs
  have e : ad 8 = xad X 8 := h.2.2.2.2.1.1 8 (Or.inr (Or.inr rfl))
  rw [← e] at hX hb hA
  exact va_sld o.1 o.2.1 hX hb hA h.2.2.2.1 hin hd (kk o ad H locs ls h hl)
theorem V_slen {n : Nat} {f : Nat → Int32} (hs : xsc X = some (n, f)) (hd : decode M.2.1 pc = .ok (.arraylength, 1)) (kk : V M X Q (pc + 1) L (.int (Int32.ofNat n) :: st) w cs) : V M X Q pc L (.ref 8 :: st) w cs := fun o ad H locs ls h hl => by
  obtain ⟨hX, hb, hA⟩ := o.2.2.2.2.2.2.2.2.2.2 _ hs
  have e : ad 8 = xad X 8 := h.2.2.2.2.1.1 8 (Or.inr (Or.inr rfl))
  rw [← e] at hX hb hA
  exact va_slen o.1 o.2.1 hX hb hA h.2.2.2.1 hd (kk o ad H locs ls h hl)
end
