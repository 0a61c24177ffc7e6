/-! THE WORLD: names (Nat) in place of addresses; kinds, lengths, ints, longs, references by name and place; the names that there are. -/
abbrev Wd : Type := (Nat → Nat) × (Nat → Nat) × (Nat → Nat → Int32) × (Nat → Nat → Int64) × (Nat → Nat → Option Nat) × List Nat
def wK (w : Wd) : Nat → Nat := w.1
def wN (w : Wd) : Nat → Nat := w.2.1
def wI (w : Wd) : Nat → Nat → Int32 := w.2.2.1
def wJ (w : Wd) : Nat → Nat → Int64 := w.2.2.2.1
def wR (w : Wd) : Nat → Nat → Option Nat := w.2.2.2.2.1
def wL (w : Wd) : List Nat := w.2.2.2.2.2
def up2 {α : Type} (f : Nat → Nat → α) (n k : Nat) (x : α) : Nat → Nat → α := fun a j => if a = n ∧ j = k then x else f a j
def sI (w : Wd) (n k : Nat) (x : Int32) : Wd := (wK w, wN w, up2 (wI w) n k x, wJ w, wR w, wL w)
def sJ (w : Wd) (n k : Nat) (x : Int64) : Wd := (wK w, wN w, wI w, up2 (wJ w) n k x, wR w, wL w)
def sR (w : Wd) (n k : Nat) (x : Option Nat) : Wd := (wK w, wN w, wI w, wJ w, up2 (wR w) n k x, wL w)
/-- a row of ints written anew from place dp on -/
def sV (w : Wd) (n : Nat) (f : Nat → Int32) : Wd := (wK w, wN w, fun a j => if a = n then f j else wI w a j, wJ w, wR w, wL w)
theorem up2_self {α : Type} (f : Nat → Nat → α) (n k : Nat) (x : α) : up2 f n k x n k = x := if_pos ⟨rfl, rfl⟩
theorem up2_ne {α : Type} (f : Nat → Nat → α) {n k a j : Nat} (x : α) (h : ¬ (a = n ∧ j = k)) : up2 f n k x a j = f a j := if_neg h
theorem up2_nn {α : Type} (f : Nat → Nat → α) {n k a j : Nat} (x : α) (h : a ≠ n) : up2 f n k x a j = f a j := if_neg fun q => h q.1
def Wok (w : Wd) : Prop := (wL w).Nodup ∧ (∀ n, wK w n ≠ 0 → n ∈ wL w) ∧ ∀ n, n ∈ wL w → n ≠ 9 ∧ n ≠ 8
/-- the fields' types of the classes of vwCl: 0 int (and boolean), 1 long, 2 a reference -/
def fts : Nat → List Nat
  | 0 => [2, 0, 0, 0, 0, 0, 0, 0, 1, 1, 1, 1, 1, 1]
  | 1 => [2, 0]
  | 2 => [2, 0]
  | 3 => [0, 0, 2, 0, 2, 0, 2, 2, 2]
  | 4 => [2, 0]
  | 5 => [2, 0, 0, 0]
  | 6 => [2, 0, 0, 1, 1]
  | 7 => [2, 2, 2, 2, 2, 0]
  | _ => [2, 2, 0, 2, 2, 2, 2, 2, 2, 1, 1, 0, 2, 2, 2, 2, 1, 1, 2, 2, 0, 2, 0, 2, 2, 2, 2, 0, 0, 2, 2, 2, 2, 2, 0]
def fv (tag : Nat) (ad : Nat → Nat) (w : Wd) (n k : Nat) : Value := if tag = 0 then .int (wI w n k) else if tag = 1 then .long (wJ w n k) else va_rf ((wR w n k).map ad)
def fl (ci : Nat) (ad : Nat → Nat) (w : Wd) (n : Nat) : List Value := (List.range (fts ci).length).map (fun k => fv ((fts ci).getD k 0) ad w n k)
theorem fl_at {ci : Nat} {ad : Nat → Nat} {w : Wd} {n k tag : Nat} (h : (fts ci)[k]? = some tag) : (fl ci ad w n)[k]? = some (fv tag ad w n k) := by
  have hk : k < (fts ci).length := (List.getElem?_eq_some_iff.mp h).1
  unfold fl
  rw [List.getElem?_map, List.getElem?_range hk]
  simp [List.getD, h]
theorem fl_len (ci : Nat) (ad : Nat → Nat) (w : Wd) (n : Nat) : (fl ci ad w n).length = (fts ci).length := by simp [fl]
theorem fl_set {ci : Nat} {ad : Nat → Nat} {w w' : Wd} {n k tag : Nat} {v : Value} (h : (fts ci)[k]? = some tag) (hv : fv tag ad w' n k = v) (ho : ∀ j t, j ≠ k → fv t ad w' n j = fv t ad w n j) : (fl ci ad w n).set k v = fl ci ad w' n := by
  apply List.ext_getElem?
  intro j
  have hk : k < (fts ci).length := (List.getElem?_eq_some_iff.mp h).1
  by_cases hj : j < (fts ci).length
  · obtain ⟨t, ht⟩ : ∃ t, (fts ci)[j]? = some t := ⟨_, List.getElem?_eq_getElem hj⟩
    by_cases e : j = k
    · subst e
      rw [fl_at h, List.getElem?_set_self (by rw [fl_len]; exact hk), hv]
    · rw [List.getElem?_set_ne (fun q => e q.symm), fl_at ht, fl_at ht, ho j t e]
  · rw [List.getElem?_eq_none (by rw [List.length_set, fl_len]; omega), List.getElem?_eq_none (by rw [fl_len]; omega)]
/-- what a name's cell holds -/
def en (cy : Nat → ClassId) (ad : Nat → Nat) (w : Wd) (n : Nat) : va_E := match wK w n with
  | 11 => .inl (cy 0, wN w n, .inl (wI w n))
  | 12 => .inl (cy 1, wN w n, .inr (.inl (wJ w n)))
  | 13 => .inl (cy 2, wN w n, .inl (wI w n))
  | 14 => .inl (cy 3, wN w n, .inr (.inr (.inr (.inr (fun j => (wR w n j).map ad)))))
  | 15 => .inl (cy 4, wN w n, .inr (.inr (.inr (.inr (fun j => (wR w n j).map ad)))))
  | 16 => .inl (cy 5, wN w n, .inr (.inr (.inr (.inr (fun j => (wR w n j).map ad)))))
  | 17 => .inl (cy 6, wN w n, .inr (.inr (.inr (.inr (fun j => (wR w n j).map ad)))))
  | k => .inr (k - 1, fl (k - 1) ad w n)
theorem en_o {cy : Nat → ClassId} {ad : Nat → Nat} {w : Wd} {n ci : Nat} (h : wK w n = ci + 1) (hc : ci < 9) : en cy ad w n = .inr (ci, fl ci ad w n) := by
  unfold en
  rcases (show ci = 0 ∨ ci = 1 ∨ ci = 2 ∨ ci = 3 ∨ ci = 4 ∨ ci = 5 ∨ ci = 6 ∨ ci = 7 ∨ ci = 8 by omega) with e | e | e | e | e | e | e | e | e <;> (subst e; simp [h])
def pl (cy : Nat → ClassId) (ad : Nat → Nat) (w : Wd) : va_W := (wL w).map (fun n => (ad n, en cy ad w n))
theorem pl_get {cy : Nat → ClassId} {ad : Nat → Nat} {w : Wd} {n : Nat} (h : n ∈ wL w) : ∃ k : Nat, (wL w)[k]? = some n ∧ (pl cy ad w)[k]? = some (ad n, en cy ad w n) := by
  obtain ⟨k, hk⟩ := List.getElem?_of_mem h
  exact ⟨k, hk, by simp [pl, hk]⟩
theorem pl_set {cy : Nat → ClassId} {ad : Nat → Nat} {w w' : Wd} {n k : Nat} {e : va_E} (hw : Wok w) (hk : (wL w)[k]? = some n) (hl : wL w' = wL w) (he : en cy ad w' n = e) (ho : ∀ m, m ≠ n → en cy ad w' m = en cy ad w m) : (pl cy ad w).set k (ad n, e) = pl cy ad w' := by
  apply List.ext_getElem?
  intro j
  have hlt : k < (wL w).length := (List.getElem?_eq_some_iff.mp hk).1
  by_cases hj : j = k
  · subst hj
    rw [List.getElem?_set_self (by simpa [pl] using hlt)]
    simp [pl, hl, hk, he]
  · rw [List.getElem?_set_ne (fun q => hj q.symm)]
    simp only [pl, hl, List.getElem?_map]
    cases hm : (wL w)[j]? with
    | none => rfl
    | some m =>
      simp only [Option.map_some]
      have hne : m ≠ n := fun q => hj ((List.getElem?_inj (List.getElem?_eq_some_iff.mp hm).1 hw.1).mp (by rw [hm, hk, q]))
      rw [ho m hne]
/-- values and references by name -/
def mv (ad : Nat → Nat) : Value → Value
  | .ref n => .ref (ad n)
  | v => v
def mL (ad : Nat → Nat) (L : List (Nat × Value)) : List (Nat × Value) := L.map (fun q => (q.1, mv ad q.2))
theorem mv_cat (ad : Nat → Nat) (v : Value) : (mv ad v).category = v.category := by cases v <;> rfl
theorem lv_args_mv (ad : Nat → Nat) (av : List Value) : ∀ i, lv_args i (av.map (mv ad)) = mL ad (lv_args i av) := by
  induction av with
  | nil => intro i; rfl
  | cons v vs ih =>
    intro i
    simp only [List.map_cons, lv_args, mv_cat, ih, mL]
theorem mL_get {ad : Nat → Nat} {L : List (Nat × Value)} {i : Nat} {v : Value} (h : L.find? (fun q => q.1 == i) = some (i, v)) {ls : Array Slot} {nL : Nat} (hl : lv_has ls nL (mL ad L)) : ls[i]? = some (.val (mv ad v)) :=
  hl.2.2 (i, mv ad v) (List.mem_map.mpr ⟨(i, v), List.mem_of_find?_eq_some h, rfl⟩)
def rm1 (i : Nat) (q : Nat × Value) : Bool := !(q.1 == i) && !(q.1 + 1 == i && q.2.category == 2)
def rm2 (i : Nat) (q : Nat × Value) : Bool := !(q.1 == i) && (!(q.1 == i + 1) && !(q.1 + 1 == i && q.2.category == 2))
theorem mL_rm1 (ad : Nat → Nat) (i : Nat) (v : Value) (L : List (Nat × Value)) : (i, mv ad v) :: (mL ad L).filter (fun q => !(q.1 == i) && !(q.1 + 1 == i && q.2.category == 2)) = mL ad ((i, v) :: L.filter (rm1 i)) := by
  unfold mL rm1
  rw [List.map_cons, List.filter_map]
  congr 2
  apply List.filter_congr
  intro q _
  simp [mv_cat]
theorem mL_rm2 (ad : Nat → Nat) (i : Nat) (v : Value) (L : List (Nat × Value)) : (i, mv ad v) :: (mL ad L).filter (fun q => !(q.1 == i) && (!(q.1 == i + 1) && !(q.1 + 1 == i && q.2.category == 2))) = mL ad ((i, v) :: L.filter (rm2 i)) := by
  unfold mL rm2
  rw [List.map_cons, List.filter_map]
  congr 2
  apply List.filter_congr
  intro q _
  simp [mv_cat]
theorem lg_sl_mv (ad : Nat → Nat) (av : List Value) : (lg_sl (av.map (mv ad))).length = (lg_sl av).length := by
  induction av with
  | nil => rfl
  | cons v vs ih =>
    have e : ∀ (u : Value) (us : List Value), (lg_sl (u :: us)).length = (if u.category = 2 then 2 else 1) + (lg_sl us).length := fun u us => by
      unfold lg_sl
      rw [List.flatMap_cons, List.length_append]
      by_cases h : u.category = 2 <;> simp [h]
    rw [List.map_cons, e, e, ih, mv_cat]
