/-! BoneSteps: sheets -/
abbrev isS (x : Int32) : Prop := 0 ≤ x.toInt ∧ x.toInt < 4
theorem isS_n {x : Int32} (hx : isS x) : ∃ c, c < 4 ∧ x = nI c := ⟨bN x, by have := hx.1; have := hx.2; unfold bN; omega, i32_nat hx.1⟩
abbrev isG (f : Int32) : Prop := 0 ≤ f.toInt ∧ f.toInt ≤ 2
def fnd (z : St) (f : Nat) : Int32 × St := (-10 - nI f, pH z (zH z) f)
def shN (h : Sh) (s f n : Nat) : Sh := (va_up h.1 s (some f), va_up h.2.1 s n, va_up h.2.2 s (fun _ => 0))
def stH (h : Sh) (s i : Nat) (v : Int32) : Sh := (h.1, h.2.1, va_up h.2.2 s (va_up (h.2.2 s) i v))
def cpH (h : Sh) (s i t j n : Nat) : Sh := (h.1, h.2.1, va_up h.2.2 t (va_cpy (h.2.2 s) (h.2.2 t) i j n))
def wrH (h : Sh) (s i n : Nat) (t : Nat → Nat) : Sh := (h.1, h.2.1, va_up h.2.2 s (fun a => if i ≤ a ∧ a < i + n then nI (t (a - i)) else h.2.2 s a))
def oSheet (z : St) (x f n : Int32) : Int32 × St := if isS x ∧ isG f ∧ n.toInt ≤ 60 then (if n.toInt < 0 then fnd z 5 else (n, pH z (shN (zH z) (bN x) (bN f) (bN n)) (zF z))) else (-2, z)
def oLose (z : St) (x : Int32) : Int32 × St := if isS x then (if (zH z).1 (bN x) = none then fnd z 1 else (nI ((zH z).2.1 (bN x)), pH z (va_up (zH z).1 (bN x) none, (zH z).2) (zF z))) else (-2, z)
def wrZ (z : St) (s : Nat) (f i : Int32) : Nat := wrI ((zH z).1 s) ((zH z).2.1 s) f i
def wpZ (z : St) (s : Nat) (i : Int32) : Nat := wrP ((zH z).1 s) ((zH z).2.1 s) i (nI (kN (zK z)))
def oPut (z : St) (x f i p : Int32) : Int32 × St := if isS x ∧ isG f then (if wrZ z (bN x) f i = 0 then (1, pH z (stH (zH z) (bN x) (bN i) (cutF (bN f) p)) (zF z)) else fnd z (wrZ z (bN x) f i)) else (-2, z)
def oGet (z : St) (x f i : Int32) : Int32 × St := if isS x ∧ isG f then (if wrZ z (bN x) f i = 0 then ((zH z).2.2 (bN x) (bN i), z) else (-2147483648, pH z (zH z) (wrZ z (bN x) f i))) else (-2147483648, z)
abbrev hoZ (z : St) (s : Nat) (i n : Int32) : Prop := 0 ≤ i.toInt ∧ 0 ≤ n.toInt ∧ i.toInt + n.toInt ≤ (zH z).2.1 s
def oCopy (z : St) (x i y j n : Int32) : Int32 × St := if isS x ∧ isS y then (if (zH z).1 (bN x) = none ∨ (zH z).1 (bN y) = none then fnd z 1 else if (zH z).1 (bN x) = (zH z).1 (bN y) then (if hoZ z (bN x) i n ∧ hoZ z (bN y) j n then (1, pH z (cpH (zH z) (bN x) (bN i) (bN y) (bN j) (bN n)) (zF z)) else fnd z 2) else fnd z 4) else (-2, z)
def itZ (z : St) (s i : Nat) : Nat → Nat := fun j => rN ((zH z).2.2 s (i + j))
def oPose (z : St) (x i : Int32) : Int32 × St := if isS x then (if wpZ z (bN x) i = 0 then (nI (cntF (ouT (zK z) (itZ z (bN x) (bN i))) (kN (zK z))), pK z (setP (zK z) (mixT (kN (zK z)) (inT (zK z) (itZ z (bN x) (bN i))) (kTrn (zK z))))) else fnd z (wpZ z (bN x) i)) else (-2, z)
def oWrite (z : St) (x i : Int32) : Int32 × St := if isS x then (if wpZ z (bN x) i = 0 then (nI (kN (zK z)), pH z (wrH (zH z) (bN x) (bN i) (kN (zK z)) (kTrn (zK z))) (zF z)) else fnd z (wpZ z (bN x) i)) else (-2, z)
theorem wrI_le (o : Option Nat) (z : Nat) (f i : Int32) : wrI o z f i ≤ 3 := by
  unfold wrI
  split
  · decide
  · split
    · split <;> decide
    · decide
theorem wrP_le (o : Option Nat) (z : Nat) (i n : Int32) : wrP o z i n ≤ 2 := by
  unfold wrP
  split
  · decide
  · split <;> decide
theorem wrI_0 {o : Option Nat} {z : Nat} {f i : Int32} (h : wrI o z f i = 0) : ∃ g, o = some g ∧ nI g = f ∧ 0 ≤ i.toInt ∧ i.toInt < z := by
  unfold wrI at h
  split at h
  · cases h
  · rename_i g
    split at h
    · rename_i e
      split at h
      · rename_i q
        exact ⟨g, rfl, e, q⟩
      · cases h
    · cases h
theorem wrP_0 {o : Option Nat} {z : Nat} {i n : Int32} (h : wrP o z i n = 0) : ∃ g, o = some g ∧ 0 ≤ i.toInt ∧ 0 ≤ n.toInt ∧ i.toInt + n.toInt ≤ z := by
  unfold wrP at h
  split at h
  · cases h
  · rename_i g
    split at h
    · rename_i q
      exact ⟨g, rfl, q⟩
    · cases h
theorem nI_z {n : Nat} (h : n ≤ 5) : nI n = 0 ↔ n = 0 := nI_eq (b := 0) (by omega) (by decide)
theorem RX.fnd {z : St} {w : Wd} (h : RX z w) {f : Nat} (hf : f ≤ 5) : RX (pH z (zH z) f) (sI w 20 5 (nI f)) :=
  h.setH (Keep.sI w (by unfold shA; omega) 5 _) (h.2.2.2.2.1.keep (Keep.sI (S := fun a => a = 20) w rfl 5 (nI f)) (fun a => by omega)) rdI_eq hf
abbrev siA (a : Nat) : Prop := (60 ≤ a ∧ a < 64) ∨ (70 ≤ a ∧ a < 74)
theorem RX.setS {z : St} {w w' : Wd} {x : Sh} (h : RX z w) (g : Keep siA w w') (hx : ShX x w') : RX (pH z x (zF z)) w' :=
  h.setH (g.mono (fun a => by unfold siA shA; omega)) hx ((congrFun (g.I (a := 20) (by unfold siA; omega)) 5).trans h.2.2.2.2.2.1) h.2.2.2.2.2.2
theorem ShX.upd {h h' : Sh} {s : Nat} {w w' : Wd} (x : ShX h w) (g : Keep (fun a => a = 60 + s ∨ a = 70 + s) w w') (hs : s < 4) (h1 : ∀ u, u ≠ s → h'.1 u = h.1 u ∧ h'.2.1 u = h.2.1 u ∧ h'.2.2 u = h.2.2 u) (h2 : h'.2.1 s ≤ 60 ∧ wI w' (60 + s) 3 = nI (h'.2.1 s) ∧ wI w' (60 + s) 1 = loI (h'.1 s) ∧ ∀ f, h'.1 s = some f → f ≤ 2 ∧ wI w' (60 + s) 2 = nI f ∧ ∀ i, i < h'.2.1 s → wI w' (70 + s) i = h'.2.2 s i) : ShX h' w' := by
  refine ⟨x.1.keep g, fun u hu => ?_⟩
  by_cases e : u = s
  · subst e
    exact h2
  · obtain ⟨e1, e2, e3⟩ := h1 u e
    rw [e1, e2, e3, g.I (a := 60 + u) (by omega), g.I (a := 70 + u) (by omega)]
    exact x.2 u hu
theorem wI_sV (w : Wd) (n : Nat) (f : Nat → Int32) : wI (sV w n f) n = f := funext fun j => if_pos rfl
theorem wI_sVn (w : Wd) {n a : Nat} (f : Nat → Int32) (h : a ≠ n) : wI (sV w n f) a = wI w a := funext fun j => if_neg h
theorem ShX.begin {h : Sh} {s f n : Nat} {w : Wd} (x : ShX h w) (hs : s < 4) (hf : f ≤ 2) (hn : n ≤ 60) : ShX (shN h s f n) (sI (sI (sI (sV w (70 + s) (flF 0 (wI w (70 + s)) 60)) (60 + s) 1 0) (60 + s) 2 (nI f)) (60 + s) 3 (nI n)) := by
  refine x.upd (s := s) ((Keep.sV w (Or.inr rfl) _).trans ((Keep.sI _ (Or.inl rfl) 1 _).trans ((Keep.sI _ (Or.inl rfl) 2 _).trans (Keep.sI _ (Or.inl rfl) 3 _)))) hs (fun u e => ⟨va_up_ne _ _ e, va_up_ne _ _ e, va_up_ne _ _ e⟩) ?_
  simp only [shN, va_up_self]
  refine ⟨hn, rdI_eq, (rdI_ne (by decide)).trans ((rdI_ne (by decide)).trans rdI_eq), fun g hg => ?_⟩
  cases hg
  refine ⟨hf, (rdI_ne (by decide)).trans rdI_eq, fun i hi => ?_⟩
  rw [rdI_nn (by omega), rdI_nn (by omega), rdI_nn (by omega), wI_sV]
  exact if_pos (by omega)
theorem ShX.lose {h : Sh} {s : Nat} {w : Wd} (x : ShX h w) (hs : s < 4) : ShX (va_up h.1 s none, h.2) (sI w (60 + s) 1 1) := by
  refine x.upd (s := s) (Keep.sI w (Or.inl rfl) 1 _) hs (fun u e => ⟨va_up_ne _ _ e, rfl, rfl⟩) ?_
  simp only [va_up_self]
  exact ⟨(x.2 s hs).1, (rdI_ne (by decide)).trans (x.2 s hs).2.1, rdI_eq, fun g hg => by cases hg⟩
theorem ShX.item {h : Sh} {s : Nat} {w : Wd} {g : Nat → Int32} {F : Nat → Int32} (x : ShX h w) (hs : s < 4) {w' : Wd} (k : Keep (fun a => a = 70 + s) w w') (hg : ∀ f, h.1 s = some f → ∀ a, a < h.2.1 s → wI w' (70 + s) a = F a) : ShX (h.1, h.2.1, va_up h.2.2 s F) w' := by
  refine x.upd (s := s) (k.mono (fun a e => Or.inr e)) hs (fun u e => ⟨rfl, rfl, va_up_ne _ _ e⟩) ?_
  simp only [va_up_self]
  rw [k.I (a := 60 + s) (by omega)]
  obtain ⟨h1, h2, h3, h4⟩ := x.2 s hs
  exact ⟨h1, h2, h3, fun f hf => ⟨(h4 f hf).1, (h4 f hf).2.1, fun i hi => hg f hf i hi⟩⟩
theorem ShX.store {h : Sh} {s i : Nat} {v : Int32} {w : Wd} (x : ShX h w) (hs : s < 4) : ShX (stH h s i v) (sI w (70 + s) i v) := by
  refine x.item (g := fun _ => 0) hs (Keep.sI (S := fun a => a = 70 + s) w rfl i v) (fun f hf a ha => ?_)
  by_cases e : a = i
  · subst e
    rw [rdI_eq, va_up_self]
  · rw [rdI_ne e, va_up_ne _ _ e]
    exact ((x.2 s hs).2.2.2 f hf).2.2 a ha
theorem ShX.copy {h : Sh} {s t i j n f : Nat} {w : Wd} (x : ShX h w) (hs : s < 4) (ht : t < 4) (hf : h.1 s = some f) (hi : i + n ≤ h.2.1 s) : ShX (cpH h s i t j n) (sV w (70 + t) (va_cpy (wI w (70 + s)) (wI w (70 + t)) i j n)) := by
  refine x.item (g := fun _ => 0) ht (Keep.sV (S := fun a => a = 70 + t) w rfl _) (fun f' hf' a ha => ?_)
  rw [wI_sV]
  unfold va_cpy
  by_cases c : j ≤ a ∧ a < j + n
  · rw [if_pos c, if_pos c]
    exact ((x.2 s hs).2.2.2 f hf).2.2 _ (by omega)
  · rw [if_neg c, if_neg c]
    exact ((x.2 t ht).2.2.2 f' hf').2.2 a ha
theorem cutF_N {g t : Nat} (ht : t < 36) : cutF g (nI t) = nI t := by
  have h : ∀ t, t < 36 → (nI t).toInt8.toInt32 = nI t ∧ (nI t).toInt16.toInt32 = nI t := by decide +kernel
  unfold cutF
  split
  · exact (h t ht).1
  · split
    · exact (h t ht).2
    · rfl
theorem wrH_0 (h : Sh) (s i : Nat) (t : Nat → Nat) : wrH h s i 0 t = h := by
  unfold wrH
  have e : (fun a => if i ≤ a ∧ a < i + 0 then nI (t (a - i)) else h.2.2 s a) = h.2.2 s := funext fun a => if_neg (by omega)
  rw [e]
  have e2 : va_up h.2.2 s (h.2.2 s) = h.2.2 := funext fun u => by
    by_cases q : u = s
    · subst q; rw [va_up_self]
    · rw [va_up_ne _ _ q]
  rw [e2]
theorem wrH_s (h : Sh) (s i b : Nat) (t : Nat → Nat) : stH (wrH h s i b t) s (i + b) (nI (t b)) = wrH h s i (b + 1) t := by
  unfold wrH stH
  have e : va_up (va_up h.2.2 s (fun a => if i ≤ a ∧ a < i + b then nI (t (a - i)) else h.2.2 s a)) s (va_up (va_up h.2.2 s (fun a => if i ≤ a ∧ a < i + b then nI (t (a - i)) else h.2.2 s a) s) (i + b) (nI (t b))) = va_up h.2.2 s (fun a => if i ≤ a ∧ a < i + (b + 1) then nI (t (a - i)) else h.2.2 s a) := funext fun u => by
    by_cases q : u = s
    · subst q
      rw [va_up_self, va_up_self, va_up_self]
      funext a
      by_cases c : a = i + b
      · subst c
        rw [va_up_self, if_pos (by omega), show i + b - i = b by omega]
      · rw [va_up_ne _ _ c]
        by_cases d : i ≤ a ∧ a < i + b
        · rw [if_pos d, if_pos (by omega)]
        · rw [if_neg d, if_neg (by omega)]
    · rw [va_up_ne _ _ q, va_up_ne _ _ q, va_up_ne _ _ q]
  exact congrArg (fun y => (h.1, h.2.1, y)) e
theorem cntF_congr {p q : Nat → Bool} : ∀ n, (∀ i, i < n → p i = q i) → cntF p n = cntF q n
  | 0, _ => rfl
  | n + 1, h => by
    rw [cntF, cntF, cntF_congr n (fun i hi => h i (by omega)), h n (by omega)]
theorem mixT_congr {n : Nat} {g g' t : Nat → Nat} (h : ∀ i, i < n → g i = g' i) : mixT n g t = mixT n g' t := funext fun i => by
  unfold mixT
  by_cases c : i < n
  · rw [if_pos c, if_pos c, h i c]
  · rw [if_neg c, if_neg c]

set_option maxRecDepth 100000 in
theorem c_X8_sheet (z : St) (x f n : Int32) (w : Wd) (z0 : RX z w) : Cc yX8_sheet mX8_sheet [.ref 20, .int x, .int f, .int n] w (fun r w' => ∃ v, r = some v ∧ (v = .int (oSheet z x f n).1 ∧ RX (oSheet z x f n).2 w' ∧ Keep clA w w')) := by
  refine Cc.of (by decide) rfl rfl (Nat.le_of_ble_eq_true rfl) (fun X => ?_)
  change V _ X _ 0 [(0, _), (1, _), (2, _), (3, _)] [] _ (0, 0)
  by_cases hx : isS x
  · obtain ⟨s, hs, rfl⟩ := isS_n hx
    have hsN : bN (nI s) = s := bN_nI (by omega)
    first | refine V_aload_n dX8_sheet_0 rfl rfl ?_ | refine V_aload_nN dX8_sheet_0 rfl rfl ?_
    refine V_iload_n dX8_sheet_1 rfl rfl ?_
    refine V_callV (As := [_]) (st := _) (c_X8_findSheet_s s w z0.1.1.1 hs) kX8_218 (by first | exact z0.1.1.1.k _ rfl rfl | exact z0.1.1.1.ks hs | exact z0.1.1.1.ki hs) ⟨rfl, rfl, rfl⟩ ⟨(Nat.le_of_ble_eq_true rfl), (Nat.le_of_ble_eq_true rfl)⟩ dX8_sheet_2 rfl rfl (Nat.le_of_ble_eq_true rfl) ⟨(Nat.le_of_ble_eq_true rfl), (Nat.le_of_ble_eq_true rfl)⟩ ?_
    first | refine S_astore (L' := [(0, _), (2, _), (3, _), (4, _)]) dX8_sheet_5 rfl rfl ?_ | refine S_astoreN (L' := [(0, _), (2, _), (3, _), (4, _)]) dX8_sheet_5 rfl rfl ?_
    first | refine V_aload dX8_sheet_7 rfl ?_ | refine V_aloadN dX8_sheet_7 rfl ?_
    refine V_ifnull dX8_sheet_9 ?_
    refine V_iload_n dX8_sheet_12 rfl rfl ?_
    refine V_callS (As := [_]) (st := _) (c_X8_isForm _ _) kX8_222 ⟨rfl, rfl, rfl⟩ ⟨(Nat.le_of_ble_eq_true rfl), (Nat.le_of_ble_eq_true rfl)⟩ dX8_sheet_13 rfl rfl (Nat.le_of_ble_eq_true rfl) ⟨(Nat.le_of_ble_eq_true rfl), (Nat.le_of_ble_eq_true rfl)⟩ ?_
    refine V_if_eq (tgt := 25) dX8_sheet_16 (by decide) (fun c16 => ?_) (fun c16 => ?_)
    · refine V_bipush (v := -2) dX8_sheet_25 (by decide) ?_
      refine V_iret rfl dX8_sheet_27 (Nat.le_of_ble_eq_true rfl) (Nat.le_of_ble_eq_true rfl) ?_
      have hno : ¬ (isS (nI s) ∧ isG f ∧ n.toInt ≤ 60) := fun q => by
        first | exact c22 (Int32.le_iff_toInt_le.mpr q.2.2) | exact b01_0 c16 q.2.1
      exact ⟨_, rfl, by unfold oSheet; rw [if_neg hno], by unfold oSheet; rw [if_neg hno]; exact z0, Keep.refl _ _⟩
    · refine V_iload_n dX8_sheet_19 rfl rfl ?_
      refine V_bipush (v := 60) dX8_sheet_20 (by decide) ?_
      refine V_icmp_le (tgt := 28) dX8_sheet_22 (by decide) (fun c22 => ?_) (fun c22 => ?_)
      · refine V_iload_n dX8_sheet_28 rfl rfl ?_
        refine V_if_ge (tgt := 38) dX8_sheet_29 (by decide) (fun c29 => ?_) (fun c29 => ?_)
        · first | refine V_aload dX8_sheet_38 rfl ?_ | refine V_aloadN dX8_sheet_38 rfl ?_
          refine V_iload_n dX8_sheet_40 rfl rfl ?_
          refine V_iload_n dX8_sheet_41 rfl rfl ?_
          refine V_callVv (As := [_, _]) (st := _) (c_X5_begin s f n w z0.1.1.1 hs) kX8_229 (by first | exact z0.1.1.1.k _ rfl rfl | exact z0.1.1.1.ks hs | exact z0.1.1.1.ki hs) ⟨rfl, rfl, rfl⟩ ⟨(Nat.le_of_ble_eq_true rfl), (Nat.le_of_ble_eq_true rfl)⟩ dX8_sheet_42 rfl rfl (Nat.le_of_ble_eq_true rfl) ⟨(Nat.le_of_ble_eq_true rfl), (Nat.le_of_ble_eq_true rfl)⟩ ?_
          refine V_iload_n dX8_sheet_45 rfl rfl ?_
          refine V_iret rfl dX8_sheet_46 (Nat.le_of_ble_eq_true rfl) (Nat.le_of_ble_eq_true rfl) ?_
          have hn : n.toInt ≤ 60 := Int32.le_iff_toInt_le.mp c22
          have hz : 0 ≤ n.toInt := Int32.le_iff_toInt_le.mp c29
          have hG := b01_1 c16
          have e : oSheet z (nI s) f n = (n, pH z (shN (zH z) s (bN f) (bN n)) (zF z)) := by
            unfold oSheet
            rw [if_pos ⟨hx, hG, hn⟩, if_neg (by omega), hsN]
          have g : Keep siA w (sI (sI (sI (sV w (70 + s) (flF 0 (wI w (70 + s)) 60)) (60 + s) 1 0) (60 + s) 2 f) (60 + s) 3 n) := (Keep.sV w (by unfold siA; omega) _).trans ((Keep.sI _ (by unfold siA; omega) 1 _).trans ((Keep.sI _ (by unfold siA; omega) 2 _).trans (Keep.sI _ (by unfold siA; omega) 3 _)))
          have x1 := z0.2.2.2.2.1.begin hs (f := bN f) (n := bN n) (by unfold bN; omega) (by unfold bN; omega)
          rw [← i32_nat hG.1, ← i32_nat hz] at x1
          exact ⟨_, rfl, by rw [e], by rw [e]; exact z0.setS g x1, g.mono (fun a => by unfold siA clA; omega)⟩
        · first | refine V_aload_n dX8_sheet_32 rfl rfl ?_ | refine V_aload_nN dX8_sheet_32 rfl rfl ?_
          refine V_iconst (v := 5) dX8_sheet_33 (by decide) ?_
          refine V_callV (As := [_]) (st := _) (c_X8_found (nI 5) w z0.1.1.1) kX8_225 (by first | exact z0.1.1.1.k _ rfl rfl | exact z0.1.1.1.ks hs | exact z0.1.1.1.ki hs) ⟨rfl, rfl, rfl⟩ ⟨(Nat.le_of_ble_eq_true rfl), (Nat.le_of_ble_eq_true rfl)⟩ dX8_sheet_34 rfl rfl (Nat.le_of_ble_eq_true rfl) ⟨(Nat.le_of_ble_eq_true rfl), (Nat.le_of_ble_eq_true rfl)⟩ ?_
          refine V_iret rfl dX8_sheet_37 (Nat.le_of_ble_eq_true rfl) (Nat.le_of_ble_eq_true rfl) ?_
          have hn : n.toInt ≤ 60 := Int32.le_iff_toInt_le.mp c22
          have hz : n.toInt < 0 := Int.lt_of_not_ge (fun q => c29 (Int32.le_iff_toInt_le.mpr q))
          have e : oSheet z (nI s) f n = fnd z 5 := by
            unfold oSheet
            rw [if_pos ⟨hx, b01_1 c16, hn⟩, if_pos hz]
          exact ⟨_, rfl, by rw [e]; rfl, by rw [e]; exact z0.fnd (by decide), Keep.sI w (by unfold clA; omega) 5 _⟩
      · refine V_bipush (v := -2) dX8_sheet_25 (by decide) ?_
        refine V_iret rfl dX8_sheet_27 (Nat.le_of_ble_eq_true rfl) (Nat.le_of_ble_eq_true rfl) ?_
        have hno : ¬ (isS (nI s) ∧ isG f ∧ n.toInt ≤ 60) := fun q => by
          first | exact c22 (Int32.le_iff_toInt_le.mpr q.2.2) | exact b01_0 c16 q.2.1
        exact ⟨_, rfl, by unfold oSheet; rw [if_neg hno], by unfold oSheet; rw [if_neg hno]; exact z0, Keep.refl _ _⟩
  · first | refine V_aload_n dX8_sheet_0 rfl rfl ?_ | refine V_aload_nN dX8_sheet_0 rfl rfl ?_
    refine V_iload_n dX8_sheet_1 rfl rfl ?_
    refine V_callV (As := [_]) (st := _) (c_X8_findSheet_n x w z0.1.1.1 hx) kX8_218 (by first | exact z0.1.1.1.k _ rfl rfl | exact z0.1.1.kb hb) ⟨rfl, rfl, rfl⟩ ⟨(Nat.le_of_ble_eq_true rfl), (Nat.le_of_ble_eq_true rfl)⟩ dX8_sheet_2 rfl rfl (Nat.le_of_ble_eq_true rfl) ⟨(Nat.le_of_ble_eq_true rfl), (Nat.le_of_ble_eq_true rfl)⟩ ?_
    first | refine S_astore (L' := [(0, _), (2, _), (3, _), (4, _)]) dX8_sheet_5 rfl rfl ?_ | refine S_astoreN (L' := [(0, _), (2, _), (3, _), (4, _)]) dX8_sheet_5 rfl rfl ?_
    first | refine V_aload dX8_sheet_7 rfl ?_ | refine V_aloadN dX8_sheet_7 rfl ?_
    refine V_ifnullN (tgt := 25) dX8_sheet_9 (by decide) ?_
    refine V_bipush (v := -2) dX8_sheet_25 (by decide) ?_
    refine V_iret rfl dX8_sheet_27 (Nat.le_of_ble_eq_true rfl) (Nat.le_of_ble_eq_true rfl) ?_
    exact ⟨_, rfl, by unfold oSheet; rw [if_neg (fun q => hx q.1)], by unfold oSheet; rw [if_neg (fun q => hx q.1)]; exact z0, Keep.refl _ _⟩

set_option maxRecDepth 100000 in
theorem c_X8_lose (z : St) (x : Int32) (w : Wd) (z0 : RX z w) : Cc yX8_lose mX8_lose [.ref 20, .int x] w (fun r w' => ∃ v, r = some v ∧ (v = .int (oLose z x).1 ∧ RX (oLose z x).2 w' ∧ Keep clA w w')) := by
  refine Cc.of (by decide) rfl rfl (Nat.le_of_ble_eq_true rfl) (fun X => ?_)
  change V _ X _ 0 [(0, _), (1, _)] [] _ (0, 0)
  by_cases hx : isS x
  · obtain ⟨s, hs, rfl⟩ := isS_n hx
    have hsN : bN (nI s) = s := bN_nI (by omega)
    first | refine V_aload_n dX8_lose_0 rfl rfl ?_ | refine V_aload_nN dX8_lose_0 rfl rfl ?_
    refine V_iload_n dX8_lose_1 rfl rfl ?_
    refine V_callV (As := [_]) (st := _) (c_X8_findSheet_s s w z0.1.1.1 hs) kX8_218 (by first | exact z0.1.1.1.k _ rfl rfl | exact z0.1.1.1.ks hs | exact z0.1.1.1.ki hs) ⟨rfl, rfl, rfl⟩ ⟨(Nat.le_of_ble_eq_true rfl), (Nat.le_of_ble_eq_true rfl)⟩ dX8_lose_2 rfl rfl (Nat.le_of_ble_eq_true rfl) ⟨(Nat.le_of_ble_eq_true rfl), (Nat.le_of_ble_eq_true rfl)⟩ ?_
    first | refine S_astore_n (L' := [(0, _), (2, _)]) dX8_lose_5 rfl rfl rfl ?_ | refine S_astore_nN (L' := [(0, _), (2, _)]) dX8_lose_5 rfl rfl rfl ?_
    first | refine V_aload_n dX8_lose_6 rfl rfl ?_ | refine V_aload_nN dX8_lose_6 rfl rfl ?_
    refine V_ifnonnull (tgt := 13) dX8_lose_7 (by decide) ?_
    first | refine V_aload_n dX8_lose_13 rfl rfl ?_ | refine V_aload_nN dX8_lose_13 rfl rfl ?_
    refine G_geti (by first | exact z0.1.1.1.k _ rfl rfl | exact z0.1.1.1.ks hs | exact z0.1.1.1.ki hs) fX8_233 dX8_lose_14 (by exact (z0.2.2.2.2.1.2 s hs).2.2.1) ?_
    refine V_if_eq (tgt := 26) dX8_lose_17 (by decide) (fun c17 => ?_) (fun c17 => ?_)
    · first | refine V_aload_n dX8_lose_26 rfl rfl ?_ | refine V_aload_nN dX8_lose_26 rfl rfl ?_
      refine V_iconst (v := 1) dX8_lose_27 (by decide) ?_
      refine V_puti (by first | exact z0.1.1.1.k _ rfl rfl | exact z0.1.1.1.ks hs | exact z0.1.1.1.ki hs) pfX8_233 (fun h => nomatch h) dX8_lose_28 ⟨rfl, rfl⟩ ?_
      first | refine V_aload_n dX8_lose_31 rfl rfl ?_ | refine V_aload_nN dX8_lose_31 rfl rfl ?_
      refine G_geti (by first | exact z0.1.1.1.k _ rfl rfl | exact z0.1.1.1.ks hs | exact z0.1.1.1.ki hs) fX8_237 dX8_lose_32 (by exact (rdI_ne (by decide)).trans (z0.2.2.2.2.1.2 s hs).2.1) ?_
      refine V_iret rfl dX8_lose_35 (Nat.le_of_ble_eq_true rfl) (Nat.le_of_ble_eq_true rfl) ?_
      obtain ⟨f, hf⟩ := loI_0 c17
      have e : oLose z (nI s) = (nI ((zH z).2.1 s), pH z (va_up (zH z).1 s none, (zH z).2) (zF z)) := by
        unfold oLose
        rw [if_pos hx, hsN, if_neg (by rw [hf]; exact fun q => by cases q)]
      exact ⟨_, rfl, by rw [e], by rw [e]; exact z0.setS (Keep.sI w (by unfold siA; omega) 1 _) (z0.2.2.2.2.1.lose hs), Keep.sI w (by unfold clA; omega) 1 _⟩
    · first | refine V_aload_n dX8_lose_20 rfl rfl ?_ | refine V_aload_nN dX8_lose_20 rfl rfl ?_
      refine V_iconst (v := 1) dX8_lose_21 (by decide) ?_
      refine V_callV (As := [_]) (st := _) (c_X8_found (nI 1) w z0.1.1.1) kX8_225 (by first | exact z0.1.1.1.k _ rfl rfl | exact z0.1.1.1.ks hs | exact z0.1.1.1.ki hs) ⟨rfl, rfl, rfl⟩ ⟨(Nat.le_of_ble_eq_true rfl), (Nat.le_of_ble_eq_true rfl)⟩ dX8_lose_22 rfl rfl (Nat.le_of_ble_eq_true rfl) ⟨(Nat.le_of_ble_eq_true rfl), (Nat.le_of_ble_eq_true rfl)⟩ ?_
      refine V_iret rfl dX8_lose_25 (Nat.le_of_ble_eq_true rfl) (Nat.le_of_ble_eq_true rfl) ?_
      have e : oLose z (nI s) = fnd z 1 := by
        unfold oLose
        rw [if_pos hx, hsN, if_pos (loI_1 c17)]
      exact ⟨_, rfl, by rw [e]; rfl, by rw [e]; exact z0.fnd (by decide), Keep.sI w (by unfold clA; omega) 5 _⟩
  · first | refine V_aload_n dX8_lose_0 rfl rfl ?_ | refine V_aload_nN dX8_lose_0 rfl rfl ?_
    refine V_iload_n dX8_lose_1 rfl rfl ?_
    refine V_callV (As := [_]) (st := _) (c_X8_findSheet_n x w z0.1.1.1 hx) kX8_218 (by first | exact z0.1.1.1.k _ rfl rfl | exact z0.1.1.kb hb) ⟨rfl, rfl, rfl⟩ ⟨(Nat.le_of_ble_eq_true rfl), (Nat.le_of_ble_eq_true rfl)⟩ dX8_lose_2 rfl rfl (Nat.le_of_ble_eq_true rfl) ⟨(Nat.le_of_ble_eq_true rfl), (Nat.le_of_ble_eq_true rfl)⟩ ?_
    first | refine S_astore_n (L' := [(0, _), (2, _)]) dX8_lose_5 rfl rfl rfl ?_ | refine S_astore_nN (L' := [(0, _), (2, _)]) dX8_lose_5 rfl rfl rfl ?_
    first | refine V_aload_n dX8_lose_6 rfl rfl ?_ | refine V_aload_nN dX8_lose_6 rfl rfl ?_
    refine V_ifnonnullN dX8_lose_7 ?_
    refine V_bipush (v := -2) dX8_lose_10 (by decide) ?_
    refine V_iret rfl dX8_lose_12 (Nat.le_of_ble_eq_true rfl) (Nat.le_of_ble_eq_true rfl) ?_
    exact ⟨_, rfl, by unfold oLose; rw [if_neg hx], by unfold oLose; rw [if_neg hx]; exact z0, Keep.refl _ _⟩

set_option maxRecDepth 100000 in
theorem c_X8_put (z : St) (x f i p : Int32) (w : Wd) (z0 : RX z w) : Cc yX8_put mX8_put [.ref 20, .int x, .int f, .int i, .int p] w (fun r w' => ∃ v, r = some v ∧ (v = .int (oPut z x f i p).1 ∧ RX (oPut z x f i p).2 w' ∧ Keep clA w w')) := by
  refine Cc.of (by decide) rfl rfl (Nat.le_of_ble_eq_true rfl) (fun X => ?_)
  change V _ X _ 0 [(0, _), (1, _), (2, _), (3, _), (4, _)] [] _ (0, 0)
  by_cases hx : isS x
  · obtain ⟨s, hs, rfl⟩ := isS_n hx
    have hsN : bN (nI s) = s := bN_nI (by omega)
    first | refine V_aload_n dX8_put_0 rfl rfl ?_ | refine V_aload_nN dX8_put_0 rfl rfl ?_
    refine V_iload_n dX8_put_1 rfl rfl ?_
    refine V_callV (As := [_]) (st := _) (c_X8_findSheet_s s w z0.1.1.1 hs) kX8_218 (by first | exact z0.1.1.1.k _ rfl rfl | exact z0.1.1.1.ks hs | exact z0.1.1.1.ki hs) ⟨rfl, rfl, rfl⟩ ⟨(Nat.le_of_ble_eq_true rfl), (Nat.le_of_ble_eq_true rfl)⟩ dX8_put_2 rfl rfl (Nat.le_of_ble_eq_true rfl) ⟨(Nat.le_of_ble_eq_true rfl), (Nat.le_of_ble_eq_true rfl)⟩ ?_
    first | refine S_astore (L' := [(0, _), (2, _), (3, _), (4, _), (5, _)]) dX8_put_5 rfl rfl ?_ | refine S_astoreN (L' := [(0, _), (2, _), (3, _), (4, _), (5, _)]) dX8_put_5 rfl rfl ?_
    first | refine V_aload dX8_put_7 rfl ?_ | refine V_aloadN dX8_put_7 rfl ?_
    refine V_ifnull dX8_put_9 ?_
    refine V_iload_n dX8_put_12 rfl rfl ?_
    refine V_callS (As := [_]) (st := _) (c_X8_isForm _ _) kX8_222 ⟨rfl, rfl, rfl⟩ ⟨(Nat.le_of_ble_eq_true rfl), (Nat.le_of_ble_eq_true rfl)⟩ dX8_put_13 rfl rfl (Nat.le_of_ble_eq_true rfl) ⟨(Nat.le_of_ble_eq_true rfl), (Nat.le_of_ble_eq_true rfl)⟩ ?_
    refine V_if_ne (tgt := 22) dX8_put_16 (by decide) (fun c16 => ?_) (fun c16 => ?_)
    · first | refine V_aload dX8_put_22 rfl ?_ | refine V_aloadN dX8_put_22 rfl ?_
      refine V_iload_n dX8_put_24 rfl rfl ?_
      refine V_iload_n dX8_put_25 rfl rfl ?_
      refine V_callV (As := [_, _]) (st := _) (c_X5_wrongItem (zH z) s f i w z0.2.2.2.2.1 hs) kX8_238 (by first | exact z0.1.1.1.k _ rfl rfl | exact z0.1.1.1.ks hs | exact z0.1.1.1.ki hs) ⟨rfl, rfl, rfl⟩ ⟨(Nat.le_of_ble_eq_true rfl), (Nat.le_of_ble_eq_true rfl)⟩ dX8_put_26 rfl rfl (Nat.le_of_ble_eq_true rfl) ⟨(Nat.le_of_ble_eq_true rfl), (Nat.le_of_ble_eq_true rfl)⟩ ?_
      refine S_istore (L' := [(0, _), (3, _), (4, _), (5, _), (6, _)]) dX8_put_29 rfl rfl ?_
      refine V_iload dX8_put_31 rfl ?_
      refine V_if_eq (tgt := 43) dX8_put_33 (by decide) (fun c33 => ?_) (fun c33 => ?_)
      · have hw : wrZ z s f i = 0 := (nI_z (Nat.le_trans (wrI_le _ _ _ _) (by decide))).mp c33
        obtain ⟨g, hg1, hg2, hi1, hi⟩ := wrI_0 hw
        have hi2 : bN i < (zH z).2.1 s := by have e : bN i = i.toInt.toNat := rfl; omega
        refine V_sub (L' := [(0, .ref 20), (3, .int (nI (bN i))), (4, .int p), (5, .ref (60 + s))]) (by rw [← i32_nat hi1]; rfl) ?_
        first | refine V_aload dX8_put_43 rfl ?_ | refine V_aloadN dX8_put_43 rfl ?_
        refine V_iload_n dX8_put_45 rfl rfl ?_
        refine V_iload dX8_put_46 rfl ?_
        refine V_callVv (As := [_, _]) (st := _) (c_X5_store (zH z) s g (bN i) p w z0.2.2.2.2.1 hs hg1 hi2) kX8_242 (by first | exact z0.1.1.1.k _ rfl rfl | exact z0.1.1.1.ks hs | exact z0.1.1.1.ki hs) ⟨rfl, rfl, rfl⟩ ⟨(Nat.le_of_ble_eq_true rfl), (Nat.le_of_ble_eq_true rfl)⟩ dX8_put_48 rfl rfl (Nat.le_of_ble_eq_true rfl) ⟨(Nat.le_of_ble_eq_true rfl), (Nat.le_of_ble_eq_true rfl)⟩ ?_
        refine V_iconst (v := 1) dX8_put_51 (by decide) ?_
        refine V_iret rfl dX8_put_52 (Nat.le_of_ble_eq_true rfl) (Nat.le_of_ble_eq_true rfl) ?_
        have hgf : bN f = g := by rw [← hg2]; exact bN_nI (by have := ((z0.2.2.2.2.1.2 s hs).2.2.2 g hg1).1; omega)
        have e : oPut z (nI s) f i p = (1, pH z (stH (zH z) s (bN i) (cutF g p)) (zF z)) := by
          unfold oPut
          rw [if_pos ⟨hx, b01_1 c16⟩, hsN, if_pos hw, hgf]
        exact ⟨_, rfl, by rw [e], by rw [e]; exact z0.setS (Keep.sI w (by unfold siA; omega) _ _) (z0.2.2.2.2.1.store hs), Keep.sI w (by unfold clA; omega) _ _⟩
      · first | refine V_aload_n dX8_put_36 rfl rfl ?_ | refine V_aload_nN dX8_put_36 rfl rfl ?_
        refine V_iload dX8_put_37 rfl ?_
        refine V_callV (As := [_]) (st := _) (c_X8_found (nI _) w z0.1.1.1) kX8_225 (by first | exact z0.1.1.1.k _ rfl rfl | exact z0.1.1.1.ks hs | exact z0.1.1.1.ki hs) ⟨rfl, rfl, rfl⟩ ⟨(Nat.le_of_ble_eq_true rfl), (Nat.le_of_ble_eq_true rfl)⟩ dX8_put_39 rfl rfl (Nat.le_of_ble_eq_true rfl) ⟨(Nat.le_of_ble_eq_true rfl), (Nat.le_of_ble_eq_true rfl)⟩ ?_
        refine V_iret rfl dX8_put_42 (Nat.le_of_ble_eq_true rfl) (Nat.le_of_ble_eq_true rfl) ?_
        have hw : ¬ wrZ z s f i = 0 := fun q => c33 (by unfold wrZ at q; rw [q]; rfl)
        have e : oPut z (nI s) f i p = fnd z (wrZ z s f i) := by
          unfold oPut
          rw [if_pos ⟨hx, b01_1 c16⟩, hsN, if_neg hw]
        exact ⟨_, rfl, by rw [e]; rfl, by rw [e]; exact z0.fnd (Nat.le_trans (wrI_le _ _ _ _) (by decide)), Keep.sI w (by unfold clA; omega) 5 _⟩
    · refine V_bipush (v := -2) dX8_put_19 (by decide) ?_
      refine V_iret rfl dX8_put_21 (Nat.le_of_ble_eq_true rfl) (Nat.le_of_ble_eq_true rfl) ?_
      exact ⟨_, rfl, by unfold oPut; rw [if_neg (fun q => b01_0 c16 q.2)], by unfold oPut; rw [if_neg (fun q => b01_0 c16 q.2)]; exact z0, Keep.refl _ _⟩
  · first | refine V_aload_n dX8_put_0 rfl rfl ?_ | refine V_aload_nN dX8_put_0 rfl rfl ?_
    refine V_iload_n dX8_put_1 rfl rfl ?_
    refine V_callV (As := [_]) (st := _) (c_X8_findSheet_n x w z0.1.1.1 hx) kX8_218 (by first | exact z0.1.1.1.k _ rfl rfl | exact z0.1.1.kb hb) ⟨rfl, rfl, rfl⟩ ⟨(Nat.le_of_ble_eq_true rfl), (Nat.le_of_ble_eq_true rfl)⟩ dX8_put_2 rfl rfl (Nat.le_of_ble_eq_true rfl) ⟨(Nat.le_of_ble_eq_true rfl), (Nat.le_of_ble_eq_true rfl)⟩ ?_
    first | refine S_astore (L' := [(0, _), (2, _), (3, _), (4, _), (5, _)]) dX8_put_5 rfl rfl ?_ | refine S_astoreN (L' := [(0, _), (2, _), (3, _), (4, _), (5, _)]) dX8_put_5 rfl rfl ?_
    first | refine V_aload dX8_put_7 rfl ?_ | refine V_aloadN dX8_put_7 rfl ?_
    refine V_ifnullN (tgt := 19) dX8_put_9 (by decide) ?_
    refine V_bipush (v := -2) dX8_put_19 (by decide) ?_
    refine V_iret rfl dX8_put_21 (Nat.le_of_ble_eq_true rfl) (Nat.le_of_ble_eq_true rfl) ?_
    exact ⟨_, rfl, by unfold oPut; rw [if_neg (fun q => hx q.1)], by unfold oPut; rw [if_neg (fun q => hx q.1)]; exact z0, Keep.refl _ _⟩

set_option maxRecDepth 100000 in
theorem c_X8_get (z : St) (x f i : Int32) (w : Wd) (z0 : RX z w) : Cc yX8_get mX8_get [.ref 20, .int x, .int f, .int i] w (fun r w' => ∃ v, r = some v ∧ (v = .int (oGet z x f i).1 ∧ RX (oGet z x f i).2 w' ∧ Keep clA w w')) := by
  refine Cc.of (by decide) rfl rfl (Nat.le_of_ble_eq_true rfl) (fun X => ?_)
  change V _ X _ 0 [(0, _), (1, _), (2, _), (3, _)] [] _ (0, 0)
  by_cases hx : isS x
  · obtain ⟨s, hs, rfl⟩ := isS_n hx
    have hsN : bN (nI s) = s := bN_nI (by omega)
    first | refine V_aload_n dX8_get_0 rfl rfl ?_ | refine V_aload_nN dX8_get_0 rfl rfl ?_
    refine V_iload_n dX8_get_1 rfl rfl ?_
    refine V_callV (As := [_]) (st := _) (c_X8_findSheet_s s w z0.1.1.1 hs) kX8_218 (by first | exact z0.1.1.1.k _ rfl rfl | exact z0.1.1.1.ks hs | exact z0.1.1.1.ki hs) ⟨rfl, rfl, rfl⟩ ⟨(Nat.le_of_ble_eq_true rfl), (Nat.le_of_ble_eq_true rfl)⟩ dX8_get_2 rfl rfl (Nat.le_of_ble_eq_true rfl) ⟨(Nat.le_of_ble_eq_true rfl), (Nat.le_of_ble_eq_true rfl)⟩ ?_
    first | refine S_astore (L' := [(0, _), (2, _), (3, _), (4, _)]) dX8_get_5 rfl rfl ?_ | refine S_astoreN (L' := [(0, _), (2, _), (3, _), (4, _)]) dX8_get_5 rfl rfl ?_
    first | refine V_aload dX8_get_7 rfl ?_ | refine V_aloadN dX8_get_7 rfl ?_
    refine V_ifnull dX8_get_9 ?_
    refine V_iload_n dX8_get_12 rfl rfl ?_
    refine V_callS (As := [_]) (st := _) (c_X8_isForm _ _) kX8_222 ⟨rfl, rfl, rfl⟩ ⟨(Nat.le_of_ble_eq_true rfl), (Nat.le_of_ble_eq_true rfl)⟩ dX8_get_13 rfl rfl (Nat.le_of_ble_eq_true rfl) ⟨(Nat.le_of_ble_eq_true rfl), (Nat.le_of_ble_eq_true rfl)⟩ ?_
    refine V_if_ne (tgt := 22) dX8_get_16 (by decide) (fun c16 => ?_) (fun c16 => ?_)
    · first | refine V_aload dX8_get_22 rfl ?_ | refine V_aloadN dX8_get_22 rfl ?_
      refine V_iload_n dX8_get_24 rfl rfl ?_
      refine V_iload_n dX8_get_25 rfl rfl ?_
      refine V_callV (As := [_, _]) (st := _) (c_X5_wrongItem (zH z) s f i w z0.2.2.2.2.1 hs) kX8_238 (by first | exact z0.1.1.1.k _ rfl rfl | exact z0.1.1.1.ks hs | exact z0.1.1.1.ki hs) ⟨rfl, rfl, rfl⟩ ⟨(Nat.le_of_ble_eq_true rfl), (Nat.le_of_ble_eq_true rfl)⟩ dX8_get_26 rfl rfl (Nat.le_of_ble_eq_true rfl) ⟨(Nat.le_of_ble_eq_true rfl), (Nat.le_of_ble_eq_true rfl)⟩ ?_
      refine S_istore (L' := [(0, _), (3, _), (4, _), (5, _)]) dX8_get_29 rfl rfl ?_
      refine V_iload dX8_get_31 rfl ?_
      refine V_if_eq (tgt := 45) dX8_get_33 (by decide) (fun c33 => ?_) (fun c33 => ?_)
      · have hw : wrZ z s f i = 0 := (nI_z (Nat.le_trans (wrI_le _ _ _ _) (by decide))).mp c33
        obtain ⟨g, hg1, hg2, hi1, hi⟩ := wrI_0 hw
        have hi2 : bN i < (zH z).2.1 s := by have e : bN i = i.toInt.toNat := rfl; omega
        first | refine V_aload dX8_get_45 rfl ?_ | refine V_aloadN dX8_get_45 rfl ?_
        first | refine V_getr (by first | exact z0.1.1.1.k _ rfl rfl | exact z0.1.1.1.ks hs | exact z0.1.1.1.ki hs) fX8_246 dX8_get_47 (by first | exact z0.1.1.1.r _ _ rfl | exact z0.1.1.1.ri hs) ?_ | refine V_getrN (by first | exact z0.1.1.1.k _ rfl rfl | exact z0.1.1.1.ks hs | exact z0.1.1.1.ki hs) fX8_246 dX8_get_47 (by first | exact z0.1.1.1.r _ _ rfl | exact z0.1.1.1.ri hs) ?_
        refine V_iload_n dX8_get_50 rfl rfl ?_
        refine G_iald (j := bN i) (by first | exact z0.1.1.1.k _ rfl rfl | exact z0.1.1.1.ks hs | exact z0.1.1.1.ki hs) (by exact i32_nat hi1) (by rw [z0.1.1.1.ni hs]; exact Nat.lt_of_lt_of_le hi2 (z0.2.2.2.2.1.2 s hs).1) (by rw [z0.1.1.1.ni hs]; decide) dX8_get_51 (by exact ((z0.2.2.2.2.1.2 s hs).2.2.2 g hg1).2.2 (bN i) hi2) ?_
        refine V_iret rfl dX8_get_52 (Nat.le_of_ble_eq_true rfl) (Nat.le_of_ble_eq_true rfl) ?_
        have e : oGet z (nI s) f i = ((zH z).2.2 s (bN i), z) := by
          unfold oGet
          rw [if_pos ⟨hx, b01_1 c16⟩, hsN, if_pos hw]
        exact ⟨_, rfl, by rw [e], by rw [e]; exact z0, Keep.refl _ _⟩
      · first | refine V_aload_n dX8_get_36 rfl rfl ?_ | refine V_aload_nN dX8_get_36 rfl rfl ?_
        refine V_iload dX8_get_37 rfl ?_
        refine V_puti (by first | exact z0.1.1.1.k _ rfl rfl | exact z0.1.1.1.ks hs | exact z0.1.1.1.ki hs) pfX8_43 (fun h => nomatch h) dX8_get_39 ⟨rfl, rfl⟩ ?_
        refine V_ldc ctX8_245 dX8_get_42 ?_
        refine V_iret rfl dX8_get_44 (Nat.le_of_ble_eq_true rfl) (Nat.le_of_ble_eq_true rfl) ?_
        have hw : ¬ wrZ z s f i = 0 := fun q => c33 (by unfold wrZ at q; rw [q]; rfl)
        have e : oGet z (nI s) f i = (-2147483648, pH z (zH z) (wrZ z s f i)) := by
          unfold oGet
          rw [if_pos ⟨hx, b01_1 c16⟩, hsN, if_neg hw]
        exact ⟨_, rfl, by rw [e], by rw [e]; exact z0.fnd (Nat.le_trans (wrI_le _ _ _ _) (by decide)), Keep.sI w (by unfold clA; omega) 5 _⟩
    · refine V_ldc ctX8_245 dX8_get_19 ?_
      refine V_iret rfl dX8_get_21 (Nat.le_of_ble_eq_true rfl) (Nat.le_of_ble_eq_true rfl) ?_
      exact ⟨_, rfl, by unfold oGet; rw [if_neg (fun q => b01_0 c16 q.2)], by unfold oGet; rw [if_neg (fun q => b01_0 c16 q.2)]; exact z0, Keep.refl _ _⟩
  · first | refine V_aload_n dX8_get_0 rfl rfl ?_ | refine V_aload_nN dX8_get_0 rfl rfl ?_
    refine V_iload_n dX8_get_1 rfl rfl ?_
    refine V_callV (As := [_]) (st := _) (c_X8_findSheet_n x w z0.1.1.1 hx) kX8_218 (by first | exact z0.1.1.1.k _ rfl rfl | exact z0.1.1.kb hb) ⟨rfl, rfl, rfl⟩ ⟨(Nat.le_of_ble_eq_true rfl), (Nat.le_of_ble_eq_true rfl)⟩ dX8_get_2 rfl rfl (Nat.le_of_ble_eq_true rfl) ⟨(Nat.le_of_ble_eq_true rfl), (Nat.le_of_ble_eq_true rfl)⟩ ?_
    first | refine S_astore (L' := [(0, _), (2, _), (3, _), (4, _)]) dX8_get_5 rfl rfl ?_ | refine S_astoreN (L' := [(0, _), (2, _), (3, _), (4, _)]) dX8_get_5 rfl rfl ?_
    first | refine V_aload dX8_get_7 rfl ?_ | refine V_aloadN dX8_get_7 rfl ?_
    refine V_ifnullN (tgt := 19) dX8_get_9 (by decide) ?_
    refine V_ldc ctX8_245 dX8_get_19 ?_
    refine V_iret rfl dX8_get_21 (Nat.le_of_ble_eq_true rfl) (Nat.le_of_ble_eq_true rfl) ?_
    exact ⟨_, rfl, by unfold oGet; rw [if_neg (fun q => hx q.1)], by unfold oGet; rw [if_neg (fun q => hx q.1)]; exact z0, Keep.refl _ _⟩

set_option maxRecDepth 100000 in
theorem c_X8_pose (z : St) (x i : Int32) (w : Wd) (z0 : RX z w) : Cc yX8_pose mX8_pose [.ref 20, .int x, .int i] w (fun r w' => ∃ v, r = some v ∧ (v = .int (oPose z x i).1 ∧ RX (oPose z x i).2 w' ∧ Keep clA w w')) := by
  refine Cc.of (by decide) rfl rfl (Nat.le_of_ble_eq_true rfl) (fun X => ?_)
  change V _ X _ 0 [(0, _), (1, _), (2, _)] [] _ (0, 0)
  by_cases hx : isS x
  · obtain ⟨s, hs, rfl⟩ := isS_n hx
    have hsN : bN (nI s) = s := bN_nI (by omega)
    first | refine V_aload_n dX8_pose_0 rfl rfl ?_ | refine V_aload_nN dX8_pose_0 rfl rfl ?_
    refine V_iload_n dX8_pose_1 rfl rfl ?_
    refine V_callV (As := [_]) (st := _) (c_X8_findSheet_s s w z0.1.1.1 hs) kX8_218 (by first | exact z0.1.1.1.k _ rfl rfl | exact z0.1.1.1.ks hs | exact z0.1.1.1.ki hs) ⟨rfl, rfl, rfl⟩ ⟨(Nat.le_of_ble_eq_true rfl), (Nat.le_of_ble_eq_true rfl)⟩ dX8_pose_2 rfl rfl (Nat.le_of_ble_eq_true rfl) ⟨(Nat.le_of_ble_eq_true rfl), (Nat.le_of_ble_eq_true rfl)⟩ ?_
    first | refine S_astore_n (L' := [(0, _), (2, _), (3, _)]) dX8_pose_5 rfl rfl rfl ?_ | refine S_astore_nN (L' := [(0, _), (2, _), (3, _)]) dX8_pose_5 rfl rfl rfl ?_
    first | refine V_aload_n dX8_pose_6 rfl rfl ?_ | refine V_aload_nN dX8_pose_6 rfl rfl ?_
    refine V_ifnonnull (tgt := 13) dX8_pose_7 (by decide) ?_
    first | refine V_aload_n dX8_pose_13 rfl rfl ?_ | refine V_aload_nN dX8_pose_13 rfl rfl ?_
    refine V_iload_n dX8_pose_14 rfl rfl ?_
    first | refine V_aload_n dX8_pose_15 rfl rfl ?_ | refine V_aload_nN dX8_pose_15 rfl rfl ?_
    first | refine V_getr (by first | exact z0.1.1.1.k _ rfl rfl | exact z0.1.1.1.ks hs | exact z0.1.1.1.ki hs) fX8_12 dX8_pose_16 (by first | exact z0.1.1.1.r _ _ rfl | exact z0.1.1.1.ri hs) ?_ | refine V_getrN (by first | exact z0.1.1.1.k _ rfl rfl | exact z0.1.1.1.ks hs | exact z0.1.1.1.ki hs) fX8_12 dX8_pose_16 (by first | exact z0.1.1.1.r _ _ rfl | exact z0.1.1.1.ri hs) ?_
    refine G_geti (by first | exact z0.1.1.1.k _ rfl rfl | exact z0.1.1.1.ks hs | exact z0.1.1.1.ki hs) fX8_71 dX8_pose_19 (by exact z0.1.1.size) ?_
    refine V_callV (As := [_, _]) (st := _) (c_X5_wrongPose (zH z) s i (nI (kN (zK z))) w z0.2.2.2.2.1 hs) kX8_262 (by first | exact z0.1.1.1.k _ rfl rfl | exact z0.1.1.1.ks hs | exact z0.1.1.1.ki hs) ⟨rfl, rfl, rfl⟩ ⟨(Nat.le_of_ble_eq_true rfl), (Nat.le_of_ble_eq_true rfl)⟩ dX8_pose_22 rfl rfl (Nat.le_of_ble_eq_true rfl) ⟨(Nat.le_of_ble_eq_true rfl), (Nat.le_of_ble_eq_true rfl)⟩ ?_
    refine S_istore (L' := [(0, _), (2, _), (3, _), (4, _)]) dX8_pose_25 rfl rfl ?_
    refine V_iload dX8_pose_27 rfl ?_
    refine V_if_eq (tgt := 39) dX8_pose_29 (by decide) (fun c29 => ?_) (fun c29 => ?_)
    · have hw : wpZ z s i = 0 := (nI_z (Nat.le_trans (wrP_le _ _ _ _) (by decide))).mp c29
      obtain ⟨g, hg1, hi1, hi2, hi3⟩ := wrP_0 hw
      have h10 := z0.1.1.n10
      rw [nI_toInt (show kN (zK z) < 2 ^ 31 by omega)] at hi3
      have h60 := (z0.2.2.2.2.1.2 s hs).1
      have hbi : bN i = i.toInt.toNat := rfl
      refine V_sub (L' := [(0, .ref 20), (2, .int (nI (bN i))), (3, .ref (60 + s))]) (by rw [← i32_nat hi1]; rfl) ?_
      first | refine V_aload_n dX8_pose_39 rfl rfl ?_ | refine V_aload_nN dX8_pose_39 rfl rfl ?_
      first | refine V_getr (by first | exact z0.1.1.1.k _ rfl rfl | exact z0.1.1.1.ks hs | exact z0.1.1.1.ki hs) fX8_12 dX8_pose_40 (by first | exact z0.1.1.1.r _ _ rfl | exact z0.1.1.1.ri hs) ?_ | refine V_getrN (by first | exact z0.1.1.1.k _ rfl rfl | exact z0.1.1.1.ks hs | exact z0.1.1.1.ki hs) fX8_12 dX8_pose_40 (by first | exact z0.1.1.1.r _ _ rfl | exact z0.1.1.1.ri hs) ?_
      first | refine V_aload_n dX8_pose_43 rfl rfl ?_ | refine V_aload_nN dX8_pose_43 rfl rfl ?_
      first | refine V_getr (by first | exact z0.1.1.1.k _ rfl rfl | exact z0.1.1.1.ks hs | exact z0.1.1.1.ki hs) fX8_246 dX8_pose_44 (by first | exact z0.1.1.1.r _ _ rfl | exact z0.1.1.1.ri hs) ?_ | refine V_getrN (by first | exact z0.1.1.1.k _ rfl rfl | exact z0.1.1.1.ks hs | exact z0.1.1.1.ki hs) fX8_246 dX8_pose_44 (by first | exact z0.1.1.1.r _ _ rfl | exact z0.1.1.1.ri hs) ?_
      refine V_iload_n dX8_pose_47 rfl rfl ?_
      refine V_callVr (As := [_, _]) (st := _) (c_X6_takeItems (zK z) (70 + s) (bN i) w z0.1 (z0.1.1.1.ki hs) (by rw [z0.1.1.1.ni hs]; omega) (by rw [z0.1.1.1.ni hs]; decide) (by unfold skA; omega)) kX8_265 (by first | exact z0.1.1.1.k _ rfl rfl | exact z0.1.1.1.ks hs | exact z0.1.1.1.ki hs) ⟨rfl, rfl, rfl⟩ ⟨(Nat.le_of_ble_eq_true rfl), (Nat.le_of_ble_eq_true rfl)⟩ dX8_pose_48 rfl rfl (Nat.le_of_ble_eq_true rfl) ⟨(Nat.le_of_ble_eq_true rfl), (Nat.le_of_ble_eq_true rfl)⟩ (fun v1 w1 hw1 => ?_)
      obtain ⟨e2, a1, a2⟩ := hw1
      subst e2
      refine V_iret rfl dX8_pose_51 (Nat.le_of_ble_eq_true rfl) (Nat.le_of_ble_eq_true rfl) ?_
      have hit : ∀ j, j < kN (zK z) → rN (wI w (70 + s) (bN i + j)) = itZ z s (bN i) j := fun j hj => congrArg rN (((z0.2.2.2.2.1.2 s hs).2.2.2 g hg1).2.2 (bN i + j) (by omega))
      have e3 : cntF (ouT (zK z) (fun j => rN (wI w (70 + s) (bN i + j)))) (kN (zK z)) = cntF (ouT (zK z) (itZ z s (bN i))) (kN (zK z)) := cntF_congr _ (fun j hj => by unfold ouT; simp only [hit j hj])
      have e4 : mixT (kN (zK z)) (inT (zK z) (fun j => rN (wI w (70 + s) (bN i + j)))) (kTrn (zK z)) = mixT (kN (zK z)) (inT (zK z) (itZ z s (bN i))) (kTrn (zK z)) := mixT_congr (fun j hj => by unfold inT; simp only [hit j hj])
      rw [e4] at a2
      rw [e3]
      have e : oPose z (nI s) i = (nI (cntF (ouT (zK z) (itZ z s (bN i))) (kN (zK z))), pK z (setP (zK z) (mixT (kN (zK z)) (inT (zK z) (itZ z s (bN i))) (kTrn (zK z))))) := by
        unfold oPose
        rw [if_pos hx, hsN, if_pos hw]
      exact ⟨_, rfl, by rw [e], by rw [e]; exact z0.setK a1 a2 (setP_n _ _), a1.mono (fun a => by unfold skA clA; omega)⟩
    · first | refine V_aload_n dX8_pose_32 rfl rfl ?_ | refine V_aload_nN dX8_pose_32 rfl rfl ?_
      refine V_iload dX8_pose_33 rfl ?_
      refine V_callV (As := [_]) (st := _) (c_X8_found (nI _) w z0.1.1.1) kX8_225 (by first | exact z0.1.1.1.k _ rfl rfl | exact z0.1.1.1.ks hs | exact z0.1.1.1.ki hs) ⟨rfl, rfl, rfl⟩ ⟨(Nat.le_of_ble_eq_true rfl), (Nat.le_of_ble_eq_true rfl)⟩ dX8_pose_35 rfl rfl (Nat.le_of_ble_eq_true rfl) ⟨(Nat.le_of_ble_eq_true rfl), (Nat.le_of_ble_eq_true rfl)⟩ ?_
      refine V_iret rfl dX8_pose_38 (Nat.le_of_ble_eq_true rfl) (Nat.le_of_ble_eq_true rfl) ?_
      have hw : ¬ wpZ z s i = 0 := fun q => c29 (by unfold wpZ at q; rw [q]; rfl)
      have e : oPose z (nI s) i = fnd z (wpZ z s i) := by
        unfold oPose
        rw [if_pos hx, hsN, if_neg hw]
      exact ⟨_, rfl, by rw [e]; rfl, by rw [e]; exact z0.fnd (Nat.le_trans (wrP_le _ _ _ _) (by decide)), Keep.sI w (by unfold clA; omega) 5 _⟩
  · first | refine V_aload_n dX8_pose_0 rfl rfl ?_ | refine V_aload_nN dX8_pose_0 rfl rfl ?_
    refine V_iload_n dX8_pose_1 rfl rfl ?_
    refine V_callV (As := [_]) (st := _) (c_X8_findSheet_n x w z0.1.1.1 hx) kX8_218 (by first | exact z0.1.1.1.k _ rfl rfl | exact z0.1.1.kb hb) ⟨rfl, rfl, rfl⟩ ⟨(Nat.le_of_ble_eq_true rfl), (Nat.le_of_ble_eq_true rfl)⟩ dX8_pose_2 rfl rfl (Nat.le_of_ble_eq_true rfl) ⟨(Nat.le_of_ble_eq_true rfl), (Nat.le_of_ble_eq_true rfl)⟩ ?_
    first | refine S_astore_n (L' := [(0, _), (2, _), (3, _)]) dX8_pose_5 rfl rfl rfl ?_ | refine S_astore_nN (L' := [(0, _), (2, _), (3, _)]) dX8_pose_5 rfl rfl rfl ?_
    first | refine V_aload_n dX8_pose_6 rfl rfl ?_ | refine V_aload_nN dX8_pose_6 rfl rfl ?_
    refine V_ifnonnullN dX8_pose_7 ?_
    refine V_bipush (v := -2) dX8_pose_10 (by decide) ?_
    refine V_iret rfl dX8_pose_12 (Nat.le_of_ble_eq_true rfl) (Nat.le_of_ble_eq_true rfl) ?_
    exact ⟨_, rfl, by unfold oPose; rw [if_neg hx], by unfold oPose; rw [if_neg hx]; exact z0, Keep.refl _ _⟩
