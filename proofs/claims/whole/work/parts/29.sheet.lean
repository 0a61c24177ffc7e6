/-! Sheet -/
/-- the sheets: the form (none: lost), how many items, the items -/
abbrev Sh : Type := (Nat → Option Nat) × (Nat → Nat) × (Nat → Nat → Int32)
def loI (o : Option Nat) : Int32 := match o with
  | none => 1
  | some _ => 0
def ShX (h : Sh) (w : Wd) : Prop := LayX w ∧ ∀ s, s < 4 → h.2.1 s ≤ 60 ∧ wI w (60 + s) 3 = nI (h.2.1 s) ∧ wI w (60 + s) 1 = loI (h.1 s) ∧ ∀ f, h.1 s = some f → f ≤ 2 ∧ wI w (60 + s) 2 = nI f ∧ ∀ i, i < h.2.1 s → wI w (70 + s) i = h.2.2 s i
abbrev shA (a : Nat) : Prop := a = 20 ∨ (60 ≤ a ∧ a < 64) ∨ (70 ≤ a ∧ a < 74)
theorem ShX.keep {h : Sh} {S : Nat → Prop} {w w' : Wd} (x : ShX h w) (g : Keep S w w') (hS : ∀ a, S a → ¬ ((60 ≤ a ∧ a < 64) ∨ (70 ≤ a ∧ a < 74))) : ShX h w' := by
  refine ⟨x.1.keep g, fun s hs => ?_⟩
  rw [g.I (a := 60 + s) (fun q => hS _ q (by omega)), g.I (a := 70 + s) (fun q => hS _ q (by omega))]
  exact x.2 s hs
/-- what is wrong with item i, treated as of form f -/
def wrI (o : Option Nat) (z : Nat) (f i : Int32) : Nat := match o with
  | none => 1
  | some g => if nI g = f then (if 0 ≤ i.toInt ∧ i.toInt < z then 0 else 2) else 3
def wrP (o : Option Nat) (z : Nat) (i n : Int32) : Nat := match o with
  | none => 1
  | some _ => if 0 ≤ i.toInt ∧ 0 ≤ n.toInt ∧ i.toInt + n.toInt ≤ z then 0 else 2
def cutF (g : Nat) (v : Int32) : Int32 := if g = 0 then v.toInt8.toInt32 else if g = 1 then v.toInt16.toInt32 else v
theorem loI_0 {o : Option Nat} (h : loI o = 0) : ∃ f, o = some f := by cases o with
  | none => exact absurd h (by decide)
  | some f => exact ⟨f, rfl⟩
theorem loI_1 {o : Option Nat} (h : ¬ loI o = 0) : o = none := by cases o with
  | none => rfl
  | some f => exact absurd rfl h
theorem i32_ltz (x : Int32) : x < 0 ↔ x.toInt < 0 := by rw [Int32.lt_iff_toInt_lt]; rfl
theorem i32_subz {z : Nat} {i : Int32} (hz : z ≤ 60) (h0 : 0 ≤ i.toInt) (h1 : i.toInt ≤ z) : (nI z - i).toInt = z - i.toInt := by
  rw [fb_subI] <;> rw [nI_toInt (by omega)] <;> omega

theorem hold_1 {z : Nat} {i n : Int32} (h : i < 0) : ¬ (0 ≤ i.toInt ∧ 0 ≤ n.toInt ∧ i.toInt + n.toInt ≤ z) := by rw [i32_ltz] at h; omega
theorem hold_2 {z : Nat} {i n : Int32} (h : n < 0) : ¬ (0 ≤ i.toInt ∧ 0 ≤ n.toInt ∧ i.toInt + n.toInt ≤ z) := by rw [i32_ltz] at h; omega
theorem hold_3 {z : Nat} {i n : Int32} (hz : z ≤ 60) (h : nI z < i) : ¬ (0 ≤ i.toInt ∧ 0 ≤ n.toInt ∧ i.toInt + n.toInt ≤ z) := by rw [Int32.lt_iff_toInt_lt, nI_toInt (by omega)] at h; omega
theorem hold_4 {z : Nat} {i n : Int32} (hz : z ≤ 60) (h1 : ¬ i < 0) (h3 : ¬ nI z < i) (h : nI z - i < n) : ¬ (0 ≤ i.toInt ∧ 0 ≤ n.toInt ∧ i.toInt + n.toInt ≤ z) := by
  rw [i32_ltz] at h1
  rw [Int32.lt_iff_toInt_lt, nI_toInt (by omega)] at h3
  rw [Int32.lt_iff_toInt_lt, i32_subz hz (by omega) (by omega)] at h
  omega
theorem hold_5 {z : Nat} {i n : Int32} (hz : z ≤ 60) (h1 : ¬ i < 0) (h2 : ¬ n < 0) (h3 : ¬ nI z < i) (h : ¬ nI z - i < n) : 0 ≤ i.toInt ∧ 0 ≤ n.toInt ∧ i.toInt + n.toInt ≤ z := by
  rw [i32_ltz] at h1 h2
  rw [Int32.lt_iff_toInt_lt, nI_toInt (by omega)] at h3
  rw [Int32.lt_iff_toInt_lt, i32_subz hz (by omega) (by omega)] at h
  omega

set_option maxRecDepth 100000 in
theorem c_X5_holds (h : Sh) (s : Nat) (i n : Int32) (w : Wd) (x : ShX h w) (hs : s < 4) : Cc yX5_holds mX5_holds [.ref (60 + s), .int i, .int n] w (fun r w' => r = some (.int (b01 (0 ≤ i.toInt ∧ 0 ≤ n.toInt ∧ i.toInt + n.toInt ≤ h.2.1 s))) ∧ w' = w) := by
  refine Cc.of (by decide) rfl rfl (Nat.le_of_ble_eq_true rfl) (fun X => ?_)
  change V _ X _ 0 [(0, _), (1, _), (2, _)] [] _ (0, 0)
  refine V_iload_n dX5_holds_0 rfl rfl ?_
  refine V_if_lt (tgt := 30) dX5_holds_1 (by decide) (fun c1 => ?_) (fun c1 => ?_)
  · refine V_iconst (v := 0) dX5_holds_30 (by decide) ?_
    refine V_zret rfl dX5_holds_31 (Nat.le_of_ble_eq_true rfl) (Nat.le_of_ble_eq_true rfl) rfl ?_
    have hz := (x.2 s hs).1
    first | exact ok2i (b01_f (hold_1 c1)).symm | exact ok2i (b01_f (hold_2 c5)).symm | exact ok2i (b01_f (hold_3 hz c13)).symm | exact ok2i (b01_f (hold_4 hz c1 c13 c23)).symm | exact ok2i (b01_t (hold_5 hz c1 c5 c13 c23)).symm
  · refine V_iload_n dX5_holds_4 rfl rfl ?_
    refine V_if_lt (tgt := 30) dX5_holds_5 (by decide) (fun c5 => ?_) (fun c5 => ?_)
    · refine V_iconst (v := 0) dX5_holds_30 (by decide) ?_
      refine V_zret rfl dX5_holds_31 (Nat.le_of_ble_eq_true rfl) (Nat.le_of_ble_eq_true rfl) rfl ?_
      have hz := (x.2 s hs).1
      first | exact ok2i (b01_f (hold_1 c1)).symm | exact ok2i (b01_f (hold_2 c5)).symm | exact ok2i (b01_f (hold_3 hz c13)).symm | exact ok2i (b01_f (hold_4 hz c1 c13 c23)).symm | exact ok2i (b01_t (hold_5 hz c1 c5 c13 c23)).symm
    · refine V_iload_n dX5_holds_8 rfl rfl ?_
      first | refine V_aload_n dX5_holds_9 rfl rfl ?_ | refine V_aload_nN dX5_holds_9 rfl rfl ?_
      refine G_geti (by first | exact x.1.ks hs | exact x.1.ki hs) fX5_29 dX5_holds_10 (by first | exact (x.2 s hs).2.2.1 | exact (x.2 s hs).2.1 | exact ((x.2 s hs).2.2.2 f hf).2.1) ?_
      refine V_icmp_gt (tgt := 30) dX5_holds_13 (by decide) (fun c13 => ?_) (fun c13 => ?_)
      · refine V_iconst (v := 0) dX5_holds_30 (by decide) ?_
        refine V_zret rfl dX5_holds_31 (Nat.le_of_ble_eq_true rfl) (Nat.le_of_ble_eq_true rfl) rfl ?_
        have hz := (x.2 s hs).1
        first | exact ok2i (b01_f (hold_1 c1)).symm | exact ok2i (b01_f (hold_2 c5)).symm | exact ok2i (b01_f (hold_3 hz c13)).symm | exact ok2i (b01_f (hold_4 hz c1 c13 c23)).symm | exact ok2i (b01_t (hold_5 hz c1 c5 c13 c23)).symm
      · refine V_iload_n dX5_holds_16 rfl rfl ?_
        first | refine V_aload_n dX5_holds_17 rfl rfl ?_ | refine V_aload_nN dX5_holds_17 rfl rfl ?_
        refine G_geti (by first | exact x.1.ks hs | exact x.1.ki hs) fX5_29 dX5_holds_18 (by first | exact (x.2 s hs).2.2.1 | exact (x.2 s hs).2.1 | exact ((x.2 s hs).2.2.2 f hf).2.1) ?_
        refine V_iload_n dX5_holds_21 rfl rfl ?_
        refine V_isub dX5_holds_22 ?_
        refine V_icmp_gt (tgt := 30) dX5_holds_23 (by decide) (fun c23 => ?_) (fun c23 => ?_)
        · refine V_iconst (v := 0) dX5_holds_30 (by decide) ?_
          refine V_zret rfl dX5_holds_31 (Nat.le_of_ble_eq_true rfl) (Nat.le_of_ble_eq_true rfl) rfl ?_
          have hz := (x.2 s hs).1
          first | exact ok2i (b01_f (hold_1 c1)).symm | exact ok2i (b01_f (hold_2 c5)).symm | exact ok2i (b01_f (hold_3 hz c13)).symm | exact ok2i (b01_f (hold_4 hz c1 c13 c23)).symm | exact ok2i (b01_t (hold_5 hz c1 c5 c13 c23)).symm
        · refine V_iconst (v := 1) dX5_holds_26 (by decide) ?_
          refine V_goto (tgt := 31) dX5_holds_27 (by decide) ?_
          refine V_zret rfl dX5_holds_31 (Nat.le_of_ble_eq_true rfl) (Nat.le_of_ble_eq_true rfl) rfl ?_
          have hz := (x.2 s hs).1
          first | exact ok2i (b01_f (hold_1 c1)).symm | exact ok2i (b01_f (hold_2 c5)).symm | exact ok2i (b01_f (hold_3 hz c13)).symm | exact ok2i (b01_f (hold_4 hz c1 c13 c23)).symm | exact ok2i (b01_t (hold_5 hz c1 c5 c13 c23)).symm

set_option maxRecDepth 100000 in
theorem c_X5_wrongItem (h : Sh) (s : Nat) (f i : Int32) (w : Wd) (x : ShX h w) (hs : s < 4) : Cc yX5_wrongItem mX5_wrongItem [.ref (60 + s), .int f, .int i] w (fun r w' => r = some (.int (nI (wrI (h.1 s) (h.2.1 s) f i))) ∧ w' = w) := by
  refine Cc.of (by decide) rfl rfl (Nat.le_of_ble_eq_true rfl) (fun X => ?_)
  change V _ X _ 0 [(0, _), (1, _), (2, _)] [] _ (0, 0)
  cases hf : h.1 s with
  | none =>
    first | refine V_aload_n dX5_wrongItem_0 rfl rfl ?_ | refine V_aload_nN dX5_wrongItem_0 rfl rfl ?_
    refine G_geti (by first | exact x.1.ks hs | exact x.1.ki hs) fX5_15 dX5_wrongItem_1 (by exact (x.2 s hs).2.2.1.trans (congrArg loI hf)) ?_
    refine V_if_eq (tgt := 9) dX5_wrongItem_4 (by decide) (fun c4 => False.elim (by exact absurd c4 (by decide))) (fun c4 => ?_)
    refine V_iconst (v := 1) dX5_wrongItem_7 (by decide) ?_
    refine V_iret rfl dX5_wrongItem_8 (Nat.le_of_ble_eq_true rfl) (Nat.le_of_ble_eq_true rfl) ?_
    exact ok2i rfl
  | some g =>
    first | refine V_aload_n dX5_wrongItem_0 rfl rfl ?_ | refine V_aload_nN dX5_wrongItem_0 rfl rfl ?_
    refine G_geti (by first | exact x.1.ks hs | exact x.1.ki hs) fX5_15 dX5_wrongItem_1 (by exact (x.2 s hs).2.2.1.trans (congrArg loI hf)) ?_
    refine V_if_eq (tgt := 9) dX5_wrongItem_4 (by decide) (fun c4 => ?_) (fun c4 => False.elim (by exact c4 rfl))
    first | refine V_aload_n dX5_wrongItem_9 rfl rfl ?_ | refine V_aload_nN dX5_wrongItem_9 rfl rfl ?_
    refine G_geti (by first | exact x.1.ks hs | exact x.1.ki hs) fX5_25 dX5_wrongItem_10 (by first | exact (x.2 s hs).2.1 | exact ((x.2 s hs).2.2.2 g hf).2.1) ?_
    refine V_iload_n dX5_wrongItem_13 rfl rfl ?_
    refine V_icmp_eq (tgt := 19) dX5_wrongItem_14 (by decide) (fun c14 => ?_) (fun c14 => ?_)
    · refine V_iload_n dX5_wrongItem_19 rfl rfl ?_
      refine V_i2l dX5_wrongItem_20 ?_
      refine V_lconst (v := 0) dX5_wrongItem_21 (by decide) ?_
      first | refine V_aload_n dX5_wrongItem_22 rfl rfl ?_ | refine V_aload_nN dX5_wrongItem_22 rfl rfl ?_
      refine G_geti (by first | exact x.1.ks hs | exact x.1.ki hs) fX5_29 dX5_wrongItem_23 (by first | exact (x.2 s hs).2.1 | exact ((x.2 s hs).2.2.2 g hf).2.1) ?_
      refine V_iconst (v := 1) dX5_wrongItem_26 (by decide) ?_
      refine V_isub dX5_wrongItem_27 ?_
      refine V_i2l dX5_wrongItem_28 ?_
      refine V_callSN (As := [_, _, _]) (st := _) (c_X8_isIn _ _ _ _) kX5_32 ⟨rfl, rfl, rfl⟩ ⟨(Nat.le_of_ble_eq_true rfl), (Nat.le_of_ble_eq_true rfl)⟩ dX5_wrongItem_29 rfl rfl (Nat.le_of_ble_eq_true rfl) ⟨(Nat.le_of_ble_eq_true rfl), (Nat.le_of_ble_eq_true rfl)⟩ ?_
      refine V_if_eq (tgt := 39) dX5_wrongItem_32 (by decide) (fun c32 => ?_) (fun c32 => ?_)
      · refine V_iconst (v := 2) dX5_wrongItem_39 (by decide) ?_
        refine V_iret rfl dX5_wrongItem_40 (Nat.le_of_ble_eq_true rfl) (Nat.le_of_ble_eq_true rfl) ?_
        have hz := (x.2 s hs).1
        have hi := inL_n i (n := h.2.1 s) (by omega)
        refine ok2i ?_
        unfold wrI
        simp only
        rw [if_pos c14]
        first | (rw [if_pos (hi.mp (b01_1 c32))]; rfl) | (rw [if_neg (fun z => b01_0 c32 (hi.mpr z))]; rfl)
      · refine V_iconst (v := 0) dX5_wrongItem_35 (by decide) ?_
        refine V_goto (tgt := 40) dX5_wrongItem_36 (by decide) ?_
        refine V_iret rfl dX5_wrongItem_40 (Nat.le_of_ble_eq_true rfl) (Nat.le_of_ble_eq_true rfl) ?_
        have hz := (x.2 s hs).1
        have hi := inL_n i (n := h.2.1 s) (by omega)
        refine ok2i ?_
        unfold wrI
        simp only
        rw [if_pos c14]
        first | (rw [if_pos (hi.mp (b01_1 c32))]; rfl) | (rw [if_neg (fun z => b01_0 c32 (hi.mpr z))]; rfl)
    · refine V_iconst (v := 3) dX5_wrongItem_17 (by decide) ?_
      refine V_iret rfl dX5_wrongItem_18 (Nat.le_of_ble_eq_true rfl) (Nat.le_of_ble_eq_true rfl) ?_
      exact ok2i (by unfold wrI; simp only; rw [if_neg c14]; rfl)

set_option maxRecDepth 100000 in
theorem c_X5_wrongPose (h : Sh) (s : Nat) (i n : Int32) (w : Wd) (x : ShX h w) (hs : s < 4) : Cc yX5_wrongPose mX5_wrongPose [.ref (60 + s), .int i, .int n] w (fun r w' => r = some (.int (nI (wrP (h.1 s) (h.2.1 s) i n))) ∧ w' = w) := by
  refine Cc.of (by decide) rfl rfl (Nat.le_of_ble_eq_true rfl) (fun X => ?_)
  change V _ X _ 0 [(0, _), (1, _), (2, _)] [] _ (0, 0)
  cases hf : h.1 s with
  | none =>
    first | refine V_aload_n dX5_wrongPose_0 rfl rfl ?_ | refine V_aload_nN dX5_wrongPose_0 rfl rfl ?_
    refine G_geti (by first | exact x.1.ks hs | exact x.1.ki hs) fX5_15 dX5_wrongPose_1 (by exact (x.2 s hs).2.2.1.trans (congrArg loI hf)) ?_
    refine V_if_eq (tgt := 9) dX5_wrongPose_4 (by decide) (fun c4 => False.elim (by exact absurd c4 (by decide))) (fun c4 => ?_)
    refine V_iconst (v := 1) dX5_wrongPose_7 (by decide) ?_
    refine V_iret rfl dX5_wrongPose_8 (Nat.le_of_ble_eq_true rfl) (Nat.le_of_ble_eq_true rfl) ?_
    exact ok2i rfl
  | some g =>
    first | refine V_aload_n dX5_wrongPose_0 rfl rfl ?_ | refine V_aload_nN dX5_wrongPose_0 rfl rfl ?_
    refine G_geti (by first | exact x.1.ks hs | exact x.1.ki hs) fX5_15 dX5_wrongPose_1 (by exact (x.2 s hs).2.2.1.trans (congrArg loI hf)) ?_
    refine V_if_eq (tgt := 9) dX5_wrongPose_4 (by decide) (fun c4 => ?_) (fun c4 => False.elim (by exact c4 rfl))
    first | refine V_aload_n dX5_wrongPose_9 rfl rfl ?_ | refine V_aload_nN dX5_wrongPose_9 rfl rfl ?_
    refine V_iload_n dX5_wrongPose_10 rfl rfl ?_
    refine V_iload_n dX5_wrongPose_11 rfl rfl ?_
    refine V_callV (As := [_, _]) (st := _) (c_X5_holds h s i n w x hs) kX5_36 (by first | exact x.1.ks hs | exact x.1.ki hs) ⟨rfl, rfl, rfl⟩ ⟨(Nat.le_of_ble_eq_true rfl), (Nat.le_of_ble_eq_true rfl)⟩ dX5_wrongPose_12 rfl rfl (Nat.le_of_ble_eq_true rfl) ⟨(Nat.le_of_ble_eq_true rfl), (Nat.le_of_ble_eq_true rfl)⟩ ?_
    refine V_if_eq (tgt := 22) dX5_wrongPose_15 (by decide) (fun c15 => ?_) (fun c15 => ?_)
    · refine V_iconst (v := 2) dX5_wrongPose_22 (by decide) ?_
      refine V_iret rfl dX5_wrongPose_23 (Nat.le_of_ble_eq_true rfl) (Nat.le_of_ble_eq_true rfl) ?_
      refine ok2i ?_
      unfold wrP
      simp only
      first | (rw [if_pos (b01_1 c15)]; rfl) | (rw [if_neg (b01_0 c15)]; rfl)
    · refine V_iconst (v := 0) dX5_wrongPose_18 (by decide) ?_
      refine V_goto (tgt := 23) dX5_wrongPose_19 (by decide) ?_
      refine V_iret rfl dX5_wrongPose_23 (Nat.le_of_ble_eq_true rfl) (Nat.le_of_ble_eq_true rfl) ?_
      refine ok2i ?_
      unfold wrP
      simp only
      first | (rw [if_pos (b01_1 c15)]; rfl) | (rw [if_neg (b01_0 c15)]; rfl)

set_option maxRecDepth 100000 in
theorem c_X5_store (h : Sh) (s : Nat) (f i : Nat) (v : Int32) (w : Wd) (x : ShX h w) (hs : s < 4) (hf : h.1 s = some f) (hi : i < h.2.1 s) : Cc yX5_store mX5_store [.ref (60 + s), .int (nI i), .int v] w (fun r w' => r = none ∧ w' = sI w (70 + s) i (cutF f v)) := by
  refine Cc.of (by decide) rfl rfl (Nat.le_of_ble_eq_true rfl) (fun X => ?_)
  change V _ X _ 0 [(0, _), (1, _), (2, _)] [] _ (0, 0)
  first | refine V_aload_n dX5_store_0 rfl rfl ?_ | refine V_aload_nN dX5_store_0 rfl rfl ?_
  first | refine V_getr (by first | exact x.1.ks hs | exact x.1.ki hs) fX5_9 dX5_store_1 (by exact x.1.ri hs) ?_ | refine V_getrN (by first | exact x.1.ks hs | exact x.1.ki hs) fX5_9 dX5_store_1 (by exact x.1.ri hs) ?_
  refine V_iload_n dX5_store_4 rfl rfl ?_
  first | refine V_aload_n dX5_store_5 rfl rfl ?_ | refine V_aload_nN dX5_store_5 rfl rfl ?_
  refine G_geti (by first | exact x.1.ks hs | exact x.1.ki hs) fX5_25 dX5_store_6 (by exact ((x.2 s hs).2.2.2 f hf).2.1) ?_
  refine V_if_ne (tgt := 17) dX5_store_9 (by decide) (fun c9 => ?_) (fun c9 => ?_)
  · first | refine V_aload_n dX5_store_17 rfl rfl ?_ | refine V_aload_nN dX5_store_17 rfl rfl ?_
    refine G_geti (by first | exact x.1.ks hs | exact x.1.ki hs) fX5_25 dX5_store_18 (by exact ((x.2 s hs).2.2.2 f hf).2.1) ?_
    refine V_iconst (v := 1) dX5_store_21 (by decide) ?_
    refine V_icmp_ne (tgt := 30) dX5_store_22 (by decide) (fun c22 => ?_) (fun c22 => ?_)
    · refine V_iload_n dX5_store_30 rfl rfl ?_
      refine G_iast (j := i) (by first | exact x.1.ks hs | exact x.1.ki hs) (by rfl) (by rw [x.1.ni hs]; have := (x.2 s hs).1; omega) (by rw [x.1.ni hs]; decide) dX5_store_31 ?_
      refine V_vret rfl dX5_store_32 (Nat.le_of_ble_eq_true rfl) (Nat.le_of_ble_eq_true rfl) ?_
      have hf2 := ((x.2 s hs).2.2.2 f hf).1
      refine ⟨rfl, congrArg (sI w (70 + s) i) ?_⟩
      rw [show (0 : Int32) = nI 0 from rfl, nI_eq (by omega) (by decide)] at c9
      unfold cutF
      first | rw [if_pos c9] | (rw [show (1 : Int32) = nI 1 from rfl, nI_eq (by omega) (by decide)] at c22; rw [if_neg c9]; first | rw [if_pos c22] | rw [if_neg c22])
    · refine V_iload_n dX5_store_25 rfl rfl ?_
      refine V_i2s dX5_store_26 ?_
      refine V_goto (tgt := 31) dX5_store_27 (by decide) ?_
      refine G_iast (j := i) (by first | exact x.1.ks hs | exact x.1.ki hs) (by rfl) (by rw [x.1.ni hs]; have := (x.2 s hs).1; omega) (by rw [x.1.ni hs]; decide) dX5_store_31 ?_
      refine V_vret rfl dX5_store_32 (Nat.le_of_ble_eq_true rfl) (Nat.le_of_ble_eq_true rfl) ?_
      have hf2 := ((x.2 s hs).2.2.2 f hf).1
      refine ⟨rfl, congrArg (sI w (70 + s) i) ?_⟩
      rw [show (0 : Int32) = nI 0 from rfl, nI_eq (by omega) (by decide)] at c9
      unfold cutF
      first | rw [if_pos c9] | (rw [show (1 : Int32) = nI 1 from rfl, nI_eq (by omega) (by decide)] at c22; rw [if_neg c9]; first | rw [if_pos c22] | rw [if_neg c22])
  · refine V_iload_n dX5_store_12 rfl rfl ?_
    refine V_i2b dX5_store_13 ?_
    refine V_goto (tgt := 31) dX5_store_14 (by decide) ?_
    refine G_iast (j := i) (by first | exact x.1.ks hs | exact x.1.ki hs) (by rfl) (by rw [x.1.ni hs]; have := (x.2 s hs).1; omega) (by rw [x.1.ni hs]; decide) dX5_store_31 ?_
    refine V_vret rfl dX5_store_32 (Nat.le_of_ble_eq_true rfl) (Nat.le_of_ble_eq_true rfl) ?_
    have hf2 := ((x.2 s hs).2.2.2 f hf).1
    refine ⟨rfl, congrArg (sI w (70 + s) i) ?_⟩
    rw [show (0 : Int32) = nI 0 from rfl, nI_eq (by omega) (by decide)] at c9
    unfold cutF
    first | rw [if_pos c9] | (rw [show (1 : Int32) = nI 1 from rfl, nI_eq (by omega) (by decide)] at c22; rw [if_neg c9]; first | rw [if_pos c22] | rw [if_neg c22])

set_option maxRecDepth 100000 in
theorem c_X5_begin (s : Nat) (f n : Int32) (w : Wd) (x : LayX w) (hs : s < 4) : Cc yX5_begin mX5_begin [.ref (60 + s), .int f, .int n] w (fun r w' => r = none ∧ w' = sI (sI (sI (sV w (70 + s) (flF 0 (wI w (70 + s)) 60)) (60 + s) 1 0) (60 + s) 2 f) (60 + s) 3 n) := by
  refine Cc.of (by decide) rfl rfl (Nat.le_of_ble_eq_true rfl) (fun X => ?_)
  change V _ X _ 0 [(0, _), (1, _), (2, _)] [] _ (0, 0)
  first | refine V_aload_n dX5_begin_0 rfl rfl ?_ | refine V_aload_nN dX5_begin_0 rfl rfl ?_
  first | refine V_getr (by first | exact x.ks hs | exact x.ki hs) fX5_9 dX5_begin_1 (by exact x.ri hs) ?_ | refine V_getrN (by first | exact x.ks hs | exact x.ki hs) fX5_9 dX5_begin_1 (by exact x.ri hs) ?_
  refine V_iconst (v := 0) dX5_begin_4 (by decide) ?_
  refine V_callSv (As := [_, _]) (st := _) (c_J7_fill_53178 (70 + s) 60 0 w (x.ki hs) (x.ni hs) (by decide)) kX5_19 ⟨rfl, rfl, rfl⟩ ⟨(Nat.le_of_ble_eq_true rfl), (Nat.le_of_ble_eq_true rfl)⟩ dX5_begin_5 rfl rfl (Nat.le_of_ble_eq_true rfl) ⟨(Nat.le_of_ble_eq_true rfl), (Nat.le_of_ble_eq_true rfl)⟩ ?_
  first | refine V_aload_n dX5_begin_8 rfl rfl ?_ | refine V_aload_nN dX5_begin_8 rfl rfl ?_
  refine V_iconst (v := 0) dX5_begin_9 (by decide) ?_
  refine V_puti (by first | exact x.ks hs | exact x.ki hs) pfX5_15 (fun h => nomatch h) dX5_begin_10 ⟨rfl, rfl⟩ ?_
  first | refine V_aload_n dX5_begin_13 rfl rfl ?_ | refine V_aload_nN dX5_begin_13 rfl rfl ?_
  refine V_iload_n dX5_begin_14 rfl rfl ?_
  refine V_puti (by first | exact x.ks hs | exact x.ki hs) pfX5_25 (fun h => nomatch h) dX5_begin_15 ⟨rfl, rfl⟩ ?_
  first | refine V_aload_n dX5_begin_18 rfl rfl ?_ | refine V_aload_nN dX5_begin_18 rfl rfl ?_
  refine V_iload_n dX5_begin_19 rfl rfl ?_
  refine V_puti (by first | exact x.ks hs | exact x.ki hs) pfX5_29 (fun h => nomatch h) dX5_begin_20 ⟨rfl, rfl⟩ ?_
  refine V_vret rfl dX5_begin_23 (Nat.le_of_ble_eq_true rfl) (Nat.le_of_ble_eq_true rfl) ?_
  exact ⟨rfl, rfl⟩

set_option maxRecDepth 100000 in
theorem c_X8_findSheet_s (s : Nat) (w : Wd) (x : LayX w) (hs : s < 4) : Cc yX8_findSheet mX8_findSheet [.ref 20, .int (nI s)] w (fun r w' => r = some (.ref (60 + s)) ∧ w' = w) := by
  refine Cc.of (by decide) rfl rfl (Nat.le_of_ble_eq_true rfl) (fun X => ?_)
  change V _ X _ 0 [(0, _), (1, _)] [] _ (0, 0)
  refine V_iload_n dX8_findSheet_0 rfl rfl ?_
  refine V_i2l dX8_findSheet_1 ?_
  refine V_lconst (v := 0) dX8_findSheet_2 (by decide) ?_
  refine V_ldc2 ctX8_295 dX8_findSheet_3 ?_
  refine V_callS (As := [_, _, _]) (st := _) (c_X8_isIn _ _ _ _) kX8_54 ⟨rfl, rfl, rfl⟩ ⟨(Nat.le_of_ble_eq_true rfl), (Nat.le_of_ble_eq_true rfl)⟩ dX8_findSheet_6 rfl rfl (Nat.le_of_ble_eq_true rfl) ⟨(Nat.le_of_ble_eq_true rfl), (Nat.le_of_ble_eq_true rfl)⟩ ?_
  refine V_if_eq (tgt := 21) dX8_findSheet_9 (by decide) (fun c9 => False.elim (by exact b01_0 c9 (by unfold inL; rw [Int32.toInt_toInt64, nI_toInt (by omega)]; show (0 : Int) ≤ s ∧ (s : Int) ≤ 3; omega))) (fun c9 => ?_)
  first | refine V_aload_n dX8_findSheet_12 rfl rfl ?_ | refine V_aload_nN dX8_findSheet_12 rfl rfl ?_
  first | refine V_getr (by exact x.k _ rfl rfl) fX8_39 dX8_findSheet_13 (by first | exact x.r _ _ rfl | exact x.rs hs) ?_ | refine V_getrN (by exact x.k _ rfl rfl) fX8_39 dX8_findSheet_13 (by first | exact x.r _ _ rfl | exact x.rs hs) ?_
  refine V_iload_n dX8_findSheet_16 rfl rfl ?_
  refine G_aald16 (j := s) (by exact x.k _ rfl rfl) (by rfl) (by rw [x.n 25 rfl rfl]; exact hs) (by rw [x.n 25 rfl rfl]; decide) (by first | exact x.r _ _ rfl | exact x.rs hs) dX8_findSheet_17 ?_
  refine V_goto (tgt := 22) dX8_findSheet_18 (by decide) ?_
  refine V_aret rfl (Or.inl ⟨_, rfl⟩) dX8_findSheet_22 (Nat.le_of_ble_eq_true rfl) (Nat.le_of_ble_eq_true rfl) (by first | exact Or.inr ⟨_, rfl⟩ | exact Or.inl rfl) ?_
  exact ⟨rfl, rfl⟩

set_option maxRecDepth 100000 in
theorem c_X8_findSheet_n (y : Int32) (w : Wd) (x : LayX w) (hy : ¬ (0 ≤ y.toInt ∧ y.toInt < 4)) : Cc yX8_findSheet mX8_findSheet [.ref 20, .int y] w (fun r w' => r = some .null ∧ w' = w) := by
  refine Cc.of (by decide) rfl rfl (Nat.le_of_ble_eq_true rfl) (fun X => ?_)
  change V _ X _ 0 [(0, _), (1, _)] [] _ (0, 0)
  refine V_iload_n dX8_findSheet_0 rfl rfl ?_
  refine V_i2l dX8_findSheet_1 ?_
  refine V_lconst (v := 0) dX8_findSheet_2 (by decide) ?_
  refine V_ldc2 ctX8_295 dX8_findSheet_3 ?_
  refine V_callS (As := [_, _, _]) (st := _) (c_X8_isIn _ _ _ _) kX8_54 ⟨rfl, rfl, rfl⟩ ⟨(Nat.le_of_ble_eq_true rfl), (Nat.le_of_ble_eq_true rfl)⟩ dX8_findSheet_6 rfl rfl (Nat.le_of_ble_eq_true rfl) ⟨(Nat.le_of_ble_eq_true rfl), (Nat.le_of_ble_eq_true rfl)⟩ ?_
  refine V_if_eq (tgt := 21) dX8_findSheet_9 (by decide) (fun c9 => ?_) (fun c9 => False.elim (by have h9 := b01_1 c9; unfold inL at h9; rw [Int32.toInt_toInt64, show (0 : Int64).toInt = 0 from rfl, show (3 : Int64).toInt = 3 from rfl] at h9; omega))
  refine V_null dX8_findSheet_21 ?_
  refine V_aret rfl (Or.inl ⟨_, rfl⟩) dX8_findSheet_22 (Nat.le_of_ble_eq_true rfl) (Nat.le_of_ble_eq_true rfl) (by first | exact Or.inr ⟨_, rfl⟩ | exact Or.inl rfl) ?_
  exact ⟨rfl, rfl⟩

set_option maxRecDepth 100000 in
theorem c_X8_found (f : Int32) (w : Wd) (x : LayX w) : Cc yX8_found mX8_found [.ref 20, .int f] w (fun r w' => r = some (.int (-10 - f)) ∧ w' = sI w 20 5 f) := by
  refine Cc.of (by decide) rfl rfl (Nat.le_of_ble_eq_true rfl) (fun X => ?_)
  change V _ X _ 0 [(0, _), (1, _)] [] _ (0, 0)
  first | refine V_aload_n dX8_found_0 rfl rfl ?_ | refine V_aload_nN dX8_found_0 rfl rfl ?_
  refine V_iload_n dX8_found_1 rfl rfl ?_
  refine V_puti (by exact x.k _ rfl rfl) pfX8_43 (fun h => nomatch h) dX8_found_2 ⟨rfl, rfl⟩ ?_
  refine V_bipush (v := -10) dX8_found_5 (by decide) ?_
  refine V_iload_n dX8_found_7 rfl rfl ?_
  refine V_isub dX8_found_8 ?_
  refine V_iret rfl dX8_found_9 (Nat.le_of_ble_eq_true rfl) (Nat.le_of_ble_eq_true rfl) ?_
  exact ⟨rfl, rfl⟩
