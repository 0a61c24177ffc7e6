/-! the leaves: numbers alone -/
theorem i32_neg_msb (x : Int32) : x < 0 ↔ x.toBitVec.msb = true := by
  rw [Int32.lt_iff_toInt_lt, BitVec.msb_eq_toInt]
  show x.toBitVec.toInt < 0 ↔ _
  simp
theorem fm_sgn (x : Int32) : 0 ≤ (x ^^^ 36) ↔ ¬ x < 0 := by
  rw [i32_le, not_congr (i32_neg_msb (x ^^^ 36)), not_congr (i32_neg_msb x), Int32.toBitVec_xor, BitVec.msb_xor]
  rw [show (36 : Int32).toBitVec.msb = false from rfl]
  simp
theorem tm_pos {x : Int32} (h : ¬ x < 0) : 0 ≤ x.toInt.tmod 36 := by
  rw [Int32.lt_iff_toInt_lt] at h
  have h0 : (0 : Int32).toInt = 0 := rfl
  rw [(tm36 x.toInt).1 (by omega)]; omega
theorem tm_neg {x : Int32} (h : x < 0) (h1 : ¬ x.toInt.tmod 36 = 0) : x.toInt.tmod 36 < 0 := by
  rw [Int32.lt_iff_toInt_lt] at h
  have h0 : (0 : Int32).toInt = 0 := rfl
  rw [(tm36 x.toInt).2 (by omega)] at h1 ⊢; omega
theorem rem_0 {x : Int32} (h : x - x / 36 * 36 = 0) : x.toInt.tmod 36 = 0 := by rw [← rem36, h]; rfl
theorem rem_lt {x : Int32} : x - x / 36 * 36 < 0 ↔ x.toInt.tmod 36 < 0 := by rw [Int32.lt_iff_toInt_lt, rem36]; rfl
def tDist (a b : Int32) : Int32 := if b ≤ a then (if a - b ≤ 18 then a - b else 36 - (a - b)) else (if b - a ≤ 18 then b - a else 36 - (b - a))
def tShort (a b : Int32) : Int32 := if b - a ≤ 18 then (if -18 < b - a then b - a else b - a + 36) else b - a - 36
def mShort (t u : Int32) : Int32 := if nI (rN (u - t)) ≤ 18 then nI (rN (u - t)) else nI (rN (u - t)) - 36
def mAmt (v : Int32) : Int32 := if 0 ≤ v then v else -v
abbrev plc (x : Int64) : Prop := -1000000000000 ≤ x.toInt ∧ x.toInt ≤ 1000000000000
abbrev inL (a b c : Int64) : Prop := b.toInt ≤ a.toInt ∧ a.toInt ≤ c.toInt
theorem b01_c {p q : Prop} [Decidable p] [Decidable q] (h : p ↔ q) : b01 p = b01 q := by unfold b01; by_cases hp : p <;> simp [hp, ← h]
theorem ok2 {v : Value} {w : Wd} {x : Value} (h : v = x) : some v = some x ∧ w = w := ⟨congrArg some h, rfl⟩
theorem ok2i {w : Wd} {x y : Int32} (h : x = y) : some (Value.int x) = some (.int y) ∧ w = w := ⟨congrArg (fun z => some (Value.int z)) h, rfl⟩
theorem ok2l {w : Wd} {x y : Int64} (h : x = y) : some (Value.long x) = some (.long y) ∧ w = w := ⟨congrArg (fun z => some (Value.long z)) h, rfl⟩

set_option maxRecDepth 100000 in
theorem c_X8_isIn (a b c : Int64) (w : Wd) : Cc yX8_isIn mX8_isIn [.long a, .long b, .long c] w (fun r w' => r = some (.int (b01 (inL a b c))) ∧ w' = w) := by
  refine Cc.of (by decide) rfl rfl (Nat.le_of_ble_eq_true rfl) (fun X => ?_)
  change V _ X _ 0 [(0, _), (2, _), (4, _)] [] _ (0, 0)
  refine V_lload_n dX8_isIn_0 rfl rfl ?_
  refine V_lload_n dX8_isIn_1 rfl rfl ?_
  refine V_lcmp_lt (tgt := 17) dX8_isIn_2 dX8_isIn_3 (by decide) (fun c2 => ?_) (fun c2 => ?_)
  · refine V_iconst (v := 0) dX8_isIn_17 (by decide) ?_
    refine V_zret rfl dX8_isIn_18 (Nat.le_of_ble_eq_true rfl) (Nat.le_of_ble_eq_true rfl) rfl ?_
    refine ok2i ?_
    simp only [Int64.lt_iff_toInt_lt] at *
    first | exact (b01_t (by unfold inL; omega)).symm | exact (b01_f (by unfold inL; omega)).symm
  · refine V_lload_n dX8_isIn_6 rfl rfl ?_
    refine V_lload dX8_isIn_7 rfl ?_
    refine V_lcmp_gt (tgt := 17) dX8_isIn_9 dX8_isIn_10 (by decide) (fun c9 => ?_) (fun c9 => ?_)
    · refine V_iconst (v := 0) dX8_isIn_17 (by decide) ?_
      refine V_zret rfl dX8_isIn_18 (Nat.le_of_ble_eq_true rfl) (Nat.le_of_ble_eq_true rfl) rfl ?_
      refine ok2i ?_
      simp only [Int64.lt_iff_toInt_lt] at *
      first | exact (b01_t (by unfold inL; omega)).symm | exact (b01_f (by unfold inL; omega)).symm
    · refine V_iconst (v := 1) dX8_isIn_13 (by decide) ?_
      refine V_goto (tgt := 18) dX8_isIn_14 (by decide) ?_
      refine V_zret rfl dX8_isIn_18 (Nat.le_of_ble_eq_true rfl) (Nat.le_of_ble_eq_true rfl) rfl ?_
      refine ok2i ?_
      simp only [Int64.lt_iff_toInt_lt] at *
      first | exact (b01_t (by unfold inL; omega)).symm | exact (b01_f (by unfold inL; omega)).symm

set_option maxRecDepth 100000 in
theorem c_X9_in (a b c : Int64) (w : Wd) : Cc yX9_in mX9_in [.long a, .long b, .long c] w (fun r w' => r = some (.int (b01 (inL a b c))) ∧ w' = w) := by
  refine Cc.of (by decide) rfl rfl (Nat.le_of_ble_eq_true rfl) (fun X => ?_)
  change V _ X _ 0 [(0, _), (2, _), (4, _)] [] _ (0, 0)
  refine V_lload_n dX9_in_0 rfl rfl ?_
  refine V_lload_n dX9_in_1 rfl rfl ?_
  refine V_lcmp_lt (tgt := 17) dX9_in_2 dX9_in_3 (by decide) (fun c2 => ?_) (fun c2 => ?_)
  · refine V_iconst (v := 0) dX9_in_17 (by decide) ?_
    refine V_zret rfl dX9_in_18 (Nat.le_of_ble_eq_true rfl) (Nat.le_of_ble_eq_true rfl) rfl ?_
    refine ok2i ?_
    simp only [Int64.lt_iff_toInt_lt] at *
    first | exact (b01_t (by unfold inL; omega)).symm | exact (b01_f (by unfold inL; omega)).symm
  · refine V_lload_n dX9_in_6 rfl rfl ?_
    refine V_lload dX9_in_7 rfl ?_
    refine V_lcmp_gt (tgt := 17) dX9_in_9 dX9_in_10 (by decide) (fun c9 => ?_) (fun c9 => ?_)
    · refine V_iconst (v := 0) dX9_in_17 (by decide) ?_
      refine V_zret rfl dX9_in_18 (Nat.le_of_ble_eq_true rfl) (Nat.le_of_ble_eq_true rfl) rfl ?_
      refine ok2i ?_
      simp only [Int64.lt_iff_toInt_lt] at *
      first | exact (b01_t (by unfold inL; omega)).symm | exact (b01_f (by unfold inL; omega)).symm
    · refine V_iconst (v := 1) dX9_in_13 (by decide) ?_
      refine V_goto (tgt := 18) dX9_in_14 (by decide) ?_
      refine V_zret rfl dX9_in_18 (Nat.le_of_ble_eq_true rfl) (Nat.le_of_ble_eq_true rfl) rfl ?_
      refine ok2i ?_
      simp only [Int64.lt_iff_toInt_lt] at *
      first | exact (b01_t (by unfold inL; omega)).symm | exact (b01_f (by unfold inL; omega)).symm

set_option maxRecDepth 100000 in
theorem c_J9_floorMod_7cf53 (x : Int32) (w : Wd) : Cc yJ9_floorMod_7cf53 mJ9_floorMod_7cf53 [.int x, .int 36] w (fun r w' => r = some (.int (nI (rN x))) ∧ w' = w) := by
  refine Cc.ofF (by decide +kernel) rfl rfl (Nat.le_of_ble_eq_true rfl) (fun X => ?_)
  change V _ X _ 0 [(0, _), (1, _)] [] _ (0, 0)
  refine V_iload_n dJ9_floorMod_7cf53_0 rfl rfl ?_
  refine V_iload_n dJ9_floorMod_7cf53_1 rfl rfl ?_
  refine V_irem dJ9_floorMod_7cf53_2 (by decide) ?_
  refine S_istore_n (L' := [(0, _), (1, _), (2, _)]) dJ9_floorMod_7cf53_3 rfl rfl rfl ?_
  refine V_iload_n dJ9_floorMod_7cf53_4 rfl rfl ?_
  refine V_iload_n dJ9_floorMod_7cf53_5 rfl rfl ?_
  refine V_ixor dJ9_floorMod_7cf53_6 ?_
  refine V_if_ge (tgt := 18) dJ9_floorMod_7cf53_7 (by decide) (fun c7 => ?_) (fun c7 => ?_)
  · refine V_iload_n dJ9_floorMod_7cf53_18 rfl rfl ?_
    refine V_iret rfl dJ9_floorMod_7cf53_19 (Nat.le_of_ble_eq_true rfl) (Nat.le_of_ble_eq_true rfl) ?_
    refine ok2i ?_
    first | exact rN_pos (tm_pos ((fm_sgn x).mp c7)) | exact rN_pos (by rw [rem_0 c11]; decide) | exact rN_neg (tm_neg (Classical.not_not.mp fun q => c7 ((fm_sgn x).mpr q)) (fun q => c11 (Int32.toInt_inj.mp (by rw [rem36, q]; rfl))))
  · refine V_iload_n dJ9_floorMod_7cf53_10 rfl rfl ?_
    refine V_if_eq (tgt := 18) dJ9_floorMod_7cf53_11 (by decide) (fun c11 => ?_) (fun c11 => ?_)
    · refine V_iload_n dJ9_floorMod_7cf53_18 rfl rfl ?_
      refine V_iret rfl dJ9_floorMod_7cf53_19 (Nat.le_of_ble_eq_true rfl) (Nat.le_of_ble_eq_true rfl) ?_
      refine ok2i ?_
      first | exact rN_pos (tm_pos ((fm_sgn x).mp c7)) | exact rN_pos (by rw [rem_0 c11]; decide) | exact rN_neg (tm_neg (Classical.not_not.mp fun q => c7 ((fm_sgn x).mpr q)) (fun q => c11 (Int32.toInt_inj.mp (by rw [rem36, q]; rfl))))
    · refine V_iload_n dJ9_floorMod_7cf53_14 rfl rfl ?_
      refine V_iload_n dJ9_floorMod_7cf53_15 rfl rfl ?_
      refine V_iadd dJ9_floorMod_7cf53_16 ?_
      refine V_iret rfl dJ9_floorMod_7cf53_17 (Nat.le_of_ble_eq_true rfl) (Nat.le_of_ble_eq_true rfl) ?_
      refine ok2i ?_
      first | exact rN_pos (tm_pos ((fm_sgn x).mp c7)) | exact rN_pos (by rw [rem_0 c11]; decide) | exact rN_neg (tm_neg (Classical.not_not.mp fun q => c7 ((fm_sgn x).mpr q)) (fun q => c11 (Int32.toInt_inj.mp (by rw [rem36, q]; rfl))))

set_option maxRecDepth 100000 in
theorem c_X7_normal (x : Int32) (w : Wd) : Cc yX7_normal mX7_normal [.int x] w (fun r w' => r = some (.int (nI (rN x))) ∧ w' = w) := by
  refine Cc.of (by decide) rfl rfl (Nat.le_of_ble_eq_true rfl) (fun X => ?_)
  change V _ X _ 0 [(0, _)] [] _ (0, 0)
  refine V_iload_n dX7_normal_0 rfl rfl ?_
  refine V_bipush (v := 36) dX7_normal_1 (by decide) ?_
  refine V_callS (As := [_, _]) (st := _) (c_J9_floorMod_7cf53 _ _) kX7_9 ⟨rfl, rfl, rfl⟩ ⟨(Nat.le_of_ble_eq_true rfl), (Nat.le_of_ble_eq_true rfl)⟩ dX7_normal_3 rfl rfl (Nat.le_of_ble_eq_true rfl) ⟨(Nat.le_of_ble_eq_true rfl), (Nat.le_of_ble_eq_true rfl)⟩ ?_
  refine V_iret rfl dX7_normal_6 (Nat.le_of_ble_eq_true rfl) (Nat.le_of_ble_eq_true rfl) ?_
  exact ok2i rfl

set_option maxRecDepth 100000 in
theorem c_X7_cosine (x : Int32) (w : Wd) : Cc yX7_cosine mX7_cosine [.int x] w (fun r w' => r = some (.int (cosF (rN x))) ∧ w' = w) := by
  refine Cc.of (by decide) rfl rfl (Nat.le_of_ble_eq_true rfl) (fun X => ?_)
  change V _ X _ 0 [(0, _)] [] _ (0, 0)
  refine V_cos fsX7_15 dX7_cosine_0 ?_
  refine V_iload_n dX7_cosine_3 rfl rfl ?_
  refine V_bipush (v := 36) dX7_cosine_4 (by decide) ?_
  refine V_callS (As := [_, _]) (st := _) (c_J9_floorMod_7cf53 _ _) kX7_9 ⟨rfl, rfl, rfl⟩ ⟨(Nat.le_of_ble_eq_true rfl), (Nat.le_of_ble_eq_true rfl)⟩ dX7_cosine_6 rfl rfl (Nat.le_of_ble_eq_true rfl) ⟨(Nat.le_of_ble_eq_true rfl), (Nat.le_of_ble_eq_true rfl)⟩ ?_
  refine V_cosld (by exact vp_in_nI (rN_lt _) (by decide)) dX7_cosine_9 ?_
  refine V_iret rfl dX7_cosine_10 (Nat.le_of_ble_eq_true rfl) (Nat.le_of_ble_eq_true rfl) ?_
  exact ok2i (by rw [nI_clamp (Nat.lt_trans (rN_lt _) (by decide))])

set_option maxRecDepth 100000 in
theorem c_X7_sine (x : Int32) (w : Wd) : Cc yX7_sine mX7_sine [.int x] w (fun r w' => r = some (.int (cosF (rN (x - 9)))) ∧ w' = w) := by
  refine Cc.of (by decide) rfl rfl (Nat.le_of_ble_eq_true rfl) (fun X => ?_)
  change V _ X _ 0 [(0, _)] [] _ (0, 0)
  refine V_cos fsX7_15 dX7_sine_0 ?_
  refine V_iload_n dX7_sine_3 rfl rfl ?_
  refine V_bipush (v := 9) dX7_sine_4 (by decide) ?_
  refine V_isub dX7_sine_6 ?_
  refine V_bipush (v := 36) dX7_sine_7 (by decide) ?_
  refine V_callS (As := [_, _]) (st := _) (c_J9_floorMod_7cf53 _ _) kX7_9 ⟨rfl, rfl, rfl⟩ ⟨(Nat.le_of_ble_eq_true rfl), (Nat.le_of_ble_eq_true rfl)⟩ dX7_sine_9 rfl rfl (Nat.le_of_ble_eq_true rfl) ⟨(Nat.le_of_ble_eq_true rfl), (Nat.le_of_ble_eq_true rfl)⟩ ?_
  refine V_cosld (by exact vp_in_nI (rN_lt _) (by decide)) dX7_sine_12 ?_
  refine V_iret rfl dX7_sine_13 (Nat.le_of_ble_eq_true rfl) (Nat.le_of_ble_eq_true rfl) ?_
  exact ok2i (by rw [nI_clamp (Nat.lt_trans (rN_lt _) (by decide))])

set_option maxRecDepth 100000 in
theorem c_X7_distance (a b : Int32) (w : Wd) : Cc yX7_distance mX7_distance [.int a, .int b] w (fun r w' => r = some (.int (tDist a b)) ∧ w' = w) := by
  refine Cc.of (by decide) rfl rfl (Nat.le_of_ble_eq_true rfl) (fun X => ?_)
  change V _ X _ 0 [(0, _), (1, _)] [] _ (0, 0)
  refine V_iload_n dX7_distance_0 rfl rfl ?_
  refine V_iload_n dX7_distance_1 rfl rfl ?_
  refine V_icmp_ge (tgt := 11) dX7_distance_2 (by decide) (fun c2 => ?_) (fun c2 => ?_)
  · refine V_iload_n dX7_distance_11 rfl rfl ?_
    refine V_iload_n dX7_distance_12 rfl rfl ?_
    refine V_isub dX7_distance_13 ?_
    refine S_istore_n (L' := [(2, _)]) dX7_distance_14 rfl rfl rfl ?_
    refine V_iload_n dX7_distance_15 rfl rfl ?_
    refine V_bipush (v := 18) dX7_distance_16 (by decide) ?_
    refine V_icmp_le (tgt := 28) dX7_distance_18 (by decide) (fun c18 => ?_) (fun c18 => ?_)
    · refine V_iload_n dX7_distance_28 rfl rfl ?_
      refine V_iret rfl dX7_distance_29 (Nat.le_of_ble_eq_true rfl) (Nat.le_of_ble_eq_true rfl) ?_
      refine ok2i ?_
      unfold tDist; (repeat' split) <;> first | rfl | (exfalso; simp only [Int32.le_iff_toInt_le, Int32.lt_iff_toInt_lt] at *; omega)
    · refine V_bipush (v := 36) dX7_distance_21 (by decide) ?_
      refine V_iload_n dX7_distance_23 rfl rfl ?_
      refine V_isub dX7_distance_24 ?_
      refine V_goto (tgt := 29) dX7_distance_25 (by decide) ?_
      refine V_iret rfl dX7_distance_29 (Nat.le_of_ble_eq_true rfl) (Nat.le_of_ble_eq_true rfl) ?_
      refine ok2i ?_
      unfold tDist; (repeat' split) <;> first | rfl | (exfalso; simp only [Int32.le_iff_toInt_le, Int32.lt_iff_toInt_lt] at *; omega)
  · refine V_iload_n dX7_distance_5 rfl rfl ?_
    refine V_iload_n dX7_distance_6 rfl rfl ?_
    refine V_isub dX7_distance_7 ?_
    refine V_goto (tgt := 14) dX7_distance_8 (by decide) ?_
    refine S_istore_n (L' := [(2, _)]) dX7_distance_14 rfl rfl rfl ?_
    refine V_iload_n dX7_distance_15 rfl rfl ?_
    refine V_bipush (v := 18) dX7_distance_16 (by decide) ?_
    refine V_icmp_le (tgt := 28) dX7_distance_18 (by decide) (fun c18 => ?_) (fun c18 => ?_)
    · refine V_iload_n dX7_distance_28 rfl rfl ?_
      refine V_iret rfl dX7_distance_29 (Nat.le_of_ble_eq_true rfl) (Nat.le_of_ble_eq_true rfl) ?_
      refine ok2i ?_
      unfold tDist; (repeat' split) <;> first | rfl | (exfalso; simp only [Int32.le_iff_toInt_le, Int32.lt_iff_toInt_lt] at *; omega)
    · refine V_bipush (v := 36) dX7_distance_21 (by decide) ?_
      refine V_iload_n dX7_distance_23 rfl rfl ?_
      refine V_isub dX7_distance_24 ?_
      refine V_goto (tgt := 29) dX7_distance_25 (by decide) ?_
      refine V_iret rfl dX7_distance_29 (Nat.le_of_ble_eq_true rfl) (Nat.le_of_ble_eq_true rfl) ?_
      refine ok2i ?_
      unfold tDist; (repeat' split) <;> first | rfl | (exfalso; simp only [Int32.le_iff_toInt_le, Int32.lt_iff_toInt_lt] at *; omega)

set_option maxRecDepth 100000 in
theorem c_X7_shortWay (a b : Int32) (w : Wd) : Cc yX7_shortWay mX7_shortWay [.int a, .int b] w (fun r w' => r = some (.int (tShort a b)) ∧ w' = w) := by
  refine Cc.of (by decide) rfl rfl (Nat.le_of_ble_eq_true rfl) (fun X => ?_)
  change V _ X _ 0 [(0, _), (1, _)] [] _ (0, 0)
  refine V_iload_n dX7_shortWay_0 rfl rfl ?_
  refine V_iload_n dX7_shortWay_1 rfl rfl ?_
  refine V_isub dX7_shortWay_2 ?_
  refine S_istore_n (L' := [(2, _)]) dX7_shortWay_3 rfl rfl rfl ?_
  refine V_iload_n dX7_shortWay_4 rfl rfl ?_
  refine V_bipush (v := 18) dX7_shortWay_5 (by decide) ?_
  refine V_icmp_le (tgt := 17) dX7_shortWay_7 (by decide) (fun c7 => ?_) (fun c7 => ?_)
  · refine V_iload_n dX7_shortWay_17 rfl rfl ?_
    refine V_bipush (v := -18) dX7_shortWay_18 (by decide) ?_
    refine V_icmp_gt (tgt := 30) dX7_shortWay_20 (by decide) (fun c20 => ?_) (fun c20 => ?_)
    · refine V_iload_n dX7_shortWay_30 rfl rfl ?_
      refine V_iret rfl dX7_shortWay_31 (Nat.le_of_ble_eq_true rfl) (Nat.le_of_ble_eq_true rfl) ?_
      refine ok2i ?_
      unfold tShort; (repeat' split) <;> first | rfl | (exfalso; simp only [Int32.le_iff_toInt_le, Int32.lt_iff_toInt_lt] at *; omega)
    · refine V_iload_n dX7_shortWay_23 rfl rfl ?_
      refine V_bipush (v := 36) dX7_shortWay_24 (by decide) ?_
      refine V_iadd dX7_shortWay_26 ?_
      refine V_goto (tgt := 31) dX7_shortWay_27 (by decide) ?_
      refine V_iret rfl dX7_shortWay_31 (Nat.le_of_ble_eq_true rfl) (Nat.le_of_ble_eq_true rfl) ?_
      refine ok2i ?_
      unfold tShort; (repeat' split) <;> first | rfl | (exfalso; simp only [Int32.le_iff_toInt_le, Int32.lt_iff_toInt_lt] at *; omega)
  · refine V_iload_n dX7_shortWay_10 rfl rfl ?_
    refine V_bipush (v := 36) dX7_shortWay_11 (by decide) ?_
    refine V_isub dX7_shortWay_13 ?_
    refine V_goto (tgt := 31) dX7_shortWay_14 (by decide) ?_
    refine V_iret rfl dX7_shortWay_31 (Nat.le_of_ble_eq_true rfl) (Nat.le_of_ble_eq_true rfl) ?_
    refine ok2i ?_
    unfold tShort; (repeat' split) <;> first | rfl | (exfalso; simp only [Int32.le_iff_toInt_le, Int32.lt_iff_toInt_lt] at *; omega)

set_option maxRecDepth 100000 in
theorem c_X9_round (x : Int32) (w : Wd) : Cc yX9_round mX9_round [.int x] w (fun r w' => r = some (.int (nI (rN x))) ∧ w' = w) := by
  refine Cc.of (by decide) rfl rfl (Nat.le_of_ble_eq_true rfl) (fun X => ?_)
  change V _ X _ 0 [(0, _)] [] _ (0, 0)
  refine V_iload_n dX9_round_0 rfl rfl ?_
  refine V_bipush (v := 36) dX9_round_1 (by decide) ?_
  refine V_irem dX9_round_3 (by decide) ?_
  refine S_istore_n (L' := [(1, _)]) dX9_round_4 rfl rfl rfl ?_
  refine V_iload_n dX9_round_5 rfl rfl ?_
  refine V_if_ge (tgt := 16) dX9_round_6 (by decide) (fun c6 => ?_) (fun c6 => ?_)
  · refine V_iload_n dX9_round_16 rfl rfl ?_
    refine V_iret rfl dX9_round_17 (Nat.le_of_ble_eq_true rfl) (Nat.le_of_ble_eq_true rfl) ?_
    refine ok2i ?_
    first | exact rN_pos (Int.not_lt.mp fun q => c6 (rem_lt.mpr q)) | exact rN_pos (by rw [← rem36]; exact Int32.le_iff_toInt_le.mp c6) | exact rN_neg (rem_lt.mp (by first | exact c6 | exact Int32.not_le.mp c6))
  · refine V_iload_n dX9_round_9 rfl rfl ?_
    refine V_bipush (v := 36) dX9_round_10 (by decide) ?_
    refine V_iadd dX9_round_12 ?_
    refine V_goto (tgt := 17) dX9_round_13 (by decide) ?_
    refine V_iret rfl dX9_round_17 (Nat.le_of_ble_eq_true rfl) (Nat.le_of_ble_eq_true rfl) ?_
    refine ok2i ?_
    first | exact rN_pos (Int.not_lt.mp fun q => c6 (rem_lt.mpr q)) | exact rN_pos (by rw [← rem36]; exact Int32.le_iff_toInt_le.mp c6) | exact rN_neg (rem_lt.mp (by first | exact c6 | exact Int32.not_le.mp c6))

set_option maxRecDepth 100000 in
theorem c_X9_shortWay (a b : Int32) (w : Wd) : Cc yX9_shortWay mX9_shortWay [.int a, .int b] w (fun r w' => r = some (.int (mShort a b)) ∧ w' = w) := by
  refine Cc.of (by decide) rfl rfl (Nat.le_of_ble_eq_true rfl) (fun X => ?_)
  change V _ X _ 0 [(0, _), (1, _)] [] _ (0, 0)
  refine V_iload_n dX9_shortWay_0 rfl rfl ?_
  refine V_iload_n dX9_shortWay_1 rfl rfl ?_
  refine V_isub dX9_shortWay_2 ?_
  refine V_callS (As := [_]) (st := _) (c_X9_round _ _) kX9_96 ⟨rfl, rfl, rfl⟩ ⟨(Nat.le_of_ble_eq_true rfl), (Nat.le_of_ble_eq_true rfl)⟩ dX9_shortWay_3 rfl rfl (Nat.le_of_ble_eq_true rfl) ⟨(Nat.le_of_ble_eq_true rfl), (Nat.le_of_ble_eq_true rfl)⟩ ?_
  refine S_istore_n (L' := [(2, _)]) dX9_shortWay_6 rfl rfl rfl ?_
  refine V_iload_n dX9_shortWay_7 rfl rfl ?_
  refine V_bipush (v := 18) dX9_shortWay_8 (by decide) ?_
  refine V_icmp_le (tgt := 20) dX9_shortWay_10 (by decide) (fun c10 => ?_) (fun c10 => ?_)
  · refine V_iload_n dX9_shortWay_20 rfl rfl ?_
    refine V_iret rfl dX9_shortWay_21 (Nat.le_of_ble_eq_true rfl) (Nat.le_of_ble_eq_true rfl) ?_
    refine ok2i ?_
    unfold mShort; (repeat' split) <;> first | rfl | (exfalso; simp only [Int32.le_iff_toInt_le, Int32.lt_iff_toInt_lt] at *; omega)
  · refine V_iload_n dX9_shortWay_13 rfl rfl ?_
    refine V_bipush (v := 36) dX9_shortWay_14 (by decide) ?_
    refine V_isub dX9_shortWay_16 ?_
    refine V_goto (tgt := 21) dX9_shortWay_17 (by decide) ?_
    refine V_iret rfl dX9_shortWay_21 (Nat.le_of_ble_eq_true rfl) (Nat.le_of_ble_eq_true rfl) ?_
    refine ok2i ?_
    unfold mShort; (repeat' split) <;> first | rfl | (exfalso; simp only [Int32.le_iff_toInt_le, Int32.lt_iff_toInt_lt] at *; omega)

set_option maxRecDepth 100000 in
theorem c_X9_amount (a : Int32) (w : Wd) : Cc yX9_amount mX9_amount [.int a] w (fun r w' => r = some (.int (mAmt a)) ∧ w' = w) := by
  refine Cc.of (by decide) rfl rfl (Nat.le_of_ble_eq_true rfl) (fun X => ?_)
  change V _ X _ 0 [(0, _)] [] _ (0, 0)
  refine V_iload_n dX9_amount_0 rfl rfl ?_
  refine V_if_ge (tgt := 9) dX9_amount_1 (by decide) (fun c1 => ?_) (fun c1 => ?_)
  · refine V_iload_n dX9_amount_9 rfl rfl ?_
    refine V_iret rfl dX9_amount_10 (Nat.le_of_ble_eq_true rfl) (Nat.le_of_ble_eq_true rfl) ?_
    refine ok2i ?_
    unfold mAmt; (repeat' split) <;> first | rfl | (exfalso; simp only [Int32.le_iff_toInt_le, Int32.lt_iff_toInt_lt] at *; omega)
  · refine V_iload_n dX9_amount_4 rfl rfl ?_
    refine V_ineg dX9_amount_5 ?_
    refine V_goto (tgt := 10) dX9_amount_6 (by decide) ?_
    refine V_iret rfl dX9_amount_10 (Nat.le_of_ble_eq_true rfl) (Nat.le_of_ble_eq_true rfl) ?_
    refine ok2i ?_
    unfold mAmt; (repeat' split) <;> first | rfl | (exfalso; simp only [Int32.le_iff_toInt_le, Int32.lt_iff_toInt_lt] at *; omega)

set_option maxRecDepth 100000 in
theorem c_X9_spot (a b : Int32) (w : Wd) : Cc yX9_spot mX9_spot [.int a, .int b] w (fun r w' => r = some (.int (300 * a + 10 * b)) ∧ w' = w) := by
  refine Cc.of (by decide) rfl rfl (Nat.le_of_ble_eq_true rfl) (fun X => ?_)
  change V _ X _ 0 [(0, _), (1, _)] [] _ (0, 0)
  refine V_sipush (v := 300) dX9_spot_0 (by decide) ?_
  refine V_iload_n dX9_spot_3 rfl rfl ?_
  refine V_imul dX9_spot_4 ?_
  refine V_bipush (v := 10) dX9_spot_5 (by decide) ?_
  refine V_iload_n dX9_spot_7 rfl rfl ?_
  refine V_imul dX9_spot_8 ?_
  refine V_iadd dX9_spot_9 ?_
  refine V_iret rfl dX9_spot_10 (Nat.le_of_ble_eq_true rfl) (Nat.le_of_ble_eq_true rfl) ?_
  exact ok2i rfl

set_option maxRecDepth 100000 in
theorem c_X8_asLong (a : Int32) (w : Wd) : Cc yX8_asLong mX8_asLong [.int a] w (fun r w' => r = some (.long (-9223372036854775808 - a.toInt64)) ∧ w' = w) := by
  refine Cc.of (by decide) rfl rfl (Nat.le_of_ble_eq_true rfl) (fun X => ?_)
  change V _ X _ 0 [(0, _)] [] _ (0, 0)
  refine V_ldc2 ctX8_293 dX8_asLong_0 ?_
  refine V_iload_n dX8_asLong_3 rfl rfl ?_
  refine V_i2l dX8_asLong_4 ?_
  refine V_lsub dX8_asLong_5 ?_
  refine V_lret rfl dX8_asLong_6 (Nat.le_of_ble_eq_true rfl) (Nat.le_of_ble_eq_true rfl) ?_
  exact ok2l rfl

set_option maxRecDepth 100000 in
theorem c_X9_no (a : Int32) (w : Wd) : Cc yX9_no mX9_no [.int a] w (fun r w' => r = some (.long (-9223372036854775808 - a.toInt64)) ∧ w' = w) := by
  refine Cc.of (by decide) rfl rfl (Nat.le_of_ble_eq_true rfl) (fun X => ?_)
  change V _ X _ 0 [(0, _)] [] _ (0, 0)
  refine V_ldc2 ctX9_94 dX9_no_0 ?_
  refine V_iload_n dX9_no_3 rfl rfl ?_
  refine V_i2l dX9_no_4 ?_
  refine V_lsub dX9_no_5 ?_
  refine V_lret rfl dX9_no_6 (Nat.le_of_ble_eq_true rfl) (Nat.le_of_ble_eq_true rfl) ?_
  exact ok2l rfl

set_option maxRecDepth 100000 in
theorem c_X8_isTurn (a : Int32) (w : Wd) : Cc yX8_isTurn mX8_isTurn [.int a] w (fun r w' => r = some (.int (b01 (0 ≤ a.toInt ∧ a.toInt ≤ 35))) ∧ w' = w) := by
  refine Cc.of (by decide) rfl rfl (Nat.le_of_ble_eq_true rfl) (fun X => ?_)
  change V _ X _ 0 [(0, _)] [] _ (0, 0)
  refine V_iload_n dX8_isTurn_0 rfl rfl ?_
  refine V_i2l dX8_isTurn_1 ?_
  refine V_lconst (v := 0) dX8_isTurn_2 (by decide) ?_
  refine V_ldc2 ctX8_285 dX8_isTurn_3 ?_
  refine V_callS (As := [_, _, _]) (st := _) (c_X8_isIn _ _ _ _) kX8_54 ⟨rfl, rfl, rfl⟩ ⟨(Nat.le_of_ble_eq_true rfl), (Nat.le_of_ble_eq_true rfl)⟩ dX8_isTurn_6 rfl rfl (Nat.le_of_ble_eq_true rfl) ⟨(Nat.le_of_ble_eq_true rfl), (Nat.le_of_ble_eq_true rfl)⟩ ?_
  refine V_zret rfl dX8_isTurn_9 (Nat.le_of_ble_eq_true rfl) (Nat.le_of_ble_eq_true rfl) (b01_nar _) ?_
  exact ok2i (b01_c (by unfold inL; rw [Int32.toInt_toInt64]; exact Iff.rfl))

set_option maxRecDepth 100000 in
theorem c_X8_isForm (a : Int32) (w : Wd) : Cc yX8_isForm mX8_isForm [.int a] w (fun r w' => r = some (.int (b01 (0 ≤ a.toInt ∧ a.toInt ≤ 2))) ∧ w' = w) := by
  refine Cc.of (by decide) rfl rfl (Nat.le_of_ble_eq_true rfl) (fun X => ?_)
  change V _ X _ 0 [(0, _)] [] _ (0, 0)
  refine V_iload_n dX8_isForm_0 rfl rfl ?_
  refine V_i2l dX8_isForm_1 ?_
  refine V_lconst (v := 0) dX8_isForm_2 (by decide) ?_
  refine V_ldc2 ctX8_291 dX8_isForm_3 ?_
  refine V_callS (As := [_, _, _]) (st := _) (c_X8_isIn _ _ _ _) kX8_54 ⟨rfl, rfl, rfl⟩ ⟨(Nat.le_of_ble_eq_true rfl), (Nat.le_of_ble_eq_true rfl)⟩ dX8_isForm_6 rfl rfl (Nat.le_of_ble_eq_true rfl) ⟨(Nat.le_of_ble_eq_true rfl), (Nat.le_of_ble_eq_true rfl)⟩ ?_
  refine V_zret rfl dX8_isForm_9 (Nat.le_of_ble_eq_true rfl) (Nat.le_of_ble_eq_true rfl) (b01_nar _) ?_
  exact ok2i (b01_c (by unfold inL; rw [Int32.toInt_toInt64]; exact Iff.rfl))

set_option maxRecDepth 100000 in
theorem c_X9_isClip (a : Int32) (w : Wd) : Cc yX9_isClip mX9_isClip [.int a] w (fun r w' => r = some (.int (b01 (0 ≤ a.toInt ∧ a.toInt ≤ 5))) ∧ w' = w) := by
  refine Cc.of (by decide) rfl rfl (Nat.le_of_ble_eq_true rfl) (fun X => ?_)
  change V _ X _ 0 [(0, _)] [] _ (0, 0)
  refine V_iload_n dX9_isClip_0 rfl rfl ?_
  refine V_i2l dX9_isClip_1 ?_
  refine V_lconst (v := 0) dX9_isClip_2 (by decide) ?_
  refine V_ldc2 ctX9_176 dX9_isClip_3 ?_
  refine V_callS (As := [_, _, _]) (st := _) (c_X9_in _ _ _ _) kX9_114 ⟨rfl, rfl, rfl⟩ ⟨(Nat.le_of_ble_eq_true rfl), (Nat.le_of_ble_eq_true rfl)⟩ dX9_isClip_6 rfl rfl (Nat.le_of_ble_eq_true rfl) ⟨(Nat.le_of_ble_eq_true rfl), (Nat.le_of_ble_eq_true rfl)⟩ ?_
  refine V_zret rfl dX9_isClip_9 (Nat.le_of_ble_eq_true rfl) (Nat.le_of_ble_eq_true rfl) (b01_nar _) ?_
  exact ok2i (b01_c (by unfold inL; rw [Int32.toInt_toInt64]; exact Iff.rfl))

set_option maxRecDepth 100000 in
theorem c_X9_isSheet (a : Int32) (w : Wd) : Cc yX9_isSheet mX9_isSheet [.int a] w (fun r w' => r = some (.int (b01 (0 ≤ a.toInt ∧ a.toInt ≤ 3))) ∧ w' = w) := by
  refine Cc.of (by decide) rfl rfl (Nat.le_of_ble_eq_true rfl) (fun X => ?_)
  change V _ X _ 0 [(0, _)] [] _ (0, 0)
  refine V_iload_n dX9_isSheet_0 rfl rfl ?_
  refine V_i2l dX9_isSheet_1 ?_
  refine V_lconst (v := 0) dX9_isSheet_2 (by decide) ?_
  refine V_ldc2 ctX9_231 dX9_isSheet_3 ?_
  refine V_callS (As := [_, _, _]) (st := _) (c_X9_in _ _ _ _) kX9_114 ⟨rfl, rfl, rfl⟩ ⟨(Nat.le_of_ble_eq_true rfl), (Nat.le_of_ble_eq_true rfl)⟩ dX9_isSheet_6 rfl rfl (Nat.le_of_ble_eq_true rfl) ⟨(Nat.le_of_ble_eq_true rfl), (Nat.le_of_ble_eq_true rfl)⟩ ?_
  refine V_zret rfl dX9_isSheet_9 (Nat.le_of_ble_eq_true rfl) (Nat.le_of_ble_eq_true rfl) (b01_nar _) ?_
  exact ok2i (b01_c (by unfold inL; rw [Int32.toInt_toInt64]; exact Iff.rfl))

set_option maxRecDepth 100000 in
theorem c_X8_isPlace (a b : Int64) (w : Wd) : Cc yX8_isPlace mX8_isPlace [.long a, .long b] w (fun r w' => r = some (.int (b01 (plc a ∧ plc b))) ∧ w' = w) := by
  refine Cc.of (by decide) rfl rfl (Nat.le_of_ble_eq_true rfl) (fun X => ?_)
  change V _ X _ 0 [(0, _), (2, _)] [] _ (0, 0)
  refine V_lload_n dX8_isPlace_0 rfl rfl ?_
  refine V_ldc2 ctX8_287 dX8_isPlace_1 ?_
  refine V_ldc2 ctX8_289 dX8_isPlace_4 ?_
  refine V_callS (As := [_, _, _]) (st := _) (c_X8_isIn _ _ _ _) kX8_54 ⟨rfl, rfl, rfl⟩ ⟨(Nat.le_of_ble_eq_true rfl), (Nat.le_of_ble_eq_true rfl)⟩ dX8_isPlace_7 rfl rfl (Nat.le_of_ble_eq_true rfl) ⟨(Nat.le_of_ble_eq_true rfl), (Nat.le_of_ble_eq_true rfl)⟩ ?_
  refine V_if_eq (tgt := 30) dX8_isPlace_10 (by decide) (fun c10 => ?_) (fun c10 => ?_)
  · refine V_iconst (v := 0) dX8_isPlace_30 (by decide) ?_
    refine V_zret rfl dX8_isPlace_31 (Nat.le_of_ble_eq_true rfl) (Nat.le_of_ble_eq_true rfl) rfl ?_
    exact ok2i (by first | exact (b01_f (fun q => b01_0 (by assumption) q.1)).symm | exact (b01_f (fun q => b01_0 (by assumption) q.2)).symm | exact (b01_t ⟨b01_1 (by assumption), b01_1 (by assumption)⟩).symm)
  · refine V_lload_n dX8_isPlace_13 rfl rfl ?_
    refine V_ldc2 ctX8_287 dX8_isPlace_14 ?_
    refine V_ldc2 ctX8_289 dX8_isPlace_17 ?_
    refine V_callS (As := [_, _, _]) (st := _) (c_X8_isIn _ _ _ _) kX8_54 ⟨rfl, rfl, rfl⟩ ⟨(Nat.le_of_ble_eq_true rfl), (Nat.le_of_ble_eq_true rfl)⟩ dX8_isPlace_20 rfl rfl (Nat.le_of_ble_eq_true rfl) ⟨(Nat.le_of_ble_eq_true rfl), (Nat.le_of_ble_eq_true rfl)⟩ ?_
    refine V_if_eq (tgt := 30) dX8_isPlace_23 (by decide) (fun c23 => ?_) (fun c23 => ?_)
    · refine V_iconst (v := 0) dX8_isPlace_30 (by decide) ?_
      refine V_zret rfl dX8_isPlace_31 (Nat.le_of_ble_eq_true rfl) (Nat.le_of_ble_eq_true rfl) rfl ?_
      exact ok2i (by first | exact (b01_f (fun q => b01_0 (by assumption) q.1)).symm | exact (b01_f (fun q => b01_0 (by assumption) q.2)).symm | exact (b01_t ⟨b01_1 (by assumption), b01_1 (by assumption)⟩).symm)
    · refine V_iconst (v := 1) dX8_isPlace_26 (by decide) ?_
      refine V_goto (tgt := 31) dX8_isPlace_27 (by decide) ?_
      refine V_zret rfl dX8_isPlace_31 (Nat.le_of_ble_eq_true rfl) (Nat.le_of_ble_eq_true rfl) rfl ?_
      exact ok2i (by first | exact (b01_f (fun q => b01_0 (by assumption) q.1)).symm | exact (b01_f (fun q => b01_0 (by assumption) q.2)).symm | exact (b01_t ⟨b01_1 (by assumption), b01_1 (by assumption)⟩).symm)

set_option maxRecDepth 100000 in
theorem c_X9_isPlace (a b : Int64) (w : Wd) : Cc yX9_isPlace mX9_isPlace [.long a, .long b] w (fun r w' => r = some (.int (b01 (plc a ∧ plc b))) ∧ w' = w) := by
  refine Cc.of (by decide) rfl rfl (Nat.le_of_ble_eq_true rfl) (fun X => ?_)
  change V _ X _ 0 [(0, _), (2, _)] [] _ (0, 0)
  refine V_lload_n dX9_isPlace_0 rfl rfl ?_
  refine V_ldc2 ctX9_118 dX9_isPlace_1 ?_
  refine V_ldc2 ctX9_120 dX9_isPlace_4 ?_
  refine V_callS (As := [_, _, _]) (st := _) (c_X9_in _ _ _ _) kX9_114 ⟨rfl, rfl, rfl⟩ ⟨(Nat.le_of_ble_eq_true rfl), (Nat.le_of_ble_eq_true rfl)⟩ dX9_isPlace_7 rfl rfl (Nat.le_of_ble_eq_true rfl) ⟨(Nat.le_of_ble_eq_true rfl), (Nat.le_of_ble_eq_true rfl)⟩ ?_
  refine V_if_eq (tgt := 30) dX9_isPlace_10 (by decide) (fun c10 => ?_) (fun c10 => ?_)
  · refine V_iconst (v := 0) dX9_isPlace_30 (by decide) ?_
    refine V_zret rfl dX9_isPlace_31 (Nat.le_of_ble_eq_true rfl) (Nat.le_of_ble_eq_true rfl) rfl ?_
    exact ok2i (by first | exact (b01_f (fun q => b01_0 (by assumption) q.1)).symm | exact (b01_f (fun q => b01_0 (by assumption) q.2)).symm | exact (b01_t ⟨b01_1 (by assumption), b01_1 (by assumption)⟩).symm)
  · refine V_lload_n dX9_isPlace_13 rfl rfl ?_
    refine V_ldc2 ctX9_118 dX9_isPlace_14 ?_
    refine V_ldc2 ctX9_120 dX9_isPlace_17 ?_
    refine V_callS (As := [_, _, _]) (st := _) (c_X9_in _ _ _ _) kX9_114 ⟨rfl, rfl, rfl⟩ ⟨(Nat.le_of_ble_eq_true rfl), (Nat.le_of_ble_eq_true rfl)⟩ dX9_isPlace_20 rfl rfl (Nat.le_of_ble_eq_true rfl) ⟨(Nat.le_of_ble_eq_true rfl), (Nat.le_of_ble_eq_true rfl)⟩ ?_
    refine V_if_eq (tgt := 30) dX9_isPlace_23 (by decide) (fun c23 => ?_) (fun c23 => ?_)
    · refine V_iconst (v := 0) dX9_isPlace_30 (by decide) ?_
      refine V_zret rfl dX9_isPlace_31 (Nat.le_of_ble_eq_true rfl) (Nat.le_of_ble_eq_true rfl) rfl ?_
      exact ok2i (by first | exact (b01_f (fun q => b01_0 (by assumption) q.1)).symm | exact (b01_f (fun q => b01_0 (by assumption) q.2)).symm | exact (b01_t ⟨b01_1 (by assumption), b01_1 (by assumption)⟩).symm)
    · refine V_iconst (v := 1) dX9_isPlace_26 (by decide) ?_
      refine V_goto (tgt := 31) dX9_isPlace_27 (by decide) ?_
      refine V_zret rfl dX9_isPlace_31 (Nat.le_of_ble_eq_true rfl) (Nat.le_of_ble_eq_true rfl) rfl ?_
      exact ok2i (by first | exact (b01_f (fun q => b01_0 (by assumption) q.1)).symm | exact (b01_f (fun q => b01_0 (by assumption) q.2)).symm | exact (b01_t ⟨b01_1 (by assumption), b01_1 (by assumption)⟩).symm)
