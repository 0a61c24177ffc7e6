/-! turns as Int32s and as numbers -/
theorem tDist_N {a b : Nat} (ha : a < 36) (hb : b < 36) : tDist (nI a) (nI b) = nI (distN a b) :=
  (by decide +kernel : ∀ a : Fin 36, ∀ b : Fin 36, tDist (nI a) (nI b) = nI (distN a b)) ⟨a, ha⟩ ⟨b, hb⟩
theorem tShort_N {a b : Nat} (ha : a < 36) (hb : b < 36) : tShort (nI a) (nI b) = Int32.ofInt (shortN a b) :=
  (by decide +kernel : ∀ a : Fin 36, ∀ b : Fin 36, tShort (nI a) (nI b) = Int32.ofInt (shortN a b)) ⟨a, ha⟩ ⟨b, hb⟩
theorem mShort_N {a b : Nat} (ha : a < 36) (hb : b < 36) : mShort (nI a) (nI b) = Int32.ofInt (shortN a b) :=
  (by decide +kernel : ∀ a : Fin 36, ∀ b : Fin 36, mShort (nI a) (nI b) = Int32.ofInt (shortN a b)) ⟨a, ha⟩ ⟨b, hb⟩
theorem mAmt_N {a b : Nat} (ha : a < 36) (hb : b < 36) : mAmt (Int32.ofInt (shortN a b)) = nI (distN a b) :=
  (by decide +kernel : ∀ a : Fin 36, ∀ b : Fin 36, mAmt (Int32.ofInt (shortN a b)) = nI (distN a b)) ⟨a, ha⟩ ⟨b, hb⟩
theorem rN_nI {t : Nat} (h : t < 36) : rN (nI t) = t := by
  unfold rN
  rw [nI_toInt (by omega)]
  omega
theorem rN_sin {t : Nat} (h : t < 36) : rN (nI t - 9) = (t + 27) % 36 :=
  (by decide +kernel : ∀ t : Fin 36, rN (nI t - 9) = (t.val + 27) % 36) ⟨t, h⟩
theorem shortN_rng {a b : Nat} (ha : a < 36) (hb : b < 36) : -17 ≤ shortN a b ∧ shortN a b ≤ 18 := by
  unfold shortN
  simp only
  split <;> omega
theorem distN_sym {a b : Nat} (ha : a < 36) (hb : b < 36) : distN a b = distN b a :=
  (by decide +kernel : ∀ a : Fin 36, ∀ b : Fin 36, distN a b = distN b a) ⟨a, ha⟩ ⟨b, hb⟩
theorem lastN_lt (lo sp : Nat) : lastN lo sp < 36 := Nat.mod_lt _ (by decide)
theorem intoN_lt {lo sp t : Nat} (hl : lo < 36) (ht : t < 36) : intoN lo sp t < 36 := by
  unfold intoN
  have := lastN_lt lo sp
  split
  · exact ht
  · split <;> omega
theorem addN_lt (t : Nat) (z : Int) : addN t z < 36 := by unfold addN; omega
theorem rN_add {t : Nat} {z : Int} (ht : t < 36) (h1 : -1000 ≤ z) (h2 : z ≤ 1000) : rN (nI t + Int32.ofInt z) = addN t z := by
  unfold rN addN
  rw [fb_addI, nI_toInt (by omega), fb_ofI (by omega) (by omega)] <;> rw [nI_toInt (by omega), fb_ofI (by omega) (by omega)] <;> omega
theorem tdiv_rng {z : Int} (h1 : -2000 ≤ z) (h2 : z ≤ 2000) : -20 ≤ z.tdiv 100 ∧ z.tdiv 100 ≤ 20 := by
  have h : (z.tdiv 100).natAbs = z.natAbs / 100 := Int.natAbs_tdiv ..
  omega
theorem bl_num {a b w : Nat} (ha : a < 36) (hb : b < 36) (hw : w ≤ 100) : Int32.ofInt (shortN a b) * nI w / 100 = Int32.ofInt ((shortN a b * w).tdiv 100) := by
  have hr := shortN_rng ha hb
  have hm : -2000 ≤ shortN a b * w ∧ shortN a b * w ≤ 2000 := by
    constructor
    · have : -20 * 100 ≤ shortN a b * w := by
        have h1 : (-20 : Int) * w ≤ shortN a b * w := Int.mul_le_mul_of_nonneg_right (by omega) (by omega)
        have h2 : (-20 : Int) * 100 ≤ -20 * w := by omega
        omega
      omega
    · have : shortN a b * w ≤ 20 * 100 := by
        have h1 : shortN a b * w ≤ (20 : Int) * w := Int.mul_le_mul_of_nonneg_right (by omega) (by omega)
        have h2 : (20 : Int) * w ≤ 20 * 100 := by omega
        omega
      omega
  have ht := tdiv_rng hm.1 hm.2
  apply Int32.toInt_inj.mp
  rw [i32_divT _ _ (by decide), fb_mulI, fb_ofI (by omega) (by omega), fb_ofI (by omega) (by omega), nI_toInt (by omega)]
  · rfl
  · rw [fb_ofI (by omega) (by omega), nI_toInt (by omega)]; omega
  · rw [fb_ofI (by omega) (by omega), nI_toInt (by omega)]; omega
theorem blend_N {t u w : Nat} (ht : t < 36) (hu : u < 36) (hw : w ≤ 100) : rN (nI t + tShort (nI t) (nI u) * nI w / 100) = addN t ((shortN t u * w).tdiv 100) := by
  rw [tShort_N ht hu, bl_num ht hu hw]
  have hr := shortN_rng ht hu
  have hm : -2000 ≤ shortN t u * w ∧ shortN t u * w ≤ 2000 := by
    constructor
    · have h1 : (-20 : Int) * w ≤ shortN t u * w := Int.mul_le_mul_of_nonneg_right (by omega) (by omega)
      omega
    · have h1 : shortN t u * w ≤ (20 : Int) * w := Int.mul_le_mul_of_nonneg_right (by omega) (by omega)
      omega
  have := tdiv_rng hm.1 hm.2
  exact rN_add ht (by omega) (by omega)
/-- how far past LOW -/
theorem past_ge {lo t : Nat} (hl : lo < 36) (ht : t < 36) (h : nI lo ≤ nI t) : nI t - nI lo = nI ((t + 36 - lo) % 36) := by
  rw [nI_leI (by omega) (by omega)] at h
  rw [pk_sub h]
  congr 1
  omega
theorem past_lt {lo t : Nat} (hl : lo < 36) (ht : t < 36) (h : ¬ nI lo ≤ nI t) : nI t + 36 - nI lo = nI ((t + 36 - lo) % 36) := by
  rw [nI_leI (by omega) (by omega)] at h
  rw [show (36 : Int32) = nI 36 from rfl, nI_add, pk_sub (by omega)]
  congr 1
  omega
theorem wi_low {lo sp : Nat} (h : lo < 36) : wi lo sp lo := by unfold wi; omega
theorem wi_last {lo sp : Nat} (h : lo < 36) (h2 : sp < 36) : wi lo sp (lastN lo sp) := by unfold wi lastN; omega
theorem wi_into {lo sp t : Nat} (hl : lo < 36) (h2 : sp < 36) : wi lo sp (intoN lo sp t) := by
  unfold intoN
  split
  · assumption
  · split
    · exact wi_low hl
    · exact wi_last hl h2
def labs (x : Int64) : Int64 := if 0 < x then x else -x
def lmax (x y : Int64) : Int64 := if y < x then x else y
def farL (ex ey x y : Int64) : Int64 := lmax (labs (ex - x)) (labs (ey - y))
