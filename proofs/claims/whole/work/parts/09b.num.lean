/-! numbers -/
theorem V_ixor {M : Mi} {X : Cx} {Q : State → Prop} {pc : Nat} {L : List (Nat × Value)} {st : List Value} {w : Wd} {cs : Nat × Nat} {x y : Int32} (hd : decode M.2.1 pc = .ok (.ixor, 1)) (k : V M X Q (pc + 1) L (.int (x ^^^ y) :: st) w cs) : V M X Q pc L (.int y :: .int x :: st) w cs := fun o ad H locs ls h hl => lv_ixor o.1 o.2.1 hd (k o ad H locs ls h hl)
theorem i32_neN {x y : Int32} (k : Int) (hk : y.toInt = k) (h : ¬ x = y) : x.toInt ≠ k := fun q => h (Int32.toInt_inj.mp (q.trans hk.symm))
theorem fb_rng (x : Int32) : -2147483648 ≤ x.toInt ∧ x.toInt < 2147483648 := ⟨by have := x.le_toInt; simpa using this, by have := x.toInt_lt; simpa using this⟩
theorem fb_rngL (x : Int64) : -9223372036854775808 ≤ x.toInt ∧ x.toInt < 9223372036854775808 := ⟨by have := x.le_toInt; simpa using this, by have := x.toInt_lt; simpa using this⟩
theorem fb_bmod {z : Int} (h1 : -2147483648 ≤ z) (h2 : z < 2147483648) : z.bmod (2 ^ 32) = z := Int.bmod_eq_of_le (by omega) (by omega)
theorem fb_bmodL {z : Int} (h1 : -9223372036854775808 ≤ z) (h2 : z < 9223372036854775808) : z.bmod (2 ^ 64) = z := Int.bmod_eq_of_le (by omega) (by omega)
theorem fb_addI {x y : Int32} (h1 : -2147483648 ≤ x.toInt + y.toInt) (h2 : x.toInt + y.toInt < 2147483648) : (x + y).toInt = x.toInt + y.toInt := by rw [Int32.toInt_add, fb_bmod h1 h2]
theorem fb_subI {x y : Int32} (h1 : -2147483648 ≤ x.toInt - y.toInt) (h2 : x.toInt - y.toInt < 2147483648) : (x - y).toInt = x.toInt - y.toInt := by rw [Int32.toInt_sub, fb_bmod h1 h2]
theorem fb_mulI {x y : Int32} (h1 : -2147483648 ≤ x.toInt * y.toInt) (h2 : x.toInt * y.toInt < 2147483648) : (x * y).toInt = x.toInt * y.toInt := by rw [Int32.toInt_mul, fb_bmod h1 h2]
theorem fb_negI {x : Int32} (h : x.toInt ≠ -2147483648) : (-x).toInt = -x.toInt := by have := fb_rng x; rw [Int32.toInt_neg, fb_bmod (by omega) (by omega)]
theorem fb_ofI {z : Int} (h1 : -2147483648 ≤ z) (h2 : z < 2147483648) : (Int32.ofInt z).toInt = z := by rw [Int32.toInt_ofInt]; exact fb_bmod h1 h2
theorem fb_addL {x y : Int64} (h1 : -9223372036854775808 ≤ x.toInt + y.toInt) (h2 : x.toInt + y.toInt < 9223372036854775808) : (x + y).toInt = x.toInt + y.toInt := by rw [Int64.toInt_add, fb_bmodL h1 h2]
theorem fb_subL {x y : Int64} (h1 : -9223372036854775808 ≤ x.toInt - y.toInt) (h2 : x.toInt - y.toInt < 9223372036854775808) : (x - y).toInt = x.toInt - y.toInt := by rw [Int64.toInt_sub, fb_bmodL h1 h2]
theorem fb_mulL {x y : Int64} (h1 : -9223372036854775808 ≤ x.toInt * y.toInt) (h2 : x.toInt * y.toInt < 9223372036854775808) : (x * y).toInt = x.toInt * y.toInt := by rw [Int64.toInt_mul, fb_bmodL h1 h2]
theorem fb_negL {x : Int64} (h : x.toInt ≠ -9223372036854775808) : (-x).toInt = -x.toInt := by have := fb_rngL x; rw [Int64.toInt_neg, fb_bmodL (by omega) (by omega)]
theorem i32_divT (x y : Int32) (h : y.toInt ≠ -1) : (x / y).toInt = x.toInt.tdiv y.toInt := by
  have hx := fb_rng x
  rw [Int32.toInt_div]
  by_cases h0 : y.toInt = 0
  · rw [h0, Int.tdiv_zero]; rfl
  have h1 : (x.toInt.tdiv y.toInt).natAbs = x.toInt.natAbs / y.toInt.natAbs := Int.natAbs_tdiv ..
  have h2 : 2 ≤ y.toInt.natAbs ∨ y.toInt = 1 := by omega
  apply fb_bmod
  · rcases h2 with h2 | h2
    · have : x.toInt.natAbs / y.toInt.natAbs ≤ x.toInt.natAbs / 2 := Nat.div_le_div_left h2 (by omega)
      omega
    · rw [h2, Int.tdiv_one]; omega
  · rcases h2 with h2 | h2
    · have : x.toInt.natAbs / y.toInt.natAbs ≤ x.toInt.natAbs / 2 := Nat.div_le_div_left h2 (by omega)
      omega
    · rw [h2, Int.tdiv_one]; omega
theorem i32_remT (x y : Int32) (h : y.toInt ≠ -1) (h0 : y.toInt ≠ 0) : (x - x / y * y).toInt = x.toInt.tmod y.toInt := by
  have hx := fb_rng x
  have e : x.toInt - x.toInt.tdiv y.toInt * y.toInt = x.toInt.tmod y.toInt := by
    rw [Int.tmod_def, Int.mul_comm]
  have hr : (x.toInt.tmod y.toInt).natAbs ≤ x.toInt.natAbs := by rw [Int.natAbs_tmod]; exact Nat.mod_le _ _
  have hq : (x.toInt.tdiv y.toInt * y.toInt).natAbs ≤ x.toInt.natAbs := by
    rw [Int.natAbs_mul, Int.natAbs_tdiv]; exact Nat.div_mul_le_self _ _
  have hb : -2147483648 ≤ x.toInt.tdiv y.toInt * y.toInt ∧ x.toInt.tdiv y.toInt * y.toInt ≤ 2147483648 := by omega
  by_cases hm : x.toInt.tdiv y.toInt * y.toInt = 2147483648
  · exfalso
    omega
  · rw [fb_subI]
    · rw [fb_mulI] <;> rw [i32_divT x y h] <;> omega
    · rw [fb_mulI] <;> rw [i32_divT x y h] <;> omega
    · rw [fb_mulI] <;> rw [i32_divT x y h] <;> omega
/-- a number's rest by 36, 0 to 35 -/
def rN (t : Int32) : Nat := (t.toInt % 36).toNat
theorem rN_lt (t : Int32) : rN t < 36 := by unfold rN; omega
theorem rem36 (t : Int32) : (t - t / 36 * 36).toInt = t.toInt.tmod 36 := i32_remT t 36 (by decide) (by decide)
theorem tm36 (z : Int) : (0 ≤ z → z.tmod 36 = z % 36) ∧ (z < 0 → z.tmod 36 = -((-z) % 36)) := by
  refine ⟨fun h => Int.tmod_eq_emod_of_nonneg h, fun h => ?_⟩
  have e : z = -(-z) := by omega
  rw [e, Int.neg_tmod, Int.tmod_eq_emod_of_nonneg (by omega), Int.neg_neg]
theorem rN_pos {t : Int32} (h : 0 ≤ t.toInt.tmod 36) : t - t / 36 * 36 = nI (rN t) := by
  apply Int32.toInt_inj.mp
  have := rN_lt t
  have h1 := tm36 t.toInt
  rw [rem36, nI_toInt (by omega), rN]
  rcases Int.lt_or_le t.toInt 0 with h2 | h2
  · rw [h1.2 h2] at h ⊢
    omega
  · rw [h1.1 h2] at h ⊢
    omega
theorem rN_neg {t : Int32} (h : t.toInt.tmod 36 < 0) : t - t / 36 * 36 + 36 = nI (rN t) := by
  apply Int32.toInt_inj.mp
  have := rN_lt t
  have h1 := tm36 t.toInt
  have e36 : (36 : Int32).toInt = 36 := rfl
  have h2 : t.toInt < 0 := by
    rcases Int.lt_or_le t.toInt 0 with h2 | h2
    · exact h2
    · rw [h1.1 h2] at h; omega
  have h3 := h1.2 h2
  have h4 := rem36 t
  rw [fb_addI (by rw [h4, h3, e36]; omega) (by rw [h4, h3, e36]; omega), h4, h3, e36, nI_toInt (by omega), rN]
  rw [h3] at h
  omega
def b01 (c : Prop) [Decidable c] : Int32 := if c then 1 else 0
theorem b01_t {c : Prop} [Decidable c] (h : c) : b01 c = 1 := if_pos h
theorem b01_f {c : Prop} [Decidable c] (h : ¬ c) : b01 c = 0 := if_neg h
theorem b01_0 {c : Prop} [Decidable c] (h : b01 c = 0) : ¬ c := fun q => by rw [b01_t q] at h; cases h
theorem b01_1 {c : Prop} [Decidable c] (h : ¬ b01 c = 0) : c := Classical.not_not.mp fun q => h (b01_f q)
theorem b01_nar (c : Prop) [Decidable c] : narrow .boolean (.int (b01 c)) = .int (b01 c) := by unfold b01; by_cases h : c <;> simp [h] <;> rfl
theorem Ct.ofF {l : Launch} {y : MethodName} {M : Mi} {Pre : List Value → Wd → Prop} {Post : List Value → Wd → Option Value → Wd → Prop} (hy : plainFor y = true) (hc : y.cls = M.1) (hn : y.name = M.2.2.2.2.2.1) (hlen : ∀ av w, Pre av w → (lg_sl av).length ≤ M.2.2.1)
    (body : ∀ (X : Cx) (av : List Value) (w : Wd), Pre av w → V M X (mq M X (Post av w)) 0 (lv_args 0 av) [] w (0, 0)) : Ct l y M Pre Post := by
  intro D cy ad w sz av hp
  refine va_MetF (cc := M.2.1) (maxL := M.2.2.1) (ret := M.2.2.2.1) hy rfl ?_
  intro p e s m args below meth c s₁ B hml hv
  obtain ⟨rfl, hsz, hw, hP, hD0, hH, hZ, hT⟩ := hv
  subst hsz
  have hts : ∀ w ∈ tb, w.before (av.map (mv ad)).toArray s = true := fun w hw => atoms_spec (ws := .code y M.2.1 M.2.2.1 M.2.2.2.1 :: tb) B.pre w (List.mem_cons_of_mem _ hw)
  have hown : s.vm.findClass M.1 = some m.cls := by rw [← hc]; exact findClass_of_methodNamed B.named
  have hnm : meth.name = M.2.2.2.2.2.1 := by rw [← hn]; exact (name_of_methodNamed B.named B.method).1
  have hl := lv_entry (av.map (mv ad)) (n := M.2.2.1) (by rw [lg_sl_mv]; exact hlen av w hp)
  rw [lg_entry_eq]
  generalize (lg_sl (av.map (mv ad)) ++ List.replicate (M.2.2.1 - (lg_sl (av.map (mv ad))).length) Slot.unset).toArray = ls at hl ⊢
  rw [lv_args_mv] at hl
  have key := body (p, l, e, s, m, below, meth, c, D, cy, ad, w, av, none) av w hp ⟨B.exec, B.bytes, hml, B.returns, hown, hts, B.notSynchronized, hH, ⟨hZ, hT⟩, hnm, fun q h => by cases h⟩ ad s.heap [] ls ⟨hw, hP, hD0.self, va_S.rf, ⟨fun _ _ => rfl, fun _ h => h⟩, Or.inr rfl⟩ hl
  exact key
theorem Cc.ofF {y : MethodName} {M : Mi} {av : List Value} {w : Wd} {P : Option Value → Wd → Prop} (hy : plainFor y = true) (hc : y.cls = M.1) (hn : y.name = M.2.2.2.2.2.1) (hlen : (lg_sl av).length ≤ M.2.2.1) (body : ∀ X : Cx, V M X (mq M X P) 0 (lv_args 0 av) [] w (0, 0)) : Cc y M av w P := fun l => by
  refine Ct.ofF hy hc hn (fun av' w' h => by rw [h.1]; exact hlen) (fun X av' w' h => ?_)
  obtain ⟨rfl, rfl⟩ := h
  exact body X
