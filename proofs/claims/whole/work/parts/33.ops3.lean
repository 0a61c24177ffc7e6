/-! BoneSteps: clips and keys -/
abbrev isC (x : Int32) : Prop := 0 ≤ x.toInt ∧ x.toInt < 6
abbrev isFr (z : St) (x y : Int32) : Prop := isC x ∧ (0 ≤ y.toInt ∧ y.toInt < (zQ z).1 (bN x))
theorem isC_n {x : Int32} (hx : isC x) : ∃ c, c < 6 ∧ x = nI c := ⟨bN x, by have := hx.1; have := hx.2; unfold bN; omega, i32_nat hx.1⟩
theorem isFr_n {z : St} {w : Wd} (h : RX z w) {x y : Int32} (hx : isFr z x y) : ∃ c f, c < 6 ∧ f < (zQ z).1 c ∧ x = nI c ∧ y = nI f := by
  obtain ⟨h1, h2, h3⟩ := hx
  exact ⟨bN x, bN y, by have := h1.1; have := h1.2; unfold bN; omega, by have e : bN y = y.toInt.toNat := rfl; omega, i32_nat h1.1, i32_nat h2⟩
theorem isFr_no {z : St} {w : Wd} (h : RX z w) {x y : Int32} (hx : ¬ isFr z x y) : ¬ isF (zQ z) x y := fun ⟨c, f, e1, e2, hc, hf⟩ => by
  subst e1 e2
  have h1 := h.2.1.le hc
  apply hx
  have b1 : bN (nI c) = c := bN_nI (by omega)
  unfold isFr isC
  rw [b1, nI_toInt (by omega), nI_toInt (by omega)]
  omega
theorem isIn_c (x : Int32) (n : Int) (m : Int64) (h : m.toInt = n) (w : Wd) : Cc yX8_isIn mX8_isIn [.long x.toInt64, .long 0, .long m] w (fun r w' => r = some (.int (b01 (0 ≤ x.toInt ∧ x.toInt ≤ n))) ∧ w' = w) := by
  have e : b01 (inL x.toInt64 0 m) = b01 (0 ≤ x.toInt ∧ x.toInt ≤ n) := b01_c (by unfold inL; rw [Int32.toInt_toInt64, h]; rfl)
  rw [← e]
  exact c_X8_isIn _ _ _ w
theorem isIn_m (x : Int32) (n : Nat) (hn : n < 1000000000) (w : Wd) : Cc yX8_isIn mX8_isIn [.long x.toInt64, .long 0, .long (nI n - 1).toInt64] w (fun r w' => r = some (.int (b01 (0 ≤ x.toInt ∧ x.toInt < n))) ∧ w' = w) := by
  have e : b01 (inL x.toInt64 0 (nI n - 1).toInt64) = b01 (0 ≤ x.toInt ∧ x.toInt < n) := b01_c (inL_n x hn)
  rw [← e]
  exact c_X8_isIn _ _ _ w
theorem setP_n (k : Sk) (t : Nat → Nat) : kN (setP k t) = kN k := by
  have := stl_n (kT k t) (oldX k) (oldY k)
  unfold setP
  rw [this]
  rfl
def frQ (q : Cp) (c : Nat) (t : Nat → Nat) : Cp := (va_up q.1 c (q.1 c + 1), va_up q.2 c (va_up (q.2 c) (q.1 c) t))
def oFrame (z : St) (x : Int32) : Int32 × St := if isC x then (if kN (zK z) = 0 then (-3, z) else if 30 ≤ (zQ z).1 (bN x) then (-4, z) else (nI ((zQ z).1 (bN x) + 1), pQ z (frQ (zQ z) (bN x) (kTrn (zK z))))) else (-2, z)
def oClear (z : St) (x : Int32) : Int32 × St := if isC x then (nI ((zQ z).1 (bN x)), pQ z (va_up (zQ z).1 (bN x) 0, (zQ z).2)) else (-2, z)
def oShow (z : St) (x y : Int32) : Int32 × St := if isFr z x y then (1, pK z (setP (zK z) (mixT (kN (zK z)) ((zQ z).2 (bN x) (bN y)) (kTrn (zK z))))) else (-2, z)
def oAt (z : St) (x y b : Int32) : Int32 := if isFr z x y ∧ isB z b then nI ((zQ z).2 (bN x) (bN y) (bN b)) else -2
def oBlend (z : St) (x y v m : Int32) : Int32 × St := if isFr z x y ∧ (0 ≤ v.toInt ∧ v.toInt ≤ 100) ∧ (0 ≤ m.toInt ∧ m.toInt ≤ 1023) then (1, pK z (setP (zK z) (mixT (kN (zK z)) (blT (zK z) ((zQ z).2 (bN x) (bN y)) (bN v) m) (kTrn (zK z))))) else (-2, z)
def oAdd (z : St) (x y v : Int32) : Int32 × St := if isFr z x y ∧ isFr z x v then (nI (cntF (ouT (zK z) (adT (zK z) ((zQ z).2 (bN x) (bN y)) ((zQ z).2 (bN x) (bN v)))) (kN (zK z))), pK z (setP (zK z) (mixT (kN (zK z)) (inT (zK z) (adT (zK z) ((zQ z).2 (bN x) (bN y)) ((zQ z).2 (bN x) (bN v)))) (kTrn (zK z))))) else (-2, z)
def oLike (z : St) (x y u v : Int32) : Int32 := if isFr z x y ∧ isFr z u v then nI (likN ((zQ z).2 (bN x) (bN y)) ((zQ z).2 (bN u) (bN v)) (kN (zK z))) else -2
def nxZ (z : St) (c m : Nat) : Nat → Nat := nxK (zK z) ((zQ z).2 c) ((zQ z).1 c) m
def oPack (z : St) (x m : Int32) : Int32 × St := if isC x ∧ (0 ≤ m.toInt ∧ m.toInt ≤ 18) then (nI (knF (nxZ z (bN x) (bN m)) ((zQ z).1 (bN x))), pY z (knF (nxZ z (bN x) (bN m)) ((zQ z).1 (bN x))) (kyF (nxZ z (bN x) (bN m)))) else (-2, z)
def oKey (z : St) (x : Int32) : Int32 := if 0 ≤ x.toInt ∧ x.toInt < zN z then nI (zY z (bN x)) else -2
def oThin (z : St) (x m : Int32) : Int32 × St := if isC x ∧ (0 ≤ m.toInt ∧ m.toInt ≤ 18) then (nI ((zQ z).1 (bN x)) - nI (knF (nxZ z (bN x) (bN m)) ((zQ z).1 (bN x))), pQ (pY z (knF (nxZ z (bN x) (bN m)) ((zQ z).1 (bN x))) (kyF (nxZ z (bN x) (bN m)))) (thinQ (zQ z) (bN x) (knF (nxZ z (bN x) (bN m)) ((zQ z).1 (bN x))) (kyF (nxZ z (bN x) (bN m))))) else (-2, z)
theorem CpX.clear {nb : Nat} {q : Cp} {w : Wd} (h : CpX nb q w) {c : Nat} (hc : c < 6) : CpX nb (va_up q.1 c 0, q.2) (sI w (40 + c) 1 0) := by
  refine ⟨h.1, h.2.1, fun d hd => ?_, fun hp => ?_⟩
  · by_cases e : d = c
    · subst e
      show _ = nI (va_up q.1 d 0 d) ∧ va_up q.1 d 0 d ≤ 30 ∧ ∀ f, f < va_up q.1 d 0 d → _
      rw [va_up_self]
      exact ⟨rdI_eq, by omega, fun f hf => by omega⟩
    · show _ = nI (va_up q.1 c 0 d) ∧ va_up q.1 c 0 d ≤ 30 ∧ ∀ f, f < va_up q.1 c 0 d → _
      rw [va_up_ne _ _ e]
      obtain ⟨g1, g2, g3⟩ := h.2.2.1 d hd
      refine ⟨(rdI_nn (by omega)).trans g1, g2, fun f hf b hb => ?_⟩
      rw [show wI (sI w (40 + c) 1 0) (100 + (30 * d + f)) b = wI w (100 + (30 * d + f)) b from rdI_nn (by omega)]
      exact g3 f hf b hb
  · have h2 := h.2.2.2
    rw [show wI (sI w (40 + c) 1 0) 22 1 = wI w 22 1 from rdI_nn (by omega)]
    apply h2
    obtain ⟨i, hi, hp⟩ := sumN_pos hp
    replace hp : 0 < va_up q.1 c 0 i := hp
    refine sumN_at hi ?_
    by_cases e : i = c
    · subst e
      rw [show va_up q.1 i 0 i = 0 from va_up_self _ _ _] at hp
      omega
    · rw [show va_up q.1 c 0 i = q.1 i from va_up_ne _ _ e] at hp
      exact hp
theorem CpX.frame {nb : Nat} {q : Cp} {w w1 : Wd} {t : Nat → Nat} (h : CpX nb q w) {c : Nat} (hc : c < 6) (hs : q.1 c < 30) (ht : ∀ b, b < nb → t b < 36) (g : Keep (fun a => a = 100 + (30 * c + q.1 c)) w w1) (g2 : ∀ i, i < nb → wI w1 (100 + (30 * c + q.1 c)) i = nI (t i)) :
    CpX nb (frQ q c t) (sI (sI w1 (40 + c) 1 (nI (q.1 c + 1))) 22 1 (nI nb)) := by
  refine ⟨show LayX w1 from h.1.keep g, h.2.1, fun d hd => ?_, fun hp => rdI_eq⟩
  obtain ⟨g3, g4, g5⟩ := h.2.2.1 d hd
  by_cases e : d = c
  · subst e
    show _ = nI (va_up q.1 d (q.1 d + 1) d) ∧ va_up q.1 d (q.1 d + 1) d ≤ 30 ∧ ∀ f, f < va_up q.1 d (q.1 d + 1) d → ∀ b, b < nb → _ = nI (va_up q.2 d (va_up (q.2 d) (q.1 d) t) d f b) ∧ va_up q.2 d (va_up (q.2 d) (q.1 d) t) d f b < 36
    rw [va_up_self, va_up_self]
    refine ⟨(rdI_nn (by omega)).trans rdI_eq, by omega, fun f hf b hb => ?_⟩
    rw [show wI (sI (sI w1 (40 + d) 1 (nI (q.1 d + 1))) 22 1 (nI nb)) (100 + (30 * d + f)) b = wI w1 (100 + (30 * d + f)) b from (rdI_nn (by omega)).trans (rdI_nn (by omega))]
    by_cases e2 : f = q.1 d
    · subst e2
      rw [va_up_self]
      exact ⟨g2 b hb, ht b hb⟩
    · rw [va_up_ne _ _ e2, g.I (a := 100 + (30 * d + f)) (by omega)]
      exact g5 f (by omega) b hb
  · show _ = nI (va_up q.1 c (q.1 c + 1) d) ∧ va_up q.1 c (q.1 c + 1) d ≤ 30 ∧ ∀ f, f < va_up q.1 c (q.1 c + 1) d → ∀ b, b < nb → _ = nI (va_up q.2 c (va_up (q.2 c) (q.1 c) t) d f b) ∧ va_up q.2 c (va_up (q.2 c) (q.1 c) t) d f b < 36
    rw [va_up_ne _ _ e, va_up_ne _ _ e]
    refine ⟨((rdI_nn (by omega)).trans (rdI_nn (by omega))).trans ((congrFun (g.I (a := 40 + d) (by omega)) 1).trans g3), g4, fun f hf b hb => ?_⟩
    rw [show wI (sI (sI w1 (40 + c) 1 (nI (q.1 c + 1))) 22 1 (nI nb)) (100 + (30 * d + f)) b = wI w1 (100 + (30 * d + f)) b from (rdI_nn (by omega)).trans (rdI_nn (by omega)), g.I (a := 100 + (30 * d + f)) (by omega)]
    exact g5 f hf b hb
theorem kn_ok {nx : Nat → Nat} {sz : Nat} (hnx : ∀ i, i + 1 < sz → i < nx i ∧ nx i < sz) : ∀ d n, (∀ i, i < n → kyF nx i < sz ∧ i ≤ kyF nx i) → ∀ i, i < knG nx sz d n → kyF nx i < sz ∧ i ≤ kyF nx i
  | 0, _, h, i, hi => h i hi
  | d + 1, 0, h, i, hi => by
    rw [knG] at hi
    split at hi
    · rename_i c
      refine kn_ok hnx d (0 + 1) (fun j hj => ?_) i hi
      have e : j = 0 := by omega
      subst e
      exact ⟨c, Nat.le_refl _⟩
    · exact h i hi
  | d + 1, n + 1, h, i, hi => by
    rw [knG] at hi
    split at hi
    · rename_i c
      refine kn_ok hnx d (n + 1 + 1) (fun j hj => ?_) i hi
      by_cases e : j = n + 1
      · subst e
        have h1 := h n (by omega)
        have h2 := hnx (kyF nx n) c
        show nx (kyF nx n) < sz ∧ _ ≤ nx (kyF nx n)
        omega
      · exact h j (by omega)
    · exact h i hi
theorem kn_z (z : St) (c m i : Nat) (hi : i < knF (nxZ z c m) ((zQ z).1 c)) : kyF (nxZ z c m) i < (zQ z).1 c ∧ i ≤ kyF (nxZ z c m) i := kn_ok (fun j hj => nxK_rng _ _ hj) 30 0 (fun i hi => by omega) i hi

set_option maxRecDepth 100000 in
theorem c_X8_frame (z : St) (x : Int32) (w : Wd) (z0 : RX z w) : Cc yX8_frame mX8_frame [.ref 20, .int x] w (fun r w' => ∃ v, r = some v ∧ (v = .int (oFrame z x).1 ∧ RX (oFrame z x).2 w' ∧ Keep clA w w')) := by
  refine Cc.of (by decide) rfl rfl (Nat.le_of_ble_eq_true rfl) (fun X => ?_)
  change V _ X _ 0 [(0, _), (1, _)] [] _ (0, 0)
  by_cases hx : isC x
  · obtain ⟨c, hc, rfl⟩ := isC_n hx
    have hcN : bN (nI c) = c := bN_nI (by omega)
    first | refine V_aload_n dX8_frame_0 rfl rfl ?_ | refine V_aload_nN dX8_frame_0 rfl rfl ?_
    first | refine V_getr (by first | exact z0.1.1.1.k _ rfl rfl | exact z0.1.1.1.kc hc | exact z0.1.1.1.kf hc | exact (congrFun g1.1 _).trans (z0.1.1.1.k _ rfl rfl) | exact (congrFun g1.1 _).trans (z0.1.1.1.kc hc)) fX8_19 dX8_frame_1 (by first | exact z0.1.1.1.r _ _ rfl | exact z0.1.1.1.rf hc | exact z0.1.1.1.rr hc hs | exact (congrFun (congrFun g1.2.2.1 _) _).trans (z0.1.1.1.r _ _ rfl)) ?_ | refine V_getrN (by first | exact z0.1.1.1.k _ rfl rfl | exact z0.1.1.1.kc hc | exact z0.1.1.1.kf hc | exact (congrFun g1.1 _).trans (z0.1.1.1.k _ rfl rfl) | exact (congrFun g1.1 _).trans (z0.1.1.1.kc hc)) fX8_19 dX8_frame_1 (by first | exact z0.1.1.1.r _ _ rfl | exact z0.1.1.1.rf hc | exact z0.1.1.1.rr hc hs | exact (congrFun (congrFun g1.2.2.1 _) _).trans (z0.1.1.1.r _ _ rfl)) ?_
    refine V_iload_n dX8_frame_4 rfl rfl ?_
    refine V_callV (As := [_]) (st := _) (c_X2_find_s c w z0.1.1.1 hc) kX8_144 (by first | exact z0.1.1.1.k _ rfl rfl | exact z0.1.1.1.kc hc | exact z0.1.1.1.kf hc | exact (congrFun g1.1 _).trans (z0.1.1.1.k _ rfl rfl) | exact (congrFun g1.1 _).trans (z0.1.1.1.kc hc)) ⟨rfl, rfl, rfl⟩ ⟨(Nat.le_of_ble_eq_true rfl), (Nat.le_of_ble_eq_true rfl)⟩ dX8_frame_5 rfl rfl (Nat.le_of_ble_eq_true rfl) ⟨(Nat.le_of_ble_eq_true rfl), (Nat.le_of_ble_eq_true rfl)⟩ ?_
    first | refine S_astore_n (L' := [(0, _), (2, _)]) dX8_frame_8 rfl rfl rfl ?_ | refine S_astore_nN (L' := [(0, _), (2, _)]) dX8_frame_8 rfl rfl rfl ?_
    first | refine V_aload_n dX8_frame_9 rfl rfl ?_ | refine V_aload_nN dX8_frame_9 rfl rfl ?_
    refine V_ifnonnull (tgt := 16) dX8_frame_10 (by decide) ?_
    first | refine V_aload_n dX8_frame_16 rfl rfl ?_ | refine V_aload_nN dX8_frame_16 rfl rfl ?_
    first | refine V_getr (by first | exact z0.1.1.1.k _ rfl rfl | exact z0.1.1.1.kc hc | exact z0.1.1.1.kf hc | exact (congrFun g1.1 _).trans (z0.1.1.1.k _ rfl rfl) | exact (congrFun g1.1 _).trans (z0.1.1.1.kc hc)) fX8_12 dX8_frame_17 (by first | exact z0.1.1.1.r _ _ rfl | exact z0.1.1.1.rf hc | exact z0.1.1.1.rr hc hs | exact (congrFun (congrFun g1.2.2.1 _) _).trans (z0.1.1.1.r _ _ rfl)) ?_ | refine V_getrN (by first | exact z0.1.1.1.k _ rfl rfl | exact z0.1.1.1.kc hc | exact z0.1.1.1.kf hc | exact (congrFun g1.1 _).trans (z0.1.1.1.k _ rfl rfl) | exact (congrFun g1.1 _).trans (z0.1.1.1.kc hc)) fX8_12 dX8_frame_17 (by first | exact z0.1.1.1.r _ _ rfl | exact z0.1.1.1.rf hc | exact z0.1.1.1.rr hc hs | exact (congrFun (congrFun g1.2.2.1 _) _).trans (z0.1.1.1.r _ _ rfl)) ?_
    refine G_geti (by first | exact z0.1.1.1.k _ rfl rfl | exact z0.1.1.1.kc hc | exact z0.1.1.1.kf hc | exact (congrFun g1.1 _).trans (z0.1.1.1.k _ rfl rfl) | exact (congrFun g1.1 _).trans (z0.1.1.1.kc hc)) fX8_71 dX8_frame_20 (by exact z0.1.1.size) ?_
    refine V_if_ne (tgt := 29) dX8_frame_23 (by decide) (fun c23 => ?_) (fun c23 => ?_)
    · first | refine V_aload_n dX8_frame_29 rfl rfl ?_ | refine V_aload_nN dX8_frame_29 rfl rfl ?_
      refine G_geti (by first | exact z0.1.1.1.k _ rfl rfl | exact z0.1.1.1.kc hc | exact z0.1.1.1.kf hc | exact (congrFun g1.1 _).trans (z0.1.1.1.k _ rfl rfl) | exact (congrFun g1.1 _).trans (z0.1.1.1.kc hc)) fX8_147 dX8_frame_30 (by exact z0.2.1.sz hc) ?_
      refine V_bipush (v := 30) dX8_frame_33 (by decide) ?_
      refine V_icmp_lt (tgt := 41) dX8_frame_35 (by decide) (fun c35 => ?_) (fun c35 => ?_)
      · have hs : (zQ z).1 c < 30 := (nI_ltI (a := (zQ z).1 c) (b := 30) (Nat.lt_of_le_of_lt (z0.2.1.le hc) (by decide)) (by decide)).mp c35
        first | refine V_aload_n dX8_frame_41 rfl rfl ?_ | refine V_aload_nN dX8_frame_41 rfl rfl ?_
        first | refine V_getr (by first | exact z0.1.1.1.k _ rfl rfl | exact z0.1.1.1.kc hc | exact z0.1.1.1.kf hc | exact (congrFun g1.1 _).trans (z0.1.1.1.k _ rfl rfl) | exact (congrFun g1.1 _).trans (z0.1.1.1.kc hc)) fX8_12 dX8_frame_42 (by first | exact z0.1.1.1.r _ _ rfl | exact z0.1.1.1.rf hc | exact z0.1.1.1.rr hc hs | exact (congrFun (congrFun g1.2.2.1 _) _).trans (z0.1.1.1.r _ _ rfl)) ?_ | refine V_getrN (by first | exact z0.1.1.1.k _ rfl rfl | exact z0.1.1.1.kc hc | exact z0.1.1.1.kf hc | exact (congrFun g1.1 _).trans (z0.1.1.1.k _ rfl rfl) | exact (congrFun g1.1 _).trans (z0.1.1.1.kc hc)) fX8_12 dX8_frame_42 (by first | exact z0.1.1.1.r _ _ rfl | exact z0.1.1.1.rf hc | exact z0.1.1.1.rr hc hs | exact (congrFun (congrFun g1.2.2.1 _) _).trans (z0.1.1.1.r _ _ rfl)) ?_
        first | refine V_aload_n dX8_frame_45 rfl rfl ?_ | refine V_aload_nN dX8_frame_45 rfl rfl ?_
        first | refine V_getr (by first | exact z0.1.1.1.k _ rfl rfl | exact z0.1.1.1.kc hc | exact z0.1.1.1.kf hc | exact (congrFun g1.1 _).trans (z0.1.1.1.k _ rfl rfl) | exact (congrFun g1.1 _).trans (z0.1.1.1.kc hc)) fX8_150 dX8_frame_46 (by first | exact z0.1.1.1.r _ _ rfl | exact z0.1.1.1.rf hc | exact z0.1.1.1.rr hc hs | exact (congrFun (congrFun g1.2.2.1 _) _).trans (z0.1.1.1.r _ _ rfl)) ?_ | refine V_getrN (by first | exact z0.1.1.1.k _ rfl rfl | exact z0.1.1.1.kc hc | exact z0.1.1.1.kf hc | exact (congrFun g1.1 _).trans (z0.1.1.1.k _ rfl rfl) | exact (congrFun g1.1 _).trans (z0.1.1.1.kc hc)) fX8_150 dX8_frame_46 (by first | exact z0.1.1.1.r _ _ rfl | exact z0.1.1.1.rf hc | exact z0.1.1.1.rr hc hs | exact (congrFun (congrFun g1.2.2.1 _) _).trans (z0.1.1.1.r _ _ rfl)) ?_
        first | refine V_aload_n dX8_frame_49 rfl rfl ?_ | refine V_aload_nN dX8_frame_49 rfl rfl ?_
        refine G_geti (by first | exact z0.1.1.1.k _ rfl rfl | exact z0.1.1.1.kc hc | exact z0.1.1.1.kf hc | exact (congrFun g1.1 _).trans (z0.1.1.1.k _ rfl rfl) | exact (congrFun g1.1 _).trans (z0.1.1.1.kc hc)) fX8_147 dX8_frame_50 (by exact z0.2.1.sz hc) ?_
        refine G_aald17 (j := (zQ z).1 c) (by first | exact z0.1.1.1.k _ rfl rfl | exact z0.1.1.1.kc hc | exact z0.1.1.1.kf hc | exact (congrFun g1.1 _).trans (z0.1.1.1.k _ rfl rfl) | exact (congrFun g1.1 _).trans (z0.1.1.1.kc hc)) (by rfl) (by exact Nat.lt_of_lt_of_eq hs (z0.1.1.1.nf hc).symm) (by rw [z0.1.1.1.nf hc]; decide) (by first | exact z0.1.1.1.r _ _ rfl | exact z0.1.1.1.rf hc | exact z0.1.1.1.rr hc hs | exact (congrFun (congrFun g1.2.2.1 _) _).trans (z0.1.1.1.r _ _ rfl)) dX8_frame_53 ?_
        refine V_callVvr (As := [_]) (st := _) (c_X6_tellTurns (zK z) (100 + (30 * c + (zQ z).1 c)) w z0.1.1 (z0.1.1.1.kr hc hs) (by rw [z0.1.1.1.nr hc hs]; exact z0.1.1.n10) (by rw [z0.1.1.1.nr hc hs]; decide) (by unfold skA; omega)) kX8_154 (by first | exact z0.1.1.1.k _ rfl rfl | exact z0.1.1.1.kc hc | exact z0.1.1.1.kf hc | exact (congrFun g1.1 _).trans (z0.1.1.1.k _ rfl rfl) | exact (congrFun g1.1 _).trans (z0.1.1.1.kc hc)) ⟨rfl, rfl, rfl⟩ ⟨(Nat.le_of_ble_eq_true rfl), (Nat.le_of_ble_eq_true rfl)⟩ dX8_frame_54 rfl rfl (Nat.le_of_ble_eq_true rfl) ⟨(Nat.le_of_ble_eq_true rfl), (Nat.le_of_ble_eq_true rfl)⟩ (fun w1 hw1 => ?_)
        obtain ⟨g1, g2⟩ := hw1
        first | refine V_aload_n dX8_frame_57 rfl rfl ?_ | refine V_aload_nN dX8_frame_57 rfl rfl ?_
        refine V_dup dX8_frame_58 rfl ?_
        refine G_geti (by first | exact z0.1.1.1.k _ rfl rfl | exact z0.1.1.1.kc hc | exact z0.1.1.1.kf hc | exact (congrFun g1.1 _).trans (z0.1.1.1.k _ rfl rfl) | exact (congrFun g1.1 _).trans (z0.1.1.1.kc hc)) fX8_147 dX8_frame_59 (by exact (congrFun (g1.I (a := 40 + c) (by omega)) 1).trans (z0.2.1.sz hc)) ?_
        refine V_iconst (v := 1) dX8_frame_62 (by decide) ?_
        refine V_iadd dX8_frame_63 ?_
        rw [nI_1]
        refine V_puti (by first | exact z0.1.1.1.k _ rfl rfl | exact z0.1.1.1.kc hc | exact z0.1.1.1.kf hc | exact (congrFun g1.1 _).trans (z0.1.1.1.k _ rfl rfl) | exact (congrFun g1.1 _).trans (z0.1.1.1.kc hc)) pfX8_147 (fun h => nomatch h) dX8_frame_64 ⟨rfl, rfl⟩ ?_
        first | refine V_aload_n dX8_frame_67 rfl rfl ?_ | refine V_aload_nN dX8_frame_67 rfl rfl ?_
        first | refine V_getr (by first | exact z0.1.1.1.k _ rfl rfl | exact z0.1.1.1.kc hc | exact z0.1.1.1.kf hc | exact (congrFun g1.1 _).trans (z0.1.1.1.k _ rfl rfl) | exact (congrFun g1.1 _).trans (z0.1.1.1.kc hc)) fX8_19 dX8_frame_68 (by first | exact z0.1.1.1.r _ _ rfl | exact z0.1.1.1.rf hc | exact z0.1.1.1.rr hc hs | exact (congrFun (congrFun g1.2.2.1 _) _).trans (z0.1.1.1.r _ _ rfl)) ?_ | refine V_getrN (by first | exact z0.1.1.1.k _ rfl rfl | exact z0.1.1.1.kc hc | exact z0.1.1.1.kf hc | exact (congrFun g1.1 _).trans (z0.1.1.1.k _ rfl rfl) | exact (congrFun g1.1 _).trans (z0.1.1.1.kc hc)) fX8_19 dX8_frame_68 (by first | exact z0.1.1.1.r _ _ rfl | exact z0.1.1.1.rf hc | exact z0.1.1.1.rr hc hs | exact (congrFun (congrFun g1.2.2.1 _) _).trans (z0.1.1.1.r _ _ rfl)) ?_
        first | refine V_aload_n dX8_frame_71 rfl rfl ?_ | refine V_aload_nN dX8_frame_71 rfl rfl ?_
        first | refine V_getr (by first | exact z0.1.1.1.k _ rfl rfl | exact z0.1.1.1.kc hc | exact z0.1.1.1.kf hc | exact (congrFun g1.1 _).trans (z0.1.1.1.k _ rfl rfl) | exact (congrFun g1.1 _).trans (z0.1.1.1.kc hc)) fX8_12 dX8_frame_72 (by first | exact z0.1.1.1.r _ _ rfl | exact z0.1.1.1.rf hc | exact z0.1.1.1.rr hc hs | exact (congrFun (congrFun g1.2.2.1 _) _).trans (z0.1.1.1.r _ _ rfl)) ?_ | refine V_getrN (by first | exact z0.1.1.1.k _ rfl rfl | exact z0.1.1.1.kc hc | exact z0.1.1.1.kf hc | exact (congrFun g1.1 _).trans (z0.1.1.1.k _ rfl rfl) | exact (congrFun g1.1 _).trans (z0.1.1.1.kc hc)) fX8_12 dX8_frame_72 (by first | exact z0.1.1.1.r _ _ rfl | exact z0.1.1.1.rf hc | exact z0.1.1.1.rr hc hs | exact (congrFun (congrFun g1.2.2.1 _) _).trans (z0.1.1.1.r _ _ rfl)) ?_
        refine G_geti (by first | exact z0.1.1.1.k _ rfl rfl | exact z0.1.1.1.kc hc | exact z0.1.1.1.kf hc | exact (congrFun g1.1 _).trans (z0.1.1.1.k _ rfl rfl) | exact (congrFun g1.1 _).trans (z0.1.1.1.kc hc)) fX8_71 dX8_frame_75 (by exact (rdI_nn (by omega)).trans ((congrFun (g1.I (a := 21) (by omega)) 1).trans z0.1.1.size)) ?_
        refine V_puti (by first | exact z0.1.1.1.k _ rfl rfl | exact z0.1.1.1.kc hc | exact z0.1.1.1.kf hc | exact (congrFun g1.1 _).trans (z0.1.1.1.k _ rfl rfl) | exact (congrFun g1.1 _).trans (z0.1.1.1.kc hc)) pfX8_158 (fun h => nomatch h) dX8_frame_78 ⟨rfl, rfl⟩ ?_
        first | refine V_aload_n dX8_frame_81 rfl rfl ?_ | refine V_aload_nN dX8_frame_81 rfl rfl ?_
        refine G_geti (by first | exact z0.1.1.1.k _ rfl rfl | exact z0.1.1.1.kc hc | exact z0.1.1.1.kf hc | exact (congrFun g1.1 _).trans (z0.1.1.1.k _ rfl rfl) | exact (congrFun g1.1 _).trans (z0.1.1.1.kc hc)) fX8_147 dX8_frame_82 (by exact (rdI_nn (by omega)).trans rdI_eq) ?_
        refine V_iret rfl dX8_frame_85 (Nat.le_of_ble_eq_true rfl) (Nat.le_of_ble_eq_true rfl) ?_
        have hk : ¬ kN (zK z) = 0 := fun q => c23 (by rw [q]; rfl)
        have e : oFrame z (nI c) = (nI ((zQ z).1 c + 1), pQ z (frQ (zQ z) c (kTrn (zK z)))) := by
          unfold oFrame
          rw [if_pos hx, if_neg hk, hcN, if_neg (by omega)]
        have gg : Keep cpA w (sI (sI w1 (40 + c) 1 (nI ((zQ z).1 c + 1))) 22 1 (nI (kN (zK z)))) := (g1.mono (fun a => by unfold cpA; omega)).trans ((Keep.sI w1 (by unfold cpA; omega) 1 _).trans (Keep.sI _ (by unfold cpA; omega) 1 _))
        exact ⟨_, rfl, by rw [e], by rw [e]; exact z0.setQ gg (z0.2.1.frame hc hs (fun b hb => (z0.1.1.wf hb).2.2.2.2.2.2) g1 g2), gg.mono (fun a => by unfold cpA clA; omega)⟩
      · refine V_bipush (v := -4) dX8_frame_38 (by decide) ?_
        refine V_iret rfl dX8_frame_40 (Nat.le_of_ble_eq_true rfl) (Nat.le_of_ble_eq_true rfl) ?_
        have hk : ¬ kN (zK z) = 0 := fun q => c23 (by rw [q]; rfl)
        have hs : 30 ≤ (zQ z).1 c := Nat.le_of_not_lt (fun q => c35 ((nI_ltI (a := (zQ z).1 c) (b := 30) (by omega) (by decide)).mpr q))
        have e : oFrame z (nI c) = (-4, z) := by
          unfold oFrame
          rw [if_pos hx, if_neg hk, hcN, if_pos hs]
        exact ⟨_, rfl, by rw [e], by rw [e]; exact z0, Keep.refl _ _⟩
    · refine V_bipush (v := -3) dX8_frame_26 (by decide) ?_
      refine V_iret rfl dX8_frame_28 (Nat.le_of_ble_eq_true rfl) (Nat.le_of_ble_eq_true rfl) ?_
      have hk : kN (zK z) = 0 := (nI_eq (a := kN (zK z)) (b := 0) (by have := z0.1.1.n10; omega) (by decide)).mp c23
      have e : oFrame z (nI c) = (-3, z) := by
        unfold oFrame
        rw [if_pos hx, if_pos hk]
      exact ⟨_, rfl, by rw [e], by rw [e]; exact z0, Keep.refl _ _⟩
  · first | refine V_aload_n dX8_frame_0 rfl rfl ?_ | refine V_aload_nN dX8_frame_0 rfl rfl ?_
    first | refine V_getr (by first | exact z0.1.1.1.k _ rfl rfl | exact z0.1.1.kb hb) fX8_19 dX8_frame_1 (by exact z0.1.1.1.r _ _ rfl) ?_ | refine V_getrN (by first | exact z0.1.1.1.k _ rfl rfl | exact z0.1.1.kb hb) fX8_19 dX8_frame_1 (by exact z0.1.1.1.r _ _ rfl) ?_
    refine V_iload_n dX8_frame_4 rfl rfl ?_
    refine V_callV (As := [_]) (st := _) (c_X2_find_n x w z0.1.1.1 hx) kX8_144 (by first | exact z0.1.1.1.k _ rfl rfl | exact z0.1.1.kb hb) ⟨rfl, rfl, rfl⟩ ⟨(Nat.le_of_ble_eq_true rfl), (Nat.le_of_ble_eq_true rfl)⟩ dX8_frame_5 rfl rfl (Nat.le_of_ble_eq_true rfl) ⟨(Nat.le_of_ble_eq_true rfl), (Nat.le_of_ble_eq_true rfl)⟩ ?_
    first | refine S_astore_n (L' := [(0, _), (2, _)]) dX8_frame_8 rfl rfl rfl ?_ | refine S_astore_nN (L' := [(0, _), (2, _)]) dX8_frame_8 rfl rfl rfl ?_
    first | refine V_aload_n dX8_frame_9 rfl rfl ?_ | refine V_aload_nN dX8_frame_9 rfl rfl ?_
    refine V_ifnonnullN dX8_frame_10 ?_
    refine V_bipush (v := -2) dX8_frame_13 (by decide) ?_
    refine V_iret rfl dX8_frame_15 (Nat.le_of_ble_eq_true rfl) (Nat.le_of_ble_eq_true rfl) ?_
    exact ⟨_, rfl, by unfold oFrame; rw [if_neg hx], by unfold oFrame; rw [if_neg hx]; exact z0, Keep.refl _ _⟩

set_option maxRecDepth 100000 in
theorem c_X8_clear (z : St) (x : Int32) (w : Wd) (z0 : RX z w) : Cc yX8_clear mX8_clear [.ref 20, .int x] w (fun r w' => ∃ v, r = some v ∧ (v = .int (oClear z x).1 ∧ RX (oClear z x).2 w' ∧ Keep clA w w')) := by
  refine Cc.of (by decide) rfl rfl (Nat.le_of_ble_eq_true rfl) (fun X => ?_)
  change V _ X _ 0 [(0, _), (1, _)] [] _ (0, 0)
  by_cases hx : isC x
  · obtain ⟨c, hc, rfl⟩ := isC_n hx
    have hcN : bN (nI c) = c := bN_nI (by omega)
    first | refine V_aload_n dX8_clear_0 rfl rfl ?_ | refine V_aload_nN dX8_clear_0 rfl rfl ?_
    first | refine V_getr (by first | exact z0.1.1.1.k _ rfl rfl | exact z0.1.1.1.kc hc) fX8_19 dX8_clear_1 (by exact z0.1.1.1.r _ _ rfl) ?_ | refine V_getrN (by first | exact z0.1.1.1.k _ rfl rfl | exact z0.1.1.1.kc hc) fX8_19 dX8_clear_1 (by exact z0.1.1.1.r _ _ rfl) ?_
    refine V_iload_n dX8_clear_4 rfl rfl ?_
    refine V_callV (As := [_]) (st := _) (c_X2_find_s c w z0.1.1.1 hc) kX8_144 (by first | exact z0.1.1.1.k _ rfl rfl | exact z0.1.1.1.kc hc) ⟨rfl, rfl, rfl⟩ ⟨(Nat.le_of_ble_eq_true rfl), (Nat.le_of_ble_eq_true rfl)⟩ dX8_clear_5 rfl rfl (Nat.le_of_ble_eq_true rfl) ⟨(Nat.le_of_ble_eq_true rfl), (Nat.le_of_ble_eq_true rfl)⟩ ?_
    first | refine S_astore_n (L' := [(2, _)]) dX8_clear_8 rfl rfl rfl ?_ | refine S_astore_nN (L' := [(2, _)]) dX8_clear_8 rfl rfl rfl ?_
    first | refine V_aload_n dX8_clear_9 rfl rfl ?_ | refine V_aload_nN dX8_clear_9 rfl rfl ?_
    refine V_ifnonnull (tgt := 16) dX8_clear_10 (by decide) ?_
    first | refine V_aload_n dX8_clear_16 rfl rfl ?_ | refine V_aload_nN dX8_clear_16 rfl rfl ?_
    refine G_geti (by first | exact z0.1.1.1.k _ rfl rfl | exact z0.1.1.1.kc hc) fX8_147 dX8_clear_17 (by exact z0.2.1.sz hc) ?_
    refine S_istore_n (L' := [(2, _), (3, _)]) dX8_clear_20 rfl rfl rfl ?_
    first | refine V_aload_n dX8_clear_21 rfl rfl ?_ | refine V_aload_nN dX8_clear_21 rfl rfl ?_
    refine V_iconst (v := 0) dX8_clear_22 (by decide) ?_
    refine V_puti (by first | exact z0.1.1.1.k _ rfl rfl | exact z0.1.1.1.kc hc) pfX8_147 (fun h => nomatch h) dX8_clear_23 ⟨rfl, rfl⟩ ?_
    refine V_iload_n dX8_clear_26 rfl rfl ?_
    refine V_iret rfl dX8_clear_27 (Nat.le_of_ble_eq_true rfl) (Nat.le_of_ble_eq_true rfl) ?_
    have e : oClear z (nI c) = (nI ((zQ z).1 c), pQ z (va_up (zQ z).1 c 0, (zQ z).2)) := by
      unfold oClear
      rw [if_pos hx, hcN]
    exact ⟨_, rfl, by rw [e], by rw [e]; exact z0.setQ (Keep.sI w (by unfold cpA; omega) 1 _) (z0.2.1.clear hc), Keep.sI w (by unfold clA; omega) 1 _⟩
  · first | refine V_aload_n dX8_clear_0 rfl rfl ?_ | refine V_aload_nN dX8_clear_0 rfl rfl ?_
    first | refine V_getr (by first | exact z0.1.1.1.k _ rfl rfl | exact z0.1.1.kb hb) fX8_19 dX8_clear_1 (by exact z0.1.1.1.r _ _ rfl) ?_ | refine V_getrN (by first | exact z0.1.1.1.k _ rfl rfl | exact z0.1.1.kb hb) fX8_19 dX8_clear_1 (by exact z0.1.1.1.r _ _ rfl) ?_
    refine V_iload_n dX8_clear_4 rfl rfl ?_
    refine V_callV (As := [_]) (st := _) (c_X2_find_n x w z0.1.1.1 hx) kX8_144 (by first | exact z0.1.1.1.k _ rfl rfl | exact z0.1.1.kb hb) ⟨rfl, rfl, rfl⟩ ⟨(Nat.le_of_ble_eq_true rfl), (Nat.le_of_ble_eq_true rfl)⟩ dX8_clear_5 rfl rfl (Nat.le_of_ble_eq_true rfl) ⟨(Nat.le_of_ble_eq_true rfl), (Nat.le_of_ble_eq_true rfl)⟩ ?_
    first | refine S_astore_n (L' := [(2, _)]) dX8_clear_8 rfl rfl rfl ?_ | refine S_astore_nN (L' := [(2, _)]) dX8_clear_8 rfl rfl rfl ?_
    first | refine V_aload_n dX8_clear_9 rfl rfl ?_ | refine V_aload_nN dX8_clear_9 rfl rfl ?_
    refine V_ifnonnullN dX8_clear_10 ?_
    refine V_bipush (v := -2) dX8_clear_13 (by decide) ?_
    refine V_iret rfl dX8_clear_15 (Nat.le_of_ble_eq_true rfl) (Nat.le_of_ble_eq_true rfl) ?_
    exact ⟨_, rfl, by unfold oClear; rw [if_neg hx], by unfold oClear; rw [if_neg hx]; exact z0, Keep.refl _ _⟩

set_option maxRecDepth 100000 in
theorem c_X8_show (z : St) (x y : Int32) (w : Wd) (z0 : RX z w) : Cc yX8_show mX8_show [.ref 20, .int x, .int y] w (fun r w' => ∃ v, r = some v ∧ (v = .int (oShow z x y).1 ∧ RX (oShow z x y).2 w' ∧ Keep clA w w')) := by
  refine Cc.of (by decide) rfl rfl (Nat.le_of_ble_eq_true rfl) (fun X => ?_)
  change V _ X _ 0 [(0, _), (1, _), (2, _)] [] _ (0, 0)
  by_cases hx : isFr z x y
  · obtain ⟨c, f, hc, hf, rfl, rfl⟩ := isFr_n z0 hx
    have hcN : bN (nI c) = c := bN_nI (by omega)
    have hf3 : f < 30 := Nat.lt_of_lt_of_le hf (z0.2.1.le hc)
    have hfN : bN (nI f) = f := bN_nI (by omega)
    first | refine V_aload_n dX8_show_0 rfl rfl ?_ | refine V_aload_nN dX8_show_0 rfl rfl ?_
    first | refine V_getr (by first | exact z0.1.1.1.k _ rfl rfl | exact z0.1.1.1.kr hc hf3) fX8_19 dX8_show_1 (by exact z0.1.1.1.r _ _ rfl) ?_ | refine V_getrN (by first | exact z0.1.1.1.k _ rfl rfl | exact z0.1.1.1.kr hc hf3) fX8_19 dX8_show_1 (by exact z0.1.1.1.r _ _ rfl) ?_
    refine V_iload_n dX8_show_4 rfl rfl ?_
    refine V_iload_n dX8_show_5 rfl rfl ?_
    refine V_callV (As := [_, _]) (st := _) (c_X2_findFrame_s (kN (zK z)) (zQ z) c f w z0.2.1 hc hf) kX8_161 (by first | exact z0.1.1.1.k _ rfl rfl | exact z0.1.1.1.kr hc hf3) ⟨rfl, rfl, rfl⟩ ⟨(Nat.le_of_ble_eq_true rfl), (Nat.le_of_ble_eq_true rfl)⟩ dX8_show_6 rfl rfl (Nat.le_of_ble_eq_true rfl) ⟨(Nat.le_of_ble_eq_true rfl), (Nat.le_of_ble_eq_true rfl)⟩ ?_
    first | refine S_astore_n (L' := [(0, _), (3, _)]) dX8_show_9 rfl rfl rfl ?_ | refine S_astore_nN (L' := [(0, _), (3, _)]) dX8_show_9 rfl rfl rfl ?_
    first | refine V_aload_n dX8_show_10 rfl rfl ?_ | refine V_aload_nN dX8_show_10 rfl rfl ?_
    refine V_ifnonnull (tgt := 17) dX8_show_11 (by decide) ?_
    first | refine V_aload_n dX8_show_17 rfl rfl ?_ | refine V_aload_nN dX8_show_17 rfl rfl ?_
    first | refine V_getr (by first | exact z0.1.1.1.k _ rfl rfl | exact z0.1.1.1.kr hc hf3) fX8_12 dX8_show_18 (by exact z0.1.1.1.r _ _ rfl) ?_ | refine V_getrN (by first | exact z0.1.1.1.k _ rfl rfl | exact z0.1.1.1.kr hc hf3) fX8_12 dX8_show_18 (by exact z0.1.1.1.r _ _ rfl) ?_
    first | refine V_aload_n dX8_show_21 rfl rfl ?_ | refine V_aload_nN dX8_show_21 rfl rfl ?_
    refine V_callVvr (As := [_]) (st := _) (c_X6_takeTurns (zK z) ((zQ z).2 c f) (100 + (30 * c + f)) w z0.1 (z0.1.1.1.kr hc hf3) (by rw [z0.1.1.1.nr hc hf3]; exact z0.1.1.n10) (by rw [z0.1.1.1.nr hc hf3]; decide) (fun b hb => z0.2.1.fr hc hf hb) (by unfold skA; omega)) kX8_165 (by first | exact z0.1.1.1.k _ rfl rfl | exact z0.1.1.1.kr hc hf3) ⟨rfl, rfl, rfl⟩ ⟨(Nat.le_of_ble_eq_true rfl), (Nat.le_of_ble_eq_true rfl)⟩ dX8_show_22 rfl rfl (Nat.le_of_ble_eq_true rfl) ⟨(Nat.le_of_ble_eq_true rfl), (Nat.le_of_ble_eq_true rfl)⟩ (fun w1 hw1 => ?_)
    obtain ⟨a1, a2⟩ := hw1
    refine V_iconst (v := 1) dX8_show_25 (by decide) ?_
    refine V_iret rfl dX8_show_26 (Nat.le_of_ble_eq_true rfl) (Nat.le_of_ble_eq_true rfl) ?_
    have e : oShow z (nI c) (nI f) = (1, pK z (setP (zK z) (mixT (kN (zK z)) ((zQ z).2 c f) (kTrn (zK z))))) := by
      unfold oShow
      rw [if_pos hx]
      simp only [hcN, hfN]
    exact ⟨_, rfl, by rw [e], by rw [e]; exact z0.setK a1 a2 (setP_n _ _), a1.mono (fun a => by unfold skA clA; omega)⟩
  · first | refine V_aload_n dX8_show_0 rfl rfl ?_ | refine V_aload_nN dX8_show_0 rfl rfl ?_
    first | refine V_getr (by first | exact z0.1.1.1.k _ rfl rfl | exact z0.1.1.kb hb) fX8_19 dX8_show_1 (by exact z0.1.1.1.r _ _ rfl) ?_ | refine V_getrN (by first | exact z0.1.1.1.k _ rfl rfl | exact z0.1.1.kb hb) fX8_19 dX8_show_1 (by exact z0.1.1.1.r _ _ rfl) ?_
    refine V_iload_n dX8_show_4 rfl rfl ?_
    refine V_iload_n dX8_show_5 rfl rfl ?_
    refine V_callV (As := [_, _]) (st := _) (c_X2_findFrame_n (kN (zK z)) (zQ z) x y w z0.2.1 (isFr_no z0 hx)) kX8_161 (by first | exact z0.1.1.1.k _ rfl rfl | exact z0.1.1.kb hb) ⟨rfl, rfl, rfl⟩ ⟨(Nat.le_of_ble_eq_true rfl), (Nat.le_of_ble_eq_true rfl)⟩ dX8_show_6 rfl rfl (Nat.le_of_ble_eq_true rfl) ⟨(Nat.le_of_ble_eq_true rfl), (Nat.le_of_ble_eq_true rfl)⟩ ?_
    first | refine S_astore_n (L' := [(0, _), (3, _)]) dX8_show_9 rfl rfl rfl ?_ | refine S_astore_nN (L' := [(0, _), (3, _)]) dX8_show_9 rfl rfl rfl ?_
    first | refine V_aload_n dX8_show_10 rfl rfl ?_ | refine V_aload_nN dX8_show_10 rfl rfl ?_
    refine V_ifnonnullN dX8_show_11 ?_
    refine V_bipush (v := -2) dX8_show_14 (by decide) ?_
    refine V_iret rfl dX8_show_16 (Nat.le_of_ble_eq_true rfl) (Nat.le_of_ble_eq_true rfl) ?_
    exact ⟨_, rfl, by unfold oShow; rw [if_neg hx], by unfold oShow; rw [if_neg hx]; exact z0, Keep.refl _ _⟩

set_option maxRecDepth 100000 in
theorem c_X8_at (z : St) (x y b : Int32) (w : Wd) (z0 : RX z w) : Cc yX8_at mX8_at [.ref 20, .int x, .int y, .int b] w (fun r w' => r = some (.int (oAt z x y b)) ∧ w' = w) := by
  refine Cc.of (by decide) rfl rfl (Nat.le_of_ble_eq_true rfl) (fun X => ?_)
  change V _ X _ 0 [(0, _), (1, _), (2, _), (3, _)] [] _ (0, 0)
  by_cases hx : isFr z x y
  · obtain ⟨c, f, hc, hf, rfl, rfl⟩ := isFr_n z0 hx
    have hcN : bN (nI c) = c := bN_nI (by omega)
    have hf3 : f < 30 := Nat.lt_of_lt_of_le hf (z0.2.1.le hc)
    have hfN : bN (nI f) = f := bN_nI (by omega)
    first | refine V_aload_n dX8_at_0 rfl rfl ?_ | refine V_aload_nN dX8_at_0 rfl rfl ?_
    first | refine V_getr (by first | exact z0.1.1.1.k _ rfl rfl | exact z0.1.1.1.kr hc hf3) fX8_19 dX8_at_1 (by exact z0.1.1.1.r _ _ rfl) ?_ | refine V_getrN (by first | exact z0.1.1.1.k _ rfl rfl | exact z0.1.1.1.kr hc hf3) fX8_19 dX8_at_1 (by exact z0.1.1.1.r _ _ rfl) ?_
    refine V_iload_n dX8_at_4 rfl rfl ?_
    refine V_iload_n dX8_at_5 rfl rfl ?_
    refine V_callV (As := [_, _]) (st := _) (c_X2_findFrame_s (kN (zK z)) (zQ z) c f w z0.2.1 hc hf) kX8_161 (by first | exact z0.1.1.1.k _ rfl rfl | exact z0.1.1.1.kr hc hf3) ⟨rfl, rfl, rfl⟩ ⟨(Nat.le_of_ble_eq_true rfl), (Nat.le_of_ble_eq_true rfl)⟩ dX8_at_6 rfl rfl (Nat.le_of_ble_eq_true rfl) ⟨(Nat.le_of_ble_eq_true rfl), (Nat.le_of_ble_eq_true rfl)⟩ ?_
    first | refine S_astore (L' := [(0, _), (3, _), (4, _)]) dX8_at_9 rfl rfl ?_ | refine S_astoreN (L' := [(0, _), (3, _), (4, _)]) dX8_at_9 rfl rfl ?_
    first | refine V_aload dX8_at_11 rfl ?_ | refine V_aloadN dX8_at_11 rfl ?_
    refine V_ifnull dX8_at_13 ?_
    refine V_iload_n dX8_at_16 rfl rfl ?_
    refine V_i2l dX8_at_17 ?_
    refine V_lconst (v := 0) dX8_at_18 (by decide) ?_
    first | refine V_aload_n dX8_at_19 rfl rfl ?_ | refine V_aload_nN dX8_at_19 rfl rfl ?_
    first | refine V_getr (by first | exact z0.1.1.1.k _ rfl rfl | exact z0.1.1.1.kr hc hf3) fX8_12 dX8_at_20 (by exact z0.1.1.1.r _ _ rfl) ?_ | refine V_getrN (by first | exact z0.1.1.1.k _ rfl rfl | exact z0.1.1.1.kr hc hf3) fX8_12 dX8_at_20 (by exact z0.1.1.1.r _ _ rfl) ?_
    refine G_geti (by first | exact z0.1.1.1.k _ rfl rfl | exact z0.1.1.1.kr hc hf3) fX8_71 dX8_at_23 (by exact z0.1.1.size) ?_
    refine V_iconst (v := 1) dX8_at_26 (by decide) ?_
    refine V_isub dX8_at_27 ?_
    refine V_i2l dX8_at_28 ?_
    refine V_callS (As := [_, _, _]) (st := _) (isIn_m b (kN (zK z)) (by have := z0.1.1.n10; omega) w) kX8_54 ⟨rfl, rfl, rfl⟩ ⟨(Nat.le_of_ble_eq_true rfl), (Nat.le_of_ble_eq_true rfl)⟩ dX8_at_29 rfl rfl (Nat.le_of_ble_eq_true rfl) ⟨(Nat.le_of_ble_eq_true rfl), (Nat.le_of_ble_eq_true rfl)⟩ ?_
    refine V_if_ne (tgt := 38) dX8_at_32 (by decide) (fun c32 => ?_) (fun c32 => ?_)
    · have hb := b01_1 c32
      have h10 := z0.1.1.n10
      first | refine V_aload dX8_at_38 rfl ?_ | refine V_aloadN dX8_at_38 rfl ?_
      refine V_iload_n dX8_at_40 rfl rfl ?_
      refine G_iald (j := bN b) (by first | exact z0.1.1.1.k _ rfl rfl | exact z0.1.1.1.kr hc hf3) (by exact i32_nat hb.1) (by rw [z0.1.1.1.nr hc hf3]; unfold bN; omega) (by rw [z0.1.1.1.nr hc hf3]; decide) dX8_at_41 (by exact (z0.2.1.fr hc hf (by unfold bN; omega)).1) ?_
      refine V_iret rfl dX8_at_42 (Nat.le_of_ble_eq_true rfl) (Nat.le_of_ble_eq_true rfl) ?_
      exact ok2i (by unfold oAt; rw [if_pos ⟨hx, hb⟩, hcN, hfN])
    · refine V_bipush (v := -2) dX8_at_35 (by decide) ?_
      refine V_iret rfl dX8_at_37 (Nat.le_of_ble_eq_true rfl) (Nat.le_of_ble_eq_true rfl) ?_
      exact ok2i (by unfold oAt; rw [if_neg (fun q => b01_0 c32 q.2)])
  · first | refine V_aload_n dX8_at_0 rfl rfl ?_ | refine V_aload_nN dX8_at_0 rfl rfl ?_
    first | refine V_getr (by first | exact z0.1.1.1.k _ rfl rfl | exact z0.1.1.kb hb) fX8_19 dX8_at_1 (by exact z0.1.1.1.r _ _ rfl) ?_ | refine V_getrN (by first | exact z0.1.1.1.k _ rfl rfl | exact z0.1.1.kb hb) fX8_19 dX8_at_1 (by exact z0.1.1.1.r _ _ rfl) ?_
    refine V_iload_n dX8_at_4 rfl rfl ?_
    refine V_iload_n dX8_at_5 rfl rfl ?_
    refine V_callV (As := [_, _]) (st := _) (c_X2_findFrame_n (kN (zK z)) (zQ z) x y w z0.2.1 (isFr_no z0 hx)) kX8_161 (by first | exact z0.1.1.1.k _ rfl rfl | exact z0.1.1.kb hb) ⟨rfl, rfl, rfl⟩ ⟨(Nat.le_of_ble_eq_true rfl), (Nat.le_of_ble_eq_true rfl)⟩ dX8_at_6 rfl rfl (Nat.le_of_ble_eq_true rfl) ⟨(Nat.le_of_ble_eq_true rfl), (Nat.le_of_ble_eq_true rfl)⟩ ?_
    first | refine S_astore (L' := [(0, _), (3, _), (4, _)]) dX8_at_9 rfl rfl ?_ | refine S_astoreN (L' := [(0, _), (3, _), (4, _)]) dX8_at_9 rfl rfl ?_
    first | refine V_aload dX8_at_11 rfl ?_ | refine V_aloadN dX8_at_11 rfl ?_
    refine V_ifnullN (tgt := 35) dX8_at_13 (by decide) ?_
    refine V_bipush (v := -2) dX8_at_35 (by decide) ?_
    refine V_iret rfl dX8_at_37 (Nat.le_of_ble_eq_true rfl) (Nat.le_of_ble_eq_true rfl) ?_
    exact ok2i (by unfold oAt; rw [if_neg (fun q => hx q.1)])

set_option maxRecDepth 100000 in
theorem c_X8_blend (z : St) (x y p m : Int32) (w : Wd) (z0 : RX z w) : Cc yX8_blend mX8_blend [.ref 20, .int x, .int y, .int p, .int m] w (fun r w' => ∃ v, r = some v ∧ (v = .int (oBlend z x y p m).1 ∧ RX (oBlend z x y p m).2 w' ∧ Keep clA w w')) := by
  refine Cc.of (by decide) rfl rfl (Nat.le_of_ble_eq_true rfl) (fun X => ?_)
  change V _ X _ 0 [(0, _), (1, _), (2, _), (3, _), (4, _)] [] _ (0, 0)
  by_cases hx : isFr z x y
  · obtain ⟨c, f, hc, hf, rfl, rfl⟩ := isFr_n z0 hx
    have hcN : bN (nI c) = c := bN_nI (by omega)
    have hf3 : f < 30 := Nat.lt_of_lt_of_le hf (z0.2.1.le hc)
    have hfN : bN (nI f) = f := bN_nI (by omega)
    first | refine V_aload_n dX8_blend_0 rfl rfl ?_ | refine V_aload_nN dX8_blend_0 rfl rfl ?_
    first | refine V_getr (by first | exact z0.1.1.1.k _ rfl rfl | exact z0.1.1.1.kr hc hf3) fX8_19 dX8_blend_1 (by exact z0.1.1.1.r _ _ rfl) ?_ | refine V_getrN (by first | exact z0.1.1.1.k _ rfl rfl | exact z0.1.1.1.kr hc hf3) fX8_19 dX8_blend_1 (by exact z0.1.1.1.r _ _ rfl) ?_
    refine V_iload_n dX8_blend_4 rfl rfl ?_
    refine V_iload_n dX8_blend_5 rfl rfl ?_
    refine V_callV (As := [_, _]) (st := _) (c_X2_findFrame_s (kN (zK z)) (zQ z) c f w z0.2.1 hc hf) kX8_161 (by first | exact z0.1.1.1.k _ rfl rfl | exact z0.1.1.1.kr hc hf3) ⟨rfl, rfl, rfl⟩ ⟨(Nat.le_of_ble_eq_true rfl), (Nat.le_of_ble_eq_true rfl)⟩ dX8_blend_6 rfl rfl (Nat.le_of_ble_eq_true rfl) ⟨(Nat.le_of_ble_eq_true rfl), (Nat.le_of_ble_eq_true rfl)⟩ ?_
    first | refine S_astore (L' := [(0, _), (3, _), (4, _), (5, _)]) dX8_blend_9 rfl rfl ?_ | refine S_astoreN (L' := [(0, _), (3, _), (4, _), (5, _)]) dX8_blend_9 rfl rfl ?_
    first | refine V_aload dX8_blend_11 rfl ?_ | refine V_aloadN dX8_blend_11 rfl ?_
    refine V_ifnull dX8_blend_13 ?_
    refine V_iload_n dX8_blend_16 rfl rfl ?_
    refine V_i2l dX8_blend_17 ?_
    refine V_lconst (v := 0) dX8_blend_18 (by decide) ?_
    refine V_ldc2 ctX8_52 dX8_blend_19 ?_
    refine V_callS (As := [_, _, _]) (st := _) (isIn_c p 100 _ rfl w) kX8_54 ⟨rfl, rfl, rfl⟩ ⟨(Nat.le_of_ble_eq_true rfl), (Nat.le_of_ble_eq_true rfl)⟩ dX8_blend_22 rfl rfl (Nat.le_of_ble_eq_true rfl) ⟨(Nat.le_of_ble_eq_true rfl), (Nat.le_of_ble_eq_true rfl)⟩ ?_
    refine V_if_eq (tgt := 41) dX8_blend_25 (by decide) (fun c25 => ?_) (fun c25 => ?_)
    · refine V_bipush (v := -2) dX8_blend_41 (by decide) ?_
      refine V_iret rfl dX8_blend_43 (Nat.le_of_ble_eq_true rfl) (Nat.le_of_ble_eq_true rfl) ?_
      have hno : ¬ (isFr z (nI c) (nI f) ∧ (0 ≤ p.toInt ∧ p.toInt ≤ 100) ∧ (0 ≤ m.toInt ∧ m.toInt ≤ 1023)) := fun q => by
        first | exact b01_0 c38 q.2.2 | exact b01_0 c25 q.2.1
      exact ⟨_, rfl, by unfold oBlend; rw [if_neg hno], by unfold oBlend; rw [if_neg hno]; exact z0, Keep.refl _ _⟩
    · refine V_iload dX8_blend_28 rfl ?_
      refine V_i2l dX8_blend_30 ?_
      refine V_lconst (v := 0) dX8_blend_31 (by decide) ?_
      refine V_ldc2 ctX8_168 dX8_blend_32 ?_
      refine V_callS (As := [_, _, _]) (st := _) (isIn_c m 1023 _ rfl w) kX8_54 ⟨rfl, rfl, rfl⟩ ⟨(Nat.le_of_ble_eq_true rfl), (Nat.le_of_ble_eq_true rfl)⟩ dX8_blend_35 rfl rfl (Nat.le_of_ble_eq_true rfl) ⟨(Nat.le_of_ble_eq_true rfl), (Nat.le_of_ble_eq_true rfl)⟩ ?_
      refine V_if_ne (tgt := 44) dX8_blend_38 (by decide) (fun c38 => ?_) (fun c38 => ?_)
      · have hv := b01_1 c25
        have hm := b01_1 c38
        refine V_sub (L' := [(0, .ref 20), (3, .int (nI (bN p))), (4, .int m), (5, .ref (100 + (30 * c + f)))]) (by rw [← i32_nat hv.1]; rfl) ?_
        first | refine V_aload_n dX8_blend_44 rfl rfl ?_ | refine V_aload_nN dX8_blend_44 rfl rfl ?_
        first | refine V_getr (by first | exact z0.1.1.1.k _ rfl rfl | exact z0.1.1.1.kr hc hf3) fX8_12 dX8_blend_45 (by exact z0.1.1.1.r _ _ rfl) ?_ | refine V_getrN (by first | exact z0.1.1.1.k _ rfl rfl | exact z0.1.1.1.kr hc hf3) fX8_12 dX8_blend_45 (by exact z0.1.1.1.r _ _ rfl) ?_
        first | refine V_aload dX8_blend_48 rfl ?_ | refine V_aloadN dX8_blend_48 rfl ?_
        refine V_iload_n dX8_blend_50 rfl rfl ?_
        refine V_iload dX8_blend_51 rfl ?_
        refine V_callVvr (As := [_, _, _]) (st := _) (c_X6_blendWith (zK z) ((zQ z).2 c f) (100 + (30 * c + f)) (bN p) m w z0.1 (by unfold bN; omega) (z0.1.1.1.kr hc hf3) (by rw [z0.1.1.1.nr hc hf3]; exact z0.1.1.n10) (by rw [z0.1.1.1.nr hc hf3]; decide) (fun b hb => z0.2.1.fr hc hf hb) (by unfold skA; omega)) kX8_170 (by first | exact z0.1.1.1.k _ rfl rfl | exact z0.1.1.1.kr hc hf3) ⟨rfl, rfl, rfl⟩ ⟨(Nat.le_of_ble_eq_true rfl), (Nat.le_of_ble_eq_true rfl)⟩ dX8_blend_53 rfl rfl (Nat.le_of_ble_eq_true rfl) ⟨(Nat.le_of_ble_eq_true rfl), (Nat.le_of_ble_eq_true rfl)⟩ (fun w1 hw1 => ?_)
        obtain ⟨a1, a2⟩ := hw1
        refine V_iconst (v := 1) dX8_blend_56 (by decide) ?_
        refine V_iret rfl dX8_blend_57 (Nat.le_of_ble_eq_true rfl) (Nat.le_of_ble_eq_true rfl) ?_
        have e : oBlend z (nI c) (nI f) p m = (1, pK z (setP (zK z) (mixT (kN (zK z)) (blT (zK z) ((zQ z).2 c f) (bN p) m) (kTrn (zK z))))) := by
          unfold oBlend
          rw [if_pos ⟨hx, hv, hm⟩]
          simp only [hcN, hfN]
        exact ⟨_, rfl, by rw [e], by rw [e]; exact z0.setK a1 a2 (setP_n _ _), a1.mono (fun a => by unfold skA clA; omega)⟩
      · refine V_bipush (v := -2) dX8_blend_41 (by decide) ?_
        refine V_iret rfl dX8_blend_43 (Nat.le_of_ble_eq_true rfl) (Nat.le_of_ble_eq_true rfl) ?_
        have hno : ¬ (isFr z (nI c) (nI f) ∧ (0 ≤ p.toInt ∧ p.toInt ≤ 100) ∧ (0 ≤ m.toInt ∧ m.toInt ≤ 1023)) := fun q => by
          first | exact b01_0 c38 q.2.2 | exact b01_0 c25 q.2.1
        exact ⟨_, rfl, by unfold oBlend; rw [if_neg hno], by unfold oBlend; rw [if_neg hno]; exact z0, Keep.refl _ _⟩
  · first | refine V_aload_n dX8_blend_0 rfl rfl ?_ | refine V_aload_nN dX8_blend_0 rfl rfl ?_
    first | refine V_getr (by first | exact z0.1.1.1.k _ rfl rfl | exact z0.1.1.kb hb) fX8_19 dX8_blend_1 (by exact z0.1.1.1.r _ _ rfl) ?_ | refine V_getrN (by first | exact z0.1.1.1.k _ rfl rfl | exact z0.1.1.kb hb) fX8_19 dX8_blend_1 (by exact z0.1.1.1.r _ _ rfl) ?_
    refine V_iload_n dX8_blend_4 rfl rfl ?_
    refine V_iload_n dX8_blend_5 rfl rfl ?_
    refine V_callV (As := [_, _]) (st := _) (c_X2_findFrame_n (kN (zK z)) (zQ z) x y w z0.2.1 (isFr_no z0 hx)) kX8_161 (by first | exact z0.1.1.1.k _ rfl rfl | exact z0.1.1.kb hb) ⟨rfl, rfl, rfl⟩ ⟨(Nat.le_of_ble_eq_true rfl), (Nat.le_of_ble_eq_true rfl)⟩ dX8_blend_6 rfl rfl (Nat.le_of_ble_eq_true rfl) ⟨(Nat.le_of_ble_eq_true rfl), (Nat.le_of_ble_eq_true rfl)⟩ ?_
    first | refine S_astore (L' := [(0, _), (3, _), (4, _), (5, _)]) dX8_blend_9 rfl rfl ?_ | refine S_astoreN (L' := [(0, _), (3, _), (4, _), (5, _)]) dX8_blend_9 rfl rfl ?_
    first | refine V_aload dX8_blend_11 rfl ?_ | refine V_aloadN dX8_blend_11 rfl ?_
    refine V_ifnullN (tgt := 41) dX8_blend_13 (by decide) ?_
    refine V_bipush (v := -2) dX8_blend_41 (by decide) ?_
    refine V_iret rfl dX8_blend_43 (Nat.le_of_ble_eq_true rfl) (Nat.le_of_ble_eq_true rfl) ?_
    exact ⟨_, rfl, by unfold oBlend; rw [if_neg (fun q => hx q.1)], by unfold oBlend; rw [if_neg (fun q => hx q.1)]; exact z0, Keep.refl _ _⟩

set_option maxRecDepth 100000 in
theorem c_X8_add (z : St) (x y p : Int32) (w : Wd) (z0 : RX z w) : Cc yX8_add mX8_add [.ref 20, .int x, .int y, .int p] w (fun r w' => ∃ v, r = some v ∧ (v = .int (oAdd z x y p).1 ∧ RX (oAdd z x y p).2 w' ∧ Keep clA w w')) := by
  refine Cc.of (by decide) rfl rfl (Nat.le_of_ble_eq_true rfl) (fun X => ?_)
  change V _ X _ 0 [(0, _), (1, _), (2, _), (3, _)] [] _ (0, 0)
  by_cases hx : isFr z x y
  · by_cases hy : isFr z x p
    · obtain ⟨c, f, hc, hf, rfl, rfl⟩ := isFr_n z0 hx
      have hcN : bN (nI c) = c := bN_nI (by omega)
      obtain ⟨-, hg⟩ := id hy
      rw [hcN] at hg
      obtain ⟨hg0, hg⟩ := hg
      have hgE := i32_nat hg0
      have hg : bN p < (zQ z).1 c := by have e : bN p = p.toInt.toNat := rfl; omega
      have hf3 : f < 30 := Nat.lt_of_lt_of_le hf (z0.2.1.le hc)
      have hg3 : bN p < 30 := Nat.lt_of_lt_of_le hg (z0.2.1.le hc)
      have hfN : bN (nI f) = f := bN_nI (by omega)
      refine V_sub (L' := [(0, .ref 20), (1, .int (nI c)), (2, .int (nI f)), (3, .int (nI (bN p)))]) (by rw [← hgE]; rfl) ?_
      first | refine V_aload_n dX8_add_0 rfl rfl ?_ | refine V_aload_nN dX8_add_0 rfl rfl ?_
      first | refine V_getr (by first | exact z0.1.1.1.k _ rfl rfl | exact z0.1.1.1.kr hc hf3) fX8_19 dX8_add_1 (by exact z0.1.1.1.r _ _ rfl) ?_ | refine V_getrN (by first | exact z0.1.1.1.k _ rfl rfl | exact z0.1.1.1.kr hc hf3) fX8_19 dX8_add_1 (by exact z0.1.1.1.r _ _ rfl) ?_
      refine V_iload_n dX8_add_4 rfl rfl ?_
      refine V_iload_n dX8_add_5 rfl rfl ?_
      refine V_callV (As := [_, _]) (st := _) (c_X2_findFrame_s (kN (zK z)) (zQ z) c f w z0.2.1 hc hf) kX8_161 (by first | exact z0.1.1.1.k _ rfl rfl | exact z0.1.1.1.kr hc hf3) ⟨rfl, rfl, rfl⟩ ⟨(Nat.le_of_ble_eq_true rfl), (Nat.le_of_ble_eq_true rfl)⟩ dX8_add_6 rfl rfl (Nat.le_of_ble_eq_true rfl) ⟨(Nat.le_of_ble_eq_true rfl), (Nat.le_of_ble_eq_true rfl)⟩ ?_
      first | refine S_astore (L' := [(0, _), (1, _), (3, _), (4, _)]) dX8_add_9 rfl rfl ?_ | refine S_astoreN (L' := [(0, _), (1, _), (3, _), (4, _)]) dX8_add_9 rfl rfl ?_
      first | refine V_aload_n dX8_add_11 rfl rfl ?_ | refine V_aload_nN dX8_add_11 rfl rfl ?_
      first | refine V_getr (by first | exact z0.1.1.1.k _ rfl rfl | exact z0.1.1.1.kr hc hf3) fX8_19 dX8_add_12 (by exact z0.1.1.1.r _ _ rfl) ?_ | refine V_getrN (by first | exact z0.1.1.1.k _ rfl rfl | exact z0.1.1.1.kr hc hf3) fX8_19 dX8_add_12 (by exact z0.1.1.1.r _ _ rfl) ?_
      refine V_iload_n dX8_add_15 rfl rfl ?_
      refine V_iload_n dX8_add_16 rfl rfl ?_
      refine V_callV (As := [_, _]) (st := _) (c_X2_findFrame_s (kN (zK z)) (zQ z) c (bN p) w z0.2.1 hc hg) kX8_161 (by first | exact z0.1.1.1.k _ rfl rfl | exact z0.1.1.1.kr hc hf3) ⟨rfl, rfl, rfl⟩ ⟨(Nat.le_of_ble_eq_true rfl), (Nat.le_of_ble_eq_true rfl)⟩ dX8_add_17 rfl rfl (Nat.le_of_ble_eq_true rfl) ⟨(Nat.le_of_ble_eq_true rfl), (Nat.le_of_ble_eq_true rfl)⟩ ?_
      first | refine S_astore (L' := [(0, _), (4, _), (5, _)]) dX8_add_20 rfl rfl ?_ | refine S_astoreN (L' := [(0, _), (4, _), (5, _)]) dX8_add_20 rfl rfl ?_
      first | refine V_aload dX8_add_22 rfl ?_ | refine V_aloadN dX8_add_22 rfl ?_
      refine V_ifnull dX8_add_24 ?_
      first | refine V_aload dX8_add_27 rfl ?_ | refine V_aloadN dX8_add_27 rfl ?_
      refine V_ifnonnull (tgt := 35) dX8_add_29 (by decide) ?_
      first | refine V_aload_n dX8_add_35 rfl rfl ?_ | refine V_aload_nN dX8_add_35 rfl rfl ?_
      first | refine V_getr (by first | exact z0.1.1.1.k _ rfl rfl | exact z0.1.1.1.kr hc hf3) fX8_12 dX8_add_36 (by exact z0.1.1.1.r _ _ rfl) ?_ | refine V_getrN (by first | exact z0.1.1.1.k _ rfl rfl | exact z0.1.1.1.kr hc hf3) fX8_12 dX8_add_36 (by exact z0.1.1.1.r _ _ rfl) ?_
      first | refine V_aload dX8_add_39 rfl ?_ | refine V_aloadN dX8_add_39 rfl ?_
      first | refine V_aload dX8_add_41 rfl ?_ | refine V_aloadN dX8_add_41 rfl ?_
      refine V_callVr (As := [_, _]) (st := _) (c_X6_addDifference (zK z) ((zQ z).2 c f) ((zQ z).2 c (bN p)) (100 + (30 * c + f)) (100 + (30 * c + bN p)) w z0.1 (z0.1.1.1.kr hc hf3) (by rw [z0.1.1.1.nr hc hf3]; exact z0.1.1.n10) (by rw [z0.1.1.1.nr hc hf3]; decide) (fun b hb => z0.2.1.fr hc hf hb) (by unfold skA; omega) (z0.1.1.1.kr hc hg3) (by rw [z0.1.1.1.nr hc hg3]; exact z0.1.1.n10) (by rw [z0.1.1.1.nr hc hg3]; decide) (fun b hb => z0.2.1.fr hc hg hb) (by unfold skA; omega)) kX8_174 (by first | exact z0.1.1.1.k _ rfl rfl | exact z0.1.1.1.kr hc hf3) ⟨rfl, rfl, rfl⟩ ⟨(Nat.le_of_ble_eq_true rfl), (Nat.le_of_ble_eq_true rfl)⟩ dX8_add_43 rfl rfl (Nat.le_of_ble_eq_true rfl) ⟨(Nat.le_of_ble_eq_true rfl), (Nat.le_of_ble_eq_true rfl)⟩ (fun v1 w1 hw1 => ?_)
      obtain ⟨e2, a1, a2⟩ := hw1
      subst e2
      refine V_iret rfl dX8_add_46 (Nat.le_of_ble_eq_true rfl) (Nat.le_of_ble_eq_true rfl) ?_
      have e : oAdd z (nI c) (nI f) p = ((nI (cntF (ouT (zK z) (adT (zK z) ((zQ z).2 c f) ((zQ z).2 c (bN p)))) (kN (zK z)))), pK z (setP (zK z) (mixT (kN (zK z)) (inT (zK z) (adT (zK z) ((zQ z).2 c f) ((zQ z).2 c (bN p)))) (kTrn (zK z))))) := by
        unfold oAdd
        rw [if_pos ⟨hx, hy⟩]
        simp only [hcN, hfN]
      exact ⟨_, rfl, by rw [e], by rw [e]; exact z0.setK a1 a2 (setP_n _ _), a1.mono (fun a => by unfold skA clA; omega)⟩
    · obtain ⟨c, f, hc, hf, rfl, rfl⟩ := isFr_n z0 hx
      first | refine V_aload_n dX8_add_0 rfl rfl ?_ | refine V_aload_nN dX8_add_0 rfl rfl ?_
      first | refine V_getr (by first | exact z0.1.1.1.k _ rfl rfl | exact z0.1.1.kb hb) fX8_19 dX8_add_1 (by exact z0.1.1.1.r _ _ rfl) ?_ | refine V_getrN (by first | exact z0.1.1.1.k _ rfl rfl | exact z0.1.1.kb hb) fX8_19 dX8_add_1 (by exact z0.1.1.1.r _ _ rfl) ?_
      refine V_iload_n dX8_add_4 rfl rfl ?_
      refine V_iload_n dX8_add_5 rfl rfl ?_
      refine V_callV (As := [_, _]) (st := _) (c_X2_findFrame_s (kN (zK z)) (zQ z) c f w z0.2.1 hc hf) kX8_161 (by first | exact z0.1.1.1.k _ rfl rfl | exact z0.1.1.kb hb) ⟨rfl, rfl, rfl⟩ ⟨(Nat.le_of_ble_eq_true rfl), (Nat.le_of_ble_eq_true rfl)⟩ dX8_add_6 rfl rfl (Nat.le_of_ble_eq_true rfl) ⟨(Nat.le_of_ble_eq_true rfl), (Nat.le_of_ble_eq_true rfl)⟩ ?_
      first | refine S_astore (L' := [(0, _), (1, _), (3, _), (4, _)]) dX8_add_9 rfl rfl ?_ | refine S_astoreN (L' := [(0, _), (1, _), (3, _), (4, _)]) dX8_add_9 rfl rfl ?_
      first | refine V_aload_n dX8_add_11 rfl rfl ?_ | refine V_aload_nN dX8_add_11 rfl rfl ?_
      first | refine V_getr (by first | exact z0.1.1.1.k _ rfl rfl | exact z0.1.1.kb hb) fX8_19 dX8_add_12 (by exact z0.1.1.1.r _ _ rfl) ?_ | refine V_getrN (by first | exact z0.1.1.1.k _ rfl rfl | exact z0.1.1.kb hb) fX8_19 dX8_add_12 (by exact z0.1.1.1.r _ _ rfl) ?_
      refine V_iload_n dX8_add_15 rfl rfl ?_
      refine V_iload_n dX8_add_16 rfl rfl ?_
      refine V_callV (As := [_, _]) (st := _) (c_X2_findFrame_n (kN (zK z)) (zQ z) _ p w z0.2.1 (isFr_no z0 hy)) kX8_161 (by first | exact z0.1.1.1.k _ rfl rfl | exact z0.1.1.kb hb) ⟨rfl, rfl, rfl⟩ ⟨(Nat.le_of_ble_eq_true rfl), (Nat.le_of_ble_eq_true rfl)⟩ dX8_add_17 rfl rfl (Nat.le_of_ble_eq_true rfl) ⟨(Nat.le_of_ble_eq_true rfl), (Nat.le_of_ble_eq_true rfl)⟩ ?_
      refine S_astoreN (L' := [(0, _), (4, _), (5, _)]) dX8_add_20 rfl rfl ?_
      first | refine V_aload dX8_add_22 rfl ?_ | refine V_aloadN dX8_add_22 rfl ?_
      refine V_ifnull dX8_add_24 ?_
      first | refine V_aload dX8_add_27 rfl ?_ | refine V_aloadN dX8_add_27 rfl ?_
      refine V_ifnonnullN dX8_add_29 ?_
      refine V_bipush (v := -2) dX8_add_32 (by decide) ?_
      refine V_iret rfl dX8_add_34 (Nat.le_of_ble_eq_true rfl) (Nat.le_of_ble_eq_true rfl) ?_
      exact ⟨_, rfl, by unfold oAdd; rw [if_neg (fun q => hy q.2)], by unfold oAdd; rw [if_neg (fun q => hy q.2)]; exact z0, Keep.refl _ _⟩
  · by_cases hy : isFr z x p
    · obtain ⟨c, g, hc, hg, rfl, rfl⟩ := isFr_n z0 hy
      first | refine V_aload_n dX8_add_0 rfl rfl ?_ | refine V_aload_nN dX8_add_0 rfl rfl ?_
      first | refine V_getr (by first | exact z0.1.1.1.k _ rfl rfl | exact z0.1.1.kb hb) fX8_19 dX8_add_1 (by exact z0.1.1.1.r _ _ rfl) ?_ | refine V_getrN (by first | exact z0.1.1.1.k _ rfl rfl | exact z0.1.1.kb hb) fX8_19 dX8_add_1 (by exact z0.1.1.1.r _ _ rfl) ?_
      refine V_iload_n dX8_add_4 rfl rfl ?_
      refine V_iload_n dX8_add_5 rfl rfl ?_
      refine V_callV (As := [_, _]) (st := _) (c_X2_findFrame_n (kN (zK z)) (zQ z) _ _ w z0.2.1 (isFr_no z0 hx)) kX8_161 (by first | exact z0.1.1.1.k _ rfl rfl | exact z0.1.1.kb hb) ⟨rfl, rfl, rfl⟩ ⟨(Nat.le_of_ble_eq_true rfl), (Nat.le_of_ble_eq_true rfl)⟩ dX8_add_6 rfl rfl (Nat.le_of_ble_eq_true rfl) ⟨(Nat.le_of_ble_eq_true rfl), (Nat.le_of_ble_eq_true rfl)⟩ ?_
      first | refine S_astore (L' := [(0, _), (1, _), (3, _), (4, _)]) dX8_add_9 rfl rfl ?_ | refine S_astoreN (L' := [(0, _), (1, _), (3, _), (4, _)]) dX8_add_9 rfl rfl ?_
      first | refine V_aload_n dX8_add_11 rfl rfl ?_ | refine V_aload_nN dX8_add_11 rfl rfl ?_
      first | refine V_getr (by first | exact z0.1.1.1.k _ rfl rfl | exact z0.1.1.kb hb) fX8_19 dX8_add_12 (by exact z0.1.1.1.r _ _ rfl) ?_ | refine V_getrN (by first | exact z0.1.1.1.k _ rfl rfl | exact z0.1.1.kb hb) fX8_19 dX8_add_12 (by exact z0.1.1.1.r _ _ rfl) ?_
      refine V_iload_n dX8_add_15 rfl rfl ?_
      refine V_iload_n dX8_add_16 rfl rfl ?_
      refine V_callV (As := [_, _]) (st := _) (c_X2_findFrame_s (kN (zK z)) (zQ z) c g w z0.2.1 hc hg) kX8_161 (by first | exact z0.1.1.1.k _ rfl rfl | exact z0.1.1.kb hb) ⟨rfl, rfl, rfl⟩ ⟨(Nat.le_of_ble_eq_true rfl), (Nat.le_of_ble_eq_true rfl)⟩ dX8_add_17 rfl rfl (Nat.le_of_ble_eq_true rfl) ⟨(Nat.le_of_ble_eq_true rfl), (Nat.le_of_ble_eq_true rfl)⟩ ?_
      first | refine S_astore (L' := [(0, _), (4, _), (5, _)]) dX8_add_20 rfl rfl ?_ | refine S_astoreN (L' := [(0, _), (4, _), (5, _)]) dX8_add_20 rfl rfl ?_
      first | refine V_aload dX8_add_22 rfl ?_ | refine V_aloadN dX8_add_22 rfl ?_
      refine V_ifnullN (tgt := 32) dX8_add_24 (by decide) ?_
      refine V_bipush (v := -2) dX8_add_32 (by decide) ?_
      refine V_iret rfl dX8_add_34 (Nat.le_of_ble_eq_true rfl) (Nat.le_of_ble_eq_true rfl) ?_
      exact ⟨_, rfl, by unfold oAdd; rw [if_neg (fun q => hx q.1)], by unfold oAdd; rw [if_neg (fun q => hx q.1)]; exact z0, Keep.refl _ _⟩
    · first | refine V_aload_n dX8_add_0 rfl rfl ?_ | refine V_aload_nN dX8_add_0 rfl rfl ?_
      first | refine V_getr (by first | exact z0.1.1.1.k _ rfl rfl | exact z0.1.1.kb hb) fX8_19 dX8_add_1 (by exact z0.1.1.1.r _ _ rfl) ?_ | refine V_getrN (by first | exact z0.1.1.1.k _ rfl rfl | exact z0.1.1.kb hb) fX8_19 dX8_add_1 (by exact z0.1.1.1.r _ _ rfl) ?_
      refine V_iload_n dX8_add_4 rfl rfl ?_
      refine V_iload_n dX8_add_5 rfl rfl ?_
      refine V_callV (As := [_, _]) (st := _) (c_X2_findFrame_n (kN (zK z)) (zQ z) _ _ w z0.2.1 (isFr_no z0 hx)) kX8_161 (by first | exact z0.1.1.1.k _ rfl rfl | exact z0.1.1.kb hb) ⟨rfl, rfl, rfl⟩ ⟨(Nat.le_of_ble_eq_true rfl), (Nat.le_of_ble_eq_true rfl)⟩ dX8_add_6 rfl rfl (Nat.le_of_ble_eq_true rfl) ⟨(Nat.le_of_ble_eq_true rfl), (Nat.le_of_ble_eq_true rfl)⟩ ?_
      refine S_astoreN (L' := [(0, _), (1, _), (3, _), (4, _)]) dX8_add_9 rfl rfl ?_
      first | refine V_aload_n dX8_add_11 rfl rfl ?_ | refine V_aload_nN dX8_add_11 rfl rfl ?_
      first | refine V_getr (by first | exact z0.1.1.1.k _ rfl rfl | exact z0.1.1.kb hb) fX8_19 dX8_add_12 (by exact z0.1.1.1.r _ _ rfl) ?_ | refine V_getrN (by first | exact z0.1.1.1.k _ rfl rfl | exact z0.1.1.kb hb) fX8_19 dX8_add_12 (by exact z0.1.1.1.r _ _ rfl) ?_
      refine V_iload_n dX8_add_15 rfl rfl ?_
      refine V_iload_n dX8_add_16 rfl rfl ?_
      refine V_callV (As := [_, _]) (st := _) (c_X2_findFrame_n (kN (zK z)) (zQ z) _ p w z0.2.1 (isFr_no z0 hy)) kX8_161 (by first | exact z0.1.1.1.k _ rfl rfl | exact z0.1.1.kb hb) ⟨rfl, rfl, rfl⟩ ⟨(Nat.le_of_ble_eq_true rfl), (Nat.le_of_ble_eq_true rfl)⟩ dX8_add_17 rfl rfl (Nat.le_of_ble_eq_true rfl) ⟨(Nat.le_of_ble_eq_true rfl), (Nat.le_of_ble_eq_true rfl)⟩ ?_
      refine S_astoreN (L' := [(0, _), (4, _), (5, _)]) dX8_add_20 rfl rfl ?_
      first | refine V_aload dX8_add_22 rfl ?_ | refine V_aloadN dX8_add_22 rfl ?_
      refine V_ifnullN (tgt := 32) dX8_add_24 (by decide) ?_
      refine V_bipush (v := -2) dX8_add_32 (by decide) ?_
      refine V_iret rfl dX8_add_34 (Nat.le_of_ble_eq_true rfl) (Nat.le_of_ble_eq_true rfl) ?_
      exact ⟨_, rfl, by unfold oAdd; rw [if_neg (fun q => hx q.1)], by unfold oAdd; rw [if_neg (fun q => hx q.1)]; exact z0, Keep.refl _ _⟩

set_option maxRecDepth 100000 in
theorem c_X8_like (z : St) (x y u v : Int32) (w : Wd) (z0 : RX z w) : Cc yX8_like mX8_like [.ref 20, .int x, .int y, .int u, .int v] w (fun r w' => r = some (.int (oLike z x y u v)) ∧ w' = w) := by
  refine Cc.of (by decide) rfl rfl (Nat.le_of_ble_eq_true rfl) (fun X => ?_)
  change V _ X _ 0 [(0, _), (1, _), (2, _), (3, _), (4, _)] [] _ (0, 0)
  by_cases hx : isFr z x y
  · obtain ⟨c, f, hc, hf, rfl, rfl⟩ := isFr_n z0 hx
    have hcN : bN (nI c) = c := bN_nI (by omega)
    have hf3 : f < 30 := Nat.lt_of_lt_of_le hf (z0.2.1.le hc)
    have hfN : bN (nI f) = f := bN_nI (by omega)
    by_cases hy : isFr z u v
    · obtain ⟨d, g, hd, hg, rfl, rfl⟩ := isFr_n z0 hy
      have hdN : bN (nI d) = d := bN_nI (by omega)
      have hg3 : g < 30 := Nat.lt_of_lt_of_le hg (z0.2.1.le hd)
      have hgN : bN (nI g) = g := bN_nI (by omega)
      first | refine V_aload_n dX8_like_0 rfl rfl ?_ | refine V_aload_nN dX8_like_0 rfl rfl ?_
      first | refine V_getr (by first | exact z0.1.1.1.k _ rfl rfl | exact z0.1.1.1.kr hc hf3) fX8_19 dX8_like_1 (by exact z0.1.1.1.r _ _ rfl) ?_ | refine V_getrN (by first | exact z0.1.1.1.k _ rfl rfl | exact z0.1.1.1.kr hc hf3) fX8_19 dX8_like_1 (by exact z0.1.1.1.r _ _ rfl) ?_
      refine V_iload_n dX8_like_4 rfl rfl ?_
      refine V_iload_n dX8_like_5 rfl rfl ?_
      refine V_callV (As := [_, _]) (st := _) (c_X2_findFrame_s (kN (zK z)) (zQ z) c f w z0.2.1 hc hf) kX8_161 (by first | exact z0.1.1.1.k _ rfl rfl | exact z0.1.1.1.kr hc hf3) ⟨rfl, rfl, rfl⟩ ⟨(Nat.le_of_ble_eq_true rfl), (Nat.le_of_ble_eq_true rfl)⟩ dX8_like_6 rfl rfl (Nat.le_of_ble_eq_true rfl) ⟨(Nat.le_of_ble_eq_true rfl), (Nat.le_of_ble_eq_true rfl)⟩ ?_
      first | refine S_astore (L' := [(0, _), (3, _), (4, _), (5, _)]) dX8_like_9 rfl rfl ?_ | refine S_astoreN (L' := [(0, _), (3, _), (4, _), (5, _)]) dX8_like_9 rfl rfl ?_
      first | refine V_aload_n dX8_like_11 rfl rfl ?_ | refine V_aload_nN dX8_like_11 rfl rfl ?_
      first | refine V_getr (by first | exact z0.1.1.1.k _ rfl rfl | exact z0.1.1.1.kr hc hf3) fX8_19 dX8_like_12 (by exact z0.1.1.1.r _ _ rfl) ?_ | refine V_getrN (by first | exact z0.1.1.1.k _ rfl rfl | exact z0.1.1.1.kr hc hf3) fX8_19 dX8_like_12 (by exact z0.1.1.1.r _ _ rfl) ?_
      refine V_iload_n dX8_like_15 rfl rfl ?_
      refine V_iload dX8_like_16 rfl ?_
      refine V_callV (As := [_, _]) (st := _) (c_X2_findFrame_s (kN (zK z)) (zQ z) d g w z0.2.1 hd hg) kX8_161 (by first | exact z0.1.1.1.k _ rfl rfl | exact z0.1.1.1.kr hc hf3) ⟨rfl, rfl, rfl⟩ ⟨(Nat.le_of_ble_eq_true rfl), (Nat.le_of_ble_eq_true rfl)⟩ dX8_like_18 rfl rfl (Nat.le_of_ble_eq_true rfl) ⟨(Nat.le_of_ble_eq_true rfl), (Nat.le_of_ble_eq_true rfl)⟩ ?_
      first | refine S_astore (L' := [(0, _), (5, _), (6, _)]) dX8_like_21 rfl rfl ?_ | refine S_astoreN (L' := [(0, _), (5, _), (6, _)]) dX8_like_21 rfl rfl ?_
      first | refine V_aload dX8_like_23 rfl ?_ | refine V_aloadN dX8_like_23 rfl ?_
      refine V_ifnull dX8_like_25 ?_
      first | refine V_aload dX8_like_28 rfl ?_ | refine V_aloadN dX8_like_28 rfl ?_
      refine V_ifnonnull (tgt := 36) dX8_like_30 (by decide) ?_
      first | refine V_aload_n dX8_like_36 rfl rfl ?_ | refine V_aload_nN dX8_like_36 rfl rfl ?_
      first | refine V_getr (by first | exact z0.1.1.1.k _ rfl rfl | exact z0.1.1.1.kr hc hf3) fX8_19 dX8_like_37 (by exact z0.1.1.1.r _ _ rfl) ?_ | refine V_getrN (by first | exact z0.1.1.1.k _ rfl rfl | exact z0.1.1.1.kr hc hf3) fX8_19 dX8_like_37 (by exact z0.1.1.1.r _ _ rfl) ?_
      first | refine V_aload dX8_like_40 rfl ?_ | refine V_aloadN dX8_like_40 rfl ?_
      first | refine V_aload dX8_like_42 rfl ?_ | refine V_aloadN dX8_like_42 rfl ?_
      refine V_ldc ctX8_178 dX8_like_44 ?_
      refine V_callVr (As := [_, _, _]) (st := _) (c_X2_likeness (kN (zK z)) ((zQ z).2 c f) ((zQ z).2 d g) (100 + (30 * c + f)) (100 + (30 * d + g)) _ w z0.1.1.1 z0.1.1.n10 (z0.2.1.pos hc hf) (z0.1.1.1.kr hc hf3) (z0.1.1.1.nr hc hf3) (fun b hb => z0.2.1.fr hc hf hb) (z0.1.1.1.kr hd hg3) (z0.1.1.1.nr hd hg3) (fun b hb => z0.2.1.fr hd hg hb)) kX8_179 (by first | exact z0.1.1.1.k _ rfl rfl | exact z0.1.1.1.kr hc hf3) ⟨rfl, rfl, rfl⟩ ⟨(Nat.le_of_ble_eq_true rfl), (Nat.le_of_ble_eq_true rfl)⟩ dX8_like_46 rfl rfl (Nat.le_of_ble_eq_true rfl) ⟨(Nat.le_of_ble_eq_true rfl), (Nat.le_of_ble_eq_true rfl)⟩ (fun v1 w1 hw1 => ?_)
      obtain ⟨e2, m, e3, a1, a2⟩ := hw1
      subst e2
      subst e3
      refine V_iret rfl dX8_like_49 (Nat.le_of_ble_eq_true rfl) (Nat.le_of_ble_eq_true rfl) ?_
      have h9 := likN_le ((zQ z).2 c f) ((zQ z).2 d g) (kN (zK z))
      have h8 := z0.1.1.n10
      have e : m = likN ((zQ z).2 c f) ((zQ z).2 d g) (kN (zK z)) := a2 ((nI_leI (b := 2147483647) (by omega) (by decide)).mpr (by omega))
      exact ok2i (by unfold oLike; rw [if_pos ⟨hx, hy⟩, hcN, hfN, hdN, hgN, e])
    · first | refine V_aload_n dX8_like_0 rfl rfl ?_ | refine V_aload_nN dX8_like_0 rfl rfl ?_
      first | refine V_getr (by first | exact z0.1.1.1.k _ rfl rfl | exact z0.1.1.kb hb) fX8_19 dX8_like_1 (by exact z0.1.1.1.r _ _ rfl) ?_ | refine V_getrN (by first | exact z0.1.1.1.k _ rfl rfl | exact z0.1.1.kb hb) fX8_19 dX8_like_1 (by exact z0.1.1.1.r _ _ rfl) ?_
      refine V_iload_n dX8_like_4 rfl rfl ?_
      refine V_iload_n dX8_like_5 rfl rfl ?_
      refine V_callV (As := [_, _]) (st := _) (c_X2_findFrame_s (kN (zK z)) (zQ z) c f w z0.2.1 hc hf) kX8_161 (by first | exact z0.1.1.1.k _ rfl rfl | exact z0.1.1.kb hb) ⟨rfl, rfl, rfl⟩ ⟨(Nat.le_of_ble_eq_true rfl), (Nat.le_of_ble_eq_true rfl)⟩ dX8_like_6 rfl rfl (Nat.le_of_ble_eq_true rfl) ⟨(Nat.le_of_ble_eq_true rfl), (Nat.le_of_ble_eq_true rfl)⟩ ?_
      first | refine S_astore (L' := [(0, _), (3, _), (4, _), (5, _)]) dX8_like_9 rfl rfl ?_ | refine S_astoreN (L' := [(0, _), (3, _), (4, _), (5, _)]) dX8_like_9 rfl rfl ?_
      first | refine V_aload_n dX8_like_11 rfl rfl ?_ | refine V_aload_nN dX8_like_11 rfl rfl ?_
      first | refine V_getr (by first | exact z0.1.1.1.k _ rfl rfl | exact z0.1.1.kb hb) fX8_19 dX8_like_12 (by exact z0.1.1.1.r _ _ rfl) ?_ | refine V_getrN (by first | exact z0.1.1.1.k _ rfl rfl | exact z0.1.1.kb hb) fX8_19 dX8_like_12 (by exact z0.1.1.1.r _ _ rfl) ?_
      refine V_iload_n dX8_like_15 rfl rfl ?_
      refine V_iload dX8_like_16 rfl ?_
      refine V_callV (As := [_, _]) (st := _) (c_X2_findFrame_n (kN (zK z)) (zQ z) u v w z0.2.1 (isFr_no z0 hy)) kX8_161 (by first | exact z0.1.1.1.k _ rfl rfl | exact z0.1.1.kb hb) ⟨rfl, rfl, rfl⟩ ⟨(Nat.le_of_ble_eq_true rfl), (Nat.le_of_ble_eq_true rfl)⟩ dX8_like_18 rfl rfl (Nat.le_of_ble_eq_true rfl) ⟨(Nat.le_of_ble_eq_true rfl), (Nat.le_of_ble_eq_true rfl)⟩ ?_
      refine S_astoreN (L' := [(0, _), (5, _), (6, _)]) dX8_like_21 rfl rfl ?_
      first | refine V_aload dX8_like_23 rfl ?_ | refine V_aloadN dX8_like_23 rfl ?_
      refine V_ifnull dX8_like_25 ?_
      first | refine V_aload dX8_like_28 rfl ?_ | refine V_aloadN dX8_like_28 rfl ?_
      refine V_ifnonnullN dX8_like_30 ?_
      refine V_bipush (v := -2) dX8_like_33 (by decide) ?_
      refine V_iret rfl dX8_like_35 (Nat.le_of_ble_eq_true rfl) (Nat.le_of_ble_eq_true rfl) ?_
      exact ok2i (by unfold oLike; rw [if_neg (fun q => hy q.2)])
  · by_cases hy : isFr z u v
    · obtain ⟨d, g, hd, hg, rfl, rfl⟩ := isFr_n z0 hy
      first | refine V_aload_n dX8_like_0 rfl rfl ?_ | refine V_aload_nN dX8_like_0 rfl rfl ?_
      first | refine V_getr (by first | exact z0.1.1.1.k _ rfl rfl | exact z0.1.1.kb hb) fX8_19 dX8_like_1 (by exact z0.1.1.1.r _ _ rfl) ?_ | refine V_getrN (by first | exact z0.1.1.1.k _ rfl rfl | exact z0.1.1.kb hb) fX8_19 dX8_like_1 (by exact z0.1.1.1.r _ _ rfl) ?_
      refine V_iload_n dX8_like_4 rfl rfl ?_
      refine V_iload_n dX8_like_5 rfl rfl ?_
      refine V_callV (As := [_, _]) (st := _) (c_X2_findFrame_n (kN (zK z)) (zQ z) x y w z0.2.1 (isFr_no z0 hx)) kX8_161 (by first | exact z0.1.1.1.k _ rfl rfl | exact z0.1.1.kb hb) ⟨rfl, rfl, rfl⟩ ⟨(Nat.le_of_ble_eq_true rfl), (Nat.le_of_ble_eq_true rfl)⟩ dX8_like_6 rfl rfl (Nat.le_of_ble_eq_true rfl) ⟨(Nat.le_of_ble_eq_true rfl), (Nat.le_of_ble_eq_true rfl)⟩ ?_
      first | refine S_astore (L' := [(0, _), (3, _), (4, _), (5, _)]) dX8_like_9 rfl rfl ?_ | refine S_astoreN (L' := [(0, _), (3, _), (4, _), (5, _)]) dX8_like_9 rfl rfl ?_
      first | refine V_aload_n dX8_like_11 rfl rfl ?_ | refine V_aload_nN dX8_like_11 rfl rfl ?_
      first | refine V_getr (by first | exact z0.1.1.1.k _ rfl rfl | exact z0.1.1.kb hb) fX8_19 dX8_like_12 (by exact z0.1.1.1.r _ _ rfl) ?_ | refine V_getrN (by first | exact z0.1.1.1.k _ rfl rfl | exact z0.1.1.kb hb) fX8_19 dX8_like_12 (by exact z0.1.1.1.r _ _ rfl) ?_
      refine V_iload_n dX8_like_15 rfl rfl ?_
      refine V_iload dX8_like_16 rfl ?_
      refine V_callV (As := [_, _]) (st := _) (c_X2_findFrame_s (kN (zK z)) (zQ z) d g w z0.2.1 hd hg) kX8_161 (by first | exact z0.1.1.1.k _ rfl rfl | exact z0.1.1.kb hb) ⟨rfl, rfl, rfl⟩ ⟨(Nat.le_of_ble_eq_true rfl), (Nat.le_of_ble_eq_true rfl)⟩ dX8_like_18 rfl rfl (Nat.le_of_ble_eq_true rfl) ⟨(Nat.le_of_ble_eq_true rfl), (Nat.le_of_ble_eq_true rfl)⟩ ?_
      first | refine S_astore (L' := [(0, _), (5, _), (6, _)]) dX8_like_21 rfl rfl ?_ | refine S_astoreN (L' := [(0, _), (5, _), (6, _)]) dX8_like_21 rfl rfl ?_
      first | refine V_aload dX8_like_23 rfl ?_ | refine V_aloadN dX8_like_23 rfl ?_
      refine V_ifnullN (tgt := 33) dX8_like_25 (by decide) ?_
      refine V_bipush (v := -2) dX8_like_33 (by decide) ?_
      refine V_iret rfl dX8_like_35 (Nat.le_of_ble_eq_true rfl) (Nat.le_of_ble_eq_true rfl) ?_
      exact ok2i (by unfold oLike; rw [if_neg (fun q => hx q.1)])
    · first | refine V_aload_n dX8_like_0 rfl rfl ?_ | refine V_aload_nN dX8_like_0 rfl rfl ?_
      first | refine V_getr (by first | exact z0.1.1.1.k _ rfl rfl | exact z0.1.1.kb hb) fX8_19 dX8_like_1 (by exact z0.1.1.1.r _ _ rfl) ?_ | refine V_getrN (by first | exact z0.1.1.1.k _ rfl rfl | exact z0.1.1.kb hb) fX8_19 dX8_like_1 (by exact z0.1.1.1.r _ _ rfl) ?_
      refine V_iload_n dX8_like_4 rfl rfl ?_
      refine V_iload_n dX8_like_5 rfl rfl ?_
      refine V_callV (As := [_, _]) (st := _) (c_X2_findFrame_n (kN (zK z)) (zQ z) x y w z0.2.1 (isFr_no z0 hx)) kX8_161 (by first | exact z0.1.1.1.k _ rfl rfl | exact z0.1.1.kb hb) ⟨rfl, rfl, rfl⟩ ⟨(Nat.le_of_ble_eq_true rfl), (Nat.le_of_ble_eq_true rfl)⟩ dX8_like_6 rfl rfl (Nat.le_of_ble_eq_true rfl) ⟨(Nat.le_of_ble_eq_true rfl), (Nat.le_of_ble_eq_true rfl)⟩ ?_
      refine S_astoreN (L' := [(0, _), (3, _), (4, _), (5, _)]) dX8_like_9 rfl rfl ?_
      first | refine V_aload_n dX8_like_11 rfl rfl ?_ | refine V_aload_nN dX8_like_11 rfl rfl ?_
      first | refine V_getr (by first | exact z0.1.1.1.k _ rfl rfl | exact z0.1.1.kb hb) fX8_19 dX8_like_12 (by exact z0.1.1.1.r _ _ rfl) ?_ | refine V_getrN (by first | exact z0.1.1.1.k _ rfl rfl | exact z0.1.1.kb hb) fX8_19 dX8_like_12 (by exact z0.1.1.1.r _ _ rfl) ?_
      refine V_iload_n dX8_like_15 rfl rfl ?_
      refine V_iload dX8_like_16 rfl ?_
      refine V_callV (As := [_, _]) (st := _) (c_X2_findFrame_n (kN (zK z)) (zQ z) u v w z0.2.1 (isFr_no z0 hy)) kX8_161 (by first | exact z0.1.1.1.k _ rfl rfl | exact z0.1.1.kb hb) ⟨rfl, rfl, rfl⟩ ⟨(Nat.le_of_ble_eq_true rfl), (Nat.le_of_ble_eq_true rfl)⟩ dX8_like_18 rfl rfl (Nat.le_of_ble_eq_true rfl) ⟨(Nat.le_of_ble_eq_true rfl), (Nat.le_of_ble_eq_true rfl)⟩ ?_
      refine S_astoreN (L' := [(0, _), (5, _), (6, _)]) dX8_like_21 rfl rfl ?_
      first | refine V_aload dX8_like_23 rfl ?_ | refine V_aloadN dX8_like_23 rfl ?_
      refine V_ifnullN (tgt := 33) dX8_like_25 (by decide) ?_
      refine V_bipush (v := -2) dX8_like_33 (by decide) ?_
      refine V_iret rfl dX8_like_35 (Nat.le_of_ble_eq_true rfl) (Nat.le_of_ble_eq_true rfl) ?_
      exact ok2i (by unfold oLike; rw [if_neg (fun q => hx q.1)])

set_option maxRecDepth 100000 in
theorem c_X8_pack (z : St) (x m : Int32) (w : Wd) (z0 : RX z w) : Cc yX8_pack mX8_pack [.ref 20, .int x, .int m] w (fun r w' => ∃ v, r = some v ∧ (v = .int (oPack z x m).1 ∧ RX (oPack z x m).2 w' ∧ Keep clA w w')) := by
  refine Cc.of (by decide) rfl rfl (Nat.le_of_ble_eq_true rfl) (fun X => ?_)
  change V _ X _ 0 [(0, _), (1, _), (2, _)] [] _ (0, 0)
  by_cases hx : isC x
  · obtain ⟨c, hc, rfl⟩ := isC_n hx
    have hcN : bN (nI c) = c := bN_nI (by omega)
    first | refine V_aload_n dX8_pack_0 rfl rfl ?_ | refine V_aload_nN dX8_pack_0 rfl rfl ?_
    first | refine V_getr (by first | exact z0.1.1.1.k _ rfl rfl | exact z0.1.1.1.kc hc | exact (congrFun a1.1 _).trans (z0.1.1.1.k _ rfl rfl)) fX8_19 dX8_pack_1 (by first | exact z0.1.1.1.r _ _ rfl | exact (congrFun (congrFun a1.2.2.1 _) _).trans (z0.1.1.1.r _ _ rfl)) ?_ | refine V_getrN (by first | exact z0.1.1.1.k _ rfl rfl | exact z0.1.1.1.kc hc | exact (congrFun a1.1 _).trans (z0.1.1.1.k _ rfl rfl)) fX8_19 dX8_pack_1 (by first | exact z0.1.1.1.r _ _ rfl | exact (congrFun (congrFun a1.2.2.1 _) _).trans (z0.1.1.1.r _ _ rfl)) ?_
    refine V_iload_n dX8_pack_4 rfl rfl ?_
    refine V_callV (As := [_]) (st := _) (c_X2_find_s c w z0.1.1.1 hc) kX8_144 (by first | exact z0.1.1.1.k _ rfl rfl | exact z0.1.1.1.kc hc | exact (congrFun a1.1 _).trans (z0.1.1.1.k _ rfl rfl)) ⟨rfl, rfl, rfl⟩ ⟨(Nat.le_of_ble_eq_true rfl), (Nat.le_of_ble_eq_true rfl)⟩ dX8_pack_5 rfl rfl (Nat.le_of_ble_eq_true rfl) ⟨(Nat.le_of_ble_eq_true rfl), (Nat.le_of_ble_eq_true rfl)⟩ ?_
    first | refine S_astore_n (L' := [(0, _), (2, _), (3, _)]) dX8_pack_8 rfl rfl rfl ?_ | refine S_astore_nN (L' := [(0, _), (2, _), (3, _)]) dX8_pack_8 rfl rfl rfl ?_
    first | refine V_aload_n dX8_pack_9 rfl rfl ?_ | refine V_aload_nN dX8_pack_9 rfl rfl ?_
    refine V_ifnull dX8_pack_10 ?_
    refine V_iload_n dX8_pack_13 rfl rfl ?_
    refine V_i2l dX8_pack_14 ?_
    refine V_lconst (v := 0) dX8_pack_15 (by decide) ?_
    refine V_ldc2 ctX8_183 dX8_pack_16 ?_
    refine V_callS (As := [_, _, _]) (st := _) (isIn_c m 18 _ rfl w) kX8_54 ⟨rfl, rfl, rfl⟩ ⟨(Nat.le_of_ble_eq_true rfl), (Nat.le_of_ble_eq_true rfl)⟩ dX8_pack_19 rfl rfl (Nat.le_of_ble_eq_true rfl) ⟨(Nat.le_of_ble_eq_true rfl), (Nat.le_of_ble_eq_true rfl)⟩ ?_
    refine V_if_ne (tgt := 28) dX8_pack_22 (by decide) (fun c22 => ?_) (fun c22 => ?_)
    · have hm := b01_1 c22
      refine V_sub (L' := [(0, .ref 20), (2, .int (nI (bN m))), (3, .ref (40 + c))]) (by rw [← i32_nat hm.1]; rfl) ?_
      first | refine V_aload_n dX8_pack_28 rfl rfl ?_ | refine V_aload_nN dX8_pack_28 rfl rfl ?_
      first | refine V_getr (by first | exact z0.1.1.1.k _ rfl rfl | exact z0.1.1.1.kc hc | exact (congrFun a1.1 _).trans (z0.1.1.1.k _ rfl rfl)) fX8_26 dX8_pack_29 (by first | exact z0.1.1.1.r _ _ rfl | exact (congrFun (congrFun a1.2.2.1 _) _).trans (z0.1.1.1.r _ _ rfl)) ?_ | refine V_getrN (by first | exact z0.1.1.1.k _ rfl rfl | exact z0.1.1.1.kc hc | exact (congrFun a1.1 _).trans (z0.1.1.1.k _ rfl rfl)) fX8_26 dX8_pack_29 (by first | exact z0.1.1.1.r _ _ rfl | exact (congrFun (congrFun a1.2.2.1 _) _).trans (z0.1.1.1.r _ _ rfl)) ?_
      first | refine V_aload_n dX8_pack_32 rfl rfl ?_ | refine V_aload_nN dX8_pack_32 rfl rfl ?_
      first | refine V_getr (by first | exact z0.1.1.1.k _ rfl rfl | exact z0.1.1.1.kc hc | exact (congrFun a1.1 _).trans (z0.1.1.1.k _ rfl rfl)) fX8_12 dX8_pack_33 (by first | exact z0.1.1.1.r _ _ rfl | exact (congrFun (congrFun a1.2.2.1 _) _).trans (z0.1.1.1.r _ _ rfl)) ?_ | refine V_getrN (by first | exact z0.1.1.1.k _ rfl rfl | exact z0.1.1.1.kc hc | exact (congrFun a1.1 _).trans (z0.1.1.1.k _ rfl rfl)) fX8_12 dX8_pack_33 (by first | exact z0.1.1.1.r _ _ rfl | exact (congrFun (congrFun a1.2.2.1 _) _).trans (z0.1.1.1.r _ _ rfl)) ?_
      first | refine V_aload_n dX8_pack_36 rfl rfl ?_ | refine V_aload_nN dX8_pack_36 rfl rfl ?_
      refine V_iload_n dX8_pack_37 rfl rfl ?_
      refine V_callVvr (As := [_, _, _]) (st := _) (c_X4_findKeys (zK z) (zQ z) c (bN m) w z0.1.1 z0.2.1 hc (by unfold bN; omega)) kX8_185 (by first | exact z0.1.1.1.k _ rfl rfl | exact z0.1.1.1.kc hc | exact (congrFun a1.1 _).trans (z0.1.1.1.k _ rfl rfl)) ⟨rfl, rfl, rfl⟩ ⟨(Nat.le_of_ble_eq_true rfl), (Nat.le_of_ble_eq_true rfl)⟩ dX8_pack_38 rfl rfl (Nat.le_of_ble_eq_true rfl) ⟨(Nat.le_of_ble_eq_true rfl), (Nat.le_of_ble_eq_true rfl)⟩ (fun w1 hw1 => ?_)
      obtain ⟨a1, a2⟩ := hw1
      first | refine V_aload_n dX8_pack_41 rfl rfl ?_ | refine V_aload_nN dX8_pack_41 rfl rfl ?_
      first | refine V_getr (by first | exact z0.1.1.1.k _ rfl rfl | exact z0.1.1.1.kc hc | exact (congrFun a1.1 _).trans (z0.1.1.1.k _ rfl rfl)) fX8_26 dX8_pack_42 (by first | exact z0.1.1.1.r _ _ rfl | exact (congrFun (congrFun a1.2.2.1 _) _).trans (z0.1.1.1.r _ _ rfl)) ?_ | refine V_getrN (by first | exact z0.1.1.1.k _ rfl rfl | exact z0.1.1.1.kc hc | exact (congrFun a1.1 _).trans (z0.1.1.1.k _ rfl rfl)) fX8_26 dX8_pack_42 (by first | exact z0.1.1.1.r _ _ rfl | exact (congrFun (congrFun a1.2.2.1 _) _).trans (z0.1.1.1.r _ _ rfl)) ?_
      refine G_geti (by first | exact z0.1.1.1.k _ rfl rfl | exact z0.1.1.1.kc hc | exact (congrFun a1.1 _).trans (z0.1.1.1.k _ rfl rfl)) fX8_189 dX8_pack_45 (by exact a2.1) ?_
      refine V_iret rfl dX8_pack_48 (Nat.le_of_ble_eq_true rfl) (Nat.le_of_ble_eq_true rfl) ?_
      have e : oPack z (nI c) m = (nI (knF (nxZ z c (bN m)) ((zQ z).1 c)), pY z (knF (nxZ z c (bN m)) ((zQ z).1 c)) (kyF (nxZ z c (bN m)))) := by
        unfold oPack
        rw [if_pos ⟨hx, hm⟩, hcN]
      exact ⟨_, rfl, by rw [e]; rfl, by rw [e]; exact z0.setY a1 a2, a1.mono (fun a => by unfold pkA clA; omega)⟩
    · refine V_bipush (v := -2) dX8_pack_25 (by decide) ?_
      refine V_iret rfl dX8_pack_27 (Nat.le_of_ble_eq_true rfl) (Nat.le_of_ble_eq_true rfl) ?_
      exact ⟨_, rfl, by unfold oPack; rw [if_neg (fun q => b01_0 c22 q.2)], by unfold oPack; rw [if_neg (fun q => b01_0 c22 q.2)]; exact z0, Keep.refl _ _⟩
  · first | refine V_aload_n dX8_pack_0 rfl rfl ?_ | refine V_aload_nN dX8_pack_0 rfl rfl ?_
    first | refine V_getr (by first | exact z0.1.1.1.k _ rfl rfl | exact z0.1.1.kb hb) fX8_19 dX8_pack_1 (by exact z0.1.1.1.r _ _ rfl) ?_ | refine V_getrN (by first | exact z0.1.1.1.k _ rfl rfl | exact z0.1.1.kb hb) fX8_19 dX8_pack_1 (by exact z0.1.1.1.r _ _ rfl) ?_
    refine V_iload_n dX8_pack_4 rfl rfl ?_
    refine V_callV (As := [_]) (st := _) (c_X2_find_n x w z0.1.1.1 hx) kX8_144 (by first | exact z0.1.1.1.k _ rfl rfl | exact z0.1.1.kb hb) ⟨rfl, rfl, rfl⟩ ⟨(Nat.le_of_ble_eq_true rfl), (Nat.le_of_ble_eq_true rfl)⟩ dX8_pack_5 rfl rfl (Nat.le_of_ble_eq_true rfl) ⟨(Nat.le_of_ble_eq_true rfl), (Nat.le_of_ble_eq_true rfl)⟩ ?_
    first | refine S_astore_n (L' := [(0, _), (2, _), (3, _)]) dX8_pack_8 rfl rfl rfl ?_ | refine S_astore_nN (L' := [(0, _), (2, _), (3, _)]) dX8_pack_8 rfl rfl rfl ?_
    first | refine V_aload_n dX8_pack_9 rfl rfl ?_ | refine V_aload_nN dX8_pack_9 rfl rfl ?_
    refine V_ifnullN (tgt := 25) dX8_pack_10 (by decide) ?_
    refine V_bipush (v := -2) dX8_pack_25 (by decide) ?_
    refine V_iret rfl dX8_pack_27 (Nat.le_of_ble_eq_true rfl) (Nat.le_of_ble_eq_true rfl) ?_
    exact ⟨_, rfl, by unfold oPack; rw [if_neg (fun q => hx q.1)], by unfold oPack; rw [if_neg (fun q => hx q.1)]; exact z0, Keep.refl _ _⟩

set_option maxRecDepth 100000 in
theorem c_X8_key (z : St) (x : Int32) (w : Wd) (z0 : RX z w) : Cc yX8_key mX8_key [.ref 20, .int x] w (fun r w' => r = some (.int (oKey z x)) ∧ w' = w) := by
  refine Cc.of (by decide) rfl rfl (Nat.le_of_ble_eq_true rfl) (fun X => ?_)
  change V _ X _ 0 [(0, _), (1, _)] [] _ (0, 0)
  refine V_iload_n dX8_key_0 rfl rfl ?_
  refine V_i2l dX8_key_1 ?_
  refine V_lconst (v := 0) dX8_key_2 (by decide) ?_
  first | refine V_aload_n dX8_key_3 rfl rfl ?_ | refine V_aload_nN dX8_key_3 rfl rfl ?_
  first | refine V_getr (by first | exact z0.1.1.1.k _ rfl rfl | exact z0.1.1.kb hb) fX8_26 dX8_key_4 (by exact z0.1.1.1.r _ _ rfl) ?_ | refine V_getrN (by first | exact z0.1.1.1.k _ rfl rfl | exact z0.1.1.kb hb) fX8_26 dX8_key_4 (by exact z0.1.1.1.r _ _ rfl) ?_
  refine G_geti (by first | exact z0.1.1.1.k _ rfl rfl | exact z0.1.1.kb hb) fX8_189 dX8_key_7 (by exact z0.2.2.1.1) ?_
  refine V_iconst (v := 1) dX8_key_10 (by decide) ?_
  refine V_isub dX8_key_11 ?_
  refine V_i2l dX8_key_12 ?_
  refine V_callS (As := [_, _, _]) (st := _) (isIn_m x (zN z) (by have := z0.2.2.1.2.1; omega) w) kX8_54 ⟨rfl, rfl, rfl⟩ ⟨(Nat.le_of_ble_eq_true rfl), (Nat.le_of_ble_eq_true rfl)⟩ dX8_key_13 rfl rfl (Nat.le_of_ble_eq_true rfl) ⟨(Nat.le_of_ble_eq_true rfl), (Nat.le_of_ble_eq_true rfl)⟩ ?_
  refine V_if_eq (tgt := 31) dX8_key_16 (by decide) (fun c16 => ?_) (fun c16 => ?_)
  · refine V_bipush (v := -2) dX8_key_31 (by decide) ?_
    refine V_iret rfl dX8_key_33 (Nat.le_of_ble_eq_true rfl) (Nat.le_of_ble_eq_true rfl) ?_
    refine ok2i ?_
    unfold oKey
    first | rw [if_neg (b01_0 c16)] | rw [if_pos (b01_1 c16)]
  · have hx := b01_1 c16
    have h30 := z0.2.2.1.2.1
    first | refine V_aload_n dX8_key_19 rfl rfl ?_ | refine V_aload_nN dX8_key_19 rfl rfl ?_
    first | refine V_getr (by first | exact z0.1.1.1.k _ rfl rfl | exact z0.1.1.kb hb) fX8_26 dX8_key_20 (by exact z0.1.1.1.r _ _ rfl) ?_ | refine V_getrN (by first | exact z0.1.1.1.k _ rfl rfl | exact z0.1.1.kb hb) fX8_26 dX8_key_20 (by exact z0.1.1.1.r _ _ rfl) ?_
    first | refine V_getr (by first | exact z0.1.1.1.k _ rfl rfl | exact z0.1.1.kb hb) fX8_190 dX8_key_23 (by exact z0.1.1.1.r _ _ rfl) ?_ | refine V_getrN (by first | exact z0.1.1.1.k _ rfl rfl | exact z0.1.1.kb hb) fX8_190 dX8_key_23 (by exact z0.1.1.1.r _ _ rfl) ?_
    refine V_iload_n dX8_key_26 rfl rfl ?_
    refine G_iald (j := bN x) (by first | exact z0.1.1.1.k _ rfl rfl | exact z0.1.1.kb hb) (by exact i32_nat hx.1) (by rw [z0.1.1.1.n 28 rfl rfl]; show bN x < 30; unfold bN; omega) (by rw [z0.1.1.1.n 28 rfl rfl]; decide) dX8_key_27 (by exact z0.2.2.1.2.2 _ (by unfold bN; omega)) ?_
    refine V_goto (tgt := 33) dX8_key_28 (by decide) ?_
    refine V_iret rfl dX8_key_33 (Nat.le_of_ble_eq_true rfl) (Nat.le_of_ble_eq_true rfl) ?_
    refine ok2i ?_
    unfold oKey
    first | rw [if_neg (b01_0 c16)] | rw [if_pos (b01_1 c16)]

set_option maxRecDepth 100000 in
theorem c_X8_thin (z : St) (x m : Int32) (w : Wd) (z0 : RX z w) : Cc yX8_thin mX8_thin [.ref 20, .int x, .int m] w (fun r w' => ∃ v, r = some v ∧ (v = .int (oThin z x m).1 ∧ RX (oThin z x m).2 w' ∧ Keep clA w w')) := by
  refine Cc.of (by decide) rfl rfl (Nat.le_of_ble_eq_true rfl) (fun X => ?_)
  change V _ X _ 0 [(0, _), (1, _), (2, _)] [] _ (0, 0)
  by_cases hx : isC x
  · obtain ⟨c, hc, rfl⟩ := isC_n hx
    have hcN : bN (nI c) = c := bN_nI (by omega)
    first | refine V_aload_n dX8_thin_0 rfl rfl ?_ | refine V_aload_nN dX8_thin_0 rfl rfl ?_
    first | refine V_getr (by first | exact z0.1.1.1.k _ rfl rfl | exact z0.1.1.1.kc hc | exact (congrFun a1.1 _).trans (z0.1.1.1.k _ rfl rfl) | exact ((congrFun d1.1 _).trans (congrFun a1.1 _)).trans (z0.1.1.1.kc hc)) fX8_19 dX8_thin_1 (by first | exact z0.1.1.1.r _ _ rfl | exact (congrFun (congrFun a1.2.2.1 _) _).trans (z0.1.1.1.r _ _ rfl)) ?_ | refine V_getrN (by first | exact z0.1.1.1.k _ rfl rfl | exact z0.1.1.1.kc hc | exact (congrFun a1.1 _).trans (z0.1.1.1.k _ rfl rfl) | exact ((congrFun d1.1 _).trans (congrFun a1.1 _)).trans (z0.1.1.1.kc hc)) fX8_19 dX8_thin_1 (by first | exact z0.1.1.1.r _ _ rfl | exact (congrFun (congrFun a1.2.2.1 _) _).trans (z0.1.1.1.r _ _ rfl)) ?_
    refine V_iload_n dX8_thin_4 rfl rfl ?_
    refine V_callV (As := [_]) (st := _) (c_X2_find_s c w z0.1.1.1 hc) kX8_144 (by first | exact z0.1.1.1.k _ rfl rfl | exact z0.1.1.1.kc hc | exact (congrFun a1.1 _).trans (z0.1.1.1.k _ rfl rfl) | exact ((congrFun d1.1 _).trans (congrFun a1.1 _)).trans (z0.1.1.1.kc hc)) ⟨rfl, rfl, rfl⟩ ⟨(Nat.le_of_ble_eq_true rfl), (Nat.le_of_ble_eq_true rfl)⟩ dX8_thin_5 rfl rfl (Nat.le_of_ble_eq_true rfl) ⟨(Nat.le_of_ble_eq_true rfl), (Nat.le_of_ble_eq_true rfl)⟩ ?_
    first | refine S_astore_n (L' := [(0, _), (2, _), (3, _)]) dX8_thin_8 rfl rfl rfl ?_ | refine S_astore_nN (L' := [(0, _), (2, _), (3, _)]) dX8_thin_8 rfl rfl rfl ?_
    first | refine V_aload_n dX8_thin_9 rfl rfl ?_ | refine V_aload_nN dX8_thin_9 rfl rfl ?_
    refine V_ifnull dX8_thin_10 ?_
    refine V_iload_n dX8_thin_13 rfl rfl ?_
    refine V_i2l dX8_thin_14 ?_
    refine V_lconst (v := 0) dX8_thin_15 (by decide) ?_
    refine V_ldc2 ctX8_183 dX8_thin_16 ?_
    refine V_callS (As := [_, _, _]) (st := _) (isIn_c m 18 _ rfl w) kX8_54 ⟨rfl, rfl, rfl⟩ ⟨(Nat.le_of_ble_eq_true rfl), (Nat.le_of_ble_eq_true rfl)⟩ dX8_thin_19 rfl rfl (Nat.le_of_ble_eq_true rfl) ⟨(Nat.le_of_ble_eq_true rfl), (Nat.le_of_ble_eq_true rfl)⟩ ?_
    refine V_if_ne (tgt := 28) dX8_thin_22 (by decide) (fun c22 => ?_) (fun c22 => ?_)
    · have hm := b01_1 c22
      refine V_sub (L' := [(0, .ref 20), (2, .int (nI (bN m))), (3, .ref (40 + c))]) (by rw [← i32_nat hm.1]; rfl) ?_
      first | refine V_aload_n dX8_thin_28 rfl rfl ?_ | refine V_aload_nN dX8_thin_28 rfl rfl ?_
      refine G_geti (by first | exact z0.1.1.1.k _ rfl rfl | exact z0.1.1.1.kc hc | exact (congrFun a1.1 _).trans (z0.1.1.1.k _ rfl rfl) | exact ((congrFun d1.1 _).trans (congrFun a1.1 _)).trans (z0.1.1.1.kc hc)) fX8_147 dX8_thin_29 (by exact z0.2.1.sz hc) ?_
      refine S_istore (L' := [(0, _), (2, _), (3, _), (4, _)]) dX8_thin_32 rfl rfl ?_
      first | refine V_aload_n dX8_thin_34 rfl rfl ?_ | refine V_aload_nN dX8_thin_34 rfl rfl ?_
      first | refine V_getr (by first | exact z0.1.1.1.k _ rfl rfl | exact z0.1.1.1.kc hc | exact (congrFun a1.1 _).trans (z0.1.1.1.k _ rfl rfl) | exact ((congrFun d1.1 _).trans (congrFun a1.1 _)).trans (z0.1.1.1.kc hc)) fX8_26 dX8_thin_35 (by first | exact z0.1.1.1.r _ _ rfl | exact (congrFun (congrFun a1.2.2.1 _) _).trans (z0.1.1.1.r _ _ rfl)) ?_ | refine V_getrN (by first | exact z0.1.1.1.k _ rfl rfl | exact z0.1.1.1.kc hc | exact (congrFun a1.1 _).trans (z0.1.1.1.k _ rfl rfl) | exact ((congrFun d1.1 _).trans (congrFun a1.1 _)).trans (z0.1.1.1.kc hc)) fX8_26 dX8_thin_35 (by first | exact z0.1.1.1.r _ _ rfl | exact (congrFun (congrFun a1.2.2.1 _) _).trans (z0.1.1.1.r _ _ rfl)) ?_
      first | refine V_aload_n dX8_thin_38 rfl rfl ?_ | refine V_aload_nN dX8_thin_38 rfl rfl ?_
      first | refine V_getr (by first | exact z0.1.1.1.k _ rfl rfl | exact z0.1.1.1.kc hc | exact (congrFun a1.1 _).trans (z0.1.1.1.k _ rfl rfl) | exact ((congrFun d1.1 _).trans (congrFun a1.1 _)).trans (z0.1.1.1.kc hc)) fX8_12 dX8_thin_39 (by first | exact z0.1.1.1.r _ _ rfl | exact (congrFun (congrFun a1.2.2.1 _) _).trans (z0.1.1.1.r _ _ rfl)) ?_ | refine V_getrN (by first | exact z0.1.1.1.k _ rfl rfl | exact z0.1.1.1.kc hc | exact (congrFun a1.1 _).trans (z0.1.1.1.k _ rfl rfl) | exact ((congrFun d1.1 _).trans (congrFun a1.1 _)).trans (z0.1.1.1.kc hc)) fX8_12 dX8_thin_39 (by first | exact z0.1.1.1.r _ _ rfl | exact (congrFun (congrFun a1.2.2.1 _) _).trans (z0.1.1.1.r _ _ rfl)) ?_
      first | refine V_aload_n dX8_thin_42 rfl rfl ?_ | refine V_aload_nN dX8_thin_42 rfl rfl ?_
      refine V_iload_n dX8_thin_43 rfl rfl ?_
      refine V_callVvr (As := [_, _, _]) (st := _) (c_X4_findKeys (zK z) (zQ z) c (bN m) w z0.1.1 z0.2.1 hc (by unfold bN; omega)) kX8_185 (by first | exact z0.1.1.1.k _ rfl rfl | exact z0.1.1.1.kc hc | exact (congrFun a1.1 _).trans (z0.1.1.1.k _ rfl rfl) | exact ((congrFun d1.1 _).trans (congrFun a1.1 _)).trans (z0.1.1.1.kc hc)) ⟨rfl, rfl, rfl⟩ ⟨(Nat.le_of_ble_eq_true rfl), (Nat.le_of_ble_eq_true rfl)⟩ dX8_thin_44 rfl rfl (Nat.le_of_ble_eq_true rfl) ⟨(Nat.le_of_ble_eq_true rfl), (Nat.le_of_ble_eq_true rfl)⟩ (fun w1 hw1 => ?_)
      obtain ⟨a1, a2⟩ := hw1
      have h1 : CpX (kN (zK z)) (zQ z) w1 := z0.2.1.keep a1 (fun a => by unfold pkA cpA; omega)
      first | refine V_aload_n dX8_thin_47 rfl rfl ?_ | refine V_aload_nN dX8_thin_47 rfl rfl ?_
      first | refine V_getr (by first | exact z0.1.1.1.k _ rfl rfl | exact z0.1.1.1.kc hc | exact (congrFun a1.1 _).trans (z0.1.1.1.k _ rfl rfl) | exact ((congrFun d1.1 _).trans (congrFun a1.1 _)).trans (z0.1.1.1.kc hc)) fX8_26 dX8_thin_48 (by first | exact z0.1.1.1.r _ _ rfl | exact (congrFun (congrFun a1.2.2.1 _) _).trans (z0.1.1.1.r _ _ rfl)) ?_ | refine V_getrN (by first | exact z0.1.1.1.k _ rfl rfl | exact z0.1.1.1.kc hc | exact (congrFun a1.1 _).trans (z0.1.1.1.k _ rfl rfl) | exact ((congrFun d1.1 _).trans (congrFun a1.1 _)).trans (z0.1.1.1.kc hc)) fX8_26 dX8_thin_48 (by first | exact z0.1.1.1.r _ _ rfl | exact (congrFun (congrFun a1.2.2.1 _) _).trans (z0.1.1.1.r _ _ rfl)) ?_
      first | refine V_aload_n dX8_thin_51 rfl rfl ?_ | refine V_aload_nN dX8_thin_51 rfl rfl ?_
      refine V_callVvr (As := [_]) (st := _) (c_X4_keepKeys (kN (zK z)) (zQ z) c _ _ w1 h1 hc a2 (fun n hn => kn_z z c (bN m) n hn)) kX8_194 (by first | exact z0.1.1.1.k _ rfl rfl | exact z0.1.1.1.kc hc | exact (congrFun a1.1 _).trans (z0.1.1.1.k _ rfl rfl) | exact ((congrFun d1.1 _).trans (congrFun a1.1 _)).trans (z0.1.1.1.kc hc)) ⟨rfl, rfl, rfl⟩ ⟨(Nat.le_of_ble_eq_true rfl), (Nat.le_of_ble_eq_true rfl)⟩ dX8_thin_52 rfl rfl (Nat.le_of_ble_eq_true rfl) ⟨(Nat.le_of_ble_eq_true rfl), (Nat.le_of_ble_eq_true rfl)⟩ (fun w2 hw2 => ?_)
      obtain ⟨d1, d2⟩ := hw2
      refine V_iload dX8_thin_55 rfl ?_
      first | refine V_aload_n dX8_thin_57 rfl rfl ?_ | refine V_aload_nN dX8_thin_57 rfl rfl ?_
      refine G_geti (by first | exact z0.1.1.1.k _ rfl rfl | exact z0.1.1.1.kc hc | exact (congrFun a1.1 _).trans (z0.1.1.1.k _ rfl rfl) | exact ((congrFun d1.1 _).trans (congrFun a1.1 _)).trans (z0.1.1.1.kc hc)) fX8_147 dX8_thin_58 (by exact (d2.sz hc).trans (congrArg nI (va_up_self _ _ _))) ?_
      refine V_isub dX8_thin_61 ?_
      refine V_iret rfl dX8_thin_62 (Nat.le_of_ble_eq_true rfl) (Nat.le_of_ble_eq_true rfl) ?_
      have e : oThin z (nI c) m = (nI ((zQ z).1 c) - nI (knF (nxZ z c (bN m)) ((zQ z).1 c)), pQ (pY z (knF (nxZ z c (bN m)) ((zQ z).1 c)) (kyF (nxZ z c (bN m)))) (thinQ (zQ z) c (knF (nxZ z c (bN m)) ((zQ z).1 c)) (kyF (nxZ z c (bN m))))) := by
        unfold oThin
        rw [if_pos ⟨hx, hm⟩, hcN]
      exact ⟨_, rfl, by rw [e]; rfl, by rw [e]; exact (z0.setY a1 a2).setQ d1 d2, (a1.mono (fun a => by unfold pkA clA; omega)).trans (d1.mono (fun a => by unfold cpA clA; omega))⟩
    · refine V_bipush (v := -2) dX8_thin_25 (by decide) ?_
      refine V_iret rfl dX8_thin_27 (Nat.le_of_ble_eq_true rfl) (Nat.le_of_ble_eq_true rfl) ?_
      exact ⟨_, rfl, by unfold oThin; rw [if_neg (fun q => b01_0 c22 q.2)], by unfold oThin; rw [if_neg (fun q => b01_0 c22 q.2)]; exact z0, Keep.refl _ _⟩
  · first | refine V_aload_n dX8_thin_0 rfl rfl ?_ | refine V_aload_nN dX8_thin_0 rfl rfl ?_
    first | refine V_getr (by first | exact z0.1.1.1.k _ rfl rfl | exact z0.1.1.kb hb) fX8_19 dX8_thin_1 (by exact z0.1.1.1.r _ _ rfl) ?_ | refine V_getrN (by first | exact z0.1.1.1.k _ rfl rfl | exact z0.1.1.kb hb) fX8_19 dX8_thin_1 (by exact z0.1.1.1.r _ _ rfl) ?_
    refine V_iload_n dX8_thin_4 rfl rfl ?_
    refine V_callV (As := [_]) (st := _) (c_X2_find_n x w z0.1.1.1 hx) kX8_144 (by first | exact z0.1.1.1.k _ rfl rfl | exact z0.1.1.kb hb) ⟨rfl, rfl, rfl⟩ ⟨(Nat.le_of_ble_eq_true rfl), (Nat.le_of_ble_eq_true rfl)⟩ dX8_thin_5 rfl rfl (Nat.le_of_ble_eq_true rfl) ⟨(Nat.le_of_ble_eq_true rfl), (Nat.le_of_ble_eq_true rfl)⟩ ?_
    first | refine S_astore_n (L' := [(0, _), (2, _), (3, _)]) dX8_thin_8 rfl rfl rfl ?_ | refine S_astore_nN (L' := [(0, _), (2, _), (3, _)]) dX8_thin_8 rfl rfl rfl ?_
    first | refine V_aload_n dX8_thin_9 rfl rfl ?_ | refine V_aload_nN dX8_thin_9 rfl rfl ?_
    refine V_ifnullN (tgt := 25) dX8_thin_10 (by decide) ?_
    refine V_bipush (v := -2) dX8_thin_25 (by decide) ?_
    refine V_iret rfl dX8_thin_27 (Nat.le_of_ble_eq_true rfl) (Nat.le_of_ble_eq_true rfl) ?_
    exact ⟨_, rfl, by unfold oThin; rw [if_neg (fun q => hx q.1)], by unfold oThin; rw [if_neg (fun q => hx q.1)]; exact z0, Keep.refl _ _⟩
