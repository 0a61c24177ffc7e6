/-! Skeleton -/
abbrev boA (a : Nat) : Prop := 300 ≤ a ∧ a < 310
theorem inL_n (x : Int32) {n : Nat} (hn : n < 1000000000) : inL x.toInt64 0 (nI n - 1).toInt64 ↔ 0 ≤ x.toInt ∧ x.toInt < n := by
  unfold inL
  rw [Int32.toInt_toInt64, Int32.toInt_toInt64, nI_m1 hn, show (0 : Int64).toInt = 0 from rfl]
  omega
theorem SkX.keepB {k : Sk} {w w1 : Wd} (h : SkX k w) (g : Keep boA w w1) (e : wI w1 = wI w) : SkX k w1 := by
  refine ⟨h.1.keep g, h.2.1.keep g, h.2.2.1, ?_⟩
  have h4 := h.2.2.2
  unfold RSk0 at h4 ⊢
  rw [e, g.J (a := 21) (by omega)]
  exact h4
theorem RPos.step {k : Sk} {w1 : Wd} {b : Nat} (h : SkX k w1) (hb : b < kN k) (g : RPos k b (wJ w1)) :
    RPos k (b + 1) (wJ (plW w1 (300 + b) (pSt w1 (kRx k) (kRy k) ((kPar k b).map (fun p => 300 + p))) (pEv (pSt w1 (kRx k) (kRy k) ((kPar k b).map (fun p => 300 + p))) (cosF (kTrn k b)) (sinF (kTrn k b)) (nI (kLen k b))))) := by
  have e1 : pSt w1 (kRx k) (kRy k) ((kPar k b).map (fun p => 300 + p)) = pStart k (pos k) b := by
    unfold pStart
    cases hp : kPar k b with
    | none => rfl
    | some p =>
      obtain ⟨-, -, g1, g2, g3, g4⟩ := g p ((h.wf hb).1 p hp)
      show (wJ w1 (300 + p) 10, wJ w1 (300 + p) 11, wJ w1 (300 + p) 12, wJ w1 (300 + p) 13) = pos k p
      rw [g1, g2, g3, g4]
  have e2 : pEv (pStart k (pos k) b) (cosF (kTrn k b)) (sinF (kTrn k b)) (nI (kLen k b)) = pos k b := (pos_eq h.2.2.1 hb).symm
  rw [e1, e2]
  intro i hi
  unfold plW
  by_cases e : i = b
  · subst e
    refine ⟨?_, ?_, ?_, ?_, ?_, ?_⟩
    · rw [rdJ_ne (by decide), rdJ_ne (by decide), rdJ_ne (by decide), rdJ_ne (by decide), rdJ_ne (by decide), rdJ_eq]
    · rw [rdJ_ne (by decide), rdJ_ne (by decide), rdJ_ne (by decide), rdJ_ne (by decide), rdJ_eq]
    · rw [rdJ_ne (by decide), rdJ_ne (by decide), rdJ_ne (by decide), rdJ_eq]
    · rw [rdJ_ne (by decide), rdJ_ne (by decide), rdJ_eq]
    · rw [rdJ_ne (by decide), rdJ_eq]
    · rw [rdJ_eq]
  · have hne : 300 + i ≠ 300 + b := by omega
    simp only [rdJ_nn hne]
    exact g i (by omega)
theorem Keep.plW {w : Wd} {n : Nat} (hn : boA n) (f v : Q4) : Keep boA w (plW w n f v) :=
  (((((Keep.sJ w hn 8 _).trans (Keep.sJ _ hn 9 _)).trans (Keep.sJ _ hn 10 _)).trans (Keep.sJ _ hn 11 _)).trans (Keep.sJ _ hn 12 _)).trans (Keep.sJ _ hn 13 _)
theorem SkX.root {k : Sk} {w : Wd} (h : SkX k w) (x y : Int64) : SkX (kRt k x y) (sJ (sJ w 21 3 x) 21 4 y) := by
  refine ⟨h.1, h.2.1, h.2.2.1, h.2.2.2.1, h.2.2.2.2.1, ?_, rdJ_eq, h.2.2.2.2.2.2.2⟩
  rw [show wJ (sJ (sJ w 21 3 x) 21 4 y) 21 3 = wJ (sJ w 21 3 x) 21 3 from rdJ_ne (by decide)]
  exact rdJ_eq

set_option maxRecDepth 100000 in
theorem c_X6_find_s (k : Sk) (b : Nat) (w : Wd) (h : SkX k w) (hb : b < kN k) : Cc yX6_find mX6_find [.ref 21, .int (nI b)] w (fun r w' => r = some (.ref (300 + b)) ∧ w' = w) := by
  refine Cc.of (by decide) rfl rfl (Nat.le_of_ble_eq_true rfl) (fun X => ?_)
  change V _ X _ 0 [(0, _), (1, _)] [] _ (0, 0)
  refine V_iload_n dX6_find_0 rfl rfl ?_
  refine V_i2l dX6_find_1 ?_
  refine V_lconst (v := 0) dX6_find_2 (by decide) ?_
  first | refine V_aload_n dX6_find_3 rfl rfl ?_ | refine V_aload_nN dX6_find_3 rfl rfl ?_
  refine G_geti (by first | exact h.1.k _ rfl rfl | exact h.kb hb) fX6_21 dX6_find_4 (by exact h.size) ?_
  refine V_iconst (v := 1) dX6_find_7 (by decide) ?_
  refine V_isub dX6_find_8 ?_
  refine V_i2l dX6_find_9 ?_
  refine V_callSN (As := [_, _, _]) (st := _) (c_X8_isIn _ _ _ _) kX6_24 ⟨rfl, rfl, rfl⟩ ⟨(Nat.le_of_ble_eq_true rfl), (Nat.le_of_ble_eq_true rfl)⟩ dX6_find_10 rfl rfl (Nat.le_of_ble_eq_true rfl) ⟨(Nat.le_of_ble_eq_true rfl), (Nat.le_of_ble_eq_true rfl)⟩ ?_
  refine V_if_eq (tgt := 25) dX6_find_13 (by decide) (fun c13 => False.elim (by exact b01_0 c13 ((inL_n _ (by have := h.n10; omega)).mpr (by have := h.n10; rw [nI_toInt (by omega)]; omega)))) (fun c13 => ?_)
  first | refine V_aload_n dX6_find_16 rfl rfl ?_ | refine V_aload_nN dX6_find_16 rfl rfl ?_
  first | refine V_getr (by first | exact h.1.k _ rfl rfl | exact h.kb hb) fX6_11 dX6_find_17 (by first | exact h.1.r _ _ rfl | exact h.rb hb) ?_ | refine V_getrN (by first | exact h.1.k _ rfl rfl | exact h.kb hb) fX6_11 dX6_find_17 (by first | exact h.1.r _ _ rfl | exact h.rb hb) ?_
  refine V_iload_n dX6_find_20 rfl rfl ?_
  refine G_aald14 (j := b) (by first | exact h.1.k _ rfl rfl | exact h.kb hb) (by rfl) (by rw [h.1.n 26 rfl rfl]; show b < 10; have := h.n10; omega) (by rw [h.1.n 26 rfl rfl]; decide) (by first | exact h.1.r _ _ rfl | exact h.rb hb) dX6_find_21 ?_
  refine V_goto (tgt := 26) dX6_find_22 (by decide) ?_
  refine V_aret rfl (Or.inl ⟨_, rfl⟩) dX6_find_26 (Nat.le_of_ble_eq_true rfl) (Nat.le_of_ble_eq_true rfl) (by first | exact Or.inr ⟨_, rfl⟩ | exact Or.inl rfl) ?_
  exact ⟨rfl, rfl⟩

set_option maxRecDepth 100000 in
theorem c_X6_find_n (k : Sk) (x : Int32) (w : Wd) (h : SkX k w) (hx : ¬ (0 ≤ x.toInt ∧ x.toInt < kN k)) : Cc yX6_find mX6_find [.ref 21, .int x] w (fun r w' => r = some .null ∧ w' = w) := by
  refine Cc.of (by decide) rfl rfl (Nat.le_of_ble_eq_true rfl) (fun X => ?_)
  change V _ X _ 0 [(0, _), (1, _)] [] _ (0, 0)
  refine V_iload_n dX6_find_0 rfl rfl ?_
  refine V_i2l dX6_find_1 ?_
  refine V_lconst (v := 0) dX6_find_2 (by decide) ?_
  first | refine V_aload_n dX6_find_3 rfl rfl ?_ | refine V_aload_nN dX6_find_3 rfl rfl ?_
  refine G_geti (by first | exact h.1.k _ rfl rfl | exact h.kb hb) fX6_21 dX6_find_4 (by exact h.size) ?_
  refine V_iconst (v := 1) dX6_find_7 (by decide) ?_
  refine V_isub dX6_find_8 ?_
  refine V_i2l dX6_find_9 ?_
  refine V_callSN (As := [_, _, _]) (st := _) (c_X8_isIn _ _ _ _) kX6_24 ⟨rfl, rfl, rfl⟩ ⟨(Nat.le_of_ble_eq_true rfl), (Nat.le_of_ble_eq_true rfl)⟩ dX6_find_10 rfl rfl (Nat.le_of_ble_eq_true rfl) ⟨(Nat.le_of_ble_eq_true rfl), (Nat.le_of_ble_eq_true rfl)⟩ ?_
  refine V_if_eq (tgt := 25) dX6_find_13 (by decide) (fun c13 => ?_) (fun c13 => False.elim (by exact hx ((inL_n _ (by have := h.n10; omega)).mp (b01_1 c13))))
  refine V_null dX6_find_25 ?_
  refine V_aret rfl (Or.inl ⟨_, rfl⟩) dX6_find_26 (Nat.le_of_ble_eq_true rfl) (Nat.le_of_ble_eq_true rfl) (by first | exact Or.inr ⟨_, rfl⟩ | exact Or.inl rfl) ?_
  exact ⟨rfl, rfl⟩

set_option maxRecDepth 100000 in
theorem c_X6_place (k : Sk) (w : Wd) (h : SkX k w) : Cc yX6_place mX6_place [.ref 21] w (fun r w' => r = none ∧ Keep boA w w' ∧ wI w' = wI w ∧ SkP k w') := by
  refine Cc.of (by decide) rfl rfl (Nat.le_of_ble_eq_true rfl) (fun X => ?_)
  change V _ X _ 0 [(0, _)] [] _ (0, 0)
  have loop : ∀ (d b : Nat) (w1 : Wd), b + d = kN k → Keep boA w w1 → wI w1 = wI w → RPos k b (wJ w1) → V mX6_place X (mq mX6_place X (fun r w' => r = none ∧ Keep boA w w' ∧ wI w' = wI w ∧ SkP k w')) 2 [(0, .ref 21), (1, .int (nI b))] [] w1 (0, 0) := by
    intro d
    induction d with
    | zero =>
      intro b w1 hd g1 g2 g3
      have h1 : SkX k w1 := h.keepB g1 g2
      obtain rfl : b = kN k := hd
      refine V_iload_n dX6_place_2 rfl rfl ?_
      first | refine V_aload_n dX6_place_3 rfl rfl ?_ | refine V_aload_nN dX6_place_3 rfl rfl ?_
      refine G_geti (by first | exact h1.1.k _ rfl rfl | exact h1.kb hb) fX6_21 dX6_place_4 (by first | exact h1.size | exact h1.rx | exact h1.ry) ?_
      refine V_icmp_ge (tgt := 33) dX6_place_7 (by decide) (fun c7 => ?_) (fun c7 => False.elim (by exact c7 (nI_le (Nat.le_refl _) (by have := h.n10; omega))))
      refine V_vret rfl dX6_place_33 (Nat.le_of_ble_eq_true rfl) (Nat.le_of_ble_eq_true rfl) ?_
      exact ⟨rfl, g1, g2, h1, g3⟩
    | succ d ih =>
      intro b w1 hd g1 g2 g3
      have h1 : SkX k w1 := h.keepB g1 g2
      have hb : b < kN k := by omega
      refine V_iload_n dX6_place_2 rfl rfl ?_
      first | refine V_aload_n dX6_place_3 rfl rfl ?_ | refine V_aload_nN dX6_place_3 rfl rfl ?_
      refine G_geti (by first | exact h1.1.k _ rfl rfl | exact h1.kb hb) fX6_21 dX6_place_4 (by first | exact h1.size | exact h1.rx | exact h1.ry) ?_
      refine V_icmp_ge (tgt := 33) dX6_place_7 (by decide) (fun c7 => False.elim (by exact nI_ge (a := b) (b := kN k) (by omega) (by have := h.n10; omega) c7)) (fun c7 => ?_)
      first | refine V_aload_n dX6_place_10 rfl rfl ?_ | refine V_aload_nN dX6_place_10 rfl rfl ?_
      first | refine V_getr (by first | exact h1.1.k _ rfl rfl | exact h1.kb hb) fX6_11 dX6_place_11 (by first | exact h1.1.r _ _ rfl | exact h1.rb hb) ?_ | refine V_getrN (by first | exact h1.1.k _ rfl rfl | exact h1.kb hb) fX6_11 dX6_place_11 (by first | exact h1.1.r _ _ rfl | exact h1.rb hb) ?_
      refine V_iload_n dX6_place_14 rfl rfl ?_
      refine G_aald14 (j := b) (by first | exact h1.1.k _ rfl rfl | exact h1.kb hb) (by rfl) (by rw [h1.1.n 26 rfl rfl]; show b < 10; have := h1.n10; omega) (by rw [h1.1.n 26 rfl rfl]; decide) (by first | exact h1.1.r _ _ rfl | exact h1.rb hb) dX6_place_15 ?_
      first | refine V_aload_n dX6_place_16 rfl rfl ?_ | refine V_aload_nN dX6_place_16 rfl rfl ?_
      refine G_getl (by first | exact h1.1.k _ rfl rfl | exact h1.kb hb) fX6_28 dX6_place_17 (by first | exact h1.size | exact h1.rx | exact h1.ry) ?_
      first | refine V_aload_n dX6_place_20 rfl rfl ?_ | refine V_aload_nN dX6_place_20 rfl rfl ?_
      refine G_getl (by first | exact h1.1.k _ rfl rfl | exact h1.kb hb) fX6_32 dX6_place_21 (by first | exact h1.size | exact h1.rx | exact h1.ry) ?_
      refine V_callVv (As := [_, _]) (st := _) (c_X0_place (300 + b) _ _ _ (kTrn k b) (kLen k b) w1 (h1.kb hb) (h1.pb hb) (fun q hq => by obtain ⟨p, hp, rfl⟩ := Option.map_eq_some_iff.mp hq; have h9 := (h1.wf hb).1 p hp; exact ⟨h1.kb (by omega), by omega⟩) (h1.bone hb).2.2.2.2.2.2 (h1.wf hb).2.2.2.2.2.2 (h1.bone hb).2.2.1) kX6_35 (by first | exact h1.1.k _ rfl rfl | exact h1.kb hb) ⟨rfl, rfl, rfl⟩ ⟨(Nat.le_of_ble_eq_true rfl), (Nat.le_of_ble_eq_true rfl)⟩ dX6_place_24 rfl rfl (Nat.le_of_ble_eq_true rfl) ⟨(Nat.le_of_ble_eq_true rfl), (Nat.le_of_ble_eq_true rfl)⟩ ?_
      refine S_iinc (L' := [(0, _), (1, _)]) dX6_place_27 rfl rfl rfl rfl ?_
      rw [nI_inc]
      refine V_goto (tgt := 2) dX6_place_30 (by decide) ?_
      exact ih (b + 1) _ (by omega) (g1.trans (Keep.plW (by have := h.n10; unfold boA; omega) _ _)) g2 (RPos.step h1 hb g3)
  refine V_iconst (v := 0) dX6_place_0 (by decide) ?_
  refine S_istore_n (L' := [(0, _), (1, _)]) dX6_place_1 rfl rfl rfl ?_
  exact loop (kN k) 0 w (by omega) (Keep.refl _ _) rfl (fun _ q => absurd q (Nat.not_lt_zero _))

set_option maxRecDepth 100000 in
theorem c_X6_settle (k : Sk) (ox oy : Int64) (w : Wd) (h : SkX k w) (ho : ∀ b, kLck k = some b → wJ w (300 + b) 12 = ox ∧ wJ w (300 + b) 13 = oy) : Cc yX6_settle mX6_settle [.ref 21] w (fun r w' => r = none ∧ Keep skA w w' ∧ wI w' = wI w ∧ SkP (stl k ox oy) w') := by
  refine Cc.of (by decide) rfl rfl (Nat.le_of_ble_eq_true rfl) (fun X => ?_)
  change V _ X _ 0 [(0, _)] [] _ (0, 0)
  cases hk : kLck k with
  | none =>
    first | refine V_aload_n dX6_settle_0 rfl rfl ?_ | refine V_aload_nN dX6_settle_0 rfl rfl ?_
    first | refine V_aload_n dX6_settle_1 rfl rfl ?_ | refine V_aload_nN dX6_settle_1 rfl rfl ?_
    refine G_geti (by exact h.1.k _ rfl rfl) fX6_17 dX6_settle_2 (by exact h.lck) ?_
    refine V_callV (As := [_]) (st := _) (c_X6_find_n k _ w h (by rw [hk]; show ¬ (0 ≤ (-1 : Int) ∧ _); omega)) kX6_41 (by exact h.1.k _ rfl rfl) ⟨rfl, rfl, rfl⟩ ⟨(Nat.le_of_ble_eq_true rfl), (Nat.le_of_ble_eq_true rfl)⟩ dX6_settle_5 rfl rfl (Nat.le_of_ble_eq_true rfl) ⟨(Nat.le_of_ble_eq_true rfl), (Nat.le_of_ble_eq_true rfl)⟩ ?_
    first | refine S_astore_n (L' := [(0, _), (1, _)]) dX6_settle_8 rfl rfl rfl ?_ | refine S_astore_nN (L' := [(0, _), (1, _)]) dX6_settle_8 rfl rfl rfl ?_
    first | refine V_aload_n dX6_settle_9 rfl rfl ?_ | refine V_aload_nN dX6_settle_9 rfl rfl ?_
    refine V_ifnonnullN dX6_settle_10 ?_
    first | refine V_aload_n dX6_settle_13 rfl rfl ?_ | refine V_aload_nN dX6_settle_13 rfl rfl ?_
    refine V_callVvr (As := []) (st := _) (c_X6_place k w h) kX6_39 (by exact h.1.k _ rfl rfl) ⟨rfl, rfl, rfl⟩ ⟨(Nat.le_of_ble_eq_true rfl), (Nat.le_of_ble_eq_true rfl)⟩ dX6_settle_14 rfl rfl (Nat.le_of_ble_eq_true rfl) ⟨(Nat.le_of_ble_eq_true rfl), (Nat.le_of_ble_eq_true rfl)⟩ (fun w1 hw1 => ?_)
    obtain ⟨a1, a2, a3⟩ := hw1
    refine V_vret rfl dX6_settle_17 (Nat.le_of_ble_eq_true rfl) (Nat.le_of_ble_eq_true rfl) ?_
    exact ⟨rfl, a1.mono (fun _ q => Or.inr q), a2, by unfold stl; rw [hk]; exact a3⟩
  | some b =>
    have hb : b < kN k := h.2.2.1.2.2 b hk
    first | refine V_aload_n dX6_settle_0 rfl rfl ?_ | refine V_aload_nN dX6_settle_0 rfl rfl ?_
    first | refine V_aload_n dX6_settle_1 rfl rfl ?_ | refine V_aload_nN dX6_settle_1 rfl rfl ?_
    refine G_geti (by first | exact h.1.k _ rfl rfl | exact h.kb hb) fX6_17 dX6_settle_2 (by exact (h.lck.trans (congrArg oI hk) : _ = nI b)) ?_
    refine V_callV (As := [_]) (st := _) (c_X6_find_s k b w h hb) kX6_41 (by first | exact h.1.k _ rfl rfl | exact h.kb hb) ⟨rfl, rfl, rfl⟩ ⟨(Nat.le_of_ble_eq_true rfl), (Nat.le_of_ble_eq_true rfl)⟩ dX6_settle_5 rfl rfl (Nat.le_of_ble_eq_true rfl) ⟨(Nat.le_of_ble_eq_true rfl), (Nat.le_of_ble_eq_true rfl)⟩ ?_
    first | refine S_astore_n (L' := [(0, _), (1, _)]) dX6_settle_8 rfl rfl rfl ?_ | refine S_astore_nN (L' := [(0, _), (1, _)]) dX6_settle_8 rfl rfl rfl ?_
    first | refine V_aload_n dX6_settle_9 rfl rfl ?_ | refine V_aload_nN dX6_settle_9 rfl rfl ?_
    refine V_ifnonnull (tgt := 18) dX6_settle_10 (by decide) ?_
    first | refine V_aload_n dX6_settle_18 rfl rfl ?_ | refine V_aload_nN dX6_settle_18 rfl rfl ?_
    refine G_getl (by first | exact h.1.k _ rfl rfl | exact h.kb hb) fX6_45 dX6_settle_19 (by exact (ho b hk).1) ?_
    refine S_lstore_n (L' := [(0, _), (1, _), (2, _)]) dX6_settle_22 rfl rfl rfl ?_
    first | refine V_aload_n dX6_settle_23 rfl rfl ?_ | refine V_aload_nN dX6_settle_23 rfl rfl ?_
    refine G_getl (by first | exact h.1.k _ rfl rfl | exact h.kb hb) fX6_48 dX6_settle_24 (by exact (ho b hk).2) ?_
    refine S_lstore (L' := [(0, _), (1, _), (2, _), (4, _)]) dX6_settle_27 rfl rfl ?_
    first | refine V_aload_n dX6_settle_29 rfl rfl ?_ | refine V_aload_nN dX6_settle_29 rfl rfl ?_
    refine V_callVvr (As := []) (st := _) (c_X6_place k w h) kX6_39 (by exact h.1.k _ rfl rfl) ⟨rfl, rfl, rfl⟩ ⟨(Nat.le_of_ble_eq_true rfl), (Nat.le_of_ble_eq_true rfl)⟩ dX6_settle_30 rfl rfl (Nat.le_of_ble_eq_true rfl) ⟨(Nat.le_of_ble_eq_true rfl), (Nat.le_of_ble_eq_true rfl)⟩ (fun w1 hw1 => ?_)
    obtain ⟨a1, a2, a3⟩ := hw1
    first | refine V_aload_n dX6_settle_33 rfl rfl ?_ | refine V_aload_nN dX6_settle_33 rfl rfl ?_
    refine V_dup dX6_settle_34 rfl ?_
    refine G_getl (by exact a3.1.1.k _ rfl rfl) fX6_28 dX6_settle_35 (by exact a3.1.rx) ?_
    refine V_lload_n dX6_settle_38 rfl rfl ?_
    first | refine V_aload_n dX6_settle_39 rfl rfl ?_ | refine V_aload_nN dX6_settle_39 rfl rfl ?_
    refine G_getl (by exact a3.1.kb hb) fX6_45 dX6_settle_40 (by exact (a3.2 b hb).2.2.2.2.1) ?_
    refine V_lsub dX6_settle_43 ?_
    refine V_ladd dX6_settle_44 ?_
    refine V_putl (by exact a3.1.1.k _ rfl rfl) pfX6_28 (fun h => nomatch h) dX6_settle_45 ?_
    first | refine V_aload_n dX6_settle_48 rfl rfl ?_ | refine V_aload_nN dX6_settle_48 rfl rfl ?_
    refine V_dup dX6_settle_49 rfl ?_
    refine G_getl (by exact a3.1.1.k _ rfl rfl) fX6_32 dX6_settle_50 (by exact (rdJ_ne (by decide)).trans a3.1.ry) ?_
    refine V_lload dX6_settle_53 rfl ?_
    first | refine V_aload_n dX6_settle_55 rfl rfl ?_ | refine V_aload_nN dX6_settle_55 rfl rfl ?_
    refine G_getl (by exact a3.1.kb hb) fX6_48 dX6_settle_56 (by exact (rdJ_ne (by decide)).trans (a3.2 b hb).2.2.2.2.2) ?_
    refine V_lsub dX6_settle_59 ?_
    refine V_ladd dX6_settle_60 ?_
    refine V_putl (by exact a3.1.1.k _ rfl rfl) pfX6_32 (fun h => nomatch h) dX6_settle_61 ?_
    have h2 := SkX.root a3.1 (kRx k + (ox - (pos k b).2.2.1)) (kRy k + (oy - (pos k b).2.2.2))
    first | refine V_aload_n dX6_settle_64 rfl rfl ?_ | refine V_aload_nN dX6_settle_64 rfl rfl ?_
    refine V_callVvr (As := []) (st := _) (c_X6_place _ _ h2) kX6_39 (by exact a3.1.1.k _ rfl rfl) ⟨rfl, rfl, rfl⟩ ⟨(Nat.le_of_ble_eq_true rfl), (Nat.le_of_ble_eq_true rfl)⟩ dX6_settle_65 rfl rfl (Nat.le_of_ble_eq_true rfl) ⟨(Nat.le_of_ble_eq_true rfl), (Nat.le_of_ble_eq_true rfl)⟩ (fun w3 hw3 => ?_)
    obtain ⟨b1, b2, b3⟩ := hw3
    refine V_vret rfl dX6_settle_68 (Nat.le_of_ble_eq_true rfl) (Nat.le_of_ble_eq_true rfl) ?_
    exact ⟨rfl, ((a1.mono (fun _ q => Or.inr q)).trans ((Keep.sJ w1 (Or.inl rfl) 3 _).trans (Keep.sJ _ (Or.inl rfl) 4 _))).trans (b1.mono (fun _ q => Or.inr q)), b2.trans a2, by unfold stl; rw [hk]; exact b3⟩

set_option maxRecDepth 100000 in
theorem c_X6_moveRoot (k : Sk) (x y : Int64) (w : Wd) (h : SkX k w) : Cc yX6_moveRoot mX6_moveRoot [.ref 21, .long x, .long y] w (fun r w' => r = none ∧ Keep skA w w' ∧ wI w' = wI w ∧ SkP (kRt k x y) w') := by
  refine Cc.of (by decide) rfl rfl (Nat.le_of_ble_eq_true rfl) (fun X => ?_)
  change V _ X _ 0 [(0, _), (1, _), (3, _)] [] _ (0, 0)
  first | refine V_aload_n dX6_moveRoot_0 rfl rfl ?_ | refine V_aload_nN dX6_moveRoot_0 rfl rfl ?_
  refine V_lload_n dX6_moveRoot_1 rfl rfl ?_
  refine V_putl (by exact h.1.k _ rfl rfl) pfX6_28 (fun h => nomatch h) dX6_moveRoot_2 ?_
  first | refine V_aload_n dX6_moveRoot_5 rfl rfl ?_ | refine V_aload_nN dX6_moveRoot_5 rfl rfl ?_
  refine V_lload_n dX6_moveRoot_6 rfl rfl ?_
  refine V_putl (by exact h.1.k _ rfl rfl) pfX6_32 (fun h => nomatch h) dX6_moveRoot_7 ?_
  first | refine V_aload_n dX6_moveRoot_10 rfl rfl ?_ | refine V_aload_nN dX6_moveRoot_10 rfl rfl ?_
  refine V_callVvr (As := []) (st := _) (c_X6_place _ _ (h.root x y)) kX6_39 (by exact h.1.k _ rfl rfl) ⟨rfl, rfl, rfl⟩ ⟨(Nat.le_of_ble_eq_true rfl), (Nat.le_of_ble_eq_true rfl)⟩ dX6_moveRoot_11 rfl rfl (Nat.le_of_ble_eq_true rfl) ⟨(Nat.le_of_ble_eq_true rfl), (Nat.le_of_ble_eq_true rfl)⟩ (fun w1 hw1 => ?_)
  obtain ⟨a1, a2, a3⟩ := hw1
  refine V_vret rfl dX6_moveRoot_14 (Nat.le_of_ble_eq_true rfl) (Nat.le_of_ble_eq_true rfl) ?_
  exact ⟨rfl, ((Keep.sJ w (Or.inl rfl) 3 _).trans (Keep.sJ _ (Or.inl rfl) 4 _)).trans (a1.mono (fun _ q => Or.inr q)), a2, a3⟩
