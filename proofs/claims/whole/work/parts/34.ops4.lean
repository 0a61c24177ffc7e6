/-! BoneSteps: the graph -/
/-- walks of n steps to g, and their costs -/
def wkN (E : Nat → Nat → Option Nat) (g : Nat) : Nat → Nat → Nat → Prop
  | 0, v, d => v = g ∧ d = 0
  | n + 1, v, d => ∃ u c e, E v u = some c ∧ wkN E g n u e ∧ d = c + e
theorem leastE {p : Nat → Prop} : ∀ d, p d → ∃ m, p m ∧ ∀ e, p e → m ≤ e := by
  intro d
  induction d using Nat.strongRecOn with
  | ind d ih =>
    intro hd
    by_cases h : ∃ e, e < d ∧ p e
    · obtain ⟨e, h1, h2⟩ := h
      exact ih e h1 h2
    · exact ⟨d, hd, fun e he => Nat.le_of_not_lt (fun q => h ⟨e, q, he⟩)⟩
theorem BE_ex (E : Nat → Nat → Option Nat) (g : Nat) : ∃ D, BE E g D := by
  have key : ∀ v, ∃ o : Option Nat, (∀ d, o = some d → (∃ n, wkN E g n v d) ∧ ∀ e, (∃ n, wkN E g n v e) → d ≤ e) ∧ ((∃ e n, wkN E g n v e) → ∃ d, o = some d) := by
    intro v
    by_cases h : ∃ e n, wkN E g n v e
    · obtain ⟨e, he⟩ := h
      obtain ⟨m, h1, h2⟩ := leastE (p := fun e => ∃ n, wkN E g n v e) e he
      exact ⟨some m, fun d hd => by cases hd; exact ⟨h1, h2⟩, fun _ => ⟨m, rfl⟩⟩
    · exact ⟨none, fun d hd => (by cases hd), fun q => absurd q h⟩
  have k1 : ∀ v, _ := fun v => (Classical.choose_spec (key v)).1
  have k2 : ∀ v, _ := fun v => (Classical.choose_spec (key v)).2
  refine ⟨fun v => Classical.choose (key v), ?_, fun v u c d hv hE hD => ?_, fun v e hv hD => ?_⟩
  · obtain ⟨d, hd⟩ := k2 g ⟨0, 0, rfl, rfl⟩
    have h2 := (k1 g d hd).2 0 ⟨0, rfl, rfl⟩
    have e : d = 0 := by omega
    subst e
    exact hd
  · obtain ⟨⟨n, h1⟩, -⟩ := k1 u d hD
    have h3 : ∃ n, wkN E g n v (c + d) := ⟨n + 1, u, c, d, hE, h1, rfl⟩
    obtain ⟨e, he⟩ := k2 v ⟨_, h3⟩
    exact ⟨e, he, (k1 v e he).2 _ h3⟩
  · obtain ⟨⟨n, h1⟩, h2⟩ := k1 v e hD
    cases n with
    | zero => exact absurd h1.1 hv
    | succ n =>
      obtain ⟨u, c, d, h3, h4, h5⟩ := h1
      obtain ⟨d', hd'⟩ := k2 u ⟨d, n, h4⟩
      have h6 := (k1 u d' hd').2 d ⟨n, h4⟩
      obtain ⟨⟨n', h7⟩, -⟩ := k1 u d' hd'
      have h8 := h2 (c + d') ⟨n' + 1, u, c, d', h3, h7, rfl⟩
      exact ⟨u, c, d', h3, hd', by omega⟩
theorem pnG_some (F : Nat → Option Nat) (a g : Nat) : ∀ d n, (∀ i, i < n → ∃ v, sqF F a g i = some v) → ∀ i, i < pnG F a g d n → ∃ v, sqF F a g i = some v
  | 0, _, h, i, hi => h i hi
  | d + 1, n, h, i, hi => by
    rw [pnG] at hi
    split at hi
    · exact h i hi
    · rename_i v hv
      refine pnG_some F a g d (n + 1) (fun j hj => ?_) i hi
      by_cases e : j = n
      · subst e
        exact ⟨v, hv⟩
      · exact h j (by omega)
theorem wpN_some (E : Nat → Nat → Option Nat) (D : Nat → Option Nat) (a g i : Nat) (hi : i < wpN E D a g) : ∃ v, sqF (nxD E D) a g i = some v := by
  unfold wpN at hi
  split at hi
  · omega
  · exact pnG_some _ a g 180 0 (fun j hj => by omega) i hi
/-- how many frames of the clip are live -/
def lvN (q : Cp) (nb jn c : Nat) : Nat := match ljC q nb jn c with
  | none => 0
  | some f => f + 1
theorem oI_s1 (q : Cp) (nb jn c : Nat) : oI (ljC q nb jn c) + 1 = nI (lvN q nb jn c) := by
  unfold lvN
  cases ljC q nb jn c with
  | none => rfl
  | some f => exact nI_1 f
def oJoin (z : St) (x : Int32) : Int32 × St := if 0 ≤ x.toInt ∧ x.toInt ≤ 100 then (nI (zJ z), pG z (bN x, zW z, zP z, zS z)) else (-2, z)
def oLive (z : St) : Int32 := nI (sumN (lvN (zQ z) (kN (zK z)) (zJ z)) 6)
def oIsLive (z : St) (x y : Int32) : Int32 := if isFr z x y then (if bN y < lvN (zQ z) (kN (zK z)) (zJ z) (bN x) then 1 else 0) else -2
def egZ (z : St) : Nat → Nat → Option Nat := eg (zQ z) (kN (zK z)) (zJ z)
/-- D: what BE asks for -/
def oWalk (z : St) (D : Nat → Option Nat) (x y u v : Int32) : Int32 × St := if isFr z x y ∧ isFr z u v then (oI (D (30 * bN x + bN y)), pG z (zJ z, D (30 * bN x + bN y), wpN (egZ z) D (30 * bN x + bN y) (30 * bN u + bN v), sqF (nxD (egZ z) D) (30 * bN x + bN y) (30 * bN u + bN v))) else (-2, z)
def oStep (z : St) (x : Int32) : Int32 := if 0 ≤ x.toInt ∧ x.toInt < zP z then oI (zS z (bN x)) else -2
theorem ljN_lt (p : Nat → Bool) : ∀ n m, ljN p n = some m → m < n
  | 0, m, h => by cases h
  | n + 1, m, h => by
    rw [ljN] at h
    split at h
    · cases h; omega
    · have := ljN_lt p n m h; omega
theorem lvN_le (q : Cp) (nb jn c : Nat) : lvN q nb jn c ≤ 30 := by
  unfold lvN
  cases h : ljC q nb jn c with
  | none => exact Nat.zero_le _
  | some f => exact ljN_lt _ 30 f h
theorem f_live {q : Cp} {nb jn c f : Nat} (hf : f < 30) : oI (ljC q nb jn c) < nI f ↔ ¬ f < lvN q nb jn c := by
  unfold lvN
  cases h : ljC q nb jn c with
  | none =>
    show (-1 : Int32) < nI f ↔ _
    rw [Int32.lt_iff_toInt_lt, nI_toInt (by omega)]
    show (-1 : Int) < f ↔ ¬ f < 0
    omega
  | some m =>
    have := ljN_lt _ 30 m h
    show nI m < nI f ↔ _
    rw [nI_ltI (by omega) (by omega)]
    show m < f ↔ ¬ f < m + 1
    omega

set_option maxRecDepth 100000 in
theorem c_X8_join (z : St) (x : Int32) (w : Wd) (z0 : RX z w) : Cc yX8_join mX8_join [.ref 20, .int x] w (fun r w' => ∃ v, r = some v ∧ (v = .int (oJoin z x).1 ∧ RX (oJoin z x).2 w' ∧ Keep clA w w')) := by
  refine Cc.of (by decide) rfl rfl (Nat.le_of_ble_eq_true rfl) (fun X => ?_)
  change V _ X _ 0 [(0, _), (1, _)] [] _ (0, 0)
  refine V_iload_n dX8_join_0 rfl rfl ?_
  refine V_i2l dX8_join_1 ?_
  refine V_lconst (v := 0) dX8_join_2 (by decide) ?_
  refine V_ldc2 ctX8_52 dX8_join_3 ?_
  refine V_callS (As := [_, _, _]) (st := _) (isIn_c x 100 _ rfl w) kX8_54 ⟨rfl, rfl, rfl⟩ ⟨(Nat.le_of_ble_eq_true rfl), (Nat.le_of_ble_eq_true rfl)⟩ dX8_join_6 rfl rfl (Nat.le_of_ble_eq_true rfl) ⟨(Nat.le_of_ble_eq_true rfl), (Nat.le_of_ble_eq_true rfl)⟩ ?_
  refine V_if_ne (tgt := 15) dX8_join_9 (by decide) (fun c9 => ?_) (fun c9 => ?_)
  · first | refine V_aload_n dX8_join_15 rfl rfl ?_ | refine V_aload_nN dX8_join_15 rfl rfl ?_
    first | refine V_getr (by first | exact z0.1.1.1.k _ rfl rfl | exact z0.1.1.kb hb) fX8_33 dX8_join_16 (by exact z0.1.1.1.r _ _ rfl) ?_ | refine V_getrN (by first | exact z0.1.1.1.k _ rfl rfl | exact z0.1.1.kb hb) fX8_33 dX8_join_16 (by exact z0.1.1.1.r _ _ rfl) ?_
    refine G_geti (by first | exact z0.1.1.1.k _ rfl rfl | exact z0.1.1.kb hb) fX8_198 dX8_join_19 (by exact z0.2.2.2.1.1) ?_
    refine S_istore_n (L' := [(0, _), (1, _), (2, _)]) dX8_join_22 rfl rfl rfl ?_
    first | refine V_aload_n dX8_join_23 rfl rfl ?_ | refine V_aload_nN dX8_join_23 rfl rfl ?_
    first | refine V_getr (by first | exact z0.1.1.1.k _ rfl rfl | exact z0.1.1.kb hb) fX8_33 dX8_join_24 (by exact z0.1.1.1.r _ _ rfl) ?_ | refine V_getrN (by first | exact z0.1.1.1.k _ rfl rfl | exact z0.1.1.kb hb) fX8_33 dX8_join_24 (by exact z0.1.1.1.r _ _ rfl) ?_
    refine V_iload_n dX8_join_27 rfl rfl ?_
    refine V_puti (by first | exact z0.1.1.1.k _ rfl rfl | exact z0.1.1.kb hb) pfX8_198 (fun h => nomatch h) dX8_join_28 ⟨rfl, rfl⟩ ?_
    refine V_iload_n dX8_join_31 rfl rfl ?_
    refine V_iret rfl dX8_join_32 (Nat.le_of_ble_eq_true rfl) (Nat.le_of_ble_eq_true rfl) ?_
    have hx := b01_1 c9
    have e : oJoin z x = (nI (zJ z), pG z (bN x, zW z, zP z, zS z)) := by
      unfold oJoin
      rw [if_pos hx]
    have hr : RGr (bN x, zW z, zP z, zS z) (wI (sI w 24 0 x)) := ⟨rdI_eq.trans (i32_nat hx.1), by show bN x ≤ 100; unfold bN; omega, (rdI_ne (by decide)).trans z0.2.2.2.1.2.2.1, ⟨(rdI_ne (by decide)).trans z0.2.2.2.1.2.2.2.1.1, z0.2.2.2.1.2.2.2.1.2.1, fun n v h1 h2 => (rdI_nn (by decide)).trans (z0.2.2.2.1.2.2.2.1.2.2 n v h1 h2)⟩, z0.2.2.2.1.2.2.2.2⟩
    exact ⟨_, rfl, by rw [e]; rfl, by rw [e]; exact z0.setG (Keep.sI w (by unfold grA; omega) 0 _) hr, Keep.sI w (by unfold clA; omega) 0 _⟩
  · refine V_bipush (v := -2) dX8_join_12 (by decide) ?_
    refine V_iret rfl dX8_join_14 (Nat.le_of_ble_eq_true rfl) (Nat.le_of_ble_eq_true rfl) ?_
    exact ⟨_, rfl, by unfold oJoin; rw [if_neg (b01_0 c9)], by unfold oJoin; rw [if_neg (b01_0 c9)]; exact z0, Keep.refl _ _⟩

set_option maxRecDepth 100000 in
theorem c_X8_live (z : St)  (w : Wd) (z0 : RX z w) : Cc yX8_live mX8_live [.ref 20] w (fun r w' => r = some (.int (oLive z)) ∧ w' = w) := by
  refine Cc.of (by decide) rfl rfl (Nat.le_of_ble_eq_true rfl) (fun X => ?_)
  change V _ X _ 0 [(0, _)] [] _ (0, 0)
  have loop : ∀ (d c : Nat), c + d = 6 → V mX8_live X (mq mX8_live X (fun r w' => r = some (.int (oLive z)) ∧ w' = w)) 4 [(0, .ref 20), (1, .int (nI (sumN (lvN (zQ z) (kN (zK z)) (zJ z)) c))), (2, .int (nI c))] [] w (0, 0) := by
    intro d
    induction d with
    | zero =>
      intro c hd
      obtain rfl : c = 6 := hd
      refine V_iload_n dX8_live_4 rfl rfl ?_
      refine V_bipush (v := 6) dX8_live_5 (by decide) ?_
      refine V_icmp_ge (tgt := 33) dX8_live_7 (by decide) (fun c7 => ?_) (fun c7 => False.elim (by exact c7 (by decide)))
      refine V_iload_n dX8_live_33 rfl rfl ?_
      refine V_iret rfl dX8_live_34 (Nat.le_of_ble_eq_true rfl) (Nat.le_of_ble_eq_true rfl) ?_
      exact ⟨rfl, rfl⟩
    | succ d ih =>
      intro c hd
      have hc : c < 6 := by omega
      refine V_iload_n dX8_live_4 rfl rfl ?_
      refine V_bipush (v := 6) dX8_live_5 (by decide) ?_
      refine V_icmp_ge (tgt := 33) dX8_live_7 (by decide) (fun c7 => False.elim (by exact nI_ge (a := c) (b := 6) (by omega) (by decide) c7)) (fun c7 => ?_)
      refine V_iload_n dX8_live_10 rfl rfl ?_
      first | refine V_aload_n dX8_live_11 rfl rfl ?_ | refine V_aload_nN dX8_live_11 rfl rfl ?_
      first | refine V_getr (by first | exact z0.1.1.1.k _ rfl rfl | exact z0.1.1.kb hb) fX8_33 dX8_live_12 (by exact z0.1.1.1.r _ _ rfl) ?_ | refine V_getrN (by first | exact z0.1.1.1.k _ rfl rfl | exact z0.1.1.kb hb) fX8_33 dX8_live_12 (by exact z0.1.1.1.r _ _ rfl) ?_
      first | refine V_aload_n dX8_live_15 rfl rfl ?_ | refine V_aload_nN dX8_live_15 rfl rfl ?_
      first | refine V_getr (by first | exact z0.1.1.1.k _ rfl rfl | exact z0.1.1.kb hb) fX8_19 dX8_live_16 (by exact z0.1.1.1.r _ _ rfl) ?_ | refine V_getrN (by first | exact z0.1.1.1.k _ rfl rfl | exact z0.1.1.kb hb) fX8_19 dX8_live_16 (by exact z0.1.1.1.r _ _ rfl) ?_
      refine V_iload_n dX8_live_19 rfl rfl ?_
      refine V_callV (As := [_, _]) (st := _) (c_X3_lastJoined (kN (zK z)) (zQ z) (zJ z) c w z0.2.1 z0.2.2.2.1.1 z0.2.2.2.1.2.1 hc) kX8_201 (by first | exact z0.1.1.1.k _ rfl rfl | exact z0.1.1.kb hb) ⟨rfl, rfl, rfl⟩ ⟨(Nat.le_of_ble_eq_true rfl), (Nat.le_of_ble_eq_true rfl)⟩ dX8_live_20 rfl rfl (Nat.le_of_ble_eq_true rfl) ⟨(Nat.le_of_ble_eq_true rfl), (Nat.le_of_ble_eq_true rfl)⟩ ?_
      refine V_iconst (v := 1) dX8_live_23 (by decide) ?_
      refine V_iadd dX8_live_24 ?_
      rw [oI_s1]
      refine V_iadd dX8_live_25 ?_
      rw [nI_add]
      refine S_istore_n (L' := [(0, _), (1, _), (2, _)]) dX8_live_26 rfl rfl rfl ?_
      refine S_iinc (L' := [(0, _), (1, _), (2, _)]) dX8_live_27 rfl rfl rfl rfl ?_
      rw [nI_inc]
      refine V_goto (tgt := 4) dX8_live_30 (by decide) ?_
      exact ih (c + 1) (by omega)
  refine V_iconst (v := 0) dX8_live_0 (by decide) ?_
  refine S_istore_n (L' := [(0, _), (1, _)]) dX8_live_1 rfl rfl rfl ?_
  refine V_iconst (v := 0) dX8_live_2 (by decide) ?_
  refine S_istore_n (L' := [(0, _), (1, _), (2, _)]) dX8_live_3 rfl rfl rfl ?_
  exact loop 6 0 rfl

set_option maxRecDepth 100000 in
theorem c_X8_isLive (z : St) (x y : Int32) (w : Wd) (z0 : RX z w) : Cc yX8_isLive mX8_isLive [.ref 20, .int x, .int y] w (fun r w' => r = some (.int (oIsLive z x y)) ∧ w' = w) := by
  refine Cc.of (by decide) rfl rfl (Nat.le_of_ble_eq_true rfl) (fun X => ?_)
  change V _ X _ 0 [(0, _), (1, _), (2, _)] [] _ (0, 0)
  by_cases hx : isFr z x y
  · obtain ⟨c, f, hc, hf, rfl, rfl⟩ := isFr_n z0 hx
    have hcN : bN (nI c) = c := bN_nI (by omega)
    have hf3 : f < 30 := Nat.lt_of_lt_of_le hf (z0.2.1.le hc)
    have hfN : bN (nI f) = f := bN_nI (by omega)
    first | refine V_aload_n dX8_isLive_0 rfl rfl ?_ | refine V_aload_nN dX8_isLive_0 rfl rfl ?_
    first | refine V_getr (by first | exact z0.1.1.1.k _ rfl rfl | exact z0.1.1.kb hb) fX8_19 dX8_isLive_1 (by exact z0.1.1.1.r _ _ rfl) ?_ | refine V_getrN (by first | exact z0.1.1.1.k _ rfl rfl | exact z0.1.1.kb hb) fX8_19 dX8_isLive_1 (by exact z0.1.1.1.r _ _ rfl) ?_
    refine V_iload_n dX8_isLive_4 rfl rfl ?_
    refine V_iload_n dX8_isLive_5 rfl rfl ?_
    refine V_callV (As := [_, _]) (st := _) (c_X2_findFrame_s (kN (zK z)) (zQ z) c f w z0.2.1 hc hf) kX8_161 (by first | exact z0.1.1.1.k _ rfl rfl | exact z0.1.1.kb hb) ⟨rfl, rfl, rfl⟩ ⟨(Nat.le_of_ble_eq_true rfl), (Nat.le_of_ble_eq_true rfl)⟩ dX8_isLive_6 rfl rfl (Nat.le_of_ble_eq_true rfl) ⟨(Nat.le_of_ble_eq_true rfl), (Nat.le_of_ble_eq_true rfl)⟩ ?_
    refine V_ifnonnull (tgt := 15) dX8_isLive_9 (by decide) ?_
    refine V_iload_n dX8_isLive_15 rfl rfl ?_
    first | refine V_aload_n dX8_isLive_16 rfl rfl ?_ | refine V_aload_nN dX8_isLive_16 rfl rfl ?_
    first | refine V_getr (by first | exact z0.1.1.1.k _ rfl rfl | exact z0.1.1.kb hb) fX8_33 dX8_isLive_17 (by exact z0.1.1.1.r _ _ rfl) ?_ | refine V_getrN (by first | exact z0.1.1.1.k _ rfl rfl | exact z0.1.1.kb hb) fX8_33 dX8_isLive_17 (by exact z0.1.1.1.r _ _ rfl) ?_
    first | refine V_aload_n dX8_isLive_20 rfl rfl ?_ | refine V_aload_nN dX8_isLive_20 rfl rfl ?_
    first | refine V_getr (by first | exact z0.1.1.1.k _ rfl rfl | exact z0.1.1.kb hb) fX8_19 dX8_isLive_21 (by exact z0.1.1.1.r _ _ rfl) ?_ | refine V_getrN (by first | exact z0.1.1.1.k _ rfl rfl | exact z0.1.1.kb hb) fX8_19 dX8_isLive_21 (by exact z0.1.1.1.r _ _ rfl) ?_
    refine V_iload_n dX8_isLive_24 rfl rfl ?_
    refine V_callV (As := [_, _]) (st := _) (c_X3_lastJoined (kN (zK z)) (zQ z) (zJ z) c w z0.2.1 z0.2.2.2.1.1 z0.2.2.2.1.2.1 hc) kX8_201 (by first | exact z0.1.1.1.k _ rfl rfl | exact z0.1.1.kb hb) ⟨rfl, rfl, rfl⟩ ⟨(Nat.le_of_ble_eq_true rfl), (Nat.le_of_ble_eq_true rfl)⟩ dX8_isLive_25 rfl rfl (Nat.le_of_ble_eq_true rfl) ⟨(Nat.le_of_ble_eq_true rfl), (Nat.le_of_ble_eq_true rfl)⟩ ?_
    refine V_icmp_gt (tgt := 35) dX8_isLive_28 (by decide) (fun c28 => ?_) (fun c28 => ?_)
    · refine V_iconst (v := 0) dX8_isLive_35 (by decide) ?_
      refine V_iret rfl dX8_isLive_36 (Nat.le_of_ble_eq_true rfl) (Nat.le_of_ble_eq_true rfl) ?_
      refine ok2i ?_
      unfold oIsLive
      rw [f_live hf3] at c28
      rw [if_pos hx, hcN, hfN]
      first | rw [if_neg c28] | rw [if_pos (Classical.not_not.mp c28)]
    · refine V_iconst (v := 1) dX8_isLive_31 (by decide) ?_
      refine V_goto (tgt := 36) dX8_isLive_32 (by decide) ?_
      refine V_iret rfl dX8_isLive_36 (Nat.le_of_ble_eq_true rfl) (Nat.le_of_ble_eq_true rfl) ?_
      refine ok2i ?_
      unfold oIsLive
      rw [f_live hf3] at c28
      rw [if_pos hx, hcN, hfN]
      first | rw [if_neg c28] | rw [if_pos (Classical.not_not.mp c28)]
  · first | refine V_aload_n dX8_isLive_0 rfl rfl ?_ | refine V_aload_nN dX8_isLive_0 rfl rfl ?_
    first | refine V_getr (by first | exact z0.1.1.1.k _ rfl rfl | exact z0.1.1.kb hb) fX8_19 dX8_isLive_1 (by exact z0.1.1.1.r _ _ rfl) ?_ | refine V_getrN (by first | exact z0.1.1.1.k _ rfl rfl | exact z0.1.1.kb hb) fX8_19 dX8_isLive_1 (by exact z0.1.1.1.r _ _ rfl) ?_
    refine V_iload_n dX8_isLive_4 rfl rfl ?_
    refine V_iload_n dX8_isLive_5 rfl rfl ?_
    refine V_callV (As := [_, _]) (st := _) (c_X2_findFrame_n (kN (zK z)) (zQ z) x y w z0.2.1 (isFr_no z0 hx)) kX8_161 (by first | exact z0.1.1.1.k _ rfl rfl | exact z0.1.1.kb hb) ⟨rfl, rfl, rfl⟩ ⟨(Nat.le_of_ble_eq_true rfl), (Nat.le_of_ble_eq_true rfl)⟩ dX8_isLive_6 rfl rfl (Nat.le_of_ble_eq_true rfl) ⟨(Nat.le_of_ble_eq_true rfl), (Nat.le_of_ble_eq_true rfl)⟩ ?_
    refine V_ifnonnullN dX8_isLive_9 ?_
    refine V_bipush (v := -2) dX8_isLive_12 (by decide) ?_
    refine V_iret rfl dX8_isLive_14 (Nat.le_of_ble_eq_true rfl) (Nat.le_of_ble_eq_true rfl) ?_
    exact ok2i (by unfold oIsLive; rw [if_neg hx])

theorem slot_N (c f : Nat) : 30 * nI c + nI f = nI (30 * c + f) := by
  rw [show (30 : Int32) = nI 30 from rfl, show nI 30 * nI c = nI (30 * c) from (Int32.ofNat_mul 30 c).symm, nI_add]

set_option maxRecDepth 100000 in
theorem c_X8_walk (z : St) (D : Nat → Option Nat) (x y u p : Int32) (w : Wd) (z0 : RX z w) (hb : BE (egZ z) (30 * bN u + bN p) D) : Cc yX8_walk mX8_walk [.ref 20, .int x, .int y, .int u, .int p] w (fun r w' => ∃ v, r = some v ∧ (v = .int (oWalk z D x y u p).1 ∧ RX (oWalk z D x y u p).2 w' ∧ Keep clA w w')) := by
  refine Cc.of (by decide) rfl rfl (Nat.le_of_ble_eq_true rfl) (fun X => ?_)
  change V _ X _ 0 [(0, _), (1, _), (2, _), (3, _), (4, _)] [] _ (0, 0)
  by_cases hx : isFr z x y
  · obtain ⟨c, f, hc, hf, rfl, rfl⟩ := isFr_n z0 hx
    have hcN : bN (nI c) = c := bN_nI (by omega)
    have hf3 : f < 30 := Nat.lt_of_lt_of_le hf (z0.2.1.le hc)
    have hfN : bN (nI f) = f := bN_nI (by omega)
    by_cases hy : isFr z u p
    · obtain ⟨d, g, hd, hg, rfl, rfl⟩ := isFr_n z0 hy
      have hdN : bN (nI d) = d := bN_nI (by omega)
      have hg3 : g < 30 := Nat.lt_of_lt_of_le hg (z0.2.1.le hd)
      have hgN : bN (nI g) = g := bN_nI (by omega)
      rw [hdN, hgN] at hb
      first | refine V_aload_n dX8_walk_0 rfl rfl ?_ | refine V_aload_nN dX8_walk_0 rfl rfl ?_
      first | refine V_getr (by first | exact z0.1.1.1.k _ rfl rfl | exact (congrFun a1.1 _).trans (z0.1.1.1.k _ rfl rfl)) fX8_19 dX8_walk_1 (by first | exact z0.1.1.1.r _ _ rfl | exact (congrFun (congrFun a1.2.2.1 _) _).trans (z0.1.1.1.r _ _ rfl)) ?_ | refine V_getrN (by first | exact z0.1.1.1.k _ rfl rfl | exact (congrFun a1.1 _).trans (z0.1.1.1.k _ rfl rfl)) fX8_19 dX8_walk_1 (by first | exact z0.1.1.1.r _ _ rfl | exact (congrFun (congrFun a1.2.2.1 _) _).trans (z0.1.1.1.r _ _ rfl)) ?_
      refine V_iload_n dX8_walk_4 rfl rfl ?_
      refine V_iload_n dX8_walk_5 rfl rfl ?_
      refine V_callV (As := [_, _]) (st := _) (c_X2_findFrame_s (kN (zK z)) (zQ z) c f w z0.2.1 hc hf) kX8_161 (by first | exact z0.1.1.1.k _ rfl rfl | exact (congrFun a1.1 _).trans (z0.1.1.1.k _ rfl rfl)) ⟨rfl, rfl, rfl⟩ ⟨(Nat.le_of_ble_eq_true rfl), (Nat.le_of_ble_eq_true rfl)⟩ dX8_walk_6 rfl rfl (Nat.le_of_ble_eq_true rfl) ⟨(Nat.le_of_ble_eq_true rfl), (Nat.le_of_ble_eq_true rfl)⟩ ?_
      refine V_ifnull dX8_walk_9 ?_
      first | refine V_aload_n dX8_walk_12 rfl rfl ?_ | refine V_aload_nN dX8_walk_12 rfl rfl ?_
      first | refine V_getr (by first | exact z0.1.1.1.k _ rfl rfl | exact (congrFun a1.1 _).trans (z0.1.1.1.k _ rfl rfl)) fX8_19 dX8_walk_13 (by first | exact z0.1.1.1.r _ _ rfl | exact (congrFun (congrFun a1.2.2.1 _) _).trans (z0.1.1.1.r _ _ rfl)) ?_ | refine V_getrN (by first | exact z0.1.1.1.k _ rfl rfl | exact (congrFun a1.1 _).trans (z0.1.1.1.k _ rfl rfl)) fX8_19 dX8_walk_13 (by first | exact z0.1.1.1.r _ _ rfl | exact (congrFun (congrFun a1.2.2.1 _) _).trans (z0.1.1.1.r _ _ rfl)) ?_
      refine V_iload_n dX8_walk_16 rfl rfl ?_
      refine V_iload dX8_walk_17 rfl ?_
      refine V_callV (As := [_, _]) (st := _) (c_X2_findFrame_s (kN (zK z)) (zQ z) d g w z0.2.1 hd hg) kX8_161 (by first | exact z0.1.1.1.k _ rfl rfl | exact (congrFun a1.1 _).trans (z0.1.1.1.k _ rfl rfl)) ⟨rfl, rfl, rfl⟩ ⟨(Nat.le_of_ble_eq_true rfl), (Nat.le_of_ble_eq_true rfl)⟩ dX8_walk_19 rfl rfl (Nat.le_of_ble_eq_true rfl) ⟨(Nat.le_of_ble_eq_true rfl), (Nat.le_of_ble_eq_true rfl)⟩ ?_
      refine V_ifnonnull (tgt := 28) dX8_walk_22 (by decide) ?_
      first | refine V_aload_n dX8_walk_28 rfl rfl ?_ | refine V_aload_nN dX8_walk_28 rfl rfl ?_
      first | refine V_getr (by first | exact z0.1.1.1.k _ rfl rfl | exact (congrFun a1.1 _).trans (z0.1.1.1.k _ rfl rfl)) fX8_33 dX8_walk_29 (by first | exact z0.1.1.1.r _ _ rfl | exact (congrFun (congrFun a1.2.2.1 _) _).trans (z0.1.1.1.r _ _ rfl)) ?_ | refine V_getrN (by first | exact z0.1.1.1.k _ rfl rfl | exact (congrFun a1.1 _).trans (z0.1.1.1.k _ rfl rfl)) fX8_33 dX8_walk_29 (by first | exact z0.1.1.1.r _ _ rfl | exact (congrFun (congrFun a1.2.2.1 _) _).trans (z0.1.1.1.r _ _ rfl)) ?_
      first | refine V_aload_n dX8_walk_32 rfl rfl ?_ | refine V_aload_nN dX8_walk_32 rfl rfl ?_
      first | refine V_getr (by first | exact z0.1.1.1.k _ rfl rfl | exact (congrFun a1.1 _).trans (z0.1.1.1.k _ rfl rfl)) fX8_19 dX8_walk_33 (by first | exact z0.1.1.1.r _ _ rfl | exact (congrFun (congrFun a1.2.2.1 _) _).trans (z0.1.1.1.r _ _ rfl)) ?_ | refine V_getrN (by first | exact z0.1.1.1.k _ rfl rfl | exact (congrFun a1.1 _).trans (z0.1.1.1.k _ rfl rfl)) fX8_19 dX8_walk_33 (by first | exact z0.1.1.1.r _ _ rfl | exact (congrFun (congrFun a1.2.2.1 _) _).trans (z0.1.1.1.r _ _ rfl)) ?_
      refine V_bipush (v := 30) dX8_walk_36 (by decide) ?_
      refine V_iload_n dX8_walk_38 rfl rfl ?_
      refine V_imul dX8_walk_39 ?_
      refine V_iload_n dX8_walk_40 rfl rfl ?_
      refine V_iadd dX8_walk_41 ?_
      refine V_bipush (v := 30) dX8_walk_42 (by decide) ?_
      refine V_iload_n dX8_walk_44 rfl rfl ?_
      refine V_imul dX8_walk_45 ?_
      refine V_iload dX8_walk_46 rfl ?_
      refine V_iadd dX8_walk_48 ?_
      rw [slot_N, slot_N]
      refine V_callVvr (As := [_, _, _]) (st := _) (c_X3_findWalk (kN (zK z)) (zQ z) (zJ z) (30 * c + f) (30 * d + g) D w z0.2.1 z0.2.2.2.1.1 z0.2.2.2.1.2.1 ⟨by omega, decide_eq_true (by rw [show (30 * c + f) % 30 = f by omega, show (30 * c + f) / 30 = c by omega]; exact hf)⟩ ⟨by omega, decide_eq_true (by rw [show (30 * d + g) % 30 = g by omega, show (30 * d + g) / 30 = d by omega]; exact hg)⟩ hb) kX8_205 (by first | exact z0.1.1.1.k _ rfl rfl | exact (congrFun a1.1 _).trans (z0.1.1.1.k _ rfl rfl)) ⟨rfl, rfl, rfl⟩ ⟨(Nat.le_of_ble_eq_true rfl), (Nat.le_of_ble_eq_true rfl)⟩ dX8_walk_49 rfl rfl (Nat.le_of_ble_eq_true rfl) ⟨(Nat.le_of_ble_eq_true rfl), (Nat.le_of_ble_eq_true rfl)⟩ (fun w1 hw1 => ?_)
      obtain ⟨a1, a2, a3, a4⟩ := hw1
      first | refine V_aload_n dX8_walk_52 rfl rfl ?_ | refine V_aload_nN dX8_walk_52 rfl rfl ?_
      first | refine V_getr (by first | exact z0.1.1.1.k _ rfl rfl | exact (congrFun a1.1 _).trans (z0.1.1.1.k _ rfl rfl)) fX8_33 dX8_walk_53 (by first | exact z0.1.1.1.r _ _ rfl | exact (congrFun (congrFun a1.2.2.1 _) _).trans (z0.1.1.1.r _ _ rfl)) ?_ | refine V_getrN (by first | exact z0.1.1.1.k _ rfl rfl | exact (congrFun a1.1 _).trans (z0.1.1.1.k _ rfl rfl)) fX8_33 dX8_walk_53 (by first | exact z0.1.1.1.r _ _ rfl | exact (congrFun (congrFun a1.2.2.1 _) _).trans (z0.1.1.1.r _ _ rfl)) ?_
      refine G_geti (by first | exact z0.1.1.1.k _ rfl rfl | exact (congrFun a1.1 _).trans (z0.1.1.1.k _ rfl rfl)) fX8_209 dX8_walk_56 (by exact a3) ?_
      refine V_iret rfl dX8_walk_59 (Nat.le_of_ble_eq_true rfl) (Nat.le_of_ble_eq_true rfl) ?_
      have e : oWalk z D (nI c) (nI f) (nI d) (nI g) = (oI (D (30 * c + f)), pG z (zJ z, D (30 * c + f), wpN (egZ z) D (30 * c + f) (30 * d + g), sqF (nxD (egZ z) D) (30 * c + f) (30 * d + g))) := by
        unfold oWalk
        rw [if_pos ⟨hx, hy⟩, hcN, hfN, hdN, hgN]
      exact ⟨_, rfl, by rw [e], by rw [e]; exact z0.setG a1 ⟨a2.trans z0.2.2.2.1.1, z0.2.2.2.1.2.1, a3, a4, fun n hn => wpN_some _ _ _ _ n hn⟩, a1.mono (fun a => by unfold grA clA; omega)⟩
    · first | refine V_aload_n dX8_walk_0 rfl rfl ?_ | refine V_aload_nN dX8_walk_0 rfl rfl ?_
      first | refine V_getr (by first | exact z0.1.1.1.k _ rfl rfl | exact z0.1.1.kb hb) fX8_19 dX8_walk_1 (by exact z0.1.1.1.r _ _ rfl) ?_ | refine V_getrN (by first | exact z0.1.1.1.k _ rfl rfl | exact z0.1.1.kb hb) fX8_19 dX8_walk_1 (by exact z0.1.1.1.r _ _ rfl) ?_
      refine V_iload_n dX8_walk_4 rfl rfl ?_
      refine V_iload_n dX8_walk_5 rfl rfl ?_
      refine V_callV (As := [_, _]) (st := _) (c_X2_findFrame_s (kN (zK z)) (zQ z) c f w z0.2.1 hc hf) kX8_161 (by first | exact z0.1.1.1.k _ rfl rfl | exact z0.1.1.kb hb) ⟨rfl, rfl, rfl⟩ ⟨(Nat.le_of_ble_eq_true rfl), (Nat.le_of_ble_eq_true rfl)⟩ dX8_walk_6 rfl rfl (Nat.le_of_ble_eq_true rfl) ⟨(Nat.le_of_ble_eq_true rfl), (Nat.le_of_ble_eq_true rfl)⟩ ?_
      refine V_ifnull dX8_walk_9 ?_
      first | refine V_aload_n dX8_walk_12 rfl rfl ?_ | refine V_aload_nN dX8_walk_12 rfl rfl ?_
      first | refine V_getr (by first | exact z0.1.1.1.k _ rfl rfl | exact z0.1.1.kb hb) fX8_19 dX8_walk_13 (by exact z0.1.1.1.r _ _ rfl) ?_ | refine V_getrN (by first | exact z0.1.1.1.k _ rfl rfl | exact z0.1.1.kb hb) fX8_19 dX8_walk_13 (by exact z0.1.1.1.r _ _ rfl) ?_
      refine V_iload_n dX8_walk_16 rfl rfl ?_
      refine V_iload dX8_walk_17 rfl ?_
      refine V_callV (As := [_, _]) (st := _) (c_X2_findFrame_n (kN (zK z)) (zQ z) u p w z0.2.1 (isFr_no z0 hy)) kX8_161 (by first | exact z0.1.1.1.k _ rfl rfl | exact z0.1.1.kb hb) ⟨rfl, rfl, rfl⟩ ⟨(Nat.le_of_ble_eq_true rfl), (Nat.le_of_ble_eq_true rfl)⟩ dX8_walk_19 rfl rfl (Nat.le_of_ble_eq_true rfl) ⟨(Nat.le_of_ble_eq_true rfl), (Nat.le_of_ble_eq_true rfl)⟩ ?_
      refine V_ifnonnullN dX8_walk_22 ?_
      refine V_bipush (v := -2) dX8_walk_25 (by decide) ?_
      refine V_iret rfl dX8_walk_27 (Nat.le_of_ble_eq_true rfl) (Nat.le_of_ble_eq_true rfl) ?_
      exact ⟨_, rfl, by unfold oWalk; rw [if_neg (fun q => hy q.2)], by unfold oWalk; rw [if_neg (fun q => hy q.2)]; exact z0, Keep.refl _ _⟩
  · first | refine V_aload_n dX8_walk_0 rfl rfl ?_ | refine V_aload_nN dX8_walk_0 rfl rfl ?_
    first | refine V_getr (by first | exact z0.1.1.1.k _ rfl rfl | exact z0.1.1.kb hb) fX8_19 dX8_walk_1 (by exact z0.1.1.1.r _ _ rfl) ?_ | refine V_getrN (by first | exact z0.1.1.1.k _ rfl rfl | exact z0.1.1.kb hb) fX8_19 dX8_walk_1 (by exact z0.1.1.1.r _ _ rfl) ?_
    refine V_iload_n dX8_walk_4 rfl rfl ?_
    refine V_iload_n dX8_walk_5 rfl rfl ?_
    refine V_callV (As := [_, _]) (st := _) (c_X2_findFrame_n (kN (zK z)) (zQ z) x y w z0.2.1 (isFr_no z0 hx)) kX8_161 (by first | exact z0.1.1.1.k _ rfl rfl | exact z0.1.1.kb hb) ⟨rfl, rfl, rfl⟩ ⟨(Nat.le_of_ble_eq_true rfl), (Nat.le_of_ble_eq_true rfl)⟩ dX8_walk_6 rfl rfl (Nat.le_of_ble_eq_true rfl) ⟨(Nat.le_of_ble_eq_true rfl), (Nat.le_of_ble_eq_true rfl)⟩ ?_
    refine V_ifnullN (tgt := 25) dX8_walk_9 (by decide) ?_
    refine V_bipush (v := -2) dX8_walk_25 (by decide) ?_
    refine V_iret rfl dX8_walk_27 (Nat.le_of_ble_eq_true rfl) (Nat.le_of_ble_eq_true rfl) ?_
    exact ⟨_, rfl, by unfold oWalk; rw [if_neg (fun q => hx q.1)], by unfold oWalk; rw [if_neg (fun q => hx q.1)]; exact z0, Keep.refl _ _⟩

set_option maxRecDepth 100000 in
theorem c_X8_step (z : St) (x : Int32) (w : Wd) (z0 : RX z w) : Cc yX8_step mX8_step [.ref 20, .int x] w (fun r w' => r = some (.int (oStep z x)) ∧ w' = w) := by
  refine Cc.of (by decide) rfl rfl (Nat.le_of_ble_eq_true rfl) (fun X => ?_)
  change V _ X _ 0 [(0, _), (1, _)] [] _ (0, 0)
  refine V_iload_n dX8_step_0 rfl rfl ?_
  refine V_i2l dX8_step_1 ?_
  refine V_lconst (v := 0) dX8_step_2 (by decide) ?_
  first | refine V_aload_n dX8_step_3 rfl rfl ?_ | refine V_aload_nN dX8_step_3 rfl rfl ?_
  first | refine V_getr (by first | exact z0.1.1.1.k _ rfl rfl | exact z0.1.1.kb hb) fX8_33 dX8_step_4 (by exact z0.1.1.1.r _ _ rfl) ?_ | refine V_getrN (by first | exact z0.1.1.1.k _ rfl rfl | exact z0.1.1.kb hb) fX8_33 dX8_step_4 (by exact z0.1.1.1.r _ _ rfl) ?_
  refine G_geti (by first | exact z0.1.1.1.k _ rfl rfl | exact z0.1.1.kb hb) fX8_212 dX8_step_7 (by exact z0.2.2.2.1.2.2.2.1.1) ?_
  refine V_iconst (v := 1) dX8_step_10 (by decide) ?_
  refine V_isub dX8_step_11 ?_
  refine V_i2l dX8_step_12 ?_
  refine V_callS (As := [_, _, _]) (st := _) (isIn_m x (zP z) (Nat.lt_of_le_of_lt z0.2.2.2.1.2.2.2.1.2.1 (by decide)) w) kX8_54 ⟨rfl, rfl, rfl⟩ ⟨(Nat.le_of_ble_eq_true rfl), (Nat.le_of_ble_eq_true rfl)⟩ dX8_step_13 rfl rfl (Nat.le_of_ble_eq_true rfl) ⟨(Nat.le_of_ble_eq_true rfl), (Nat.le_of_ble_eq_true rfl)⟩ ?_
  refine V_if_eq (tgt := 31) dX8_step_16 (by decide) (fun c16 => ?_) (fun c16 => ?_)
  · refine V_bipush (v := -2) dX8_step_31 (by decide) ?_
    refine V_iret rfl dX8_step_33 (Nat.le_of_ble_eq_true rfl) (Nat.le_of_ble_eq_true rfl) ?_
    refine ok2i ?_
    unfold oStep
    first | rw [if_neg (b01_0 c16)] | (rw [if_pos (b01_1 c16)]; exact (congrArg oI hs).symm)
  · have hx := b01_1 c16
    have h30 : zP z ≤ 180 := z0.2.2.2.1.2.2.2.1.2.1
    obtain ⟨s, hs⟩ := z0.2.2.2.1.2.2.2.2 (bN x) (by show bN x < zP z; unfold bN; omega)
    first | refine V_aload_n dX8_step_19 rfl rfl ?_ | refine V_aload_nN dX8_step_19 rfl rfl ?_
    first | refine V_getr (by first | exact z0.1.1.1.k _ rfl rfl | exact z0.1.1.kb hb) fX8_33 dX8_step_20 (by exact z0.1.1.1.r _ _ rfl) ?_ | refine V_getrN (by first | exact z0.1.1.1.k _ rfl rfl | exact z0.1.1.kb hb) fX8_33 dX8_step_20 (by exact z0.1.1.1.r _ _ rfl) ?_
    first | refine V_getr (by first | exact z0.1.1.1.k _ rfl rfl | exact z0.1.1.kb hb) fX8_215 dX8_step_23 (by exact z0.1.1.1.r _ _ rfl) ?_ | refine V_getrN (by first | exact z0.1.1.1.k _ rfl rfl | exact z0.1.1.kb hb) fX8_215 dX8_step_23 (by exact z0.1.1.1.r _ _ rfl) ?_
    refine V_iload_n dX8_step_26 rfl rfl ?_
    refine G_iald (j := bN x) (by first | exact z0.1.1.1.k _ rfl rfl | exact z0.1.1.kb hb) (by exact i32_nat hx.1) (by rw [z0.1.1.1.n 29 rfl rfl]; show bN x < 180; unfold bN; omega) (by rw [z0.1.1.1.n 29 rfl rfl]; decide) dX8_step_27 (by exact z0.2.2.2.1.2.2.2.1.2.2 _ s (by show bN x < zP z; unfold bN; omega) hs) ?_
    refine V_goto (tgt := 33) dX8_step_28 (by decide) ?_
    refine V_iret rfl dX8_step_33 (Nat.le_of_ble_eq_true rfl) (Nat.le_of_ble_eq_true rfl) ?_
    refine ok2i ?_
    unfold oStep
    first | rw [if_neg (b01_0 c16)] | (rw [if_pos (b01_1 c16)]; exact (congrArg oI hs).symm)
