/-! Bone: limits, blending, places -/
set_option maxRecDepth 100000 in
theorem c_X0_allows (t : Nat) (n lo sp : Nat) (w : Wd) (hK : wK w n = 1) (h4 : wI w n 4 = nI lo) (h5 : wI w n 5 = nI sp) (hl : lo < 36) (hs : sp < 36) (ht : t < 36) : Cc yX0_allows mX0_allows [.ref n, .int (nI t)] w (fun r w' => r = some (.int (b01 (wi lo sp t))) ∧ w' = w) := by
  refine Cc.of (by decide) rfl rfl (Nat.le_of_ble_eq_true rfl) (fun X => ?_)
  change V _ X _ 0 [(0, _), (1, _)] [] _ (0, 0)
  refine V_iload_n dX0_allows_0 rfl rfl ?_
  first | refine V_aload_n dX0_allows_1 rfl rfl ?_ | refine V_aload_nN dX0_allows_1 rfl rfl ?_
  refine G_geti (by exact hK) fX0_25 dX0_allows_2 (by first | exact h4 | exact h5 | rfl) ?_
  refine V_icmp_ge (tgt := 20) dX0_allows_5 (by decide) (fun c5 => ?_) (fun c5 => ?_)
  · refine V_iload_n dX0_allows_20 rfl rfl ?_
    first | refine V_aload_n dX0_allows_21 rfl rfl ?_ | refine V_aload_nN dX0_allows_21 rfl rfl ?_
    refine G_geti (by exact hK) fX0_25 dX0_allows_22 (by first | exact h4 | exact h5 | rfl) ?_
    refine V_isub dX0_allows_25 ?_
    refine S_istore_n (L' := [(0, _), (2, _)]) dX0_allows_26 rfl rfl rfl ?_
    refine V_iload_n dX0_allows_27 rfl rfl ?_
    first | refine V_aload_n dX0_allows_28 rfl rfl ?_ | refine V_aload_nN dX0_allows_28 rfl rfl ?_
    refine G_geti (by exact hK) fX0_28 dX0_allows_29 (by first | exact h4 | exact h5 | rfl) ?_
    refine V_icmp_gt (tgt := 39) dX0_allows_32 (by decide) (fun c32 => ?_) (fun c32 => ?_)
    · refine V_iconst (v := 0) dX0_allows_39 (by decide) ?_
      refine V_zret rfl dX0_allows_40 (Nat.le_of_ble_eq_true rfl) (Nat.le_of_ble_eq_true rfl) rfl ?_
      first | rw [past_ge hl ht c5, nI_ltI (by omega) (by omega)] at c32 | rw [past_lt hl ht c5, nI_ltI (by omega) (by omega)] at c32
      first | exact ok2i (b01_t (by unfold wi; omega)).symm | exact ok2i (b01_f (by unfold wi; omega)).symm
    · refine V_iconst (v := 1) dX0_allows_35 (by decide) ?_
      refine V_goto (tgt := 40) dX0_allows_36 (by decide) ?_
      refine V_zret rfl dX0_allows_40 (Nat.le_of_ble_eq_true rfl) (Nat.le_of_ble_eq_true rfl) rfl ?_
      first | rw [past_ge hl ht c5, nI_ltI (by omega) (by omega)] at c32 | rw [past_lt hl ht c5, nI_ltI (by omega) (by omega)] at c32
      first | exact ok2i (b01_t (by unfold wi; omega)).symm | exact ok2i (b01_f (by unfold wi; omega)).symm
  · refine V_iload_n dX0_allows_8 rfl rfl ?_
    refine V_bipush (v := 36) dX0_allows_9 (by decide) ?_
    refine V_iadd dX0_allows_11 ?_
    first | refine V_aload_n dX0_allows_12 rfl rfl ?_ | refine V_aload_nN dX0_allows_12 rfl rfl ?_
    refine G_geti (by exact hK) fX0_25 dX0_allows_13 (by first | exact h4 | exact h5 | rfl) ?_
    refine V_isub dX0_allows_16 ?_
    refine V_goto (tgt := 26) dX0_allows_17 (by decide) ?_
    refine S_istore_n (L' := [(0, _), (2, _)]) dX0_allows_26 rfl rfl rfl ?_
    refine V_iload_n dX0_allows_27 rfl rfl ?_
    first | refine V_aload_n dX0_allows_28 rfl rfl ?_ | refine V_aload_nN dX0_allows_28 rfl rfl ?_
    refine G_geti (by exact hK) fX0_28 dX0_allows_29 (by first | exact h4 | exact h5 | rfl) ?_
    refine V_icmp_gt (tgt := 39) dX0_allows_32 (by decide) (fun c32 => ?_) (fun c32 => ?_)
    · refine V_iconst (v := 0) dX0_allows_39 (by decide) ?_
      refine V_zret rfl dX0_allows_40 (Nat.le_of_ble_eq_true rfl) (Nat.le_of_ble_eq_true rfl) rfl ?_
      first | rw [past_ge hl ht c5, nI_ltI (by omega) (by omega)] at c32 | rw [past_lt hl ht c5, nI_ltI (by omega) (by omega)] at c32
      first | exact ok2i (b01_t (by unfold wi; omega)).symm | exact ok2i (b01_f (by unfold wi; omega)).symm
    · refine V_iconst (v := 1) dX0_allows_35 (by decide) ?_
      refine V_goto (tgt := 40) dX0_allows_36 (by decide) ?_
      refine V_zret rfl dX0_allows_40 (Nat.le_of_ble_eq_true rfl) (Nat.le_of_ble_eq_true rfl) rfl ?_
      first | rw [past_ge hl ht c5, nI_ltI (by omega) (by omega)] at c32 | rw [past_lt hl ht c5, nI_ltI (by omega) (by omega)] at c32
      first | exact ok2i (b01_t (by unfold wi; omega)).symm | exact ok2i (b01_f (by unfold wi; omega)).symm

set_option maxRecDepth 100000 in
theorem c_X0_leastTurn (n lo sp : Nat) (w : Wd) (hK : wK w n = 1) (h4 : wI w n 4 = nI lo) (h5 : wI w n 5 = nI sp) (hl : lo < 36) (hs : sp < 36) (h6 : wI w n 6 = nI (lastN lo sp)) : Cc yX0_leastTurn mX0_leastTurn [.ref n] w (fun r w' => r = some (.int (nI (if lastN lo sp < lo then 0 else lo))) ∧ w' = w) := by
  refine Cc.of (by decide) rfl rfl (Nat.le_of_ble_eq_true rfl) (fun X => ?_)
  change V _ X _ 0 [(0, _)] [] _ (0, 0)
  first | refine V_aload_n dX0_leastTurn_0 rfl rfl ?_ | refine V_aload_nN dX0_leastTurn_0 rfl rfl ?_
  refine G_geti (by exact hK) fX0_31 dX0_leastTurn_1 (by first | exact h4 | exact h5 | exact h6 | rfl) ?_
  first | refine V_aload_n dX0_leastTurn_4 rfl rfl ?_ | refine V_aload_nN dX0_leastTurn_4 rfl rfl ?_
  refine G_geti (by exact hK) fX0_25 dX0_leastTurn_5 (by first | exact h4 | exact h5 | exact h6 | rfl) ?_
  refine V_icmp_ge (tgt := 15) dX0_leastTurn_8 (by decide) (fun c8 => ?_) (fun c8 => ?_)
  · first | refine V_aload_n dX0_leastTurn_15 rfl rfl ?_ | refine V_aload_nN dX0_leastTurn_15 rfl rfl ?_
    refine G_geti (by exact hK) fX0_25 dX0_leastTurn_16 (by first | exact h4 | exact h5 | exact h6 | rfl) ?_
    refine V_iret rfl dX0_leastTurn_19 (Nat.le_of_ble_eq_true rfl) (Nat.le_of_ble_eq_true rfl) ?_
    have h7 := lastN_lt lo sp
    rw [nI_leI (by omega) (by omega)] at c8
    exact ok2i (by first | rw [if_neg (by omega)] | (rw [if_pos (by omega)]; rfl))
  · refine V_iconst (v := 0) dX0_leastTurn_11 (by decide) ?_
    refine V_goto (tgt := 19) dX0_leastTurn_12 (by decide) ?_
    refine V_iret rfl dX0_leastTurn_19 (Nat.le_of_ble_eq_true rfl) (Nat.le_of_ble_eq_true rfl) ?_
    have h7 := lastN_lt lo sp
    rw [nI_leI (by omega) (by omega)] at c8
    exact ok2i (by first | rw [if_neg (by omega)] | (rw [if_pos (by omega)]; rfl))

set_option maxRecDepth 100000 in
theorem c_X0_intoLimits (t : Nat) (n lo sp : Nat) (w : Wd) (hK : wK w n = 1) (h4 : wI w n 4 = nI lo) (h5 : wI w n 5 = nI sp) (hl : lo < 36) (hs : sp < 36) (h6 : wI w n 6 = nI (lastN lo sp)) (ht : t < 36) : Cc yX0_intoLimits mX0_intoLimits [.ref n, .int (nI t)] w (fun r w' => r = some (.int (nI (intoN lo sp t))) ∧ w' = w) := by
  refine Cc.of (by decide) rfl rfl (Nat.le_of_ble_eq_true rfl) (fun X => ?_)
  change V _ X _ 0 [(0, _), (1, _)] [] _ (0, 0)
  first | refine V_aload_n dX0_intoLimits_0 rfl rfl ?_ | refine V_aload_nN dX0_intoLimits_0 rfl rfl ?_
  refine V_iload_n dX0_intoLimits_1 rfl rfl ?_
  refine V_callV (As := [_]) (st := _) (c_X0_allows t n lo sp w hK h4 h5 hl hs ht) kX0_37 (by exact hK) ⟨rfl, rfl, rfl⟩ ⟨(Nat.le_of_ble_eq_true rfl), (Nat.le_of_ble_eq_true rfl)⟩ dX0_intoLimits_2 rfl rfl (Nat.le_of_ble_eq_true rfl) ⟨(Nat.le_of_ble_eq_true rfl), (Nat.le_of_ble_eq_true rfl)⟩ ?_
  refine V_if_eq (tgt := 10) dX0_intoLimits_5 (by decide) (fun c5 => ?_) (fun c5 => ?_)
  · refine V_iload_n dX0_intoLimits_10 rfl rfl ?_
    first | refine V_aload_n dX0_intoLimits_11 rfl rfl ?_ | refine V_aload_nN dX0_intoLimits_11 rfl rfl ?_
    refine G_geti (by exact hK) fX0_25 dX0_intoLimits_12 (by first | exact h4 | exact h5 | exact h6 | rfl) ?_
    refine V_callS (As := [_, _]) (st := _) (c_X7_distance _ _ _) kX0_41 ⟨rfl, rfl, rfl⟩ ⟨(Nat.le_of_ble_eq_true rfl), (Nat.le_of_ble_eq_true rfl)⟩ dX0_intoLimits_15 rfl rfl (Nat.le_of_ble_eq_true rfl) ⟨(Nat.le_of_ble_eq_true rfl), (Nat.le_of_ble_eq_true rfl)⟩ ?_
    refine V_iload_n dX0_intoLimits_18 rfl rfl ?_
    first | refine V_aload_n dX0_intoLimits_19 rfl rfl ?_ | refine V_aload_nN dX0_intoLimits_19 rfl rfl ?_
    refine G_geti (by exact hK) fX0_31 dX0_intoLimits_20 (by first | exact h4 | exact h5 | exact h6 | rfl) ?_
    refine V_callS (As := [_, _]) (st := _) (c_X7_distance _ _ _) kX0_41 ⟨rfl, rfl, rfl⟩ ⟨(Nat.le_of_ble_eq_true rfl), (Nat.le_of_ble_eq_true rfl)⟩ dX0_intoLimits_23 rfl rfl (Nat.le_of_ble_eq_true rfl) ⟨(Nat.le_of_ble_eq_true rfl), (Nat.le_of_ble_eq_true rfl)⟩ ?_
    refine V_icmp_gt (tgt := 36) dX0_intoLimits_26 (by decide) (fun c26 => ?_) (fun c26 => ?_)
    · first | refine V_aload_n dX0_intoLimits_36 rfl rfl ?_ | refine V_aload_nN dX0_intoLimits_36 rfl rfl ?_
      refine G_geti (by exact hK) fX0_31 dX0_intoLimits_37 (by first | exact h4 | exact h5 | exact h6 | rfl) ?_
      refine V_iret rfl dX0_intoLimits_40 (Nat.le_of_ble_eq_true rfl) (Nat.le_of_ble_eq_true rfl) ?_
      have h7 := lastN_lt lo sp
      have g1 : distN t lo < 36 := by unfold distN; simp only; split <;> omega
      have g2 : distN t (lastN lo sp) < 36 := by unfold distN; simp only; split <;> omega
      rw [tDist_N ht hl, tDist_N ht h7, nI_ltI (by omega) (by omega)] at c26
      refine ok2i ?_
      unfold intoN
      rw [if_neg (b01_0 c5)]
      first | rw [if_pos (by omega)] | rw [if_neg (by omega)]
    · first | refine V_aload_n dX0_intoLimits_29 rfl rfl ?_ | refine V_aload_nN dX0_intoLimits_29 rfl rfl ?_
      refine G_geti (by exact hK) fX0_25 dX0_intoLimits_30 (by first | exact h4 | exact h5 | exact h6 | rfl) ?_
      refine V_goto (tgt := 40) dX0_intoLimits_33 (by decide) ?_
      refine V_iret rfl dX0_intoLimits_40 (Nat.le_of_ble_eq_true rfl) (Nat.le_of_ble_eq_true rfl) ?_
      have h7 := lastN_lt lo sp
      have g1 : distN t lo < 36 := by unfold distN; simp only; split <;> omega
      have g2 : distN t (lastN lo sp) < 36 := by unfold distN; simp only; split <;> omega
      rw [tDist_N ht hl, tDist_N ht h7, nI_ltI (by omega) (by omega)] at c26
      refine ok2i ?_
      unfold intoN
      rw [if_neg (b01_0 c5)]
      first | rw [if_pos (by omega)] | rw [if_neg (by omega)]
  · refine V_iload_n dX0_intoLimits_8 rfl rfl ?_
    refine V_iret rfl dX0_intoLimits_9 (Nat.le_of_ble_eq_true rfl) (Nat.le_of_ble_eq_true rfl) ?_
    exact ok2i (by unfold intoN; rw [if_pos (b01_1 c5)])

set_option maxRecDepth 100000 in
theorem c_X0_blended (t u v : Nat) (n lo sp : Nat) (w : Wd) (hK : wK w n = 1) (h4 : wI w n 4 = nI lo) (h5 : wI w n 5 = nI sp) (hl : lo < 36) (hs : sp < 36) (h6 : wI w n 6 = nI (lastN lo sp)) (ht : t < 36) (hu : u < 36) (hv : v ≤ 100) : Cc yX0_blended mX0_blended [.ref n, .int (nI t), .int (nI u), .int (nI v)] w (fun r w' => r = some (.int (nI (blendN lo sp t u v))) ∧ w' = w) := by
  refine Cc.of (by decide) rfl rfl (Nat.le_of_ble_eq_true rfl) (fun X => ?_)
  change V _ X _ 0 [(0, _), (1, _), (2, _), (3, _)] [] _ (0, 0)
  first | refine V_aload_n dX0_blended_0 rfl rfl ?_ | refine V_aload_nN dX0_blended_0 rfl rfl ?_
  refine V_iload_n dX0_blended_1 rfl rfl ?_
  refine V_iload_n dX0_blended_2 rfl rfl ?_
  refine V_iload_n dX0_blended_3 rfl rfl ?_
  refine V_callS (As := [_, _]) (st := _) (c_X7_shortWay _ _ _) kX0_47 ⟨rfl, rfl, rfl⟩ ⟨(Nat.le_of_ble_eq_true rfl), (Nat.le_of_ble_eq_true rfl)⟩ dX0_blended_4 rfl rfl (Nat.le_of_ble_eq_true rfl) ⟨(Nat.le_of_ble_eq_true rfl), (Nat.le_of_ble_eq_true rfl)⟩ ?_
  refine V_iload_n dX0_blended_7 rfl rfl ?_
  refine V_imul dX0_blended_8 ?_
  refine V_bipush (v := 100) dX0_blended_9 (by decide) ?_
  refine V_idiv dX0_blended_11 (by decide) ?_
  refine V_iadd dX0_blended_12 ?_
  refine V_callS (As := [_]) (st := _) (c_X7_normal _ _) kX0_50 ⟨rfl, rfl, rfl⟩ ⟨(Nat.le_of_ble_eq_true rfl), (Nat.le_of_ble_eq_true rfl)⟩ dX0_blended_13 rfl rfl (Nat.le_of_ble_eq_true rfl) ⟨(Nat.le_of_ble_eq_true rfl), (Nat.le_of_ble_eq_true rfl)⟩ ?_
  rw [blend_N ht hu hv]
  refine V_callV (As := [_]) (st := _) (c_X0_intoLimits _ n lo sp w hK h4 h5 hl hs h6 (addN_lt _ _)) kX0_54 (by exact hK) ⟨rfl, rfl, rfl⟩ ⟨(Nat.le_of_ble_eq_true rfl), (Nat.le_of_ble_eq_true rfl)⟩ dX0_blended_16 rfl rfl (Nat.le_of_ble_eq_true rfl) ⟨(Nat.le_of_ble_eq_true rfl), (Nat.le_of_ble_eq_true rfl)⟩ ?_
  refine V_iret rfl dX0_blended_19 (Nat.le_of_ble_eq_true rfl) (Nat.le_of_ble_eq_true rfl) ?_
  exact ok2i rfl

set_option maxRecDepth 100000 in
theorem c_X0_takeTurn (t : Nat) (n lo sp : Nat) (w : Wd) (hK : wK w n = 1) (h4 : wI w n 4 = nI lo) (h5 : wI w n 5 = nI sp) (hl : lo < 36) (hs : sp < 36) (h6 : wI w n 6 = nI (lastN lo sp)) (ht : t < 36) : Cc yX0_takeTurn mX0_takeTurn [.ref n, .int (nI t)] w (fun r w' => r = some (.int (b01 (¬ wi lo sp t))) ∧ w' = sI w n 7 (nI (intoN lo sp t))) := by
  refine Cc.of (by decide) rfl rfl (Nat.le_of_ble_eq_true rfl) (fun X => ?_)
  change V _ X _ 0 [(0, _), (1, _)] [] _ (0, 0)
  first | refine V_aload_n dX0_takeTurn_0 rfl rfl ?_ | refine V_aload_nN dX0_takeTurn_0 rfl rfl ?_
  first | refine V_aload_n dX0_takeTurn_1 rfl rfl ?_ | refine V_aload_nN dX0_takeTurn_1 rfl rfl ?_
  refine V_iload_n dX0_takeTurn_2 rfl rfl ?_
  refine V_callV (As := [_]) (st := _) (c_X0_intoLimits t n lo sp w hK h4 h5 hl hs h6 ht) kX0_54 (by exact hK) ⟨rfl, rfl, rfl⟩ ⟨(Nat.le_of_ble_eq_true rfl), (Nat.le_of_ble_eq_true rfl)⟩ dX0_takeTurn_3 rfl rfl (Nat.le_of_ble_eq_true rfl) ⟨(Nat.le_of_ble_eq_true rfl), (Nat.le_of_ble_eq_true rfl)⟩ ?_
  refine V_puti (by exact hK) pfX0_34 (fun h => nomatch h) dX0_takeTurn_6 ⟨rfl, rfl⟩ ?_
  first | refine V_aload_n dX0_takeTurn_9 rfl rfl ?_ | refine V_aload_nN dX0_takeTurn_9 rfl rfl ?_
  refine G_geti (by exact hK) fX0_34 dX0_takeTurn_10 (by first | exact if_pos ⟨rfl, rfl⟩ | rfl) ?_
  refine V_iload_n dX0_takeTurn_13 rfl rfl ?_
  refine V_icmp_ne (tgt := 21) dX0_takeTurn_14 (by decide) (fun c14 => ?_) (fun c14 => ?_)
  · refine V_iconst (v := 1) dX0_takeTurn_21 (by decide) ?_
    refine V_iret rfl dX0_takeTurn_22 (Nat.le_of_ble_eq_true rfl) (Nat.le_of_ble_eq_true rfl) ?_
    have h7 := intoN_lt (sp := sp) hl ht
    have h8 := wi_into (t := t) hl hs
    rw [nI_eq (by omega) (by omega)] at c14
    by_cases h9 : wi lo sp t
    · have e : intoN lo sp t = t := by unfold intoN; rw [if_pos h9]
      first | exact absurd e c14 | exact ⟨congrArg (fun z => some (Value.int z)) (b01_f (fun q => q h9)).symm, rfl⟩
    · have e : intoN lo sp t ≠ t := fun e => h9 (by rw [e] at h8; exact h8)
      first | exact absurd c14 e | exact ⟨congrArg (fun z => some (Value.int z)) (b01_t h9).symm, rfl⟩
  · refine V_iconst (v := 0) dX0_takeTurn_17 (by decide) ?_
    refine V_goto (tgt := 22) dX0_takeTurn_18 (by decide) ?_
    refine V_iret rfl dX0_takeTurn_22 (Nat.le_of_ble_eq_true rfl) (Nat.le_of_ble_eq_true rfl) ?_
    have h7 := intoN_lt (sp := sp) hl ht
    have h8 := wi_into (t := t) hl hs
    rw [nI_eq (by omega) (by omega)] at c14
    by_cases h9 : wi lo sp t
    · have e : intoN lo sp t = t := by unfold intoN; rw [if_pos h9]
      first | exact absurd e c14 | exact ⟨congrArg (fun z => some (Value.int z)) (b01_f (fun q => q h9)).symm, rfl⟩
    · have e : intoN lo sp t ≠ t := fun e => h9 (by rw [e] at h8; exact h8)
      first | exact absurd c14 e | exact ⟨congrArg (fun z => some (Value.int z)) (b01_t h9).symm, rfl⟩

theorem rdJ_ne {w : Wd} {n k a j : Nat} {x : Int64} (h : j ≠ k) : wJ (sJ w n k x) a j = wJ w a j := if_neg fun q => h q.2
theorem rdJ_nn {w : Wd} {n k a j : Nat} {x : Int64} (h : a ≠ n) : wJ (sJ w n k x) a j = wJ w a j := if_neg fun q => h q.1
theorem rdJ_eq {w : Wd} {n k : Nat} {x : Int64} : wJ (sJ w n k x) n k = x := if_pos ⟨rfl, rfl⟩
theorem rdI_ne {w : Wd} {n k a j : Nat} {x : Int32} (h : j ≠ k) : wI (sI w n k x) a j = wI w a j := if_neg fun q => h q.2
theorem rdI_nn {w : Wd} {n k a j : Nat} {x : Int32} (h : a ≠ n) : wI (sI w n k x) a j = wI w a j := if_neg fun q => h q.1
theorem rdI_eq {w : Wd} {n k : Nat} {x : Int32} : wI (sI w n k x) n k = x := if_pos ⟨rfl, rfl⟩
/-- where a bone's place begins, and what comes of it -/
def pSt (w : Wd) (rx ry : Int64) (po : Option Nat) : Q4 := match po with
  | none => (1160290625, 0, rx, ry)
  | some q => (wJ w q 10, wJ w q 11, wJ w q 12, wJ w q 13)
def pEv (f : Q4) (c s l : Int32) : Q4 := ((f.1 * c.toInt64 - f.2.1 * s.toInt64) / 65, (f.1 * s.toInt64 + f.2.1 * c.toInt64) / 65, f.2.2.1 + l.toInt64 * ((f.1 * c.toInt64 - f.2.1 * s.toInt64) / 65), f.2.2.2 + l.toInt64 * ((f.1 * s.toInt64 + f.2.1 * c.toInt64) / 65))
def plW (w : Wd) (n : Nat) (f : Q4) (v : Q4) : Wd := sJ (sJ (sJ (sJ (sJ (sJ w n 8 f.2.2.1) n 9 f.2.2.2) n 10 v.1) n 11 v.2.1) n 12 v.2.2.1) n 13 v.2.2.2

set_option maxRecDepth 100000 in
theorem c_X0_place (n : Nat) (rx ry : Int64) (po : Option Nat) (tn ln : Nat) (w : Wd) (hK : wK w n = 1) (hp : wR w n 0 = po) (hq : ∀ q, po = some q → wK w q = 1 ∧ q ≠ n) (h7 : wI w n 7 = nI tn) (ht : tn < 36) (h3 : wI w n 3 = nI ln) : Cc yX0_place mX0_place [.ref n, .long rx, .long ry] w (fun r w' => r = none ∧ w' = plW w n (pSt w rx ry po) (pEv (pSt w rx ry po) (cosF tn) (sinF tn) (nI ln))) := by
  refine Cc.of (by decide) rfl rfl (Nat.le_of_ble_eq_true rfl) (fun X => ?_)
  change V _ X _ 0 [(0, _), (1, _), (3, _)] [] _ (0, 0)
  cases po with
  | none =>
    first | refine V_aload_n dX0_place_0 rfl rfl ?_ | refine V_aload_nN dX0_place_0 rfl rfl ?_
    first | refine V_aload_n dX0_place_1 rfl rfl ?_ | refine V_aload_nN dX0_place_1 rfl rfl ?_
    first | refine V_getr (by exact hK) fX0_9 dX0_place_2 (by exact hp) ?_ | refine V_getrN (by exact hK) fX0_9 dX0_place_2 (by exact hp) ?_
    refine V_ifnonnullN dX0_place_5 ?_
    refine V_lload_n dX0_place_8 rfl rfl ?_
    refine V_goto (tgt := 19) dX0_place_9 (by decide) ?_
    refine V_putl (by exact hK) pfX0_61 (fun h => nomatch h) dX0_place_19 ?_
    first | refine V_aload_n dX0_place_22 rfl rfl ?_ | refine V_aload_nN dX0_place_22 rfl rfl ?_
    first | refine V_aload_n dX0_place_23 rfl rfl ?_ | refine V_aload_nN dX0_place_23 rfl rfl ?_
    first | refine V_getr (by exact hK) fX0_9 dX0_place_24 (by exact hp) ?_ | refine V_getrN (by exact hK) fX0_9 dX0_place_24 (by exact hp) ?_
    refine V_ifnonnullN dX0_place_27 ?_
    refine V_lload_n dX0_place_30 rfl rfl ?_
    refine V_goto (tgt := 41) dX0_place_31 (by decide) ?_
    refine V_putl (by exact hK) pfX0_67 (fun h => nomatch h) dX0_place_41 ?_
    first | refine V_aload_n dX0_place_44 rfl rfl ?_ | refine V_aload_nN dX0_place_44 rfl rfl ?_
    first | refine V_getr (by exact hK) fX0_9 dX0_place_45 (by exact hp) ?_ | refine V_getrN (by exact hK) fX0_9 dX0_place_45 (by exact hp) ?_
    refine V_ifnonnullN dX0_place_48 ?_
    refine V_ldc2 ctX0_70 dX0_place_51 ?_
    refine V_goto (tgt := 64) dX0_place_54 (by decide) ?_
    refine S_lstore (L' := [(0, _), (5, _)]) dX0_place_64 rfl rfl ?_
    first | refine V_aload_n dX0_place_66 rfl rfl ?_ | refine V_aload_nN dX0_place_66 rfl rfl ?_
    first | refine V_getr (by exact hK) fX0_9 dX0_place_67 (by exact hp) ?_ | refine V_getrN (by exact hK) fX0_9 dX0_place_67 (by exact hp) ?_
    refine V_ifnonnullN dX0_place_70 ?_
    refine V_lconst (v := 0) dX0_place_73 (by decide) ?_
    refine V_goto (tgt := 84) dX0_place_74 (by decide) ?_
    refine S_lstore (L' := [(0, _), (5, _), (7, _)]) dX0_place_84 rfl rfl ?_
    first | refine V_aload_n dX0_place_86 rfl rfl ?_ | refine V_aload_nN dX0_place_86 rfl rfl ?_
    refine G_geti (by exact hK) fX0_34 dX0_place_87 (by exact h7) ?_
    refine V_callS (As := [_]) (st := _) (c_X7_cosine _ _) kX0_78 ⟨rfl, rfl, rfl⟩ ⟨(Nat.le_of_ble_eq_true rfl), (Nat.le_of_ble_eq_true rfl)⟩ dX0_place_90 rfl rfl (Nat.le_of_ble_eq_true rfl) ⟨(Nat.le_of_ble_eq_true rfl), (Nat.le_of_ble_eq_true rfl)⟩ ?_
    rw [rN_nI ht]
    refine S_istore (L' := [(0, _), (5, _), (7, _), (9, _)]) dX0_place_93 rfl rfl ?_
    first | refine V_aload_n dX0_place_95 rfl rfl ?_ | refine V_aload_nN dX0_place_95 rfl rfl ?_
    refine G_geti (by exact hK) fX0_34 dX0_place_96 (by exact h7) ?_
    refine V_callS (As := [_]) (st := _) (c_X7_sine _ _) kX0_81 ⟨rfl, rfl, rfl⟩ ⟨(Nat.le_of_ble_eq_true rfl), (Nat.le_of_ble_eq_true rfl)⟩ dX0_place_99 rfl rfl (Nat.le_of_ble_eq_true rfl) ⟨(Nat.le_of_ble_eq_true rfl), (Nat.le_of_ble_eq_true rfl)⟩ ?_
    rw [rN_sin ht]
    refine S_istore (L' := [(0, _), (5, _), (7, _), (9, _), (10, _)]) dX0_place_102 rfl rfl ?_
    first | refine V_aload_n dX0_place_104 rfl rfl ?_ | refine V_aload_nN dX0_place_104 rfl rfl ?_
    refine V_lload dX0_place_105 rfl ?_
    refine V_iload dX0_place_107 rfl ?_
    refine V_i2l dX0_place_109 ?_
    refine V_lmul dX0_place_110 ?_
    refine V_lload dX0_place_111 rfl ?_
    refine V_iload dX0_place_113 rfl ?_
    refine V_i2l dX0_place_115 ?_
    refine V_lmul dX0_place_116 ?_
    refine V_lsub dX0_place_117 ?_
    refine V_ldc2 ctX0_84 dX0_place_118 ?_
    refine V_ldiv dX0_place_121 (by decide) ?_
    refine V_putl (by exact hK) pfX0_72 (fun h => nomatch h) dX0_place_122 ?_
    first | refine V_aload_n dX0_place_125 rfl rfl ?_ | refine V_aload_nN dX0_place_125 rfl rfl ?_
    refine V_lload dX0_place_126 rfl ?_
    refine V_iload dX0_place_128 rfl ?_
    refine V_i2l dX0_place_130 ?_
    refine V_lmul dX0_place_131 ?_
    refine V_lload dX0_place_132 rfl ?_
    refine V_iload dX0_place_134 rfl ?_
    refine V_i2l dX0_place_136 ?_
    refine V_lmul dX0_place_137 ?_
    refine V_ladd dX0_place_138 ?_
    refine V_ldc2 ctX0_84 dX0_place_139 ?_
    refine V_ldiv dX0_place_142 (by decide) ?_
    refine V_putl (by exact hK) pfX0_75 (fun h => nomatch h) dX0_place_143 ?_
    first | refine V_aload_n dX0_place_146 rfl rfl ?_ | refine V_aload_nN dX0_place_146 rfl rfl ?_
    first | refine V_aload_n dX0_place_147 rfl rfl ?_ | refine V_aload_nN dX0_place_147 rfl rfl ?_
    refine G_getl (by exact hK) fX0_61 dX0_place_148 (by exact (rdJ_ne (by decide)).trans ((rdJ_ne (by decide)).trans ((rdJ_ne (by decide)).trans rdJ_eq))) ?_
    first | refine V_aload_n dX0_place_151 rfl rfl ?_ | refine V_aload_nN dX0_place_151 rfl rfl ?_
    refine G_geti (by exact hK) fX0_22 dX0_place_152 (by exact h3) ?_
    refine V_i2l dX0_place_155 ?_
    first | refine V_aload_n dX0_place_156 rfl rfl ?_ | refine V_aload_nN dX0_place_156 rfl rfl ?_
    refine G_getl (by exact hK) fX0_72 dX0_place_157 (by exact (rdJ_ne (by decide)).trans rdJ_eq) ?_
    refine V_lmul dX0_place_160 ?_
    refine V_ladd dX0_place_161 ?_
    refine V_putl (by exact hK) pfX0_57 (fun h => nomatch h) dX0_place_162 ?_
    first | refine V_aload_n dX0_place_165 rfl rfl ?_ | refine V_aload_nN dX0_place_165 rfl rfl ?_
    first | refine V_aload_n dX0_place_166 rfl rfl ?_ | refine V_aload_nN dX0_place_166 rfl rfl ?_
    refine G_getl (by exact hK) fX0_67 dX0_place_167 (by exact (rdJ_ne (by decide)).trans ((rdJ_ne (by decide)).trans ((rdJ_ne (by decide)).trans rdJ_eq))) ?_
    first | refine V_aload_n dX0_place_170 rfl rfl ?_ | refine V_aload_nN dX0_place_170 rfl rfl ?_
    refine G_geti (by exact hK) fX0_22 dX0_place_171 (by exact h3) ?_
    refine V_i2l dX0_place_174 ?_
    first | refine V_aload_n dX0_place_175 rfl rfl ?_ | refine V_aload_nN dX0_place_175 rfl rfl ?_
    refine G_getl (by exact hK) fX0_75 dX0_place_176 (by exact (rdJ_ne (by decide)).trans rdJ_eq) ?_
    refine V_lmul dX0_place_179 ?_
    refine V_ladd dX0_place_180 ?_
    refine V_putl (by exact hK) pfX0_64 (fun h => nomatch h) dX0_place_181 ?_
    refine V_vret rfl dX0_place_184 (Nat.le_of_ble_eq_true rfl) (Nat.le_of_ble_eq_true rfl) ?_
    exact ⟨rfl, rfl⟩
  | some q =>
    first | refine V_aload_n dX0_place_0 rfl rfl ?_ | refine V_aload_nN dX0_place_0 rfl rfl ?_
    first | refine V_aload_n dX0_place_1 rfl rfl ?_ | refine V_aload_nN dX0_place_1 rfl rfl ?_
    first | refine V_getr (by first | exact hK | exact (hq q rfl).1) fX0_9 dX0_place_2 (by exact hp) ?_ | refine V_getrN (by first | exact hK | exact (hq q rfl).1) fX0_9 dX0_place_2 (by exact hp) ?_
    refine V_ifnonnull (tgt := 12) dX0_place_5 (by decide) ?_
    first | refine V_aload_n dX0_place_12 rfl rfl ?_ | refine V_aload_nN dX0_place_12 rfl rfl ?_
    first | refine V_getr (by first | exact hK | exact (hq q rfl).1) fX0_9 dX0_place_13 (by exact hp) ?_ | refine V_getrN (by first | exact hK | exact (hq q rfl).1) fX0_9 dX0_place_13 (by exact hp) ?_
    refine G_getl (by first | exact hK | exact (hq q rfl).1) fX0_57 dX0_place_16 (by rfl) ?_
    refine V_putl (by first | exact hK | exact (hq q rfl).1) pfX0_61 (fun h => nomatch h) dX0_place_19 ?_
    first | refine V_aload_n dX0_place_22 rfl rfl ?_ | refine V_aload_nN dX0_place_22 rfl rfl ?_
    first | refine V_aload_n dX0_place_23 rfl rfl ?_ | refine V_aload_nN dX0_place_23 rfl rfl ?_
    first | refine V_getr (by first | exact hK | exact (hq q rfl).1) fX0_9 dX0_place_24 (by exact hp) ?_ | refine V_getrN (by first | exact hK | exact (hq q rfl).1) fX0_9 dX0_place_24 (by exact hp) ?_
    refine V_ifnonnull (tgt := 34) dX0_place_27 (by decide) ?_
    first | refine V_aload_n dX0_place_34 rfl rfl ?_ | refine V_aload_nN dX0_place_34 rfl rfl ?_
    first | refine V_getr (by first | exact hK | exact (hq q rfl).1) fX0_9 dX0_place_35 (by exact hp) ?_ | refine V_getrN (by first | exact hK | exact (hq q rfl).1) fX0_9 dX0_place_35 (by exact hp) ?_
    refine G_getl (by first | exact hK | exact (hq q rfl).1) fX0_64 dX0_place_38 (by exact rdJ_nn (hq q rfl).2) ?_
    refine V_putl (by first | exact hK | exact (hq q rfl).1) pfX0_67 (fun h => nomatch h) dX0_place_41 ?_
    first | refine V_aload_n dX0_place_44 rfl rfl ?_ | refine V_aload_nN dX0_place_44 rfl rfl ?_
    first | refine V_getr (by first | exact hK | exact (hq q rfl).1) fX0_9 dX0_place_45 (by exact hp) ?_ | refine V_getrN (by first | exact hK | exact (hq q rfl).1) fX0_9 dX0_place_45 (by exact hp) ?_
    refine V_ifnonnull (tgt := 57) dX0_place_48 (by decide) ?_
    first | refine V_aload_n dX0_place_57 rfl rfl ?_ | refine V_aload_nN dX0_place_57 rfl rfl ?_
    first | refine V_getr (by first | exact hK | exact (hq q rfl).1) fX0_9 dX0_place_58 (by exact hp) ?_ | refine V_getrN (by first | exact hK | exact (hq q rfl).1) fX0_9 dX0_place_58 (by exact hp) ?_
    refine G_getl (by first | exact hK | exact (hq q rfl).1) fX0_72 dX0_place_61 (by exact (rdJ_nn (hq q rfl).2).trans (rdJ_nn (hq q rfl).2)) ?_
    refine S_lstore (L' := [(0, _), (5, _)]) dX0_place_64 rfl rfl ?_
    first | refine V_aload_n dX0_place_66 rfl rfl ?_ | refine V_aload_nN dX0_place_66 rfl rfl ?_
    first | refine V_getr (by first | exact hK | exact (hq q rfl).1) fX0_9 dX0_place_67 (by exact hp) ?_ | refine V_getrN (by first | exact hK | exact (hq q rfl).1) fX0_9 dX0_place_67 (by exact hp) ?_
    refine V_ifnonnull (tgt := 77) dX0_place_70 (by decide) ?_
    first | refine V_aload_n dX0_place_77 rfl rfl ?_ | refine V_aload_nN dX0_place_77 rfl rfl ?_
    first | refine V_getr (by first | exact hK | exact (hq q rfl).1) fX0_9 dX0_place_78 (by exact hp) ?_ | refine V_getrN (by first | exact hK | exact (hq q rfl).1) fX0_9 dX0_place_78 (by exact hp) ?_
    refine G_getl (by first | exact hK | exact (hq q rfl).1) fX0_75 dX0_place_81 (by exact (rdJ_nn (hq q rfl).2).trans (rdJ_nn (hq q rfl).2)) ?_
    refine S_lstore (L' := [(0, _), (5, _), (7, _)]) dX0_place_84 rfl rfl ?_
    first | refine V_aload_n dX0_place_86 rfl rfl ?_ | refine V_aload_nN dX0_place_86 rfl rfl ?_
    refine G_geti (by first | exact hK | exact (hq q rfl).1) fX0_34 dX0_place_87 (by exact h7) ?_
    refine V_callS (As := [_]) (st := _) (c_X7_cosine _ _) kX0_78 ⟨rfl, rfl, rfl⟩ ⟨(Nat.le_of_ble_eq_true rfl), (Nat.le_of_ble_eq_true rfl)⟩ dX0_place_90 rfl rfl (Nat.le_of_ble_eq_true rfl) ⟨(Nat.le_of_ble_eq_true rfl), (Nat.le_of_ble_eq_true rfl)⟩ ?_
    rw [rN_nI ht]
    refine S_istore (L' := [(0, _), (5, _), (7, _), (9, _)]) dX0_place_93 rfl rfl ?_
    first | refine V_aload_n dX0_place_95 rfl rfl ?_ | refine V_aload_nN dX0_place_95 rfl rfl ?_
    refine G_geti (by first | exact hK | exact (hq q rfl).1) fX0_34 dX0_place_96 (by exact h7) ?_
    refine V_callS (As := [_]) (st := _) (c_X7_sine _ _) kX0_81 ⟨rfl, rfl, rfl⟩ ⟨(Nat.le_of_ble_eq_true rfl), (Nat.le_of_ble_eq_true rfl)⟩ dX0_place_99 rfl rfl (Nat.le_of_ble_eq_true rfl) ⟨(Nat.le_of_ble_eq_true rfl), (Nat.le_of_ble_eq_true rfl)⟩ ?_
    rw [rN_sin ht]
    refine S_istore (L' := [(0, _), (5, _), (7, _), (9, _), (10, _)]) dX0_place_102 rfl rfl ?_
    first | refine V_aload_n dX0_place_104 rfl rfl ?_ | refine V_aload_nN dX0_place_104 rfl rfl ?_
    refine V_lload dX0_place_105 rfl ?_
    refine V_iload dX0_place_107 rfl ?_
    refine V_i2l dX0_place_109 ?_
    refine V_lmul dX0_place_110 ?_
    refine V_lload dX0_place_111 rfl ?_
    refine V_iload dX0_place_113 rfl ?_
    refine V_i2l dX0_place_115 ?_
    refine V_lmul dX0_place_116 ?_
    refine V_lsub dX0_place_117 ?_
    refine V_ldc2 ctX0_84 dX0_place_118 ?_
    refine V_ldiv dX0_place_121 (by decide) ?_
    refine V_putl (by first | exact hK | exact (hq q rfl).1) pfX0_72 (fun h => nomatch h) dX0_place_122 ?_
    first | refine V_aload_n dX0_place_125 rfl rfl ?_ | refine V_aload_nN dX0_place_125 rfl rfl ?_
    refine V_lload dX0_place_126 rfl ?_
    refine V_iload dX0_place_128 rfl ?_
    refine V_i2l dX0_place_130 ?_
    refine V_lmul dX0_place_131 ?_
    refine V_lload dX0_place_132 rfl ?_
    refine V_iload dX0_place_134 rfl ?_
    refine V_i2l dX0_place_136 ?_
    refine V_lmul dX0_place_137 ?_
    refine V_ladd dX0_place_138 ?_
    refine V_ldc2 ctX0_84 dX0_place_139 ?_
    refine V_ldiv dX0_place_142 (by decide) ?_
    refine V_putl (by first | exact hK | exact (hq q rfl).1) pfX0_75 (fun h => nomatch h) dX0_place_143 ?_
    first | refine V_aload_n dX0_place_146 rfl rfl ?_ | refine V_aload_nN dX0_place_146 rfl rfl ?_
    first | refine V_aload_n dX0_place_147 rfl rfl ?_ | refine V_aload_nN dX0_place_147 rfl rfl ?_
    refine G_getl (by first | exact hK | exact (hq q rfl).1) fX0_61 dX0_place_148 (by exact (rdJ_ne (by decide)).trans ((rdJ_ne (by decide)).trans ((rdJ_ne (by decide)).trans rdJ_eq))) ?_
    first | refine V_aload_n dX0_place_151 rfl rfl ?_ | refine V_aload_nN dX0_place_151 rfl rfl ?_
    refine G_geti (by first | exact hK | exact (hq q rfl).1) fX0_22 dX0_place_152 (by exact h3) ?_
    refine V_i2l dX0_place_155 ?_
    first | refine V_aload_n dX0_place_156 rfl rfl ?_ | refine V_aload_nN dX0_place_156 rfl rfl ?_
    refine G_getl (by first | exact hK | exact (hq q rfl).1) fX0_72 dX0_place_157 (by exact (rdJ_ne (by decide)).trans rdJ_eq) ?_
    refine V_lmul dX0_place_160 ?_
    refine V_ladd dX0_place_161 ?_
    refine V_putl (by first | exact hK | exact (hq q rfl).1) pfX0_57 (fun h => nomatch h) dX0_place_162 ?_
    first | refine V_aload_n dX0_place_165 rfl rfl ?_ | refine V_aload_nN dX0_place_165 rfl rfl ?_
    first | refine V_aload_n dX0_place_166 rfl rfl ?_ | refine V_aload_nN dX0_place_166 rfl rfl ?_
    refine G_getl (by first | exact hK | exact (hq q rfl).1) fX0_67 dX0_place_167 (by exact (rdJ_ne (by decide)).trans ((rdJ_ne (by decide)).trans ((rdJ_ne (by decide)).trans rdJ_eq))) ?_
    first | refine V_aload_n dX0_place_170 rfl rfl ?_ | refine V_aload_nN dX0_place_170 rfl rfl ?_
    refine G_geti (by first | exact hK | exact (hq q rfl).1) fX0_22 dX0_place_171 (by exact h3) ?_
    refine V_i2l dX0_place_174 ?_
    first | refine V_aload_n dX0_place_175 rfl rfl ?_ | refine V_aload_nN dX0_place_175 rfl rfl ?_
    refine G_getl (by first | exact hK | exact (hq q rfl).1) fX0_75 dX0_place_176 (by exact (rdJ_ne (by decide)).trans rdJ_eq) ?_
    refine V_lmul dX0_place_179 ?_
    refine V_ladd dX0_place_180 ?_
    refine V_putl (by first | exact hK | exact (hq q rfl).1) pfX0_64 (fun h => nomatch h) dX0_place_181 ?_
    refine V_vret rfl dX0_place_184 (Nat.le_of_ble_eq_true rfl) (Nat.le_of_ble_eq_true rfl) ?_
    exact ⟨rfl, rfl⟩

set_option maxRecDepth 100000 in
theorem c_X0_farFrom (n : Nat) (x y ex ey : Int64) (w : Wd) (hK : wK w n = 1) (h12 : wJ w n 12 = ex) (h13 : wJ w n 13 = ey) : Cc yX0_farFrom mX0_farFrom [.ref n, .long x, .long y] w (fun r w' => r = some (.long (farL ex ey x y)) ∧ w' = w) := by
  refine Cc.of (by decide) rfl rfl (Nat.le_of_ble_eq_true rfl) (fun X => ?_)
  change V _ X _ 0 [(0, _), (1, _), (3, _)] [] _ (0, 0)
  first | refine V_aload_n dX0_farFrom_0 rfl rfl ?_ | refine V_aload_nN dX0_farFrom_0 rfl rfl ?_
  refine G_getl (by exact hK) fX0_57 dX0_farFrom_1 (by first | exact h12 | exact h13) ?_
  refine V_lload_n dX0_farFrom_4 rfl rfl ?_
  refine V_lsub dX0_farFrom_5 ?_
  refine V_labs koX0_86 sy_abs.1 sy_abs.2.1 sy_abs.2.2 (Nat.le_of_ble_eq_true rfl) (Nat.le_of_ble_eq_true rfl) (Nat.le_of_ble_eq_true rfl) (Nat.le_of_ble_eq_true rfl) dX0_farFrom_6 ?_
  first | refine V_aload_n dX0_farFrom_9 rfl rfl ?_ | refine V_aload_nN dX0_farFrom_9 rfl rfl ?_
  refine G_getl (by exact hK) fX0_64 dX0_farFrom_10 (by first | exact h12 | exact h13) ?_
  refine V_lload_n dX0_farFrom_13 rfl rfl ?_
  refine V_lsub dX0_farFrom_14 ?_
  refine V_labs koX0_86 sy_abs.1 sy_abs.2.1 sy_abs.2.2 (Nat.le_of_ble_eq_true rfl) (Nat.le_of_ble_eq_true rfl) (Nat.le_of_ble_eq_true rfl) (Nat.le_of_ble_eq_true rfl) dX0_farFrom_15 ?_
  refine V_lmax koX0_92 sy_max.1 sy_max.2.1 sy_max.2.2 (Nat.le_of_ble_eq_true rfl) (Nat.le_of_ble_eq_true rfl) (Nat.le_of_ble_eq_true rfl) (Nat.le_of_ble_eq_true rfl) dX0_farFrom_18 ?_
  refine V_lret rfl dX0_farFrom_21 (Nat.le_of_ble_eq_true rfl) (Nat.le_of_ble_eq_true rfl) ?_
  exact ⟨rfl, rfl⟩

def farT (sx sy qx qy x y : Int64) (t : Nat) : Int64 := farL (sx + (qx * (cosF t).toInt64 - qy * (sinF t).toInt64) / 65) (sy + (qx * (sinF t).toInt64 + qy * (cosF t).toInt64) / 65) x y

set_option maxRecDepth 100000 in
theorem c_X0_farTurned (n : Nat) (qx qy x y sx sy : Int64) (t : Nat) (w : Wd) (hK : wK w n = 1) (h8 : wJ w n 8 = sx) (h9 : wJ w n 9 = sy) (ht : t < 36) : Cc yX0_farTurned mX0_farTurned [.ref n, .long qx, .long qy, .long x, .long y, .int (nI t)] w (fun r w' => r = some (.long (farT sx sy qx qy x y t)) ∧ w' = w) := by
  refine Cc.of (by decide) rfl rfl (Nat.le_of_ble_eq_true rfl) (fun X => ?_)
  change V _ X _ 0 [(0, _), (1, _), (3, _), (5, _), (7, _), (9, _)] [] _ (0, 0)
  refine V_iload dX0_farTurned_0 rfl ?_
  refine V_callS (As := [_]) (st := _) (c_X7_cosine _ _) kX0_78 ⟨rfl, rfl, rfl⟩ ⟨(Nat.le_of_ble_eq_true rfl), (Nat.le_of_ble_eq_true rfl)⟩ dX0_farTurned_2 rfl rfl (Nat.le_of_ble_eq_true rfl) ⟨(Nat.le_of_ble_eq_true rfl), (Nat.le_of_ble_eq_true rfl)⟩ ?_
  rw [rN_nI ht]
  refine S_istore (L' := [(0, _), (1, _), (3, _), (5, _), (7, _), (9, _), (10, _)]) dX0_farTurned_5 rfl rfl ?_
  refine V_iload dX0_farTurned_7 rfl ?_
  refine V_callS (As := [_]) (st := _) (c_X7_sine _ _) kX0_81 ⟨rfl, rfl, rfl⟩ ⟨(Nat.le_of_ble_eq_true rfl), (Nat.le_of_ble_eq_true rfl)⟩ dX0_farTurned_9 rfl rfl (Nat.le_of_ble_eq_true rfl) ⟨(Nat.le_of_ble_eq_true rfl), (Nat.le_of_ble_eq_true rfl)⟩ ?_
  rw [rN_sin ht]
  refine S_istore (L' := [(0, _), (1, _), (3, _), (5, _), (7, _), (10, _), (11, _)]) dX0_farTurned_12 rfl rfl ?_
  first | refine V_aload_n dX0_farTurned_14 rfl rfl ?_ | refine V_aload_nN dX0_farTurned_14 rfl rfl ?_
  refine G_getl (by exact hK) fX0_61 dX0_farTurned_15 (by first | exact h8 | exact h9) ?_
  refine V_lload_n dX0_farTurned_18 rfl rfl ?_
  refine V_iload dX0_farTurned_19 rfl ?_
  refine V_i2l dX0_farTurned_21 ?_
  refine V_lmul dX0_farTurned_22 ?_
  refine V_lload_n dX0_farTurned_23 rfl rfl ?_
  refine V_iload dX0_farTurned_24 rfl ?_
  refine V_i2l dX0_farTurned_26 ?_
  refine V_lmul dX0_farTurned_27 ?_
  refine V_lsub dX0_farTurned_28 ?_
  refine V_ldc2 ctX0_84 dX0_farTurned_29 ?_
  refine V_ldiv dX0_farTurned_32 (by decide) ?_
  refine V_ladd dX0_farTurned_33 ?_
  refine S_lstore (L' := [(0, _), (1, _), (3, _), (5, _), (7, _), (10, _), (11, _), (12, _)]) dX0_farTurned_34 rfl rfl ?_
  first | refine V_aload_n dX0_farTurned_36 rfl rfl ?_ | refine V_aload_nN dX0_farTurned_36 rfl rfl ?_
  refine G_getl (by exact hK) fX0_67 dX0_farTurned_37 (by first | exact h8 | exact h9) ?_
  refine V_lload_n dX0_farTurned_40 rfl rfl ?_
  refine V_iload dX0_farTurned_41 rfl ?_
  refine V_i2l dX0_farTurned_43 ?_
  refine V_lmul dX0_farTurned_44 ?_
  refine V_lload_n dX0_farTurned_45 rfl rfl ?_
  refine V_iload dX0_farTurned_46 rfl ?_
  refine V_i2l dX0_farTurned_48 ?_
  refine V_lmul dX0_farTurned_49 ?_
  refine V_ladd dX0_farTurned_50 ?_
  refine V_ldc2 ctX0_84 dX0_farTurned_51 ?_
  refine V_ldiv dX0_farTurned_54 (by decide) ?_
  refine V_ladd dX0_farTurned_55 ?_
  refine S_lstore (L' := [(5, _), (7, _), (12, _), (14, _)]) dX0_farTurned_56 rfl rfl ?_
  refine V_lload dX0_farTurned_58 rfl ?_
  refine V_lload dX0_farTurned_60 rfl ?_
  refine V_lsub dX0_farTurned_62 ?_
  refine V_labs koX0_86 sy_abs.1 sy_abs.2.1 sy_abs.2.2 (Nat.le_of_ble_eq_true rfl) (Nat.le_of_ble_eq_true rfl) (Nat.le_of_ble_eq_true rfl) (Nat.le_of_ble_eq_true rfl) dX0_farTurned_63 ?_
  refine V_lload dX0_farTurned_66 rfl ?_
  refine V_lload dX0_farTurned_68 rfl ?_
  refine V_lsub dX0_farTurned_70 ?_
  refine V_labs koX0_86 sy_abs.1 sy_abs.2.1 sy_abs.2.2 (Nat.le_of_ble_eq_true rfl) (Nat.le_of_ble_eq_true rfl) (Nat.le_of_ble_eq_true rfl) (Nat.le_of_ble_eq_true rfl) dX0_farTurned_71 ?_
  refine V_lmax koX0_92 sy_max.1 sy_max.2.1 sy_max.2.2 (Nat.le_of_ble_eq_true rfl) (Nat.le_of_ble_eq_true rfl) (Nat.le_of_ble_eq_true rfl) (Nat.le_of_ble_eq_true rfl) dX0_farTurned_74 ?_
  refine V_lret rfl dX0_farTurned_77 (Nat.le_of_ble_eq_true rfl) (Nat.le_of_ble_eq_true rfl) ?_
  exact ⟨rfl, rfl⟩

/-- the first least one, but what was there stays if it is as good -/
def scan (f : Nat → Int64) (al : Nat → Bool) : Nat → Int64 × Nat → Int64 × Nat
  | 0, z => z
  | t + 1, z => if al t = true ∧ f t < (scan f al t z).1 then (f t, t) else scan f al t z
theorem scan_no {f : Nat → Int64} {al : Nat → Bool} {t : Nat} {z z0 : Int64 × Nat} (h : z = scan f al t z0) (h1 : ¬ al t = true) : z = scan f al (t + 1) z0 := by
  rw [scan, if_neg (fun q => h1 q.1)]; exact h
theorem scan_ge {f : Nat → Int64} {al : Nat → Bool} {t : Nat} {z z0 : Int64 × Nat} (h : z = scan f al t z0) (h1 : ¬ f t < z.1) : z = scan f al (t + 1) z0 := by
  rw [scan, if_neg (fun q => h1 (by rw [h]; exact q.2))]; exact h
theorem scan_lt {f : Nat → Int64} {al : Nat → Bool} {t : Nat} {z z0 : Int64 × Nat} (h : z = scan f al t z0) (h2 : al t = true) (h1 : f t < z.1) : (f t, t) = scan f al (t + 1) z0 := by
  rw [scan, if_pos ⟨h2, by rw [← h]; exact h1⟩]
theorem scan_le {f : Nat → Int64} {al : Nat → Bool} {z : Int64 × Nat} {m : Nat} (hz : z.2 < m) : ∀ t, t ≤ m → (scan f al t z).2 < m
  | 0, _ => hz
  | t + 1, h => by
    rw [scan]
    split
    · exact h
    · exact scan_le hz t (by omega)
theorem nI_inc (t : Nat) : nI t + Int32.ofInt 1 = nI (t + 1) := nI_1 t
def alB (lo sp t : Nat) : Bool := decide (wi lo sp t)
/-- the way from a bone to the tip, turned back to TURN 0 -/
def strX (ex ey sx sy : Int64) (t : Nat) : Int64 := ((ex - sx) * (cosF t).toInt64 + (ey - sy) * (sinF t).toInt64) / 65
def strY (ex ey sx sy : Int64) (t : Nat) : Int64 := ((ey - sy) * (cosF t).toInt64 - (ex - sx) * (sinF t).toInt64) / 65
def nearF (ex ey sx sy x y : Int64) (t : Nat) : Nat → Int64 := farT sx sy (strX ex ey sx sy t) (strY ex ey sx sy t) x y
def nearT (ex ey sx sy x y : Int64) (lo sp t fa : Nat) : Nat := (scan (nearF ex ey sx sy x y t) (alB lo sp) 36 (nearF ex ey sx sy x y t fa, fa)).2

set_option maxRecDepth 100000 in
theorem c_X0_nearestTurn (n m : Nat) (x y ex ey sx sy : Int64) (tn fa lo sp : Nat) (w : Wd) (hK : wK w n = 1) (hM : wK w m = 1) (h4 : wI w n 4 = nI lo) (h5 : wI w n 5 = nI sp) (h7 : wI w n 7 = nI tn) (h8 : wJ w n 8 = sx) (h9 : wJ w n 9 = sy) (h12 : wJ w m 12 = ex) (h13 : wJ w m 13 = ey) (hl : lo < 36) (hs : sp < 36) (ht : tn < 36) (hfa : fa < 36) : Cc yX0_nearestTurn mX0_nearestTurn [.ref n, .ref m, .long x, .long y, .int (nI fa)] w (fun r w' => r = some (.int (nI (nearT ex ey sx sy x y lo sp tn fa))) ∧ w' = w) := by
  refine Cc.of (by decide) rfl rfl (Nat.le_of_ble_eq_true rfl) (fun X => ?_)
  change V _ X _ 0 [(0, _), (1, _), (2, _), (4, _), (6, _)] [] _ (0, 0)
  have loop : ∀ (d t : Nat) (z : Int64 × Nat), t + d = 36 → z = scan (nearF ex ey sx sy x y tn) (alB lo sp) t (nearF ex ey sx sy x y tn fa, fa) → V mX0_nearestTurn X (mq mX0_nearestTurn X (fun r w' => r = some (.int (nI (nearT ex ey sx sy x y lo sp tn fa))) ∧ w' = w)) 100 [(0, .ref n), (2, .long x), (4, .long y), (13, .long (strX ex ey sx sy tn)), (15, .long (strY ex ey sx sy tn)), (17, .int (nI z.2)), (18, .long z.1), (20, .int (nI t))] [] w (0, 0) := by
    intro d
    induction d with
    | zero =>
      intro t z h36 hz
      obtain rfl : t = 36 := h36
      refine V_iload dX0_nearestTurn_100 rfl ?_
      refine V_bipush (v := 36) dX0_nearestTurn_102 (by decide) ?_
      refine V_icmp_ge (tgt := 153) dX0_nearestTurn_104 (by decide) (fun c104 => ?_) (fun c104 => False.elim (by exact c104 (by decide)))
      refine V_iload dX0_nearestTurn_153 rfl ?_
      refine V_iret rfl dX0_nearestTurn_155 (Nat.le_of_ble_eq_true rfl) (Nat.le_of_ble_eq_true rfl) ?_
      exact ok2i (by rw [hz]; rfl)
    | succ d ih =>
      intro t z h36 hz
      refine V_iload dX0_nearestTurn_100 rfl ?_
      refine V_bipush (v := 36) dX0_nearestTurn_102 (by decide) ?_
      refine V_icmp_ge (tgt := 153) dX0_nearestTurn_104 (by decide) (fun c104 => False.elim (by exact nI_ge (a := t) (b := 36) (by omega) (by decide) c104)) (fun c104 => ?_)
      first | refine V_aload_n dX0_nearestTurn_107 rfl rfl ?_ | refine V_aload_nN dX0_nearestTurn_107 rfl rfl ?_
      refine V_iload dX0_nearestTurn_108 rfl ?_
      refine V_callV (As := [_]) (st := _) (c_X0_allows t n lo sp w hK h4 h5 hl hs (by omega)) kX0_37 (by first | exact hK | exact hM) ⟨rfl, rfl, rfl⟩ ⟨(Nat.le_of_ble_eq_true rfl), (Nat.le_of_ble_eq_true rfl)⟩ dX0_nearestTurn_110 rfl rfl (Nat.le_of_ble_eq_true rfl) ⟨(Nat.le_of_ble_eq_true rfl), (Nat.le_of_ble_eq_true rfl)⟩ ?_
      refine V_if_eq (tgt := 147) dX0_nearestTurn_113 (by decide) (fun c113 => ?_) (fun c113 => ?_)
      · refine S_iinc (L' := [(0, _), (2, _), (4, _), (13, _), (15, _), (17, _), (18, _), (20, _)]) dX0_nearestTurn_147 rfl rfl rfl rfl ?_
        rw [nI_inc]
        refine V_goto (tgt := 100) dX0_nearestTurn_150 (by decide) ?_
        first | exact ih (t + 1) z (by omega) (scan_no hz (fun q => b01_0 c113 (of_decide_eq_true q))) | exact ih (t + 1) z (by omega) (scan_ge hz c135) | exact ih (t + 1) (nearF ex ey sx sy x y tn t, t) (by omega) (scan_lt hz (decide_eq_true (b01_1 c113)) c135)
      · first | refine V_aload_n dX0_nearestTurn_116 rfl rfl ?_ | refine V_aload_nN dX0_nearestTurn_116 rfl rfl ?_
        refine V_lload dX0_nearestTurn_117 rfl ?_
        refine V_lload dX0_nearestTurn_119 rfl ?_
        refine V_lload_n dX0_nearestTurn_121 rfl rfl ?_
        refine V_lload dX0_nearestTurn_122 rfl ?_
        refine V_iload dX0_nearestTurn_124 rfl ?_
        refine V_callV (As := [_, _, _, _, _]) (st := _) (c_X0_farTurned n _ _ x y sx sy t w hK h8 h9 (by omega)) kX0_96 (by first | exact hK | exact hM) ⟨rfl, rfl, rfl⟩ ⟨(Nat.le_of_ble_eq_true rfl), (Nat.le_of_ble_eq_true rfl)⟩ dX0_nearestTurn_126 rfl rfl (Nat.le_of_ble_eq_true rfl) ⟨(Nat.le_of_ble_eq_true rfl), (Nat.le_of_ble_eq_true rfl)⟩ ?_
        refine S_lstore (L' := [(0, _), (2, _), (4, _), (13, _), (15, _), (17, _), (18, _), (20, _), (21, _)]) dX0_nearestTurn_129 rfl rfl ?_
        refine V_lload dX0_nearestTurn_131 rfl ?_
        refine V_lload dX0_nearestTurn_133 rfl ?_
        refine V_lcmp_ge (tgt := 147) dX0_nearestTurn_135 dX0_nearestTurn_136 (by decide) (fun c135 => ?_) (fun c135 => ?_)
        · refine S_iinc (L' := [(0, _), (2, _), (4, _), (13, _), (15, _), (17, _), (18, _), (20, _)]) dX0_nearestTurn_147 rfl rfl rfl rfl ?_
          rw [nI_inc]
          refine V_goto (tgt := 100) dX0_nearestTurn_150 (by decide) ?_
          first | exact ih (t + 1) z (by omega) (scan_no hz (fun q => b01_0 c113 (of_decide_eq_true q))) | exact ih (t + 1) z (by omega) (scan_ge hz c135) | exact ih (t + 1) (nearF ex ey sx sy x y tn t, t) (by omega) (scan_lt hz (decide_eq_true (b01_1 c113)) c135)
        · refine V_lload dX0_nearestTurn_139 rfl ?_
          refine S_lstore (L' := [(0, _), (2, _), (4, _), (13, _), (15, _), (18, _), (20, _)]) dX0_nearestTurn_141 rfl rfl ?_
          refine V_iload dX0_nearestTurn_143 rfl ?_
          refine S_istore (L' := [(0, _), (2, _), (4, _), (13, _), (15, _), (17, _), (18, _), (20, _)]) dX0_nearestTurn_145 rfl rfl ?_
          refine S_iinc (L' := [(0, _), (2, _), (4, _), (13, _), (15, _), (17, _), (18, _), (20, _)]) dX0_nearestTurn_147 rfl rfl rfl rfl ?_
          rw [nI_inc]
          refine V_goto (tgt := 100) dX0_nearestTurn_150 (by decide) ?_
          first | exact ih (t + 1) z (by omega) (scan_no hz (fun q => b01_0 c113 (of_decide_eq_true q))) | exact ih (t + 1) z (by omega) (scan_ge hz c135) | exact ih (t + 1) (nearF ex ey sx sy x y tn t, t) (by omega) (scan_lt hz (decide_eq_true (b01_1 c113)) c135)
  first | refine V_aload_n dX0_nearestTurn_0 rfl rfl ?_ | refine V_aload_nN dX0_nearestTurn_0 rfl rfl ?_
  refine G_getl (by first | exact hK | exact hM) fX0_57 dX0_nearestTurn_1 (by first | exact h8 | exact h9 | exact h12 | exact h13 | exact h7) ?_
  first | refine V_aload_n dX0_nearestTurn_4 rfl rfl ?_ | refine V_aload_nN dX0_nearestTurn_4 rfl rfl ?_
  refine G_getl (by first | exact hK | exact hM) fX0_61 dX0_nearestTurn_5 (by first | exact h8 | exact h9 | exact h12 | exact h13 | exact h7) ?_
  refine V_lsub dX0_nearestTurn_8 ?_
  refine S_lstore (L' := [(0, _), (1, _), (2, _), (4, _), (6, _), (7, _)]) dX0_nearestTurn_9 rfl rfl ?_
  first | refine V_aload_n dX0_nearestTurn_11 rfl rfl ?_ | refine V_aload_nN dX0_nearestTurn_11 rfl rfl ?_
  refine G_getl (by first | exact hK | exact hM) fX0_64 dX0_nearestTurn_12 (by first | exact h8 | exact h9 | exact h12 | exact h13 | exact h7) ?_
  first | refine V_aload_n dX0_nearestTurn_15 rfl rfl ?_ | refine V_aload_nN dX0_nearestTurn_15 rfl rfl ?_
  refine G_getl (by first | exact hK | exact hM) fX0_67 dX0_nearestTurn_16 (by first | exact h8 | exact h9 | exact h12 | exact h13 | exact h7) ?_
  refine V_lsub dX0_nearestTurn_19 ?_
  refine S_lstore (L' := [(0, _), (2, _), (4, _), (6, _), (7, _), (9, _)]) dX0_nearestTurn_20 rfl rfl ?_
  first | refine V_aload_n dX0_nearestTurn_22 rfl rfl ?_ | refine V_aload_nN dX0_nearestTurn_22 rfl rfl ?_
  refine G_geti (by first | exact hK | exact hM) fX0_34 dX0_nearestTurn_23 (by first | exact h8 | exact h9 | exact h12 | exact h13 | exact h7) ?_
  refine V_callS (As := [_]) (st := _) (c_X7_cosine _ _) kX0_78 ⟨rfl, rfl, rfl⟩ ⟨(Nat.le_of_ble_eq_true rfl), (Nat.le_of_ble_eq_true rfl)⟩ dX0_nearestTurn_26 rfl rfl (Nat.le_of_ble_eq_true rfl) ⟨(Nat.le_of_ble_eq_true rfl), (Nat.le_of_ble_eq_true rfl)⟩ ?_
  rw [rN_nI ht]
  refine S_istore (L' := [(0, _), (2, _), (4, _), (6, _), (7, _), (9, _), (11, _)]) dX0_nearestTurn_29 rfl rfl ?_
  first | refine V_aload_n dX0_nearestTurn_31 rfl rfl ?_ | refine V_aload_nN dX0_nearestTurn_31 rfl rfl ?_
  refine G_geti (by first | exact hK | exact hM) fX0_34 dX0_nearestTurn_32 (by first | exact h8 | exact h9 | exact h12 | exact h13 | exact h7) ?_
  refine V_callS (As := [_]) (st := _) (c_X7_sine _ _) kX0_81 ⟨rfl, rfl, rfl⟩ ⟨(Nat.le_of_ble_eq_true rfl), (Nat.le_of_ble_eq_true rfl)⟩ dX0_nearestTurn_35 rfl rfl (Nat.le_of_ble_eq_true rfl) ⟨(Nat.le_of_ble_eq_true rfl), (Nat.le_of_ble_eq_true rfl)⟩ ?_
  rw [rN_sin ht]
  refine S_istore (L' := [(0, _), (2, _), (4, _), (6, _), (7, _), (9, _), (11, _), (12, _)]) dX0_nearestTurn_38 rfl rfl ?_
  refine V_lload dX0_nearestTurn_40 rfl ?_
  refine V_iload dX0_nearestTurn_42 rfl ?_
  refine V_i2l dX0_nearestTurn_44 ?_
  refine V_lmul dX0_nearestTurn_45 ?_
  refine V_lload dX0_nearestTurn_46 rfl ?_
  refine V_iload dX0_nearestTurn_48 rfl ?_
  refine V_i2l dX0_nearestTurn_50 ?_
  refine V_lmul dX0_nearestTurn_51 ?_
  refine V_ladd dX0_nearestTurn_52 ?_
  refine V_ldc2 ctX0_84 dX0_nearestTurn_53 ?_
  refine V_ldiv dX0_nearestTurn_56 (by decide) ?_
  refine S_lstore (L' := [(0, _), (2, _), (4, _), (6, _), (7, _), (9, _), (11, _), (12, _), (13, _)]) dX0_nearestTurn_57 rfl rfl ?_
  refine V_lload dX0_nearestTurn_59 rfl ?_
  refine V_iload dX0_nearestTurn_61 rfl ?_
  refine V_i2l dX0_nearestTurn_63 ?_
  refine V_lmul dX0_nearestTurn_64 ?_
  refine V_lload dX0_nearestTurn_65 rfl ?_
  refine V_iload dX0_nearestTurn_67 rfl ?_
  refine V_i2l dX0_nearestTurn_69 ?_
  refine V_lmul dX0_nearestTurn_70 ?_
  refine V_lsub dX0_nearestTurn_71 ?_
  refine V_ldc2 ctX0_84 dX0_nearestTurn_72 ?_
  refine V_ldiv dX0_nearestTurn_75 (by decide) ?_
  refine S_lstore (L' := [(0, _), (2, _), (4, _), (6, _), (13, _), (15, _)]) dX0_nearestTurn_76 rfl rfl ?_
  refine V_iload dX0_nearestTurn_78 rfl ?_
  refine S_istore (L' := [(0, _), (2, _), (4, _), (6, _), (13, _), (15, _), (17, _)]) dX0_nearestTurn_80 rfl rfl ?_
  first | refine V_aload_n dX0_nearestTurn_82 rfl rfl ?_ | refine V_aload_nN dX0_nearestTurn_82 rfl rfl ?_
  refine V_lload dX0_nearestTurn_83 rfl ?_
  refine V_lload dX0_nearestTurn_85 rfl ?_
  refine V_lload_n dX0_nearestTurn_87 rfl rfl ?_
  refine V_lload dX0_nearestTurn_88 rfl ?_
  refine V_iload dX0_nearestTurn_90 rfl ?_
  refine V_callV (As := [_, _, _, _, _]) (st := _) (c_X0_farTurned n _ _ x y sx sy fa w hK h8 h9 hfa) kX0_96 (by first | exact hK | exact hM) ⟨rfl, rfl, rfl⟩ ⟨(Nat.le_of_ble_eq_true rfl), (Nat.le_of_ble_eq_true rfl)⟩ dX0_nearestTurn_92 rfl rfl (Nat.le_of_ble_eq_true rfl) ⟨(Nat.le_of_ble_eq_true rfl), (Nat.le_of_ble_eq_true rfl)⟩ ?_
  refine S_lstore (L' := [(0, _), (2, _), (4, _), (13, _), (15, _), (17, _), (18, _)]) dX0_nearestTurn_95 rfl rfl ?_
  refine V_iconst (v := 0) dX0_nearestTurn_97 (by decide) ?_
  refine S_istore (L' := [(0, _), (2, _), (4, _), (13, _), (15, _), (17, _), (18, _), (20, _)]) dX0_nearestTurn_98 rfl rfl ?_
  exact loop 36 0 (nearF ex ey sx sy x y tn fa, fa) rfl rfl
