/-! THE REFERENCE: sheets -/
abbrev shI (a j : Nat) : Prop := (431 ≤ a ∧ a < 435) ∨ (a = 400 ∧ j = 34)
abbrev shS (s a j : Nat) : Prop := ((a = 431 ∨ a = 432) ∧ j = s) ∨ (a = 433 ∧ 60 * s ≤ j ∧ j < 60 * s + 60) ∨ a = 434
theorem RM.setH {z : St} {w w' : Wd} {x : Sh} {f : Nat} (h : RM z w) (g : Kp shI noA w w') (hx : MSh x w') (hf : wI w' 400 34 = nI f) (h5 : f ≤ 5) : RM (pH z x f) w' :=
  ⟨h.1.kp g (fun a j z => by unfold shI at z; unfold msI; omega) (fun _ _ z => z.elim), h.2.1.kp g (fun a j z => by unfold shI at z; omega), h.2.2.1.kp g (fun a j z => by unfold shI at z; omega), h.2.2.2.1.kp g (fun a j z => by unfold shI at z; omega), hx, hf, h5⟩
theorem Kp.mos {w w' : Wd} (g : Kp shI noA w w') : Keep moA w w' := g.keep (fun a j q => by unfold shI at q; unfold moA; omega) (fun _ _ q => q.elim)
theorem RM.fnd {z : St} {w : Wd} (h : RM z w) {f : Nat} (hf : f ≤ 5) : RM (pH z (zH z) f) (sI w 400 34 (nI f)) :=
  h.setH (Kp.sI w (by unfold shI; omega) _) (h.2.2.2.2.1.kp (Kp.sI (SI := fun a j => a = 400 ∧ j = 34) (SJ := noA) w ⟨rfl, rfl⟩ _) (fun a j q => by omega)) rdI_eq hf
theorem RM.setS {z : St} {w w' : Wd} {x : Sh} {s : Nat} (h : RM z w) (g : Kp (shS s) noA w w') (hx : MSh x w') : RM (pH z x (zF z)) w' :=
  h.setH (g.mono (fun a j q => by unfold shS at q; unfold shI; omega) (fun _ _ q => q)) hx ((g.I (by unfold shS; omega)).trans h.2.2.2.2.2.1) h.2.2.2.2.2.2
theorem Kp.moS {s : Nat} {w w' : Wd} (g : Kp (shS s) noA w w') : Keep moA w w' := g.keep (fun a j q => by unfold shS at q; unfold moA; omega) (fun _ _ q => q.elim)
theorem MSh.upd {h h' : Sh} {s : Nat} {w w' : Wd} (x : MSh h w) (g : Kp (shS s) noA w w') (hs : s < 4) (h1 : ∀ u, u ≠ s → h'.1 u = h.1 u ∧ h'.2.1 u = h.2.1 u ∧ h'.2.2 u = h.2.2 u) (h2 : h'.2.1 s ≤ 60 ∧ wI w' 432 s = nI (h'.2.1 s) ∧ wI w' 431 s = oI (h'.1 s) ∧ ∀ f, h'.1 s = some f → f ≤ 2 ∧ ∀ i, i < h'.2.1 s → wI w' 433 (60 * s + i) = h'.2.2 s i) : MSh h' w' := fun u hu => by
  by_cases e : u = s
  · subst e; exact h2
  · obtain ⟨a1, a2, a3⟩ := h1 u e
    obtain ⟨x1, x2, x3, x4⟩ := x u hu
    rw [a1, a2, a3, g.I (by unfold shS; omega), g.I (by unfold shS; omega)]
    refine ⟨x1, x2, x3, fun f hf => ⟨(x4 f hf).1, fun i hi => ?_⟩⟩
    rw [g.I (by unfold shS; omega)]
    exact (x4 f hf).2 i hi
theorem oI_neg {o : Option Nat} (hb : ∀ f, o = some f → f ≤ 2) : oI o < 0 ↔ o = none := by
  cases o with
  | none => exact ⟨fun _ => rfl, fun _ => by decide⟩
  | some f =>
    have := hb f rfl
    exact ⟨fun q => absurd q (nI_pos (by omega)), fun q => by cases q⟩
theorem RM.fo {z : St} {w : Wd} (h : RM z w) {s : Nat} (hs : s < 4) : ∀ f, (zH z).1 s = some f → f ≤ 2 := fun f hf => ((h.2.2.2.2.1 s hs).2.2.2 f hf).1
theorem sp60 (s i : Nat) : 60 * nI s + nI i = nI (60 * s + i) := by
  rw [show (60 : Int32) = nI 60 from rfl, pk_mul, nI_add]

set_option maxRecDepth 100000 in
theorem c_X9_met (x : Int32) (w : Wd) (h : LayM w) : Cc yX9_met mX9_met [.ref 400, .int x] w (fun r w' => r = some (.int (-10 - x)) ∧ w' = sI w 400 34 x) := by
  refine Cc.of (by decide) rfl rfl (Nat.le_of_ble_eq_true rfl) (fun X => ?_)
  change V _ X _ 0 [(0, _), (1, _)] [] _ (0, 0)
  first | refine V_aload_n dX9_met_0 rfl rfl ?_ | refine V_aload_nN dX9_met_0 rfl rfl ?_
  refine V_iload_n dX9_met_1 rfl rfl ?_
  refine V_puti (by exact h.k _ rfl rfl) pfX9_228 (fun h => nomatch h) dX9_met_2 ⟨rfl, rfl⟩ ?_
  refine V_bipush (v := -10) dX9_met_5 (by decide) ?_
  refine V_iload_n dX9_met_7 rfl rfl ?_
  refine V_isub dX9_met_8 ?_
  refine V_iret rfl dX9_met_9 (Nat.le_of_ble_eq_true rfl) (Nat.le_of_ble_eq_true rfl) ?_
  exact ⟨rfl, rfl⟩

set_option maxRecDepth 100000 in
theorem c_X9_lose (z : St) (x : Int32) (w : Wd) (z0 : RM z w) : Cc yX9_lose mX9_lose [.ref 400, .int x] w (fun r w' => ∃ v, r = some v ∧ (v = .int (oLose z x).1 ∧ RM (oLose z x).2 w' ∧ Keep moA w w')) := by
  refine Cc.of (by decide) rfl rfl (Nat.le_of_ble_eq_true rfl) (fun X => ?_)
  change V _ X _ 0 [(0, _), (1, _)] [] _ (0, 0)
  refine V_iload_n dX9_lose_0 rfl rfl ?_
  refine V_callS (As := [_]) (st := _) (c_X9_isSheet _ _) kX9_233 ⟨rfl, rfl, rfl⟩ ⟨(Nat.le_of_ble_eq_true rfl), (Nat.le_of_ble_eq_true rfl)⟩ dX9_lose_1 rfl rfl (Nat.le_of_ble_eq_true rfl) ⟨(Nat.le_of_ble_eq_true rfl), (Nat.le_of_ble_eq_true rfl)⟩ ?_
  refine V_if_ne (tgt := 10) dX9_lose_4 (by decide) (fun c4 => ?_) (fun c4 => ?_)
  · have hxS : isS x := ⟨(b01_1 c4).1, by have := (b01_1 c4).2; omega⟩
    obtain ⟨s, hs, rfl⟩ := isS_n hxS
    have hsN : bN (nI s) = s := bN_nI (by omega)
    first | refine V_aload_n dX9_lose_10 rfl rfl ?_ | refine V_aload_nN dX9_lose_10 rfl rfl ?_
    first | refine V_getr (by exact z0.1.1.k _ rfl rfl) fX9_82 dX9_lose_11 (by exact (z0.1.1.r 30 rfl (by decide) : _ = some 431)) ?_ | refine V_getrN (by exact z0.1.1.k _ rfl rfl) fX9_82 dX9_lose_11 (by exact (z0.1.1.r 30 rfl (by decide) : _ = some 431)) ?_
    refine V_iload_n dX9_lose_14 rfl rfl ?_
    refine G_iald (j := s) (by exact z0.1.1.k _ rfl rfl) (by rfl) (by exact z0.1.1.lt 431 (m := 4) rfl rfl (by decide) rfl (by omega)) (by exact z0.1.1.nlt 431 rfl rfl (by decide)) dX9_lose_15 (by exact (z0.2.2.2.2.1 s hs).2.2.1) ?_
    refine V_if_ge (tgt := 25) dX9_lose_16 (by decide) (fun c16 => ?_) (fun c16 => ?_)
    · first | refine V_aload_n dX9_lose_25 rfl rfl ?_ | refine V_aload_nN dX9_lose_25 rfl rfl ?_
      first | refine V_getr (by exact z0.1.1.k _ rfl rfl) fX9_82 dX9_lose_26 (by exact (z0.1.1.r 30 rfl (by decide) : _ = some 431)) ?_ | refine V_getrN (by exact z0.1.1.k _ rfl rfl) fX9_82 dX9_lose_26 (by exact (z0.1.1.r 30 rfl (by decide) : _ = some 431)) ?_
      refine V_iload_n dX9_lose_29 rfl rfl ?_
      refine V_iconst (v := -1) dX9_lose_30 (by decide) ?_
      refine G_iast (j := s) (by exact z0.1.1.k _ rfl rfl) (by rfl) (by exact z0.1.1.lt 431 (m := 4) rfl rfl (by decide) rfl (by omega)) (by exact z0.1.1.nlt 431 rfl rfl (by decide)) dX9_lose_31 ?_
      first | refine V_aload_n dX9_lose_32 rfl rfl ?_ | refine V_aload_nN dX9_lose_32 rfl rfl ?_
      first | refine V_getr (by exact z0.1.1.k _ rfl rfl) fX9_85 dX9_lose_33 (by exact (z0.1.1.r 31 rfl (by decide) : _ = some 432)) ?_ | refine V_getrN (by exact z0.1.1.k _ rfl rfl) fX9_85 dX9_lose_33 (by exact (z0.1.1.r 31 rfl (by decide) : _ = some 432)) ?_
      refine V_iload_n dX9_lose_36 rfl rfl ?_
      refine G_iald (j := s) (by exact z0.1.1.k _ rfl rfl) (by rfl) (by exact z0.1.1.lt 432 (m := 4) rfl rfl (by decide) rfl (by omega)) (by exact z0.1.1.nlt 432 rfl rfl (by decide)) dX9_lose_37 (by exact (rdI_nn (by decide)).trans (z0.2.2.2.2.1 s hs).2.1) ?_
      refine V_iret rfl dX9_lose_38 (Nat.le_of_ble_eq_true rfl) (Nat.le_of_ble_eq_true rfl) ?_
      have hn : ¬ (zH z).1 s = none := fun q => Int32.not_le.mpr ((oI_neg (z0.fo hs)).mpr q) c16
      have e : oLose z (nI s) = (nI ((zH z).2.1 s), pH z (va_up (zH z).1 s none, (zH z).2) (zF z)) := by
        unfold oLose
        rw [if_pos hxS, hsN, if_neg hn]
      have g : Kp (shS s) noA w (sI w 431 s (-1)) := Kp.sI w (by unfold shS; omega) _
      have hx : MSh (va_up (zH z).1 s none, (zH z).2) (sI w 431 s (-1)) := z0.2.2.2.2.1.upd g hs (fun u hu => ⟨va_up_ne _ _ hu, rfl, rfl⟩) ⟨(z0.2.2.2.2.1 s hs).1, (rdI_nn (by decide)).trans (z0.2.2.2.2.1 s hs).2.1, by rw [rdI_eq]; show _ = oI (va_up _ _ _ _); rw [va_up_self]; rfl, fun f hf => by
        have : va_up (zH z).1 s none s = some f := hf
        rw [va_up_self] at this
        cases this⟩
      exact ⟨_, rfl, by rw [e], by rw [e]; exact z0.setS g hx, g.moS⟩
    · first | refine V_aload_n dX9_lose_19 rfl rfl ?_ | refine V_aload_nN dX9_lose_19 rfl rfl ?_
      refine V_iconst (v := 1) dX9_lose_20 (by decide) ?_
      refine V_callV (As := [_]) (st := _) (c_X9_met (nI 1) w z0.1.1) kX9_238 (by exact z0.1.1.k _ rfl rfl) ⟨rfl, rfl, rfl⟩ ⟨(Nat.le_of_ble_eq_true rfl), (Nat.le_of_ble_eq_true rfl)⟩ dX9_lose_21 rfl rfl (Nat.le_of_ble_eq_true rfl) ⟨(Nat.le_of_ble_eq_true rfl), (Nat.le_of_ble_eq_true rfl)⟩ ?_
      refine V_iret rfl dX9_lose_24 (Nat.le_of_ble_eq_true rfl) (Nat.le_of_ble_eq_true rfl) ?_
      have hn : (zH z).1 s = none := (oI_neg (z0.fo hs)).mp (Int32.not_le.mp c16)
      have e : oLose z (nI s) = fnd z 1 := by
        unfold oLose
        rw [if_pos hxS, hsN, if_pos hn]
      exact ⟨_, rfl, by rw [e]; rfl, by rw [e]; exact z0.fnd (by decide), (Kp.sI (SI := shI) (SJ := noA) w (by unfold shI; omega) _).mos⟩
  · refine V_bipush (v := -2) dX9_lose_7 (by decide) ?_
    refine V_iret rfl dX9_lose_9 (Nat.le_of_ble_eq_true rfl) (Nat.le_of_ble_eq_true rfl) ?_
    exact ⟨_, rfl, by unfold oLose; rw [if_neg (fun (q : isS x) => b01_0 c4 ⟨q.1, by have := q.2; omega⟩)], by unfold oLose; rw [if_neg (fun (q : isS x) => b01_0 c4 ⟨q.1, by have := q.2; omega⟩)]; exact z0, Keep.refl _ _⟩

set_option maxRecDepth 100000 in
theorem c_X9_sheet (z : St) (x f n : Int32) (w : Wd) (z0 : RM z w) : Cc yX9_sheet mX9_sheet [.ref 400, .int x, .int f, .int n] w (fun r w' => ∃ v, r = some v ∧ (v = .int (oSheet z x f n).1 ∧ RM (oSheet z x f n).2 w' ∧ Keep moA w w')) := by
  refine Cc.of (by decide) rfl rfl (Nat.le_of_ble_eq_true rfl) (fun X => ?_)
  change V _ X _ 0 [(0, _), (1, _), (2, _), (3, _)] [] _ (0, 0)
  have loop : ∀ s, s < 4 → bN (nI s) = s → isS (nI s) → isG f → n.toInt ≤ 60 → 0 ≤ n.toInt → bN n ≤ 60 → bN f ≤ 2 → ∀ (d b : Nat) (w1 : Wd), b + d = bN n → Kp (fun a j => a = 433 ∧ 60 * s ≤ j ∧ j < 60 * s + 60) noA (sI (sI w 431 s (nI (bN f))) 432 s (nI (bN n))) w1 → (∀ i, i < b → wI w1 433 (60 * s + i) = 0) → V mX9_sheet X (mq mX9_sheet X (fun r w' => ∃ v, r = some v ∧ (v = .int (oSheet z (nI s) f n).1 ∧ RM (oSheet z (nI s) f n).2 w' ∧ Keep moA w w'))) 55 [(0, .ref 400), (1, .int (nI s)), (3, .int (nI (bN n))), (4, .int (nI b))] [] w1 (0, 0) := by
    intro s hs hsN hxS hF hn60 hn0 hnN hfN d
    induction d with
    | zero =>
      intro b w1 hd g1 g2
      have h1 : LayM w1 := LayM.kp (w := (sI (sI w 431 s (nI (bN f))) 432 s (nI (bN n)))) z0.1.1 g1
      obtain rfl : b = bN n := hd
      refine V_iload dX9_sheet_55 rfl ?_
      refine V_iload_n dX9_sheet_57 rfl rfl ?_
      refine V_icmp_ge (tgt := 80) dX9_sheet_58 (by decide) (fun c58 => ?_) (fun c58 => False.elim (by exact c58 (nI_le (Nat.le_refl _) (by omega))))
      refine V_iload_n dX9_sheet_80 rfl rfl ?_
      refine V_iret rfl dX9_sheet_81 (Nat.le_of_ble_eq_true rfl) (Nat.le_of_ble_eq_true rfl) ?_
      have e : oSheet z (nI s) f n = (n, pH z (shN (zH z) s (bN f) (bN n)) (zF z)) := by
        unfold oSheet
        rw [if_pos ⟨hxS, hF, hn60⟩, if_neg (by omega), hsN]
      have g0 : Kp (shS s) noA w (sI (sI w 431 s (nI (bN f))) 432 s (nI (bN n))) := (Kp.sI w (by unfold shS; omega) _).trans (Kp.sI _ (by unfold shS; omega) _)
      have g : Kp (shS s) noA w w1 := g0.trans (g1.mono (fun a j q => by unfold shS; omega) (fun _ _ q => q))
      have hx : MSh (shN (zH z) s (bN f) (bN n)) w1 := z0.2.2.2.2.1.upd g hs (fun u hu => ⟨va_up_ne _ _ hu, va_up_ne _ _ hu, va_up_ne _ _ hu⟩) (by
        show va_up _ _ _ _ ≤ 60 ∧ wI w1 432 s = nI (va_up _ _ _ _) ∧ wI w1 431 s = oI (va_up _ _ _ _) ∧ ∀ g, va_up (zH z).1 s (some (bN f)) s = some g → g ≤ 2 ∧ ∀ i, i < va_up (zH z).2.1 s (bN n) s → wI w1 433 (60 * s + i) = va_up (zH z).2.2 s (fun _ => 0) s i
        simp only [va_up_self]
        refine ⟨hnN, (g1.I (by omega)).trans rdI_eq, (g1.I (by omega)).trans ((rdI_nn (by decide)).trans rdI_eq), fun g hg => ⟨by cases hg; exact hfN, fun i hi => g2 i hi⟩⟩)
      refine ⟨_, rfl, by rw [e]; exact congrArg Value.int (i32_nat hn0).symm, by rw [e]; exact z0.setS g hx, g.moS⟩
    | succ d ih =>
      intro b w1 hd g1 g2
      have h1 : LayM w1 := LayM.kp (w := (sI (sI w 431 s (nI (bN f))) 432 s (nI (bN n)))) z0.1.1 g1
      have hb : b < bN n := by omega
      refine V_iload dX9_sheet_55 rfl ?_
      refine V_iload_n dX9_sheet_57 rfl rfl ?_
      refine V_icmp_ge (tgt := 80) dX9_sheet_58 (by decide) (fun c58 => False.elim (by exact nI_ge (a := b) (b := bN n) hb (by omega) c58)) (fun c58 => ?_)
      first | refine V_aload_n dX9_sheet_61 rfl rfl ?_ | refine V_aload_nN dX9_sheet_61 rfl rfl ?_
      first | refine V_getr (by exact h1.k _ rfl rfl) fX9_88 dX9_sheet_62 (by exact (h1.r 32 rfl (by decide) : _ = some 433)) ?_ | refine V_getrN (by exact h1.k _ rfl rfl) fX9_88 dX9_sheet_62 (by exact (h1.r 32 rfl (by decide) : _ = some 433)) ?_
      refine V_bipush (v := 60) dX9_sheet_65 (by decide) ?_
      refine V_iload_n dX9_sheet_67 rfl rfl ?_
      refine V_imul dX9_sheet_68 ?_
      refine V_iload dX9_sheet_69 rfl ?_
      refine V_iadd dX9_sheet_71 ?_
      refine V_iconst (v := 0) dX9_sheet_72 (by decide) ?_
      rw [sp60]
      refine G_iast (j := 60 * s + b) (by exact h1.k _ rfl rfl) (by rfl) (by exact h1.lt 433 (m := 240) rfl rfl (by decide) rfl (by omega)) (by exact h1.nlt 433 rfl rfl (by decide)) dX9_sheet_73 ?_
      refine S_iinc (L' := [(0, _), (1, _), (3, _), (4, _)]) dX9_sheet_74 rfl rfl rfl rfl ?_
      rw [nI_inc]
      refine V_goto (tgt := 55) dX9_sheet_77 (by decide) ?_
      refine ih (b + 1) _ (by omega) (g1.trans (Kp.sI w1 (by omega) _)) (fun i hi => ?_)
      by_cases e : i = b
      · rw [e]; exact rdI_eq
      · rw [rdI_ne (by omega)]; exact g2 i (by omega)
  refine V_iload_n dX9_sheet_0 rfl rfl ?_
  refine V_callS (As := [_]) (st := _) (c_X9_isSheet _ _) kX9_233 ⟨rfl, rfl, rfl⟩ ⟨(Nat.le_of_ble_eq_true rfl), (Nat.le_of_ble_eq_true rfl)⟩ dX9_sheet_1 rfl rfl (Nat.le_of_ble_eq_true rfl) ⟨(Nat.le_of_ble_eq_true rfl), (Nat.le_of_ble_eq_true rfl)⟩ ?_
  refine V_if_eq (tgt := 25) dX9_sheet_4 (by decide) (fun c4 => ?_) (fun c4 => ?_)
  · refine V_bipush (v := -2) dX9_sheet_25 (by decide) ?_
    refine V_iret rfl dX9_sheet_27 (Nat.le_of_ble_eq_true rfl) (Nat.le_of_ble_eq_true rfl) ?_
    first
      | (have hn := c22
         have e : oSheet z x f n = (-2, z) := by unfold oSheet; rw [if_neg (fun q => hn (Int32.le_iff_toInt_le.mpr q.2.2))]
         exact ⟨_, rfl, by rw [e], by rw [e]; exact z0, Keep.refl _ _⟩)
      | (have hn := b01_0 c16
         have e : oSheet z x f n = (-2, z) := by unfold oSheet; rw [if_neg (fun q => hn q.2.1)]
         exact ⟨_, rfl, by rw [e], by rw [e]; exact z0, Keep.refl _ _⟩)
      | (have hn := b01_0 c4
         have e : oSheet z x f n = (-2, z) := by unfold oSheet; rw [if_neg (fun q => hn ⟨q.1.1, by have := q.1.2; omega⟩)]
         exact ⟨_, rfl, by rw [e], by rw [e]; exact z0, Keep.refl _ _⟩)
  · refine V_iload_n dX9_sheet_7 rfl rfl ?_
    refine V_i2l dX9_sheet_8 ?_
    refine V_lconst (v := 0) dX9_sheet_9 (by decide) ?_
    refine V_ldc2 ctX9_236 dX9_sheet_10 ?_
    refine V_callS (As := [_, _, _]) (st := _) (in9 f 0 2 0 2 rfl rfl w) kX9_114 ⟨rfl, rfl, rfl⟩ ⟨(Nat.le_of_ble_eq_true rfl), (Nat.le_of_ble_eq_true rfl)⟩ dX9_sheet_13 rfl rfl (Nat.le_of_ble_eq_true rfl) ⟨(Nat.le_of_ble_eq_true rfl), (Nat.le_of_ble_eq_true rfl)⟩ ?_
    refine V_if_eq (tgt := 25) dX9_sheet_16 (by decide) (fun c16 => ?_) (fun c16 => ?_)
    · refine V_bipush (v := -2) dX9_sheet_25 (by decide) ?_
      refine V_iret rfl dX9_sheet_27 (Nat.le_of_ble_eq_true rfl) (Nat.le_of_ble_eq_true rfl) ?_
      first
        | (have hn := c22
           have e : oSheet z x f n = (-2, z) := by unfold oSheet; rw [if_neg (fun q => hn (Int32.le_iff_toInt_le.mpr q.2.2))]
           exact ⟨_, rfl, by rw [e], by rw [e]; exact z0, Keep.refl _ _⟩)
        | (have hn := b01_0 c16
           have e : oSheet z x f n = (-2, z) := by unfold oSheet; rw [if_neg (fun q => hn q.2.1)]
           exact ⟨_, rfl, by rw [e], by rw [e]; exact z0, Keep.refl _ _⟩)
        | (have hn := b01_0 c4
           have e : oSheet z x f n = (-2, z) := by unfold oSheet; rw [if_neg (fun q => hn ⟨q.1.1, by have := q.1.2; omega⟩)]
           exact ⟨_, rfl, by rw [e], by rw [e]; exact z0, Keep.refl _ _⟩)
    · refine V_iload_n dX9_sheet_19 rfl rfl ?_
      refine V_bipush (v := 60) dX9_sheet_20 (by decide) ?_
      refine V_icmp_le (tgt := 28) dX9_sheet_22 (by decide) (fun c22 => ?_) (fun c22 => ?_)
      · have hxS : isS x := ⟨(b01_1 c4).1, by have := (b01_1 c4).2; omega⟩
        obtain ⟨s, hs, rfl⟩ := isS_n hxS
        have hsN : bN (nI s) = s := bN_nI (by omega)
        have hF : isG f := b01_1 c16
        have hn60 : n.toInt ≤ 60 := by have := Int32.le_iff_toInt_le.mp c22; exact this
        refine V_iload_n dX9_sheet_28 rfl rfl ?_
        refine V_if_ge (tgt := 38) dX9_sheet_29 (by decide) (fun c29 => ?_) (fun c29 => ?_)
        · have hn0 : 0 ≤ n.toInt := by have := Int32.le_iff_toInt_le.mp c29; exact this
          have hnN : bN n ≤ 60 := by unfold bN; omega
          have hfN : bN f ≤ 2 := by unfold bN; have := hF.1; have := hF.2; omega
          refine V_sub (L' := [(0, .ref 400), (1, .int (nI s)), (2, .int (nI (bN f))), (3, .int (nI (bN n)))]) (by rw [← i32_nat hn0, ← i32_nat hF.1]; rfl) ?_
          first | refine V_aload_n dX9_sheet_38 rfl rfl ?_ | refine V_aload_nN dX9_sheet_38 rfl rfl ?_
          first | refine V_getr (by exact z0.1.1.k _ rfl rfl) fX9_82 dX9_sheet_39 (by exact (z0.1.1.r 30 rfl (by decide) : _ = some 431)) ?_ | refine V_getrN (by exact z0.1.1.k _ rfl rfl) fX9_82 dX9_sheet_39 (by exact (z0.1.1.r 30 rfl (by decide) : _ = some 431)) ?_
          refine V_iload_n dX9_sheet_42 rfl rfl ?_
          refine V_iload_n dX9_sheet_43 rfl rfl ?_
          refine G_iast (j := s) (by exact z0.1.1.k _ rfl rfl) (by rfl) (by exact z0.1.1.lt 431 (m := 4) rfl rfl (by decide) rfl (by omega)) (by exact z0.1.1.nlt 431 rfl rfl (by decide)) dX9_sheet_44 ?_
          first | refine V_aload_n dX9_sheet_45 rfl rfl ?_ | refine V_aload_nN dX9_sheet_45 rfl rfl ?_
          first | refine V_getr (by exact z0.1.1.k _ rfl rfl) fX9_85 dX9_sheet_46 (by exact (z0.1.1.r 31 rfl (by decide) : _ = some 432)) ?_ | refine V_getrN (by exact z0.1.1.k _ rfl rfl) fX9_85 dX9_sheet_46 (by exact (z0.1.1.r 31 rfl (by decide) : _ = some 432)) ?_
          refine V_iload_n dX9_sheet_49 rfl rfl ?_
          refine V_iload_n dX9_sheet_50 rfl rfl ?_
          refine G_iast (j := s) (by exact z0.1.1.k _ rfl rfl) (by rfl) (by exact z0.1.1.lt 432 (m := 4) rfl rfl (by decide) rfl (by omega)) (by exact z0.1.1.nlt 432 rfl rfl (by decide)) dX9_sheet_51 ?_
          refine V_iconst (v := 0) dX9_sheet_52 (by decide) ?_
          refine S_istore (L' := [(0, _), (1, _), (3, _), (4, _)]) dX9_sheet_53 rfl rfl ?_
          exact loop s hs hsN hxS hF hn60 hn0 hnN hfN (bN n) 0 _ (by omega) (Kp.refl _ _ _) (fun i hi => absurd hi (Nat.not_lt_zero _))
        · first | refine V_aload_n dX9_sheet_32 rfl rfl ?_ | refine V_aload_nN dX9_sheet_32 rfl rfl ?_
          refine V_iconst (v := 5) dX9_sheet_33 (by decide) ?_
          refine V_callV (As := [_]) (st := _) (c_X9_met (nI 5) w z0.1.1) kX9_238 (by exact z0.1.1.k _ rfl rfl) ⟨rfl, rfl, rfl⟩ ⟨(Nat.le_of_ble_eq_true rfl), (Nat.le_of_ble_eq_true rfl)⟩ dX9_sheet_34 rfl rfl (Nat.le_of_ble_eq_true rfl) ⟨(Nat.le_of_ble_eq_true rfl), (Nat.le_of_ble_eq_true rfl)⟩ ?_
          refine V_iret rfl dX9_sheet_37 (Nat.le_of_ble_eq_true rfl) (Nat.le_of_ble_eq_true rfl) ?_
          have hn0 : n.toInt < 0 := by have := Int32.lt_iff_toInt_lt.mp (Int32.not_le.mp c29); exact this
          have e : oSheet z (nI s) f n = fnd z 5 := by
            unfold oSheet
            rw [if_pos ⟨hxS, hF, hn60⟩, if_pos hn0]
          exact ⟨_, rfl, by rw [e]; rfl, by rw [e]; exact z0.fnd (by decide), (Kp.sI (SI := shI) (SJ := noA) w (by unfold shI; omega) _).mos⟩
      · refine V_bipush (v := -2) dX9_sheet_25 (by decide) ?_
        refine V_iret rfl dX9_sheet_27 (Nat.le_of_ble_eq_true rfl) (Nat.le_of_ble_eq_true rfl) ?_
        first
          | (have hn := c22
             have e : oSheet z x f n = (-2, z) := by unfold oSheet; rw [if_neg (fun q => hn (Int32.le_iff_toInt_le.mpr q.2.2))]
             exact ⟨_, rfl, by rw [e], by rw [e]; exact z0, Keep.refl _ _⟩)
          | (have hn := b01_0 c16
             have e : oSheet z x f n = (-2, z) := by unfold oSheet; rw [if_neg (fun q => hn q.2.1)]
             exact ⟨_, rfl, by rw [e], by rw [e]; exact z0, Keep.refl _ _⟩)
          | (have hn := b01_0 c4
             have e : oSheet z x f n = (-2, z) := by unfold oSheet; rw [if_neg (fun q => hn ⟨q.1.1, by have := q.1.2; omega⟩)]
             exact ⟨_, rfl, by rw [e], by rw [e]; exact z0, Keep.refl _ _⟩)

set_option maxRecDepth 100000 in
theorem c_X9_lacks (z : St) (s : Nat) (f i : Int32) (w : Wd) (z0 : RM z w) (hs : s < 4) : Cc yX9_lacks mX9_lacks [.ref 400, .int (nI s), .int f, .int i] w (fun r w' => r = some (.int (if wrZ z s f i = 0 then 0 else -10 - nI (wrZ z s f i))) ∧ w' = if wrZ z s f i = 0 then w else sI w 400 34 (nI (wrZ z s f i))) := by
  refine Cc.of (by decide) rfl rfl (Nat.le_of_ble_eq_true rfl) (fun X => ?_)
  change V _ X _ 0 [(0, _), (1, _), (2, _), (3, _)] [] _ (0, 0)
  cases ho : (zH z).1 s with
  | none =>
    first | refine V_aload_n dX9_lacks_0 rfl rfl ?_ | refine V_aload_nN dX9_lacks_0 rfl rfl ?_
    first | refine V_getr (by exact z0.1.1.k _ rfl rfl) fX9_82 dX9_lacks_1 (by exact (z0.1.1.r 30 rfl (by decide) : _ = some 431)) ?_ | refine V_getrN (by exact z0.1.1.k _ rfl rfl) fX9_82 dX9_lacks_1 (by exact (z0.1.1.r 30 rfl (by decide) : _ = some 431)) ?_
    refine V_iload_n dX9_lacks_4 rfl rfl ?_
    refine G_iald (j := s) (by exact z0.1.1.k _ rfl rfl) (by rfl) (by exact z0.1.1.lt 431 (m := 4) rfl rfl (by decide) rfl (by omega)) (by exact z0.1.1.nlt 431 rfl rfl (by decide)) dX9_lacks_5 (by exact (((z0.2.2.2.2.1 s hs).2.2.1).trans (congrArg oI ho) : _ = (-1 : Int32))) ?_
    refine V_if_ge (tgt := 15) dX9_lacks_6 (by decide) (fun c6 => False.elim (by exact absurd c6 (by decide))) (fun c6 => ?_)
    first | refine V_aload_n dX9_lacks_9 rfl rfl ?_ | refine V_aload_nN dX9_lacks_9 rfl rfl ?_
    refine V_iconst (v := 1) dX9_lacks_10 (by decide) ?_
    refine V_callV (As := [_]) (st := _) (c_X9_met (nI 1) w z0.1.1) kX9_238 (by exact z0.1.1.k _ rfl rfl) ⟨rfl, rfl, rfl⟩ ⟨(Nat.le_of_ble_eq_true rfl), (Nat.le_of_ble_eq_true rfl)⟩ dX9_lacks_11 rfl rfl (Nat.le_of_ble_eq_true rfl) ⟨(Nat.le_of_ble_eq_true rfl), (Nat.le_of_ble_eq_true rfl)⟩ ?_
    refine V_iret rfl dX9_lacks_14 (Nat.le_of_ble_eq_true rfl) (Nat.le_of_ble_eq_true rfl) ?_
    have e : wrZ z s f i = 1 := by unfold wrZ; rw [ho]; rfl
    rw [e]
    exact ⟨rfl, rfl⟩
  | some g =>
    first | refine V_aload_n dX9_lacks_0 rfl rfl ?_ | refine V_aload_nN dX9_lacks_0 rfl rfl ?_
    first | refine V_getr (by exact z0.1.1.k _ rfl rfl) fX9_82 dX9_lacks_1 (by exact (z0.1.1.r 30 rfl (by decide) : _ = some 431)) ?_ | refine V_getrN (by exact z0.1.1.k _ rfl rfl) fX9_82 dX9_lacks_1 (by exact (z0.1.1.r 30 rfl (by decide) : _ = some 431)) ?_
    refine V_iload_n dX9_lacks_4 rfl rfl ?_
    refine G_iald (j := s) (by exact z0.1.1.k _ rfl rfl) (by rfl) (by exact z0.1.1.lt 431 (m := 4) rfl rfl (by decide) rfl (by omega)) (by exact z0.1.1.nlt 431 rfl rfl (by decide)) dX9_lacks_5 (by exact (((z0.2.2.2.2.1 s hs).2.2.1).trans (congrArg oI ho) : _ = nI g)) ?_
    refine V_if_ge (tgt := 15) dX9_lacks_6 (by decide) (fun c6 => ?_) (fun c6 => False.elim (by exact c6 (nI_pos' (by have := z0.fo hs g ho; omega))))
    first | refine V_aload_n dX9_lacks_15 rfl rfl ?_ | refine V_aload_nN dX9_lacks_15 rfl rfl ?_
    first | refine V_getr (by exact z0.1.1.k _ rfl rfl) fX9_82 dX9_lacks_16 (by exact (z0.1.1.r 30 rfl (by decide) : _ = some 431)) ?_ | refine V_getrN (by exact z0.1.1.k _ rfl rfl) fX9_82 dX9_lacks_16 (by exact (z0.1.1.r 30 rfl (by decide) : _ = some 431)) ?_
    refine V_iload_n dX9_lacks_19 rfl rfl ?_
    refine G_iald (j := s) (by exact z0.1.1.k _ rfl rfl) (by rfl) (by exact z0.1.1.lt 431 (m := 4) rfl rfl (by decide) rfl (by omega)) (by exact z0.1.1.nlt 431 rfl rfl (by decide)) dX9_lacks_20 (by exact (((z0.2.2.2.2.1 s hs).2.2.1).trans (congrArg oI ho) : _ = nI g)) ?_
    refine V_iload_n dX9_lacks_21 rfl rfl ?_
    refine V_icmp_eq (tgt := 31) dX9_lacks_22 (by decide) (fun c22 => ?_) (fun c22 => ?_)
    · refine V_iload_n dX9_lacks_31 rfl rfl ?_
      refine V_i2l dX9_lacks_32 ?_
      refine V_lconst (v := 0) dX9_lacks_33 (by decide) ?_
      first | refine V_aload_n dX9_lacks_34 rfl rfl ?_ | refine V_aload_nN dX9_lacks_34 rfl rfl ?_
      first | refine V_getr (by exact z0.1.1.k _ rfl rfl) fX9_85 dX9_lacks_35 (by exact (z0.1.1.r 31 rfl (by decide) : _ = some 432)) ?_ | refine V_getrN (by exact z0.1.1.k _ rfl rfl) fX9_85 dX9_lacks_35 (by exact (z0.1.1.r 31 rfl (by decide) : _ = some 432)) ?_
      refine V_iload_n dX9_lacks_38 rfl rfl ?_
      refine G_iald (j := s) (by exact z0.1.1.k _ rfl rfl) (by rfl) (by exact z0.1.1.lt 432 (m := 4) rfl rfl (by decide) rfl (by omega)) (by exact z0.1.1.nlt 432 rfl rfl (by decide)) dX9_lacks_39 (by exact (z0.2.2.2.2.1 s hs).2.1) ?_
      refine V_iconst (v := 1) dX9_lacks_40 (by decide) ?_
      refine V_isub dX9_lacks_41 ?_
      refine V_i2l dX9_lacks_42 ?_
      refine V_callS (As := [_, _, _]) (st := _) (in9n i ((zH z).2.1 s) (by have := (z0.2.2.2.2.1 s hs).1; omega) w) kX9_114 ⟨rfl, rfl, rfl⟩ ⟨(Nat.le_of_ble_eq_true rfl), (Nat.le_of_ble_eq_true rfl)⟩ dX9_lacks_43 rfl rfl (Nat.le_of_ble_eq_true rfl) ⟨(Nat.le_of_ble_eq_true rfl), (Nat.le_of_ble_eq_true rfl)⟩ ?_
      refine V_if_eq (tgt := 53) dX9_lacks_46 (by decide) (fun c46 => ?_) (fun c46 => ?_)
      · first | refine V_aload_n dX9_lacks_53 rfl rfl ?_ | refine V_aload_nN dX9_lacks_53 rfl rfl ?_
        refine V_iconst (v := 2) dX9_lacks_54 (by decide) ?_
        refine V_callV (As := [_]) (st := _) (c_X9_met (nI 2) w z0.1.1) kX9_238 (by exact z0.1.1.k _ rfl rfl) ⟨rfl, rfl, rfl⟩ ⟨(Nat.le_of_ble_eq_true rfl), (Nat.le_of_ble_eq_true rfl)⟩ dX9_lacks_55 rfl rfl (Nat.le_of_ble_eq_true rfl) ⟨(Nat.le_of_ble_eq_true rfl), (Nat.le_of_ble_eq_true rfl)⟩ ?_
        refine V_iret rfl dX9_lacks_58 (Nat.le_of_ble_eq_true rfl) (Nat.le_of_ble_eq_true rfl) ?_
        first
          | (have h4 := b01_1 c46
             have e : wrZ z s f i = 0 := by unfold wrZ; rw [ho]; unfold wrI; dsimp only; rw [if_pos c22, if_pos h4]
             rw [e]
             exact ⟨rfl, rfl⟩)
          | (have h4 := b01_0 c46
             have e : wrZ z s f i = 2 := by unfold wrZ; rw [ho]; unfold wrI; dsimp only; rw [if_pos c22, if_neg h4]
             rw [e]
             exact ⟨rfl, rfl⟩)
      · refine V_iconst (v := 0) dX9_lacks_49 (by decide) ?_
        refine V_goto (tgt := 58) dX9_lacks_50 (by decide) ?_
        refine V_iret rfl dX9_lacks_58 (Nat.le_of_ble_eq_true rfl) (Nat.le_of_ble_eq_true rfl) ?_
        first
          | (have h4 := b01_1 c46
             have e : wrZ z s f i = 0 := by unfold wrZ; rw [ho]; unfold wrI; dsimp only; rw [if_pos c22, if_pos h4]
             rw [e]
             exact ⟨rfl, rfl⟩)
          | (have h4 := b01_0 c46
             have e : wrZ z s f i = 2 := by unfold wrZ; rw [ho]; unfold wrI; dsimp only; rw [if_pos c22, if_neg h4]
             rw [e]
             exact ⟨rfl, rfl⟩)
    · first | refine V_aload_n dX9_lacks_25 rfl rfl ?_ | refine V_aload_nN dX9_lacks_25 rfl rfl ?_
      refine V_iconst (v := 3) dX9_lacks_26 (by decide) ?_
      refine V_callV (As := [_]) (st := _) (c_X9_met (nI 3) w z0.1.1) kX9_238 (by exact z0.1.1.k _ rfl rfl) ⟨rfl, rfl, rfl⟩ ⟨(Nat.le_of_ble_eq_true rfl), (Nat.le_of_ble_eq_true rfl)⟩ dX9_lacks_27 rfl rfl (Nat.le_of_ble_eq_true rfl) ⟨(Nat.le_of_ble_eq_true rfl), (Nat.le_of_ble_eq_true rfl)⟩ ?_
      refine V_iret rfl dX9_lacks_30 (Nat.le_of_ble_eq_true rfl) (Nat.le_of_ble_eq_true rfl) ?_
      have e : wrZ z s f i = 3 := by unfold wrZ; rw [ho]; unfold wrI; dsimp only; rw [if_neg c22]
      rw [e]
      exact ⟨rfl, rfl⟩

theorem m_lacks_0 (z : St) (s : Nat) (f i : Int32) (w : Wd) (z0 : RM z w) (hs : s < 4) (hw : wrZ z s f i = 0) : Cc yX9_lacks mX9_lacks [.ref 400, .int (nI s), .int f, .int i] w (fun r w' => r = some (.int 0) ∧ w' = w) :=
  (c_X9_lacks z s f i w z0 hs).mono (fun r w' h => by rw [if_pos hw, if_pos hw] at h; exact h)
theorem m_lacks_n (z : St) (s : Nat) (f i : Int32) (w : Wd) (z0 : RM z w) (hs : s < 4) (hw : ¬ wrZ z s f i = 0) : Cc yX9_lacks mX9_lacks [.ref 400, .int (nI s), .int f, .int i] w (fun r w' => r = some (.int (-10 - nI (wrZ z s f i))) ∧ w' = sI w 400 34 (nI (wrZ z s f i))) :=
  (c_X9_lacks z s f i w z0 hs).mono (fun r w' h => by rw [if_neg hw, if_neg hw] at h; exact h)
theorem m10_0 {n : Nat} (h : n ≤ 5) : ¬ (-10 - nI n : Int32) = 0 := (by decide +kernel : ∀ n : Fin 6, ¬ (-10 - nI n.val : Int32) = 0) ⟨n, by omega⟩
theorem MSh.store {h : Sh} {s i : Nat} {v : Int32} {w : Wd} (x : MSh h w) (hs : s < 4) (hi : i < 60) : MSh (stH h s i v) (sI w 433 (60 * s + i) v) := by
  refine x.upd (Kp.sI w (by unfold shS; omega) _) hs (fun u hu => ⟨rfl, rfl, va_up_ne _ _ hu⟩) ?_
  obtain ⟨x1, x2, x3, x4⟩ := x s hs
  refine ⟨x1, (rdI_nn (by decide)).trans x2, (rdI_nn (by decide)).trans x3, fun f hf => ⟨(x4 f hf).1, fun j hj => ?_⟩⟩
  show wI (sI w 433 (60 * s + i) v) 433 (60 * s + j) = va_up h.2.2 s (va_up (h.2.2 s) i v) s j
  rw [va_up_self]
  by_cases e : j = i
  · subst e; rw [rdI_eq, va_up_self]
  · rw [rdI_ne (by omega), va_up_ne _ _ e]
    exact (x4 f hf).2 j hj
