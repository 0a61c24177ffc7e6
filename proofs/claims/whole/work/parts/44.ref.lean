/-! THE REFERENCE: poses of clips, likeness -/
theorem cnt_y {p : Nat → Bool} {n : Nat} (h : p n = true) : nI (cntF p n) + 1 = nI (cntF p (n + 1)) := by rw [cntF, if_pos h, nI_1]
theorem cnt_n {p : Nat → Bool} {n : Nat} (h : ¬ p n = true) : nI (cntF p n) + 0 = nI (cntF p (n + 1)) := by rw [cntF, if_neg h, show (0 : Int32) = nI 0 from rfl, nI_add]

set_option maxRecDepth 100000 in
theorem c_X9_show (z : St) (x y : Int32) (w : Wd) (z0 : RM z w) : Cc yX9_show mX9_show [.ref 400, .int x, .int y] w (fun r w' => ∃ v, r = some v ∧ (v = .int (oShow z x y).1 ∧ RM (oShow z x y).2 w' ∧ Keep moA w w')) := by
  refine Cc.of (by decide) rfl rfl (Nat.le_of_ble_eq_true rfl) (fun X => ?_)
  change V _ X _ 0 [(0, _), (1, _), (2, _)] [] _ (0, 0)
  have loop : ∀ c f, c < 6 → f < (zQ z).1 c → bN (nI c) = c → bN (nI f) = f → isFr z (nI c) (nI f) → ∀ (d b : Nat) (w1 : Wd), b + d = kN (zK z) → PzI (zK z) ((zQ z).2 c f) w b w1 → V mX9_show X (mq mX9_show X (fun r w' => ∃ v, r = some v ∧ (v = .int (oShow z (nI c) (nI f)).1 ∧ RM (oShow z (nI c) (nI f)).2 w' ∧ Keep moA w w'))) 18 [(0, .ref 400), (1, .int (nI c)), (2, .int (nI f)), (3, .int (nI b))] [] w1 (0, 0) := by
    intro c f hc hf hcN hfN hxy d
    have h30 := z0.2.1.le hc
    have h10 := z0.1.n10
    induction d with
    | zero =>
      intro b w1 hd g1
      obtain rfl : b = kN (zK z) := hd
      refine V_iload_n dX9_show_18 rfl rfl ?_
      first | refine V_aload_n dX9_show_19 rfl rfl ?_ | refine V_aload_nN dX9_show_19 rfl rfl ?_
      refine G_geti (by exact g1.2.1.1.k _ rfl rfl) fX9_111 dX9_show_20 (by exact g1.2.1.n) ?_
      refine V_icmp_ge (tgt := 50) dX9_show_23 (by decide) (fun c23 => ?_) (fun c23 => False.elim (by exact c23 (nI_le (Nat.le_refl _) (by have := z0.1.n10; show kN (zK z) < _; omega))))
      first | refine V_aload_n dX9_show_50 rfl rfl ?_ | refine V_aload_nN dX9_show_50 rfl rfl ?_
      refine V_callVvr (As := []) (st := _) (c_X9_settle _ (oldX (zK z)) (oldY (zK z)) _ g1.2.1 (fun _ _ => ⟨g1.2.2.1, g1.2.2.2⟩)) kX9_159 (by exact g1.2.1.1.k _ rfl rfl) ⟨rfl, rfl, rfl⟩ ⟨(Nat.le_of_ble_eq_true rfl), (Nat.le_of_ble_eq_true rfl)⟩ dX9_show_51 rfl rfl (Nat.le_of_ble_eq_true rfl) ⟨(Nat.le_of_ble_eq_true rfl), (Nat.le_of_ble_eq_true rfl)⟩ (fun w2 hw2 => ?_)
      obtain ⟨b1, b2⟩ := hw2
      obtain ⟨r1, r2⟩ := g1.fin z0 b1 b2
      refine V_iconst (v := 1) dX9_show_54 (by decide) ?_
      refine V_iret rfl dX9_show_55 (Nat.le_of_ble_eq_true rfl) (Nat.le_of_ble_eq_true rfl) ?_
      have e : oShow z (nI c) (nI f) = (1, pK z (setP (zK z) (mixT (kN (zK z)) ((zQ z).2 c f) (kTrn (zK z))))) := by
        unfold oShow
        rw [if_pos hxy, hcN, hfN]
      exact ⟨_, rfl, by rw [e], by rw [e]; exact r1, r2⟩
    | succ d ih =>
      intro b w1 hd g1
      have hb : b < kN (zK z) := by omega
      refine V_iload_n dX9_show_18 rfl rfl ?_
      first | refine V_aload_n dX9_show_19 rfl rfl ?_ | refine V_aload_nN dX9_show_19 rfl rfl ?_
      refine G_geti (by exact g1.2.1.1.k _ rfl rfl) fX9_111 dX9_show_20 (by exact g1.2.1.n) ?_
      refine V_icmp_ge (tgt := 50) dX9_show_23 (by decide) (fun c23 => False.elim (by exact nI_ge (a := b) (b := kN (zK z)) hb (by have := z0.1.n10; omega) c23)) (fun c23 => ?_)
      first | refine V_aload_n dX9_show_26 rfl rfl ?_ | refine V_aload_nN dX9_show_26 rfl rfl ?_
      first | refine V_getr (by exact g1.2.1.1.k _ rfl rfl) fX9_31 dX9_show_27 (by exact (g1.2.1.1.r 8 rfl (by decide) : _ = some 409)) ?_ | refine V_getrN (by exact g1.2.1.1.k _ rfl rfl) fX9_31 dX9_show_27 (by exact (g1.2.1.1.r 8 rfl (by decide) : _ = some 409)) ?_
      refine V_iload_n dX9_show_30 rfl rfl ?_
      first | refine V_aload_n dX9_show_31 rfl rfl ?_ | refine V_aload_nN dX9_show_31 rfl rfl ?_
      first | refine V_getr (by exact g1.2.1.1.k _ rfl rfl) fX9_54 dX9_show_32 (by exact (g1.2.1.1.r 19 rfl (by decide) : _ = some 420)) ?_ | refine V_getrN (by exact g1.2.1.1.k _ rfl rfl) fX9_54 dX9_show_32 (by exact (g1.2.1.1.r 19 rfl (by decide) : _ = some 420)) ?_
      refine V_iload_n dX9_show_35 rfl rfl ?_
      refine V_iload_n dX9_show_36 rfl rfl ?_
      refine V_callS (As := [_, _]) (st := _) (c_X9_spot _ _ _) kX9_181 ⟨rfl, rfl, rfl⟩ ⟨(Nat.le_of_ble_eq_true rfl), (Nat.le_of_ble_eq_true rfl)⟩ dX9_show_37 rfl rfl (Nat.le_of_ble_eq_true rfl) ⟨(Nat.le_of_ble_eq_true rfl), (Nat.le_of_ble_eq_true rfl)⟩ ?_
      rw [spot_N]
      refine V_iload_n dX9_show_40 rfl rfl ?_
      refine V_iadd dX9_show_41 ?_
      rw [nI_add]
      refine G_iald (j := 300 * c + 10 * f + b) (by exact g1.2.1.1.k _ rfl rfl) (by rfl) (by exact g1.2.1.1.lt 420 (m := 1800) rfl rfl (by decide) rfl (by omega)) (by exact g1.2.1.1.nlt 420 rfl rfl (by decide)) dX9_show_42 (by exact ((g1.cp z0.2.1).fr hc hf hb).1) ?_
      refine G_iast (j := b) (by exact g1.2.1.1.k _ rfl rfl) (by rfl) (by exact g1.2.1.1.lt 409 (m := 10) rfl rfl (by decide) rfl (by omega)) (by exact g1.2.1.1.nlt 409 rfl rfl (by decide)) dX9_show_43 ?_
      refine S_iinc (L' := [(0, _), (1, _), (2, _), (3, _)]) dX9_show_44 rfl rfl rfl rfl ?_
      rw [nI_inc]
      refine V_goto (tgt := 18) dX9_show_47 (by decide) ?_
      exact ih (b + 1) _ (by omega) (g1.next z0.1 (fun i hi => (z0.2.1.fr hc hf hi).2) rfl)
  first | refine V_aload_n dX9_show_0 rfl rfl ?_ | refine V_aload_nN dX9_show_0 rfl rfl ?_
  refine V_iload_n dX9_show_1 rfl rfl ?_
  refine V_iload_n dX9_show_2 rfl rfl ?_
  refine V_callV (As := [_, _]) (st := _) (c_X9_isFrame (kN (zK z)) (zQ z) x y w z0.2.1) kX9_184 (by exact z0.1.1.k _ rfl rfl) ⟨rfl, rfl, rfl⟩ ⟨(Nat.le_of_ble_eq_true rfl), (Nat.le_of_ble_eq_true rfl)⟩ dX9_show_3 rfl rfl (Nat.le_of_ble_eq_true rfl) ⟨(Nat.le_of_ble_eq_true rfl), (Nat.le_of_ble_eq_true rfl)⟩ ?_
  refine V_if_ne (tgt := 12) dX9_show_6 (by decide) (fun c6 => ?_) (fun c6 => ?_)
  · obtain ⟨c, f, hc, hf, rfl, rfl⟩ := isFr_s z0 (b01_1 c6)
    have h30 := z0.2.1.le hc
    have h10 := z0.1.n10
    have hcN : bN (nI c) = c := bN_nI (by omega)
    have hfN : bN (nI f) = f := bN_nI (by omega)
    first | refine V_aload_n dX9_show_12 rfl rfl ?_ | refine V_aload_nN dX9_show_12 rfl rfl ?_
    refine V_callVvr (As := []) (st := _) (c_X9_hold (zK z) w z0.1) kX9_156 (by exact z0.1.1.k _ rfl rfl) ⟨rfl, rfl, rfl⟩ ⟨(Nat.le_of_ble_eq_true rfl), (Nat.le_of_ble_eq_true rfl)⟩ dX9_show_13 rfl rfl (Nat.le_of_ble_eq_true rfl) ⟨(Nat.le_of_ble_eq_true rfl), (Nat.le_of_ble_eq_true rfl)⟩ (fun w1 hw1 => ?_)
    obtain ⟨a1, a2, a3⟩ := hw1
    refine V_iconst (v := 0) dX9_show_16 (by decide) ?_
    refine S_istore_n (L' := [(0, _), (1, _), (2, _), (3, _)]) dX9_show_17 rfl rfl rfl ?_
    exact loop c f hc hf hcN hfN (b01_1 c6) (kN (zK z)) 0 w1 (by omega) (PzI.first z0.1 a1 a2 a3)
  · refine V_bipush (v := -2) dX9_show_9 (by decide) ?_
    refine V_iret rfl dX9_show_11 (Nat.le_of_ble_eq_true rfl) (Nat.le_of_ble_eq_true rfl) ?_
    exact ⟨_, rfl, by unfold oShow; rw [if_neg (b01_0 c6)], by unfold oShow; rw [if_neg (b01_0 c6)]; exact z0, Keep.refl _ _⟩

set_option maxRecDepth 100000 in
theorem c_X9_blend (z : St) (x y p m : Int32) (w : Wd) (z0 : RM z w) : Cc yX9_blend mX9_blend [.ref 400, .int x, .int y, .int p, .int m] w (fun r w' => ∃ v, r = some v ∧ (v = .int (oBlend z x y p m).1 ∧ RM (oBlend z x y p m).2 w' ∧ Keep moA w w')) := by
  refine Cc.of (by decide) rfl rfl (Nat.le_of_ble_eq_true rfl) (fun X => ?_)
  change V _ X _ 0 [(0, _), (1, _), (2, _), (3, _), (4, _)] [] _ (0, 0)
  have loop : ∀ c f, c < 6 → f < (zQ z).1 c → bN (nI c) = c → bN (nI f) = f → (isFr z (nI c) (nI f) ∧ (0 ≤ p.toInt ∧ p.toInt ≤ 100) ∧ (0 ≤ m.toInt ∧ m.toInt ≤ 1023)) → bN p ≤ 100 → ∀ (d b : Nat) (w1 : Wd), b + d = kN (zK z) → PzI (zK z) (blT (zK z) ((zQ z).2 c f) (bN p) m) w b w1 → V mX9_blend X (mq mX9_blend X (fun r w' => ∃ v, r = some v ∧ (v = .int (oBlend z (nI c) (nI f) p m).1 ∧ RM (oBlend z (nI c) (nI f) p m).2 w' ∧ Keep moA w w'))) 44 [(0, .ref 400), (1, .int (nI c)), (2, .int (nI f)), (3, .int (nI (bN p))), (4, .int m), (5, .int (nI b))] [] w1 (0, 0) := by
    intro c f hc hf hcN hfN hxy hpN d
    have h30 := z0.2.1.le hc
    have h10 := z0.1.n10
    induction d with
    | zero =>
      intro b w1 hd g1
      obtain rfl : b = kN (zK z) := hd
      refine V_iload dX9_blend_44 rfl ?_
      first | refine V_aload_n dX9_blend_46 rfl rfl ?_ | refine V_aload_nN dX9_blend_46 rfl rfl ?_
      refine G_geti (by exact g1.2.1.1.k _ rfl rfl) fX9_111 dX9_blend_47 (by exact g1.2.1.n) ?_
      refine V_icmp_ge (tgt := 104) dX9_blend_50 (by decide) (fun c50 => ?_) (fun c50 => False.elim (by exact c50 (nI_le (Nat.le_refl _) (by have := z0.1.n10; show kN (zK z) < _; omega))))
      first | refine V_aload_n dX9_blend_104 rfl rfl ?_ | refine V_aload_nN dX9_blend_104 rfl rfl ?_
      refine V_callVvr (As := []) (st := _) (c_X9_settle _ (oldX (zK z)) (oldY (zK z)) _ g1.2.1 (fun _ _ => ⟨g1.2.2.1, g1.2.2.2⟩)) kX9_159 (by exact g1.2.1.1.k _ rfl rfl) ⟨rfl, rfl, rfl⟩ ⟨(Nat.le_of_ble_eq_true rfl), (Nat.le_of_ble_eq_true rfl)⟩ dX9_blend_105 rfl rfl (Nat.le_of_ble_eq_true rfl) ⟨(Nat.le_of_ble_eq_true rfl), (Nat.le_of_ble_eq_true rfl)⟩ (fun w2 hw2 => ?_)
      obtain ⟨b1, b2⟩ := hw2
      obtain ⟨r1, r2⟩ := g1.fin z0 b1 b2
      refine V_iconst (v := 1) dX9_blend_108 (by decide) ?_
      refine V_iret rfl dX9_blend_109 (Nat.le_of_ble_eq_true rfl) (Nat.le_of_ble_eq_true rfl) ?_
      have e : oBlend z (nI c) (nI f) p m = (1, pK z (setP (zK z) (mixT (kN (zK z)) (blT (zK z) ((zQ z).2 c f) (bN p) m) (kTrn (zK z))))) := by
        unfold oBlend
        rw [if_pos hxy, hcN, hfN]
      exact ⟨_, rfl, by rw [e], by rw [e]; exact r1, r2⟩
    | succ d ih =>
      intro b w1 hd g1
      have hb : b < kN (zK z) := by omega
      refine V_iload dX9_blend_44 rfl ?_
      first | refine V_aload_n dX9_blend_46 rfl rfl ?_ | refine V_aload_nN dX9_blend_46 rfl rfl ?_
      refine G_geti (by exact g1.2.1.1.k _ rfl rfl) fX9_111 dX9_blend_47 (by exact g1.2.1.n) ?_
      refine V_icmp_ge (tgt := 104) dX9_blend_50 (by decide) (fun c50 => False.elim (by exact nI_ge (a := b) (b := kN (zK z)) hb (by have := z0.1.n10; omega) c50)) (fun c50 => ?_)
      refine V_iload dX9_blend_53 rfl ?_
      refine V_iload dX9_blend_55 rfl ?_
      refine V_ishr dX9_blend_57 ?_
      refine V_iconst (v := 1) dX9_blend_58 (by decide) ?_
      refine V_iand dX9_blend_59 ?_
      refine V_iconst (v := 1) dX9_blend_60 (by decide) ?_
      refine V_icmp_ne (tgt := 98) dX9_blend_61 (by decide) (fun c61 => ?_) (fun c61 => ?_)
      · refine S_iinc (L' := [(0, _), (1, _), (2, _), (3, _), (4, _), (5, _)]) dX9_blend_98 rfl rfl rfl rfl ?_
        rw [nI_inc]
        refine V_goto (tgt := 44) dX9_blend_101 (by decide) ?_
        have hu : ∀ i, i < kN (zK z) → blT (zK z) ((zQ z).2 c f) (bN p) m i < 36 := fun i hi => by
          unfold blT
          split
          · exact blendN_lt (z0.1.wf hi).2.2.2.2.1
          · exact (z0.1.wf hi).2.2.2.2.2.2
        first
          | exact ih (b + 1) _ (by omega) (g1.skip (if_neg c61))
          | exact ih (b + 1) _ (by omega) (g1.next z0.1 hu (if_pos (Classical.not_not.mp c61)))
          | exact ih (b + 1) _ (by omega) (g1.next z0.1 hu (if_pos c61))
      · first | refine V_aload_n dX9_blend_64 rfl rfl ?_ | refine V_aload_nN dX9_blend_64 rfl rfl ?_
        first | refine V_getr (by exact g1.2.1.1.k _ rfl rfl) fX9_31 dX9_blend_65 (by exact (g1.2.1.1.r 8 rfl (by decide) : _ = some 409)) ?_ | refine V_getrN (by exact g1.2.1.1.k _ rfl rfl) fX9_31 dX9_blend_65 (by exact (g1.2.1.1.r 8 rfl (by decide) : _ = some 409)) ?_
        refine V_iload dX9_blend_68 rfl ?_
        first | refine V_aload_n dX9_blend_70 rfl rfl ?_ | refine V_aload_nN dX9_blend_70 rfl rfl ?_
        refine V_iload dX9_blend_71 rfl ?_
        first | refine V_aload_n dX9_blend_73 rfl rfl ?_ | refine V_aload_nN dX9_blend_73 rfl rfl ?_
        first | refine V_getr (by exact g1.2.1.1.k _ rfl rfl) fX9_31 dX9_blend_74 (by exact (g1.2.1.1.r 8 rfl (by decide) : _ = some 409)) ?_ | refine V_getrN (by exact g1.2.1.1.k _ rfl rfl) fX9_31 dX9_blend_74 (by exact (g1.2.1.1.r 8 rfl (by decide) : _ = some 409)) ?_
        refine V_iload dX9_blend_77 rfl ?_
        refine G_iald (j := b) (by exact g1.2.1.1.k _ rfl rfl) (by rfl) (by exact g1.2.1.1.lt 409 (m := 10) rfl rfl (by decide) rfl (by omega)) (by exact g1.2.1.1.nlt 409 rfl rfl (by decide)) dX9_blend_79 (by exact g1.2.1.trnb hb) ?_
        first | refine V_aload_n dX9_blend_80 rfl rfl ?_ | refine V_aload_nN dX9_blend_80 rfl rfl ?_
        first | refine V_getr (by exact g1.2.1.1.k _ rfl rfl) fX9_54 dX9_blend_81 (by exact (g1.2.1.1.r 19 rfl (by decide) : _ = some 420)) ?_ | refine V_getrN (by exact g1.2.1.1.k _ rfl rfl) fX9_54 dX9_blend_81 (by exact (g1.2.1.1.r 19 rfl (by decide) : _ = some 420)) ?_
        refine V_iload_n dX9_blend_84 rfl rfl ?_
        refine V_iload_n dX9_blend_85 rfl rfl ?_
        refine V_callS (As := [_, _]) (st := _) (c_X9_spot _ _ _) kX9_181 ⟨rfl, rfl, rfl⟩ ⟨(Nat.le_of_ble_eq_true rfl), (Nat.le_of_ble_eq_true rfl)⟩ dX9_blend_86 rfl rfl (Nat.le_of_ble_eq_true rfl) ⟨(Nat.le_of_ble_eq_true rfl), (Nat.le_of_ble_eq_true rfl)⟩ ?_
        rw [spot_N]
        refine V_iload dX9_blend_89 rfl ?_
        refine V_iadd dX9_blend_91 ?_
        rw [nI_add]
        refine G_iald (j := 300 * c + 10 * f + b) (by exact g1.2.1.1.k _ rfl rfl) (by rfl) (by exact g1.2.1.1.lt 420 (m := 1800) rfl rfl (by decide) rfl (by omega)) (by exact g1.2.1.1.nlt 420 rfl rfl (by decide)) dX9_blend_92 (by exact ((g1.cp z0.2.1).fr hc hf hb).1) ?_
        refine V_iload_n dX9_blend_93 rfl rfl ?_
        refine V_callV (As := [_, _, _, _]) (st := _) (c_X9_blended _ b (kTrn (zK z) b) ((zQ z).2 c f b) (bN p) w1 g1.2.1 hb (z0.1.wf hb).2.2.2.2.2.2 (z0.2.1.fr hc hf hb).2 hpN) kX9_192 (by exact g1.2.1.1.k _ rfl rfl) ⟨rfl, rfl, rfl⟩ ⟨(Nat.le_of_ble_eq_true rfl), (Nat.le_of_ble_eq_true rfl)⟩ dX9_blend_94 rfl rfl (Nat.le_of_ble_eq_true rfl) ⟨(Nat.le_of_ble_eq_true rfl), (Nat.le_of_ble_eq_true rfl)⟩ ?_
        refine G_iast (j := b) (by exact g1.2.1.1.k _ rfl rfl) (by rfl) (by exact g1.2.1.1.lt 409 (m := 10) rfl rfl (by decide) rfl (by omega)) (by exact g1.2.1.1.nlt 409 rfl rfl (by decide)) dX9_blend_97 ?_
        refine S_iinc (L' := [(0, _), (1, _), (2, _), (3, _), (4, _), (5, _)]) dX9_blend_98 rfl rfl rfl rfl ?_
        rw [nI_inc]
        refine V_goto (tgt := 44) dX9_blend_101 (by decide) ?_
        have hu : ∀ i, i < kN (zK z) → blT (zK z) ((zQ z).2 c f) (bN p) m i < 36 := fun i hi => by
          unfold blT
          split
          · exact blendN_lt (z0.1.wf hi).2.2.2.2.1
          · exact (z0.1.wf hi).2.2.2.2.2.2
        first
          | exact ih (b + 1) _ (by omega) (g1.skip (if_neg c61))
          | exact ih (b + 1) _ (by omega) (g1.next z0.1 hu (if_pos (Classical.not_not.mp c61)))
          | exact ih (b + 1) _ (by omega) (g1.next z0.1 hu (if_pos c61))
  first | refine V_aload_n dX9_blend_0 rfl rfl ?_ | refine V_aload_nN dX9_blend_0 rfl rfl ?_
  refine V_iload_n dX9_blend_1 rfl rfl ?_
  refine V_iload_n dX9_blend_2 rfl rfl ?_
  refine V_callV (As := [_, _]) (st := _) (c_X9_isFrame (kN (zK z)) (zQ z) x y w z0.2.1) kX9_184 (by exact z0.1.1.k _ rfl rfl) ⟨rfl, rfl, rfl⟩ ⟨(Nat.le_of_ble_eq_true rfl), (Nat.le_of_ble_eq_true rfl)⟩ dX9_blend_3 rfl rfl (Nat.le_of_ble_eq_true rfl) ⟨(Nat.le_of_ble_eq_true rfl), (Nat.le_of_ble_eq_true rfl)⟩ ?_
  refine V_if_eq (tgt := 34) dX9_blend_6 (by decide) (fun c6 => ?_) (fun c6 => ?_)
  · refine V_bipush (v := -2) dX9_blend_34 (by decide) ?_
    refine V_iret rfl dX9_blend_36 (Nat.le_of_ble_eq_true rfl) (Nat.le_of_ble_eq_true rfl) ?_
    first
      | (have hn := b01_0 c31
         have e : oBlend z x y p m = (-2, z) := by unfold oBlend; rw [if_neg (fun q => hn q.2.2)]
         exact ⟨_, rfl, by rw [e], by rw [e]; exact z0, Keep.refl _ _⟩)
      | (have hn := b01_0 c18
         have e : oBlend z x y p m = (-2, z) := by unfold oBlend; rw [if_neg (fun q => hn q.2.1)]
         exact ⟨_, rfl, by rw [e], by rw [e]; exact z0, Keep.refl _ _⟩)
      | (have hn := b01_0 c6
         have e : oBlend z x y p m = (-2, z) := by unfold oBlend; rw [if_neg (fun q => hn q.1)]
         exact ⟨_, rfl, by rw [e], by rw [e]; exact z0, Keep.refl _ _⟩)
  · refine V_iload_n dX9_blend_9 rfl rfl ?_
    refine V_i2l dX9_blend_10 ?_
    refine V_lconst (v := 0) dX9_blend_11 (by decide) ?_
    refine V_ldc2 ctX9_124 dX9_blend_12 ?_
    refine V_callS (As := [_, _, _]) (st := _) (in9 p 0 100 0 100 rfl rfl w) kX9_114 ⟨rfl, rfl, rfl⟩ ⟨(Nat.le_of_ble_eq_true rfl), (Nat.le_of_ble_eq_true rfl)⟩ dX9_blend_15 rfl rfl (Nat.le_of_ble_eq_true rfl) ⟨(Nat.le_of_ble_eq_true rfl), (Nat.le_of_ble_eq_true rfl)⟩ ?_
    refine V_if_eq (tgt := 34) dX9_blend_18 (by decide) (fun c18 => ?_) (fun c18 => ?_)
    · refine V_bipush (v := -2) dX9_blend_34 (by decide) ?_
      refine V_iret rfl dX9_blend_36 (Nat.le_of_ble_eq_true rfl) (Nat.le_of_ble_eq_true rfl) ?_
      first
        | (have hn := b01_0 c31
           have e : oBlend z x y p m = (-2, z) := by unfold oBlend; rw [if_neg (fun q => hn q.2.2)]
           exact ⟨_, rfl, by rw [e], by rw [e]; exact z0, Keep.refl _ _⟩)
        | (have hn := b01_0 c18
           have e : oBlend z x y p m = (-2, z) := by unfold oBlend; rw [if_neg (fun q => hn q.2.1)]
           exact ⟨_, rfl, by rw [e], by rw [e]; exact z0, Keep.refl _ _⟩)
        | (have hn := b01_0 c6
           have e : oBlend z x y p m = (-2, z) := by unfold oBlend; rw [if_neg (fun q => hn q.1)]
           exact ⟨_, rfl, by rw [e], by rw [e]; exact z0, Keep.refl _ _⟩)
    · refine V_iload dX9_blend_21 rfl ?_
      refine V_i2l dX9_blend_23 ?_
      refine V_lconst (v := 0) dX9_blend_24 (by decide) ?_
      refine V_ldc2 ctX9_190 dX9_blend_25 ?_
      refine V_callS (As := [_, _, _]) (st := _) (in9 m 0 1023 0 1023 rfl rfl w) kX9_114 ⟨rfl, rfl, rfl⟩ ⟨(Nat.le_of_ble_eq_true rfl), (Nat.le_of_ble_eq_true rfl)⟩ dX9_blend_28 rfl rfl (Nat.le_of_ble_eq_true rfl) ⟨(Nat.le_of_ble_eq_true rfl), (Nat.le_of_ble_eq_true rfl)⟩ ?_
      refine V_if_ne (tgt := 37) dX9_blend_31 (by decide) (fun c31 => ?_) (fun c31 => ?_)
      · obtain ⟨c, f, hc, hf, rfl, rfl⟩ := isFr_s z0 (b01_1 c6)
        have h30 := z0.2.1.le hc
        have h10 := z0.1.n10
        have hcN : bN (nI c) = c := bN_nI (by omega)
        have hfN : bN (nI f) = f := bN_nI (by omega)
        have hp := b01_1 c18
        have hpN : bN p ≤ 100 := by unfold bN; omega
        refine V_sub (L' := [(0, .ref 400), (1, .int (nI c)), (2, .int (nI f)), (3, .int (nI (bN p))), (4, .int m)]) (by rw [← i32_nat hp.1]; rfl) ?_
        first | refine V_aload_n dX9_blend_37 rfl rfl ?_ | refine V_aload_nN dX9_blend_37 rfl rfl ?_
        refine V_callVvr (As := []) (st := _) (c_X9_hold (zK z) w z0.1) kX9_156 (by exact z0.1.1.k _ rfl rfl) ⟨rfl, rfl, rfl⟩ ⟨(Nat.le_of_ble_eq_true rfl), (Nat.le_of_ble_eq_true rfl)⟩ dX9_blend_38 rfl rfl (Nat.le_of_ble_eq_true rfl) ⟨(Nat.le_of_ble_eq_true rfl), (Nat.le_of_ble_eq_true rfl)⟩ (fun w1 hw1 => ?_)
        obtain ⟨a1, a2, a3⟩ := hw1
        refine V_iconst (v := 0) dX9_blend_41 (by decide) ?_
        refine S_istore (L' := [(0, _), (1, _), (2, _), (3, _), (4, _), (5, _)]) dX9_blend_42 rfl rfl ?_
        exact loop c f hc hf hcN hfN ⟨b01_1 c6, hp, b01_1 c31⟩ hpN (kN (zK z)) 0 w1 (by omega) (PzI.first z0.1 a1 a2 a3)
      · refine V_bipush (v := -2) dX9_blend_34 (by decide) ?_
        refine V_iret rfl dX9_blend_36 (Nat.le_of_ble_eq_true rfl) (Nat.le_of_ble_eq_true rfl) ?_
        first
          | (have hn := b01_0 c31
             have e : oBlend z x y p m = (-2, z) := by unfold oBlend; rw [if_neg (fun q => hn q.2.2)]
             exact ⟨_, rfl, by rw [e], by rw [e]; exact z0, Keep.refl _ _⟩)
          | (have hn := b01_0 c18
             have e : oBlend z x y p m = (-2, z) := by unfold oBlend; rw [if_neg (fun q => hn q.2.1)]
             exact ⟨_, rfl, by rw [e], by rw [e]; exact z0, Keep.refl _ _⟩)
          | (have hn := b01_0 c6
             have e : oBlend z x y p m = (-2, z) := by unfold oBlend; rw [if_neg (fun q => hn q.1)]
             exact ⟨_, rfl, by rw [e], by rw [e]; exact z0, Keep.refl _ _⟩)

set_option maxRecDepth 100000 in
theorem c_X9_add (z : St) (x y p : Int32) (w : Wd) (z0 : RM z w) : Cc yX9_add mX9_add [.ref 400, .int x, .int y, .int p] w (fun r w' => ∃ v, r = some v ∧ (v = .int (oAdd z x y p).1 ∧ RM (oAdd z x y p).2 w' ∧ Keep moA w w')) := by
  refine Cc.of (by decide) rfl rfl (Nat.le_of_ble_eq_true rfl) (fun X => ?_)
  change V _ X _ 0 [(0, _), (1, _), (2, _), (3, _)] [] _ (0, 0)
  have loop : ∀ c f g, c < 6 → f < (zQ z).1 c → g < (zQ z).1 c → bN (nI c) = c → bN (nI f) = f → bN (nI g) = g → (isFr z (nI c) (nI f) ∧ isFr z (nI c) (nI g)) → ∀ (d b : Nat) (w1 : Wd), b + d = kN (zK z) → PzI (zK z) (inT (zK z) (adT (zK z) ((zQ z).2 c f) ((zQ z).2 c g))) w b w1 → V mX9_add X (mq mX9_add X (fun r w' => ∃ v, r = some v ∧ (v = .int (oAdd z (nI c) (nI f) (nI g)).1 ∧ RM (oAdd z (nI c) (nI f) (nI g)).2 w' ∧ Keep moA w w'))) 31 [(0, .ref 400), (1, .int (nI c)), (2, .int (nI f)), (3, .int (nI g)), (4, .int (nI (cntF (ouT (zK z) (adT (zK z) ((zQ z).2 c f) ((zQ z).2 c g))) b))), (5, .int (nI b))] [] w1 (0, 0) := by
    intro c f g hc hf hg hcN hfN hgN hxy d
    have h30 := z0.2.1.le hc
    have h10 := z0.1.n10
    induction d with
    | zero =>
      intro b w1 hd g1
      obtain rfl : b = kN (zK z) := hd
      refine V_iload dX9_add_31 rfl ?_
      first | refine V_aload_n dX9_add_33 rfl rfl ?_ | refine V_aload_nN dX9_add_33 rfl rfl ?_
      refine G_geti (by exact g1.2.1.1.k _ rfl rfl) fX9_111 dX9_add_34 (by exact g1.2.1.n) ?_
      refine V_icmp_ge (tgt := 124) dX9_add_37 (by decide) (fun c37 => ?_) (fun c37 => False.elim (by exact c37 (nI_le (Nat.le_refl _) (by have := z0.1.n10; show kN (zK z) < _; omega))))
      first | refine V_aload_n dX9_add_124 rfl rfl ?_ | refine V_aload_nN dX9_add_124 rfl rfl ?_
      refine V_callVvr (As := []) (st := _) (c_X9_settle _ (oldX (zK z)) (oldY (zK z)) _ g1.2.1 (fun _ _ => ⟨g1.2.2.1, g1.2.2.2⟩)) kX9_159 (by exact g1.2.1.1.k _ rfl rfl) ⟨rfl, rfl, rfl⟩ ⟨(Nat.le_of_ble_eq_true rfl), (Nat.le_of_ble_eq_true rfl)⟩ dX9_add_125 rfl rfl (Nat.le_of_ble_eq_true rfl) ⟨(Nat.le_of_ble_eq_true rfl), (Nat.le_of_ble_eq_true rfl)⟩ (fun w2 hw2 => ?_)
      obtain ⟨b1, b2⟩ := hw2
      obtain ⟨r1, r2⟩ := g1.fin z0 b1 b2
      refine V_iload dX9_add_128 rfl ?_
      refine V_iret rfl dX9_add_130 (Nat.le_of_ble_eq_true rfl) (Nat.le_of_ble_eq_true rfl) ?_
      have e : oAdd z (nI c) (nI f) (nI g) = (nI (cntF (ouT (zK z) (adT (zK z) ((zQ z).2 c f) ((zQ z).2 c g))) (kN (zK z))), pK z (setP (zK z) (mixT (kN (zK z)) (inT (zK z) (adT (zK z) ((zQ z).2 c f) ((zQ z).2 c g))) (kTrn (zK z))))) := by
        unfold oAdd
        rw [if_pos hxy, hcN, hfN, hgN]
      exact ⟨_, rfl, by rw [e], by rw [e]; exact r1, r2⟩
    | succ d ih =>
      intro b w1 hd g1
      have hb : b < kN (zK z) := by omega
      refine V_iload dX9_add_31 rfl ?_
      first | refine V_aload_n dX9_add_33 rfl rfl ?_ | refine V_aload_nN dX9_add_33 rfl rfl ?_
      refine G_geti (by exact g1.2.1.1.k _ rfl rfl) fX9_111 dX9_add_34 (by exact g1.2.1.n) ?_
      refine V_icmp_ge (tgt := 124) dX9_add_37 (by decide) (fun c37 => False.elim (by exact nI_ge (a := b) (b := kN (zK z)) hb (by have := z0.1.n10; omega) c37)) (fun c37 => ?_)
      have hft := (z0.2.1.fr hc hf hb).2
      have hgt := (z0.2.1.fr hc hg hb).2
      have hr := shortN_rng hgt hft
      have ha36 : adT (zK z) ((zQ z).2 c f) ((zQ z).2 c g) b < 36 := addN_lt _ _
      first | refine V_aload_n dX9_add_40 rfl rfl ?_ | refine V_aload_nN dX9_add_40 rfl rfl ?_
      first | refine V_getr (by exact g1.2.1.1.k _ rfl rfl) fX9_31 dX9_add_41 (by exact (g1.2.1.1.r 8 rfl (by decide) : _ = some 409)) ?_ | refine V_getrN (by exact g1.2.1.1.k _ rfl rfl) fX9_31 dX9_add_41 (by exact (g1.2.1.1.r 8 rfl (by decide) : _ = some 409)) ?_
      refine V_iload dX9_add_44 rfl ?_
      refine G_iald (j := b) (by exact g1.2.1.1.k _ rfl rfl) (by rfl) (by exact g1.2.1.1.lt 409 (m := 10) rfl rfl (by decide) rfl (by omega)) (by exact g1.2.1.1.nlt 409 rfl rfl (by decide)) dX9_add_46 (by exact g1.2.1.trnb hb) ?_
      first | refine V_aload_n dX9_add_47 rfl rfl ?_ | refine V_aload_nN dX9_add_47 rfl rfl ?_
      first | refine V_getr (by exact g1.2.1.1.k _ rfl rfl) fX9_54 dX9_add_48 (by exact (g1.2.1.1.r 19 rfl (by decide) : _ = some 420)) ?_ | refine V_getrN (by exact g1.2.1.1.k _ rfl rfl) fX9_54 dX9_add_48 (by exact (g1.2.1.1.r 19 rfl (by decide) : _ = some 420)) ?_
      refine V_iload_n dX9_add_51 rfl rfl ?_
      refine V_iload_n dX9_add_52 rfl rfl ?_
      refine V_callS (As := [_, _]) (st := _) (c_X9_spot _ _ _) kX9_181 ⟨rfl, rfl, rfl⟩ ⟨(Nat.le_of_ble_eq_true rfl), (Nat.le_of_ble_eq_true rfl)⟩ dX9_add_53 rfl rfl (Nat.le_of_ble_eq_true rfl) ⟨(Nat.le_of_ble_eq_true rfl), (Nat.le_of_ble_eq_true rfl)⟩ ?_
      rw [spot_N]
      refine V_iload dX9_add_56 rfl ?_
      refine V_iadd dX9_add_58 ?_
      rw [nI_add]
      refine G_iald (j := 300 * c + 10 * g + b) (by exact g1.2.1.1.k _ rfl rfl) (by rfl) (by exact g1.2.1.1.lt 420 (m := 1800) rfl rfl (by decide) rfl (by omega)) (by exact g1.2.1.1.nlt 420 rfl rfl (by decide)) dX9_add_59 (by exact ((g1.cp z0.2.1).fr hc hg hb).1) ?_
      first | refine V_aload_n dX9_add_60 rfl rfl ?_ | refine V_aload_nN dX9_add_60 rfl rfl ?_
      first | refine V_getr (by exact g1.2.1.1.k _ rfl rfl) fX9_54 dX9_add_61 (by exact (g1.2.1.1.r 19 rfl (by decide) : _ = some 420)) ?_ | refine V_getrN (by exact g1.2.1.1.k _ rfl rfl) fX9_54 dX9_add_61 (by exact (g1.2.1.1.r 19 rfl (by decide) : _ = some 420)) ?_
      refine V_iload_n dX9_add_64 rfl rfl ?_
      refine V_iload_n dX9_add_65 rfl rfl ?_
      refine V_callS (As := [_, _]) (st := _) (c_X9_spot _ _ _) kX9_181 ⟨rfl, rfl, rfl⟩ ⟨(Nat.le_of_ble_eq_true rfl), (Nat.le_of_ble_eq_true rfl)⟩ dX9_add_66 rfl rfl (Nat.le_of_ble_eq_true rfl) ⟨(Nat.le_of_ble_eq_true rfl), (Nat.le_of_ble_eq_true rfl)⟩ ?_
      rw [spot_N]
      refine V_iload dX9_add_69 rfl ?_
      refine V_iadd dX9_add_71 ?_
      rw [nI_add]
      refine G_iald (j := 300 * c + 10 * f + b) (by exact g1.2.1.1.k _ rfl rfl) (by rfl) (by exact g1.2.1.1.lt 420 (m := 1800) rfl rfl (by decide) rfl (by omega)) (by exact g1.2.1.1.nlt 420 rfl rfl (by decide)) dX9_add_72 (by exact ((g1.cp z0.2.1).fr hc hf hb).1) ?_
      refine V_callS (As := [_, _]) (st := _) (c_X9_shortWay _ _ _) kX9_104 ⟨rfl, rfl, rfl⟩ ⟨(Nat.le_of_ble_eq_true rfl), (Nat.le_of_ble_eq_true rfl)⟩ dX9_add_73 rfl rfl (Nat.le_of_ble_eq_true rfl) ⟨(Nat.le_of_ble_eq_true rfl), (Nat.le_of_ble_eq_true rfl)⟩ ?_
      rw [mShort_N hgt hft]
      refine V_iadd dX9_add_76 ?_
      refine V_callS (As := [_]) (st := _) (c_X9_round _ _) kX9_96 ⟨rfl, rfl, rfl⟩ ⟨(Nat.le_of_ble_eq_true rfl), (Nat.le_of_ble_eq_true rfl)⟩ dX9_add_77 rfl rfl (Nat.le_of_ble_eq_true rfl) ⟨(Nat.le_of_ble_eq_true rfl), (Nat.le_of_ble_eq_true rfl)⟩ ?_
      rw [rN_add (z0.1.wf hb).2.2.2.2.2.2 (by have := hr.1; omega) (by have := hr.2; omega)]
      refine S_istore (L' := [(0, _), (1, _), (2, _), (3, _), (4, _), (5, _), (6, _)]) dX9_add_80 rfl rfl ?_
      refine V_sub (L' := [(0, .ref 400), (1, .int (nI c)), (2, .int (nI f)), (3, .int (nI g)), (4, .int (nI (cntF (ouT (zK z) (adT (zK z) ((zQ z).2 c f) ((zQ z).2 c g))) b))), (5, .int (nI b)), (6, .int (nI (adT (zK z) ((zQ z).2 c f) ((zQ z).2 c g) b)))]) rfl ?_
      refine V_iload dX9_add_82 rfl ?_
      first | refine V_aload_n dX9_add_84 rfl rfl ?_ | refine V_aload_nN dX9_add_84 rfl rfl ?_
      refine V_iload dX9_add_85 rfl ?_
      refine V_iload dX9_add_87 rfl ?_
      refine V_callV (As := [_, _]) (st := _) (c_X9_isWithin _ b (adT (zK z) ((zQ z).2 c f) ((zQ z).2 c g) b) w1 g1.2.1 hb ha36) kX9_100 (by exact g1.2.1.1.k _ rfl rfl) ⟨rfl, rfl, rfl⟩ ⟨(Nat.le_of_ble_eq_true rfl), (Nat.le_of_ble_eq_true rfl)⟩ dX9_add_89 rfl rfl (Nat.le_of_ble_eq_true rfl) ⟨(Nat.le_of_ble_eq_true rfl), (Nat.le_of_ble_eq_true rfl)⟩ ?_
      refine V_if_eq (tgt := 99) dX9_add_92 (by decide) (fun c92 => ?_) (fun c92 => ?_)
      · refine V_iconst (v := 1) dX9_add_99 (by decide) ?_
        refine V_iadd dX9_add_100 ?_
        refine S_istore (L' := [(0, _), (1, _), (2, _), (3, _), (4, _), (5, _), (6, _)]) dX9_add_101 rfl rfl ?_
        first | refine V_aload_n dX9_add_103 rfl rfl ?_ | refine V_aload_nN dX9_add_103 rfl rfl ?_
        first | refine V_getr (by exact g1.2.1.1.k _ rfl rfl) fX9_31 dX9_add_104 (by exact (g1.2.1.1.r 8 rfl (by decide) : _ = some 409)) ?_ | refine V_getrN (by exact g1.2.1.1.k _ rfl rfl) fX9_31 dX9_add_104 (by exact (g1.2.1.1.r 8 rfl (by decide) : _ = some 409)) ?_
        refine V_iload dX9_add_107 rfl ?_
        first | refine V_aload_n dX9_add_109 rfl rfl ?_ | refine V_aload_nN dX9_add_109 rfl rfl ?_
        refine V_iload dX9_add_110 rfl ?_
        refine V_iload dX9_add_112 rfl ?_
        refine V_callV (As := [_, _]) (st := _) (c_X9_intoLimits _ b (adT (zK z) ((zQ z).2 c f) ((zQ z).2 c g) b) w1 g1.2.1 hb ha36) kX9_187 (by exact g1.2.1.1.k _ rfl rfl) ⟨rfl, rfl, rfl⟩ ⟨(Nat.le_of_ble_eq_true rfl), (Nat.le_of_ble_eq_true rfl)⟩ dX9_add_114 rfl rfl (Nat.le_of_ble_eq_true rfl) ⟨(Nat.le_of_ble_eq_true rfl), (Nat.le_of_ble_eq_true rfl)⟩ ?_
        refine G_iast (j := b) (by exact g1.2.1.1.k _ rfl rfl) (by rfl) (by exact g1.2.1.1.lt 409 (m := 10) rfl rfl (by decide) rfl (by omega)) (by exact g1.2.1.1.nlt 409 rfl rfl (by decide)) dX9_add_117 ?_
        refine S_iinc (L' := [(0, _), (1, _), (2, _), (3, _), (4, _), (5, _)]) dX9_add_118 rfl rfl rfl rfl ?_
        rw [nI_inc]
        refine V_goto (tgt := 31) dX9_add_121 (by decide) ?_
        have hu : ∀ i, i < kN (zK z) → inT (zK z) (adT (zK z) ((zQ z).2 c f) ((zQ z).2 c g)) i < 36 := fun i hi => intoN_lt (z0.1.wf hi).2.2.2.2.1 (addN_lt _ _)
        have key := ih (b + 1) _ (by omega) (g1.next z0.1 hu rfl)
        first
          | (have hn := b01_0 c92
             have ec : nI (cntF (ouT (zK z) (adT (zK z) ((zQ z).2 c f) ((zQ z).2 c g))) b) + 1 = nI (cntF (ouT (zK z) (adT (zK z) ((zQ z).2 c f) ((zQ z).2 c g))) (b + 1)) := cnt_y (decide_eq_true hn)
             rw [ec]
             exact key)
          | (have hn := b01_1 c92
             have ec : nI (cntF (ouT (zK z) (adT (zK z) ((zQ z).2 c f) ((zQ z).2 c g))) b) + 0 = nI (cntF (ouT (zK z) (adT (zK z) ((zQ z).2 c f) ((zQ z).2 c g))) (b + 1)) := cnt_n (fun q => (of_decide_eq_true q : ¬ wi (kLow (zK z) b) (kSpr (zK z) b) (adT (zK z) ((zQ z).2 c f) ((zQ z).2 c g) b)) hn)
             rw [ec]
             exact key)
      · refine V_iconst (v := 0) dX9_add_95 (by decide) ?_
        refine V_goto (tgt := 100) dX9_add_96 (by decide) ?_
        refine V_iadd dX9_add_100 ?_
        refine S_istore (L' := [(0, _), (1, _), (2, _), (3, _), (4, _), (5, _), (6, _)]) dX9_add_101 rfl rfl ?_
        first | refine V_aload_n dX9_add_103 rfl rfl ?_ | refine V_aload_nN dX9_add_103 rfl rfl ?_
        first | refine V_getr (by exact g1.2.1.1.k _ rfl rfl) fX9_31 dX9_add_104 (by exact (g1.2.1.1.r 8 rfl (by decide) : _ = some 409)) ?_ | refine V_getrN (by exact g1.2.1.1.k _ rfl rfl) fX9_31 dX9_add_104 (by exact (g1.2.1.1.r 8 rfl (by decide) : _ = some 409)) ?_
        refine V_iload dX9_add_107 rfl ?_
        first | refine V_aload_n dX9_add_109 rfl rfl ?_ | refine V_aload_nN dX9_add_109 rfl rfl ?_
        refine V_iload dX9_add_110 rfl ?_
        refine V_iload dX9_add_112 rfl ?_
        refine V_callV (As := [_, _]) (st := _) (c_X9_intoLimits _ b (adT (zK z) ((zQ z).2 c f) ((zQ z).2 c g) b) w1 g1.2.1 hb ha36) kX9_187 (by exact g1.2.1.1.k _ rfl rfl) ⟨rfl, rfl, rfl⟩ ⟨(Nat.le_of_ble_eq_true rfl), (Nat.le_of_ble_eq_true rfl)⟩ dX9_add_114 rfl rfl (Nat.le_of_ble_eq_true rfl) ⟨(Nat.le_of_ble_eq_true rfl), (Nat.le_of_ble_eq_true rfl)⟩ ?_
        refine G_iast (j := b) (by exact g1.2.1.1.k _ rfl rfl) (by rfl) (by exact g1.2.1.1.lt 409 (m := 10) rfl rfl (by decide) rfl (by omega)) (by exact g1.2.1.1.nlt 409 rfl rfl (by decide)) dX9_add_117 ?_
        refine S_iinc (L' := [(0, _), (1, _), (2, _), (3, _), (4, _), (5, _)]) dX9_add_118 rfl rfl rfl rfl ?_
        rw [nI_inc]
        refine V_goto (tgt := 31) dX9_add_121 (by decide) ?_
        have hu : ∀ i, i < kN (zK z) → inT (zK z) (adT (zK z) ((zQ z).2 c f) ((zQ z).2 c g)) i < 36 := fun i hi => intoN_lt (z0.1.wf hi).2.2.2.2.1 (addN_lt _ _)
        have key := ih (b + 1) _ (by omega) (g1.next z0.1 hu rfl)
        first
          | (have hn := b01_0 c92
             have ec : nI (cntF (ouT (zK z) (adT (zK z) ((zQ z).2 c f) ((zQ z).2 c g))) b) + 1 = nI (cntF (ouT (zK z) (adT (zK z) ((zQ z).2 c f) ((zQ z).2 c g))) (b + 1)) := cnt_y (decide_eq_true hn)
             rw [ec]
             exact key)
          | (have hn := b01_1 c92
             have ec : nI (cntF (ouT (zK z) (adT (zK z) ((zQ z).2 c f) ((zQ z).2 c g))) b) + 0 = nI (cntF (ouT (zK z) (adT (zK z) ((zQ z).2 c f) ((zQ z).2 c g))) (b + 1)) := cnt_n (fun q => (of_decide_eq_true q : ¬ wi (kLow (zK z) b) (kSpr (zK z) b) (adT (zK z) ((zQ z).2 c f) ((zQ z).2 c g) b)) hn)
             rw [ec]
             exact key)
  first | refine V_aload_n dX9_add_0 rfl rfl ?_ | refine V_aload_nN dX9_add_0 rfl rfl ?_
  refine V_iload_n dX9_add_1 rfl rfl ?_
  refine V_iload_n dX9_add_2 rfl rfl ?_
  refine V_callV (As := [_, _]) (st := _) (c_X9_isFrame (kN (zK z)) (zQ z) x y w z0.2.1) kX9_184 (by exact z0.1.1.k _ rfl rfl) ⟨rfl, rfl, rfl⟩ ⟨(Nat.le_of_ble_eq_true rfl), (Nat.le_of_ble_eq_true rfl)⟩ dX9_add_3 rfl rfl (Nat.le_of_ble_eq_true rfl) ⟨(Nat.le_of_ble_eq_true rfl), (Nat.le_of_ble_eq_true rfl)⟩ ?_
  refine V_if_eq (tgt := 18) dX9_add_6 (by decide) (fun c6 => ?_) (fun c6 => ?_)
  · refine V_bipush (v := -2) dX9_add_18 (by decide) ?_
    refine V_iret rfl dX9_add_20 (Nat.le_of_ble_eq_true rfl) (Nat.le_of_ble_eq_true rfl) ?_
    first
      | (have hn := b01_0 c15
         have e : oAdd z x y p = (-2, z) := by unfold oAdd; rw [if_neg (fun q => hn q.2)]
         exact ⟨_, rfl, by rw [e], by rw [e]; exact z0, Keep.refl _ _⟩)
      | (have hn := b01_0 c6
         have e : oAdd z x y p = (-2, z) := by unfold oAdd; rw [if_neg (fun q => hn q.1)]
         exact ⟨_, rfl, by rw [e], by rw [e]; exact z0, Keep.refl _ _⟩)
  · first | refine V_aload_n dX9_add_9 rfl rfl ?_ | refine V_aload_nN dX9_add_9 rfl rfl ?_
    refine V_iload_n dX9_add_10 rfl rfl ?_
    refine V_iload_n dX9_add_11 rfl rfl ?_
    refine V_callV (As := [_, _]) (st := _) (c_X9_isFrame (kN (zK z)) (zQ z) x p w z0.2.1) kX9_184 (by exact z0.1.1.k _ rfl rfl) ⟨rfl, rfl, rfl⟩ ⟨(Nat.le_of_ble_eq_true rfl), (Nat.le_of_ble_eq_true rfl)⟩ dX9_add_12 rfl rfl (Nat.le_of_ble_eq_true rfl) ⟨(Nat.le_of_ble_eq_true rfl), (Nat.le_of_ble_eq_true rfl)⟩ ?_
    refine V_if_ne (tgt := 21) dX9_add_15 (by decide) (fun c15 => ?_) (fun c15 => ?_)
    · obtain ⟨c, f, hc, hf, rfl, rfl⟩ := isFr_s z0 (b01_1 c6)
      obtain ⟨c2, g, hc2, hg, e2, rfl⟩ := isFr_s z0 (b01_1 c15)
      obtain rfl : c = c2 := (nI_eq (by omega) (by omega)).mp e2
      have h30 := z0.2.1.le hc
      have h10 := z0.1.n10
      have hcN : bN (nI c) = c := bN_nI (by omega)
      have hfN : bN (nI f) = f := bN_nI (by omega)
      have hgN : bN (nI g) = g := bN_nI (by omega)
      refine V_iconst (v := 0) dX9_add_21 (by decide) ?_
      refine S_istore (L' := [(0, _), (1, _), (2, _), (3, _), (4, _)]) dX9_add_22 rfl rfl ?_
      first | refine V_aload_n dX9_add_24 rfl rfl ?_ | refine V_aload_nN dX9_add_24 rfl rfl ?_
      refine V_callVvr (As := []) (st := _) (c_X9_hold (zK z) w z0.1) kX9_156 (by exact z0.1.1.k _ rfl rfl) ⟨rfl, rfl, rfl⟩ ⟨(Nat.le_of_ble_eq_true rfl), (Nat.le_of_ble_eq_true rfl)⟩ dX9_add_25 rfl rfl (Nat.le_of_ble_eq_true rfl) ⟨(Nat.le_of_ble_eq_true rfl), (Nat.le_of_ble_eq_true rfl)⟩ (fun w1 hw1 => ?_)
      obtain ⟨a1, a2, a3⟩ := hw1
      refine V_iconst (v := 0) dX9_add_28 (by decide) ?_
      refine S_istore (L' := [(0, _), (1, _), (2, _), (3, _), (4, _), (5, _)]) dX9_add_29 rfl rfl ?_
      exact loop c f g hc hf hg hcN hfN hgN ⟨b01_1 c6, b01_1 c15⟩ (kN (zK z)) 0 w1 (by omega) (PzI.first z0.1 a1 a2 a3)
    · refine V_bipush (v := -2) dX9_add_18 (by decide) ?_
      refine V_iret rfl dX9_add_20 (Nat.le_of_ble_eq_true rfl) (Nat.le_of_ble_eq_true rfl) ?_
      first
        | (have hn := b01_0 c15
           have e : oAdd z x y p = (-2, z) := by unfold oAdd; rw [if_neg (fun q => hn q.2)]
           exact ⟨_, rfl, by rw [e], by rw [e]; exact z0, Keep.refl _ _⟩)
        | (have hn := b01_0 c6
           have e : oAdd z x y p = (-2, z) := by unfold oAdd; rw [if_neg (fun q => hn q.1)]
           exact ⟨_, rfl, by rw [e], by rw [e]; exact z0, Keep.refl _ _⟩)

set_option maxRecDepth 100000 in
theorem c_X9_likeness (nb : Nat) (q : Cp) (s t : Nat) (w : Wd) (h : MCp nb q w) (hn : wI w 400 2 = nI nb) (hs : s < 180) (ht : t < 180) (hps : s % 30 < q.1 (s / 30)) (hpt : t % 30 < q.1 (t / 30)) : Cc yX9_likeness mX9_likeness [.ref 400, .int (nI (10 * s)), .int (nI (10 * t))] w (fun r w' => r = some (.int (nI (lkS q nb s t))) ∧ w' = w) := by
  refine Cc.of (by decide) rfl rfl (Nat.le_of_ble_eq_true rfl) (fun X => ?_)
  change V _ X _ 0 [(0, _), (1, _), (2, _)] [] _ (0, 0)
  have loop : ∀ (d b : Nat), b + d = nb → V mX9_likeness X (mq mX9_likeness X (fun r w' => r = some (.int (nI (lkS q nb s t))) ∧ w' = w)) 5 [(0, .ref 400), (1, .int (nI (10 * s))), (2, .int (nI (10 * t))), (3, .int (nI (likN (tr q s) (tr q t) b))), (4, .int (nI b))] [] w (0, 0) := by
    intro d
    induction d with
    | zero =>
      intro b hd
      obtain rfl : b = nb := hd
      refine V_iload dX9_likeness_5 rfl ?_
      first | refine V_aload_n dX9_likeness_7 rfl rfl ?_ | refine V_aload_nN dX9_likeness_7 rfl rfl ?_
      refine G_geti (by exact h.1.k _ rfl rfl) fX9_111 dX9_likeness_8 (by exact hn) ?_
      refine V_icmp_ge (tgt := 47) dX9_likeness_11 (by decide) (fun c11 => ?_) (fun c11 => False.elim (by exact c11 (nI_le (Nat.le_refl _) (by have := h.2.1; omega))))
      refine V_iload_n dX9_likeness_47 rfl rfl ?_
      refine V_iret rfl dX9_likeness_48 (Nat.le_of_ble_eq_true rfl) (Nat.le_of_ble_eq_true rfl) ?_
      exact ⟨rfl, rfl⟩
    | succ d ih =>
      intro b hd
      have hb : b < nb := by omega
      refine V_iload dX9_likeness_5 rfl ?_
      first | refine V_aload_n dX9_likeness_7 rfl rfl ?_ | refine V_aload_nN dX9_likeness_7 rfl rfl ?_
      refine G_geti (by exact h.1.k _ rfl rfl) fX9_111 dX9_likeness_8 (by exact hn) ?_
      refine V_icmp_ge (tgt := 47) dX9_likeness_11 (by decide) (fun c11 => False.elim (by exact nI_ge (a := b) (b := nb) hb (by have := h.2.1; omega) c11)) (fun c11 => ?_)
      refine V_iload_n dX9_likeness_14 rfl rfl ?_
      first | refine V_aload_n dX9_likeness_15 rfl rfl ?_ | refine V_aload_nN dX9_likeness_15 rfl rfl ?_
      first | refine V_getr (by exact h.1.k _ rfl rfl) fX9_54 dX9_likeness_16 (by exact (h.1.r 19 rfl (by decide) : _ = some 420)) ?_ | refine V_getrN (by exact h.1.k _ rfl rfl) fX9_54 dX9_likeness_16 (by exact (h.1.r 19 rfl (by decide) : _ = some 420)) ?_
      refine V_iload_n dX9_likeness_19 rfl rfl ?_
      refine V_iload dX9_likeness_20 rfl ?_
      refine V_iadd dX9_likeness_22 ?_
      rw [nI_add]
      refine G_iald (j := 10 * s + b) (by exact h.1.k _ rfl rfl) (by rfl) (by exact h.1.lt 420 (m := 1800) rfl rfl (by decide) rfl (by have := h.2.1; omega)) (by exact h.1.nlt 420 rfl rfl (by decide)) dX9_likeness_23 (by exact (h.f1 hs hps hb).1) ?_
      first | refine V_aload_n dX9_likeness_24 rfl rfl ?_ | refine V_aload_nN dX9_likeness_24 rfl rfl ?_
      first | refine V_getr (by exact h.1.k _ rfl rfl) fX9_54 dX9_likeness_25 (by exact (h.1.r 19 rfl (by decide) : _ = some 420)) ?_ | refine V_getrN (by exact h.1.k _ rfl rfl) fX9_54 dX9_likeness_25 (by exact (h.1.r 19 rfl (by decide) : _ = some 420)) ?_
      refine V_iload_n dX9_likeness_28 rfl rfl ?_
      refine V_iload dX9_likeness_29 rfl ?_
      refine V_iadd dX9_likeness_31 ?_
      rw [nI_add]
      refine G_iald (j := 10 * t + b) (by exact h.1.k _ rfl rfl) (by rfl) (by exact h.1.lt 420 (m := 1800) rfl rfl (by decide) rfl (by have := h.2.1; omega)) (by exact h.1.nlt 420 rfl rfl (by decide)) dX9_likeness_32 (by exact (h.f1 ht hpt hb).1) ?_
      refine V_callS (As := [_, _]) (st := _) (c_X9_shortWay _ _ _) kX9_104 ⟨rfl, rfl, rfl⟩ ⟨(Nat.le_of_ble_eq_true rfl), (Nat.le_of_ble_eq_true rfl)⟩ dX9_likeness_33 rfl rfl (Nat.le_of_ble_eq_true rfl) ⟨(Nat.le_of_ble_eq_true rfl), (Nat.le_of_ble_eq_true rfl)⟩ ?_
      rw [mShort_N (h.f1 hs hps hb).2 (h.f1 ht hpt hb).2]
      refine V_callS (As := [_]) (st := _) (c_X9_amount _ _) kX9_108 ⟨rfl, rfl, rfl⟩ ⟨(Nat.le_of_ble_eq_true rfl), (Nat.le_of_ble_eq_true rfl)⟩ dX9_likeness_36 rfl rfl (Nat.le_of_ble_eq_true rfl) ⟨(Nat.le_of_ble_eq_true rfl), (Nat.le_of_ble_eq_true rfl)⟩ ?_
      rw [mAmt_N (h.f1 hs hps hb).2 (h.f1 ht hpt hb).2]
      refine V_iadd dX9_likeness_39 ?_
      rw [nI_add]
      refine S_istore_n (L' := [(0, _), (1, _), (2, _), (3, _), (4, _)]) dX9_likeness_40 rfl rfl rfl ?_
      refine S_iinc (L' := [(0, _), (1, _), (2, _), (3, _), (4, _)]) dX9_likeness_41 rfl rfl rfl rfl ?_
      rw [nI_inc]
      refine V_goto (tgt := 5) dX9_likeness_44 (by decide) ?_
      exact ih (b + 1) (by omega)
  refine V_iconst (v := 0) dX9_likeness_0 (by decide) ?_
  refine S_istore_n (L' := [(0, _), (1, _), (2, _), (3, _)]) dX9_likeness_1 rfl rfl rfl ?_
  refine V_iconst (v := 0) dX9_likeness_2 (by decide) ?_
  refine S_istore (L' := [(0, _), (1, _), (2, _), (3, _), (4, _)]) dX9_likeness_3 rfl rfl ?_
  exact loop nb 0 (by omega)

set_option maxRecDepth 100000 in
theorem c_X9_like (z : St) (x y u v : Int32) (w : Wd) (z0 : RM z w) : Cc yX9_like mX9_like [.ref 400, .int x, .int y, .int u, .int v] w (fun r w' => r = some (.int (oLike z x y u v)) ∧ w' = w) := by
  refine Cc.of (by decide) rfl rfl (Nat.le_of_ble_eq_true rfl) (fun X => ?_)
  change V _ X _ 0 [(0, _), (1, _), (2, _), (3, _), (4, _)] [] _ (0, 0)
  first | refine V_aload_n dX9_like_0 rfl rfl ?_ | refine V_aload_nN dX9_like_0 rfl rfl ?_
  refine V_iload_n dX9_like_1 rfl rfl ?_
  refine V_iload_n dX9_like_2 rfl rfl ?_
  refine V_callV (As := [_, _]) (st := _) (c_X9_isFrame (kN (zK z)) (zQ z) x y w z0.2.1) kX9_184 (by exact z0.1.1.k _ rfl rfl) ⟨rfl, rfl, rfl⟩ ⟨(Nat.le_of_ble_eq_true rfl), (Nat.le_of_ble_eq_true rfl)⟩ dX9_like_3 rfl rfl (Nat.le_of_ble_eq_true rfl) ⟨(Nat.le_of_ble_eq_true rfl), (Nat.le_of_ble_eq_true rfl)⟩ ?_
  refine V_if_eq (tgt := 37) dX9_like_6 (by decide) (fun c6 => ?_) (fun c6 => ?_)
  · refine V_bipush (v := -2) dX9_like_37 (by decide) ?_
    refine V_iret rfl dX9_like_39 (Nat.le_of_ble_eq_true rfl) (Nat.le_of_ble_eq_true rfl) ?_
    refine ok2i ?_
    unfold oLike
    first
      | (rw [if_pos ⟨b01_1 c6, b01_1 c16⟩, bN_nI (by omega), bN_nI (by omega), bN_nI (by omega), bN_nI (by omega)]
         unfold lkS tr
         rw [m1, d1, m2, d2])
      | rw [if_neg (fun q => b01_0 c16 q.2)]
      | rw [if_neg (fun q => b01_0 c6 q.1)]
  · first | refine V_aload_n dX9_like_9 rfl rfl ?_ | refine V_aload_nN dX9_like_9 rfl rfl ?_
    refine V_iload_n dX9_like_10 rfl rfl ?_
    refine V_iload dX9_like_11 rfl ?_
    refine V_callV (As := [_, _]) (st := _) (c_X9_isFrame (kN (zK z)) (zQ z) u v w z0.2.1) kX9_184 (by exact z0.1.1.k _ rfl rfl) ⟨rfl, rfl, rfl⟩ ⟨(Nat.le_of_ble_eq_true rfl), (Nat.le_of_ble_eq_true rfl)⟩ dX9_like_13 rfl rfl (Nat.le_of_ble_eq_true rfl) ⟨(Nat.le_of_ble_eq_true rfl), (Nat.le_of_ble_eq_true rfl)⟩ ?_
    refine V_if_eq (tgt := 37) dX9_like_16 (by decide) (fun c16 => ?_) (fun c16 => ?_)
    · refine V_bipush (v := -2) dX9_like_37 (by decide) ?_
      refine V_iret rfl dX9_like_39 (Nat.le_of_ble_eq_true rfl) (Nat.le_of_ble_eq_true rfl) ?_
      refine ok2i ?_
      unfold oLike
      first
        | (rw [if_pos ⟨b01_1 c6, b01_1 c16⟩, bN_nI (by omega), bN_nI (by omega), bN_nI (by omega), bN_nI (by omega)]
           unfold lkS tr
           rw [m1, d1, m2, d2])
        | rw [if_neg (fun q => b01_0 c16 q.2)]
        | rw [if_neg (fun q => b01_0 c6 q.1)]
    · obtain ⟨c, f, hc, hf, rfl, rfl⟩ := isFr_s z0 (b01_1 c6)
      obtain ⟨d, g, hd, hg, rfl, rfl⟩ := isFr_s z0 (b01_1 c16)
      have h30 := z0.2.1.le hc
      have h31 := z0.2.1.le hd
      have m1 : (30 * c + f) % 30 = f := by omega
      have d1 : (30 * c + f) / 30 = c := by omega
      have m2 : (30 * d + g) % 30 = g := by omega
      have d2 : (30 * d + g) / 30 = d := by omega
      first | refine V_aload_n dX9_like_19 rfl rfl ?_ | refine V_aload_nN dX9_like_19 rfl rfl ?_
      refine V_iload_n dX9_like_20 rfl rfl ?_
      refine V_iload_n dX9_like_21 rfl rfl ?_
      refine V_callS (As := [_, _]) (st := _) (c_X9_spot _ _ _) kX9_181 ⟨rfl, rfl, rfl⟩ ⟨(Nat.le_of_ble_eq_true rfl), (Nat.le_of_ble_eq_true rfl)⟩ dX9_like_22 rfl rfl (Nat.le_of_ble_eq_true rfl) ⟨(Nat.le_of_ble_eq_true rfl), (Nat.le_of_ble_eq_true rfl)⟩ ?_
      rw [spot_N, show 300 * c + 10 * f = 10 * (30 * c + f) by omega]
      refine V_iload_n dX9_like_25 rfl rfl ?_
      refine V_iload dX9_like_26 rfl ?_
      refine V_callS (As := [_, _]) (st := _) (c_X9_spot _ _ _) kX9_181 ⟨rfl, rfl, rfl⟩ ⟨(Nat.le_of_ble_eq_true rfl), (Nat.le_of_ble_eq_true rfl)⟩ dX9_like_28 rfl rfl (Nat.le_of_ble_eq_true rfl) ⟨(Nat.le_of_ble_eq_true rfl), (Nat.le_of_ble_eq_true rfl)⟩ ?_
      rw [spot_N, show 300 * d + 10 * g = 10 * (30 * d + g) by omega]
      refine V_callV (As := [_, _]) (st := _) (c_X9_likeness (kN (zK z)) (zQ z) (30 * c + f) (30 * d + g) w z0.2.1 z0.1.n (by omega) (by omega) (by rw [m1, d1]; exact hf) (by rw [m2, d2]; exact hg)) kX9_196 (by exact z0.1.1.k _ rfl rfl) ⟨rfl, rfl, rfl⟩ ⟨(Nat.le_of_ble_eq_true rfl), (Nat.le_of_ble_eq_true rfl)⟩ dX9_like_31 rfl rfl (Nat.le_of_ble_eq_true rfl) ⟨(Nat.le_of_ble_eq_true rfl), (Nat.le_of_ble_eq_true rfl)⟩ ?_
      refine V_goto (tgt := 39) dX9_like_34 (by decide) ?_
      refine V_iret rfl dX9_like_39 (Nat.le_of_ble_eq_true rfl) (Nat.le_of_ble_eq_true rfl) ?_
      refine ok2i ?_
      unfold oLike
      first
        | (rw [if_pos ⟨b01_1 c6, b01_1 c16⟩, bN_nI (by omega), bN_nI (by omega), bN_nI (by omega), bN_nI (by omega)]
           unfold lkS tr
           rw [m1, d1, m2, d2])
        | rw [if_neg (fun q => b01_0 c16 q.2)]
        | rw [if_neg (fun q => b01_0 c6 q.1)]
