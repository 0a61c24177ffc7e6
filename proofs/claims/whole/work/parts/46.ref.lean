/-! THE REFERENCE: put, get, copy, pose, write, small ones -/
set_option maxRecDepth 100000 in
theorem c_X9_put (z : St) (x f i p : Int32) (w : Wd) (z0 : RM z w) : Cc yX9_put mX9_put [.ref 400, .int x, .int f, .int i, .int p] w (fun r w' => ∃ v, r = some v ∧ (v = .int (oPut z x f i p).1 ∧ RM (oPut z x f i p).2 w' ∧ Keep moA w w')) := by
  refine Cc.of (by decide) rfl rfl (Nat.le_of_ble_eq_true rfl) (fun X => ?_)
  change V _ X _ 0 [(0, _), (1, _), (2, _), (3, _), (4, _)] [] _ (0, 0)
  by_cases hx : isS x
  · obtain ⟨s, hs, rfl⟩ := isS_n hx
    have hsN : bN (nI s) = s := bN_nI (by omega)
    by_cases hw : wrZ z s f i = 0
    · refine V_iload_n dX9_put_0 rfl rfl ?_
      refine V_callS (As := [_]) (st := _) (c_X9_isSheet _ _) kX9_233 ⟨rfl, rfl, rfl⟩ ⟨(Nat.le_of_ble_eq_true rfl), (Nat.le_of_ble_eq_true rfl)⟩ dX9_put_1 rfl rfl (Nat.le_of_ble_eq_true rfl) ⟨(Nat.le_of_ble_eq_true rfl), (Nat.le_of_ble_eq_true rfl)⟩ ?_
      refine V_if_eq (tgt := 19) dX9_put_4 (by decide) (fun c4 => False.elim (by exact b01_0 c4 ⟨hx.1, by have := hx.2; omega⟩)) (fun c4 => ?_)
      refine V_iload_n dX9_put_7 rfl rfl ?_
      refine V_i2l dX9_put_8 ?_
      refine V_lconst (v := 0) dX9_put_9 (by decide) ?_
      refine V_ldc2 ctX9_236 dX9_put_10 ?_
      refine V_callS (As := [_, _, _]) (st := _) (in9 f 0 2 0 2 rfl rfl w) kX9_114 ⟨rfl, rfl, rfl⟩ ⟨(Nat.le_of_ble_eq_true rfl), (Nat.le_of_ble_eq_true rfl)⟩ dX9_put_13 rfl rfl (Nat.le_of_ble_eq_true rfl) ⟨(Nat.le_of_ble_eq_true rfl), (Nat.le_of_ble_eq_true rfl)⟩ ?_
      refine V_if_ne (tgt := 22) dX9_put_16 (by decide) (fun c16 => ?_) (fun c16 => ?_)
      · first | refine V_aload_n dX9_put_22 rfl rfl ?_ | refine V_aload_nN dX9_put_22 rfl rfl ?_
        refine V_iload_n dX9_put_23 rfl rfl ?_
        refine V_iload_n dX9_put_24 rfl rfl ?_
        refine V_iload_n dX9_put_25 rfl rfl ?_
        refine V_callV (As := [_, _, _]) (st := _) (m_lacks_0 z s f i w z0 hs hw) kX9_241 (by exact z0.1.1.k _ rfl rfl) ⟨rfl, rfl, rfl⟩ ⟨(Nat.le_of_ble_eq_true rfl), (Nat.le_of_ble_eq_true rfl)⟩ dX9_put_26 rfl rfl (Nat.le_of_ble_eq_true rfl) ⟨(Nat.le_of_ble_eq_true rfl), (Nat.le_of_ble_eq_true rfl)⟩ ?_
        refine S_istore (L' := [(0, _), (1, _), (2, _), (3, _), (4, _), (5, _)]) dX9_put_29 rfl rfl ?_
        refine V_iload dX9_put_31 rfl ?_
        refine V_if_eq (tgt := 39) dX9_put_33 (by decide) (fun c33 => ?_) (fun c33 => False.elim (by exact c33 rfl))
        obtain ⟨g, hg, rfl, hi0, hi1⟩ := wrI_0 hw
        have hg2 := z0.fo hs g hg
        have hbi : bN i = i.toInt.toNat := rfl
        have h60 := (z0.2.2.2.2.1 s hs).1
        refine V_sub (L' := [(0, .ref 400), (1, .int (nI s)), (2, .int (nI g)), (3, .int (nI (bN i))), (4, .int p)]) (by rw [← i32_nat hi0]; rfl) ?_
        first | refine V_aload_n dX9_put_39 rfl rfl ?_ | refine V_aload_nN dX9_put_39 rfl rfl ?_
        first | refine V_getr (by exact z0.1.1.k _ rfl rfl) fX9_88 dX9_put_40 (by exact (z0.1.1.r 32 rfl (by decide) : _ = some 433)) ?_ | refine V_getrN (by exact z0.1.1.k _ rfl rfl) fX9_88 dX9_put_40 (by exact (z0.1.1.r 32 rfl (by decide) : _ = some 433)) ?_
        refine V_bipush (v := 60) dX9_put_43 (by decide) ?_
        refine V_iload_n dX9_put_45 rfl rfl ?_
        refine V_imul dX9_put_46 ?_
        refine V_iload_n dX9_put_47 rfl rfl ?_
        refine V_iadd dX9_put_48 ?_
        rw [sp60]
        refine V_iload_n dX9_put_49 rfl rfl ?_
        refine V_if_ne (tgt := 59) dX9_put_50 (by decide) (fun c50 => ?_) (fun c50 => ?_)
        · refine V_iload_n dX9_put_59 rfl rfl ?_
          refine V_iconst (v := 1) dX9_put_60 (by decide) ?_
          refine V_icmp_ne (tgt := 70) dX9_put_61 (by decide) (fun c61 => ?_) (fun c61 => ?_)
          · refine V_iload dX9_put_70 rfl ?_
            refine G_iast (j := 60 * s + bN i) (by exact z0.1.1.k _ rfl rfl) (by rfl) (by exact z0.1.1.lt 433 (m := 240) rfl rfl (by decide) rfl (by omega)) (by exact z0.1.1.nlt 433 rfl rfl (by decide)) dX9_put_72 ?_
            refine V_iconst (v := 1) dX9_put_73 (by decide) ?_
            refine V_iret rfl dX9_put_74 (Nat.le_of_ble_eq_true rfl) (Nat.le_of_ble_eq_true rfl) ?_
            have hgN : bN (nI g) = g := bN_nI (by omega)
            have e : oPut z (nI s) (nI g) i p = (1, pH z (stH (zH z) s (bN i) (cutF g p)) (zF z)) := by
              unfold oPut
              rw [if_pos ⟨hx, b01_1 c16⟩, hsN, if_pos hw, hgN]
            have g0 : ∀ v, Kp (shS s) noA w (sI w 433 (60 * s + bN i) v) := fun v => Kp.sI w (by unfold shS; omega) _
            rw [e]
            have hm : ∀ v, v = cutF g p → MSh (stH (zH z) s (bN i) (cutF g p)) (sI w 433 (60 * s + bN i) v) := fun v hv => by
              rw [hv]
              exact MSh.store z0.2.2.2.2.1 hs (show bN i < 60 by omega)
            refine ⟨_, rfl, rfl, z0.setS (g0 _) (hm _ ?_), (g0 _).moS⟩
            unfold cutF
            first
              | (rw [if_neg (fun q => c50 (by rw [q]; rfl))]
                 first
                   | rw [if_pos ((nI_eq (b := 1) (by omega) (by decide)).mp c61)]
                   | rw [if_neg (fun q => c61 (by rw [q]; rfl))])
              | rw [if_pos ((nI_eq (b := 0) (by omega) (by decide)).mp c50)]
          · refine V_iload dX9_put_64 rfl ?_
            refine V_i2s dX9_put_66 ?_
            refine V_goto (tgt := 72) dX9_put_67 (by decide) ?_
            refine G_iast (j := 60 * s + bN i) (by exact z0.1.1.k _ rfl rfl) (by rfl) (by exact z0.1.1.lt 433 (m := 240) rfl rfl (by decide) rfl (by omega)) (by exact z0.1.1.nlt 433 rfl rfl (by decide)) dX9_put_72 ?_
            refine V_iconst (v := 1) dX9_put_73 (by decide) ?_
            refine V_iret rfl dX9_put_74 (Nat.le_of_ble_eq_true rfl) (Nat.le_of_ble_eq_true rfl) ?_
            have hgN : bN (nI g) = g := bN_nI (by omega)
            have e : oPut z (nI s) (nI g) i p = (1, pH z (stH (zH z) s (bN i) (cutF g p)) (zF z)) := by
              unfold oPut
              rw [if_pos ⟨hx, b01_1 c16⟩, hsN, if_pos hw, hgN]
            have g0 : ∀ v, Kp (shS s) noA w (sI w 433 (60 * s + bN i) v) := fun v => Kp.sI w (by unfold shS; omega) _
            rw [e]
            have hm : ∀ v, v = cutF g p → MSh (stH (zH z) s (bN i) (cutF g p)) (sI w 433 (60 * s + bN i) v) := fun v hv => by
              rw [hv]
              exact MSh.store z0.2.2.2.2.1 hs (show bN i < 60 by omega)
            refine ⟨_, rfl, rfl, z0.setS (g0 _) (hm _ ?_), (g0 _).moS⟩
            unfold cutF
            first
              | (rw [if_neg (fun q => c50 (by rw [q]; rfl))]
                 first
                   | rw [if_pos ((nI_eq (b := 1) (by omega) (by decide)).mp c61)]
                   | rw [if_neg (fun q => c61 (by rw [q]; rfl))])
              | rw [if_pos ((nI_eq (b := 0) (by omega) (by decide)).mp c50)]
        · refine V_iload dX9_put_53 rfl ?_
          refine V_i2b dX9_put_55 ?_
          refine V_goto (tgt := 72) dX9_put_56 (by decide) ?_
          refine G_iast (j := 60 * s + bN i) (by exact z0.1.1.k _ rfl rfl) (by rfl) (by exact z0.1.1.lt 433 (m := 240) rfl rfl (by decide) rfl (by omega)) (by exact z0.1.1.nlt 433 rfl rfl (by decide)) dX9_put_72 ?_
          refine V_iconst (v := 1) dX9_put_73 (by decide) ?_
          refine V_iret rfl dX9_put_74 (Nat.le_of_ble_eq_true rfl) (Nat.le_of_ble_eq_true rfl) ?_
          have hgN : bN (nI g) = g := bN_nI (by omega)
          have e : oPut z (nI s) (nI g) i p = (1, pH z (stH (zH z) s (bN i) (cutF g p)) (zF z)) := by
            unfold oPut
            rw [if_pos ⟨hx, b01_1 c16⟩, hsN, if_pos hw, hgN]
          have g0 : ∀ v, Kp (shS s) noA w (sI w 433 (60 * s + bN i) v) := fun v => Kp.sI w (by unfold shS; omega) _
          rw [e]
          have hm : ∀ v, v = cutF g p → MSh (stH (zH z) s (bN i) (cutF g p)) (sI w 433 (60 * s + bN i) v) := fun v hv => by
            rw [hv]
            exact MSh.store z0.2.2.2.2.1 hs (show bN i < 60 by omega)
          refine ⟨_, rfl, rfl, z0.setS (g0 _) (hm _ ?_), (g0 _).moS⟩
          unfold cutF
          first
            | (rw [if_neg (fun q => c50 (by rw [q]; rfl))]
               first
                 | rw [if_pos ((nI_eq (b := 1) (by omega) (by decide)).mp c61)]
                 | rw [if_neg (fun q => c61 (by rw [q]; rfl))])
            | rw [if_pos ((nI_eq (b := 0) (by omega) (by decide)).mp c50)]
      · refine V_bipush (v := -2) dX9_put_19 (by decide) ?_
        refine V_iret rfl dX9_put_21 (Nat.le_of_ble_eq_true rfl) (Nat.le_of_ble_eq_true rfl) ?_
        first
          | (have hn := b01_0 c16
             have e : oPut z (nI s) f i p = (-2, z) := by unfold oPut; rw [if_neg (fun q => hn q.2)]
             exact ⟨_, rfl, by rw [e], by rw [e]; exact z0, Keep.refl _ _⟩)
    · refine V_iload_n dX9_put_0 rfl rfl ?_
      refine V_callS (As := [_]) (st := _) (c_X9_isSheet _ _) kX9_233 ⟨rfl, rfl, rfl⟩ ⟨(Nat.le_of_ble_eq_true rfl), (Nat.le_of_ble_eq_true rfl)⟩ dX9_put_1 rfl rfl (Nat.le_of_ble_eq_true rfl) ⟨(Nat.le_of_ble_eq_true rfl), (Nat.le_of_ble_eq_true rfl)⟩ ?_
      refine V_if_eq (tgt := 19) dX9_put_4 (by decide) (fun c4 => False.elim (by exact b01_0 c4 ⟨hx.1, by have := hx.2; omega⟩)) (fun c4 => ?_)
      refine V_iload_n dX9_put_7 rfl rfl ?_
      refine V_i2l dX9_put_8 ?_
      refine V_lconst (v := 0) dX9_put_9 (by decide) ?_
      refine V_ldc2 ctX9_236 dX9_put_10 ?_
      refine V_callS (As := [_, _, _]) (st := _) (in9 f 0 2 0 2 rfl rfl w) kX9_114 ⟨rfl, rfl, rfl⟩ ⟨(Nat.le_of_ble_eq_true rfl), (Nat.le_of_ble_eq_true rfl)⟩ dX9_put_13 rfl rfl (Nat.le_of_ble_eq_true rfl) ⟨(Nat.le_of_ble_eq_true rfl), (Nat.le_of_ble_eq_true rfl)⟩ ?_
      refine V_if_ne (tgt := 22) dX9_put_16 (by decide) (fun c16 => ?_) (fun c16 => ?_)
      · first | refine V_aload_n dX9_put_22 rfl rfl ?_ | refine V_aload_nN dX9_put_22 rfl rfl ?_
        refine V_iload_n dX9_put_23 rfl rfl ?_
        refine V_iload_n dX9_put_24 rfl rfl ?_
        refine V_iload_n dX9_put_25 rfl rfl ?_
        refine V_callV (As := [_, _, _]) (st := _) (m_lacks_n z s f i w z0 hs hw) kX9_241 (by exact z0.1.1.k _ rfl rfl) ⟨rfl, rfl, rfl⟩ ⟨(Nat.le_of_ble_eq_true rfl), (Nat.le_of_ble_eq_true rfl)⟩ dX9_put_26 rfl rfl (Nat.le_of_ble_eq_true rfl) ⟨(Nat.le_of_ble_eq_true rfl), (Nat.le_of_ble_eq_true rfl)⟩ ?_
        refine S_istore (L' := [(0, _), (1, _), (2, _), (3, _), (4, _), (5, _)]) dX9_put_29 rfl rfl ?_
        refine V_iload dX9_put_31 rfl ?_
        refine V_if_eq (tgt := 39) dX9_put_33 (by decide) (fun c33 => False.elim (by exact m10_0 (Nat.le_trans (wrI_le _ _ _ _) (by decide)) c33)) (fun c33 => ?_)
        refine V_iload dX9_put_36 rfl ?_
        refine V_iret rfl dX9_put_38 (Nat.le_of_ble_eq_true rfl) (Nat.le_of_ble_eq_true rfl) ?_
        have e : oPut z (nI s) f i p = fnd z (wrZ z s f i) := by
          unfold oPut
          rw [if_pos ⟨hx, b01_1 c16⟩, hsN, if_neg hw]
        exact ⟨_, rfl, by rw [e]; rfl, by rw [e]; exact z0.fnd (Nat.le_trans (wrI_le _ _ _ _) (by decide)), (Kp.sI (SI := shI) (SJ := noA) w (by unfold shI; omega) _).mos⟩
      · refine V_bipush (v := -2) dX9_put_19 (by decide) ?_
        refine V_iret rfl dX9_put_21 (Nat.le_of_ble_eq_true rfl) (Nat.le_of_ble_eq_true rfl) ?_
        first
          | (have hn := b01_0 c16
             have e : oPut z (nI s) f i p = (-2, z) := by unfold oPut; rw [if_neg (fun q => hn q.2)]
             exact ⟨_, rfl, by rw [e], by rw [e]; exact z0, Keep.refl _ _⟩)
  · refine V_iload_n dX9_put_0 rfl rfl ?_
    refine V_callS (As := [_]) (st := _) (c_X9_isSheet _ _) kX9_233 ⟨rfl, rfl, rfl⟩ ⟨(Nat.le_of_ble_eq_true rfl), (Nat.le_of_ble_eq_true rfl)⟩ dX9_put_1 rfl rfl (Nat.le_of_ble_eq_true rfl) ⟨(Nat.le_of_ble_eq_true rfl), (Nat.le_of_ble_eq_true rfl)⟩ ?_
    refine V_if_eq (tgt := 19) dX9_put_4 (by decide) (fun c4 => ?_) (fun c4 => False.elim (by exact hx ⟨(b01_1 c4).1, by have := (b01_1 c4).2; omega⟩))
    refine V_bipush (v := -2) dX9_put_19 (by decide) ?_
    refine V_iret rfl dX9_put_21 (Nat.le_of_ble_eq_true rfl) (Nat.le_of_ble_eq_true rfl) ?_
    exact ⟨_, rfl, by unfold oPut; rw [if_neg (fun q => hx q.1)], by unfold oPut; rw [if_neg (fun q => hx q.1)]; exact z0, Keep.refl _ _⟩

set_option maxRecDepth 100000 in
theorem c_X9_get (z : St) (x f i : Int32) (w : Wd) (z0 : RM z w) : Cc yX9_get mX9_get [.ref 400, .int x, .int f, .int i] w (fun r w' => ∃ v, r = some v ∧ (v = .int (oGet z x f i).1 ∧ RM (oGet z x f i).2 w' ∧ Keep moA w w')) := by
  refine Cc.of (by decide) rfl rfl (Nat.le_of_ble_eq_true rfl) (fun X => ?_)
  change V _ X _ 0 [(0, _), (1, _), (2, _), (3, _)] [] _ (0, 0)
  by_cases hx : isS x
  · obtain ⟨s, hs, rfl⟩ := isS_n hx
    have hsN : bN (nI s) = s := bN_nI (by omega)
    by_cases hw : wrZ z s f i = 0
    · refine V_iload_n dX9_get_0 rfl rfl ?_
      refine V_callS (As := [_]) (st := _) (c_X9_isSheet _ _) kX9_233 ⟨rfl, rfl, rfl⟩ ⟨(Nat.le_of_ble_eq_true rfl), (Nat.le_of_ble_eq_true rfl)⟩ dX9_get_1 rfl rfl (Nat.le_of_ble_eq_true rfl) ⟨(Nat.le_of_ble_eq_true rfl), (Nat.le_of_ble_eq_true rfl)⟩ ?_
      refine V_if_eq (tgt := 29) dX9_get_4 (by decide) (fun c4 => False.elim (by exact b01_0 c4 ⟨hx.1, by have := hx.2; omega⟩)) (fun c4 => ?_)
      refine V_iload_n dX9_get_7 rfl rfl ?_
      refine V_i2l dX9_get_8 ?_
      refine V_lconst (v := 0) dX9_get_9 (by decide) ?_
      refine V_ldc2 ctX9_236 dX9_get_10 ?_
      refine V_callS (As := [_, _, _]) (st := _) (in9 f 0 2 0 2 rfl rfl w) kX9_114 ⟨rfl, rfl, rfl⟩ ⟨(Nat.le_of_ble_eq_true rfl), (Nat.le_of_ble_eq_true rfl)⟩ dX9_get_13 rfl rfl (Nat.le_of_ble_eq_true rfl) ⟨(Nat.le_of_ble_eq_true rfl), (Nat.le_of_ble_eq_true rfl)⟩ ?_
      refine V_if_eq (tgt := 29) dX9_get_16 (by decide) (fun c16 => ?_) (fun c16 => ?_)
      · refine V_ldc ctX9_245 dX9_get_29 ?_
        refine V_iret rfl dX9_get_31 (Nat.le_of_ble_eq_true rfl) (Nat.le_of_ble_eq_true rfl) ?_
        first
          | (have hn := b01_0 c16
             have e : oGet z (nI s) f i = (-2147483648, z) := by unfold oGet; rw [if_neg (fun q => hn q.2)]
             exact ⟨_, rfl, by rw [e], by rw [e]; exact z0, Keep.refl _ _⟩)
      · first | refine V_aload_n dX9_get_19 rfl rfl ?_ | refine V_aload_nN dX9_get_19 rfl rfl ?_
        refine V_iload_n dX9_get_20 rfl rfl ?_
        refine V_iload_n dX9_get_21 rfl rfl ?_
        refine V_iload_n dX9_get_22 rfl rfl ?_
        refine V_callV (As := [_, _, _]) (st := _) (m_lacks_0 z s f i w z0 hs hw) kX9_241 (by exact z0.1.1.k _ rfl rfl) ⟨rfl, rfl, rfl⟩ ⟨(Nat.le_of_ble_eq_true rfl), (Nat.le_of_ble_eq_true rfl)⟩ dX9_get_23 rfl rfl (Nat.le_of_ble_eq_true rfl) ⟨(Nat.le_of_ble_eq_true rfl), (Nat.le_of_ble_eq_true rfl)⟩ ?_
        refine V_if_eq (tgt := 32) dX9_get_26 (by decide) (fun c26 => ?_) (fun c26 => False.elim (by exact c26 rfl))
        obtain ⟨g, hg, rfl, hi0, hi1⟩ := wrI_0 hw
        have hbi : bN i = i.toInt.toNat := rfl
        have h60 := (z0.2.2.2.2.1 s hs).1
        refine V_sub (L' := [(0, .ref 400), (1, .int (nI s)), (3, .int (nI (bN i)))]) (by rw [← i32_nat hi0]; rfl) ?_
        first | refine V_aload_n dX9_get_32 rfl rfl ?_ | refine V_aload_nN dX9_get_32 rfl rfl ?_
        first | refine V_getr (by exact z0.1.1.k _ rfl rfl) fX9_88 dX9_get_33 (by exact (z0.1.1.r 32 rfl (by decide) : _ = some 433)) ?_ | refine V_getrN (by exact z0.1.1.k _ rfl rfl) fX9_88 dX9_get_33 (by exact (z0.1.1.r 32 rfl (by decide) : _ = some 433)) ?_
        refine V_bipush (v := 60) dX9_get_36 (by decide) ?_
        refine V_iload_n dX9_get_38 rfl rfl ?_
        refine V_imul dX9_get_39 ?_
        refine V_iload_n dX9_get_40 rfl rfl ?_
        refine V_iadd dX9_get_41 ?_
        rw [sp60]
        refine G_iald (j := 60 * s + bN i) (by exact z0.1.1.k _ rfl rfl) (by rfl) (by exact z0.1.1.lt 433 (m := 240) rfl rfl (by decide) rfl (by omega)) (by exact z0.1.1.nlt 433 rfl rfl (by decide)) dX9_get_42 (by exact ((z0.2.2.2.2.1 s hs).2.2.2 g hg).2 (bN i) (by omega)) ?_
        refine V_iret rfl dX9_get_43 (Nat.le_of_ble_eq_true rfl) (Nat.le_of_ble_eq_true rfl) ?_
        have e : oGet z (nI s) (nI g) i = ((zH z).2.2 s (bN i), z) := by
          unfold oGet
          rw [if_pos ⟨hx, b01_1 c16⟩, hsN, if_pos hw]
        exact ⟨_, rfl, by rw [e], by rw [e]; exact z0, Keep.refl _ _⟩
    · refine V_iload_n dX9_get_0 rfl rfl ?_
      refine V_callS (As := [_]) (st := _) (c_X9_isSheet _ _) kX9_233 ⟨rfl, rfl, rfl⟩ ⟨(Nat.le_of_ble_eq_true rfl), (Nat.le_of_ble_eq_true rfl)⟩ dX9_get_1 rfl rfl (Nat.le_of_ble_eq_true rfl) ⟨(Nat.le_of_ble_eq_true rfl), (Nat.le_of_ble_eq_true rfl)⟩ ?_
      refine V_if_eq (tgt := 29) dX9_get_4 (by decide) (fun c4 => False.elim (by exact b01_0 c4 ⟨hx.1, by have := hx.2; omega⟩)) (fun c4 => ?_)
      refine V_iload_n dX9_get_7 rfl rfl ?_
      refine V_i2l dX9_get_8 ?_
      refine V_lconst (v := 0) dX9_get_9 (by decide) ?_
      refine V_ldc2 ctX9_236 dX9_get_10 ?_
      refine V_callS (As := [_, _, _]) (st := _) (in9 f 0 2 0 2 rfl rfl w) kX9_114 ⟨rfl, rfl, rfl⟩ ⟨(Nat.le_of_ble_eq_true rfl), (Nat.le_of_ble_eq_true rfl)⟩ dX9_get_13 rfl rfl (Nat.le_of_ble_eq_true rfl) ⟨(Nat.le_of_ble_eq_true rfl), (Nat.le_of_ble_eq_true rfl)⟩ ?_
      refine V_if_eq (tgt := 29) dX9_get_16 (by decide) (fun c16 => ?_) (fun c16 => ?_)
      · refine V_ldc ctX9_245 dX9_get_29 ?_
        refine V_iret rfl dX9_get_31 (Nat.le_of_ble_eq_true rfl) (Nat.le_of_ble_eq_true rfl) ?_
        first
          | (have hn := b01_1 c16
             have e : oGet z (nI s) f i = (-2147483648, pH z (zH z) (wrZ z s f i)) := by
               unfold oGet
               rw [if_pos ⟨hx, hn⟩, hsN, if_neg hw]
             exact ⟨_, rfl, by rw [e], by rw [e]; exact z0.fnd (Nat.le_trans (wrI_le _ _ _ _) (by decide)), (Kp.sI (SI := shI) (SJ := noA) w (by unfold shI; omega) _).mos⟩)
          | (have hn := b01_0 c16
             have e : oGet z (nI s) f i = (-2147483648, z) := by unfold oGet; rw [if_neg (fun q => hn q.2)]
             exact ⟨_, rfl, by rw [e], by rw [e]; exact z0, Keep.refl _ _⟩)
      · first | refine V_aload_n dX9_get_19 rfl rfl ?_ | refine V_aload_nN dX9_get_19 rfl rfl ?_
        refine V_iload_n dX9_get_20 rfl rfl ?_
        refine V_iload_n dX9_get_21 rfl rfl ?_
        refine V_iload_n dX9_get_22 rfl rfl ?_
        refine V_callV (As := [_, _, _]) (st := _) (m_lacks_n z s f i w z0 hs hw) kX9_241 (by exact z0.1.1.k _ rfl rfl) ⟨rfl, rfl, rfl⟩ ⟨(Nat.le_of_ble_eq_true rfl), (Nat.le_of_ble_eq_true rfl)⟩ dX9_get_23 rfl rfl (Nat.le_of_ble_eq_true rfl) ⟨(Nat.le_of_ble_eq_true rfl), (Nat.le_of_ble_eq_true rfl)⟩ ?_
        refine V_if_eq (tgt := 32) dX9_get_26 (by decide) (fun c26 => False.elim (by exact m10_0 (Nat.le_trans (wrI_le _ _ _ _) (by decide)) c26)) (fun c26 => ?_)
        refine V_ldc ctX9_245 dX9_get_29 ?_
        refine V_iret rfl dX9_get_31 (Nat.le_of_ble_eq_true rfl) (Nat.le_of_ble_eq_true rfl) ?_
        first
          | (have hn := b01_1 c16
             have e : oGet z (nI s) f i = (-2147483648, pH z (zH z) (wrZ z s f i)) := by
               unfold oGet
               rw [if_pos ⟨hx, hn⟩, hsN, if_neg hw]
             exact ⟨_, rfl, by rw [e], by rw [e]; exact z0.fnd (Nat.le_trans (wrI_le _ _ _ _) (by decide)), (Kp.sI (SI := shI) (SJ := noA) w (by unfold shI; omega) _).mos⟩)
          | (have hn := b01_0 c16
             have e : oGet z (nI s) f i = (-2147483648, z) := by unfold oGet; rw [if_neg (fun q => hn q.2)]
             exact ⟨_, rfl, by rw [e], by rw [e]; exact z0, Keep.refl _ _⟩)
  · refine V_iload_n dX9_get_0 rfl rfl ?_
    refine V_callS (As := [_]) (st := _) (c_X9_isSheet _ _) kX9_233 ⟨rfl, rfl, rfl⟩ ⟨(Nat.le_of_ble_eq_true rfl), (Nat.le_of_ble_eq_true rfl)⟩ dX9_get_1 rfl rfl (Nat.le_of_ble_eq_true rfl) ⟨(Nat.le_of_ble_eq_true rfl), (Nat.le_of_ble_eq_true rfl)⟩ ?_
    refine V_if_eq (tgt := 29) dX9_get_4 (by decide) (fun c4 => ?_) (fun c4 => False.elim (by exact hx ⟨(b01_1 c4).1, by have := (b01_1 c4).2; omega⟩))
    refine V_ldc ctX9_245 dX9_get_29 ?_
    refine V_iret rfl dX9_get_31 (Nat.le_of_ble_eq_true rfl) (Nat.le_of_ble_eq_true rfl) ?_
    exact ⟨_, rfl, by unfold oGet; rw [if_neg (fun q => hx q.1)], by unfold oGet; rw [if_neg (fun q => hx q.1)]; exact z0, Keep.refl _ _⟩

set_option maxRecDepth 100000 in
theorem c_X9_lacksRow (z : St) (s : Nat) (i : Int32) (w : Wd) (z0 : RM z w) (hs : s < 4) : Cc yX9_lacksRow mX9_lacksRow [.ref 400, .int (nI s), .int i] w (fun r w' => r = some (.int (if wpZ z s i = 0 then 0 else -10 - nI (wpZ z s i))) ∧ w' = if wpZ z s i = 0 then w else sI w 400 34 (nI (wpZ z s i))) := by
  refine Cc.of (by decide) rfl rfl (Nat.le_of_ble_eq_true rfl) (fun X => ?_)
  change V _ X _ 0 [(0, _), (1, _), (2, _)] [] _ (0, 0)
  have hx : isS (nI s) := ⟨by rw [nI_toInt (by omega)]; omega, by rw [nI_toInt (by omega)]; omega⟩
  cases ho : (zH z).1 s with
  | none =>
    refine V_iload_n dX9_lacksRow_0 rfl rfl ?_
    refine V_callS (As := [_]) (st := _) (c_X9_isSheet _ _) kX9_233 ⟨rfl, rfl, rfl⟩ ⟨(Nat.le_of_ble_eq_true rfl), (Nat.le_of_ble_eq_true rfl)⟩ dX9_lacksRow_1 rfl rfl (Nat.le_of_ble_eq_true rfl) ⟨(Nat.le_of_ble_eq_true rfl), (Nat.le_of_ble_eq_true rfl)⟩ ?_
    refine V_if_ne (tgt := 10) dX9_lacksRow_4 (by decide) (fun c4 => ?_) (fun c4 => False.elim (by exact b01_0 c4 ⟨hx.1, by have := hx.2; omega⟩))
    first | refine V_aload_n dX9_lacksRow_10 rfl rfl ?_ | refine V_aload_nN dX9_lacksRow_10 rfl rfl ?_
    first | refine V_getr (by exact z0.1.1.k _ rfl rfl) fX9_82 dX9_lacksRow_11 (by exact (z0.1.1.r 30 rfl (by decide) : _ = some 431)) ?_ | refine V_getrN (by exact z0.1.1.k _ rfl rfl) fX9_82 dX9_lacksRow_11 (by exact (z0.1.1.r 30 rfl (by decide) : _ = some 431)) ?_
    refine V_iload_n dX9_lacksRow_14 rfl rfl ?_
    refine G_iald (j := s) (by exact z0.1.1.k _ rfl rfl) (by rfl) (by exact z0.1.1.lt 431 (m := 4) rfl rfl (by decide) rfl (by omega)) (by exact z0.1.1.nlt 431 rfl rfl (by decide)) dX9_lacksRow_15 (by exact (((z0.2.2.2.2.1 s hs).2.2.1).trans (congrArg oI ho) : _ = (-1 : Int32))) ?_
    refine V_if_ge (tgt := 25) dX9_lacksRow_16 (by decide) (fun c16 => False.elim (by exact absurd c16 (by decide))) (fun c16 => ?_)
    first | refine V_aload_n dX9_lacksRow_19 rfl rfl ?_ | refine V_aload_nN dX9_lacksRow_19 rfl rfl ?_
    refine V_iconst (v := 1) dX9_lacksRow_20 (by decide) ?_
    refine V_callV (As := [_]) (st := _) (c_X9_met (nI 1) w z0.1.1) kX9_238 (by exact z0.1.1.k _ rfl rfl) ⟨rfl, rfl, rfl⟩ ⟨(Nat.le_of_ble_eq_true rfl), (Nat.le_of_ble_eq_true rfl)⟩ dX9_lacksRow_21 rfl rfl (Nat.le_of_ble_eq_true rfl) ⟨(Nat.le_of_ble_eq_true rfl), (Nat.le_of_ble_eq_true rfl)⟩ ?_
    refine V_iret rfl dX9_lacksRow_24 (Nat.le_of_ble_eq_true rfl) (Nat.le_of_ble_eq_true rfl) ?_
    have e : wpZ z s i = 1 := by unfold wpZ; rw [ho]; rfl
    rw [e]
    exact ⟨rfl, rfl⟩
  | some g =>
    refine V_iload_n dX9_lacksRow_0 rfl rfl ?_
    refine V_callS (As := [_]) (st := _) (c_X9_isSheet _ _) kX9_233 ⟨rfl, rfl, rfl⟩ ⟨(Nat.le_of_ble_eq_true rfl), (Nat.le_of_ble_eq_true rfl)⟩ dX9_lacksRow_1 rfl rfl (Nat.le_of_ble_eq_true rfl) ⟨(Nat.le_of_ble_eq_true rfl), (Nat.le_of_ble_eq_true rfl)⟩ ?_
    refine V_if_ne (tgt := 10) dX9_lacksRow_4 (by decide) (fun c4 => ?_) (fun c4 => False.elim (by exact b01_0 c4 ⟨hx.1, by have := hx.2; omega⟩))
    first | refine V_aload_n dX9_lacksRow_10 rfl rfl ?_ | refine V_aload_nN dX9_lacksRow_10 rfl rfl ?_
    first | refine V_getr (by exact z0.1.1.k _ rfl rfl) fX9_82 dX9_lacksRow_11 (by exact (z0.1.1.r 30 rfl (by decide) : _ = some 431)) ?_ | refine V_getrN (by exact z0.1.1.k _ rfl rfl) fX9_82 dX9_lacksRow_11 (by exact (z0.1.1.r 30 rfl (by decide) : _ = some 431)) ?_
    refine V_iload_n dX9_lacksRow_14 rfl rfl ?_
    refine G_iald (j := s) (by exact z0.1.1.k _ rfl rfl) (by rfl) (by exact z0.1.1.lt 431 (m := 4) rfl rfl (by decide) rfl (by omega)) (by exact z0.1.1.nlt 431 rfl rfl (by decide)) dX9_lacksRow_15 (by exact (((z0.2.2.2.2.1 s hs).2.2.1).trans (congrArg oI ho) : _ = nI g)) ?_
    refine V_if_ge (tgt := 25) dX9_lacksRow_16 (by decide) (fun c16 => ?_) (fun c16 => False.elim (by exact c16 (nI_pos' (by have := z0.fo hs g ho; omega))))
    have h60 := (z0.2.2.2.2.1 s hs).1
    have h10 := z0.1.n10
    have hir := fb_rng i
    have hsum : (i.toInt64 + (nI (kN (zK z))).toInt64).toInt = i.toInt + kN (zK z) := by
      rw [fb_addL, Int32.toInt_toInt64, Int32.toInt_toInt64, nI_toInt (by omega)] <;> rw [Int32.toInt_toInt64, Int32.toInt_toInt64, nI_toInt (by omega)] <;> omega
    refine V_iload_n dX9_lacksRow_25 rfl rfl ?_
    refine V_if_lt (tgt := 48) dX9_lacksRow_26 (by decide) (fun c26 => ?_) (fun c26 => ?_)
    · first | refine V_aload_n dX9_lacksRow_48 rfl rfl ?_ | refine V_aload_nN dX9_lacksRow_48 rfl rfl ?_
      refine V_iconst (v := 2) dX9_lacksRow_49 (by decide) ?_
      refine V_callV (As := [_]) (st := _) (c_X9_met (nI 2) w z0.1.1) kX9_238 (by exact z0.1.1.k _ rfl rfl) ⟨rfl, rfl, rfl⟩ ⟨(Nat.le_of_ble_eq_true rfl), (Nat.le_of_ble_eq_true rfl)⟩ dX9_lacksRow_50 rfl rfl (Nat.le_of_ble_eq_true rfl) ⟨(Nat.le_of_ble_eq_true rfl), (Nat.le_of_ble_eq_true rfl)⟩ ?_
      refine V_goto (tgt := 57) dX9_lacksRow_53 (by decide) ?_
      refine V_iret rfl dX9_lacksRow_57 (Nat.le_of_ble_eq_true rfl) (Nat.le_of_ble_eq_true rfl) ?_
      have hk0 : (nI (kN (zK z))).toInt = kN (zK z) := nI_toInt (by omega)
      have hz0 : (nI ((zH z).2.1 s)).toInt = (zH z).2.1 s := nI_toInt (by omega)
      first
        | (have h44 : ¬ (nI ((zH z).2.1 s)).toInt64 < i.toInt64 + (nI (kN (zK z))).toInt64 := c44
           have h26 : ¬ i < 0 := c26
           rw [Int64.lt_iff_toInt_lt, hsum, Int32.toInt_toInt64, hz0] at h44
           rw [i32_ltz] at h26
           have e : wpZ z s i = 0 := by unfold wpZ; rw [ho]; unfold wrP; dsimp only; rw [hk0, if_pos (by omega)]
           rw [e]
           exact ⟨rfl, rfl⟩)
        | (have h44 : (nI ((zH z).2.1 s)).toInt64 < i.toInt64 + (nI (kN (zK z))).toInt64 := c44
           rw [Int64.lt_iff_toInt_lt, hsum, Int32.toInt_toInt64, hz0] at h44
           have e : wpZ z s i = 2 := by unfold wpZ; rw [ho]; unfold wrP; dsimp only; rw [hk0, if_neg (by omega)]
           rw [e]
           exact ⟨rfl, rfl⟩)
        | (have h26 : i < 0 := c26
           rw [i32_ltz] at h26
           have e : wpZ z s i = 2 := by unfold wpZ; rw [ho]; unfold wrP; dsimp only; rw [hk0, if_neg (by omega)]
           rw [e]
           exact ⟨rfl, rfl⟩)
    · refine V_iload_n dX9_lacksRow_29 rfl rfl ?_
      refine V_i2l dX9_lacksRow_30 ?_
      first | refine V_aload_n dX9_lacksRow_31 rfl rfl ?_ | refine V_aload_nN dX9_lacksRow_31 rfl rfl ?_
      refine G_geti (by exact z0.1.1.k _ rfl rfl) fX9_111 dX9_lacksRow_32 (by exact z0.1.n) ?_
      refine V_i2l dX9_lacksRow_35 ?_
      refine V_ladd dX9_lacksRow_36 ?_
      first | refine V_aload_n dX9_lacksRow_37 rfl rfl ?_ | refine V_aload_nN dX9_lacksRow_37 rfl rfl ?_
      first | refine V_getr (by exact z0.1.1.k _ rfl rfl) fX9_85 dX9_lacksRow_38 (by exact (z0.1.1.r 31 rfl (by decide) : _ = some 432)) ?_ | refine V_getrN (by exact z0.1.1.k _ rfl rfl) fX9_85 dX9_lacksRow_38 (by exact (z0.1.1.r 31 rfl (by decide) : _ = some 432)) ?_
      refine V_iload_n dX9_lacksRow_41 rfl rfl ?_
      refine G_iald (j := s) (by exact z0.1.1.k _ rfl rfl) (by rfl) (by exact z0.1.1.lt 432 (m := 4) rfl rfl (by decide) rfl (by omega)) (by exact z0.1.1.nlt 432 rfl rfl (by decide)) dX9_lacksRow_42 (by exact (z0.2.2.2.2.1 s hs).2.1) ?_
      refine V_i2l dX9_lacksRow_43 ?_
      refine V_lcmp_le (tgt := 56) dX9_lacksRow_44 dX9_lacksRow_45 (by decide) (fun c44 => ?_) (fun c44 => ?_)
      · refine V_iconst (v := 0) dX9_lacksRow_56 (by decide) ?_
        refine V_iret rfl dX9_lacksRow_57 (Nat.le_of_ble_eq_true rfl) (Nat.le_of_ble_eq_true rfl) ?_
        have hk0 : (nI (kN (zK z))).toInt = kN (zK z) := nI_toInt (by omega)
        have hz0 : (nI ((zH z).2.1 s)).toInt = (zH z).2.1 s := nI_toInt (by omega)
        first
          | (have h44 : ¬ (nI ((zH z).2.1 s)).toInt64 < i.toInt64 + (nI (kN (zK z))).toInt64 := c44
             have h26 : ¬ i < 0 := c26
             rw [Int64.lt_iff_toInt_lt, hsum, Int32.toInt_toInt64, hz0] at h44
             rw [i32_ltz] at h26
             have e : wpZ z s i = 0 := by unfold wpZ; rw [ho]; unfold wrP; dsimp only; rw [hk0, if_pos (by omega)]
             rw [e]
             exact ⟨rfl, rfl⟩)
          | (have h44 : (nI ((zH z).2.1 s)).toInt64 < i.toInt64 + (nI (kN (zK z))).toInt64 := c44
             rw [Int64.lt_iff_toInt_lt, hsum, Int32.toInt_toInt64, hz0] at h44
             have e : wpZ z s i = 2 := by unfold wpZ; rw [ho]; unfold wrP; dsimp only; rw [hk0, if_neg (by omega)]
             rw [e]
             exact ⟨rfl, rfl⟩)
          | (have h26 : i < 0 := c26
             rw [i32_ltz] at h26
             have e : wpZ z s i = 2 := by unfold wpZ; rw [ho]; unfold wrP; dsimp only; rw [hk0, if_neg (by omega)]
             rw [e]
             exact ⟨rfl, rfl⟩)
      · first | refine V_aload_n dX9_lacksRow_48 rfl rfl ?_ | refine V_aload_nN dX9_lacksRow_48 rfl rfl ?_
        refine V_iconst (v := 2) dX9_lacksRow_49 (by decide) ?_
        refine V_callV (As := [_]) (st := _) (c_X9_met (nI 2) w z0.1.1) kX9_238 (by exact z0.1.1.k _ rfl rfl) ⟨rfl, rfl, rfl⟩ ⟨(Nat.le_of_ble_eq_true rfl), (Nat.le_of_ble_eq_true rfl)⟩ dX9_lacksRow_50 rfl rfl (Nat.le_of_ble_eq_true rfl) ⟨(Nat.le_of_ble_eq_true rfl), (Nat.le_of_ble_eq_true rfl)⟩ ?_
        refine V_goto (tgt := 57) dX9_lacksRow_53 (by decide) ?_
        refine V_iret rfl dX9_lacksRow_57 (Nat.le_of_ble_eq_true rfl) (Nat.le_of_ble_eq_true rfl) ?_
        have hk0 : (nI (kN (zK z))).toInt = kN (zK z) := nI_toInt (by omega)
        have hz0 : (nI ((zH z).2.1 s)).toInt = (zH z).2.1 s := nI_toInt (by omega)
        first
          | (have h44 : ¬ (nI ((zH z).2.1 s)).toInt64 < i.toInt64 + (nI (kN (zK z))).toInt64 := c44
             have h26 : ¬ i < 0 := c26
             rw [Int64.lt_iff_toInt_lt, hsum, Int32.toInt_toInt64, hz0] at h44
             rw [i32_ltz] at h26
             have e : wpZ z s i = 0 := by unfold wpZ; rw [ho]; unfold wrP; dsimp only; rw [hk0, if_pos (by omega)]
             rw [e]
             exact ⟨rfl, rfl⟩)
          | (have h44 : (nI ((zH z).2.1 s)).toInt64 < i.toInt64 + (nI (kN (zK z))).toInt64 := c44
             rw [Int64.lt_iff_toInt_lt, hsum, Int32.toInt_toInt64, hz0] at h44
             have e : wpZ z s i = 2 := by unfold wpZ; rw [ho]; unfold wrP; dsimp only; rw [hk0, if_neg (by omega)]
             rw [e]
             exact ⟨rfl, rfl⟩)
          | (have h26 : i < 0 := c26
             rw [i32_ltz] at h26
             have e : wpZ z s i = 2 := by unfold wpZ; rw [ho]; unfold wrP; dsimp only; rw [hk0, if_neg (by omega)]
             rw [e]
             exact ⟨rfl, rfl⟩)

set_option maxRecDepth 100000 in
theorem m_row_b (z : St) (x i : Int32) (w : Wd) (z0 : RM z w) (hx : ¬ isS x) : Cc yX9_lacksRow mX9_lacksRow [.ref 400, .int x, .int i] w (fun r w' => r = some (.int (-2)) ∧ w' = w) := by
  refine Cc.of (by decide) rfl rfl (Nat.le_of_ble_eq_true rfl) (fun X => ?_)
  change V _ X _ 0 [(0, _), (1, _), (2, _)] [] _ (0, 0)
  refine V_iload_n dX9_lacksRow_0 rfl rfl ?_
  refine V_callS (As := [_]) (st := _) (c_X9_isSheet _ _) kX9_233 ⟨rfl, rfl, rfl⟩ ⟨(Nat.le_of_ble_eq_true rfl), (Nat.le_of_ble_eq_true rfl)⟩ dX9_lacksRow_1 rfl rfl (Nat.le_of_ble_eq_true rfl) ⟨(Nat.le_of_ble_eq_true rfl), (Nat.le_of_ble_eq_true rfl)⟩ ?_
  refine V_if_ne (tgt := 10) dX9_lacksRow_4 (by decide) (fun c4 => False.elim (by exact hx ⟨(b01_1 c4).1, by have := (b01_1 c4).2; omega⟩)) (fun c4 => ?_)
  refine V_bipush (v := -2) dX9_lacksRow_7 (by decide) ?_
  refine V_iret rfl dX9_lacksRow_9 (Nat.le_of_ble_eq_true rfl) (Nat.le_of_ble_eq_true rfl) ?_
  exact ⟨rfl, rfl⟩

theorem m_row_0 (z : St) (s : Nat) (i : Int32) (w : Wd) (z0 : RM z w) (hs : s < 4) (hw : wpZ z s i = 0) : Cc yX9_lacksRow mX9_lacksRow [.ref 400, .int (nI s), .int i] w (fun r w' => r = some (.int 0) ∧ w' = w) :=
  (c_X9_lacksRow z s i w z0 hs).mono (fun r w' h => by rw [if_pos hw, if_pos hw] at h; exact h)
theorem m_row_n (z : St) (s : Nat) (i : Int32) (w : Wd) (z0 : RM z w) (hs : s < 4) (hw : ¬ wpZ z s i = 0) : Cc yX9_lacksRow mX9_lacksRow [.ref 400, .int (nI s), .int i] w (fun r w' => r = some (.int (-10 - nI (wpZ z s i))) ∧ w' = sI w 400 34 (nI (wpZ z s i))) :=
  (c_X9_lacksRow z s i w z0 hs).mono (fun r w' h => by rw [if_neg hw, if_neg hw] at h; exact h)

set_option maxRecDepth 100000 in
theorem c_X9_key (z : St) (x : Int32) (w : Wd) (z0 : RM z w) : Cc yX9_key mX9_key [.ref 400, .int x] w (fun r w' => r = some (.int (oKey z x)) ∧ w' = w) := by
  refine Cc.of (by decide) rfl rfl (Nat.le_of_ble_eq_true rfl) (fun X => ?_)
  change V _ X _ 0 [(0, _), (1, _)] [] _ (0, 0)
  refine V_iload_n dX9_key_0 rfl rfl ?_
  refine V_i2l dX9_key_1 ?_
  refine V_lconst (v := 0) dX9_key_2 (by decide) ?_
  first | refine V_aload_n dX9_key_3 rfl rfl ?_ | refine V_aload_nN dX9_key_3 rfl rfl ?_
  refine G_geti (by exact z0.1.1.k _ rfl rfl) fX9_199 dX9_key_4 (by exact z0.2.2.1.1) ?_
  refine V_iconst (v := 1) dX9_key_7 (by decide) ?_
  refine V_isub dX9_key_8 ?_
  refine V_i2l dX9_key_9 ?_
  refine V_callS (As := [_, _, _]) (st := _) (in9n x (zN z) (by have := z0.2.2.1.2.1; omega) w) kX9_114 ⟨rfl, rfl, rfl⟩ ⟨(Nat.le_of_ble_eq_true rfl), (Nat.le_of_ble_eq_true rfl)⟩ dX9_key_10 rfl rfl (Nat.le_of_ble_eq_true rfl) ⟨(Nat.le_of_ble_eq_true rfl), (Nat.le_of_ble_eq_true rfl)⟩ ?_
  refine V_if_eq (tgt := 25) dX9_key_13 (by decide) (fun c13 => ?_) (fun c13 => ?_)
  · refine V_bipush (v := -2) dX9_key_25 (by decide) ?_
    refine V_iret rfl dX9_key_27 (Nat.le_of_ble_eq_true rfl) (Nat.le_of_ble_eq_true rfl) ?_
    refine ok2i ?_
    unfold oKey
    first | rw [if_pos (b01_1 c13)] | rw [if_neg (b01_0 c13)]
  · have hx := b01_1 c13
    have hxn : bN x < zN z := by unfold bN; omega
    have h30 := z0.2.2.1.2.1
    first | refine V_aload_n dX9_key_16 rfl rfl ?_ | refine V_aload_nN dX9_key_16 rfl rfl ?_
    first | refine V_getr (by exact z0.1.1.k _ rfl rfl) fX9_57 dX9_key_17 (by exact (z0.1.1.r 21 rfl (by decide) : _ = some 422)) ?_ | refine V_getrN (by exact z0.1.1.k _ rfl rfl) fX9_57 dX9_key_17 (by exact (z0.1.1.r 21 rfl (by decide) : _ = some 422)) ?_
    refine V_iload_n dX9_key_20 rfl rfl ?_
    refine G_iald (j := bN x) (by exact z0.1.1.k _ rfl rfl) (by exact i32_nat hx.1) (by exact z0.1.1.lt 422 (m := 30) rfl rfl (by decide) rfl (by omega)) (by exact z0.1.1.nlt 422 rfl rfl (by decide)) dX9_key_21 (by exact z0.2.2.1.2.2 (bN x) hxn) ?_
    refine V_goto (tgt := 27) dX9_key_22 (by decide) ?_
    refine V_iret rfl dX9_key_27 (Nat.le_of_ble_eq_true rfl) (Nat.le_of_ble_eq_true rfl) ?_
    refine ok2i ?_
    unfold oKey
    first | rw [if_pos (b01_1 c13)] | rw [if_neg (b01_0 c13)]

set_option maxRecDepth 100000 in
theorem c_X9_step (z : St) (x : Int32) (w : Wd) (z0 : RM z w) : Cc yX9_step mX9_step [.ref 400, .int x] w (fun r w' => r = some (.int (oStep z x)) ∧ w' = w) := by
  refine Cc.of (by decide) rfl rfl (Nat.le_of_ble_eq_true rfl) (fun X => ?_)
  change V _ X _ 0 [(0, _), (1, _)] [] _ (0, 0)
  refine V_iload_n dX9_step_0 rfl rfl ?_
  refine V_i2l dX9_step_1 ?_
  refine V_lconst (v := 0) dX9_step_2 (by decide) ?_
  first | refine V_aload_n dX9_step_3 rfl rfl ?_ | refine V_aload_nN dX9_step_3 rfl rfl ?_
  refine G_geti (by exact z0.1.1.k _ rfl rfl) fX9_225 dX9_step_4 (by exact z0.2.2.2.1.2.2.2.1) ?_
  refine V_iconst (v := 1) dX9_step_7 (by decide) ?_
  refine V_isub dX9_step_8 ?_
  refine V_i2l dX9_step_9 ?_
  refine V_callS (As := [_, _, _]) (st := _) (in9n x (zP z) (by have := z0.2.2.2.1.2.2.2.2.1; show z.2.2.2.1.2.2.1 < _; omega) w) kX9_114 ⟨rfl, rfl, rfl⟩ ⟨(Nat.le_of_ble_eq_true rfl), (Nat.le_of_ble_eq_true rfl)⟩ dX9_step_10 rfl rfl (Nat.le_of_ble_eq_true rfl) ⟨(Nat.le_of_ble_eq_true rfl), (Nat.le_of_ble_eq_true rfl)⟩ ?_
  refine V_if_eq (tgt := 25) dX9_step_13 (by decide) (fun c13 => ?_) (fun c13 => ?_)
  · refine V_bipush (v := -2) dX9_step_25 (by decide) ?_
    refine V_iret rfl dX9_step_27 (Nat.le_of_ble_eq_true rfl) (Nat.le_of_ble_eq_true rfl) ?_
    refine ok2i ?_
    unfold oStep
    first | (rw [if_pos (b01_1 c13)]; show _ = oI (z.2.2.2.1.2.2.2 (bN x)); rw [hv1]; rfl) | rw [if_neg (b01_0 c13)]
  · have hx := b01_1 c13
    have hxn : bN x < zP z := by unfold bN; omega
    have h30 : zP z ≤ 180 := z0.2.2.2.1.2.2.2.2.1
    obtain ⟨v, hv1, hv2⟩ := z0.2.2.2.1.2.2.2.2.2 (bN x) hxn
    first | refine V_aload_n dX9_step_16 rfl rfl ?_ | refine V_aload_nN dX9_step_16 rfl rfl ?_
    first | refine V_getr (by exact z0.1.1.k _ rfl rfl) fX9_79 dX9_step_17 (by exact (z0.1.1.r 29 rfl (by decide) : _ = some 430)) ?_ | refine V_getrN (by exact z0.1.1.k _ rfl rfl) fX9_79 dX9_step_17 (by exact (z0.1.1.r 29 rfl (by decide) : _ = some 430)) ?_
    refine V_iload_n dX9_step_20 rfl rfl ?_
    refine G_iald (j := bN x) (by exact z0.1.1.k _ rfl rfl) (by exact i32_nat hx.1) (by exact z0.1.1.lt 430 (m := 180) rfl rfl (by decide) rfl (by omega)) (by exact z0.1.1.nlt 430 rfl rfl (by decide)) dX9_step_21 (by exact hv2) ?_
    refine V_goto (tgt := 27) dX9_step_22 (by decide) ?_
    refine V_iret rfl dX9_step_27 (Nat.le_of_ble_eq_true rfl) (Nat.le_of_ble_eq_true rfl) ?_
    refine ok2i ?_
    unfold oStep
    first | (rw [if_pos (b01_1 c13)]; show _ = oI (z.2.2.2.1.2.2.2 (bN x)); rw [hv1]; rfl) | rw [if_neg (b01_0 c13)]

abbrev grI (a j : Nat) : Prop := (424 ≤ a ∧ a < 428) ∨ a = 430 ∨ (a = 400 ∧ (j = 22 ∨ j = 27 ∨ j = 28))
theorem RM.setG {z : St} {w w' : Wd} {x : Nat × Option Nat × Nat × (Nat → Option Nat)} (h : RM z w) (g : Kp grI noA w w') (hx : MGr x w') : RM (pG z x) w' :=
  ⟨h.1.kp g (fun a j z => by unfold grI at z; unfold msI; omega) (fun _ _ z => z.elim), h.2.1.kp g (fun a j z => by unfold grI at z; omega), h.2.2.1.kp g (fun a j z => by unfold grI at z; omega), hx, h.2.2.2.2.1.kp g (fun a j z => by unfold grI at z; omega), (g.I (by unfold grI; omega)).trans h.2.2.2.2.2.1, h.2.2.2.2.2.2⟩
theorem Kp.mog {w w' : Wd} (g : Kp grI noA w w') : Keep moA w w' := g.keep (fun a j q => by unfold grI at q; unfold moA; omega) (fun _ _ q => q.elim)

set_option maxRecDepth 100000 in
theorem c_X9_join (z : St) (x : Int32) (w : Wd) (z0 : RM z w) : Cc yX9_join mX9_join [.ref 400, .int x] w (fun r w' => ∃ v, r = some v ∧ (v = .int (oJoin z x).1 ∧ RM (oJoin z x).2 w' ∧ Keep moA w w')) := by
  refine Cc.of (by decide) rfl rfl (Nat.le_of_ble_eq_true rfl) (fun X => ?_)
  change V _ X _ 0 [(0, _), (1, _)] [] _ (0, 0)
  refine V_iload_n dX9_join_0 rfl rfl ?_
  refine V_i2l dX9_join_1 ?_
  refine V_lconst (v := 0) dX9_join_2 (by decide) ?_
  refine V_ldc2 ctX9_124 dX9_join_3 ?_
  refine V_callS (As := [_, _, _]) (st := _) (in9 x 0 100 0 100 rfl rfl w) kX9_114 ⟨rfl, rfl, rfl⟩ ⟨(Nat.le_of_ble_eq_true rfl), (Nat.le_of_ble_eq_true rfl)⟩ dX9_join_6 rfl rfl (Nat.le_of_ble_eq_true rfl) ⟨(Nat.le_of_ble_eq_true rfl), (Nat.le_of_ble_eq_true rfl)⟩ ?_
  refine V_if_ne (tgt := 15) dX9_join_9 (by decide) (fun c9 => ?_) (fun c9 => ?_)
  · first | refine V_aload_n dX9_join_15 rfl rfl ?_ | refine V_aload_nN dX9_join_15 rfl rfl ?_
    refine G_geti (by exact z0.1.1.k _ rfl rfl) fX9_60 dX9_join_16 (by exact z0.2.2.2.1.1) ?_
    refine S_istore_n (L' := [(0, _), (1, _), (2, _)]) dX9_join_19 rfl rfl rfl ?_
    first | refine V_aload_n dX9_join_20 rfl rfl ?_ | refine V_aload_nN dX9_join_20 rfl rfl ?_
    refine V_iload_n dX9_join_21 rfl rfl ?_
    refine V_puti (by exact z0.1.1.k _ rfl rfl) pfX9_60 (fun h => nomatch h) dX9_join_22 ⟨rfl, rfl⟩ ?_
    refine V_iload_n dX9_join_25 rfl rfl ?_
    refine V_iret rfl dX9_join_26 (Nat.le_of_ble_eq_true rfl) (Nat.le_of_ble_eq_true rfl) ?_
    have hx := b01_1 c9
    have hxE := i32_nat hx.1
    have g : Kp grI noA w (sI w 400 22 x) := Kp.sI w (by unfold grI; omega) _
    have hg := z0.2.2.2.1
    have hG : MGr (bN x, zW z, zP z, zS z) (sI w 400 22 x) := ⟨rdI_eq.trans hxE, by show bN x ≤ 100; unfold bN; omega, (rdI_ne (by decide)).trans hg.2.2.1, (rdI_ne (by decide)).trans hg.2.2.2.1, hg.2.2.2.2.1, fun n hn => by
      obtain ⟨v, h1, h2⟩ := hg.2.2.2.2.2 n hn
      exact ⟨v, h1, (rdI_nn (by decide)).trans h2⟩⟩
    exact ⟨_, rfl, by unfold oJoin; rw [if_pos hx]; rfl, by unfold oJoin; rw [if_pos hx]; exact z0.setG g hG, g.mog⟩
  · refine V_bipush (v := -2) dX9_join_12 (by decide) ?_
    refine V_iret rfl dX9_join_14 (Nat.le_of_ble_eq_true rfl) (Nat.le_of_ble_eq_true rfl) ?_
    exact ⟨_, rfl, by unfold oJoin; rw [if_neg (b01_0 c9)], by unfold oJoin; rw [if_neg (b01_0 c9)]; exact z0, Keep.refl _ _⟩

set_option maxRecDepth 100000 in
theorem c_X9_count (z : St) (x : Int32) (w : Wd) (z0 : RM z w) : Cc yX9_count mX9_count [.ref 400, .int x] w (fun r w' => r = some (.int (oCount z x)) ∧ w' = w) := by
  refine Cc.of (by decide) rfl rfl (Nat.le_of_ble_eq_true rfl) (fun X => ?_)
  change V _ X _ 0 [(0, _), (1, _)] [] _ (0, 0)
  refine V_iload_n dX9_count_0 rfl rfl ?_
  refine V_topi (fun sw esw => ?_)
  by_cases s0 : sw = 0
  · rw [s0] at esw ⊢
    refine V_tableIn (off := 43) (tgt := 44) dX9_count_1 (by decide) (by decide) (by decide) (by decide) ?_
    first | refine V_aload_n dX9_count_44 rfl rfl ?_ | refine V_aload_nN dX9_count_44 rfl rfl ?_
    refine G_geti (by exact z0.1.1.k _ rfl rfl) fX9_111 dX9_count_45 (by exact z0.1.n) ?_
    refine V_iret rfl dX9_count_48 (Nat.le_of_ble_eq_true rfl) (Nat.le_of_ble_eq_true rfl) ?_
    exact ok2i (by unfold oCount; rw [← esw]; rfl)
  by_cases s1 : sw = 1
  · rw [s1] at esw ⊢
    refine V_tableIn (off := 48) (tgt := 49) dX9_count_1 (by decide) (by decide) (by decide) (by decide) ?_
    first | refine V_aload_n dX9_count_49 rfl rfl ?_ | refine V_aload_nN dX9_count_49 rfl rfl ?_
    refine V_callV (As := []) (st := _) (c_X9_frames (kN (zK z)) (zQ z) w z0.2.1) kX9_128 (by exact z0.1.1.k _ rfl rfl) ⟨rfl, rfl, rfl⟩ ⟨(Nat.le_of_ble_eq_true rfl), (Nat.le_of_ble_eq_true rfl)⟩ dX9_count_50 rfl rfl (Nat.le_of_ble_eq_true rfl) ⟨(Nat.le_of_ble_eq_true rfl), (Nat.le_of_ble_eq_true rfl)⟩ ?_
    refine V_iret rfl dX9_count_53 (Nat.le_of_ble_eq_true rfl) (Nat.le_of_ble_eq_true rfl) ?_
    exact ok2i (by unfold oCount; rw [← esw]; rfl)
  by_cases s2 : sw = 2
  · rw [s2] at esw ⊢
    refine V_tableIn (off := 53) (tgt := 54) dX9_count_1 (by decide) (by decide) (by decide) (by decide) ?_
    first | refine V_aload_n dX9_count_54 rfl rfl ?_ | refine V_aload_nN dX9_count_54 rfl rfl ?_
    refine G_geti (by exact z0.1.1.k _ rfl rfl) fX9_34 dX9_count_55 (by exact z0.1.lck) ?_
    refine V_iret rfl dX9_count_58 (Nat.le_of_ble_eq_true rfl) (Nat.le_of_ble_eq_true rfl) ?_
    exact ok2i (by unfold oCount; rw [← esw]; rfl)
  by_cases s3 : sw = 3
  · rw [s3] at esw ⊢
    refine V_tableIn (off := 58) (tgt := 59) dX9_count_1 (by decide) (by decide) (by decide) (by decide) ?_
    first | refine V_aload_n dX9_count_59 rfl rfl ?_ | refine V_aload_nN dX9_count_59 rfl rfl ?_
    refine G_geti (by exact z0.1.1.k _ rfl rfl) fX9_60 dX9_count_60 (by exact z0.2.2.2.1.1) ?_
    refine V_iret rfl dX9_count_63 (Nat.le_of_ble_eq_true rfl) (Nat.le_of_ble_eq_true rfl) ?_
    exact ok2i (by unfold oCount; rw [← esw]; rfl)
  by_cases s4 : sw = 4
  · rw [s4] at esw ⊢
    refine V_tableIn (off := 63) (tgt := 64) dX9_count_1 (by decide) (by decide) (by decide) (by decide) ?_
    first | refine V_aload_n dX9_count_64 rfl rfl ?_ | refine V_aload_nN dX9_count_64 rfl rfl ?_
    refine G_geti (by exact z0.1.1.k _ rfl rfl) fX9_199 dX9_count_65 (by exact z0.2.2.1.1) ?_
    refine V_iret rfl dX9_count_68 (Nat.le_of_ble_eq_true rfl) (Nat.le_of_ble_eq_true rfl) ?_
    exact ok2i (by unfold oCount; rw [← esw]; rfl)
  by_cases s5 : sw = 5
  · rw [s5] at esw ⊢
    refine V_tableIn (off := 68) (tgt := 69) dX9_count_1 (by decide) (by decide) (by decide) (by decide) ?_
    first | refine V_aload_n dX9_count_69 rfl rfl ?_ | refine V_aload_nN dX9_count_69 rfl rfl ?_
    refine G_geti (by exact z0.1.1.k _ rfl rfl) fX9_76 dX9_count_70 (by exact z0.2.2.2.1.2.2.1) ?_
    refine V_iret rfl dX9_count_73 (Nat.le_of_ble_eq_true rfl) (Nat.le_of_ble_eq_true rfl) ?_
    exact ok2i (by unfold oCount; rw [← esw]; rfl)
  by_cases s6 : sw = 6
  · rw [s6] at esw ⊢
    refine V_tableIn (off := 73) (tgt := 74) dX9_count_1 (by decide) (by decide) (by decide) (by decide) ?_
    first | refine V_aload_n dX9_count_74 rfl rfl ?_ | refine V_aload_nN dX9_count_74 rfl rfl ?_
    refine G_geti (by exact z0.1.1.k _ rfl rfl) fX9_228 dX9_count_75 (by exact z0.2.2.2.2.2.1) ?_
    refine V_iret rfl dX9_count_78 (Nat.le_of_ble_eq_true rfl) (Nat.le_of_ble_eq_true rfl) ?_
    exact ok2i (by unfold oCount; rw [← esw]; rfl)
  refine V_tableOut (tgt := 79) dX9_count_1 (by have g0 := i32_neN 0 (by decide) s0; have g1 := i32_neN 1 (by decide) s1; have g2 := i32_neN 2 (by decide) s2; have g3 := i32_neN 3 (by decide) s3; have g4 := i32_neN 4 (by decide) s4; have g5 := i32_neN 5 (by decide) s5; have g6 := i32_neN 6 (by decide) s6; omega) (by decide) ?_
  refine V_bipush (v := -2) dX9_count_79 (by decide) ?_
  refine V_iret rfl dX9_count_81 (Nat.le_of_ble_eq_true rfl) (Nat.le_of_ble_eq_true rfl) ?_
  exact ok2i (by unfold oCount; rw [if_neg (fun q => s0 (esw.trans q)), if_neg (fun q => s1 (esw.trans q)), if_neg (fun q => s2 (esw.trans q)), if_neg (fun q => s3 (esw.trans q)), if_neg (fun q => s4 (esw.trans q)), if_neg (fun q => s5 (esw.trans q)), if_neg (fun q => s6 (esw.trans q))])
