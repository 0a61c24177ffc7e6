/-! BoneSteps: copy, write, count, digest -/
set_option maxRecDepth 100000 in
theorem c_X8_copy (z : St) (x i y j n : Int32) (w : Wd) (z0 : RX z w) : Cc yX8_copy mX8_copy [.ref 20, .int x, .int i, .int y, .int j, .int n] w (fun r w' => ∃ v, r = some v ∧ (v = .int (oCopy z x i y j n).1 ∧ RX (oCopy z x i y j n).2 w' ∧ Keep clA w w')) := by
  refine Cc.of (by decide) rfl rfl (Nat.le_of_ble_eq_true rfl) (fun X => ?_)
  change V _ X _ 0 [(0, _), (1, _), (2, _), (3, _), (4, _), (5, _)] [] _ (0, 0)
  by_cases hx : isS x
  · obtain ⟨s, hs, rfl⟩ := isS_n hx
    have hsN : bN (nI s) = s := bN_nI (by omega)
    by_cases hy : isS y
    · obtain ⟨t, ht, rfl⟩ := isS_n hy
      have htN : bN (nI t) = t := bN_nI (by omega)
      first | refine V_aload_n dX8_copy_0 rfl rfl ?_ | refine V_aload_nN dX8_copy_0 rfl rfl ?_
      refine V_iload_n dX8_copy_1 rfl rfl ?_
      refine V_callV (As := [_]) (st := _) (c_X8_findSheet_s s w z0.1.1.1 hs) kX8_218 (by first | exact z0.1.1.1.k _ rfl rfl | exact z0.1.1.1.ks hs | exact z0.1.1.1.ki hs | exact z0.1.1.1.ks ht | exact z0.1.1.1.ki ht) ⟨rfl, rfl, rfl⟩ ⟨(Nat.le_of_ble_eq_true rfl), (Nat.le_of_ble_eq_true rfl)⟩ dX8_copy_2 rfl rfl (Nat.le_of_ble_eq_true rfl) ⟨(Nat.le_of_ble_eq_true rfl), (Nat.le_of_ble_eq_true rfl)⟩ ?_
      first | refine S_astore (L' := [(0, _), (2, _), (3, _), (4, _), (5, _), (6, _)]) dX8_copy_5 rfl rfl ?_ | refine S_astoreN (L' := [(0, _), (2, _), (3, _), (4, _), (5, _), (6, _)]) dX8_copy_5 rfl rfl ?_
      first | refine V_aload_n dX8_copy_7 rfl rfl ?_ | refine V_aload_nN dX8_copy_7 rfl rfl ?_
      refine V_iload_n dX8_copy_8 rfl rfl ?_
      refine V_callV (As := [_]) (st := _) (c_X8_findSheet_s t w z0.1.1.1 ht) kX8_218 (by first | exact z0.1.1.1.k _ rfl rfl | exact z0.1.1.1.ks hs | exact z0.1.1.1.ki hs | exact z0.1.1.1.ks ht | exact z0.1.1.1.ki ht) ⟨rfl, rfl, rfl⟩ ⟨(Nat.le_of_ble_eq_true rfl), (Nat.le_of_ble_eq_true rfl)⟩ dX8_copy_9 rfl rfl (Nat.le_of_ble_eq_true rfl) ⟨(Nat.le_of_ble_eq_true rfl), (Nat.le_of_ble_eq_true rfl)⟩ ?_
      first | refine S_astore (L' := [(0, _), (2, _), (4, _), (5, _), (6, _), (7, _)]) dX8_copy_12 rfl rfl ?_ | refine S_astoreN (L' := [(0, _), (2, _), (4, _), (5, _), (6, _), (7, _)]) dX8_copy_12 rfl rfl ?_
      first | refine V_aload dX8_copy_14 rfl ?_ | refine V_aloadN dX8_copy_14 rfl ?_
      refine V_ifnull dX8_copy_16 ?_
      first | refine V_aload dX8_copy_19 rfl ?_ | refine V_aloadN dX8_copy_19 rfl ?_
      refine V_ifnonnull (tgt := 27) dX8_copy_21 (by decide) ?_
      first | refine V_aload dX8_copy_27 rfl ?_ | refine V_aloadN dX8_copy_27 rfl ?_
      refine G_geti (by first | exact z0.1.1.1.k _ rfl rfl | exact z0.1.1.1.ks hs | exact z0.1.1.1.ki hs | exact z0.1.1.1.ks ht | exact z0.1.1.1.ki ht) fX8_233 dX8_copy_29 (by exact (z0.2.2.2.2.1.2 s hs).2.2.1) ?_
      refine V_if_ne (tgt := 43) dX8_copy_32 (by decide) (fun c32 => ?_) (fun c32 => ?_)
      · first | refine V_aload_n dX8_copy_43 rfl rfl ?_ | refine V_aload_nN dX8_copy_43 rfl rfl ?_
        refine V_iconst (v := 1) dX8_copy_44 (by decide) ?_
        refine V_callV (As := [_]) (st := _) (c_X8_found (nI 1) w z0.1.1.1) kX8_225 (by first | exact z0.1.1.1.k _ rfl rfl | exact z0.1.1.1.ks hs | exact z0.1.1.1.ki hs | exact z0.1.1.1.ks ht | exact z0.1.1.1.ki ht) ⟨rfl, rfl, rfl⟩ ⟨(Nat.le_of_ble_eq_true rfl), (Nat.le_of_ble_eq_true rfl)⟩ dX8_copy_45 rfl rfl (Nat.le_of_ble_eq_true rfl) ⟨(Nat.le_of_ble_eq_true rfl), (Nat.le_of_ble_eq_true rfl)⟩ ?_
        refine V_iret rfl dX8_copy_48 (Nat.le_of_ble_eq_true rfl) (Nat.le_of_ble_eq_true rfl) ?_
        have hn : (zH z).1 s = none ∨ (zH z).1 t = none := by first | exact Or.inr (loI_1 c40) | exact Or.inl (loI_1 c32)
        have e : oCopy z (nI s) i (nI t) j n = fnd z 1 := by
          unfold oCopy
          rw [if_pos ⟨hx, hy⟩, hsN, htN, if_pos hn]
        exact ⟨_, rfl, by rw [e]; rfl, by rw [e]; exact z0.fnd (by decide), Keep.sI w (by unfold clA; omega) 5 _⟩
      · first | refine V_aload dX8_copy_35 rfl ?_ | refine V_aloadN dX8_copy_35 rfl ?_
        refine G_geti (by first | exact z0.1.1.1.k _ rfl rfl | exact z0.1.1.1.ks hs | exact z0.1.1.1.ki hs | exact z0.1.1.1.ks ht | exact z0.1.1.1.ki ht) fX8_233 dX8_copy_37 (by exact (z0.2.2.2.2.1.2 t ht).2.2.1) ?_
        refine V_if_eq (tgt := 49) dX8_copy_40 (by decide) (fun c40 => ?_) (fun c40 => ?_)
        · obtain ⟨f, hf⟩ := loI_0 c32
          obtain ⟨g, hg⟩ := loI_0 c40
          have hnn : ¬ ((zH z).1 s = none ∨ (zH z).1 t = none) := by rw [hf, hg]; exact fun q => q.elim (fun q => by cases q) (fun q => by cases q)
          first | refine V_aload dX8_copy_49 rfl ?_ | refine V_aloadN dX8_copy_49 rfl ?_
          refine G_geti (by first | exact z0.1.1.1.k _ rfl rfl | exact z0.1.1.1.ks hs | exact z0.1.1.1.ki hs | exact z0.1.1.1.ks ht | exact z0.1.1.1.ki ht) fX8_249 dX8_copy_51 (by exact ((z0.2.2.2.2.1.2 s hs).2.2.2 f hf).2.1) ?_
          first | refine V_aload dX8_copy_54 rfl ?_ | refine V_aloadN dX8_copy_54 rfl ?_
          refine G_geti (by first | exact z0.1.1.1.k _ rfl rfl | exact z0.1.1.1.ks hs | exact z0.1.1.1.ki hs | exact z0.1.1.1.ks ht | exact z0.1.1.1.ki ht) fX8_249 dX8_copy_56 (by exact ((z0.2.2.2.2.1.2 t ht).2.2.2 g hg).2.1) ?_
          refine V_icmp_eq (tgt := 68) dX8_copy_59 (by decide) (fun c59 => ?_) (fun c59 => ?_)
          · first | refine V_aload dX8_copy_68 rfl ?_ | refine V_aloadN dX8_copy_68 rfl ?_
            refine V_iload_n dX8_copy_70 rfl rfl ?_
            refine V_iload dX8_copy_71 rfl ?_
            refine V_callV (As := [_, _]) (st := _) (c_X5_holds (zH z) s i n w z0.2.2.2.2.1 hs) kX8_252 (by first | exact z0.1.1.1.k _ rfl rfl | exact z0.1.1.1.ks hs | exact z0.1.1.1.ki hs | exact z0.1.1.1.ks ht | exact z0.1.1.1.ki ht) ⟨rfl, rfl, rfl⟩ ⟨(Nat.le_of_ble_eq_true rfl), (Nat.le_of_ble_eq_true rfl)⟩ dX8_copy_73 rfl rfl (Nat.le_of_ble_eq_true rfl) ⟨(Nat.le_of_ble_eq_true rfl), (Nat.le_of_ble_eq_true rfl)⟩ ?_
            refine V_if_eq (tgt := 91) dX8_copy_76 (by decide) (fun c76 => ?_) (fun c76 => ?_)
            · first | refine V_aload_n dX8_copy_91 rfl rfl ?_ | refine V_aload_nN dX8_copy_91 rfl rfl ?_
              refine V_iconst (v := 2) dX8_copy_92 (by decide) ?_
              refine V_callV (As := [_]) (st := _) (c_X8_found (nI 2) w z0.1.1.1) kX8_225 (by first | exact z0.1.1.1.k _ rfl rfl | exact z0.1.1.1.ks hs | exact z0.1.1.1.ki hs | exact z0.1.1.1.ks ht | exact z0.1.1.1.ki ht) ⟨rfl, rfl, rfl⟩ ⟨(Nat.le_of_ble_eq_true rfl), (Nat.le_of_ble_eq_true rfl)⟩ dX8_copy_93 rfl rfl (Nat.le_of_ble_eq_true rfl) ⟨(Nat.le_of_ble_eq_true rfl), (Nat.le_of_ble_eq_true rfl)⟩ ?_
              refine V_iret rfl dX8_copy_96 (Nat.le_of_ble_eq_true rfl) (Nat.le_of_ble_eq_true rfl) ?_
              have hfg : f = g := (nI_eq (by have := ((z0.2.2.2.2.1.2 s hs).2.2.2 f hf).1; omega) (by have := ((z0.2.2.2.2.1.2 t ht).2.2.2 g hg).1; omega)).mp c59
              have he : (zH z).1 s = (zH z).1 t := by rw [hf, hg, hfg]
              have hno : ¬ (hoZ z s i n ∧ hoZ z t j n) := fun q => by
                first | exact b01_0 c88 q.2 | exact b01_0 c76 q.1
              have e : oCopy z (nI s) i (nI t) j n = fnd z 2 := by
                unfold oCopy
                rw [if_pos ⟨hx, hy⟩, hsN, htN, if_neg hnn, if_pos he, if_neg hno]
              exact ⟨_, rfl, by rw [e]; rfl, by rw [e]; exact z0.fnd (by decide), Keep.sI w (by unfold clA; omega) 5 _⟩
            · first | refine V_aload dX8_copy_79 rfl ?_ | refine V_aloadN dX8_copy_79 rfl ?_
              refine V_iload dX8_copy_81 rfl ?_
              refine V_iload dX8_copy_83 rfl ?_
              refine V_callV (As := [_, _]) (st := _) (c_X5_holds (zH z) t j n w z0.2.2.2.2.1 ht) kX8_252 (by first | exact z0.1.1.1.k _ rfl rfl | exact z0.1.1.1.ks hs | exact z0.1.1.1.ki hs | exact z0.1.1.1.ks ht | exact z0.1.1.1.ki ht) ⟨rfl, rfl, rfl⟩ ⟨(Nat.le_of_ble_eq_true rfl), (Nat.le_of_ble_eq_true rfl)⟩ dX8_copy_85 rfl rfl (Nat.le_of_ble_eq_true rfl) ⟨(Nat.le_of_ble_eq_true rfl), (Nat.le_of_ble_eq_true rfl)⟩ ?_
              refine V_if_ne (tgt := 97) dX8_copy_88 (by decide) (fun c88 => ?_) (fun c88 => ?_)
              · have hfg : f = g := (nI_eq (by have := ((z0.2.2.2.2.1.2 s hs).2.2.2 f hf).1; omega) (by have := ((z0.2.2.2.2.1.2 t ht).2.2.2 g hg).1; omega)).mp c59
                have hh1 := b01_1 c76
                have hh2 := b01_1 c88
                have l1 := (z0.2.2.2.2.1.2 s hs).1
                have l2 := (z0.2.2.2.2.1.2 t ht).1
                have ei : i.toNatClampNeg = i.toInt.toNat := rfl
                have ej : j.toNatClampNeg = j.toInt.toNat := rfl
                have en : n.toNatClampNeg = n.toInt.toNat := rfl
                first | refine V_aload dX8_copy_97 rfl ?_ | refine V_aloadN dX8_copy_97 rfl ?_
                first | refine V_getr (by first | exact z0.1.1.1.k _ rfl rfl | exact z0.1.1.1.ks hs | exact z0.1.1.1.ki hs | exact z0.1.1.1.ks ht | exact z0.1.1.1.ki ht) fX8_246 dX8_copy_99 (by first | exact z0.1.1.1.r _ _ rfl | exact z0.1.1.1.ri hs | exact z0.1.1.1.ri ht) ?_ | refine V_getrN (by first | exact z0.1.1.1.k _ rfl rfl | exact z0.1.1.1.ks hs | exact z0.1.1.1.ki hs | exact z0.1.1.1.ks ht | exact z0.1.1.1.ki ht) fX8_246 dX8_copy_99 (by first | exact z0.1.1.1.r _ _ rfl | exact z0.1.1.1.ri hs | exact z0.1.1.1.ri ht) ?_
                refine V_iload_n dX8_copy_102 rfl rfl ?_
                first | refine V_aload dX8_copy_103 rfl ?_ | refine V_aloadN dX8_copy_103 rfl ?_
                first | refine V_getr (by first | exact z0.1.1.1.k _ rfl rfl | exact z0.1.1.1.ks hs | exact z0.1.1.1.ki hs | exact z0.1.1.1.ks ht | exact z0.1.1.1.ki ht) fX8_246 dX8_copy_105 (by first | exact z0.1.1.1.r _ _ rfl | exact z0.1.1.1.ri hs | exact z0.1.1.1.ri ht) ?_ | refine V_getrN (by first | exact z0.1.1.1.k _ rfl rfl | exact z0.1.1.1.ks hs | exact z0.1.1.1.ki hs | exact z0.1.1.1.ks ht | exact z0.1.1.1.ki ht) fX8_246 dX8_copy_105 (by first | exact z0.1.1.1.r _ _ rfl | exact z0.1.1.1.ri hs | exact z0.1.1.1.ri ht) ?_
                refine V_iload dX8_copy_108 rfl ?_
                refine V_iload dX8_copy_110 rfl ?_
                refine V_copy koX8_256 sy_copy.1 sy_copy.2.1 sy_copy.2.2 (by first | exact z0.1.1.1.k _ rfl rfl | exact z0.1.1.1.ks hs | exact z0.1.1.1.ki hs | exact z0.1.1.1.ks ht | exact z0.1.1.1.ki ht) (by first | exact z0.1.1.1.k _ rfl rfl | exact z0.1.1.1.ks hs | exact z0.1.1.1.ki hs | exact z0.1.1.1.ks ht | exact z0.1.1.1.ki ht) (fun q => by rw [i32_ltz] at q; omega) (fun q => by rw [i32_ltz] at q; omega) (fun q => by rw [i32_ltz] at q; omega) (by rw [z0.1.1.1.ni hs]; omega) (by rw [z0.1.1.1.ni ht]; omega) (Nat.le_of_ble_eq_true rfl) (Nat.le_of_ble_eq_true rfl) dX8_copy_112 ?_
                refine V_iconst (v := 1) dX8_copy_115 (by decide) ?_
                refine V_iret rfl dX8_copy_116 (Nat.le_of_ble_eq_true rfl) (Nat.le_of_ble_eq_true rfl) ?_
                have he : (zH z).1 s = (zH z).1 t := by rw [hf, hg, hfg]
                have e : oCopy z (nI s) i (nI t) j n = (1, pH z (cpH (zH z) s (bN i) t (bN j) (bN n)) (zF z)) := by
                  unfold oCopy
                  rw [if_pos ⟨hx, hy⟩, hsN, htN, if_neg hnn, if_pos he, if_pos ⟨hh1, hh2⟩]
                exact ⟨_, rfl, by rw [e], by rw [e]; exact z0.setS (Keep.sV w (by unfold siA; omega) _) (z0.2.2.2.2.1.copy hs ht hf (by show i.toInt.toNat + n.toInt.toNat ≤ _; omega)), Keep.sV w (by unfold clA; omega) _⟩
              · first | refine V_aload_n dX8_copy_91 rfl rfl ?_ | refine V_aload_nN dX8_copy_91 rfl rfl ?_
                refine V_iconst (v := 2) dX8_copy_92 (by decide) ?_
                refine V_callV (As := [_]) (st := _) (c_X8_found (nI 2) w z0.1.1.1) kX8_225 (by first | exact z0.1.1.1.k _ rfl rfl | exact z0.1.1.1.ks hs | exact z0.1.1.1.ki hs | exact z0.1.1.1.ks ht | exact z0.1.1.1.ki ht) ⟨rfl, rfl, rfl⟩ ⟨(Nat.le_of_ble_eq_true rfl), (Nat.le_of_ble_eq_true rfl)⟩ dX8_copy_93 rfl rfl (Nat.le_of_ble_eq_true rfl) ⟨(Nat.le_of_ble_eq_true rfl), (Nat.le_of_ble_eq_true rfl)⟩ ?_
                refine V_iret rfl dX8_copy_96 (Nat.le_of_ble_eq_true rfl) (Nat.le_of_ble_eq_true rfl) ?_
                have hfg : f = g := (nI_eq (by have := ((z0.2.2.2.2.1.2 s hs).2.2.2 f hf).1; omega) (by have := ((z0.2.2.2.2.1.2 t ht).2.2.2 g hg).1; omega)).mp c59
                have he : (zH z).1 s = (zH z).1 t := by rw [hf, hg, hfg]
                have hno : ¬ (hoZ z s i n ∧ hoZ z t j n) := fun q => by
                  first | exact b01_0 c88 q.2 | exact b01_0 c76 q.1
                have e : oCopy z (nI s) i (nI t) j n = fnd z 2 := by
                  unfold oCopy
                  rw [if_pos ⟨hx, hy⟩, hsN, htN, if_neg hnn, if_pos he, if_neg hno]
                exact ⟨_, rfl, by rw [e]; rfl, by rw [e]; exact z0.fnd (by decide), Keep.sI w (by unfold clA; omega) 5 _⟩
          · first | refine V_aload_n dX8_copy_62 rfl rfl ?_ | refine V_aload_nN dX8_copy_62 rfl rfl ?_
            refine V_iconst (v := 4) dX8_copy_63 (by decide) ?_
            refine V_callV (As := [_]) (st := _) (c_X8_found (nI 4) w z0.1.1.1) kX8_225 (by first | exact z0.1.1.1.k _ rfl rfl | exact z0.1.1.1.ks hs | exact z0.1.1.1.ki hs | exact z0.1.1.1.ks ht | exact z0.1.1.1.ki ht) ⟨rfl, rfl, rfl⟩ ⟨(Nat.le_of_ble_eq_true rfl), (Nat.le_of_ble_eq_true rfl)⟩ dX8_copy_64 rfl rfl (Nat.le_of_ble_eq_true rfl) ⟨(Nat.le_of_ble_eq_true rfl), (Nat.le_of_ble_eq_true rfl)⟩ ?_
            refine V_iret rfl dX8_copy_67 (Nat.le_of_ble_eq_true rfl) (Nat.le_of_ble_eq_true rfl) ?_
            have hne : ¬ (zH z).1 s = (zH z).1 t := fun q => by
              rw [hf, hg] at q
              cases q
              exact c59 rfl
            have e : oCopy z (nI s) i (nI t) j n = fnd z 4 := by
              unfold oCopy
              rw [if_pos ⟨hx, hy⟩, hsN, htN, if_neg hnn, if_neg hne]
            exact ⟨_, rfl, by rw [e]; rfl, by rw [e]; exact z0.fnd (by decide), Keep.sI w (by unfold clA; omega) 5 _⟩
        · first | refine V_aload_n dX8_copy_43 rfl rfl ?_ | refine V_aload_nN dX8_copy_43 rfl rfl ?_
          refine V_iconst (v := 1) dX8_copy_44 (by decide) ?_
          refine V_callV (As := [_]) (st := _) (c_X8_found (nI 1) w z0.1.1.1) kX8_225 (by first | exact z0.1.1.1.k _ rfl rfl | exact z0.1.1.1.ks hs | exact z0.1.1.1.ki hs | exact z0.1.1.1.ks ht | exact z0.1.1.1.ki ht) ⟨rfl, rfl, rfl⟩ ⟨(Nat.le_of_ble_eq_true rfl), (Nat.le_of_ble_eq_true rfl)⟩ dX8_copy_45 rfl rfl (Nat.le_of_ble_eq_true rfl) ⟨(Nat.le_of_ble_eq_true rfl), (Nat.le_of_ble_eq_true rfl)⟩ ?_
          refine V_iret rfl dX8_copy_48 (Nat.le_of_ble_eq_true rfl) (Nat.le_of_ble_eq_true rfl) ?_
          have hn : (zH z).1 s = none ∨ (zH z).1 t = none := by first | exact Or.inr (loI_1 c40) | exact Or.inl (loI_1 c32)
          have e : oCopy z (nI s) i (nI t) j n = fnd z 1 := by
            unfold oCopy
            rw [if_pos ⟨hx, hy⟩, hsN, htN, if_pos hn]
          exact ⟨_, rfl, by rw [e]; rfl, by rw [e]; exact z0.fnd (by decide), Keep.sI w (by unfold clA; omega) 5 _⟩
    · first | refine V_aload_n dX8_copy_0 rfl rfl ?_ | refine V_aload_nN dX8_copy_0 rfl rfl ?_
      refine V_iload_n dX8_copy_1 rfl rfl ?_
      refine V_callV (As := [_]) (st := _) (c_X8_findSheet_s s w z0.1.1.1 hs) kX8_218 (by first | exact z0.1.1.1.k _ rfl rfl | exact z0.1.1.kb hb) ⟨rfl, rfl, rfl⟩ ⟨(Nat.le_of_ble_eq_true rfl), (Nat.le_of_ble_eq_true rfl)⟩ dX8_copy_2 rfl rfl (Nat.le_of_ble_eq_true rfl) ⟨(Nat.le_of_ble_eq_true rfl), (Nat.le_of_ble_eq_true rfl)⟩ ?_
      first | refine S_astore (L' := [(0, _), (2, _), (3, _), (4, _), (5, _), (6, _)]) dX8_copy_5 rfl rfl ?_ | refine S_astoreN (L' := [(0, _), (2, _), (3, _), (4, _), (5, _), (6, _)]) dX8_copy_5 rfl rfl ?_
      first | refine V_aload_n dX8_copy_7 rfl rfl ?_ | refine V_aload_nN dX8_copy_7 rfl rfl ?_
      refine V_iload_n dX8_copy_8 rfl rfl ?_
      refine V_callV (As := [_]) (st := _) (c_X8_findSheet_n y w z0.1.1.1 hy) kX8_218 (by first | exact z0.1.1.1.k _ rfl rfl | exact z0.1.1.kb hb) ⟨rfl, rfl, rfl⟩ ⟨(Nat.le_of_ble_eq_true rfl), (Nat.le_of_ble_eq_true rfl)⟩ dX8_copy_9 rfl rfl (Nat.le_of_ble_eq_true rfl) ⟨(Nat.le_of_ble_eq_true rfl), (Nat.le_of_ble_eq_true rfl)⟩ ?_
      refine S_astoreN (L' := [(0, _), (2, _), (4, _), (5, _), (6, _), (7, _)]) dX8_copy_12 rfl rfl ?_
      first | refine V_aload dX8_copy_14 rfl ?_ | refine V_aloadN dX8_copy_14 rfl ?_
      refine V_ifnull dX8_copy_16 ?_
      first | refine V_aload dX8_copy_19 rfl ?_ | refine V_aloadN dX8_copy_19 rfl ?_
      refine V_ifnonnullN dX8_copy_21 ?_
      refine V_bipush (v := -2) dX8_copy_24 (by decide) ?_
      refine V_iret rfl dX8_copy_26 (Nat.le_of_ble_eq_true rfl) (Nat.le_of_ble_eq_true rfl) ?_
      exact ⟨_, rfl, by unfold oCopy; rw [if_neg (fun q => hy q.2)], by unfold oCopy; rw [if_neg (fun q => hy q.2)]; exact z0, Keep.refl _ _⟩
  · by_cases hy : isS y
    · obtain ⟨t, ht, rfl⟩ := isS_n hy
      first | refine V_aload_n dX8_copy_0 rfl rfl ?_ | refine V_aload_nN dX8_copy_0 rfl rfl ?_
      refine V_iload_n dX8_copy_1 rfl rfl ?_
      refine V_callV (As := [_]) (st := _) (c_X8_findSheet_n x w z0.1.1.1 hx) kX8_218 (by first | exact z0.1.1.1.k _ rfl rfl | exact z0.1.1.kb hb) ⟨rfl, rfl, rfl⟩ ⟨(Nat.le_of_ble_eq_true rfl), (Nat.le_of_ble_eq_true rfl)⟩ dX8_copy_2 rfl rfl (Nat.le_of_ble_eq_true rfl) ⟨(Nat.le_of_ble_eq_true rfl), (Nat.le_of_ble_eq_true rfl)⟩ ?_
      refine S_astoreN (L' := [(0, _), (2, _), (3, _), (4, _), (5, _), (6, _)]) dX8_copy_5 rfl rfl ?_
      first | refine V_aload_n dX8_copy_7 rfl rfl ?_ | refine V_aload_nN dX8_copy_7 rfl rfl ?_
      refine V_iload_n dX8_copy_8 rfl rfl ?_
      refine V_callV (As := [_]) (st := _) (c_X8_findSheet_s t w z0.1.1.1 ht) kX8_218 (by first | exact z0.1.1.1.k _ rfl rfl | exact z0.1.1.kb hb) ⟨rfl, rfl, rfl⟩ ⟨(Nat.le_of_ble_eq_true rfl), (Nat.le_of_ble_eq_true rfl)⟩ dX8_copy_9 rfl rfl (Nat.le_of_ble_eq_true rfl) ⟨(Nat.le_of_ble_eq_true rfl), (Nat.le_of_ble_eq_true rfl)⟩ ?_
      first | refine S_astore (L' := [(0, _), (2, _), (4, _), (5, _), (6, _), (7, _)]) dX8_copy_12 rfl rfl ?_ | refine S_astoreN (L' := [(0, _), (2, _), (4, _), (5, _), (6, _), (7, _)]) dX8_copy_12 rfl rfl ?_
      first | refine V_aload dX8_copy_14 rfl ?_ | refine V_aloadN dX8_copy_14 rfl ?_
      refine V_ifnullN (tgt := 24) dX8_copy_16 (by decide) ?_
      refine V_bipush (v := -2) dX8_copy_24 (by decide) ?_
      refine V_iret rfl dX8_copy_26 (Nat.le_of_ble_eq_true rfl) (Nat.le_of_ble_eq_true rfl) ?_
      exact ⟨_, rfl, by unfold oCopy; rw [if_neg (fun q => hx q.1)], by unfold oCopy; rw [if_neg (fun q => hx q.1)]; exact z0, Keep.refl _ _⟩
    · first | refine V_aload_n dX8_copy_0 rfl rfl ?_ | refine V_aload_nN dX8_copy_0 rfl rfl ?_
      refine V_iload_n dX8_copy_1 rfl rfl ?_
      refine V_callV (As := [_]) (st := _) (c_X8_findSheet_n x w z0.1.1.1 hx) kX8_218 (by first | exact z0.1.1.1.k _ rfl rfl | exact z0.1.1.kb hb) ⟨rfl, rfl, rfl⟩ ⟨(Nat.le_of_ble_eq_true rfl), (Nat.le_of_ble_eq_true rfl)⟩ dX8_copy_2 rfl rfl (Nat.le_of_ble_eq_true rfl) ⟨(Nat.le_of_ble_eq_true rfl), (Nat.le_of_ble_eq_true rfl)⟩ ?_
      refine S_astoreN (L' := [(0, _), (2, _), (3, _), (4, _), (5, _), (6, _)]) dX8_copy_5 rfl rfl ?_
      first | refine V_aload_n dX8_copy_7 rfl rfl ?_ | refine V_aload_nN dX8_copy_7 rfl rfl ?_
      refine V_iload_n dX8_copy_8 rfl rfl ?_
      refine V_callV (As := [_]) (st := _) (c_X8_findSheet_n y w z0.1.1.1 hy) kX8_218 (by first | exact z0.1.1.1.k _ rfl rfl | exact z0.1.1.kb hb) ⟨rfl, rfl, rfl⟩ ⟨(Nat.le_of_ble_eq_true rfl), (Nat.le_of_ble_eq_true rfl)⟩ dX8_copy_9 rfl rfl (Nat.le_of_ble_eq_true rfl) ⟨(Nat.le_of_ble_eq_true rfl), (Nat.le_of_ble_eq_true rfl)⟩ ?_
      refine S_astoreN (L' := [(0, _), (2, _), (4, _), (5, _), (6, _), (7, _)]) dX8_copy_12 rfl rfl ?_
      first | refine V_aload dX8_copy_14 rfl ?_ | refine V_aloadN dX8_copy_14 rfl ?_
      refine V_ifnullN (tgt := 24) dX8_copy_16 (by decide) ?_
      refine V_bipush (v := -2) dX8_copy_24 (by decide) ?_
      refine V_iret rfl dX8_copy_26 (Nat.le_of_ble_eq_true rfl) (Nat.le_of_ble_eq_true rfl) ?_
      exact ⟨_, rfl, by unfold oCopy; rw [if_neg (fun q => hx q.1)], by unfold oCopy; rw [if_neg (fun q => hx q.1)]; exact z0, Keep.refl _ _⟩

set_option maxRecDepth 100000 in
theorem c_X8_write (z : St) (x i : Int32) (w : Wd) (z0 : RX z w) : Cc yX8_write mX8_write [.ref 20, .int x, .int i] w (fun r w' => ∃ v, r = some v ∧ (v = .int (oWrite z x i).1 ∧ RX (oWrite z x i).2 w' ∧ Keep clA w w')) := by
  refine Cc.of (by decide) rfl rfl (Nat.le_of_ble_eq_true rfl) (fun X => ?_)
  change V _ X _ 0 [(0, _), (1, _), (2, _)] [] _ (0, 0)
  by_cases hx : isS x
  · obtain ⟨s, hs, rfl⟩ := isS_n hx
    have hsN : bN (nI s) = s := bN_nI (by omega)
    have loop : ∀ g, (zH z).1 s = some g → wpZ z s i = 0 → bN i + kN (zK z) ≤ (zH z).2.1 s → ∀ (d b : Nat) (w1 : Wd), b + d = kN (zK z) → RX (pH z (wrH (zH z) s (bN i) b (kTrn (zK z))) (zF z)) w1 → Keep clA w w1 → V mX8_write X (mq mX8_write X (fun r w' => ∃ v, r = some v ∧ (v = .int (oWrite z (nI s) i).1 ∧ RX (oWrite z (nI s) i).2 w' ∧ Keep clA w w'))) 42 [(0, .ref 20), (2, .int (nI (bN i))), (3, .ref (60 + s)), (5, .int (nI b))] [] w1 (0, 0) := by
      intro g hg1 hw hi d
      induction d with
      | zero =>
        intro b w1 hd z1 k1
        obtain rfl : b = kN (zK z) := hd
        refine V_iload dX8_write_42 rfl ?_
        first | refine V_aload_n dX8_write_44 rfl rfl ?_ | refine V_aload_nN dX8_write_44 rfl rfl ?_
        first | refine V_getr (by first | exact z1.1.1.1.k _ rfl rfl | exact z1.1.1.1.ks hs | exact z1.1.1.1.ki hs | exact z1.1.1.kb hb) fX8_12 dX8_write_45 (by first | exact z1.1.1.1.r _ _ rfl | exact z1.1.1.rb hb) ?_ | refine V_getrN (by first | exact z1.1.1.1.k _ rfl rfl | exact z1.1.1.1.ks hs | exact z1.1.1.1.ki hs | exact z1.1.1.kb hb) fX8_12 dX8_write_45 (by first | exact z1.1.1.1.r _ _ rfl | exact z1.1.1.rb hb) ?_
        refine G_geti (by first | exact z1.1.1.1.k _ rfl rfl | exact z1.1.1.1.ks hs | exact z1.1.1.1.ki hs | exact z1.1.1.kb hb) fX8_71 dX8_write_48 (by exact z1.1.1.size) ?_
        refine V_icmp_ge (tgt := 81) dX8_write_51 (by decide) (fun c51 => ?_) (fun c51 => False.elim (by exact c51 (nI_le (Nat.le_refl _) (by have := z0.1.1.n10; show kN (zK z) < _; omega))))
        first | refine V_aload_n dX8_write_81 rfl rfl ?_ | refine V_aload_nN dX8_write_81 rfl rfl ?_
        first | refine V_getr (by first | exact z1.1.1.1.k _ rfl rfl | exact z1.1.1.1.ks hs | exact z1.1.1.1.ki hs | exact z1.1.1.kb hb) fX8_12 dX8_write_82 (by first | exact z1.1.1.1.r _ _ rfl | exact z1.1.1.rb hb) ?_ | refine V_getrN (by first | exact z1.1.1.1.k _ rfl rfl | exact z1.1.1.1.ks hs | exact z1.1.1.1.ki hs | exact z1.1.1.kb hb) fX8_12 dX8_write_82 (by first | exact z1.1.1.1.r _ _ rfl | exact z1.1.1.rb hb) ?_
        refine G_geti (by first | exact z1.1.1.1.k _ rfl rfl | exact z1.1.1.1.ks hs | exact z1.1.1.1.ki hs | exact z1.1.1.kb hb) fX8_71 dX8_write_85 (by exact z1.1.1.size) ?_
        refine V_iret rfl dX8_write_88 (Nat.le_of_ble_eq_true rfl) (Nat.le_of_ble_eq_true rfl) ?_
        have e : oWrite z (nI s) i = (nI (kN (zK z)), pH z (wrH (zH z) s (bN i) (kN (zK z)) (kTrn (zK z))) (zF z)) := by
          unfold oWrite
          rw [if_pos hx, hsN, if_pos hw]
        exact ⟨_, rfl, by rw [e]; rfl, by rw [e]; exact z1, k1⟩
      | succ d ih =>
        intro b w1 hd z1 k1
        have hb : b < kN (zK z) := by omega
        refine V_iload dX8_write_42 rfl ?_
        first | refine V_aload_n dX8_write_44 rfl rfl ?_ | refine V_aload_nN dX8_write_44 rfl rfl ?_
        first | refine V_getr (by first | exact z1.1.1.1.k _ rfl rfl | exact z1.1.1.1.ks hs | exact z1.1.1.1.ki hs | exact z1.1.1.kb hb) fX8_12 dX8_write_45 (by first | exact z1.1.1.1.r _ _ rfl | exact z1.1.1.rb hb) ?_ | refine V_getrN (by first | exact z1.1.1.1.k _ rfl rfl | exact z1.1.1.1.ks hs | exact z1.1.1.1.ki hs | exact z1.1.1.kb hb) fX8_12 dX8_write_45 (by first | exact z1.1.1.1.r _ _ rfl | exact z1.1.1.rb hb) ?_
        refine G_geti (by first | exact z1.1.1.1.k _ rfl rfl | exact z1.1.1.1.ks hs | exact z1.1.1.1.ki hs | exact z1.1.1.kb hb) fX8_71 dX8_write_48 (by exact z1.1.1.size) ?_
        refine V_icmp_ge (tgt := 81) dX8_write_51 (by decide) (fun c51 => False.elim (by exact nI_ge (a := b) (b := kN (zK z)) hb (by have := z0.1.1.n10; omega) c51)) (fun c51 => ?_)
        first | refine V_aload_n dX8_write_54 rfl rfl ?_ | refine V_aload_nN dX8_write_54 rfl rfl ?_
        refine V_iload_n dX8_write_55 rfl rfl ?_
        refine V_iload dX8_write_56 rfl ?_
        refine V_iadd dX8_write_58 ?_
        rw [nI_add]
        first | refine V_aload_n dX8_write_59 rfl rfl ?_ | refine V_aload_nN dX8_write_59 rfl rfl ?_
        first | refine V_getr (by first | exact z1.1.1.1.k _ rfl rfl | exact z1.1.1.1.ks hs | exact z1.1.1.1.ki hs | exact z1.1.1.kb hb) fX8_12 dX8_write_60 (by first | exact z1.1.1.1.r _ _ rfl | exact z1.1.1.rb hb) ?_ | refine V_getrN (by first | exact z1.1.1.1.k _ rfl rfl | exact z1.1.1.1.ks hs | exact z1.1.1.1.ki hs | exact z1.1.1.kb hb) fX8_12 dX8_write_60 (by first | exact z1.1.1.1.r _ _ rfl | exact z1.1.1.rb hb) ?_
        first | refine V_getr (by first | exact z1.1.1.1.k _ rfl rfl | exact z1.1.1.1.ks hs | exact z1.1.1.1.ki hs | exact z1.1.1.kb hb) fX8_269 dX8_write_63 (by first | exact z1.1.1.1.r _ _ rfl | exact z1.1.1.rb hb) ?_ | refine V_getrN (by first | exact z1.1.1.1.k _ rfl rfl | exact z1.1.1.1.ks hs | exact z1.1.1.1.ki hs | exact z1.1.1.kb hb) fX8_269 dX8_write_63 (by first | exact z1.1.1.1.r _ _ rfl | exact z1.1.1.rb hb) ?_
        refine V_iload dX8_write_66 rfl ?_
        refine G_aald14 (j := b) (by first | exact z1.1.1.1.k _ rfl rfl | exact z1.1.1.1.ks hs | exact z1.1.1.1.ki hs | exact z1.1.1.kb hb) (by rfl) (by exact Nat.lt_of_lt_of_eq (show b < 10 by have := z0.1.1.n10; omega) (z1.1.1.1.n 26 rfl rfl).symm) (by rw [z1.1.1.1.n 26 rfl rfl]; decide) (by first | exact z1.1.1.1.r _ _ rfl | exact z1.1.1.rb hb) dX8_write_68 ?_
        refine G_geti (by first | exact z1.1.1.1.k _ rfl rfl | exact z1.1.1.1.ks hs | exact z1.1.1.1.ki hs | exact z1.1.1.kb hb) fX8_93 dX8_write_69 (by exact (z1.1.1.bone hb).2.2.2.2.2.2) ?_
        refine V_callVv (As := [_, _]) (st := _) (c_X5_store (wrH (zH z) s (bN i) b (kTrn (zK z))) s g (bN i + b) (nI (kTrn (zK z) b)) w1 z1.2.2.2.2.1 hs hg1 (show bN i + b < (zH z).2.1 s by omega)) kX8_242 (by first | exact z1.1.1.1.k _ rfl rfl | exact z1.1.1.1.ks hs | exact z1.1.1.1.ki hs | exact z1.1.1.kb hb) ⟨rfl, rfl, rfl⟩ ⟨(Nat.le_of_ble_eq_true rfl), (Nat.le_of_ble_eq_true rfl)⟩ dX8_write_72 rfl rfl (Nat.le_of_ble_eq_true rfl) ⟨(Nat.le_of_ble_eq_true rfl), (Nat.le_of_ble_eq_true rfl)⟩ ?_
        rw [cutF_N (z0.1.1.wf hb).2.2.2.2.2.2]
        refine S_iinc (L' := [(0, _), (2, _), (3, _), (5, _)]) dX8_write_75 rfl rfl rfl rfl ?_
        rw [nI_inc]
        refine V_goto (tgt := 42) dX8_write_78 (by decide) ?_
        exact ih (b + 1) _ (by omega) (by rw [← wrH_s]; exact z1.setS (Keep.sI w1 (by unfold siA; omega) _ _) (z1.2.2.2.2.1.store hs)) (k1.trans (Keep.sI w1 (by unfold clA; omega) _ _))
    first | refine V_aload_n dX8_write_0 rfl rfl ?_ | refine V_aload_nN dX8_write_0 rfl rfl ?_
    refine V_iload_n dX8_write_1 rfl rfl ?_
    refine V_callV (As := [_]) (st := _) (c_X8_findSheet_s s w z0.1.1.1 hs) kX8_218 (by first | exact z0.1.1.1.k _ rfl rfl | exact z0.1.1.1.ks hs | exact z0.1.1.1.ki hs | exact z0.1.1.1.ks ht | exact z0.1.1.1.ki ht) ⟨rfl, rfl, rfl⟩ ⟨(Nat.le_of_ble_eq_true rfl), (Nat.le_of_ble_eq_true rfl)⟩ dX8_write_2 rfl rfl (Nat.le_of_ble_eq_true rfl) ⟨(Nat.le_of_ble_eq_true rfl), (Nat.le_of_ble_eq_true rfl)⟩ ?_
    first | refine S_astore_n (L' := [(0, _), (2, _), (3, _)]) dX8_write_5 rfl rfl rfl ?_ | refine S_astore_nN (L' := [(0, _), (2, _), (3, _)]) dX8_write_5 rfl rfl rfl ?_
    first | refine V_aload_n dX8_write_6 rfl rfl ?_ | refine V_aload_nN dX8_write_6 rfl rfl ?_
    refine V_ifnonnull (tgt := 13) dX8_write_7 (by decide) ?_
    first | refine V_aload_n dX8_write_13 rfl rfl ?_ | refine V_aload_nN dX8_write_13 rfl rfl ?_
    refine V_iload_n dX8_write_14 rfl rfl ?_
    first | refine V_aload_n dX8_write_15 rfl rfl ?_ | refine V_aload_nN dX8_write_15 rfl rfl ?_
    first | refine V_getr (by first | exact z0.1.1.1.k _ rfl rfl | exact z0.1.1.1.ks hs | exact z0.1.1.1.ki hs | exact z0.1.1.1.ks ht | exact z0.1.1.1.ki ht) fX8_12 dX8_write_16 (by first | exact z0.1.1.1.r _ _ rfl | exact z0.1.1.1.ri hs | exact z0.1.1.1.ri ht) ?_ | refine V_getrN (by first | exact z0.1.1.1.k _ rfl rfl | exact z0.1.1.1.ks hs | exact z0.1.1.1.ki hs | exact z0.1.1.1.ks ht | exact z0.1.1.1.ki ht) fX8_12 dX8_write_16 (by first | exact z0.1.1.1.r _ _ rfl | exact z0.1.1.1.ri hs | exact z0.1.1.1.ri ht) ?_
    refine G_geti (by first | exact z0.1.1.1.k _ rfl rfl | exact z0.1.1.1.ks hs | exact z0.1.1.1.ki hs | exact z0.1.1.1.ks ht | exact z0.1.1.1.ki ht) fX8_71 dX8_write_19 (by exact z0.1.1.size) ?_
    refine V_callV (As := [_, _]) (st := _) (c_X5_wrongPose (zH z) s i (nI (kN (zK z))) w z0.2.2.2.2.1 hs) kX8_262 (by first | exact z0.1.1.1.k _ rfl rfl | exact z0.1.1.1.ks hs | exact z0.1.1.1.ki hs | exact z0.1.1.1.ks ht | exact z0.1.1.1.ki ht) ⟨rfl, rfl, rfl⟩ ⟨(Nat.le_of_ble_eq_true rfl), (Nat.le_of_ble_eq_true rfl)⟩ dX8_write_22 rfl rfl (Nat.le_of_ble_eq_true rfl) ⟨(Nat.le_of_ble_eq_true rfl), (Nat.le_of_ble_eq_true rfl)⟩ ?_
    refine S_istore (L' := [(0, _), (2, _), (3, _), (4, _)]) dX8_write_25 rfl rfl ?_
    refine V_iload dX8_write_27 rfl ?_
    refine V_if_eq (tgt := 39) dX8_write_29 (by decide) (fun c29 => ?_) (fun c29 => ?_)
    · have hw : wpZ z s i = 0 := (nI_z (Nat.le_trans (wrP_le _ _ _ _) (by decide))).mp c29
      obtain ⟨g, hg1, hi1, hi2, hi3⟩ := wrP_0 hw
      have h10 := z0.1.1.n10
      rw [nI_toInt (show kN (zK z) < 2 ^ 31 by omega)] at hi3
      have h60 := (z0.2.2.2.2.1.2 s hs).1
      have hbi : bN i = i.toInt.toNat := rfl
      refine V_sub (L' := [(0, .ref 20), (2, .int (nI (bN i))), (3, .ref (60 + s))]) (by rw [← i32_nat hi1]; rfl) ?_
      refine V_iconst (v := 0) dX8_write_39 (by decide) ?_
      refine S_istore (L' := [(0, _), (2, _), (3, _), (5, _)]) dX8_write_40 rfl rfl ?_
      exact loop g hg1 hw (by omega) (kN (zK z)) 0 w (by omega) (by rw [wrH_0]; exact z0) (Keep.refl _ _)
    · first | refine V_aload_n dX8_write_32 rfl rfl ?_ | refine V_aload_nN dX8_write_32 rfl rfl ?_
      refine V_iload dX8_write_33 rfl ?_
      refine V_callV (As := [_]) (st := _) (c_X8_found (nI _) w z0.1.1.1) kX8_225 (by first | exact z0.1.1.1.k _ rfl rfl | exact z0.1.1.1.ks hs | exact z0.1.1.1.ki hs | exact z0.1.1.1.ks ht | exact z0.1.1.1.ki ht) ⟨rfl, rfl, rfl⟩ ⟨(Nat.le_of_ble_eq_true rfl), (Nat.le_of_ble_eq_true rfl)⟩ dX8_write_35 rfl rfl (Nat.le_of_ble_eq_true rfl) ⟨(Nat.le_of_ble_eq_true rfl), (Nat.le_of_ble_eq_true rfl)⟩ ?_
      refine V_iret rfl dX8_write_38 (Nat.le_of_ble_eq_true rfl) (Nat.le_of_ble_eq_true rfl) ?_
      have hw : ¬ wpZ z s i = 0 := fun q => c29 (by unfold wpZ at q; rw [q]; rfl)
      have e : oWrite z (nI s) i = fnd z (wpZ z s i) := by
        unfold oWrite
        rw [if_pos hx, hsN, if_neg hw]
      exact ⟨_, rfl, by rw [e]; rfl, by rw [e]; exact z0.fnd (Nat.le_trans (wrP_le _ _ _ _) (by decide)), Keep.sI w (by unfold clA; omega) 5 _⟩
  · first | refine V_aload_n dX8_write_0 rfl rfl ?_ | refine V_aload_nN dX8_write_0 rfl rfl ?_
    refine V_iload_n dX8_write_1 rfl rfl ?_
    refine V_callV (As := [_]) (st := _) (c_X8_findSheet_n x w z0.1.1.1 hx) kX8_218 (by first | exact z0.1.1.1.k _ rfl rfl | exact z0.1.1.kb hb) ⟨rfl, rfl, rfl⟩ ⟨(Nat.le_of_ble_eq_true rfl), (Nat.le_of_ble_eq_true rfl)⟩ dX8_write_2 rfl rfl (Nat.le_of_ble_eq_true rfl) ⟨(Nat.le_of_ble_eq_true rfl), (Nat.le_of_ble_eq_true rfl)⟩ ?_
    first | refine S_astore_n (L' := [(0, _), (2, _), (3, _)]) dX8_write_5 rfl rfl rfl ?_ | refine S_astore_nN (L' := [(0, _), (2, _), (3, _)]) dX8_write_5 rfl rfl rfl ?_
    first | refine V_aload_n dX8_write_6 rfl rfl ?_ | refine V_aload_nN dX8_write_6 rfl rfl ?_
    refine V_ifnonnullN dX8_write_7 ?_
    refine V_bipush (v := -2) dX8_write_10 (by decide) ?_
    refine V_iret rfl dX8_write_12 (Nat.le_of_ble_eq_true rfl) (Nat.le_of_ble_eq_true rfl) ?_
    exact ⟨_, rfl, by unfold oWrite; rw [if_neg hx], by unfold oWrite; rw [if_neg hx]; exact z0, Keep.refl _ _⟩

def oCount (z : St) (x : Int32) : Int32 := if x = 0 then nI (kN (zK z)) else if x = 1 then nI (sumN (zQ z).1 6) else if x = 2 then oI (kLck (zK z)) else if x = 3 then nI (zJ z) else if x = 4 then nI (zN z) else if x = 5 then oI (zW z) else if x = 6 then nI (zF z) else -2
def dgC (z : St) : Nat → Int64
  | 0 => 17
  | n + 1 => 31 * dgC z n + (oCount z (nI n)).toInt64
def oDigest (z : St) : Int64 := dg3 (zQ z) (kN (zK z)) (dgB (zK z) (dgC z 4) (kN (zK z))) 6

set_option maxRecDepth 100000 in
theorem c_X8_count (z : St) (x : Int32) (w : Wd) (z0 : RX z w) : Cc yX8_count mX8_count [.ref 20, .int x] w (fun r w' => r = some (.int (oCount z x)) ∧ w' = w) := by
  refine Cc.of (by decide) rfl rfl (Nat.le_of_ble_eq_true rfl) (fun X => ?_)
  change V _ X _ 0 [(0, _), (1, _)] [] _ (0, 0)
  refine V_iload_n dX8_count_0 rfl rfl ?_
  refine V_topi (fun sw esw => ?_)
  by_cases s0 : sw = 0
  · rw [s0] at esw ⊢
    refine V_tableIn (off := 43) (tgt := 44) dX8_count_1 (by decide) (by decide) (by decide) (by decide) ?_
    first | refine V_aload_n dX8_count_44 rfl rfl ?_ | refine V_aload_nN dX8_count_44 rfl rfl ?_
    first | refine V_getr (by first | exact z0.1.1.1.k _ rfl rfl | exact z0.1.1.kb hb) fX8_12 dX8_count_45 (by exact z0.1.1.1.r _ _ rfl) ?_ | refine V_getrN (by first | exact z0.1.1.1.k _ rfl rfl | exact z0.1.1.kb hb) fX8_12 dX8_count_45 (by exact z0.1.1.1.r _ _ rfl) ?_
    refine G_geti (by first | exact z0.1.1.1.k _ rfl rfl | exact z0.1.1.kb hb) fX8_71 dX8_count_48 (by exact z0.1.1.size) ?_
    refine V_iret rfl dX8_count_51 (Nat.le_of_ble_eq_true rfl) (Nat.le_of_ble_eq_true rfl) ?_
    exact ok2i (by unfold oCount; rw [← esw]; rfl)
  by_cases s1 : sw = 1
  · rw [s1] at esw ⊢
    refine V_tableIn (off := 51) (tgt := 52) dX8_count_1 (by decide) (by decide) (by decide) (by decide) ?_
    first | refine V_aload_n dX8_count_52 rfl rfl ?_ | refine V_aload_nN dX8_count_52 rfl rfl ?_
    first | refine V_getr (by first | exact z0.1.1.1.k _ rfl rfl | exact z0.1.1.kb hb) fX8_19 dX8_count_53 (by exact z0.1.1.1.r _ _ rfl) ?_ | refine V_getrN (by first | exact z0.1.1.1.k _ rfl rfl | exact z0.1.1.kb hb) fX8_19 dX8_count_53 (by exact z0.1.1.1.r _ _ rfl) ?_
    refine V_callV (As := []) (st := _) (c_X2_total (kN (zK z)) (zQ z) w z0.2.1) kX8_67 (by first | exact z0.1.1.1.k _ rfl rfl | exact z0.1.1.kb hb) ⟨rfl, rfl, rfl⟩ ⟨(Nat.le_of_ble_eq_true rfl), (Nat.le_of_ble_eq_true rfl)⟩ dX8_count_56 rfl rfl (Nat.le_of_ble_eq_true rfl) ⟨(Nat.le_of_ble_eq_true rfl), (Nat.le_of_ble_eq_true rfl)⟩ ?_
    refine V_iret rfl dX8_count_59 (Nat.le_of_ble_eq_true rfl) (Nat.le_of_ble_eq_true rfl) ?_
    exact ok2i (by unfold oCount; rw [← esw]; rfl)
  by_cases s2 : sw = 2
  · rw [s2] at esw ⊢
    refine V_tableIn (off := 59) (tgt := 60) dX8_count_1 (by decide) (by decide) (by decide) (by decide) ?_
    first | refine V_aload_n dX8_count_60 rfl rfl ?_ | refine V_aload_nN dX8_count_60 rfl rfl ?_
    first | refine V_getr (by first | exact z0.1.1.1.k _ rfl rfl | exact z0.1.1.kb hb) fX8_12 dX8_count_61 (by exact z0.1.1.1.r _ _ rfl) ?_ | refine V_getrN (by first | exact z0.1.1.1.k _ rfl rfl | exact z0.1.1.kb hb) fX8_12 dX8_count_61 (by exact z0.1.1.1.r _ _ rfl) ?_
    refine G_geti (by first | exact z0.1.1.1.k _ rfl rfl | exact z0.1.1.kb hb) fX8_106 dX8_count_64 (by exact z0.1.1.lck) ?_
    refine V_iret rfl dX8_count_67 (Nat.le_of_ble_eq_true rfl) (Nat.le_of_ble_eq_true rfl) ?_
    exact ok2i (by unfold oCount; rw [← esw]; rfl)
  by_cases s3 : sw = 3
  · rw [s3] at esw ⊢
    refine V_tableIn (off := 67) (tgt := 68) dX8_count_1 (by decide) (by decide) (by decide) (by decide) ?_
    first | refine V_aload_n dX8_count_68 rfl rfl ?_ | refine V_aload_nN dX8_count_68 rfl rfl ?_
    first | refine V_getr (by first | exact z0.1.1.1.k _ rfl rfl | exact z0.1.1.kb hb) fX8_33 dX8_count_69 (by exact z0.1.1.1.r _ _ rfl) ?_ | refine V_getrN (by first | exact z0.1.1.1.k _ rfl rfl | exact z0.1.1.kb hb) fX8_33 dX8_count_69 (by exact z0.1.1.1.r _ _ rfl) ?_
    refine G_geti (by first | exact z0.1.1.1.k _ rfl rfl | exact z0.1.1.kb hb) fX8_198 dX8_count_72 (by exact z0.2.2.2.1.1) ?_
    refine V_iret rfl dX8_count_75 (Nat.le_of_ble_eq_true rfl) (Nat.le_of_ble_eq_true rfl) ?_
    exact ok2i (by unfold oCount; rw [← esw]; rfl)
  by_cases s4 : sw = 4
  · rw [s4] at esw ⊢
    refine V_tableIn (off := 75) (tgt := 76) dX8_count_1 (by decide) (by decide) (by decide) (by decide) ?_
    first | refine V_aload_n dX8_count_76 rfl rfl ?_ | refine V_aload_nN dX8_count_76 rfl rfl ?_
    first | refine V_getr (by first | exact z0.1.1.1.k _ rfl rfl | exact z0.1.1.kb hb) fX8_26 dX8_count_77 (by exact z0.1.1.1.r _ _ rfl) ?_ | refine V_getrN (by first | exact z0.1.1.1.k _ rfl rfl | exact z0.1.1.kb hb) fX8_26 dX8_count_77 (by exact z0.1.1.1.r _ _ rfl) ?_
    refine G_geti (by first | exact z0.1.1.1.k _ rfl rfl | exact z0.1.1.kb hb) fX8_189 dX8_count_80 (by exact z0.2.2.1.1) ?_
    refine V_iret rfl dX8_count_83 (Nat.le_of_ble_eq_true rfl) (Nat.le_of_ble_eq_true rfl) ?_
    exact ok2i (by unfold oCount; rw [← esw]; rfl)
  by_cases s5 : sw = 5
  · rw [s5] at esw ⊢
    refine V_tableIn (off := 83) (tgt := 84) dX8_count_1 (by decide) (by decide) (by decide) (by decide) ?_
    first | refine V_aload_n dX8_count_84 rfl rfl ?_ | refine V_aload_nN dX8_count_84 rfl rfl ?_
    first | refine V_getr (by first | exact z0.1.1.1.k _ rfl rfl | exact z0.1.1.kb hb) fX8_33 dX8_count_85 (by exact z0.1.1.1.r _ _ rfl) ?_ | refine V_getrN (by first | exact z0.1.1.1.k _ rfl rfl | exact z0.1.1.kb hb) fX8_33 dX8_count_85 (by exact z0.1.1.1.r _ _ rfl) ?_
    refine G_geti (by first | exact z0.1.1.1.k _ rfl rfl | exact z0.1.1.kb hb) fX8_209 dX8_count_88 (by exact z0.2.2.2.1.2.2.1) ?_
    refine V_iret rfl dX8_count_91 (Nat.le_of_ble_eq_true rfl) (Nat.le_of_ble_eq_true rfl) ?_
    exact ok2i (by unfold oCount; rw [← esw]; rfl)
  by_cases s6 : sw = 6
  · rw [s6] at esw ⊢
    refine V_tableIn (off := 91) (tgt := 92) dX8_count_1 (by decide) (by decide) (by decide) (by decide) ?_
    first | refine V_aload_n dX8_count_92 rfl rfl ?_ | refine V_aload_nN dX8_count_92 rfl rfl ?_
    refine G_geti (by first | exact z0.1.1.1.k _ rfl rfl | exact z0.1.1.kb hb) fX8_43 dX8_count_93 (by exact z0.2.2.2.2.2.1) ?_
    refine V_iret rfl dX8_count_96 (Nat.le_of_ble_eq_true rfl) (Nat.le_of_ble_eq_true rfl) ?_
    exact ok2i (by unfold oCount; rw [← esw]; rfl)
  refine V_tableOut (tgt := 97) dX8_count_1 (by have g0 := i32_neN 0 (by decide) s0; have g1 := i32_neN 1 (by decide) s1; have g2 := i32_neN 2 (by decide) s2; have g3 := i32_neN 3 (by decide) s3; have g4 := i32_neN 4 (by decide) s4; have g5 := i32_neN 5 (by decide) s5; have g6 := i32_neN 6 (by decide) s6; omega) (by decide) ?_
  refine V_bipush (v := -2) dX8_count_97 (by decide) ?_
  refine V_iret rfl dX8_count_99 (Nat.le_of_ble_eq_true rfl) (Nat.le_of_ble_eq_true rfl) ?_
  exact ok2i (by unfold oCount; rw [if_neg (fun q => s0 (esw.trans q)), if_neg (fun q => s1 (esw.trans q)), if_neg (fun q => s2 (esw.trans q)), if_neg (fun q => s3 (esw.trans q)), if_neg (fun q => s4 (esw.trans q)), if_neg (fun q => s5 (esw.trans q)), if_neg (fun q => s6 (esw.trans q))])

set_option maxRecDepth 100000 in
theorem c_X8_digest (z : St)  (w : Wd) (z0 : RX z w) : Cc yX8_digest mX8_digest [.ref 20] w (fun r w' => r = some (.long (oDigest z)) ∧ w' = w) := by
  refine Cc.of (by decide) rfl rfl (Nat.le_of_ble_eq_true rfl) (fun X => ?_)
  change V _ X _ 0 [(0, _)] [] _ (0, 0)
  have loop : ∀ (d n : Nat), n + d = 4 → V mX8_digest X (mq mX8_digest X (fun r w' => r = some (.long (oDigest z)) ∧ w' = w)) 6 [(0, .ref 20), (1, .long (dgC z n)), (3, .int (nI n))] [] w (0, 0) := by
    intro d
    induction d with
    | zero =>
      intro n hd
      obtain rfl : n = 4 := hd
      refine V_iload_n dX8_digest_6 rfl rfl ?_
      refine V_iconst (v := 3) dX8_digest_7 (by decide) ?_
      refine V_icmp_gt (tgt := 30) dX8_digest_8 (by decide) (fun c8 => ?_) (fun c8 => False.elim (by exact c8 (by decide)))
      first | refine V_aload_n dX8_digest_30 rfl rfl ?_ | refine V_aload_nN dX8_digest_30 rfl rfl ?_
      first | refine V_getr (by first | exact z0.1.1.1.k _ rfl rfl | exact z0.1.1.kb hb) fX8_19 dX8_digest_31 (by exact z0.1.1.1.r _ _ rfl) ?_ | refine V_getrN (by first | exact z0.1.1.1.k _ rfl rfl | exact z0.1.1.kb hb) fX8_19 dX8_digest_31 (by exact z0.1.1.1.r _ _ rfl) ?_
      first | refine V_aload_n dX8_digest_34 rfl rfl ?_ | refine V_aload_nN dX8_digest_34 rfl rfl ?_
      first | refine V_getr (by first | exact z0.1.1.1.k _ rfl rfl | exact z0.1.1.kb hb) fX8_12 dX8_digest_35 (by exact z0.1.1.1.r _ _ rfl) ?_ | refine V_getrN (by first | exact z0.1.1.1.k _ rfl rfl | exact z0.1.1.kb hb) fX8_12 dX8_digest_35 (by exact z0.1.1.1.r _ _ rfl) ?_
      refine V_lload_n dX8_digest_38 rfl rfl ?_
      refine V_callV (As := [_]) (st := _) (c_X6_digestOn (zK z) (dgC z 4) w z0.1) kX8_280 (by first | exact z0.1.1.1.k _ rfl rfl | exact z0.1.1.kb hb) ⟨rfl, rfl, rfl⟩ ⟨(Nat.le_of_ble_eq_true rfl), (Nat.le_of_ble_eq_true rfl)⟩ dX8_digest_39 rfl rfl (Nat.le_of_ble_eq_true rfl) ⟨(Nat.le_of_ble_eq_true rfl), (Nat.le_of_ble_eq_true rfl)⟩ ?_
      refine V_callV (As := [_]) (st := _) (c_X2_digestOn (kN (zK z)) (zQ z) _ w z0.2.1) kX8_284 (by first | exact z0.1.1.1.k _ rfl rfl | exact z0.1.1.kb hb) ⟨rfl, rfl, rfl⟩ ⟨(Nat.le_of_ble_eq_true rfl), (Nat.le_of_ble_eq_true rfl)⟩ dX8_digest_42 rfl rfl (Nat.le_of_ble_eq_true rfl) ⟨(Nat.le_of_ble_eq_true rfl), (Nat.le_of_ble_eq_true rfl)⟩ ?_
      refine V_lret rfl dX8_digest_45 (Nat.le_of_ble_eq_true rfl) (Nat.le_of_ble_eq_true rfl) ?_
      exact ⟨rfl, rfl⟩
    | succ d ih =>
      intro n hd
      have hc : n < 4 := by omega
      refine V_iload_n dX8_digest_6 rfl rfl ?_
      refine V_iconst (v := 3) dX8_digest_7 (by decide) ?_
      refine V_icmp_gt (tgt := 30) dX8_digest_8 (by decide) (fun c8 => False.elim (by exact absurd ((nI_ltI (a := 3) (b := n) (by decide) (by omega)).mp c8) (by omega))) (fun c8 => ?_)
      refine V_ldc2 ctX8_275 dX8_digest_11 ?_
      refine V_lload_n dX8_digest_14 rfl rfl ?_
      refine V_lmul dX8_digest_15 ?_
      first | refine V_aload_n dX8_digest_16 rfl rfl ?_ | refine V_aload_nN dX8_digest_16 rfl rfl ?_
      refine V_iload_n dX8_digest_17 rfl rfl ?_
      refine V_callV (As := [_]) (st := _) (c_X8_count z (nI n) w z0) kX8_277 (by first | exact z0.1.1.1.k _ rfl rfl | exact z0.1.1.kb hb) ⟨rfl, rfl, rfl⟩ ⟨(Nat.le_of_ble_eq_true rfl), (Nat.le_of_ble_eq_true rfl)⟩ dX8_digest_18 rfl rfl (Nat.le_of_ble_eq_true rfl) ⟨(Nat.le_of_ble_eq_true rfl), (Nat.le_of_ble_eq_true rfl)⟩ ?_
      refine V_i2l dX8_digest_21 ?_
      refine V_ladd dX8_digest_22 ?_
      refine S_lstore_n (L' := [(0, _), (1, _), (3, _)]) dX8_digest_23 rfl rfl rfl ?_
      refine S_iinc (L' := [(0, _), (1, _), (3, _)]) dX8_digest_24 rfl rfl rfl rfl ?_
      rw [nI_inc]
      refine V_goto (tgt := 6) dX8_digest_27 (by decide) ?_
      exact ih (n + 1) (by omega)
  refine V_ldc2 ctX8_273 dX8_digest_0 ?_
  refine S_lstore_n (L' := [(0, _), (1, _)]) dX8_digest_3 rfl rfl rfl ?_
  refine V_iconst (v := 0) dX8_digest_4 (by decide) ?_
  refine S_istore_n (L' := [(0, _), (1, _), (3, _)]) dX8_digest_5 rfl rfl rfl ?_
  exact loop 4 0 rfl
