/-! THE REFERENCE: copy, pose, write, digest -/
theorem oI_inj {a b : Option Nat} (ha : ∀ f, a = some f → f ≤ 2) (hb : ∀ f, b = some f → f ≤ 2) (h : oI a = oI b) : a = b := by
  cases a with
  | none =>
    cases b with
    | none => rfl
    | some g => exact absurd h.symm (nI_nm1 (by have := hb g rfl; omega))
  | some f =>
    cases b with
    | none => exact absurd h (nI_nm1 (by have := ha f rfl; omega))
    | some g => rw [(nI_eq (by have := ha f rfl; omega) (by have := hb g rfl; omega)).mp h]
theorem sum_gt {i n : Int32} {z : Nat} (hz : z ≤ 60) : (nI z).toInt64 < i.toInt64 + n.toInt64 ↔ (z : Int) < i.toInt + n.toInt := by
  have h1 := fb_rng i
  have h2 := fb_rng n
  have e : (i.toInt64 + n.toInt64).toInt = i.toInt + n.toInt := by
    rw [fb_addL, Int32.toInt_toInt64, Int32.toInt_toInt64] <;> rw [Int32.toInt_toInt64, Int32.toInt_toInt64] <;> omega
  rw [Int64.lt_iff_toInt_lt, e, Int32.toInt_toInt64, nI_toInt (by omega)]
theorem MSh.copy {h : Sh} {s t i j n : Nat} {w w1 w2 : Wd} (x : MSh h w) (hs : s < 4) (ht : t < 4) (hj : j + n ≤ h.2.1 t) (g1 : Kp (fun a _ => a = 434) noA w w1) (m1 : ∀ b, b < n → wI w1 434 b = h.2.2 s (i + b)) (g2 : Kp (fun a q => a = 433 ∧ 60 * t + j ≤ q ∧ q < 60 * t + j + n) noA w1 w2) (m2 : ∀ b, b < n → wI w2 433 (60 * t + j + b) = h.2.2 s (i + b)) : MSh (cpH h s i t j n) w2 ∧ Kp (shS t) noA w w2 := by
  have h60 := (x t ht).1
  have g : Kp (shS t) noA w w2 := (g1.mono (fun a q z => by unfold shS; omega) (fun _ _ z => z)).trans (g2.mono (fun a q z => by unfold shS; omega) (fun _ _ z => z))
  refine ⟨x.upd g ht (fun u hu => ⟨rfl, rfl, va_up_ne _ _ hu⟩) ?_, g⟩
  obtain ⟨x1, x2, x3, x4⟩ := x t ht
  refine ⟨x1, (g2.I (by omega)).trans ((g1.I (by omega)).trans x2), (g2.I (by omega)).trans ((g1.I (by omega)).trans x3), fun f hf => ⟨(x4 f hf).1, fun a ha => ?_⟩⟩
  show wI w2 433 (60 * t + a) = va_up h.2.2 t (va_cpy (h.2.2 s) (h.2.2 t) i j n) t a
  have ha2 : a < h.2.1 t := ha
  rw [va_up_self]
  by_cases c : j ≤ a ∧ a < j + n
  · rw [pk_cpy_in c.1 c.2, ← m2 (a - j) (by omega), show 60 * t + j + (a - j) = 60 * t + a by omega]
  · rw [pk_cpy_out (by omega), g2.I (by omega), g1.I (by omega)]
    exact (x4 f hf).2 a ha2
theorem sp60b (s i b : Nat) : 60 * nI s + nI i + nI b = nI (60 * s + i + b) := by rw [sp60, nI_add]

set_option maxRecDepth 100000 in
theorem c_X9_copy (z : St) (x i y j n : Int32) (w : Wd) (z0 : RM z w) : Cc yX9_copy mX9_copy [.ref 400, .int x, .int i, .int y, .int j, .int n] w (fun r w' => ∃ v, r = some v ∧ (v = .int (oCopy z x i y j n).1 ∧ RM (oCopy z x i y j n).2 w' ∧ Keep moA w w')) := by
  refine Cc.of (by decide) rfl rfl (Nat.le_of_ble_eq_true rfl) (fun X => ?_)
  change V _ X _ 0 [(0, _), (1, _), (2, _), (3, _), (4, _), (5, _)] [] _ (0, 0)
  have loop2 : ∀ s t, s < 4 → t < 4 → bN (nI s) = s → bN (nI t) = t → oCopy z (nI s) i (nI t) j n = (1, pH z (cpH (zH z) s (bN i) t (bN j) (bN n)) (zF z)) → bN j + bN n ≤ (zH z).2.1 t → ∀ w1, Kp (fun a _ => a = 434) noA w w1 → (∀ b, b < bN n → wI w1 434 b = (zH z).2.2 s (bN i + b)) → ∀ (d b : Nat) (w2 : Wd), b + d = bN n → Kp (fun a q => a = 433 ∧ 60 * t + bN j ≤ q ∧ q < 60 * t + bN j + bN n) noA w1 w2 → (∀ q, q < b → wI w2 433 (60 * t + bN j + q) = (zH z).2.2 s (bN i + q)) → V mX9_copy X (mq mX9_copy X (fun r w' => ∃ v, r = some v ∧ (v = .int (oCopy z (nI s) i (nI t) j n).1 ∧ RM (oCopy z (nI s) i (nI t) j n).2 w' ∧ Keep moA w w'))) 157 [(0, .ref 400), (3, .int (nI t)), (4, .int (nI (bN j))), (5, .int (nI (bN n))), (6, .int (nI b))] [] w2 (0, 0) := by
    intro s t hs ht hsN htN e hjn w1 g1 m1 d
    have h60 := (z0.2.2.2.2.1 t ht).1
    have hl1 : LayM w1 := z0.1.1.kp g1
    induction d with
    | zero =>
      intro b w2 hd g2 m2
      have h2 : LayM w2 := hl1.kp g2
      obtain rfl : b = bN n := hd
      refine V_iload dX9_copy_157 rfl ?_
      refine V_iload dX9_copy_159 rfl ?_
      refine V_icmp_ge (tgt := 192) dX9_copy_161 (by decide) (fun c161 => ?_) (fun c161 => False.elim (by exact c161 (nI_le (Nat.le_refl _) (by omega))))
      refine V_iconst (v := 1) dX9_copy_192 (by decide) ?_
      refine V_iret rfl dX9_copy_193 (Nat.le_of_ble_eq_true rfl) (Nat.le_of_ble_eq_true rfl) ?_
      obtain ⟨r1, r2⟩ := z0.2.2.2.2.1.copy hs ht hjn g1 m1 g2 m2
      exact ⟨_, rfl, by rw [e], by rw [e]; exact z0.setS r2 r1, r2.moS⟩
    | succ d ih =>
      intro b w2 hd g2 m2
      have h2 : LayM w2 := hl1.kp g2
      have hb : b < bN n := by omega
      refine V_iload dX9_copy_157 rfl ?_
      refine V_iload dX9_copy_159 rfl ?_
      refine V_icmp_ge (tgt := 192) dX9_copy_161 (by decide) (fun c161 => False.elim (by exact nI_ge (a := b) (b := bN n) hb (by omega) c161)) (fun c161 => ?_)
      first | refine V_aload_n dX9_copy_164 rfl rfl ?_ | refine V_aload_nN dX9_copy_164 rfl rfl ?_
      first | refine V_getr (by exact h2.k _ rfl rfl) fX9_88 dX9_copy_165 (by exact (h2.r 32 rfl (by decide) : _ = some 433)) ?_ | refine V_getrN (by exact h2.k _ rfl rfl) fX9_88 dX9_copy_165 (by exact (h2.r 32 rfl (by decide) : _ = some 433)) ?_
      refine V_bipush (v := 60) dX9_copy_168 (by decide) ?_
      refine V_iload_n dX9_copy_170 rfl rfl ?_
      refine V_imul dX9_copy_171 ?_
      refine V_iload dX9_copy_172 rfl ?_
      refine V_iadd dX9_copy_174 ?_
      refine V_iload dX9_copy_175 rfl ?_
      refine V_iadd dX9_copy_177 ?_
      rw [sp60b]
      first | refine V_aload_n dX9_copy_178 rfl rfl ?_ | refine V_aload_nN dX9_copy_178 rfl rfl ?_
      first | refine V_getr (by exact h2.k _ rfl rfl) fX9_91 dX9_copy_179 (by exact (h2.r 33 rfl (by decide) : _ = some 434)) ?_ | refine V_getrN (by exact h2.k _ rfl rfl) fX9_91 dX9_copy_179 (by exact (h2.r 33 rfl (by decide) : _ = some 434)) ?_
      refine V_iload dX9_copy_182 rfl ?_
      refine G_iald (j := b) (by exact h2.k _ rfl rfl) (by rfl) (by exact h2.lt 434 (m := 60) rfl rfl (by decide) rfl (by omega)) (by exact h2.nlt 434 rfl rfl (by decide)) dX9_copy_184 (by exact (g2.I (by omega)).trans (m1 b hb)) ?_
      refine G_iast (j := 60 * t + bN j + b) (by exact h2.k _ rfl rfl) (by rfl) (by exact h2.lt 433 (m := 240) rfl rfl (by decide) rfl (by omega)) (by exact h2.nlt 433 rfl rfl (by decide)) dX9_copy_185 ?_
      refine S_iinc (L' := [(0, _), (3, _), (4, _), (5, _), (6, _)]) dX9_copy_186 rfl rfl rfl rfl ?_
      rw [nI_inc]
      refine V_goto (tgt := 157) dX9_copy_189 (by decide) ?_
      refine ih (b + 1) _ (by omega) (g2.trans (Kp.sI w2 (by omega) _)) (fun q hq => ?_)
      by_cases c : q = b
      · rw [c]; exact rdI_eq
      · rw [rdI_ne (by omega)]; exact m2 q (by omega)
  have loop1 : ∀ s t f, s < 4 → t < 4 → bN (nI s) = s → bN (nI t) = t → oCopy z (nI s) i (nI t) j n = (1, pH z (cpH (zH z) s (bN i) t (bN j) (bN n)) (zF z)) → (zH z).1 s = some f → bN i + bN n ≤ (zH z).2.1 s → bN j + bN n ≤ (zH z).2.1 t → ∀ (d b : Nat) (w1 : Wd), b + d = bN n → Kp (fun a _ => a = 434) noA w w1 → (∀ q, q < b → wI w1 434 q = (zH z).2.2 s (bN i + q)) → V mX9_copy X (mq mX9_copy X (fun r w' => ∃ v, r = some v ∧ (v = .int (oCopy z (nI s) i (nI t) j n).1 ∧ RM (oCopy z (nI s) i (nI t) j n).2 w' ∧ Keep moA w w'))) 120 [(0, .ref 400), (1, .int (nI s)), (2, .int (nI (bN i))), (3, .int (nI t)), (4, .int (nI (bN j))), (5, .int (nI (bN n))), (6, .int (nI b))] [] w1 (0, 0) := by
    intro s t f hs ht hsN htN e hf hin hjn d
    have h60 := (z0.2.2.2.2.1 s hs).1
    induction d with
    | zero =>
      intro b w1 hd g1 m1
      have h1 : LayM w1 := z0.1.1.kp g1
      obtain rfl : b = bN n := hd
      refine V_iload dX9_copy_120 rfl ?_
      refine V_iload dX9_copy_122 rfl ?_
      refine V_icmp_ge (tgt := 154) dX9_copy_124 (by decide) (fun c124 => ?_) (fun c124 => False.elim (by exact c124 (nI_le (Nat.le_refl _) (by omega))))
      refine V_iconst (v := 0) dX9_copy_154 (by decide) ?_
      refine S_istore (L' := [(0, _), (3, _), (4, _), (5, _), (6, _)]) dX9_copy_155 rfl rfl ?_
      exact loop2 s t hs ht hsN htN e hjn w1 g1 m1 (bN n) 0 w1 (by omega) (Kp.refl _ _ _) (fun q hq => absurd hq (Nat.not_lt_zero _))
    | succ d ih =>
      intro b w1 hd g1 m1
      have h1 : LayM w1 := z0.1.1.kp g1
      have hb : b < bN n := by omega
      refine V_iload dX9_copy_120 rfl ?_
      refine V_iload dX9_copy_122 rfl ?_
      refine V_icmp_ge (tgt := 154) dX9_copy_124 (by decide) (fun c124 => False.elim (by exact nI_ge (a := b) (b := bN n) hb (by omega) c124)) (fun c124 => ?_)
      first | refine V_aload_n dX9_copy_127 rfl rfl ?_ | refine V_aload_nN dX9_copy_127 rfl rfl ?_
      first | refine V_getr (by exact h1.k _ rfl rfl) fX9_91 dX9_copy_128 (by exact (h1.r 33 rfl (by decide) : _ = some 434)) ?_ | refine V_getrN (by exact h1.k _ rfl rfl) fX9_91 dX9_copy_128 (by exact (h1.r 33 rfl (by decide) : _ = some 434)) ?_
      refine V_iload dX9_copy_131 rfl ?_
      first | refine V_aload_n dX9_copy_133 rfl rfl ?_ | refine V_aload_nN dX9_copy_133 rfl rfl ?_
      first | refine V_getr (by exact h1.k _ rfl rfl) fX9_88 dX9_copy_134 (by exact (h1.r 32 rfl (by decide) : _ = some 433)) ?_ | refine V_getrN (by exact h1.k _ rfl rfl) fX9_88 dX9_copy_134 (by exact (h1.r 32 rfl (by decide) : _ = some 433)) ?_
      refine V_bipush (v := 60) dX9_copy_137 (by decide) ?_
      refine V_iload_n dX9_copy_139 rfl rfl ?_
      refine V_imul dX9_copy_140 ?_
      refine V_iload_n dX9_copy_141 rfl rfl ?_
      refine V_iadd dX9_copy_142 ?_
      refine V_iload dX9_copy_143 rfl ?_
      refine V_iadd dX9_copy_145 ?_
      rw [sp60b]
      refine G_iald (j := 60 * s + bN i + b) (by exact h1.k _ rfl rfl) (by rfl) (by exact h1.lt 433 (m := 240) rfl rfl (by decide) rfl (by omega)) (by exact h1.nlt 433 rfl rfl (by decide)) dX9_copy_146 (by exact (g1.I (by omega)).trans ((show 60 * s + bN i + b = 60 * s + (bN i + b) by omega) ▸ ((z0.2.2.2.2.1 s hs).2.2.2 f hf).2 (bN i + b) (by omega))) ?_
      refine G_iast (j := b) (by exact h1.k _ rfl rfl) (by rfl) (by exact h1.lt 434 (m := 60) rfl rfl (by decide) rfl (by omega)) (by exact h1.nlt 434 rfl rfl (by decide)) dX9_copy_147 ?_
      refine S_iinc (L' := [(0, _), (1, _), (2, _), (3, _), (4, _), (5, _), (6, _)]) dX9_copy_148 rfl rfl rfl rfl ?_
      rw [nI_inc]
      refine V_goto (tgt := 120) dX9_copy_151 (by decide) ?_
      refine ih (b + 1) _ (by omega) (g1.trans (Kp.sI (SI := fun a _ => a = 434) (SJ := noA) w1 (show 434 = 434 from rfl) _)) (fun q hq => ?_)
      by_cases c : q = b
      · rw [c]; exact rdI_eq
      · rw [rdI_ne c]; exact m1 q (by omega)
  by_cases hx : isS x
  · by_cases hy : isS y
    · obtain ⟨s, hs, rfl⟩ := isS_n hx
      have hsN : bN (nI s) = s := bN_nI (by omega)
      obtain ⟨t, ht, rfl⟩ := isS_n hy
      have htN : bN (nI t) = t := bN_nI (by omega)
      refine V_iload_n dX9_copy_0 rfl rfl ?_
      refine V_callS (As := [_]) (st := _) (c_X9_isSheet _ _) kX9_233 ⟨rfl, rfl, rfl⟩ ⟨(Nat.le_of_ble_eq_true rfl), (Nat.le_of_ble_eq_true rfl)⟩ dX9_copy_1 rfl rfl (Nat.le_of_ble_eq_true rfl) ⟨(Nat.le_of_ble_eq_true rfl), (Nat.le_of_ble_eq_true rfl)⟩ ?_
      refine V_if_eq (tgt := 14) dX9_copy_4 (by decide) (fun c4 => False.elim (by exact b01_0 c4 ⟨hx.1, by have := hx.2; omega⟩)) (fun c4 => ?_)
      refine V_iload_n dX9_copy_7 rfl rfl ?_
      refine V_callS (As := [_]) (st := _) (c_X9_isSheet _ _) kX9_233 ⟨rfl, rfl, rfl⟩ ⟨(Nat.le_of_ble_eq_true rfl), (Nat.le_of_ble_eq_true rfl)⟩ dX9_copy_8 rfl rfl (Nat.le_of_ble_eq_true rfl) ⟨(Nat.le_of_ble_eq_true rfl), (Nat.le_of_ble_eq_true rfl)⟩ ?_
      refine V_if_ne (tgt := 17) dX9_copy_11 (by decide) (fun c11 => ?_) (fun c11 => False.elim (by exact b01_0 c11 ⟨hy.1, by have := hy.2; omega⟩))
      first | refine V_aload_n dX9_copy_17 rfl rfl ?_ | refine V_aload_nN dX9_copy_17 rfl rfl ?_
      first | refine V_getr (by exact z0.1.1.k _ rfl rfl) fX9_82 dX9_copy_18 (by exact (z0.1.1.r 30 rfl (by decide) : _ = some 431)) ?_ | refine V_getrN (by exact z0.1.1.k _ rfl rfl) fX9_82 dX9_copy_18 (by exact (z0.1.1.r 30 rfl (by decide) : _ = some 431)) ?_
      refine V_iload_n dX9_copy_21 rfl rfl ?_
      refine G_iald (j := s) (by exact z0.1.1.k _ rfl rfl) (by rfl) (by exact z0.1.1.lt 431 (m := 4) rfl rfl (by decide) rfl (by omega)) (by exact z0.1.1.nlt 431 rfl rfl (by decide)) dX9_copy_22 (by exact (z0.2.2.2.2.1 s hs).2.2.1) ?_
      refine V_if_lt (tgt := 35) dX9_copy_23 (by decide) (fun c23 => ?_) (fun c23 => ?_)
      · first | refine V_aload_n dX9_copy_35 rfl rfl ?_ | refine V_aload_nN dX9_copy_35 rfl rfl ?_
        refine V_iconst (v := 1) dX9_copy_36 (by decide) ?_
        refine V_callV (As := [_]) (st := _) (c_X9_met (nI 1) w z0.1.1) kX9_238 (by exact z0.1.1.k _ rfl rfl) ⟨rfl, rfl, rfl⟩ ⟨(Nat.le_of_ble_eq_true rfl), (Nat.le_of_ble_eq_true rfl)⟩ dX9_copy_37 rfl rfl (Nat.le_of_ble_eq_true rfl) ⟨(Nat.le_of_ble_eq_true rfl), (Nat.le_of_ble_eq_true rfl)⟩ ?_
        refine V_iret rfl dX9_copy_40 (Nat.le_of_ble_eq_true rfl) (Nat.le_of_ble_eq_true rfl) ?_
        have hn : (zH z).1 s = none ∨ (zH z).1 t = none := by first | exact Or.inr ((oI_neg (z0.fo ht)).mp (Int32.not_le.mp c32)) | exact Or.inl ((oI_neg (z0.fo hs)).mp c23)
        have e : oCopy z (nI s) i (nI t) j n = fnd z 1 := by
          unfold oCopy
          rw [if_pos ⟨hx, hy⟩, hsN, htN, if_pos hn]
        exact ⟨_, rfl, by rw [e]; rfl, by rw [e]; exact z0.fnd (by decide), (Kp.sI (SI := shI) (SJ := noA) w (by unfold shI; omega) _).mos⟩
      · first | refine V_aload_n dX9_copy_26 rfl rfl ?_ | refine V_aload_nN dX9_copy_26 rfl rfl ?_
        first | refine V_getr (by exact z0.1.1.k _ rfl rfl) fX9_82 dX9_copy_27 (by exact (z0.1.1.r 30 rfl (by decide) : _ = some 431)) ?_ | refine V_getrN (by exact z0.1.1.k _ rfl rfl) fX9_82 dX9_copy_27 (by exact (z0.1.1.r 30 rfl (by decide) : _ = some 431)) ?_
        refine V_iload_n dX9_copy_30 rfl rfl ?_
        refine G_iald (j := t) (by exact z0.1.1.k _ rfl rfl) (by rfl) (by exact z0.1.1.lt 431 (m := 4) rfl rfl (by decide) rfl (by omega)) (by exact z0.1.1.nlt 431 rfl rfl (by decide)) dX9_copy_31 (by exact (z0.2.2.2.2.1 t ht).2.2.1) ?_
        refine V_if_ge (tgt := 41) dX9_copy_32 (by decide) (fun c32 => ?_) (fun c32 => ?_)
        · have hn : ¬ ((zH z).1 s = none ∨ (zH z).1 t = none) := fun q => q.elim (fun q => c23 ((oI_neg (z0.fo hs)).mpr q)) (fun q => Int32.not_le.mpr ((oI_neg (z0.fo ht)).mpr q) c32)
          first | refine V_aload_n dX9_copy_41 rfl rfl ?_ | refine V_aload_nN dX9_copy_41 rfl rfl ?_
          first | refine V_getr (by exact z0.1.1.k _ rfl rfl) fX9_82 dX9_copy_42 (by exact (z0.1.1.r 30 rfl (by decide) : _ = some 431)) ?_ | refine V_getrN (by exact z0.1.1.k _ rfl rfl) fX9_82 dX9_copy_42 (by exact (z0.1.1.r 30 rfl (by decide) : _ = some 431)) ?_
          refine V_iload_n dX9_copy_45 rfl rfl ?_
          refine G_iald (j := s) (by exact z0.1.1.k _ rfl rfl) (by rfl) (by exact z0.1.1.lt 431 (m := 4) rfl rfl (by decide) rfl (by omega)) (by exact z0.1.1.nlt 431 rfl rfl (by decide)) dX9_copy_46 (by exact (z0.2.2.2.2.1 s hs).2.2.1) ?_
          first | refine V_aload_n dX9_copy_47 rfl rfl ?_ | refine V_aload_nN dX9_copy_47 rfl rfl ?_
          first | refine V_getr (by exact z0.1.1.k _ rfl rfl) fX9_82 dX9_copy_48 (by exact (z0.1.1.r 30 rfl (by decide) : _ = some 431)) ?_ | refine V_getrN (by exact z0.1.1.k _ rfl rfl) fX9_82 dX9_copy_48 (by exact (z0.1.1.r 30 rfl (by decide) : _ = some 431)) ?_
          refine V_iload_n dX9_copy_51 rfl rfl ?_
          refine G_iald (j := t) (by exact z0.1.1.k _ rfl rfl) (by rfl) (by exact z0.1.1.lt 431 (m := 4) rfl rfl (by decide) rfl (by omega)) (by exact z0.1.1.nlt 431 rfl rfl (by decide)) dX9_copy_52 (by exact (z0.2.2.2.2.1 t ht).2.2.1) ?_
          refine V_icmp_eq (tgt := 62) dX9_copy_53 (by decide) (fun c53 => ?_) (fun c53 => ?_)
          · have heq : (zH z).1 s = (zH z).1 t := oI_inj (z0.fo hs) (z0.fo ht) c53
            refine V_iload_n dX9_copy_62 rfl rfl ?_
            refine V_if_lt (tgt := 111) dX9_copy_63 (by decide) (fun c63 => ?_) (fun c63 => ?_)
            · first | refine V_aload_n dX9_copy_111 rfl rfl ?_ | refine V_aload_nN dX9_copy_111 rfl rfl ?_
              refine V_iconst (v := 2) dX9_copy_112 (by decide) ?_
              refine V_callV (As := [_]) (st := _) (c_X9_met (nI 2) w z0.1.1) kX9_238 (by exact z0.1.1.k _ rfl rfl) ⟨rfl, rfl, rfl⟩ ⟨(Nat.le_of_ble_eq_true rfl), (Nat.le_of_ble_eq_true rfl)⟩ dX9_copy_113 rfl rfl (Nat.le_of_ble_eq_true rfl) ⟨(Nat.le_of_ble_eq_true rfl), (Nat.le_of_ble_eq_true rfl)⟩ ?_
              refine V_iret rfl dX9_copy_116 (Nat.le_of_ble_eq_true rfl) (Nat.le_of_ble_eq_true rfl) ?_
              have hsi := (z0.2.2.2.2.1 s hs).1
              have hti := (z0.2.2.2.2.1 t ht).1
              have hno : ¬ (hoZ z s i n ∧ hoZ z t j n) := by
                intro q
                obtain ⟨⟨q1, q2, q3⟩, q4, q5, q6⟩ := q
                first
                  | (have h107 := (sum_gt hti).mp c107; omega)
                  | (have h89 := (sum_gt hsi).mp c89; omega)
                  | (have h73 := (i32_ltz n).mp c73; omega)
                  | (have h68 := (i32_ltz j).mp c68; omega)
                  | (have h63 := (i32_ltz i).mp c63; omega)
              have e : oCopy z (nI s) i (nI t) j n = fnd z 2 := by
                unfold oCopy
                rw [if_pos ⟨hx, hy⟩, hsN, htN, if_neg hn, if_pos heq, if_neg hno]
              exact ⟨_, rfl, by rw [e]; rfl, by rw [e]; exact z0.fnd (by decide), (Kp.sI (SI := shI) (SJ := noA) w (by unfold shI; omega) _).mos⟩
            · refine V_iload dX9_copy_66 rfl ?_
              refine V_if_lt (tgt := 111) dX9_copy_68 (by decide) (fun c68 => ?_) (fun c68 => ?_)
              · first | refine V_aload_n dX9_copy_111 rfl rfl ?_ | refine V_aload_nN dX9_copy_111 rfl rfl ?_
                refine V_iconst (v := 2) dX9_copy_112 (by decide) ?_
                refine V_callV (As := [_]) (st := _) (c_X9_met (nI 2) w z0.1.1) kX9_238 (by exact z0.1.1.k _ rfl rfl) ⟨rfl, rfl, rfl⟩ ⟨(Nat.le_of_ble_eq_true rfl), (Nat.le_of_ble_eq_true rfl)⟩ dX9_copy_113 rfl rfl (Nat.le_of_ble_eq_true rfl) ⟨(Nat.le_of_ble_eq_true rfl), (Nat.le_of_ble_eq_true rfl)⟩ ?_
                refine V_iret rfl dX9_copy_116 (Nat.le_of_ble_eq_true rfl) (Nat.le_of_ble_eq_true rfl) ?_
                have hsi := (z0.2.2.2.2.1 s hs).1
                have hti := (z0.2.2.2.2.1 t ht).1
                have hno : ¬ (hoZ z s i n ∧ hoZ z t j n) := by
                  intro q
                  obtain ⟨⟨q1, q2, q3⟩, q4, q5, q6⟩ := q
                  first
                    | (have h107 := (sum_gt hti).mp c107; omega)
                    | (have h89 := (sum_gt hsi).mp c89; omega)
                    | (have h73 := (i32_ltz n).mp c73; omega)
                    | (have h68 := (i32_ltz j).mp c68; omega)
                    | (have h63 := (i32_ltz i).mp c63; omega)
                have e : oCopy z (nI s) i (nI t) j n = fnd z 2 := by
                  unfold oCopy
                  rw [if_pos ⟨hx, hy⟩, hsN, htN, if_neg hn, if_pos heq, if_neg hno]
                exact ⟨_, rfl, by rw [e]; rfl, by rw [e]; exact z0.fnd (by decide), (Kp.sI (SI := shI) (SJ := noA) w (by unfold shI; omega) _).mos⟩
              · refine V_iload dX9_copy_71 rfl ?_
                refine V_if_lt (tgt := 111) dX9_copy_73 (by decide) (fun c73 => ?_) (fun c73 => ?_)
                · first | refine V_aload_n dX9_copy_111 rfl rfl ?_ | refine V_aload_nN dX9_copy_111 rfl rfl ?_
                  refine V_iconst (v := 2) dX9_copy_112 (by decide) ?_
                  refine V_callV (As := [_]) (st := _) (c_X9_met (nI 2) w z0.1.1) kX9_238 (by exact z0.1.1.k _ rfl rfl) ⟨rfl, rfl, rfl⟩ ⟨(Nat.le_of_ble_eq_true rfl), (Nat.le_of_ble_eq_true rfl)⟩ dX9_copy_113 rfl rfl (Nat.le_of_ble_eq_true rfl) ⟨(Nat.le_of_ble_eq_true rfl), (Nat.le_of_ble_eq_true rfl)⟩ ?_
                  refine V_iret rfl dX9_copy_116 (Nat.le_of_ble_eq_true rfl) (Nat.le_of_ble_eq_true rfl) ?_
                  have hsi := (z0.2.2.2.2.1 s hs).1
                  have hti := (z0.2.2.2.2.1 t ht).1
                  have hno : ¬ (hoZ z s i n ∧ hoZ z t j n) := by
                    intro q
                    obtain ⟨⟨q1, q2, q3⟩, q4, q5, q6⟩ := q
                    first
                      | (have h107 := (sum_gt hti).mp c107; omega)
                      | (have h89 := (sum_gt hsi).mp c89; omega)
                      | (have h73 := (i32_ltz n).mp c73; omega)
                      | (have h68 := (i32_ltz j).mp c68; omega)
                      | (have h63 := (i32_ltz i).mp c63; omega)
                  have e : oCopy z (nI s) i (nI t) j n = fnd z 2 := by
                    unfold oCopy
                    rw [if_pos ⟨hx, hy⟩, hsN, htN, if_neg hn, if_pos heq, if_neg hno]
                  exact ⟨_, rfl, by rw [e]; rfl, by rw [e]; exact z0.fnd (by decide), (Kp.sI (SI := shI) (SJ := noA) w (by unfold shI; omega) _).mos⟩
                · refine V_iload_n dX9_copy_76 rfl rfl ?_
                  refine V_i2l dX9_copy_77 ?_
                  refine V_iload dX9_copy_78 rfl ?_
                  refine V_i2l dX9_copy_80 ?_
                  refine V_ladd dX9_copy_81 ?_
                  first | refine V_aload_n dX9_copy_82 rfl rfl ?_ | refine V_aload_nN dX9_copy_82 rfl rfl ?_
                  first | refine V_getr (by exact z0.1.1.k _ rfl rfl) fX9_85 dX9_copy_83 (by exact (z0.1.1.r 31 rfl (by decide) : _ = some 432)) ?_ | refine V_getrN (by exact z0.1.1.k _ rfl rfl) fX9_85 dX9_copy_83 (by exact (z0.1.1.r 31 rfl (by decide) : _ = some 432)) ?_
                  refine V_iload_n dX9_copy_86 rfl rfl ?_
                  refine G_iald (j := s) (by exact z0.1.1.k _ rfl rfl) (by rfl) (by exact z0.1.1.lt 432 (m := 4) rfl rfl (by decide) rfl (by omega)) (by exact z0.1.1.nlt 432 rfl rfl (by decide)) dX9_copy_87 (by exact (z0.2.2.2.2.1 s hs).2.1) ?_
                  refine V_i2l dX9_copy_88 ?_
                  refine V_lcmp_gt (tgt := 111) dX9_copy_89 dX9_copy_90 (by decide) (fun c89 => ?_) (fun c89 => ?_)
                  · first | refine V_aload_n dX9_copy_111 rfl rfl ?_ | refine V_aload_nN dX9_copy_111 rfl rfl ?_
                    refine V_iconst (v := 2) dX9_copy_112 (by decide) ?_
                    refine V_callV (As := [_]) (st := _) (c_X9_met (nI 2) w z0.1.1) kX9_238 (by exact z0.1.1.k _ rfl rfl) ⟨rfl, rfl, rfl⟩ ⟨(Nat.le_of_ble_eq_true rfl), (Nat.le_of_ble_eq_true rfl)⟩ dX9_copy_113 rfl rfl (Nat.le_of_ble_eq_true rfl) ⟨(Nat.le_of_ble_eq_true rfl), (Nat.le_of_ble_eq_true rfl)⟩ ?_
                    refine V_iret rfl dX9_copy_116 (Nat.le_of_ble_eq_true rfl) (Nat.le_of_ble_eq_true rfl) ?_
                    have hsi := (z0.2.2.2.2.1 s hs).1
                    have hti := (z0.2.2.2.2.1 t ht).1
                    have hno : ¬ (hoZ z s i n ∧ hoZ z t j n) := by
                      intro q
                      obtain ⟨⟨q1, q2, q3⟩, q4, q5, q6⟩ := q
                      first
                        | (have h107 := (sum_gt hti).mp c107; omega)
                        | (have h89 := (sum_gt hsi).mp c89; omega)
                        | (have h73 := (i32_ltz n).mp c73; omega)
                        | (have h68 := (i32_ltz j).mp c68; omega)
                        | (have h63 := (i32_ltz i).mp c63; omega)
                    have e : oCopy z (nI s) i (nI t) j n = fnd z 2 := by
                      unfold oCopy
                      rw [if_pos ⟨hx, hy⟩, hsN, htN, if_neg hn, if_pos heq, if_neg hno]
                    exact ⟨_, rfl, by rw [e]; rfl, by rw [e]; exact z0.fnd (by decide), (Kp.sI (SI := shI) (SJ := noA) w (by unfold shI; omega) _).mos⟩
                  · refine V_iload dX9_copy_93 rfl ?_
                    refine V_i2l dX9_copy_95 ?_
                    refine V_iload dX9_copy_96 rfl ?_
                    refine V_i2l dX9_copy_98 ?_
                    refine V_ladd dX9_copy_99 ?_
                    first | refine V_aload_n dX9_copy_100 rfl rfl ?_ | refine V_aload_nN dX9_copy_100 rfl rfl ?_
                    first | refine V_getr (by exact z0.1.1.k _ rfl rfl) fX9_85 dX9_copy_101 (by exact (z0.1.1.r 31 rfl (by decide) : _ = some 432)) ?_ | refine V_getrN (by exact z0.1.1.k _ rfl rfl) fX9_85 dX9_copy_101 (by exact (z0.1.1.r 31 rfl (by decide) : _ = some 432)) ?_
                    refine V_iload_n dX9_copy_104 rfl rfl ?_
                    refine G_iald (j := t) (by exact z0.1.1.k _ rfl rfl) (by rfl) (by exact z0.1.1.lt 432 (m := 4) rfl rfl (by decide) rfl (by omega)) (by exact z0.1.1.nlt 432 rfl rfl (by decide)) dX9_copy_105 (by exact (z0.2.2.2.2.1 t ht).2.1) ?_
                    refine V_i2l dX9_copy_106 ?_
                    refine V_lcmp_le (tgt := 117) dX9_copy_107 dX9_copy_108 (by decide) (fun c107 => ?_) (fun c107 => ?_)
                    · have hi0 : 0 ≤ i.toInt := by have := c63; rw [i32_ltz] at this; omega
                      have hj0 : 0 ≤ j.toInt := by have := c68; rw [i32_ltz] at this; omega
                      have hn0 : 0 ≤ n.toInt := by have := c73; rw [i32_ltz] at this; omega
                      have hsi := (z0.2.2.2.2.1 s hs).1
                      have hti := (z0.2.2.2.2.1 t ht).1
                      have h89 := c89
                      have h107 := c107
                      rw [sum_gt hsi] at h89
                      rw [sum_gt hti] at h107
                      obtain ⟨f, hf⟩ := Option.ne_none_iff_exists'.mp (fun q => hn (Or.inl q))
                      have e : oCopy z (nI s) i (nI t) j n = (1, pH z (cpH (zH z) s (bN i) t (bN j) (bN n)) (zF z)) := by
                        unfold oCopy
                        rw [if_pos ⟨hx, hy⟩, hsN, htN, if_neg hn, if_pos heq, if_pos ⟨⟨hi0, hn0, by omega⟩, ⟨hj0, hn0, by omega⟩⟩]
                      refine V_sub (L' := [(0, .ref 400), (1, .int (nI s)), (2, .int (nI (bN i))), (3, .int (nI t)), (4, .int (nI (bN j))), (5, .int (nI (bN n)))]) (by rw [← i32_nat hi0, ← i32_nat hj0, ← i32_nat hn0]; rfl) ?_
                      refine V_iconst (v := 0) dX9_copy_117 (by decide) ?_
                      refine S_istore (L' := [(0, _), (1, _), (2, _), (3, _), (4, _), (5, _), (6, _)]) dX9_copy_118 rfl rfl ?_
                      exact loop1 s t f hs ht hsN htN e hf (by unfold bN; omega) (by unfold bN; omega) (bN n) 0 w (by omega) (Kp.refl _ _ _) (fun q hq => absurd hq (Nat.not_lt_zero _))
                    · first | refine V_aload_n dX9_copy_111 rfl rfl ?_ | refine V_aload_nN dX9_copy_111 rfl rfl ?_
                      refine V_iconst (v := 2) dX9_copy_112 (by decide) ?_
                      refine V_callV (As := [_]) (st := _) (c_X9_met (nI 2) w z0.1.1) kX9_238 (by exact z0.1.1.k _ rfl rfl) ⟨rfl, rfl, rfl⟩ ⟨(Nat.le_of_ble_eq_true rfl), (Nat.le_of_ble_eq_true rfl)⟩ dX9_copy_113 rfl rfl (Nat.le_of_ble_eq_true rfl) ⟨(Nat.le_of_ble_eq_true rfl), (Nat.le_of_ble_eq_true rfl)⟩ ?_
                      refine V_iret rfl dX9_copy_116 (Nat.le_of_ble_eq_true rfl) (Nat.le_of_ble_eq_true rfl) ?_
                      have hsi := (z0.2.2.2.2.1 s hs).1
                      have hti := (z0.2.2.2.2.1 t ht).1
                      have hno : ¬ (hoZ z s i n ∧ hoZ z t j n) := by
                        intro q
                        obtain ⟨⟨q1, q2, q3⟩, q4, q5, q6⟩ := q
                        first
                          | (have h107 := (sum_gt hti).mp c107; omega)
                          | (have h89 := (sum_gt hsi).mp c89; omega)
                          | (have h73 := (i32_ltz n).mp c73; omega)
                          | (have h68 := (i32_ltz j).mp c68; omega)
                          | (have h63 := (i32_ltz i).mp c63; omega)
                      have e : oCopy z (nI s) i (nI t) j n = fnd z 2 := by
                        unfold oCopy
                        rw [if_pos ⟨hx, hy⟩, hsN, htN, if_neg hn, if_pos heq, if_neg hno]
                      exact ⟨_, rfl, by rw [e]; rfl, by rw [e]; exact z0.fnd (by decide), (Kp.sI (SI := shI) (SJ := noA) w (by unfold shI; omega) _).mos⟩
          · first | refine V_aload_n dX9_copy_56 rfl rfl ?_ | refine V_aload_nN dX9_copy_56 rfl rfl ?_
            refine V_iconst (v := 4) dX9_copy_57 (by decide) ?_
            refine V_callV (As := [_]) (st := _) (c_X9_met (nI 4) w z0.1.1) kX9_238 (by exact z0.1.1.k _ rfl rfl) ⟨rfl, rfl, rfl⟩ ⟨(Nat.le_of_ble_eq_true rfl), (Nat.le_of_ble_eq_true rfl)⟩ dX9_copy_58 rfl rfl (Nat.le_of_ble_eq_true rfl) ⟨(Nat.le_of_ble_eq_true rfl), (Nat.le_of_ble_eq_true rfl)⟩ ?_
            refine V_iret rfl dX9_copy_61 (Nat.le_of_ble_eq_true rfl) (Nat.le_of_ble_eq_true rfl) ?_
            have hne : ¬ (zH z).1 s = (zH z).1 t := fun q => c53 (by rw [q])
            have e : oCopy z (nI s) i (nI t) j n = fnd z 4 := by
              unfold oCopy
              rw [if_pos ⟨hx, hy⟩, hsN, htN, if_neg hn, if_neg hne]
            exact ⟨_, rfl, by rw [e]; rfl, by rw [e]; exact z0.fnd (by decide), (Kp.sI (SI := shI) (SJ := noA) w (by unfold shI; omega) _).mos⟩
        · first | refine V_aload_n dX9_copy_35 rfl rfl ?_ | refine V_aload_nN dX9_copy_35 rfl rfl ?_
          refine V_iconst (v := 1) dX9_copy_36 (by decide) ?_
          refine V_callV (As := [_]) (st := _) (c_X9_met (nI 1) w z0.1.1) kX9_238 (by exact z0.1.1.k _ rfl rfl) ⟨rfl, rfl, rfl⟩ ⟨(Nat.le_of_ble_eq_true rfl), (Nat.le_of_ble_eq_true rfl)⟩ dX9_copy_37 rfl rfl (Nat.le_of_ble_eq_true rfl) ⟨(Nat.le_of_ble_eq_true rfl), (Nat.le_of_ble_eq_true rfl)⟩ ?_
          refine V_iret rfl dX9_copy_40 (Nat.le_of_ble_eq_true rfl) (Nat.le_of_ble_eq_true rfl) ?_
          have hn : (zH z).1 s = none ∨ (zH z).1 t = none := by first | exact Or.inr ((oI_neg (z0.fo ht)).mp (Int32.not_le.mp c32)) | exact Or.inl ((oI_neg (z0.fo hs)).mp c23)
          have e : oCopy z (nI s) i (nI t) j n = fnd z 1 := by
            unfold oCopy
            rw [if_pos ⟨hx, hy⟩, hsN, htN, if_pos hn]
          exact ⟨_, rfl, by rw [e]; rfl, by rw [e]; exact z0.fnd (by decide), (Kp.sI (SI := shI) (SJ := noA) w (by unfold shI; omega) _).mos⟩
    · refine V_iload_n dX9_copy_0 rfl rfl ?_
      refine V_callS (As := [_]) (st := _) (c_X9_isSheet _ _) kX9_233 ⟨rfl, rfl, rfl⟩ ⟨(Nat.le_of_ble_eq_true rfl), (Nat.le_of_ble_eq_true rfl)⟩ dX9_copy_1 rfl rfl (Nat.le_of_ble_eq_true rfl) ⟨(Nat.le_of_ble_eq_true rfl), (Nat.le_of_ble_eq_true rfl)⟩ ?_
      refine V_if_eq (tgt := 14) dX9_copy_4 (by decide) (fun c4 => False.elim (by exact b01_0 c4 ⟨hx.1, by have := hx.2; omega⟩)) (fun c4 => ?_)
      refine V_iload_n dX9_copy_7 rfl rfl ?_
      refine V_callS (As := [_]) (st := _) (c_X9_isSheet _ _) kX9_233 ⟨rfl, rfl, rfl⟩ ⟨(Nat.le_of_ble_eq_true rfl), (Nat.le_of_ble_eq_true rfl)⟩ dX9_copy_8 rfl rfl (Nat.le_of_ble_eq_true rfl) ⟨(Nat.le_of_ble_eq_true rfl), (Nat.le_of_ble_eq_true rfl)⟩ ?_
      refine V_if_ne (tgt := 17) dX9_copy_11 (by decide) (fun c11 => False.elim (by exact hy ⟨(b01_1 c11).1, by have := (b01_1 c11).2; omega⟩)) (fun c11 => ?_)
      refine V_bipush (v := -2) dX9_copy_14 (by decide) ?_
      refine V_iret rfl dX9_copy_16 (Nat.le_of_ble_eq_true rfl) (Nat.le_of_ble_eq_true rfl) ?_
      exact ⟨_, rfl, by unfold oCopy; rw [if_neg (fun q => hy q.2)], by unfold oCopy; rw [if_neg (fun q => hy q.2)]; exact z0, Keep.refl _ _⟩
  · refine V_iload_n dX9_copy_0 rfl rfl ?_
    refine V_callS (As := [_]) (st := _) (c_X9_isSheet _ _) kX9_233 ⟨rfl, rfl, rfl⟩ ⟨(Nat.le_of_ble_eq_true rfl), (Nat.le_of_ble_eq_true rfl)⟩ dX9_copy_1 rfl rfl (Nat.le_of_ble_eq_true rfl) ⟨(Nat.le_of_ble_eq_true rfl), (Nat.le_of_ble_eq_true rfl)⟩ ?_
    refine V_if_eq (tgt := 14) dX9_copy_4 (by decide) (fun c4 => ?_) (fun c4 => False.elim (by exact hx ⟨(b01_1 c4).1, by have := (b01_1 c4).2; omega⟩))
    refine V_bipush (v := -2) dX9_copy_14 (by decide) ?_
    refine V_iret rfl dX9_copy_16 (Nat.le_of_ble_eq_true rfl) (Nat.le_of_ble_eq_true rfl) ?_
    exact ⟨_, rfl, by unfold oCopy; rw [if_neg (fun q => hx q.1)], by unfold oCopy; rw [if_neg (fun q => hx q.1)]; exact z0, Keep.refl _ _⟩

set_option maxRecDepth 100000 in
theorem c_X9_pose (z : St) (x i : Int32) (w : Wd) (z0 : RM z w) : Cc yX9_pose mX9_pose [.ref 400, .int x, .int i] w (fun r w' => ∃ v, r = some v ∧ (v = .int (oPose z x i).1 ∧ RM (oPose z x i).2 w' ∧ Keep moA w w')) := by
  refine Cc.of (by decide) rfl rfl (Nat.le_of_ble_eq_true rfl) (fun X => ?_)
  change V _ X _ 0 [(0, _), (1, _), (2, _)] [] _ (0, 0)
  by_cases hx : isS x
  · obtain ⟨s, hs, rfl⟩ := isS_n hx
    have hsN : bN (nI s) = s := bN_nI (by omega)
    by_cases hw : wpZ z s i = 0
    · obtain ⟨g, hg1, hi1, hi2, hi3⟩ := wrP_0 hw
      have h10 := z0.1.n10
      rw [nI_toInt (show kN (zK z) < 2 ^ 31 by omega)] at hi3
      have h60 := (z0.2.2.2.2.1 s hs).1
      have hbi : bN i = i.toInt.toNat := rfl
      have loop : ∀ (d b : Nat) (w1 : Wd), b + d = kN (zK z) → PzI (zK z) (inT (zK z) (itZ z s (bN i))) w b w1 → V mX9_pose X (mq mX9_pose X (fun r w' => ∃ v, r = some v ∧ (v = .int (oPose z (nI s) i).1 ∧ RM (oPose z (nI s) i).2 w' ∧ Keep moA w w'))) 23 [(0, .ref 400), (1, .int (nI s)), (2, .int (nI (bN i))), (4, .int (nI (cntF (ouT (zK z) (itZ z s (bN i))) b))), (5, .int (nI b))] [] w1 (0, 0) := by
        intro d
        induction d with
        | zero =>
          intro b w1 hd g1
          obtain rfl : b = kN (zK z) := hd
          refine V_iload dX9_pose_23 rfl ?_
          first | refine V_aload_n dX9_pose_25 rfl rfl ?_ | refine V_aload_nN dX9_pose_25 rfl rfl ?_
          refine G_geti (by exact g1.2.1.1.k _ rfl rfl) fX9_111 dX9_pose_26 (by exact g1.2.1.n) ?_
          refine V_icmp_ge (tgt := 93) dX9_pose_29 (by decide) (fun c29 => ?_) (fun c29 => False.elim (by exact c29 (nI_le (Nat.le_refl _) (by show kN (zK z) < _; omega))))
          first | refine V_aload_n dX9_pose_93 rfl rfl ?_ | refine V_aload_nN dX9_pose_93 rfl rfl ?_
          refine V_callVvr (As := []) (st := _) (c_X9_settle _ (oldX (zK z)) (oldY (zK z)) _ g1.2.1 (fun _ _ => ⟨g1.2.2.1, g1.2.2.2⟩)) kX9_159 (by exact g1.2.1.1.k _ rfl rfl) ⟨rfl, rfl, rfl⟩ ⟨(Nat.le_of_ble_eq_true rfl), (Nat.le_of_ble_eq_true rfl)⟩ dX9_pose_94 rfl rfl (Nat.le_of_ble_eq_true rfl) ⟨(Nat.le_of_ble_eq_true rfl), (Nat.le_of_ble_eq_true rfl)⟩ (fun w2 hw2 => ?_)
          obtain ⟨b1, b2⟩ := hw2
          obtain ⟨r1, r2⟩ := g1.fin z0 b1 b2
          refine V_iload dX9_pose_97 rfl ?_
          refine V_iret rfl dX9_pose_99 (Nat.le_of_ble_eq_true rfl) (Nat.le_of_ble_eq_true rfl) ?_
          have e : oPose z (nI s) i = (nI (cntF (ouT (zK z) (itZ z s (bN i))) (kN (zK z))), pK z (setP (zK z) (mixT (kN (zK z)) (inT (zK z) (itZ z s (bN i))) (kTrn (zK z))))) := by
            unfold oPose
            rw [if_pos hx, hsN, if_pos hw]
          exact ⟨_, rfl, by rw [e], by rw [e]; exact r1, r2⟩
        | succ d ih =>
          intro b w1 hd g1
          have hb : b < kN (zK z) := by omega
          refine V_iload dX9_pose_23 rfl ?_
          first | refine V_aload_n dX9_pose_25 rfl rfl ?_ | refine V_aload_nN dX9_pose_25 rfl rfl ?_
          refine G_geti (by exact g1.2.1.1.k _ rfl rfl) fX9_111 dX9_pose_26 (by exact g1.2.1.n) ?_
          refine V_icmp_ge (tgt := 93) dX9_pose_29 (by decide) (fun c29 => False.elim (by exact nI_ge (a := b) (b := kN (zK z)) hb (by omega) c29)) (fun c29 => ?_)
          first | refine V_aload_n dX9_pose_32 rfl rfl ?_ | refine V_aload_nN dX9_pose_32 rfl rfl ?_
          first | refine V_getr (by exact g1.2.1.1.k _ rfl rfl) fX9_88 dX9_pose_33 (by exact (g1.2.1.1.r 32 rfl (by decide) : _ = some 433)) ?_ | refine V_getrN (by exact g1.2.1.1.k _ rfl rfl) fX9_88 dX9_pose_33 (by exact (g1.2.1.1.r 32 rfl (by decide) : _ = some 433)) ?_
          refine V_bipush (v := 60) dX9_pose_36 (by decide) ?_
          refine V_iload_n dX9_pose_38 rfl rfl ?_
          refine V_imul dX9_pose_39 ?_
          refine V_iload_n dX9_pose_40 rfl rfl ?_
          refine V_iadd dX9_pose_41 ?_
          refine V_iload dX9_pose_42 rfl ?_
          refine V_iadd dX9_pose_44 ?_
          rw [sp60b]
          refine G_iald (j := 60 * s + bN i + b) (by exact g1.2.1.1.k _ rfl rfl) (by rfl) (by exact g1.2.1.1.lt 433 (m := 240) rfl rfl (by decide) rfl (by omega)) (by exact g1.2.1.1.nlt 433 rfl rfl (by decide)) dX9_pose_45 (by exact (g1.1.I (by unfold pzI; omega)).trans ((show 60 * s + bN i + b = 60 * s + (bN i + b) by omega) ▸ ((z0.2.2.2.2.1 s hs).2.2.2 g hg1).2 (bN i + b) (by omega))) ?_
          refine V_callS (As := [_]) (st := _) (c_X9_round _ _) kX9_96 ⟨rfl, rfl, rfl⟩ ⟨(Nat.le_of_ble_eq_true rfl), (Nat.le_of_ble_eq_true rfl)⟩ dX9_pose_46 rfl rfl (Nat.le_of_ble_eq_true rfl) ⟨(Nat.le_of_ble_eq_true rfl), (Nat.le_of_ble_eq_true rfl)⟩ ?_
          refine S_istore (L' := [(0, _), (1, _), (2, _), (4, _), (5, _), (6, _)]) dX9_pose_49 rfl rfl ?_
          refine V_sub (L' := [(0, .ref 400), (1, .int (nI s)), (2, .int (nI (bN i))), (4, .int (nI (cntF (ouT (zK z) (itZ z s (bN i))) b))), (5, .int (nI b)), (6, .int (nI ((itZ z s (bN i)) b)))]) rfl ?_
          refine V_iload dX9_pose_51 rfl ?_
          first | refine V_aload_n dX9_pose_53 rfl rfl ?_ | refine V_aload_nN dX9_pose_53 rfl rfl ?_
          refine V_iload dX9_pose_54 rfl ?_
          refine V_iload dX9_pose_56 rfl ?_
          refine V_callV (As := [_, _]) (st := _) (c_X9_isWithin _ b ((itZ z s (bN i)) b) w1 g1.2.1 hb (rN_lt _)) kX9_100 (by exact g1.2.1.1.k _ rfl rfl) ⟨rfl, rfl, rfl⟩ ⟨(Nat.le_of_ble_eq_true rfl), (Nat.le_of_ble_eq_true rfl)⟩ dX9_pose_58 rfl rfl (Nat.le_of_ble_eq_true rfl) ⟨(Nat.le_of_ble_eq_true rfl), (Nat.le_of_ble_eq_true rfl)⟩ ?_
          refine V_if_eq (tgt := 68) dX9_pose_61 (by decide) (fun c61 => ?_) (fun c61 => ?_)
          · refine V_iconst (v := 1) dX9_pose_68 (by decide) ?_
            refine V_iadd dX9_pose_69 ?_
            refine S_istore (L' := [(0, _), (1, _), (2, _), (4, _), (5, _), (6, _)]) dX9_pose_70 rfl rfl ?_
            first | refine V_aload_n dX9_pose_72 rfl rfl ?_ | refine V_aload_nN dX9_pose_72 rfl rfl ?_
            first | refine V_getr (by exact g1.2.1.1.k _ rfl rfl) fX9_31 dX9_pose_73 (by exact (g1.2.1.1.r 8 rfl (by decide) : _ = some 409)) ?_ | refine V_getrN (by exact g1.2.1.1.k _ rfl rfl) fX9_31 dX9_pose_73 (by exact (g1.2.1.1.r 8 rfl (by decide) : _ = some 409)) ?_
            refine V_iload dX9_pose_76 rfl ?_
            first | refine V_aload_n dX9_pose_78 rfl rfl ?_ | refine V_aload_nN dX9_pose_78 rfl rfl ?_
            refine V_iload dX9_pose_79 rfl ?_
            refine V_iload dX9_pose_81 rfl ?_
            refine V_callV (As := [_, _]) (st := _) (c_X9_intoLimits _ b ((itZ z s (bN i)) b) w1 g1.2.1 hb (rN_lt _)) kX9_187 (by exact g1.2.1.1.k _ rfl rfl) ⟨rfl, rfl, rfl⟩ ⟨(Nat.le_of_ble_eq_true rfl), (Nat.le_of_ble_eq_true rfl)⟩ dX9_pose_83 rfl rfl (Nat.le_of_ble_eq_true rfl) ⟨(Nat.le_of_ble_eq_true rfl), (Nat.le_of_ble_eq_true rfl)⟩ ?_
            refine G_iast (j := b) (by exact g1.2.1.1.k _ rfl rfl) (by rfl) (by exact g1.2.1.1.lt 409 (m := 10) rfl rfl (by decide) rfl (by omega)) (by exact g1.2.1.1.nlt 409 rfl rfl (by decide)) dX9_pose_86 ?_
            refine S_iinc (L' := [(0, _), (1, _), (2, _), (4, _), (5, _)]) dX9_pose_87 rfl rfl rfl rfl ?_
            rw [nI_inc]
            refine V_goto (tgt := 23) dX9_pose_90 (by decide) ?_
            have hu : ∀ i', i' < kN (zK z) → inT (zK z) (itZ z s (bN i)) i' < 36 := fun i' hi' => intoN_lt (z0.1.wf hi').2.2.2.2.1 (rN_lt _)
            have key := ih (b + 1) _ (by omega) (g1.next z0.1 hu rfl)
            first
              | (have hn := b01_0 c61
                 have ec : nI (cntF (ouT (zK z) (itZ z s (bN i))) b) + 1 = nI (cntF (ouT (zK z) (itZ z s (bN i))) (b + 1)) := cnt_y (decide_eq_true hn)
                 rw [ec]
                 exact key)
              | (have hn := b01_1 c61
                 have ec : nI (cntF (ouT (zK z) (itZ z s (bN i))) b) + 0 = nI (cntF (ouT (zK z) (itZ z s (bN i))) (b + 1)) := cnt_n (fun q => (of_decide_eq_true q : ¬ wi (kLow (zK z) b) (kSpr (zK z) b) ((itZ z s (bN i)) b)) hn)
                 rw [ec]
                 exact key)
          · refine V_iconst (v := 0) dX9_pose_64 (by decide) ?_
            refine V_goto (tgt := 69) dX9_pose_65 (by decide) ?_
            refine V_iadd dX9_pose_69 ?_
            refine S_istore (L' := [(0, _), (1, _), (2, _), (4, _), (5, _), (6, _)]) dX9_pose_70 rfl rfl ?_
            first | refine V_aload_n dX9_pose_72 rfl rfl ?_ | refine V_aload_nN dX9_pose_72 rfl rfl ?_
            first | refine V_getr (by exact g1.2.1.1.k _ rfl rfl) fX9_31 dX9_pose_73 (by exact (g1.2.1.1.r 8 rfl (by decide) : _ = some 409)) ?_ | refine V_getrN (by exact g1.2.1.1.k _ rfl rfl) fX9_31 dX9_pose_73 (by exact (g1.2.1.1.r 8 rfl (by decide) : _ = some 409)) ?_
            refine V_iload dX9_pose_76 rfl ?_
            first | refine V_aload_n dX9_pose_78 rfl rfl ?_ | refine V_aload_nN dX9_pose_78 rfl rfl ?_
            refine V_iload dX9_pose_79 rfl ?_
            refine V_iload dX9_pose_81 rfl ?_
            refine V_callV (As := [_, _]) (st := _) (c_X9_intoLimits _ b ((itZ z s (bN i)) b) w1 g1.2.1 hb (rN_lt _)) kX9_187 (by exact g1.2.1.1.k _ rfl rfl) ⟨rfl, rfl, rfl⟩ ⟨(Nat.le_of_ble_eq_true rfl), (Nat.le_of_ble_eq_true rfl)⟩ dX9_pose_83 rfl rfl (Nat.le_of_ble_eq_true rfl) ⟨(Nat.le_of_ble_eq_true rfl), (Nat.le_of_ble_eq_true rfl)⟩ ?_
            refine G_iast (j := b) (by exact g1.2.1.1.k _ rfl rfl) (by rfl) (by exact g1.2.1.1.lt 409 (m := 10) rfl rfl (by decide) rfl (by omega)) (by exact g1.2.1.1.nlt 409 rfl rfl (by decide)) dX9_pose_86 ?_
            refine S_iinc (L' := [(0, _), (1, _), (2, _), (4, _), (5, _)]) dX9_pose_87 rfl rfl rfl rfl ?_
            rw [nI_inc]
            refine V_goto (tgt := 23) dX9_pose_90 (by decide) ?_
            have hu : ∀ i', i' < kN (zK z) → inT (zK z) (itZ z s (bN i)) i' < 36 := fun i' hi' => intoN_lt (z0.1.wf hi').2.2.2.2.1 (rN_lt _)
            have key := ih (b + 1) _ (by omega) (g1.next z0.1 hu rfl)
            first
              | (have hn := b01_0 c61
                 have ec : nI (cntF (ouT (zK z) (itZ z s (bN i))) b) + 1 = nI (cntF (ouT (zK z) (itZ z s (bN i))) (b + 1)) := cnt_y (decide_eq_true hn)
                 rw [ec]
                 exact key)
              | (have hn := b01_1 c61
                 have ec : nI (cntF (ouT (zK z) (itZ z s (bN i))) b) + 0 = nI (cntF (ouT (zK z) (itZ z s (bN i))) (b + 1)) := cnt_n (fun q => (of_decide_eq_true q : ¬ wi (kLow (zK z) b) (kSpr (zK z) b) ((itZ z s (bN i)) b)) hn)
                 rw [ec]
                 exact key)
      first | refine V_aload_n dX9_pose_0 rfl rfl ?_ | refine V_aload_nN dX9_pose_0 rfl rfl ?_
      refine V_iload_n dX9_pose_1 rfl rfl ?_
      refine V_iload_n dX9_pose_2 rfl rfl ?_
      refine V_callV (As := [_, _]) (st := _) (m_row_0 z s i w z0 hs hw) kX9_246 (by exact z0.1.1.k _ rfl rfl) ⟨rfl, rfl, rfl⟩ ⟨(Nat.le_of_ble_eq_true rfl), (Nat.le_of_ble_eq_true rfl)⟩ dX9_pose_3 rfl rfl (Nat.le_of_ble_eq_true rfl) ⟨(Nat.le_of_ble_eq_true rfl), (Nat.le_of_ble_eq_true rfl)⟩ ?_
      refine S_istore_n (L' := [(0, _), (1, _), (2, _), (3, _)]) dX9_pose_6 rfl rfl rfl ?_
      refine V_iload_n dX9_pose_7 rfl rfl ?_
      refine V_if_eq (tgt := 13) dX9_pose_8 (by decide) (fun c8 => ?_) (fun c8 => False.elim (by exact c8 rfl))
      refine V_sub (L' := [(0, .ref 400), (1, .int (nI s)), (2, .int (nI (bN i)))]) (by rw [← i32_nat hi1]; rfl) ?_
      refine V_iconst (v := 0) dX9_pose_13 (by decide) ?_
      refine S_istore (L' := [(0, _), (1, _), (2, _), (4, _)]) dX9_pose_14 rfl rfl ?_
      first | refine V_aload_n dX9_pose_16 rfl rfl ?_ | refine V_aload_nN dX9_pose_16 rfl rfl ?_
      refine V_callVvr (As := []) (st := _) (c_X9_hold (zK z) w z0.1) kX9_156 (by exact z0.1.1.k _ rfl rfl) ⟨rfl, rfl, rfl⟩ ⟨(Nat.le_of_ble_eq_true rfl), (Nat.le_of_ble_eq_true rfl)⟩ dX9_pose_17 rfl rfl (Nat.le_of_ble_eq_true rfl) ⟨(Nat.le_of_ble_eq_true rfl), (Nat.le_of_ble_eq_true rfl)⟩ (fun w1 hw1 => ?_)
      obtain ⟨a1, a2, a3⟩ := hw1
      refine V_iconst (v := 0) dX9_pose_20 (by decide) ?_
      refine S_istore (L' := [(0, _), (1, _), (2, _), (4, _), (5, _)]) dX9_pose_21 rfl rfl ?_
      exact loop (kN (zK z)) 0 w1 (by omega) (PzI.first z0.1 a1 a2 a3)
    · first | refine V_aload_n dX9_pose_0 rfl rfl ?_ | refine V_aload_nN dX9_pose_0 rfl rfl ?_
      refine V_iload_n dX9_pose_1 rfl rfl ?_
      refine V_iload_n dX9_pose_2 rfl rfl ?_
      refine V_callV (As := [_, _]) (st := _) (m_row_n z s i w z0 hs hw) kX9_246 (by exact z0.1.1.k _ rfl rfl) ⟨rfl, rfl, rfl⟩ ⟨(Nat.le_of_ble_eq_true rfl), (Nat.le_of_ble_eq_true rfl)⟩ dX9_pose_3 rfl rfl (Nat.le_of_ble_eq_true rfl) ⟨(Nat.le_of_ble_eq_true rfl), (Nat.le_of_ble_eq_true rfl)⟩ ?_
      refine S_istore_n (L' := [(0, _), (1, _), (2, _), (3, _)]) dX9_pose_6 rfl rfl rfl ?_
      refine V_iload_n dX9_pose_7 rfl rfl ?_
      refine V_if_eq (tgt := 13) dX9_pose_8 (by decide) (fun c8 => False.elim (by exact m10_0 (Nat.le_trans (wrP_le _ _ _ _) (by decide)) c8)) (fun c8 => ?_)
      refine V_iload_n dX9_pose_11 rfl rfl ?_
      refine V_iret rfl dX9_pose_12 (Nat.le_of_ble_eq_true rfl) (Nat.le_of_ble_eq_true rfl) ?_
      have e : oPose z (nI s) i = fnd z (wpZ z s i) := by
        unfold oPose
        rw [if_pos hx, hsN, if_neg hw]
      exact ⟨_, rfl, by rw [e]; rfl, by rw [e]; exact z0.fnd (Nat.le_trans (wrP_le _ _ _ _) (by decide)), (Kp.sI (SI := shI) (SJ := noA) w (by unfold shI; omega) _).mos⟩
  · first | refine V_aload_n dX9_pose_0 rfl rfl ?_ | refine V_aload_nN dX9_pose_0 rfl rfl ?_
    refine V_iload_n dX9_pose_1 rfl rfl ?_
    refine V_iload_n dX9_pose_2 rfl rfl ?_
    refine V_callV (As := [_, _]) (st := _) (m_row_b z x i w z0 hx) kX9_246 (by exact z0.1.1.k _ rfl rfl) ⟨rfl, rfl, rfl⟩ ⟨(Nat.le_of_ble_eq_true rfl), (Nat.le_of_ble_eq_true rfl)⟩ dX9_pose_3 rfl rfl (Nat.le_of_ble_eq_true rfl) ⟨(Nat.le_of_ble_eq_true rfl), (Nat.le_of_ble_eq_true rfl)⟩ ?_
    refine S_istore_n (L' := [(0, _), (1, _), (2, _), (3, _)]) dX9_pose_6 rfl rfl rfl ?_
    refine V_iload_n dX9_pose_7 rfl rfl ?_
    refine V_if_eq (tgt := 13) dX9_pose_8 (by decide) (fun c8 => False.elim (by exact absurd c8 (by decide))) (fun c8 => ?_)
    refine V_iload_n dX9_pose_11 rfl rfl ?_
    refine V_iret rfl dX9_pose_12 (Nat.le_of_ble_eq_true rfl) (Nat.le_of_ble_eq_true rfl) ?_
    exact ⟨_, rfl, by unfold oPose; rw [if_neg hx], by unfold oPose; rw [if_neg hx]; exact z0, Keep.refl _ _⟩

theorem MSh.write {h : Sh} {s i n : Nat} {t : Nat → Nat} {w w1 : Wd} (x : MSh h w) (hs : s < 4) (hi : i + n ≤ h.2.1 s) (g1 : Kp (fun a q => a = 433 ∧ 60 * s + i ≤ q ∧ q < 60 * s + i + n) noA w w1) (m1 : ∀ b, b < n → wI w1 433 (60 * s + i + b) = nI (t b)) : MSh (wrH h s i n t) w1 ∧ Kp (shS s) noA w w1 := by
  have h60 := (x s hs).1
  have g : Kp (shS s) noA w w1 := g1.mono (fun a q z => by unfold shS; omega) (fun _ _ z => z)
  refine ⟨x.upd g hs (fun u hu => ⟨rfl, rfl, va_up_ne _ _ hu⟩) ?_, g⟩
  obtain ⟨x1, x2, x3, x4⟩ := x s hs
  refine ⟨x1, (g1.I (by omega)).trans x2, (g1.I (by omega)).trans x3, fun f hf => ⟨(x4 f hf).1, fun a ha => ?_⟩⟩
  show wI w1 433 (60 * s + a) = va_up h.2.2 s (fun a => if i ≤ a ∧ a < i + n then nI (t (a - i)) else h.2.2 s a) s a
  have ha2 : a < h.2.1 s := ha
  rw [va_up_self]
  by_cases c : i ≤ a ∧ a < i + n
  · rw [if_pos c, ← m1 (a - i) (by omega), show 60 * s + i + (a - i) = 60 * s + a by omega]
  · rw [if_neg c, g1.I (by omega)]
    exact (x4 f hf).2 a ha2

set_option maxRecDepth 100000 in
theorem c_X9_write (z : St) (x i : Int32) (w : Wd) (z0 : RM z w) : Cc yX9_write mX9_write [.ref 400, .int x, .int i] w (fun r w' => ∃ v, r = some v ∧ (v = .int (oWrite z x i).1 ∧ RM (oWrite z x i).2 w' ∧ Keep moA w w')) := by
  refine Cc.of (by decide) rfl rfl (Nat.le_of_ble_eq_true rfl) (fun X => ?_)
  change V _ X _ 0 [(0, _), (1, _), (2, _)] [] _ (0, 0)
  by_cases hx : isS x
  · obtain ⟨s, hs, rfl⟩ := isS_n hx
    have hsN : bN (nI s) = s := bN_nI (by omega)
    by_cases hw : wpZ z s i = 0
    · obtain ⟨g, hg1, hi1, hi2, hi3⟩ := wrP_0 hw
      have h10 := z0.1.n10
      rw [nI_toInt (show kN (zK z) < 2 ^ 31 by omega)] at hi3
      have h60 := (z0.2.2.2.2.1 s hs).1
      have hbi : bN i = i.toInt.toNat := rfl
      have loop : ∀ (d b : Nat) (w1 : Wd), b + d = kN (zK z) → Kp (fun a q => a = 433 ∧ 60 * s + bN i ≤ q ∧ q < 60 * s + bN i + kN (zK z)) noA w w1 → (∀ q, q < b → wI w1 433 (60 * s + bN i + q) = nI (kTrn (zK z) q)) → V mX9_write X (mq mX9_write X (fun r w' => ∃ v, r = some v ∧ (v = .int (oWrite z (nI s) i).1 ∧ RM (oWrite z (nI s) i).2 w' ∧ Keep moA w w'))) 16 [(0, .ref 400), (1, .int (nI s)), (2, .int (nI (bN i))), (4, .int (nI b))] [] w1 (0, 0) := by
        intro d
        induction d with
        | zero =>
          intro b w1 hd g1 m1
          have h1 : MSk (zK z) w1 := z0.1.kp g1 (fun a j q => by unfold msI; omega) (fun _ _ q => q.elim)
          obtain rfl : b = kN (zK z) := hd
          refine V_iload dX9_write_16 rfl ?_
          first | refine V_aload_n dX9_write_18 rfl rfl ?_ | refine V_aload_nN dX9_write_18 rfl rfl ?_
          refine G_geti (by exact h1.1.k _ rfl rfl) fX9_111 dX9_write_19 (by exact h1.n) ?_
          refine V_icmp_ge (tgt := 52) dX9_write_22 (by decide) (fun c22 => ?_) (fun c22 => False.elim (by exact c22 (nI_le (Nat.le_refl _) (by omega))))
          first | refine V_aload_n dX9_write_52 rfl rfl ?_ | refine V_aload_nN dX9_write_52 rfl rfl ?_
          refine G_geti (by exact h1.1.k _ rfl rfl) fX9_111 dX9_write_53 (by exact h1.n) ?_
          refine V_iret rfl dX9_write_56 (Nat.le_of_ble_eq_true rfl) (Nat.le_of_ble_eq_true rfl) ?_
          have e : oWrite z (nI s) i = (nI (kN (zK z)), pH z (wrH (zH z) s (bN i) (kN (zK z)) (kTrn (zK z))) (zF z)) := by
            unfold oWrite
            rw [if_pos hx, hsN, if_pos hw]
          obtain ⟨r1, r2⟩ := z0.2.2.2.2.1.write hs (by omega) g1 m1
          exact ⟨_, rfl, by rw [e], by rw [e]; exact z0.setS r2 r1, r2.moS⟩
        | succ d ih =>
          intro b w1 hd g1 m1
          have h1 : MSk (zK z) w1 := z0.1.kp g1 (fun a j q => by unfold msI; omega) (fun _ _ q => q.elim)
          have hb : b < kN (zK z) := by omega
          refine V_iload dX9_write_16 rfl ?_
          first | refine V_aload_n dX9_write_18 rfl rfl ?_ | refine V_aload_nN dX9_write_18 rfl rfl ?_
          refine G_geti (by exact h1.1.k _ rfl rfl) fX9_111 dX9_write_19 (by exact h1.n) ?_
          refine V_icmp_ge (tgt := 52) dX9_write_22 (by decide) (fun c22 => False.elim (by exact nI_ge (a := b) (b := kN (zK z)) hb (by omega) c22)) (fun c22 => ?_)
          first | refine V_aload_n dX9_write_25 rfl rfl ?_ | refine V_aload_nN dX9_write_25 rfl rfl ?_
          first | refine V_getr (by exact h1.1.k _ rfl rfl) fX9_88 dX9_write_26 (by exact (h1.1.r 32 rfl (by decide) : _ = some 433)) ?_ | refine V_getrN (by exact h1.1.k _ rfl rfl) fX9_88 dX9_write_26 (by exact (h1.1.r 32 rfl (by decide) : _ = some 433)) ?_
          refine V_bipush (v := 60) dX9_write_29 (by decide) ?_
          refine V_iload_n dX9_write_31 rfl rfl ?_
          refine V_imul dX9_write_32 ?_
          refine V_iload_n dX9_write_33 rfl rfl ?_
          refine V_iadd dX9_write_34 ?_
          refine V_iload dX9_write_35 rfl ?_
          refine V_iadd dX9_write_37 ?_
          rw [sp60b]
          first | refine V_aload_n dX9_write_38 rfl rfl ?_ | refine V_aload_nN dX9_write_38 rfl rfl ?_
          first | refine V_getr (by exact h1.1.k _ rfl rfl) fX9_31 dX9_write_39 (by exact (h1.1.r 8 rfl (by decide) : _ = some 409)) ?_ | refine V_getrN (by exact h1.1.k _ rfl rfl) fX9_31 dX9_write_39 (by exact (h1.1.r 8 rfl (by decide) : _ = some 409)) ?_
          refine V_iload dX9_write_42 rfl ?_
          refine G_iald (j := b) (by exact h1.1.k _ rfl rfl) (by rfl) (by exact h1.1.lt 409 (m := 10) rfl rfl (by decide) rfl (by omega)) (by exact h1.1.nlt 409 rfl rfl (by decide)) dX9_write_44 (by exact h1.trn hb) ?_
          refine G_iast (j := 60 * s + bN i + b) (by exact h1.1.k _ rfl rfl) (by rfl) (by exact h1.1.lt 433 (m := 240) rfl rfl (by decide) rfl (by omega)) (by exact h1.1.nlt 433 rfl rfl (by decide)) dX9_write_45 ?_
          refine S_iinc (L' := [(0, _), (1, _), (2, _), (4, _)]) dX9_write_46 rfl rfl rfl rfl ?_
          rw [nI_inc]
          refine V_goto (tgt := 16) dX9_write_49 (by decide) ?_
          refine ih (b + 1) _ (by omega) (g1.trans (Kp.sI w1 (by omega) _)) (fun q hq => ?_)
          by_cases c : q = b
          · rw [c]; exact rdI_eq
          · rw [rdI_ne (by omega)]; exact m1 q (by omega)
      first | refine V_aload_n dX9_write_0 rfl rfl ?_ | refine V_aload_nN dX9_write_0 rfl rfl ?_
      refine V_iload_n dX9_write_1 rfl rfl ?_
      refine V_iload_n dX9_write_2 rfl rfl ?_
      refine V_callV (As := [_, _]) (st := _) (m_row_0 z s i w z0 hs hw) kX9_246 (by exact z0.1.1.k _ rfl rfl) ⟨rfl, rfl, rfl⟩ ⟨(Nat.le_of_ble_eq_true rfl), (Nat.le_of_ble_eq_true rfl)⟩ dX9_write_3 rfl rfl (Nat.le_of_ble_eq_true rfl) ⟨(Nat.le_of_ble_eq_true rfl), (Nat.le_of_ble_eq_true rfl)⟩ ?_
      refine S_istore_n (L' := [(0, _), (1, _), (2, _), (3, _)]) dX9_write_6 rfl rfl rfl ?_
      refine V_iload_n dX9_write_7 rfl rfl ?_
      refine V_if_eq (tgt := 13) dX9_write_8 (by decide) (fun c8 => ?_) (fun c8 => False.elim (by exact c8 rfl))
      refine V_sub (L' := [(0, .ref 400), (1, .int (nI s)), (2, .int (nI (bN i)))]) (by rw [← i32_nat hi1]; rfl) ?_
      refine V_iconst (v := 0) dX9_write_13 (by decide) ?_
      refine S_istore (L' := [(0, _), (1, _), (2, _), (4, _)]) dX9_write_14 rfl rfl ?_
      exact loop (kN (zK z)) 0 w (by omega) (Kp.refl _ _ _) (fun q hq => absurd hq (Nat.not_lt_zero _))
    · first | refine V_aload_n dX9_write_0 rfl rfl ?_ | refine V_aload_nN dX9_write_0 rfl rfl ?_
      refine V_iload_n dX9_write_1 rfl rfl ?_
      refine V_iload_n dX9_write_2 rfl rfl ?_
      refine V_callV (As := [_, _]) (st := _) (m_row_n z s i w z0 hs hw) kX9_246 (by exact z0.1.1.k _ rfl rfl) ⟨rfl, rfl, rfl⟩ ⟨(Nat.le_of_ble_eq_true rfl), (Nat.le_of_ble_eq_true rfl)⟩ dX9_write_3 rfl rfl (Nat.le_of_ble_eq_true rfl) ⟨(Nat.le_of_ble_eq_true rfl), (Nat.le_of_ble_eq_true rfl)⟩ ?_
      refine S_istore_n (L' := [(0, _), (1, _), (2, _), (3, _)]) dX9_write_6 rfl rfl rfl ?_
      refine V_iload_n dX9_write_7 rfl rfl ?_
      refine V_if_eq (tgt := 13) dX9_write_8 (by decide) (fun c8 => False.elim (by exact m10_0 (Nat.le_trans (wrP_le _ _ _ _) (by decide)) c8)) (fun c8 => ?_)
      refine V_iload_n dX9_write_11 rfl rfl ?_
      refine V_iret rfl dX9_write_12 (Nat.le_of_ble_eq_true rfl) (Nat.le_of_ble_eq_true rfl) ?_
      have e : oWrite z (nI s) i = fnd z (wpZ z s i) := by
        unfold oWrite
        rw [if_pos hx, hsN, if_neg hw]
      exact ⟨_, rfl, by rw [e]; rfl, by rw [e]; exact z0.fnd (Nat.le_trans (wrP_le _ _ _ _) (by decide)), (Kp.sI (SI := shI) (SJ := noA) w (by unfold shI; omega) _).mos⟩
  · first | refine V_aload_n dX9_write_0 rfl rfl ?_ | refine V_aload_nN dX9_write_0 rfl rfl ?_
    refine V_iload_n dX9_write_1 rfl rfl ?_
    refine V_iload_n dX9_write_2 rfl rfl ?_
    refine V_callV (As := [_, _]) (st := _) (m_row_b z x i w z0 hx) kX9_246 (by exact z0.1.1.k _ rfl rfl) ⟨rfl, rfl, rfl⟩ ⟨(Nat.le_of_ble_eq_true rfl), (Nat.le_of_ble_eq_true rfl)⟩ dX9_write_3 rfl rfl (Nat.le_of_ble_eq_true rfl) ⟨(Nat.le_of_ble_eq_true rfl), (Nat.le_of_ble_eq_true rfl)⟩ ?_
    refine S_istore_n (L' := [(0, _), (1, _), (2, _), (3, _)]) dX9_write_6 rfl rfl rfl ?_
    refine V_iload_n dX9_write_7 rfl rfl ?_
    refine V_if_eq (tgt := 13) dX9_write_8 (by decide) (fun c8 => False.elim (by exact absurd c8 (by decide))) (fun c8 => ?_)
    refine V_iload_n dX9_write_11 rfl rfl ?_
    refine V_iret rfl dX9_write_12 (Nat.le_of_ble_eq_true rfl) (Nat.le_of_ble_eq_true rfl) ?_
    exact ⟨_, rfl, by unfold oWrite; rw [if_neg hx], by unfold oWrite; rw [if_neg hx]; exact z0, Keep.refl _ _⟩

set_option maxRecDepth 100000 in
theorem c_X9_digest (z : St)  (w : Wd) (z0 : RM z w) : Cc yX9_digest mX9_digest [.ref 400] w (fun r w' => ∃ v, r = some v ∧ (v = .long (oDigest z) ∧ RM z w' ∧ Keep moA w w')) := by
  refine Cc.of (by decide) rfl rfl (Nat.le_of_ble_eq_true rfl) (fun X => ?_)
  change V _ X _ 0 [(0, _)] [] _ (0, 0)
  have lp3 : ∀ w1, RM z w1 → Keep moA w w1 → ∀ (d c : Nat), c + d = 6 → V mX9_digest X (mq mX9_digest X (fun r w' => ∃ v, r = some v ∧ (v = .long (oDigest z) ∧ RM z w' ∧ Keep moA w w'))) 92 [(0, .ref 400), (1, .long (dg3 (zQ z) (kN (zK z)) (dgB (zK z) (dgC z 4) (kN (zK z))) c)), (3, .int (nI c))] [] w1 (0, 0) := by
    intro w1 z1 km d
    induction d with
    | zero =>
      intro c hd
      obtain rfl : c = 6 := hd
      refine V_iload_n dX9_digest_92 rfl rfl ?_
      refine V_bipush (v := 6) dX9_digest_93 (by decide) ?_
      refine V_icmp_ge (tgt := 164) dX9_digest_95 (by decide) (fun c95 => ?_) (fun c95 => False.elim (by exact c95 (by decide)))
      refine V_lload_n dX9_digest_164 rfl rfl ?_
      refine V_lret rfl dX9_digest_165 (Nat.le_of_ble_eq_true rfl) (Nat.le_of_ble_eq_true rfl) ?_
      exact ⟨_, rfl, rfl, z1, km⟩
    | succ d ih =>
      intro c hd
      have hc : c < 6 := by omega
      have h30 := z1.2.1.le hc
      have ih2 := ih (c + 1) (by omega)
      have lp4 : ∀ (e f : Nat), f + e = (zQ z).1 c → V mX9_digest X (mq mX9_digest X (fun r w' => ∃ v, r = some v ∧ (v = .long (oDigest z) ∧ RM z w' ∧ Keep moA w w'))) 101 [(0, .ref 400), (1, .long (dg2 ((zQ z).2 c) (kN (zK z)) (dg3 (zQ z) (kN (zK z)) (dgB (zK z) (dgC z 4) (kN (zK z))) c) f)), (3, .int (nI c)), (4, .int (nI f))] [] w1 (0, 0) := by
        intro e
        induction e with
        | zero =>
          intro f hd
          obtain rfl : f = (zQ z).1 c := hd
          refine V_iload dX9_digest_101 rfl ?_
          first | refine V_aload_n dX9_digest_103 rfl rfl ?_ | refine V_aload_nN dX9_digest_103 rfl rfl ?_
          first | refine V_getr (by exact z1.1.1.k _ rfl rfl) fX9_51 dX9_digest_104 (by exact (z1.1.1.r 18 rfl (by decide) : _ = some 419)) ?_ | refine V_getrN (by exact z1.1.1.k _ rfl rfl) fX9_51 dX9_digest_104 (by exact (z1.1.1.r 18 rfl (by decide) : _ = some 419)) ?_
          refine V_iload_n dX9_digest_107 rfl rfl ?_
          refine G_iald (j := c) (by exact z1.1.1.k _ rfl rfl) (by rfl) (by exact z1.1.1.lt 419 (m := 6) rfl rfl (by decide) rfl (by omega)) (by exact z1.1.1.nlt 419 rfl rfl (by decide)) dX9_digest_108 (by exact z1.2.1.sz hc) ?_
          refine V_icmp_ge (tgt := 158) dX9_digest_109 (by decide) (fun c109 => ?_) (fun c109 => False.elim (by exact c109 (nI_le (Nat.le_refl _) (by omega))))
          refine S_iinc (L' := [(0, _), (1, _), (3, _)]) dX9_digest_158 rfl rfl rfl rfl ?_
          rw [nI_inc]
          refine V_goto (tgt := 92) dX9_digest_161 (by decide) ?_
          exact ih2
        | succ e ih3 =>
          intro f hd
          have hf : f < (zQ z).1 c := by omega
          have ih := ih3 (f + 1) (by omega)
          have lp5 : ∀ (g b : Nat), b + g = kN (zK z) → V mX9_digest X (mq mX9_digest X (fun r w' => ∃ v, r = some v ∧ (v = .long (oDigest z) ∧ RM z w' ∧ Keep moA w w'))) 115 [(0, .ref 400), (1, .long (dg1 ((zQ z).2 c f) (dg2 ((zQ z).2 c) (kN (zK z)) (dg3 (zQ z) (kN (zK z)) (dgB (zK z) (dgC z 4) (kN (zK z))) c) f) b)), (3, .int (nI c)), (4, .int (nI f)), (5, .int (nI b))] [] w1 (0, 0) := by
            intro g
            induction g with
            | zero =>
              intro b hd
              obtain rfl : b = kN (zK z) := hd
              refine V_iload dX9_digest_115 rfl ?_
              first | refine V_aload_n dX9_digest_117 rfl rfl ?_ | refine V_aload_nN dX9_digest_117 rfl rfl ?_
              refine G_geti (by exact z1.1.1.k _ rfl rfl) fX9_111 dX9_digest_118 (by exact z1.1.n) ?_
              refine V_icmp_ge (tgt := 152) dX9_digest_121 (by decide) (fun c121 => ?_) (fun c121 => False.elim (by exact c121 (nI_le (Nat.le_refl _) (by have := z1.1.n10; omega))))
              refine S_iinc (L' := [(0, _), (1, _), (3, _), (4, _)]) dX9_digest_152 rfl rfl rfl rfl ?_
              rw [nI_inc]
              refine V_goto (tgt := 101) dX9_digest_155 (by decide) ?_
              exact ih
            | succ g ih5 =>
              intro b hd
              have hb : b < kN (zK z) := by omega
              refine V_iload dX9_digest_115 rfl ?_
              first | refine V_aload_n dX9_digest_117 rfl rfl ?_ | refine V_aload_nN dX9_digest_117 rfl rfl ?_
              refine G_geti (by exact z1.1.1.k _ rfl rfl) fX9_111 dX9_digest_118 (by exact z1.1.n) ?_
              refine V_icmp_ge (tgt := 152) dX9_digest_121 (by decide) (fun c121 => False.elim (by exact nI_ge (a := b) (b := kN (zK z)) hb (by have := z1.1.n10; omega) c121)) (fun c121 => ?_)
              refine V_ldc2 ctX9_251 dX9_digest_124 ?_
              refine V_lload_n dX9_digest_127 rfl rfl ?_
              refine V_lmul dX9_digest_128 ?_
              first | refine V_aload_n dX9_digest_129 rfl rfl ?_ | refine V_aload_nN dX9_digest_129 rfl rfl ?_
              first | refine V_getr (by exact z1.1.1.k _ rfl rfl) fX9_54 dX9_digest_130 (by exact (z1.1.1.r 19 rfl (by decide) : _ = some 420)) ?_ | refine V_getrN (by exact z1.1.1.k _ rfl rfl) fX9_54 dX9_digest_130 (by exact (z1.1.1.r 19 rfl (by decide) : _ = some 420)) ?_
              refine V_iload_n dX9_digest_133 rfl rfl ?_
              refine V_iload dX9_digest_134 rfl ?_
              refine V_callS (As := [_, _]) (st := _) (c_X9_spot _ _ _) kX9_181 ⟨rfl, rfl, rfl⟩ ⟨(Nat.le_of_ble_eq_true rfl), (Nat.le_of_ble_eq_true rfl)⟩ dX9_digest_136 rfl rfl (Nat.le_of_ble_eq_true rfl) ⟨(Nat.le_of_ble_eq_true rfl), (Nat.le_of_ble_eq_true rfl)⟩ ?_
              rw [spot_N]
              refine V_iload dX9_digest_139 rfl ?_
              refine V_iadd dX9_digest_141 ?_
              rw [nI_add]
              refine G_iald (j := 300 * c + 10 * f + b) (by exact z1.1.1.k _ rfl rfl) (by rfl) (by exact z1.1.1.lt 420 (m := 1800) rfl rfl (by decide) rfl (by have := z1.1.n10; have := z1.2.1.le hc; omega)) (by exact z1.1.1.nlt 420 rfl rfl (by decide)) dX9_digest_142 (by exact (z1.2.1.fr hc hf hb).1) ?_
              refine V_i2l dX9_digest_143 ?_
              refine V_ladd dX9_digest_144 ?_
              refine S_lstore_n (L' := [(0, _), (1, _), (3, _), (4, _), (5, _)]) dX9_digest_145 rfl rfl rfl ?_
              refine S_iinc (L' := [(0, _), (1, _), (3, _), (4, _), (5, _)]) dX9_digest_146 rfl rfl rfl rfl ?_
              rw [nI_inc]
              refine V_goto (tgt := 115) dX9_digest_149 (by decide) ?_
              exact ih5 (b + 1) (by omega)
          refine V_iload dX9_digest_101 rfl ?_
          first | refine V_aload_n dX9_digest_103 rfl rfl ?_ | refine V_aload_nN dX9_digest_103 rfl rfl ?_
          first | refine V_getr (by exact z1.1.1.k _ rfl rfl) fX9_51 dX9_digest_104 (by exact (z1.1.1.r 18 rfl (by decide) : _ = some 419)) ?_ | refine V_getrN (by exact z1.1.1.k _ rfl rfl) fX9_51 dX9_digest_104 (by exact (z1.1.1.r 18 rfl (by decide) : _ = some 419)) ?_
          refine V_iload_n dX9_digest_107 rfl rfl ?_
          refine G_iald (j := c) (by exact z1.1.1.k _ rfl rfl) (by rfl) (by exact z1.1.1.lt 419 (m := 6) rfl rfl (by decide) rfl (by omega)) (by exact z1.1.1.nlt 419 rfl rfl (by decide)) dX9_digest_108 (by exact z1.2.1.sz hc) ?_
          refine V_icmp_ge (tgt := 158) dX9_digest_109 (by decide) (fun c109 => False.elim (by exact nI_ge (a := f) (b := (zQ z).1 c) hf (by omega) c109)) (fun c109 => ?_)
          refine V_iconst (v := 0) dX9_digest_112 (by decide) ?_
          refine S_istore (L' := [(0, _), (1, _), (3, _), (4, _), (5, _)]) dX9_digest_113 rfl rfl ?_
          exact lp5 (kN (zK z)) 0 (by omega)
      refine V_iload_n dX9_digest_92 rfl rfl ?_
      refine V_bipush (v := 6) dX9_digest_93 (by decide) ?_
      refine V_icmp_ge (tgt := 164) dX9_digest_95 (by decide) (fun c95 => False.elim (by exact nI_ge (a := c) (b := 6) hc (by decide) c95)) (fun c95 => ?_)
      refine V_iconst (v := 0) dX9_digest_98 (by decide) ?_
      refine S_istore (L' := [(0, _), (1, _), (3, _), (4, _)]) dX9_digest_99 rfl rfl ?_
      exact lp4 ((zQ z).1 c) 0 (by omega)
  have lp2 : ∀ w1, RM z w1 → MPos (zK z) (kN (zK z)) w1 → Keep moA w w1 → ∀ (d b : Nat), b + d = kN (zK z) → V mX9_digest X (mq mX9_digest X (fun r w' => ∃ v, r = some v ∧ (v = .long (oDigest z) ∧ RM z w' ∧ Keep moA w w'))) 36 [(0, .ref 400), (1, .long (dgB (zK z) (dgC z 4) b)), (3, .int (nI b))] [] w1 (0, 0) := by
    intro w1 z1 a2 km d
    induction d with
    | zero =>
      intro b hd
      obtain rfl : b = kN (zK z) := hd
      refine V_iload_n dX9_digest_36 rfl rfl ?_
      first | refine V_aload_n dX9_digest_37 rfl rfl ?_ | refine V_aload_nN dX9_digest_37 rfl rfl ?_
      refine G_geti (by exact z1.1.1.k _ rfl rfl) fX9_111 dX9_digest_38 (by exact z1.1.n) ?_
      refine V_icmp_ge (tgt := 90) dX9_digest_41 (by decide) (fun c41 => ?_) (fun c41 => False.elim (by exact c41 (nI_le (Nat.le_refl _) (by have := z1.1.n10; omega))))
      refine V_iconst (v := 0) dX9_digest_90 (by decide) ?_
      refine S_istore_n (L' := [(0, _), (1, _), (3, _)]) dX9_digest_91 rfl rfl rfl ?_
      exact lp3 w1 z1 km 6 0 rfl
    | succ d ih =>
      intro b hd
      have hb : b < kN (zK z) := by omega
      refine V_iload_n dX9_digest_36 rfl rfl ?_
      first | refine V_aload_n dX9_digest_37 rfl rfl ?_ | refine V_aload_nN dX9_digest_37 rfl rfl ?_
      refine G_geti (by exact z1.1.1.k _ rfl rfl) fX9_111 dX9_digest_38 (by exact z1.1.n) ?_
      refine V_icmp_ge (tgt := 90) dX9_digest_41 (by decide) (fun c41 => False.elim (by exact nI_ge (a := b) (b := kN (zK z)) hb (by have := z1.1.n10; omega) c41)) (fun c41 => ?_)
      refine V_ldc2 ctX9_251 dX9_digest_44 ?_
      refine V_lload_n dX9_digest_47 rfl rfl ?_
      refine V_lmul dX9_digest_48 ?_
      first | refine V_aload_n dX9_digest_49 rfl rfl ?_ | refine V_aload_nN dX9_digest_49 rfl rfl ?_
      first | refine V_getr (by exact z1.1.1.k _ rfl rfl) fX9_31 dX9_digest_50 (by exact (z1.1.1.r 8 rfl (by decide) : _ = some 409)) ?_ | refine V_getrN (by exact z1.1.1.k _ rfl rfl) fX9_31 dX9_digest_50 (by exact (z1.1.1.r 8 rfl (by decide) : _ = some 409)) ?_
      refine V_iload_n dX9_digest_53 rfl rfl ?_
      refine G_iald (j := b) (by exact z1.1.1.k _ rfl rfl) (by rfl) (by exact z1.1.1.lt 409 (m := 10) rfl rfl (by decide) rfl (by have := z1.1.n10; omega)) (by exact z1.1.1.nlt 409 rfl rfl (by decide)) dX9_digest_54 (by exact z1.1.trn hb) ?_
      refine V_i2l dX9_digest_55 ?_
      refine V_ladd dX9_digest_56 ?_
      refine S_lstore_n (L' := [(0, _), (1, _), (3, _)]) dX9_digest_57 rfl rfl rfl ?_
      refine V_ldc2 ctX9_251 dX9_digest_58 ?_
      refine V_lload_n dX9_digest_61 rfl rfl ?_
      refine V_lmul dX9_digest_62 ?_
      first | refine V_aload_n dX9_digest_63 rfl rfl ?_ | refine V_aload_nN dX9_digest_63 rfl rfl ?_
      first | refine V_getr (by exact z1.1.1.k _ rfl rfl) fX9_45 dX9_digest_64 (by exact (z1.1.1.r 14 rfl (by decide) : _ = some 415)) ?_ | refine V_getrN (by exact z1.1.1.k _ rfl rfl) fX9_45 dX9_digest_64 (by exact (z1.1.1.r 14 rfl (by decide) : _ = some 415)) ?_
      refine V_iload_n dX9_digest_67 rfl rfl ?_
      refine G_lald (j := b) (by exact z1.1.1.k _ rfl rfl) (by rfl) (by exact z1.1.1.lt 415 (m := 10) rfl rfl (by decide) rfl (by have := z1.1.n10; omega)) (by exact z1.1.1.nlt 415 rfl rfl (by decide)) dX9_digest_68 (by exact (a2 b hb).2.2.1) ?_
      refine V_ladd dX9_digest_69 ?_
      refine S_lstore_n (L' := [(0, _), (1, _), (3, _)]) dX9_digest_70 rfl rfl rfl ?_
      refine V_ldc2 ctX9_251 dX9_digest_71 ?_
      refine V_lload_n dX9_digest_74 rfl rfl ?_
      refine V_lmul dX9_digest_75 ?_
      first | refine V_aload_n dX9_digest_76 rfl rfl ?_ | refine V_aload_nN dX9_digest_76 rfl rfl ?_
      first | refine V_getr (by exact z1.1.1.k _ rfl rfl) fX9_48 dX9_digest_77 (by exact (z1.1.1.r 15 rfl (by decide) : _ = some 416)) ?_ | refine V_getrN (by exact z1.1.1.k _ rfl rfl) fX9_48 dX9_digest_77 (by exact (z1.1.1.r 15 rfl (by decide) : _ = some 416)) ?_
      refine V_iload_n dX9_digest_80 rfl rfl ?_
      refine G_lald (j := b) (by exact z1.1.1.k _ rfl rfl) (by rfl) (by exact z1.1.1.lt 416 (m := 10) rfl rfl (by decide) rfl (by have := z1.1.n10; omega)) (by exact z1.1.1.nlt 416 rfl rfl (by decide)) dX9_digest_81 (by exact (a2 b hb).2.2.2) ?_
      refine V_ladd dX9_digest_82 ?_
      refine S_lstore_n (L' := [(0, _), (1, _), (3, _)]) dX9_digest_83 rfl rfl rfl ?_
      refine S_iinc (L' := [(0, _), (1, _), (3, _)]) dX9_digest_84 rfl rfl rfl rfl ?_
      rw [nI_inc]
      refine V_goto (tgt := 36) dX9_digest_87 (by decide) ?_
      exact ih (b + 1) (by omega)
  have lp1 : ∀ w1, RM z w1 → MPos (zK z) (kN (zK z)) w1 → Keep moA w w1 → ∀ (d n : Nat), n + d = 4 → V mX9_digest X (mq mX9_digest X (fun r w' => ∃ v, r = some v ∧ (v = .long (oDigest z) ∧ RM z w' ∧ Keep moA w w'))) 10 [(0, .ref 400), (1, .long (dgC z n)), (3, .int (nI n))] [] w1 (0, 0) := by
    intro w1 z1 a2 km d
    induction d with
    | zero =>
      intro n hd
      obtain rfl : n = 4 := hd
      refine V_iload_n dX9_digest_10 rfl rfl ?_
      refine V_iconst (v := 4) dX9_digest_11 (by decide) ?_
      refine V_icmp_ge (tgt := 34) dX9_digest_12 (by decide) (fun c12 => ?_) (fun c12 => False.elim (by exact c12 (by decide)))
      refine V_iconst (v := 0) dX9_digest_34 (by decide) ?_
      refine S_istore_n (L' := [(0, _), (1, _), (3, _)]) dX9_digest_35 rfl rfl rfl ?_
      exact lp2 w1 z1 a2 km (kN (zK z)) 0 (by omega)
    | succ d ih =>
      intro n hd
      refine V_iload_n dX9_digest_10 rfl rfl ?_
      refine V_iconst (v := 4) dX9_digest_11 (by decide) ?_
      refine V_icmp_ge (tgt := 34) dX9_digest_12 (by decide) (fun c12 => False.elim (by exact nI_ge (a := n) (b := 4) (by omega) (by decide) c12)) (fun c12 => ?_)
      refine V_ldc2 ctX9_251 dX9_digest_15 ?_
      refine V_lload_n dX9_digest_18 rfl rfl ?_
      refine V_lmul dX9_digest_19 ?_
      first | refine V_aload_n dX9_digest_20 rfl rfl ?_ | refine V_aload_nN dX9_digest_20 rfl rfl ?_
      refine V_iload_n dX9_digest_21 rfl rfl ?_
      refine V_callV (As := [_]) (st := _) (c_X9_count z (nI n) w1 z1) kX9_253 (by exact z1.1.1.k _ rfl rfl) ⟨rfl, rfl, rfl⟩ ⟨(Nat.le_of_ble_eq_true rfl), (Nat.le_of_ble_eq_true rfl)⟩ dX9_digest_22 rfl rfl (Nat.le_of_ble_eq_true rfl) ⟨(Nat.le_of_ble_eq_true rfl), (Nat.le_of_ble_eq_true rfl)⟩ ?_
      refine V_i2l dX9_digest_25 ?_
      refine V_ladd dX9_digest_26 ?_
      refine S_lstore_n (L' := [(0, _), (1, _), (3, _)]) dX9_digest_27 rfl rfl rfl ?_
      refine S_iinc (L' := [(0, _), (1, _), (3, _)]) dX9_digest_28 rfl rfl rfl rfl ?_
      rw [nI_inc]
      refine V_goto (tgt := 10) dX9_digest_31 (by decide) ?_
      exact ih (n + 1) (by omega)
  first | refine V_aload_n dX9_digest_0 rfl rfl ?_ | refine V_aload_nN dX9_digest_0 rfl rfl ?_
  refine V_callVvr (As := []) (st := _) (c_X9_place (zK z) w z0.1) kX9_147 (by exact z0.1.1.k _ rfl rfl) ⟨rfl, rfl, rfl⟩ ⟨(Nat.le_of_ble_eq_true rfl), (Nat.le_of_ble_eq_true rfl)⟩ dX9_digest_1 rfl rfl (Nat.le_of_ble_eq_true rfl) ⟨(Nat.le_of_ble_eq_true rfl), (Nat.le_of_ble_eq_true rfl)⟩ (fun w1 hw1 => ?_)
  obtain ⟨a1, a2⟩ := hw1
  have z1 : RM z w1 := z0.kp a1
  refine V_ldc2 ctX9_249 dX9_digest_4 ?_
  refine S_lstore_n (L' := [(0, _), (1, _)]) dX9_digest_7 rfl rfl rfl ?_
  refine V_iconst (v := 0) dX9_digest_8 (by decide) ?_
  refine S_istore_n (L' := [(0, _), (1, _), (3, _)]) dX9_digest_9 rfl rfl rfl ?_
  exact lp1 w1 z1 a2 a1.mo0 4 0 rfl
