/-! THE REFERENCE: pack, thin -/
theorem RM.setY {z : St} {w w' : Wd} {n : Nat} {y : Nat → Nat} (h : RM z w) (g : Kp kyI noA w w') (hy : MKy n y w') : RM (pY z n y) w' :=
  ⟨h.1.kp g (fun a j z => by unfold kyI at z; unfold msI; omega) (fun _ _ z => z.elim), h.2.1.kp g (fun a j z => by unfold kyI at z; omega), hy, h.2.2.2.1.kp g (fun a j z => by unfold kyI at z; omega), h.2.2.2.2.1.kp g (fun a j z => by unfold kyI at z; omega), (g.I (by unfold kyI; omega)).trans h.2.2.2.2.2.1, h.2.2.2.2.2.2⟩
theorem Kp.moy {w w' : Wd} (g : Kp kyI noA w w') : Keep moA w w' := g.keep (fun a j q => by unfold kyI at q; unfold moA; omega) (fun _ _ q => q.elim)

set_option maxRecDepth 100000 in
theorem c_X9_pack (z : St) (x m : Int32) (w : Wd) (z0 : RM z w) : Cc yX9_pack mX9_pack [.ref 400, .int x, .int m] w (fun r w' => ∃ v, r = some v ∧ (v = .int (oPack z x m).1 ∧ RM (oPack z x m).2 w' ∧ Keep moA w w')) := by
  refine Cc.of (by decide) rfl rfl (Nat.le_of_ble_eq_true rfl) (fun X => ?_)
  change V _ X _ 0 [(0, _), (1, _), (2, _)] [] _ (0, 0)
  refine V_iload_n dX9_pack_0 rfl rfl ?_
  refine V_callS (As := [_]) (st := _) (c_X9_isClip _ _) kX9_178 ⟨rfl, rfl, rfl⟩ ⟨(Nat.le_of_ble_eq_true rfl), (Nat.le_of_ble_eq_true rfl)⟩ dX9_pack_1 rfl rfl (Nat.le_of_ble_eq_true rfl) ⟨(Nat.le_of_ble_eq_true rfl), (Nat.le_of_ble_eq_true rfl)⟩ ?_
  refine V_if_eq (tgt := 19) dX9_pack_4 (by decide) (fun c4 => ?_) (fun c4 => ?_)
  · refine V_bipush (v := -2) dX9_pack_19 (by decide) ?_
    refine V_iret rfl dX9_pack_21 (Nat.le_of_ble_eq_true rfl) (Nat.le_of_ble_eq_true rfl) ?_
    first
      | (have hn := b01_0 c16
         have e : oPack z x m = (-2, z) := by unfold oPack; rw [if_neg (fun q => hn q.2)]
         exact ⟨_, rfl, by rw [e], by rw [e]; exact z0, Keep.refl _ _⟩)
      | (have hn := b01_0 c4
         have e : oPack z x m = (-2, z) := by unfold oPack; rw [if_neg (fun q => hn ⟨q.1.1, by have := q.1.2; omega⟩)]
         exact ⟨_, rfl, by rw [e], by rw [e]; exact z0, Keep.refl _ _⟩)
  · refine V_iload_n dX9_pack_7 rfl rfl ?_
    refine V_i2l dX9_pack_8 ?_
    refine V_lconst (v := 0) dX9_pack_9 (by decide) ?_
    refine V_ldc2 ctX9_206 dX9_pack_10 ?_
    refine V_callS (As := [_, _, _]) (st := _) (in9 m 0 18 0 18 rfl rfl w) kX9_114 ⟨rfl, rfl, rfl⟩ ⟨(Nat.le_of_ble_eq_true rfl), (Nat.le_of_ble_eq_true rfl)⟩ dX9_pack_13 rfl rfl (Nat.le_of_ble_eq_true rfl) ⟨(Nat.le_of_ble_eq_true rfl), (Nat.le_of_ble_eq_true rfl)⟩ ?_
    refine V_if_ne (tgt := 22) dX9_pack_16 (by decide) (fun c16 => ?_) (fun c16 => ?_)
    · have hxC : isC x := ⟨(b01_1 c4).1, by have := (b01_1 c4).2; omega⟩
      obtain ⟨c, hc, rfl⟩ := isC_n hxC
      have hcN : bN (nI c) = c := bN_nI (by omega)
      have hm := b01_1 c16
      have hm18 : bN m ≤ 18 := by unfold bN; omega
      refine V_sub (L' := [(0, .ref 400), (1, .int (nI c)), (2, .int (nI (bN m)))]) (by rw [← i32_nat hm.1]; rfl) ?_
      first | refine V_aload_n dX9_pack_22 rfl rfl ?_ | refine V_aload_nN dX9_pack_22 rfl rfl ?_
      refine V_iload_n dX9_pack_23 rfl rfl ?_
      refine V_iload_n dX9_pack_24 rfl rfl ?_
      refine V_callVvr (As := [_, _]) (st := _) (c_X9_findKeys (zK z) (zQ z) c (bN m) w z0.1 z0.2.1 hc hm18) kX9_208 (by exact z0.1.1.k _ rfl rfl) ⟨rfl, rfl, rfl⟩ ⟨(Nat.le_of_ble_eq_true rfl), (Nat.le_of_ble_eq_true rfl)⟩ dX9_pack_25 rfl rfl (Nat.le_of_ble_eq_true rfl) ⟨(Nat.le_of_ble_eq_true rfl), (Nat.le_of_ble_eq_true rfl)⟩ (fun w1 hw1 => ?_)
      obtain ⟨a1, a2⟩ := hw1
      have z1 : RM (pY z (knF (nxZ z c (bN m)) ((zQ z).1 c)) (kyF (nxZ z c (bN m)))) w1 := z0.setY a1 a2
      first | refine V_aload_n dX9_pack_28 rfl rfl ?_ | refine V_aload_nN dX9_pack_28 rfl rfl ?_
      refine G_geti (by exact z1.1.1.k _ rfl rfl) fX9_199 dX9_pack_29 (by exact a2.1) ?_
      refine V_iret rfl dX9_pack_32 (Nat.le_of_ble_eq_true rfl) (Nat.le_of_ble_eq_true rfl) ?_
      have e : oPack z (nI c) m = (nI (knF (nxZ z c (bN m)) ((zQ z).1 c)), pY z (knF (nxZ z c (bN m)) ((zQ z).1 c)) (kyF (nxZ z c (bN m)))) := by
        unfold oPack
        rw [if_pos ⟨hxC, hm⟩, hcN]
      exact ⟨_, rfl, by rw [e]; rfl, by rw [e]; exact z1, a1.moy⟩
    · refine V_bipush (v := -2) dX9_pack_19 (by decide) ?_
      refine V_iret rfl dX9_pack_21 (Nat.le_of_ble_eq_true rfl) (Nat.le_of_ble_eq_true rfl) ?_
      first
        | (have hn := b01_0 c16
           have e : oPack z x m = (-2, z) := by unfold oPack; rw [if_neg (fun q => hn q.2)]
           exact ⟨_, rfl, by rw [e], by rw [e]; exact z0, Keep.refl _ _⟩)
        | (have hn := b01_0 c4
           have e : oPack z x m = (-2, z) := by unfold oPack; rw [if_neg (fun q => hn ⟨q.1.1, by have := q.1.2; omega⟩)]
           exact ⟨_, rfl, by rw [e], by rw [e]; exact z0, Keep.refl _ _⟩)

/-- in the midst of moving keys: frames below k, and of frame k the first b turns, are moved -/
def ThI (q : Cp) (nb c : Nat) (ky : Nat → Nat) (w : Wd) (k b : Nat) (w1 : Wd) : Prop := Kp (fun a j => a = 420 ∧ 300 * c ≤ j ∧ j < 300 * c + 300) noA w w1 ∧ (∀ f e, f < 30 → e < nb → (f < k ∨ (f = k ∧ e < b)) → wI w1 420 (300 * c + 10 * f + e) = nI (q.2 c (ky f) e)) ∧ ∀ f e, f < q.1 c → e < nb → (k < f ∨ (f = k ∧ b ≤ e)) → wI w1 420 (300 * c + 10 * f + e) = nI (q.2 c f e)
theorem ThI.first {q : Cp} {nb c : Nat} {ky : Nat → Nat} {w : Wd} (h : MCp nb q w) (hc : c < 6) : ThI q nb c ky w 0 0 w := ⟨Kp.refl _ _ _, fun f e _ _ z => by omega, fun f e hf he _ => (h.fr hc hf he).1⟩
theorem ThI.row {q : Cp} {nb c : Nat} {ky : Nat → Nat} {w w1 : Wd} {k : Nat} (h : ThI q nb c ky w k nb w1) : ThI q nb c ky w (k + 1) 0 w1 := ⟨h.1, fun f e h1 h2 z => h.2.1 f e h1 h2 (by omega), fun f e h1 h2 z => h.2.2 f e h1 h2 (by omega)⟩
theorem ThI.next {q : Cp} {nb c : Nat} {ky : Nat → Nat} {w w1 : Wd} {k b : Nat} (h : ThI q nb c ky w k b w1) (hk : k < 30) (hb : b < nb) (hn : nb ≤ 10) : ThI q nb c ky w k (b + 1) (sI w1 420 (300 * c + 10 * k + b) (nI (q.2 c (ky k) b))) := by
  refine ⟨h.1.trans (Kp.sI w1 (by omega) _), fun f e h1 h2 z => ?_, fun f e h1 h2 z => ?_⟩
  · by_cases c1 : f = k ∧ e = b
    · obtain ⟨rfl, rfl⟩ := c1
      exact rdI_eq
    · rw [rdI_ne (by omega)]
      exact h.2.1 f e h1 h2 (by omega)
  · rw [rdI_ne (by omega)]
    exact h.2.2 f e h1 h2 (by omega)
theorem ThI.fin {q : Cp} {nb c kn : Nat} {ky : Nat → Nat} {w w1 : Wd} (x : MCp nb q w) (hc : c < 6) (hkn : kn ≤ 30) (hk : ∀ n, n < kn → ky n < q.1 c ∧ n ≤ ky n) (h : ThI q nb c ky w kn 0 w1) : MCp nb (thinQ q c kn ky) (sI w1 419 c (nI kn)) ∧ Kp cqI noA w (sI w1 419 c (nI kn)) := by
  have hnb := x.2.1
  have g : Kp cqI noA w (sI w1 419 c (nI kn)) := (h.1.mono (fun a j z => by unfold cqI; omega) (fun _ _ z => z)).trans (Kp.sI w1 (by unfold cqI; omega) _)
  refine ⟨⟨x.1.kp g, hnb, fun d hd => ?_⟩, g⟩
  have hle := x.le hd
  show wI (sI w1 419 c (nI kn)) 419 d = nI (va_up q.1 c kn d) ∧ va_up q.1 c kn d ≤ 30 ∧ ∀ f, f < va_up q.1 c kn d → ∀ b, b < nb → wI (sI w1 419 c (nI kn)) 420 (300 * d + 10 * f + b) = nI (va_up q.2 c (fun f => q.2 c (ky f)) d f b) ∧ va_up q.2 c (fun f => q.2 c (ky f)) d f b < 36
  by_cases e : d = c
  · subst e
    rw [rdI_eq, va_up_self, va_up_self]
    refine ⟨rfl, hkn, fun f hf b hb => ?_⟩
    rw [rdI_nn (by decide)]
    exact ⟨h.2.1 f b (by omega) hb (by omega), (x.fr hd (hk f hf).1 hb).2⟩
  · rw [rdI_ne e, va_up_ne _ _ e, va_up_ne _ _ e, h.1.I (by omega)]
    refine ⟨x.sz hd, hle, fun f hf b hb => ?_⟩
    rw [rdI_nn (by decide), h.1.I (by omega)]
    exact x.fr hd hf hb

set_option maxRecDepth 100000 in
theorem c_X9_thin (z : St) (x m : Int32) (w : Wd) (z0 : RM z w) : Cc yX9_thin mX9_thin [.ref 400, .int x, .int m] w (fun r w' => ∃ v, r = some v ∧ (v = .int (oThin z x m).1 ∧ RM (oThin z x m).2 w' ∧ Keep moA w w')) := by
  refine Cc.of (by decide) rfl rfl (Nat.le_of_ble_eq_true rfl) (fun X => ?_)
  change V _ X _ 0 [(0, _), (1, _), (2, _)] [] _ (0, 0)
  have loop : ∀ c, c < 6 → bN (nI c) = c → isC (nI c) → (0 ≤ m.toInt ∧ m.toInt ≤ 18) → ∀ w1, RM (pY z (knF (nxZ z c (bN m)) ((zQ z).1 c)) (kyF (nxZ z c (bN m)))) w1 → Kp kyI noA w w1 → ∀ (d k : Nat) (w2 : Wd), k + d = (knF (nxZ z c (bN m)) ((zQ z).1 c)) → ThI (zQ z) (kN (zK z)) c (kyF (nxZ z c (bN m))) w1 k 0 w2 → V mX9_thin X (mq mX9_thin X (fun r w' => ∃ v, r = some v ∧ (v = .int (oThin z (nI c) m).1 ∧ RM (oThin z (nI c) m).2 w' ∧ Keep moA w w'))) 43 [(0, .ref 400), (1, .int (nI c)), (3, .int (nI ((zQ z).1 c) - nI (knF (nxZ z c (bN m)) ((zQ z).1 c)))), (4, .int (nI k))] [] w2 (0, 0) := by
    intro c hc hcN hxC hm w1 z1 a1 d
    have hkn : (knF (nxZ z c (bN m)) ((zQ z).1 c)) ≤ 30 := z1.2.2.1.2.1
    have h30 : (zQ z).1 c ≤ 30 := z1.2.1.le hc
    have h10 : kN (zK z) ≤ 10 := z1.1.n10
    induction d with
    | zero =>
      intro k w2 hd t1
      have s1 : MSk (zK z) w2 := MSk.kp (k := zK z) z1.1 t1.1 (fun a j q => by unfold msI; omega) (fun _ _ q => q.elim)
      obtain rfl : k = (knF (nxZ z c (bN m)) ((zQ z).1 c)) := hd
      refine V_iload dX9_thin_43 rfl ?_
      first | refine V_aload_n dX9_thin_45 rfl rfl ?_ | refine V_aload_nN dX9_thin_45 rfl rfl ?_
      refine G_geti (by exact s1.1.k _ rfl rfl) fX9_199 dX9_thin_46 (by exact (t1.1.I (by omega)).trans z1.2.2.1.1) ?_
      refine V_icmp_ge (tgt := 109) dX9_thin_49 (by decide) (fun c49 => ?_) (fun c49 => False.elim (by exact c49 (nI_le (Nat.le_refl _) (by omega))))
      first | refine V_aload_n dX9_thin_109 rfl rfl ?_ | refine V_aload_nN dX9_thin_109 rfl rfl ?_
      first | refine V_getr (by exact s1.1.k _ rfl rfl) fX9_51 dX9_thin_110 (by exact (s1.1.r 18 rfl (by decide) : _ = some 419)) ?_ | refine V_getrN (by exact s1.1.k _ rfl rfl) fX9_51 dX9_thin_110 (by exact (s1.1.r 18 rfl (by decide) : _ = some 419)) ?_
      refine V_iload_n dX9_thin_113 rfl rfl ?_
      first | refine V_aload_n dX9_thin_114 rfl rfl ?_ | refine V_aload_nN dX9_thin_114 rfl rfl ?_
      refine G_geti (by exact s1.1.k _ rfl rfl) fX9_199 dX9_thin_115 (by exact (t1.1.I (by omega)).trans z1.2.2.1.1) ?_
      refine G_iast (j := c) (by exact s1.1.k _ rfl rfl) (by rfl) (by exact s1.1.lt 419 (m := 6) rfl rfl (by decide) rfl (by omega)) (by exact s1.1.nlt 419 rfl rfl (by decide)) dX9_thin_118 ?_
      refine V_iload_n dX9_thin_119 rfl rfl ?_
      refine V_iret rfl dX9_thin_120 (Nat.le_of_ble_eq_true rfl) (Nat.le_of_ble_eq_true rfl) ?_
      have e : oThin z (nI c) m = (nI ((zQ z).1 c) - nI (knF (nxZ z c (bN m)) ((zQ z).1 c)), pQ (pY z (knF (nxZ z c (bN m)) ((zQ z).1 c)) (kyF (nxZ z c (bN m)))) (thinQ (zQ z) c (knF (nxZ z c (bN m)) ((zQ z).1 c)) (kyF (nxZ z c (bN m))))) := by
        unfold oThin
        rw [if_pos ⟨hxC, hm⟩, hcN]
      obtain ⟨r1, r2⟩ := t1.fin z1.2.1 hc hkn (fun n hn => kn_z z c (bN m) n hn)
      exact ⟨_, rfl, by rw [e], by rw [e]; exact RM.setQ (z := pY z (knF (nxZ z c (bN m)) ((zQ z).1 c)) (kyF (nxZ z c (bN m)))) z1 r2 r1, a1.moy.trans r2.moq⟩
    | succ d ih =>
      intro k w2 hd t1
      have s1 : MSk (zK z) w2 := MSk.kp (k := zK z) z1.1 t1.1 (fun a j q => by unfold msI; omega) (fun _ _ q => q.elim)
      have hk : k < (knF (nxZ z c (bN m)) ((zQ z).1 c)) := by omega
      have hky := kn_z z c (bN m) k hk
      have inner : ∀ (e b : Nat) (w3 : Wd), b + e = kN (zK z) → ThI (zQ z) (kN (zK z)) c (kyF (nxZ z c (bN m))) w1 k b w3 → V mX9_thin X (mq mX9_thin X (fun r w' => ∃ v, r = some v ∧ (v = .int (oThin z (nI c) m).1 ∧ RM (oThin z (nI c) m).2 w' ∧ Keep moA w w'))) 55 [(0, .ref 400), (1, .int (nI c)), (3, .int (nI ((zQ z).1 c) - nI (knF (nxZ z c (bN m)) ((zQ z).1 c)))), (4, .int (nI k)), (5, .int (nI b))] [] w3 (0, 0) := by
        intro e
        induction e with
        | zero =>
          intro b w3 hd t2
          have s2 : MSk (zK z) w3 := MSk.kp (k := zK z) z1.1 t2.1 (fun a j q => by unfold msI; omega) (fun _ _ q => q.elim)
          obtain rfl : b = kN (zK z) := hd
          refine V_iload dX9_thin_55 rfl ?_
          first | refine V_aload_n dX9_thin_57 rfl rfl ?_ | refine V_aload_nN dX9_thin_57 rfl rfl ?_
          refine G_geti (by exact s2.1.k _ rfl rfl) fX9_111 dX9_thin_58 (by exact s2.n) ?_
          refine V_icmp_ge (tgt := 103) dX9_thin_61 (by decide) (fun c61 => ?_) (fun c61 => False.elim (by exact c61 (nI_le (Nat.le_refl _) (by have := z1.1.n10; show kN (zK z) < _; omega))))
          refine S_iinc (L' := [(0, _), (1, _), (3, _), (4, _)]) dX9_thin_103 rfl rfl rfl rfl ?_
          rw [nI_inc]
          refine V_goto (tgt := 43) dX9_thin_106 (by decide) ?_
          exact ih (k + 1) w3 (by omega) t2.row
        | succ e ihb =>
          intro b w3 hd t2
          have s2 : MSk (zK z) w3 := MSk.kp (k := zK z) z1.1 t2.1 (fun a j q => by unfold msI; omega) (fun _ _ q => q.elim)
          have hb : b < kN (zK z) := by omega
          refine V_iload dX9_thin_55 rfl ?_
          first | refine V_aload_n dX9_thin_57 rfl rfl ?_ | refine V_aload_nN dX9_thin_57 rfl rfl ?_
          refine G_geti (by exact s2.1.k _ rfl rfl) fX9_111 dX9_thin_58 (by exact s2.n) ?_
          refine V_icmp_ge (tgt := 103) dX9_thin_61 (by decide) (fun c61 => False.elim (by exact nI_ge (a := b) (b := kN (zK z)) hb (by have := z1.1.n10; show kN (zK z) < _; omega) c61)) (fun c61 => ?_)
          first | refine V_aload_n dX9_thin_64 rfl rfl ?_ | refine V_aload_nN dX9_thin_64 rfl rfl ?_
          first | refine V_getr (by exact s2.1.k _ rfl rfl) fX9_54 dX9_thin_65 (by exact (s2.1.r 19 rfl (by decide) : _ = some 420)) ?_ | refine V_getrN (by exact s2.1.k _ rfl rfl) fX9_54 dX9_thin_65 (by exact (s2.1.r 19 rfl (by decide) : _ = some 420)) ?_
          refine V_iload_n dX9_thin_68 rfl rfl ?_
          refine V_iload dX9_thin_69 rfl ?_
          refine V_callS (As := [_, _]) (st := _) (c_X9_spot _ _ _) kX9_181 ⟨rfl, rfl, rfl⟩ ⟨(Nat.le_of_ble_eq_true rfl), (Nat.le_of_ble_eq_true rfl)⟩ dX9_thin_71 rfl rfl (Nat.le_of_ble_eq_true rfl) ⟨(Nat.le_of_ble_eq_true rfl), (Nat.le_of_ble_eq_true rfl)⟩ ?_
          rw [spot_N]
          refine V_iload dX9_thin_74 rfl ?_
          refine V_iadd dX9_thin_76 ?_
          rw [nI_add]
          first | refine V_aload_n dX9_thin_77 rfl rfl ?_ | refine V_aload_nN dX9_thin_77 rfl rfl ?_
          first | refine V_getr (by exact s2.1.k _ rfl rfl) fX9_54 dX9_thin_78 (by exact (s2.1.r 19 rfl (by decide) : _ = some 420)) ?_ | refine V_getrN (by exact s2.1.k _ rfl rfl) fX9_54 dX9_thin_78 (by exact (s2.1.r 19 rfl (by decide) : _ = some 420)) ?_
          refine V_iload_n dX9_thin_81 rfl rfl ?_
          first | refine V_aload_n dX9_thin_82 rfl rfl ?_ | refine V_aload_nN dX9_thin_82 rfl rfl ?_
          first | refine V_getr (by exact s2.1.k _ rfl rfl) fX9_57 dX9_thin_83 (by exact (s2.1.r 21 rfl (by decide) : _ = some 422)) ?_ | refine V_getrN (by exact s2.1.k _ rfl rfl) fX9_57 dX9_thin_83 (by exact (s2.1.r 21 rfl (by decide) : _ = some 422)) ?_
          refine V_iload dX9_thin_86 rfl ?_
          refine G_iald (j := k) (by exact s2.1.k _ rfl rfl) (by rfl) (by exact s2.1.lt 422 (m := 30) rfl rfl (by decide) rfl (by omega)) (by exact s2.1.nlt 422 rfl rfl (by decide)) dX9_thin_88 (by exact (t2.1.I (by omega)).trans (z1.2.2.1.2.2 k hk)) ?_
          refine V_callS (As := [_, _]) (st := _) (c_X9_spot _ _ _) kX9_181 ⟨rfl, rfl, rfl⟩ ⟨(Nat.le_of_ble_eq_true rfl), (Nat.le_of_ble_eq_true rfl)⟩ dX9_thin_89 rfl rfl (Nat.le_of_ble_eq_true rfl) ⟨(Nat.le_of_ble_eq_true rfl), (Nat.le_of_ble_eq_true rfl)⟩ ?_
          rw [spot_N]
          refine V_iload dX9_thin_92 rfl ?_
          refine V_iadd dX9_thin_94 ?_
          rw [nI_add]
          refine G_iald (j := 300 * c + 10 * (kyF (nxZ z c (bN m))) k + b) (by exact s2.1.k _ rfl rfl) (by rfl) (by exact s2.1.lt 420 (m := 1800) rfl rfl (by decide) rfl (by omega)) (by exact s2.1.nlt 420 rfl rfl (by decide)) dX9_thin_95 (by exact t2.2.2 ((kyF (nxZ z c (bN m))) k) b hky.1 hb (by omega)) ?_
          refine G_iast (j := 300 * c + 10 * k + b) (by exact s2.1.k _ rfl rfl) (by rfl) (by exact s2.1.lt 420 (m := 1800) rfl rfl (by decide) rfl (by omega)) (by exact s2.1.nlt 420 rfl rfl (by decide)) dX9_thin_96 ?_
          refine S_iinc (L' := [(0, _), (1, _), (3, _), (4, _), (5, _)]) dX9_thin_97 rfl rfl rfl rfl ?_
          rw [nI_inc]
          refine V_goto (tgt := 55) dX9_thin_100 (by decide) ?_
          exact ihb (b + 1) _ (by omega) (t2.next (by omega) hb h10)
      refine V_iload dX9_thin_43 rfl ?_
      first | refine V_aload_n dX9_thin_45 rfl rfl ?_ | refine V_aload_nN dX9_thin_45 rfl rfl ?_
      refine G_geti (by exact s1.1.k _ rfl rfl) fX9_199 dX9_thin_46 (by exact (t1.1.I (by omega)).trans z1.2.2.1.1) ?_
      refine V_icmp_ge (tgt := 109) dX9_thin_49 (by decide) (fun c49 => False.elim (by exact nI_ge (a := k) (b := (knF (nxZ z c (bN m)) ((zQ z).1 c))) hk (by omega) c49)) (fun c49 => ?_)
      refine V_iconst (v := 0) dX9_thin_52 (by decide) ?_
      refine S_istore (L' := [(0, _), (1, _), (3, _), (4, _), (5, _)]) dX9_thin_53 rfl rfl ?_
      exact inner (kN (zK z)) 0 w2 (by omega) t1
  refine V_iload_n dX9_thin_0 rfl rfl ?_
  refine V_callS (As := [_]) (st := _) (c_X9_isClip _ _) kX9_178 ⟨rfl, rfl, rfl⟩ ⟨(Nat.le_of_ble_eq_true rfl), (Nat.le_of_ble_eq_true rfl)⟩ dX9_thin_1 rfl rfl (Nat.le_of_ble_eq_true rfl) ⟨(Nat.le_of_ble_eq_true rfl), (Nat.le_of_ble_eq_true rfl)⟩ ?_
  refine V_if_eq (tgt := 19) dX9_thin_4 (by decide) (fun c4 => ?_) (fun c4 => ?_)
  · refine V_bipush (v := -2) dX9_thin_19 (by decide) ?_
    refine V_iret rfl dX9_thin_21 (Nat.le_of_ble_eq_true rfl) (Nat.le_of_ble_eq_true rfl) ?_
    first
      | (have hn := b01_0 c16
         have e : oThin z x m = (-2, z) := by unfold oThin; rw [if_neg (fun q => hn q.2)]
         exact ⟨_, rfl, by rw [e], by rw [e]; exact z0, Keep.refl _ _⟩)
      | (have hn := b01_0 c4
         have e : oThin z x m = (-2, z) := by unfold oThin; rw [if_neg (fun q => hn ⟨q.1.1, by have := q.1.2; omega⟩)]
         exact ⟨_, rfl, by rw [e], by rw [e]; exact z0, Keep.refl _ _⟩)
  · refine V_iload_n dX9_thin_7 rfl rfl ?_
    refine V_i2l dX9_thin_8 ?_
    refine V_lconst (v := 0) dX9_thin_9 (by decide) ?_
    refine V_ldc2 ctX9_206 dX9_thin_10 ?_
    refine V_callS (As := [_, _, _]) (st := _) (in9 m 0 18 0 18 rfl rfl w) kX9_114 ⟨rfl, rfl, rfl⟩ ⟨(Nat.le_of_ble_eq_true rfl), (Nat.le_of_ble_eq_true rfl)⟩ dX9_thin_13 rfl rfl (Nat.le_of_ble_eq_true rfl) ⟨(Nat.le_of_ble_eq_true rfl), (Nat.le_of_ble_eq_true rfl)⟩ ?_
    refine V_if_ne (tgt := 22) dX9_thin_16 (by decide) (fun c16 => ?_) (fun c16 => ?_)
    · have hxC : isC x := ⟨(b01_1 c4).1, by have := (b01_1 c4).2; omega⟩
      obtain ⟨c, hc, rfl⟩ := isC_n hxC
      have hcN : bN (nI c) = c := bN_nI (by omega)
      have hm := b01_1 c16
      have hm18 : bN m ≤ 18 := by unfold bN; omega
      refine V_sub (L' := [(0, .ref 400), (1, .int (nI c)), (2, .int (nI (bN m)))]) (by rw [← i32_nat hm.1]; rfl) ?_
      first | refine V_aload_n dX9_thin_22 rfl rfl ?_ | refine V_aload_nN dX9_thin_22 rfl rfl ?_
      refine V_iload_n dX9_thin_23 rfl rfl ?_
      refine V_iload_n dX9_thin_24 rfl rfl ?_
      refine V_callVvr (As := [_, _]) (st := _) (c_X9_findKeys (zK z) (zQ z) c (bN m) w z0.1 z0.2.1 hc hm18) kX9_208 (by exact z0.1.1.k _ rfl rfl) ⟨rfl, rfl, rfl⟩ ⟨(Nat.le_of_ble_eq_true rfl), (Nat.le_of_ble_eq_true rfl)⟩ dX9_thin_25 rfl rfl (Nat.le_of_ble_eq_true rfl) ⟨(Nat.le_of_ble_eq_true rfl), (Nat.le_of_ble_eq_true rfl)⟩ (fun w1 hw1 => ?_)
      obtain ⟨a1, a2⟩ := hw1
      have z1 : RM (pY z (knF (nxZ z c (bN m)) ((zQ z).1 c)) (kyF (nxZ z c (bN m)))) w1 := z0.setY a1 a2
      first | refine V_aload_n dX9_thin_28 rfl rfl ?_ | refine V_aload_nN dX9_thin_28 rfl rfl ?_
      first | refine V_getr (by exact z1.1.1.k _ rfl rfl) fX9_51 dX9_thin_29 (by exact (z1.1.1.r 18 rfl (by decide) : _ = some 419)) ?_ | refine V_getrN (by exact z1.1.1.k _ rfl rfl) fX9_51 dX9_thin_29 (by exact (z1.1.1.r 18 rfl (by decide) : _ = some 419)) ?_
      refine V_iload_n dX9_thin_32 rfl rfl ?_
      refine G_iald (j := c) (by exact z1.1.1.k _ rfl rfl) (by rfl) (by exact z1.1.1.lt 419 (m := 6) rfl rfl (by decide) rfl (by omega)) (by exact z1.1.1.nlt 419 rfl rfl (by decide)) dX9_thin_33 (by exact z1.2.1.sz hc) ?_
      first | refine V_aload_n dX9_thin_34 rfl rfl ?_ | refine V_aload_nN dX9_thin_34 rfl rfl ?_
      refine G_geti (by exact z1.1.1.k _ rfl rfl) fX9_199 dX9_thin_35 (by exact a2.1) ?_
      refine V_isub dX9_thin_38 ?_
      refine S_istore_n (L' := [(0, _), (1, _), (3, _)]) dX9_thin_39 rfl rfl rfl ?_
      refine V_iconst (v := 0) dX9_thin_40 (by decide) ?_
      refine S_istore (L' := [(0, _), (1, _), (3, _), (4, _)]) dX9_thin_41 rfl rfl ?_
      exact loop c hc hcN hxC hm w1 z1 a1 (knF (nxZ z c (bN m)) ((zQ z).1 c)) 0 w1 (by omega) (ThI.first z1.2.1 hc)
    · refine V_bipush (v := -2) dX9_thin_19 (by decide) ?_
      refine V_iret rfl dX9_thin_21 (Nat.le_of_ble_eq_true rfl) (Nat.le_of_ble_eq_true rfl) ?_
      first
        | (have hn := b01_0 c16
           have e : oThin z x m = (-2, z) := by unfold oThin; rw [if_neg (fun q => hn q.2)]
           exact ⟨_, rfl, by rw [e], by rw [e]; exact z0, Keep.refl _ _⟩)
        | (have hn := b01_0 c4
           have e : oThin z x m = (-2, z) := by unfold oThin; rw [if_neg (fun q => hn ⟨q.1.1, by have := q.1.2; omega⟩)]
           exact ⟨_, rfl, by rw [e], by rw [e]; exact z0, Keep.refl _ _⟩)
