/-! BoneSteps.bone -/
/-- all names that are there, and all that are held, are among U -/
def Us (U : Nat → Prop) (w : Wd) : Prop := (∀ n, n ∈ wL w → U n) ∧ ∀ a k n, wR w a k = some n → U n
theorem Us.frs {U : Nat → Prop} {w : Wd} (h : Us U w) {n : Nat} (hn : ¬ U n) (h9 : n ≠ 9 ∧ n ≠ 8) : Frs w n := ⟨fun q => hn (h.1 n q), fun a k q => hn (h.2 a k n q), h9⟩
theorem Us.mono {U U' : Nat → Prop} {w : Wd} (h : Us U w) (hu : ∀ a, U a → U' a) : Us U' w := ⟨fun n q => hu n (h.1 n q), fun a k n q => hu n (h.2 a k n q)⟩
theorem Us.like {U : Nat → Prop} {w w' : Wd} (h : Us U w) (h1 : wL w' = wL w) (h2 : wR w' = wR w) : Us U w' := ⟨by rw [h1]; exact h.1, by rw [h2]; exact h.2⟩
theorem Us.keep {U S : Nat → Prop} {w w' : Wd} (h : Us U w) (g : Keep S w w') : Us U w' := h.like g.2.2.2.1 g.2.2.1
theorem Us.made {U : Nat → Prop} {w : Wd} (h : Us U w) {n : Nat} (hn : U n) (kd len : Nat) : Us U (nw w n kd len) := by
  refine ⟨fun a ha => ?_, fun a k b hb => ?_⟩
  · rcases List.mem_append.mp (show a ∈ wL w ++ [n] from ha) with q | q
    · exact h.1 a q
    · rw [List.mem_singleton] at q; rw [q]; exact hn
  · have hb' : va_up (wR w) n (fun _ => none) a k = some b := hb
    by_cases e : a = n
    · rw [e, va_up_self] at hb'; cases hb'
    · rw [va_up_ne _ _ e] at hb'; exact h.2 a k b hb'
theorem Us.hold {U : Nat → Prop} {w : Wd} (h : Us U w) (n k : Nat) {x : Option Nat} (hx : ∀ b, x = some b → U b) : Us U (sR w n k x) := by
  refine ⟨h.1, fun a j b hb => ?_⟩
  have hb' : (if a = n ∧ j = k then x else wR w a j) = some b := hb
  by_cases e : a = n ∧ j = k
  · rw [if_pos e] at hb'; exact hx b hb'
  · rw [if_neg e] at hb'; exact h.2 a j b hb'
def uN (n a : Nat) : Prop := a < 300 + n ∨ 400 ≤ a
theorem Us.gr {k : Sk} {o : Option Nat} {pn dp : Int32} {l lo sp : Nat} {w : Wd} (h : Us (uN (kN k)) w) (ho : ∀ p, o = some p → p < kN k) : Us (uN (kN k + 1)) (grW w k o pn dp l lo sp) := by
  have h1 : Us (uN (kN k + 1)) w := h.mono (fun a q => by unfold uN at *; omega)
  have h2 := (h1.made (n := 300 + kN k) (by unfold uN; omega) 1 0).hold (300 + kN k) 0 (x := o.map (fun p => 300 + p)) (fun b hb => by
    cases o with
    | none => cases hb
    | some p =>
      cases hb
      have := ho p rfl
      show uN (kN k + 1) (300 + p)
      unfold uN; omega)
  have h3 := h2.hold 26 (kN k) (x := some (300 + kN k)) (fun b hb => by cases hb; unfold uN; omega)
  exact h3.like rfl rfl
theorem bn_keep {w : Wd} {n : Nat} {po : Option Nat} {pn dp l lo sp la : Int32} : KeN (fun a => a = n) w (bnW (nw w n 1 0) n po pn dp l lo sp la) := fun a ha => by
  have ha' : a ≠ n := ha
  refine ⟨va_up_ne _ _ ha', va_up_ne _ _ ha', funext fun j => ?_, va_up_ne _ _ ha', funext fun j => ?_⟩
  · rw [bn_I ha']; exact congrFun (va_up_ne _ _ ha') j
  · show (if a = n ∧ j = 0 then po else wR (nw w n 1 0) a j) = _
    rw [if_neg (fun q => ha' q.1)]
    exact congrFun (va_up_ne _ _ ha') j
theorem bn_lay {w : Wd} {n : Nat} {po : Option Nat} {pn dp l lo sp la : Int32} (h : LayX w) (hn : 300 ≤ n) : LayX (bnW (nw w n 1 0) n po pn dp l lo sp la) := by
  have g := bn_keep (w := w) (n := n) (po := po) (pn := pn) (dp := dp) (l := l) (lo := lo) (sp := sp) (la := la)
  have h21 := g 21 (by omega)
  have h26 := g 26 (by omega)
  exact h.ken g (fun a q => by omega) ⟨by rw [h21.1]; exact h.k 21 rfl rfl, by rw [h21.2.2.2.2]; exact h.r 21 0 rfl⟩ ⟨by rw [h26.1]; exact h.k 26 rfl rfl, by rw [h26.2.1]; exact h.n 26 rfl rfl⟩
theorem RX.bone {z : St} {w W : Wd} {k : Sk} (h : RX z w) (hk : SkP k W) (h0 : sumN (zQ z).1 6 = 0) (g : KeN (fun a => a = 21 ∨ a = 26 ∨ 300 ≤ a) w W) (hn : kN k ≤ 10) : RX (pK z k) W := by
  have e : ∀ a, a ≠ 21 → a ≠ 26 → a < 300 → wI W a = wI w a := fun a q1 q2 q3 => (g a (fun q => by omega)).2.2.1
  have hz : ∀ c, c < 6 → (zQ z).1 c = 0 := fun c hc => Classical.not_not.mp (fun q => by have := sumN_at (f := (zQ z).1) hc (by omega); omega)
  refine ⟨hk, ⟨hk.1.1, hn, fun c hc => ?_, fun q => by have q' : 0 < sumN (zQ z).1 6 := q; omega⟩, ?_, ?_, ⟨hk.1.1, fun s hs => ?_⟩, ?_, h.2.2.2.2.2.2⟩
  · obtain ⟨q1, q2, -⟩ := h.2.1.2.2.1 c hc
    rw [e (40 + c) (by omega) (by omega) (by omega)]
    exact ⟨q1, q2, fun f hf => by rw [show (zQ (pK z k)).1 c = (zQ z).1 c from rfl, hz c hc] at hf; omega⟩
  · have := h.2.2.1
    unfold RPk at this ⊢
    rw [e 23 (by omega) (by omega) (by omega), e 28 (by omega) (by omega) (by omega)]
    exact this
  · have := h.2.2.2.1
    unfold RGr RPt at this ⊢
    rw [e 24 (by omega) (by omega) (by omega), e 29 (by omega) (by omega) (by omega)]
    exact this
  · obtain ⟨q1, q2, q3, q4⟩ := h.2.2.2.2.1.2 s hs
    rw [e (60 + s) (by omega) (by omega) (by omega), e (70 + s) (by omega) (by omega) (by omega)]
    exact ⟨q1, q2, q3, q4⟩
  · rw [e 20 (by omega) (by omega) (by omega)]; exact h.2.2.2.2.2.1

set_option maxRecDepth 100000 in
theorem c_X8_bone (z : St) (p l lo sp : Int32) (w : Wd) (z0 : RX z w) (hU : Us (uN (kN (zK z))) w) : Cc yX8_bone mX8_bone [.ref 20, .int p, .int l, .int lo, .int sp] w (fun r w' => ∃ v, r = some v ∧ (v = .int (oBone z p l lo sp).1 ∧ RX (oBone z p l lo sp).2 w' ∧ KeN clA w w' ∧ Us (uN (kN (zK (oBone z p l lo sp).2))) w')) := by
  refine Cc.of (by decide) rfl rfl (Nat.le_of_ble_eq_true rfl) (fun X => ?_)
  change V _ X _ 0 [(0, _), (1, _), (2, _), (3, _), (4, _)] [] _ (0, 0)
  by_cases hx : isB z p
  · obtain ⟨b, hb, rfl⟩ := isB_n z0 hx
    have hbN : bN (nI b) = b := bN_nI (by have := z0.1.1.n10; omega)
    first | refine V_aload_n dX8_bone_0 rfl rfl ?_ | refine V_aload_nN dX8_bone_0 rfl rfl ?_
    first | refine V_getr (by first | exact z0.1.1.1.k _ rfl rfl | exact z0.1.1.kb hb) fX8_12 dX8_bone_1 (by exact z0.1.1.1.r _ _ rfl) ?_ | refine V_getrN (by first | exact z0.1.1.1.k _ rfl rfl | exact z0.1.1.kb hb) fX8_12 dX8_bone_1 (by exact z0.1.1.1.r _ _ rfl) ?_
    refine V_iload_n dX8_bone_4 rfl rfl ?_
    refine V_callV (As := [_]) (st := _) (c_X6_find_s (zK z) b w z0.1.1 hb) kX8_48 (by first | exact z0.1.1.1.k _ rfl rfl | exact z0.1.1.kb hb) ⟨rfl, rfl, rfl⟩ ⟨(Nat.le_of_ble_eq_true rfl), (Nat.le_of_ble_eq_true rfl)⟩ dX8_bone_5 rfl rfl (Nat.le_of_ble_eq_true rfl) ⟨(Nat.le_of_ble_eq_true rfl), (Nat.le_of_ble_eq_true rfl)⟩ ?_
    first | refine S_astore (L' := [(0, _), (1, _), (2, _), (3, _), (4, _), (5, _)]) dX8_bone_8 rfl rfl ?_ | refine S_astoreN (L' := [(0, _), (1, _), (2, _), (3, _), (4, _), (5, _)]) dX8_bone_8 rfl rfl ?_
    first | refine V_aload dX8_bone_10 rfl ?_ | refine V_aloadN dX8_bone_10 rfl ?_
    refine V_ifnonnull (tgt := 23) dX8_bone_12 (by decide) ?_
    refine V_iload_n dX8_bone_23 rfl rfl ?_
    refine V_i2l dX8_bone_24 ?_
    refine V_lconst (v := 1) dX8_bone_25 (by decide) ?_
    refine V_ldc2 ctX8_52 dX8_bone_26 ?_
    refine V_callS (As := [_, _, _]) (st := _) (c_X8_isIn _ _ _ w) kX8_54 ⟨rfl, rfl, rfl⟩ ⟨(Nat.le_of_ble_eq_true rfl), (Nat.le_of_ble_eq_true rfl)⟩ dX8_bone_29 rfl rfl (Nat.le_of_ble_eq_true rfl) ⟨(Nat.le_of_ble_eq_true rfl), (Nat.le_of_ble_eq_true rfl)⟩ ?_
    refine V_if_eq (tgt := 50) dX8_bone_32 (by decide) (fun c32 => ?_) (fun c32 => ?_)
    · refine V_bipush (v := -2) dX8_bone_50 (by decide) ?_
      refine V_iret rfl dX8_bone_52 (Nat.le_of_ble_eq_true rfl) (Nat.le_of_ble_eq_true rfl) ?_
      have hno : ¬ badB z (nI b) l lo sp := by
        intro q
        first
          | exact b01_0 c47 q.1.2.2.2
          | exact b01_0 c39 q.1.2.2.1
          | exact b01_0 c32 ((i64_in l 1 100 rfl rfl).mpr q.1.2.1)
      have e : oBone z (nI b) l lo sp = (-2, z) := if_neg hno
      exact ⟨_, rfl, by rw [e], by rw [e]; exact z0, KeN.refl _ _, by rw [e]; exact hU⟩
    · refine V_iload_n dX8_bone_35 rfl rfl ?_
      refine V_callS (As := [_]) (st := _) (c_X8_isTurn _ _) kX8_58 ⟨rfl, rfl, rfl⟩ ⟨(Nat.le_of_ble_eq_true rfl), (Nat.le_of_ble_eq_true rfl)⟩ dX8_bone_36 rfl rfl (Nat.le_of_ble_eq_true rfl) ⟨(Nat.le_of_ble_eq_true rfl), (Nat.le_of_ble_eq_true rfl)⟩ ?_
      refine V_if_eq (tgt := 50) dX8_bone_39 (by decide) (fun c39 => ?_) (fun c39 => ?_)
      · refine V_bipush (v := -2) dX8_bone_50 (by decide) ?_
        refine V_iret rfl dX8_bone_52 (Nat.le_of_ble_eq_true rfl) (Nat.le_of_ble_eq_true rfl) ?_
        have hno : ¬ badB z (nI b) l lo sp := by
          intro q
          first
            | exact b01_0 c47 q.1.2.2.2
            | exact b01_0 c39 q.1.2.2.1
            | exact b01_0 c32 ((i64_in l 1 100 rfl rfl).mpr q.1.2.1)
        have e : oBone z (nI b) l lo sp = (-2, z) := if_neg hno
        exact ⟨_, rfl, by rw [e], by rw [e]; exact z0, KeN.refl _ _, by rw [e]; exact hU⟩
      · refine V_iload dX8_bone_42 rfl ?_
        refine V_callS (As := [_]) (st := _) (c_X8_isTurn _ _) kX8_58 ⟨rfl, rfl, rfl⟩ ⟨(Nat.le_of_ble_eq_true rfl), (Nat.le_of_ble_eq_true rfl)⟩ dX8_bone_44 rfl rfl (Nat.le_of_ble_eq_true rfl) ⟨(Nat.le_of_ble_eq_true rfl), (Nat.le_of_ble_eq_true rfl)⟩ ?_
        refine V_if_ne (tgt := 53) dX8_bone_47 (by decide) (fun c47 => ?_) (fun c47 => ?_)
        · first | refine V_aload dX8_bone_53 rfl ?_ | refine V_aloadN dX8_bone_53 rfl ?_
          refine V_ifnull dX8_bone_55 ?_
          first | refine V_aload dX8_bone_58 rfl ?_ | refine V_aloadN dX8_bone_58 rfl ?_
          refine G_geti (by first | exact z0.1.1.1.k _ rfl rfl | exact z0.1.1.kb hb) fX8_62 dX8_bone_60 (by exact (z0.1.1.bone hb).2.1) ?_
          refine V_iconst (v := 5) dX8_bone_63 (by decide) ?_
          refine V_icmp_lt (tgt := 70) dX8_bone_64 (by decide) (fun c64 => ?_) (fun c64 => ?_)
          · have h64 : ¬ 5 ≤ dep (zK z) b := fun q => nI_nlt (b := 5) q (by have := (z0.1.1.wf hb).2.1; omega) c64
            have hl := (i64_in l 1 100 rfl rfl).mp (b01_1 c32)
            have hlo := b01_1 c39
            have hsp := b01_1 c47
            have hok : badB z (nI b) l lo sp := ⟨⟨Or.inl hx, hl, hlo, hsp⟩, fun q => h64 (by have := q.2; rw [hbN] at this; exact this)⟩
            first | refine V_aload_n dX8_bone_70 rfl rfl ?_ | refine V_aload_nN dX8_bone_70 rfl rfl ?_
            first | refine V_getr (by first | exact z0.1.1.1.k _ rfl rfl | exact z0.1.1.kb hb) fX8_19 dX8_bone_71 (by exact z0.1.1.1.r _ _ rfl) ?_ | refine V_getrN (by first | exact z0.1.1.1.k _ rfl rfl | exact z0.1.1.kb hb) fX8_19 dX8_bone_71 (by exact z0.1.1.1.r _ _ rfl) ?_
            refine V_callV (As := []) (st := _) (c_X2_total (kN (zK z)) (zQ z) w z0.2.1) kX8_67 (by first | exact z0.1.1.1.k _ rfl rfl | exact z0.1.1.kb hb) ⟨rfl, rfl, rfl⟩ ⟨(Nat.le_of_ble_eq_true rfl), (Nat.le_of_ble_eq_true rfl)⟩ dX8_bone_74 rfl rfl (Nat.le_of_ble_eq_true rfl) ⟨(Nat.le_of_ble_eq_true rfl), (Nat.le_of_ble_eq_true rfl)⟩ ?_
            refine V_if_le (tgt := 83) dX8_bone_77 (by decide) (fun c77 => ?_) (fun c77 => ?_)
            · have h60 : sumN (zQ z).1 6 ≤ 6 * 30 := sumN_le 6 (fun i hi => z0.2.1.le hi)
              have h0 : ¬ 0 < sumN (zQ z).1 6 := fun q => nI_nle q (by omega) c77
              first | refine V_aload_n dX8_bone_83 rfl rfl ?_ | refine V_aload_nN dX8_bone_83 rfl rfl ?_
              first | refine V_getr (by first | exact z0.1.1.1.k _ rfl rfl | exact z0.1.1.kb hb) fX8_12 dX8_bone_84 (by exact z0.1.1.1.r _ _ rfl) ?_ | refine V_getrN (by first | exact z0.1.1.1.k _ rfl rfl | exact z0.1.1.kb hb) fX8_12 dX8_bone_84 (by exact z0.1.1.1.r _ _ rfl) ?_
              refine G_geti (by first | exact z0.1.1.1.k _ rfl rfl | exact z0.1.1.kb hb) fX8_71 dX8_bone_87 (by exact z0.1.1.size) ?_
              refine V_bipush (v := 10) dX8_bone_90 (by decide) ?_
              refine V_icmp_lt (tgt := 98) dX8_bone_92 (by decide) (fun c92 => ?_) (fun c92 => ?_)
              · have h10 : kN (zK z) < 10 := (nI_ltI (b := 10) (by have := z0.1.1.n10; omega) (by decide)).mp c92
                have hlN : bN l = l.toInt.toNat := rfl
                have hloN : bN lo < 36 := by unfold bN; omega
                have hspN : bN sp < 36 := by unfold bN; omega
                have hs0 : sumN (zQ z).1 6 = 0 := by omega
                refine V_sub (L' := [(0, .ref 20), (1, .int (nI b)), (2, .int (nI (bN l))), (3, .int (nI (bN lo))), (4, .int (nI (bN sp))), (5, .ref (300 + b))]) (by rw [← i32_nat (show 0 ≤ l.toInt by omega), ← i32_nat hlo.1, ← i32_nat hsp.1]; rfl) ?_
                first | refine V_aload_n dX8_bone_98 rfl rfl ?_ | refine V_aload_nN dX8_bone_98 rfl rfl ?_
                first | refine V_getr (by first | exact z0.1.1.1.k _ rfl rfl | exact z0.1.1.kb hb) fX8_12 dX8_bone_99 (by exact z0.1.1.1.r _ _ rfl) ?_ | refine V_getrN (by first | exact z0.1.1.1.k _ rfl rfl | exact z0.1.1.kb hb) fX8_12 dX8_bone_99 (by exact z0.1.1.1.r _ _ rfl) ?_
                refine V_new (n := (300 + kN (zK z))) nlX8_63 (by exact hU.frs (by unfold uN; omega) (by omega)) rfl (by repeat' first | exact (fun _ h => absurd h List.not_mem_nil) | refine List.forall_mem_cons.mpr ⟨?_, ?_⟩ | exact nRf_r (by omega) | rfl) (by repeat' first | exact (fun _ h => absurd h List.not_mem_nil) | refine List.forall_mem_cons.mpr ⟨?_, ?_⟩ | exact nRf_r (by omega) | rfl) dX8_bone_102 ⟨(Nat.le_of_ble_eq_true rfl), (Nat.le_of_ble_eq_true rfl)⟩ ?_
                refine V_dup dX8_bone_105 rfl ?_
                first | refine V_aload dX8_bone_106 rfl ?_ | refine V_aloadN dX8_bone_106 rfl ?_
                refine V_iload_n dX8_bone_108 rfl rfl ?_
                refine V_iload_n dX8_bone_109 rfl rfl ?_
                refine V_iload_n dX8_bone_110 rfl rfl ?_
                refine V_iload dX8_bone_111 rfl ?_
                have hkb : wK (nw w (300 + kN (zK z)) 1 0) (300 + b) = 1 := (va_up_ne _ _ (by omega)).trans (z0.1.1.kb hb)
                refine V_callI (As := [_, _, _, _, _]) (st := _) (c_X0_init_s (300 + kN (zK z)) (300 + b) (nI b) (bN l) (bN lo) (bN sp) (nw w (300 + kN (zK z)) 1 0) (va_up_self _ _ _) hloN hspN ⟨hkb, by omega⟩) kX8_74 rfl rfl ⟨(Nat.le_of_ble_eq_true rfl), (Nat.le_of_ble_eq_true rfl)⟩ dX8_bone_113 rfl rfl (Nat.le_of_ble_eq_true rfl) ⟨(Nat.le_of_ble_eq_true rfl), (Nat.le_of_ble_eq_true rfl)⟩ (by exact Or.inl rfl) ?_
                have hd2 : wI (nw w (300 + kN (zK z)) 1 0) (300 + b) 2 = nI (dep (zK z) b) := (congrFun (va_up_ne _ _ (by omega)) 2).trans (z0.1.1.bone hb).2.1
                have hs21 : wI (bnW (nw w (300 + kN (zK z)) 1 0) (300 + kN (zK z)) (some (300 + b)) (nI b) (wI (nw w (300 + kN (zK z)) 1 0) (300 + b) 2 + 1) (nI (bN l)) (nI (bN lo)) (nI (bN sp)) (nI (lastN (bN lo) (bN sp)))) 21 1 = nI (kN (zK z)) := (bn_I (by omega) 1).trans ((congrFun (va_up_ne _ _ (by omega)) 1).trans z0.1.1.size)
                have hr0 : wR (bnW (nw w (300 + kN (zK z)) 1 0) (300 + kN (zK z)) (some (300 + b)) (nI b) (wI (nw w (300 + kN (zK z)) 1 0) (300 + b) 2 + 1) (nI (bN l)) (nI (bN lo)) (nI (bN sp)) (nI (lastN (bN lo) (bN sp)))) (300 + kN (zK z)) 0 = some (300 + b) := if_pos ⟨rfl, rfl⟩
                refine V_callV (As := [_]) (st := _) (show Cc yX6_grow mX6_grow [.ref 21, .ref (300 + kN (zK z))] (bnW (nw w (300 + kN (zK z)) 1 0) (300 + kN (zK z)) (some (300 + b)) (nI b) (wI (nw w (300 + kN (zK z)) 1 0) (300 + b) 2 + 1) (nI (bN l)) (nI (bN lo)) (nI (bN sp)) (nI (lastN (bN lo) (bN sp)))) (fun r w2 => r = some (.int (nI (kN (zK z)))) ∧ w2 = grW w (zK z) (some b) (nI b) (wI (nw w (300 + kN (zK z)) 1 0) (300 + b) 2 + 1) (bN l) (bN lo) (bN sp)) from c_X6_grow (kN (zK z)) (300 + kN (zK z)) (some (300 + b)) (bN lo) (bN l) _ (bn_lay z0.1.1.1 (by omega)) hs21 h10 (va_up_self _ _ _) (by omega) hr0 (fun q hq => by cases hq; exact ⟨hkb, by omega⟩) bn_s.2.2.2.2.2.2 hloN bn_s.2.2.1) kX8_77 (by exact (bn_lay z0.1.1.1 (by omega)).k _ rfl rfl) ⟨rfl, rfl, rfl⟩ ⟨(Nat.le_of_ble_eq_true rfl), (Nat.le_of_ble_eq_true rfl)⟩ dX8_bone_116 rfl rfl (Nat.le_of_ble_eq_true rfl) ⟨(Nat.le_of_ble_eq_true rfl), (Nat.le_of_ble_eq_true rfl)⟩ ?_
                refine V_iret rfl dX8_bone_119 (Nat.le_of_ble_eq_true rfl) (Nat.le_of_ble_eq_true rfl) ?_
                have hoo : ∀ p, some b = some p → p < kN (zK z) ∧ dep (zK z) p < 5 := fun p hp => by cases hp; exact ⟨hb, by omega⟩
                have hdp : wI (nw w (300 + kN (zK z)) 1 0) (300 + b) 2 + 1 = nI (dep (kAdd (zK z) (some b) (bN l) (bN lo) (bN sp)) (kN (zK z))) := by
                  rw [hd2, nI_1, dep_new z0.1.1.2.2.1 (fun p hp => (hoo p hp).1)]
                have e : oBone z (nI b) l lo sp = (nI (kN (zK z)), pK z (kAdd (zK z) (some b) (bN l) (bN lo) (bN sp))) := by
                  unfold oBone
                  rw [if_pos hok, if_neg h0, if_neg (by omega)]
                  rw [if_neg (show ¬ nI b = -1 from nI_nm1 (by omega)), hbN]
                rw [e]
                have hP := z0.1.add (o := (some b)) (l := bN l) (lo := bN lo) (sp := bN sp) h10 hoo (by omega) (by omega) hloN hspN
                rw [← hdp] at hP
                exact ⟨_, rfl, rfl, z0.bone hP hs0 (fun a ha => gr_keep a (fun q => ha (by omega))) (by show kN (zK z) + 1 ≤ 10; omega), fun a ha => gr_keep a (fun q => ha (by unfold clA; omega)), Us.gr hU (fun p hp => (hoo p hp).1)⟩
              · refine V_bipush (v := -4) dX8_bone_95 (by decide) ?_
                refine V_iret rfl dX8_bone_97 (Nat.le_of_ble_eq_true rfl) (Nat.le_of_ble_eq_true rfl) ?_
                have h10 : 10 ≤ kN (zK z) := Nat.not_lt.mp (fun q => c92 (nI_lt (b := 10) q (by decide)))
                have e : oBone z (nI b) l lo sp = (-4, z) := by unfold oBone; rw [if_pos hok, if_neg h0, if_pos h10]
                exact ⟨_, rfl, by rw [e], by rw [e]; exact z0, KeN.refl _ _, by rw [e]; exact hU⟩
            · refine V_bipush (v := -3) dX8_bone_80 (by decide) ?_
              refine V_iret rfl dX8_bone_82 (Nat.le_of_ble_eq_true rfl) (Nat.le_of_ble_eq_true rfl) ?_
              have h0 : 0 < sumN (zQ z).1 6 := Nat.pos_of_ne_zero (fun q => c77 (by rw [q]; decide))
              have e : oBone z (nI b) l lo sp = (-3, z) := by unfold oBone; rw [if_pos hok, if_pos h0]
              exact ⟨_, rfl, by rw [e], by rw [e]; exact z0, KeN.refl _ _, by rw [e]; exact hU⟩
          · refine V_bipush (v := -2) dX8_bone_67 (by decide) ?_
            refine V_iret rfl dX8_bone_69 (Nat.le_of_ble_eq_true rfl) (Nat.le_of_ble_eq_true rfl) ?_
            have h64 : 5 ≤ dep (zK z) b := Nat.not_lt.mp (fun q => c64 (nI_lt (b := 5) q (by decide)))
            have hno : ¬ badB z (nI b) l lo sp := fun q => q.2 ⟨hx, by rw [hbN]; exact h64⟩
            have e : oBone z (nI b) l lo sp = (-2, z) := if_neg hno
            exact ⟨_, rfl, by rw [e], by rw [e]; exact z0, KeN.refl _ _, by rw [e]; exact hU⟩
        · refine V_bipush (v := -2) dX8_bone_50 (by decide) ?_
          refine V_iret rfl dX8_bone_52 (Nat.le_of_ble_eq_true rfl) (Nat.le_of_ble_eq_true rfl) ?_
          have hno : ¬ badB z (nI b) l lo sp := by
            intro q
            first
              | exact b01_0 c47 q.1.2.2.2
              | exact b01_0 c39 q.1.2.2.1
              | exact b01_0 c32 ((i64_in l 1 100 rfl rfl).mpr q.1.2.1)
          have e : oBone z (nI b) l lo sp = (-2, z) := if_neg hno
          exact ⟨_, rfl, by rw [e], by rw [e]; exact z0, KeN.refl _ _, by rw [e]; exact hU⟩
  · first | refine V_aload_n dX8_bone_0 rfl rfl ?_ | refine V_aload_nN dX8_bone_0 rfl rfl ?_
    first | refine V_getr (by first | exact z0.1.1.1.k _ rfl rfl | exact z0.1.1.kb hb) fX8_12 dX8_bone_1 (by exact z0.1.1.1.r _ _ rfl) ?_ | refine V_getrN (by first | exact z0.1.1.1.k _ rfl rfl | exact z0.1.1.kb hb) fX8_12 dX8_bone_1 (by exact z0.1.1.1.r _ _ rfl) ?_
    refine V_iload_n dX8_bone_4 rfl rfl ?_
    refine V_callV (As := [_]) (st := _) (c_X6_find_n (zK z) p w z0.1.1 hx) kX8_48 (by first | exact z0.1.1.1.k _ rfl rfl | exact z0.1.1.kb hb) ⟨rfl, rfl, rfl⟩ ⟨(Nat.le_of_ble_eq_true rfl), (Nat.le_of_ble_eq_true rfl)⟩ dX8_bone_5 rfl rfl (Nat.le_of_ble_eq_true rfl) ⟨(Nat.le_of_ble_eq_true rfl), (Nat.le_of_ble_eq_true rfl)⟩ ?_
    refine S_astoreN (L' := [(0, _), (1, _), (2, _), (3, _), (4, _), (5, _)]) dX8_bone_8 rfl rfl ?_
    first | refine V_aload dX8_bone_10 rfl ?_ | refine V_aloadN dX8_bone_10 rfl ?_
    refine V_ifnonnullN dX8_bone_12 ?_
    refine V_iload_n dX8_bone_15 rfl rfl ?_
    refine V_iconst (v := -1) dX8_bone_16 (by decide) ?_
    refine V_icmp_eq (tgt := 23) dX8_bone_17 (by decide) (fun c17 => ?_) (fun c17 => ?_)
    · refine V_iload_n dX8_bone_23 rfl rfl ?_
      refine V_i2l dX8_bone_24 ?_
      refine V_lconst (v := 1) dX8_bone_25 (by decide) ?_
      refine V_ldc2 ctX8_52 dX8_bone_26 ?_
      refine V_callS (As := [_, _, _]) (st := _) (c_X8_isIn _ _ _ w) kX8_54 ⟨rfl, rfl, rfl⟩ ⟨(Nat.le_of_ble_eq_true rfl), (Nat.le_of_ble_eq_true rfl)⟩ dX8_bone_29 rfl rfl (Nat.le_of_ble_eq_true rfl) ⟨(Nat.le_of_ble_eq_true rfl), (Nat.le_of_ble_eq_true rfl)⟩ ?_
      refine V_if_eq (tgt := 50) dX8_bone_32 (by decide) (fun c32 => ?_) (fun c32 => ?_)
      · refine V_bipush (v := -2) dX8_bone_50 (by decide) ?_
        refine V_iret rfl dX8_bone_52 (Nat.le_of_ble_eq_true rfl) (Nat.le_of_ble_eq_true rfl) ?_
        have hno : ¬ badB z p l lo sp := by
          intro q
          first
            | exact b01_0 c47 q.1.2.2.2
            | exact b01_0 c39 q.1.2.2.1
            | exact b01_0 c32 ((i64_in l 1 100 rfl rfl).mpr q.1.2.1)
        have e : oBone z p l lo sp = (-2, z) := if_neg hno
        exact ⟨_, rfl, by rw [e], by rw [e]; exact z0, KeN.refl _ _, by rw [e]; exact hU⟩
      · refine V_iload_n dX8_bone_35 rfl rfl ?_
        refine V_callS (As := [_]) (st := _) (c_X8_isTurn _ _) kX8_58 ⟨rfl, rfl, rfl⟩ ⟨(Nat.le_of_ble_eq_true rfl), (Nat.le_of_ble_eq_true rfl)⟩ dX8_bone_36 rfl rfl (Nat.le_of_ble_eq_true rfl) ⟨(Nat.le_of_ble_eq_true rfl), (Nat.le_of_ble_eq_true rfl)⟩ ?_
        refine V_if_eq (tgt := 50) dX8_bone_39 (by decide) (fun c39 => ?_) (fun c39 => ?_)
        · refine V_bipush (v := -2) dX8_bone_50 (by decide) ?_
          refine V_iret rfl dX8_bone_52 (Nat.le_of_ble_eq_true rfl) (Nat.le_of_ble_eq_true rfl) ?_
          have hno : ¬ badB z p l lo sp := by
            intro q
            first
              | exact b01_0 c47 q.1.2.2.2
              | exact b01_0 c39 q.1.2.2.1
              | exact b01_0 c32 ((i64_in l 1 100 rfl rfl).mpr q.1.2.1)
          have e : oBone z p l lo sp = (-2, z) := if_neg hno
          exact ⟨_, rfl, by rw [e], by rw [e]; exact z0, KeN.refl _ _, by rw [e]; exact hU⟩
        · refine V_iload dX8_bone_42 rfl ?_
          refine V_callS (As := [_]) (st := _) (c_X8_isTurn _ _) kX8_58 ⟨rfl, rfl, rfl⟩ ⟨(Nat.le_of_ble_eq_true rfl), (Nat.le_of_ble_eq_true rfl)⟩ dX8_bone_44 rfl rfl (Nat.le_of_ble_eq_true rfl) ⟨(Nat.le_of_ble_eq_true rfl), (Nat.le_of_ble_eq_true rfl)⟩ ?_
          refine V_if_ne (tgt := 53) dX8_bone_47 (by decide) (fun c47 => ?_) (fun c47 => ?_)
          · first | refine V_aload dX8_bone_53 rfl ?_ | refine V_aloadN dX8_bone_53 rfl ?_
            refine V_ifnullN (tgt := 70) dX8_bone_55 (by decide) ?_
            have hl := (i64_in l 1 100 rfl rfl).mp (b01_1 c32)
            have hlo := b01_1 c39
            have hsp := b01_1 c47
            have hok : badB z p l lo sp := ⟨⟨Or.inr c17, hl, hlo, hsp⟩, fun q => hx q.1⟩
            first | refine V_aload_n dX8_bone_70 rfl rfl ?_ | refine V_aload_nN dX8_bone_70 rfl rfl ?_
            first | refine V_getr (by first | exact z0.1.1.1.k _ rfl rfl | exact z0.1.1.kb hb) fX8_19 dX8_bone_71 (by exact z0.1.1.1.r _ _ rfl) ?_ | refine V_getrN (by first | exact z0.1.1.1.k _ rfl rfl | exact z0.1.1.kb hb) fX8_19 dX8_bone_71 (by exact z0.1.1.1.r _ _ rfl) ?_
            refine V_callV (As := []) (st := _) (c_X2_total (kN (zK z)) (zQ z) w z0.2.1) kX8_67 (by first | exact z0.1.1.1.k _ rfl rfl | exact z0.1.1.kb hb) ⟨rfl, rfl, rfl⟩ ⟨(Nat.le_of_ble_eq_true rfl), (Nat.le_of_ble_eq_true rfl)⟩ dX8_bone_74 rfl rfl (Nat.le_of_ble_eq_true rfl) ⟨(Nat.le_of_ble_eq_true rfl), (Nat.le_of_ble_eq_true rfl)⟩ ?_
            refine V_if_le (tgt := 83) dX8_bone_77 (by decide) (fun c77 => ?_) (fun c77 => ?_)
            · have h60 : sumN (zQ z).1 6 ≤ 6 * 30 := sumN_le 6 (fun i hi => z0.2.1.le hi)
              have h0 : ¬ 0 < sumN (zQ z).1 6 := fun q => nI_nle q (by omega) c77
              first | refine V_aload_n dX8_bone_83 rfl rfl ?_ | refine V_aload_nN dX8_bone_83 rfl rfl ?_
              first | refine V_getr (by first | exact z0.1.1.1.k _ rfl rfl | exact z0.1.1.kb hb) fX8_12 dX8_bone_84 (by exact z0.1.1.1.r _ _ rfl) ?_ | refine V_getrN (by first | exact z0.1.1.1.k _ rfl rfl | exact z0.1.1.kb hb) fX8_12 dX8_bone_84 (by exact z0.1.1.1.r _ _ rfl) ?_
              refine G_geti (by first | exact z0.1.1.1.k _ rfl rfl | exact z0.1.1.kb hb) fX8_71 dX8_bone_87 (by exact z0.1.1.size) ?_
              refine V_bipush (v := 10) dX8_bone_90 (by decide) ?_
              refine V_icmp_lt (tgt := 98) dX8_bone_92 (by decide) (fun c92 => ?_) (fun c92 => ?_)
              · have h10 : kN (zK z) < 10 := (nI_ltI (b := 10) (by have := z0.1.1.n10; omega) (by decide)).mp c92
                have hlN : bN l = l.toInt.toNat := rfl
                have hloN : bN lo < 36 := by unfold bN; omega
                have hspN : bN sp < 36 := by unfold bN; omega
                have hs0 : sumN (zQ z).1 6 = 0 := by omega
                refine V_sub (L' := [(0, .ref 20), (1, .int p), (2, .int (nI (bN l))), (3, .int (nI (bN lo))), (4, .int (nI (bN sp))), (5, .null)]) (by rw [← i32_nat (show 0 ≤ l.toInt by omega), ← i32_nat hlo.1, ← i32_nat hsp.1]; rfl) ?_
                first | refine V_aload_n dX8_bone_98 rfl rfl ?_ | refine V_aload_nN dX8_bone_98 rfl rfl ?_
                first | refine V_getr (by first | exact z0.1.1.1.k _ rfl rfl | exact z0.1.1.kb hb) fX8_12 dX8_bone_99 (by exact z0.1.1.1.r _ _ rfl) ?_ | refine V_getrN (by first | exact z0.1.1.1.k _ rfl rfl | exact z0.1.1.kb hb) fX8_12 dX8_bone_99 (by exact z0.1.1.1.r _ _ rfl) ?_
                refine V_new (n := (300 + kN (zK z))) nlX8_63 (by exact hU.frs (by unfold uN; omega) (by omega)) rfl (by repeat' first | exact (fun _ h => absurd h List.not_mem_nil) | refine List.forall_mem_cons.mpr ⟨?_, ?_⟩ | exact nRf_r (by omega) | rfl) (by repeat' first | exact (fun _ h => absurd h List.not_mem_nil) | refine List.forall_mem_cons.mpr ⟨?_, ?_⟩ | exact nRf_r (by omega) | rfl) dX8_bone_102 ⟨(Nat.le_of_ble_eq_true rfl), (Nat.le_of_ble_eq_true rfl)⟩ ?_
                refine V_dup dX8_bone_105 rfl ?_
                first | refine V_aload dX8_bone_106 rfl ?_ | refine V_aloadN dX8_bone_106 rfl ?_
                refine V_iload_n dX8_bone_108 rfl rfl ?_
                refine V_iload_n dX8_bone_109 rfl rfl ?_
                refine V_iload_n dX8_bone_110 rfl rfl ?_
                refine V_iload dX8_bone_111 rfl ?_
                refine V_callI (As := [_, _, _, _, _]) (st := _) (c_X0_init_n (300 + kN (zK z)) p (bN l) (bN lo) (bN sp) (nw w (300 + kN (zK z)) 1 0) (va_up_self _ _ _) hloN hspN) kX8_74 rfl rfl ⟨(Nat.le_of_ble_eq_true rfl), (Nat.le_of_ble_eq_true rfl)⟩ dX8_bone_113 rfl rfl (Nat.le_of_ble_eq_true rfl) ⟨(Nat.le_of_ble_eq_true rfl), (Nat.le_of_ble_eq_true rfl)⟩ (by exact Or.inl rfl) ?_
                have hs21 : wI (bnW (nw w (300 + kN (zK z)) 1 0) (300 + kN (zK z)) none p 1 (nI (bN l)) (nI (bN lo)) (nI (bN sp)) (nI (lastN (bN lo) (bN sp)))) 21 1 = nI (kN (zK z)) := (bn_I (by omega) 1).trans ((congrFun (va_up_ne _ _ (by omega)) 1).trans z0.1.1.size)
                have hr0 : wR (bnW (nw w (300 + kN (zK z)) 1 0) (300 + kN (zK z)) none p 1 (nI (bN l)) (nI (bN lo)) (nI (bN sp)) (nI (lastN (bN lo) (bN sp)))) (300 + kN (zK z)) 0 = none := if_pos ⟨rfl, rfl⟩
                refine V_callV (As := [_]) (st := _) (show Cc yX6_grow mX6_grow [.ref 21, .ref (300 + kN (zK z))] (bnW (nw w (300 + kN (zK z)) 1 0) (300 + kN (zK z)) none p 1 (nI (bN l)) (nI (bN lo)) (nI (bN sp)) (nI (lastN (bN lo) (bN sp)))) (fun r w2 => r = some (.int (nI (kN (zK z)))) ∧ w2 = grW w (zK z) none p 1 (bN l) (bN lo) (bN sp)) from c_X6_grow (kN (zK z)) (300 + kN (zK z)) none (bN lo) (bN l) _ (bn_lay z0.1.1.1 (by omega)) hs21 h10 (va_up_self _ _ _) (by omega) hr0 (fun q hq => by cases hq) bn_s.2.2.2.2.2.2 hloN bn_s.2.2.1) kX8_77 (by exact (bn_lay z0.1.1.1 (by omega)).k _ rfl rfl) ⟨rfl, rfl, rfl⟩ ⟨(Nat.le_of_ble_eq_true rfl), (Nat.le_of_ble_eq_true rfl)⟩ dX8_bone_116 rfl rfl (Nat.le_of_ble_eq_true rfl) ⟨(Nat.le_of_ble_eq_true rfl), (Nat.le_of_ble_eq_true rfl)⟩ ?_
                refine V_iret rfl dX8_bone_119 (Nat.le_of_ble_eq_true rfl) (Nat.le_of_ble_eq_true rfl) ?_
                have hoo : ∀ q, (none : Option Nat) = some q → q < kN (zK z) ∧ dep (zK z) q < 5 := fun q hq => by cases hq
                have hdp : (1 : Int32) = nI (dep (kAdd (zK z) none (bN l) (bN lo) (bN sp)) (kN (zK z))) := by
                  rw [dep_new z0.1.1.2.2.1 (fun p hp => (hoo p hp).1)]
                  rfl
                have e : oBone z p l lo sp = (nI (kN (zK z)), pK z (kAdd (zK z) none (bN l) (bN lo) (bN sp))) := by
                  unfold oBone
                  rw [if_pos hok, if_neg h0, if_neg (by omega)]
                  rw [if_pos c17]
                rw [e]
                have hpm : p = oI none := c17
                have hP := z0.1.add (o := none) (l := bN l) (lo := bN lo) (sp := bN sp) h10 hoo (by omega) (by omega) hloN hspN
                rw [← hdp, ← hpm] at hP
                exact ⟨_, rfl, rfl, z0.bone hP hs0 (fun a ha => gr_keep a (fun q => ha (by omega))) (by show kN (zK z) + 1 ≤ 10; omega), fun a ha => gr_keep a (fun q => ha (by unfold clA; omega)), Us.gr hU (fun p hp => (hoo p hp).1)⟩
              · refine V_bipush (v := -4) dX8_bone_95 (by decide) ?_
                refine V_iret rfl dX8_bone_97 (Nat.le_of_ble_eq_true rfl) (Nat.le_of_ble_eq_true rfl) ?_
                have h10 : 10 ≤ kN (zK z) := Nat.not_lt.mp (fun q => c92 (nI_lt (b := 10) q (by decide)))
                have e : oBone z p l lo sp = (-4, z) := by unfold oBone; rw [if_pos hok, if_neg h0, if_pos h10]
                exact ⟨_, rfl, by rw [e], by rw [e]; exact z0, KeN.refl _ _, by rw [e]; exact hU⟩
            · refine V_bipush (v := -3) dX8_bone_80 (by decide) ?_
              refine V_iret rfl dX8_bone_82 (Nat.le_of_ble_eq_true rfl) (Nat.le_of_ble_eq_true rfl) ?_
              have h0 : 0 < sumN (zQ z).1 6 := Nat.pos_of_ne_zero (fun q => c77 (by rw [q]; decide))
              have e : oBone z p l lo sp = (-3, z) := by unfold oBone; rw [if_pos hok, if_pos h0]
              exact ⟨_, rfl, by rw [e], by rw [e]; exact z0, KeN.refl _ _, by rw [e]; exact hU⟩
          · refine V_bipush (v := -2) dX8_bone_50 (by decide) ?_
            refine V_iret rfl dX8_bone_52 (Nat.le_of_ble_eq_true rfl) (Nat.le_of_ble_eq_true rfl) ?_
            have hno : ¬ badB z p l lo sp := by
              intro q
              first
                | exact b01_0 c47 q.1.2.2.2
                | exact b01_0 c39 q.1.2.2.1
                | exact b01_0 c32 ((i64_in l 1 100 rfl rfl).mpr q.1.2.1)
            have e : oBone z p l lo sp = (-2, z) := if_neg hno
            exact ⟨_, rfl, by rw [e], by rw [e]; exact z0, KeN.refl _ _, by rw [e]; exact hU⟩
    · refine V_bipush (v := -2) dX8_bone_20 (by decide) ?_
      refine V_iret rfl dX8_bone_22 (Nat.le_of_ble_eq_true rfl) (Nat.le_of_ble_eq_true rfl) ?_
      have hno : ¬ badB z p l lo sp := fun q => q.1.1.elim hx c17
      have e : oBone z p l lo sp = (-2, z) := if_neg hno
      exact ⟨_, rfl, by rw [e], by rw [e]; exact z0, KeN.refl _ _, by rw [e]; exact hU⟩
