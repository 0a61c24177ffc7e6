/-! Graph: steps, begin, nearestOpen -/
theorem wd_I {w : Wd} {I : Nat → Nat → Int32} (h : wI w = I) : w = (wK w, wN w, I, wJ w, wR w, wL w) := by subst h; rfl
def flF (x : Int32) (f : Nat → Int32) (i : Nat) : Nat → Int32 := fun j => if j < i then x else f j
theorem sV_0 (w : Wd) (n : Nat) (x : Int32) : sV w n (flF x (wI w n) 0) = w := by
  have e : (fun a j => if a = n then flF x (wI w n) 0 j else wI w a j) = wI w := funext fun a => funext fun j => by
    by_cases h : a = n
    · subst h; rw [if_pos rfl]; exact if_neg (by omega)
    · rw [if_neg h]
  unfold sV
  rw [e]
  rfl
theorem sV_s (w : Wd) (n i : Nat) (x : Int32) (f : Nat → Int32) : sI (sV w n (flF x f i)) n i x = sV w n (flF x f (i + 1)) := by
  have e : up2 (fun a j => if a = n then flF x f i j else wI w a j) n i x = (fun a j => if a = n then flF x f (i + 1) j else wI w a j) := funext fun a => funext fun j => by
    unfold up2 flF
    by_cases h : a = n
    · subst h
      simp only [true_and, if_true]
      by_cases h2 : j = i
      · subst h2; rw [if_pos rfl, if_pos (by omega)]
      · rw [if_neg h2]
        by_cases h3 : j < i
        · rw [if_pos h3, if_pos (by omega)]
        · rw [if_neg h3, if_neg (by omega)]
    · simp only [h, false_and, if_false]
  show (wK w, wN w, up2 (fun a j => if a = n then flF x f i j else wI w a j) n i x, wJ w, wR w, wL w) = _
  rw [e]
  rfl

set_option maxRecDepth 100000 in
theorem c_J7_fill_53178 (n m : Nat) (x : Int32) (w : Wd) (hK : wK w n = 11) (hN : wN w n = m) (hm : m < 2147483648) : Cc yJ7_fill_53178 mJ7_fill_53178 [.ref n, .int x] w (fun r w' => r = none ∧ w' = sV w n (flF x (wI w n) m)) := by
  refine Cc.ofF (by decide +kernel) rfl rfl (Nat.le_of_ble_eq_true rfl) (fun X => ?_)
  change V _ X _ 0 [(0, _), (1, _)] [] _ (0, 0)
  have loop : ∀ (d i : Nat), i + d = m → ∀ w1, w1 = sV w n (flF x (wI w n) i) → V mJ7_fill_53178 X (mq mJ7_fill_53178 X (fun r w' => r = none ∧ w' = sV w n (flF x (wI w n) m))) 5 [(0, .ref n), (1, .int x), (2, .int (nI i)), (3, .int (nI m))] [] w1 (0, 0) := by
    intro d
    induction d with
    | zero =>
      intro i hd w1 e1
      refine V_iload_n dJ7_fill_53178_5 rfl rfl ?_
      refine V_iload_n dJ7_fill_53178_6 rfl rfl ?_
      refine V_icmp_ge (tgt := 20) dJ7_fill_53178_7 (by decide) (fun c7 => ?_) (fun c7 => False.elim (by exact c7 (nI_le (by omega) (by omega))))
      refine V_vret rfl dJ7_fill_53178_20 (Nat.le_of_ble_eq_true rfl) (Nat.le_of_ble_eq_true rfl) ?_
      exact ⟨rfl, by rw [show m = i by omega]; exact e1⟩
    | succ d ih =>
      intro i hd w1 e1
      refine V_iload_n dJ7_fill_53178_5 rfl rfl ?_
      refine V_iload_n dJ7_fill_53178_6 rfl rfl ?_
      refine V_icmp_ge (tgt := 20) dJ7_fill_53178_7 (by decide) (fun c7 => False.elim (by exact nI_ge (a := i) (b := m) (by omega) (by omega) c7)) (fun c7 => ?_)
      first | refine V_aload_n dJ7_fill_53178_10 rfl rfl ?_ | refine V_aload_nN dJ7_fill_53178_10 rfl rfl ?_
      refine V_iload_n dJ7_fill_53178_11 rfl rfl ?_
      refine V_iload_n dJ7_fill_53178_12 rfl rfl ?_
      refine G_iast (j := i) (by rw [e1]; exact hK) (by rfl) (by rw [e1]; show i < wN w n; omega) (by rw [e1]; show wN w n < _; omega) dJ7_fill_53178_13 ?_
      refine S_iinc (L' := [(0, _), (1, _), (2, _), (3, _)]) dJ7_fill_53178_14 rfl rfl rfl rfl ?_
      rw [nI_inc]
      refine V_goto (tgt := 5) dJ7_fill_53178_17 (by decide) ?_
      exact ih (i + 1) (by omega) _ (by rw [e1, sV_s])
  refine V_iconst (v := 0) dJ7_fill_53178_0 (by decide) ?_
  refine S_istore_n (L' := [(0, _), (1, _), (2, _)]) dJ7_fill_53178_1 rfl rfl rfl ?_
  first | refine V_aload_n dJ7_fill_53178_2 rfl rfl ?_ | refine V_aload_nN dJ7_fill_53178_2 rfl rfl ?_
  refine V_alen (by exact hK) (congrArg Int32.ofNat hN) dJ7_fill_53178_3 ?_
  refine S_istore_n (L' := [(0, _), (1, _), (2, _), (3, _)]) dJ7_fill_53178_4 rfl rfl rfl ?_
  exact loop m 0 (by omega) w (sV_0 w n x).symm

/-- what a step from a to b costs, both there and not the same -/
def wcN (q : Cp) (nb jn a b : Nat) : Option Nat := if b = a + 1 ∧ ¬ b % 30 = 0 then some 1 else if lkS q nb a b ≤ jn then some (2 + lkS q nb a b) else none

set_option maxRecDepth 100000 in
theorem c_X3_wayCost (nb : Nat) (q : Cp) (jn a b : Nat) (w : Wd) (h : CpX nb q w) (hj : wI w 24 0 = nI jn) (hjn : jn ≤ 100) (ha : a < 180) (hpa : a % 30 < q.1 (a / 30)) (hb : b < 180) (hpb : b % 30 < q.1 (b / 30)) : Cc yX3_wayCost mX3_wayCost [.ref 24, .ref 22, .int (nI a), .int (nI b)] w (fun r w' => r = some (.int (oI (wcN q nb jn a b))) ∧ w' = w) := by
  refine Cc.of (by decide) rfl rfl (Nat.le_of_ble_eq_true rfl) (fun X => ?_)
  change V _ X _ 0 [(0, _), (1, _), (2, _), (3, _)] [] _ (0, 0)
  refine V_iload_n dX3_wayCost_0 rfl rfl ?_
  refine V_iload_n dX3_wayCost_1 rfl rfl ?_
  refine V_iconst (v := 1) dX3_wayCost_2 (by decide) ?_
  refine V_iadd dX3_wayCost_3 ?_
  refine V_icmp_ne (tgt := 16) dX3_wayCost_4 (by decide) (fun c4 => ?_) (fun c4 => ?_)
  · first | refine V_aload_n dX3_wayCost_16 rfl rfl ?_ | refine V_aload_nN dX3_wayCost_16 rfl rfl ?_
    refine V_iload_n dX3_wayCost_17 rfl rfl ?_
    refine V_callV (As := [_]) (st := _) (c_X2_findSlot_s nb q a w h ha hpa) kX3_45 (by exact h.1.k _ rfl rfl) ⟨rfl, rfl, rfl⟩ ⟨(Nat.le_of_ble_eq_true rfl), (Nat.le_of_ble_eq_true rfl)⟩ dX3_wayCost_18 rfl rfl (Nat.le_of_ble_eq_true rfl) ⟨(Nat.le_of_ble_eq_true rfl), (Nat.le_of_ble_eq_true rfl)⟩ ?_
    first | refine S_astore (L' := [(0, _), (1, _), (3, _), (4, _)]) dX3_wayCost_21 rfl rfl ?_ | refine S_astoreN (L' := [(0, _), (1, _), (3, _), (4, _)]) dX3_wayCost_21 rfl rfl ?_
    first | refine V_aload_n dX3_wayCost_23 rfl rfl ?_ | refine V_aload_nN dX3_wayCost_23 rfl rfl ?_
    refine V_iload_n dX3_wayCost_24 rfl rfl ?_
    refine V_callV (As := [_]) (st := _) (c_X2_findSlot_s nb q b w h hb hpb) kX3_45 (by exact h.1.k _ rfl rfl) ⟨rfl, rfl, rfl⟩ ⟨(Nat.le_of_ble_eq_true rfl), (Nat.le_of_ble_eq_true rfl)⟩ dX3_wayCost_25 rfl rfl (Nat.le_of_ble_eq_true rfl) ⟨(Nat.le_of_ble_eq_true rfl), (Nat.le_of_ble_eq_true rfl)⟩ ?_
    first | refine S_astore (L' := [(0, _), (1, _), (4, _), (5, _)]) dX3_wayCost_28 rfl rfl ?_ | refine S_astoreN (L' := [(0, _), (1, _), (4, _), (5, _)]) dX3_wayCost_28 rfl rfl ?_
    first | refine V_aload dX3_wayCost_30 rfl ?_ | refine V_aloadN dX3_wayCost_30 rfl ?_
    refine V_ifnull dX3_wayCost_32 ?_
    first | refine V_aload dX3_wayCost_35 rfl ?_ | refine V_aloadN dX3_wayCost_35 rfl ?_
    refine V_ifnonnull (tgt := 42) dX3_wayCost_37 (by decide) ?_
    first | refine V_aload_n dX3_wayCost_42 rfl rfl ?_ | refine V_aload_nN dX3_wayCost_42 rfl rfl ?_
    first | refine V_aload dX3_wayCost_43 rfl ?_ | refine V_aloadN dX3_wayCost_43 rfl ?_
    first | refine V_aload dX3_wayCost_45 rfl ?_ | refine V_aloadN dX3_wayCost_45 rfl ?_
    first | refine V_aload_n dX3_wayCost_47 rfl rfl ?_ | refine V_aload_nN dX3_wayCost_47 rfl rfl ?_
    refine G_geti (by exact h.1.k _ rfl rfl) fX3_9 dX3_wayCost_48 (by exact hj) ?_
    refine V_callVr (As := [_, _, _]) (st := _) (c_X2_likeness nb (tr q a) (tr q b) (100 + a) (100 + b) (nI jn) w h.1 h.2.1 (h.p1 ha hpa) (h.1.k1 ha) (h.1.n1 ha) (h.f1 ha hpa) (h.1.k1 hb) (h.1.n1 hb) (h.f1 hb hpb)) kX3_49 (by exact h.1.k _ rfl rfl) ⟨rfl, rfl, rfl⟩ ⟨(Nat.le_of_ble_eq_true rfl), (Nat.le_of_ble_eq_true rfl)⟩ dX3_wayCost_51 rfl rfl (Nat.le_of_ble_eq_true rfl) ⟨(Nat.le_of_ble_eq_true rfl), (Nat.le_of_ble_eq_true rfl)⟩ (fun v w1 hv => ?_)
    obtain ⟨rfl, m, rfl, hm1, hm2⟩ := hv
    refine S_istore (L' := [(0, _), (6, _)]) dX3_wayCost_54 rfl rfl ?_
    refine V_iload dX3_wayCost_56 rfl ?_
    first | refine V_aload_n dX3_wayCost_58 rfl rfl ?_ | refine V_aload_nN dX3_wayCost_58 rfl rfl ?_
    refine G_geti (by exact h.1.k _ rfl rfl) fX3_9 dX3_wayCost_59 (by exact hj) ?_
    refine V_icmp_gt (tgt := 72) dX3_wayCost_62 (by decide) (fun c62 => ?_) (fun c62 => ?_)
    · refine V_iconst (v := -1) dX3_wayCost_72 (by decide) ?_
      refine V_iret rfl dX3_wayCost_73 (Nat.le_of_ble_eq_true rfl) (Nat.le_of_ble_eq_true rfl) ?_
      have hno : ¬ (b = a + 1 ∧ ¬ b % 30 = 0) := fun z => by
        first | (rw [nI_1, nI_eq (by omega) (by omega)] at c4; exact c4 z.1) | (rw [show (30 : Int32) = nI 30 from rfl, pk_rem (by omega) (by decide) (by decide), show (0 : Int32) = nI 0 from rfl, nI_eq (by omega) (by decide)] at c11; exact z.2 c11)
      have hb9 : likN (tr q a) (tr q b) nb < 2147483648 := (by have l1 := lkS_le q nb a b; unfold lkS at l1; have := h.2.1; omega)
      first | (have hm3 := hm2 (Int32.not_lt.mp c62); rw [hm3, nI_ltI (by omega) hb9] at c62; refine ok2i ?_; unfold wcN lkS; rw [if_neg hno, if_pos (by omega), hm3]; exact nI_add 2 _) | (rw [nI_ltI (by omega) (by omega)] at c62; exact ok2i (by unfold wcN lkS; rw [if_neg hno, if_neg (by omega)]; rfl))
    · refine V_iconst (v := 2) dX3_wayCost_65 (by decide) ?_
      refine V_iload dX3_wayCost_66 rfl ?_
      refine V_iadd dX3_wayCost_68 ?_
      refine V_goto (tgt := 73) dX3_wayCost_69 (by decide) ?_
      refine V_iret rfl dX3_wayCost_73 (Nat.le_of_ble_eq_true rfl) (Nat.le_of_ble_eq_true rfl) ?_
      have hno : ¬ (b = a + 1 ∧ ¬ b % 30 = 0) := fun z => by
        first | (rw [nI_1, nI_eq (by omega) (by omega)] at c4; exact c4 z.1) | (rw [show (30 : Int32) = nI 30 from rfl, pk_rem (by omega) (by decide) (by decide), show (0 : Int32) = nI 0 from rfl, nI_eq (by omega) (by decide)] at c11; exact z.2 c11)
      have hb9 : likN (tr q a) (tr q b) nb < 2147483648 := (by have l1 := lkS_le q nb a b; unfold lkS at l1; have := h.2.1; omega)
      first | (have hm3 := hm2 (Int32.not_lt.mp c62); rw [hm3, nI_ltI (by omega) hb9] at c62; refine ok2i ?_; unfold wcN lkS; rw [if_neg hno, if_pos (by omega), hm3]; exact nI_add 2 _) | (rw [nI_ltI (by omega) (by omega)] at c62; exact ok2i (by unfold wcN lkS; rw [if_neg hno, if_neg (by omega)]; rfl))
  · refine V_iload_n dX3_wayCost_7 rfl rfl ?_
    refine V_bipush (v := 30) dX3_wayCost_8 (by decide) ?_
    refine V_irem dX3_wayCost_10 (by decide) ?_
    refine V_if_eq (tgt := 16) dX3_wayCost_11 (by decide) (fun c11 => ?_) (fun c11 => ?_)
    · first | refine V_aload_n dX3_wayCost_16 rfl rfl ?_ | refine V_aload_nN dX3_wayCost_16 rfl rfl ?_
      refine V_iload_n dX3_wayCost_17 rfl rfl ?_
      refine V_callV (As := [_]) (st := _) (c_X2_findSlot_s nb q a w h ha hpa) kX3_45 (by exact h.1.k _ rfl rfl) ⟨rfl, rfl, rfl⟩ ⟨(Nat.le_of_ble_eq_true rfl), (Nat.le_of_ble_eq_true rfl)⟩ dX3_wayCost_18 rfl rfl (Nat.le_of_ble_eq_true rfl) ⟨(Nat.le_of_ble_eq_true rfl), (Nat.le_of_ble_eq_true rfl)⟩ ?_
      first | refine S_astore (L' := [(0, _), (1, _), (3, _), (4, _)]) dX3_wayCost_21 rfl rfl ?_ | refine S_astoreN (L' := [(0, _), (1, _), (3, _), (4, _)]) dX3_wayCost_21 rfl rfl ?_
      first | refine V_aload_n dX3_wayCost_23 rfl rfl ?_ | refine V_aload_nN dX3_wayCost_23 rfl rfl ?_
      refine V_iload_n dX3_wayCost_24 rfl rfl ?_
      refine V_callV (As := [_]) (st := _) (c_X2_findSlot_s nb q b w h hb hpb) kX3_45 (by exact h.1.k _ rfl rfl) ⟨rfl, rfl, rfl⟩ ⟨(Nat.le_of_ble_eq_true rfl), (Nat.le_of_ble_eq_true rfl)⟩ dX3_wayCost_25 rfl rfl (Nat.le_of_ble_eq_true rfl) ⟨(Nat.le_of_ble_eq_true rfl), (Nat.le_of_ble_eq_true rfl)⟩ ?_
      first | refine S_astore (L' := [(0, _), (1, _), (4, _), (5, _)]) dX3_wayCost_28 rfl rfl ?_ | refine S_astoreN (L' := [(0, _), (1, _), (4, _), (5, _)]) dX3_wayCost_28 rfl rfl ?_
      first | refine V_aload dX3_wayCost_30 rfl ?_ | refine V_aloadN dX3_wayCost_30 rfl ?_
      refine V_ifnull dX3_wayCost_32 ?_
      first | refine V_aload dX3_wayCost_35 rfl ?_ | refine V_aloadN dX3_wayCost_35 rfl ?_
      refine V_ifnonnull (tgt := 42) dX3_wayCost_37 (by decide) ?_
      first | refine V_aload_n dX3_wayCost_42 rfl rfl ?_ | refine V_aload_nN dX3_wayCost_42 rfl rfl ?_
      first | refine V_aload dX3_wayCost_43 rfl ?_ | refine V_aloadN dX3_wayCost_43 rfl ?_
      first | refine V_aload dX3_wayCost_45 rfl ?_ | refine V_aloadN dX3_wayCost_45 rfl ?_
      first | refine V_aload_n dX3_wayCost_47 rfl rfl ?_ | refine V_aload_nN dX3_wayCost_47 rfl rfl ?_
      refine G_geti (by exact h.1.k _ rfl rfl) fX3_9 dX3_wayCost_48 (by exact hj) ?_
      refine V_callVr (As := [_, _, _]) (st := _) (c_X2_likeness nb (tr q a) (tr q b) (100 + a) (100 + b) (nI jn) w h.1 h.2.1 (h.p1 ha hpa) (h.1.k1 ha) (h.1.n1 ha) (h.f1 ha hpa) (h.1.k1 hb) (h.1.n1 hb) (h.f1 hb hpb)) kX3_49 (by exact h.1.k _ rfl rfl) ⟨rfl, rfl, rfl⟩ ⟨(Nat.le_of_ble_eq_true rfl), (Nat.le_of_ble_eq_true rfl)⟩ dX3_wayCost_51 rfl rfl (Nat.le_of_ble_eq_true rfl) ⟨(Nat.le_of_ble_eq_true rfl), (Nat.le_of_ble_eq_true rfl)⟩ (fun v w1 hv => ?_)
      obtain ⟨rfl, m, rfl, hm1, hm2⟩ := hv
      refine S_istore (L' := [(0, _), (6, _)]) dX3_wayCost_54 rfl rfl ?_
      refine V_iload dX3_wayCost_56 rfl ?_
      first | refine V_aload_n dX3_wayCost_58 rfl rfl ?_ | refine V_aload_nN dX3_wayCost_58 rfl rfl ?_
      refine G_geti (by exact h.1.k _ rfl rfl) fX3_9 dX3_wayCost_59 (by exact hj) ?_
      refine V_icmp_gt (tgt := 72) dX3_wayCost_62 (by decide) (fun c62 => ?_) (fun c62 => ?_)
      · refine V_iconst (v := -1) dX3_wayCost_72 (by decide) ?_
        refine V_iret rfl dX3_wayCost_73 (Nat.le_of_ble_eq_true rfl) (Nat.le_of_ble_eq_true rfl) ?_
        have hno : ¬ (b = a + 1 ∧ ¬ b % 30 = 0) := fun z => by
          first | (rw [nI_1, nI_eq (by omega) (by omega)] at c4; exact c4 z.1) | (rw [show (30 : Int32) = nI 30 from rfl, pk_rem (by omega) (by decide) (by decide), show (0 : Int32) = nI 0 from rfl, nI_eq (by omega) (by decide)] at c11; exact z.2 c11)
        have hb9 : likN (tr q a) (tr q b) nb < 2147483648 := (by have l1 := lkS_le q nb a b; unfold lkS at l1; have := h.2.1; omega)
        first | (have hm3 := hm2 (Int32.not_lt.mp c62); rw [hm3, nI_ltI (by omega) hb9] at c62; refine ok2i ?_; unfold wcN lkS; rw [if_neg hno, if_pos (by omega), hm3]; exact nI_add 2 _) | (rw [nI_ltI (by omega) (by omega)] at c62; exact ok2i (by unfold wcN lkS; rw [if_neg hno, if_neg (by omega)]; rfl))
      · refine V_iconst (v := 2) dX3_wayCost_65 (by decide) ?_
        refine V_iload dX3_wayCost_66 rfl ?_
        refine V_iadd dX3_wayCost_68 ?_
        refine V_goto (tgt := 73) dX3_wayCost_69 (by decide) ?_
        refine V_iret rfl dX3_wayCost_73 (Nat.le_of_ble_eq_true rfl) (Nat.le_of_ble_eq_true rfl) ?_
        have hno : ¬ (b = a + 1 ∧ ¬ b % 30 = 0) := fun z => by
          first | (rw [nI_1, nI_eq (by omega) (by omega)] at c4; exact c4 z.1) | (rw [show (30 : Int32) = nI 30 from rfl, pk_rem (by omega) (by decide) (by decide), show (0 : Int32) = nI 0 from rfl, nI_eq (by omega) (by decide)] at c11; exact z.2 c11)
        have hb9 : likN (tr q a) (tr q b) nb < 2147483648 := (by have l1 := lkS_le q nb a b; unfold lkS at l1; have := h.2.1; omega)
        first | (have hm3 := hm2 (Int32.not_lt.mp c62); rw [hm3, nI_ltI (by omega) hb9] at c62; refine ok2i ?_; unfold wcN lkS; rw [if_neg hno, if_pos (by omega), hm3]; exact nI_add 2 _) | (rw [nI_ltI (by omega) (by omega)] at c62; exact ok2i (by unfold wcN lkS; rw [if_neg hno, if_neg (by omega)]; rfl))
    · refine V_iconst (v := 1) dX3_wayCost_14 (by decide) ?_
      refine V_iret rfl dX3_wayCost_15 (Nat.le_of_ble_eq_true rfl) (Nat.le_of_ble_eq_true rfl) ?_
      rw [nI_1, nI_eq (by omega) (by omega)] at c4
      rw [show (30 : Int32) = nI 30 from rfl, pk_rem (by omega) (by decide) (by decide), show (0 : Int32) = nI 0 from rfl, nI_eq (by omega) (by decide)] at c11
      exact ok2i (by unfold wcN; rw [if_pos ⟨c4, c11⟩]; rfl)
