/-! THE REFERENCE: costs, live -/
theorem md30 {v : Nat} (hv : v < 180) : nI v - nI v / 30 * 30 = nI (v % 30) := pk_rem (a := v) (d := 30) (by omega) (by decide) (by decide)
theorem dv30 {v : Nat} (hv : v < 180) : nI v / 30 = nI (v / 30) := pk_div (a := v) (d := 30) (by omega) (by decide) (by decide)
abbrev coI (a _ : Nat) : Prop := a = 424
/-- the reference's costs -/
def MCo (q : Cp) (nb jn : Nat) (w : Wd) : Prop := ∀ a b, a < 180 → b < 180 → wI w 424 (180 * a + b) = oI (eg q nb jn a b)
theorem MCo.kp {q : Cp} {nb jn : Nat} {SI SJ : Nat → Nat → Prop} {w w' : Wd} (h : MCo q nb jn w) (g : Kp SI SJ w w') (hI : ∀ a j, SI a j → ¬ a = 424) : MCo q nb jn w' := fun a b ha hb => (g.I (fun z => hI _ _ z rfl)).trans (h a b ha hb)
def CoI (q : Cp) (nb jn : Nat) (w : Wd) (a b : Nat) (w1 : Wd) : Prop := Kp coI noA w w1 ∧ ∀ c d, c < 180 → d < 180 → (c < a ∨ (c = a ∧ d < b)) → wI w1 424 (180 * c + d) = oI (eg q nb jn c d)
theorem CoI.row {q : Cp} {nb jn a : Nat} {w w1 : Wd} (h : CoI q nb jn w a 180 w1) : CoI q nb jn w (a + 1) 0 w1 := ⟨h.1, fun c d h1 h2 z => h.2 c d h1 h2 (by omega)⟩
theorem CoI.next {q : Cp} {nb jn a b : Nat} {w w1 : Wd} {x : Int32} (h : CoI q nb jn w a b w1) (ha : a < 180) (hb : b < 180) (hx : x = oI (eg q nb jn a b)) : CoI q nb jn w a (b + 1) (sI w1 424 (180 * a + b) x) := by
  refine ⟨h.1.trans (Kp.sI (SI := coI) (SJ := noA) w1 (show 424 = 424 from rfl) _), fun c d h1 h2 z => ?_⟩
  by_cases e : c = a ∧ d = b
  · rw [e.1, e.2, rdI_eq, hx]
  · rw [rdI_ne (by omega)]
    exact h.2 c d h1 h2 (by omega)
theorem sp180 (a b : Nat) : 180 * nI a + nI b = nI (180 * a + b) := by rw [show (180 : Int32) = nI 180 from rfl, pk_mul, nI_add]

set_option maxRecDepth 100000 in
theorem c_X9_isNode (nb : Nat) (q : Cp) (v : Nat) (w : Wd) (h : MCp nb q w) (hv : v < 180) : Cc yX9_isNode mX9_isNode [.ref 400, .int (nI v)] w (fun r w' => r = some (.int (b01 (v % 30 < q.1 (v / 30)))) ∧ w' = w) := by
  refine Cc.of (by decide) rfl rfl (Nat.le_of_ble_eq_true rfl) (fun X => ?_)
  change V _ X _ 0 [(0, _), (1, _)] [] _ (0, 0)
  refine V_iload_n dX9_isNode_0 rfl rfl ?_
  refine V_bipush (v := 30) dX9_isNode_1 (by decide) ?_
  refine V_irem dX9_isNode_3 (by decide) ?_
  rw [md30 hv]
  first | refine V_aload_n dX9_isNode_4 rfl rfl ?_ | refine V_aload_nN dX9_isNode_4 rfl rfl ?_
  first | refine V_getr (by exact h.1.k _ rfl rfl) fX9_51 dX9_isNode_5 (by exact (h.1.r 18 rfl (by decide) : _ = some 419)) ?_ | refine V_getrN (by exact h.1.k _ rfl rfl) fX9_51 dX9_isNode_5 (by exact (h.1.r 18 rfl (by decide) : _ = some 419)) ?_
  refine V_iload_n dX9_isNode_8 rfl rfl ?_
  refine V_bipush (v := 30) dX9_isNode_9 (by decide) ?_
  refine V_idiv dX9_isNode_11 (by decide) ?_
  rw [dv30 hv]
  refine G_iald (j := v / 30) (by exact h.1.k _ rfl rfl) (by rfl) (by exact h.1.lt 419 (m := 6) rfl rfl (by decide) rfl (by omega)) (by exact h.1.nlt 419 rfl rfl (by decide)) dX9_isNode_12 (by exact h.sz (c := v / 30) (by omega)) ?_
  refine V_icmp_ge (tgt := 20) dX9_isNode_13 (by decide) (fun c13 => ?_) (fun c13 => ?_)
  · refine V_iconst (v := 0) dX9_isNode_20 (by decide) ?_
    refine V_zret rfl dX9_isNode_21 (Nat.le_of_ble_eq_true rfl) (Nat.le_of_ble_eq_true rfl) rfl ?_
    have h30 := h.le (c := v / 30) (by omega)
    refine ok2i ?_
    first
      | exact (b01_t (Nat.not_le.mp (fun z => c13 (nI_le z (by omega))))).symm
      | exact (b01_f (fun z => nI_ge z (by omega) c13)).symm
  · refine V_iconst (v := 1) dX9_isNode_16 (by decide) ?_
    refine V_goto (tgt := 21) dX9_isNode_17 (by decide) ?_
    refine V_zret rfl dX9_isNode_21 (Nat.le_of_ble_eq_true rfl) (Nat.le_of_ble_eq_true rfl) rfl ?_
    have h30 := h.le (c := v / 30) (by omega)
    refine ok2i ?_
    first
      | exact (b01_t (Nat.not_le.mp (fun z => c13 (nI_le z (by omega))))).symm
      | exact (b01_f (fun z => nI_ge z (by omega) c13)).symm

set_option maxRecDepth 100000 in
theorem c_X9_findCosts (nb : Nat) (q : Cp) (jn : Nat) (w : Wd) (h : MCp nb q w) (hn : wI w 400 2 = nI nb) (hj : wI w 400 22 = nI jn) (hjn : jn ≤ 100) : Cc yX9_findCosts mX9_findCosts [.ref 400] w (fun r w' => r = none ∧ Kp coI noA w w' ∧ MCo q nb jn w') := by
  refine Cc.of (by decide) rfl rfl (Nat.le_of_ble_eq_true rfl) (fun X => ?_)
  change V _ X _ 0 [(0, _)] [] _ (0, 0)
  have outer : ∀ (d a : Nat) (w1 : Wd), a + d = 180 → CoI q nb jn w a 0 w1 → V mX9_findCosts X (mq mX9_findCosts X (fun r w' => r = none ∧ Kp coI noA w w' ∧ MCo q nb jn w')) 2 [(0, .ref 400), (1, .int (nI a))] [] w1 (0, 0) := by
    intro d
    induction d with
    | zero =>
      intro a w1 hd g1
      have h1 : MCp nb q w1 := h.kp g1.1 (fun a j z => by unfold coI at z; omega)
      obtain rfl : a = 180 := hd
      refine V_iload_n dX9_findCosts_2 rfl rfl ?_
      refine V_sipush (v := 180) dX9_findCosts_3 (by decide) ?_
      refine V_icmp_ge (tgt := 118) dX9_findCosts_6 (by decide) (fun c6 => ?_) (fun c6 => False.elim (by exact c6 (by decide)))
      refine V_vret rfl dX9_findCosts_118 (Nat.le_of_ble_eq_true rfl) (Nat.le_of_ble_eq_true rfl) ?_
      exact ⟨rfl, g1.1, fun a b ha hb => g1.2 a b ha hb (by omega)⟩
    | succ d ih =>
      intro a w1 hd g1
      have ha : a < 180 := by omega
      have inner : ∀ (e b : Nat) (w2 : Wd), b + e = 180 → CoI q nb jn w a b w2 → V mX9_findCosts X (mq mX9_findCosts X (fun r w' => r = none ∧ Kp coI noA w w' ∧ MCo q nb jn w')) 11 [(0, .ref 400), (1, .int (nI a)), (2, .int (nI b))] [] w2 (0, 0) := by
        intro e
        induction e with
        | zero =>
          intro b w2 hd g2
          have h1 : MCp nb q w2 := h.kp g2.1 (fun a j z => by unfold coI at z; omega)
          obtain rfl : b = 180 := hd
          refine V_iload_n dX9_findCosts_11 rfl rfl ?_
          refine V_sipush (v := 180) dX9_findCosts_12 (by decide) ?_
          refine V_icmp_ge (tgt := 112) dX9_findCosts_15 (by decide) (fun c15 => ?_) (fun c15 => False.elim (by exact c15 (by decide)))
          refine S_iinc (L' := [(0, _), (1, _)]) dX9_findCosts_112 rfl rfl rfl rfl ?_
          rw [nI_inc]
          refine V_goto (tgt := 2) dX9_findCosts_115 (by decide) ?_
          exact ih (a + 1) w2 (by omega) g2.row
        | succ e ihb =>
          intro b w2 hd g2
          have h1 : MCp nb q w2 := h.kp g2.1 (fun a j z => by unfold coI at z; omega)
          have hb : b < 180 := by omega
          have hn2 : wI w2 400 2 = nI nb := (g2.1.I (by unfold coI; omega)).trans hn
          have hj2 : wI w2 400 22 = nI jn := (g2.1.I (by unfold coI; omega)).trans hj
          refine V_iload_n dX9_findCosts_11 rfl rfl ?_
          refine V_sipush (v := 180) dX9_findCosts_12 (by decide) ?_
          refine V_icmp_ge (tgt := 112) dX9_findCosts_15 (by decide) (fun c15 => False.elim (by exact nI_ge (a := b) (b := 180) hb (by decide) c15)) (fun c15 => ?_)
          refine V_iconst (v := -1) dX9_findCosts_18 (by decide) ?_
          refine S_istore_n (L' := [(0, _), (1, _), (2, _), (3, _)]) dX9_findCosts_19 rfl rfl rfl ?_
          first | refine V_aload_n dX9_findCosts_20 rfl rfl ?_ | refine V_aload_nN dX9_findCosts_20 rfl rfl ?_
          refine V_iload_n dX9_findCosts_21 rfl rfl ?_
          refine V_callV (As := [_]) (st := _) (c_X9_isNode nb q a w2 h1 ha) kX9_212 (by exact h1.1.k _ rfl rfl) ⟨rfl, rfl, rfl⟩ ⟨(Nat.le_of_ble_eq_true rfl), (Nat.le_of_ble_eq_true rfl)⟩ dX9_findCosts_22 rfl rfl (Nat.le_of_ble_eq_true rfl) ⟨(Nat.le_of_ble_eq_true rfl), (Nat.le_of_ble_eq_true rfl)⟩ ?_
          refine V_if_eq (tgt := 93) dX9_findCosts_25 (by decide) (fun c25 => ?_) (fun c25 => ?_)
          · first | refine V_aload_n dX9_findCosts_93 rfl rfl ?_ | refine V_aload_nN dX9_findCosts_93 rfl rfl ?_
            first | refine V_getr (by exact h1.1.k _ rfl rfl) fX9_63 dX9_findCosts_94 (by exact (h1.1.r 23 rfl (by decide) : _ = some 424)) ?_ | refine V_getrN (by exact h1.1.k _ rfl rfl) fX9_63 dX9_findCosts_94 (by exact (h1.1.r 23 rfl (by decide) : _ = some 424)) ?_
            refine V_sipush (v := 180) dX9_findCosts_97 (by decide) ?_
            refine V_iload_n dX9_findCosts_100 rfl rfl ?_
            refine V_imul dX9_findCosts_101 ?_
            refine V_iload_n dX9_findCosts_102 rfl rfl ?_
            refine V_iadd dX9_findCosts_103 ?_
            rw [sp180]
            refine V_iload_n dX9_findCosts_104 rfl rfl ?_
            refine G_iast (j := 180 * a + b) (by exact h1.1.k _ rfl rfl) (by rfl) (by exact h1.1.lt 424 (m := 32400) rfl rfl (by decide) rfl (by omega)) (by exact h1.1.nlt 424 rfl rfl (by decide)) dX9_findCosts_105 ?_
            refine S_iinc (L' := [(0, _), (1, _), (2, _)]) dX9_findCosts_106 rfl rfl rfl rfl ?_
            rw [nI_inc]
            refine V_goto (tgt := 11) dX9_findCosts_109 (by decide) ?_
            refine ihb (b + 1) _ (by omega) (g2.next ha hb ?_)
            have hnN : ∀ v, v < 180 → ¬ v % 30 < q.1 (v / 30) → ¬ pP q v := fun v _ z p => z (of_decide_eq_true p.2)
            have hyN : ∀ v, v < 180 → v % 30 < q.1 (v / 30) → pP q v := fun v h z => ⟨h, decide_eq_true z⟩
            first
              | (have hab : a = b := (nI_eq (by omega) (by omega)).mp c38
                 unfold eg
                 rw [if_neg (fun z => z.2.2 hab)]
                 rfl)
              | (have hab : ¬ a = b := fun z => c38 (by rw [z])
                 rw [eg_y (hyN a ha (b01_1 c25)) (hyN b hb (b01_1 c33)) hab]
                 unfold wcN
                 first
                   | (have h84 : ¬ b % 30 = 0 := fun z => c84 (by rw [z]; rfl)
                      have h77 : b = a + 1 := (nI_eq (by omega) (by omega)).mp c77
                      rw [if_pos ⟨h77, h84⟩]
                      rfl)
                   | (have hno : ¬ (b = a + 1 ∧ ¬ b % 30 = 0) := by
                        rintro ⟨z1, z2⟩
                        first
                          | exact c77 (by rw [z1])
                          | exact z2 ((nI_eq (b := 0) (by omega) (by decide)).mp c84)
                      rw [if_neg hno]
                      first
                        | (have h61 := (nI_ltI (by omega) (show lkS q nb a b < 2 ^ 31 by have := lkS_le q nb a b; have := h.2.1; omega)).mp c61
                           rw [if_neg (by omega)]
                           rfl)
                        | (have h61 : ¬ jn < lkS q nb a b := fun z => c61 ((nI_ltI (by omega) (show lkS q nb a b < 2 ^ 31 by have := lkS_le q nb a b; have := h.2.1; omega)).mpr z)
                           rw [if_pos (by omega), show (2 : Int32) = nI 2 from rfl, nI_add]
                           rfl)))
              | (have h33 := hnN b hb (b01_0 c33)
                 unfold eg
                 rw [if_neg (fun z => h33 z.2.1)]
                 rfl)
              | (have h25 := hnN a ha (b01_0 c25)
                 unfold eg
                 rw [if_neg (fun z => h25 z.1)]
                 rfl)
          · first | refine V_aload_n dX9_findCosts_28 rfl rfl ?_ | refine V_aload_nN dX9_findCosts_28 rfl rfl ?_
            refine V_iload_n dX9_findCosts_29 rfl rfl ?_
            refine V_callV (As := [_]) (st := _) (c_X9_isNode nb q b w2 h1 hb) kX9_212 (by exact h1.1.k _ rfl rfl) ⟨rfl, rfl, rfl⟩ ⟨(Nat.le_of_ble_eq_true rfl), (Nat.le_of_ble_eq_true rfl)⟩ dX9_findCosts_30 rfl rfl (Nat.le_of_ble_eq_true rfl) ⟨(Nat.le_of_ble_eq_true rfl), (Nat.le_of_ble_eq_true rfl)⟩ ?_
            refine V_if_eq (tgt := 93) dX9_findCosts_33 (by decide) (fun c33 => ?_) (fun c33 => ?_)
            · first | refine V_aload_n dX9_findCosts_93 rfl rfl ?_ | refine V_aload_nN dX9_findCosts_93 rfl rfl ?_
              first | refine V_getr (by exact h1.1.k _ rfl rfl) fX9_63 dX9_findCosts_94 (by exact (h1.1.r 23 rfl (by decide) : _ = some 424)) ?_ | refine V_getrN (by exact h1.1.k _ rfl rfl) fX9_63 dX9_findCosts_94 (by exact (h1.1.r 23 rfl (by decide) : _ = some 424)) ?_
              refine V_sipush (v := 180) dX9_findCosts_97 (by decide) ?_
              refine V_iload_n dX9_findCosts_100 rfl rfl ?_
              refine V_imul dX9_findCosts_101 ?_
              refine V_iload_n dX9_findCosts_102 rfl rfl ?_
              refine V_iadd dX9_findCosts_103 ?_
              rw [sp180]
              refine V_iload_n dX9_findCosts_104 rfl rfl ?_
              refine G_iast (j := 180 * a + b) (by exact h1.1.k _ rfl rfl) (by rfl) (by exact h1.1.lt 424 (m := 32400) rfl rfl (by decide) rfl (by omega)) (by exact h1.1.nlt 424 rfl rfl (by decide)) dX9_findCosts_105 ?_
              refine S_iinc (L' := [(0, _), (1, _), (2, _)]) dX9_findCosts_106 rfl rfl rfl rfl ?_
              rw [nI_inc]
              refine V_goto (tgt := 11) dX9_findCosts_109 (by decide) ?_
              refine ihb (b + 1) _ (by omega) (g2.next ha hb ?_)
              have hnN : ∀ v, v < 180 → ¬ v % 30 < q.1 (v / 30) → ¬ pP q v := fun v _ z p => z (of_decide_eq_true p.2)
              have hyN : ∀ v, v < 180 → v % 30 < q.1 (v / 30) → pP q v := fun v h z => ⟨h, decide_eq_true z⟩
              first
                | (have hab : a = b := (nI_eq (by omega) (by omega)).mp c38
                   unfold eg
                   rw [if_neg (fun z => z.2.2 hab)]
                   rfl)
                | (have hab : ¬ a = b := fun z => c38 (by rw [z])
                   rw [eg_y (hyN a ha (b01_1 c25)) (hyN b hb (b01_1 c33)) hab]
                   unfold wcN
                   first
                     | (have h84 : ¬ b % 30 = 0 := fun z => c84 (by rw [z]; rfl)
                        have h77 : b = a + 1 := (nI_eq (by omega) (by omega)).mp c77
                        rw [if_pos ⟨h77, h84⟩]
                        rfl)
                     | (have hno : ¬ (b = a + 1 ∧ ¬ b % 30 = 0) := by
                          rintro ⟨z1, z2⟩
                          first
                            | exact c77 (by rw [z1])
                            | exact z2 ((nI_eq (b := 0) (by omega) (by decide)).mp c84)
                        rw [if_neg hno]
                        first
                          | (have h61 := (nI_ltI (by omega) (show lkS q nb a b < 2 ^ 31 by have := lkS_le q nb a b; have := h.2.1; omega)).mp c61
                             rw [if_neg (by omega)]
                             rfl)
                          | (have h61 : ¬ jn < lkS q nb a b := fun z => c61 ((nI_ltI (by omega) (show lkS q nb a b < 2 ^ 31 by have := lkS_le q nb a b; have := h.2.1; omega)).mpr z)
                             rw [if_pos (by omega), show (2 : Int32) = nI 2 from rfl, nI_add]
                             rfl)))
                | (have h33 := hnN b hb (b01_0 c33)
                   unfold eg
                   rw [if_neg (fun z => h33 z.2.1)]
                   rfl)
                | (have h25 := hnN a ha (b01_0 c25)
                   unfold eg
                   rw [if_neg (fun z => h25 z.1)]
                   rfl)
            · refine V_iload_n dX9_findCosts_36 rfl rfl ?_
              refine V_iload_n dX9_findCosts_37 rfl rfl ?_
              refine V_icmp_eq (tgt := 93) dX9_findCosts_38 (by decide) (fun c38 => ?_) (fun c38 => ?_)
              · first | refine V_aload_n dX9_findCosts_93 rfl rfl ?_ | refine V_aload_nN dX9_findCosts_93 rfl rfl ?_
                first | refine V_getr (by exact h1.1.k _ rfl rfl) fX9_63 dX9_findCosts_94 (by exact (h1.1.r 23 rfl (by decide) : _ = some 424)) ?_ | refine V_getrN (by exact h1.1.k _ rfl rfl) fX9_63 dX9_findCosts_94 (by exact (h1.1.r 23 rfl (by decide) : _ = some 424)) ?_
                refine V_sipush (v := 180) dX9_findCosts_97 (by decide) ?_
                refine V_iload_n dX9_findCosts_100 rfl rfl ?_
                refine V_imul dX9_findCosts_101 ?_
                refine V_iload_n dX9_findCosts_102 rfl rfl ?_
                refine V_iadd dX9_findCosts_103 ?_
                rw [sp180]
                refine V_iload_n dX9_findCosts_104 rfl rfl ?_
                refine G_iast (j := 180 * a + b) (by exact h1.1.k _ rfl rfl) (by rfl) (by exact h1.1.lt 424 (m := 32400) rfl rfl (by decide) rfl (by omega)) (by exact h1.1.nlt 424 rfl rfl (by decide)) dX9_findCosts_105 ?_
                refine S_iinc (L' := [(0, _), (1, _), (2, _)]) dX9_findCosts_106 rfl rfl rfl rfl ?_
                rw [nI_inc]
                refine V_goto (tgt := 11) dX9_findCosts_109 (by decide) ?_
                refine ihb (b + 1) _ (by omega) (g2.next ha hb ?_)
                have hnN : ∀ v, v < 180 → ¬ v % 30 < q.1 (v / 30) → ¬ pP q v := fun v _ z p => z (of_decide_eq_true p.2)
                have hyN : ∀ v, v < 180 → v % 30 < q.1 (v / 30) → pP q v := fun v h z => ⟨h, decide_eq_true z⟩
                first
                  | (have hab : a = b := (nI_eq (by omega) (by omega)).mp c38
                     unfold eg
                     rw [if_neg (fun z => z.2.2 hab)]
                     rfl)
                  | (have hab : ¬ a = b := fun z => c38 (by rw [z])
                     rw [eg_y (hyN a ha (b01_1 c25)) (hyN b hb (b01_1 c33)) hab]
                     unfold wcN
                     first
                       | (have h84 : ¬ b % 30 = 0 := fun z => c84 (by rw [z]; rfl)
                          have h77 : b = a + 1 := (nI_eq (by omega) (by omega)).mp c77
                          rw [if_pos ⟨h77, h84⟩]
                          rfl)
                       | (have hno : ¬ (b = a + 1 ∧ ¬ b % 30 = 0) := by
                            rintro ⟨z1, z2⟩
                            first
                              | exact c77 (by rw [z1])
                              | exact z2 ((nI_eq (b := 0) (by omega) (by decide)).mp c84)
                          rw [if_neg hno]
                          first
                            | (have h61 := (nI_ltI (by omega) (show lkS q nb a b < 2 ^ 31 by have := lkS_le q nb a b; have := h.2.1; omega)).mp c61
                               rw [if_neg (by omega)]
                               rfl)
                            | (have h61 : ¬ jn < lkS q nb a b := fun z => c61 ((nI_ltI (by omega) (show lkS q nb a b < 2 ^ 31 by have := lkS_le q nb a b; have := h.2.1; omega)).mpr z)
                               rw [if_pos (by omega), show (2 : Int32) = nI 2 from rfl, nI_add]
                               rfl)))
                  | (have h33 := hnN b hb (b01_0 c33)
                     unfold eg
                     rw [if_neg (fun z => h33 z.2.1)]
                     rfl)
                  | (have h25 := hnN a ha (b01_0 c25)
                     unfold eg
                     rw [if_neg (fun z => h25 z.1)]
                     rfl)
              · first | refine V_aload_n dX9_findCosts_41 rfl rfl ?_ | refine V_aload_nN dX9_findCosts_41 rfl rfl ?_
                refine V_bipush (v := 10) dX9_findCosts_42 (by decide) ?_
                refine V_iload_n dX9_findCosts_44 rfl rfl ?_
                refine V_imul dX9_findCosts_45 ?_
                rw [show (10 : Int32) * nI a = nI (10 * a) from by rw [show (10 : Int32) = nI 10 from rfl, pk_mul]]
                refine V_bipush (v := 10) dX9_findCosts_46 (by decide) ?_
                refine V_iload_n dX9_findCosts_48 rfl rfl ?_
                refine V_imul dX9_findCosts_49 ?_
                rw [show (10 : Int32) * nI b = nI (10 * b) from by rw [show (10 : Int32) = nI 10 from rfl, pk_mul]]
                refine V_callV (As := [_, _]) (st := _) (c_X9_likeness nb q a b w2 h1 hn2 ha hb (b01_1 c25) (b01_1 c33)) kX9_196 (by exact h1.1.k _ rfl rfl) ⟨rfl, rfl, rfl⟩ ⟨(Nat.le_of_ble_eq_true rfl), (Nat.le_of_ble_eq_true rfl)⟩ dX9_findCosts_50 rfl rfl (Nat.le_of_ble_eq_true rfl) ⟨(Nat.le_of_ble_eq_true rfl), (Nat.le_of_ble_eq_true rfl)⟩ ?_
                refine S_istore (L' := [(0, _), (1, _), (2, _), (4, _)]) dX9_findCosts_53 rfl rfl ?_
                refine V_iload dX9_findCosts_55 rfl ?_
                first | refine V_aload_n dX9_findCosts_57 rfl rfl ?_ | refine V_aload_nN dX9_findCosts_57 rfl rfl ?_
                refine G_geti (by exact h1.1.k _ rfl rfl) fX9_60 dX9_findCosts_58 (by exact hj2) ?_
                refine V_icmp_gt (tgt := 71) dX9_findCosts_61 (by decide) (fun c61 => ?_) (fun c61 => ?_)
                · refine V_iconst (v := -1) dX9_findCosts_71 (by decide) ?_
                  refine S_istore_n (L' := [(0, _), (1, _), (2, _), (3, _)]) dX9_findCosts_72 rfl rfl rfl ?_
                  refine V_iload_n dX9_findCosts_73 rfl rfl ?_
                  refine V_iload_n dX9_findCosts_74 rfl rfl ?_
                  refine V_iconst (v := 1) dX9_findCosts_75 (by decide) ?_
                  refine V_iadd dX9_findCosts_76 ?_
                  rw [nI_1]
                  refine V_icmp_ne (tgt := 91) dX9_findCosts_77 (by decide) (fun c77 => ?_) (fun c77 => ?_)
                  · refine V_iload_n dX9_findCosts_91 rfl rfl ?_
                    refine S_istore_n (L' := [(0, _), (1, _), (2, _), (3, _)]) dX9_findCosts_92 rfl rfl rfl ?_
                    first | refine V_aload_n dX9_findCosts_93 rfl rfl ?_ | refine V_aload_nN dX9_findCosts_93 rfl rfl ?_
                    first | refine V_getr (by exact h1.1.k _ rfl rfl) fX9_63 dX9_findCosts_94 (by exact (h1.1.r 23 rfl (by decide) : _ = some 424)) ?_ | refine V_getrN (by exact h1.1.k _ rfl rfl) fX9_63 dX9_findCosts_94 (by exact (h1.1.r 23 rfl (by decide) : _ = some 424)) ?_
                    refine V_sipush (v := 180) dX9_findCosts_97 (by decide) ?_
                    refine V_iload_n dX9_findCosts_100 rfl rfl ?_
                    refine V_imul dX9_findCosts_101 ?_
                    refine V_iload_n dX9_findCosts_102 rfl rfl ?_
                    refine V_iadd dX9_findCosts_103 ?_
                    rw [sp180]
                    refine V_iload_n dX9_findCosts_104 rfl rfl ?_
                    refine G_iast (j := 180 * a + b) (by exact h1.1.k _ rfl rfl) (by rfl) (by exact h1.1.lt 424 (m := 32400) rfl rfl (by decide) rfl (by omega)) (by exact h1.1.nlt 424 rfl rfl (by decide)) dX9_findCosts_105 ?_
                    refine S_iinc (L' := [(0, _), (1, _), (2, _)]) dX9_findCosts_106 rfl rfl rfl rfl ?_
                    rw [nI_inc]
                    refine V_goto (tgt := 11) dX9_findCosts_109 (by decide) ?_
                    refine ihb (b + 1) _ (by omega) (g2.next ha hb ?_)
                    have hnN : ∀ v, v < 180 → ¬ v % 30 < q.1 (v / 30) → ¬ pP q v := fun v _ z p => z (of_decide_eq_true p.2)
                    have hyN : ∀ v, v < 180 → v % 30 < q.1 (v / 30) → pP q v := fun v h z => ⟨h, decide_eq_true z⟩
                    first
                      | (have hab : a = b := (nI_eq (by omega) (by omega)).mp c38
                         unfold eg
                         rw [if_neg (fun z => z.2.2 hab)]
                         rfl)
                      | (have hab : ¬ a = b := fun z => c38 (by rw [z])
                         rw [eg_y (hyN a ha (b01_1 c25)) (hyN b hb (b01_1 c33)) hab]
                         unfold wcN
                         first
                           | (have h84 : ¬ b % 30 = 0 := fun z => c84 (by rw [z]; rfl)
                              have h77 : b = a + 1 := (nI_eq (by omega) (by omega)).mp c77
                              rw [if_pos ⟨h77, h84⟩]
                              rfl)
                           | (have hno : ¬ (b = a + 1 ∧ ¬ b % 30 = 0) := by
                                rintro ⟨z1, z2⟩
                                first
                                  | exact c77 (by rw [z1])
                                  | exact z2 ((nI_eq (b := 0) (by omega) (by decide)).mp c84)
                              rw [if_neg hno]
                              first
                                | (have h61 := (nI_ltI (by omega) (show lkS q nb a b < 2 ^ 31 by have := lkS_le q nb a b; have := h.2.1; omega)).mp c61
                                   rw [if_neg (by omega)]
                                   rfl)
                                | (have h61 : ¬ jn < lkS q nb a b := fun z => c61 ((nI_ltI (by omega) (show lkS q nb a b < 2 ^ 31 by have := lkS_le q nb a b; have := h.2.1; omega)).mpr z)
                                   rw [if_pos (by omega), show (2 : Int32) = nI 2 from rfl, nI_add]
                                   rfl)))
                      | (have h33 := hnN b hb (b01_0 c33)
                         unfold eg
                         rw [if_neg (fun z => h33 z.2.1)]
                         rfl)
                      | (have h25 := hnN a ha (b01_0 c25)
                         unfold eg
                         rw [if_neg (fun z => h25 z.1)]
                         rfl)
                  · refine V_iload_n dX9_findCosts_80 rfl rfl ?_
                    refine V_bipush (v := 30) dX9_findCosts_81 (by decide) ?_
                    refine V_irem dX9_findCosts_83 (by decide) ?_
                    rw [md30 hb]
                    refine V_if_eq (tgt := 91) dX9_findCosts_84 (by decide) (fun c84 => ?_) (fun c84 => ?_)
                    · refine V_iload_n dX9_findCosts_91 rfl rfl ?_
                      refine S_istore_n (L' := [(0, _), (1, _), (2, _), (3, _)]) dX9_findCosts_92 rfl rfl rfl ?_
                      first | refine V_aload_n dX9_findCosts_93 rfl rfl ?_ | refine V_aload_nN dX9_findCosts_93 rfl rfl ?_
                      first | refine V_getr (by exact h1.1.k _ rfl rfl) fX9_63 dX9_findCosts_94 (by exact (h1.1.r 23 rfl (by decide) : _ = some 424)) ?_ | refine V_getrN (by exact h1.1.k _ rfl rfl) fX9_63 dX9_findCosts_94 (by exact (h1.1.r 23 rfl (by decide) : _ = some 424)) ?_
                      refine V_sipush (v := 180) dX9_findCosts_97 (by decide) ?_
                      refine V_iload_n dX9_findCosts_100 rfl rfl ?_
                      refine V_imul dX9_findCosts_101 ?_
                      refine V_iload_n dX9_findCosts_102 rfl rfl ?_
                      refine V_iadd dX9_findCosts_103 ?_
                      rw [sp180]
                      refine V_iload_n dX9_findCosts_104 rfl rfl ?_
                      refine G_iast (j := 180 * a + b) (by exact h1.1.k _ rfl rfl) (by rfl) (by exact h1.1.lt 424 (m := 32400) rfl rfl (by decide) rfl (by omega)) (by exact h1.1.nlt 424 rfl rfl (by decide)) dX9_findCosts_105 ?_
                      refine S_iinc (L' := [(0, _), (1, _), (2, _)]) dX9_findCosts_106 rfl rfl rfl rfl ?_
                      rw [nI_inc]
                      refine V_goto (tgt := 11) dX9_findCosts_109 (by decide) ?_
                      refine ihb (b + 1) _ (by omega) (g2.next ha hb ?_)
                      have hnN : ∀ v, v < 180 → ¬ v % 30 < q.1 (v / 30) → ¬ pP q v := fun v _ z p => z (of_decide_eq_true p.2)
                      have hyN : ∀ v, v < 180 → v % 30 < q.1 (v / 30) → pP q v := fun v h z => ⟨h, decide_eq_true z⟩
                      first
                        | (have hab : a = b := (nI_eq (by omega) (by omega)).mp c38
                           unfold eg
                           rw [if_neg (fun z => z.2.2 hab)]
                           rfl)
                        | (have hab : ¬ a = b := fun z => c38 (by rw [z])
                           rw [eg_y (hyN a ha (b01_1 c25)) (hyN b hb (b01_1 c33)) hab]
                           unfold wcN
                           first
                             | (have h84 : ¬ b % 30 = 0 := fun z => c84 (by rw [z]; rfl)
                                have h77 : b = a + 1 := (nI_eq (by omega) (by omega)).mp c77
                                rw [if_pos ⟨h77, h84⟩]
                                rfl)
                             | (have hno : ¬ (b = a + 1 ∧ ¬ b % 30 = 0) := by
                                  rintro ⟨z1, z2⟩
                                  first
                                    | exact c77 (by rw [z1])
                                    | exact z2 ((nI_eq (b := 0) (by omega) (by decide)).mp c84)
                                rw [if_neg hno]
                                first
                                  | (have h61 := (nI_ltI (by omega) (show lkS q nb a b < 2 ^ 31 by have := lkS_le q nb a b; have := h.2.1; omega)).mp c61
                                     rw [if_neg (by omega)]
                                     rfl)
                                  | (have h61 : ¬ jn < lkS q nb a b := fun z => c61 ((nI_ltI (by omega) (show lkS q nb a b < 2 ^ 31 by have := lkS_le q nb a b; have := h.2.1; omega)).mpr z)
                                     rw [if_pos (by omega), show (2 : Int32) = nI 2 from rfl, nI_add]
                                     rfl)))
                        | (have h33 := hnN b hb (b01_0 c33)
                           unfold eg
                           rw [if_neg (fun z => h33 z.2.1)]
                           rfl)
                        | (have h25 := hnN a ha (b01_0 c25)
                           unfold eg
                           rw [if_neg (fun z => h25 z.1)]
                           rfl)
                    · refine V_iconst (v := 1) dX9_findCosts_87 (by decide) ?_
                      refine V_goto (tgt := 92) dX9_findCosts_88 (by decide) ?_
                      refine S_istore_n (L' := [(0, _), (1, _), (2, _), (3, _)]) dX9_findCosts_92 rfl rfl rfl ?_
                      first | refine V_aload_n dX9_findCosts_93 rfl rfl ?_ | refine V_aload_nN dX9_findCosts_93 rfl rfl ?_
                      first | refine V_getr (by exact h1.1.k _ rfl rfl) fX9_63 dX9_findCosts_94 (by exact (h1.1.r 23 rfl (by decide) : _ = some 424)) ?_ | refine V_getrN (by exact h1.1.k _ rfl rfl) fX9_63 dX9_findCosts_94 (by exact (h1.1.r 23 rfl (by decide) : _ = some 424)) ?_
                      refine V_sipush (v := 180) dX9_findCosts_97 (by decide) ?_
                      refine V_iload_n dX9_findCosts_100 rfl rfl ?_
                      refine V_imul dX9_findCosts_101 ?_
                      refine V_iload_n dX9_findCosts_102 rfl rfl ?_
                      refine V_iadd dX9_findCosts_103 ?_
                      rw [sp180]
                      refine V_iload_n dX9_findCosts_104 rfl rfl ?_
                      refine G_iast (j := 180 * a + b) (by exact h1.1.k _ rfl rfl) (by rfl) (by exact h1.1.lt 424 (m := 32400) rfl rfl (by decide) rfl (by omega)) (by exact h1.1.nlt 424 rfl rfl (by decide)) dX9_findCosts_105 ?_
                      refine S_iinc (L' := [(0, _), (1, _), (2, _)]) dX9_findCosts_106 rfl rfl rfl rfl ?_
                      rw [nI_inc]
                      refine V_goto (tgt := 11) dX9_findCosts_109 (by decide) ?_
                      refine ihb (b + 1) _ (by omega) (g2.next ha hb ?_)
                      have hnN : ∀ v, v < 180 → ¬ v % 30 < q.1 (v / 30) → ¬ pP q v := fun v _ z p => z (of_decide_eq_true p.2)
                      have hyN : ∀ v, v < 180 → v % 30 < q.1 (v / 30) → pP q v := fun v h z => ⟨h, decide_eq_true z⟩
                      first
                        | (have hab : a = b := (nI_eq (by omega) (by omega)).mp c38
                           unfold eg
                           rw [if_neg (fun z => z.2.2 hab)]
                           rfl)
                        | (have hab : ¬ a = b := fun z => c38 (by rw [z])
                           rw [eg_y (hyN a ha (b01_1 c25)) (hyN b hb (b01_1 c33)) hab]
                           unfold wcN
                           first
                             | (have h84 : ¬ b % 30 = 0 := fun z => c84 (by rw [z]; rfl)
                                have h77 : b = a + 1 := (nI_eq (by omega) (by omega)).mp c77
                                rw [if_pos ⟨h77, h84⟩]
                                rfl)
                             | (have hno : ¬ (b = a + 1 ∧ ¬ b % 30 = 0) := by
                                  rintro ⟨z1, z2⟩
                                  first
                                    | exact c77 (by rw [z1])
                                    | exact z2 ((nI_eq (b := 0) (by omega) (by decide)).mp c84)
                                rw [if_neg hno]
                                first
                                  | (have h61 := (nI_ltI (by omega) (show lkS q nb a b < 2 ^ 31 by have := lkS_le q nb a b; have := h.2.1; omega)).mp c61
                                     rw [if_neg (by omega)]
                                     rfl)
                                  | (have h61 : ¬ jn < lkS q nb a b := fun z => c61 ((nI_ltI (by omega) (show lkS q nb a b < 2 ^ 31 by have := lkS_le q nb a b; have := h.2.1; omega)).mpr z)
                                     rw [if_pos (by omega), show (2 : Int32) = nI 2 from rfl, nI_add]
                                     rfl)))
                        | (have h33 := hnN b hb (b01_0 c33)
                           unfold eg
                           rw [if_neg (fun z => h33 z.2.1)]
                           rfl)
                        | (have h25 := hnN a ha (b01_0 c25)
                           unfold eg
                           rw [if_neg (fun z => h25 z.1)]
                           rfl)
                · refine V_iconst (v := 2) dX9_findCosts_64 (by decide) ?_
                  refine V_iload dX9_findCosts_65 rfl ?_
                  refine V_iadd dX9_findCosts_67 ?_
                  refine V_goto (tgt := 72) dX9_findCosts_68 (by decide) ?_
                  refine S_istore_n (L' := [(0, _), (1, _), (2, _), (3, _)]) dX9_findCosts_72 rfl rfl rfl ?_
                  refine V_iload_n dX9_findCosts_73 rfl rfl ?_
                  refine V_iload_n dX9_findCosts_74 rfl rfl ?_
                  refine V_iconst (v := 1) dX9_findCosts_75 (by decide) ?_
                  refine V_iadd dX9_findCosts_76 ?_
                  rw [nI_1]
                  refine V_icmp_ne (tgt := 91) dX9_findCosts_77 (by decide) (fun c77 => ?_) (fun c77 => ?_)
                  · refine V_iload_n dX9_findCosts_91 rfl rfl ?_
                    refine S_istore_n (L' := [(0, _), (1, _), (2, _), (3, _)]) dX9_findCosts_92 rfl rfl rfl ?_
                    first | refine V_aload_n dX9_findCosts_93 rfl rfl ?_ | refine V_aload_nN dX9_findCosts_93 rfl rfl ?_
                    first | refine V_getr (by exact h1.1.k _ rfl rfl) fX9_63 dX9_findCosts_94 (by exact (h1.1.r 23 rfl (by decide) : _ = some 424)) ?_ | refine V_getrN (by exact h1.1.k _ rfl rfl) fX9_63 dX9_findCosts_94 (by exact (h1.1.r 23 rfl (by decide) : _ = some 424)) ?_
                    refine V_sipush (v := 180) dX9_findCosts_97 (by decide) ?_
                    refine V_iload_n dX9_findCosts_100 rfl rfl ?_
                    refine V_imul dX9_findCosts_101 ?_
                    refine V_iload_n dX9_findCosts_102 rfl rfl ?_
                    refine V_iadd dX9_findCosts_103 ?_
                    rw [sp180]
                    refine V_iload_n dX9_findCosts_104 rfl rfl ?_
                    refine G_iast (j := 180 * a + b) (by exact h1.1.k _ rfl rfl) (by rfl) (by exact h1.1.lt 424 (m := 32400) rfl rfl (by decide) rfl (by omega)) (by exact h1.1.nlt 424 rfl rfl (by decide)) dX9_findCosts_105 ?_
                    refine S_iinc (L' := [(0, _), (1, _), (2, _)]) dX9_findCosts_106 rfl rfl rfl rfl ?_
                    rw [nI_inc]
                    refine V_goto (tgt := 11) dX9_findCosts_109 (by decide) ?_
                    refine ihb (b + 1) _ (by omega) (g2.next ha hb ?_)
                    have hnN : ∀ v, v < 180 → ¬ v % 30 < q.1 (v / 30) → ¬ pP q v := fun v _ z p => z (of_decide_eq_true p.2)
                    have hyN : ∀ v, v < 180 → v % 30 < q.1 (v / 30) → pP q v := fun v h z => ⟨h, decide_eq_true z⟩
                    first
                      | (have hab : a = b := (nI_eq (by omega) (by omega)).mp c38
                         unfold eg
                         rw [if_neg (fun z => z.2.2 hab)]
                         rfl)
                      | (have hab : ¬ a = b := fun z => c38 (by rw [z])
                         rw [eg_y (hyN a ha (b01_1 c25)) (hyN b hb (b01_1 c33)) hab]
                         unfold wcN
                         first
                           | (have h84 : ¬ b % 30 = 0 := fun z => c84 (by rw [z]; rfl)
                              have h77 : b = a + 1 := (nI_eq (by omega) (by omega)).mp c77
                              rw [if_pos ⟨h77, h84⟩]
                              rfl)
                           | (have hno : ¬ (b = a + 1 ∧ ¬ b % 30 = 0) := by
                                rintro ⟨z1, z2⟩
                                first
                                  | exact c77 (by rw [z1])
                                  | exact z2 ((nI_eq (b := 0) (by omega) (by decide)).mp c84)
                              rw [if_neg hno]
                              first
                                | (have h61 := (nI_ltI (by omega) (show lkS q nb a b < 2 ^ 31 by have := lkS_le q nb a b; have := h.2.1; omega)).mp c61
                                   rw [if_neg (by omega)]
                                   rfl)
                                | (have h61 : ¬ jn < lkS q nb a b := fun z => c61 ((nI_ltI (by omega) (show lkS q nb a b < 2 ^ 31 by have := lkS_le q nb a b; have := h.2.1; omega)).mpr z)
                                   rw [if_pos (by omega), show (2 : Int32) = nI 2 from rfl, nI_add]
                                   rfl)))
                      | (have h33 := hnN b hb (b01_0 c33)
                         unfold eg
                         rw [if_neg (fun z => h33 z.2.1)]
                         rfl)
                      | (have h25 := hnN a ha (b01_0 c25)
                         unfold eg
                         rw [if_neg (fun z => h25 z.1)]
                         rfl)
                  · refine V_iload_n dX9_findCosts_80 rfl rfl ?_
                    refine V_bipush (v := 30) dX9_findCosts_81 (by decide) ?_
                    refine V_irem dX9_findCosts_83 (by decide) ?_
                    rw [md30 hb]
                    refine V_if_eq (tgt := 91) dX9_findCosts_84 (by decide) (fun c84 => ?_) (fun c84 => ?_)
                    · refine V_iload_n dX9_findCosts_91 rfl rfl ?_
                      refine S_istore_n (L' := [(0, _), (1, _), (2, _), (3, _)]) dX9_findCosts_92 rfl rfl rfl ?_
                      first | refine V_aload_n dX9_findCosts_93 rfl rfl ?_ | refine V_aload_nN dX9_findCosts_93 rfl rfl ?_
                      first | refine V_getr (by exact h1.1.k _ rfl rfl) fX9_63 dX9_findCosts_94 (by exact (h1.1.r 23 rfl (by decide) : _ = some 424)) ?_ | refine V_getrN (by exact h1.1.k _ rfl rfl) fX9_63 dX9_findCosts_94 (by exact (h1.1.r 23 rfl (by decide) : _ = some 424)) ?_
                      refine V_sipush (v := 180) dX9_findCosts_97 (by decide) ?_
                      refine V_iload_n dX9_findCosts_100 rfl rfl ?_
                      refine V_imul dX9_findCosts_101 ?_
                      refine V_iload_n dX9_findCosts_102 rfl rfl ?_
                      refine V_iadd dX9_findCosts_103 ?_
                      rw [sp180]
                      refine V_iload_n dX9_findCosts_104 rfl rfl ?_
                      refine G_iast (j := 180 * a + b) (by exact h1.1.k _ rfl rfl) (by rfl) (by exact h1.1.lt 424 (m := 32400) rfl rfl (by decide) rfl (by omega)) (by exact h1.1.nlt 424 rfl rfl (by decide)) dX9_findCosts_105 ?_
                      refine S_iinc (L' := [(0, _), (1, _), (2, _)]) dX9_findCosts_106 rfl rfl rfl rfl ?_
                      rw [nI_inc]
                      refine V_goto (tgt := 11) dX9_findCosts_109 (by decide) ?_
                      refine ihb (b + 1) _ (by omega) (g2.next ha hb ?_)
                      have hnN : ∀ v, v < 180 → ¬ v % 30 < q.1 (v / 30) → ¬ pP q v := fun v _ z p => z (of_decide_eq_true p.2)
                      have hyN : ∀ v, v < 180 → v % 30 < q.1 (v / 30) → pP q v := fun v h z => ⟨h, decide_eq_true z⟩
                      first
                        | (have hab : a = b := (nI_eq (by omega) (by omega)).mp c38
                           unfold eg
                           rw [if_neg (fun z => z.2.2 hab)]
                           rfl)
                        | (have hab : ¬ a = b := fun z => c38 (by rw [z])
                           rw [eg_y (hyN a ha (b01_1 c25)) (hyN b hb (b01_1 c33)) hab]
                           unfold wcN
                           first
                             | (have h84 : ¬ b % 30 = 0 := fun z => c84 (by rw [z]; rfl)
                                have h77 : b = a + 1 := (nI_eq (by omega) (by omega)).mp c77
                                rw [if_pos ⟨h77, h84⟩]
                                rfl)
                             | (have hno : ¬ (b = a + 1 ∧ ¬ b % 30 = 0) := by
                                  rintro ⟨z1, z2⟩
                                  first
                                    | exact c77 (by rw [z1])
                                    | exact z2 ((nI_eq (b := 0) (by omega) (by decide)).mp c84)
                                rw [if_neg hno]
                                first
                                  | (have h61 := (nI_ltI (by omega) (show lkS q nb a b < 2 ^ 31 by have := lkS_le q nb a b; have := h.2.1; omega)).mp c61
                                     rw [if_neg (by omega)]
                                     rfl)
                                  | (have h61 : ¬ jn < lkS q nb a b := fun z => c61 ((nI_ltI (by omega) (show lkS q nb a b < 2 ^ 31 by have := lkS_le q nb a b; have := h.2.1; omega)).mpr z)
                                     rw [if_pos (by omega), show (2 : Int32) = nI 2 from rfl, nI_add]
                                     rfl)))
                        | (have h33 := hnN b hb (b01_0 c33)
                           unfold eg
                           rw [if_neg (fun z => h33 z.2.1)]
                           rfl)
                        | (have h25 := hnN a ha (b01_0 c25)
                           unfold eg
                           rw [if_neg (fun z => h25 z.1)]
                           rfl)
                    · refine V_iconst (v := 1) dX9_findCosts_87 (by decide) ?_
                      refine V_goto (tgt := 92) dX9_findCosts_88 (by decide) ?_
                      refine S_istore_n (L' := [(0, _), (1, _), (2, _), (3, _)]) dX9_findCosts_92 rfl rfl rfl ?_
                      first | refine V_aload_n dX9_findCosts_93 rfl rfl ?_ | refine V_aload_nN dX9_findCosts_93 rfl rfl ?_
                      first | refine V_getr (by exact h1.1.k _ rfl rfl) fX9_63 dX9_findCosts_94 (by exact (h1.1.r 23 rfl (by decide) : _ = some 424)) ?_ | refine V_getrN (by exact h1.1.k _ rfl rfl) fX9_63 dX9_findCosts_94 (by exact (h1.1.r 23 rfl (by decide) : _ = some 424)) ?_
                      refine V_sipush (v := 180) dX9_findCosts_97 (by decide) ?_
                      refine V_iload_n dX9_findCosts_100 rfl rfl ?_
                      refine V_imul dX9_findCosts_101 ?_
                      refine V_iload_n dX9_findCosts_102 rfl rfl ?_
                      refine V_iadd dX9_findCosts_103 ?_
                      rw [sp180]
                      refine V_iload_n dX9_findCosts_104 rfl rfl ?_
                      refine G_iast (j := 180 * a + b) (by exact h1.1.k _ rfl rfl) (by rfl) (by exact h1.1.lt 424 (m := 32400) rfl rfl (by decide) rfl (by omega)) (by exact h1.1.nlt 424 rfl rfl (by decide)) dX9_findCosts_105 ?_
                      refine S_iinc (L' := [(0, _), (1, _), (2, _)]) dX9_findCosts_106 rfl rfl rfl rfl ?_
                      rw [nI_inc]
                      refine V_goto (tgt := 11) dX9_findCosts_109 (by decide) ?_
                      refine ihb (b + 1) _ (by omega) (g2.next ha hb ?_)
                      have hnN : ∀ v, v < 180 → ¬ v % 30 < q.1 (v / 30) → ¬ pP q v := fun v _ z p => z (of_decide_eq_true p.2)
                      have hyN : ∀ v, v < 180 → v % 30 < q.1 (v / 30) → pP q v := fun v h z => ⟨h, decide_eq_true z⟩
                      first
                        | (have hab : a = b := (nI_eq (by omega) (by omega)).mp c38
                           unfold eg
                           rw [if_neg (fun z => z.2.2 hab)]
                           rfl)
                        | (have hab : ¬ a = b := fun z => c38 (by rw [z])
                           rw [eg_y (hyN a ha (b01_1 c25)) (hyN b hb (b01_1 c33)) hab]
                           unfold wcN
                           first
                             | (have h84 : ¬ b % 30 = 0 := fun z => c84 (by rw [z]; rfl)
                                have h77 : b = a + 1 := (nI_eq (by omega) (by omega)).mp c77
                                rw [if_pos ⟨h77, h84⟩]
                                rfl)
                             | (have hno : ¬ (b = a + 1 ∧ ¬ b % 30 = 0) := by
                                  rintro ⟨z1, z2⟩
                                  first
                                    | exact c77 (by rw [z1])
                                    | exact z2 ((nI_eq (b := 0) (by omega) (by decide)).mp c84)
                                rw [if_neg hno]
                                first
                                  | (have h61 := (nI_ltI (by omega) (show lkS q nb a b < 2 ^ 31 by have := lkS_le q nb a b; have := h.2.1; omega)).mp c61
                                     rw [if_neg (by omega)]
                                     rfl)
                                  | (have h61 : ¬ jn < lkS q nb a b := fun z => c61 ((nI_ltI (by omega) (show lkS q nb a b < 2 ^ 31 by have := lkS_le q nb a b; have := h.2.1; omega)).mpr z)
                                     rw [if_pos (by omega), show (2 : Int32) = nI 2 from rfl, nI_add]
                                     rfl)))
                        | (have h33 := hnN b hb (b01_0 c33)
                           unfold eg
                           rw [if_neg (fun z => h33 z.2.1)]
                           rfl)
                        | (have h25 := hnN a ha (b01_0 c25)
                           unfold eg
                           rw [if_neg (fun z => h25 z.1)]
                           rfl)
      have h1 : MCp nb q w1 := h.kp g1.1 (fun a j z => by unfold coI at z; omega)
      refine V_iload_n dX9_findCosts_2 rfl rfl ?_
      refine V_sipush (v := 180) dX9_findCosts_3 (by decide) ?_
      refine V_icmp_ge (tgt := 118) dX9_findCosts_6 (by decide) (fun c6 => False.elim (by exact nI_ge (a := a) (b := 180) ha (by decide) c6)) (fun c6 => ?_)
      refine V_iconst (v := 0) dX9_findCosts_9 (by decide) ?_
      refine S_istore_n (L' := [(0, _), (1, _), (2, _)]) dX9_findCosts_10 rfl rfl rfl ?_
      exact inner 180 0 w1 rfl g1
  refine V_iconst (v := 0) dX9_findCosts_0 (by decide) ?_
  refine S_istore_n (L' := [(0, _), (1, _)]) dX9_findCosts_1 rfl rfl rfl ?_
  exact outer 180 0 w rfl ⟨Kp.refl _ _ _, fun c d _ _ z => by omega⟩
