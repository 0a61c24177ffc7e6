/-! Graph: what is joined; costs of steps -/
/-- there is such a frame; its turns -/
def pN (q : Cp) (s : Nat) : Bool := decide (s % 30 < q.1 (s / 30))
def tr (q : Cp) (s : Nat) : Nat → Nat := q.2 (s / 30) (s % 30)
def lkS (q : Cp) (nb s t : Nat) : Nat := likN (tr q s) (tr q t) nb
theorem LayX.k1 {w : Wd} (h : LayX w) {s : Nat} (hs : s < 180) : wK w (100 + s) = 11 := by
  have := h.kr (c := s / 30) (f := s % 30) (by omega) (by omega)
  rwa [Nat.div_add_mod] at this
theorem LayX.n1 {w : Wd} (h : LayX w) {s : Nat} (hs : s < 180) : wN w (100 + s) = 10 := by
  have := h.nr (c := s / 30) (f := s % 30) (by omega) (by omega)
  rwa [Nat.div_add_mod] at this
theorem CpX.f1 {nb : Nat} {q : Cp} {w : Wd} (h : CpX nb q w) {s : Nat} (hs : s < 180) (hp : s % 30 < q.1 (s / 30)) : ∀ b, b < nb → wI w (100 + s) b = nI (tr q s b) ∧ tr q s b < 36 := fun b hb => by
  have := h.fr (c := s / 30) (f := s % 30) (b := b) (by omega) hp hb
  rwa [Nat.div_add_mod] at this
theorem CpX.p1 {nb : Nat} {q : Cp} {w : Wd} (h : CpX nb q w) {s : Nat} (hs : s < 180) (hp : s % 30 < q.1 (s / 30)) : wI w 22 1 = nI nb := h.pos (c := s / 30) (by omega) hp
def anyB (p : Nat → Bool) : Nat → Bool
  | 0 => false
  | n + 1 => anyB p n || p n
theorem anyB_t {p : Nat → Bool} {b : Nat} (h : p b = true) : ∀ {n : Nat}, b < n → anyB p n = true
  | n + 1, hb => by
    rw [anyB]
    by_cases e : b = n
    · rw [← e, h, Bool.or_true]
    · rw [anyB_t h (by omega), Bool.true_or]
theorem anyB_s {p : Nat → Bool} {n : Nat} (h : anyB p n = false) (h2 : p n = false) : anyB p (n + 1) = false := by rw [anyB, h, h2]; rfl
/-- frame s is like enough to another one -/
def joB (q : Cp) (nb jn s o : Nat) : Bool := decide (o % 30 < q.1 (o / 30) ∧ o ≠ s ∧ lkS q nb s o ≤ jn)
def jnB (q : Cp) (nb jn s : Nat) : Bool := anyB (joB q nb jn s) 180
def ljN (p : Nat → Bool) : Nat → Option Nat
  | 0 => none
  | f + 1 => if p f = true then some f else ljN p f
/-- the last joined frame of a clip -/
def ljC (q : Cp) (nb jn c : Nat) : Option Nat := ljN (fun f => decide (f < q.1 c) && jnB q nb jn (30 * c + f)) 30
theorem lkS_le (q : Cp) (nb s t : Nat) : lkS q nb s t ≤ nb * 18 := likN_le _ _ _

set_option maxRecDepth 100000 in
theorem c_X3_isJoined (nb : Nat) (q : Cp) (jn s : Nat) (w : Wd) (h : CpX nb q w) (hj : wI w 24 0 = nI jn) (hjn : jn ≤ 100) (hs : s < 180) (hps : s % 30 < q.1 (s / 30)) : Cc yX3_isJoined mX3_isJoined [.ref 24, .ref 22, .ref (100 + s), .int (nI s)] w (fun r w' => r = some (.int (bI (jnB q nb jn s))) ∧ w' = w) := by
  refine Cc.of (by decide) rfl rfl (Nat.le_of_ble_eq_true rfl) (fun X => ?_)
  change V _ X _ 0 [(0, _), (1, _), (2, _), (3, _)] [] _ (0, 0)
  have loop : ∀ (d o : Nat), o + d = 180 → anyB (joB q nb jn s) o = false → V mX3_isJoined X (mq mX3_isJoined X (fun r w' => r = some (.int (bI (jnB q nb jn s))) ∧ w' = w)) 3 [(0, .ref 24), (1, .ref 22), (2, .ref (100 + s)), (3, .int (nI s)), (4, .int (nI o))] [] w (0, 0) := by
    intro d
    induction d with
    | zero =>
      intro o hd hall
      obtain rfl : o = 180 := hd
      refine V_iload dX3_isJoined_3 rfl ?_
      refine V_sipush (v := 180) dX3_isJoined_5 (by decide) ?_
      refine V_icmp_ge (tgt := 56) dX3_isJoined_8 (by decide) (fun c8 => ?_) (fun c8 => False.elim (by exact c8 (by decide)))
      refine V_iconst (v := 0) dX3_isJoined_56 (by decide) ?_
      refine V_zret rfl dX3_isJoined_57 (Nat.le_of_ble_eq_true rfl) (Nat.le_of_ble_eq_true rfl) rfl ?_
      exact ok2i (by rw [show jnB q nb jn s = false from hall]; rfl)
    | succ d ih =>
      intro o hd hall
      by_cases hp : o % 30 < q.1 (o / 30)
      · refine V_iload dX3_isJoined_3 rfl ?_
        refine V_sipush (v := 180) dX3_isJoined_5 (by decide) ?_
        refine V_icmp_ge (tgt := 56) dX3_isJoined_8 (by decide) (fun c8 => False.elim (by exact nI_ge (a := o) (b := 180) (by omega) (by decide) c8)) (fun c8 => ?_)
        first | refine V_aload_n dX3_isJoined_11 rfl rfl ?_ | refine V_aload_nN dX3_isJoined_11 rfl rfl ?_
        refine V_iload dX3_isJoined_12 rfl ?_
        refine V_callV (As := [_]) (st := _) (c_X2_findSlot_s nb q o w h (by omega) hp) kX3_45 (by first | exact h.1.k _ rfl rfl) ⟨rfl, rfl, rfl⟩ ⟨(Nat.le_of_ble_eq_true rfl), (Nat.le_of_ble_eq_true rfl)⟩ dX3_isJoined_14 rfl rfl (Nat.le_of_ble_eq_true rfl) ⟨(Nat.le_of_ble_eq_true rfl), (Nat.le_of_ble_eq_true rfl)⟩ ?_
        first | refine S_astore (L' := [(0, _), (1, _), (2, _), (3, _), (4, _), (5, _)]) dX3_isJoined_17 rfl rfl ?_ | refine S_astoreN (L' := [(0, _), (1, _), (2, _), (3, _), (4, _), (5, _)]) dX3_isJoined_17 rfl rfl ?_
        first | refine V_aload dX3_isJoined_19 rfl ?_ | refine V_aloadN dX3_isJoined_19 rfl ?_
        refine V_ifnull dX3_isJoined_21 ?_
        refine V_iload dX3_isJoined_24 rfl ?_
        refine V_iload_n dX3_isJoined_26 rfl rfl ?_
        refine V_icmp_eq (tgt := 50) dX3_isJoined_27 (by decide) (fun c27 => ?_) (fun c27 => ?_)
        · refine S_iinc (L' := [(0, _), (1, _), (2, _), (3, _), (4, _)]) dX3_isJoined_50 rfl rfl rfl rfl ?_
          rw [nI_inc]
          refine V_goto (tgt := 3) dX3_isJoined_53 (by decide) ?_
          first | (rw [nI_ltI (by omega) (Nat.lt_of_le_of_lt hm1 (by have l1 := lkS_le q nb s o; unfold lkS at l1; have := h.2.1; omega))] at c45; exact ih (o + 1) (by omega) (anyB_s hall (by unfold joB lkS; exact decide_eq_false (fun z => by have := z.2.2; omega)))) | (rw [nI_eq (by omega) (by omega)] at c27; exact ih (o + 1) (by omega) (anyB_s hall (by simp [joB, c27])))
        · first | refine V_aload_n dX3_isJoined_30 rfl rfl ?_ | refine V_aload_nN dX3_isJoined_30 rfl rfl ?_
          first | refine V_aload_n dX3_isJoined_31 rfl rfl ?_ | refine V_aload_nN dX3_isJoined_31 rfl rfl ?_
          first | refine V_aload dX3_isJoined_32 rfl ?_ | refine V_aloadN dX3_isJoined_32 rfl ?_
          first | refine V_aload_n dX3_isJoined_34 rfl rfl ?_ | refine V_aload_nN dX3_isJoined_34 rfl rfl ?_
          refine G_geti (by first | exact h.1.k _ rfl rfl) fX3_9 dX3_isJoined_35 (by exact hj) ?_
          refine V_callVr (As := [_, _, _]) (st := _) (c_X2_likeness nb (tr q s) (tr q o) (100 + s) (100 + o) (nI jn) w h.1 h.2.1 (h.p1 (by omega) hp) (h.1.k1 hs) (h.1.n1 hs) (h.f1 hs hps) (h.1.k1 (by omega)) (h.1.n1 (by omega)) (h.f1 (by omega) hp)) kX3_49 (by first | exact h.1.k _ rfl rfl) ⟨rfl, rfl, rfl⟩ ⟨(Nat.le_of_ble_eq_true rfl), (Nat.le_of_ble_eq_true rfl)⟩ dX3_isJoined_38 rfl rfl (Nat.le_of_ble_eq_true rfl) ⟨(Nat.le_of_ble_eq_true rfl), (Nat.le_of_ble_eq_true rfl)⟩ (fun v w1 hv => ?_)
          obtain ⟨rfl, m, rfl, hm1, hm2⟩ := hv
          first | refine V_aload_n dX3_isJoined_41 rfl rfl ?_ | refine V_aload_nN dX3_isJoined_41 rfl rfl ?_
          refine G_geti (by first | exact h.1.k _ rfl rfl) fX3_9 dX3_isJoined_42 (by exact hj) ?_
          refine V_icmp_gt (tgt := 50) dX3_isJoined_45 (by decide) (fun c45 => ?_) (fun c45 => ?_)
          · refine S_iinc (L' := [(0, _), (1, _), (2, _), (3, _), (4, _)]) dX3_isJoined_50 rfl rfl rfl rfl ?_
            rw [nI_inc]
            refine V_goto (tgt := 3) dX3_isJoined_53 (by decide) ?_
            first | (rw [nI_ltI (by omega) (Nat.lt_of_le_of_lt hm1 (by have l1 := lkS_le q nb s o; unfold lkS at l1; have := h.2.1; omega))] at c45; exact ih (o + 1) (by omega) (anyB_s hall (by unfold joB lkS; exact decide_eq_false (fun z => by have := z.2.2; omega)))) | (rw [nI_eq (by omega) (by omega)] at c27; exact ih (o + 1) (by omega) (anyB_s hall (by simp [joB, c27])))
          · refine V_iconst (v := 1) dX3_isJoined_48 (by decide) ?_
            refine V_zret rfl dX3_isJoined_49 (Nat.le_of_ble_eq_true rfl) (Nat.le_of_ble_eq_true rfl) rfl ?_
            have hm3 := hm2 (Int32.not_lt.mp c45)
            rw [hm3, nI_ltI (by omega) (by have l1 := lkS_le q nb s o; unfold lkS at l1; have := h.2.1; omega)] at c45
            exact ok2i (by
              rw [show jnB q nb jn s = true from anyB_t (b := o) (by
                rw [nI_eq (by omega) (by omega)] at c27
                unfold joB lkS
                exact decide_eq_true ⟨hp, c27, by omega⟩) (by omega)]
              rfl)
      · refine V_iload dX3_isJoined_3 rfl ?_
        refine V_sipush (v := 180) dX3_isJoined_5 (by decide) ?_
        refine V_icmp_ge (tgt := 56) dX3_isJoined_8 (by decide) (fun c8 => False.elim (by exact nI_ge (a := o) (b := 180) (by omega) (by decide) c8)) (fun c8 => ?_)
        first | refine V_aload_n dX3_isJoined_11 rfl rfl ?_ | refine V_aload_nN dX3_isJoined_11 rfl rfl ?_
        refine V_iload dX3_isJoined_12 rfl ?_
        refine V_callV (As := [_]) (st := _) (c_X2_findSlot_n nb q o w h (by omega) hp) kX3_45 (by first | exact h.1.k _ rfl rfl) ⟨rfl, rfl, rfl⟩ ⟨(Nat.le_of_ble_eq_true rfl), (Nat.le_of_ble_eq_true rfl)⟩ dX3_isJoined_14 rfl rfl (Nat.le_of_ble_eq_true rfl) ⟨(Nat.le_of_ble_eq_true rfl), (Nat.le_of_ble_eq_true rfl)⟩ ?_
        first | refine S_astore (L' := [(0, _), (1, _), (2, _), (3, _), (4, _), (5, _)]) dX3_isJoined_17 rfl rfl ?_ | refine S_astoreN (L' := [(0, _), (1, _), (2, _), (3, _), (4, _), (5, _)]) dX3_isJoined_17 rfl rfl ?_
        first | refine V_aload dX3_isJoined_19 rfl ?_ | refine V_aloadN dX3_isJoined_19 rfl ?_
        refine V_ifnullN (tgt := 50) dX3_isJoined_21 (by decide) ?_
        refine S_iinc (L' := [(0, _), (1, _), (2, _), (3, _), (4, _)]) dX3_isJoined_50 rfl rfl rfl rfl ?_
        rw [nI_inc]
        refine V_goto (tgt := 3) dX3_isJoined_53 (by decide) ?_
        exact ih (o + 1) (by omega) (anyB_s hall (by simp [joB, hp]))
  refine V_iconst (v := 0) dX3_isJoined_0 (by decide) ?_
  refine S_istore (L' := [(0, _), (1, _), (2, _), (3, _), (4, _)]) dX3_isJoined_1 rfl rfl ?_
  exact loop 180 0 rfl rfl

set_option maxRecDepth 100000 in
theorem c_X3_lastJoined (nb : Nat) (q : Cp) (jn c : Nat) (w : Wd) (h : CpX nb q w) (hj : wI w 24 0 = nI jn) (hjn : jn ≤ 100) (hc : c < 6) : Cc yX3_lastJoined mX3_lastJoined [.ref 24, .ref 22, .int (nI c)] w (fun r w' => r = some (.int (oI (ljC q nb jn c))) ∧ w' = w) := by
  refine Cc.of (by decide) rfl rfl (Nat.le_of_ble_eq_true rfl) (fun X => ?_)
  change V _ X _ 0 [(0, _), (1, _), (2, _)] [] _ (0, 0)
  have last : V mX3_lastJoined X (mq mX3_lastJoined X (fun r w' => r = some (.int (oI (ljN (fun f => decide (f < q.1 c) && jnB q nb jn (30 * c + f)) 0))) ∧ w' = w)) 3 [(0, .ref 24), (1, .ref 22), (2, .int (nI c)), (3, .int (nI 0 + Int32.ofInt (-1)))] [] w (0, 0) := by
    refine V_iload_n dX3_lastJoined_3 rfl rfl ?_
    refine V_if_lt (tgt := 44) dX3_lastJoined_4 (by decide) (fun c4 => ?_) (fun c4 => False.elim (by exact c4 (by decide)))
    refine V_iconst (v := -1) dX3_lastJoined_44 (by decide) ?_
    refine V_iret rfl dX3_lastJoined_45 (Nat.le_of_ble_eq_true rfl) (Nat.le_of_ble_eq_true rfl) ?_
    exact ok2i rfl
  have stp : ∀ (f : Nat), f < 30 → V mX3_lastJoined X (mq mX3_lastJoined X (fun r w' => r = some (.int (oI (ljN (fun f => decide (f < q.1 c) && jnB q nb jn (30 * c + f)) f))) ∧ w' = w)) 3 [(0, .ref 24), (1, .ref 22), (2, .int (nI c)), (3, .int (nI f + Int32.ofInt (-1)))] [] w (0, 0) → V mX3_lastJoined X (mq mX3_lastJoined X (fun r w' => r = some (.int (oI (ljN (fun f => decide (f < q.1 c) && jnB q nb jn (30 * c + f)) (f + 1)))) ∧ w' = w)) 3 [(0, .ref 24), (1, .ref 22), (2, .int (nI c)), (3, .int (nI f))] [] w (0, 0) := by
    intro f h30 go
    by_cases hf : f < q.1 c
    · refine V_iload_n dX3_lastJoined_3 rfl rfl ?_
      refine V_if_lt (tgt := 44) dX3_lastJoined_4 (by decide) (fun c4 => False.elim (by exact nI_pos (by omega) c4)) (fun c4 => ?_)
      first | refine V_aload_n dX3_lastJoined_7 rfl rfl ?_ | refine V_aload_nN dX3_lastJoined_7 rfl rfl ?_
      refine V_iload_n dX3_lastJoined_8 rfl rfl ?_
      refine V_iload_n dX3_lastJoined_9 rfl rfl ?_
      refine V_callV (As := [_, _]) (st := _) (c_X2_findFrame_s nb q c f w h hc hf) kX3_35 (by exact h.1.k _ rfl rfl) ⟨rfl, rfl, rfl⟩ ⟨(Nat.le_of_ble_eq_true rfl), (Nat.le_of_ble_eq_true rfl)⟩ dX3_lastJoined_10 rfl rfl (Nat.le_of_ble_eq_true rfl) ⟨(Nat.le_of_ble_eq_true rfl), (Nat.le_of_ble_eq_true rfl)⟩ ?_
      first | refine S_astore (L' := [(0, _), (1, _), (2, _), (3, _), (4, _)]) dX3_lastJoined_13 rfl rfl ?_ | refine S_astoreN (L' := [(0, _), (1, _), (2, _), (3, _), (4, _)]) dX3_lastJoined_13 rfl rfl ?_
      first | refine V_aload dX3_lastJoined_15 rfl ?_ | refine V_aloadN dX3_lastJoined_15 rfl ?_
      refine V_ifnull dX3_lastJoined_17 ?_
      first | refine V_aload_n dX3_lastJoined_20 rfl rfl ?_ | refine V_aload_nN dX3_lastJoined_20 rfl rfl ?_
      first | refine V_aload_n dX3_lastJoined_21 rfl rfl ?_ | refine V_aload_nN dX3_lastJoined_21 rfl rfl ?_
      first | refine V_aload dX3_lastJoined_22 rfl ?_ | refine V_aloadN dX3_lastJoined_22 rfl ?_
      refine V_bipush (v := 30) dX3_lastJoined_24 (by decide) ?_
      refine V_iload_n dX3_lastJoined_26 rfl rfl ?_
      refine V_imul dX3_lastJoined_27 ?_
      refine V_iload_n dX3_lastJoined_28 rfl rfl ?_
      refine V_iadd dX3_lastJoined_29 ?_
      rw [show (30 : Int32) = nI 30 from rfl, pk_mul, nI_add]
      refine V_callV (As := [_, _, _]) (st := _) (c_X3_isJoined nb q jn (30 * c + f) w h hj hjn (by omega) (by rw [show (30 * c + f) % 30 = f by omega, show (30 * c + f) / 30 = c by omega]; exact hf)) kX3_41 (by exact h.1.k _ rfl rfl) ⟨rfl, rfl, rfl⟩ ⟨(Nat.le_of_ble_eq_true rfl), (Nat.le_of_ble_eq_true rfl)⟩ dX3_lastJoined_30 rfl rfl (Nat.le_of_ble_eq_true rfl) ⟨(Nat.le_of_ble_eq_true rfl), (Nat.le_of_ble_eq_true rfl)⟩ ?_
      refine V_if_eq (tgt := 38) dX3_lastJoined_33 (by decide) (fun c33 => ?_) (fun c33 => ?_)
      · refine S_iinc (L' := [(0, _), (1, _), (2, _), (3, _)]) dX3_lastJoined_38 rfl rfl rfl rfl ?_
        refine V_goto (tgt := 3) dX3_lastJoined_41 (by decide) ?_
        rw [ljN, if_neg (by simp only [hf, decide_true, Bool.true_and]; exact fun z => absurd c33 (by rw [z]; decide))]
        exact go
      · refine V_iload_n dX3_lastJoined_36 rfl rfl ?_
        refine V_iret rfl dX3_lastJoined_37 (Nat.le_of_ble_eq_true rfl) (Nat.le_of_ble_eq_true rfl) ?_
        exact ok2i (by rw [ljN, if_pos (by simp only [hf, decide_true, Bool.true_and]; exact Classical.not_not.mp fun z => c33 (by rw [Bool.eq_false_iff.mpr z]; rfl))]; rfl)
    · refine V_iload_n dX3_lastJoined_3 rfl rfl ?_
      refine V_if_lt (tgt := 44) dX3_lastJoined_4 (by decide) (fun c4 => False.elim (by exact nI_pos (by omega) c4)) (fun c4 => ?_)
      first | refine V_aload_n dX3_lastJoined_7 rfl rfl ?_ | refine V_aload_nN dX3_lastJoined_7 rfl rfl ?_
      refine V_iload_n dX3_lastJoined_8 rfl rfl ?_
      refine V_iload_n dX3_lastJoined_9 rfl rfl ?_
      refine V_callV (As := [_, _]) (st := _) (c_X2_findFrame_n nb q _ _ w h (fun z => by obtain ⟨c2, f2, e1, e2, hc2, hf2⟩ := z; have := h.le hc2; rw [nI_eq (by omega) (by omega)] at e1 e2; subst e1; subst e2; exact hf hf2)) kX3_35 (by exact h.1.k _ rfl rfl) ⟨rfl, rfl, rfl⟩ ⟨(Nat.le_of_ble_eq_true rfl), (Nat.le_of_ble_eq_true rfl)⟩ dX3_lastJoined_10 rfl rfl (Nat.le_of_ble_eq_true rfl) ⟨(Nat.le_of_ble_eq_true rfl), (Nat.le_of_ble_eq_true rfl)⟩ ?_
      first | refine S_astore (L' := [(0, _), (1, _), (2, _), (3, _), (4, _)]) dX3_lastJoined_13 rfl rfl ?_ | refine S_astoreN (L' := [(0, _), (1, _), (2, _), (3, _), (4, _)]) dX3_lastJoined_13 rfl rfl ?_
      first | refine V_aload dX3_lastJoined_15 rfl ?_ | refine V_aloadN dX3_lastJoined_15 rfl ?_
      refine V_ifnullN (tgt := 38) dX3_lastJoined_17 (by decide) ?_
      refine S_iinc (L' := [(0, _), (1, _), (2, _), (3, _)]) dX3_lastJoined_38 rfl rfl rfl rfl ?_
      refine V_goto (tgt := 3) dX3_lastJoined_41 (by decide) ?_
      rw [ljN, if_neg (by simp [hf])]
      exact go
  have loop : ∀ (f : Nat), f < 30 → V mX3_lastJoined X (mq mX3_lastJoined X (fun r w' => r = some (.int (oI (ljN (fun f => decide (f < q.1 c) && jnB q nb jn (30 * c + f)) (f + 1)))) ∧ w' = w)) 3 [(0, .ref 24), (1, .ref 22), (2, .int (nI c)), (3, .int (nI f))] [] w (0, 0) := by
    intro f
    induction f with
    | zero => exact fun h30 => stp 0 h30 last
    | succ f ih => exact fun h30 => stp (f + 1) h30 (by rw [nI_dec]; exact ih (by omega))
  refine V_bipush (v := 29) dX3_lastJoined_0 (by decide) ?_
  refine S_istore_n (L' := [(0, _), (1, _), (2, _), (3, _)]) dX3_lastJoined_2 rfl rfl rfl ?_
  exact loop 29 (by omega)
