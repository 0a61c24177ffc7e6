/-! THE REFERENCE: keys -/
set_option maxRecDepth 100000 in
theorem c_X9_holds (k : Sk) (q : Cp) (c i j m : Nat) (w : Wd) (s : MSk k w) (h : MCp (kN k) q w) (hc : c < 6) (hij : i < j) (hj : j < q.1 c) (hm : m ≤ 18) : Cc yX9_holds mX9_holds [.ref 400, .int (nI c), .int (nI i), .int (nI j), .int (nI m)] w (fun r w' => r = some (.int (bI (spanB k (q.2 c) i j m))) ∧ w' = w) := by
  refine Cc.of (by decide) rfl rfl (Nat.le_of_ble_eq_true rfl) (fun X => ?_)
  change V _ X _ 0 [(0, _), (1, _), (2, _), (3, _), (4, _)] [] _ (0, 0)
  have inner : ∀ (t : Nat) (hit : i < t) (htj : t < j), (spB k (q.2 c) i j m t = true → V mX9_holds X (mq mX9_holds X (fun r w' => r = some (.int (bI (spanB k (q.2 c) i j m))) ∧ w' = w)) 5 [(0, .ref 400), (1, .int (nI c)), (2, .int (nI i)), (3, .int (nI j)), (4, .int (nI m)), (5, .int (nI (t + 1)))] [] w (0, 0)) → ∀ (d b : Nat), b + d = kN k → allB (fun b => decide (distN (blendN (kLow k b) (kSpr k b) (q.2 c i b) (q.2 c j b) (100 * (t - i) / (j - i))) (q.2 c t b) ≤ m)) b = true → V mX9_holds X (mq mX9_holds X (fun r w' => r = some (.int (bI (spanB k (q.2 c) i j m))) ∧ w' = w)) 27 [(0, .ref 400), (1, .int (nI c)), (2, .int (nI i)), (3, .int (nI j)), (4, .int (nI m)), (5, .int (nI t)), (6, .int (nI (100 * (t - i) / (j - i)))), (7, .int (nI b))] [] w (0, 0) := by
    intro t hit htj go d
    induction d with
    | zero =>
      intro b hd hall
      obtain rfl : b = kN k := hd
      refine V_iload dX9_holds_27 rfl ?_
      first | refine V_aload_n dX9_holds_29 rfl rfl ?_ | refine V_aload_nN dX9_holds_29 rfl rfl ?_
      refine G_geti (by exact s.1.k _ rfl rfl) fX9_111 dX9_holds_30 (by exact s.n) ?_
      refine V_icmp_ge (tgt := 107) dX9_holds_33 (by decide) (fun c33 => ?_) (fun c33 => False.elim (by exact c33 (nI_le (Nat.le_refl _) (by have := s.n10; omega))))
      refine S_iinc (L' := [(0, _), (1, _), (2, _), (3, _), (4, _), (5, _)]) dX9_holds_107 rfl rfl rfl rfl ?_
      rw [nI_inc]
      refine V_goto (tgt := 5) dX9_holds_110 (by decide) ?_
      exact go hall
    | succ d ih =>
      intro b hd hall
      have hb : b < kN k := by omega
      refine V_iload dX9_holds_27 rfl ?_
      first | refine V_aload_n dX9_holds_29 rfl rfl ?_ | refine V_aload_nN dX9_holds_29 rfl rfl ?_
      refine G_geti (by exact s.1.k _ rfl rfl) fX9_111 dX9_holds_30 (by exact s.n) ?_
      refine V_icmp_ge (tgt := 107) dX9_holds_33 (by decide) (fun c33 => False.elim (by exact nI_ge (a := b) (b := kN k) (by omega) (by have := s.n10; omega) c33)) (fun c33 => ?_)
      first | refine V_aload_n dX9_holds_36 rfl rfl ?_ | refine V_aload_nN dX9_holds_36 rfl rfl ?_
      refine V_iload dX9_holds_37 rfl ?_
      first | refine V_aload_n dX9_holds_39 rfl rfl ?_ | refine V_aload_nN dX9_holds_39 rfl rfl ?_
      first | refine V_getr (by exact s.1.k _ rfl rfl) fX9_54 dX9_holds_40 (by exact (s.1.r 19 rfl (by decide) : _ = some 420)) ?_ | refine V_getrN (by exact s.1.k _ rfl rfl) fX9_54 dX9_holds_40 (by exact (s.1.r 19 rfl (by decide) : _ = some 420)) ?_
      refine V_iload_n dX9_holds_43 rfl rfl ?_
      refine V_iload_n dX9_holds_44 rfl rfl ?_
      refine V_callS (As := [_, _]) (st := _) (c_X9_spot _ _ _) kX9_181 ⟨rfl, rfl, rfl⟩ ⟨(Nat.le_of_ble_eq_true rfl), (Nat.le_of_ble_eq_true rfl)⟩ dX9_holds_45 rfl rfl (Nat.le_of_ble_eq_true rfl) ⟨(Nat.le_of_ble_eq_true rfl), (Nat.le_of_ble_eq_true rfl)⟩ ?_
      rw [spot_N]
      refine V_iload dX9_holds_48 rfl ?_
      refine V_iadd dX9_holds_50 ?_
      rw [nI_add]
      refine G_iald (j := 300 * c + 10 * i + b) (by exact s.1.k _ rfl rfl) (by rfl) (by exact s.1.lt 420 (m := 1800) rfl rfl (by decide) rfl (by have := h.le hc; have := s.n10; omega)) (by exact s.1.nlt 420 rfl rfl (by decide)) dX9_holds_51 (by exact (h.fr hc (f := i) (by omega) hb).1) ?_
      first | refine V_aload_n dX9_holds_52 rfl rfl ?_ | refine V_aload_nN dX9_holds_52 rfl rfl ?_
      first | refine V_getr (by exact s.1.k _ rfl rfl) fX9_54 dX9_holds_53 (by exact (s.1.r 19 rfl (by decide) : _ = some 420)) ?_ | refine V_getrN (by exact s.1.k _ rfl rfl) fX9_54 dX9_holds_53 (by exact (s.1.r 19 rfl (by decide) : _ = some 420)) ?_
      refine V_iload_n dX9_holds_56 rfl rfl ?_
      refine V_iload_n dX9_holds_57 rfl rfl ?_
      refine V_callS (As := [_, _]) (st := _) (c_X9_spot _ _ _) kX9_181 ⟨rfl, rfl, rfl⟩ ⟨(Nat.le_of_ble_eq_true rfl), (Nat.le_of_ble_eq_true rfl)⟩ dX9_holds_58 rfl rfl (Nat.le_of_ble_eq_true rfl) ⟨(Nat.le_of_ble_eq_true rfl), (Nat.le_of_ble_eq_true rfl)⟩ ?_
      rw [spot_N]
      refine V_iload dX9_holds_61 rfl ?_
      refine V_iadd dX9_holds_63 ?_
      rw [nI_add]
      refine G_iald (j := 300 * c + 10 * j + b) (by exact s.1.k _ rfl rfl) (by rfl) (by exact s.1.lt 420 (m := 1800) rfl rfl (by decide) rfl (by have := h.le hc; have := s.n10; omega)) (by exact s.1.nlt 420 rfl rfl (by decide)) dX9_holds_64 (by exact (h.fr hc (f := j) (by omega) hb).1) ?_
      refine V_iload dX9_holds_65 rfl ?_
      refine V_callV (As := [_, _, _, _]) (st := _) (c_X9_blended k b _ _ _ w s hb (h.fr hc (f := i) (by omega) hb).2 (h.fr hc (f := j) (by omega) hb).2 (w100 hit htj)) kX9_192 (by exact s.1.k _ rfl rfl) ⟨rfl, rfl, rfl⟩ ⟨(Nat.le_of_ble_eq_true rfl), (Nat.le_of_ble_eq_true rfl)⟩ dX9_holds_67 rfl rfl (Nat.le_of_ble_eq_true rfl) ⟨(Nat.le_of_ble_eq_true rfl), (Nat.le_of_ble_eq_true rfl)⟩ ?_
      refine S_istore (L' := [(0, _), (1, _), (2, _), (3, _), (4, _), (5, _), (6, _), (7, _), (8, _)]) dX9_holds_70 rfl rfl ?_
      refine V_iload dX9_holds_72 rfl ?_
      first | refine V_aload_n dX9_holds_74 rfl rfl ?_ | refine V_aload_nN dX9_holds_74 rfl rfl ?_
      first | refine V_getr (by exact s.1.k _ rfl rfl) fX9_54 dX9_holds_75 (by exact (s.1.r 19 rfl (by decide) : _ = some 420)) ?_ | refine V_getrN (by exact s.1.k _ rfl rfl) fX9_54 dX9_holds_75 (by exact (s.1.r 19 rfl (by decide) : _ = some 420)) ?_
      refine V_iload_n dX9_holds_78 rfl rfl ?_
      refine V_iload dX9_holds_79 rfl ?_
      refine V_callS (As := [_, _]) (st := _) (c_X9_spot _ _ _) kX9_181 ⟨rfl, rfl, rfl⟩ ⟨(Nat.le_of_ble_eq_true rfl), (Nat.le_of_ble_eq_true rfl)⟩ dX9_holds_81 rfl rfl (Nat.le_of_ble_eq_true rfl) ⟨(Nat.le_of_ble_eq_true rfl), (Nat.le_of_ble_eq_true rfl)⟩ ?_
      rw [spot_N]
      refine V_iload dX9_holds_84 rfl ?_
      refine V_iadd dX9_holds_86 ?_
      rw [nI_add]
      refine G_iald (j := 300 * c + 10 * t + b) (by exact s.1.k _ rfl rfl) (by rfl) (by exact s.1.lt 420 (m := 1800) rfl rfl (by decide) rfl (by have := h.le hc; have := s.n10; omega)) (by exact s.1.nlt 420 rfl rfl (by decide)) dX9_holds_87 (by exact (h.fr hc (f := t) (by omega) hb).1) ?_
      refine V_callS (As := [_, _]) (st := _) (c_X9_shortWay _ _ _) kX9_104 ⟨rfl, rfl, rfl⟩ ⟨(Nat.le_of_ble_eq_true rfl), (Nat.le_of_ble_eq_true rfl)⟩ dX9_holds_88 rfl rfl (Nat.le_of_ble_eq_true rfl) ⟨(Nat.le_of_ble_eq_true rfl), (Nat.le_of_ble_eq_true rfl)⟩ ?_
      rw [mShort_N (blendN_lt (s.wf hb).2.2.2.2.1) (h.fr hc (f := t) (by omega) hb).2]
      refine V_callS (As := [_]) (st := _) (c_X9_amount _ _) kX9_108 ⟨rfl, rfl, rfl⟩ ⟨(Nat.le_of_ble_eq_true rfl), (Nat.le_of_ble_eq_true rfl)⟩ dX9_holds_91 rfl rfl (Nat.le_of_ble_eq_true rfl) ⟨(Nat.le_of_ble_eq_true rfl), (Nat.le_of_ble_eq_true rfl)⟩ ?_
      rw [mAmt_N (blendN_lt (s.wf hb).2.2.2.2.1) (h.fr hc (f := t) (by omega) hb).2]
      refine V_iload dX9_holds_94 rfl ?_
      refine V_icmp_le (tgt := 101) dX9_holds_96 (by decide) (fun c96 => ?_) (fun c96 => ?_)
      · refine S_iinc (L' := [(0, _), (1, _), (2, _), (3, _), (4, _), (5, _), (6, _), (7, _)]) dX9_holds_101 rfl rfl rfl rfl ?_
        rw [nI_inc]
        refine V_goto (tgt := 27) dX9_holds_104 (by decide) ?_
        rw [nI_leI (by have := distN_le (blendN (kLow k b) (kSpr k b) (q.2 c i b) (q.2 c j b) (100 * (t - i) / (j - i))) (q.2 c t b); omega) (by omega)] at c96
        exact ih (b + 1) (by omega) (allB_s hall (by simpa using c96))
      · refine V_iconst (v := 0) dX9_holds_99 (by decide) ?_
        refine V_zret rfl dX9_holds_100 (Nat.le_of_ble_eq_true rfl) (Nat.le_of_ble_eq_true rfl) rfl ?_
        rw [nI_leI (by have := distN_le (blendN (kLow k b) (kSpr k b) (q.2 c i b) (q.2 c j b) (100 * (t - i) / (j - i))) (q.2 c t b); omega) (by omega)] at c96
        exact ok2i (by
          rw [show spanB k (q.2 c) i j m = false from allB_f (b := t - i - 1) (by rw [show i + 1 + (t - i - 1) = t by omega]; exact allB_f (b := b) (by simpa using c96) hb) (by omega)]
          rfl)
  have outer : ∀ (d e : Nat), i + 1 + e + d = j → allB (fun d => spB k (q.2 c) i j m (i + 1 + d)) e = true → V mX9_holds X (mq mX9_holds X (fun r w' => r = some (.int (bI (spanB k (q.2 c) i j m))) ∧ w' = w)) 5 [(0, .ref 400), (1, .int (nI c)), (2, .int (nI i)), (3, .int (nI j)), (4, .int (nI m)), (5, .int (nI (i + 1 + e)))] [] w (0, 0) := by
    intro d
    induction d with
    | zero =>
      intro e hd hall
      refine V_iload dX9_holds_5 rfl ?_
      refine V_iload_n dX9_holds_7 rfl rfl ?_
      refine V_icmp_ge (tgt := 113) dX9_holds_8 (by decide) (fun c8 => ?_) (fun c8 => False.elim (by exact c8 (nI_le (by omega) (by have := h.le hc; omega))))
      refine V_iconst (v := 1) dX9_holds_113 (by decide) ?_
      refine V_zret rfl dX9_holds_114 (Nat.le_of_ble_eq_true rfl) (Nat.le_of_ble_eq_true rfl) rfl ?_
      exact ok2i (by rw [show spanB k (q.2 c) i j m = true from by unfold spanB; rw [show j - i - 1 = e by omega]; exact hall]; rfl)
    | succ d ih =>
      intro e hd hall
      refine V_iload dX9_holds_5 rfl ?_
      refine V_iload_n dX9_holds_7 rfl rfl ?_
      refine V_icmp_ge (tgt := 113) dX9_holds_8 (by decide) (fun c8 => False.elim (by exact nI_ge (a := i + 1 + e) (b := j) (by omega) (by have := h.le hc; omega) c8)) (fun c8 => ?_)
      refine V_bipush (v := 100) dX9_holds_11 (by decide) ?_
      refine V_iload dX9_holds_13 rfl ?_
      refine V_iload_n dX9_holds_15 rfl rfl ?_
      refine V_isub dX9_holds_16 ?_
      refine V_imul dX9_holds_17 ?_
      refine V_iload_n dX9_holds_18 rfl rfl ?_
      refine V_iload_n dX9_holds_19 rfl rfl ?_
      refine V_isub dX9_holds_20 ?_
      refine V_idiv dX9_holds_21 (by rw [pk_sub (by omega)]; exact nI_ne0 (by omega) (by have := h.le hc; omega)) ?_
      rw [pk_sub (a := i + 1 + e) (b := i) (by omega), pk_sub (a := j) (b := i) (by omega), show (100 : Int32) = nI 100 from rfl, pk_mul, pk_div (by have := h.le hc; omega) (by omega) (by have := h.le hc; omega)]
      refine S_istore (L' := [(0, _), (1, _), (2, _), (3, _), (4, _), (5, _), (6, _)]) dX9_holds_22 rfl rfl ?_
      refine V_iconst (v := 0) dX9_holds_24 (by decide) ?_
      refine S_istore (L' := [(0, _), (1, _), (2, _), (3, _), (4, _), (5, _), (6, _), (7, _)]) dX9_holds_25 rfl rfl ?_
      exact inner (i + 1 + e) (by omega) (by omega) (fun z => ih (e + 1) (by omega) (allB_s hall z)) (kN k) 0 (by omega) rfl
  refine V_iload_n dX9_holds_0 rfl rfl ?_
  refine V_iconst (v := 1) dX9_holds_1 (by decide) ?_
  refine V_iadd dX9_holds_2 ?_
  rw [show nI i + 1 = nI (i + 1) from nI_1 i]
  refine S_istore (L' := [(0, _), (1, _), (2, _), (3, _), (4, _), (5, _)]) dX9_holds_3 rfl rfl ?_
  exact outer (j - i - 1) 0 (by omega) rfl

def cnK (nx : Nat → Nat) (sz n : Nat) : Prop := (match n with
  | 0 => 0
  | n + 1 => kyF nx n + 1) < sz
theorem knG_stop {nx : Nat → Nat} {sz n : Nat} : ∀ d m, m ≤ n → n ≤ m + d → (∀ i, m ≤ i → i < n → cnK nx sz i) → (n = m + d ∨ ¬ cnK nx sz n) → knG nx sz d m = n
  | 0, m, h1, h2, _, _ => by
    show m = n
    omega
  | d + 1, m, h1, h2, h3, h4 => by
    unfold knG
    by_cases e : m = n
    · subst e
      have hn : ¬ cnK nx sz m := h4.resolve_left (by omega)
      exact if_neg hn
    · have hc := h3 m (Nat.le_refl _) (by omega)
      have := knG_stop (nx := nx) (sz := sz) (n := n) d (m + 1) (by omega) (by omega) (fun i hi hn => h3 i (by omega) hn) (h4.imp (fun q => by omega) id)
      exact (if_pos hc).trans this
/-- where the reference stands before key n -/
def iK (nx : Nat → Nat) (sz n : Nat) : Nat := match n with
  | 0 => 0
  | n + 1 => if kyF nx n + 1 < sz then kyF nx (n + 1) else sz
theorem iK_lt {nx : Nat → Nat} {sz n : Nat} (h : iK nx sz n < sz) : cnK nx sz n ∧ iK nx sz n = kyF nx n := by
  cases n with
  | zero => exact ⟨h, rfl⟩
  | succ n =>
    have h' : (if kyF nx n + 1 < sz then kyF nx (n + 1) else sz) < sz := h
    by_cases c : kyF nx n + 1 < sz
    · exact ⟨c, if_pos c⟩
    · rw [if_neg c] at h'; omega
theorem iK_ge {nx : Nat → Nat} {sz n : Nat} (hnx : ∀ i, i + 1 < sz → i < nx i ∧ nx i < sz) (h : ¬ iK nx sz n < sz) : ¬ cnK nx sz n := by
  cases n with
  | zero => exact h
  | succ n =>
    intro c
    have c2 : kyF nx n + 1 < sz := c
    have h' : ¬ (if kyF nx n + 1 < sz then kyF nx (n + 1) else sz) < sz := h
    rw [if_pos c2] at h'
    exact h' (hnx (kyF nx n) c2).2
theorem ky_ge {nx : Nat → Nat} {sz : Nat} (hnx : ∀ i, i + 1 < sz → i < nx i ∧ nx i < sz) : ∀ n, (∀ i, i < n → cnK nx sz (i + 1)) → n ≤ kyF nx n
  | 0, _ => Nat.zero_le _
  | n + 1, h => by
    have h1 := ky_ge hnx n (fun i hi => h i (by omega))
    have h2 := (hnx (kyF nx n) (h n (by omega))).1
    show n + 1 ≤ nx (kyF nx n)
    omega
theorem ky_lt {nx : Nat → Nat} {sz a : Nat} (hnx : ∀ i, i + 1 < sz → i < nx i ∧ nx i < sz) (h : cnK nx sz a) : kyF nx a < sz := by
  cases a with
  | zero => exact h
  | succ l => exact (hnx _ (show kyF nx l + 1 < sz from h)).2
theorem n_sz {nx : Nat → Nat} {sz n : Nat} (hnx : ∀ i, i + 1 < sz → i < nx i ∧ nx i < sz) (g : ∀ i, i < n → cnK nx sz i) : n ≤ sz := by
  cases n with
  | zero => exact Nat.zero_le _
  | succ a =>
    have h1 := ky_ge hnx a (fun i hi => g (i + 1) (by omega))
    have h2 := ky_lt hnx (g a (by omega))
    omega
abbrev kyI (a j : Nat) : Prop := (a = 400 ∧ j = 20) ∨ a = 422
/-- next, in the midst of the reference's search: after all below j -/
def nxI (p : Nat → Bool) (sz i j : Nat) : Nat := if j = i + 1 then sz else nkN p i (j - i - 2)
theorem nxI_next {p : Nat → Bool} {sz i j : Nat} (hij : i < j) (hj : j < sz) : (if p j = true then j else if nxI p sz i j = sz then i + 1 else nxI p sz i j) = nxI p sz i (j + 1) := by
  unfold nxI
  rw [if_neg (show ¬ j + 1 = i + 1 by omega)]
  by_cases e : j = i + 1
  · rw [if_pos e, if_pos rfl, show j + 1 - i - 2 = 0 by omega, e]
    show (if _ then i + 1 else i + 1) = i + 1
    split <;> rfl
  · rw [if_neg e]
    have hr := nkN_rng p i (j - i - 2)
    rw [if_neg (show ¬ nkN p i (j - i - 2) = sz by omega), show j + 1 - i - 2 = (j - i - 2) + 1 by omega]
    show _ = (if p (i + 1 + (j - i - 2 + 1)) = true then i + 1 + (j - i - 2 + 1) else nkN p i (j - i - 2))
    rw [show i + 1 + (j - i - 2 + 1) = j by omega]

theorem nxI_le {p : Nat → Bool} {sz i j : Nat} (hij : i < j) (hj : j ≤ sz) : nxI p sz i j ≤ sz := by
  unfold nxI
  split
  · exact Nat.le_refl _
  · have hr := nkN_rng p i (j - i - 2)
    omega
theorem nxI_end (k : Sk) (F : Nat → Nat → Nat) {sz m i : Nat} (hi : i < sz) : nxI (fun j => spanB k F i j m) sz i sz = if i + 1 < sz then nxK k F sz m i else sz := by
  unfold nxI nxK
  by_cases e : i + 1 < sz
  · rw [if_neg (by omega), if_pos e, show sz - i - 2 = sz - 2 - i by omega]
  · rw [if_pos (by omega), if_neg e]
theorem iK_s {nx : Nat → Nat} {sz n : Nat} (h : iK nx sz n < sz) : iK nx sz (n + 1) = if iK nx sz n + 1 < sz then nx (iK nx sz n) else sz := by
  rw [(iK_lt h).2]
  rfl
theorem iK_le {nx : Nat → Nat} {sz : Nat} (hnx : ∀ i, i + 1 < sz → i < nx i ∧ nx i < sz) : ∀ n, iK nx sz n ≤ sz
  | 0 => Nat.zero_le _
  | n + 1 => by
    show (if kyF nx n + 1 < sz then kyF nx (n + 1) else sz) ≤ sz
    by_cases c : kyF nx n + 1 < sz
    · rw [if_pos c]
      exact Nat.le_of_lt (hnx _ c).2
    · rw [if_neg c]
      exact Nat.le_refl _

set_option maxRecDepth 100000 in
theorem c_X9_findKeys (k : Sk) (q : Cp) (c m : Nat) (w : Wd) (s : MSk k w) (h : MCp (kN k) q w) (hc : c < 6) (hm : m ≤ 18) : Cc yX9_findKeys mX9_findKeys [.ref 400, .int (nI c), .int (nI m)] w (fun r w' => r = none ∧ Kp kyI noA w w' ∧ MKy (knF (nxK k (q.2 c) (q.1 c) m) (q.1 c)) (kyF (nxK k (q.2 c) (q.1 c) m)) w') := by
  refine Cc.of (by decide) rfl rfl (Nat.le_of_ble_eq_true rfl) (fun X => ?_)
  change V _ X _ 0 [(0, _), (1, _), (2, _)] [] _ (0, 0)
  have hnx : ∀ i, i + 1 < q.1 c → i < (nxK k (q.2 c) (q.1 c) m) i ∧ (nxK k (q.2 c) (q.1 c) m) i < q.1 c := fun i hi => nxK_rng k (q.2 c) hi
  have h30 := h.le hc
  have inner : ∀ (i : Nat) (w2 : Wd), i < q.1 c → Kp kyI noA w w2 → V mX9_findKeys X (mq mX9_findKeys X (fun r w' => r = none ∧ Kp kyI noA w w' ∧ MKy (knF (nxK k (q.2 c) (q.1 c) m) (q.1 c)) (kyF (nxK k (q.2 c) (q.1 c) m)) w')) 7 [(0, .ref 400), (1, .int (nI c)), (2, .int (nI m)), (3, .int (nI (nxI (fun j => spanB k (q.2 c) i j m) (q.1 c) i (q.1 c))))] [] w2 (0, 0) → ∀ (d j : Nat), j + d = q.1 c → i < j → V mX9_findKeys X (mq mX9_findKeys X (fun r w' => r = none ∧ Kp kyI noA w w' ∧ MKy (knF (nxK k (q.2 c) (q.1 c) m) (q.1 c)) (kyF (nxK k (q.2 c) (q.1 c) m)) w')) 50 [(0, .ref 400), (1, .int (nI c)), (2, .int (nI m)), (3, .int (nI i)), (4, .int (nI (nxI (fun j => spanB k (q.2 c) i j m) (q.1 c) i j))), (5, .int (nI j))] [] w2 (0, 0) := by
    intro i w2 hi g2 go d
    have s2 : MSk k w2 := s.kp g2 (fun a j z => by unfold kyI at z; unfold msI; omega) (fun _ _ z => z.elim)
    have h2 : MCp (kN k) q w2 := h.kp g2 (fun a j z => by unfold kyI at z; omega)
    induction d with
    | zero =>
      intro j hd hij
      obtain rfl : j = q.1 c := hd
      refine V_iload dX9_findKeys_50 rfl ?_
      first | refine V_aload_n dX9_findKeys_52 rfl rfl ?_ | refine V_aload_nN dX9_findKeys_52 rfl rfl ?_
      first | refine V_getr (by exact s2.1.k _ rfl rfl) fX9_51 dX9_findKeys_53 (by exact (s2.1.r 18 rfl (by decide) : _ = some 419)) ?_ | refine V_getrN (by exact s2.1.k _ rfl rfl) fX9_51 dX9_findKeys_53 (by exact (s2.1.r 18 rfl (by decide) : _ = some 419)) ?_
      refine V_iload_n dX9_findKeys_56 rfl rfl ?_
      refine G_iald (j := c) (by exact s2.1.k _ rfl rfl) (by rfl) (by exact s2.1.lt 419 (m := 6) rfl rfl (by decide) rfl (by omega)) (by exact s2.1.nlt 419 rfl rfl (by decide)) dX9_findKeys_57 (by exact h2.sz hc) ?_
      refine V_icmp_ge (tgt := 105) dX9_findKeys_58 (by decide) (fun c58 => ?_) (fun c58 => False.elim (by exact c58 (nI_le (Nat.le_refl _) (by omega))))
      refine V_iload dX9_findKeys_105 rfl ?_
      refine S_istore_n (L' := [(0, _), (1, _), (2, _), (3, _)]) dX9_findKeys_107 rfl rfl rfl ?_
      refine V_goto (tgt := 7) dX9_findKeys_108 (by decide) ?_
      exact go
    | succ d ihj =>
      intro j hd hij
      have hj : j < q.1 c := by omega
      have hnl : nxI (fun j => spanB k (q.2 c) i j m) (q.1 c) i j < 2 ^ 31 := Nat.lt_of_le_of_lt (nxI_le hij (Nat.le_of_lt hj)) (by omega)
      refine V_iload dX9_findKeys_50 rfl ?_
      first | refine V_aload_n dX9_findKeys_52 rfl rfl ?_ | refine V_aload_nN dX9_findKeys_52 rfl rfl ?_
      first | refine V_getr (by exact s2.1.k _ rfl rfl) fX9_51 dX9_findKeys_53 (by exact (s2.1.r 18 rfl (by decide) : _ = some 419)) ?_ | refine V_getrN (by exact s2.1.k _ rfl rfl) fX9_51 dX9_findKeys_53 (by exact (s2.1.r 18 rfl (by decide) : _ = some 419)) ?_
      refine V_iload_n dX9_findKeys_56 rfl rfl ?_
      refine G_iald (j := c) (by exact s2.1.k _ rfl rfl) (by rfl) (by exact s2.1.lt 419 (m := 6) rfl rfl (by decide) rfl (by omega)) (by exact s2.1.nlt 419 rfl rfl (by decide)) dX9_findKeys_57 (by exact h2.sz hc) ?_
      refine V_icmp_ge (tgt := 105) dX9_findKeys_58 (by decide) (fun c58 => False.elim (by exact nI_ge (a := j) (b := q.1 c) hj (by omega) c58)) (fun c58 => ?_)
      first | refine V_aload_n dX9_findKeys_61 rfl rfl ?_ | refine V_aload_nN dX9_findKeys_61 rfl rfl ?_
      refine V_iload_n dX9_findKeys_62 rfl rfl ?_
      refine V_iload_n dX9_findKeys_63 rfl rfl ?_
      refine V_iload dX9_findKeys_64 rfl ?_
      refine V_iload_n dX9_findKeys_66 rfl rfl ?_
      refine V_callV (As := [_, _, _, _]) (st := _) (c_X9_holds k q c i j m w2 s2 h2 hc hij hj hm) kX9_202 (by exact s2.1.k _ rfl rfl) ⟨rfl, rfl, rfl⟩ ⟨(Nat.le_of_ble_eq_true rfl), (Nat.le_of_ble_eq_true rfl)⟩ dX9_findKeys_67 rfl rfl (Nat.le_of_ble_eq_true rfl) ⟨(Nat.le_of_ble_eq_true rfl), (Nat.le_of_ble_eq_true rfl)⟩ ?_
      refine V_if_eq (tgt := 78) dX9_findKeys_70 (by decide) (fun c70 => ?_) (fun c70 => ?_)
      · refine V_iload dX9_findKeys_78 rfl ?_
        first | refine V_aload_n dX9_findKeys_80 rfl rfl ?_ | refine V_aload_nN dX9_findKeys_80 rfl rfl ?_
        first | refine V_getr (by exact s2.1.k _ rfl rfl) fX9_51 dX9_findKeys_81 (by exact (s2.1.r 18 rfl (by decide) : _ = some 419)) ?_ | refine V_getrN (by exact s2.1.k _ rfl rfl) fX9_51 dX9_findKeys_81 (by exact (s2.1.r 18 rfl (by decide) : _ = some 419)) ?_
        refine V_iload_n dX9_findKeys_84 rfl rfl ?_
        refine G_iald (j := c) (by exact s2.1.k _ rfl rfl) (by rfl) (by exact s2.1.lt 419 (m := 6) rfl rfl (by decide) rfl (by omega)) (by exact s2.1.nlt 419 rfl rfl (by decide)) dX9_findKeys_85 (by exact h2.sz hc) ?_
        refine V_icmp_ne (tgt := 95) dX9_findKeys_86 (by decide) (fun c86 => ?_) (fun c86 => ?_)
        · refine V_iload dX9_findKeys_95 rfl ?_
          refine S_istore (L' := [(0, _), (1, _), (2, _), (3, _), (4, _), (5, _)]) dX9_findKeys_97 rfl rfl ?_
          refine S_iinc (L' := [(0, _), (1, _), (2, _), (3, _), (4, _), (5, _)]) dX9_findKeys_99 rfl rfl rfl rfl ?_
          rw [nI_inc]
          refine V_goto (tgt := 50) dX9_findKeys_102 (by decide) ?_
          have hnx := nxI_next (p := (fun j => spanB k (q.2 c) i j m)) (sz := q.1 c) hij hj
          first
            | (have hp := bI_1 c70
               rw [if_pos hp] at hnx
               have key := ihj (j + 1) (by omega) (by omega)
               rw [← hnx] at key
               exact key)
            | (have hp := bI_0 c70
               rw [if_neg (show ¬ (fun j => spanB k (q.2 c) i j m) j = true by rw [show (fun j => spanB k (q.2 c) i j m) j = spanB k (q.2 c) i j m from rfl, hp]; decide)] at hnx
               have key := ihj (j + 1) (by omega) (by omega)
               rw [← hnx] at key
               first
                 | (have h86 := (nI_eq hnl (by omega)).mp c86
                    rw [if_pos h86] at key
                    exact key)
                 | (have h86 : ¬ nxI (fun j => spanB k (q.2 c) i j m) (q.1 c) i j = q.1 c := fun z => c86 (congrArg nI z)
                    rw [if_neg h86] at key
                    exact key))
        · refine V_iload_n dX9_findKeys_89 rfl rfl ?_
          refine V_iconst (v := 1) dX9_findKeys_90 (by decide) ?_
          refine V_iadd dX9_findKeys_91 ?_
          rw [nI_1]
          refine V_goto (tgt := 97) dX9_findKeys_92 (by decide) ?_
          refine S_istore (L' := [(0, _), (1, _), (2, _), (3, _), (4, _), (5, _)]) dX9_findKeys_97 rfl rfl ?_
          refine S_iinc (L' := [(0, _), (1, _), (2, _), (3, _), (4, _), (5, _)]) dX9_findKeys_99 rfl rfl rfl rfl ?_
          rw [nI_inc]
          refine V_goto (tgt := 50) dX9_findKeys_102 (by decide) ?_
          have hnx := nxI_next (p := (fun j => spanB k (q.2 c) i j m)) (sz := q.1 c) hij hj
          first
            | (have hp := bI_1 c70
               rw [if_pos hp] at hnx
               have key := ihj (j + 1) (by omega) (by omega)
               rw [← hnx] at key
               exact key)
            | (have hp := bI_0 c70
               rw [if_neg (show ¬ (fun j => spanB k (q.2 c) i j m) j = true by rw [show (fun j => spanB k (q.2 c) i j m) j = spanB k (q.2 c) i j m from rfl, hp]; decide)] at hnx
               have key := ihj (j + 1) (by omega) (by omega)
               rw [← hnx] at key
               first
                 | (have h86 := (nI_eq hnl (by omega)).mp c86
                    rw [if_pos h86] at key
                    exact key)
                 | (have h86 : ¬ nxI (fun j => spanB k (q.2 c) i j m) (q.1 c) i j = q.1 c := fun z => c86 (congrArg nI z)
                    rw [if_neg h86] at key
                    exact key))
      · refine V_iload dX9_findKeys_73 rfl ?_
        refine V_goto (tgt := 97) dX9_findKeys_75 (by decide) ?_
        refine S_istore (L' := [(0, _), (1, _), (2, _), (3, _), (4, _), (5, _)]) dX9_findKeys_97 rfl rfl ?_
        refine S_iinc (L' := [(0, _), (1, _), (2, _), (3, _), (4, _), (5, _)]) dX9_findKeys_99 rfl rfl rfl rfl ?_
        rw [nI_inc]
        refine V_goto (tgt := 50) dX9_findKeys_102 (by decide) ?_
        have hnx := nxI_next (p := (fun j => spanB k (q.2 c) i j m)) (sz := q.1 c) hij hj
        first
          | (have hp := bI_1 c70
             rw [if_pos hp] at hnx
             have key := ihj (j + 1) (by omega) (by omega)
             rw [← hnx] at key
             exact key)
          | (have hp := bI_0 c70
             rw [if_neg (show ¬ (fun j => spanB k (q.2 c) i j m) j = true by rw [show (fun j => spanB k (q.2 c) i j m) j = spanB k (q.2 c) i j m from rfl, hp]; decide)] at hnx
             have key := ihj (j + 1) (by omega) (by omega)
             rw [← hnx] at key
             first
               | (have h86 := (nI_eq hnl (by omega)).mp c86
                  rw [if_pos h86] at key
                  exact key)
               | (have h86 : ¬ nxI (fun j => spanB k (q.2 c) i j m) (q.1 c) i j = q.1 c := fun z => c86 (congrArg nI z)
                  rw [if_neg h86] at key
                  exact key))
  have outer : ∀ (d n : Nat) (w1 : Wd), Kp kyI noA w w1 → wI w1 400 20 = nI n → (∀ i, i < n → wI w1 422 i = nI (kyF (nxK k (q.2 c) (q.1 c) m) i)) → (∀ i, i < n → cnK (nxK k (q.2 c) (q.1 c) m) (q.1 c) i) → q.1 c - iK (nxK k (q.2 c) (q.1 c) m) (q.1 c) n ≤ d → V mX9_findKeys X (mq mX9_findKeys X (fun r w' => r = none ∧ Kp kyI noA w w' ∧ MKy (knF (nxK k (q.2 c) (q.1 c) m) (q.1 c)) (kyF (nxK k (q.2 c) (q.1 c) m)) w')) 7 [(0, .ref 400), (1, .int (nI c)), (2, .int (nI m)), (3, .int (nI (iK (nxK k (q.2 c) (q.1 c) m) (q.1 c) n)))] [] w1 (0, 0) := by
    intro d
    induction d with
    | zero =>
      intro n w1 g1 g2 g3 g4 hd
      have s1 : MSk k w1 := s.kp g1 (fun a j z => by unfold kyI at z; unfold msI; omega) (fun _ _ z => z.elim)
      have h1 : MCp (kN k) q w1 := h.kp g1 (fun a j z => by unfold kyI at z; omega)
      have hlt : ¬ iK (nxK k (q.2 c) (q.1 c) m) (q.1 c) n < q.1 c := by omega
      have hnn : n ≤ q.1 c := n_sz hnx g4
      have hik : iK (nxK k (q.2 c) (q.1 c) m) (q.1 c) n < 2147483648 := Nat.lt_of_le_of_lt (iK_le hnx n) (by omega)
      refine V_iload_n dX9_findKeys_7 rfl rfl ?_
      first | refine V_aload_n dX9_findKeys_8 rfl rfl ?_ | refine V_aload_nN dX9_findKeys_8 rfl rfl ?_
      first | refine V_getr (by exact s1.1.k _ rfl rfl) fX9_51 dX9_findKeys_9 (by exact (s1.1.r 18 rfl (by decide) : _ = some 419)) ?_ | refine V_getrN (by exact s1.1.k _ rfl rfl) fX9_51 dX9_findKeys_9 (by exact (s1.1.r 18 rfl (by decide) : _ = some 419)) ?_
      refine V_iload_n dX9_findKeys_12 rfl rfl ?_
      refine G_iald (j := c) (by exact s1.1.k _ rfl rfl) (by rfl) (by exact s1.1.lt 419 (m := 6) rfl rfl (by decide) rfl (by omega)) (by exact s1.1.nlt 419 rfl rfl (by decide)) dX9_findKeys_13 (by exact h1.sz hc) ?_
      refine V_icmp_ge (tgt := 111) dX9_findKeys_14 (by decide) (fun c14 => ?_) (fun c14 => False.elim (by exact c14 (nI_le (Nat.not_lt.mp hlt) hik)))
      refine V_vret rfl dX9_findKeys_111 (Nat.le_of_ble_eq_true rfl) (Nat.le_of_ble_eq_true rfl) ?_
      have hkn : knF (nxK k (q.2 c) (q.1 c) m) (q.1 c) = n := knG_stop 30 0 (Nat.zero_le _) (by omega) (fun i _ hi => g4 i hi) (Or.inr (iK_ge hnx hlt))
      exact ⟨rfl, g1, by rw [hkn]; exact ⟨g2, by omega, g3⟩⟩
    | succ d ih =>
      intro n w1 g1 g2 g3 g4 hd
      have s1 : MSk k w1 := s.kp g1 (fun a j z => by unfold kyI at z; unfold msI; omega) (fun _ _ z => z.elim)
      have h1 : MCp (kN k) q w1 := h.kp g1 (fun a j z => by unfold kyI at z; omega)
      by_cases hlt : iK (nxK k (q.2 c) (q.1 c) m) (q.1 c) n < q.1 c
      · obtain ⟨hcn, hik⟩ := iK_lt hlt
        have hng : n ≤ kyF (nxK k (q.2 c) (q.1 c) m) n := ky_ge hnx n (fun i hi => by
          by_cases e : i + 1 = n
          · rw [e]; exact hcn
          · exact g4 (i + 1) (by omega))
        have hn30 : n < 30 := by omega
        have inner : V mX9_findKeys X (mq mX9_findKeys X (fun r w' => r = none ∧ Kp kyI noA w w' ∧ MKy (knF (nxK k (q.2 c) (q.1 c) m) (q.1 c)) (kyF (nxK k (q.2 c) (q.1 c) m)) w')) 50 [(0, .ref 400), (1, .int (nI c)), (2, .int (nI m)), (3, .int (nI (iK (nxK k (q.2 c) (q.1 c) m) (q.1 c) n))), (4, .int (nI (q.1 c))), (5, .int (nI (iK (nxK k (q.2 c) (q.1 c) m) (q.1 c) n + 1)))] [] (sI (sI w1 422 n (nI (iK (nxK k (q.2 c) (q.1 c) m) (q.1 c) n))) 400 20 (nI (n + 1))) (0, 0) := by
          have gg : Kp kyI noA w (sI (sI w1 422 n (nI (iK (nxK k (q.2 c) (q.1 c) m) (q.1 c) n))) 400 20 (nI (n + 1))) := g1.trans ((Kp.sI w1 (by unfold kyI; omega) _).trans (Kp.sI _ (by unfold kyI; omega) _))
          have hst : nxI (fun j => spanB k (q.2 c) (iK (nxK k (q.2 c) (q.1 c) m) (q.1 c) n) j m) (q.1 c) (iK (nxK k (q.2 c) (q.1 c) m) (q.1 c) n) (iK (nxK k (q.2 c) (q.1 c) m) (q.1 c) n + 1) = q.1 c := if_pos rfl
          have key := inner (iK (nxK k (q.2 c) (q.1 c) m) (q.1 c) n) _ hlt gg (by
            rw [nxI_end k (q.2 c) hlt, ← iK_s hlt]
            refine ih (n + 1) _ gg rdI_eq (fun i hi => ?_) (fun i hi => ?_) ?_
            · rw [rdI_nn (by decide)]
              by_cases e : i = n
              · rw [e, rdI_eq, hik]
              · rw [rdI_ne e]; exact g3 i (by omega)
            · by_cases e : i = n
              · rw [e]; exact hcn
              · exact g4 i (by omega)
            · rw [iK_s hlt]
              by_cases c2 : iK (nxK k (q.2 c) (q.1 c) m) (q.1 c) n + 1 < q.1 c
              · rw [if_pos c2]; have := (hnx _ c2).1; omega
              · rw [if_neg c2]; omega) (q.1 c - (iK (nxK k (q.2 c) (q.1 c) m) (q.1 c) n + 1)) (iK (nxK k (q.2 c) (q.1 c) m) (q.1 c) n + 1) (by omega) (by omega)
          rw [hst] at key
          exact key
        refine V_iload_n dX9_findKeys_7 rfl rfl ?_
        first | refine V_aload_n dX9_findKeys_8 rfl rfl ?_ | refine V_aload_nN dX9_findKeys_8 rfl rfl ?_
        first | refine V_getr (by exact s1.1.k _ rfl rfl) fX9_51 dX9_findKeys_9 (by exact (s1.1.r 18 rfl (by decide) : _ = some 419)) ?_ | refine V_getrN (by exact s1.1.k _ rfl rfl) fX9_51 dX9_findKeys_9 (by exact (s1.1.r 18 rfl (by decide) : _ = some 419)) ?_
        refine V_iload_n dX9_findKeys_12 rfl rfl ?_
        refine G_iald (j := c) (by exact s1.1.k _ rfl rfl) (by rfl) (by exact s1.1.lt 419 (m := 6) rfl rfl (by decide) rfl (by omega)) (by exact s1.1.nlt 419 rfl rfl (by decide)) dX9_findKeys_13 (by exact h1.sz hc) ?_
        refine V_icmp_ge (tgt := 111) dX9_findKeys_14 (by decide) (fun c14 => False.elim (by exact nI_ge hlt (by omega) c14)) (fun c14 => ?_)
        first | refine V_aload_n dX9_findKeys_17 rfl rfl ?_ | refine V_aload_nN dX9_findKeys_17 rfl rfl ?_
        first | refine V_getr (by exact s1.1.k _ rfl rfl) fX9_57 dX9_findKeys_18 (by exact (s1.1.r 21 rfl (by decide) : _ = some 422)) ?_ | refine V_getrN (by exact s1.1.k _ rfl rfl) fX9_57 dX9_findKeys_18 (by exact (s1.1.r 21 rfl (by decide) : _ = some 422)) ?_
        first | refine V_aload_n dX9_findKeys_21 rfl rfl ?_ | refine V_aload_nN dX9_findKeys_21 rfl rfl ?_
        refine G_geti (by exact s1.1.k _ rfl rfl) fX9_199 dX9_findKeys_22 (by exact g2) ?_
        refine V_iload_n dX9_findKeys_25 rfl rfl ?_
        refine G_iast (j := n) (by exact s1.1.k _ rfl rfl) (by rfl) (by exact s1.1.lt 422 (m := 30) rfl rfl (by decide) rfl (by omega)) (by exact s1.1.nlt 422 rfl rfl (by decide)) dX9_findKeys_26 ?_
        first | refine V_aload_n dX9_findKeys_27 rfl rfl ?_ | refine V_aload_nN dX9_findKeys_27 rfl rfl ?_
        refine V_dup dX9_findKeys_28 rfl ?_
        refine G_geti (by exact s1.1.k _ rfl rfl) fX9_199 dX9_findKeys_29 (by exact (rdI_nn (by decide)).trans g2) ?_
        refine V_iconst (v := 1) dX9_findKeys_32 (by decide) ?_
        refine V_iadd dX9_findKeys_33 ?_
        rw [nI_1]
        refine V_puti (by exact s1.1.k _ rfl rfl) pfX9_199 (fun h => nomatch h) dX9_findKeys_34 ⟨rfl, rfl⟩ ?_
        first | refine V_aload_n dX9_findKeys_37 rfl rfl ?_ | refine V_aload_nN dX9_findKeys_37 rfl rfl ?_
        first | refine V_getr (by exact s1.1.k _ rfl rfl) fX9_51 dX9_findKeys_38 (by exact (s1.1.r 18 rfl (by decide) : _ = some 419)) ?_ | refine V_getrN (by exact s1.1.k _ rfl rfl) fX9_51 dX9_findKeys_38 (by exact (s1.1.r 18 rfl (by decide) : _ = some 419)) ?_
        refine V_iload_n dX9_findKeys_41 rfl rfl ?_
        refine G_iald (j := c) (by exact s1.1.k _ rfl rfl) (by rfl) (by exact s1.1.lt 419 (m := 6) rfl rfl (by decide) rfl (by omega)) (by exact s1.1.nlt 419 rfl rfl (by decide)) dX9_findKeys_42 (by exact (rdI_nn (by decide)).trans ((rdI_nn (by decide)).trans (h1.sz hc))) ?_
        refine S_istore (L' := [(0, _), (1, _), (2, _), (3, _), (4, _)]) dX9_findKeys_43 rfl rfl ?_
        refine V_iload_n dX9_findKeys_45 rfl rfl ?_
        refine V_iconst (v := 1) dX9_findKeys_46 (by decide) ?_
        refine V_iadd dX9_findKeys_47 ?_
        rw [nI_1]
        refine S_istore (L' := [(0, _), (1, _), (2, _), (3, _), (4, _), (5, _)]) dX9_findKeys_48 rfl rfl ?_
        exact inner
      · have hnn : n ≤ q.1 c := n_sz hnx g4
        have hik : iK (nxK k (q.2 c) (q.1 c) m) (q.1 c) n < 2147483648 := Nat.lt_of_le_of_lt (iK_le hnx n) (by omega)
        refine V_iload_n dX9_findKeys_7 rfl rfl ?_
        first | refine V_aload_n dX9_findKeys_8 rfl rfl ?_ | refine V_aload_nN dX9_findKeys_8 rfl rfl ?_
        first | refine V_getr (by exact s1.1.k _ rfl rfl) fX9_51 dX9_findKeys_9 (by exact (s1.1.r 18 rfl (by decide) : _ = some 419)) ?_ | refine V_getrN (by exact s1.1.k _ rfl rfl) fX9_51 dX9_findKeys_9 (by exact (s1.1.r 18 rfl (by decide) : _ = some 419)) ?_
        refine V_iload_n dX9_findKeys_12 rfl rfl ?_
        refine G_iald (j := c) (by exact s1.1.k _ rfl rfl) (by rfl) (by exact s1.1.lt 419 (m := 6) rfl rfl (by decide) rfl (by omega)) (by exact s1.1.nlt 419 rfl rfl (by decide)) dX9_findKeys_13 (by exact h1.sz hc) ?_
        refine V_icmp_ge (tgt := 111) dX9_findKeys_14 (by decide) (fun c14 => ?_) (fun c14 => False.elim (by exact c14 (nI_le (Nat.not_lt.mp hlt) hik)))
        refine V_vret rfl dX9_findKeys_111 (Nat.le_of_ble_eq_true rfl) (Nat.le_of_ble_eq_true rfl) ?_
        have hkn : knF (nxK k (q.2 c) (q.1 c) m) (q.1 c) = n := knG_stop 30 0 (Nat.zero_le _) (by omega) (fun i _ hi => g4 i hi) (Or.inr (iK_ge hnx hlt))
        exact ⟨rfl, g1, by rw [hkn]; exact ⟨g2, by omega, g3⟩⟩
  first | refine V_aload_n dX9_findKeys_0 rfl rfl ?_ | refine V_aload_nN dX9_findKeys_0 rfl rfl ?_
  refine V_iconst (v := 0) dX9_findKeys_1 (by decide) ?_
  refine V_puti (by exact s.1.k _ rfl rfl) pfX9_199 (fun h => nomatch h) dX9_findKeys_2 ⟨rfl, rfl⟩ ?_
  refine V_iconst (v := 0) dX9_findKeys_5 (by decide) ?_
  refine S_istore_n (L' := [(0, _), (1, _), (2, _), (3, _)]) dX9_findKeys_6 rfl rfl rfl ?_
  exact outer (q.1 c) 0 _ (Kp.sI w (by unfold kyI; omega) _) rdI_eq (fun i hi => absurd hi (Nat.not_lt_zero _)) (fun i hi => absurd hi (Nat.not_lt_zero _)) (by omega)
