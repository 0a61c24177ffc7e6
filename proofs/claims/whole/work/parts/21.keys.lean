/-! Packing: keys -/
/-- the last j up to i + 1 + e with p, else i + 1 -/
def nkN (p : Nat → Bool) (i : Nat) : Nat → Nat
  | 0 => i + 1
  | e + 1 => if p (i + 1 + (e + 1)) = true then i + 1 + (e + 1) else nkN p i e
theorem nkN_rng (p : Nat → Bool) (i : Nat) : ∀ e, i < nkN p i e ∧ nkN p i e ≤ i + 1 + e
  | 0 => by rw [nkN]; omega
  | e + 1 => by
    have := nkN_rng p i e
    rw [nkN]
    split <;> omega
/-- the key behind key i -/
def nxK (k : Sk) (F : Nat → Nat → Nat) (sz m i : Nat) : Nat := nkN (fun j => spanB k F i j m) i (sz - 2 - i)
theorem nxK_rng (k : Sk) (F : Nat → Nat → Nat) {sz m i : Nat} (h : i + 1 < sz) : i < nxK k F sz m i ∧ nxK k F sz m i < sz := by
  have := nkN_rng (fun j => spanB k F i j m) i (sz - 2 - i)
  unfold nxK
  omega
def kyF (nx : Nat → Nat) : Nat → Nat
  | 0 => 0
  | n + 1 => nx (kyF nx n)
/-- whether a key more comes behind n keys -/
def moreK (nx : Nat → Nat) (sz n : Nat) : Prop := (match n with
  | 0 => 0
  | n + 1 => kyF nx n + 1) < sz
def knG (nx : Nat → Nat) (sz : Nat) : Nat → Nat → Nat
  | 0, n => n
  | d + 1, n => if (match n with
      | 0 => 0
      | n + 1 => kyF nx n + 1) < sz then knG nx sz d (n + 1) else n
/-- how many keys -/
def knF (nx : Nat → Nat) (sz : Nat) : Nat := knG nx sz 30 0
def lat (nx : Nat → Nat) (n : Nat) : Int32 := match n with
  | 0 => -1
  | n + 1 => nI (kyF nx n)

set_option maxRecDepth 100000 in
theorem c_X4_nextKey (k : Sk) (q : Cp) (c i m : Nat) (w : Wd) (s : SkX k w) (h : CpX (kN k) q w) (hc : c < 6) (hi : i + 1 < q.1 c) (hm : m ≤ 18) : Cc yX4_nextKey mX4_nextKey [.ref 21, .ref (40 + c), .int (nI i), .int (nI m)] w (fun r w' => r = some (.int (nI (nxK k (q.2 c) (q.1 c) m i))) ∧ w' = w) := by
  refine Cc.of (by decide) rfl rfl (Nat.le_of_ble_eq_true rfl) (fun X => ?_)
  change V _ X _ 0 [(0, _), (1, _), (2, _), (3, _)] [] _ (0, 0)
  have loop : ∀ (e : Nat), i + 1 + e < q.1 c → V mX4_nextKey X (mq mX4_nextKey X (fun r w' => r = some (.int (nI (nkN (fun j => spanB k (q.2 c) i j m) i e))) ∧ w' = w)) 8 [(0, .ref 21), (1, .ref (40 + c)), (2, .int (nI i)), (3, .int (nI m)), (4, .int (nI (i + 1 + e)))] [] w (0, 0) := by
    intro e
    induction e with
    | zero =>
      intro he
      refine V_iload dX4_nextKey_8 rfl ?_
      refine V_iload_n dX4_nextKey_10 rfl rfl ?_
      refine V_iconst (v := 1) dX4_nextKey_11 (by decide) ?_
      refine V_iadd dX4_nextKey_12 ?_
      refine V_icmp_le (tgt := 37) dX4_nextKey_13 (by decide) (fun c13 => ?_) (fun c13 => False.elim (by exact c13 (by rw [nI_1]; exact nI_le (by omega) (by have := h.le hc; omega))))
      refine V_iload_n dX4_nextKey_37 rfl rfl ?_
      refine V_iconst (v := 1) dX4_nextKey_38 (by decide) ?_
      refine V_iadd dX4_nextKey_39 ?_
      refine V_iret rfl dX4_nextKey_40 (Nat.le_of_ble_eq_true rfl) (Nat.le_of_ble_eq_true rfl) ?_
      exact ok2i (nI_1 i)
    | succ e ih =>
      intro he
      refine V_iload dX4_nextKey_8 rfl ?_
      refine V_iload_n dX4_nextKey_10 rfl rfl ?_
      refine V_iconst (v := 1) dX4_nextKey_11 (by decide) ?_
      refine V_iadd dX4_nextKey_12 ?_
      refine V_icmp_le (tgt := 37) dX4_nextKey_13 (by decide) (fun c13 => False.elim (by rw [nI_1] at c13; exact nI_ge (a := i + 1) (b := i + 1 + (e + 1)) (by omega) (by have := h.le hc; omega) c13)) (fun c13 => ?_)
      first | refine V_aload_n dX4_nextKey_16 rfl rfl ?_ | refine V_aload_nN dX4_nextKey_16 rfl rfl ?_
      first | refine V_aload_n dX4_nextKey_17 rfl rfl ?_ | refine V_aload_nN dX4_nextKey_17 rfl rfl ?_
      refine V_iload_n dX4_nextKey_18 rfl rfl ?_
      refine V_iload dX4_nextKey_19 rfl ?_
      refine V_iload_n dX4_nextKey_21 rfl rfl ?_
      refine V_callS (As := [_, _, _, _, _]) (st := _) (c_X4_spans k q c i (i + 1 + (e + 1)) m w s h hc (by omega) (by omega) hm) kX4_26 ⟨rfl, rfl, rfl⟩ ⟨(Nat.le_of_ble_eq_true rfl), (Nat.le_of_ble_eq_true rfl)⟩ dX4_nextKey_22 rfl rfl (Nat.le_of_ble_eq_true rfl) ⟨(Nat.le_of_ble_eq_true rfl), (Nat.le_of_ble_eq_true rfl)⟩ ?_
      refine V_if_eq (tgt := 31) dX4_nextKey_25 (by decide) (fun c25 => ?_) (fun c25 => ?_)
      · refine S_iinc (L' := [(0, _), (1, _), (2, _), (3, _), (4, _)]) dX4_nextKey_31 rfl rfl rfl rfl ?_
        rw [show i + 1 + (e + 1) = (i + 1 + e) + 1 from rfl, nI_dec]
        refine V_goto (tgt := 8) dX4_nextKey_34 (by decide) ?_
        rw [nkN, if_neg (fun z => absurd c25 (by rw [z]; decide))]
        exact ih (by omega)
      · refine V_iload dX4_nextKey_28 rfl ?_
        refine V_iret rfl dX4_nextKey_30 (Nat.le_of_ble_eq_true rfl) (Nat.le_of_ble_eq_true rfl) ?_
        exact ok2i (by rw [nkN, if_pos (Classical.not_not.mp fun z => c25 (by rw [Bool.eq_false_iff.mpr z]; rfl))])
  first | refine V_aload_n dX4_nextKey_0 rfl rfl ?_ | refine V_aload_nN dX4_nextKey_0 rfl rfl ?_
  refine G_geti (by first | exact s.1.k _ rfl rfl | exact h.1.kc hc) fX4_19 dX4_nextKey_1 (by exact h.sz hc) ?_
  refine V_iconst (v := 1) dX4_nextKey_4 (by decide) ?_
  refine V_isub dX4_nextKey_5 ?_
  rw [show nI (q.1 c) - 1 = nI (i + 1 + (q.1 c - 2 - i)) from by rw [show (1 : Int32) = nI 1 from rfl, pk_sub (by omega)]; congr 1; omega]
  refine S_istore (L' := [(0, _), (1, _), (2, _), (3, _), (4, _)]) dX4_nextKey_6 rfl rfl ?_
  exact loop (q.1 c - 2 - i) (by omega)
