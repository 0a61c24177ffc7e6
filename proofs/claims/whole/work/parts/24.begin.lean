/-! Graph: begin, nearestOpen, reachFrom, keepPath -/
theorem rdV_nn {w : Wd} {n a j : Nat} {f : Nat → Int32} (h : a ≠ n) : wI (sV w n f) a j = wI w a j := if_neg h
theorem rdV_eq {w : Wd} {n j : Nat} {f : Nat → Int32} : wI (sV w n f) n j = f j := if_pos rfl
abbrev grS (a : Nat) : Prop := a = 24 ∨ (30 ≤ a ∧ a < 34)
def prI (q : Cp) (i : Nat) : List Nat := (List.range i).filter (pN q)
def prL (q : Cp) : List Nat := prI q 180
def cI (o : Option Nat) : Int32 := match o with
  | none => 2147483647
  | some n => nI n
/-- the scratch rows of the graph: what is settled, costs, followers -/
def GX (q : Cp) (S : Nat → Bool) (C F : Nat → Option Nat) (w : Wd) : Prop := wI w 24 5 = nI (prL q).length ∧ (∀ n s, (prL q)[n]? = some s → wI w 30 n = nI s) ∧ ∀ s, s < 180 → wI w 33 s = bI (S s) ∧ wI w 31 s = cI (C s) ∧ wI w 32 s = oI (F s)
theorem prI_len (q : Cp) (i : Nat) : (prI q i).length ≤ i := Nat.le_trans (List.length_filter_le _ _) (by rw [List.length_range]; exact Nat.le_refl _)
theorem prI_y {q : Cp} {i : Nat} (h : pN q i = true) : prI q (i + 1) = prI q i ++ [i] := by
  unfold prI
  rw [List.range_succ, List.filter_append]
  simp [h]
theorem prI_n {q : Cp} {i : Nat} (h : ¬ pN q i = true) : prI q (i + 1) = prI q i := by
  unfold prI
  rw [List.range_succ, List.filter_append]
  simp [h]
theorem prL_mem {q : Cp} {s : Nat} : s ∈ prL q ↔ s < 180 ∧ pN q s = true := by
  unfold prL prI
  rw [List.mem_filter, List.mem_range]
theorem prL_nodup (q : Cp) : (prL q).Nodup := List.Nodup.sublist List.filter_sublist List.nodup_range

set_option maxRecDepth 100000 in
theorem c_X3_begin (nb : Nat) (q : Cp) (g : Nat) (w : Wd) (h : CpX nb q w) (hg : g < 180) : Cc yX3_begin mX3_begin [.ref 24, .ref 22, .int (nI g)] w (fun r w' => r = none ∧ Keep grS w w' ∧ (∀ j, j ≠ 5 → wI w' 24 j = wI w 24 j) ∧ GX q (fun _ => false) (fun s => if s = g then some 0 else none) (fun _ => none) w') := by
  refine Cc.of (by decide) rfl rfl (Nat.le_of_ble_eq_true rfl) (fun X => ?_)
  change V _ X _ 0 [(0, _), (1, _), (2, _)] [] _ (0, 0)
  have loop : ∀ (d i : Nat) (w1 : Wd), i + d = 180 → Keep grS w w1 → (∀ j, j ≠ 5 → wI w1 24 j = wI w 24 j) → wI w1 24 5 = nI (prI q i).length → (∀ n s, (prI q i)[n]? = some s → wI w1 30 n = nI s) → (∀ s, s < i → wI w1 33 s = 0) → V mX3_begin X (mq mX3_begin X (fun r w' => r = none ∧ Keep grS w w' ∧ (∀ j, j ≠ 5 → wI w' 24 j = wI w 24 j) ∧ GX q (fun _ => false) (fun s => if s = g then some 0 else none) (fun _ => none) w')) 7 [(0, .ref 24), (1, .ref 22), (2, .int (nI g)), (3, .int (nI i))] [] w1 (0, 0) := by
    intro d
    induction d with
    | zero =>
      intro i w1 hd g1 g2 g3 g4 g5
      have lx : LayX w1 := h.1.keep g1
      obtain rfl : i = 180 := hd
      refine V_iload_n dX3_begin_7 rfl rfl ?_
      refine V_sipush (v := 180) dX3_begin_8 (by decide) ?_
      refine V_icmp_ge (tgt := 55) dX3_begin_11 (by decide) (fun c11 => ?_) (fun c11 => False.elim (by exact c11 (by decide)))
      first | refine V_aload_n dX3_begin_55 rfl rfl ?_ | refine V_aload_nN dX3_begin_55 rfl rfl ?_
      first | refine V_getr (by first | exact lx.k _ rfl rfl) fX3_25 dX3_begin_56 (by exact lx.r _ _ rfl) ?_ | refine V_getrN (by first | exact lx.k _ rfl rfl) fX3_25 dX3_begin_56 (by exact lx.r _ _ rfl) ?_
      refine V_ldc ctX3_71 dX3_begin_59 ?_
      refine V_callSv (As := [_, _]) (st := _) (c_J7_fill_53178 31 180 _ w1 (lx.k 31 rfl rfl) (lx.n 31 rfl rfl) (by decide)) kX3_72 ⟨rfl, rfl, rfl⟩ ⟨(Nat.le_of_ble_eq_true rfl), (Nat.le_of_ble_eq_true rfl)⟩ dX3_begin_61 rfl rfl (Nat.le_of_ble_eq_true rfl) ⟨(Nat.le_of_ble_eq_true rfl), (Nat.le_of_ble_eq_true rfl)⟩ ?_
      first | refine V_aload_n dX3_begin_64 rfl rfl ?_ | refine V_aload_nN dX3_begin_64 rfl rfl ?_
      first | refine V_getr (by first | exact lx.k _ rfl rfl) fX3_28 dX3_begin_65 (by exact lx.r _ _ rfl) ?_ | refine V_getrN (by first | exact lx.k _ rfl rfl) fX3_28 dX3_begin_65 (by exact lx.r _ _ rfl) ?_
      refine V_iconst (v := -1) dX3_begin_68 (by decide) ?_
      refine V_callSv (As := [_, _]) (st := _) (c_J7_fill_53178 32 180 _ _ (lx.k 32 rfl rfl) (lx.n 32 rfl rfl) (by decide)) kX3_72 ⟨rfl, rfl, rfl⟩ ⟨(Nat.le_of_ble_eq_true rfl), (Nat.le_of_ble_eq_true rfl)⟩ dX3_begin_69 rfl rfl (Nat.le_of_ble_eq_true rfl) ⟨(Nat.le_of_ble_eq_true rfl), (Nat.le_of_ble_eq_true rfl)⟩ ?_
      first | refine V_aload_n dX3_begin_72 rfl rfl ?_ | refine V_aload_nN dX3_begin_72 rfl rfl ?_
      first | refine V_getr (by first | exact lx.k _ rfl rfl) fX3_25 dX3_begin_73 (by exact lx.r _ _ rfl) ?_ | refine V_getrN (by first | exact lx.k _ rfl rfl) fX3_25 dX3_begin_73 (by exact lx.r _ _ rfl) ?_
      refine V_iload_n dX3_begin_76 rfl rfl ?_
      refine V_iconst (v := 0) dX3_begin_77 (by decide) ?_
      refine G_iast (j := g) (by first | exact lx.k _ rfl rfl) (by rfl) (by exact Nat.lt_of_lt_of_eq (show g < 180 by exact hg) (lx.n 31 rfl rfl).symm) (by first | exact Nat.lt_of_le_of_lt (Nat.le_of_eq (lx.n 29 rfl rfl)) (by decide) | exact Nat.lt_of_le_of_lt (Nat.le_of_eq (lx.n 30 rfl rfl)) (by decide) | exact Nat.lt_of_le_of_lt (Nat.le_of_eq (lx.n 31 rfl rfl)) (by decide) | exact Nat.lt_of_le_of_lt (Nat.le_of_eq (lx.n 32 rfl rfl)) (by decide) | exact Nat.lt_of_le_of_lt (Nat.le_of_eq (lx.n 33 rfl rfl)) (by decide)) dX3_begin_78 ?_
      refine V_vret rfl dX3_begin_79 (Nat.le_of_ble_eq_true rfl) (Nat.le_of_ble_eq_true rfl) ?_
      refine ⟨rfl, ((g1.trans (Keep.sV w1 (by unfold grS; omega) _)).trans (Keep.sV _ (by unfold grS; omega) _)).trans (Keep.sI _ (by unfold grS; omega) _ _), fun j hj => g2 j hj, g3, fun n s e => g4 n s e, fun s hs => ⟨g5 s hs, ?_, ?_⟩⟩
      · show _ = cI (if s = g then some 0 else none)
        by_cases e : s = g
        · subst e; rw [if_pos rfl]; exact rdI_eq
        · rw [if_neg e]; exact (rdI_ne e).trans ((rdV_nn (by decide)).trans (rdV_eq.trans (if_pos hs)))
      · exact (rdI_nn (by decide)).trans (rdV_eq.trans (if_pos hs))
    | succ d ih =>
      intro i w1 hd g1 g2 g3 g4 g5
      have lx : LayX w1 := h.1.keep g1
      by_cases hp : pN q i = true
      · refine V_iload_n dX3_begin_7 rfl rfl ?_
        refine V_sipush (v := 180) dX3_begin_8 (by decide) ?_
        refine V_icmp_ge (tgt := 55) dX3_begin_11 (by decide) (fun c11 => False.elim (by exact nI_ge (a := i) (b := 180) (by omega) (by decide) c11)) (fun c11 => ?_)
        first | refine V_aload_n dX3_begin_14 rfl rfl ?_ | refine V_aload_nN dX3_begin_14 rfl rfl ?_
        first | refine V_getr (by first | exact lx.k _ rfl rfl) fX3_31 dX3_begin_15 (by exact lx.r _ _ rfl) ?_ | refine V_getrN (by first | exact lx.k _ rfl rfl) fX3_31 dX3_begin_15 (by exact lx.r _ _ rfl) ?_
        refine V_iload_n dX3_begin_18 rfl rfl ?_
        refine V_iconst (v := 0) dX3_begin_19 (by decide) ?_
        refine G_zast (j := i) (by first | exact lx.k _ rfl rfl) (by rfl) (by exact Nat.lt_of_lt_of_eq (show i < 180 by omega) (lx.n 33 rfl rfl).symm) (by first | exact Nat.lt_of_le_of_lt (Nat.le_of_eq (lx.n 29 rfl rfl)) (by decide) | exact Nat.lt_of_le_of_lt (Nat.le_of_eq (lx.n 30 rfl rfl)) (by decide) | exact Nat.lt_of_le_of_lt (Nat.le_of_eq (lx.n 31 rfl rfl)) (by decide) | exact Nat.lt_of_le_of_lt (Nat.le_of_eq (lx.n 32 rfl rfl)) (by decide) | exact Nat.lt_of_le_of_lt (Nat.le_of_eq (lx.n 33 rfl rfl)) (by decide)) rfl dX3_begin_20 ?_
        first | refine V_aload_n dX3_begin_21 rfl rfl ?_ | refine V_aload_nN dX3_begin_21 rfl rfl ?_
        refine V_iload_n dX3_begin_22 rfl rfl ?_
        refine V_callV (As := [_]) (st := _) (c_X2_findSlot_s nb q i _ (h.keep (g1.trans (Keep.sI w1 (by unfold grS; omega) _ _)) (fun a => by unfold grS cpA; omega)) (by omega) (of_decide_eq_true hp)) kX3_45 (by first | exact lx.k _ rfl rfl) ⟨rfl, rfl, rfl⟩ ⟨(Nat.le_of_ble_eq_true rfl), (Nat.le_of_ble_eq_true rfl)⟩ dX3_begin_23 rfl rfl (Nat.le_of_ble_eq_true rfl) ⟨(Nat.le_of_ble_eq_true rfl), (Nat.le_of_ble_eq_true rfl)⟩ ?_
        refine V_ifnull dX3_begin_26 ?_
        first | refine V_aload_n dX3_begin_29 rfl rfl ?_ | refine V_aload_nN dX3_begin_29 rfl rfl ?_
        first | refine V_getr (by first | exact lx.k _ rfl rfl) fX3_22 dX3_begin_30 (by exact lx.r _ _ rfl) ?_ | refine V_getrN (by first | exact lx.k _ rfl rfl) fX3_22 dX3_begin_30 (by exact lx.r _ _ rfl) ?_
        first | refine V_aload_n dX3_begin_33 rfl rfl ?_ | refine V_aload_nN dX3_begin_33 rfl rfl ?_
        refine G_geti (by first | exact lx.k _ rfl rfl) fX3_57 dX3_begin_34 (by exact (rdI_nn (by decide)).trans g3) ?_
        refine V_iload_n dX3_begin_37 rfl rfl ?_
        refine G_iast (j := (prI q i).length) (by first | exact lx.k _ rfl rfl) (by rfl) (by exact Nat.lt_of_lt_of_eq (show (prI q i).length < 180 by have := prI_len q i; omega) (lx.n 30 rfl rfl).symm) (by first | exact Nat.lt_of_le_of_lt (Nat.le_of_eq (lx.n 29 rfl rfl)) (by decide) | exact Nat.lt_of_le_of_lt (Nat.le_of_eq (lx.n 30 rfl rfl)) (by decide) | exact Nat.lt_of_le_of_lt (Nat.le_of_eq (lx.n 31 rfl rfl)) (by decide) | exact Nat.lt_of_le_of_lt (Nat.le_of_eq (lx.n 32 rfl rfl)) (by decide) | exact Nat.lt_of_le_of_lt (Nat.le_of_eq (lx.n 33 rfl rfl)) (by decide)) dX3_begin_38 ?_
        first | refine V_aload_n dX3_begin_39 rfl rfl ?_ | refine V_aload_nN dX3_begin_39 rfl rfl ?_
        refine V_dup dX3_begin_40 rfl ?_
        refine G_geti (by first | exact lx.k _ rfl rfl) fX3_57 dX3_begin_41 (by exact ((rdI_nn (by decide)).trans (rdI_nn (by decide))).trans g3) ?_
        refine V_iconst (v := 1) dX3_begin_44 (by decide) ?_
        refine V_iadd dX3_begin_45 ?_
        rw [nI_1]
        refine V_puti (by first | exact lx.k _ rfl rfl) pfX3_57 (fun h => nomatch h) dX3_begin_46 ⟨rfl, rfl⟩ ?_
        refine S_iinc (L' := [(0, _), (1, _), (2, _), (3, _)]) dX3_begin_49 rfl rfl rfl rfl ?_
        rw [nI_inc]
        refine V_goto (tgt := 7) dX3_begin_52 (by decide) ?_
        refine ih (i + 1) _ (by omega) (((g1.trans (Keep.sI w1 (by unfold grS; omega) _ _)).trans (Keep.sI _ (by unfold grS; omega) _ _)).trans (Keep.sI _ (by unfold grS; omega) _ _)) (fun j hj => ?_) ?_ (fun n s e => ?_) (fun s hs => ?_)
        · rw [rdI_ne hj, rdI_nn (by decide), rdI_nn (by decide)]; exact g2 j hj
        · rw [rdI_eq, prI_y hp, List.length_append]; rfl
        · rw [rdI_nn (by decide)]
          rw [prI_y hp] at e
          by_cases hn : n < (prI q i).length
          · rw [rdI_ne (by omega), rdI_nn (by decide)]
            rw [List.getElem?_append_left hn] at e
            exact g4 n s e
          · have hlt := (List.getElem?_eq_some_iff.mp e).1
            rw [List.length_append] at hlt
            have hn2 : n = (prI q i).length := by simp at hlt; omega
            subst hn2
            rw [rdI_eq]
            rw [List.getElem?_append_right (Nat.le_refl _), Nat.sub_self] at e
            cases e
            rfl
        · rw [rdI_nn (by decide), rdI_nn (by decide)]
          by_cases e : s = i
          · subst e; exact rdI_eq
          · rw [rdI_ne e]; exact g5 s (by omega)
      · refine V_iload_n dX3_begin_7 rfl rfl ?_
        refine V_sipush (v := 180) dX3_begin_8 (by decide) ?_
        refine V_icmp_ge (tgt := 55) dX3_begin_11 (by decide) (fun c11 => False.elim (by exact nI_ge (a := i) (b := 180) (by omega) (by decide) c11)) (fun c11 => ?_)
        first | refine V_aload_n dX3_begin_14 rfl rfl ?_ | refine V_aload_nN dX3_begin_14 rfl rfl ?_
        first | refine V_getr (by first | exact lx.k _ rfl rfl) fX3_31 dX3_begin_15 (by exact lx.r _ _ rfl) ?_ | refine V_getrN (by first | exact lx.k _ rfl rfl) fX3_31 dX3_begin_15 (by exact lx.r _ _ rfl) ?_
        refine V_iload_n dX3_begin_18 rfl rfl ?_
        refine V_iconst (v := 0) dX3_begin_19 (by decide) ?_
        refine G_zast (j := i) (by first | exact lx.k _ rfl rfl) (by rfl) (by exact Nat.lt_of_lt_of_eq (show i < 180 by omega) (lx.n 33 rfl rfl).symm) (by first | exact Nat.lt_of_le_of_lt (Nat.le_of_eq (lx.n 29 rfl rfl)) (by decide) | exact Nat.lt_of_le_of_lt (Nat.le_of_eq (lx.n 30 rfl rfl)) (by decide) | exact Nat.lt_of_le_of_lt (Nat.le_of_eq (lx.n 31 rfl rfl)) (by decide) | exact Nat.lt_of_le_of_lt (Nat.le_of_eq (lx.n 32 rfl rfl)) (by decide) | exact Nat.lt_of_le_of_lt (Nat.le_of_eq (lx.n 33 rfl rfl)) (by decide)) rfl dX3_begin_20 ?_
        first | refine V_aload_n dX3_begin_21 rfl rfl ?_ | refine V_aload_nN dX3_begin_21 rfl rfl ?_
        refine V_iload_n dX3_begin_22 rfl rfl ?_
        refine V_callV (As := [_]) (st := _) (c_X2_findSlot_n nb q i _ (h.keep (g1.trans (Keep.sI w1 (by unfold grS; omega) _ _)) (fun a => by unfold grS cpA; omega)) (by omega) (fun z => hp (decide_eq_true z))) kX3_45 (by first | exact lx.k _ rfl rfl) ⟨rfl, rfl, rfl⟩ ⟨(Nat.le_of_ble_eq_true rfl), (Nat.le_of_ble_eq_true rfl)⟩ dX3_begin_23 rfl rfl (Nat.le_of_ble_eq_true rfl) ⟨(Nat.le_of_ble_eq_true rfl), (Nat.le_of_ble_eq_true rfl)⟩ ?_
        refine V_ifnullN (tgt := 49) dX3_begin_26 (by decide) ?_
        refine S_iinc (L' := [(0, _), (1, _), (2, _), (3, _)]) dX3_begin_49 rfl rfl rfl rfl ?_
        rw [nI_inc]
        refine V_goto (tgt := 7) dX3_begin_52 (by decide) ?_
        refine ih (i + 1) _ (by omega) (g1.trans (Keep.sI w1 (by unfold grS; omega) _ _)) (fun j hj => ?_) ?_ (fun n s e => ?_) (fun s hs => ?_)
        · rw [rdI_nn (by decide)]; exact g2 j hj
        · rw [rdI_nn (by decide), prI_n hp]; exact g3
        · rw [rdI_nn (by decide)]
          rw [prI_n hp] at e
          exact g4 n s e
        · by_cases e : s = i
          · subst e; exact rdI_eq
          · rw [rdI_ne e]; exact g5 s (by omega)
  first | refine V_aload_n dX3_begin_0 rfl rfl ?_ | refine V_aload_nN dX3_begin_0 rfl rfl ?_
  refine V_iconst (v := 0) dX3_begin_1 (by decide) ?_
  refine V_puti (by exact h.1.k _ rfl rfl) pfX3_57 (fun h => nomatch h) dX3_begin_2 ⟨rfl, rfl⟩ ?_
  refine V_iconst (v := 0) dX3_begin_5 (by decide) ?_
  refine S_istore_n (L' := [(0, _), (1, _), (2, _), (3, _)]) dX3_begin_6 rfl rfl rfl ?_
  exact loop 180 0 _ rfl (Keep.sI w (Or.inl rfl) 5 _) (fun j hj => rdI_ne hj) rdI_eq (fun n s e => by cases e) (fun s hs => absurd hs (Nat.not_lt_zero _))

theorem cI_lt {a b : Option Nat} (ha : ∀ e, a = some e → e < 2147483647) (hb : ∀ e, b = some e → e < 2147483647) : cI a < cI b ↔ ∃ e, a = some e ∧ ∀ d, b = some d → e < d := by
  cases a with
  | none =>
    refine ⟨fun h => ?_, fun h => by obtain ⟨e, h1, -⟩ := h; cases h1⟩
    cases b with
    | none => exact absurd h (by decide)
    | some d =>
      have hd := hb d rfl
      rw [Int32.lt_iff_toInt_lt, show (cI (some d)).toInt = (d : Int) from nI_toInt (by omega), show (cI none).toInt = 2147483647 from rfl] at h
      omega
  | some e =>
    have he := ha e rfl
    cases b with
    | none =>
      refine ⟨fun _ => ⟨e, rfl, fun d h => by cases h⟩, fun _ => ?_⟩
      rw [Int32.lt_iff_toInt_lt, show (cI (some e)).toInt = (e : Int) from nI_toInt (by omega), show (cI none).toInt = 2147483647 from rfl]
      omega
    | some d =>
      have hd := hb d rfl
      show nI e < nI d ↔ _
      rw [nI_ltI (by omega) (by omega)]
      exact ⟨fun h => ⟨e, rfl, fun d' h' => by cases h'; exact h⟩, fun h => by obtain ⟨e', h1, h2⟩ := h; cases h1; exact h2 d rfl⟩
/-- the best one among the first n -/
def bestN (q : Cp) (S : Nat → Bool) (C : Nat → Option Nat) (n : Nat) (o : Option Nat) : Prop := (o = none → ∀ m s, m < n → (prL q)[m]? = some s → S s = false → C s = none) ∧ ∀ v, o = some v → v ∈ prL q ∧ S v = false ∧ ∃ d, C v = some d ∧ ∀ m s e, m < n → (prL q)[m]? = some s → S s = false → C s = some e → d ≤ e
def lsO (C : Nat → Option Nat) (o : Option Nat) : Int32 := match o with
  | none => 2147483647
  | some v => cI (C v)
def oC (C : Nat → Option Nat) (o : Option Nat) : Option Nat := match o with
  | none => none
  | some v => C v
theorem lsO_c (C : Nat → Option Nat) (o : Option Nat) : lsO C o = cI (oC C o) := by cases o <;> rfl
theorem bI_0 {b : Bool} (h : bI b = 0) : b = false := by cases b with
  | false => rfl
  | true => exact absurd h (by decide)
theorem bI_1 {b : Bool} (h : ¬ bI b = 0) : b = true := by cases b with
  | true => rfl
  | false => exact absurd rfl h

theorem bestN_skip {q : Cp} {S : Nat → Bool} {C : Nat → Option Nat} {n s : Nat} {o : Option Nat} (hb : bestN q S C n o) (hs : (prL q)[n]? = some s) (h : S s = true) : bestN q S C (n + 1) o := by
  refine ⟨fun e m t hm ht hS => ?_, fun v e => ?_⟩
  · by_cases e2 : m = n
    · subst e2; rw [hs] at ht; cases ht; rw [h] at hS; cases hS
    · exact hb.1 e m t (by omega) ht hS
  · obtain ⟨h1, h2, d, h3, h4⟩ := hb.2 v e
    refine ⟨h1, h2, d, h3, fun m t c hm ht hS hC => ?_⟩
    by_cases e2 : m = n
    · subst e2; rw [hs] at ht; cases ht; rw [h] at hS; cases hS
    · exact h4 m t c (by omega) ht hS hC
theorem bestN_old {q : Cp} {S : Nat → Bool} {C : Nat → Option Nat} {n s : Nat} {o : Option Nat} (hb : bestN q S C n o) (hs : (prL q)[n]? = some s) (hC : ∀ e, C s = some e → e < 2147483647) (hO : ∀ e, oC C o = some e → e < 2147483647) (c : lsO C o ≤ cI (C s)) : bestN q S C (n + 1) o := by
  rw [lsO_c, ← Int32.not_lt, cI_lt hC hO] at c
  refine ⟨fun e m t hm ht hS => ?_, fun v e => ?_⟩
  · by_cases e2 : m = n
    · subst e2; rw [hs] at ht; cases ht
      cases hx : C s with
      | none => rfl
      | some e9 => exact absurd ⟨e9, hx, fun d9 h9 => by rw [e] at h9; cases h9⟩ c
    · exact hb.1 e m t (by omega) ht hS
  · obtain ⟨h1, h2, d, h3, h4⟩ := hb.2 v e
    refine ⟨h1, h2, d, h3, fun m t e9 hm ht hS hCt => ?_⟩
    by_cases e2 : m = n
    · subst e2; rw [hs] at ht; cases ht
      refine Nat.le_of_not_lt (fun z => c ⟨e9, hCt, fun d9 h9 => ?_⟩)
      rw [e] at h9
      rw [show oC C (some v) = C v from rfl, h3] at h9
      cases h9
      exact z
    · exact h4 m t e9 (by omega) ht hS hCt
theorem bestN_new {q : Cp} {S : Nat → Bool} {C : Nat → Option Nat} {n s : Nat} {o : Option Nat} (hb : bestN q S C n o) (hs : (prL q)[n]? = some s) (hC : ∀ e, C s = some e → e < 2147483647) (hO : ∀ e, oC C o = some e → e < 2147483647) (hS0 : S s = false) (c : ¬ lsO C o ≤ cI (C s)) : bestN q S C (n + 1) (some s) := by
  rw [lsO_c, ← Int32.not_lt, Classical.not_not, cI_lt hC hO] at c
  obtain ⟨e, h1, h2⟩ := c
  refine ⟨fun z => (by cases z), fun v z => ?_⟩
  cases z
  refine ⟨List.mem_of_getElem? hs, hS0, e, h1, fun m t c hm ht hS hCt => ?_⟩
  by_cases e2 : m = n
  · subst e2; rw [hs] at ht; cases ht; rw [h1] at hCt; cases hCt; exact Nat.le_refl _
  · cases o with
    | none => have := hb.1 rfl m t (by omega) ht hS; rw [this] at hCt; cases hCt
    | some v =>
      obtain ⟨-, -, d, h3, h4⟩ := hb.2 v rfl
      exact Nat.le_trans (Nat.le_of_lt (h2 d h3)) (h4 m t c (by omega) ht hS hCt)

set_option maxRecDepth 100000 in
theorem c_X3_nearestOpen (q : Cp) (S : Nat → Bool) (C F : Nat → Option Nat) (w : Wd) (lx : LayX w) (gx : GX q S C F w) (hC : ∀ s e, C s = some e → e < 2147483647) : Cc yX3_nearestOpen mX3_nearestOpen [.ref 24] w (fun r w' => ∃ v, r = some v ∧ (w' = w ∧ ∃ o, v = .int (oI o) ∧ bestN q S C (prL q).length o)) := by
  refine Cc.of (by decide) rfl rfl (Nat.le_of_ble_eq_true rfl) (fun X => ?_)
  change V _ X _ 0 [(0, _)] [] _ (0, 0)
  have loop : ∀ (d n : Nat) (o : Option Nat), n + d = (prL q).length → bestN q S C n o → V mX3_nearestOpen X (mq mX3_nearestOpen X (fun r w' => ∃ v, r = some v ∧ (w' = w ∧ ∃ o, v = .int (oI o) ∧ bestN q S C (prL q).length o))) 7 [(0, .ref 24), (1, .int (oI o)), (2, .int (lsO C o)), (3, .int (nI n))] [] w (0, 0) := by
    intro d
    induction d with
    | zero =>
      intro n o hd hb
      refine V_iload_n dX3_nearestOpen_7 rfl rfl ?_
      first | refine V_aload_n dX3_nearestOpen_8 rfl rfl ?_ | refine V_aload_nN dX3_nearestOpen_8 rfl rfl ?_
      refine G_geti (by exact lx.k _ rfl rfl) fX3_57 dX3_nearestOpen_9 (by exact gx.1) ?_
      refine V_icmp_ge (tgt := 61) dX3_nearestOpen_12 (by decide) (fun c12 => ?_) (fun c12 => False.elim (by exact c12 (nI_le (by omega) (by have := prI_len q 180; unfold prL at *; omega))))
      refine V_iload_n dX3_nearestOpen_61 rfl rfl ?_
      refine V_iret rfl dX3_nearestOpen_62 (Nat.le_of_ble_eq_true rfl) (Nat.le_of_ble_eq_true rfl) ?_
      exact ⟨_, rfl, rfl, o, rfl, by rw [show (prL q).length = n by omega]; exact hb⟩
    | succ d ih =>
      intro n o hd hb
      obtain ⟨s, hs⟩ : ∃ s, (prL q)[n]? = some s := ⟨_, List.getElem?_eq_getElem (by omega)⟩
      have hs180 : s < 180 := (prL_mem.mp (List.mem_of_getElem? hs)).1
      have hOC : ∀ e, oC C o = some e → e < 2147483647 := fun e h => by
        cases o with
        | none => cases h
        | some v => exact hC v e h
      refine V_iload_n dX3_nearestOpen_7 rfl rfl ?_
      first | refine V_aload_n dX3_nearestOpen_8 rfl rfl ?_ | refine V_aload_nN dX3_nearestOpen_8 rfl rfl ?_
      refine G_geti (by exact lx.k _ rfl rfl) fX3_57 dX3_nearestOpen_9 (by exact gx.1) ?_
      refine V_icmp_ge (tgt := 61) dX3_nearestOpen_12 (by decide) (fun c12 => False.elim (by exact nI_ge (a := n) (b := (prL q).length) (by omega) (by have := prI_len q 180; unfold prL at *; omega) c12)) (fun c12 => ?_)
      first | refine V_aload_n dX3_nearestOpen_15 rfl rfl ?_ | refine V_aload_nN dX3_nearestOpen_15 rfl rfl ?_
      first | refine V_getr (by exact lx.k _ rfl rfl) fX3_22 dX3_nearestOpen_16 (by exact lx.r _ _ rfl) ?_ | refine V_getrN (by exact lx.k _ rfl rfl) fX3_22 dX3_nearestOpen_16 (by exact lx.r _ _ rfl) ?_
      refine V_iload_n dX3_nearestOpen_19 rfl rfl ?_
      refine G_iald (j := n) (by exact lx.k _ rfl rfl) (by rfl) (by exact Nat.lt_of_lt_of_eq (show n < 180 by have := prI_len q 180; unfold prL at *; omega) (lx.n 30 rfl rfl).symm) (by first | exact Nat.lt_of_le_of_lt (Nat.le_of_eq (lx.n 29 rfl rfl)) (by decide) | exact Nat.lt_of_le_of_lt (Nat.le_of_eq (lx.n 30 rfl rfl)) (by decide) | exact Nat.lt_of_le_of_lt (Nat.le_of_eq (lx.n 31 rfl rfl)) (by decide) | exact Nat.lt_of_le_of_lt (Nat.le_of_eq (lx.n 32 rfl rfl)) (by decide) | exact Nat.lt_of_le_of_lt (Nat.le_of_eq (lx.n 33 rfl rfl)) (by decide)) dX3_nearestOpen_20 (by exact gx.2.1 n s hs) ?_
      refine S_istore (L' := [(0, _), (1, _), (2, _), (3, _), (4, _)]) dX3_nearestOpen_21 rfl rfl ?_
      first | refine V_aload_n dX3_nearestOpen_23 rfl rfl ?_ | refine V_aload_nN dX3_nearestOpen_23 rfl rfl ?_
      first | refine V_getr (by exact lx.k _ rfl rfl) fX3_31 dX3_nearestOpen_24 (by exact lx.r _ _ rfl) ?_ | refine V_getrN (by exact lx.k _ rfl rfl) fX3_31 dX3_nearestOpen_24 (by exact lx.r _ _ rfl) ?_
      refine V_iload dX3_nearestOpen_27 rfl ?_
      refine G_zald (j := s) (by exact lx.k _ rfl rfl) (by rfl) (by exact Nat.lt_of_lt_of_eq (show s < 180 by exact hs180) (lx.n 33 rfl rfl).symm) (by first | exact Nat.lt_of_le_of_lt (Nat.le_of_eq (lx.n 29 rfl rfl)) (by decide) | exact Nat.lt_of_le_of_lt (Nat.le_of_eq (lx.n 30 rfl rfl)) (by decide) | exact Nat.lt_of_le_of_lt (Nat.le_of_eq (lx.n 31 rfl rfl)) (by decide) | exact Nat.lt_of_le_of_lt (Nat.le_of_eq (lx.n 32 rfl rfl)) (by decide) | exact Nat.lt_of_le_of_lt (Nat.le_of_eq (lx.n 33 rfl rfl)) (by decide)) dX3_nearestOpen_29 (by exact (gx.2.2 s hs180).1) ?_
      refine V_if_ne (tgt := 55) dX3_nearestOpen_30 (by decide) (fun c30 => ?_) (fun c30 => ?_)
      · refine S_iinc (L' := [(0, _), (1, _), (2, _), (3, _)]) dX3_nearestOpen_55 rfl rfl rfl rfl ?_
        rw [nI_inc]
        refine V_goto (tgt := 7) dX3_nearestOpen_58 (by decide) ?_
        first | exact ih (n + 1) o (by omega) (bestN_skip hb hs (bI_1 c30)) | exact ih (n + 1) o (by omega) (bestN_old hb hs (hC s) hOC c41) | exact ih (n + 1) (some s) (by omega) (bestN_new hb hs (hC s) hOC (bI_0 c30) c41)
      · first | refine V_aload_n dX3_nearestOpen_33 rfl rfl ?_ | refine V_aload_nN dX3_nearestOpen_33 rfl rfl ?_
        first | refine V_getr (by exact lx.k _ rfl rfl) fX3_25 dX3_nearestOpen_34 (by exact lx.r _ _ rfl) ?_ | refine V_getrN (by exact lx.k _ rfl rfl) fX3_25 dX3_nearestOpen_34 (by exact lx.r _ _ rfl) ?_
        refine V_iload dX3_nearestOpen_37 rfl ?_
        refine G_iald (j := s) (by exact lx.k _ rfl rfl) (by rfl) (by exact Nat.lt_of_lt_of_eq (show s < 180 by exact hs180) (lx.n 31 rfl rfl).symm) (by first | exact Nat.lt_of_le_of_lt (Nat.le_of_eq (lx.n 29 rfl rfl)) (by decide) | exact Nat.lt_of_le_of_lt (Nat.le_of_eq (lx.n 30 rfl rfl)) (by decide) | exact Nat.lt_of_le_of_lt (Nat.le_of_eq (lx.n 31 rfl rfl)) (by decide) | exact Nat.lt_of_le_of_lt (Nat.le_of_eq (lx.n 32 rfl rfl)) (by decide) | exact Nat.lt_of_le_of_lt (Nat.le_of_eq (lx.n 33 rfl rfl)) (by decide)) dX3_nearestOpen_39 (by exact (gx.2.2 s hs180).2.1) ?_
        refine V_iload_n dX3_nearestOpen_40 rfl rfl ?_
        refine V_icmp_ge (tgt := 55) dX3_nearestOpen_41 (by decide) (fun c41 => ?_) (fun c41 => ?_)
        · refine S_iinc (L' := [(0, _), (1, _), (2, _), (3, _)]) dX3_nearestOpen_55 rfl rfl rfl rfl ?_
          rw [nI_inc]
          refine V_goto (tgt := 7) dX3_nearestOpen_58 (by decide) ?_
          first | exact ih (n + 1) o (by omega) (bestN_skip hb hs (bI_1 c30)) | exact ih (n + 1) o (by omega) (bestN_old hb hs (hC s) hOC c41) | exact ih (n + 1) (some s) (by omega) (bestN_new hb hs (hC s) hOC (bI_0 c30) c41)
        · first | refine V_aload_n dX3_nearestOpen_44 rfl rfl ?_ | refine V_aload_nN dX3_nearestOpen_44 rfl rfl ?_
          first | refine V_getr (by exact lx.k _ rfl rfl) fX3_25 dX3_nearestOpen_45 (by exact lx.r _ _ rfl) ?_ | refine V_getrN (by exact lx.k _ rfl rfl) fX3_25 dX3_nearestOpen_45 (by exact lx.r _ _ rfl) ?_
          refine V_iload dX3_nearestOpen_48 rfl ?_
          refine G_iald (j := s) (by exact lx.k _ rfl rfl) (by rfl) (by exact Nat.lt_of_lt_of_eq (show s < 180 by exact hs180) (lx.n 31 rfl rfl).symm) (by first | exact Nat.lt_of_le_of_lt (Nat.le_of_eq (lx.n 29 rfl rfl)) (by decide) | exact Nat.lt_of_le_of_lt (Nat.le_of_eq (lx.n 30 rfl rfl)) (by decide) | exact Nat.lt_of_le_of_lt (Nat.le_of_eq (lx.n 31 rfl rfl)) (by decide) | exact Nat.lt_of_le_of_lt (Nat.le_of_eq (lx.n 32 rfl rfl)) (by decide) | exact Nat.lt_of_le_of_lt (Nat.le_of_eq (lx.n 33 rfl rfl)) (by decide)) dX3_nearestOpen_50 (by exact (gx.2.2 s hs180).2.1) ?_
          refine S_istore_n (L' := [(0, _), (2, _), (3, _), (4, _)]) dX3_nearestOpen_51 rfl rfl rfl ?_
          refine V_iload dX3_nearestOpen_52 rfl ?_
          refine S_istore_n (L' := [(0, _), (1, _), (2, _), (3, _)]) dX3_nearestOpen_54 rfl rfl rfl ?_
          refine S_iinc (L' := [(0, _), (1, _), (2, _), (3, _)]) dX3_nearestOpen_55 rfl rfl rfl rfl ?_
          rw [nI_inc]
          refine V_goto (tgt := 7) dX3_nearestOpen_58 (by decide) ?_
          first | exact ih (n + 1) o (by omega) (bestN_skip hb hs (bI_1 c30)) | exact ih (n + 1) o (by omega) (bestN_old hb hs (hC s) hOC c41) | exact ih (n + 1) (some s) (by omega) (bestN_new hb hs (hC s) hOC (bI_0 c30) c41)
  refine V_iconst (v := -1) dX3_nearestOpen_0 (by decide) ?_
  refine S_istore_n (L' := [(0, _), (1, _)]) dX3_nearestOpen_1 rfl rfl rfl ?_
  refine V_ldc ctX3_71 dX3_nearestOpen_2 ?_
  refine S_istore_n (L' := [(0, _), (1, _), (2, _)]) dX3_nearestOpen_4 rfl rfl rfl ?_
  refine V_iconst (v := 0) dX3_nearestOpen_5 (by decide) ?_
  refine S_istore_n (L' := [(0, _), (1, _), (2, _), (3, _)]) dX3_nearestOpen_6 rfl rfl rfl ?_
  exact loop (prL q).length 0 none (by omega) ⟨fun _ m s hm => absurd hm (Nat.not_lt_zero _), fun v h => by cases h⟩
