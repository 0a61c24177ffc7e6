/-! BONE, grow, BoneSteps.bone -/
section
variable {M : Mi} {X : Cx} {Q : State → Prop} {pc : Nat} {L : List (Nat × Value)} {st : List Value} {w : Wd} {cs : Nat × Nat}
variable {y : MethodName} {M' : Mi} {idx n b : Nat} {As st0 : List Value} {w1 : Wd}
theorem V_callI (hC : Cc y M' (.ref b :: As) w (fun r w' => r = none ∧ w' = w1)) (hk : LkI M.1 idx y M' n) (hy : y.name = "<init>") (hret : M'.2.2.2.1 = none) (hR : Rm M M') (hd : decode M.2.1 pc = .ok (.invokespecial idx, 3)) (hn : As.length = n) (hst : st0 = As.reverse ++ .ref b :: st) (hsz : (st.map fun v => v.category).sum ≤ 8) (hcs : cs.1 + M'.2.2.2.2.1.cells ≤ M.2.2.2.2.1.cells ∧ cs.2 + M'.2.2.2.2.1.slots ≤ M.2.2.2.2.1.slots) (hal : Alr M M' L st w) (kk : V M X Q (pc + 3) L st w1 (cs.1 + M'.2.2.2.2.1.cells, cs.2 + M'.2.2.2.2.1.slots)) : V M X Q pc L st0 w cs :=
  V_cI hC hk hy hret hR hd hn hst hsz hcs hal (by rintro r w' ⟨rfl, rfl⟩; exact kk)
theorem V_callIN (hC : Cc y M' (.ref b :: As) w (fun r w' => r = none ∧ w' = w1)) (hk : LkIN M.1 idx y M' n) (hy : y.name = "<init>") (hret : M'.2.2.2.1 = none) (hR : Rm M M') (hd : decode M.2.1 pc = .ok (.invokespecial idx, 3)) (hn : As.length = n) (hst : st0 = As.reverse ++ .ref b :: st) (hsz : (st.map fun v => v.category).sum ≤ 8) (hcs : cs.1 + M'.2.2.2.2.1.cells ≤ M.2.2.2.2.1.cells ∧ cs.2 + M'.2.2.2.2.1.slots ≤ M.2.2.2.2.1.slots) (hal : Alr M M' L st w) (kk : V M X Q (pc + 3) L st w1 (cs.1 + M'.2.2.2.2.1.cells, cs.2 + M'.2.2.2.2.1.slots)) : V M X Q pc L st0 w cs :=
  V_cIN hC hk hy hret hR hd hn hst hsz hcs hal (by rintro r w' ⟨rfl, rfl⟩; exact kk)
theorem V_callIr {Rl : Wd → Prop} (hC : Cc y M' (.ref b :: As) w (fun r w' => r = none ∧ Rl w')) (hk : LkI M.1 idx y M' n) (hy : y.name = "<init>") (hret : M'.2.2.2.1 = none) (hR : Rm M M') (hd : decode M.2.1 pc = .ok (.invokespecial idx, 3)) (hn : As.length = n) (hst : st0 = As.reverse ++ .ref b :: st) (hsz : (st.map fun v => v.category).sum ≤ 8) (hcs : cs.1 + M'.2.2.2.2.1.cells ≤ M.2.2.2.2.1.cells ∧ cs.2 + M'.2.2.2.2.1.slots ≤ M.2.2.2.2.1.slots) (hal : Alr M M' L st w) (kk : ∀ w', Rl w' → V M X Q (pc + 3) L st w' (cs.1 + M'.2.2.2.2.1.cells, cs.2 + M'.2.2.2.2.1.slots)) : V M X Q pc L st0 w cs :=
  V_cI hC hk hy hret hR hd hn hst hsz hcs hal (by rintro r w' ⟨rfl, h⟩; exact kk w' h)
theorem V_callINr {Rl : Wd → Prop} (hC : Cc y M' (.ref b :: As) w (fun r w' => r = none ∧ Rl w')) (hk : LkIN M.1 idx y M' n) (hy : y.name = "<init>") (hret : M'.2.2.2.1 = none) (hR : Rm M M') (hd : decode M.2.1 pc = .ok (.invokespecial idx, 3)) (hn : As.length = n) (hst : st0 = As.reverse ++ .ref b :: st) (hsz : (st.map fun v => v.category).sum ≤ 8) (hcs : cs.1 + M'.2.2.2.2.1.cells ≤ M.2.2.2.2.1.cells ∧ cs.2 + M'.2.2.2.2.1.slots ≤ M.2.2.2.2.1.slots) (hal : Alr M M' L st w) (kk : ∀ w', Rl w' → V M X Q (pc + 3) L st w' (cs.1 + M'.2.2.2.2.1.cells, cs.2 + M'.2.2.2.2.1.slots)) : V M X Q pc L st0 w cs :=
  V_cIN hC hk hy hret hR hd hn hst hsz hcs hal (by rintro r w' ⟨rfl, h⟩; exact kk w' h)
end
def growW (w : Wd) (sz n : Nat) (po : Option Nat) (t l : Nat) : Wd := sI (plW (sR w 26 sz (some n)) n (pSt w (wJ w 21 3) (wJ w 21 4) po) (pEv (pSt w (wJ w 21 3) (wJ w 21 4) po) (cosF t) (sinF t) (nI l))) 21 1 (nI (sz + 1))
theorem nRf_r {n m : Nat} (h : m ≠ n) : nRf n (.ref m) = true := by
  unfold nRf
  simpa using h
def bnW (w : Wd) (n : Nat) (po : Option Nat) (pn dp l lo sp la : Int32) : Wd := sI (sI (sI (sI (sI (sI (sI (sR w n 0 po) n 1 pn) n 2 dp) n 3 l) n 4 lo) n 5 sp) n 6 la) n 7 lo
theorem la_N {lo sp : Nat} (h1 : lo < 36) (h2 : sp < 36) : nI lo + nI sp - (nI lo + nI sp) / 36 * 36 = nI (lastN lo sp) := by
  rw [nI_add]
  exact pk_rem (a := lo + sp) (d := 36) (by omega) (by decide) (by decide)

set_option maxRecDepth 100000 in
theorem c_X0_init_n (n : Nat)  (pn : Int32) (l lo sp : Nat) (w : Wd) (hK : wK w n = 1) (h1 : lo < 36) (h2 : sp < 36) : Cc yX0_init mX0_init [.ref n, .null, .int pn, .int (nI l), .int (nI lo), .int (nI sp)] w (fun r w' => r = none ∧ w' = bnW w n none pn 1 (nI l) (nI lo) (nI sp) (nI (lastN lo sp))) := by
  refine Cc.of (by decide) rfl rfl (Nat.le_of_ble_eq_true rfl) (fun X => ?_)
  change V _ X _ 0 [(0, _), (1, _), (2, _), (3, _), (4, _), (5, _)] [] _ (0, 0)
  first | refine V_aload_n dX0_init_0 rfl rfl ?_ | refine V_aload_nN dX0_init_0 rfl rfl ?_
  refine V_objInit koX0_3 dX0_init_1 (Nat.le_of_ble_eq_true rfl) (Nat.le_of_ble_eq_true rfl) ?_
  first | refine V_aload_n dX0_init_4 rfl rfl ?_ | refine V_aload_nN dX0_init_4 rfl rfl ?_
  first | refine V_aload_n dX0_init_5 rfl rfl ?_ | refine V_aload_nN dX0_init_5 rfl rfl ?_
  first | refine V_putr (by first | exact hK | exact hQ.1) pfX0_9 (fun _ => rfl) dX0_init_6 (fun _ => ⟨rfl, rfl⟩) ?_ | refine V_putrN (by first | exact hK | exact hQ.1) pfX0_9 (fun _ => rfl) dX0_init_6 ⟨rfl, rfl⟩ ?_
  first | refine V_aload_n dX0_init_9 rfl rfl ?_ | refine V_aload_nN dX0_init_9 rfl rfl ?_
  refine V_iload_n dX0_init_10 rfl rfl ?_
  refine V_puti (by first | exact hK | exact hQ.1) pfX0_15 (fun _ => rfl) dX0_init_11 ⟨rfl, rfl⟩ ?_
  first | refine V_aload_n dX0_init_14 rfl rfl ?_ | refine V_aload_nN dX0_init_14 rfl rfl ?_
  first | refine V_aload_n dX0_init_15 rfl rfl ?_ | refine V_aload_nN dX0_init_15 rfl rfl ?_
  refine V_ifnonnullN dX0_init_16 ?_
  refine V_iconst (v := 1) dX0_init_19 (by decide) ?_
  refine V_goto (tgt := 29) dX0_init_20 (by decide) ?_
  refine V_puti (by first | exact hK | exact hQ.1) pfX0_19 (fun _ => rfl) dX0_init_29 ⟨rfl, rfl⟩ ?_
  first | refine V_aload_n dX0_init_32 rfl rfl ?_ | refine V_aload_nN dX0_init_32 rfl rfl ?_
  refine V_iload_n dX0_init_33 rfl rfl ?_
  refine V_puti (by first | exact hK | exact hQ.1) pfX0_22 (fun _ => rfl) dX0_init_34 ⟨rfl, rfl⟩ ?_
  first | refine V_aload_n dX0_init_37 rfl rfl ?_ | refine V_aload_nN dX0_init_37 rfl rfl ?_
  refine V_iload dX0_init_38 rfl ?_
  refine V_puti (by first | exact hK | exact hQ.1) pfX0_25 (fun _ => rfl) dX0_init_40 ⟨rfl, rfl⟩ ?_
  first | refine V_aload_n dX0_init_43 rfl rfl ?_ | refine V_aload_nN dX0_init_43 rfl rfl ?_
  refine V_iload dX0_init_44 rfl ?_
  refine V_puti (by first | exact hK | exact hQ.1) pfX0_28 (fun _ => rfl) dX0_init_46 ⟨rfl, rfl⟩ ?_
  first | refine V_aload_n dX0_init_49 rfl rfl ?_ | refine V_aload_nN dX0_init_49 rfl rfl ?_
  refine V_iload dX0_init_50 rfl ?_
  refine V_iload dX0_init_52 rfl ?_
  refine V_iadd dX0_init_54 ?_
  refine V_bipush (v := 36) dX0_init_55 (by decide) ?_
  refine V_irem dX0_init_57 (by decide) ?_
  rw [la_N h1 h2]
  refine V_puti (by first | exact hK | exact hQ.1) pfX0_31 (fun _ => rfl) dX0_init_58 ⟨rfl, rfl⟩ ?_
  first | refine V_aload_n dX0_init_61 rfl rfl ?_ | refine V_aload_nN dX0_init_61 rfl rfl ?_
  refine V_iload dX0_init_62 rfl ?_
  refine V_puti (by first | exact hK | exact hQ.1) pfX0_34 (fun h => nomatch h) dX0_init_64 ⟨rfl, rfl⟩ ?_
  refine V_vret rfl dX0_init_67 (Nat.le_of_ble_eq_true rfl) (Nat.le_of_ble_eq_true rfl) ?_
  exact ⟨rfl, rfl⟩

set_option maxRecDepth 100000 in
theorem c_X0_init_s (n : Nat) (q : Nat) (pn : Int32) (l lo sp : Nat) (w : Wd) (hK : wK w n = 1) (h1 : lo < 36) (h2 : sp < 36) (hQ : wK w q = 1 ∧ q ≠ n) : Cc yX0_init mX0_init [.ref n, .ref q, .int pn, .int (nI l), .int (nI lo), .int (nI sp)] w (fun r w' => r = none ∧ w' = bnW w n (some q) pn (wI w q 2 + 1) (nI l) (nI lo) (nI sp) (nI (lastN lo sp))) := by
  refine Cc.of (by decide) rfl rfl (Nat.le_of_ble_eq_true rfl) (fun X => ?_)
  change V _ X _ 0 [(0, _), (1, _), (2, _), (3, _), (4, _), (5, _)] [] _ (0, 0)
  first | refine V_aload_n dX0_init_0 rfl rfl ?_ | refine V_aload_nN dX0_init_0 rfl rfl ?_
  refine V_objInit koX0_3 dX0_init_1 (Nat.le_of_ble_eq_true rfl) (Nat.le_of_ble_eq_true rfl) ?_
  first | refine V_aload_n dX0_init_4 rfl rfl ?_ | refine V_aload_nN dX0_init_4 rfl rfl ?_
  first | refine V_aload_n dX0_init_5 rfl rfl ?_ | refine V_aload_nN dX0_init_5 rfl rfl ?_
  first | refine V_putr (by first | exact hK | exact hQ.1) pfX0_9 (fun _ => rfl) dX0_init_6 (fun _ => ⟨rfl, rfl⟩) ?_ | refine V_putrN (by first | exact hK | exact hQ.1) pfX0_9 (fun _ => rfl) dX0_init_6 ⟨rfl, rfl⟩ ?_
  first | refine V_aload_n dX0_init_9 rfl rfl ?_ | refine V_aload_nN dX0_init_9 rfl rfl ?_
  refine V_iload_n dX0_init_10 rfl rfl ?_
  refine V_puti (by first | exact hK | exact hQ.1) pfX0_15 (fun _ => rfl) dX0_init_11 ⟨rfl, rfl⟩ ?_
  first | refine V_aload_n dX0_init_14 rfl rfl ?_ | refine V_aload_nN dX0_init_14 rfl rfl ?_
  first | refine V_aload_n dX0_init_15 rfl rfl ?_ | refine V_aload_nN dX0_init_15 rfl rfl ?_
  refine V_ifnonnull (tgt := 23) dX0_init_16 (by decide) ?_
  first | refine V_aload_n dX0_init_23 rfl rfl ?_ | refine V_aload_nN dX0_init_23 rfl rfl ?_
  refine G_geti (by first | exact hK | exact hQ.1) fX0_19 dX0_init_24 (by exact (rdI_nn hQ.2 : _ = wI w q 2)) ?_
  refine V_iconst (v := 1) dX0_init_27 (by decide) ?_
  refine V_iadd dX0_init_28 ?_
  refine V_puti (by first | exact hK | exact hQ.1) pfX0_19 (fun _ => rfl) dX0_init_29 ⟨rfl, rfl⟩ ?_
  first | refine V_aload_n dX0_init_32 rfl rfl ?_ | refine V_aload_nN dX0_init_32 rfl rfl ?_
  refine V_iload_n dX0_init_33 rfl rfl ?_
  refine V_puti (by first | exact hK | exact hQ.1) pfX0_22 (fun _ => rfl) dX0_init_34 ⟨rfl, rfl⟩ ?_
  first | refine V_aload_n dX0_init_37 rfl rfl ?_ | refine V_aload_nN dX0_init_37 rfl rfl ?_
  refine V_iload dX0_init_38 rfl ?_
  refine V_puti (by first | exact hK | exact hQ.1) pfX0_25 (fun _ => rfl) dX0_init_40 ⟨rfl, rfl⟩ ?_
  first | refine V_aload_n dX0_init_43 rfl rfl ?_ | refine V_aload_nN dX0_init_43 rfl rfl ?_
  refine V_iload dX0_init_44 rfl ?_
  refine V_puti (by first | exact hK | exact hQ.1) pfX0_28 (fun _ => rfl) dX0_init_46 ⟨rfl, rfl⟩ ?_
  first | refine V_aload_n dX0_init_49 rfl rfl ?_ | refine V_aload_nN dX0_init_49 rfl rfl ?_
  refine V_iload dX0_init_50 rfl ?_
  refine V_iload dX0_init_52 rfl ?_
  refine V_iadd dX0_init_54 ?_
  refine V_bipush (v := 36) dX0_init_55 (by decide) ?_
  refine V_irem dX0_init_57 (by decide) ?_
  rw [la_N h1 h2]
  refine V_puti (by first | exact hK | exact hQ.1) pfX0_31 (fun _ => rfl) dX0_init_58 ⟨rfl, rfl⟩ ?_
  first | refine V_aload_n dX0_init_61 rfl rfl ?_ | refine V_aload_nN dX0_init_61 rfl rfl ?_
  refine V_iload dX0_init_62 rfl ?_
  refine V_puti (by first | exact hK | exact hQ.1) pfX0_34 (fun h => nomatch h) dX0_init_64 ⟨rfl, rfl⟩ ?_
  refine V_vret rfl dX0_init_67 (Nat.le_of_ble_eq_true rfl) (Nat.le_of_ble_eq_true rfl) ?_
  exact ⟨rfl, rfl⟩

set_option maxRecDepth 100000 in
theorem c_X6_grow (sz n : Nat) (po : Option Nat) (t l : Nat) (w : Wd) (h : LayX w) (hs : wI w 21 1 = nI sz) (hsz : sz < 10) (hK : wK w n = 1) (hn26 : n ≠ 26) (hp : wR w n 0 = po) (hq : ∀ q, po = some q → wK w q = 1 ∧ q ≠ n) (h7 : wI w n 7 = nI t) (ht : t < 36) (h3 : wI w n 3 = nI l) : Cc yX6_grow mX6_grow [.ref 21, .ref n] w (fun r w' => r = some (.int (nI sz)) ∧ w' = growW w sz n po t l) := by
  have hp2 : wR (sR w 26 sz (some n)) n 0 = po := (congrFun (sR_ne w (n := 26) (k := sz) (some n) hn26) 0).trans hp
  refine Cc.of (by decide) rfl rfl (Nat.le_of_ble_eq_true rfl) (fun X => ?_)
  change V _ X _ 0 [(0, _), (1, _)] [] _ (0, 0)
  first | refine V_aload_n dX6_grow_0 rfl rfl ?_ | refine V_aload_nN dX6_grow_0 rfl rfl ?_
  first | refine V_getr (by first | exact h.k _ rfl rfl | exact hK) fX6_11 dX6_grow_1 (by exact h.r _ _ rfl) ?_ | refine V_getrN (by first | exact h.k _ rfl rfl | exact hK) fX6_11 dX6_grow_1 (by exact h.r _ _ rfl) ?_
  first | refine V_aload_n dX6_grow_4 rfl rfl ?_ | refine V_aload_nN dX6_grow_4 rfl rfl ?_
  refine G_geti (by first | exact h.k _ rfl rfl | exact hK) fX6_21 dX6_grow_5 (by exact hs) ?_
  first | refine V_aload_n dX6_grow_8 rfl rfl ?_ | refine V_aload_nN dX6_grow_8 rfl rfl ?_
  refine V_aast14 (ci := 0) (by first | exact h.k _ rfl rfl | exact hK) (by first | exact h.k _ rfl rfl | exact hK) (by decide) rfl rfl (by rw [h.n 26 rfl rfl]; exact nI_in hsz (by decide)) dX6_grow_9 ?_
  rw [nI_clamp (show sz < 2 ^ 31 by omega)]
  first | refine V_aload_n dX6_grow_10 rfl rfl ?_ | refine V_aload_nN dX6_grow_10 rfl rfl ?_
  first | refine V_aload_n dX6_grow_11 rfl rfl ?_ | refine V_aload_nN dX6_grow_11 rfl rfl ?_
  refine V_getl (by first | exact h.k _ rfl rfl | exact hK) fX6_28 dX6_grow_12 ?_
  first | refine V_aload_n dX6_grow_15 rfl rfl ?_ | refine V_aload_nN dX6_grow_15 rfl rfl ?_
  refine V_getl (by first | exact h.k _ rfl rfl | exact hK) fX6_32 dX6_grow_16 ?_
  refine V_callVv (As := [_, _]) (st := _) (c_X0_place n _ _ po t l (sR w 26 sz (some n)) hK hp2 hq h7 ht h3) kX6_35 (by first | exact h.k _ rfl rfl | exact hK) ⟨rfl, rfl, rfl⟩ ⟨(Nat.le_of_ble_eq_true rfl), (Nat.le_of_ble_eq_true rfl)⟩ dX6_grow_19 rfl rfl (Nat.le_of_ble_eq_true rfl) ⟨(Nat.le_of_ble_eq_true rfl), (Nat.le_of_ble_eq_true rfl)⟩ ?_
  first | refine V_aload_n dX6_grow_22 rfl rfl ?_ | refine V_aload_nN dX6_grow_22 rfl rfl ?_
  refine V_dup dX6_grow_23 rfl ?_
  refine G_geti (by first | exact h.k _ rfl rfl | exact hK) fX6_21 dX6_grow_24 (by exact hs) ?_
  refine V_iconst (v := 1) dX6_grow_27 (by decide) ?_
  refine V_iadd dX6_grow_28 ?_
  rw [nI_1]
  refine V_puti (by first | exact h.k _ rfl rfl | exact hK) pfX6_21 (fun h => nomatch h) dX6_grow_29 ⟨rfl, rfl⟩ ?_
  first | refine V_aload_n dX6_grow_32 rfl rfl ?_ | refine V_aload_nN dX6_grow_32 rfl rfl ?_
  refine G_geti (by first | exact h.k _ rfl rfl | exact hK) fX6_21 dX6_grow_33 (by exact rdI_eq) ?_
  refine V_iconst (v := 1) dX6_grow_36 (by decide) ?_
  refine V_isub dX6_grow_37 ?_
  refine V_iret rfl dX6_grow_38 (Nat.le_of_ble_eq_true rfl) (Nat.le_of_ble_eq_true rfl) ?_
  exact ⟨congrArg (fun x => some (Value.int x)) (nI_pred sz), rfl⟩
