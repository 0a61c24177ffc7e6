/-! Skeleton: goals -/
def kU (k : Sk) (b t : Nat) : Sk := kT k (va_up (kTrn k) b t)
theorem SkX.kU {k : Sk} {w : Wd} {b t : Nat} (h : SkX k w) (ht : t < 36) : SkX (kU k b t) (sI w (300 + b) 7 (nI t)) := by
  refine SkX.turn (k := k) (t := kTrn k) (t' := va_up (kTrn k) b t) h (va_up_self _ _ _) (fun i hi => ?_) (fun i hi hne => va_up_ne _ _ hne)
  by_cases e : i = b
  · subst e; rw [va_up_self]; exact ht
  · rw [va_up_ne _ _ e]; exact (h.wf hi).2.2.2.2.2.2
/-- the turn of bone a by which the end of bone b is nearest -/
def ntK (k : Sk) (a b : Nat) (x y : Int64) (fa : Nat) : Nat := nearT (pos k b).2.2.1 (pos k b).2.2.2 (pStart k (pos k) a).2.2.1 (pStart k (pos k) a).2.2.2 x y (kLow k a) (kSpr k a) (kTrn k a) fa
theorem nearT_lt {ex ey sx sy x y : Int64} {lo sp t fa : Nat} (h : fa < 36) : nearT ex ey sx sy x y lo sp t fa < 36 := scan_le h 36 (Nat.le_refl _)
theorem ntK_lt {k : Sk} {a b : Nat} {x y : Int64} {fa : Nat} (h : fa < 36) : ntK k a b x y fa < 36 := nearT_lt h
/-- the least number within limits -/
def lst (k : Sk) (b : Nat) : Nat := if lastN (kLow k b) (kSpr k b) < kLow k b then 0 else kLow k b
theorem lst_lt {k : Sk} {b : Nat} (h : kLow k b < 36) : lst k b < 36 := by unfold lst; split <;> omega
def farK (k : Sk) (b : Nat) (x y : Int64) : Int64 := farL (pos k b).2.2.1 (pos k b).2.2.2 x y
theorem SkP.near {k : Sk} {w : Wd} (h : SkP k w) {a b : Nat} (ha : a < kN k) (hb : b < kN k) (x y : Int64) {fa : Nat} (hfa : fa < 36) : Cc yX0_nearestTurn mX0_nearestTurn [.ref (300 + a), .ref (300 + b), .long x, .long y, .int (nI fa)] w (fun r w' => r = some (.int (nI (ntK k a b x y fa))) ∧ w' = w) :=
  c_X0_nearestTurn (300 + a) (300 + b) x y _ _ _ _ (kTrn k a) fa (kLow k a) (kSpr k a) w (h.1.kb ha) (h.1.kb hb) (h.1.bone ha).2.2.2.1 (h.1.bone ha).2.2.2.2.1 (h.1.bone ha).2.2.2.2.2.2 (h.2 a ha).1 (h.2 a ha).2.1 (h.2 b hb).2.2.2.2.1 (h.2 b hb).2.2.2.2.2 (h.1.wf ha).2.2.2.2.1 (h.1.wf ha).2.2.2.2.2.1 (h.1.wf ha).2.2.2.2.2.2 hfa
theorem SkP.least {k : Sk} {w : Wd} (h : SkP k w) {b : Nat} (hb : b < kN k) : Cc yX0_leastTurn mX0_leastTurn [.ref (300 + b)] w (fun r w' => r = some (.int (nI (lst k b))) ∧ w' = w) :=
  c_X0_leastTurn (300 + b) (kLow k b) (kSpr k b) w (h.1.kb hb) (h.1.bone hb).2.2.2.1 (h.1.bone hb).2.2.2.2.1 (h.1.wf hb).2.2.2.2.1 (h.1.wf hb).2.2.2.2.2.1 (h.1.bone hb).2.2.2.2.2.1
theorem SkP.allow {k : Sk} {w : Wd} (h : SkP k w) {b t : Nat} (hb : b < kN k) (ht : t < 36) : Cc yX0_allows mX0_allows [.ref (300 + b), .int (nI t)] w (fun r w' => r = some (.int (b01 (wi (kLow k b) (kSpr k b) t))) ∧ w' = w) :=
  c_X0_allows t (300 + b) (kLow k b) (kSpr k b) w (h.1.kb hb) (h.1.bone hb).2.2.2.1 (h.1.bone hb).2.2.2.2.1 (h.1.wf hb).2.2.2.2.1 (h.1.wf hb).2.2.2.2.2.1 ht
theorem SkP.far {k : Sk} {w : Wd} (h : SkP k w) {b : Nat} (hb : b < kN k) (x y : Int64) : Cc yX0_farFrom mX0_farFrom [.ref (300 + b), .long x, .long y] w (fun r w' => r = some (.long (farK k b x y)) ∧ w' = w) :=
  c_X0_farFrom (300 + b) x y _ _ w (h.1.kb hb) (h.2 b hb).2.2.2.2.1 (h.2 b hb).2.2.2.2.2
/-- one turn t of the parent p tried -/
def tk1 (p : Nat) (k : Sk) (t : Nat) : Sk := kU k p t
def tu (b p : Nat) (x y : Int64) (k : Sk) (t : Nat) : Nat := ntK (tk1 p k t) b b x y (lst k b)
def tk2 (b p : Nat) (x y : Int64) (k : Sk) (t : Nat) : Sk := kU (tk1 p k t) b (tu b p x y k t)
abbrev ZT : Type := Sk × Int64 × Nat × Nat
def twoS (b p : Nat) (x y : Int64) (t : Nat) (z : ZT) : ZT := if wi (kLow z.1 p) (kSpr z.1 p) t then (if farK (tk2 b p x y z.1 t) b x y < z.2.1 then (tk2 b p x y z.1 t, farK (tk2 b p x y z.1 t) b x y, t, tu b p x y z.1 t) else (tk2 b p x y z.1 t, z.2.1, z.2.2.1, z.2.2.2)) else z
def twoL (k : Sk) (b p : Nat) (x y : Int64) : Nat → ZT
  | 0 => (k, 9223372036854775807, kTrn k p, kTrn k b)
  | t + 1 => twoS b p x y t (twoL k b p x y t)
def twoK (k : Sk) (b : Nat) (x y : Int64) : Sk := match kPar k b with
  | none => kU k b (ntK k b b x y (lst k b))
  | some p => kU (kU (twoL k b p x y 36).1 p (twoL k b p x y 36).2.2.1) b (twoL k b p x y 36).2.2.2
/-- a skeleton of the same bones -/
def SameB (k k' : Sk) : Prop := kN k' = kN k ∧ kPar k' = kPar k ∧ kLen k' = kLen k ∧ kLow k' = kLow k ∧ kSpr k' = kSpr k ∧ kLck k' = kLck k
theorem SameB.kU {k k' : Sk} (h : SameB k k') (b t : Nat) : SameB k (kU k' b t) := h
theorem twoL_same (k : Sk) (b p : Nat) (x y : Int64) : ∀ t, SameB k (twoL k b p x y t).1
  | 0 => ⟨rfl, rfl, rfl, rfl, rfl, rfl⟩
  | t + 1 => by
    have ih := twoL_same k b p x y t
    rw [twoL]
    unfold twoS
    split
    · split
      · exact ih
      · exact ih
    · exact ih

theorem twoL_lt {k : Sk} {b p : Nat} {x y : Int64} (h1 : kTrn k p < 36) (h2 : kTrn k b < 36) (h3 : kLow k b < 36) : ∀ t, t ≤ 36 → (twoL k b p x y t).2.2.1 < 36 ∧ (twoL k b p x y t).2.2.2 < 36
  | 0, _ => ⟨h1, h2⟩
  | t + 1, ht => by
    have ih := twoL_lt (x := x) (y := y) h1 h2 h3 t (by omega)
    have hs := twoL_same k b p x y t
    rw [twoL]
    unfold twoS
    split
    · split
      · exact ⟨ht, ntK_lt (lst_lt (by rw [hs.2.2.2.1]; exact h3))⟩
      · exact ih
    · exact ih

set_option maxRecDepth 100000 in
theorem c_X6_reachByTwo (k : Sk) (b : Nat) (x y : Int64) (w : Wd) (h : SkP k w) (hb : b < kN k) : Cc yX6_reachByTwo mX6_reachByTwo [.ref 21, .ref (300 + b), .long x, .long y] w (fun r w' => r = none ∧ Keep boA w w' ∧ SkP (twoK k b x y) w') := by
  refine Cc.of (by decide) rfl rfl (Nat.le_of_ble_eq_true rfl) (fun X => ?_)
  change V _ X _ 0 [(0, _), (1, _), (2, _), (4, _)] [] _ (0, 0)
  cases hp : kPar k b with
  | none =>
    first | refine V_aload_n dX6_reachByTwo_0 rfl rfl ?_ | refine V_aload_nN dX6_reachByTwo_0 rfl rfl ?_
    first | refine V_getr (by first | exact h.1.1.k _ rfl rfl | exact h.1.kb hb) fX6_74 dX6_reachByTwo_1 (by exact (h.1.pb hb).trans (by rw [hp]; rfl)) ?_ | refine V_getrN (by first | exact h.1.1.k _ rfl rfl | exact h.1.kb hb) fX6_74 dX6_reachByTwo_1 (by exact (h.1.pb hb).trans (by rw [hp]; rfl)) ?_
    first | refine S_astore (L' := [(0, _), (1, _), (2, _), (4, _), (6, _)]) dX6_reachByTwo_4 rfl rfl ?_ | refine S_astoreN (L' := [(0, _), (1, _), (2, _), (4, _), (6, _)]) dX6_reachByTwo_4 rfl rfl ?_
    first | refine V_aload dX6_reachByTwo_6 rfl ?_ | refine V_aloadN dX6_reachByTwo_6 rfl ?_
    refine V_ifnonnullN dX6_reachByTwo_8 ?_
    first | refine V_aload_n dX6_reachByTwo_11 rfl rfl ?_ | refine V_aload_nN dX6_reachByTwo_11 rfl rfl ?_
    first | refine V_aload_n dX6_reachByTwo_12 rfl rfl ?_ | refine V_aload_nN dX6_reachByTwo_12 rfl rfl ?_
    first | refine V_aload_n dX6_reachByTwo_13 rfl rfl ?_ | refine V_aload_nN dX6_reachByTwo_13 rfl rfl ?_
    refine V_lload_n dX6_reachByTwo_14 rfl rfl ?_
    refine V_lload dX6_reachByTwo_15 rfl ?_
    first | refine V_aload_n dX6_reachByTwo_17 rfl rfl ?_ | refine V_aload_nN dX6_reachByTwo_17 rfl rfl ?_
    refine V_callV (As := []) (st := _) (h.least hb) kX6_78 (by first | exact h.1.1.k _ rfl rfl | exact h.1.kb hb) ⟨rfl, rfl, rfl⟩ ⟨(Nat.le_of_ble_eq_true rfl), (Nat.le_of_ble_eq_true rfl)⟩ dX6_reachByTwo_18 rfl rfl (Nat.le_of_ble_eq_true rfl) ⟨(Nat.le_of_ble_eq_true rfl), (Nat.le_of_ble_eq_true rfl)⟩ ?_
    refine V_callV (As := [_, _, _, _]) (st := _) (h.near hb hb x y (lst_lt (h.1.wf hb).2.2.2.2.1)) kX6_82 (by first | exact h.1.1.k _ rfl rfl | exact h.1.kb hb) ⟨rfl, rfl, rfl⟩ ⟨(Nat.le_of_ble_eq_true rfl), (Nat.le_of_ble_eq_true rfl)⟩ dX6_reachByTwo_21 rfl rfl (Nat.le_of_ble_eq_true rfl) ⟨(Nat.le_of_ble_eq_true rfl), (Nat.le_of_ble_eq_true rfl)⟩ ?_
    refine V_puti (by first | exact h.1.1.k _ rfl rfl | exact h.1.kb hb) pfX6_51 (fun h => nomatch h) dX6_reachByTwo_24 ⟨rfl, rfl⟩ ?_
    have h2 := h.1.kU (b := b) (ntK_lt (k := k) (a := b) (b := b) (x := x) (y := y) (lst_lt (h.1.wf hb).2.2.2.2.1))
    first | refine V_aload_n dX6_reachByTwo_27 rfl rfl ?_ | refine V_aload_nN dX6_reachByTwo_27 rfl rfl ?_
    refine V_callVvr (As := []) (st := _) (c_X6_place _ _ h2) kX6_39 (by first | exact h.1.1.k _ rfl rfl | exact h.1.kb hb) ⟨rfl, rfl, rfl⟩ ⟨(Nat.le_of_ble_eq_true rfl), (Nat.le_of_ble_eq_true rfl)⟩ dX6_reachByTwo_28 rfl rfl (Nat.le_of_ble_eq_true rfl) ⟨(Nat.le_of_ble_eq_true rfl), (Nat.le_of_ble_eq_true rfl)⟩ (fun w1 hw1 => ?_)
    obtain ⟨a1, a2, a3⟩ := hw1
    refine V_vret rfl dX6_reachByTwo_31 (Nat.le_of_ble_eq_true rfl) (Nat.le_of_ble_eq_true rfl) ?_
    exact ⟨rfl, (Keep.sI w (by have := h.1.n10; unfold boA; omega) 7 _).trans a1, by unfold twoK; rw [hp]; exact a3⟩
  | some p =>
    have hpb : p < kN k := Nat.lt_trans ((h.1.wf hb).1 p hp) hb
    have loop : ∀ (d t : Nat) (z : ZT) (w1 : Wd), t + d = 36 → z = twoL k b p x y t → Keep boA w w1 → SkP z.1 w1 → V mX6_reachByTwo X (mq mX6_reachByTwo X (fun r w' => r = none ∧ Keep boA w w' ∧ SkP (twoK k b x y) w')) 53 [(0, .ref 21), (1, .ref (300 + b)), (2, .long x), (4, .long y), (6, .ref (300 + p)), (7, .int (nI z.2.2.1)), (8, .int (nI z.2.2.2)), (9, .long z.2.1), (11, .int (nI t))] [] w1 (0, 0) := by
      intro d
      induction d with
      | zero =>
        intro t z w1 hd hz g1 h1
        obtain rfl : t = 36 := hd
        have hs := twoL_same k b p x y 36
        rw [← hz] at hs
        have hpz : p < kN z.1 := by rw [hs.1]; exact hpb
        have hbz : b < kN z.1 := by rw [hs.1]; exact hb
        obtain ⟨hz1, hz2⟩ := twoL_lt (k := k) (b := b) (p := p) (x := x) (y := y) (h.1.wf hpb).2.2.2.2.2.2 (h.1.wf hb).2.2.2.2.2.2 (h.1.wf hb).2.2.2.2.1 36 (Nat.le_refl _)
        rw [← hz] at hz1 hz2
        refine V_iload dX6_reachByTwo_53 rfl ?_
        refine V_bipush (v := 36) dX6_reachByTwo_55 (by decide) ?_
        refine V_icmp_ge (tgt := 139) dX6_reachByTwo_57 (by decide) (fun c57 => ?_) (fun c57 => False.elim (by exact c57 (by decide)))
        first | refine V_aload dX6_reachByTwo_139 rfl ?_ | refine V_aloadN dX6_reachByTwo_139 rfl ?_
        refine V_iload dX6_reachByTwo_141 rfl ?_
        refine V_puti (by first | exact h1.1.1.k _ rfl rfl | exact h1.1.kb hpz | exact h1.1.kb hbz) pfX6_51 (fun h => nomatch h) dX6_reachByTwo_143 ⟨rfl, rfl⟩ ?_
        first | refine V_aload_n dX6_reachByTwo_146 rfl rfl ?_ | refine V_aload_nN dX6_reachByTwo_146 rfl rfl ?_
        refine V_iload dX6_reachByTwo_147 rfl ?_
        refine V_puti (by first | exact h1.1.1.k _ rfl rfl | exact h1.1.kb hpz | exact h1.1.kb hbz) pfX6_51 (fun h => nomatch h) dX6_reachByTwo_149 ⟨rfl, rfl⟩ ?_
        have h2 := (h1.1.kU (b := p) hz1).kU (b := b) hz2
        first | refine V_aload_n dX6_reachByTwo_152 rfl rfl ?_ | refine V_aload_nN dX6_reachByTwo_152 rfl rfl ?_
        refine V_callVvr (As := []) (st := _) (c_X6_place _ _ h2) kX6_39 (by first | exact h1.1.1.k _ rfl rfl | exact h1.1.kb hpz | exact h1.1.kb hbz) ⟨rfl, rfl, rfl⟩ ⟨(Nat.le_of_ble_eq_true rfl), (Nat.le_of_ble_eq_true rfl)⟩ dX6_reachByTwo_153 rfl rfl (Nat.le_of_ble_eq_true rfl) ⟨(Nat.le_of_ble_eq_true rfl), (Nat.le_of_ble_eq_true rfl)⟩ (fun w2 hw2 => ?_)
        obtain ⟨a1, a2, a3⟩ := hw2
        refine V_vret rfl dX6_reachByTwo_156 (Nat.le_of_ble_eq_true rfl) (Nat.le_of_ble_eq_true rfl) ?_
        exact ⟨rfl, (g1.trans ((Keep.sI w1 (by have := h.1.n10; unfold boA; omega) 7 _).trans (Keep.sI _ (by have := h.1.n10; unfold boA; omega) 7 _))).trans a1, by unfold twoK; rw [hp]; simp only; rw [← hz]; exact a3⟩
      | succ d ih =>
        intro t z w1 hd hz g1 h1
        have ht : t < 36 := by omega
        have hs := twoL_same k b p x y t
        rw [← hz] at hs
        have hpz : p < kN z.1 := by rw [hs.1]; exact hpb
        have hbz : b < kN z.1 := by rw [hs.1]; exact hb
        refine V_iload dX6_reachByTwo_53 rfl ?_
        refine V_bipush (v := 36) dX6_reachByTwo_55 (by decide) ?_
        refine V_icmp_ge (tgt := 139) dX6_reachByTwo_57 (by decide) (fun c57 => False.elim (by exact nI_ge (a := t) (b := 36) (by omega) (by decide) c57)) (fun c57 => ?_)
        first | refine V_aload dX6_reachByTwo_60 rfl ?_ | refine V_aloadN dX6_reachByTwo_60 rfl ?_
        refine V_iload dX6_reachByTwo_62 rfl ?_
        refine V_callV (As := [_]) (st := _) (h1.allow hpz ht) kX6_88 (by first | exact h1.1.1.k _ rfl rfl | exact h1.1.kb hpz | exact h1.1.kb hbz) ⟨rfl, rfl, rfl⟩ ⟨(Nat.le_of_ble_eq_true rfl), (Nat.le_of_ble_eq_true rfl)⟩ dX6_reachByTwo_64 rfl rfl (Nat.le_of_ble_eq_true rfl) ⟨(Nat.le_of_ble_eq_true rfl), (Nat.le_of_ble_eq_true rfl)⟩ ?_
        refine V_if_eq (tgt := 133) dX6_reachByTwo_67 (by decide) (fun c67 => ?_) (fun c67 => ?_)
        · refine S_iinc (L' := [(0, _), (1, _), (2, _), (4, _), (6, _), (7, _), (8, _), (9, _), (11, _)]) dX6_reachByTwo_133 rfl rfl rfl rfl ?_
          rw [nI_inc]
          refine V_goto (tgt := 53) dX6_reachByTwo_136 (by decide) ?_
          first | exact ih (t + 1) z w1 (by omega) (by rw [twoL, ← hz]; unfold twoS; rw [if_neg (b01_0 c67)]) g1 h1 | exact ih (t + 1) (tk2 b p x y z.1 t, z.2.1, z.2.2.1, z.2.2.2) w4 (by omega) (by rw [twoL, ← hz]; unfold twoS; rw [if_pos (b01_1 c67)]; exact (if_neg c110).symm) ((((g1.trans (Keep.sI w1 (by have := h.1.n10; unfold boA; omega) 7 _)).trans a1).trans (Keep.sI _ (by have := h.1.n10; unfold boA; omega) 7 _)).trans b1) h5 | exact ih (t + 1) (tk2 b p x y z.1 t, farK (tk2 b p x y z.1 t) b x y, t, tu b p x y z.1 t) w4 (by omega) (by rw [twoL, ← hz]; unfold twoS; rw [if_pos (b01_1 c67)]; exact (if_pos c110).symm) ((((g1.trans (Keep.sI w1 (by have := h.1.n10; unfold boA; omega) 7 _)).trans a1).trans (Keep.sI _ (by have := h.1.n10; unfold boA; omega) 7 _)).trans b1) h5
        · first | refine V_aload dX6_reachByTwo_70 rfl ?_ | refine V_aloadN dX6_reachByTwo_70 rfl ?_
          refine V_iload dX6_reachByTwo_72 rfl ?_
          refine V_puti (by first | exact h1.1.1.k _ rfl rfl | exact h1.1.kb hpz | exact h1.1.kb hbz) pfX6_51 (fun h => nomatch h) dX6_reachByTwo_74 ⟨rfl, rfl⟩ ?_
          have h2 := h1.1.kU (b := p) ht
          first | refine V_aload_n dX6_reachByTwo_77 rfl rfl ?_ | refine V_aload_nN dX6_reachByTwo_77 rfl rfl ?_
          refine V_callVvr (As := []) (st := _) (c_X6_place _ _ h2) kX6_39 (by first | exact h1.1.1.k _ rfl rfl | exact h1.1.kb hpz | exact h1.1.kb hbz) ⟨rfl, rfl, rfl⟩ ⟨(Nat.le_of_ble_eq_true rfl), (Nat.le_of_ble_eq_true rfl)⟩ dX6_reachByTwo_78 rfl rfl (Nat.le_of_ble_eq_true rfl) ⟨(Nat.le_of_ble_eq_true rfl), (Nat.le_of_ble_eq_true rfl)⟩ (fun w2 hw2 => ?_)
          obtain ⟨a1, a2, h3⟩ := hw2
          first | refine V_aload_n dX6_reachByTwo_81 rfl rfl ?_ | refine V_aload_nN dX6_reachByTwo_81 rfl rfl ?_
          first | refine V_aload_n dX6_reachByTwo_82 rfl rfl ?_ | refine V_aload_nN dX6_reachByTwo_82 rfl rfl ?_
          first | refine V_aload_n dX6_reachByTwo_83 rfl rfl ?_ | refine V_aload_nN dX6_reachByTwo_83 rfl rfl ?_
          refine V_lload_n dX6_reachByTwo_84 rfl rfl ?_
          refine V_lload dX6_reachByTwo_85 rfl ?_
          first | refine V_aload_n dX6_reachByTwo_87 rfl rfl ?_ | refine V_aload_nN dX6_reachByTwo_87 rfl rfl ?_
          refine V_callV (As := []) (st := _) (h3.least hbz) kX6_78 (by exact h3.1.kb hbz) ⟨rfl, rfl, rfl⟩ ⟨(Nat.le_of_ble_eq_true rfl), (Nat.le_of_ble_eq_true rfl)⟩ dX6_reachByTwo_88 rfl rfl (Nat.le_of_ble_eq_true rfl) ⟨(Nat.le_of_ble_eq_true rfl), (Nat.le_of_ble_eq_true rfl)⟩ ?_
          refine V_callV (As := [_, _, _, _]) (st := _) (h3.near hbz hbz x y (lst_lt (h1.1.wf hbz).2.2.2.2.1)) kX6_82 (by exact h3.1.kb hbz) ⟨rfl, rfl, rfl⟩ ⟨(Nat.le_of_ble_eq_true rfl), (Nat.le_of_ble_eq_true rfl)⟩ dX6_reachByTwo_91 rfl rfl (Nat.le_of_ble_eq_true rfl) ⟨(Nat.le_of_ble_eq_true rfl), (Nat.le_of_ble_eq_true rfl)⟩ ?_
          refine V_puti (by exact h3.1.kb hbz) pfX6_51 (fun h => nomatch h) dX6_reachByTwo_94 ⟨rfl, rfl⟩ ?_
          have h4 := h3.1.kU (b := b) (ntK_lt (k := kU z.1 p t) (a := b) (b := b) (x := x) (y := y) (lst_lt (h1.1.wf hbz).2.2.2.2.1))
          first | refine V_aload_n dX6_reachByTwo_97 rfl rfl ?_ | refine V_aload_nN dX6_reachByTwo_97 rfl rfl ?_
          refine V_callVvr (As := []) (st := _) (c_X6_place _ _ h4) kX6_39 (by exact h3.1.1.k _ rfl rfl) ⟨rfl, rfl, rfl⟩ ⟨(Nat.le_of_ble_eq_true rfl), (Nat.le_of_ble_eq_true rfl)⟩ dX6_reachByTwo_98 rfl rfl (Nat.le_of_ble_eq_true rfl) ⟨(Nat.le_of_ble_eq_true rfl), (Nat.le_of_ble_eq_true rfl)⟩ (fun w4 hw4 => ?_)
          obtain ⟨b1, b2, h5⟩ := hw4
          first | refine V_aload_n dX6_reachByTwo_101 rfl rfl ?_ | refine V_aload_nN dX6_reachByTwo_101 rfl rfl ?_
          refine V_lload_n dX6_reachByTwo_102 rfl rfl ?_
          refine V_lload dX6_reachByTwo_103 rfl ?_
          refine V_callV (As := [_, _]) (st := _) (h5.far hbz x y) kX6_92 (by exact h5.1.kb hbz) ⟨rfl, rfl, rfl⟩ ⟨(Nat.le_of_ble_eq_true rfl), (Nat.le_of_ble_eq_true rfl)⟩ dX6_reachByTwo_105 rfl rfl (Nat.le_of_ble_eq_true rfl) ⟨(Nat.le_of_ble_eq_true rfl), (Nat.le_of_ble_eq_true rfl)⟩ ?_
          refine V_lload dX6_reachByTwo_108 rfl ?_
          refine V_lcmp_ge (tgt := 133) dX6_reachByTwo_110 dX6_reachByTwo_111 (by decide) (fun c110 => ?_) (fun c110 => ?_)
          · refine S_iinc (L' := [(0, _), (1, _), (2, _), (4, _), (6, _), (7, _), (8, _), (9, _), (11, _)]) dX6_reachByTwo_133 rfl rfl rfl rfl ?_
            rw [nI_inc]
            refine V_goto (tgt := 53) dX6_reachByTwo_136 (by decide) ?_
            first | exact ih (t + 1) z w1 (by omega) (by rw [twoL, ← hz]; unfold twoS; rw [if_neg (b01_0 c67)]) g1 h1 | exact ih (t + 1) (tk2 b p x y z.1 t, z.2.1, z.2.2.1, z.2.2.2) w4 (by omega) (by rw [twoL, ← hz]; unfold twoS; rw [if_pos (b01_1 c67)]; exact (if_neg c110).symm) ((((g1.trans (Keep.sI w1 (by have := h.1.n10; unfold boA; omega) 7 _)).trans a1).trans (Keep.sI _ (by have := h.1.n10; unfold boA; omega) 7 _)).trans b1) h5 | exact ih (t + 1) (tk2 b p x y z.1 t, farK (tk2 b p x y z.1 t) b x y, t, tu b p x y z.1 t) w4 (by omega) (by rw [twoL, ← hz]; unfold twoS; rw [if_pos (b01_1 c67)]; exact (if_pos c110).symm) ((((g1.trans (Keep.sI w1 (by have := h.1.n10; unfold boA; omega) 7 _)).trans a1).trans (Keep.sI _ (by have := h.1.n10; unfold boA; omega) 7 _)).trans b1) h5
          · first | refine V_aload_n dX6_reachByTwo_114 rfl rfl ?_ | refine V_aload_nN dX6_reachByTwo_114 rfl rfl ?_
            refine V_lload_n dX6_reachByTwo_115 rfl rfl ?_
            refine V_lload dX6_reachByTwo_116 rfl ?_
            refine V_callV (As := [_, _]) (st := _) (h5.far hbz x y) kX6_92 (by exact h5.1.kb hbz) ⟨rfl, rfl, rfl⟩ ⟨(Nat.le_of_ble_eq_true rfl), (Nat.le_of_ble_eq_true rfl)⟩ dX6_reachByTwo_118 rfl rfl (Nat.le_of_ble_eq_true rfl) ⟨(Nat.le_of_ble_eq_true rfl), (Nat.le_of_ble_eq_true rfl)⟩ ?_
            refine S_lstore (L' := [(0, _), (1, _), (2, _), (4, _), (6, _), (9, _), (11, _)]) dX6_reachByTwo_121 rfl rfl ?_
            refine V_iload dX6_reachByTwo_123 rfl ?_
            refine S_istore (L' := [(0, _), (1, _), (2, _), (4, _), (6, _), (7, _), (9, _), (11, _)]) dX6_reachByTwo_125 rfl rfl ?_
            first | refine V_aload_n dX6_reachByTwo_127 rfl rfl ?_ | refine V_aload_nN dX6_reachByTwo_127 rfl rfl ?_
            refine G_geti (by exact h5.1.kb hbz) fX6_51 dX6_reachByTwo_128 (by exact (h5.1.bone hbz).2.2.2.2.2.2.trans (congrArg nI (va_up_self _ _ _))) ?_
            refine S_istore (L' := [(0, _), (1, _), (2, _), (4, _), (6, _), (7, _), (8, _), (9, _), (11, _)]) dX6_reachByTwo_131 rfl rfl ?_
            refine S_iinc (L' := [(0, _), (1, _), (2, _), (4, _), (6, _), (7, _), (8, _), (9, _), (11, _)]) dX6_reachByTwo_133 rfl rfl rfl rfl ?_
            rw [nI_inc]
            refine V_goto (tgt := 53) dX6_reachByTwo_136 (by decide) ?_
            first | exact ih (t + 1) z w1 (by omega) (by rw [twoL, ← hz]; unfold twoS; rw [if_neg (b01_0 c67)]) g1 h1 | exact ih (t + 1) (tk2 b p x y z.1 t, z.2.1, z.2.2.1, z.2.2.2) w4 (by omega) (by rw [twoL, ← hz]; unfold twoS; rw [if_pos (b01_1 c67)]; exact (if_neg c110).symm) ((((g1.trans (Keep.sI w1 (by have := h.1.n10; unfold boA; omega) 7 _)).trans a1).trans (Keep.sI _ (by have := h.1.n10; unfold boA; omega) 7 _)).trans b1) h5 | exact ih (t + 1) (tk2 b p x y z.1 t, farK (tk2 b p x y z.1 t) b x y, t, tu b p x y z.1 t) w4 (by omega) (by rw [twoL, ← hz]; unfold twoS; rw [if_pos (b01_1 c67)]; exact (if_pos c110).symm) ((((g1.trans (Keep.sI w1 (by have := h.1.n10; unfold boA; omega) 7 _)).trans a1).trans (Keep.sI _ (by have := h.1.n10; unfold boA; omega) 7 _)).trans b1) h5
    first | refine V_aload_n dX6_reachByTwo_0 rfl rfl ?_ | refine V_aload_nN dX6_reachByTwo_0 rfl rfl ?_
    first | refine V_getr (by first | exact h.1.1.k _ rfl rfl | exact h.1.kb hb | exact h.1.kb hpb) fX6_74 dX6_reachByTwo_1 (by exact (h.1.pb hb).trans (by rw [hp]; rfl)) ?_ | refine V_getrN (by first | exact h.1.1.k _ rfl rfl | exact h.1.kb hb | exact h.1.kb hpb) fX6_74 dX6_reachByTwo_1 (by exact (h.1.pb hb).trans (by rw [hp]; rfl)) ?_
    first | refine S_astore (L' := [(0, _), (1, _), (2, _), (4, _), (6, _)]) dX6_reachByTwo_4 rfl rfl ?_ | refine S_astoreN (L' := [(0, _), (1, _), (2, _), (4, _), (6, _)]) dX6_reachByTwo_4 rfl rfl ?_
    first | refine V_aload dX6_reachByTwo_6 rfl ?_ | refine V_aloadN dX6_reachByTwo_6 rfl ?_
    refine V_ifnonnull (tgt := 32) dX6_reachByTwo_8 (by decide) ?_
    first | refine V_aload dX6_reachByTwo_32 rfl ?_ | refine V_aloadN dX6_reachByTwo_32 rfl ?_
    refine G_geti (by first | exact h.1.1.k _ rfl rfl | exact h.1.kb hb | exact h.1.kb hpb) fX6_51 dX6_reachByTwo_34 (by exact (h.1.bone hpb).2.2.2.2.2.2) ?_
    refine S_istore (L' := [(0, _), (1, _), (2, _), (4, _), (6, _), (7, _)]) dX6_reachByTwo_37 rfl rfl ?_
    first | refine V_aload_n dX6_reachByTwo_39 rfl rfl ?_ | refine V_aload_nN dX6_reachByTwo_39 rfl rfl ?_
    refine G_geti (by first | exact h.1.1.k _ rfl rfl | exact h.1.kb hb | exact h.1.kb hpb) fX6_51 dX6_reachByTwo_40 (by exact (h.1.bone hb).2.2.2.2.2.2) ?_
    refine S_istore (L' := [(0, _), (1, _), (2, _), (4, _), (6, _), (7, _), (8, _)]) dX6_reachByTwo_43 rfl rfl ?_
    refine V_ldc2 ctX6_86 dX6_reachByTwo_45 ?_
    refine S_lstore (L' := [(0, _), (1, _), (2, _), (4, _), (6, _), (7, _), (8, _), (9, _)]) dX6_reachByTwo_48 rfl rfl ?_
    refine V_iconst (v := 0) dX6_reachByTwo_50 (by decide) ?_
    refine S_istore (L' := [(0, _), (1, _), (2, _), (4, _), (6, _), (7, _), (8, _), (9, _), (11, _)]) dX6_reachByTwo_51 rfl rfl ?_
    exact loop 36 0 _ w rfl rfl (Keep.refl _ _) h

/-- one round, from bone o up -/
def rndG (b : Nat) (x y : Int64) : Nat → Sk → Option Nat → Bool → Sk × Bool
  | 0, k, _, c => (k, c)
  | _ + 1, k, none, c => (k, c)
  | n + 1, k, some a, c => if ntK k a b x y (kTrn k a) = kTrn k a then rndG b x y n k (kPar k a) c else rndG b x y n (kU k a (ntK k a b x y (kTrn k a))) (kPar k a) true
def rndsG (b : Nat) (x y : Int64) : Nat → Sk → Bool → Sk
  | 0, k, _ => k
  | n + 1, k, c => if c = true then rndsG b x y n (rndG b x y 10 k (some b) false).1 (rndG b x y 10 k (some b) false).2 else k
theorem rndG_same (b : Nat) (x y : Int64) (k0 : Sk) : ∀ n k o c, SameB k0 k → SameB k0 (rndG b x y n k o c).1
  | 0, _, _, _, h => h
  | _ + 1, _, none, _, h => h
  | n + 1, k, some a, c, h => by
    rw [rndG]
    split
    · exact rndG_same b x y k0 n _ _ _ h
    · exact rndG_same b x y k0 n _ _ _ h
def rf3 (o : Option Nat) : Value := match o with
  | none => .null
  | some a => .ref (300 + a)
def bI (c : Bool) : Int32 := if c = true then 1 else 0
theorem bI_nar (c : Bool) : narrow .boolean (.int (bI c)) = .int (bI c) := by cases c <;> rfl

set_option maxRecDepth 100000 in
theorem c_X6_reachByRound (k : Sk) (b : Nat) (x y : Int64) (w : Wd) (h : SkP k w) (hb : b < kN k) : Cc yX6_reachByRound mX6_reachByRound [.ref 21, .ref (300 + b), .long x, .long y] w (fun r w' => ∃ v, r = some v ∧ v = .int (bI (rndG b x y 10 k (some b) false).2) ∧ Keep boA w w' ∧ SkP (rndG b x y 10 k (some b) false).1 w') := by
  refine Cc.of (by decide) rfl rfl (Nat.le_of_ble_eq_true rfl) (fun X => ?_)
  change V _ X _ 0 [(0, _), (1, _), (2, _), (4, _)] [] _ (0, 0)
  have loop : ∀ (n : Nat) (k1 : Sk) (o : Option Nat) (c : Bool) (w1 : Wd), (∀ a, o = some a → a < n ∧ a < kN k) → Keep boA w w1 → SkP k1 w1 → SameB k k1 → V mX6_reachByRound X (mq mX6_reachByRound X (fun r w' => ∃ v, r = some v ∧ v = .int (bI (rndG b x y n k1 o c).2) ∧ Keep boA w w' ∧ SkP (rndG b x y n k1 o c).1 w')) 6 [(0, .ref 21), (1, .ref (300 + b)), (2, .long x), (4, .long y), (6, .int (bI c)), (7, rf3 o)] [] w1 (0, 0) := by
    intro n
    induction n with
    | zero =>
      intro k1 o c w1 hlt g1 h1 hs
      cases o with
      | none =>
        change V _ _ _ 6 [(0, _), (1, _), (2, _), (4, _), (6, _), (7, .null)] [] _ _
        first | refine V_aload dX6_reachByRound_6 rfl ?_ | refine V_aloadN dX6_reachByRound_6 rfl ?_
        refine V_ifnullN (tgt := 61) dX6_reachByRound_8 (by decide) ?_
        refine V_iload dX6_reachByRound_61 rfl ?_
        refine V_zret rfl dX6_reachByRound_63 (Nat.le_of_ble_eq_true rfl) (Nat.le_of_ble_eq_true rfl) (bI_nar c) ?_
        exact ⟨_, rfl, rfl, g1, h1⟩
      | some a => exact absurd (hlt a rfl).1 (Nat.not_lt_zero _)
    | succ n ih =>
      intro k1 o c w1 hlt g1 h1 hs
      have hbz : b < kN k1 := by rw [hs.1]; exact hb
      cases o with
      | none =>
        change V _ _ _ 6 [(0, _), (1, _), (2, _), (4, _), (6, _), (7, .null)] [] _ _
        first | refine V_aload dX6_reachByRound_6 rfl ?_ | refine V_aloadN dX6_reachByRound_6 rfl ?_
        refine V_ifnullN (tgt := 61) dX6_reachByRound_8 (by decide) ?_
        refine V_iload dX6_reachByRound_61 rfl ?_
        refine V_zret rfl dX6_reachByRound_63 (Nat.le_of_ble_eq_true rfl) (Nat.le_of_ble_eq_true rfl) (bI_nar c) ?_
        exact ⟨_, rfl, rfl, g1, h1⟩
      | some a =>
        have ha : a < kN k1 := by rw [hs.1]; exact (hlt a rfl).2
        change V _ _ _ 6 [(0, _), (1, _), (2, _), (4, _), (6, _), (7, .ref (300 + a))] [] _ _
        rw [rndG]
        cases hpa : kPar k1 a with
        | none =>
          first | refine V_aload dX6_reachByRound_6 rfl ?_ | refine V_aloadN dX6_reachByRound_6 rfl ?_
          refine V_ifnull dX6_reachByRound_8 ?_
          first | refine V_aload dX6_reachByRound_11 rfl ?_ | refine V_aloadN dX6_reachByRound_11 rfl ?_
          first | refine V_aload_n dX6_reachByRound_13 rfl rfl ?_ | refine V_aload_nN dX6_reachByRound_13 rfl rfl ?_
          refine V_lload_n dX6_reachByRound_14 rfl rfl ?_
          refine V_lload dX6_reachByRound_15 rfl ?_
          first | refine V_aload dX6_reachByRound_17 rfl ?_ | refine V_aloadN dX6_reachByRound_17 rfl ?_
          refine G_geti (by first | exact h1.1.1.k _ rfl rfl | exact h1.1.kb ha | exact h1.1.kb hbz) fX6_51 dX6_reachByRound_19 (by exact (h1.1.bone ha).2.2.2.2.2.2) ?_
          refine V_callV (As := [_, _, _, _]) (st := _) (h1.near ha hbz x y (h1.1.wf ha).2.2.2.2.2.2) kX6_82 (by first | exact h1.1.1.k _ rfl rfl | exact h1.1.kb ha | exact h1.1.kb hbz) ⟨rfl, rfl, rfl⟩ ⟨(Nat.le_of_ble_eq_true rfl), (Nat.le_of_ble_eq_true rfl)⟩ dX6_reachByRound_22 rfl rfl (Nat.le_of_ble_eq_true rfl) ⟨(Nat.le_of_ble_eq_true rfl), (Nat.le_of_ble_eq_true rfl)⟩ ?_
          refine S_istore (L' := [(0, _), (1, _), (2, _), (4, _), (6, _), (7, _), (8, _)]) dX6_reachByRound_25 rfl rfl ?_
          refine V_iload dX6_reachByRound_27 rfl ?_
          first | refine V_aload dX6_reachByRound_29 rfl ?_ | refine V_aloadN dX6_reachByRound_29 rfl ?_
          refine G_geti (by first | exact h1.1.1.k _ rfl rfl | exact h1.1.kb ha | exact h1.1.kb hbz) fX6_51 dX6_reachByRound_31 (by exact (h1.1.bone ha).2.2.2.2.2.2) ?_
          refine V_icmp_eq (tgt := 51) dX6_reachByRound_34 (by decide) (fun c34 => ?_) (fun c34 => ?_)
          · first | refine V_aload dX6_reachByRound_51 rfl ?_ | refine V_aloadN dX6_reachByRound_51 rfl ?_
            first | refine V_getr (by first | exact h3.1.kb ha | exact h1.1.kb ha) fX6_74 dX6_reachByRound_53 (by first | exact (h3.1.pb ha).trans (congrArg _ hpa) | exact (h1.1.pb ha).trans (congrArg _ hpa)) ?_ | refine V_getrN (by first | exact h3.1.kb ha | exact h1.1.kb ha) fX6_74 dX6_reachByRound_53 (by first | exact (h3.1.pb ha).trans (congrArg _ hpa) | exact (h1.1.pb ha).trans (congrArg _ hpa)) ?_
            first | refine S_astore (L' := [(0, _), (1, _), (2, _), (4, _), (6, _), (7, _)]) dX6_reachByRound_56 rfl rfl ?_ | refine S_astoreN (L' := [(0, _), (1, _), (2, _), (4, _), (6, _), (7, _)]) dX6_reachByRound_56 rfl rfl ?_
            refine V_goto (tgt := 6) dX6_reachByRound_58 (by decide) ?_
            first | (rw [nI_eq (by have := ntK_lt (k := k1) (a := a) (b := b) (x := x) (y := y) (h1.1.wf ha).2.2.2.2.2.2; omega) (by have := (h1.1.wf ha).2.2.2.2.2.2; omega)] at c34; rw [if_pos c34]; exact ih k1 _ c w1 (fun q e => by have := (hlt a rfl).1; rw [← hpa] at e; have := (h1.1.wf ha).1 q e; have := (hlt a rfl).2; exact ⟨by omega, by omega⟩) g1 h1 hs) | (rw [nI_eq (by have := ntK_lt (k := k1) (a := a) (b := b) (x := x) (y := y) (h1.1.wf ha).2.2.2.2.2.2; omega) (by have := (h1.1.wf ha).2.2.2.2.2.2; omega)] at c34; rw [if_neg c34]; exact ih _ _ true w2 (fun q e => by have := (hlt a rfl).1; rw [← hpa] at e; have := (h1.1.wf ha).1 q e; have := (hlt a rfl).2; exact ⟨by omega, by omega⟩) ((g1.trans (Keep.sI w1 (by have := h1.1.n10; unfold boA; omega) 7 _)).trans a1) h3 hs)
          · first | refine V_aload dX6_reachByRound_37 rfl ?_ | refine V_aloadN dX6_reachByRound_37 rfl ?_
            refine V_iload dX6_reachByRound_39 rfl ?_
            refine V_puti (by first | exact h1.1.1.k _ rfl rfl | exact h1.1.kb ha | exact h1.1.kb hbz) pfX6_51 (fun h => nomatch h) dX6_reachByRound_41 ⟨rfl, rfl⟩ ?_
            have h2 := h1.1.kU (b := a) (ntK_lt (k := k1) (a := a) (b := b) (x := x) (y := y) (h1.1.wf ha).2.2.2.2.2.2)
            first | refine V_aload_n dX6_reachByRound_44 rfl rfl ?_ | refine V_aload_nN dX6_reachByRound_44 rfl rfl ?_
            refine V_callVvr (As := []) (st := _) (c_X6_place _ _ h2) kX6_39 (by first | exact h1.1.1.k _ rfl rfl | exact h1.1.kb ha | exact h1.1.kb hbz) ⟨rfl, rfl, rfl⟩ ⟨(Nat.le_of_ble_eq_true rfl), (Nat.le_of_ble_eq_true rfl)⟩ dX6_reachByRound_45 rfl rfl (Nat.le_of_ble_eq_true rfl) ⟨(Nat.le_of_ble_eq_true rfl), (Nat.le_of_ble_eq_true rfl)⟩ (fun w2 hw2 => ?_)
            obtain ⟨a1, a2, h3⟩ := hw2
            refine V_iconst (v := 1) dX6_reachByRound_48 (by decide) ?_
            refine S_istore (L' := [(0, _), (1, _), (2, _), (4, _), (6, _), (7, _)]) dX6_reachByRound_49 rfl rfl ?_
            first | refine V_aload dX6_reachByRound_51 rfl ?_ | refine V_aloadN dX6_reachByRound_51 rfl ?_
            first | refine V_getr (by first | exact h3.1.kb ha | exact h1.1.kb ha) fX6_74 dX6_reachByRound_53 (by first | exact (h3.1.pb ha).trans (congrArg _ hpa) | exact (h1.1.pb ha).trans (congrArg _ hpa)) ?_ | refine V_getrN (by first | exact h3.1.kb ha | exact h1.1.kb ha) fX6_74 dX6_reachByRound_53 (by first | exact (h3.1.pb ha).trans (congrArg _ hpa) | exact (h1.1.pb ha).trans (congrArg _ hpa)) ?_
            first | refine S_astore (L' := [(0, _), (1, _), (2, _), (4, _), (6, _), (7, _)]) dX6_reachByRound_56 rfl rfl ?_ | refine S_astoreN (L' := [(0, _), (1, _), (2, _), (4, _), (6, _), (7, _)]) dX6_reachByRound_56 rfl rfl ?_
            refine V_goto (tgt := 6) dX6_reachByRound_58 (by decide) ?_
            first | (rw [nI_eq (by have := ntK_lt (k := k1) (a := a) (b := b) (x := x) (y := y) (h1.1.wf ha).2.2.2.2.2.2; omega) (by have := (h1.1.wf ha).2.2.2.2.2.2; omega)] at c34; rw [if_pos c34]; exact ih k1 _ c w1 (fun q e => by have := (hlt a rfl).1; rw [← hpa] at e; have := (h1.1.wf ha).1 q e; have := (hlt a rfl).2; exact ⟨by omega, by omega⟩) g1 h1 hs) | (rw [nI_eq (by have := ntK_lt (k := k1) (a := a) (b := b) (x := x) (y := y) (h1.1.wf ha).2.2.2.2.2.2; omega) (by have := (h1.1.wf ha).2.2.2.2.2.2; omega)] at c34; rw [if_neg c34]; exact ih _ _ true w2 (fun q e => by have := (hlt a rfl).1; rw [← hpa] at e; have := (h1.1.wf ha).1 q e; have := (hlt a rfl).2; exact ⟨by omega, by omega⟩) ((g1.trans (Keep.sI w1 (by have := h1.1.n10; unfold boA; omega) 7 _)).trans a1) h3 hs)
        | some p =>
          first | refine V_aload dX6_reachByRound_6 rfl ?_ | refine V_aloadN dX6_reachByRound_6 rfl ?_
          refine V_ifnull dX6_reachByRound_8 ?_
          first | refine V_aload dX6_reachByRound_11 rfl ?_ | refine V_aloadN dX6_reachByRound_11 rfl ?_
          first | refine V_aload_n dX6_reachByRound_13 rfl rfl ?_ | refine V_aload_nN dX6_reachByRound_13 rfl rfl ?_
          refine V_lload_n dX6_reachByRound_14 rfl rfl ?_
          refine V_lload dX6_reachByRound_15 rfl ?_
          first | refine V_aload dX6_reachByRound_17 rfl ?_ | refine V_aloadN dX6_reachByRound_17 rfl ?_
          refine G_geti (by first | exact h1.1.1.k _ rfl rfl | exact h1.1.kb ha | exact h1.1.kb hbz) fX6_51 dX6_reachByRound_19 (by exact (h1.1.bone ha).2.2.2.2.2.2) ?_
          refine V_callV (As := [_, _, _, _]) (st := _) (h1.near ha hbz x y (h1.1.wf ha).2.2.2.2.2.2) kX6_82 (by first | exact h1.1.1.k _ rfl rfl | exact h1.1.kb ha | exact h1.1.kb hbz) ⟨rfl, rfl, rfl⟩ ⟨(Nat.le_of_ble_eq_true rfl), (Nat.le_of_ble_eq_true rfl)⟩ dX6_reachByRound_22 rfl rfl (Nat.le_of_ble_eq_true rfl) ⟨(Nat.le_of_ble_eq_true rfl), (Nat.le_of_ble_eq_true rfl)⟩ ?_
          refine S_istore (L' := [(0, _), (1, _), (2, _), (4, _), (6, _), (7, _), (8, _)]) dX6_reachByRound_25 rfl rfl ?_
          refine V_iload dX6_reachByRound_27 rfl ?_
          first | refine V_aload dX6_reachByRound_29 rfl ?_ | refine V_aloadN dX6_reachByRound_29 rfl ?_
          refine G_geti (by first | exact h1.1.1.k _ rfl rfl | exact h1.1.kb ha | exact h1.1.kb hbz) fX6_51 dX6_reachByRound_31 (by exact (h1.1.bone ha).2.2.2.2.2.2) ?_
          refine V_icmp_eq (tgt := 51) dX6_reachByRound_34 (by decide) (fun c34 => ?_) (fun c34 => ?_)
          · first | refine V_aload dX6_reachByRound_51 rfl ?_ | refine V_aloadN dX6_reachByRound_51 rfl ?_
            first | refine V_getr (by first | exact h3.1.kb ha | exact h1.1.kb ha) fX6_74 dX6_reachByRound_53 (by first | exact (h3.1.pb ha).trans (congrArg _ hpa) | exact (h1.1.pb ha).trans (congrArg _ hpa)) ?_ | refine V_getrN (by first | exact h3.1.kb ha | exact h1.1.kb ha) fX6_74 dX6_reachByRound_53 (by first | exact (h3.1.pb ha).trans (congrArg _ hpa) | exact (h1.1.pb ha).trans (congrArg _ hpa)) ?_
            first | refine S_astore (L' := [(0, _), (1, _), (2, _), (4, _), (6, _), (7, _)]) dX6_reachByRound_56 rfl rfl ?_ | refine S_astoreN (L' := [(0, _), (1, _), (2, _), (4, _), (6, _), (7, _)]) dX6_reachByRound_56 rfl rfl ?_
            refine V_goto (tgt := 6) dX6_reachByRound_58 (by decide) ?_
            first | (rw [nI_eq (by have := ntK_lt (k := k1) (a := a) (b := b) (x := x) (y := y) (h1.1.wf ha).2.2.2.2.2.2; omega) (by have := (h1.1.wf ha).2.2.2.2.2.2; omega)] at c34; rw [if_pos c34]; exact ih k1 _ c w1 (fun q e => by have := (hlt a rfl).1; rw [← hpa] at e; have := (h1.1.wf ha).1 q e; have := (hlt a rfl).2; exact ⟨by omega, by omega⟩) g1 h1 hs) | (rw [nI_eq (by have := ntK_lt (k := k1) (a := a) (b := b) (x := x) (y := y) (h1.1.wf ha).2.2.2.2.2.2; omega) (by have := (h1.1.wf ha).2.2.2.2.2.2; omega)] at c34; rw [if_neg c34]; exact ih _ _ true w2 (fun q e => by have := (hlt a rfl).1; rw [← hpa] at e; have := (h1.1.wf ha).1 q e; have := (hlt a rfl).2; exact ⟨by omega, by omega⟩) ((g1.trans (Keep.sI w1 (by have := h1.1.n10; unfold boA; omega) 7 _)).trans a1) h3 hs)
          · first | refine V_aload dX6_reachByRound_37 rfl ?_ | refine V_aloadN dX6_reachByRound_37 rfl ?_
            refine V_iload dX6_reachByRound_39 rfl ?_
            refine V_puti (by first | exact h1.1.1.k _ rfl rfl | exact h1.1.kb ha | exact h1.1.kb hbz) pfX6_51 (fun h => nomatch h) dX6_reachByRound_41 ⟨rfl, rfl⟩ ?_
            have h2 := h1.1.kU (b := a) (ntK_lt (k := k1) (a := a) (b := b) (x := x) (y := y) (h1.1.wf ha).2.2.2.2.2.2)
            first | refine V_aload_n dX6_reachByRound_44 rfl rfl ?_ | refine V_aload_nN dX6_reachByRound_44 rfl rfl ?_
            refine V_callVvr (As := []) (st := _) (c_X6_place _ _ h2) kX6_39 (by first | exact h1.1.1.k _ rfl rfl | exact h1.1.kb ha | exact h1.1.kb hbz) ⟨rfl, rfl, rfl⟩ ⟨(Nat.le_of_ble_eq_true rfl), (Nat.le_of_ble_eq_true rfl)⟩ dX6_reachByRound_45 rfl rfl (Nat.le_of_ble_eq_true rfl) ⟨(Nat.le_of_ble_eq_true rfl), (Nat.le_of_ble_eq_true rfl)⟩ (fun w2 hw2 => ?_)
            obtain ⟨a1, a2, h3⟩ := hw2
            refine V_iconst (v := 1) dX6_reachByRound_48 (by decide) ?_
            refine S_istore (L' := [(0, _), (1, _), (2, _), (4, _), (6, _), (7, _)]) dX6_reachByRound_49 rfl rfl ?_
            first | refine V_aload dX6_reachByRound_51 rfl ?_ | refine V_aloadN dX6_reachByRound_51 rfl ?_
            first | refine V_getr (by first | exact h3.1.kb ha | exact h1.1.kb ha) fX6_74 dX6_reachByRound_53 (by first | exact (h3.1.pb ha).trans (congrArg _ hpa) | exact (h1.1.pb ha).trans (congrArg _ hpa)) ?_ | refine V_getrN (by first | exact h3.1.kb ha | exact h1.1.kb ha) fX6_74 dX6_reachByRound_53 (by first | exact (h3.1.pb ha).trans (congrArg _ hpa) | exact (h1.1.pb ha).trans (congrArg _ hpa)) ?_
            first | refine S_astore (L' := [(0, _), (1, _), (2, _), (4, _), (6, _), (7, _)]) dX6_reachByRound_56 rfl rfl ?_ | refine S_astoreN (L' := [(0, _), (1, _), (2, _), (4, _), (6, _), (7, _)]) dX6_reachByRound_56 rfl rfl ?_
            refine V_goto (tgt := 6) dX6_reachByRound_58 (by decide) ?_
            first | (rw [nI_eq (by have := ntK_lt (k := k1) (a := a) (b := b) (x := x) (y := y) (h1.1.wf ha).2.2.2.2.2.2; omega) (by have := (h1.1.wf ha).2.2.2.2.2.2; omega)] at c34; rw [if_pos c34]; exact ih k1 _ c w1 (fun q e => by have := (hlt a rfl).1; rw [← hpa] at e; have := (h1.1.wf ha).1 q e; have := (hlt a rfl).2; exact ⟨by omega, by omega⟩) g1 h1 hs) | (rw [nI_eq (by have := ntK_lt (k := k1) (a := a) (b := b) (x := x) (y := y) (h1.1.wf ha).2.2.2.2.2.2; omega) (by have := (h1.1.wf ha).2.2.2.2.2.2; omega)] at c34; rw [if_neg c34]; exact ih _ _ true w2 (fun q e => by have := (hlt a rfl).1; rw [← hpa] at e; have := (h1.1.wf ha).1 q e; have := (hlt a rfl).2; exact ⟨by omega, by omega⟩) ((g1.trans (Keep.sI w1 (by have := h1.1.n10; unfold boA; omega) 7 _)).trans a1) h3 hs)
  refine V_iconst (v := 0) dX6_reachByRound_0 (by decide) ?_
  refine S_istore (L' := [(0, _), (1, _), (2, _), (4, _), (6, _)]) dX6_reachByRound_1 rfl rfl ?_
  first | refine V_aload_n dX6_reachByRound_3 rfl rfl ?_ | refine V_aload_nN dX6_reachByRound_3 rfl rfl ?_
  first | refine S_astore (L' := [(0, _), (1, _), (2, _), (4, _), (6, _), (7, _)]) dX6_reachByRound_4 rfl rfl ?_ | refine S_astoreN (L' := [(0, _), (1, _), (2, _), (4, _), (6, _), (7, _)]) dX6_reachByRound_4 rfl rfl ?_
  exact loop 10 k (some b) false w (fun a e => by cases e; have := h.1.n10; exact ⟨by omega, hb⟩) (Keep.refl _ _) h ⟨rfl, rfl, rfl, rfl, rfl, rfl⟩
