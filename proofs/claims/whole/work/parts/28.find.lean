/-! Graph: findWalk -/
abbrev pP (q : Cp) (s : Nat) : Prop := s < 180 ∧ pN q s = true
/-- the graph's steps and their costs -/
def eg (q : Cp) (nb jn v u : Nat) : Option Nat := if pP q v ∧ pP q u ∧ v ≠ u then wcN q nb jn v u else none
theorem eg_y {q : Cp} {nb jn v u : Nat} (h1 : pP q v) (h2 : pP q u) (h3 : v ≠ u) : eg q nb jn v u = wcN q nb jn v u := if_pos ⟨h1, h2, h3⟩
theorem eg_P {q : Cp} {nb jn : Nat} (hj : jn ≤ 100) : EP (pP q) (eg q nb jn) := fun v u c h => by
  unfold eg at h
  split at h
  · rename_i z
    exact ⟨z.1, z.2.1, (wcN_lt hj h).1⟩
  · cases h
theorem prI_cnt (q : Cp) : ∀ i, (prI q i).length = cntF (pN q) i
  | 0 => rfl
  | i + 1 => by
    rw [cntF]
    by_cases h : pN q i = true
    · rw [prI_y h, List.length_append, prI_cnt q i, if_pos h]; rfl
    · rw [prI_n h, prI_cnt q i, if_neg h, Nat.add_zero]
theorem cntF_sub {S p : Nat → Bool} : ∀ {m : Nat}, (∀ s, s < m → S s = true → p s = true) → cntF S m ≤ cntF p m
  | 0, _ => Nat.le_refl _
  | m + 1, h => by
    have ih := cntF_sub (S := S) (p := p) (m := m) (fun s hs => h s (by omega))
    rw [cntF, cntF]
    by_cases z : S m = true
    · rw [if_pos z, if_pos (h m (by omega) z)]; omega
    · rw [if_neg z]; split <;> omega
theorem cntF_ltp {S p : Nat → Bool} {a : Nat} (ha : S a = false) (hp : p a = true) : ∀ {m : Nat}, a < m → (∀ s, s < m → S s = true → p s = true) → cntF S m < cntF p m
  | m + 1, hm, h => by
    rw [cntF, cntF]
    by_cases e : a = m
    · subst e
      have ih := cntF_sub (S := S) (p := p) (m := a) (fun s hs => h s (by omega))
      rw [if_pos hp, if_neg (by rw [ha]; decide)]
      omega
    · have ih := cntF_ltp ha hp (m := m) (by omega) (fun s hs => h s (by omega))
      by_cases z : S m = true
      · rw [if_pos z, if_pos (h m (by omega) z)]; omega
      · rw [if_neg z]; split <;> omega
def setB (S : Nat → Bool) (v : Nat) : Nat → Bool := fun s => if s = v then true else S s
theorem cntF_set {S : Nat → Bool} {v : Nat} (hv : S v = false) : ∀ {m : Nat}, cntF (setB S v) m = cntF S m + (if v < m then 1 else 0)
  | 0 => by rw [if_neg (by omega)]; rfl
  | m + 1 => by
    rw [cntF, cntF, cntF_set hv (m := m)]
    by_cases e : m = v
    · subst e
      have e1 : setB S m m = true := if_pos rfl
      rw [e1, hv]
      simp
    · have e1 : setB S v m = S m := if_neg e
      rw [e1]
      by_cases z : v < m
      · have z' : v < m + 1 := by omega
        simp only [z, z', if_true]; omega
      · have z' : ¬ v < m + 1 := by omega
        simp only [z, z', if_false]; omega
theorem GX.set {q : Cp} {S : Nat → Bool} {C F : Nat → Option Nat} {w : Wd} (h : GX q S C F w) (v : Nat) : GX q (setB S v) C F (sI w 33 v 1) := by
  refine ⟨(rdI_nn (by decide)).trans h.1, fun n s e => (rdI_nn (by decide)).trans (h.2.1 n s e), fun s hs => ?_⟩
  obtain ⟨g1, g2, g3⟩ := h.2.2 s hs
  refine ⟨?_, (rdI_nn (by decide)).trans g2, (rdI_nn (by decide)).trans g3⟩
  unfold setB
  by_cases e : s = v
  · subst e; rw [rdI_eq, if_pos rfl]; rfl
  · rw [rdI_ne e, if_neg e]; exact g1
/-- what holds when n frames are settled -/
def FI (q : Cp) (nb jn g : Nat) (D : Nat → Option Nat) (w : Wd) (S : Nat → Bool) (C F : Nat → Option Nat) (n : Nat) (w1 : Wd) : Prop := Keep grS w w1 ∧ (∀ j, j ≠ 5 → wI w1 24 j = wI w 24 j) ∧ GX q S C F w1 ∧ DI (pP q) (eg q nb jn) g D S C F ∧ cntF S 180 = n ∧ (∀ s e, C s = some e → e ≤ 103 * n) ∧ ∀ s f, F s = some f → f < 180
theorem FI.all {q : Cp} {nb jn g : Nat} {D : Nat → Option Nat} {w w1 : Wd} {S : Nat → Bool} {C F : Nat → Option Nat} {n : Nat} (h : FI q nb jn g D w S C F n w1) {a : Nat} (ha : pP q a) (hn : (prL q).length ≤ n) : S a = true := by
  cases hx : S a with
  | true => rfl
  | false =>
    exfalso
    have h1 := cntF_ltp (p := pN q) hx ha.2 (m := 180) ha.1 (fun s hs z => (h.2.2.2.1.1 s z).1.2)
    rw [h.2.2.2.2.1, ← prI_cnt] at h1
    unfold prL at hn
    omega
theorem FI.step {q : Cp} {nb jn g : Nat} {D : Nat → Option Nat} {w w1 w3 : Wd} {S : Nat → Bool} {C F : Nat → Option Nat} {n v d : Nat} (h : FI q nb jn g D w S C F n w1) (hjn : jn ≤ 100) (hb : BE (eg q nb jn) g D) (hg : pP q g) (hv : pP q v) (hS : S v = false) (hC : C v = some d) (hm : ∀ s e, pP q s → S s = false → C s = some e → d ≤ e)
    (k : Keep ctA (sI w1 33 v 1) w3) (gx : GX q (setB S v) (fun s => if pN q s = true then rC q nb jn (setB S v) C F v d s else C s) (fun s => if pN q s = true then rF q nb jn (setB S v) C F v d s else F s) w3) : FI q nb jn g D w (setB S v) (fun s => if pN q s = true then rC q nb jn (setB S v) C F v d s else C s) (fun s => if pN q s = true then rF q nb jn (setB S v) C F v d s else F s) (n + 1) w3 := by
  obtain ⟨h1, h2, h3, h4, h5, h6, h7⟩ := h
  have kk : Keep grS w1 w3 := (Keep.sI w1 (by unfold grS; omega) _ _).trans (k.mono (fun a => by unfold ctA grS; omega))
  refine ⟨h1.trans kk, fun j hj => ?_, gx, ?_, ?_, fun s e he => ?_, fun s f hf => ?_⟩
  · rw [k.I (a := 24) (by unfold ctA; omega), rdI_nn (by decide)]; exact h2 j hj
  · refine h4.step hb (eg_P hjn) hg hv hS hC hm (fun s => ?_) (fun s hs => ?_) (fun s c hp hs hE hbt => ?_) (fun s hp hs hE => ?_)
    · unfold setB
      by_cases e : s = v
      · rw [if_pos e]; exact ⟨fun _ => Or.inr e, fun _ => rfl⟩
      · rw [if_neg e]; exact ⟨fun z => Or.inl z, fun z => z.resolve_right e⟩
    · have := rC_n (rl_set (q := q) (nb := nb) (jn := jn) (S := setB S v) (C := C) (F := F) (u := v) (d := d) hs)
      split
      · exact this
      · exact ⟨rfl, rfl⟩
    · have hne : s ≠ v := fun e => by unfold setB at hs; rw [if_pos e] at hs; cases hs
      rw [eg_y hp hv hne] at hE
      rw [if_pos hp.2, if_pos hp.2]
      exact rC_s (rl_up hE hs hbt)
    · have hne : s ≠ v := fun e => by unfold setB at hs; rw [if_pos e] at hs; cases hs
      rw [if_pos hp.2, if_pos hp.2]
      cases hx : wcN q nb jn s v with
      | none => exact rC_n (rl_no hx)
      | some c => exact rC_n (rl_nb hx (hE c (by rw [eg_y hp hv hne]; exact hx)))
  · rw [cntF_set hS, if_pos hv.1, h5]
  · dsimp only at he
    have hd := h6 v d hC
    split at he
    · unfold rC at he
      cases hx : rlB q nb jn (setB S v) C F v d s with
      | none => rw [hx] at he; have := h6 s e he; omega
      | some e' =>
        rw [hx] at he
        cases he
        unfold rlB at hx
        cases hw : wcN q nb jn s v with
        | none => rw [hw] at hx; cases hx
        | some c =>
          rw [hw] at hx
          simp only at hx
          split at hx
          · cases hx
            have := (wcN_lt hjn hw).2
            omega
          · cases hx
    · have := h6 s e he; omega
  · dsimp only at hf
    split at hf
    · unfold rF at hf
      cases hx : rlB q nb jn (setB S v) C F v d s with
      | none => rw [hx] at hf; exact h7 s f hf
      | some e' => rw [hx] at hf; cases hf; exact hv.1
    · exact h7 s f hf
theorem sqF_eq {P : Nat → Prop} {E : Nat → Nat → Option Nat} {g : Nat} {D : Nat → Option Nat} {S : Nat → Bool} {C F : Nat → Option Nat} (h : DI P E g D S C F) (hP : ∀ s, P s → s < 180) {a : Nat} (ha : S a = true) : ∀ n, sqF F a g n = sqF (nxD E D) a g n ∧ ∀ v, sqF F a g n = some v → S v = true
  | 0 => ⟨by rw [sqF, sqF], fun v e => by rw [sqF] at e; cases e; exact ha⟩
  | n + 1 => by
    obtain ⟨h1, h2⟩ := sqF_eq h hP ha n
    rw [sqF, sqF, ← h1]
    cases hx : sqF F a g n with
    | none => exact ⟨rfl, fun v e => by cases e⟩
    | some v =>
      simp only
      by_cases e : v = g
      · rw [if_pos e, if_pos e]; exact ⟨rfl, fun v e => by cases e⟩
      · rw [if_neg e, if_neg e]
        obtain ⟨u, c, d, e1, a1, a2, a3, a4, a5, a6, a7⟩ := h.2.2.2.2.2.1 v (h2 v hx) e
        refine ⟨?_, fun u' z => by rw [a6] at z; cases z; exact a2⟩
        rw [a6]
        refine (lstN_eq (hP u (h.1 u a2).1) (nxB_t.mpr ⟨c, d, e1, a3, a4, a1, a5⟩) (fun j hj => ?_)).symm
        cases hb : nxB E D v j with
        | false => rfl
        | true =>
          obtain ⟨c', d', e', b1, b2, b3, b4⟩ := nxB_t.mp hb
          rw [a1] at b3
          cases b3
          have := a7 j c' d' b1 b2 b4
          omega
theorem pnG_eq {F F' : Nat → Option Nat} {a g : Nat} (h : ∀ n, sqF F a g n = sqF F' a g n) : ∀ d n, pnG F a g d n = pnG F' a g d n
  | 0, _ => rfl
  | d + 1, n => by rw [pnG, pnG, h n, pnG_eq h d (n + 1)]
/-- how many frames the walk tells -/
def wpN (E : Nat → Nat → Option Nat) (D : Nat → Option Nat) (a g : Nat) : Nat := match D a with
  | none => 0
  | some _ => pnG (nxD E D) a g 180 0
abbrev grA (a : Nat) : Prop := a = 24 ∨ (29 ≤ a ∧ a < 34)

set_option maxRecDepth 100000 in
theorem c_X3_findWalk (nb : Nat) (q : Cp) (jn a g : Nat) (D : Nat → Option Nat) (w : Wd) (h : CpX nb q w) (hj : wI w 24 0 = nI jn) (hjn : jn ≤ 100) (ha : pP q a) (hg : pP q g) (hb : BE (eg q nb jn) g D) : Cc yX3_findWalk mX3_findWalk [.ref 24, .ref 22, .int (nI a), .int (nI g)] w (fun r w' => r = none ∧ Keep grA w w' ∧ wI w' 24 0 = wI w 24 0 ∧ wI w' 24 1 = oI (D a) ∧ RPt (wpN (eg q nb jn) D a g) (sqF (nxD (eg q nb jn) D) a g) (wI w')) := by
  refine Cc.of (by decide) rfl rfl (Nat.le_of_ble_eq_true rfl) (fun X => ?_)
  change V _ X _ 0 [(0, _), (1, _), (2, _), (3, _)] [] _ (0, 0)
  have cnt0 : ∀ m, cntF (fun _ => false) m = 0 := fun m => by
    induction m with
    | zero => rfl
    | succ m ih => rw [cntF, ih]; rfl
  have exitS : ∀ (n : Nat) (w1 : Wd) (S : Nat → Bool) (C F : Nat → Option Nat), n ≤ 180 → FI q nb jn g D w S C F n w1 → S a = true → V mX3_findWalk X (mq mX3_findWalk X (fun r w' => r = none ∧ Keep grA w w' ∧ wI w' 24 0 = wI w 24 0 ∧ wI w' 24 1 = oI (D a) ∧ RPt (wpN (eg q nb jn) D a g) (sqF (nxD (eg q nb jn) D) a g) (wI w'))) 63 [(0, .ref 24), (2, .int (nI a)), (3, .int (nI g))] [] w1 (0, 0) := by
    intro n w1 S C F hn f hS
    have lx : LayX w1 := h.1.keep f.1
    obtain ⟨d, hD⟩ := (f.2.2.2.1.1 a hS).2.2
    first | refine V_aload_n dX3_findWalk_63 rfl rfl ?_ | refine V_aload_nN dX3_findWalk_63 rfl rfl ?_
    first | refine V_aload_n dX3_findWalk_64 rfl rfl ?_ | refine V_aload_nN dX3_findWalk_64 rfl rfl ?_
    first | refine V_getr (by exact lx.k _ rfl rfl) fX3_31 dX3_findWalk_65 (by exact lx.r _ _ rfl) ?_ | refine V_getrN (by exact lx.k _ rfl rfl) fX3_31 dX3_findWalk_65 (by exact lx.r _ _ rfl) ?_
    refine V_iload_n dX3_findWalk_68 rfl rfl ?_
    refine G_zald (j := a) (by exact lx.k _ rfl rfl) (by rfl) (by exact Nat.lt_of_lt_of_eq (show a < 180 by exact ha.1) (lx.n 33 rfl rfl).symm) (by first | exact Nat.lt_of_le_of_lt (Nat.le_of_eq (lx.n 29 rfl rfl)) (by decide) | exact Nat.lt_of_le_of_lt (Nat.le_of_eq (lx.n 30 rfl rfl)) (by decide) | exact Nat.lt_of_le_of_lt (Nat.le_of_eq (lx.n 31 rfl rfl)) (by decide) | exact Nat.lt_of_le_of_lt (Nat.le_of_eq (lx.n 32 rfl rfl)) (by decide) | exact Nat.lt_of_le_of_lt (Nat.le_of_eq (lx.n 33 rfl rfl)) (by decide)) dX3_findWalk_69 (by exact (f.2.2.1.2.2 a ha.1).1.trans (congrArg bI hS)) ?_
    refine V_if_eq (tgt := 82) dX3_findWalk_70 (by decide) (fun c70 => False.elim (by exact absurd c70 (by decide))) (fun c70 => ?_)
    first | refine V_aload_n dX3_findWalk_73 rfl rfl ?_ | refine V_aload_nN dX3_findWalk_73 rfl rfl ?_
    first | refine V_getr (by exact lx.k _ rfl rfl) fX3_25 dX3_findWalk_74 (by exact lx.r _ _ rfl) ?_ | refine V_getrN (by exact lx.k _ rfl rfl) fX3_25 dX3_findWalk_74 (by exact lx.r _ _ rfl) ?_
    refine V_iload_n dX3_findWalk_77 rfl rfl ?_
    refine G_iald (j := a) (by exact lx.k _ rfl rfl) (by rfl) (by exact Nat.lt_of_lt_of_eq (show a < 180 by exact ha.1) (lx.n 31 rfl rfl).symm) (by first | exact Nat.lt_of_le_of_lt (Nat.le_of_eq (lx.n 29 rfl rfl)) (by decide) | exact Nat.lt_of_le_of_lt (Nat.le_of_eq (lx.n 30 rfl rfl)) (by decide) | exact Nat.lt_of_le_of_lt (Nat.le_of_eq (lx.n 31 rfl rfl)) (by decide) | exact Nat.lt_of_le_of_lt (Nat.le_of_eq (lx.n 32 rfl rfl)) (by decide) | exact Nat.lt_of_le_of_lt (Nat.le_of_eq (lx.n 33 rfl rfl)) (by decide)) dX3_findWalk_78 (by exact (f.2.2.1.2.2 a ha.1).2.1.trans (congrArg cI ((f.2.2.2.1.1 a hS).2.1.trans hD))) ?_
    refine V_goto (tgt := 83) dX3_findWalk_79 (by decide) ?_
    refine V_puti (by exact lx.k _ rfl rfl) pfX3_15 (fun h => nomatch h) dX3_findWalk_83 ⟨rfl, rfl⟩ ?_
    have hx1 : ¬ wI (sI w1 24 1 (nI d)) 24 1 = -1 := fun z => by
      have z2 := congrArg Int32.toInt (rdI_eq.symm.trans z)
      rw [nI_toInt (by have := f.2.2.2.2.2.1 a d ((f.2.2.2.1.1 a hS).2.1.trans hD); omega), show (-1 : Int32).toInt = -1 from rfl] at z2
      omega
    first | refine V_aload_n dX3_findWalk_86 rfl rfl ?_ | refine V_aload_nN dX3_findWalk_86 rfl rfl ?_
    refine V_iload_n dX3_findWalk_87 rfl rfl ?_
    refine V_iload_n dX3_findWalk_88 rfl rfl ?_
    refine V_callVvr (As := [_, _]) (st := _) (c_X3_keepPath_s F a g _ lx hx1 ha.1 hg.1 (fun v hv => (rdI_nn (by decide)).trans (f.2.2.1.2.2 v hv).2.2) f.2.2.2.2.2.2) kX3_67 (by exact lx.k _ rfl rfl) ⟨rfl, rfl, rfl⟩ ⟨(Nat.le_of_ble_eq_true rfl), (Nat.le_of_ble_eq_true rfl)⟩ dX3_findWalk_89 rfl rfl (Nat.le_of_ble_eq_true rfl) ⟨(Nat.le_of_ble_eq_true rfl), (Nat.le_of_ble_eq_true rfl)⟩ (fun w2 hw2 => ?_)
    obtain ⟨p1, p2, p3⟩ := hw2
    refine V_vret rfl dX3_findWalk_92 (Nat.le_of_ble_eq_true rfl) (Nat.le_of_ble_eq_true rfl) ?_
    have hq := sqF_eq f.2.2.2.1 (fun s z => z.1) hS
    refine ⟨rfl, ((f.1.mono (fun a => by unfold grS grA; omega)).trans (Keep.sI w1 (by unfold grA; omega) 1 _)).trans (p1.mono (fun a => by unfold ptA grA; omega)), ?_, ?_, ?_⟩
    · rw [p2 0 (by decide), rdI_ne (by decide)]; exact f.2.1 0 (by decide)
    · rw [p2 1 (by decide), rdI_eq, hD]; rfl
    · unfold wpN
      rw [hD]
      simp only
      rw [← pnG_eq (fun n => (hq n).1)]
      exact ⟨p3.1, p3.2.1, fun n v hn hv => p3.2.2 n v hn (by rw [(hq n).1]; exact hv)⟩
  have exitN : ∀ (n : Nat) (w1 : Wd) (S : Nat → Bool) (C F : Nat → Option Nat), n ≤ 180 → FI q nb jn g D w S C F n w1 → S a = false → D a = none → V mX3_findWalk X (mq mX3_findWalk X (fun r w' => r = none ∧ Keep grA w w' ∧ wI w' 24 0 = wI w 24 0 ∧ wI w' 24 1 = oI (D a) ∧ RPt (wpN (eg q nb jn) D a g) (sqF (nxD (eg q nb jn) D) a g) (wI w'))) 63 [(0, .ref 24), (2, .int (nI a)), (3, .int (nI g))] [] w1 (0, 0) := by
    intro n w1 S C F hn f hS hD
    have lx : LayX w1 := h.1.keep f.1
    first | refine V_aload_n dX3_findWalk_63 rfl rfl ?_ | refine V_aload_nN dX3_findWalk_63 rfl rfl ?_
    first | refine V_aload_n dX3_findWalk_64 rfl rfl ?_ | refine V_aload_nN dX3_findWalk_64 rfl rfl ?_
    first | refine V_getr (by exact lx.k _ rfl rfl) fX3_31 dX3_findWalk_65 (by exact lx.r _ _ rfl) ?_ | refine V_getrN (by exact lx.k _ rfl rfl) fX3_31 dX3_findWalk_65 (by exact lx.r _ _ rfl) ?_
    refine V_iload_n dX3_findWalk_68 rfl rfl ?_
    refine G_zald (j := a) (by exact lx.k _ rfl rfl) (by rfl) (by exact Nat.lt_of_lt_of_eq (show a < 180 by exact ha.1) (lx.n 33 rfl rfl).symm) (by first | exact Nat.lt_of_le_of_lt (Nat.le_of_eq (lx.n 29 rfl rfl)) (by decide) | exact Nat.lt_of_le_of_lt (Nat.le_of_eq (lx.n 30 rfl rfl)) (by decide) | exact Nat.lt_of_le_of_lt (Nat.le_of_eq (lx.n 31 rfl rfl)) (by decide) | exact Nat.lt_of_le_of_lt (Nat.le_of_eq (lx.n 32 rfl rfl)) (by decide) | exact Nat.lt_of_le_of_lt (Nat.le_of_eq (lx.n 33 rfl rfl)) (by decide)) dX3_findWalk_69 (by exact (f.2.2.1.2.2 a ha.1).1.trans (congrArg bI hS)) ?_
    refine V_if_eq (tgt := 82) dX3_findWalk_70 (by decide) (fun c70 => ?_) (fun c70 => False.elim (by exact c70 rfl))
    refine V_iconst (v := -1) dX3_findWalk_82 (by decide) ?_
    refine V_puti (by exact lx.k _ rfl rfl) pfX3_15 (fun h => nomatch h) dX3_findWalk_83 ⟨rfl, rfl⟩ ?_
    first | refine V_aload_n dX3_findWalk_86 rfl rfl ?_ | refine V_aload_nN dX3_findWalk_86 rfl rfl ?_
    refine V_iload_n dX3_findWalk_87 rfl rfl ?_
    refine V_iload_n dX3_findWalk_88 rfl rfl ?_
    refine V_callVv (As := [_, _]) (st := _) (c_X3_keepPath_n a g _ lx rdI_eq) kX3_67 (by exact lx.k _ rfl rfl) ⟨rfl, rfl, rfl⟩ ⟨(Nat.le_of_ble_eq_true rfl), (Nat.le_of_ble_eq_true rfl)⟩ dX3_findWalk_89 rfl rfl (Nat.le_of_ble_eq_true rfl) ⟨(Nat.le_of_ble_eq_true rfl), (Nat.le_of_ble_eq_true rfl)⟩ ?_
    refine V_vret rfl dX3_findWalk_92 (Nat.le_of_ble_eq_true rfl) (Nat.le_of_ble_eq_true rfl) ?_
    refine ⟨rfl, (f.1.mono (fun a => by unfold grS grA; omega)).trans ((Keep.sI w1 (by unfold grA; omega) 1 _).trans (Keep.sI _ (by unfold grA; omega) 3 _)), ?_, ?_, ?_⟩
    · rw [rdI_ne (by decide), rdI_ne (by decide)]; exact f.2.1 0 (by decide)
    · rw [rdI_ne (by decide), rdI_eq, hD]; rfl
    · unfold wpN
      rw [hD]
      exact ⟨rdI_eq, Nat.zero_le _, fun n v hn => absurd hn (Nat.not_lt_zero _)⟩
  have loop : ∀ (k n : Nat) (S : Nat → Bool) (C F : Nat → Option Nat) (w1 : Wd), n + k = 181 → FI q nb jn g D w S C F n w1 → V mX3_findWalk X (mq mX3_findWalk X (fun r w' => r = none ∧ Keep grA w w' ∧ wI w' 24 0 = wI w 24 0 ∧ wI w' 24 1 = oI (D a) ∧ RPt (wpN (eg q nb jn) D a g) (sqF (nxD (eg q nb jn) D) a g) (wI w'))) 9 [(0, .ref 24), (1, .ref 22), (2, .int (nI a)), (3, .int (nI g)), (4, .int (nI n))] [] w1 (0, 0) := by
    intro k
    induction k with
    | zero =>
      intro n S C F w1 hk f
      exfalso
      have := cntF_le S 180
      rw [f.2.2.2.2.1] at this
      omega
    | succ k ih =>
      intro n S C F w1 hk f
      have lx : LayX w1 := h.1.keep f.1
      have hn : n ≤ 180 := by omega
      have go : ∀ o, bestN q S C (prL q).length o → ¬ nI (prL q).length ≤ nI n → S a = false → V mX3_findWalk X (mq mX3_findWalk X (fun r w' => r = none ∧ Keep grA w w' ∧ wI w' 24 0 = wI w 24 0 ∧ wI w' 24 1 = oI (D a) ∧ RPt (wpN (eg q nb jn) D a g) (sqF (nxD (eg q nb jn) D) a g) (wI w'))) 31 [(0, .ref 24), (1, .ref 22), (2, .int (nI a)), (3, .int (nI g)), (4, .int (nI n))] [.int (oI o)] w1 (0, 0) := by
        intro o hbest c15 hS
        cases o with
        | none =>
          refine S_istore (L' := [(0, _), (1, _), (2, _), (3, _), (4, _), (5, _)]) dX3_findWalk_31 rfl rfl ?_
          refine V_iload dX3_findWalk_33 rfl ?_
          refine V_iconst (v := -1) dX3_findWalk_35 (by decide) ?_
          refine V_icmp_ne (tgt := 42) dX3_findWalk_36 (by decide) (fun c36 => False.elim (by exact c36 rfl)) (fun c36 => ?_)
          refine V_goto (tgt := 63) dX3_findWalk_39 (by decide) ?_
          refine V_sub (L' := [(0, .ref 24), (2, .int (nI a)), (3, .int (nI g))]) rfl ?_
          exact exitN n w1 S C F hn f hS (f.2.2.2.1.nothing hb (eg_P hjn) hg (fun s hp hs => by obtain ⟨m, hm⟩ := List.getElem?_of_mem (prL_mem.mpr hp); exact hbest.1 rfl m s (List.getElem?_eq_some_iff.mp hm).1 hm hs) ha hS)
        | some v =>
          obtain ⟨hvm, hSv, d, hCv, hmin0⟩ := hbest.2 v rfl
          have hv : pP q v := prL_mem.mp hvm
          have hmin : ∀ s e, pP q s → S s = false → C s = some e → d ≤ e := fun s e hp hs he => by
            obtain ⟨m, hm⟩ := List.getElem?_of_mem (prL_mem.mpr hp)
            exact hmin0 m s e (List.getElem?_eq_some_iff.mp hm).1 hm hs he
          change V _ _ _ 31 _ [.int (nI v)] _ _
          refine S_istore (L' := [(0, _), (1, _), (2, _), (3, _), (4, _), (5, _)]) dX3_findWalk_31 rfl rfl ?_
          refine V_iload dX3_findWalk_33 rfl ?_
          refine V_iconst (v := -1) dX3_findWalk_35 (by decide) ?_
          refine V_icmp_ne (tgt := 42) dX3_findWalk_36 (by decide) (fun c36 => ?_) (fun c36 => False.elim (by exact absurd (oI_m1 (o := some v) (fun m e => by cases e; omega) c36) (by simp)))
          first | refine V_aload_n dX3_findWalk_42 rfl rfl ?_ | refine V_aload_nN dX3_findWalk_42 rfl rfl ?_
          first | refine V_getr (by exact lx.k _ rfl rfl) fX3_31 dX3_findWalk_43 (by exact lx.r _ _ rfl) ?_ | refine V_getrN (by exact lx.k _ rfl rfl) fX3_31 dX3_findWalk_43 (by exact lx.r _ _ rfl) ?_
          refine V_iload dX3_findWalk_46 rfl ?_
          refine V_iconst (v := 1) dX3_findWalk_48 (by decide) ?_
          refine G_zast (j := v) (by exact lx.k _ rfl rfl) (by rfl) (by exact Nat.lt_of_lt_of_eq (show v < 180 by exact hv.1) (lx.n 33 rfl rfl).symm) (by first | exact Nat.lt_of_le_of_lt (Nat.le_of_eq (lx.n 29 rfl rfl)) (by decide) | exact Nat.lt_of_le_of_lt (Nat.le_of_eq (lx.n 30 rfl rfl)) (by decide) | exact Nat.lt_of_le_of_lt (Nat.le_of_eq (lx.n 31 rfl rfl)) (by decide) | exact Nat.lt_of_le_of_lt (Nat.le_of_eq (lx.n 32 rfl rfl)) (by decide) | exact Nat.lt_of_le_of_lt (Nat.le_of_eq (lx.n 33 rfl rfl)) (by decide)) rfl dX3_findWalk_49 ?_
          first | refine V_aload_n dX3_findWalk_50 rfl rfl ?_ | refine V_aload_nN dX3_findWalk_50 rfl rfl ?_
          first | refine V_aload_n dX3_findWalk_51 rfl rfl ?_ | refine V_aload_nN dX3_findWalk_51 rfl rfl ?_
          refine V_iload dX3_findWalk_52 rfl ?_
          refine V_callVvr (As := [_, _]) (st := _) (c_X3_reachFrom nb q jn (setB S v) C F v d _ (h.keep (f.1.trans (Keep.sI w1 (by unfold grS; omega) _ _)) (fun a => by unfold grS cpA; omega)) ((rdI_nn (by decide)).trans ((f.2.1 0 (by decide)).trans hj)) hjn (f.2.2.1.set v) hv.1 (of_decide_eq_true hv.2) (if_pos rfl) hCv (by have := f.2.2.2.2.2.1 v d hCv; omega) (fun s e z => by have := f.2.2.2.2.2.1 s e z; omega) f.2.2.2.2.2.2) kX3_64 (by exact lx.k _ rfl rfl) ⟨rfl, rfl, rfl⟩ ⟨(Nat.le_of_ble_eq_true rfl), (Nat.le_of_ble_eq_true rfl)⟩ dX3_findWalk_54 rfl rfl (Nat.le_of_ble_eq_true rfl) ⟨(Nat.le_of_ble_eq_true rfl), (Nat.le_of_ble_eq_true rfl)⟩ (fun w3 hw3 => ?_)
          obtain ⟨k1, k2⟩ := hw3
          refine S_iinc (L' := [(0, _), (1, _), (2, _), (3, _), (4, _)]) dX3_findWalk_57 rfl rfl rfl rfl ?_
          rw [nI_inc]
          refine V_goto (tgt := 9) dX3_findWalk_60 (by decide) ?_
          exact ih (n + 1) _ _ _ w3 (by omega) (f.step hjn hb hg hv hSv hCv hmin k1 k2)
      refine V_iload dX3_findWalk_9 rfl ?_
      first | refine V_aload_n dX3_findWalk_11 rfl rfl ?_ | refine V_aload_nN dX3_findWalk_11 rfl rfl ?_
      refine G_geti (by exact lx.k _ rfl rfl) fX3_57 dX3_findWalk_12 (by exact f.2.2.1.1) ?_
      refine V_icmp_ge (tgt := 63) dX3_findWalk_15 (by decide) (fun c15 => ?_) (fun c15 => ?_)
      · refine V_sub (L' := [(0, .ref 24), (2, .int (nI a)), (3, .int (nI g))]) rfl ?_
        first | exact exitS n w1 S C F hn f (bI_1 c24) | exact exitS n w1 S C F hn f (f.all ha ((nI_leI (by have := prI_len q 180; unfold prL at *; omega) (by omega)).mp c15))
      · first | refine V_aload_n dX3_findWalk_18 rfl rfl ?_ | refine V_aload_nN dX3_findWalk_18 rfl rfl ?_
        first | refine V_getr (by exact lx.k _ rfl rfl) fX3_31 dX3_findWalk_19 (by exact lx.r _ _ rfl) ?_ | refine V_getrN (by exact lx.k _ rfl rfl) fX3_31 dX3_findWalk_19 (by exact lx.r _ _ rfl) ?_
        refine V_iload_n dX3_findWalk_22 rfl rfl ?_
        refine G_zald (j := a) (by exact lx.k _ rfl rfl) (by rfl) (by exact Nat.lt_of_lt_of_eq (show a < 180 by exact ha.1) (lx.n 33 rfl rfl).symm) (by first | exact Nat.lt_of_le_of_lt (Nat.le_of_eq (lx.n 29 rfl rfl)) (by decide) | exact Nat.lt_of_le_of_lt (Nat.le_of_eq (lx.n 30 rfl rfl)) (by decide) | exact Nat.lt_of_le_of_lt (Nat.le_of_eq (lx.n 31 rfl rfl)) (by decide) | exact Nat.lt_of_le_of_lt (Nat.le_of_eq (lx.n 32 rfl rfl)) (by decide) | exact Nat.lt_of_le_of_lt (Nat.le_of_eq (lx.n 33 rfl rfl)) (by decide)) dX3_findWalk_23 (by exact (f.2.2.1.2.2 a ha.1).1) ?_
        refine V_if_ne (tgt := 63) dX3_findWalk_24 (by decide) (fun c24 => ?_) (fun c24 => ?_)
        · refine V_sub (L' := [(0, .ref 24), (2, .int (nI a)), (3, .int (nI g))]) rfl ?_
          first | exact exitS n w1 S C F hn f (bI_1 c24) | exact exitS n w1 S C F hn f (f.all ha ((nI_leI (by have := prI_len q 180; unfold prL at *; omega) (by omega)).mp c15))
        · first | refine V_aload_n dX3_findWalk_27 rfl rfl ?_ | refine V_aload_nN dX3_findWalk_27 rfl rfl ?_
          refine V_callVr (As := []) (st := _) (c_X3_nearestOpen q S C F w1 lx f.2.2.1 (fun s e z => by have := f.2.2.2.2.2.1 s e z; omega)) kX3_60 (by exact lx.k _ rfl rfl) ⟨rfl, rfl, rfl⟩ ⟨(Nat.le_of_ble_eq_true rfl), (Nat.le_of_ble_eq_true rfl)⟩ dX3_findWalk_28 rfl rfl (Nat.le_of_ble_eq_true rfl) ⟨(Nat.le_of_ble_eq_true rfl), (Nat.le_of_ble_eq_true rfl)⟩ (fun v w2 hv => ?_)
          obtain ⟨e9, o, rfl, hbest⟩ := hv
          rw [e9]
          exact go o hbest c15 (bI_0 c24)
  first | refine V_aload_n dX3_findWalk_0 rfl rfl ?_ | refine V_aload_nN dX3_findWalk_0 rfl rfl ?_
  first | refine V_aload_n dX3_findWalk_1 rfl rfl ?_ | refine V_aload_nN dX3_findWalk_1 rfl rfl ?_
  refine V_iload_n dX3_findWalk_2 rfl rfl ?_
  refine V_callVvr (As := [_, _]) (st := _) (c_X3_begin nb q g w h hg.1) kX3_53 (by exact h.1.k _ rfl rfl) ⟨rfl, rfl, rfl⟩ ⟨(Nat.le_of_ble_eq_true rfl), (Nat.le_of_ble_eq_true rfl)⟩ dX3_findWalk_3 rfl rfl (Nat.le_of_ble_eq_true rfl) ⟨(Nat.le_of_ble_eq_true rfl), (Nat.le_of_ble_eq_true rfl)⟩ (fun w1 hw1 => ?_)
  obtain ⟨b1, b2, b3⟩ := hw1
  refine V_iconst (v := 0) dX3_findWalk_6 (by decide) ?_
  refine S_istore (L' := [(0, _), (1, _), (2, _), (3, _), (4, _)]) dX3_findWalk_7 rfl rfl ?_
  exact loop 181 0 _ _ _ w1 rfl ⟨b1, b2, b3, DI.init hb, cnt0 180, fun s e z => (by split at z; (cases z; omega); cases z), fun s f z => (by cases z)⟩
