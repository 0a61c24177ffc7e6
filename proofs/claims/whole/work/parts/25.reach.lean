/-! Graph: reachFrom, keepPath -/
/-- whether the way over u is better -/
def btB (d c u : Nat) (Cs Fs : Option Nat) : Bool := match Cs with
  | none => true
  | some e => decide (d + c < e) || (decide (e = d + c) && (match Fs with
    | none => false
    | some f => decide (u < f)))
def rlB (q : Cp) (nb jn : Nat) (S : Nat → Bool) (C F : Nat → Option Nat) (u d s : Nat) : Option Nat := match wcN q nb jn s u with
  | none => none
  | some c => if S s = false ∧ btB d c u (C s) (F s) = true then some (d + c) else none
/-- costs and followers when the ways to u are known -/
def rC (q : Cp) (nb jn : Nat) (S : Nat → Bool) (C F : Nat → Option Nat) (u d s : Nat) : Option Nat := match rlB q nb jn S C F u d s with
  | none => C s
  | some e => some e
def rF (q : Cp) (nb jn : Nat) (S : Nat → Bool) (C F : Nat → Option Nat) (u d s : Nat) : Option Nat := match rlB q nb jn S C F u d s with
  | none => F s
  | some _ => some u
def dnI (q : Cp) (n s : Nat) : Prop := ∃ m, m < n ∧ (prL q)[m]? = some s
theorem dnI_s {q : Cp} {n s t : Nat} (hs : (prL q)[n]? = some s) : dnI q (n + 1) t ↔ dnI q n t ∨ t = s := by
  constructor
  · intro h
    obtain ⟨m, h1, h2⟩ := h
    by_cases e : m = n
    · subst e; rw [hs] at h2; cases h2; exact Or.inr rfl
    · exact Or.inl ⟨m, by omega, h2⟩
  · intro h
    rcases h with ⟨m, h1, h2⟩ | h
    · exact ⟨m, by omega, h2⟩
    · subst h; exact ⟨n, by omega, hs⟩
theorem dnI_not {q : Cp} {n s : Nat} (hs : (prL q)[n]? = some s) : ¬ dnI q n s := fun h => by
  obtain ⟨m, h1, h2⟩ := h
  have := (List.getElem?_inj (List.getElem?_eq_some_iff.mp h2).1 (prL_nodup q)).mp (h2.trans hs.symm)
  omega
def RIn (q : Cp) (C F C' F' : Nat → Option Nat) (n : Nat) (I : Nat → Nat → Int32) : Prop := ∀ s, s < 180 → (dnI q n s → I 31 s = cI (C' s) ∧ I 32 s = oI (F' s)) ∧ (¬ dnI q n s → I 31 s = cI (C s) ∧ I 32 s = oI (F s))
theorem RIn.skip {q : Cp} {C F C' F' : Nat → Option Nat} {n s : Nat} {I : Nat → Nat → Int32} (h : RIn q C F C' F' n I) (hs : (prL q)[n]? = some s) (h1 : C' s = C s) (h2 : F' s = F s) : RIn q C F C' F' (n + 1) I := fun t ht => by
  obtain ⟨g1, g2⟩ := h t ht
  refine ⟨fun hd => ?_, fun hd => g2 (fun z => hd ((dnI_s hs).mpr (Or.inl z)))⟩
  rcases (dnI_s hs).mp hd with z | z
  · exact g1 z
  · subst z
    rw [h1, h2]
    exact g2 (dnI_not hs)
theorem RIn.upd {q : Cp} {C F C' F' : Nat → Option Nat} {n s e u : Nat} {w : Wd} (h : RIn q C F C' F' n (wI w)) (hs : (prL q)[n]? = some s) (h1 : C' s = some e) (h2 : F' s = some u) : RIn q C F C' F' (n + 1) (wI (sI (sI w 31 s (nI e)) 32 s (nI u))) := fun t ht => by
  obtain ⟨g1, g2⟩ := h t ht
  have e31 : wI (sI (sI w 31 s (nI e)) 32 s (nI u)) 31 t = if t = s then nI e else wI w 31 t := by
    rw [rdI_nn (by decide)]
    by_cases z : t = s
    · subst z; rw [rdI_eq, if_pos rfl]
    · rw [rdI_ne z, if_neg z]
  have e32 : wI (sI (sI w 31 s (nI e)) 32 s (nI u)) 32 t = if t = s then nI u else wI w 32 t := by
    by_cases z : t = s
    · subst z; rw [rdI_eq, if_pos rfl]
    · rw [rdI_ne z, rdI_nn (by decide), if_neg z]
  rw [e31, e32]
  by_cases z : t = s
  · subst z
    rw [if_pos rfl, if_pos rfl, h1, h2]
    exact ⟨fun _ => ⟨rfl, rfl⟩, fun hd => absurd ((dnI_s hs).mpr (Or.inr rfl)) hd⟩
  · rw [if_neg z, if_neg z]
    exact ⟨fun hd => g1 (((dnI_s hs).mp hd).resolve_right z), fun hd => g2 (fun y => hd ((dnI_s hs).mpr (Or.inl y)))⟩
theorem rl_set {q : Cp} {nb jn : Nat} {S : Nat → Bool} {C F : Nat → Option Nat} {u d s : Nat} (h : S s = true) : rlB q nb jn S C F u d s = none := by
  unfold rlB
  cases wcN q nb jn s u with
  | none => rfl
  | some c => simp only [h]; rfl
theorem rl_no {q : Cp} {nb jn : Nat} {S : Nat → Bool} {C F : Nat → Option Nat} {u d s : Nat} (h : wcN q nb jn s u = none) : rlB q nb jn S C F u d s = none := by unfold rlB; rw [h]
theorem rl_up {q : Cp} {nb jn : Nat} {S : Nat → Bool} {C F : Nat → Option Nat} {u d s c : Nat} (h : wcN q nb jn s u = some c) (h1 : S s = false) (h2 : btB d c u (C s) (F s) = true) : rlB q nb jn S C F u d s = some (d + c) := by unfold rlB; rw [h]; simp only [h1, h2]; rfl
theorem rl_nb {q : Cp} {nb jn : Nat} {S : Nat → Bool} {C F : Nat → Option Nat} {u d s c : Nat} (h : wcN q nb jn s u = some c) (h2 : btB d c u (C s) (F s) = false) : rlB q nb jn S C F u d s = none := by unfold rlB; rw [h]; simp only [h2]; simp
theorem rC_n {q : Cp} {nb jn : Nat} {S : Nat → Bool} {C F : Nat → Option Nat} {u d s : Nat} (h : rlB q nb jn S C F u d s = none) : rC q nb jn S C F u d s = C s ∧ rF q nb jn S C F u d s = F s := by unfold rC rF; rw [h]; exact ⟨rfl, rfl⟩
theorem rC_s {q : Cp} {nb jn : Nat} {S : Nat → Bool} {C F : Nat → Option Nat} {u d s e : Nat} (h : rlB q nb jn S C F u d s = some e) : rC q nb jn S C F u d s = some e ∧ rF q nb jn S C F u d s = some u := by unfold rC rF; rw [h]; exact ⟨rfl, rfl⟩
theorem bt_lt {d c u : Nat} {Cs Fs : Option Nat} (hd : d + c < 2147483647) (hC : ∀ e, Cs = some e → e < 2147483647) (h : nI (d + c) < cI Cs) : btB d c u Cs Fs = true := by
  cases Cs with
  | none => rfl
  | some e =>
    have := hC e rfl
    rw [show cI (some e) = nI e from rfl, nI_ltI (by omega) (by omega)] at h
    unfold btB
    simp [h]
theorem bt_ne {d c u : Nat} {Cs Fs : Option Nat} (hd : d + c < 2147483647) (hC : ∀ e, Cs = some e → e < 2147483647) (h : ¬ nI (d + c) < cI Cs) (h2 : ¬ nI (d + c) = cI Cs) : btB d c u Cs Fs = false := by
  cases Cs with
  | none => exact absurd ((cI_lt (a := some (d + c)) (fun e z => by cases z; exact hd) hC).mpr ⟨d + c, rfl, fun e z => by cases z⟩) h
  | some e =>
    have := hC e rfl
    rw [show cI (some e) = nI e from rfl, nI_ltI (by omega) (by omega)] at h
    rw [show cI (some e) = nI e from rfl, nI_eq (by omega) (by omega)] at h2
    unfold btB
    have h3 : ¬ e = d + c := fun z => h2 z.symm
    simp [h, h3]
theorem bt_eq {d c u : Nat} {Cs Fs : Option Nat} (hd : d + c < 2147483647) (hC : ∀ e, Cs = some e → e < 2147483647) (hF : ∀ f, Fs = some f → f < 180) (hu : u < 180) (h : ¬ nI (d + c) < cI Cs) (h2 : nI (d + c) = cI Cs) : btB d c u Cs Fs = true ↔ ¬ oI Fs ≤ nI u := by
  cases Cs with
  | none => exact absurd ((cI_lt (a := some (d + c)) (fun e z => by cases z; exact hd) hC).mpr ⟨d + c, rfl, fun e z => by cases z⟩) h
  | some e =>
    have := hC e rfl
    rw [show cI (some e) = nI e from rfl, nI_ltI (by omega) (by omega)] at h
    rw [show cI (some e) = nI e from rfl, nI_eq (by omega) (by omega)] at h2
    unfold btB
    subst h2
    cases Fs with
    | none =>
      simp
      rw [Int32.le_iff_toInt_le, nI_toInt (by omega)]
      show (-1 : Int) ≤ _
      omega
    | some f =>
      have := hF f rfl
      rw [show oI (some f) = nI f from rfl, nI_leI (by omega) (by omega)]
      simp
theorem wcN_lt {q : Cp} {nb jn a b c : Nat} (hj : jn ≤ 100) (h : wcN q nb jn a b = some c) : 1 ≤ c ∧ c ≤ 102 := by
  unfold wcN at h
  split at h
  · cases h; omega
  · split at h
    · cases h; omega
    · cases h
theorem oI_m1 {o : Option Nat} (hb : ∀ n, o = some n → n < 2147483648) (h : oI o = -1) : o = none := by
  cases o with
  | none => rfl
  | some n =>
    have h2 := congrArg Int32.toInt h
    rw [show (oI (some n)).toInt = (n : Int) from nI_toInt (hb n rfl), show (-1 : Int32).toInt = -1 from rfl] at h2
    omega

abbrev ctA (a : Nat) : Prop := a = 31 ∨ a = 32

set_option maxRecDepth 100000 in
theorem c_X3_reachFrom (nb : Nat) (q : Cp) (jn : Nat) (S : Nat → Bool) (C F : Nat → Option Nat) (u d : Nat) (w : Wd) (h : CpX nb q w) (hj : wI w 24 0 = nI jn) (hjn : jn ≤ 100) (gx : GX q S C F w) (hu : u < 180) (hpu : u % 30 < q.1 (u / 30)) (hSu : S u = true) (hCu : C u = some d) (hd : d < 1000000) (hC : ∀ s e, C s = some e → e < 2147483647) (hF : ∀ s f, F s = some f → f < 180) : Cc yX3_reachFrom mX3_reachFrom [.ref 24, .ref 22, .int (nI u)] w (fun r w' => r = none ∧ Keep ctA w w' ∧ GX q S (fun s => if pN q s = true then rC q nb jn S C F u d s else C s) (fun s => if pN q s = true then rF q nb jn S C F u d s else F s) w') := by
  refine Cc.of (by decide) rfl rfl (Nat.le_of_ble_eq_true rfl) (fun X => ?_)
  change V _ X _ 0 [(0, _), (1, _), (2, _)] [] _ (0, 0)
  have loop : ∀ (k n : Nat) (w1 : Wd), n + k = (prL q).length → Keep ctA w w1 → RIn q C F (rC q nb jn S C F u d) (rF q nb jn S C F u d) n (wI w1) → V mX3_reachFrom X (mq mX3_reachFrom X (fun r w' => r = none ∧ Keep ctA w w' ∧ GX q S (fun s => if pN q s = true then rC q nb jn S C F u d s else C s) (fun s => if pN q s = true then rF q nb jn S C F u d s else F s) w')) 2 [(0, .ref 24), (1, .ref 22), (2, .int (nI u)), (3, .int (nI n))] [] w1 (0, 0) := by
    intro k
    induction k with
    | zero =>
      intro n w1 hk g1 g2
      have lx : LayX w1 := h.1.keep g1
      refine V_iload_n dX3_reachFrom_2 rfl rfl ?_
      first | refine V_aload_n dX3_reachFrom_3 rfl rfl ?_ | refine V_aload_nN dX3_reachFrom_3 rfl rfl ?_
      refine G_geti (by exact lx.k _ rfl rfl) fX3_57 dX3_reachFrom_4 (by exact (congrFun (g1.I (a := 24) (by unfold ctA; omega)) 5).trans gx.1) ?_
      refine V_icmp_ge (tgt := 117) dX3_reachFrom_7 (by decide) (fun c7 => ?_) (fun c7 => False.elim (by exact c7 (nI_le (by omega) (by have := prI_len q 180; unfold prL at *; omega))))
      refine V_vret rfl dX3_reachFrom_117 (Nat.le_of_ble_eq_true rfl) (Nat.le_of_ble_eq_true rfl) ?_
      refine ⟨rfl, g1, (congrFun (g1.I (a := 24) (by unfold ctA; omega)) 5).trans gx.1, fun m s hm => (congrFun (g1.I (a := 30) (by unfold ctA; omega)) m).trans (gx.2.1 m s hm), fun s hs => ⟨(congrFun (g1.I (a := 33) (by unfold ctA; omega)) s).trans (gx.2.2 s hs).1, ?_⟩⟩
      dsimp only
      by_cases hp : pN q s = true
      · rw [if_pos hp, if_pos hp]
        obtain ⟨m, hm⟩ := List.getElem?_of_mem (prL_mem.mpr ⟨hs, hp⟩)
        exact (g2 s hs).1 ⟨m, by have := (List.getElem?_eq_some_iff.mp hm).1; omega, hm⟩
      · rw [if_neg hp, if_neg hp]
        refine (g2 s hs).2 (fun z => ?_)
        obtain ⟨m, -, hm⟩ := z
        exact hp (prL_mem.mp (List.mem_of_getElem? hm)).2
    | succ k ih =>
      intro n w1 hk g1 g2
      have lx : LayX w1 := h.1.keep g1
      obtain ⟨s, hs⟩ : ∃ s, (prL q)[n]? = some s := ⟨_, List.getElem?_eq_getElem (by omega)⟩
      have hm := prL_mem.mp (List.mem_of_getElem? hs)
      have hs180 : s < 180 := hm.1
      have hps : s % 30 < q.1 (s / 30) := of_decide_eq_true hm.2
      have hcu : wI w1 31 u = nI d := by
        have e1 : rC q nb jn S C F u d u = C u := (rC_n (rl_set hSu)).1
        by_cases z : dnI q n u
        · rw [((g2 u hu).1 z).1, e1, hCu]; rfl
        · rw [((g2 u hu).2 z).1, hCu]; rfl
      cases hS : S s with
      | true =>
        refine V_iload_n dX3_reachFrom_2 rfl rfl ?_
        first | refine V_aload_n dX3_reachFrom_3 rfl rfl ?_ | refine V_aload_nN dX3_reachFrom_3 rfl rfl ?_
        refine G_geti (by exact lx.k _ rfl rfl) fX3_57 dX3_reachFrom_4 (by exact (congrFun (g1.I (a := 24) (by unfold ctA; omega)) 5).trans gx.1) ?_
        refine V_icmp_ge (tgt := 117) dX3_reachFrom_7 (by decide) (fun c7 => False.elim (by exact nI_ge (a := n) (b := (prL q).length) (by omega) (by have := prI_len q 180; unfold prL at *; omega) c7)) (fun c7 => ?_)
        first | refine V_aload_n dX3_reachFrom_10 rfl rfl ?_ | refine V_aload_nN dX3_reachFrom_10 rfl rfl ?_
        first | refine V_getr (by exact lx.k _ rfl rfl) fX3_22 dX3_reachFrom_11 (by exact lx.r _ _ rfl) ?_ | refine V_getrN (by exact lx.k _ rfl rfl) fX3_22 dX3_reachFrom_11 (by exact lx.r _ _ rfl) ?_
        refine V_iload_n dX3_reachFrom_14 rfl rfl ?_
        refine G_iald (j := n) (by exact lx.k _ rfl rfl) (by rfl) (by exact Nat.lt_of_lt_of_eq (show n < 180 by have := prI_len q 180; unfold prL at *; omega) (lx.n 30 rfl rfl).symm) (by first | exact Nat.lt_of_le_of_lt (Nat.le_of_eq (lx.n 29 rfl rfl)) (by decide) | exact Nat.lt_of_le_of_lt (Nat.le_of_eq (lx.n 30 rfl rfl)) (by decide) | exact Nat.lt_of_le_of_lt (Nat.le_of_eq (lx.n 31 rfl rfl)) (by decide) | exact Nat.lt_of_le_of_lt (Nat.le_of_eq (lx.n 32 rfl rfl)) (by decide) | exact Nat.lt_of_le_of_lt (Nat.le_of_eq (lx.n 33 rfl rfl)) (by decide)) dX3_reachFrom_15 (by exact (congrFun (g1.I (a := 30) (by unfold ctA; omega)) n).trans (gx.2.1 n s hs)) ?_
        refine S_istore (L' := [(0, _), (1, _), (2, _), (3, _), (4, _)]) dX3_reachFrom_16 rfl rfl ?_
        first | refine V_aload_n dX3_reachFrom_18 rfl rfl ?_ | refine V_aload_nN dX3_reachFrom_18 rfl rfl ?_
        first | refine V_getr (by exact lx.k _ rfl rfl) fX3_31 dX3_reachFrom_19 (by exact lx.r _ _ rfl) ?_ | refine V_getrN (by exact lx.k _ rfl rfl) fX3_31 dX3_reachFrom_19 (by exact lx.r _ _ rfl) ?_
        refine V_iload dX3_reachFrom_22 rfl ?_
        refine G_zald (j := s) (by exact lx.k _ rfl rfl) (by rfl) (by exact Nat.lt_of_lt_of_eq (show s < 180 by exact hs180) (lx.n 33 rfl rfl).symm) (by first | exact Nat.lt_of_le_of_lt (Nat.le_of_eq (lx.n 29 rfl rfl)) (by decide) | exact Nat.lt_of_le_of_lt (Nat.le_of_eq (lx.n 30 rfl rfl)) (by decide) | exact Nat.lt_of_le_of_lt (Nat.le_of_eq (lx.n 31 rfl rfl)) (by decide) | exact Nat.lt_of_le_of_lt (Nat.le_of_eq (lx.n 32 rfl rfl)) (by decide) | exact Nat.lt_of_le_of_lt (Nat.le_of_eq (lx.n 33 rfl rfl)) (by decide)) dX3_reachFrom_24 (by exact (congrFun (g1.I (a := 33) (by unfold ctA; omega)) s).trans (gx.2.2 s hs180).1) ?_
        refine V_if_eq (tgt := 32) dX3_reachFrom_25 (by decide) (fun c25 => False.elim (by exact absurd c25 (by rw [hS]; decide))) (fun c25 => ?_)
        refine V_iconst (v := -1) dX3_reachFrom_28 (by decide) ?_
        refine V_goto (tgt := 40) dX3_reachFrom_29 (by decide) ?_
        refine S_istore (L' := [(0, _), (1, _), (2, _), (3, _), (4, _), (5, _)]) dX3_reachFrom_40 rfl rfl ?_
        refine V_iload dX3_reachFrom_42 rfl ?_
        refine V_iconst (v := -1) dX3_reachFrom_44 (by decide) ?_
        refine V_icmp_eq (tgt := 111) dX3_reachFrom_45 (by decide) (fun c45 => ?_) (fun c45 => False.elim (by exact c45 rfl))
        refine S_iinc (L' := [(0, _), (1, _), (2, _), (3, _)]) dX3_reachFrom_111 rfl rfl rfl rfl ?_
        rw [nI_inc]
        refine V_goto (tgt := 2) dX3_reachFrom_114 (by decide) ?_
        exact ih (n + 1) w1 (by omega) g1 (g2.skip hs (rC_n (rl_set hS)).1 (rC_n (rl_set hS)).2)
      | false =>
        refine V_iload_n dX3_reachFrom_2 rfl rfl ?_
        first | refine V_aload_n dX3_reachFrom_3 rfl rfl ?_ | refine V_aload_nN dX3_reachFrom_3 rfl rfl ?_
        refine G_geti (by exact lx.k _ rfl rfl) fX3_57 dX3_reachFrom_4 (by exact (congrFun (g1.I (a := 24) (by unfold ctA; omega)) 5).trans gx.1) ?_
        refine V_icmp_ge (tgt := 117) dX3_reachFrom_7 (by decide) (fun c7 => False.elim (by exact nI_ge (a := n) (b := (prL q).length) (by omega) (by have := prI_len q 180; unfold prL at *; omega) c7)) (fun c7 => ?_)
        first | refine V_aload_n dX3_reachFrom_10 rfl rfl ?_ | refine V_aload_nN dX3_reachFrom_10 rfl rfl ?_
        first | refine V_getr (by exact lx.k _ rfl rfl) fX3_22 dX3_reachFrom_11 (by exact lx.r _ _ rfl) ?_ | refine V_getrN (by exact lx.k _ rfl rfl) fX3_22 dX3_reachFrom_11 (by exact lx.r _ _ rfl) ?_
        refine V_iload_n dX3_reachFrom_14 rfl rfl ?_
        refine G_iald (j := n) (by exact lx.k _ rfl rfl) (by rfl) (by exact Nat.lt_of_lt_of_eq (show n < 180 by have := prI_len q 180; unfold prL at *; omega) (lx.n 30 rfl rfl).symm) (by first | exact Nat.lt_of_le_of_lt (Nat.le_of_eq (lx.n 29 rfl rfl)) (by decide) | exact Nat.lt_of_le_of_lt (Nat.le_of_eq (lx.n 30 rfl rfl)) (by decide) | exact Nat.lt_of_le_of_lt (Nat.le_of_eq (lx.n 31 rfl rfl)) (by decide) | exact Nat.lt_of_le_of_lt (Nat.le_of_eq (lx.n 32 rfl rfl)) (by decide) | exact Nat.lt_of_le_of_lt (Nat.le_of_eq (lx.n 33 rfl rfl)) (by decide)) dX3_reachFrom_15 (by exact (congrFun (g1.I (a := 30) (by unfold ctA; omega)) n).trans (gx.2.1 n s hs)) ?_
        refine S_istore (L' := [(0, _), (1, _), (2, _), (3, _), (4, _)]) dX3_reachFrom_16 rfl rfl ?_
        first | refine V_aload_n dX3_reachFrom_18 rfl rfl ?_ | refine V_aload_nN dX3_reachFrom_18 rfl rfl ?_
        first | refine V_getr (by exact lx.k _ rfl rfl) fX3_31 dX3_reachFrom_19 (by exact lx.r _ _ rfl) ?_ | refine V_getrN (by exact lx.k _ rfl rfl) fX3_31 dX3_reachFrom_19 (by exact lx.r _ _ rfl) ?_
        refine V_iload dX3_reachFrom_22 rfl ?_
        refine G_zald (j := s) (by exact lx.k _ rfl rfl) (by rfl) (by exact Nat.lt_of_lt_of_eq (show s < 180 by exact hs180) (lx.n 33 rfl rfl).symm) (by first | exact Nat.lt_of_le_of_lt (Nat.le_of_eq (lx.n 29 rfl rfl)) (by decide) | exact Nat.lt_of_le_of_lt (Nat.le_of_eq (lx.n 30 rfl rfl)) (by decide) | exact Nat.lt_of_le_of_lt (Nat.le_of_eq (lx.n 31 rfl rfl)) (by decide) | exact Nat.lt_of_le_of_lt (Nat.le_of_eq (lx.n 32 rfl rfl)) (by decide) | exact Nat.lt_of_le_of_lt (Nat.le_of_eq (lx.n 33 rfl rfl)) (by decide)) dX3_reachFrom_24 (by exact (congrFun (g1.I (a := 33) (by unfold ctA; omega)) s).trans (gx.2.2 s hs180).1) ?_
        refine V_if_eq (tgt := 32) dX3_reachFrom_25 (by decide) (fun c25 => ?_) (fun c25 => False.elim (by exact c25 (by rw [hS]; rfl)))
        first | refine V_aload_n dX3_reachFrom_32 rfl rfl ?_ | refine V_aload_nN dX3_reachFrom_32 rfl rfl ?_
        first | refine V_aload_n dX3_reachFrom_33 rfl rfl ?_ | refine V_aload_nN dX3_reachFrom_33 rfl rfl ?_
        refine V_iload dX3_reachFrom_34 rfl ?_
        refine V_iload_n dX3_reachFrom_36 rfl rfl ?_
        refine V_callV (As := [_, _, _]) (st := _) (c_X3_wayCost nb q jn s u w1 (h.keep g1 (fun a => by unfold ctA cpA; omega)) ((congrFun (g1.I (a := 24) (by unfold ctA; omega)) 0).trans hj) hjn hs180 hps hu hpu) kX3_78 (by exact lx.k _ rfl rfl) ⟨rfl, rfl, rfl⟩ ⟨(Nat.le_of_ble_eq_true rfl), (Nat.le_of_ble_eq_true rfl)⟩ dX3_reachFrom_37 rfl rfl (Nat.le_of_ble_eq_true rfl) ⟨(Nat.le_of_ble_eq_true rfl), (Nat.le_of_ble_eq_true rfl)⟩ ?_
        refine S_istore (L' := [(0, _), (1, _), (2, _), (3, _), (4, _), (5, _)]) dX3_reachFrom_40 rfl rfl ?_
        refine V_iload dX3_reachFrom_42 rfl ?_
        refine V_iconst (v := -1) dX3_reachFrom_44 (by decide) ?_
        refine V_icmp_eq (tgt := 111) dX3_reachFrom_45 (by decide) (fun c45 => ?_) (fun c45 => ?_)
        · refine S_iinc (L' := [(0, _), (1, _), (2, _), (3, _)]) dX3_reachFrom_111 rfl rfl rfl rfl ?_
          rw [nI_inc]
          refine V_goto (tgt := 2) dX3_reachFrom_114 (by decide) ?_
          first | exact ih (n + 1) _ (by omega) (g1.trans ((Keep.sI w1 (by unfold ctA; omega) _ _).trans (Keep.sI _ (by unfold ctA; omega) _ _))) (g2.upd hs (rC_s (rl_up hc (hS) (bt_lt (by omega) (hC s) c68))).1 (rC_s (rl_up hc (hS) (bt_lt (by omega) (hC s) c68))).2) | exact ih (n + 1) w1 (by omega) g1 (g2.skip hs (rC_n (rl_nb hc (bt_ne (by omega) (hC s) c68 c80))).1 (rC_n (rl_nb hc (bt_ne (by omega) (hC s) c68 c80))).2) | exact ih (n + 1) w1 (by omega) g1 (g2.skip hs (rC_n (rl_nb hc (Bool.eq_false_iff.mpr (fun z => (bt_eq (by omega) (hC s) (hF s) hu c68 c80).mp z c91)))).1 (rC_n (rl_nb hc (Bool.eq_false_iff.mpr (fun z => (bt_eq (by omega) (hC s) (hF s) hu c68 c80).mp z c91)))).2) | exact ih (n + 1) _ (by omega) (g1.trans ((Keep.sI w1 (by unfold ctA; omega) _ _).trans (Keep.sI _ (by unfold ctA; omega) _ _))) (g2.upd hs (rC_s (rl_up hc (hS) ((bt_eq (by omega) (hC s) (hF s) hu c68 c80).mpr c91))).1 (rC_s (rl_up hc (hS) ((bt_eq (by omega) (hC s) (hF s) hu c68 c80).mpr c91))).2) | exact ih (n + 1) w1 (by omega) g1 (g2.skip hs (rC_n (rl_no (oI_m1 (fun m hm => Nat.lt_of_le_of_lt (wcN_lt hjn hm).2 (by decide)) c45))).1 (rC_n (rl_no (oI_m1 (fun m hm => Nat.lt_of_le_of_lt (wcN_lt hjn hm).2 (by decide)) c45))).2)
        · obtain ⟨c, hc⟩ : ∃ c, wcN q nb jn s u = some c := by
            cases hx : wcN q nb jn s u with
            | none => exact absurd (by rw [hx]; rfl) c45
            | some c => exact ⟨c, rfl⟩
          have hcb := wcN_lt hjn hc
          rw [hc] at c45 ⊢
          first | refine V_aload_n dX3_reachFrom_48 rfl rfl ?_ | refine V_aload_nN dX3_reachFrom_48 rfl rfl ?_
          first | refine V_getr (by exact lx.k _ rfl rfl) fX3_25 dX3_reachFrom_49 (by exact lx.r _ _ rfl) ?_ | refine V_getrN (by exact lx.k _ rfl rfl) fX3_25 dX3_reachFrom_49 (by exact lx.r _ _ rfl) ?_
          refine V_iload_n dX3_reachFrom_52 rfl rfl ?_
          refine G_iald (j := u) (by exact lx.k _ rfl rfl) (by rfl) (by exact Nat.lt_of_lt_of_eq (show u < 180 by exact hu) (lx.n 31 rfl rfl).symm) (by first | exact Nat.lt_of_le_of_lt (Nat.le_of_eq (lx.n 29 rfl rfl)) (by decide) | exact Nat.lt_of_le_of_lt (Nat.le_of_eq (lx.n 30 rfl rfl)) (by decide) | exact Nat.lt_of_le_of_lt (Nat.le_of_eq (lx.n 31 rfl rfl)) (by decide) | exact Nat.lt_of_le_of_lt (Nat.le_of_eq (lx.n 32 rfl rfl)) (by decide) | exact Nat.lt_of_le_of_lt (Nat.le_of_eq (lx.n 33 rfl rfl)) (by decide)) dX3_reachFrom_53 (by exact hcu) ?_
          refine V_iload dX3_reachFrom_54 rfl ?_
          refine V_iadd dX3_reachFrom_56 ?_
          rw [show nI d + oI (some c) = nI (d + c) from nI_add d c]
          refine S_istore (L' := [(0, _), (1, _), (2, _), (3, _), (4, _), (6, _)]) dX3_reachFrom_57 rfl rfl ?_
          refine V_iload dX3_reachFrom_59 rfl ?_
          first | refine V_aload_n dX3_reachFrom_61 rfl rfl ?_ | refine V_aload_nN dX3_reachFrom_61 rfl rfl ?_
          first | refine V_getr (by exact lx.k _ rfl rfl) fX3_25 dX3_reachFrom_62 (by exact lx.r _ _ rfl) ?_ | refine V_getrN (by exact lx.k _ rfl rfl) fX3_25 dX3_reachFrom_62 (by exact lx.r _ _ rfl) ?_
          refine V_iload dX3_reachFrom_65 rfl ?_
          refine G_iald (j := s) (by exact lx.k _ rfl rfl) (by rfl) (by exact Nat.lt_of_lt_of_eq (show s < 180 by exact hs180) (lx.n 31 rfl rfl).symm) (by first | exact Nat.lt_of_le_of_lt (Nat.le_of_eq (lx.n 29 rfl rfl)) (by decide) | exact Nat.lt_of_le_of_lt (Nat.le_of_eq (lx.n 30 rfl rfl)) (by decide) | exact Nat.lt_of_le_of_lt (Nat.le_of_eq (lx.n 31 rfl rfl)) (by decide) | exact Nat.lt_of_le_of_lt (Nat.le_of_eq (lx.n 32 rfl rfl)) (by decide) | exact Nat.lt_of_le_of_lt (Nat.le_of_eq (lx.n 33 rfl rfl)) (by decide)) dX3_reachFrom_67 (by exact ((g2 s hs180).2 (dnI_not hs)).1) ?_
          refine V_icmp_lt (tgt := 94) dX3_reachFrom_68 (by decide) (fun c68 => ?_) (fun c68 => ?_)
          · first | refine V_aload_n dX3_reachFrom_94 rfl rfl ?_ | refine V_aload_nN dX3_reachFrom_94 rfl rfl ?_
            first | refine V_getr (by exact lx.k _ rfl rfl) fX3_25 dX3_reachFrom_95 (by exact lx.r _ _ rfl) ?_ | refine V_getrN (by exact lx.k _ rfl rfl) fX3_25 dX3_reachFrom_95 (by exact lx.r _ _ rfl) ?_
            refine V_iload dX3_reachFrom_98 rfl ?_
            refine V_iload dX3_reachFrom_100 rfl ?_
            refine G_iast (j := s) (by exact lx.k _ rfl rfl) (by rfl) (by exact Nat.lt_of_lt_of_eq (show s < 180 by exact hs180) (lx.n 31 rfl rfl).symm) (by first | exact Nat.lt_of_le_of_lt (Nat.le_of_eq (lx.n 29 rfl rfl)) (by decide) | exact Nat.lt_of_le_of_lt (Nat.le_of_eq (lx.n 30 rfl rfl)) (by decide) | exact Nat.lt_of_le_of_lt (Nat.le_of_eq (lx.n 31 rfl rfl)) (by decide) | exact Nat.lt_of_le_of_lt (Nat.le_of_eq (lx.n 32 rfl rfl)) (by decide) | exact Nat.lt_of_le_of_lt (Nat.le_of_eq (lx.n 33 rfl rfl)) (by decide)) dX3_reachFrom_102 ?_
            first | refine V_aload_n dX3_reachFrom_103 rfl rfl ?_ | refine V_aload_nN dX3_reachFrom_103 rfl rfl ?_
            first | refine V_getr (by exact lx.k _ rfl rfl) fX3_28 dX3_reachFrom_104 (by exact lx.r _ _ rfl) ?_ | refine V_getrN (by exact lx.k _ rfl rfl) fX3_28 dX3_reachFrom_104 (by exact lx.r _ _ rfl) ?_
            refine V_iload dX3_reachFrom_107 rfl ?_
            refine V_iload_n dX3_reachFrom_109 rfl rfl ?_
            refine G_iast (j := s) (by exact lx.k _ rfl rfl) (by rfl) (by exact Nat.lt_of_lt_of_eq (show s < 180 by exact hs180) (lx.n 32 rfl rfl).symm) (by first | exact Nat.lt_of_le_of_lt (Nat.le_of_eq (lx.n 29 rfl rfl)) (by decide) | exact Nat.lt_of_le_of_lt (Nat.le_of_eq (lx.n 30 rfl rfl)) (by decide) | exact Nat.lt_of_le_of_lt (Nat.le_of_eq (lx.n 31 rfl rfl)) (by decide) | exact Nat.lt_of_le_of_lt (Nat.le_of_eq (lx.n 32 rfl rfl)) (by decide) | exact Nat.lt_of_le_of_lt (Nat.le_of_eq (lx.n 33 rfl rfl)) (by decide)) dX3_reachFrom_110 ?_
            refine S_iinc (L' := [(0, _), (1, _), (2, _), (3, _)]) dX3_reachFrom_111 rfl rfl rfl rfl ?_
            rw [nI_inc]
            refine V_goto (tgt := 2) dX3_reachFrom_114 (by decide) ?_
            first | exact ih (n + 1) _ (by omega) (g1.trans ((Keep.sI w1 (by unfold ctA; omega) _ _).trans (Keep.sI _ (by unfold ctA; omega) _ _))) (g2.upd hs (rC_s (rl_up hc (hS) (bt_lt (by omega) (hC s) c68))).1 (rC_s (rl_up hc (hS) (bt_lt (by omega) (hC s) c68))).2) | exact ih (n + 1) w1 (by omega) g1 (g2.skip hs (rC_n (rl_nb hc (bt_ne (by omega) (hC s) c68 c80))).1 (rC_n (rl_nb hc (bt_ne (by omega) (hC s) c68 c80))).2) | exact ih (n + 1) w1 (by omega) g1 (g2.skip hs (rC_n (rl_nb hc (Bool.eq_false_iff.mpr (fun z => (bt_eq (by omega) (hC s) (hF s) hu c68 c80).mp z c91)))).1 (rC_n (rl_nb hc (Bool.eq_false_iff.mpr (fun z => (bt_eq (by omega) (hC s) (hF s) hu c68 c80).mp z c91)))).2) | exact ih (n + 1) _ (by omega) (g1.trans ((Keep.sI w1 (by unfold ctA; omega) _ _).trans (Keep.sI _ (by unfold ctA; omega) _ _))) (g2.upd hs (rC_s (rl_up hc (hS) ((bt_eq (by omega) (hC s) (hF s) hu c68 c80).mpr c91))).1 (rC_s (rl_up hc (hS) ((bt_eq (by omega) (hC s) (hF s) hu c68 c80).mpr c91))).2) | exact ih (n + 1) w1 (by omega) g1 (g2.skip hs (rC_n (rl_no (oI_m1 (fun m hm => Nat.lt_of_le_of_lt (wcN_lt hjn hm).2 (by decide)) c45))).1 (rC_n (rl_no (oI_m1 (fun m hm => Nat.lt_of_le_of_lt (wcN_lt hjn hm).2 (by decide)) c45))).2)
          · refine V_iload dX3_reachFrom_71 rfl ?_
            first | refine V_aload_n dX3_reachFrom_73 rfl rfl ?_ | refine V_aload_nN dX3_reachFrom_73 rfl rfl ?_
            first | refine V_getr (by exact lx.k _ rfl rfl) fX3_25 dX3_reachFrom_74 (by exact lx.r _ _ rfl) ?_ | refine V_getrN (by exact lx.k _ rfl rfl) fX3_25 dX3_reachFrom_74 (by exact lx.r _ _ rfl) ?_
            refine V_iload dX3_reachFrom_77 rfl ?_
            refine G_iald (j := s) (by exact lx.k _ rfl rfl) (by rfl) (by exact Nat.lt_of_lt_of_eq (show s < 180 by exact hs180) (lx.n 31 rfl rfl).symm) (by first | exact Nat.lt_of_le_of_lt (Nat.le_of_eq (lx.n 29 rfl rfl)) (by decide) | exact Nat.lt_of_le_of_lt (Nat.le_of_eq (lx.n 30 rfl rfl)) (by decide) | exact Nat.lt_of_le_of_lt (Nat.le_of_eq (lx.n 31 rfl rfl)) (by decide) | exact Nat.lt_of_le_of_lt (Nat.le_of_eq (lx.n 32 rfl rfl)) (by decide) | exact Nat.lt_of_le_of_lt (Nat.le_of_eq (lx.n 33 rfl rfl)) (by decide)) dX3_reachFrom_79 (by exact ((g2 s hs180).2 (dnI_not hs)).1) ?_
            refine V_icmp_ne (tgt := 111) dX3_reachFrom_80 (by decide) (fun c80 => ?_) (fun c80 => ?_)
            · refine S_iinc (L' := [(0, _), (1, _), (2, _), (3, _)]) dX3_reachFrom_111 rfl rfl rfl rfl ?_
              rw [nI_inc]
              refine V_goto (tgt := 2) dX3_reachFrom_114 (by decide) ?_
              first | exact ih (n + 1) _ (by omega) (g1.trans ((Keep.sI w1 (by unfold ctA; omega) _ _).trans (Keep.sI _ (by unfold ctA; omega) _ _))) (g2.upd hs (rC_s (rl_up hc (hS) (bt_lt (by omega) (hC s) c68))).1 (rC_s (rl_up hc (hS) (bt_lt (by omega) (hC s) c68))).2) | exact ih (n + 1) w1 (by omega) g1 (g2.skip hs (rC_n (rl_nb hc (bt_ne (by omega) (hC s) c68 c80))).1 (rC_n (rl_nb hc (bt_ne (by omega) (hC s) c68 c80))).2) | exact ih (n + 1) w1 (by omega) g1 (g2.skip hs (rC_n (rl_nb hc (Bool.eq_false_iff.mpr (fun z => (bt_eq (by omega) (hC s) (hF s) hu c68 c80).mp z c91)))).1 (rC_n (rl_nb hc (Bool.eq_false_iff.mpr (fun z => (bt_eq (by omega) (hC s) (hF s) hu c68 c80).mp z c91)))).2) | exact ih (n + 1) _ (by omega) (g1.trans ((Keep.sI w1 (by unfold ctA; omega) _ _).trans (Keep.sI _ (by unfold ctA; omega) _ _))) (g2.upd hs (rC_s (rl_up hc (hS) ((bt_eq (by omega) (hC s) (hF s) hu c68 c80).mpr c91))).1 (rC_s (rl_up hc (hS) ((bt_eq (by omega) (hC s) (hF s) hu c68 c80).mpr c91))).2) | exact ih (n + 1) w1 (by omega) g1 (g2.skip hs (rC_n (rl_no (oI_m1 (fun m hm => Nat.lt_of_le_of_lt (wcN_lt hjn hm).2 (by decide)) c45))).1 (rC_n (rl_no (oI_m1 (fun m hm => Nat.lt_of_le_of_lt (wcN_lt hjn hm).2 (by decide)) c45))).2)
            · refine V_iload_n dX3_reachFrom_83 rfl rfl ?_
              first | refine V_aload_n dX3_reachFrom_84 rfl rfl ?_ | refine V_aload_nN dX3_reachFrom_84 rfl rfl ?_
              first | refine V_getr (by exact lx.k _ rfl rfl) fX3_28 dX3_reachFrom_85 (by exact lx.r _ _ rfl) ?_ | refine V_getrN (by exact lx.k _ rfl rfl) fX3_28 dX3_reachFrom_85 (by exact lx.r _ _ rfl) ?_
              refine V_iload dX3_reachFrom_88 rfl ?_
              refine G_iald (j := s) (by exact lx.k _ rfl rfl) (by rfl) (by exact Nat.lt_of_lt_of_eq (show s < 180 by exact hs180) (lx.n 32 rfl rfl).symm) (by first | exact Nat.lt_of_le_of_lt (Nat.le_of_eq (lx.n 29 rfl rfl)) (by decide) | exact Nat.lt_of_le_of_lt (Nat.le_of_eq (lx.n 30 rfl rfl)) (by decide) | exact Nat.lt_of_le_of_lt (Nat.le_of_eq (lx.n 31 rfl rfl)) (by decide) | exact Nat.lt_of_le_of_lt (Nat.le_of_eq (lx.n 32 rfl rfl)) (by decide) | exact Nat.lt_of_le_of_lt (Nat.le_of_eq (lx.n 33 rfl rfl)) (by decide)) dX3_reachFrom_90 (by exact ((g2 s hs180).2 (dnI_not hs)).2) ?_
              refine V_icmp_ge (tgt := 111) dX3_reachFrom_91 (by decide) (fun c91 => ?_) (fun c91 => ?_)
              · refine S_iinc (L' := [(0, _), (1, _), (2, _), (3, _)]) dX3_reachFrom_111 rfl rfl rfl rfl ?_
                rw [nI_inc]
                refine V_goto (tgt := 2) dX3_reachFrom_114 (by decide) ?_
                first | exact ih (n + 1) _ (by omega) (g1.trans ((Keep.sI w1 (by unfold ctA; omega) _ _).trans (Keep.sI _ (by unfold ctA; omega) _ _))) (g2.upd hs (rC_s (rl_up hc (hS) (bt_lt (by omega) (hC s) c68))).1 (rC_s (rl_up hc (hS) (bt_lt (by omega) (hC s) c68))).2) | exact ih (n + 1) w1 (by omega) g1 (g2.skip hs (rC_n (rl_nb hc (bt_ne (by omega) (hC s) c68 c80))).1 (rC_n (rl_nb hc (bt_ne (by omega) (hC s) c68 c80))).2) | exact ih (n + 1) w1 (by omega) g1 (g2.skip hs (rC_n (rl_nb hc (Bool.eq_false_iff.mpr (fun z => (bt_eq (by omega) (hC s) (hF s) hu c68 c80).mp z c91)))).1 (rC_n (rl_nb hc (Bool.eq_false_iff.mpr (fun z => (bt_eq (by omega) (hC s) (hF s) hu c68 c80).mp z c91)))).2) | exact ih (n + 1) _ (by omega) (g1.trans ((Keep.sI w1 (by unfold ctA; omega) _ _).trans (Keep.sI _ (by unfold ctA; omega) _ _))) (g2.upd hs (rC_s (rl_up hc (hS) ((bt_eq (by omega) (hC s) (hF s) hu c68 c80).mpr c91))).1 (rC_s (rl_up hc (hS) ((bt_eq (by omega) (hC s) (hF s) hu c68 c80).mpr c91))).2) | exact ih (n + 1) w1 (by omega) g1 (g2.skip hs (rC_n (rl_no (oI_m1 (fun m hm => Nat.lt_of_le_of_lt (wcN_lt hjn hm).2 (by decide)) c45))).1 (rC_n (rl_no (oI_m1 (fun m hm => Nat.lt_of_le_of_lt (wcN_lt hjn hm).2 (by decide)) c45))).2)
              · first | refine V_aload_n dX3_reachFrom_94 rfl rfl ?_ | refine V_aload_nN dX3_reachFrom_94 rfl rfl ?_
                first | refine V_getr (by exact lx.k _ rfl rfl) fX3_25 dX3_reachFrom_95 (by exact lx.r _ _ rfl) ?_ | refine V_getrN (by exact lx.k _ rfl rfl) fX3_25 dX3_reachFrom_95 (by exact lx.r _ _ rfl) ?_
                refine V_iload dX3_reachFrom_98 rfl ?_
                refine V_iload dX3_reachFrom_100 rfl ?_
                refine G_iast (j := s) (by exact lx.k _ rfl rfl) (by rfl) (by exact Nat.lt_of_lt_of_eq (show s < 180 by exact hs180) (lx.n 31 rfl rfl).symm) (by first | exact Nat.lt_of_le_of_lt (Nat.le_of_eq (lx.n 29 rfl rfl)) (by decide) | exact Nat.lt_of_le_of_lt (Nat.le_of_eq (lx.n 30 rfl rfl)) (by decide) | exact Nat.lt_of_le_of_lt (Nat.le_of_eq (lx.n 31 rfl rfl)) (by decide) | exact Nat.lt_of_le_of_lt (Nat.le_of_eq (lx.n 32 rfl rfl)) (by decide) | exact Nat.lt_of_le_of_lt (Nat.le_of_eq (lx.n 33 rfl rfl)) (by decide)) dX3_reachFrom_102 ?_
                first | refine V_aload_n dX3_reachFrom_103 rfl rfl ?_ | refine V_aload_nN dX3_reachFrom_103 rfl rfl ?_
                first | refine V_getr (by exact lx.k _ rfl rfl) fX3_28 dX3_reachFrom_104 (by exact lx.r _ _ rfl) ?_ | refine V_getrN (by exact lx.k _ rfl rfl) fX3_28 dX3_reachFrom_104 (by exact lx.r _ _ rfl) ?_
                refine V_iload dX3_reachFrom_107 rfl ?_
                refine V_iload_n dX3_reachFrom_109 rfl rfl ?_
                refine G_iast (j := s) (by exact lx.k _ rfl rfl) (by rfl) (by exact Nat.lt_of_lt_of_eq (show s < 180 by exact hs180) (lx.n 32 rfl rfl).symm) (by first | exact Nat.lt_of_le_of_lt (Nat.le_of_eq (lx.n 29 rfl rfl)) (by decide) | exact Nat.lt_of_le_of_lt (Nat.le_of_eq (lx.n 30 rfl rfl)) (by decide) | exact Nat.lt_of_le_of_lt (Nat.le_of_eq (lx.n 31 rfl rfl)) (by decide) | exact Nat.lt_of_le_of_lt (Nat.le_of_eq (lx.n 32 rfl rfl)) (by decide) | exact Nat.lt_of_le_of_lt (Nat.le_of_eq (lx.n 33 rfl rfl)) (by decide)) dX3_reachFrom_110 ?_
                refine S_iinc (L' := [(0, _), (1, _), (2, _), (3, _)]) dX3_reachFrom_111 rfl rfl rfl rfl ?_
                rw [nI_inc]
                refine V_goto (tgt := 2) dX3_reachFrom_114 (by decide) ?_
                first | exact ih (n + 1) _ (by omega) (g1.trans ((Keep.sI w1 (by unfold ctA; omega) _ _).trans (Keep.sI _ (by unfold ctA; omega) _ _))) (g2.upd hs (rC_s (rl_up hc (hS) (bt_lt (by omega) (hC s) c68))).1 (rC_s (rl_up hc (hS) (bt_lt (by omega) (hC s) c68))).2) | exact ih (n + 1) w1 (by omega) g1 (g2.skip hs (rC_n (rl_nb hc (bt_ne (by omega) (hC s) c68 c80))).1 (rC_n (rl_nb hc (bt_ne (by omega) (hC s) c68 c80))).2) | exact ih (n + 1) w1 (by omega) g1 (g2.skip hs (rC_n (rl_nb hc (Bool.eq_false_iff.mpr (fun z => (bt_eq (by omega) (hC s) (hF s) hu c68 c80).mp z c91)))).1 (rC_n (rl_nb hc (Bool.eq_false_iff.mpr (fun z => (bt_eq (by omega) (hC s) (hF s) hu c68 c80).mp z c91)))).2) | exact ih (n + 1) _ (by omega) (g1.trans ((Keep.sI w1 (by unfold ctA; omega) _ _).trans (Keep.sI _ (by unfold ctA; omega) _ _))) (g2.upd hs (rC_s (rl_up hc (hS) ((bt_eq (by omega) (hC s) (hF s) hu c68 c80).mpr c91))).1 (rC_s (rl_up hc (hS) ((bt_eq (by omega) (hC s) (hF s) hu c68 c80).mpr c91))).2) | exact ih (n + 1) w1 (by omega) g1 (g2.skip hs (rC_n (rl_no (oI_m1 (fun m hm => Nat.lt_of_le_of_lt (wcN_lt hjn hm).2 (by decide)) c45))).1 (rC_n (rl_no (oI_m1 (fun m hm => Nat.lt_of_le_of_lt (wcN_lt hjn hm).2 (by decide)) c45))).2)
  refine V_iconst (v := 0) dX3_reachFrom_0 (by decide) ?_
  refine S_istore_n (L' := [(0, _), (1, _), (2, _), (3, _)]) dX3_reachFrom_1 rfl rfl rfl ?_
  exact loop (prL q).length 0 w (by omega) (Keep.refl _ _) (fun s hs => ⟨fun z => absurd z (fun y => by obtain ⟨m, hm, -⟩ := y; omega), fun _ => (gx.2.2 s hs).2⟩)
