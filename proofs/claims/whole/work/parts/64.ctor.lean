/-! CONSTRUCTORS of Graph, Clips, BoneSteps -/
theorem V_cs {M : Mi} {X : Cx} {Q : State → Prop} {pc : Nat} {L : List (Nat × Value)} {st : List Value} {w : Wd} {a b a' b' : Nat} (h1 : a = a') (h2 : b = b') (k : V M X Q pc L st w (a', b')) : V M X Q pc L st w (a, b) := by
  rw [h1, h2]; exact k
/-- the clips that are made, below c -/
def NC (c a : Nat) : Prop := (40 ≤ a ∧ a < 40 + c) ∨ (50 ≤ a ∧ a < 50 + c) ∨ (100 ≤ a ∧ a < 100 + 30 * c)
def GC (c : Nat) (w : Wd) : Prop := wK w 22 = 3 ∧ wI w 22 = (fun _ => 0) ∧ wK w 27 = 15 ∧ wN w 27 = 6 ∧ wR w 22 0 = some 27 ∧ ∀ d, d < c → G2 d w ∧ wR w 27 d = some (40 + d)
theorem GC.ken {c : Nat} {S : Nat → Prop} {w w' : Wd} (h : GC c w) (g : KeN S w w') (h1 : ¬ S 22) (h2 : ¬ S 27) (h3 : ∀ a, NC c a → ¬ S a) : GC c w' := by
  obtain ⟨a1, a2, a3, a4, a5⟩ := g 22 h1
  obtain ⟨b1, b2, b3, b4, b5⟩ := g 27 h2
  unfold GC
  rw [a1, a3, a5, b1, b2, b5]
  refine ⟨h.1, h.2.1, h.2.2.1, h.2.2.2.1, h.2.2.2.2.1, fun d hd => ⟨(h.2.2.2.2.2 d hd).1.ken g (h3 _ (by unfold NC; omega)) (h3 _ (by unfold NC; omega)) (fun f hf => h3 _ (by unfold NC; omega)), (h.2.2.2.2.2 d hd).2⟩⟩
def CI (U : Nat → Prop) (w : Wd) (c : Nat) (w1 : Wd) : Prop := KeN (fun a => a = 22 ∨ a = 27 ∨ NC c a) w w1 ∧ GC c w1 ∧ Us (fun a => U a ∨ a = 27 ∨ NC c a) w1
theorem CI.next {U : Nat → Prop} {w w1 w3 : Wd} {c : Nat} (h : CI U w c w1) (hc : c < 6) (g : KeN (fun a => a = 40 + c ∨ mnN (50 + c) (100 + 30 * c) a) (nw w1 (40 + c) 2 0) w3) (hg : G2 c w3) (hu : Us (fun a => ((U a ∨ a = 27 ∨ NC c a) ∨ a = 40 + c) ∨ mnN (50 + c) (100 + 30 * c) a) w3) : CI U w (c + 1) (sR w3 27 c (some (40 + c))) := by
  have k1 : KeN (fun a => a = 40 + c ∨ mnN (50 + c) (100 + 30 * c) a) w1 w3 := (KeN.nw w1 (Or.inl rfl) 2 0).trans g
  have k2 : KeN (fun a => a = 27) w3 (sR w3 27 c (some (40 + c))) := KeN.sR (S := fun a => a = 27) w3 (show 27 = 27 from rfl) c _
  have hG3 : GC c w3 := h.2.1.ken k1 (by unfold mnN; omega) (by unfold mnN; omega) (fun a ha => by unfold NC at ha; unfold mnN; omega)
  refine ⟨(h.1.mono (fun a q => by unfold NC at *; omega)).trans ((k1.mono (fun a q => by unfold mnN at q; unfold NC; omega)).trans (k2.mono (fun a q => Or.inr (Or.inl q)))), ?_, ?_⟩
  · obtain ⟨a1, a2, a3, a4, a5⟩ := k2 22 (by decide)
    unfold GC
    rw [a1, a3, a5, wK_sR, wN_sR]
    refine ⟨hG3.1, hG3.2.1, hG3.2.2.1, hG3.2.2.2.1, hG3.2.2.2.2.1, fun d hd => ?_⟩
    by_cases e : d = c
    · subst e
      exact ⟨hg.ken k2 (by omega) (by omega) (fun f hf => by omega), by rw [wR_sR, if_pos ⟨rfl, rfl⟩]⟩
    · refine ⟨(hG3.2.2.2.2.2 d (by omega)).1.ken k2 (by omega) (by omega) (fun f hf => by omega), ?_⟩
      rw [wR_sR, if_neg (fun q => e q.2)]
      exact (hG3.2.2.2.2.2 d (by omega)).2
  · exact Us.hold (U := fun a => U a ∨ a = 27 ∨ NC (c + 1) a) (hu.mono (fun a q => by
      rcases q with ((q | q | q) | q) | q
      · exact Or.inl q
      · exact Or.inr (Or.inl q)
      · exact Or.inr (Or.inr (by unfold NC at *; omega))
      · exact Or.inr (Or.inr (by unfold NC; omega))
      · exact Or.inr (Or.inr (by unfold mnN at q; unfold NC; omega)))) 27 c (fun b hb => by cases hb; exact Or.inr (Or.inr (by unfold NC; omega)))
theorem nI_cl {c : Nat} (h : c < 1000) : (nI c).toNatClampNeg = c := nI_clamp (by omega)

set_option maxRecDepth 100000 in
theorem c_X3_init (U : Nat → Prop) (w : Wd) (hK : wK w 24 = 4) (hz : Zr w 24) (hU : Us U w) (hf : ∀ n, 29 ≤ n → n < 34 → ¬ U n) : Cc yX3_init mX3_init [.ref 24] w (fun r w' => r = none ∧ (KeN (fun a => a = 24 ∨ (29 ≤ a ∧ a < 34)) w w' ∧ G4 w' ∧ Us (fun a => U a ∨ (29 ≤ a ∧ a < 34)) w')) := by
  refine Cc.of (by decide) rfl rfl (Nat.le_of_ble_eq_true rfl) (fun X => ?_)
  change V _ X _ 0 [(0, _)] [] _ (0, 0)
  first | refine V_aload_n dX3_init_0 rfl rfl ?_ | refine V_aload_nN dX3_init_0 rfl rfl ?_
  refine V_objInit koX3_3 dX3_init_1 (Nat.le_of_ble_eq_true rfl) (Nat.le_of_ble_eq_true rfl) ?_
  first | refine V_aload_n dX3_init_4 rfl rfl ?_ | refine V_aload_nN dX3_init_4 rfl rfl ?_
  refine V_iconst (v := 3) dX3_init_5 (by decide) ?_
  refine V_puti (by repeat first | exact hK | rw [wK_sI] | rw [wK_sR] | rw [nwK_n (by decide)]) pfX3_9 (fun h => nomatch h) dX3_init_6 ⟨rfl, rfl⟩ ?_
  first | refine V_aload_n dX3_init_9 rfl rfl ?_ | refine V_aload_nN dX3_init_9 rfl rfl ?_
  refine V_iconst (v := -1) dX3_init_10 (by decide) ?_
  refine V_puti (by repeat first | exact hK | rw [wK_sI] | rw [wK_sR] | rw [nwK_n (by decide)]) pfX3_15 (fun h => nomatch h) dX3_init_11 ⟨rfl, rfl⟩ ?_
  first | refine V_aload_n dX3_init_14 rfl rfl ?_ | refine V_aload_nN dX3_init_14 rfl rfl ?_
  refine V_sipush (v := 180) dX3_init_15 (by decide) ?_
  refine V_newa (n := 29) (kd := 11) (len := 180) (by simp) ac_int (by rfl) (by decide) (by repeat first | exact hU.frs (hf _ (by omega) (by omega)) (by omega) | refine Frs.hold ?_ _ _ (by decide) | refine Frs.made ?_ (by decide) _ _ | refine Frs.num ?_ _ _ _) rfl (by repeat' first | exact (fun _ h => absurd h List.not_mem_nil) | refine List.forall_mem_cons.mpr ⟨?_, ?_⟩ | exact nRf_r (by omega) | rfl) (by repeat' first | exact (fun _ h => absurd h List.not_mem_nil) | refine List.forall_mem_cons.mpr ⟨?_, ?_⟩ | exact nRf_r (by omega) | rfl) dX3_init_18 ⟨(Nat.le_of_ble_eq_true rfl), (Nat.le_of_ble_eq_true rfl)⟩ ?_
  first | refine V_putr (by repeat first | exact hK | rw [wK_sI] | rw [wK_sR] | rw [nwK_n (by decide)]) pfX3_18 (fun _ => rfl) dX3_init_20 (fun _ => ⟨rfl, rfl⟩) ?_ | refine V_putrN (by repeat first | exact hK | rw [wK_sI] | rw [wK_sR] | rw [nwK_n (by decide)]) pfX3_18 (fun _ => rfl) dX3_init_20 ⟨rfl, rfl⟩ ?_
  first | refine V_aload_n dX3_init_23 rfl rfl ?_ | refine V_aload_nN dX3_init_23 rfl rfl ?_
  refine V_sipush (v := 180) dX3_init_24 (by decide) ?_
  refine V_newa (n := 30) (kd := 11) (len := 180) (by simp) ac_int (by rfl) (by decide) (by repeat first | exact hU.frs (hf _ (by omega) (by omega)) (by omega) | refine Frs.hold ?_ _ _ (by decide) | refine Frs.made ?_ (by decide) _ _ | refine Frs.num ?_ _ _ _) rfl (by repeat' first | exact (fun _ h => absurd h List.not_mem_nil) | refine List.forall_mem_cons.mpr ⟨?_, ?_⟩ | exact nRf_r (by omega) | rfl) (by repeat' first | exact (fun _ h => absurd h List.not_mem_nil) | refine List.forall_mem_cons.mpr ⟨?_, ?_⟩ | exact nRf_r (by omega) | rfl) dX3_init_27 ⟨(Nat.le_of_ble_eq_true rfl), (Nat.le_of_ble_eq_true rfl)⟩ ?_
  first | refine V_putr (by repeat first | exact hK | rw [wK_sI] | rw [wK_sR] | rw [nwK_n (by decide)]) pfX3_22 (fun _ => rfl) dX3_init_29 (fun _ => ⟨rfl, rfl⟩) ?_ | refine V_putrN (by repeat first | exact hK | rw [wK_sI] | rw [wK_sR] | rw [nwK_n (by decide)]) pfX3_22 (fun _ => rfl) dX3_init_29 ⟨rfl, rfl⟩ ?_
  first | refine V_aload_n dX3_init_32 rfl rfl ?_ | refine V_aload_nN dX3_init_32 rfl rfl ?_
  refine V_sipush (v := 180) dX3_init_33 (by decide) ?_
  refine V_newa (n := 31) (kd := 11) (len := 180) (by simp) ac_int (by rfl) (by decide) (by repeat first | exact hU.frs (hf _ (by omega) (by omega)) (by omega) | refine Frs.hold ?_ _ _ (by decide) | refine Frs.made ?_ (by decide) _ _ | refine Frs.num ?_ _ _ _) rfl (by repeat' first | exact (fun _ h => absurd h List.not_mem_nil) | refine List.forall_mem_cons.mpr ⟨?_, ?_⟩ | exact nRf_r (by omega) | rfl) (by repeat' first | exact (fun _ h => absurd h List.not_mem_nil) | refine List.forall_mem_cons.mpr ⟨?_, ?_⟩ | exact nRf_r (by omega) | rfl) dX3_init_36 ⟨(Nat.le_of_ble_eq_true rfl), (Nat.le_of_ble_eq_true rfl)⟩ ?_
  first | refine V_putr (by repeat first | exact hK | rw [wK_sI] | rw [wK_sR] | rw [nwK_n (by decide)]) pfX3_25 (fun _ => rfl) dX3_init_38 (fun _ => ⟨rfl, rfl⟩) ?_ | refine V_putrN (by repeat first | exact hK | rw [wK_sI] | rw [wK_sR] | rw [nwK_n (by decide)]) pfX3_25 (fun _ => rfl) dX3_init_38 ⟨rfl, rfl⟩ ?_
  first | refine V_aload_n dX3_init_41 rfl rfl ?_ | refine V_aload_nN dX3_init_41 rfl rfl ?_
  refine V_sipush (v := 180) dX3_init_42 (by decide) ?_
  refine V_newa (n := 32) (kd := 11) (len := 180) (by simp) ac_int (by rfl) (by decide) (by repeat first | exact hU.frs (hf _ (by omega) (by omega)) (by omega) | refine Frs.hold ?_ _ _ (by decide) | refine Frs.made ?_ (by decide) _ _ | refine Frs.num ?_ _ _ _) rfl (by repeat' first | exact (fun _ h => absurd h List.not_mem_nil) | refine List.forall_mem_cons.mpr ⟨?_, ?_⟩ | exact nRf_r (by omega) | rfl) (by repeat' first | exact (fun _ h => absurd h List.not_mem_nil) | refine List.forall_mem_cons.mpr ⟨?_, ?_⟩ | exact nRf_r (by omega) | rfl) dX3_init_45 ⟨(Nat.le_of_ble_eq_true rfl), (Nat.le_of_ble_eq_true rfl)⟩ ?_
  first | refine V_putr (by repeat first | exact hK | rw [wK_sI] | rw [wK_sR] | rw [nwK_n (by decide)]) pfX3_28 (fun _ => rfl) dX3_init_47 (fun _ => ⟨rfl, rfl⟩) ?_ | refine V_putrN (by repeat first | exact hK | rw [wK_sI] | rw [wK_sR] | rw [nwK_n (by decide)]) pfX3_28 (fun _ => rfl) dX3_init_47 ⟨rfl, rfl⟩ ?_
  first | refine V_aload_n dX3_init_50 rfl rfl ?_ | refine V_aload_nN dX3_init_50 rfl rfl ?_
  refine V_sipush (v := 180) dX3_init_51 (by decide) ?_
  refine V_newa (n := 33) (kd := 13) (len := 180) (by simp) ac_boolean (by rfl) (by decide) (by repeat first | exact hU.frs (hf _ (by omega) (by omega)) (by omega) | refine Frs.hold ?_ _ _ (by decide) | refine Frs.made ?_ (by decide) _ _ | refine Frs.num ?_ _ _ _) rfl (by repeat' first | exact (fun _ h => absurd h List.not_mem_nil) | refine List.forall_mem_cons.mpr ⟨?_, ?_⟩ | exact nRf_r (by omega) | rfl) (by repeat' first | exact (fun _ h => absurd h List.not_mem_nil) | refine List.forall_mem_cons.mpr ⟨?_, ?_⟩ | exact nRf_r (by omega) | rfl) dX3_init_54 ⟨(Nat.le_of_ble_eq_true rfl), (Nat.le_of_ble_eq_true rfl)⟩ ?_
  first | refine V_putr (by repeat first | exact hK | rw [wK_sI] | rw [wK_sR] | rw [nwK_n (by decide)]) pfX3_31 (fun _ => rfl) dX3_init_56 (fun _ => ⟨rfl, rfl⟩) ?_ | refine V_putrN (by repeat first | exact hK | rw [wK_sI] | rw [wK_sR] | rw [nwK_n (by decide)]) pfX3_31 (fun _ => rfl) dX3_init_56 ⟨rfl, rfl⟩ ?_
  refine V_vret rfl dX3_init_59 (Nat.le_of_ble_eq_true rfl) (Nat.le_of_ble_eq_true rfl) ?_
  refine ⟨rfl, (show KeN (fun a => a = 24 ∨ (29 ≤ a ∧ a < 34)) w (sR (nw (sR (nw (sR (nw (sR (nw (sR (nw (sI (sI w 24 0 3) 24 1 (-1)) 29 11 180) 24 2 (some 29)) 30 11 180) 24 4 (some 30)) 31 11 180) 24 6 (some 31)) 32 11 180) 24 7 (some 32)) 33 13 180) 24 8 (some 33)) from (((((((KeN.sI w (Or.inl rfl) 0 3).trans (KeN.sI _ (Or.inl rfl) 1 (-1))).trans ((KeN.nw _ (Or.inr (by omega)) 11 180).trans (KeN.sR _ (Or.inl rfl) 2 (some 29)))).trans ((KeN.nw _ (Or.inr (by omega)) 11 180).trans (KeN.sR _ (Or.inl rfl) 4 (some 30)))).trans ((KeN.nw _ (Or.inr (by omega)) 11 180).trans (KeN.sR _ (Or.inl rfl) 6 (some 31)))).trans ((KeN.nw _ (Or.inr (by omega)) 11 180).trans (KeN.sR _ (Or.inl rfl) 7 (some 32)))).trans ((KeN.nw _ (Or.inr (by omega)) 13 180).trans (KeN.sR _ (Or.inl rfl) 8 (some 33))))), ⟨by repeat first | exact hK | rw [wK_sI] | rw [wK_sR] | rw [nwK_n (by decide)], fun n h1 h2 => ?_, by repeat first | rw [wR_sI] | rw [wR_sR, if_pos ⟨rfl, rfl⟩] | rw [wR_sR, if_neg (by decide)] | rw [nwR_n (by decide)], by repeat first | rw [wR_sI] | rw [wR_sR, if_pos ⟨rfl, rfl⟩] | rw [wR_sR, if_neg (by decide)] | rw [nwR_n (by decide)], by repeat first | rw [wR_sI] | rw [wR_sR, if_pos ⟨rfl, rfl⟩] | rw [wR_sR, if_neg (by decide)] | rw [nwR_n (by decide)], by repeat first | rw [wR_sI] | rw [wR_sR, if_pos ⟨rfl, rfl⟩] | rw [wR_sR, if_neg (by decide)] | rw [nwR_n (by decide)], by repeat first | rw [wR_sI] | rw [wR_sR, if_pos ⟨rfl, rfl⟩] | rw [wR_sR, if_neg (by decide)] | rw [nwR_n (by decide)], by repeat first | rw [rdI_eq] | rw [wI_sR] | rw [nwI_n (by decide)] | rw [rdI_ne (by decide)] | rw [hz.1], by repeat first | rw [rdI_eq] | rw [wI_sR] | rw [nwI_n (by decide)] | rw [rdI_ne (by decide)] | rw [hz.1], by repeat first | rw [rdI_eq] | rw [wI_sR] | rw [nwI_n (by decide)] | rw [rdI_ne (by decide)] | rw [hz.1]⟩, ((((((((((((hU.mono (U' := fun a => U a ∨ (29 ≤ a ∧ a < 34)) (fun a q => Or.inl q)).like (w' := sI (sI w 24 0 3) 24 1 (-1)) rfl rfl).made (n := 29) (Or.inr (by omega)) 11 180).hold 24 2 (x := some 29) (fun b hb => by cases hb; exact Or.inr (by omega))).made (n := 30) (Or.inr (by omega)) 11 180).hold 24 4 (x := some 30) (fun b hb => by cases hb; exact Or.inr (by omega))).made (n := 31) (Or.inr (by omega)) 11 180).hold 24 6 (x := some 31) (fun b hb => by cases hb; exact Or.inr (by omega))).made (n := 32) (Or.inr (by omega)) 11 180).hold 24 7 (x := some 32) (fun b hb => by cases hb; exact Or.inr (by omega))).made (n := 33) (Or.inr (by omega)) 13 180).hold 24 8 (x := some 33) (fun b hb => by cases hb; exact Or.inr (by omega)))⟩
  rcases (show n = 29 ∨ n = 30 ∨ n = 31 ∨ n = 32 ∨ n = 33 by omega) with rfl | rfl | rfl | rfl | rfl
  · exact ⟨by repeat first | rfl | rw [wK_sI] | rw [wK_sR] | rw [nwK_s] | rw [nwK_n (by decide)], by repeat first | rfl | rw [wN_sI] | rw [wN_sR] | rw [nwN_s] | rw [nwN_n (by decide)]⟩
  · exact ⟨by repeat first | rfl | rw [wK_sI] | rw [wK_sR] | rw [nwK_s] | rw [nwK_n (by decide)], by repeat first | rfl | rw [wN_sI] | rw [wN_sR] | rw [nwN_s] | rw [nwN_n (by decide)]⟩
  · exact ⟨by repeat first | rfl | rw [wK_sI] | rw [wK_sR] | rw [nwK_s] | rw [nwK_n (by decide)], by repeat first | rfl | rw [wN_sI] | rw [wN_sR] | rw [nwN_s] | rw [nwN_n (by decide)]⟩
  · exact ⟨by repeat first | rfl | rw [wK_sI] | rw [wK_sR] | rw [nwK_s] | rw [nwK_n (by decide)], by repeat first | rfl | rw [wN_sI] | rw [wN_sR] | rw [nwN_s] | rw [nwN_n (by decide)]⟩
  · exact ⟨by repeat first | rfl | rw [wK_sI] | rw [wK_sR] | rw [nwK_s] | rw [nwK_n (by decide)], by repeat first | rfl | rw [wN_sI] | rw [wN_sR] | rw [nwN_s] | rw [nwN_n (by decide)]⟩

set_option maxRecDepth 100000 in
theorem c_X2_init (U : Nat → Prop) (w : Wd) (hK : wK w 22 = 3) (hz : Zr w 22) (hU : Us U w) (hs : U 22) (hf : ¬ U 27) (hn : ∀ a, NC 6 a → ¬ U a) : Cc yX2_init mX2_init [.ref 22] w (fun r w' => r = none ∧ CI U w 6 w') := by
  refine Cc.of (by decide) rfl rfl (Nat.le_of_ble_eq_true rfl) (fun X => ?_)
  change V _ X _ 0 [(0, _)] [] _ (0, 0)
  have hnA : ∀ c, c < 6 → ∀ a, mnN (50 + c) (100 + 30 * c) a → ¬ ((U a ∨ a = 27 ∨ NC c a) ∨ a = 40 + c) := fun c hc a ha q => by
    have h1 := hn a (by unfold mnN at ha; unfold NC; omega)
    unfold mnN at ha
    rcases q with (q | q | q) | q
    · exact h1 q
    · omega
    · unfold NC at q; omega
    · omega
  have loop : ∀ (d c : Nat) (w1 : Wd), c + d = 6 → CI U w c w1 → V mX2_init X (mq mX2_init X (fun r w' => r = none ∧ CI U w 6 w')) 15 [(0, .ref 22), (1, .int (nI c))] [] w1 (1 + 32 * c, 6 + 332 * c) := by
    intro d
    induction d with
    | zero =>
      intro c w1 hd h1
      obtain rfl : c = 6 := hd
      refine V_iload_n dX2_init_15 rfl rfl ?_
      refine V_bipush (v := 6) dX2_init_16 (by decide) ?_
      refine V_icmp_ge (tgt := 40) dX2_init_18 (by decide) (fun c18 => ?_) (fun c18 => False.elim (by exact c18 (by decide)))
      refine V_vret rfl dX2_init_40 (Nat.le_of_ble_eq_true rfl) (Nat.le_of_ble_eq_true rfl) ?_
      exact ⟨rfl, h1⟩
    | succ d ih =>
      intro c w1 hd h1
      have hc : c < 6 := by omega
      refine V_iload_n dX2_init_15 rfl rfl ?_
      refine V_bipush (v := 6) dX2_init_16 (by decide) ?_
      refine V_icmp_ge (tgt := 40) dX2_init_18 (by decide) (fun c18 => False.elim (by exact nI_ge (a := c) (b := 6) hc (by decide) c18)) (fun c18 => ?_)
      first | refine V_aload_n dX2_init_21 rfl rfl ?_ | refine V_aload_nN dX2_init_21 rfl rfl ?_
      first | refine V_getr (by first | exact h1.2.1.1 | exact h1.2.1.2.2.1) fX2_11 dX2_init_22 (by exact h1.2.1.2.2.2.2.1) ?_ | refine V_getrN (by first | exact h1.2.1.1 | exact h1.2.1.2.2.1) fX2_11 dX2_init_22 (by exact h1.2.1.2.2.2.2.1) ?_
      refine V_iload_n dX2_init_25 rfl rfl ?_
      refine V_new (n := (40 + c)) nlX2_9 (by exact h1.2.2.frs (fun q => q.elim (hn (40 + c) (Or.inl (by omega))) (fun q => by unfold NC at q; omega)) (by omega)) rfl (by repeat' first | exact (fun _ h => absurd h List.not_mem_nil) | refine List.forall_mem_cons.mpr ⟨?_, ?_⟩ | exact nRf_r (by omega) | rfl) (by repeat' first | exact (fun _ h => absurd h List.not_mem_nil) | refine List.forall_mem_cons.mpr ⟨?_, ?_⟩ | exact nRf_r (by omega) | rfl) dX2_init_26 ⟨(by show 1 + 32 * c + 1 ≤ 193; omega), (by show 6 + 332 * c + 2 ≤ 1998; omega)⟩ ?_
      refine V_dup dX2_init_29 rfl ?_
      refine V_wok (fun hok => ?_)
      have k22 : wK (nw w1 (40 + c) 2 0) 22 = 3 := by rw [nwK_n (by omega)]; exact h1.2.1.1
      have k27 : wK (nw w1 (40 + c) 2 0) 27 = 15 := by rw [nwK_n (by omega)]; exact h1.2.1.2.2.1
      have k40 : wK (nw w1 (40 + c) 2 0) (40 + c) = 2 := nwK_s _ _ _ _
      refine V_callINr (As := []) (st := _) (c_X1_init c (fun a => (U a ∨ a = 27 ∨ NC c a) ∨ a = 40 + c) (nw w1 (40 + c) 2 0) k40 (Zr.nw _ _ _ _) (Us.made (U := fun a => (U a ∨ a = 27 ∨ NC c a) ∨ a = 40 + c) (h1.2.2.mono (fun a q => Or.inl q)) (n := 40 + c) (Or.inr rfl) 2 0) (Or.inr rfl) (fun a ha q => hnA c hc a ha q) hc) kX2_17 rfl rfl ⟨(Nat.le_of_ble_eq_true rfl), (Nat.le_of_ble_eq_true rfl)⟩ dX2_init_30 rfl rfl (Nat.le_of_ble_eq_true rfl) ⟨(by show 1 + 32 * c + 1 + 31 ≤ 193; omega), (by show 6 + 332 * c + 2 + 330 ≤ 1998; omega)⟩ (by exact Or.inr ⟨rfl, by repeat' first | exact (fun _ h => absurd h List.not_mem_nil) | refine List.forall_mem_cons.mpr ⟨?_, ?_⟩ | exact trivial | exact Or.inl (hok.2.1 22 (by rw [k22]; decide)) | exact Or.inl (hok.2.1 27 (by rw [k27]; decide)) | exact Or.inl (hok.2.1 (40 + c) (by rw [k40]; decide)), by repeat' first | exact (fun _ h => absurd h List.not_mem_nil) | refine List.forall_mem_cons.mpr ⟨?_, ?_⟩ | exact trivial | exact Or.inl (hok.2.1 22 (by rw [k22]; decide)) | exact Or.inl (hok.2.1 27 (by rw [k27]; decide)) | exact Or.inl (hok.2.1 (40 + c) (by rw [k40]; decide))⟩) (fun w3 hw3 => ?_)
      obtain ⟨g3, f3, u3⟩ := hw3
      have k27b : wK w3 27 = 15 := (g3 27 (by unfold mnN; omega)).1.trans k27
      have n27b : wN w3 27 = 6 := (g3 27 (by unfold mnN; omega)).2.1.trans ((nwN_n (by omega)).trans h1.2.1.2.2.2.1)
      refine V_aast15 (ci := 1) (by first | exact k27b | exact f3.1) (by first | exact k27b | exact f3.1) (by decide) rfl rfl (by rw [n27b]; exact nI_in hc (by decide)) dX2_init_33 ?_
      rw [nI_cl (by omega)]
      refine S_iinc (L' := [(0, _), (1, _)]) dX2_init_34 rfl rfl rfl rfl ?_
      rw [nI_inc]
      refine V_goto (tgt := 15) dX2_init_37 (by decide) ?_
      exact V_cs (by show 1 + 32 * c + 1 + 31 = 1 + 32 * (c + 1); omega) (by show 6 + 332 * c + 2 + 330 = 6 + 332 * (c + 1); omega) (ih (c + 1) _ (by omega) (h1.next hc g3 f3 u3))
  first | refine V_aload_n dX2_init_0 rfl rfl ?_ | refine V_aload_nN dX2_init_0 rfl rfl ?_
  refine V_objInit koX2_3 dX2_init_1 (Nat.le_of_ble_eq_true rfl) (Nat.le_of_ble_eq_true rfl) ?_
  first | refine V_aload_n dX2_init_4 rfl rfl ?_ | refine V_aload_nN dX2_init_4 rfl rfl ?_
  refine V_bipush (v := 6) dX2_init_5 (by decide) ?_
  refine V_newq (n := 27) (kd := 15) (t0 := 4) (len := 6) (by simp) w_qc (by rfl) (by decide) (by exact hU.frs hf (by omega)) rfl (by repeat' first | exact (fun _ h => absurd h List.not_mem_nil) | refine List.forall_mem_cons.mpr ⟨?_, ?_⟩ | exact nRf_r (by omega) | rfl) (by repeat' first | exact (fun _ h => absurd h List.not_mem_nil) | refine List.forall_mem_cons.mpr ⟨?_, ?_⟩ | exact nRf_r (by omega) | rfl) dX2_init_7 ⟨(Nat.le_of_ble_eq_true rfl), (Nat.le_of_ble_eq_true rfl)⟩ ?_
  first | refine V_putr (by first | exact hK | (rw [nwK_n (by decide)]; exact hK)) pfX2_11 (fun _ => rfl) dX2_init_10 (fun _ => ⟨rfl, rfl⟩) ?_ | refine V_putrN (by first | exact hK | (rw [nwK_n (by decide)]; exact hK)) pfX2_11 (fun _ => rfl) dX2_init_10 ⟨rfl, rfl⟩ ?_
  refine V_iconst (v := 0) dX2_init_13 (by decide) ?_
  refine S_istore_n (L' := [(0, _), (1, _)]) dX2_init_14 rfl rfl rfl ?_
  exact loop 6 0 _ (by omega) ⟨(KeN.nw w (Or.inr (Or.inl rfl)) 15 6).trans (KeN.sR _ (Or.inl rfl) 0 _), ⟨by rw [wK_sR, nwK_n (by decide)]; exact hK, by rw [wI_sR, nwI_n (by decide)]; exact hz.1, by rw [wK_sR, nwK_s], by rw [wN_sR, nwN_s], by rw [wR_sR, if_pos ⟨rfl, rfl⟩], fun d hd => absurd hd (Nat.not_lt_zero _)⟩, (hU.one 27 15 6 22 0).mono (fun a q => q.elim Or.inl (fun q => Or.inr (Or.inl q)))⟩
