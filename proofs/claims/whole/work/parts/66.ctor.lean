/-! THE REFERENCE'S CONSTRUCTOR -/
def vI (m j : Nat) : Int32 := if j = 11 ∧ 11 < m then -1 else if j = 22 ∧ 22 < m then 3 else if j = 27 ∧ 27 < m then -1 else 0
/-- the reference in the making: its fields below m are there -/
def FA (w : Wd) (m : Nat) (w1 : Wd) : Prop := wK w1 400 = 9 ∧ (∀ k, k < 35 → wK w1 (401 + k) = (if k < m then kM (401 + k) else 0)) ∧ (∀ k, k < m → kM (401 + k) ≠ 0 → wN w1 (401 + k) = nM (401 + k) ∧ wR w1 400 k = some (401 + k) ∧ Zr w1 (401 + k)) ∧ (∀ j, wI w1 400 j = vI m j) ∧ wJ w1 400 = (fun _ => 0) ∧ KeN moA w w1 ∧ Us (fun a => a < 300 ∨ a = 400 ∨ (401 ≤ a ∧ a < 401 + m)) w1
theorem vI_s {m j : Nat} (h : m ≠ 11) (h2 : m ≠ 22) (h3 : m ≠ 27) : vI (m + 1) j = vI m j := by
  have e1 : (11 < m + 1) ↔ (11 < m) := by omega
  have e2 : (22 < m + 1) ↔ (22 < m) := by omega
  have e3 : (27 < m + 1) ↔ (27 < m) := by omega
  unfold vI
  simp only [e1, e2, e3]
theorem FA.frs {w w1 : Wd} {m : Nat} (h : FA w m w1) : Frs w1 (401 + m) := h.2.2.2.2.2.2.frs (by omega) (by omega)
theorem FA.arr {w w1 : Wd} {m kd len : Nat} (h : FA w m w1) (hm : m < 35) (h0 : kM (401 + m) = kd) (h1 : kd ≠ 0) (h2 : nM (401 + m) = len) (h3 : m ≠ 11) (h4 : m ≠ 22) (h5 : m ≠ 27) : FA w (m + 1) (sR (nw w1 (401 + m) kd len) 400 m (some (401 + m))) := by
  obtain ⟨a1, a2, a3, a4, a5, a6, a7⟩ := h
  refine ⟨by rw [wK_sR, nwK_n (by omega)]; exact a1, fun k hk => ?_, fun k hk hne => ?_, fun j => ?_, by rw [wJ_sR, nwJ_n (by omega)]; exact a5, a6.trans ((KeN.nw w1 (show moA (401 + m) by unfold moA; omega) kd len).trans (KeN.sR _ (show moA 400 by unfold moA; omega) m _)), ?_⟩
  · rw [wK_sR]
    by_cases e : k = m
    · rw [e, nwK_s, if_pos (by omega), h0]
    · rw [nwK_n (by omega), a2 k hk]
      by_cases c : k < m
      · rw [if_pos c, if_pos (by omega)]
      · rw [if_neg c, if_neg (by omega)]
  · by_cases e : k = m
    · subst e
      refine ⟨by rw [wN_sR, nwN_s, h2], by rw [wR_sR, if_pos ⟨rfl, rfl⟩], ?_⟩
      exact ⟨by rw [wI_sR, nwI_s], by rw [wJ_sR, nwJ_s]⟩
    · obtain ⟨q1, q2, q3⟩ := a3 k (by omega) hne
      refine ⟨by rw [wN_sR, nwN_n (by omega)]; exact q1, by rw [wR_sR, if_neg (fun q => e q.2), nwR_n (by omega)]; exact q2, by rw [wI_sR, nwI_n (by omega)]; exact q3.1, by rw [wJ_sR, nwJ_n (by omega)]; exact q3.2⟩
  · rw [wI_sR, nwI_n (by omega), a4, vI_s h3 h4 h5]
  · exact (a7.one (401 + m) kd len 400 m).mono (fun a q => by omega)
theorem FA.num {w w1 : Wd} {m : Nat} {x : Int32} (h : FA w m w1) (hm : m < 35) (h0 : kM (401 + m) = 0) (hx : (m = 11 ∧ x = -1) ∨ (m = 22 ∧ x = 3) ∨ (m = 27 ∧ x = -1)) : FA w (m + 1) (sI w1 400 m x) := by
  obtain ⟨a1, a2, a3, a4, a5, a6, a7⟩ := h
  refine ⟨a1, fun k hk => ?_, fun k hk hne => ?_, fun j => ?_, a5, a6.trans (KeN.sI _ (show moA 400 by unfold moA; omega) m _), (a7.mono (fun a q => by omega)).like rfl rfl⟩
  · rw [wK_sI, a2 k hk]
    by_cases e : k = m
    · rw [e, if_neg (by omega), if_pos (by omega), h0]
    · by_cases c : k < m
      · rw [if_pos c, if_pos (by omega)]
      · rw [if_neg c, if_neg (by omega)]
  · have e : k ≠ m := fun q => hne (by rw [q]; exact h0)
    obtain ⟨q1, q2, q3⟩ := a3 k (by omega) hne
    exact ⟨q1, q2, by rw [sI_ne w1 x (show 401 + k ≠ 400 by omega)]; exact q3.1, q3.2⟩
  · rw [wI_sI, a4]
    rcases hx with ⟨rfl, rfl⟩ | ⟨rfl, rfl⟩ | ⟨rfl, rfl⟩
    · by_cases e : j = 11
      · subst e; decide
      · unfold vI; simp [e]
    · by_cases e : j = 22
      · subst e; decide
      · unfold vI; simp [e]
    · by_cases e : j = 27
      · subst e; decide
      · unfold vI; simp [e]
theorem FA.skip {w w1 : Wd} {m : Nat} (h : FA w m w1) (h0 : kM (401 + m) = 0) (h3 : m ≠ 11) (h4 : m ≠ 22) (h5 : m ≠ 27) : FA w (m + 1) w1 := by
  obtain ⟨a1, a2, a3, a4, a5, a6, a7⟩ := h
  refine ⟨a1, fun k hk => ?_, fun k hk hne => a3 k (by have : k ≠ m := fun q => hne (by rw [q]; exact h0); omega) hne, fun j => by rw [a4, vI_s h3 h4 h5], a5, a6, a7.mono (fun a q => by omega)⟩
  rw [a2 k hk]
  by_cases e : k = m
  · rw [e, if_neg (by omega), if_pos (by omega), h0]
  · by_cases c : k < m
    · rw [if_pos c, if_pos (by omega)]
    · rw [if_neg c, if_neg (by omega)]
theorem FA.lay {w w1 : Wd} (h : FA w 35 w1) : LayM w1 := by
  obtain ⟨a1, a2, a3, -⟩ := h
  refine ⟨fun n h1 h2 => ?_, fun k hk hne => (a3 k hk hne).2.1⟩
  by_cases e : n = 400
  · subst e; exact ⟨a1, fun _ q => by omega⟩
  · have := a2 (n - 401) (by omega)
    rw [if_pos (by omega), show 401 + (n - 401) = n by omega] at this
    refine ⟨this, fun hne _ => ?_⟩
    have := (a3 (n - 401) (by omega) (by rw [show 401 + (n - 401) = n by omega]; exact hne)).1
    rwa [show 401 + (n - 401) = n by omega] at this
theorem FA.zero {w w1 : Wd} (h : FA w 35 w1) (n : Nat) (h1 : 401 ≤ n) (h2 : n < 436) (h3 : kM n ≠ 0) (j : Nat) : wI w1 n j = 0 := by
  have := (h.2.2.1 (n - 401) (by omega) (by rw [show 401 + (n - 401) = n by omega]; exact h3)).2.2.1
  rw [show 401 + (n - 401) = n by omega] at this
  rw [this]
theorem cs_t {t : Nat} (h1 : 9 ≤ t) (h2 : t < 36) : -sinF (t - 9) = cosF t ∧ cosF (t - 9) = sinF t :=
  (by decide +kernel : ∀ t : Fin 36, 9 ≤ t.val → -sinF (t.val - 9) = cosF t.val ∧ cosF (t.val - 9) = sinF t.val) ⟨t, h2⟩ h1
abbrev tbI (a _ : Nat) : Prop := a = 401 ∨ a = 402
def TI (w1 : Wd) (t : Nat) (w2 : Wd) : Prop := Kp tbI noA w1 w2 ∧ ∀ i, i < t → wI w2 401 i = cosF i ∧ wI w2 402 i = sinF i
theorem TI.next {w1 w2 : Wd} {t : Nat} (h : TI w1 t w2) (h1 : 9 ≤ t) (h2 : t < 36) : TI w1 (t + 1) (sI (sI w2 401 t (-sinF (t - 9))) 402 t (cosF (t - 9))) := by
  obtain ⟨e1, e2⟩ := cs_t h1 h2
  rw [e1, e2]
  refine ⟨h.1.trans ((Kp.sI w2 (Or.inl rfl) _).trans (Kp.sI _ (Or.inr rfl) _)), fun i hi => ?_⟩
  by_cases e : i = t
  · rw [e]; exact ⟨(rdI_nn (by decide)).trans rdI_eq, rdI_eq⟩
  · rw [rdI_nn (by decide), rdI_ne e, rdI_ne e, rdI_nn (by decide)]
    exact h.2 i (by omega)
def TF (w1 : Wd) (n m : Nat) (w2 : Wd) : Prop := Kp tbI noA w1 w2 ∧ (∀ i, i < n → wI w2 401 i = cosF i) ∧ (∀ i, i < m → wI w2 402 i = sinF i)
theorem TF.c {w1 w2 : Wd} {n m : Nat} {x : Int32} (h : TF w1 n m w2) (hx : x = cosF n) : TF w1 (n + 1) m (sI w2 401 n x) := by
  refine ⟨h.1.trans (Kp.sI w2 (Or.inl rfl) _), fun i hi => ?_, fun i hi => ?_⟩
  · by_cases e : i = n
    · rw [e, hx]; exact rdI_eq
    · rw [rdI_ne e]; exact h.2.1 i (by omega)
  · rw [rdI_nn (by decide)]; exact h.2.2 i hi
theorem TF.s {w1 w2 : Wd} {n m : Nat} {x : Int32} (h : TF w1 n m w2) (hx : x = sinF m) : TF w1 n (m + 1) (sI w2 402 m x) := by
  refine ⟨h.1.trans (Kp.sI w2 (Or.inr rfl) _), fun i hi => ?_, fun i hi => ?_⟩
  · rw [rdI_nn (by decide)]; exact h.2.1 i hi
  · by_cases e : i = m
    · rw [e, hx]; exact rdI_eq
    · rw [rdI_ne e]; exact h.2.2 i (by omega)
theorem ref_fin {w w1 w2 w3 : Wd} (h : FA w 35 w1) (ht : TI w1 36 w2) (g : Kp (fun a _ => a = 431) noA w2 w3) (hf : ∀ s, s < 4 → wI w3 431 s = -1) : RM z00 w3 ∧ KeN moA w w3 ∧ Us (uN 0) w3 := by
  have g2 : Kp (fun a _ => a = 401 ∨ a = 402 ∨ a = 431) noA w1 w3 := (ht.1.mono (fun a j z => by unfold tbI at z; omega) (fun _ _ z => z)).trans (g.mono (fun a j z => by omega) (fun _ _ z => z))
  have hl : LayM w3 := h.lay.kp g2
  have h4 : ∀ j, wI w3 400 j = vI 35 j := fun j => (g2.I (by omega)).trans (h.2.2.2.1 j)
  have hJ : ∀ j, wJ w3 400 j = 0 := fun j => (g2.J (fun z => z)).trans (congrFun h.2.2.2.2.1 j)
  have hz : ∀ n j, 403 ≤ n → n < 436 → kM n ≠ 0 → n ≠ 431 → wI w3 n j = 0 := fun n j q1 q2 q3 q4 => (g2.I (by omega)).trans (h.zero n (by omega) q2 q3 j)
  refine ⟨⟨⟨hl, ⟨Nat.zero_le _, fun b hb => absurd hb (Nat.not_lt_zero _), fun b hb => by cases hb⟩, fun t ht' => ?_, h4 2, h4 11, hJ 9, hJ 10, fun b hb => absurd hb (Nat.not_lt_zero _)⟩, ⟨hl, Nat.zero_le _, fun c hc => ⟨hz 419 c (by decide) (by decide) (by decide) (by decide), Nat.zero_le _, fun f hf' => absurd hf' (Nat.not_lt_zero _)⟩⟩, ⟨h4 20, Nat.zero_le _, fun i hi => absurd hi (Nat.not_lt_zero _)⟩, ⟨h4 22, (by decide : 3 ≤ 100), h4 27, h4 28, Nat.zero_le _, fun n hn => absurd hn (Nat.not_lt_zero _)⟩, fun s hs => ⟨Nat.zero_le _, hz 432 s (by decide) (by decide) (by decide) (by decide), hf s hs, fun f hf' => by cases hf'⟩, h4 34, Nat.zero_le _⟩, h.2.2.2.2.2.1.trans (KeN.of (g2.keep (fun a j z => by unfold moA; omega) (fun _ _ z => z.elim))), ?_⟩
  · rw [g.I (by omega), g.I (by omega)]
    exact ht.2 t ht'
  · exact (h.2.2.2.2.2.2.mono (fun a q => by unfold uN; omega)).like g2.2.2.2.1 g2.2.2.1

set_option maxHeartbeats 4000000 in
set_option maxRecDepth 100000 in
theorem c_X9_init (w : Wd) (hK : wK w 400 = 9) (hz : Zr w 400) (hU : Us (fun a => a < 300 ∨ a = 400) w) : Cc yX9_init mX9_init [.ref 400] w (fun r w' => r = none ∧ (RM z00 w' ∧ KeN moA w w' ∧ Us (uN 0) w')) := by
  refine Cc.of (by decide) rfl rfl (Nat.le_of_ble_eq_true rfl) (fun X => ?_)
  change V _ X _ 0 [(0, _)] [] _ (0, 0)
  have lpS : ∀ w1, FA w 35 w1 → ∀ w2, TI w1 36 w2 → ∀ (d s : Nat) (w3 : Wd), s + d = 4 → Kp (fun a _ => a = 431) noA w2 w3 → (∀ i, i < s → wI w3 431 i = -1) → V mX9_init X (mq mX9_init X (fun r w' => r = none ∧ (RM z00 w' ∧ KeN moA w w' ∧ Us (uN 0) w'))) 413 [(0, .ref 400), (1, .int (nI s))] [] w3 (24, 35436) := by
    intro w1 h1 w2 h2 d
    induction d with
    | zero =>
      intro s w3 hd g3 m3
      have hl : LayM w3 := (h1.lay.kp h2.1).kp g3
      obtain rfl : s = 4 := hd
      refine V_iload_n dX9_init_413 rfl rfl ?_
      refine V_iconst (v := 4) dX9_init_414 (by decide) ?_
      refine V_icmp_ge (tgt := 431) dX9_init_415 (by decide) (fun c415 => ?_) (fun c415 => False.elim (by exact c415 (by decide)))
      refine V_vret rfl dX9_init_431 (Nat.le_of_ble_eq_true rfl) (Nat.le_of_ble_eq_true rfl) ?_
      exact ⟨rfl, ref_fin h1 h2 g3 m3⟩
    | succ d ih =>
      intro s w3 hd g3 m3
      have hl : LayM w3 := (h1.lay.kp h2.1).kp g3
      refine V_iload_n dX9_init_413 rfl rfl ?_
      refine V_iconst (v := 4) dX9_init_414 (by decide) ?_
      refine V_icmp_ge (tgt := 431) dX9_init_415 (by decide) (fun c415 => False.elim (by exact nI_ge (a := s) (b := 4) (by omega) (by decide) c415)) (fun c415 => ?_)
      first | refine V_aload_n dX9_init_418 rfl rfl ?_ | refine V_aload_nN dX9_init_418 rfl rfl ?_
      first | refine V_getr (by exact hl.k _ rfl rfl) fX9_82 dX9_init_419 (by exact (hl.r 30 rfl (by decide) : _ = some 431)) ?_ | refine V_getrN (by exact hl.k _ rfl rfl) fX9_82 dX9_init_419 (by exact (hl.r 30 rfl (by decide) : _ = some 431)) ?_
      refine V_iload_n dX9_init_422 rfl rfl ?_
      refine V_iconst (v := -1) dX9_init_423 (by decide) ?_
      refine G_iast (j := s) (by exact hl.k _ rfl rfl) (by rfl) (by exact hl.lt 431 (m := 4) rfl rfl (by decide) rfl (by omega)) (by exact hl.nlt 431 rfl rfl (by decide)) dX9_init_424 ?_
      refine S_iinc (L' := [(0, _), (1, _)]) dX9_init_425 rfl rfl rfl rfl ?_
      rw [nI_inc]
      refine V_goto (tgt := 413) dX9_init_428 (by decide) ?_
      refine ih (s + 1) _ (by omega) (g3.trans (Kp.sI (SI := fun a _ => a = 431) (SJ := noA) w3 (show 431 = 431 from rfl) _)) (fun i hi => ?_)
      by_cases e : i = s
      · rw [e]; exact rdI_eq
      · rw [rdI_ne e]; exact m3 i (by omega)
  have lpT : ∀ w1, FA w 35 w1 → ∀ (d t : Nat) (w2 : Wd), t + d = 36 → 9 ≤ t → TI w1 t w2 → V mX9_init X (mq mX9_init X (fun r w' => r = none ∧ (RM z00 w' ∧ KeN moA w w' ∧ Us (uN 0) w'))) 368 [(0, .ref 400), (1, .int (nI t))] [] w2 (24, 35436) := by
    intro w1 h1 d
    induction d with
    | zero =>
      intro t w2 hd h9 h2
      have hl : LayM w2 := h1.lay.kp h2.1
      obtain rfl : t = 36 := hd
      refine V_iload_n dX9_init_368 rfl rfl ?_
      refine V_bipush (v := 36) dX9_init_369 (by decide) ?_
      refine V_icmp_ge (tgt := 411) dX9_init_371 (by decide) (fun c371 => ?_) (fun c371 => False.elim (by exact c371 (by decide)))
      refine V_iconst (v := 0) dX9_init_411 (by decide) ?_
      refine S_istore_n (L' := [(0, _), (1, _)]) dX9_init_412 rfl rfl rfl ?_
      exact lpS w1 h1 w2 h2 4 0 w2 rfl (Kp.refl _ _ _) (fun i hi => absurd hi (Nat.not_lt_zero _))
    | succ d ih =>
      intro t w2 hd h9 h2
      have hl : LayM w2 := h1.lay.kp h2.1
      refine V_iload_n dX9_init_368 rfl rfl ?_
      refine V_bipush (v := 36) dX9_init_369 (by decide) ?_
      refine V_icmp_ge (tgt := 411) dX9_init_371 (by decide) (fun c371 => False.elim (by exact nI_ge (a := t) (b := 36) (by omega) (by decide) c371)) (fun c371 => ?_)
      first | refine V_aload_n dX9_init_374 rfl rfl ?_ | refine V_aload_nN dX9_init_374 rfl rfl ?_
      first | refine V_getr (by exact hl.k _ rfl rfl) fX9_7 dX9_init_375 (by exact (hl.r 0 rfl (by decide) : _ = some 401)) ?_ | refine V_getrN (by exact hl.k _ rfl rfl) fX9_7 dX9_init_375 (by exact (hl.r 0 rfl (by decide) : _ = some 401)) ?_
      refine V_iload_n dX9_init_378 rfl rfl ?_
      first | refine V_aload_n dX9_init_379 rfl rfl ?_ | refine V_aload_nN dX9_init_379 rfl rfl ?_
      first | refine V_getr (by exact hl.k _ rfl rfl) fX9_13 dX9_init_380 (by exact (hl.r 1 rfl (by decide) : _ = some 402)) ?_ | refine V_getrN (by exact hl.k _ rfl rfl) fX9_13 dX9_init_380 (by exact (hl.r 1 rfl (by decide) : _ = some 402)) ?_
      refine V_iload_n dX9_init_383 rfl rfl ?_
      refine V_bipush (v := 9) dX9_init_384 (by decide) ?_
      refine V_isub dX9_init_386 ?_
      refine G_iald (j := t - 9) (by exact hl.k _ rfl rfl) (by exact pk_sub (b := 9) h9) (by exact hl.lt 402 (m := 36) rfl rfl (by decide) rfl (by omega)) (by exact hl.nlt 402 rfl rfl (by decide)) dX9_init_387 (by exact (h2.2 (t - 9) (by omega)).2) ?_
      refine V_ineg dX9_init_388 ?_
      refine G_iast (j := t) (by exact hl.k _ rfl rfl) (by rfl) (by exact hl.lt 401 (m := 36) rfl rfl (by decide) rfl (by omega)) (by exact hl.nlt 401 rfl rfl (by decide)) dX9_init_389 ?_
      first | refine V_aload_n dX9_init_390 rfl rfl ?_ | refine V_aload_nN dX9_init_390 rfl rfl ?_
      first | refine V_getr (by exact hl.k _ rfl rfl) fX9_13 dX9_init_391 (by exact (hl.r 1 rfl (by decide) : _ = some 402)) ?_ | refine V_getrN (by exact hl.k _ rfl rfl) fX9_13 dX9_init_391 (by exact (hl.r 1 rfl (by decide) : _ = some 402)) ?_
      refine V_iload_n dX9_init_394 rfl rfl ?_
      first | refine V_aload_n dX9_init_395 rfl rfl ?_ | refine V_aload_nN dX9_init_395 rfl rfl ?_
      first | refine V_getr (by exact hl.k _ rfl rfl) fX9_7 dX9_init_396 (by exact (hl.r 0 rfl (by decide) : _ = some 401)) ?_ | refine V_getrN (by exact hl.k _ rfl rfl) fX9_7 dX9_init_396 (by exact (hl.r 0 rfl (by decide) : _ = some 401)) ?_
      refine V_iload_n dX9_init_399 rfl rfl ?_
      refine V_bipush (v := 9) dX9_init_400 (by decide) ?_
      refine V_isub dX9_init_402 ?_
      refine G_iald (j := t - 9) (by exact hl.k _ rfl rfl) (by exact pk_sub (b := 9) h9) (by exact hl.lt 401 (m := 36) rfl rfl (by decide) rfl (by omega)) (by exact hl.nlt 401 rfl rfl (by decide)) dX9_init_403 (by exact (rdI_ne (by omega)).trans (h2.2 (t - 9) (by omega)).1) ?_
      refine G_iast (j := t) (by exact hl.k _ rfl rfl) (by rfl) (by exact hl.lt 402 (m := 36) rfl rfl (by decide) rfl (by omega)) (by exact hl.nlt 402 rfl rfl (by decide)) dX9_init_404 ?_
      refine S_iinc (L' := [(0, _), (1, _)]) dX9_init_405 rfl rfl rfl rfl ?_
      rw [nI_inc]
      refine V_goto (tgt := 368) dX9_init_408 (by decide) ?_
      exact ih (t + 1) _ (by omega) (by omega) (h2.next h9 (by omega))
  have u356 : ∀ w1, FA w 35 w1 → ∀ w2, TF w1 9 8 w2 → V mX9_init X (mq mX9_init X (fun r w' => r = none ∧ (RM z00 w' ∧ KeN moA w w' ∧ Us (uN 0) w'))) 356 [(0, .ref 400)] [] w2 (24, 35436) := by
    intro w1 h1 w2 h2
    have hl : LayM w2 := h1.lay.kp h2.1
    first | refine V_aload_n dX9_init_356 rfl rfl ?_ | refine V_aload_nN dX9_init_356 rfl rfl ?_
    first | refine V_getr (by exact hl.k _ rfl rfl) fX9_13 dX9_init_357 (by exact (hl.r 1 rfl (by decide) : _ = some 402)) ?_ | refine V_getrN (by exact hl.k _ rfl rfl) fX9_13 dX9_init_357 (by exact (hl.r 1 rfl (by decide) : _ = some 402)) ?_
    refine V_bipush (v := 8) dX9_init_360 (by decide) ?_
    refine V_bipush (v := 63) dX9_init_362 (by decide) ?_
    refine G_iast (j := 8) (by exact hl.k _ rfl rfl) (by rfl) (by exact hl.lt 402 (m := 36) rfl rfl (by decide) rfl (by decide)) (by exact hl.nlt 402 rfl rfl (by decide)) dX9_init_364 ?_
    refine V_bipush (v := 9) dX9_init_365 (by decide) ?_
    refine S_istore_n (L' := [(0, _), (1, _)]) dX9_init_367 rfl rfl rfl ?_
    exact lpT w1 h1 27 9 _ rfl (Nat.le_refl _) ⟨(TF.s (x := 63) h2 (by decide)).1, fun i hi => ⟨(TF.s (x := 63) h2 (by decide)).2.1 i hi, (TF.s (x := 63) h2 (by decide)).2.2 i hi⟩⟩
  have u347 : ∀ w1, FA w 35 w1 → ∀ w2, TF w1 9 7 w2 → V mX9_init X (mq mX9_init X (fun r w' => r = none ∧ (RM z00 w' ∧ KeN moA w w' ∧ Us (uN 0) w'))) 347 [(0, .ref 400)] [] w2 (24, 35436) := by
    intro w1 h1 w2 h2
    have hl : LayM w2 := h1.lay.kp h2.1
    first | refine V_aload_n dX9_init_347 rfl rfl ?_ | refine V_aload_nN dX9_init_347 rfl rfl ?_
    first | refine V_getr (by exact hl.k _ rfl rfl) fX9_13 dX9_init_348 (by exact (hl.r 1 rfl (by decide) : _ = some 402)) ?_ | refine V_getrN (by exact hl.k _ rfl rfl) fX9_13 dX9_init_348 (by exact (hl.r 1 rfl (by decide) : _ = some 402)) ?_
    refine V_bipush (v := 7) dX9_init_351 (by decide) ?_
    refine V_bipush (v := 60) dX9_init_353 (by decide) ?_
    refine G_iast (j := 7) (by exact hl.k _ rfl rfl) (by rfl) (by exact hl.lt 402 (m := 36) rfl rfl (by decide) rfl (by decide)) (by exact hl.nlt 402 rfl rfl (by decide)) dX9_init_355 ?_
    exact u356 w1 h1 _ (h2.s (by decide))
  have u338 : ∀ w1, FA w 35 w1 → ∀ w2, TF w1 9 6 w2 → V mX9_init X (mq mX9_init X (fun r w' => r = none ∧ (RM z00 w' ∧ KeN moA w w' ∧ Us (uN 0) w'))) 338 [(0, .ref 400)] [] w2 (24, 35436) := by
    intro w1 h1 w2 h2
    have hl : LayM w2 := h1.lay.kp h2.1
    first | refine V_aload_n dX9_init_338 rfl rfl ?_ | refine V_aload_nN dX9_init_338 rfl rfl ?_
    first | refine V_getr (by exact hl.k _ rfl rfl) fX9_13 dX9_init_339 (by exact (hl.r 1 rfl (by decide) : _ = some 402)) ?_ | refine V_getrN (by exact hl.k _ rfl rfl) fX9_13 dX9_init_339 (by exact (hl.r 1 rfl (by decide) : _ = some 402)) ?_
    refine V_bipush (v := 6) dX9_init_342 (by decide) ?_
    refine V_bipush (v := 56) dX9_init_344 (by decide) ?_
    refine G_iast (j := 6) (by exact hl.k _ rfl rfl) (by rfl) (by exact hl.lt 402 (m := 36) rfl rfl (by decide) rfl (by decide)) (by exact hl.nlt 402 rfl rfl (by decide)) dX9_init_346 ?_
    exact u347 w1 h1 _ (h2.s (by decide))
  have u330 : ∀ w1, FA w 35 w1 → ∀ w2, TF w1 9 5 w2 → V mX9_init X (mq mX9_init X (fun r w' => r = none ∧ (RM z00 w' ∧ KeN moA w w' ∧ Us (uN 0) w'))) 330 [(0, .ref 400)] [] w2 (24, 35436) := by
    intro w1 h1 w2 h2
    have hl : LayM w2 := h1.lay.kp h2.1
    first | refine V_aload_n dX9_init_330 rfl rfl ?_ | refine V_aload_nN dX9_init_330 rfl rfl ?_
    first | refine V_getr (by exact hl.k _ rfl rfl) fX9_13 dX9_init_331 (by exact (hl.r 1 rfl (by decide) : _ = some 402)) ?_ | refine V_getrN (by exact hl.k _ rfl rfl) fX9_13 dX9_init_331 (by exact (hl.r 1 rfl (by decide) : _ = some 402)) ?_
    refine V_iconst (v := 5) dX9_init_334 (by decide) ?_
    refine V_bipush (v := 52) dX9_init_335 (by decide) ?_
    refine G_iast (j := 5) (by exact hl.k _ rfl rfl) (by rfl) (by exact hl.lt 402 (m := 36) rfl rfl (by decide) rfl (by decide)) (by exact hl.nlt 402 rfl rfl (by decide)) dX9_init_337 ?_
    exact u338 w1 h1 _ (h2.s (by decide))
  have u322 : ∀ w1, FA w 35 w1 → ∀ w2, TF w1 9 4 w2 → V mX9_init X (mq mX9_init X (fun r w' => r = none ∧ (RM z00 w' ∧ KeN moA w w' ∧ Us (uN 0) w'))) 322 [(0, .ref 400)] [] w2 (24, 35436) := by
    intro w1 h1 w2 h2
    have hl : LayM w2 := h1.lay.kp h2.1
    first | refine V_aload_n dX9_init_322 rfl rfl ?_ | refine V_aload_nN dX9_init_322 rfl rfl ?_
    first | refine V_getr (by exact hl.k _ rfl rfl) fX9_13 dX9_init_323 (by exact (hl.r 1 rfl (by decide) : _ = some 402)) ?_ | refine V_getrN (by exact hl.k _ rfl rfl) fX9_13 dX9_init_323 (by exact (hl.r 1 rfl (by decide) : _ = some 402)) ?_
    refine V_iconst (v := 4) dX9_init_326 (by decide) ?_
    refine V_bipush (v := 39) dX9_init_327 (by decide) ?_
    refine G_iast (j := 4) (by exact hl.k _ rfl rfl) (by rfl) (by exact hl.lt 402 (m := 36) rfl rfl (by decide) rfl (by decide)) (by exact hl.nlt 402 rfl rfl (by decide)) dX9_init_329 ?_
    exact u330 w1 h1 _ (h2.s (by decide))
  have u314 : ∀ w1, FA w 35 w1 → ∀ w2, TF w1 9 3 w2 → V mX9_init X (mq mX9_init X (fun r w' => r = none ∧ (RM z00 w' ∧ KeN moA w w' ∧ Us (uN 0) w'))) 314 [(0, .ref 400)] [] w2 (24, 35436) := by
    intro w1 h1 w2 h2
    have hl : LayM w2 := h1.lay.kp h2.1
    first | refine V_aload_n dX9_init_314 rfl rfl ?_ | refine V_aload_nN dX9_init_314 rfl rfl ?_
    first | refine V_getr (by exact hl.k _ rfl rfl) fX9_13 dX9_init_315 (by exact (hl.r 1 rfl (by decide) : _ = some 402)) ?_ | refine V_getrN (by exact hl.k _ rfl rfl) fX9_13 dX9_init_315 (by exact (hl.r 1 rfl (by decide) : _ = some 402)) ?_
    refine V_iconst (v := 3) dX9_init_318 (by decide) ?_
    refine V_bipush (v := 33) dX9_init_319 (by decide) ?_
    refine G_iast (j := 3) (by exact hl.k _ rfl rfl) (by rfl) (by exact hl.lt 402 (m := 36) rfl rfl (by decide) rfl (by decide)) (by exact hl.nlt 402 rfl rfl (by decide)) dX9_init_321 ?_
    exact u322 w1 h1 _ (h2.s (by decide))
  have u306 : ∀ w1, FA w 35 w1 → ∀ w2, TF w1 9 2 w2 → V mX9_init X (mq mX9_init X (fun r w' => r = none ∧ (RM z00 w' ∧ KeN moA w w' ∧ Us (uN 0) w'))) 306 [(0, .ref 400)] [] w2 (24, 35436) := by
    intro w1 h1 w2 h2
    have hl : LayM w2 := h1.lay.kp h2.1
    first | refine V_aload_n dX9_init_306 rfl rfl ?_ | refine V_aload_nN dX9_init_306 rfl rfl ?_
    first | refine V_getr (by exact hl.k _ rfl rfl) fX9_13 dX9_init_307 (by exact (hl.r 1 rfl (by decide) : _ = some 402)) ?_ | refine V_getrN (by exact hl.k _ rfl rfl) fX9_13 dX9_init_307 (by exact (hl.r 1 rfl (by decide) : _ = some 402)) ?_
    refine V_iconst (v := 2) dX9_init_310 (by decide) ?_
    refine V_bipush (v := 25) dX9_init_311 (by decide) ?_
    refine G_iast (j := 2) (by exact hl.k _ rfl rfl) (by rfl) (by exact hl.lt 402 (m := 36) rfl rfl (by decide) rfl (by decide)) (by exact hl.nlt 402 rfl rfl (by decide)) dX9_init_313 ?_
    exact u314 w1 h1 _ (h2.s (by decide))
  have u298 : ∀ w1, FA w 35 w1 → ∀ w2, TF w1 9 1 w2 → V mX9_init X (mq mX9_init X (fun r w' => r = none ∧ (RM z00 w' ∧ KeN moA w w' ∧ Us (uN 0) w'))) 298 [(0, .ref 400)] [] w2 (24, 35436) := by
    intro w1 h1 w2 h2
    have hl : LayM w2 := h1.lay.kp h2.1
    first | refine V_aload_n dX9_init_298 rfl rfl ?_ | refine V_aload_nN dX9_init_298 rfl rfl ?_
    first | refine V_getr (by exact hl.k _ rfl rfl) fX9_13 dX9_init_299 (by exact (hl.r 1 rfl (by decide) : _ = some 402)) ?_ | refine V_getrN (by exact hl.k _ rfl rfl) fX9_13 dX9_init_299 (by exact (hl.r 1 rfl (by decide) : _ = some 402)) ?_
    refine V_iconst (v := 1) dX9_init_302 (by decide) ?_
    refine V_bipush (v := 16) dX9_init_303 (by decide) ?_
    refine G_iast (j := 1) (by exact hl.k _ rfl rfl) (by rfl) (by exact hl.lt 402 (m := 36) rfl rfl (by decide) rfl (by decide)) (by exact hl.nlt 402 rfl rfl (by decide)) dX9_init_305 ?_
    exact u306 w1 h1 _ (h2.s (by decide))
  have u291 : ∀ w1, FA w 35 w1 → ∀ w2, TF w1 9 0 w2 → V mX9_init X (mq mX9_init X (fun r w' => r = none ∧ (RM z00 w' ∧ KeN moA w w' ∧ Us (uN 0) w'))) 291 [(0, .ref 400)] [] w2 (24, 35436) := by
    intro w1 h1 w2 h2
    have hl : LayM w2 := h1.lay.kp h2.1
    first | refine V_aload_n dX9_init_291 rfl rfl ?_ | refine V_aload_nN dX9_init_291 rfl rfl ?_
    first | refine V_getr (by exact hl.k _ rfl rfl) fX9_13 dX9_init_292 (by exact (hl.r 1 rfl (by decide) : _ = some 402)) ?_ | refine V_getrN (by exact hl.k _ rfl rfl) fX9_13 dX9_init_292 (by exact (hl.r 1 rfl (by decide) : _ = some 402)) ?_
    refine V_iconst (v := 0) dX9_init_295 (by decide) ?_
    refine V_iconst (v := 0) dX9_init_296 (by decide) ?_
    refine G_iast (j := 0) (by exact hl.k _ rfl rfl) (by rfl) (by exact hl.lt 402 (m := 36) rfl rfl (by decide) rfl (by decide)) (by exact hl.nlt 402 rfl rfl (by decide)) dX9_init_297 ?_
    exact u298 w1 h1 _ (h2.s (by decide))
  have u282 : ∀ w1, FA w 35 w1 → ∀ w2, TF w1 8 0 w2 → V mX9_init X (mq mX9_init X (fun r w' => r = none ∧ (RM z00 w' ∧ KeN moA w w' ∧ Us (uN 0) w'))) 282 [(0, .ref 400)] [] w2 (24, 35436) := by
    intro w1 h1 w2 h2
    have hl : LayM w2 := h1.lay.kp h2.1
    first | refine V_aload_n dX9_init_282 rfl rfl ?_ | refine V_aload_nN dX9_init_282 rfl rfl ?_
    first | refine V_getr (by exact hl.k _ rfl rfl) fX9_7 dX9_init_283 (by exact (hl.r 0 rfl (by decide) : _ = some 401)) ?_ | refine V_getrN (by exact hl.k _ rfl rfl) fX9_7 dX9_init_283 (by exact (hl.r 0 rfl (by decide) : _ = some 401)) ?_
    refine V_bipush (v := 8) dX9_init_286 (by decide) ?_
    refine V_bipush (v := 16) dX9_init_288 (by decide) ?_
    refine G_iast (j := 8) (by exact hl.k _ rfl rfl) (by rfl) (by exact hl.lt 401 (m := 36) rfl rfl (by decide) rfl (by decide)) (by exact hl.nlt 401 rfl rfl (by decide)) dX9_init_290 ?_
    exact u291 w1 h1 _ (h2.c (by decide))
  have u273 : ∀ w1, FA w 35 w1 → ∀ w2, TF w1 7 0 w2 → V mX9_init X (mq mX9_init X (fun r w' => r = none ∧ (RM z00 w' ∧ KeN moA w w' ∧ Us (uN 0) w'))) 273 [(0, .ref 400)] [] w2 (24, 35436) := by
    intro w1 h1 w2 h2
    have hl : LayM w2 := h1.lay.kp h2.1
    first | refine V_aload_n dX9_init_273 rfl rfl ?_ | refine V_aload_nN dX9_init_273 rfl rfl ?_
    first | refine V_getr (by exact hl.k _ rfl rfl) fX9_7 dX9_init_274 (by exact (hl.r 0 rfl (by decide) : _ = some 401)) ?_ | refine V_getrN (by exact hl.k _ rfl rfl) fX9_7 dX9_init_274 (by exact (hl.r 0 rfl (by decide) : _ = some 401)) ?_
    refine V_bipush (v := 7) dX9_init_277 (by decide) ?_
    refine V_bipush (v := 25) dX9_init_279 (by decide) ?_
    refine G_iast (j := 7) (by exact hl.k _ rfl rfl) (by rfl) (by exact hl.lt 401 (m := 36) rfl rfl (by decide) rfl (by decide)) (by exact hl.nlt 401 rfl rfl (by decide)) dX9_init_281 ?_
    exact u282 w1 h1 _ (h2.c (by decide))
  have u264 : ∀ w1, FA w 35 w1 → ∀ w2, TF w1 6 0 w2 → V mX9_init X (mq mX9_init X (fun r w' => r = none ∧ (RM z00 w' ∧ KeN moA w w' ∧ Us (uN 0) w'))) 264 [(0, .ref 400)] [] w2 (24, 35436) := by
    intro w1 h1 w2 h2
    have hl : LayM w2 := h1.lay.kp h2.1
    first | refine V_aload_n dX9_init_264 rfl rfl ?_ | refine V_aload_nN dX9_init_264 rfl rfl ?_
    first | refine V_getr (by exact hl.k _ rfl rfl) fX9_7 dX9_init_265 (by exact (hl.r 0 rfl (by decide) : _ = some 401)) ?_ | refine V_getrN (by exact hl.k _ rfl rfl) fX9_7 dX9_init_265 (by exact (hl.r 0 rfl (by decide) : _ = some 401)) ?_
    refine V_bipush (v := 6) dX9_init_268 (by decide) ?_
    refine V_bipush (v := 33) dX9_init_270 (by decide) ?_
    refine G_iast (j := 6) (by exact hl.k _ rfl rfl) (by rfl) (by exact hl.lt 401 (m := 36) rfl rfl (by decide) rfl (by decide)) (by exact hl.nlt 401 rfl rfl (by decide)) dX9_init_272 ?_
    exact u273 w1 h1 _ (h2.c (by decide))
  have u256 : ∀ w1, FA w 35 w1 → ∀ w2, TF w1 5 0 w2 → V mX9_init X (mq mX9_init X (fun r w' => r = none ∧ (RM z00 w' ∧ KeN moA w w' ∧ Us (uN 0) w'))) 256 [(0, .ref 400)] [] w2 (24, 35436) := by
    intro w1 h1 w2 h2
    have hl : LayM w2 := h1.lay.kp h2.1
    first | refine V_aload_n dX9_init_256 rfl rfl ?_ | refine V_aload_nN dX9_init_256 rfl rfl ?_
    first | refine V_getr (by exact hl.k _ rfl rfl) fX9_7 dX9_init_257 (by exact (hl.r 0 rfl (by decide) : _ = some 401)) ?_ | refine V_getrN (by exact hl.k _ rfl rfl) fX9_7 dX9_init_257 (by exact (hl.r 0 rfl (by decide) : _ = some 401)) ?_
    refine V_iconst (v := 5) dX9_init_260 (by decide) ?_
    refine V_bipush (v := 39) dX9_init_261 (by decide) ?_
    refine G_iast (j := 5) (by exact hl.k _ rfl rfl) (by rfl) (by exact hl.lt 401 (m := 36) rfl rfl (by decide) rfl (by decide)) (by exact hl.nlt 401 rfl rfl (by decide)) dX9_init_263 ?_
    exact u264 w1 h1 _ (h2.c (by decide))
  have u248 : ∀ w1, FA w 35 w1 → ∀ w2, TF w1 4 0 w2 → V mX9_init X (mq mX9_init X (fun r w' => r = none ∧ (RM z00 w' ∧ KeN moA w w' ∧ Us (uN 0) w'))) 248 [(0, .ref 400)] [] w2 (24, 35436) := by
    intro w1 h1 w2 h2
    have hl : LayM w2 := h1.lay.kp h2.1
    first | refine V_aload_n dX9_init_248 rfl rfl ?_ | refine V_aload_nN dX9_init_248 rfl rfl ?_
    first | refine V_getr (by exact hl.k _ rfl rfl) fX9_7 dX9_init_249 (by exact (hl.r 0 rfl (by decide) : _ = some 401)) ?_ | refine V_getrN (by exact hl.k _ rfl rfl) fX9_7 dX9_init_249 (by exact (hl.r 0 rfl (by decide) : _ = some 401)) ?_
    refine V_iconst (v := 4) dX9_init_252 (by decide) ?_
    refine V_bipush (v := 52) dX9_init_253 (by decide) ?_
    refine G_iast (j := 4) (by exact hl.k _ rfl rfl) (by rfl) (by exact hl.lt 401 (m := 36) rfl rfl (by decide) rfl (by decide)) (by exact hl.nlt 401 rfl rfl (by decide)) dX9_init_255 ?_
    exact u256 w1 h1 _ (h2.c (by decide))
  have u240 : ∀ w1, FA w 35 w1 → ∀ w2, TF w1 3 0 w2 → V mX9_init X (mq mX9_init X (fun r w' => r = none ∧ (RM z00 w' ∧ KeN moA w w' ∧ Us (uN 0) w'))) 240 [(0, .ref 400)] [] w2 (24, 35436) := by
    intro w1 h1 w2 h2
    have hl : LayM w2 := h1.lay.kp h2.1
    first | refine V_aload_n dX9_init_240 rfl rfl ?_ | refine V_aload_nN dX9_init_240 rfl rfl ?_
    first | refine V_getr (by exact hl.k _ rfl rfl) fX9_7 dX9_init_241 (by exact (hl.r 0 rfl (by decide) : _ = some 401)) ?_ | refine V_getrN (by exact hl.k _ rfl rfl) fX9_7 dX9_init_241 (by exact (hl.r 0 rfl (by decide) : _ = some 401)) ?_
    refine V_iconst (v := 3) dX9_init_244 (by decide) ?_
    refine V_bipush (v := 56) dX9_init_245 (by decide) ?_
    refine G_iast (j := 3) (by exact hl.k _ rfl rfl) (by rfl) (by exact hl.lt 401 (m := 36) rfl rfl (by decide) rfl (by decide)) (by exact hl.nlt 401 rfl rfl (by decide)) dX9_init_247 ?_
    exact u248 w1 h1 _ (h2.c (by decide))
  have u232 : ∀ w1, FA w 35 w1 → ∀ w2, TF w1 2 0 w2 → V mX9_init X (mq mX9_init X (fun r w' => r = none ∧ (RM z00 w' ∧ KeN moA w w' ∧ Us (uN 0) w'))) 232 [(0, .ref 400)] [] w2 (24, 35436) := by
    intro w1 h1 w2 h2
    have hl : LayM w2 := h1.lay.kp h2.1
    first | refine V_aload_n dX9_init_232 rfl rfl ?_ | refine V_aload_nN dX9_init_232 rfl rfl ?_
    first | refine V_getr (by exact hl.k _ rfl rfl) fX9_7 dX9_init_233 (by exact (hl.r 0 rfl (by decide) : _ = some 401)) ?_ | refine V_getrN (by exact hl.k _ rfl rfl) fX9_7 dX9_init_233 (by exact (hl.r 0 rfl (by decide) : _ = some 401)) ?_
    refine V_iconst (v := 2) dX9_init_236 (by decide) ?_
    refine V_bipush (v := 60) dX9_init_237 (by decide) ?_
    refine G_iast (j := 2) (by exact hl.k _ rfl rfl) (by rfl) (by exact hl.lt 401 (m := 36) rfl rfl (by decide) rfl (by decide)) (by exact hl.nlt 401 rfl rfl (by decide)) dX9_init_239 ?_
    exact u240 w1 h1 _ (h2.c (by decide))
  have u224 : ∀ w1, FA w 35 w1 → ∀ w2, TF w1 1 0 w2 → V mX9_init X (mq mX9_init X (fun r w' => r = none ∧ (RM z00 w' ∧ KeN moA w w' ∧ Us (uN 0) w'))) 224 [(0, .ref 400)] [] w2 (24, 35436) := by
    intro w1 h1 w2 h2
    have hl : LayM w2 := h1.lay.kp h2.1
    first | refine V_aload_n dX9_init_224 rfl rfl ?_ | refine V_aload_nN dX9_init_224 rfl rfl ?_
    first | refine V_getr (by exact hl.k _ rfl rfl) fX9_7 dX9_init_225 (by exact (hl.r 0 rfl (by decide) : _ = some 401)) ?_ | refine V_getrN (by exact hl.k _ rfl rfl) fX9_7 dX9_init_225 (by exact (hl.r 0 rfl (by decide) : _ = some 401)) ?_
    refine V_iconst (v := 1) dX9_init_228 (by decide) ?_
    refine V_bipush (v := 63) dX9_init_229 (by decide) ?_
    refine G_iast (j := 1) (by exact hl.k _ rfl rfl) (by rfl) (by exact hl.lt 401 (m := 36) rfl rfl (by decide) rfl (by decide)) (by exact hl.nlt 401 rfl rfl (by decide)) dX9_init_231 ?_
    exact u232 w1 h1 _ (h2.c (by decide))
  have u216 : ∀ w1, FA w 35 w1 → ∀ w2, TF w1 0 0 w2 → V mX9_init X (mq mX9_init X (fun r w' => r = none ∧ (RM z00 w' ∧ KeN moA w w' ∧ Us (uN 0) w'))) 216 [(0, .ref 400)] [] w2 (24, 35436) := by
    intro w1 h1 w2 h2
    have hl : LayM w2 := h1.lay.kp h2.1
    first | refine V_aload_n dX9_init_216 rfl rfl ?_ | refine V_aload_nN dX9_init_216 rfl rfl ?_
    first | refine V_getr (by exact hl.k _ rfl rfl) fX9_7 dX9_init_217 (by exact (hl.r 0 rfl (by decide) : _ = some 401)) ?_ | refine V_getrN (by exact hl.k _ rfl rfl) fX9_7 dX9_init_217 (by exact (hl.r 0 rfl (by decide) : _ = some 401)) ?_
    refine V_iconst (v := 0) dX9_init_220 (by decide) ?_
    refine V_bipush (v := 65) dX9_init_221 (by decide) ?_
    refine G_iast (j := 0) (by exact hl.k _ rfl rfl) (by rfl) (by exact hl.lt 401 (m := 36) rfl rfl (by decide) rfl (by decide)) (by exact hl.nlt 401 rfl rfl (by decide)) dX9_init_223 ?_
    exact u224 w1 h1 _ (h2.c (by decide))
  have t216 : ∀ w1, FA w 35 w1 → V mX9_init X (mq mX9_init X (fun r w' => r = none ∧ (RM z00 w' ∧ KeN moA w w' ∧ Us (uN 0) w'))) 216 [(0, .ref 400)] [] w1 (24, 35436) := fun w1 h1 => u216 w1 h1 w1 ⟨Kp.refl _ _ _, fun i hi => absurd hi (Nat.not_lt_zero _), fun i hi => absurd hi (Nat.not_lt_zero _)⟩
  have t208 : ∀ w1, FA w 33 w1 → V mX9_init X (mq mX9_init X (fun r w' => r = none ∧ (RM z00 w' ∧ KeN moA w w' ∧ Us (uN 0) w'))) 208 [(0, .ref 400)] [] w1 (23, 35376) := by
    intro w1 h1
    first | refine V_aload_n dX9_init_208 rfl rfl ?_ | refine V_aload_nN dX9_init_208 rfl rfl ?_
    refine V_bipush (v := 60) dX9_init_209 (by decide) ?_
    refine V_newa (n := 434) (kd := 11) (len := 60) (by simp) ac_int (by rfl) (by decide) (by exact h1.frs) rfl (by repeat' first | exact (fun _ h => absurd h List.not_mem_nil) | refine List.forall_mem_cons.mpr ⟨?_, ?_⟩ | exact nRf_r (by omega) | rfl) (by repeat' first | exact (fun _ h => absurd h List.not_mem_nil) | refine List.forall_mem_cons.mpr ⟨?_, ?_⟩ | exact nRf_r (by omega) | rfl) dX9_init_211 ⟨(Nat.le_of_ble_eq_true rfl), (Nat.le_of_ble_eq_true rfl)⟩ ?_
    first | refine V_putr (by repeat first | exact h1.1 | rw [wK_sR] | rw [nwK_n (by omega)]) pfX9_91 (fun _ => rfl) dX9_init_213 (fun _ => ⟨rfl, rfl⟩) ?_ | refine V_putrN (by repeat first | exact h1.1 | rw [wK_sR] | rw [nwK_n (by omega)]) pfX9_91 (fun _ => rfl) dX9_init_213 ⟨rfl, rfl⟩ ?_
    exact t216 _ (FA.skip (m := 34) (FA.arr (m := 33) h1 (by decide) rfl (by decide) rfl (by decide) (by decide) (by decide)) rfl (by decide) (by decide) (by decide))
  have t199 : ∀ w1, FA w 32 w1 → V mX9_init X (mq mX9_init X (fun r w' => r = none ∧ (RM z00 w' ∧ KeN moA w w' ∧ Us (uN 0) w'))) 199 [(0, .ref 400)] [] w1 (22, 35136) := by
    intro w1 h1
    first | refine V_aload_n dX9_init_199 rfl rfl ?_ | refine V_aload_nN dX9_init_199 rfl rfl ?_
    refine V_sipush (v := 240) dX9_init_200 (by decide) ?_
    refine V_newa (n := 433) (kd := 11) (len := 240) (by simp) ac_int (by rfl) (by decide) (by exact h1.frs) rfl (by repeat' first | exact (fun _ h => absurd h List.not_mem_nil) | refine List.forall_mem_cons.mpr ⟨?_, ?_⟩ | exact nRf_r (by omega) | rfl) (by repeat' first | exact (fun _ h => absurd h List.not_mem_nil) | refine List.forall_mem_cons.mpr ⟨?_, ?_⟩ | exact nRf_r (by omega) | rfl) dX9_init_203 ⟨(Nat.le_of_ble_eq_true rfl), (Nat.le_of_ble_eq_true rfl)⟩ ?_
    first | refine V_putr (by repeat first | exact h1.1 | rw [wK_sR] | rw [nwK_n (by omega)]) pfX9_88 (fun _ => rfl) dX9_init_205 (fun _ => ⟨rfl, rfl⟩) ?_ | refine V_putrN (by repeat first | exact h1.1 | rw [wK_sR] | rw [nwK_n (by omega)]) pfX9_88 (fun _ => rfl) dX9_init_205 ⟨rfl, rfl⟩ ?_
    exact t208 _ (FA.arr (m := 32) h1 (by decide) rfl (by decide) rfl (by decide) (by decide) (by decide))
  have t192 : ∀ w1, FA w 31 w1 → V mX9_init X (mq mX9_init X (fun r w' => r = none ∧ (RM z00 w' ∧ KeN moA w w' ∧ Us (uN 0) w'))) 192 [(0, .ref 400)] [] w1 (21, 35132) := by
    intro w1 h1
    first | refine V_aload_n dX9_init_192 rfl rfl ?_ | refine V_aload_nN dX9_init_192 rfl rfl ?_
    refine V_iconst (v := 4) dX9_init_193 (by decide) ?_
    refine V_newa (n := 432) (kd := 11) (len := 4) (by simp) ac_int (by rfl) (by decide) (by exact h1.frs) rfl (by repeat' first | exact (fun _ h => absurd h List.not_mem_nil) | refine List.forall_mem_cons.mpr ⟨?_, ?_⟩ | exact nRf_r (by omega) | rfl) (by repeat' first | exact (fun _ h => absurd h List.not_mem_nil) | refine List.forall_mem_cons.mpr ⟨?_, ?_⟩ | exact nRf_r (by omega) | rfl) dX9_init_194 ⟨(Nat.le_of_ble_eq_true rfl), (Nat.le_of_ble_eq_true rfl)⟩ ?_
    first | refine V_putr (by repeat first | exact h1.1 | rw [wK_sR] | rw [nwK_n (by omega)]) pfX9_85 (fun _ => rfl) dX9_init_196 (fun _ => ⟨rfl, rfl⟩) ?_ | refine V_putrN (by repeat first | exact h1.1 | rw [wK_sR] | rw [nwK_n (by omega)]) pfX9_85 (fun _ => rfl) dX9_init_196 ⟨rfl, rfl⟩ ?_
    exact t199 _ (FA.arr (m := 31) h1 (by decide) rfl (by decide) rfl (by decide) (by decide) (by decide))
  have t185 : ∀ w1, FA w 30 w1 → V mX9_init X (mq mX9_init X (fun r w' => r = none ∧ (RM z00 w' ∧ KeN moA w w' ∧ Us (uN 0) w'))) 185 [(0, .ref 400)] [] w1 (20, 35128) := by
    intro w1 h1
    first | refine V_aload_n dX9_init_185 rfl rfl ?_ | refine V_aload_nN dX9_init_185 rfl rfl ?_
    refine V_iconst (v := 4) dX9_init_186 (by decide) ?_
    refine V_newa (n := 431) (kd := 11) (len := 4) (by simp) ac_int (by rfl) (by decide) (by exact h1.frs) rfl (by repeat' first | exact (fun _ h => absurd h List.not_mem_nil) | refine List.forall_mem_cons.mpr ⟨?_, ?_⟩ | exact nRf_r (by omega) | rfl) (by repeat' first | exact (fun _ h => absurd h List.not_mem_nil) | refine List.forall_mem_cons.mpr ⟨?_, ?_⟩ | exact nRf_r (by omega) | rfl) dX9_init_187 ⟨(Nat.le_of_ble_eq_true rfl), (Nat.le_of_ble_eq_true rfl)⟩ ?_
    first | refine V_putr (by repeat first | exact h1.1 | rw [wK_sR] | rw [nwK_n (by omega)]) pfX9_82 (fun _ => rfl) dX9_init_189 (fun _ => ⟨rfl, rfl⟩) ?_ | refine V_putrN (by repeat first | exact h1.1 | rw [wK_sR] | rw [nwK_n (by omega)]) pfX9_82 (fun _ => rfl) dX9_init_189 ⟨rfl, rfl⟩ ?_
    exact t192 _ (FA.arr (m := 30) h1 (by decide) rfl (by decide) rfl (by decide) (by decide) (by decide))
  have t176 : ∀ w1, FA w 29 w1 → V mX9_init X (mq mX9_init X (fun r w' => r = none ∧ (RM z00 w' ∧ KeN moA w w' ∧ Us (uN 0) w'))) 176 [(0, .ref 400)] [] w1 (19, 34948) := by
    intro w1 h1
    first | refine V_aload_n dX9_init_176 rfl rfl ?_ | refine V_aload_nN dX9_init_176 rfl rfl ?_
    refine V_sipush (v := 180) dX9_init_177 (by decide) ?_
    refine V_newa (n := 430) (kd := 11) (len := 180) (by simp) ac_int (by rfl) (by decide) (by exact h1.frs) rfl (by repeat' first | exact (fun _ h => absurd h List.not_mem_nil) | refine List.forall_mem_cons.mpr ⟨?_, ?_⟩ | exact nRf_r (by omega) | rfl) (by repeat' first | exact (fun _ h => absurd h List.not_mem_nil) | refine List.forall_mem_cons.mpr ⟨?_, ?_⟩ | exact nRf_r (by omega) | rfl) dX9_init_180 ⟨(Nat.le_of_ble_eq_true rfl), (Nat.le_of_ble_eq_true rfl)⟩ ?_
    first | refine V_putr (by repeat first | exact h1.1 | rw [wK_sR] | rw [nwK_n (by omega)]) pfX9_79 (fun _ => rfl) dX9_init_182 (fun _ => ⟨rfl, rfl⟩) ?_ | refine V_putrN (by repeat first | exact h1.1 | rw [wK_sR] | rw [nwK_n (by omega)]) pfX9_79 (fun _ => rfl) dX9_init_182 ⟨rfl, rfl⟩ ?_
    exact t185 _ (FA.arr (m := 29) h1 (by decide) rfl (by decide) rfl (by decide) (by decide) (by decide))
  have t171 : ∀ w1, FA w 27 w1 → V mX9_init X (mq mX9_init X (fun r w' => r = none ∧ (RM z00 w' ∧ KeN moA w w' ∧ Us (uN 0) w'))) 171 [(0, .ref 400)] [] w1 (19, 34948) := by
    intro w1 h1
    first | refine V_aload_n dX9_init_171 rfl rfl ?_ | refine V_aload_nN dX9_init_171 rfl rfl ?_
    refine V_iconst (v := -1) dX9_init_172 (by decide) ?_
    refine V_puti (by repeat first | exact h1.1 | rw [wK_sR] | rw [nwK_n (by omega)]) pfX9_76 (fun h => nomatch h) dX9_init_173 ⟨rfl, rfl⟩ ?_
    exact t176 _ (FA.skip (m := 28) (FA.num (m := 27) h1 (by decide) rfl (by decide)) rfl (by decide) (by decide) (by decide))
  have t162 : ∀ w1, FA w 26 w1 → V mX9_init X (mq mX9_init X (fun r w' => r = none ∧ (RM z00 w' ∧ KeN moA w w' ∧ Us (uN 0) w'))) 162 [(0, .ref 400)] [] w1 (18, 34768) := by
    intro w1 h1
    first | refine V_aload_n dX9_init_162 rfl rfl ?_ | refine V_aload_nN dX9_init_162 rfl rfl ?_
    refine V_sipush (v := 180) dX9_init_163 (by decide) ?_
    refine V_newa (n := 427) (kd := 13) (len := 180) (by simp) ac_boolean (by rfl) (by decide) (by exact h1.frs) rfl (by repeat' first | exact (fun _ h => absurd h List.not_mem_nil) | refine List.forall_mem_cons.mpr ⟨?_, ?_⟩ | exact nRf_r (by omega) | rfl) (by repeat' first | exact (fun _ h => absurd h List.not_mem_nil) | refine List.forall_mem_cons.mpr ⟨?_, ?_⟩ | exact nRf_r (by omega) | rfl) dX9_init_166 ⟨(Nat.le_of_ble_eq_true rfl), (Nat.le_of_ble_eq_true rfl)⟩ ?_
    first | refine V_putr (by repeat first | exact h1.1 | rw [wK_sR] | rw [nwK_n (by omega)]) pfX9_73 (fun _ => rfl) dX9_init_168 (fun _ => ⟨rfl, rfl⟩) ?_ | refine V_putrN (by repeat first | exact h1.1 | rw [wK_sR] | rw [nwK_n (by omega)]) pfX9_73 (fun _ => rfl) dX9_init_168 ⟨rfl, rfl⟩ ?_
    exact t171 _ (FA.arr (m := 26) h1 (by decide) rfl (by decide) rfl (by decide) (by decide) (by decide))
  have t153 : ∀ w1, FA w 25 w1 → V mX9_init X (mq mX9_init X (fun r w' => r = none ∧ (RM z00 w' ∧ KeN moA w w' ∧ Us (uN 0) w'))) 153 [(0, .ref 400)] [] w1 (17, 34588) := by
    intro w1 h1
    first | refine V_aload_n dX9_init_153 rfl rfl ?_ | refine V_aload_nN dX9_init_153 rfl rfl ?_
    refine V_sipush (v := 180) dX9_init_154 (by decide) ?_
    refine V_newa (n := 426) (kd := 11) (len := 180) (by simp) ac_int (by rfl) (by decide) (by exact h1.frs) rfl (by repeat' first | exact (fun _ h => absurd h List.not_mem_nil) | refine List.forall_mem_cons.mpr ⟨?_, ?_⟩ | exact nRf_r (by omega) | rfl) (by repeat' first | exact (fun _ h => absurd h List.not_mem_nil) | refine List.forall_mem_cons.mpr ⟨?_, ?_⟩ | exact nRf_r (by omega) | rfl) dX9_init_157 ⟨(Nat.le_of_ble_eq_true rfl), (Nat.le_of_ble_eq_true rfl)⟩ ?_
    first | refine V_putr (by repeat first | exact h1.1 | rw [wK_sR] | rw [nwK_n (by omega)]) pfX9_70 (fun _ => rfl) dX9_init_159 (fun _ => ⟨rfl, rfl⟩) ?_ | refine V_putrN (by repeat first | exact h1.1 | rw [wK_sR] | rw [nwK_n (by omega)]) pfX9_70 (fun _ => rfl) dX9_init_159 ⟨rfl, rfl⟩ ?_
    exact t162 _ (FA.arr (m := 25) h1 (by decide) rfl (by decide) rfl (by decide) (by decide) (by decide))
  have t144 : ∀ w1, FA w 24 w1 → V mX9_init X (mq mX9_init X (fun r w' => r = none ∧ (RM z00 w' ∧ KeN moA w w' ∧ Us (uN 0) w'))) 144 [(0, .ref 400)] [] w1 (16, 34408) := by
    intro w1 h1
    first | refine V_aload_n dX9_init_144 rfl rfl ?_ | refine V_aload_nN dX9_init_144 rfl rfl ?_
    refine V_sipush (v := 180) dX9_init_145 (by decide) ?_
    refine V_newa (n := 425) (kd := 13) (len := 180) (by simp) ac_boolean (by rfl) (by decide) (by exact h1.frs) rfl (by repeat' first | exact (fun _ h => absurd h List.not_mem_nil) | refine List.forall_mem_cons.mpr ⟨?_, ?_⟩ | exact nRf_r (by omega) | rfl) (by repeat' first | exact (fun _ h => absurd h List.not_mem_nil) | refine List.forall_mem_cons.mpr ⟨?_, ?_⟩ | exact nRf_r (by omega) | rfl) dX9_init_148 ⟨(Nat.le_of_ble_eq_true rfl), (Nat.le_of_ble_eq_true rfl)⟩ ?_
    first | refine V_putr (by repeat first | exact h1.1 | rw [wK_sR] | rw [nwK_n (by omega)]) pfX9_66 (fun _ => rfl) dX9_init_150 (fun _ => ⟨rfl, rfl⟩) ?_ | refine V_putrN (by repeat first | exact h1.1 | rw [wK_sR] | rw [nwK_n (by omega)]) pfX9_66 (fun _ => rfl) dX9_init_150 ⟨rfl, rfl⟩ ?_
    exact t153 _ (FA.arr (m := 24) h1 (by decide) rfl (by decide) rfl (by decide) (by decide) (by decide))
  have t135 : ∀ w1, FA w 23 w1 → V mX9_init X (mq mX9_init X (fun r w' => r = none ∧ (RM z00 w' ∧ KeN moA w w' ∧ Us (uN 0) w'))) 135 [(0, .ref 400)] [] w1 (15, 2008) := by
    intro w1 h1
    first | refine V_aload_n dX9_init_135 rfl rfl ?_ | refine V_aload_nN dX9_init_135 rfl rfl ?_
    refine V_sipush (v := 32400) dX9_init_136 (by decide) ?_
    refine V_newa (n := 424) (kd := 11) (len := 32400) (by simp) ac_int (by rfl) (by decide) (by exact h1.frs) rfl (by repeat' first | exact (fun _ h => absurd h List.not_mem_nil) | refine List.forall_mem_cons.mpr ⟨?_, ?_⟩ | exact nRf_r (by omega) | rfl) (by repeat' first | exact (fun _ h => absurd h List.not_mem_nil) | refine List.forall_mem_cons.mpr ⟨?_, ?_⟩ | exact nRf_r (by omega) | rfl) dX9_init_139 ⟨(Nat.le_of_ble_eq_true rfl), (Nat.le_of_ble_eq_true rfl)⟩ ?_
    first | refine V_putr (by repeat first | exact h1.1 | rw [wK_sR] | rw [nwK_n (by omega)]) pfX9_63 (fun _ => rfl) dX9_init_141 (fun _ => ⟨rfl, rfl⟩) ?_ | refine V_putrN (by repeat first | exact h1.1 | rw [wK_sR] | rw [nwK_n (by omega)]) pfX9_63 (fun _ => rfl) dX9_init_141 ⟨rfl, rfl⟩ ?_
    exact t144 _ (FA.arr (m := 23) h1 (by decide) rfl (by decide) rfl (by decide) (by decide) (by decide))
  have t130 : ∀ w1, FA w 22 w1 → V mX9_init X (mq mX9_init X (fun r w' => r = none ∧ (RM z00 w' ∧ KeN moA w w' ∧ Us (uN 0) w'))) 130 [(0, .ref 400)] [] w1 (15, 2008) := by
    intro w1 h1
    first | refine V_aload_n dX9_init_130 rfl rfl ?_ | refine V_aload_nN dX9_init_130 rfl rfl ?_
    refine V_iconst (v := 3) dX9_init_131 (by decide) ?_
    refine V_puti (by repeat first | exact h1.1 | rw [wK_sR] | rw [nwK_n (by omega)]) pfX9_60 (fun h => nomatch h) dX9_init_132 ⟨rfl, rfl⟩ ?_
    exact t135 _ (FA.num (m := 22) h1 (by decide) rfl (by decide))
  have t122 : ∀ w1, FA w 21 w1 → V mX9_init X (mq mX9_init X (fun r w' => r = none ∧ (RM z00 w' ∧ KeN moA w w' ∧ Us (uN 0) w'))) 122 [(0, .ref 400)] [] w1 (14, 1978) := by
    intro w1 h1
    first | refine V_aload_n dX9_init_122 rfl rfl ?_ | refine V_aload_nN dX9_init_122 rfl rfl ?_
    refine V_bipush (v := 30) dX9_init_123 (by decide) ?_
    refine V_newa (n := 422) (kd := 11) (len := 30) (by simp) ac_int (by rfl) (by decide) (by exact h1.frs) rfl (by repeat' first | exact (fun _ h => absurd h List.not_mem_nil) | refine List.forall_mem_cons.mpr ⟨?_, ?_⟩ | exact nRf_r (by omega) | rfl) (by repeat' first | exact (fun _ h => absurd h List.not_mem_nil) | refine List.forall_mem_cons.mpr ⟨?_, ?_⟩ | exact nRf_r (by omega) | rfl) dX9_init_125 ⟨(Nat.le_of_ble_eq_true rfl), (Nat.le_of_ble_eq_true rfl)⟩ ?_
    first | refine V_putr (by repeat first | exact h1.1 | rw [wK_sR] | rw [nwK_n (by omega)]) pfX9_57 (fun _ => rfl) dX9_init_127 (fun _ => ⟨rfl, rfl⟩) ?_ | refine V_putrN (by repeat first | exact h1.1 | rw [wK_sR] | rw [nwK_n (by omega)]) pfX9_57 (fun _ => rfl) dX9_init_127 ⟨rfl, rfl⟩ ?_
    exact t130 _ (FA.arr (m := 21) h1 (by decide) rfl (by decide) rfl (by decide) (by decide) (by decide))
  have t113 : ∀ w1, FA w 19 w1 → V mX9_init X (mq mX9_init X (fun r w' => r = none ∧ (RM z00 w' ∧ KeN moA w w' ∧ Us (uN 0) w'))) 113 [(0, .ref 400)] [] w1 (13, 178) := by
    intro w1 h1
    first | refine V_aload_n dX9_init_113 rfl rfl ?_ | refine V_aload_nN dX9_init_113 rfl rfl ?_
    refine V_sipush (v := 1800) dX9_init_114 (by decide) ?_
    refine V_newa (n := 420) (kd := 11) (len := 1800) (by simp) ac_int (by rfl) (by decide) (by exact h1.frs) rfl (by repeat' first | exact (fun _ h => absurd h List.not_mem_nil) | refine List.forall_mem_cons.mpr ⟨?_, ?_⟩ | exact nRf_r (by omega) | rfl) (by repeat' first | exact (fun _ h => absurd h List.not_mem_nil) | refine List.forall_mem_cons.mpr ⟨?_, ?_⟩ | exact nRf_r (by omega) | rfl) dX9_init_117 ⟨(Nat.le_of_ble_eq_true rfl), (Nat.le_of_ble_eq_true rfl)⟩ ?_
    first | refine V_putr (by repeat first | exact h1.1 | rw [wK_sR] | rw [nwK_n (by omega)]) pfX9_54 (fun _ => rfl) dX9_init_119 (fun _ => ⟨rfl, rfl⟩) ?_ | refine V_putrN (by repeat first | exact h1.1 | rw [wK_sR] | rw [nwK_n (by omega)]) pfX9_54 (fun _ => rfl) dX9_init_119 ⟨rfl, rfl⟩ ?_
    exact t122 _ (FA.skip (m := 20) (FA.arr (m := 19) h1 (by decide) rfl (by decide) rfl (by decide) (by decide) (by decide)) rfl (by decide) (by decide) (by decide))
  have t105 : ∀ w1, FA w 18 w1 → V mX9_init X (mq mX9_init X (fun r w' => r = none ∧ (RM z00 w' ∧ KeN moA w w' ∧ Us (uN 0) w'))) 105 [(0, .ref 400)] [] w1 (12, 172) := by
    intro w1 h1
    first | refine V_aload_n dX9_init_105 rfl rfl ?_ | refine V_aload_nN dX9_init_105 rfl rfl ?_
    refine V_bipush (v := 6) dX9_init_106 (by decide) ?_
    refine V_newa (n := 419) (kd := 11) (len := 6) (by simp) ac_int (by rfl) (by decide) (by exact h1.frs) rfl (by repeat' first | exact (fun _ h => absurd h List.not_mem_nil) | refine List.forall_mem_cons.mpr ⟨?_, ?_⟩ | exact nRf_r (by omega) | rfl) (by repeat' first | exact (fun _ h => absurd h List.not_mem_nil) | refine List.forall_mem_cons.mpr ⟨?_, ?_⟩ | exact nRf_r (by omega) | rfl) dX9_init_108 ⟨(Nat.le_of_ble_eq_true rfl), (Nat.le_of_ble_eq_true rfl)⟩ ?_
    first | refine V_putr (by repeat first | exact h1.1 | rw [wK_sR] | rw [nwK_n (by omega)]) pfX9_51 (fun _ => rfl) dX9_init_110 (fun _ => ⟨rfl, rfl⟩) ?_ | refine V_putrN (by repeat first | exact h1.1 | rw [wK_sR] | rw [nwK_n (by omega)]) pfX9_51 (fun _ => rfl) dX9_init_110 ⟨rfl, rfl⟩ ?_
    exact t113 _ (FA.arr (m := 18) h1 (by decide) rfl (by decide) rfl (by decide) (by decide) (by decide))
  have t97 : ∀ w1, FA w 15 w1 → V mX9_init X (mq mX9_init X (fun r w' => r = none ∧ (RM z00 w' ∧ KeN moA w w' ∧ Us (uN 0) w'))) 97 [(0, .ref 400)] [] w1 (11, 162) := by
    intro w1 h1
    first | refine V_aload_n dX9_init_97 rfl rfl ?_ | refine V_aload_nN dX9_init_97 rfl rfl ?_
    refine V_bipush (v := 10) dX9_init_98 (by decide) ?_
    refine V_newa (n := 416) (kd := 12) (len := 10) (by simp) ac_long (by rfl) (by decide) (by exact h1.frs) rfl (by repeat' first | exact (fun _ h => absurd h List.not_mem_nil) | refine List.forall_mem_cons.mpr ⟨?_, ?_⟩ | exact nRf_r (by omega) | rfl) (by repeat' first | exact (fun _ h => absurd h List.not_mem_nil) | refine List.forall_mem_cons.mpr ⟨?_, ?_⟩ | exact nRf_r (by omega) | rfl) dX9_init_100 ⟨(Nat.le_of_ble_eq_true rfl), (Nat.le_of_ble_eq_true rfl)⟩ ?_
    first | refine V_putr (by repeat first | exact h1.1 | rw [wK_sR] | rw [nwK_n (by omega)]) pfX9_48 (fun _ => rfl) dX9_init_102 (fun _ => ⟨rfl, rfl⟩) ?_ | refine V_putrN (by repeat first | exact h1.1 | rw [wK_sR] | rw [nwK_n (by omega)]) pfX9_48 (fun _ => rfl) dX9_init_102 ⟨rfl, rfl⟩ ?_
    exact t105 _ (FA.skip (m := 17) (FA.skip (m := 16) (FA.arr (m := 15) h1 (by decide) rfl (by decide) rfl (by decide) (by decide) (by decide)) rfl (by decide) (by decide) (by decide)) rfl (by decide) (by decide) (by decide))
  have t89 : ∀ w1, FA w 14 w1 → V mX9_init X (mq mX9_init X (fun r w' => r = none ∧ (RM z00 w' ∧ KeN moA w w' ∧ Us (uN 0) w'))) 89 [(0, .ref 400)] [] w1 (10, 152) := by
    intro w1 h1
    first | refine V_aload_n dX9_init_89 rfl rfl ?_ | refine V_aload_nN dX9_init_89 rfl rfl ?_
    refine V_bipush (v := 10) dX9_init_90 (by decide) ?_
    refine V_newa (n := 415) (kd := 12) (len := 10) (by simp) ac_long (by rfl) (by decide) (by exact h1.frs) rfl (by repeat' first | exact (fun _ h => absurd h List.not_mem_nil) | refine List.forall_mem_cons.mpr ⟨?_, ?_⟩ | exact nRf_r (by omega) | rfl) (by repeat' first | exact (fun _ h => absurd h List.not_mem_nil) | refine List.forall_mem_cons.mpr ⟨?_, ?_⟩ | exact nRf_r (by omega) | rfl) dX9_init_92 ⟨(Nat.le_of_ble_eq_true rfl), (Nat.le_of_ble_eq_true rfl)⟩ ?_
    first | refine V_putr (by repeat first | exact h1.1 | rw [wK_sR] | rw [nwK_n (by omega)]) pfX9_45 (fun _ => rfl) dX9_init_94 (fun _ => ⟨rfl, rfl⟩) ?_ | refine V_putrN (by repeat first | exact h1.1 | rw [wK_sR] | rw [nwK_n (by omega)]) pfX9_45 (fun _ => rfl) dX9_init_94 ⟨rfl, rfl⟩ ?_
    exact t97 _ (FA.arr (m := 14) h1 (by decide) rfl (by decide) rfl (by decide) (by decide) (by decide))
  have t81 : ∀ w1, FA w 13 w1 → V mX9_init X (mq mX9_init X (fun r w' => r = none ∧ (RM z00 w' ∧ KeN moA w w' ∧ Us (uN 0) w'))) 81 [(0, .ref 400)] [] w1 (9, 142) := by
    intro w1 h1
    first | refine V_aload_n dX9_init_81 rfl rfl ?_ | refine V_aload_nN dX9_init_81 rfl rfl ?_
    refine V_bipush (v := 10) dX9_init_82 (by decide) ?_
    refine V_newa (n := 414) (kd := 12) (len := 10) (by simp) ac_long (by rfl) (by decide) (by exact h1.frs) rfl (by repeat' first | exact (fun _ h => absurd h List.not_mem_nil) | refine List.forall_mem_cons.mpr ⟨?_, ?_⟩ | exact nRf_r (by omega) | rfl) (by repeat' first | exact (fun _ h => absurd h List.not_mem_nil) | refine List.forall_mem_cons.mpr ⟨?_, ?_⟩ | exact nRf_r (by omega) | rfl) dX9_init_84 ⟨(Nat.le_of_ble_eq_true rfl), (Nat.le_of_ble_eq_true rfl)⟩ ?_
    first | refine V_putr (by repeat first | exact h1.1 | rw [wK_sR] | rw [nwK_n (by omega)]) pfX9_42 (fun _ => rfl) dX9_init_86 (fun _ => ⟨rfl, rfl⟩) ?_ | refine V_putrN (by repeat first | exact h1.1 | rw [wK_sR] | rw [nwK_n (by omega)]) pfX9_42 (fun _ => rfl) dX9_init_86 ⟨rfl, rfl⟩ ?_
    exact t89 _ (FA.arr (m := 13) h1 (by decide) rfl (by decide) rfl (by decide) (by decide) (by decide))
  have t73 : ∀ w1, FA w 12 w1 → V mX9_init X (mq mX9_init X (fun r w' => r = none ∧ (RM z00 w' ∧ KeN moA w w' ∧ Us (uN 0) w'))) 73 [(0, .ref 400)] [] w1 (8, 132) := by
    intro w1 h1
    first | refine V_aload_n dX9_init_73 rfl rfl ?_ | refine V_aload_nN dX9_init_73 rfl rfl ?_
    refine V_bipush (v := 10) dX9_init_74 (by decide) ?_
    refine V_newa (n := 413) (kd := 12) (len := 10) (by simp) ac_long (by rfl) (by decide) (by exact h1.frs) rfl (by repeat' first | exact (fun _ h => absurd h List.not_mem_nil) | refine List.forall_mem_cons.mpr ⟨?_, ?_⟩ | exact nRf_r (by omega) | rfl) (by repeat' first | exact (fun _ h => absurd h List.not_mem_nil) | refine List.forall_mem_cons.mpr ⟨?_, ?_⟩ | exact nRf_r (by omega) | rfl) dX9_init_76 ⟨(Nat.le_of_ble_eq_true rfl), (Nat.le_of_ble_eq_true rfl)⟩ ?_
    first | refine V_putr (by repeat first | exact h1.1 | rw [wK_sR] | rw [nwK_n (by omega)]) pfX9_38 (fun _ => rfl) dX9_init_78 (fun _ => ⟨rfl, rfl⟩) ?_ | refine V_putrN (by repeat first | exact h1.1 | rw [wK_sR] | rw [nwK_n (by omega)]) pfX9_38 (fun _ => rfl) dX9_init_78 ⟨rfl, rfl⟩ ?_
    exact t81 _ (FA.arr (m := 12) h1 (by decide) rfl (by decide) rfl (by decide) (by decide) (by decide))
  have t68 : ∀ w1, FA w 11 w1 → V mX9_init X (mq mX9_init X (fun r w' => r = none ∧ (RM z00 w' ∧ KeN moA w w' ∧ Us (uN 0) w'))) 68 [(0, .ref 400)] [] w1 (8, 132) := by
    intro w1 h1
    first | refine V_aload_n dX9_init_68 rfl rfl ?_ | refine V_aload_nN dX9_init_68 rfl rfl ?_
    refine V_iconst (v := -1) dX9_init_69 (by decide) ?_
    refine V_puti (by repeat first | exact h1.1 | rw [wK_sR] | rw [nwK_n (by omega)]) pfX9_34 (fun h => nomatch h) dX9_init_70 ⟨rfl, rfl⟩ ?_
    exact t73 _ (FA.num (m := 11) h1 (by decide) rfl (by decide))
  have t60 : ∀ w1, FA w 8 w1 → V mX9_init X (mq mX9_init X (fun r w' => r = none ∧ (RM z00 w' ∧ KeN moA w w' ∧ Us (uN 0) w'))) 60 [(0, .ref 400)] [] w1 (7, 122) := by
    intro w1 h1
    first | refine V_aload_n dX9_init_60 rfl rfl ?_ | refine V_aload_nN dX9_init_60 rfl rfl ?_
    refine V_bipush (v := 10) dX9_init_61 (by decide) ?_
    refine V_newa (n := 409) (kd := 11) (len := 10) (by simp) ac_int (by rfl) (by decide) (by exact h1.frs) rfl (by repeat' first | exact (fun _ h => absurd h List.not_mem_nil) | refine List.forall_mem_cons.mpr ⟨?_, ?_⟩ | exact nRf_r (by omega) | rfl) (by repeat' first | exact (fun _ h => absurd h List.not_mem_nil) | refine List.forall_mem_cons.mpr ⟨?_, ?_⟩ | exact nRf_r (by omega) | rfl) dX9_init_63 ⟨(Nat.le_of_ble_eq_true rfl), (Nat.le_of_ble_eq_true rfl)⟩ ?_
    first | refine V_putr (by repeat first | exact h1.1 | rw [wK_sR] | rw [nwK_n (by omega)]) pfX9_31 (fun _ => rfl) dX9_init_65 (fun _ => ⟨rfl, rfl⟩) ?_ | refine V_putrN (by repeat first | exact h1.1 | rw [wK_sR] | rw [nwK_n (by omega)]) pfX9_31 (fun _ => rfl) dX9_init_65 ⟨rfl, rfl⟩ ?_
    exact t68 _ (FA.skip (m := 10) (FA.skip (m := 9) (FA.arr (m := 8) h1 (by decide) rfl (by decide) rfl (by decide) (by decide) (by decide)) rfl (by decide) (by decide) (by decide)) rfl (by decide) (by decide) (by decide))
  have t52 : ∀ w1, FA w 7 w1 → V mX9_init X (mq mX9_init X (fun r w' => r = none ∧ (RM z00 w' ∧ KeN moA w w' ∧ Us (uN 0) w'))) 52 [(0, .ref 400)] [] w1 (6, 112) := by
    intro w1 h1
    first | refine V_aload_n dX9_init_52 rfl rfl ?_ | refine V_aload_nN dX9_init_52 rfl rfl ?_
    refine V_bipush (v := 10) dX9_init_53 (by decide) ?_
    refine V_newa (n := 408) (kd := 11) (len := 10) (by simp) ac_int (by rfl) (by decide) (by exact h1.frs) rfl (by repeat' first | exact (fun _ h => absurd h List.not_mem_nil) | refine List.forall_mem_cons.mpr ⟨?_, ?_⟩ | exact nRf_r (by omega) | rfl) (by repeat' first | exact (fun _ h => absurd h List.not_mem_nil) | refine List.forall_mem_cons.mpr ⟨?_, ?_⟩ | exact nRf_r (by omega) | rfl) dX9_init_55 ⟨(Nat.le_of_ble_eq_true rfl), (Nat.le_of_ble_eq_true rfl)⟩ ?_
    first | refine V_putr (by repeat first | exact h1.1 | rw [wK_sR] | rw [nwK_n (by omega)]) pfX9_28 (fun _ => rfl) dX9_init_57 (fun _ => ⟨rfl, rfl⟩) ?_ | refine V_putrN (by repeat first | exact h1.1 | rw [wK_sR] | rw [nwK_n (by omega)]) pfX9_28 (fun _ => rfl) dX9_init_57 ⟨rfl, rfl⟩ ?_
    exact t60 _ (FA.arr (m := 7) h1 (by decide) rfl (by decide) rfl (by decide) (by decide) (by decide))
  have t44 : ∀ w1, FA w 6 w1 → V mX9_init X (mq mX9_init X (fun r w' => r = none ∧ (RM z00 w' ∧ KeN moA w w' ∧ Us (uN 0) w'))) 44 [(0, .ref 400)] [] w1 (5, 102) := by
    intro w1 h1
    first | refine V_aload_n dX9_init_44 rfl rfl ?_ | refine V_aload_nN dX9_init_44 rfl rfl ?_
    refine V_bipush (v := 10) dX9_init_45 (by decide) ?_
    refine V_newa (n := 407) (kd := 11) (len := 10) (by simp) ac_int (by rfl) (by decide) (by exact h1.frs) rfl (by repeat' first | exact (fun _ h => absurd h List.not_mem_nil) | refine List.forall_mem_cons.mpr ⟨?_, ?_⟩ | exact nRf_r (by omega) | rfl) (by repeat' first | exact (fun _ h => absurd h List.not_mem_nil) | refine List.forall_mem_cons.mpr ⟨?_, ?_⟩ | exact nRf_r (by omega) | rfl) dX9_init_47 ⟨(Nat.le_of_ble_eq_true rfl), (Nat.le_of_ble_eq_true rfl)⟩ ?_
    first | refine V_putr (by repeat first | exact h1.1 | rw [wK_sR] | rw [nwK_n (by omega)]) pfX9_25 (fun _ => rfl) dX9_init_49 (fun _ => ⟨rfl, rfl⟩) ?_ | refine V_putrN (by repeat first | exact h1.1 | rw [wK_sR] | rw [nwK_n (by omega)]) pfX9_25 (fun _ => rfl) dX9_init_49 ⟨rfl, rfl⟩ ?_
    exact t52 _ (FA.arr (m := 6) h1 (by decide) rfl (by decide) rfl (by decide) (by decide) (by decide))
  have t36 : ∀ w1, FA w 5 w1 → V mX9_init X (mq mX9_init X (fun r w' => r = none ∧ (RM z00 w' ∧ KeN moA w w' ∧ Us (uN 0) w'))) 36 [(0, .ref 400)] [] w1 (4, 92) := by
    intro w1 h1
    first | refine V_aload_n dX9_init_36 rfl rfl ?_ | refine V_aload_nN dX9_init_36 rfl rfl ?_
    refine V_bipush (v := 10) dX9_init_37 (by decide) ?_
    refine V_newa (n := 406) (kd := 11) (len := 10) (by simp) ac_int (by rfl) (by decide) (by exact h1.frs) rfl (by repeat' first | exact (fun _ h => absurd h List.not_mem_nil) | refine List.forall_mem_cons.mpr ⟨?_, ?_⟩ | exact nRf_r (by omega) | rfl) (by repeat' first | exact (fun _ h => absurd h List.not_mem_nil) | refine List.forall_mem_cons.mpr ⟨?_, ?_⟩ | exact nRf_r (by omega) | rfl) dX9_init_39 ⟨(Nat.le_of_ble_eq_true rfl), (Nat.le_of_ble_eq_true rfl)⟩ ?_
    first | refine V_putr (by repeat first | exact h1.1 | rw [wK_sR] | rw [nwK_n (by omega)]) pfX9_22 (fun _ => rfl) dX9_init_41 (fun _ => ⟨rfl, rfl⟩) ?_ | refine V_putrN (by repeat first | exact h1.1 | rw [wK_sR] | rw [nwK_n (by omega)]) pfX9_22 (fun _ => rfl) dX9_init_41 ⟨rfl, rfl⟩ ?_
    exact t44 _ (FA.arr (m := 5) h1 (by decide) rfl (by decide) rfl (by decide) (by decide) (by decide))
  have t28 : ∀ w1, FA w 4 w1 → V mX9_init X (mq mX9_init X (fun r w' => r = none ∧ (RM z00 w' ∧ KeN moA w w' ∧ Us (uN 0) w'))) 28 [(0, .ref 400)] [] w1 (3, 82) := by
    intro w1 h1
    first | refine V_aload_n dX9_init_28 rfl rfl ?_ | refine V_aload_nN dX9_init_28 rfl rfl ?_
    refine V_bipush (v := 10) dX9_init_29 (by decide) ?_
    refine V_newa (n := 405) (kd := 11) (len := 10) (by simp) ac_int (by rfl) (by decide) (by exact h1.frs) rfl (by repeat' first | exact (fun _ h => absurd h List.not_mem_nil) | refine List.forall_mem_cons.mpr ⟨?_, ?_⟩ | exact nRf_r (by omega) | rfl) (by repeat' first | exact (fun _ h => absurd h List.not_mem_nil) | refine List.forall_mem_cons.mpr ⟨?_, ?_⟩ | exact nRf_r (by omega) | rfl) dX9_init_31 ⟨(Nat.le_of_ble_eq_true rfl), (Nat.le_of_ble_eq_true rfl)⟩ ?_
    first | refine V_putr (by repeat first | exact h1.1 | rw [wK_sR] | rw [nwK_n (by omega)]) pfX9_19 (fun _ => rfl) dX9_init_33 (fun _ => ⟨rfl, rfl⟩) ?_ | refine V_putrN (by repeat first | exact h1.1 | rw [wK_sR] | rw [nwK_n (by omega)]) pfX9_19 (fun _ => rfl) dX9_init_33 ⟨rfl, rfl⟩ ?_
    exact t36 _ (FA.arr (m := 4) h1 (by decide) rfl (by decide) rfl (by decide) (by decide) (by decide))
  have t20 : ∀ w1, FA w 3 w1 → V mX9_init X (mq mX9_init X (fun r w' => r = none ∧ (RM z00 w' ∧ KeN moA w w' ∧ Us (uN 0) w'))) 20 [(0, .ref 400)] [] w1 (2, 72) := by
    intro w1 h1
    first | refine V_aload_n dX9_init_20 rfl rfl ?_ | refine V_aload_nN dX9_init_20 rfl rfl ?_
    refine V_bipush (v := 10) dX9_init_21 (by decide) ?_
    refine V_newa (n := 404) (kd := 11) (len := 10) (by simp) ac_int (by rfl) (by decide) (by exact h1.frs) rfl (by repeat' first | exact (fun _ h => absurd h List.not_mem_nil) | refine List.forall_mem_cons.mpr ⟨?_, ?_⟩ | exact nRf_r (by omega) | rfl) (by repeat' first | exact (fun _ h => absurd h List.not_mem_nil) | refine List.forall_mem_cons.mpr ⟨?_, ?_⟩ | exact nRf_r (by omega) | rfl) dX9_init_23 ⟨(Nat.le_of_ble_eq_true rfl), (Nat.le_of_ble_eq_true rfl)⟩ ?_
    first | refine V_putr (by repeat first | exact h1.1 | rw [wK_sR] | rw [nwK_n (by omega)]) pfX9_16 (fun _ => rfl) dX9_init_25 (fun _ => ⟨rfl, rfl⟩) ?_ | refine V_putrN (by repeat first | exact h1.1 | rw [wK_sR] | rw [nwK_n (by omega)]) pfX9_16 (fun _ => rfl) dX9_init_25 ⟨rfl, rfl⟩ ?_
    exact t28 _ (FA.arr (m := 3) h1 (by decide) rfl (by decide) rfl (by decide) (by decide) (by decide))
  have t12 : ∀ w1, FA w 1 w1 → V mX9_init X (mq mX9_init X (fun r w' => r = none ∧ (RM z00 w' ∧ KeN moA w w' ∧ Us (uN 0) w'))) 12 [(0, .ref 400)] [] w1 (1, 36) := by
    intro w1 h1
    first | refine V_aload_n dX9_init_12 rfl rfl ?_ | refine V_aload_nN dX9_init_12 rfl rfl ?_
    refine V_bipush (v := 36) dX9_init_13 (by decide) ?_
    refine V_newa (n := 402) (kd := 11) (len := 36) (by simp) ac_int (by rfl) (by decide) (by exact h1.frs) rfl (by repeat' first | exact (fun _ h => absurd h List.not_mem_nil) | refine List.forall_mem_cons.mpr ⟨?_, ?_⟩ | exact nRf_r (by omega) | rfl) (by repeat' first | exact (fun _ h => absurd h List.not_mem_nil) | refine List.forall_mem_cons.mpr ⟨?_, ?_⟩ | exact nRf_r (by omega) | rfl) dX9_init_15 ⟨(Nat.le_of_ble_eq_true rfl), (Nat.le_of_ble_eq_true rfl)⟩ ?_
    first | refine V_putr (by repeat first | exact h1.1 | rw [wK_sR] | rw [nwK_n (by omega)]) pfX9_13 (fun _ => rfl) dX9_init_17 (fun _ => ⟨rfl, rfl⟩) ?_ | refine V_putrN (by repeat first | exact h1.1 | rw [wK_sR] | rw [nwK_n (by omega)]) pfX9_13 (fun _ => rfl) dX9_init_17 ⟨rfl, rfl⟩ ?_
    exact t20 _ (FA.skip (m := 2) (FA.arr (m := 1) h1 (by decide) rfl (by decide) rfl (by decide) (by decide) (by decide)) rfl (by decide) (by decide) (by decide))
  have t4 : ∀ w1, FA w 0 w1 → V mX9_init X (mq mX9_init X (fun r w' => r = none ∧ (RM z00 w' ∧ KeN moA w w' ∧ Us (uN 0) w'))) 4 [(0, .ref 400)] [] w1 (0, 0) := by
    intro w1 h1
    first | refine V_aload_n dX9_init_4 rfl rfl ?_ | refine V_aload_nN dX9_init_4 rfl rfl ?_
    refine V_bipush (v := 36) dX9_init_5 (by decide) ?_
    refine V_newa (n := 401) (kd := 11) (len := 36) (by simp) ac_int (by rfl) (by decide) (by exact h1.frs) rfl (by repeat' first | exact (fun _ h => absurd h List.not_mem_nil) | refine List.forall_mem_cons.mpr ⟨?_, ?_⟩ | exact nRf_r (by omega) | rfl) (by repeat' first | exact (fun _ h => absurd h List.not_mem_nil) | refine List.forall_mem_cons.mpr ⟨?_, ?_⟩ | exact nRf_r (by omega) | rfl) dX9_init_7 ⟨(Nat.le_of_ble_eq_true rfl), (Nat.le_of_ble_eq_true rfl)⟩ ?_
    first | refine V_putr (by repeat first | exact h1.1 | rw [wK_sR] | rw [nwK_n (by omega)]) pfX9_7 (fun _ => rfl) dX9_init_9 (fun _ => ⟨rfl, rfl⟩) ?_ | refine V_putrN (by repeat first | exact h1.1 | rw [wK_sR] | rw [nwK_n (by omega)]) pfX9_7 (fun _ => rfl) dX9_init_9 ⟨rfl, rfl⟩ ?_
    exact t12 _ (FA.arr (m := 0) h1 (by decide) rfl (by decide) rfl (by decide) (by decide) (by decide))
  first | refine V_aload_n dX9_init_0 rfl rfl ?_ | refine V_aload_nN dX9_init_0 rfl rfl ?_
  refine V_objInit koX9_1 dX9_init_1 (Nat.le_of_ble_eq_true rfl) (Nat.le_of_ble_eq_true rfl) ?_
  refine V_wok (fun hok => ?_)
  refine t4 _ ⟨hK, fun k hk => ?_, fun k hk => absurd hk (Nat.not_lt_zero _), fun j => ?_, hz.2, KeN.refl _ _, hU.mono (fun a q => by omega)⟩
  · rw [if_neg (Nat.not_lt_zero _)]
    exact Classical.not_not.mp (fun q => by have := hU.1 _ (hok.2.1 _ q); omega)
  · rw [hz.1]
    unfold vI
    simp
