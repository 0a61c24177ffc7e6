/-! THE REFERENCE: all that it holds; its skeleton -/
abbrev hoJ (a j : Nat) : Prop := (413 ≤ a ∧ a < 417) ∨ (a = 400 ∧ (j = 16 ∨ j = 17))
abbrev stJ (a j : Nat) : Prop := (413 ≤ a ∧ a < 417) ∨ (a = 400 ∧ (j = 9 ∨ j = 10))
abbrev skJ (a j : Nat) : Prop := (413 ≤ a ∧ a < 417) ∨ (a = 400 ∧ (j = 9 ∨ j = 10 ∨ j = 16 ∨ j = 17))
abbrev skI (a j : Nat) : Prop := (404 ≤ a ∧ a < 410) ∨ (a = 400 ∧ (j = 2 ∨ j = 11))
def MKy (n : Nat) (y : Nat → Nat) (w : Wd) : Prop := wI w 400 20 = nI n ∧ n ≤ 30 ∧ ∀ i, i < n → wI w 422 i = nI (y i)
def MGr (g : Nat × Option Nat × Nat × (Nat → Option Nat)) (w : Wd) : Prop := wI w 400 22 = nI g.1 ∧ g.1 ≤ 100 ∧ wI w 400 27 = oI g.2.1 ∧ wI w 400 28 = nI g.2.2.1 ∧ g.2.2.1 ≤ 180 ∧ ∀ n, n < g.2.2.1 → ∃ v, g.2.2.2 n = some v ∧ wI w 430 n = nI v
def MSh (h : Sh) (w : Wd) : Prop := ∀ s, s < 4 → h.2.1 s ≤ 60 ∧ wI w 432 s = nI (h.2.1 s) ∧ wI w 431 s = oI (h.1 s) ∧ ∀ f, h.1 s = some f → f ≤ 2 ∧ ∀ i, i < h.2.1 s → wI w 433 (60 * s + i) = h.2.2 s i
def RM (z : St) (w : Wd) : Prop := MSk (zK z) w ∧ MCp (kN (zK z)) (zQ z) w ∧ MKy (zN z) (zY z) w ∧ MGr z.2.2.2.1 w ∧ MSh (zH z) w ∧ wI w 400 34 = nI (zF z) ∧ zF z ≤ 5
theorem MKy.kp {n : Nat} {y : Nat → Nat} {SI SJ : Nat → Nat → Prop} {w w' : Wd} (h : MKy n y w) (g : Kp SI SJ w w') (hI : ∀ a j, SI a j → ¬ ((a = 400 ∧ j = 20) ∨ a = 422)) : MKy n y w' :=
  ⟨(g.I (fun z => hI _ _ z (by omega))).trans h.1, h.2.1, fun i hi => (g.I (fun z => hI _ _ z (by omega))).trans (h.2.2 i hi)⟩
theorem MGr.kp {x : Nat × Option Nat × Nat × (Nat → Option Nat)} {SI SJ : Nat → Nat → Prop} {w w' : Wd} (h : MGr x w) (g : Kp SI SJ w w') (hI : ∀ a j, SI a j → ¬ ((a = 400 ∧ (j = 22 ∨ j = 27 ∨ j = 28)) ∨ a = 430)) : MGr x w' :=
  ⟨(g.I (fun z => hI _ _ z (by omega))).trans h.1, h.2.1, (g.I (fun z => hI _ _ z (by omega))).trans h.2.2.1, (g.I (fun z => hI _ _ z (by omega))).trans h.2.2.2.1, h.2.2.2.2.1, fun n hn => by
    obtain ⟨v, h1, h2⟩ := h.2.2.2.2.2 n hn
    exact ⟨v, h1, (g.I (fun z => hI _ _ z (by omega))).trans h2⟩⟩
theorem MSh.kp {h : Sh} {SI SJ : Nat → Nat → Prop} {w w' : Wd} (x : MSh h w) (g : Kp SI SJ w w') (hI : ∀ a j, SI a j → ¬ (431 ≤ a ∧ a < 434)) : MSh h w' := fun s hs => by
  obtain ⟨h1, h2, h3, h4⟩ := x s hs
  exact ⟨h1, (g.I (fun z => hI _ _ z (by omega))).trans h2, (g.I (fun z => hI _ _ z (by omega))).trans h3, fun f hf => ⟨(h4 f hf).1, fun i hi => (g.I (fun z => hI _ _ z (by omega))).trans ((h4 f hf).2 i hi)⟩⟩
abbrev moA (a : Nat) : Prop := 400 ≤ a
theorem RM.setK {z : St} {w w' : Wd} {k : Sk} {SJ : Nat → Nat → Prop} (h : RM z w) (g : Kp skI SJ w w') (hk : MSk k w') (hn : kN k = kN (zK z)) : RM (pK z k) w' :=
  ⟨hk, by show MCp (kN k) (zQ z) w'; rw [hn]; exact h.2.1.kp g (fun a j q => by unfold skI at q; omega), h.2.2.1.kp g (fun a j q => by unfold skI at q; omega), h.2.2.2.1.kp g (fun a j q => by unfold skI at q; omega), h.2.2.2.2.1.kp g (fun a j q => by unfold skI at q; omega), (g.I (by unfold skI; omega)).trans h.2.2.2.2.2.1, h.2.2.2.2.2.2⟩
theorem pK_self (z : St) : pK z (zK z) = z := rfl
theorem Kp.mo {w w' : Wd} (g : Kp skI skJ w w') : Keep moA w w' := g.keep (fun a j q => by unfold skI at q; unfold moA; omega) (fun a j q => by unfold skJ at q; unfold moA; omega)
theorem MSk.root {k : Sk} {w : Wd} (h : MSk k w) (x y : Int64) : MSk (kRt k x y) (sJ (sJ w 400 9 x) 400 10 y) := by
  refine ⟨h.1, h.2.1, h.2.2.1, h.n, h.lck, ?_, rdJ_eq, h.2.2.2.2.2.2.2⟩
  show wJ (sJ (sJ w 400 9 x) 400 10 y) 400 9 = x
  rw [rdJ_ne (by decide)]
  exact rdJ_eq
theorem MSk.turn {k : Sk} {t t' : Nat → Nat} {w : Wd} {b v : Nat} (h : MSk (kT k t) w) (hv : t' b = v) (hlt : ∀ i, i < kN k → t' i < 36) (ho : ∀ i, i < kN k → i ≠ b → t' i = t i) : MSk (kT k t') (sI w 409 b (nI v)) := by
  refine ⟨h.1, ⟨h.2.1.1, fun i hi => ?_, h.2.1.2.2⟩, fun q hq => ⟨(rdI_nn (by decide)).trans (h.cs hq), (rdI_nn (by decide)).trans (h.ss hq)⟩, (rdI_nn (by decide)).trans h.n, (rdI_nn (by decide)).trans h.lck, h.rx, h.ry, fun i hi => ⟨(rdI_nn (by decide)).trans (h.par hi), (rdI_nn (by decide)).trans (h.len hi), (rdI_nn (by decide)).trans (h.low hi), (rdI_nn (by decide)).trans (h.spr hi), (rdI_nn (by decide)).trans (h.dep hi), ?_⟩⟩
  · obtain ⟨h1, h2, h3, h4, h5, h6, -⟩ := h.2.1.2.1 i hi
    exact ⟨h1, h2, h3, h4, h5, h6, hlt i hi⟩
  · show wI (sI w 409 b (nI v)) 409 i = nI (t' i)
    by_cases e : i = b
    · subst e
      rw [rdI_eq, hv]
    · rw [rdI_ne e, ho i hi e]
      exact h.trn hi
theorem MSk.kU {k : Sk} {w : Wd} {b t : Nat} (h : MSk k w) (ht : t < 36) : MSk (kU k b t) (sI w 409 b (nI t)) :=
  MSk.turn (k := k) (t := kTrn k) (t' := va_up (kTrn k) b t) h (va_up_self _ _ _) (fun i hi => by
    by_cases e : i = b
    · rw [e, va_up_self]; exact ht
    · rw [va_up_ne _ _ e]; exact (h.wf hi).2.2.2.2.2.2) (fun i _ e => va_up_ne _ _ e)
theorem MSk.lock {k : Sk} {w : Wd} (h : MSk k w) {o : Option Nat} (ho : ∀ b, o = some b → b < kN k) : MSk (kLk k o) (sI w 400 11 (oI o)) :=
  ⟨h.1, ⟨h.2.1.1, h.2.1.2.1, ho⟩, fun q hq => ⟨(rdI_nn (by decide)).trans (h.cs hq), (rdI_nn (by decide)).trans (h.ss hq)⟩, (rdI_ne (by decide)).trans h.n, rdI_eq, h.rx, h.ry, fun i hi => ⟨(rdI_nn (by decide)).trans (h.par hi), (rdI_nn (by decide)).trans (h.len hi), (rdI_nn (by decide)).trans (h.low hi), (rdI_nn (by decide)).trans (h.spr hi), (rdI_nn (by decide)).trans (h.dep hi), (rdI_nn (by decide)).trans (h.trn hi)⟩⟩
theorem inL_m (x : Int32) {n : Nat} (hn : n < 1000000000) : inL x.toInt64 (-1) (nI n - 1).toInt64 ↔ ((0 ≤ x.toInt ∧ x.toInt < n) ∨ x = -1) := by
  unfold inL
  rw [Int32.toInt_toInt64, Int32.toInt_toInt64, nI_m1 hn, show (-1 : Int64).toInt = -1 from rfl]
  have e : x = -1 ↔ x.toInt = -1 := ⟨fun q => by rw [q]; rfl, fun q => Int32.toInt_inj.mp q⟩
  rw [e]
  omega
theorem in9 (x : Int32) (lo hi : Int64) (a b : Int) (h1 : lo.toInt = a) (h2 : hi.toInt = b) (w : Wd) : Cc yX9_in mX9_in [.long x.toInt64, .long lo, .long hi] w (fun r w' => r = some (.int (b01 (a ≤ x.toInt ∧ x.toInt ≤ b))) ∧ w' = w) :=
  (c_X9_in _ _ _ w).mono (fun r w' h => by rw [b01_c (i64_in x lo hi h1 h2)] at h; exact h)
theorem in9m (x : Int32) (n : Nat) (hn : n < 1000000000) (w : Wd) : Cc yX9_in mX9_in [.long x.toInt64, .long (-1), .long (nI n - 1).toInt64] w (fun r w' => r = some (.int (b01 ((0 ≤ x.toInt ∧ x.toInt < n) ∨ x = -1))) ∧ w' = w) :=
  (c_X9_in _ _ _ w).mono (fun r w' h => by rw [b01_c (inL_m x hn)] at h; exact h)
theorem in9n (x : Int32) (n : Nat) (hn : n < 1000000000) (w : Wd) : Cc yX9_in mX9_in [.long x.toInt64, .long 0, .long (nI n - 1).toInt64] w (fun r w' => r = some (.int (b01 (0 ≤ x.toInt ∧ x.toInt < n))) ∧ w' = w) :=
  (c_X9_in _ _ _ w).mono (fun r w' h => by rw [b01_c (inL_n x hn)] at h; exact h)
theorem RM.kp {z : St} {w w' : Wd} (h : RM z w) (g : Kp noA plJ w w') : RM z w' :=
  RM.setK (k := zK z) (SJ := plJ) h (g.mono (fun _ _ q => q.elim) (fun _ _ q => q)) (h.1.kp g (fun _ _ q => q.elim) (fun a j q => by unfold plJ at q; unfold msJ; omega)) rfl
theorem Kp.mo0 {w w' : Wd} (g : Kp noA plJ w w') : Keep moA w w' := g.keep (fun _ _ q => q.elim) (fun a j q => by unfold plJ at q; unfold moA; omega)
theorem isB_s {z : St} {w : Wd} (h : RM z w) {x : Int32} (hx : isB z x) : ∃ b, b < kN (zK z) ∧ x = nI b := by
  have hn := h.1.n10
  refine ⟨x.toInt.toNat, by have := hx.1; have := hx.2; omega, Int32.toInt_inj.mp ?_⟩
  have h1 := hx.1
  have h2 := hx.2
  rw [nI_toInt (by omega)]
  omega

set_option maxRecDepth 100000 in
theorem c_X9_hold (k : Sk)  (w : Wd) (h : MSk k w) : Cc yX9_hold mX9_hold [.ref 400] w (fun r w' => r = none ∧ Kp noA hoJ w w' ∧ wJ w' 400 16 = oldX k ∧ wJ w' 400 17 = oldY k) := by
  refine Cc.of (by decide) rfl rfl (Nat.le_of_ble_eq_true rfl) (fun X => ?_)
  change V _ X _ 0 [(0, _)] [] _ (0, 0)
  cases hk : kLck k with
  | none =>
    first | refine V_aload_n dX9_hold_0 rfl rfl ?_ | refine V_aload_nN dX9_hold_0 rfl rfl ?_
    refine V_callVvr (As := []) (st := _) (c_X9_place k w h) kX9_147 (by exact h.1.k _ rfl rfl) ⟨rfl, rfl, rfl⟩ ⟨(Nat.le_of_ble_eq_true rfl), (Nat.le_of_ble_eq_true rfl)⟩ dX9_hold_1 rfl rfl (Nat.le_of_ble_eq_true rfl) ⟨(Nat.le_of_ble_eq_true rfl), (Nat.le_of_ble_eq_true rfl)⟩ (fun w1 hw1 => ?_)
    obtain ⟨a1, a2⟩ := hw1
    have h1 : MSk k w1 := h.kp a1 (fun _ _ q => q.elim) (fun a j q => by unfold plJ at q; unfold msJ; omega)
    first | refine V_aload_n dX9_hold_4 rfl rfl ?_ | refine V_aload_nN dX9_hold_4 rfl rfl ?_
    first | refine V_aload_n dX9_hold_5 rfl rfl ?_ | refine V_aload_nN dX9_hold_5 rfl rfl ?_
    refine G_geti (by exact h1.1.k _ rfl rfl) fX9_34 dX9_hold_6 (by exact (h1.lck.trans (congrArg oI hk) : _ = (-1 : Int32))) ?_
    refine V_iconst (v := -1) dX9_hold_9 (by decide) ?_
    refine V_icmp_ne (tgt := 17) dX9_hold_10 (by decide) (fun c10 => False.elim (by exact c10 rfl)) (fun c10 => ?_)
    refine V_lconst (v := 0) dX9_hold_13 (by decide) ?_
    refine V_goto (tgt := 26) dX9_hold_14 (by decide) ?_
    refine V_putl (by exact h1.1.k _ rfl rfl) pfX9_150 (fun h => nomatch h) dX9_hold_26 ?_
    first | refine V_aload_n dX9_hold_29 rfl rfl ?_ | refine V_aload_nN dX9_hold_29 rfl rfl ?_
    first | refine V_aload_n dX9_hold_30 rfl rfl ?_ | refine V_aload_nN dX9_hold_30 rfl rfl ?_
    refine G_geti (by exact h1.1.k _ rfl rfl) fX9_34 dX9_hold_31 (by exact (h1.lck.trans (congrArg oI hk) : _ = (-1 : Int32))) ?_
    refine V_iconst (v := -1) dX9_hold_34 (by decide) ?_
    refine V_icmp_ne (tgt := 42) dX9_hold_35 (by decide) (fun c35 => False.elim (by exact c35 rfl)) (fun c35 => ?_)
    refine V_lconst (v := 0) dX9_hold_38 (by decide) ?_
    refine V_goto (tgt := 51) dX9_hold_39 (by decide) ?_
    refine V_putl (by exact h1.1.k _ rfl rfl) pfX9_153 (fun h => nomatch h) dX9_hold_51 ?_
    refine V_vret rfl dX9_hold_54 (Nat.le_of_ble_eq_true rfl) (Nat.le_of_ble_eq_true rfl) ?_
    exact ⟨rfl, (a1.mono (fun _ _ q => q) (fun a j q => by unfold plJ at q; unfold hoJ; omega)).trans ((Kp.sJ w1 (by unfold hoJ; omega) _).trans (Kp.sJ _ (by unfold hoJ; omega) _)), (rdJ_ne (by decide)).trans (rdJ_eq.trans (by unfold oldX; rw [hk])), rdJ_eq.trans (by unfold oldY; rw [hk])⟩
  | some b =>
    have hb : b < kN k := h.2.1.2.2 b hk
    first | refine V_aload_n dX9_hold_0 rfl rfl ?_ | refine V_aload_nN dX9_hold_0 rfl rfl ?_
    refine V_callVvr (As := []) (st := _) (c_X9_place k w h) kX9_147 (by exact h.1.k _ rfl rfl) ⟨rfl, rfl, rfl⟩ ⟨(Nat.le_of_ble_eq_true rfl), (Nat.le_of_ble_eq_true rfl)⟩ dX9_hold_1 rfl rfl (Nat.le_of_ble_eq_true rfl) ⟨(Nat.le_of_ble_eq_true rfl), (Nat.le_of_ble_eq_true rfl)⟩ (fun w1 hw1 => ?_)
    obtain ⟨a1, a2⟩ := hw1
    have h1 : MSk k w1 := h.kp a1 (fun _ _ q => q.elim) (fun a j q => by unfold plJ at q; unfold msJ; omega)
    first | refine V_aload_n dX9_hold_4 rfl rfl ?_ | refine V_aload_nN dX9_hold_4 rfl rfl ?_
    first | refine V_aload_n dX9_hold_5 rfl rfl ?_ | refine V_aload_nN dX9_hold_5 rfl rfl ?_
    refine G_geti (by exact h1.1.k _ rfl rfl) fX9_34 dX9_hold_6 (by exact (h1.lck.trans (congrArg oI hk) : _ = nI b)) ?_
    refine V_iconst (v := -1) dX9_hold_9 (by decide) ?_
    refine V_icmp_ne (tgt := 17) dX9_hold_10 (by decide) (fun c10 => ?_) (fun c10 => False.elim (by exact (nI_nm1 (by have := h.n10; omega)) c10))
    first | refine V_aload_n dX9_hold_17 rfl rfl ?_ | refine V_aload_nN dX9_hold_17 rfl rfl ?_
    first | refine V_getr (by exact h1.1.k _ rfl rfl) fX9_45 dX9_hold_18 (by exact (h1.1.r 14 rfl (by decide) : _ = some 415)) ?_ | refine V_getrN (by exact h1.1.k _ rfl rfl) fX9_45 dX9_hold_18 (by exact (h1.1.r 14 rfl (by decide) : _ = some 415)) ?_
    first | refine V_aload_n dX9_hold_21 rfl rfl ?_ | refine V_aload_nN dX9_hold_21 rfl rfl ?_
    refine G_geti (by exact h1.1.k _ rfl rfl) fX9_34 dX9_hold_22 (by exact (h1.lck.trans (congrArg oI hk) : _ = nI b)) ?_
    refine G_lald (j := b) (by exact h1.1.k _ rfl rfl) (by rfl) (by exact h1.1.lt 415 (m := 10) rfl rfl (by decide) rfl (by have := h.n10; omega)) (by exact h1.1.nlt 415 rfl rfl (by decide)) dX9_hold_25 (by exact (a2 b hb).2.2.1) ?_
    refine V_putl (by exact h1.1.k _ rfl rfl) pfX9_150 (fun h => nomatch h) dX9_hold_26 ?_
    first | refine V_aload_n dX9_hold_29 rfl rfl ?_ | refine V_aload_nN dX9_hold_29 rfl rfl ?_
    first | refine V_aload_n dX9_hold_30 rfl rfl ?_ | refine V_aload_nN dX9_hold_30 rfl rfl ?_
    refine G_geti (by exact h1.1.k _ rfl rfl) fX9_34 dX9_hold_31 (by exact (h1.lck.trans (congrArg oI hk) : _ = nI b)) ?_
    refine V_iconst (v := -1) dX9_hold_34 (by decide) ?_
    refine V_icmp_ne (tgt := 42) dX9_hold_35 (by decide) (fun c35 => ?_) (fun c35 => False.elim (by exact (nI_nm1 (by have := h.n10; omega)) c35))
    first | refine V_aload_n dX9_hold_42 rfl rfl ?_ | refine V_aload_nN dX9_hold_42 rfl rfl ?_
    first | refine V_getr (by exact h1.1.k _ rfl rfl) fX9_48 dX9_hold_43 (by exact (h1.1.r 15 rfl (by decide) : _ = some 416)) ?_ | refine V_getrN (by exact h1.1.k _ rfl rfl) fX9_48 dX9_hold_43 (by exact (h1.1.r 15 rfl (by decide) : _ = some 416)) ?_
    first | refine V_aload_n dX9_hold_46 rfl rfl ?_ | refine V_aload_nN dX9_hold_46 rfl rfl ?_
    refine G_geti (by exact h1.1.k _ rfl rfl) fX9_34 dX9_hold_47 (by exact (h1.lck.trans (congrArg oI hk) : _ = nI b)) ?_
    refine G_lald (j := b) (by exact h1.1.k _ rfl rfl) (by rfl) (by exact h1.1.lt 416 (m := 10) rfl rfl (by decide) rfl (by have := h.n10; omega)) (by exact h1.1.nlt 416 rfl rfl (by decide)) dX9_hold_50 (by exact (rdJ_nn (by decide)).trans (a2 b hb).2.2.2) ?_
    refine V_putl (by exact h1.1.k _ rfl rfl) pfX9_153 (fun h => nomatch h) dX9_hold_51 ?_
    refine V_vret rfl dX9_hold_54 (Nat.le_of_ble_eq_true rfl) (Nat.le_of_ble_eq_true rfl) ?_
    exact ⟨rfl, (a1.mono (fun _ _ q => q) (fun a j q => by unfold plJ at q; unfold hoJ; omega)).trans ((Kp.sJ w1 (by unfold hoJ; omega) _).trans (Kp.sJ _ (by unfold hoJ; omega) _)), (rdJ_ne (by decide)).trans (rdJ_eq.trans (by unfold oldX; rw [hk])), rdJ_eq.trans (by unfold oldY; rw [hk])⟩

set_option maxRecDepth 100000 in
theorem c_X9_settle (k : Sk) (ox oy : Int64) (w : Wd) (h : MSk k w) (ho : ∀ b, kLck k = some b → wJ w 400 16 = ox ∧ wJ w 400 17 = oy) : Cc yX9_settle mX9_settle [.ref 400] w (fun r w' => r = none ∧ Kp noA stJ w w' ∧ MSk (stl k ox oy) w') := by
  refine Cc.of (by decide) rfl rfl (Nat.le_of_ble_eq_true rfl) (fun X => ?_)
  change V _ X _ 0 [(0, _)] [] _ (0, 0)
  cases hk : kLck k with
  | none =>
    first | refine V_aload_n dX9_settle_0 rfl rfl ?_ | refine V_aload_nN dX9_settle_0 rfl rfl ?_
    refine V_callVvr (As := []) (st := _) (c_X9_place k w h) kX9_147 (by exact h.1.k _ rfl rfl) ⟨rfl, rfl, rfl⟩ ⟨(Nat.le_of_ble_eq_true rfl), (Nat.le_of_ble_eq_true rfl)⟩ dX9_settle_1 rfl rfl (Nat.le_of_ble_eq_true rfl) ⟨(Nat.le_of_ble_eq_true rfl), (Nat.le_of_ble_eq_true rfl)⟩ (fun w1 hw1 => ?_)
    obtain ⟨a1, a2⟩ := hw1
    have h1 : MSk k w1 := h.kp a1 (fun _ _ q => q.elim) (fun a j q => by unfold plJ at q; unfold msJ; omega)
    first | refine V_aload_n dX9_settle_4 rfl rfl ?_ | refine V_aload_nN dX9_settle_4 rfl rfl ?_
    refine G_geti (by exact h1.1.k _ rfl rfl) fX9_34 dX9_settle_5 (by exact (h1.lck.trans (congrArg oI hk) : _ = (-1 : Int32))) ?_
    refine V_iconst (v := -1) dX9_settle_8 (by decide) ?_
    refine V_icmp_eq (tgt := 58) dX9_settle_9 (by decide) (fun c9 => ?_) (fun c9 => False.elim (by exact c9 rfl))
    refine V_vret rfl dX9_settle_58 (Nat.le_of_ble_eq_true rfl) (Nat.le_of_ble_eq_true rfl) ?_
    exact ⟨rfl, a1.mono (fun _ _ q => q) (fun a j q => by unfold plJ at q; unfold stJ; omega), by unfold stl; rw [hk]; exact h1⟩
  | some b =>
    have hb : b < kN k := h.2.1.2.2 b hk
    first | refine V_aload_n dX9_settle_0 rfl rfl ?_ | refine V_aload_nN dX9_settle_0 rfl rfl ?_
    refine V_callVvr (As := []) (st := _) (c_X9_place k w h) kX9_147 (by exact h.1.k _ rfl rfl) ⟨rfl, rfl, rfl⟩ ⟨(Nat.le_of_ble_eq_true rfl), (Nat.le_of_ble_eq_true rfl)⟩ dX9_settle_1 rfl rfl (Nat.le_of_ble_eq_true rfl) ⟨(Nat.le_of_ble_eq_true rfl), (Nat.le_of_ble_eq_true rfl)⟩ (fun w1 hw1 => ?_)
    obtain ⟨a1, a2⟩ := hw1
    have h1 : MSk k w1 := h.kp a1 (fun _ _ q => q.elim) (fun a j q => by unfold plJ at q; unfold msJ; omega)
    first | refine V_aload_n dX9_settle_4 rfl rfl ?_ | refine V_aload_nN dX9_settle_4 rfl rfl ?_
    refine G_geti (by exact h1.1.k _ rfl rfl) fX9_34 dX9_settle_5 (by exact (h1.lck.trans (congrArg oI hk) : _ = nI b)) ?_
    refine V_iconst (v := -1) dX9_settle_8 (by decide) ?_
    refine V_icmp_eq (tgt := 58) dX9_settle_9 (by decide) (fun c9 => False.elim (by exact (nI_nm1 (by have := h.n10; omega)) c9)) (fun c9 => ?_)
    first | refine V_aload_n dX9_settle_12 rfl rfl ?_ | refine V_aload_nN dX9_settle_12 rfl rfl ?_
    refine V_dup dX9_settle_13 rfl ?_
    refine G_getl (by exact h1.1.k _ rfl rfl) fX9_140 dX9_settle_14 (by exact h1.rx) ?_
    first | refine V_aload_n dX9_settle_17 rfl rfl ?_ | refine V_aload_nN dX9_settle_17 rfl rfl ?_
    refine G_getl (by exact h1.1.k _ rfl rfl) fX9_150 dX9_settle_18 (by exact (a1.J (by unfold plJ; omega)).trans (ho b hk).1) ?_
    first | refine V_aload_n dX9_settle_21 rfl rfl ?_ | refine V_aload_nN dX9_settle_21 rfl rfl ?_
    first | refine V_getr (by exact h1.1.k _ rfl rfl) fX9_45 dX9_settle_22 (by exact (h1.1.r 14 rfl (by decide) : _ = some 415)) ?_ | refine V_getrN (by exact h1.1.k _ rfl rfl) fX9_45 dX9_settle_22 (by exact (h1.1.r 14 rfl (by decide) : _ = some 415)) ?_
    first | refine V_aload_n dX9_settle_25 rfl rfl ?_ | refine V_aload_nN dX9_settle_25 rfl rfl ?_
    refine G_geti (by exact h1.1.k _ rfl rfl) fX9_34 dX9_settle_26 (by exact (h1.lck.trans (congrArg oI hk) : _ = nI b)) ?_
    refine G_lald (j := b) (by exact h1.1.k _ rfl rfl) (by rfl) (by exact h1.1.lt 415 (m := 10) rfl rfl (by decide) rfl (by have := h.n10; omega)) (by exact h1.1.nlt 415 rfl rfl (by decide)) dX9_settle_29 (by exact (a2 b hb).2.2.1) ?_
    refine V_lsub dX9_settle_30 ?_
    refine V_ladd dX9_settle_31 ?_
    refine V_putl (by exact h1.1.k _ rfl rfl) pfX9_140 (fun h => nomatch h) dX9_settle_32 ?_
    first | refine V_aload_n dX9_settle_35 rfl rfl ?_ | refine V_aload_nN dX9_settle_35 rfl rfl ?_
    refine V_dup dX9_settle_36 rfl ?_
    refine G_getl (by exact h1.1.k _ rfl rfl) fX9_144 dX9_settle_37 (by exact (rdJ_ne (by decide)).trans h1.ry) ?_
    first | refine V_aload_n dX9_settle_40 rfl rfl ?_ | refine V_aload_nN dX9_settle_40 rfl rfl ?_
    refine G_getl (by exact h1.1.k _ rfl rfl) fX9_153 dX9_settle_41 (by exact (rdJ_ne (by decide)).trans ((a1.J (by unfold plJ; omega)).trans (ho b hk).2)) ?_
    first | refine V_aload_n dX9_settle_44 rfl rfl ?_ | refine V_aload_nN dX9_settle_44 rfl rfl ?_
    first | refine V_getr (by exact h1.1.k _ rfl rfl) fX9_48 dX9_settle_45 (by exact (h1.1.r 15 rfl (by decide) : _ = some 416)) ?_ | refine V_getrN (by exact h1.1.k _ rfl rfl) fX9_48 dX9_settle_45 (by exact (h1.1.r 15 rfl (by decide) : _ = some 416)) ?_
    first | refine V_aload_n dX9_settle_48 rfl rfl ?_ | refine V_aload_nN dX9_settle_48 rfl rfl ?_
    refine G_geti (by exact h1.1.k _ rfl rfl) fX9_34 dX9_settle_49 (by exact (h1.lck.trans (congrArg oI hk) : _ = nI b)) ?_
    refine G_lald (j := b) (by exact h1.1.k _ rfl rfl) (by rfl) (by exact h1.1.lt 416 (m := 10) rfl rfl (by decide) rfl (by have := h.n10; omega)) (by exact h1.1.nlt 416 rfl rfl (by decide)) dX9_settle_52 (by exact (rdJ_nn (by decide)).trans (a2 b hb).2.2.2) ?_
    refine V_lsub dX9_settle_53 ?_
    refine V_ladd dX9_settle_54 ?_
    refine V_putl (by exact h1.1.k _ rfl rfl) pfX9_144 (fun h => nomatch h) dX9_settle_55 ?_
    refine V_vret rfl dX9_settle_58 (Nat.le_of_ble_eq_true rfl) (Nat.le_of_ble_eq_true rfl) ?_
    exact ⟨rfl, (a1.mono (fun _ _ q => q) (fun a j q => by unfold plJ at q; unfold stJ; omega)).trans ((Kp.sJ w1 (by unfold stJ; omega) _).trans (Kp.sJ _ (by unfold stJ; omega) _)), by unfold stl; rw [hk]; exact h1.root _ _⟩

set_option maxRecDepth 100000 in
theorem c_X9_farOf (k : Sk) (b : Nat) (x y : Int64) (w : Wd) (h : MSk k w) (hB : rtB 600 k) (hb : b < kN k) (hx : plc x) (hy : plc y) : Cc yX9_farOf mX9_farOf [.ref 400, .int (nI b), .long x, .long y] w (fun r w' => ∃ v, r = some v ∧ (v = .long (farK k b x y) ∧ Kp noA plJ w w')) := by
  refine Cc.of (by decide) rfl rfl (Nat.le_of_ble_eq_true rfl) (fun X => ?_)
  change V _ X _ 0 [(0, _), (1, _), (2, _), (4, _)] [] _ (0, 0)
  first | refine V_aload_n dX9_farOf_0 rfl rfl ?_ | refine V_aload_nN dX9_farOf_0 rfl rfl ?_
  refine V_callVvr (As := []) (st := _) (c_X9_place k w h) kX9_147 (by exact h.1.k _ rfl rfl) ⟨rfl, rfl, rfl⟩ ⟨(Nat.le_of_ble_eq_true rfl), (Nat.le_of_ble_eq_true rfl)⟩ dX9_farOf_1 rfl rfl (Nat.le_of_ble_eq_true rfl) ⟨(Nat.le_of_ble_eq_true rfl), (Nat.le_of_ble_eq_true rfl)⟩ (fun w1 hw1 => ?_)
  obtain ⟨a1, a2⟩ := hw1
  have h1 : MSk k w1 := h.kp a1 (fun _ _ q => q.elim) (fun a j q => by unfold plJ at q; unfold msJ; omega)
  obtain ⟨b1, b2, -, -⟩ := pos_rng h.2.1 hB hb
  first | refine V_aload_n dX9_farOf_4 rfl rfl ?_ | refine V_aload_nN dX9_farOf_4 rfl rfl ?_
  first | refine V_getr (by exact h1.1.k _ rfl rfl) fX9_45 dX9_farOf_5 (by exact (h1.1.r 14 rfl (by decide) : _ = some 415)) ?_ | refine V_getrN (by exact h1.1.k _ rfl rfl) fX9_45 dX9_farOf_5 (by exact (h1.1.r 14 rfl (by decide) : _ = some 415)) ?_
  refine V_iload_n dX9_farOf_8 rfl rfl ?_
  refine G_lald (j := b) (by exact h1.1.k _ rfl rfl) (by rfl) (by exact h1.1.lt 415 (m := 10) rfl rfl (by decide) rfl (by have := h.n10; omega)) (by exact h1.1.nlt 415 rfl rfl (by decide)) dX9_farOf_9 (by exact (a2 b hb).2.2.1) ?_
  refine V_lload_n dX9_farOf_10 rfl rfl ?_
  refine V_lcmp_le (tgt := 26) dX9_farOf_11 dX9_farOf_12 (by decide) (fun c11 => ?_) (fun c11 => ?_)
  · refine V_lload_n dX9_farOf_26 rfl rfl ?_
    first | refine V_aload_n dX9_farOf_27 rfl rfl ?_ | refine V_aload_nN dX9_farOf_27 rfl rfl ?_
    first | refine V_getr (by exact h1.1.k _ rfl rfl) fX9_45 dX9_farOf_28 (by exact (h1.1.r 14 rfl (by decide) : _ = some 415)) ?_ | refine V_getrN (by exact h1.1.k _ rfl rfl) fX9_45 dX9_farOf_28 (by exact (h1.1.r 14 rfl (by decide) : _ = some 415)) ?_
    refine V_iload_n dX9_farOf_31 rfl rfl ?_
    refine G_lald (j := b) (by exact h1.1.k _ rfl rfl) (by rfl) (by exact h1.1.lt 415 (m := 10) rfl rfl (by decide) rfl (by have := h.n10; omega)) (by exact h1.1.nlt 415 rfl rfl (by decide)) dX9_farOf_32 (by exact (a2 b hb).2.2.1) ?_
    refine V_lsub dX9_farOf_33 ?_
    refine S_lstore (L' := [(0, _), (1, _), (4, _), (6, _)]) dX9_farOf_34 rfl rfl ?_
    first | refine V_aload_n dX9_farOf_36 rfl rfl ?_ | refine V_aload_nN dX9_farOf_36 rfl rfl ?_
    first | refine V_getr (by exact h1.1.k _ rfl rfl) fX9_48 dX9_farOf_37 (by exact (h1.1.r 15 rfl (by decide) : _ = some 416)) ?_ | refine V_getrN (by exact h1.1.k _ rfl rfl) fX9_48 dX9_farOf_37 (by exact (h1.1.r 15 rfl (by decide) : _ = some 416)) ?_
    refine V_iload_n dX9_farOf_40 rfl rfl ?_
    refine G_lald (j := b) (by exact h1.1.k _ rfl rfl) (by rfl) (by exact h1.1.lt 416 (m := 10) rfl rfl (by decide) rfl (by have := h.n10; omega)) (by exact h1.1.nlt 416 rfl rfl (by decide)) dX9_farOf_41 (by exact (a2 b hb).2.2.2) ?_
    refine V_lload dX9_farOf_42 rfl ?_
    refine V_lcmp_le (tgt := 60) dX9_farOf_44 dX9_farOf_45 (by decide) (fun c44 => ?_) (fun c44 => ?_)
    · refine V_lload dX9_farOf_60 rfl ?_
      first | refine V_aload_n dX9_farOf_62 rfl rfl ?_ | refine V_aload_nN dX9_farOf_62 rfl rfl ?_
      first | refine V_getr (by exact h1.1.k _ rfl rfl) fX9_48 dX9_farOf_63 (by exact (h1.1.r 15 rfl (by decide) : _ = some 416)) ?_ | refine V_getrN (by exact h1.1.k _ rfl rfl) fX9_48 dX9_farOf_63 (by exact (h1.1.r 15 rfl (by decide) : _ = some 416)) ?_
      refine V_iload_n dX9_farOf_66 rfl rfl ?_
      refine G_lald (j := b) (by exact h1.1.k _ rfl rfl) (by rfl) (by exact h1.1.lt 416 (m := 10) rfl rfl (by decide) rfl (by have := h.n10; omega)) (by exact h1.1.nlt 416 rfl rfl (by decide)) dX9_farOf_67 (by exact (a2 b hb).2.2.2) ?_
      refine V_lsub dX9_farOf_68 ?_
      refine S_lstore (L' := [(6, _), (8, _)]) dX9_farOf_69 rfl rfl ?_
      refine V_lload dX9_farOf_71 rfl ?_
      refine V_lload dX9_farOf_73 rfl ?_
      refine V_lcmp_le (tgt := 84) dX9_farOf_75 dX9_farOf_76 (by decide) (fun c75 => ?_) (fun c75 => ?_)
      · refine V_lload dX9_farOf_84 rfl ?_
        refine V_lret rfl dX9_farOf_86 (Nat.le_of_ble_eq_true rfl) (Nat.le_of_ble_eq_true rfl) ?_
        refine ⟨_, rfl, ?_, a1⟩
        unfold farK farL lmax
        rw [far_M b1 hx, far_M b2 hy]
        first | rw [if_pos c11] | rw [if_neg c11]
        first | rw [if_pos c44] | rw [if_neg c44]
        first | rw [if_pos c75] | rw [if_neg c75]
      · refine V_lload dX9_farOf_79 rfl ?_
        refine V_goto (tgt := 86) dX9_farOf_81 (by decide) ?_
        refine V_lret rfl dX9_farOf_86 (Nat.le_of_ble_eq_true rfl) (Nat.le_of_ble_eq_true rfl) ?_
        refine ⟨_, rfl, ?_, a1⟩
        unfold farK farL lmax
        rw [far_M b1 hx, far_M b2 hy]
        first | rw [if_pos c11] | rw [if_neg c11]
        first | rw [if_pos c44] | rw [if_neg c44]
        first | rw [if_pos c75] | rw [if_neg c75]
    · first | refine V_aload_n dX9_farOf_48 rfl rfl ?_ | refine V_aload_nN dX9_farOf_48 rfl rfl ?_
      first | refine V_getr (by exact h1.1.k _ rfl rfl) fX9_48 dX9_farOf_49 (by exact (h1.1.r 15 rfl (by decide) : _ = some 416)) ?_ | refine V_getrN (by exact h1.1.k _ rfl rfl) fX9_48 dX9_farOf_49 (by exact (h1.1.r 15 rfl (by decide) : _ = some 416)) ?_
      refine V_iload_n dX9_farOf_52 rfl rfl ?_
      refine G_lald (j := b) (by exact h1.1.k _ rfl rfl) (by rfl) (by exact h1.1.lt 416 (m := 10) rfl rfl (by decide) rfl (by have := h.n10; omega)) (by exact h1.1.nlt 416 rfl rfl (by decide)) dX9_farOf_53 (by exact (a2 b hb).2.2.2) ?_
      refine V_lload dX9_farOf_54 rfl ?_
      refine V_lsub dX9_farOf_56 ?_
      refine V_goto (tgt := 69) dX9_farOf_57 (by decide) ?_
      refine S_lstore (L' := [(6, _), (8, _)]) dX9_farOf_69 rfl rfl ?_
      refine V_lload dX9_farOf_71 rfl ?_
      refine V_lload dX9_farOf_73 rfl ?_
      refine V_lcmp_le (tgt := 84) dX9_farOf_75 dX9_farOf_76 (by decide) (fun c75 => ?_) (fun c75 => ?_)
      · refine V_lload dX9_farOf_84 rfl ?_
        refine V_lret rfl dX9_farOf_86 (Nat.le_of_ble_eq_true rfl) (Nat.le_of_ble_eq_true rfl) ?_
        refine ⟨_, rfl, ?_, a1⟩
        unfold farK farL lmax
        rw [far_M b1 hx, far_M b2 hy]
        first | rw [if_pos c11] | rw [if_neg c11]
        first | rw [if_pos c44] | rw [if_neg c44]
        first | rw [if_pos c75] | rw [if_neg c75]
      · refine V_lload dX9_farOf_79 rfl ?_
        refine V_goto (tgt := 86) dX9_farOf_81 (by decide) ?_
        refine V_lret rfl dX9_farOf_86 (Nat.le_of_ble_eq_true rfl) (Nat.le_of_ble_eq_true rfl) ?_
        refine ⟨_, rfl, ?_, a1⟩
        unfold farK farL lmax
        rw [far_M b1 hx, far_M b2 hy]
        first | rw [if_pos c11] | rw [if_neg c11]
        first | rw [if_pos c44] | rw [if_neg c44]
        first | rw [if_pos c75] | rw [if_neg c75]
  · first | refine V_aload_n dX9_farOf_15 rfl rfl ?_ | refine V_aload_nN dX9_farOf_15 rfl rfl ?_
    first | refine V_getr (by exact h1.1.k _ rfl rfl) fX9_45 dX9_farOf_16 (by exact (h1.1.r 14 rfl (by decide) : _ = some 415)) ?_ | refine V_getrN (by exact h1.1.k _ rfl rfl) fX9_45 dX9_farOf_16 (by exact (h1.1.r 14 rfl (by decide) : _ = some 415)) ?_
    refine V_iload_n dX9_farOf_19 rfl rfl ?_
    refine G_lald (j := b) (by exact h1.1.k _ rfl rfl) (by rfl) (by exact h1.1.lt 415 (m := 10) rfl rfl (by decide) rfl (by have := h.n10; omega)) (by exact h1.1.nlt 415 rfl rfl (by decide)) dX9_farOf_20 (by exact (a2 b hb).2.2.1) ?_
    refine V_lload_n dX9_farOf_21 rfl rfl ?_
    refine V_lsub dX9_farOf_22 ?_
    refine V_goto (tgt := 34) dX9_farOf_23 (by decide) ?_
    refine S_lstore (L' := [(0, _), (1, _), (4, _), (6, _)]) dX9_farOf_34 rfl rfl ?_
    first | refine V_aload_n dX9_farOf_36 rfl rfl ?_ | refine V_aload_nN dX9_farOf_36 rfl rfl ?_
    first | refine V_getr (by exact h1.1.k _ rfl rfl) fX9_48 dX9_farOf_37 (by exact (h1.1.r 15 rfl (by decide) : _ = some 416)) ?_ | refine V_getrN (by exact h1.1.k _ rfl rfl) fX9_48 dX9_farOf_37 (by exact (h1.1.r 15 rfl (by decide) : _ = some 416)) ?_
    refine V_iload_n dX9_farOf_40 rfl rfl ?_
    refine G_lald (j := b) (by exact h1.1.k _ rfl rfl) (by rfl) (by exact h1.1.lt 416 (m := 10) rfl rfl (by decide) rfl (by have := h.n10; omega)) (by exact h1.1.nlt 416 rfl rfl (by decide)) dX9_farOf_41 (by exact (a2 b hb).2.2.2) ?_
    refine V_lload dX9_farOf_42 rfl ?_
    refine V_lcmp_le (tgt := 60) dX9_farOf_44 dX9_farOf_45 (by decide) (fun c44 => ?_) (fun c44 => ?_)
    · refine V_lload dX9_farOf_60 rfl ?_
      first | refine V_aload_n dX9_farOf_62 rfl rfl ?_ | refine V_aload_nN dX9_farOf_62 rfl rfl ?_
      first | refine V_getr (by exact h1.1.k _ rfl rfl) fX9_48 dX9_farOf_63 (by exact (h1.1.r 15 rfl (by decide) : _ = some 416)) ?_ | refine V_getrN (by exact h1.1.k _ rfl rfl) fX9_48 dX9_farOf_63 (by exact (h1.1.r 15 rfl (by decide) : _ = some 416)) ?_
      refine V_iload_n dX9_farOf_66 rfl rfl ?_
      refine G_lald (j := b) (by exact h1.1.k _ rfl rfl) (by rfl) (by exact h1.1.lt 416 (m := 10) rfl rfl (by decide) rfl (by have := h.n10; omega)) (by exact h1.1.nlt 416 rfl rfl (by decide)) dX9_farOf_67 (by exact (a2 b hb).2.2.2) ?_
      refine V_lsub dX9_farOf_68 ?_
      refine S_lstore (L' := [(6, _), (8, _)]) dX9_farOf_69 rfl rfl ?_
      refine V_lload dX9_farOf_71 rfl ?_
      refine V_lload dX9_farOf_73 rfl ?_
      refine V_lcmp_le (tgt := 84) dX9_farOf_75 dX9_farOf_76 (by decide) (fun c75 => ?_) (fun c75 => ?_)
      · refine V_lload dX9_farOf_84 rfl ?_
        refine V_lret rfl dX9_farOf_86 (Nat.le_of_ble_eq_true rfl) (Nat.le_of_ble_eq_true rfl) ?_
        refine ⟨_, rfl, ?_, a1⟩
        unfold farK farL lmax
        rw [far_M b1 hx, far_M b2 hy]
        first | rw [if_pos c11] | rw [if_neg c11]
        first | rw [if_pos c44] | rw [if_neg c44]
        first | rw [if_pos c75] | rw [if_neg c75]
      · refine V_lload dX9_farOf_79 rfl ?_
        refine V_goto (tgt := 86) dX9_farOf_81 (by decide) ?_
        refine V_lret rfl dX9_farOf_86 (Nat.le_of_ble_eq_true rfl) (Nat.le_of_ble_eq_true rfl) ?_
        refine ⟨_, rfl, ?_, a1⟩
        unfold farK farL lmax
        rw [far_M b1 hx, far_M b2 hy]
        first | rw [if_pos c11] | rw [if_neg c11]
        first | rw [if_pos c44] | rw [if_neg c44]
        first | rw [if_pos c75] | rw [if_neg c75]
    · first | refine V_aload_n dX9_farOf_48 rfl rfl ?_ | refine V_aload_nN dX9_farOf_48 rfl rfl ?_
      first | refine V_getr (by exact h1.1.k _ rfl rfl) fX9_48 dX9_farOf_49 (by exact (h1.1.r 15 rfl (by decide) : _ = some 416)) ?_ | refine V_getrN (by exact h1.1.k _ rfl rfl) fX9_48 dX9_farOf_49 (by exact (h1.1.r 15 rfl (by decide) : _ = some 416)) ?_
      refine V_iload_n dX9_farOf_52 rfl rfl ?_
      refine G_lald (j := b) (by exact h1.1.k _ rfl rfl) (by rfl) (by exact h1.1.lt 416 (m := 10) rfl rfl (by decide) rfl (by have := h.n10; omega)) (by exact h1.1.nlt 416 rfl rfl (by decide)) dX9_farOf_53 (by exact (a2 b hb).2.2.2) ?_
      refine V_lload dX9_farOf_54 rfl ?_
      refine V_lsub dX9_farOf_56 ?_
      refine V_goto (tgt := 69) dX9_farOf_57 (by decide) ?_
      refine S_lstore (L' := [(6, _), (8, _)]) dX9_farOf_69 rfl rfl ?_
      refine V_lload dX9_farOf_71 rfl ?_
      refine V_lload dX9_farOf_73 rfl ?_
      refine V_lcmp_le (tgt := 84) dX9_farOf_75 dX9_farOf_76 (by decide) (fun c75 => ?_) (fun c75 => ?_)
      · refine V_lload dX9_farOf_84 rfl ?_
        refine V_lret rfl dX9_farOf_86 (Nat.le_of_ble_eq_true rfl) (Nat.le_of_ble_eq_true rfl) ?_
        refine ⟨_, rfl, ?_, a1⟩
        unfold farK farL lmax
        rw [far_M b1 hx, far_M b2 hy]
        first | rw [if_pos c11] | rw [if_neg c11]
        first | rw [if_pos c44] | rw [if_neg c44]
        first | rw [if_pos c75] | rw [if_neg c75]
      · refine V_lload dX9_farOf_79 rfl ?_
        refine V_goto (tgt := 86) dX9_farOf_81 (by decide) ?_
        refine V_lret rfl dX9_farOf_86 (Nat.le_of_ble_eq_true rfl) (Nat.le_of_ble_eq_true rfl) ?_
        refine ⟨_, rfl, ?_, a1⟩
        unfold farK farL lmax
        rw [far_M b1 hx, far_M b2 hy]
        first | rw [if_pos c11] | rw [if_neg c11]
        first | rw [if_pos c44] | rw [if_neg c44]
        first | rw [if_pos c75] | rw [if_neg c75]
