/-! BOTH SIDES TOGETHER: what keeps, and how far the root goes -/
theorem RX.ken {z : St} {w w' : Wd} (h : RX z w) (g : KeN moA w w') : RX z w' := by
  have e : ∀ a, a < 400 → wK w' a = wK w a ∧ wN w' a = wN w a ∧ wI w' a = wI w a ∧ wJ w' a = wJ w a ∧ wR w' a = wR w a := fun a ha => g a (by unfold moA; omega)
  have l0 := h.1.1.1
  have lx : LayX w' := l0.ken g (fun a q => by unfold moA at q; omega) ⟨by rw [(e 21 (by decide)).1]; exact l0.k 21 rfl rfl, by rw [(e 21 (by decide)).2.2.2.2]; exact l0.r 21 0 rfl⟩ ⟨by rw [(e 26 (by decide)).1]; exact l0.k 26 rfl rfl, by rw [(e 26 (by decide)).2.1]; exact l0.n 26 rfl rfl⟩
  obtain ⟨hk, hc, hp, hg, hs, hf, h5⟩ := h
  have h10 := hk.1.n10
  refine ⟨⟨⟨lx, fun b hb => ?_, hk.1.2.2.1, ?_⟩, fun b hb => ?_⟩, ⟨lx, hc.2.1, fun c hcc => ?_, fun q => ?_⟩, ?_, ?_, ⟨lx, fun s hs' => ?_⟩, ?_, h5⟩
  · rw [(e (300 + b) (by omega)).1, (e 26 (by decide)).2.2.2.2, (e (300 + b) (by omega)).2.2.2.2]
    exact hk.1.2.1 b hb
  · obtain ⟨h1, h2, h3, h4, h6⟩ := hk.1.2.2.2
    refine ⟨by rw [(e 21 (by decide)).2.2.1]; exact h1, by rw [(e 21 (by decide)).2.2.1]; exact h2, by rw [(e 21 (by decide)).2.2.2.1]; exact h3, by rw [(e 21 (by decide)).2.2.2.1]; exact h4, fun b hb => ?_⟩
    rw [(e (300 + b) (by omega)).2.2.1]
    exact h6 b hb
  · rw [(e (300 + b) (by omega)).2.2.2.1]
    exact hk.2 b hb
  · obtain ⟨q1, q2, q3⟩ := hc.2.2.1 c hcc
    refine ⟨by rw [(e (40 + c) (by omega)).2.2.1]; exact q1, q2, fun f hf' b hb => ?_⟩
    rw [(e (100 + (30 * c + f)) (by omega)).2.2.1]
    exact q3 f hf' b hb
  · rw [(e 22 (by decide)).2.2.1]
    exact hc.2.2.2 q
  · unfold RPk
    rw [(e 23 (by decide)).2.2.1, (e 28 (by decide)).2.2.1]
    exact hp
  · unfold RGr RPt
    rw [(e 24 (by decide)).2.2.1, (e 29 (by decide)).2.2.1]
    exact hg
  · obtain ⟨q1, q2, q3, q4⟩ := hs.2 s hs'
    rw [(e (60 + s) (by omega)).2.2.1, (e (70 + s) (by omega)).2.2.1]
    exact ⟨q1, q2, q3, q4⟩
  · rw [(e 20 (by decide)).2.2.1]; exact hf
theorem RM.ken {z : St} {w w' : Wd} (h : RM z w) (g : KeN clA w w') : RM z w' := by
  have e : ∀ a, 400 ≤ a → wK w' a = wK w a ∧ wN w' a = wN w a ∧ wI w' a = wI w a ∧ wJ w' a = wJ w a ∧ wR w' a = wR w a := fun a ha => g a (by unfold clA; omega)
  have i : ∀ a j, 400 ≤ a → wI w' a j = wI w a j := fun a j ha => by rw [(e a ha).2.2.1]
  have i0 : ∀ j, wI w' 400 j = wI w 400 j := fun j => i 400 j (by decide)
  obtain ⟨⟨l0, hw, h1, h2, h3, h4, h5, h6⟩, ⟨-, c1, c2⟩, hy, hg, hs, hf, h9⟩ := h
  have lm : LayM w' := ⟨fun n q1 q2 => by rw [(e n q1).1, (e n q1).2.1]; exact l0.1 n q1 q2, fun k hk hne => by rw [(e 400 (by decide)).2.2.2.2]; exact l0.2 k hk hne⟩
  refine ⟨⟨lm, hw, fun t ht => ?_, by rw [i0]; exact h2, by rw [i0]; exact h3, by rw [(e 400 (by decide)).2.2.2.1]; exact h4, by rw [(e 400 (by decide)).2.2.2.1]; exact h5, fun b hb => ?_⟩, ⟨lm, c1, fun c hc => ?_⟩, ⟨by rw [i0]; exact hy.1, hy.2.1, fun n hn => ?_⟩, ?_, fun s hs' => ?_, by rw [i0]; exact hf, h9⟩
  · rw [i 401 _ (by decide), i 402 _ (by decide)]; exact h1 t ht
  · rw [i 404 _ (by decide), i 405 _ (by decide), i 406 _ (by decide), i 407 _ (by decide), i 408 _ (by decide), i 409 _ (by decide)]; exact h6 b hb
  · obtain ⟨q1, q2, q3⟩ := c2 c hc
    refine ⟨by rw [i 419 _ (by decide)]; exact q1, q2, fun f hf' b hb => ?_⟩
    rw [i 420 _ (by decide)]
    exact q3 f hf' b hb
  · rw [i 422 _ (by decide)]; exact hy.2.2 n hn
  · obtain ⟨q1, q2, q3, q4, q5, q6⟩ := hg
    refine ⟨by rw [i0]; exact q1, q2, by rw [i0]; exact q3, by rw [i0]; exact q4, q5, fun n hn => ?_⟩
    rw [i 430 _ (by decide)]
    exact q6 n hn
  · obtain ⟨q1, q2, q3, q4⟩ := hs s hs'
    refine ⟨q1, by rw [i 432 _ (by decide)]; exact q2, by rw [i 431 _ (by decide)]; exact q3, fun f hf' => ⟨(q4 f hf').1, fun j hj => ?_⟩⟩
    rw [i 433 _ (by decide)]
    exact (q4 f hf').2 j hj
theorem rtB.mono {n m : Nat} {k : Sk} (h : rtB n k) (hm : n ≤ m) : rtB m k := by
  obtain ⟨h1, h2⟩ := h
  exact ⟨by omega, by omega⟩
abbrev RtE (k k' : Sk) : Prop := kRx k' = kRx k ∧ kRy k' = kRy k
theorem RtE.kU {k k' : Sk} (h : RtE k k') (b t : Nat) : RtE k (kU k' b t) := h
theorem twoL_rt (k : Sk) (b p : Nat) (x y : Int64) : ∀ t, RtE k (twoL k b p x y t).1
  | 0 => ⟨rfl, rfl⟩
  | t + 1 => by
    have ih := twoL_rt k b p x y t
    rw [twoL]
    unfold twoS
    split
    · split
      · exact ih
      · exact ih
    · exact ih
theorem twoK_rt (k : Sk) (b : Nat) (x y : Int64) : RtE k (twoK k b x y) := by
  unfold twoK
  split
  · exact ⟨rfl, rfl⟩
  · exact RtE.kU (RtE.kU (twoL_rt k b _ x y 36) _ _) _ _
theorem rndG_rt (b : Nat) (x y : Int64) (k0 : Sk) : ∀ n k o c, RtE k0 k → RtE k0 (rndG b x y n k o c).1
  | 0, _, _, _, h => h
  | _ + 1, _, none, _, h => h
  | n + 1, k, some a, c, h => by
    rw [rndG]
    split
    · exact rndG_rt b x y k0 n _ _ _ h
    · exact rndG_rt b x y k0 n _ _ _ h
theorem rndsG_rt (b : Nat) (x y : Int64) (k0 : Sk) : ∀ n k c, RtE k0 k → RtE k0 (rndsG b x y n k c)
  | 0, _, _, h => h
  | n + 1, k, c, h => by
    rw [rndsG]
    split
    · exact rndsG_rt b x y k0 n _ _ (rndG_rt b x y k0 10 _ _ _ h)
    · exact h
theorem mv_rng {r o q : Int64} {N : Nat} (h1 : r.toInt.natAbs ≤ 1000000000000 + 50000000000000 * N) (hN : N ≤ 599) (h2 : (o.toInt - r.toInt).natAbs ≤ 18564650000000) (h3 : (q.toInt - r.toInt).natAbs ≤ 18564650000000) : (r + (o - q)).toInt.natAbs ≤ 1000000000000 + 50000000000000 * (N + 1) := by
  have e1 : (o - q).toInt = o.toInt - q.toInt := fb_subL (by omega) (by omega)
  have e2 : (r + (o - q)).toInt = r.toInt + (o - q).toInt := fb_addL (by rw [e1]; omega) (by rw [e1]; omega)
  rw [e2, e1]
  omega
theorem rtB_setP {k : Sk} {t : Nat → Nat} {n : Nat} (hn : n ≤ 599) (h : Wf k) (h2 : Wf (setP k t)) (hB : rtB n k) : rtB (n + 1) (setP k t) := by
  cases e : kLck k with
  | none =>
    have : setP k t = kT k t := by unfold setP stl; rw [show kLck (kT k t) = none from e]
    rw [this]
    exact hB.mono (by omega)
  | some b =>
    have e2 : setP k t = kRt (kT k t) (kRx k + ((pos k b).2.2.1 - (pos (kT k t) b).2.2.1)) (kRy k + ((pos k b).2.2.2 - (pos (kT k t) b).2.2.2)) := by
      unfold setP stl oldX oldY
      rw [show kLck (kT k t) = some b from e, e]
      rfl
    rw [e2] at h2 ⊢
    have h3 : Wf (kT k t) := h2
    have hb : b < kN k := h.2.2 b e
    have p1 := pos_rng h (hB.mono (show n ≤ 600 by omega)) hb
    have p2 := pos_rng h3 (show rtB 600 (kT k t) from hB.mono (by omega)) hb
    exact ⟨mv_rng hB.1 hn p1.2.2.1 p2.2.2.1, mv_rng hB.2 hn p1.2.2.2 p2.2.2.2⟩
/-- z' may follow z -/
def Adv (z z' : St) : Prop := kN (zK z') = kN (zK z) ∧ ∀ n, n ≤ 599 → Wf (zK z) → Wf (zK z') → rtB n (zK z) → rtB (n + 1) (zK z')
theorem Adv.same {z z' : St} (h : zK z' = zK z) : Adv z z' := ⟨by rw [h], fun n _ _ _ q => by rw [h]; exact q.mono (by omega)⟩
theorem Adv.rt {z z' : St} (h : kN (zK z') = kN (zK z)) (g : RtE (zK z) (zK z')) : Adv z z' := ⟨h, fun n _ _ _ q => by
  have q2 := q.mono (show n ≤ n + 1 by omega)
  unfold rtB at *
  rw [g.1, g.2]
  exact q2⟩
theorem Adv.setP (z : St) (t : Nat → Nat) : Adv z (pK z (setP (zK z) t)) := ⟨stl_n _ _ _, fun _ hn h1 h2 q => rtB_setP hn h1 h2 q⟩
theorem Adv.root (z : St) {x y : Int64} (h : plc x ∧ plc y) : Adv z (pK z (kRt (zK z) x y)) := ⟨rfl, fun n _ _ _ _ => by
  obtain ⟨⟨h1, h2⟩, h3, h4⟩ := h
  exact ⟨show x.toInt.natAbs ≤ _ by omega, show y.toInt.natAbs ≤ _ by omega⟩⟩

theorem adv_Turn (z : St) (x y : Int32) : Adv z (oTurn z x y).2 := by
  unfold oTurn
  repeat' split
  all_goals first | exact Adv.same rfl | exact Adv.setP _ _ | exact Adv.root _ (by assumption) | exact Adv.rt rfl ⟨rfl, rfl⟩ | exact Adv.rt (twoK_same _ _ _ _).1 (twoK_rt _ _ _ _) | exact Adv.rt (rndsG_same _ _ _ _ _ _ _ ⟨rfl, rfl, rfl, rfl, rfl, rfl⟩).1 (rndsG_rt _ _ _ _ _ _ _ ⟨rfl, rfl⟩)
theorem adv_Root (z : St) (x y : Int64) : Adv z (oRoot z x y).2 := by
  unfold oRoot
  repeat' split
  all_goals first | exact Adv.same rfl | exact Adv.setP _ _ | exact Adv.root _ (by assumption) | exact Adv.rt rfl ⟨rfl, rfl⟩ | exact Adv.rt (twoK_same _ _ _ _).1 (twoK_rt _ _ _ _) | exact Adv.rt (rndsG_same _ _ _ _ _ _ _ ⟨rfl, rfl, rfl, rfl, rfl, rfl⟩).1 (rndsG_rt _ _ _ _ _ _ _ ⟨rfl, rfl⟩)
theorem adv_Two (z : St) (x : Int32) (p q : Int64) : Adv z (oTwo z x p q).2 := by
  unfold oTwo
  repeat' split
  all_goals first | exact Adv.same rfl | exact Adv.setP _ _ | exact Adv.root _ (by assumption) | exact Adv.rt rfl ⟨rfl, rfl⟩ | exact Adv.rt (twoK_same _ _ _ _).1 (twoK_rt _ _ _ _) | exact Adv.rt (rndsG_same _ _ _ _ _ _ _ ⟨rfl, rfl, rfl, rfl, rfl, rfl⟩).1 (rndsG_rt _ _ _ _ _ _ _ ⟨rfl, rfl⟩)
theorem adv_Rounds (z : St) (x : Int32) (p q : Int64) (n : Int32) : Adv z (oRounds z x p q n).2 := by
  unfold oRounds
  repeat' split
  all_goals first | exact Adv.same rfl | exact Adv.setP _ _ | exact Adv.root _ (by assumption) | exact Adv.rt rfl ⟨rfl, rfl⟩ | exact Adv.rt (twoK_same _ _ _ _).1 (twoK_rt _ _ _ _) | exact Adv.rt (rndsG_same _ _ _ _ _ _ _ ⟨rfl, rfl, rfl, rfl, rfl, rfl⟩).1 (rndsG_rt _ _ _ _ _ _ _ ⟨rfl, rfl⟩)
theorem adv_Lock (z : St) (x : Int32) : Adv z (oLock z x).2 := by
  unfold oLock
  repeat' split
  all_goals first | exact Adv.same rfl | exact Adv.setP _ _ | exact Adv.root _ (by assumption) | exact Adv.rt rfl ⟨rfl, rfl⟩ | exact Adv.rt (twoK_same _ _ _ _).1 (twoK_rt _ _ _ _) | exact Adv.rt (rndsG_same _ _ _ _ _ _ _ ⟨rfl, rfl, rfl, rfl, rfl, rfl⟩).1 (rndsG_rt _ _ _ _ _ _ _ ⟨rfl, rfl⟩)
theorem adv_Frame (z : St) (x : Int32) : Adv z (oFrame z x).2 := by
  unfold oFrame
  repeat' split
  all_goals first | exact Adv.same rfl | exact Adv.setP _ _ | exact Adv.root _ (by assumption) | exact Adv.rt rfl ⟨rfl, rfl⟩ | exact Adv.rt (twoK_same _ _ _ _).1 (twoK_rt _ _ _ _) | exact Adv.rt (rndsG_same _ _ _ _ _ _ _ ⟨rfl, rfl, rfl, rfl, rfl, rfl⟩).1 (rndsG_rt _ _ _ _ _ _ _ ⟨rfl, rfl⟩)
theorem adv_Clear (z : St) (x : Int32) : Adv z (oClear z x).2 := by
  unfold oClear
  repeat' split
  all_goals first | exact Adv.same rfl | exact Adv.setP _ _ | exact Adv.root _ (by assumption) | exact Adv.rt rfl ⟨rfl, rfl⟩ | exact Adv.rt (twoK_same _ _ _ _).1 (twoK_rt _ _ _ _) | exact Adv.rt (rndsG_same _ _ _ _ _ _ _ ⟨rfl, rfl, rfl, rfl, rfl, rfl⟩).1 (rndsG_rt _ _ _ _ _ _ _ ⟨rfl, rfl⟩)
theorem adv_Show (z : St) (x y : Int32) : Adv z (oShow z x y).2 := by
  unfold oShow
  repeat' split
  all_goals first | exact Adv.same rfl | exact Adv.setP _ _ | exact Adv.root _ (by assumption) | exact Adv.rt rfl ⟨rfl, rfl⟩ | exact Adv.rt (twoK_same _ _ _ _).1 (twoK_rt _ _ _ _) | exact Adv.rt (rndsG_same _ _ _ _ _ _ _ ⟨rfl, rfl, rfl, rfl, rfl, rfl⟩).1 (rndsG_rt _ _ _ _ _ _ _ ⟨rfl, rfl⟩)
theorem adv_Blend (z : St) (x y v m : Int32) : Adv z (oBlend z x y v m).2 := by
  unfold oBlend
  repeat' split
  all_goals first | exact Adv.same rfl | exact Adv.setP _ _ | exact Adv.root _ (by assumption) | exact Adv.rt rfl ⟨rfl, rfl⟩ | exact Adv.rt (twoK_same _ _ _ _).1 (twoK_rt _ _ _ _) | exact Adv.rt (rndsG_same _ _ _ _ _ _ _ ⟨rfl, rfl, rfl, rfl, rfl, rfl⟩).1 (rndsG_rt _ _ _ _ _ _ _ ⟨rfl, rfl⟩)
theorem adv_Add (z : St) (x y v : Int32) : Adv z (oAdd z x y v).2 := by
  unfold oAdd
  repeat' split
  all_goals first | exact Adv.same rfl | exact Adv.setP _ _ | exact Adv.root _ (by assumption) | exact Adv.rt rfl ⟨rfl, rfl⟩ | exact Adv.rt (twoK_same _ _ _ _).1 (twoK_rt _ _ _ _) | exact Adv.rt (rndsG_same _ _ _ _ _ _ _ ⟨rfl, rfl, rfl, rfl, rfl, rfl⟩).1 (rndsG_rt _ _ _ _ _ _ _ ⟨rfl, rfl⟩)
theorem adv_Pack (z : St) (x m : Int32) : Adv z (oPack z x m).2 := by
  unfold oPack
  repeat' split
  all_goals first | exact Adv.same rfl | exact Adv.setP _ _ | exact Adv.root _ (by assumption) | exact Adv.rt rfl ⟨rfl, rfl⟩ | exact Adv.rt (twoK_same _ _ _ _).1 (twoK_rt _ _ _ _) | exact Adv.rt (rndsG_same _ _ _ _ _ _ _ ⟨rfl, rfl, rfl, rfl, rfl, rfl⟩).1 (rndsG_rt _ _ _ _ _ _ _ ⟨rfl, rfl⟩)
theorem adv_Thin (z : St) (x m : Int32) : Adv z (oThin z x m).2 := by
  unfold oThin
  repeat' split
  all_goals first | exact Adv.same rfl | exact Adv.setP _ _ | exact Adv.root _ (by assumption) | exact Adv.rt rfl ⟨rfl, rfl⟩ | exact Adv.rt (twoK_same _ _ _ _).1 (twoK_rt _ _ _ _) | exact Adv.rt (rndsG_same _ _ _ _ _ _ _ ⟨rfl, rfl, rfl, rfl, rfl, rfl⟩).1 (rndsG_rt _ _ _ _ _ _ _ ⟨rfl, rfl⟩)
theorem adv_Join (z : St) (x : Int32) : Adv z (oJoin z x).2 := by
  unfold oJoin
  repeat' split
  all_goals first | exact Adv.same rfl | exact Adv.setP _ _ | exact Adv.root _ (by assumption) | exact Adv.rt rfl ⟨rfl, rfl⟩ | exact Adv.rt (twoK_same _ _ _ _).1 (twoK_rt _ _ _ _) | exact Adv.rt (rndsG_same _ _ _ _ _ _ _ ⟨rfl, rfl, rfl, rfl, rfl, rfl⟩).1 (rndsG_rt _ _ _ _ _ _ _ ⟨rfl, rfl⟩)
theorem adv_Sheet (z : St) (x f n : Int32) : Adv z (oSheet z x f n).2 := by
  unfold oSheet
  repeat' split
  all_goals first | exact Adv.same rfl | exact Adv.setP _ _ | exact Adv.root _ (by assumption) | exact Adv.rt rfl ⟨rfl, rfl⟩ | exact Adv.rt (twoK_same _ _ _ _).1 (twoK_rt _ _ _ _) | exact Adv.rt (rndsG_same _ _ _ _ _ _ _ ⟨rfl, rfl, rfl, rfl, rfl, rfl⟩).1 (rndsG_rt _ _ _ _ _ _ _ ⟨rfl, rfl⟩)
theorem adv_Lose (z : St) (x : Int32) : Adv z (oLose z x).2 := by
  unfold oLose
  repeat' split
  all_goals first | exact Adv.same rfl | exact Adv.setP _ _ | exact Adv.root _ (by assumption) | exact Adv.rt rfl ⟨rfl, rfl⟩ | exact Adv.rt (twoK_same _ _ _ _).1 (twoK_rt _ _ _ _) | exact Adv.rt (rndsG_same _ _ _ _ _ _ _ ⟨rfl, rfl, rfl, rfl, rfl, rfl⟩).1 (rndsG_rt _ _ _ _ _ _ _ ⟨rfl, rfl⟩)
theorem adv_Put (z : St) (x f i p : Int32) : Adv z (oPut z x f i p).2 := by
  unfold oPut
  repeat' split
  all_goals first | exact Adv.same rfl | exact Adv.setP _ _ | exact Adv.root _ (by assumption) | exact Adv.rt rfl ⟨rfl, rfl⟩ | exact Adv.rt (twoK_same _ _ _ _).1 (twoK_rt _ _ _ _) | exact Adv.rt (rndsG_same _ _ _ _ _ _ _ ⟨rfl, rfl, rfl, rfl, rfl, rfl⟩).1 (rndsG_rt _ _ _ _ _ _ _ ⟨rfl, rfl⟩)
theorem adv_Get (z : St) (x f i : Int32) : Adv z (oGet z x f i).2 := by
  unfold oGet
  repeat' split
  all_goals first | exact Adv.same rfl | exact Adv.setP _ _ | exact Adv.root _ (by assumption) | exact Adv.rt rfl ⟨rfl, rfl⟩ | exact Adv.rt (twoK_same _ _ _ _).1 (twoK_rt _ _ _ _) | exact Adv.rt (rndsG_same _ _ _ _ _ _ _ ⟨rfl, rfl, rfl, rfl, rfl, rfl⟩).1 (rndsG_rt _ _ _ _ _ _ _ ⟨rfl, rfl⟩)
theorem adv_Copy (z : St) (x i y j n : Int32) : Adv z (oCopy z x i y j n).2 := by
  unfold oCopy
  repeat' split
  all_goals first | exact Adv.same rfl | exact Adv.setP _ _ | exact Adv.root _ (by assumption) | exact Adv.rt rfl ⟨rfl, rfl⟩ | exact Adv.rt (twoK_same _ _ _ _).1 (twoK_rt _ _ _ _) | exact Adv.rt (rndsG_same _ _ _ _ _ _ _ ⟨rfl, rfl, rfl, rfl, rfl, rfl⟩).1 (rndsG_rt _ _ _ _ _ _ _ ⟨rfl, rfl⟩)
theorem adv_Write (z : St) (x i : Int32) : Adv z (oWrite z x i).2 := by
  unfold oWrite
  repeat' split
  all_goals first | exact Adv.same rfl | exact Adv.setP _ _ | exact Adv.root _ (by assumption) | exact Adv.rt rfl ⟨rfl, rfl⟩ | exact Adv.rt (twoK_same _ _ _ _).1 (twoK_rt _ _ _ _) | exact Adv.rt (rndsG_same _ _ _ _ _ _ _ ⟨rfl, rfl, rfl, rfl, rfl, rfl⟩).1 (rndsG_rt _ _ _ _ _ _ _ ⟨rfl, rfl⟩)
theorem adv_Pose (z : St) (x i : Int32) : Adv z (oPose z x i).2 := by
  unfold oPose
  repeat' split
  all_goals first | exact Adv.same rfl | exact Adv.setP _ _ | exact Adv.root _ (by assumption) | exact Adv.rt rfl ⟨rfl, rfl⟩ | exact Adv.rt (twoK_same _ _ _ _).1 (twoK_rt _ _ _ _) | exact Adv.rt (rndsG_same _ _ _ _ _ _ _ ⟨rfl, rfl, rfl, rfl, rfl, rfl⟩).1 (rndsG_rt _ _ _ _ _ _ _ ⟨rfl, rfl⟩)
theorem adv_Walk (z : St) (D : Nat → Option Nat) (x y u v : Int32) : Adv z (oWalk z D x y u v).2 := by
  unfold oWalk
  split
  · exact Adv.same rfl
  · exact Adv.same rfl
theorem rt_Bone {n : Nat} {z : St} {p l lo sp : Int32} (h : rtB n (zK z)) : rtB (n + 1) (zK (oBone z p l lo sp).2) := by
  have q := h.mono (show n ≤ n + 1 by omega)
  unfold oBone
  repeat' split
  all_goals exact q
/-- both hold z -/
def Lg (n : Nat) (z : St) (w : Wd) : Prop := RX z w ∧ RM z w ∧ Us (uN (kN (zK z))) w ∧ rtB n (zK z)
theorem Lg.kx {n : Nat} {z : St} {w : Wd} (h : Lg n z w) : wK w 20 = 8 := h.1.1.1.1.k 20 rfl rfl
theorem Lg.km {n : Nat} {z : St} {w : Wd} (h : Lg n z w) : wK w 400 = 9 := h.2.1.1.1.k 400 rfl rfl
theorem Lg.hB {n : Nat} {z : St} {w : Wd} (h : Lg n z w) (hn : n ≤ 512) : rtB 600 (zK z) := h.2.2.2.mono (by omega)
/-- nothing changes -/
theorem Lg.stay {n : Nat} {z : St} {w : Wd} (h : Lg n z w) : Lg (n + 1) z w := ⟨h.1, h.2.1, h.2.2.1, h.2.2.2.mono (by omega)⟩
/-- the class changes nothing, the reference its own -/
theorem Lg.read {n : Nat} {z : St} {w w2 : Wd} (h : Lg n z w) (m2 : RM z w2) (g2 : Keep moA w w2) : Lg (n + 1) z w2 := ⟨h.1.ken (KeN.of g2), m2, h.2.2.1.keep g2, h.2.2.2.mono (by omega)⟩
theorem Lg.mid {n : Nat} {z : St} {w w1 : Wd} (h : Lg n z w) (g1 : Keep clA w w1) : RM z w1 := h.2.1.ken (KeN.of g1)
theorem Lg.next {n : Nat} {z z' : St} {w w1 w2 : Wd} (h : Lg n z w) (hn : n ≤ 512) (ha : Adv z z') (x1 : RX z' w1) (g1 : Keep clA w w1) (m2 : RM z' w2) (g2 : Keep moA w1 w2) : Lg (n + 1) z' w2 :=
  ⟨x1.ken (KeN.of g2), m2, by rw [ha.1]; exact (h.2.2.1.keep g1).keep g2, ha.2 n (by omega) h.1.1.1.2.2.1 x1.1.1.2.2.1 h.2.2.2⟩
