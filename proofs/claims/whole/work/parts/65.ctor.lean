/-! THE CONSTRUCTOR of BoneSteps -/
def z00 : St := ((0, fun _ => none, fun _ => 0, fun _ => 0, fun _ => 0, fun _ => 0, 0, 0, none), (fun _ => 0, fun _ _ _ => 0), (0, fun _ => 0), (3, none, 0, fun _ => none), (fun _ => none, fun _ => 0, fun _ _ => 0), 0)
def B0 (n : Nat) (w : Wd) : Prop := wK w 20 = 8 ∧ wI w 20 5 = 0 ∧ ∀ k, k < n → wR w 20 k = some (21 + k)
theorem B0.put {n m : Nat} {S : Nat → Prop} {w w' : Wd} (h : B0 n w) (g : KeN S w w') (hs : ¬ S 20) (hm : m = 21 + n) : B0 (n + 1) (sR w' 20 n (some m)) := by
  obtain ⟨a1, a2, a3, a4, a5⟩ := g 20 hs
  subst hm
  refine ⟨by rw [wK_sR, a1]; exact h.1, by rw [wI_sR, a3]; exact h.2.1, fun k hk => ?_⟩
  by_cases e : k = n
  · subst e
    rw [wR_sR, if_pos ⟨rfl, rfl⟩]
  · rw [wR_sR, if_neg (fun q => e q.2), a5]
    exact h.2.2 k (by omega)
def U1 (a : Nat) : Prop := a = 20 ∨ a = 21 ∨ a = 26
def U2 (a : Nat) : Prop := U1 a ∨ a = 22 ∨ a = 27 ∨ NC 6 a
def U3 (a : Nat) : Prop := U2 a ∨ a = 23 ∨ a = 28
def U4 (a : Nat) : Prop := U3 a ∨ a = 24 ∨ (29 ≤ a ∧ a < 34)
def U5 (s a : Nat) : Prop := U4 a ∨ a = 25 ∨ (60 ≤ a ∧ a < 60 + s) ∨ (70 ≤ a ∧ a < 70 + s)
def FS1 (w : Wd) : Prop := B0 1 w ∧ G1 w ∧ Us U1 w
def FS2 (w : Wd) : Prop := B0 2 w ∧ G1 w ∧ GC 6 w ∧ Us U2 w
def FS3 (w : Wd) : Prop := B0 3 w ∧ G1 w ∧ GC 6 w ∧ G3 w ∧ Us U3 w
def FS4 (w : Wd) : Prop := B0 4 w ∧ G1 w ∧ GC 6 w ∧ G3 w ∧ G4 w ∧ Us U4 w
def FS5 (s : Nat) (w : Wd) : Prop := B0 5 w ∧ G1 w ∧ GC 6 w ∧ G3 w ∧ G4 w ∧ (wK w 25 = 16 ∧ wN w 25 = 4 ∧ ∀ t, t < s → G5 t w ∧ wR w 25 t = some (60 + t)) ∧ Us (U5 s) w
theorem FS5.next {s : Nat} {w w3 : Wd} (h : FS5 s w) (hs : s < 4) (g : KeN (fun a => a = 60 + s ∨ a = 70 + s) (nw w (60 + s) 6 0) w3) (hg : G5 s w3) (hu : Us (fun a => (U5 s a ∨ a = 60 + s) ∨ a = 70 + s) w3) : FS5 (s + 1) (sR w3 25 s (some (60 + s))) := by
  have k1 : KeN (fun a => a = 60 + s ∨ a = 70 + s) w w3 := (KeN.nw w (Or.inl rfl) 6 0).trans g
  have k2 : KeN (fun a => a = 25) w3 (sR w3 25 s (some (60 + s))) := KeN.sR (S := fun a => a = 25) w3 (show 25 = 25 from rfl) s _
  have k3 : KeN (fun a => a = 25 ∨ a = 60 + s ∨ a = 70 + s) w (sR w3 25 s (some (60 + s))) := (k1.mono (fun a q => Or.inr q)).trans (k2.mono (fun a q => Or.inl q))
  obtain ⟨h1, h2, h3, h4, h5, ⟨h6, h7, h8⟩, h9⟩ := h
  obtain ⟨a1, a2, a3, a4, a5⟩ := k3 20 (by omega)
  obtain ⟨b1, b2, -, -, b5⟩ := k1 25 (by omega)
  refine ⟨⟨a1.trans h1.1, by rw [a3]; exact h1.2.1, by rw [a5]; exact h1.2.2⟩, h2.ken k3 (by omega) (by omega), h3.ken k3 (by omega) (by omega) (fun a ha => by unfold NC at ha; omega), h4.ken k3 (by omega) (by omega), h5.ken k3 (by omega) (fun n q1 q2 => by omega), ⟨by rw [wK_sR, b1]; exact h6, by rw [wN_sR, b2]; exact h7, fun t ht => ?_⟩, ?_⟩
  · by_cases e : t = s
    · subst e
      exact ⟨hg.ken k2 (by omega) (by omega), by rw [wR_sR, if_pos ⟨rfl, rfl⟩]⟩
    · refine ⟨(h8 t (by omega)).1.ken k3 (by omega) (by omega), ?_⟩
      rw [wR_sR, if_neg (fun q => e q.2), b5]
      exact (h8 t (by omega)).2
  · exact Us.hold (U := U5 (s + 1)) (hu.mono (fun a q => by
      rcases q with ((q | q | q | q) | q) | q
      · exact Or.inl q
      · exact Or.inr (Or.inl q)
      · exact Or.inr (Or.inr (Or.inl (by omega)))
      · exact Or.inr (Or.inr (Or.inr (by omega)))
      · exact Or.inr (Or.inr (Or.inl (by omega)))
      · exact Or.inr (Or.inr (Or.inr (by omega))))) 25 s (fun b hb => by cases hb; exact Or.inr (Or.inr (Or.inl (by omega))))
theorem FS5.fin {w : Wd} (h : FS5 4 w) : RX z00 w ∧ Us (fun a => a < 300) w := by
  obtain ⟨h1, h2, h3, h4, h5, ⟨h6, h7, h8⟩, h9⟩ := h
  obtain ⟨g1, g2, g3, g4, g5, g6, g7, g8⟩ := h2
  obtain ⟨c1, c2, c3, c4, c5, c6⟩ := h3
  obtain ⟨p1, p2, p3, p4, p5⟩ := h4
  obtain ⟨r1, r2, r3, r4, r5, r6, r7, r8, r9, r10⟩ := h5
  have hlay : LayX w := by
    refine ⟨fun n q1 q2 => ?_, fun n k q => ?_, fun c hc => ?_, fun s hs => ?_⟩
    · rcases (show n = 20 ∨ n = 21 ∨ n = 22 ∨ n = 23 ∨ n = 24 ∨ n = 25 ∨ n = 26 ∨ n = 27 ∨ n = 28 ∨ (29 ≤ n ∧ n < 34) by omega) with rfl | rfl | rfl | rfl | rfl | rfl | rfl | rfl | rfl | q
      · exact ⟨h1.1, fun z => by omega⟩
      · exact ⟨g1, fun z => by omega⟩
      · exact ⟨c1, fun z => by omega⟩
      · exact ⟨p1, fun z => by omega⟩
      · exact ⟨r1, fun z => by omega⟩
      · exact ⟨h6, fun _ => h7⟩
      · exact ⟨g2, fun _ => g3⟩
      · exact ⟨c3, fun _ => c4⟩
      · exact ⟨p2, fun _ => p3⟩
      · obtain ⟨q3, q4⟩ := r2 n q.1 q.2
        rw [q3, q4]
        rcases (show n = 29 ∨ n = 30 ∨ n = 31 ∨ n = 32 ∨ n = 33 by omega) with rfl | rfl | rfl | rfl | rfl
        · exact ⟨rfl, fun _ => rfl⟩
        · exact ⟨rfl, fun _ => rfl⟩
        · exact ⟨rfl, fun _ => rfl⟩
        · exact ⟨rfl, fun _ => rfl⟩
        · exact ⟨rfl, fun _ => rfl⟩
    · have hq : (n = 20 ∧ k < 5) ∨ ((n = 21 ∨ n = 22 ∨ n = 23) ∧ k = 0) ∨ (n = 24 ∧ (k = 2 ∨ k = 4 ∨ k = 6 ∨ k = 7 ∨ k = 8)) := by
        unfold rSok at q
        simp [Nat.blt_eq] at q
        omega
      rcases hq with ⟨rfl, q5⟩ | ⟨rfl | rfl | rfl, rfl⟩ | ⟨rfl, rfl | rfl | rfl | rfl | rfl⟩
      · exact h1.2.2 k q5
      · exact g4
      · exact c5
      · exact p4
      · exact r3
      · exact r4
      · exact r5
      · exact r6
      · exact r7
    · obtain ⟨⟨q1, q2, q3, q4, q5, q6⟩, q7⟩ := c6 c hc
      exact ⟨q1, q2, q3, q4, q7, q6⟩
    · obtain ⟨⟨q1, q2, q3, q4, q5, q6⟩, q7⟩ := h8 s hs
      exact ⟨q1, q2, q3, q4, q7⟩
  refine ⟨⟨⟨⟨hlay, fun b hb => absurd hb (Nat.not_lt_zero _), ⟨Nat.zero_le _, fun b hb => absurd hb (Nat.not_lt_zero _), fun b hb => by cases hb⟩, g5, g6, g7, g8, fun b hb => absurd hb (Nat.not_lt_zero _)⟩, fun b hb => absurd hb (Nat.not_lt_zero _)⟩, ⟨hlay, Nat.zero_le _, fun c hc => ⟨(c6 c hc).1.2.2.2.2.1, Nat.zero_le _, fun f hf => absurd hf (Nat.not_lt_zero _)⟩, fun q => absurd q (by decide)⟩, ⟨p5, Nat.zero_le _, fun n hn => absurd hn (Nat.not_lt_zero _)⟩, ⟨r8, (by decide : 3 ≤ 100), r9, ⟨r10, Nat.zero_le _, fun n v hn => absurd hn (Nat.not_lt_zero _)⟩, fun n hn => absurd hn (Nat.not_lt_zero _)⟩, ⟨hlay, fun s hs => ⟨Nat.zero_le _, (h8 s hs).1.2.2.2.2.2, (h8 s hs).1.2.2.2.2.1, fun f hf => by cases hf⟩⟩, h1.2.1, Nat.zero_le _⟩, h9.mono (fun a q => ?_)⟩
  unfold U5 U4 U3 U2 U1 NC at q
  omega

set_option maxRecDepth 100000 in
theorem c_X8_init (w : Wd) (hK : wK w 20 = 8) (hz : Zr w 20) (hU : Us (fun a => a = 20) w) : Cc yX8_init mX8_init [.ref 20] w (fun r w' => r = none ∧ (RX z00 w' ∧ Us (fun a => a < 300) w')) := by
  refine Cc.of (by decide) rfl rfl (Nat.le_of_ble_eq_true rfl) (fun X => ?_)
  change V _ X _ 0 [(0, _)] [] _ (0, 0)
  have lp : ∀ (d s : Nat) (w1 : Wd), s + d = 4 → FS5 s w1 → V mX8_init X (mq mX8_init X (fun r w' => r = none ∧ (RX z00 w' ∧ Us (fun a => a < 300) w'))) 63 [(0, .ref 20), (1, .int (nI s))] [] w1 (205 + 2 * s, 2960 + 64 * s) := by
    intro d
    induction d with
    | zero =>
      intro s w1 hd h1
      obtain rfl : s = 4 := hd
      refine V_iload_n dX8_init_63 rfl rfl ?_
      refine V_iconst (v := 4) dX8_init_64 (by decide) ?_
      refine V_icmp_ge (tgt := 87) dX8_init_65 (by decide) (fun c65 => ?_) (fun c65 => False.elim (by exact c65 (by decide)))
      refine V_vret rfl dX8_init_87 (Nat.le_of_ble_eq_true rfl) (Nat.le_of_ble_eq_true rfl) ?_
      exact ⟨rfl, h1.fin⟩
    | succ d ih =>
      intro s w1 hd h1
      have hs : s < 4 := by omega
      refine V_iload_n dX8_init_63 rfl rfl ?_
      refine V_iconst (v := 4) dX8_init_64 (by decide) ?_
      refine V_icmp_ge (tgt := 87) dX8_init_65 (by decide) (fun c65 => False.elim (by exact nI_ge (a := s) (b := 4) hs (by decide) c65)) (fun c65 => ?_)
      first | refine V_aload_n dX8_init_68 rfl rfl ?_ | refine V_aload_nN dX8_init_68 rfl rfl ?_
      first | refine V_getr (by first | exact h1.1.1 | exact h1.2.2.2.2.2.1.1) fX8_39 dX8_init_69 (by exact h1.1.2.2 4 (by decide)) ?_ | refine V_getrN (by first | exact h1.1.1 | exact h1.2.2.2.2.2.1.1) fX8_39 dX8_init_69 (by exact h1.1.2.2 4 (by decide)) ?_
      refine V_iload_n dX8_init_72 rfl rfl ?_
      refine V_new (n := (60 + s)) nlX8_37 (by exact h1.2.2.2.2.2.2.frs (by (try unfold U5 at *); (try unfold U4 at *); (try unfold U3 at *); (try unfold U2 at *); (try unfold U1 at *); (try unfold NC at *); omega) (by omega)) rfl (by repeat' first | exact (fun _ h => absurd h List.not_mem_nil) | refine List.forall_mem_cons.mpr ⟨?_, ?_⟩ | exact nRf_r (by omega) | rfl) (by repeat' first | exact (fun _ h => absurd h List.not_mem_nil) | refine List.forall_mem_cons.mpr ⟨?_, ?_⟩ | exact nRf_r (by omega) | rfl) dX8_init_73 ⟨(by show 205 + 2 * s + 1 ≤ 213; omega), (by show 2960 + 64 * s + 4 ≤ 3216; omega)⟩ ?_
      refine V_dup dX8_init_76 rfl ?_
      refine V_wok (fun hok => ?_)
      have k20 : wK (nw w1 (60 + s) 6 0) 20 = 8 := by rw [nwK_n (by omega)]; exact h1.1.1
      have k25 : wK (nw w1 (60 + s) 6 0) 25 = 16 := by rw [nwK_n (by omega)]; exact h1.2.2.2.2.2.1.1
      have kn : wK (nw w1 (60 + s) 6 0) (60 + s) = 6 := nwK_s _ _ _ _
      refine V_callINr (As := []) (st := _) (c_X5_init s (fun a => U5 s a ∨ a = 60 + s) (nw w1 (60 + s) 6 0) kn (Zr.nw _ _ _ _) (Us.made (U := fun a => U5 s a ∨ a = 60 + s) (h1.2.2.2.2.2.2.mono (fun a q => Or.inl q)) (n := 60 + s) (Or.inr rfl) 6 0) (Or.inr rfl) (by (try unfold U5 at *); (try unfold U4 at *); (try unfold U3 at *); (try unfold U2 at *); (try unfold U1 at *); (try unfold NC at *); omega) hs) kX8_47 rfl rfl ⟨(Nat.le_of_ble_eq_true rfl), (Nat.le_of_ble_eq_true rfl)⟩ dX8_init_77 rfl rfl (Nat.le_of_ble_eq_true rfl) ⟨(by show 205 + 2 * s + 1 + 1 ≤ 213; omega), (by show 2960 + 64 * s + 4 + 60 ≤ 3216; omega)⟩ (by exact Or.inr ⟨rfl, by repeat' first | exact (fun _ h => absurd h List.not_mem_nil) | refine List.forall_mem_cons.mpr ⟨?_, ?_⟩ | exact trivial | exact Or.inl (hok.2.1 20 (by rw [k20]; decide)) | exact Or.inl (hok.2.1 25 (by rw [k25]; decide)) | exact Or.inl (hok.2.1 (60 + s) (by rw [kn]; decide)), by repeat' first | exact (fun _ h => absurd h List.not_mem_nil) | refine List.forall_mem_cons.mpr ⟨?_, ?_⟩ | exact trivial | exact Or.inl (hok.2.1 20 (by rw [k20]; decide)) | exact Or.inl (hok.2.1 25 (by rw [k25]; decide)) | exact Or.inl (hok.2.1 (60 + s) (by rw [kn]; decide))⟩) (fun w3 hw3 => ?_)
      obtain ⟨g3, f3, u3⟩ := hw3
      have k25b : wK w3 25 = 16 := (g3 25 (by omega)).1.trans k25
      have n25b : wN w3 25 = 4 := (g3 25 (by omega)).2.1.trans ((nwN_n (by omega)).trans h1.2.2.2.2.2.1.2.1)
      refine V_aast16 (ci := 5) (by first | exact k25b | exact f3.1) (by first | exact k25b | exact f3.1) (by decide) rfl rfl (by rw [n25b]; exact nI_in hs (by decide)) dX8_init_80 ?_
      rw [nI_cl (by omega)]
      refine S_iinc (L' := [(0, _), (1, _)]) dX8_init_81 rfl rfl rfl rfl ?_
      rw [nI_inc]
      refine V_goto (tgt := 63) dX8_init_84 (by decide) ?_
      exact V_cs (by show 205 + 2 * s + 1 + 1 = 205 + 2 * (s + 1); omega) (by show 2960 + 64 * s + 4 + 60 = 2960 + 64 * (s + 1); omega) (ih (s + 1) _ (by omega) (h1.next hs g3 f3 u3))
  have s4 : ∀ w1, FS4 w1 → V mX8_init X (mq mX8_init X (fun r w' => r = none ∧ (RX z00 w' ∧ Us (fun a => a < 300) w'))) 48 [(0, .ref 20)] [] w1 (204, 2956) := by
    intro w1 h1
    first | refine V_aload_n dX8_init_48 rfl rfl ?_ | refine V_aload_nN dX8_init_48 rfl rfl ?_
    refine V_iconst (v := 4) dX8_init_49 (by decide) ?_
    refine V_newq (n := 25) (kd := 16) (t0 := 5) (len := 4) (by simp) w_qs (by rfl) (by decide) (by exact h1.2.2.2.2.2.frs (by (try unfold U5 at *); (try unfold U4 at *); (try unfold U3 at *); (try unfold U2 at *); (try unfold U1 at *); (try unfold NC at *); omega) (by omega)) rfl (by repeat' first | exact (fun _ h => absurd h List.not_mem_nil) | refine List.forall_mem_cons.mpr ⟨?_, ?_⟩ | exact nRf_r (by omega) | rfl) (by repeat' first | exact (fun _ h => absurd h List.not_mem_nil) | refine List.forall_mem_cons.mpr ⟨?_, ?_⟩ | exact nRf_r (by omega) | rfl) dX8_init_50 ⟨(Nat.le_of_ble_eq_true rfl), (Nat.le_of_ble_eq_true rfl)⟩ ?_
    first | refine V_putr (by repeat first | exact h1.1.1 | rw [wK_sR] | rw [nwK_n (by decide)]) pfX8_39 (fun _ => rfl) dX8_init_53 (fun _ => ⟨rfl, rfl⟩) ?_ | refine V_putrN (by repeat first | exact h1.1.1 | rw [wK_sR] | rw [nwK_n (by decide)]) pfX8_39 (fun _ => rfl) dX8_init_53 ⟨rfl, rfl⟩ ?_
    first | refine V_aload_n dX8_init_56 rfl rfl ?_ | refine V_aload_nN dX8_init_56 rfl rfl ?_
    refine V_iconst (v := 0) dX8_init_57 (by decide) ?_
    refine V_puti (by repeat first | exact h1.1.1 | rw [wK_sR] | rw [nwK_n (by decide)]) pfX8_43 (fun h => nomatch h) dX8_init_58 ⟨rfl, rfl⟩ ?_
    refine V_iconst (v := 0) dX8_init_61 (by decide) ?_
    refine S_istore_n (L' := [(0, _), (1, _)]) dX8_init_62 rfl rfl rfl ?_
    have k4 : KeN (fun a => a = 25) w1 (nw w1 25 16 4) := KeN.nw (S := fun a => a = 25) w1 (show 25 = 25 from rfl) 16 4
    have k5 : KeN (fun a => a = 20 ∨ a = 25) w1 (sI (sR (nw w1 25 16 4) 20 4 (some 25)) 20 5 0) := ((k4.mono (fun a q => Or.inr q)).trans (KeN.sR _ (Or.inl rfl) 4 _)).trans (KeN.sI _ (Or.inl rfl) 5 _)
    have hb5 := h1.1.put (n := 4) (m := 25) k4 (by decide) rfl
    exact lp 4 0 _ rfl ⟨⟨hb5.1, by rw [wI_sI, if_pos ⟨rfl, rfl⟩], hb5.2.2⟩, h1.2.1.ken k5 (by decide) (by decide), h1.2.2.1.ken k5 (by decide) (by decide) (fun a ha => by unfold NC at ha; omega), h1.2.2.2.1.ken k5 (by decide) (by decide), h1.2.2.2.2.1.ken k5 (by decide) (fun n q1 q2 => by omega), ⟨by rw [wK_sI, wK_sR, nwK_s], by rw [wN_sI, wN_sR, nwN_s], fun t ht => absurd ht (Nat.not_lt_zero _)⟩, ((h1.2.2.2.2.2.one 25 16 4 20 4).mono (U' := U5 0) (fun a q => by (try unfold U5 at *); (try unfold U4 at *); (try unfold U3 at *); (try unfold U2 at *); (try unfold U1 at *); (try unfold NC at *); omega)).like rfl rfl⟩
  have s3 : ∀ w1, FS3 w1 → V mX8_init X (mq mX8_init X (fun r w' => r = none ∧ (RX z00 w' ∧ Us (fun a => a < 300) w'))) 37 [(0, .ref 20)] [] w1 (198, 2047) := by
    intro w1 h1
    first | refine V_aload_n dX8_init_37 rfl rfl ?_ | refine V_aload_nN dX8_init_37 rfl rfl ?_
    refine V_new (n := 24) nlX8_30 (by exact h1.2.2.2.2.frs (by (try unfold U5 at *); (try unfold U4 at *); (try unfold U3 at *); (try unfold U2 at *); (try unfold U1 at *); (try unfold NC at *); omega) (by omega)) rfl (by repeat' first | exact (fun _ h => absurd h List.not_mem_nil) | refine List.forall_mem_cons.mpr ⟨?_, ?_⟩ | exact nRf_r (by omega) | rfl) (by repeat' first | exact (fun _ h => absurd h List.not_mem_nil) | refine List.forall_mem_cons.mpr ⟨?_, ?_⟩ | exact nRf_r (by omega) | rfl) dX8_init_38 ⟨(Nat.le_of_ble_eq_true rfl), (Nat.le_of_ble_eq_true rfl)⟩ ?_
    refine V_dup dX8_init_41 rfl ?_
    refine V_wok (fun hok => ?_)
    have k20 : wK (nw w1 24 4 0) 20 = 8 := by rw [nwK_n (by omega)]; exact h1.1.1
    have kn : wK (nw w1 24 4 0) 24 = 4 := nwK_s _ _ _ _
    refine V_callINr (As := []) (st := _) (c_X3_init (fun a => U3 a ∨ a = 24) (nw w1 24 4 0) kn (Zr.nw _ _ _ _) (Us.made (U := fun a => U3 a ∨ a = 24) (h1.2.2.2.2.mono (fun a q => Or.inl q)) (n := 24) (Or.inr rfl) 4 0) (fun n q1 q2 q => by (try unfold U5 at *); (try unfold U4 at *); (try unfold U3 at *); (try unfold U2 at *); (try unfold U1 at *); (try unfold NC at *); omega)) kX8_32 rfl rfl ⟨(Nat.le_of_ble_eq_true rfl), (Nat.le_of_ble_eq_true rfl)⟩ dX8_init_42 rfl rfl (Nat.le_of_ble_eq_true rfl) ⟨(Nat.le_of_ble_eq_true rfl), (Nat.le_of_ble_eq_true rfl)⟩ (by exact Or.inr ⟨rfl, by repeat' first | exact (fun _ h => absurd h List.not_mem_nil) | refine List.forall_mem_cons.mpr ⟨?_, ?_⟩ | exact trivial | exact Or.inl (hok.2.1 20 (by rw [k20]; decide)) | exact Or.inl (hok.2.1 24 (by rw [kn]; decide)), by repeat' first | exact (fun _ h => absurd h List.not_mem_nil) | refine List.forall_mem_cons.mpr ⟨?_, ?_⟩ | exact trivial | exact Or.inl (hok.2.1 20 (by rw [k20]; decide)) | exact Or.inl (hok.2.1 24 (by rw [kn]; decide))⟩) (fun w2 hw2 => ?_)
    obtain ⟨g2, f2, u2⟩ := hw2
    have k20b : wK w2 20 = 8 := (g2 20 (by decide)).1.trans k20
    have kk : KeN (fun a => a = 24 ∨ (29 ≤ a ∧ a < 34)) w1 w2 := (KeN.nw w1 (Or.inl rfl) 4 0).trans g2
    first | refine V_putr (by first | exact h1.1.1 | exact k20b) pfX8_33 (fun _ => rfl) dX8_init_45 (fun _ => ⟨rfl, rfl⟩) ?_ | refine V_putrN (by first | exact h1.1.1 | exact k20b) pfX8_33 (fun _ => rfl) dX8_init_45 ⟨rfl, rfl⟩ ?_
    exact s4 _ ⟨h1.1.put kk (by decide) rfl, (h1.2.1.ken kk (by decide) (by decide)).ken (KeN.sR (S := fun a => a = 20) w2 (show 20 = 20 from rfl) 3 _) (by decide) (by decide), (h1.2.2.1.ken kk (by decide) (by decide) (fun a ha => by unfold NC at ha; omega)).ken (KeN.sR (S := fun a => a = 20) w2 (show 20 = 20 from rfl) 3 _) (by decide) (by decide) (fun a ha => by unfold NC at ha; omega), (h1.2.2.2.1.ken kk (by decide) (by decide)).ken (KeN.sR (S := fun a => a = 20) w2 (show 20 = 20 from rfl) 3 _) (by decide) (by decide), f2.ken (KeN.sR (S := fun a => a = 20) w2 (show 20 = 20 from rfl) 3 _) (by decide) (fun n q1 q2 => by omega), Us.hold (U := U4) (u2.mono (fun a q => by (try unfold U5 at *); (try unfold U4 at *); (try unfold U3 at *); (try unfold U2 at *); (try unfold U1 at *); (try unfold NC at *); omega)) 20 3 (fun b hb => by cases hb; unfold U4; omega)⟩
  have s2 : ∀ w1, FS2 w1 → V mX8_init X (mq mX8_init X (fun r w' => r = none ∧ (RX z00 w' ∧ Us (fun a => a < 300) w'))) 26 [(0, .ref 20)] [] w1 (196, 2015) := by
    intro w1 h1
    first | refine V_aload_n dX8_init_26 rfl rfl ?_ | refine V_aload_nN dX8_init_26 rfl rfl ?_
    refine V_new (n := 23) nlX8_23 (by exact h1.2.2.2.frs (by (try unfold U5 at *); (try unfold U4 at *); (try unfold U3 at *); (try unfold U2 at *); (try unfold U1 at *); (try unfold NC at *); omega) (by omega)) rfl (by repeat' first | exact (fun _ h => absurd h List.not_mem_nil) | refine List.forall_mem_cons.mpr ⟨?_, ?_⟩ | exact nRf_r (by omega) | rfl) (by repeat' first | exact (fun _ h => absurd h List.not_mem_nil) | refine List.forall_mem_cons.mpr ⟨?_, ?_⟩ | exact nRf_r (by omega) | rfl) dX8_init_27 ⟨(Nat.le_of_ble_eq_true rfl), (Nat.le_of_ble_eq_true rfl)⟩ ?_
    refine V_dup dX8_init_30 rfl ?_
    refine V_wok (fun hok => ?_)
    have k20 : wK (nw w1 23 5 0) 20 = 8 := by rw [nwK_n (by omega)]; exact h1.1.1
    have kn : wK (nw w1 23 5 0) 23 = 5 := nwK_s _ _ _ _
    refine V_callINr (As := []) (st := _) (c_X4_init (fun a => U2 a ∨ a = 23) (nw w1 23 5 0) kn (Zr.nw _ _ _ _) (Us.made (U := fun a => U2 a ∨ a = 23) (h1.2.2.2.mono (fun a q => Or.inl q)) (n := 23) (Or.inr rfl) 5 0) (Or.inr rfl) (by (try unfold U5 at *); (try unfold U4 at *); (try unfold U3 at *); (try unfold U2 at *); (try unfold U1 at *); (try unfold NC at *); omega)) kX8_25 rfl rfl ⟨(Nat.le_of_ble_eq_true rfl), (Nat.le_of_ble_eq_true rfl)⟩ dX8_init_31 rfl rfl (Nat.le_of_ble_eq_true rfl) ⟨(Nat.le_of_ble_eq_true rfl), (Nat.le_of_ble_eq_true rfl)⟩ (by exact Or.inr ⟨rfl, by repeat' first | exact (fun _ h => absurd h List.not_mem_nil) | refine List.forall_mem_cons.mpr ⟨?_, ?_⟩ | exact trivial | exact Or.inl (hok.2.1 20 (by rw [k20]; decide)) | exact Or.inl (hok.2.1 23 (by rw [kn]; decide)), by repeat' first | exact (fun _ h => absurd h List.not_mem_nil) | refine List.forall_mem_cons.mpr ⟨?_, ?_⟩ | exact trivial | exact Or.inl (hok.2.1 20 (by rw [k20]; decide)) | exact Or.inl (hok.2.1 23 (by rw [kn]; decide))⟩) (fun w2 hw2 => ?_)
    obtain ⟨g2, f2, u2⟩ := hw2
    have k20b : wK w2 20 = 8 := (g2 20 (by decide)).1.trans k20
    have kk : KeN (fun a => a = 23 ∨ a = 28) w1 w2 := (KeN.nw w1 (Or.inl rfl) 5 0).trans g2
    first | refine V_putr (by first | exact h1.1.1 | exact k20b) pfX8_26 (fun _ => rfl) dX8_init_34 (fun _ => ⟨rfl, rfl⟩) ?_ | refine V_putrN (by first | exact h1.1.1 | exact k20b) pfX8_26 (fun _ => rfl) dX8_init_34 ⟨rfl, rfl⟩ ?_
    exact s3 _ ⟨h1.1.put kk (by decide) rfl, (h1.2.1.ken kk (by decide) (by decide)).ken (KeN.sR (S := fun a => a = 20) w2 (show 20 = 20 from rfl) 2 _) (by decide) (by decide), (h1.2.2.1.ken kk (by decide) (by decide) (fun a ha => by unfold NC at ha; omega)).ken (KeN.sR (S := fun a => a = 20) w2 (show 20 = 20 from rfl) 2 _) (by decide) (by decide) (fun a ha => by unfold NC at ha; omega), f2.ken (KeN.sR (S := fun a => a = 20) w2 (show 20 = 20 from rfl) 2 _) (by decide) (by decide), Us.hold (U := U3) (u2.mono (fun a q => by (try unfold U5 at *); (try unfold U4 at *); (try unfold U3 at *); (try unfold U2 at *); (try unfold U1 at *); (try unfold NC at *); omega)) 20 2 (fun b hb => by cases hb; unfold U3; omega)⟩
  have s1 : ∀ w1, FS1 w1 → V mX8_init X (mq mX8_init X (fun r w' => r = none ∧ (RX z00 w' ∧ Us (fun a => a < 300) w'))) 15 [(0, .ref 20)] [] w1 (2, 15) := by
    intro w1 h1
    first | refine V_aload_n dX8_init_15 rfl rfl ?_ | refine V_aload_nN dX8_init_15 rfl rfl ?_
    refine V_new (n := 22) nlX8_16 (by exact h1.2.2.frs (by (try unfold U5 at *); (try unfold U4 at *); (try unfold U3 at *); (try unfold U2 at *); (try unfold U1 at *); (try unfold NC at *); omega) (by omega)) rfl (by repeat' first | exact (fun _ h => absurd h List.not_mem_nil) | refine List.forall_mem_cons.mpr ⟨?_, ?_⟩ | exact nRf_r (by omega) | rfl) (by repeat' first | exact (fun _ h => absurd h List.not_mem_nil) | refine List.forall_mem_cons.mpr ⟨?_, ?_⟩ | exact nRf_r (by omega) | rfl) dX8_init_16 ⟨(Nat.le_of_ble_eq_true rfl), (Nat.le_of_ble_eq_true rfl)⟩ ?_
    refine V_dup dX8_init_19 rfl ?_
    refine V_wok (fun hok => ?_)
    have k20 : wK (nw w1 22 3 0) 20 = 8 := by rw [nwK_n (by omega)]; exact h1.1.1
    have kn : wK (nw w1 22 3 0) 22 = 3 := nwK_s _ _ _ _
    refine V_callIr (As := []) (st := _) (c_X2_init (fun a => U1 a ∨ a = 22) (nw w1 22 3 0) kn (Zr.nw _ _ _ _) (Us.made (U := fun a => U1 a ∨ a = 22) (h1.2.2.mono (fun a q => Or.inl q)) (n := 22) (Or.inr rfl) 3 0) (Or.inr rfl) (by (try unfold U5 at *); (try unfold U4 at *); (try unfold U3 at *); (try unfold U2 at *); (try unfold U1 at *); (try unfold NC at *); omega) (fun a ha q => by (try unfold U5 at *); (try unfold U4 at *); (try unfold U3 at *); (try unfold U2 at *); (try unfold U1 at *); (try unfold NC at *); omega)) kX8_18 rfl rfl ⟨(Nat.le_of_ble_eq_true rfl), (Nat.le_of_ble_eq_true rfl)⟩ dX8_init_20 rfl rfl (Nat.le_of_ble_eq_true rfl) ⟨(Nat.le_of_ble_eq_true rfl), (Nat.le_of_ble_eq_true rfl)⟩ (by exact Or.inr ⟨rfl, by repeat' first | exact (fun _ h => absurd h List.not_mem_nil) | refine List.forall_mem_cons.mpr ⟨?_, ?_⟩ | exact trivial | exact Or.inl (hok.2.1 20 (by rw [k20]; decide)) | exact Or.inl (hok.2.1 22 (by rw [kn]; decide)), by repeat' first | exact (fun _ h => absurd h List.not_mem_nil) | refine List.forall_mem_cons.mpr ⟨?_, ?_⟩ | exact trivial | exact Or.inl (hok.2.1 20 (by rw [k20]; decide)) | exact Or.inl (hok.2.1 22 (by rw [kn]; decide))⟩) (fun w2 hw2 => ?_)
    obtain ⟨g2, f2, u2⟩ := hw2
    have k20b : wK w2 20 = 8 := (g2 20 (by unfold NC; omega)).1.trans k20
    have kk : KeN (fun a => a = 22 ∨ a = 27 ∨ NC 6 a) w1 w2 := (KeN.nw w1 (Or.inl rfl) 3 0).trans g2
    first | refine V_putr (by first | exact h1.1.1 | exact k20b) pfX8_19 (fun _ => rfl) dX8_init_23 (fun _ => ⟨rfl, rfl⟩) ?_ | refine V_putrN (by first | exact h1.1.1 | exact k20b) pfX8_19 (fun _ => rfl) dX8_init_23 ⟨rfl, rfl⟩ ?_
    exact s2 _ ⟨h1.1.put kk (by unfold NC; omega) rfl, (h1.2.1.ken kk (by unfold NC; omega) (by unfold NC; omega)).ken (KeN.sR (S := fun a => a = 20) w2 (show 20 = 20 from rfl) 1 _) (by decide) (by decide), f2.ken (KeN.sR (S := fun a => a = 20) w2 (show 20 = 20 from rfl) 1 _) (by decide) (by decide) (fun a ha => by unfold NC at ha; omega), Us.hold (U := U2) (u2.mono (fun a q => by (try unfold U5 at *); (try unfold U4 at *); (try unfold U3 at *); (try unfold U2 at *); (try unfold U1 at *); (try unfold NC at *); omega)) 20 1 (fun b hb => by cases hb; unfold U2; omega)⟩
  first | refine V_aload_n dX8_init_0 rfl rfl ?_ | refine V_aload_nN dX8_init_0 rfl rfl ?_
  refine V_objInit koX8_3 dX8_init_1 (Nat.le_of_ble_eq_true rfl) (Nat.le_of_ble_eq_true rfl) ?_
  first | refine V_aload_n dX8_init_4 rfl rfl ?_ | refine V_aload_nN dX8_init_4 rfl rfl ?_
  refine V_new (n := 21) nlX8_9 (by exact hU.frs (by decide) (by omega)) rfl (by repeat' first | exact (fun _ h => absurd h List.not_mem_nil) | refine List.forall_mem_cons.mpr ⟨?_, ?_⟩ | exact nRf_r (by omega) | rfl) (by repeat' first | exact (fun _ h => absurd h List.not_mem_nil) | refine List.forall_mem_cons.mpr ⟨?_, ?_⟩ | exact nRf_r (by omega) | rfl) dX8_init_5 ⟨(Nat.le_of_ble_eq_true rfl), (Nat.le_of_ble_eq_true rfl)⟩ ?_
  refine V_dup dX8_init_8 rfl ?_
  refine V_wok (fun hok => ?_)
  have k20 : wK (nw w 21 7 0) 20 = 8 := by rw [nwK_n (by omega)]; exact hK
  have kn : wK (nw w 21 7 0) 21 = 7 := nwK_s _ _ _ _
  refine V_callINr (As := []) (st := _) (c_X6_init (fun a => a = 20 ∨ a = 21) (nw w 21 7 0) kn (Zr.nw _ _ _ _) (Us.made (U := fun a => a = 20 ∨ a = 21) (hU.mono (fun a q => Or.inl q)) (n := 21) (Or.inr rfl) 7 0) (Or.inr rfl) (by decide)) kX8_11 rfl rfl ⟨(Nat.le_of_ble_eq_true rfl), (Nat.le_of_ble_eq_true rfl)⟩ dX8_init_9 rfl rfl (Nat.le_of_ble_eq_true rfl) ⟨(Nat.le_of_ble_eq_true rfl), (Nat.le_of_ble_eq_true rfl)⟩ (by exact Or.inr ⟨rfl, by repeat' first | exact (fun _ h => absurd h List.not_mem_nil) | refine List.forall_mem_cons.mpr ⟨?_, ?_⟩ | exact trivial | exact Or.inl (hok.2.1 20 (by rw [k20]; decide)) | exact Or.inl (hok.2.1 21 (by rw [kn]; decide)), by repeat' first | exact (fun _ h => absurd h List.not_mem_nil) | refine List.forall_mem_cons.mpr ⟨?_, ?_⟩ | exact trivial | exact Or.inl (hok.2.1 20 (by rw [k20]; decide)) | exact Or.inl (hok.2.1 21 (by rw [kn]; decide))⟩) (fun w2 hw2 => ?_)
  obtain ⟨g2, f2, u2⟩ := hw2
  have k20b : wK w2 20 = 8 := (g2 20 (by decide)).1.trans k20
  have kk : KeN (fun a => a = 21 ∨ a = 26) w w2 := (KeN.nw w (Or.inl rfl) 7 0).trans g2
  first | refine V_putr (by first | exact hK | exact k20b) pfX8_12 (fun _ => rfl) dX8_init_12 (fun _ => ⟨rfl, rfl⟩) ?_ | refine V_putrN (by first | exact hK | exact k20b) pfX8_12 (fun _ => rfl) dX8_init_12 ⟨rfl, rfl⟩ ?_
  exact s1 _ ⟨B0.put (n := 0) ⟨hK, congrFun hz.1 5, fun k hk => absurd hk (Nat.not_lt_zero _)⟩ kk (by decide) rfl, f2.ken (KeN.sR (S := fun a => a = 20) w2 (show 20 = 20 from rfl) 0 _) (by decide) (by decide), Us.hold (U := U1) (u2.mono (fun a q => by unfold U1; omega)) 20 0 (fun b hb => by cases hb; unfold U1; omega)⟩
