/-! CONSTRUCTORS of the class -/
theorem wK_sI (w : Wd) (n k : Nat) (x : Int32) : wK (sI w n k x) = wK w := rfl
theorem wK_sR (w : Wd) (n k : Nat) (x : Option Nat) : wK (sR w n k x) = wK w := rfl
theorem wN_sI (w : Wd) (n k : Nat) (x : Int32) : wN (sI w n k x) = wN w := rfl
theorem wN_sR (w : Wd) (n k : Nat) (x : Option Nat) : wN (sR w n k x) = wN w := rfl
theorem wJ_sR (w : Wd) (n k : Nat) (x : Option Nat) : wJ (sR w n k x) = wJ w := rfl
theorem wR_sI (w : Wd) (n k : Nat) (x : Int32) : wR (sI w n k x) = wR w := rfl
theorem wR_sR (w : Wd) (n k a j : Nat) (x : Option Nat) : wR (sR w n k x) a j = if a = n ∧ j = k then x else wR w a j := rfl
theorem nwK_s (w : Wd) (n kd len : Nat) : wK (nw w n kd len) n = kd := va_up_self _ _ _
theorem nwN_s (w : Wd) (n kd len : Nat) : wN (nw w n kd len) n = len := va_up_self _ _ _
theorem nwI_s (w : Wd) (n kd len : Nat) : wI (nw w n kd len) n = fun _ => 0 := va_up_self _ _ _
theorem nwJ_s (w : Wd) (n kd len : Nat) : wJ (nw w n kd len) n = fun _ => 0 := va_up_self _ _ _
theorem nwK_n {w : Wd} {n kd len a : Nat} (h : a ≠ n) : wK (nw w n kd len) a = wK w a := va_up_ne _ _ h
theorem nwN_n {w : Wd} {n kd len a : Nat} (h : a ≠ n) : wN (nw w n kd len) a = wN w a := va_up_ne _ _ h
theorem nwI_n {w : Wd} {n kd len a : Nat} (h : a ≠ n) : wI (nw w n kd len) a = wI w a := va_up_ne _ _ h
theorem nwJ_n {w : Wd} {n kd len a : Nat} (h : a ≠ n) : wJ (nw w n kd len) a = wJ w a := va_up_ne _ _ h
theorem nwR_n {w : Wd} {n kd len a : Nat} (h : a ≠ n) : wR (nw w n kd len) a = wR w a := va_up_ne _ _ h
theorem Us.one {U : Nat → Prop} {w : Wd} (h : Us U w) (n kd len m j : Nat) : Us (fun a => U a ∨ a = n) (sR (nw w n kd len) m j (some n)) :=
  Us.hold (Us.made (U := fun a => U a ∨ a = n) (h.mono (fun a q => Or.inl q)) (n := n) (Or.inr rfl) kd len) m j (fun b hb => by cases hb; exact Or.inr rfl)
theorem KeN.trans {S : Nat → Prop} {w w1 w2 : Wd} (h : KeN S w w1) (g : KeN S w1 w2) : KeN S w w2 := fun a ha => ⟨(g a ha).1.trans (h a ha).1, (g a ha).2.1.trans (h a ha).2.1, (g a ha).2.2.1.trans (h a ha).2.2.1, (g a ha).2.2.2.1.trans (h a ha).2.2.2.1, (g a ha).2.2.2.2.trans (h a ha).2.2.2.2⟩
theorem KeN.mono {S S' : Nat → Prop} {w w1 : Wd} (h : KeN S w w1) (hs : ∀ a, S a → S' a) : KeN S' w w1 := fun a ha => h a (fun q => ha (hs a q))
theorem KeN.nw (w : Wd) {S : Nat → Prop} {n : Nat} (hn : S n) (kd len : Nat) : KeN S w (nw w n kd len) := fun a ha => by
  have e : a ≠ n := fun q => ha (q ▸ hn)
  exact ⟨va_up_ne _ _ e, va_up_ne _ _ e, va_up_ne _ _ e, va_up_ne _ _ e, va_up_ne _ _ e⟩
theorem KeN.sR (w : Wd) {S : Nat → Prop} {n : Nat} (hn : S n) (k : Nat) (x : Option Nat) : KeN S w (sR w n k x) := fun a ha => ⟨rfl, rfl, rfl, rfl, sR_ne w x (fun q => ha (q ▸ hn))⟩
theorem KeN.sI (w : Wd) {S : Nat → Prop} {n : Nat} (hn : S n) (k : Nat) (x : Int32) : KeN S w (sI w n k x) := fun a ha => ⟨rfl, rfl, sI_ne w x (fun q => ha (q ▸ hn)), rfl, rfl⟩
theorem Frs.made {w : Wd} {n m : Nat} (h : Frs w n) (hn : n ≠ m) (kd len : Nat) : Frs (nw w m kd len) n := by
  refine ⟨fun q => ?_, fun a k q => ?_, h.2.2⟩
  · rcases List.mem_append.mp (show n ∈ wL w ++ [m] from q) with z | z
    · exact h.1 z
    · rw [List.mem_singleton] at z; exact hn z
  · have q' : va_up (wR w) m (fun _ => none) a k = some n := q
    by_cases e : a = m
    · rw [e, va_up_self] at q'; cases q'
    · rw [va_up_ne _ _ e] at q'; exact h.2.1 a k q'
theorem Frs.hold {w : Wd} {n : Nat} (h : Frs w n) (m j : Nat) {x : Nat} (hx : n ≠ x) : Frs (sR w m j (some x)) n := by
  refine ⟨h.1, fun a k q => ?_, h.2.2⟩
  have q' : (if a = m ∧ k = j then some x else wR w a k) = some n := q
  by_cases e : a = m ∧ k = j
  · rw [if_pos e] at q'; cases q'; exact hx rfl
  · rw [if_neg e] at q'; exact h.2.1 a k q'
theorem Frs.num {w : Wd} {n : Nat} (h : Frs w n) (m j : Nat) (x : Int32) : Frs (sI w m j x) n := h
/-- all numbers there are 0 -/
def Zr (w : Wd) (n : Nat) : Prop := wI w n = (fun _ => 0) ∧ wJ w n = fun _ => 0
theorem Zr.nw (w : Wd) (n kd len : Nat) : Zr (nw w n kd len) n := ⟨va_up_self _ _ _, va_up_self _ _ _⟩
def G1 (w : Wd) : Prop := wK w 21 = 7 ∧ wK w 26 = 14 ∧ wN w 26 = 10 ∧ wR w 21 0 = some 26 ∧ wI w 21 1 = 0 ∧ wI w 21 2 = -1 ∧ wJ w 21 3 = 0 ∧ wJ w 21 4 = 0
def G3 (w : Wd) : Prop := wK w 23 = 5 ∧ wK w 28 = 11 ∧ wN w 28 = 30 ∧ wR w 23 0 = some 28 ∧ wI w 23 1 = 0
def G4 (w : Wd) : Prop := wK w 24 = 4 ∧ (∀ n, 29 ≤ n → n < 34 → wK w n = (if n = 33 then 13 else 11) ∧ wN w n = 180) ∧ wR w 24 2 = some 29 ∧ wR w 24 4 = some 30 ∧ wR w 24 6 = some 31 ∧ wR w 24 7 = some 32 ∧ wR w 24 8 = some 33 ∧ wI w 24 0 = 3 ∧ wI w 24 1 = -1 ∧ wI w 24 3 = 0
def G5 (s : Nat) (w : Wd) : Prop := wK w (60 + s) = 6 ∧ wK w (70 + s) = 11 ∧ wN w (70 + s) = 60 ∧ wR w (60 + s) 0 = some (70 + s) ∧ wI w (60 + s) 1 = 1 ∧ wI w (60 + s) 3 = 0
def G2 (c : Nat) (w : Wd) : Prop := wK w (40 + c) = 2 ∧ wK w (50 + c) = 17 ∧ wN w (50 + c) = 30 ∧ wR w (40 + c) 0 = some (50 + c) ∧ wI w (40 + c) 1 = 0 ∧ ∀ f, f < 30 → wK w (100 + (30 * c + f)) = 11 ∧ wN w (100 + (30 * c + f)) = 10 ∧ wR w (50 + c) f = some (100 + (30 * c + f))
theorem G1.ken {S : Nat → Prop} {w w' : Wd} (h : G1 w) (g : KeN S w w') (h1 : ¬ S 21) (h2 : ¬ S 26) : G1 w' := by
  obtain ⟨a1, a2, a3, a4, a5⟩ := g 21 h1
  obtain ⟨b1, b2, -⟩ := g 26 h2
  unfold G1
  rw [a1, a3, a4, a5, b1, b2]
  exact h
theorem G3.ken {S : Nat → Prop} {w w' : Wd} (h : G3 w) (g : KeN S w w') (h1 : ¬ S 23) (h2 : ¬ S 28) : G3 w' := by
  obtain ⟨a1, a2, a3, a4, a5⟩ := g 23 h1
  obtain ⟨b1, b2, -⟩ := g 28 h2
  unfold G3
  rw [a1, a3, a5, b1, b2]
  exact h
theorem G4.ken {S : Nat → Prop} {w w' : Wd} (h : G4 w) (g : KeN S w w') (h1 : ¬ S 24) (h2 : ∀ n, 29 ≤ n → n < 34 → ¬ S n) : G4 w' := by
  obtain ⟨a1, a2, a3, a4, a5⟩ := g 24 h1
  unfold G4
  rw [a1, a3, a5]
  refine ⟨h.1, fun n q1 q2 => ?_, h.2.2⟩
  obtain ⟨b1, b2, -⟩ := g n (h2 n q1 q2)
  rw [b1, b2]
  exact h.2.1 n q1 q2
theorem G5.ken {s : Nat} {S : Nat → Prop} {w w' : Wd} (h : G5 s w) (g : KeN S w w') (h1 : ¬ S (60 + s)) (h2 : ¬ S (70 + s)) : G5 s w' := by
  obtain ⟨a1, a2, a3, a4, a5⟩ := g (60 + s) h1
  obtain ⟨b1, b2, -⟩ := g (70 + s) h2
  unfold G5
  rw [a1, a3, a5, b1, b2]
  exact h
theorem G2.ken {c : Nat} {S : Nat → Prop} {w w' : Wd} (h : G2 c w) (g : KeN S w w') (h1 : ¬ S (40 + c)) (h2 : ¬ S (50 + c)) (h3 : ∀ f, f < 30 → ¬ S (100 + (30 * c + f))) : G2 c w' := by
  obtain ⟨a1, a2, a3, a4, a5⟩ := g (40 + c) h1
  obtain ⟨b1, b2, b3, b4, b5⟩ := g (50 + c) h2
  unfold G2
  rw [a1, a3, a5, b1, b2, b5]
  refine ⟨h.1, h.2.1, h.2.2.1, h.2.2.2.1, h.2.2.2.2.1, fun f hf => ?_⟩
  obtain ⟨c1, c2, -⟩ := g _ (h3 f hf)
  rw [c1, c2]
  exact h.2.2.2.2.2 f hf

set_option maxRecDepth 100000 in
theorem c_X6_init (U : Nat → Prop) (w : Wd) (hK : wK w 21 = 7) (hz : Zr w 21) (hU : Us U w) (hs : U 21) (hf : ¬ U 26) : Cc yX6_init mX6_init [.ref 21] w (fun r w' => r = none ∧ (KeN (fun a => a = 21 ∨ a = 26) w w' ∧ G1 w' ∧ Us (fun a => U a ∨ a = 26) w')) := by
  refine Cc.of (by decide) rfl rfl (Nat.le_of_ble_eq_true rfl) (fun X => ?_)
  change V _ X _ 0 [(0, _)] [] _ (0, 0)
  first | refine V_aload_n dX6_init_0 rfl rfl ?_ | refine V_aload_nN dX6_init_0 rfl rfl ?_
  refine V_objInit koX6_3 dX6_init_1 (Nat.le_of_ble_eq_true rfl) (Nat.le_of_ble_eq_true rfl) ?_
  first | refine V_aload_n dX6_init_4 rfl rfl ?_ | refine V_aload_nN dX6_init_4 rfl rfl ?_
  refine V_bipush (v := 10) dX6_init_5 (by decide) ?_
  refine V_newq (n := 26) (kd := 14) (t0 := 3) (len := 10) (by simp) w_qb (by rfl) (by decide) (by exact hU.frs hf (by omega)) rfl (by repeat' first | exact (fun _ h => absurd h List.not_mem_nil) | refine List.forall_mem_cons.mpr ⟨?_, ?_⟩ | exact nRf_r (by omega) | rfl) (by repeat' first | exact (fun _ h => absurd h List.not_mem_nil) | refine List.forall_mem_cons.mpr ⟨?_, ?_⟩ | exact nRf_r (by omega) | rfl) dX6_init_7 ⟨(Nat.le_of_ble_eq_true rfl), (Nat.le_of_ble_eq_true rfl)⟩ ?_
  first | refine V_putr (by first | exact hK | (rw [nwK_n (by omega)]; exact hK) | (rw [wK_sR, nwK_n (by omega)]; exact hK)) pfX6_11 (fun _ => rfl) dX6_init_10 (fun _ => ⟨rfl, rfl⟩) ?_ | refine V_putrN (by first | exact hK | (rw [nwK_n (by omega)]; exact hK) | (rw [wK_sR, nwK_n (by omega)]; exact hK)) pfX6_11 (fun _ => rfl) dX6_init_10 ⟨rfl, rfl⟩ ?_
  first | refine V_aload_n dX6_init_13 rfl rfl ?_ | refine V_aload_nN dX6_init_13 rfl rfl ?_
  refine V_iconst (v := -1) dX6_init_14 (by decide) ?_
  refine V_puti (by first | exact hK | (rw [nwK_n (by omega)]; exact hK) | (rw [wK_sR, nwK_n (by omega)]; exact hK)) pfX6_17 (fun h => nomatch h) dX6_init_15 ⟨rfl, rfl⟩ ?_
  refine V_vret rfl dX6_init_18 (Nat.le_of_ble_eq_true rfl) (Nat.le_of_ble_eq_true rfl) ?_
  have g : KeN (fun a => a = 21 ∨ a = 26) w (sI (sR (nw w 26 14 10) 21 0 (some 26)) 21 2 (-1)) := ((KeN.nw w (Or.inr rfl) 14 10).trans (KeN.sR _ (Or.inl rfl) 0 _)).trans (KeN.sI _ (Or.inl rfl) 2 _)
  have e1 : ∀ j, wI (sI (sR (nw w 26 14 10) 21 0 (some 26)) 21 2 (-1)) 21 j = if j = 2 then -1 else 0 := fun j => by
    rw [wI_sI, wI_sR, nwI_n (by decide), hz.1]
    by_cases e : j = 2
    · rw [if_pos ⟨rfl, e⟩, if_pos e]
    · rw [if_neg (fun q => e q.2), if_neg e]
  have e2 : ∀ j, wJ (sI (sR (nw w 26 14 10) 21 0 (some 26)) 21 2 (-1)) 21 j = 0 := fun j => by rw [wJ_sI, wJ_sR, nwJ_n (by decide), hz.2]
  refine ⟨rfl, g, ⟨by rw [wK_sI, wK_sR, nwK_n (by decide)]; exact hK, by rw [wK_sI, wK_sR, nwK_s], by rw [wN_sI, wN_sR, nwN_s], by rw [wR_sI, wR_sR, if_pos ⟨rfl, rfl⟩], ?_, ?_, ?_, ?_⟩, (hU.one 26 14 10 21 0).like rfl rfl⟩
  · rw [e1, if_neg (by decide)]
  · rw [e1, if_pos rfl]
  · exact e2 3
  · exact e2 4

set_option maxRecDepth 100000 in
theorem c_X4_init (U : Nat → Prop) (w : Wd) (hK : wK w 23 = 5) (hz : Zr w 23) (hU : Us U w) (hs : U 23) (hf : ¬ U 28) : Cc yX4_init mX4_init [.ref 23] w (fun r w' => r = none ∧ (KeN (fun a => a = 23 ∨ a = 28) w w' ∧ G3 w' ∧ Us (fun a => U a ∨ a = 28) w')) := by
  refine Cc.of (by decide) rfl rfl (Nat.le_of_ble_eq_true rfl) (fun X => ?_)
  change V _ X _ 0 [(0, _)] [] _ (0, 0)
  first | refine V_aload_n dX4_init_0 rfl rfl ?_ | refine V_aload_nN dX4_init_0 rfl rfl ?_
  refine V_objInit koX4_3 dX4_init_1 (Nat.le_of_ble_eq_true rfl) (Nat.le_of_ble_eq_true rfl) ?_
  first | refine V_aload_n dX4_init_4 rfl rfl ?_ | refine V_aload_nN dX4_init_4 rfl rfl ?_
  refine V_bipush (v := 30) dX4_init_5 (by decide) ?_
  refine V_newa (n := 28) (kd := 11) (len := 30) (by simp) ac_int (by rfl) (by decide) (by exact hU.frs hf (by omega)) rfl (by repeat' first | exact (fun _ h => absurd h List.not_mem_nil) | refine List.forall_mem_cons.mpr ⟨?_, ?_⟩ | exact nRf_r (by omega) | rfl) (by repeat' first | exact (fun _ h => absurd h List.not_mem_nil) | refine List.forall_mem_cons.mpr ⟨?_, ?_⟩ | exact nRf_r (by omega) | rfl) dX4_init_7 ⟨(Nat.le_of_ble_eq_true rfl), (Nat.le_of_ble_eq_true rfl)⟩ ?_
  first | refine V_putr (by first | exact hK | (rw [nwK_n (by omega)]; exact hK) | (rw [wK_sR, nwK_n (by omega)]; exact hK)) pfX4_9 (fun _ => rfl) dX4_init_9 (fun _ => ⟨rfl, rfl⟩) ?_ | refine V_putrN (by first | exact hK | (rw [nwK_n (by omega)]; exact hK) | (rw [wK_sR, nwK_n (by omega)]; exact hK)) pfX4_9 (fun _ => rfl) dX4_init_9 ⟨rfl, rfl⟩ ?_
  refine V_vret rfl dX4_init_12 (Nat.le_of_ble_eq_true rfl) (Nat.le_of_ble_eq_true rfl) ?_
  have g : KeN (fun a => a = 23 ∨ a = 28) w (sR (nw w 28 11 30) 23 0 (some 28)) := (KeN.nw w (Or.inr rfl) 11 30).trans (KeN.sR _ (Or.inl rfl) 0 _)
  exact ⟨rfl, g, ⟨by rw [wK_sR, nwK_n (by decide)]; exact hK, by rw [wK_sR, nwK_s], by rw [wN_sR, nwN_s], by rw [wR_sR, if_pos ⟨rfl, rfl⟩], by rw [wI_sR, nwI_n (by decide), hz.1]⟩, hU.one 28 11 30 23 0⟩

set_option maxRecDepth 100000 in
theorem c_X5_init (s : Nat) (U : Nat → Prop) (w : Wd) (hK : wK w (60 + s) = 6) (hz : Zr w (60 + s)) (hU : Us U w) (hs : U (60 + s)) (hf : ¬ U (70 + s)) (hs4 : s < 4) : Cc yX5_init mX5_init [.ref (60 + s)] w (fun r w' => r = none ∧ (KeN (fun a => a = 60 + s ∨ a = 70 + s) w w' ∧ G5 s w' ∧ Us (fun a => U a ∨ a = 70 + s) w')) := by
  refine Cc.of (by decide) rfl rfl (Nat.le_of_ble_eq_true rfl) (fun X => ?_)
  change V _ X _ 0 [(0, _)] [] _ (0, 0)
  first | refine V_aload_n dX5_init_0 rfl rfl ?_ | refine V_aload_nN dX5_init_0 rfl rfl ?_
  refine V_objInit koX5_3 dX5_init_1 (Nat.le_of_ble_eq_true rfl) (Nat.le_of_ble_eq_true rfl) ?_
  first | refine V_aload_n dX5_init_4 rfl rfl ?_ | refine V_aload_nN dX5_init_4 rfl rfl ?_
  refine V_bipush (v := 60) dX5_init_5 (by decide) ?_
  refine V_newa (n := (70 + s)) (kd := 11) (len := 60) (by simp) ac_int (by rfl) (by decide) (by exact hU.frs hf (by omega)) rfl (by repeat' first | exact (fun _ h => absurd h List.not_mem_nil) | refine List.forall_mem_cons.mpr ⟨?_, ?_⟩ | exact nRf_r (by omega) | rfl) (by repeat' first | exact (fun _ h => absurd h List.not_mem_nil) | refine List.forall_mem_cons.mpr ⟨?_, ?_⟩ | exact nRf_r (by omega) | rfl) dX5_init_7 ⟨(Nat.le_of_ble_eq_true rfl), (Nat.le_of_ble_eq_true rfl)⟩ ?_
  first | refine V_putr (by first | exact hK | (rw [nwK_n (by omega)]; exact hK) | (rw [wK_sR, nwK_n (by omega)]; exact hK)) pfX5_9 (fun _ => rfl) dX5_init_9 (fun _ => ⟨rfl, rfl⟩) ?_ | refine V_putrN (by first | exact hK | (rw [nwK_n (by omega)]; exact hK) | (rw [wK_sR, nwK_n (by omega)]; exact hK)) pfX5_9 (fun _ => rfl) dX5_init_9 ⟨rfl, rfl⟩ ?_
  first | refine V_aload_n dX5_init_12 rfl rfl ?_ | refine V_aload_nN dX5_init_12 rfl rfl ?_
  refine V_iconst (v := 1) dX5_init_13 (by decide) ?_
  refine V_puti (by first | exact hK | (rw [nwK_n (by omega)]; exact hK) | (rw [wK_sR, nwK_n (by omega)]; exact hK)) pfX5_15 (fun h => nomatch h) dX5_init_14 ⟨rfl, rfl⟩ ?_
  refine V_vret rfl dX5_init_17 (Nat.le_of_ble_eq_true rfl) (Nat.le_of_ble_eq_true rfl) ?_
  have g : KeN (fun a => a = 60 + s ∨ a = 70 + s) w (sI (sR (nw w (70 + s) 11 60) (60 + s) 0 (some (70 + s))) (60 + s) 1 1) := ((KeN.nw w (Or.inr rfl) 11 60).trans (KeN.sR _ (Or.inl rfl) 0 _)).trans (KeN.sI _ (Or.inl rfl) 1 _)
  have e3 : wI (sI (sR (nw w (70 + s) 11 60) (60 + s) 0 (some (70 + s))) (60 + s) 1 1) (60 + s) 3 = 0 := by
    rw [wI_sI, if_neg (by omega), wI_sR]
    rw [nwI_n (by omega), hz.1]
  exact ⟨rfl, g, ⟨by rw [wK_sI, wK_sR, nwK_n (by omega)]; exact hK, by rw [wK_sI, wK_sR, nwK_s], by rw [wN_sI, wN_sR, nwN_s], by rw [wR_sI, wR_sR, if_pos ⟨rfl, rfl⟩], by rw [wI_sI, if_pos ⟨rfl, rfl⟩], e3⟩, (hU.one (70 + s) 11 60 (60 + s) 0).like rfl rfl⟩

theorem mn_ne {w : Wd} {n m a : Nat} (h : ¬ mnN n m a) : wK (mnW w n m) a = wK w a ∧ wN (mnW w n m) a = wN w a ∧ wI (mnW w n m) a = wI w a ∧ wJ (mnW w n m) a = wJ w a ∧ wR (mnW w n m) a = wR w a := by
  have e1 : a ≠ n := fun z => h (Or.inl z)
  have e2 : ¬ (m ≤ a ∧ a < m + 30) := fun z => h (Or.inr z)
  refine ⟨?_, ?_, if_neg h, if_neg h, ?_⟩
  · show (if a = n then 17 else _) = _; rw [if_neg e1, if_neg e2]
  · show (if a = n then 30 else _) = _; rw [if_neg e1, if_neg e2]
  · show (if a = n then _ else _) = _; rw [if_neg e1, if_neg e2]
theorem mn_K {w : Wd} {n m a k : Nat} (hK : wK w a = k) (h : ¬ mnN n m a) : wK (mnW w n m) a = k := (mn_ne h).1.trans hK
theorem Us.mn {U : Nat → Prop} {w : Wd} {n m : Nat} (h : Us U w) (hn : ∀ a, mnN n m a → U a) : Us U (mnW w n m) := by
  refine ⟨fun a ha => ?_, fun a k b hb => ?_⟩
  · rcases List.mem_append.mp (show a ∈ (wL w ++ [n]) ++ (List.range 30).map (fun i => m + i) from ha) with q | q
    · rcases List.mem_append.mp q with q | q
      · exact h.1 a q
      · rw [List.mem_singleton] at q; exact hn a (Or.inl q)
    · obtain ⟨i, hi, rfl⟩ := List.mem_map.mp q
      rw [List.mem_range] at hi
      exact hn _ (Or.inr (by omega))
  · have hb' : (if a = n then (fun i => if i < 30 then some (m + i) else none) else if m ≤ a ∧ a < m + 30 then (fun _ => none) else wR w a : Nat → Option Nat) k = some b := hb
    by_cases e : a = n
    · rw [if_pos e] at hb'
      by_cases c : k < 30
      · rw [if_pos c] at hb'; cases hb'; exact hn _ (Or.inr (by omega))
      · rw [if_neg c] at hb'; cases hb'
    · rw [if_neg e] at hb'
      by_cases c : m ≤ a ∧ a < m + 30
      · rw [if_pos c] at hb'; cases hb'
      · rw [if_neg c] at hb'; exact h.2 a k b hb'
theorem KeN.mn (w : Wd) {S : Nat → Prop} {n m : Nat} (hn : ∀ a, mnN n m a → S a) : KeN S w (mnW w n m) := fun a ha => mn_ne (fun z => ha (hn a z))

set_option maxRecDepth 100000 in
theorem c_X1_init (c : Nat) (U : Nat → Prop) (w : Wd) (hK : wK w (40 + c) = 2) (hz : Zr w (40 + c)) (hU : Us U w) (hs : U (40 + c)) (hf : ∀ a, mnN (50 + c) (100 + 30 * c) a → ¬ U a) (hc : c < 6) : Cc yX1_init mX1_init [.ref (40 + c)] w (fun r w' => r = none ∧ (KeN (fun a => a = 40 + c ∨ mnN (50 + c) (100 + 30 * c) a) w w' ∧ G2 c w' ∧ Us (fun a => U a ∨ mnN (50 + c) (100 + 30 * c) a) w')) := by
  refine Cc.of (by decide) rfl rfl (Nat.le_of_ble_eq_true rfl) (fun X => ?_)
  change V _ X _ 0 [(0, _)] [] _ (0, 0)
  first | refine V_aload_n dX1_init_0 rfl rfl ?_ | refine V_aload_nN dX1_init_0 rfl rfl ?_
  refine V_objInit koX1_3 dX1_init_1 (Nat.le_of_ble_eq_true rfl) (Nat.le_of_ble_eq_true rfl) ?_
  first | refine V_aload_n dX1_init_4 rfl rfl ?_ | refine V_aload_nN dX1_init_4 rfl rfl ?_
  refine V_bipush (v := 30) dX1_init_5 (by decide) ?_
  refine V_bipush (v := 10) dX1_init_7 (by decide) ?_
  refine V_mna (n := (50 + c)) (m := (100 + 30 * c)) w_mm (by exact fun a ha => hU.frs (hf a ha) (by unfold mnN at ha; omega)) (by omega) rfl (by intro q hq a ha; simp only [List.mem_cons, List.not_mem_nil, or_false] at hq; subst hq; intro z; cases z; unfold mnN at ha; omega) (by intro v hv a ha; simp only [List.mem_cons, List.not_mem_nil, or_false] at hv; subst hv; intro z; cases z; unfold mnN at ha; omega) dX1_init_9 ⟨(Nat.le_of_ble_eq_true rfl), (Nat.le_of_ble_eq_true rfl)⟩ ?_
  first | refine V_putr (by first | exact hK | exact mn_K hK (by omega)) pfX1_11 (fun _ => rfl) dX1_init_13 (fun _ => ⟨rfl, rfl⟩) ?_ | refine V_putrN (by first | exact hK | exact mn_K hK (by omega)) pfX1_11 (fun _ => rfl) dX1_init_13 ⟨rfl, rfl⟩ ?_
  refine V_vret rfl dX1_init_16 (Nat.le_of_ble_eq_true rfl) (Nat.le_of_ble_eq_true rfl) ?_
  have g : KeN (fun a => a = 40 + c ∨ mnN (50 + c) (100 + 30 * c) a) w (sR (mnW w (50 + c) (100 + 30 * c)) (40 + c) 0 (some (50 + c))) := (KeN.mn w (fun a z => Or.inr z)).trans (KeN.sR _ (Or.inl rfl) 0 _)
  have h40 : ¬ mnN (50 + c) (100 + 30 * c) (40 + c) := by unfold mnN; omega
  have e3 : wI (sR (mnW w (50 + c) (100 + 30 * c)) (40 + c) 0 (some (50 + c))) (40 + c) 1 = 0 := by
    rw [wI_sR, (mn_ne h40).2.2.1]
    exact congrFun hz.1 1
  have k50 : wK (mnW w (50 + c) (100 + 30 * c)) (50 + c) = 17 := if_pos rfl
  have n50 : wN (mnW w (50 + c) (100 + 30 * c)) (50 + c) = 30 := if_pos rfl
  have r50 : wR (mnW w (50 + c) (100 + 30 * c)) (50 + c) = fun i => if i < 30 then some (100 + 30 * c + i) else none := if_pos rfl
  refine ⟨rfl, g, ⟨mn_K hK h40, k50, n50, if_pos ⟨rfl, rfl⟩, e3, fun f hf => ⟨?_, ?_, ?_⟩⟩, ?_⟩
  · show (if 100 + (30 * c + f) = 50 + c then 17 else if 100 + 30 * c ≤ 100 + (30 * c + f) ∧ 100 + (30 * c + f) < 100 + 30 * c + 30 then 11 else _) = 11
    rw [if_neg (by omega), if_pos (by omega)]
  · show (if 100 + (30 * c + f) = 50 + c then 30 else if 100 + 30 * c ≤ 100 + (30 * c + f) ∧ 100 + (30 * c + f) < 100 + 30 * c + 30 then 10 else _) = 10
    rw [if_neg (by omega), if_pos (by omega)]
  · have e5 : wR (sR (mnW w (50 + c) (100 + 30 * c)) (40 + c) 0 (some (50 + c))) (50 + c) = wR (mnW w (50 + c) (100 + 30 * c)) (50 + c) := sR_ne _ _ (by omega)
    rw [e5, r50]
    dsimp only
    rw [if_pos hf, show 100 + 30 * c + f = 100 + (30 * c + f) by omega]
  · exact (((hU.mono (fun a q => Or.inl q)).mn (n := 50 + c) (m := 100 + 30 * c) (fun a z => Or.inr z)).hold (40 + c) 0 (fun b hb => by cases hb; exact Or.inr (Or.inl rfl)))
