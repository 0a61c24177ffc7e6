/-! THE REFERENCE: least costs -/
abbrev diI (a _ : Nat) : Prop := a = 424 ∨ a = 426 ∨ a = 427
abbrev dtI (a _ : Nat) : Prop := a = 426 ∨ a = 427
/-- what is open is dearest at o, or nothing is open -/
def NxO (P : Nat → Prop) (S : Nat → Bool) (C : Nat → Option Nat) (o : Option Nat) : Prop := match o with
  | none => ∀ s, P s → S s = false → C s = none
  | some v => P v ∧ S v = false ∧ ∃ d, C v = some d ∧ ∀ s e, P s → S s = false → C s = some e → d ≤ e
def DsI (w0 : Wd) (S : Nat → Bool) (C : Nat → Option Nat) (w1 : Wd) : Prop := Kp dtI noA w0 w1 ∧ ∀ s, s < 180 → wI w1 426 s = oI (C s) ∧ wI w1 427 s = bI (S s)
/-- in the midst of relaxing over v, up to s -/
def rlC (E : Nat → Nat → Option Nat) (v d : Nat) (C : Nat → Option Nat) (n : Nat) : Nat → Option Nat := fun s => if s < n then rx (E s v) d (C s) else C s
theorem rlC_v {E : Nat → Nat → Option Nat} {v d n : Nat} {C : Nat → Option Nat} (hE : E v v = none) : rlC E v d C n v = C v := by
  unfold rlC
  rw [hE]
  split <;> rfl
theorem rlC_n {E : Nat → Nat → Option Nat} {v d n : Nat} {C : Nat → Option Nat} : rlC E v d C n n = C n := if_neg (Nat.lt_irrefl n)
theorem rlC_s {E : Nat → Nat → Option Nat} {v d n : Nat} {C : Nat → Option Nat} (s : Nat) : rlC E v d C (n + 1) s = if s = n then rx (E n v) d (C n) else rlC E v d C n s := by
  unfold rlC
  by_cases e : s = n
  · rw [if_pos e, if_pos (by omega), e]
  · rw [if_neg e]
    by_cases c : s < n
    · rw [if_pos c, if_pos (by omega)]
    · rw [if_neg c, if_neg (by omega)]
theorem rx_bd {ec : Option Nat} {d m : Nat} {o : Option Nat} (ho : ∀ e, o = some e → e ≤ m) (hc : ∀ c, ec = some c → d + c ≤ m) : ∀ e, rx ec d o = some e → e ≤ m := fun e h => by
  rcases rx_or h with q | ⟨c, q1, q2⟩
  · exact ho e q
  · have := hc c q1; omega
theorem DsI.skip {w0 w1 : Wd} {S : Nat → Bool} {E : Nat → Nat → Option Nat} {v d n : Nat} {C : Nat → Option Nat} (h : DsI w0 S (rlC E v d C n) w1) (hx : rx (E n v) d (C n) = C n) : DsI w0 S (rlC E v d C (n + 1)) w1 := by
  refine ⟨h.1, fun s hs => ?_⟩
  rw [rlC_s]
  by_cases e : s = n
  · rw [if_pos e, hx, e, ← rlC_n (E := E) (v := v) (d := d) (C := C) (n := n)]
    exact h.2 n (by omega)
  · rw [if_neg e]; exact h.2 s hs
theorem DsI.next {w0 w1 : Wd} {S : Nat → Bool} {E : Nat → Nat → Option Nat} {v d n e : Nat} {C : Nat → Option Nat} (h : DsI w0 S (rlC E v d C n) w1) (hx : rx (E n v) d (C n) = some e) : DsI w0 S (rlC E v d C (n + 1)) (sI w1 426 n (nI e)) := by
  refine ⟨h.1.trans (Kp.sI (SI := dtI) (SJ := noA) w1 (Or.inl rfl) _), fun s hs => ?_⟩
  rw [rlC_s]
  by_cases q : s = n
  · rw [if_pos q, hx, q]
    exact ⟨rdI_eq, (rdI_nn (by decide)).trans (h.2 n (by omega)).2⟩
  · rw [if_neg q, rdI_ne q, rdI_nn (by decide)]; exact h.2 s hs
/-- the best one open, of those below n -/
def bsO (S : Nat → Bool) (C : Nat → Option Nat) (n : Nat) (o : Option Nat) : Prop := match o with
  | none => ∀ s, s < n → S s = false → C s = none
  | some v => v < n ∧ S v = false ∧ ∃ d, C v = some d ∧ ∀ s e, s < n → S s = false → C s = some e → d ≤ e
theorem bsO_skip {S : Nat → Bool} {C : Nat → Option Nat} {n : Nat} {o : Option Nat} (h : bsO S C n o) (hn : S n = true ∨ C n = none) : bsO S C (n + 1) o := by
  cases o with
  | none =>
    intro s hs hS
    by_cases e : s = n
    · rcases hn with q | q
      · rw [e, q] at hS; cases hS
      · rw [e]; exact q
    · exact h s (by omega) hS
  | some v =>
    obtain ⟨h1, h2, d, h3, h4⟩ := h
    refine ⟨by omega, h2, d, h3, fun s e hs hS hC => ?_⟩
    by_cases q : s = n
    · rcases hn with z | z
      · rw [q, z] at hS; cases hS
      · rw [q, z] at hC; cases hC
    · exact h4 s e (by omega) hS hC
theorem bsO_new {S : Nat → Bool} {C : Nat → Option Nat} {n d : Nat} {o : Option Nat} (h : bsO S C n o) (hS : S n = false) (hC : C n = some d) (hl : ∀ v e, o = some v → C v = some e → d ≤ e) : bsO S C (n + 1) (some n) := by
  refine ⟨by omega, hS, d, hC, fun s e hs hSs hCs => ?_⟩
  by_cases q : s = n
  · rw [q, hC] at hCs; cases hCs; exact Nat.le_refl _
  · cases o with
    | none => rw [h s (by omega) hSs] at hCs; cases hCs
    | some v =>
      obtain ⟨h1, h2, d1, h3, h4⟩ := h
      have := h4 s e (by omega) hSs hCs
      have := hl v d1 rfl h3
      omega
theorem bsO_old {S : Nat → Bool} {C : Nat → Option Nat} {n v d e : Nat} (h : bsO S C n (some v)) (hv : C v = some e) (hC : C n = some d) (hl : e ≤ d) : bsO S C (n + 1) (some v) := by
  obtain ⟨h1, h2, d1, h3, h4⟩ := h
  rw [hv] at h3
  cases h3
  refine ⟨by omega, h2, e, hv, fun s x hs hS hCs => ?_⟩
  by_cases q : s = n
  · rw [q, hC] at hCs; cases hCs; exact hl
  · exact h4 s x (by omega) hS hCs
theorem NxO_of {q : Cp} {S : Nat → Bool} {C : Nat → Option Nat} {o : Option Nat} (h : bsO S C 180 o) (hC : ∀ s, ¬ pP q s → C s = none) : NxO (pP q) S C o := by
  cases o with
  | none => exact fun s hs hS => h s hs.1 hS
  | some v =>
    obtain ⟨h1, h2, d, h3, h4⟩ := h
    refine ⟨Classical.not_not.mp (fun z => by rw [hC v z] at h3; cases h3), h2, d, h3, fun s e hs hS hCs => h4 s e hs.1 hS hCs⟩

theorem cnt_z : ∀ n, cntF (fun _ => false) n = 0
  | 0 => rfl
  | n + 1 => by rw [cntF, cnt_z n]; rfl

set_option maxRecDepth 100000 in
theorem c_X9_findDistances (z : St) (g : Nat) (D : Nat → Option Nat) (w : Wd) (z0 : RM z w) (hg : pP (zQ z) g) (hb : BE (egZ z) g D) : Cc yX9_findDistances mX9_findDistances [.ref 400, .int (nI g)] w (fun r w' => r = none ∧ Kp diI noA w w' ∧ MCo (zQ z) (kN (zK z)) (zJ z) w' ∧ (∀ v, v < 180 → wI w' 426 v = oI (D v)) ∧ ∀ v e, D v = some e → e ≤ 18540) := by
  refine Cc.of (by decide) rfl rfl (Nat.le_of_ble_eq_true rfl) (fun X => ?_)
  change V _ X _ 0 [(0, _), (1, _)] [] _ (0, 0)
  have lp2 : ∀ w1, LayM w1 → Kp coI noA w w1 → MCo (zQ z) (kN (zK z)) (zJ z) w1 → ∀ (f : Nat) (S : Nat → Bool) (C : Nat → Option Nat) (o : Option Nat) (w2 : Wd), DsI w1 S C w2 → RI (pP (zQ z)) (egZ z) g D S C → NxO (pP (zQ z)) S C o → 180 - cntF S 180 ≤ f → (∀ s e, C s = some e → e ≤ 103 * cntF S 180) → V mX9_findDistances X (mq mX9_findDistances X (fun r w' => r = none ∧ Kp diI noA w w' ∧ MCo (zQ z) (kN (zK z)) (zJ z) w' ∧ (∀ v, v < 180 → wI w' 426 v = oI (D v)) ∧ ∀ v e, D v = some e → e ≤ 18540)) 42 [(0, .ref 400), (2, .int (oI o))] [] w2 (0, 0) := by
    intro w1 hl1 a1 a2 f
    induction f with
    | zero =>
      intro S C o w2 hs hI hN hf hbd
      have h2 : LayM w2 := hl1.kp hs.1
      cases o with
      | none =>
        refine V_iload_n dX9_findDistances_42 rfl rfl ?_
        refine V_iconst (v := -1) dX9_findDistances_43 (by decide) ?_
        refine V_icmp_eq (tgt := 201) dX9_findDistances_44 (by decide) (fun c44 => ?_) (fun c44 => False.elim (by exact c44 rfl))
        refine V_vret rfl dX9_findDistances_201 (Nat.le_of_ble_eq_true rfl) (Nat.le_of_ble_eq_true rfl) ?_
        have hD : ∀ x, C x = D x := fun x => hI.done hb (eg_P z0.2.2.2.1.2.1) hg hN x
        refine ⟨rfl, (a1.mono (fun a j z => Or.inl z) (fun _ _ z => z)).trans (hs.1.mono (fun a j z => Or.inr z) (fun _ _ z => z)), a2.kp hs.1 (fun a j z => by unfold dtI at z; omega), fun v hv => ?_, fun v e he => ?_⟩
        · rw [← hD v]; exact (hs.2 v hv).1
        · rw [← hD v] at he
          have := hbd v e he
          have := cntF_le S 180
          omega
      | some v =>
        obtain ⟨hP, hS, -⟩ := hN
        have h1 := cntF_set (S := S) (v := v) hS (m := 180)
        rw [if_pos hP.1] at h1
        have h9 := cntF_le (setB S v) 180
        omega
    | succ f ihf =>
      intro S C o w2 hs hI hN hf hbd
      have h2 : LayM w2 := hl1.kp hs.1
      cases o with
      | none =>
        refine V_iload_n dX9_findDistances_42 rfl rfl ?_
        refine V_iconst (v := -1) dX9_findDistances_43 (by decide) ?_
        refine V_icmp_eq (tgt := 201) dX9_findDistances_44 (by decide) (fun c44 => ?_) (fun c44 => False.elim (by exact c44 rfl))
        refine V_vret rfl dX9_findDistances_201 (Nat.le_of_ble_eq_true rfl) (Nat.le_of_ble_eq_true rfl) ?_
        have hD : ∀ x, C x = D x := fun x => hI.done hb (eg_P z0.2.2.2.1.2.1) hg hN x
        refine ⟨rfl, (a1.mono (fun a j z => Or.inl z) (fun _ _ z => z)).trans (hs.1.mono (fun a j z => Or.inr z) (fun _ _ z => z)), a2.kp hs.1 (fun a j z => by unfold dtI at z; omega), fun v hv => ?_, fun v e he => ?_⟩
        · rw [← hD v]; exact (hs.2 v hv).1
        · rw [← hD v] at he
          have := hbd v e he
          have := cntF_le S 180
          omega
      | some v =>
        obtain ⟨hP, hS, d, hC, hm⟩ := hN
        have hP0 := hP.1
        have hE : ∀ x, (egZ z) x x = none := fun x => if_neg (fun z => z.2.2 rfl)
        have hEv := hE v
        have h1 := cntF_set (S := S) (v := v) hS (m := 180)
        rw [if_pos hP.1] at h1
        have h9 := cntF_le (setB S v) 180
        have hd9 := hbd v d hC
        have hs3 : DsI w1 (setB S v) (rlC (egZ z) v d C 0) (sI w2 427 v 1) := by
          refine ⟨hs.1.trans (Kp.sI (SI := dtI) (SJ := noA) w2 (Or.inr rfl) _), fun s hs' => ?_⟩
          rw [rdI_nn (by decide)]
          refine ⟨(hs.2 s hs').1, ?_⟩
          unfold setB
          by_cases e : s = v
          · rw [e, rdI_eq, if_pos rfl]; rfl
          · rw [rdI_ne e, if_neg e]; exact (hs.2 s hs').2
        have hstep : RI (pP (zQ z)) (egZ z) g D (setB S v) (fun s => rx ((egZ z) s v) d (C s)) := hI.step hb (eg_P z0.2.2.2.1.2.1) hE hP hS hC hm (fun s => by
          unfold setB
          by_cases e : s = v
          · rw [if_pos e]; exact ⟨fun _ => Or.inr e, fun _ => rfl⟩
          · rw [if_neg e]; exact ⟨fun z => Or.inl z, fun z => z.elim id (fun q => absurd q e)⟩) (fun s => rfl)
        have hbd2 : ∀ s e, rlC (egZ z) v d C 180 s = some e → e ≤ 103 * cntF (setB S v) 180 := fun s e he => by
          unfold rlC at he
          by_cases c : s < 180
          · rw [if_pos c] at he
            refine rx_bd (fun e he => ?_) (fun c hc => ?_) e he
            · have := hbd s e he; omega
            · have := eg_lt (jn := zJ z) z0.2.2.2.1.2.1 hc; omega
          · rw [if_neg c] at he
            have := hbd s e he; omega
        have hCe : rlC (egZ z) v d C 180 = fun s => rx ((egZ z) s v) d (C s) := funext fun s => by
          unfold rlC
          by_cases c : s < 180
          · rw [if_pos c]
          · rw [if_neg c]
            cases he : (egZ z) s v with
            | none => rfl
            | some c2 => exact absurd ((eg_P z0.2.2.2.1.2.1) s v c2 he).1.1 c
        have go : ∀ w3 o, DsI w1 (setB S v) (rlC (egZ z) v d C 180) w3 → bsO (setB S v) (rlC (egZ z) v d C 180) 180 o → V mX9_findDistances X (mq mX9_findDistances X (fun r w' => r = none ∧ Kp diI noA w w' ∧ MCo (zQ z) (kN (zK z)) (zJ z) w' ∧ (∀ v, v < 180 → wI w' 426 v = oI (D v)) ∧ ∀ v e, D v = some e → e ≤ 18540)) 42 [(0, .ref 400), (2, .int (oI o))] [] w3 (0, 0) := fun w3 o t3 hbo => by
          rw [hCe] at t3 hbo
          refine ihf (setB S v) _ o w3 t3 hstep (NxO_of hbo hstep.2.2.2.2.2.2) (by omega) (fun s e he => ?_)
          exact hbd2 s e ((congrFun hCe s).trans he)
        have lp4 : ∀ w3, DsI w1 (setB S v) (rlC (egZ z) v d C 180) w3 → ∀ (e y : Nat) (o : Option Nat), y + e = 180 → bsO (setB S v) (rlC (egZ z) v d C 180) y o → V mX9_findDistances X (mq mX9_findDistances X (fun r w' => r = none ∧ Kp diI noA w w' ∧ MCo (zQ z) (kN (zK z)) (zJ z) w' ∧ (∀ v, v < 180 → wI w' 426 v = oI (D v)) ∧ ∀ v e, D v = some e → e ≤ 18540)) 137 [(0, .ref 400), (3, .int (oI o)), (4, .int (nI y))] [] w3 (0, 0) := by
          intro w3 t3 e
          have h3 : LayM w3 := hl1.kp t3.1
          induction e with
          | zero =>
            intro y o hd hbo
            obtain rfl : y = 180 := hd
            refine V_iload dX9_findDistances_137 rfl ?_
            refine V_sipush (v := 180) dX9_findDistances_139 (by decide) ?_
            refine V_icmp_ge (tgt := 196) dX9_findDistances_142 (by decide) (fun c142 => ?_) (fun c142 => False.elim (by exact c142 (by decide)))
            refine V_iload_n dX9_findDistances_196 rfl rfl ?_
            refine S_istore_n (L' := [(0, _), (2, _)]) dX9_findDistances_197 rfl rfl rfl ?_
            refine V_goto (tgt := 42) dX9_findDistances_198 (by decide) ?_
            refine V_sub (L' := [(0, _), (2, _)]) rfl ?_
            exact go w3 o t3 hbo
          | succ e ih4 =>
            intro y o hd hbo
            have hy : y < 180 := by omega
            cases o with
            | none =>
              refine V_iload dX9_findDistances_137 rfl ?_
              refine V_sipush (v := 180) dX9_findDistances_139 (by decide) ?_
              refine V_icmp_ge (tgt := 196) dX9_findDistances_142 (by decide) (fun c142 => False.elim (by exact nI_ge (a := y) (b := 180) hy (by decide) c142)) (fun c142 => ?_)
              first | refine V_aload_n dX9_findDistances_145 rfl rfl ?_ | refine V_aload_nN dX9_findDistances_145 rfl rfl ?_
              first | refine V_getr (by exact h3.k _ rfl rfl) fX9_73 dX9_findDistances_146 (by exact (h3.r 26 rfl (by decide) : _ = some 427)) ?_ | refine V_getrN (by exact h3.k _ rfl rfl) fX9_73 dX9_findDistances_146 (by exact (h3.r 26 rfl (by decide) : _ = some 427)) ?_
              refine V_iload dX9_findDistances_149 rfl ?_
              refine G_zald (j := y) (by exact h3.k _ rfl rfl) (by rfl) (by exact h3.lt 427 (m := 180) rfl rfl (by decide) rfl (by omega)) (by exact h3.nlt 427 rfl rfl (by decide)) dX9_findDistances_151 (by exact (t3.2 y hy).2) ?_
              refine V_if_ne (tgt := 190) dX9_findDistances_152 (by decide) (fun c152 => ?_) (fun c152 => ?_)
              · refine S_iinc (L' := [(0, _), (3, _), (4, _)]) dX9_findDistances_190 rfl rfl rfl rfl ?_
                rw [nI_inc]
                refine V_goto (tgt := 137) dX9_findDistances_193 (by decide) ?_
                first
                  | (have h152 := bI_1 c152
                     exact ih4 (y + 1) none (by omega) (bsO_skip hbo (Or.inl h152)))
                  | (have h152 := bI_0 c152
                     first
                       | (have h163 : rlC (egZ z) v d C 180 y = none := (oI_some (fun n hn => by have := hbd2 y n hn; omega)).mp c163
                          exact ih4 (y + 1) none (by omega) (bsO_skip hbo (Or.inr h163)))
                       | (have h163 : ¬ rlC (egZ z) v d C 180 y = none := fun z => c163 (congrArg oI z)
                          obtain ⟨e, he⟩ := Option.ne_none_iff_exists'.mp h163
                          exact ih4 (y + 1) (some y) (by omega) (bsO_new hbo h152 he (fun v e h => by cases h))))
              · first | refine V_aload_n dX9_findDistances_155 rfl rfl ?_ | refine V_aload_nN dX9_findDistances_155 rfl rfl ?_
                first | refine V_getr (by exact h3.k _ rfl rfl) fX9_70 dX9_findDistances_156 (by exact (h3.r 25 rfl (by decide) : _ = some 426)) ?_ | refine V_getrN (by exact h3.k _ rfl rfl) fX9_70 dX9_findDistances_156 (by exact (h3.r 25 rfl (by decide) : _ = some 426)) ?_
                refine V_iload dX9_findDistances_159 rfl ?_
                refine G_iald (j := y) (by exact h3.k _ rfl rfl) (by rfl) (by exact h3.lt 426 (m := 180) rfl rfl (by decide) rfl (by omega)) (by exact h3.nlt 426 rfl rfl (by decide)) dX9_findDistances_161 (by exact (t3.2 y hy).1) ?_
                refine V_iconst (v := -1) dX9_findDistances_162 (by decide) ?_
                refine V_icmp_eq (tgt := 190) dX9_findDistances_163 (by decide) (fun c163 => ?_) (fun c163 => ?_)
                · refine S_iinc (L' := [(0, _), (3, _), (4, _)]) dX9_findDistances_190 rfl rfl rfl rfl ?_
                  rw [nI_inc]
                  refine V_goto (tgt := 137) dX9_findDistances_193 (by decide) ?_
                  first
                    | (have h152 := bI_1 c152
                       exact ih4 (y + 1) none (by omega) (bsO_skip hbo (Or.inl h152)))
                    | (have h152 := bI_0 c152
                       first
                         | (have h163 : rlC (egZ z) v d C 180 y = none := (oI_some (fun n hn => by have := hbd2 y n hn; omega)).mp c163
                            exact ih4 (y + 1) none (by omega) (bsO_skip hbo (Or.inr h163)))
                         | (have h163 : ¬ rlC (egZ z) v d C 180 y = none := fun z => c163 (congrArg oI z)
                            obtain ⟨e, he⟩ := Option.ne_none_iff_exists'.mp h163
                            exact ih4 (y + 1) (some y) (by omega) (bsO_new hbo h152 he (fun v e h => by cases h))))
                · refine V_iload_n dX9_findDistances_166 rfl rfl ?_
                  refine V_iconst (v := -1) dX9_findDistances_167 (by decide) ?_
                  refine V_icmp_eq (tgt := 187) dX9_findDistances_168 (by decide) (fun c168 => ?_) (fun c168 => False.elim (by exact c168 rfl))
                  refine V_iload dX9_findDistances_187 rfl ?_
                  refine S_istore_n (L' := [(0, _), (3, _), (4, _)]) dX9_findDistances_189 rfl rfl rfl ?_
                  refine S_iinc (L' := [(0, _), (3, _), (4, _)]) dX9_findDistances_190 rfl rfl rfl rfl ?_
                  rw [nI_inc]
                  refine V_goto (tgt := 137) dX9_findDistances_193 (by decide) ?_
                  first
                    | (have h152 := bI_1 c152
                       exact ih4 (y + 1) none (by omega) (bsO_skip hbo (Or.inl h152)))
                    | (have h152 := bI_0 c152
                       first
                         | (have h163 : rlC (egZ z) v d C 180 y = none := (oI_some (fun n hn => by have := hbd2 y n hn; omega)).mp c163
                            exact ih4 (y + 1) none (by omega) (bsO_skip hbo (Or.inr h163)))
                         | (have h163 : ¬ rlC (egZ z) v d C 180 y = none := fun z => c163 (congrArg oI z)
                            obtain ⟨e, he⟩ := Option.ne_none_iff_exists'.mp h163
                            exact ih4 (y + 1) (some y) (by omega) (bsO_new hbo h152 he (fun v e h => by cases h))))
            | some u =>
              have huy : u < y := hbo.1
              obtain ⟨x2, hu2, -⟩ := hbo.2.2
              refine V_iload dX9_findDistances_137 rfl ?_
              refine V_sipush (v := 180) dX9_findDistances_139 (by decide) ?_
              refine V_icmp_ge (tgt := 196) dX9_findDistances_142 (by decide) (fun c142 => False.elim (by exact nI_ge (a := y) (b := 180) hy (by decide) c142)) (fun c142 => ?_)
              first | refine V_aload_n dX9_findDistances_145 rfl rfl ?_ | refine V_aload_nN dX9_findDistances_145 rfl rfl ?_
              first | refine V_getr (by exact h3.k _ rfl rfl) fX9_73 dX9_findDistances_146 (by exact (h3.r 26 rfl (by decide) : _ = some 427)) ?_ | refine V_getrN (by exact h3.k _ rfl rfl) fX9_73 dX9_findDistances_146 (by exact (h3.r 26 rfl (by decide) : _ = some 427)) ?_
              refine V_iload dX9_findDistances_149 rfl ?_
              refine G_zald (j := y) (by exact h3.k _ rfl rfl) (by rfl) (by exact h3.lt 427 (m := 180) rfl rfl (by decide) rfl (by omega)) (by exact h3.nlt 427 rfl rfl (by decide)) dX9_findDistances_151 (by exact (t3.2 y hy).2) ?_
              refine V_if_ne (tgt := 190) dX9_findDistances_152 (by decide) (fun c152 => ?_) (fun c152 => ?_)
              · refine S_iinc (L' := [(0, _), (3, _), (4, _)]) dX9_findDistances_190 rfl rfl rfl rfl ?_
                rw [nI_inc]
                refine V_goto (tgt := 137) dX9_findDistances_193 (by decide) ?_
                first
                  | (have h152 := bI_1 c152
                     exact ih4 (y + 1) (some u) (by omega) (bsO_skip hbo (Or.inl h152)))
                  | (have h152 := bI_0 c152
                     first
                       | (have h163 : rlC (egZ z) v d C 180 y = none := (oI_some (fun n hn => by have := hbd2 y n hn; omega)).mp c163
                          exact ih4 (y + 1) (some u) (by omega) (bsO_skip hbo (Or.inr h163)))
                       | (have h163 : ¬ rlC (egZ z) v d C 180 y = none := fun z => c163 (congrArg oI z)
                          obtain ⟨e, he⟩ := Option.ne_none_iff_exists'.mp h163
                          have he2 := hbd2 y e he
                          have hx2 := hbd2 u x2 hu2
                          have h184 := c184
                          rw [show oI (rlC (egZ z) v d C 180 y) = nI e from congrArg oI he, show oI (rlC (egZ z) v d C 180 u) = nI x2 from congrArg oI hu2] at h184
                          first
                            | (have hle : x2 ≤ e := (nI_leI (by omega) (by omega)).mp h184
                               exact ih4 (y + 1) (some u) (by omega) (bsO_old hbo hu2 he hle))
                            | (have hle : ¬ x2 ≤ e := fun z => h184 ((nI_leI (by omega) (by omega)).mpr z)
                               exact ih4 (y + 1) (some y) (by omega) (bsO_new hbo h152 he (fun v e h h' => by cases h; rw [hu2] at h'; cases h'; omega)))))
              · first | refine V_aload_n dX9_findDistances_155 rfl rfl ?_ | refine V_aload_nN dX9_findDistances_155 rfl rfl ?_
                first | refine V_getr (by exact h3.k _ rfl rfl) fX9_70 dX9_findDistances_156 (by exact (h3.r 25 rfl (by decide) : _ = some 426)) ?_ | refine V_getrN (by exact h3.k _ rfl rfl) fX9_70 dX9_findDistances_156 (by exact (h3.r 25 rfl (by decide) : _ = some 426)) ?_
                refine V_iload dX9_findDistances_159 rfl ?_
                refine G_iald (j := y) (by exact h3.k _ rfl rfl) (by rfl) (by exact h3.lt 426 (m := 180) rfl rfl (by decide) rfl (by omega)) (by exact h3.nlt 426 rfl rfl (by decide)) dX9_findDistances_161 (by exact (t3.2 y hy).1) ?_
                refine V_iconst (v := -1) dX9_findDistances_162 (by decide) ?_
                refine V_icmp_eq (tgt := 190) dX9_findDistances_163 (by decide) (fun c163 => ?_) (fun c163 => ?_)
                · refine S_iinc (L' := [(0, _), (3, _), (4, _)]) dX9_findDistances_190 rfl rfl rfl rfl ?_
                  rw [nI_inc]
                  refine V_goto (tgt := 137) dX9_findDistances_193 (by decide) ?_
                  first
                    | (have h152 := bI_1 c152
                       exact ih4 (y + 1) (some u) (by omega) (bsO_skip hbo (Or.inl h152)))
                    | (have h152 := bI_0 c152
                       first
                         | (have h163 : rlC (egZ z) v d C 180 y = none := (oI_some (fun n hn => by have := hbd2 y n hn; omega)).mp c163
                            exact ih4 (y + 1) (some u) (by omega) (bsO_skip hbo (Or.inr h163)))
                         | (have h163 : ¬ rlC (egZ z) v d C 180 y = none := fun z => c163 (congrArg oI z)
                            obtain ⟨e, he⟩ := Option.ne_none_iff_exists'.mp h163
                            have he2 := hbd2 y e he
                            have hx2 := hbd2 u x2 hu2
                            have h184 := c184
                            rw [show oI (rlC (egZ z) v d C 180 y) = nI e from congrArg oI he, show oI (rlC (egZ z) v d C 180 u) = nI x2 from congrArg oI hu2] at h184
                            first
                              | (have hle : x2 ≤ e := (nI_leI (by omega) (by omega)).mp h184
                                 exact ih4 (y + 1) (some u) (by omega) (bsO_old hbo hu2 he hle))
                              | (have hle : ¬ x2 ≤ e := fun z => h184 ((nI_leI (by omega) (by omega)).mpr z)
                                 exact ih4 (y + 1) (some y) (by omega) (bsO_new hbo h152 he (fun v e h h' => by cases h; rw [hu2] at h'; cases h'; omega)))))
                · refine V_iload_n dX9_findDistances_166 rfl rfl ?_
                  refine V_iconst (v := -1) dX9_findDistances_167 (by decide) ?_
                  refine V_icmp_eq (tgt := 187) dX9_findDistances_168 (by decide) (fun c168 => False.elim (by exact nI_nm1 (by omega) c168)) (fun c168 => ?_)
                  first | refine V_aload_n dX9_findDistances_171 rfl rfl ?_ | refine V_aload_nN dX9_findDistances_171 rfl rfl ?_
                  first | refine V_getr (by exact h3.k _ rfl rfl) fX9_70 dX9_findDistances_172 (by exact (h3.r 25 rfl (by decide) : _ = some 426)) ?_ | refine V_getrN (by exact h3.k _ rfl rfl) fX9_70 dX9_findDistances_172 (by exact (h3.r 25 rfl (by decide) : _ = some 426)) ?_
                  refine V_iload dX9_findDistances_175 rfl ?_
                  refine G_iald (j := y) (by exact h3.k _ rfl rfl) (by rfl) (by exact h3.lt 426 (m := 180) rfl rfl (by decide) rfl (by omega)) (by exact h3.nlt 426 rfl rfl (by decide)) dX9_findDistances_177 (by exact (t3.2 y hy).1) ?_
                  first | refine V_aload_n dX9_findDistances_178 rfl rfl ?_ | refine V_aload_nN dX9_findDistances_178 rfl rfl ?_
                  first | refine V_getr (by exact h3.k _ rfl rfl) fX9_70 dX9_findDistances_179 (by exact (h3.r 25 rfl (by decide) : _ = some 426)) ?_ | refine V_getrN (by exact h3.k _ rfl rfl) fX9_70 dX9_findDistances_179 (by exact (h3.r 25 rfl (by decide) : _ = some 426)) ?_
                  refine V_iload_n dX9_findDistances_182 rfl rfl ?_
                  refine G_iald (j := u) (by exact h3.k _ rfl rfl) (by rfl) (by exact h3.lt 426 (m := 180) rfl rfl (by decide) rfl (by omega)) (by exact h3.nlt 426 rfl rfl (by decide)) dX9_findDistances_183 (by exact (t3.2 u (by omega)).1) ?_
                  refine V_icmp_ge (tgt := 190) dX9_findDistances_184 (by decide) (fun c184 => ?_) (fun c184 => ?_)
                  · refine S_iinc (L' := [(0, _), (3, _), (4, _)]) dX9_findDistances_190 rfl rfl rfl rfl ?_
                    rw [nI_inc]
                    refine V_goto (tgt := 137) dX9_findDistances_193 (by decide) ?_
                    first
                      | (have h152 := bI_1 c152
                         exact ih4 (y + 1) (some u) (by omega) (bsO_skip hbo (Or.inl h152)))
                      | (have h152 := bI_0 c152
                         first
                           | (have h163 : rlC (egZ z) v d C 180 y = none := (oI_some (fun n hn => by have := hbd2 y n hn; omega)).mp c163
                              exact ih4 (y + 1) (some u) (by omega) (bsO_skip hbo (Or.inr h163)))
                           | (have h163 : ¬ rlC (egZ z) v d C 180 y = none := fun z => c163 (congrArg oI z)
                              obtain ⟨e, he⟩ := Option.ne_none_iff_exists'.mp h163
                              have he2 := hbd2 y e he
                              have hx2 := hbd2 u x2 hu2
                              have h184 := c184
                              rw [show oI (rlC (egZ z) v d C 180 y) = nI e from congrArg oI he, show oI (rlC (egZ z) v d C 180 u) = nI x2 from congrArg oI hu2] at h184
                              first
                                | (have hle : x2 ≤ e := (nI_leI (by omega) (by omega)).mp h184
                                   exact ih4 (y + 1) (some u) (by omega) (bsO_old hbo hu2 he hle))
                                | (have hle : ¬ x2 ≤ e := fun z => h184 ((nI_leI (by omega) (by omega)).mpr z)
                                   exact ih4 (y + 1) (some y) (by omega) (bsO_new hbo h152 he (fun v e h h' => by cases h; rw [hu2] at h'; cases h'; omega)))))
                  · refine V_iload dX9_findDistances_187 rfl ?_
                    refine S_istore_n (L' := [(0, _), (3, _), (4, _)]) dX9_findDistances_189 rfl rfl rfl ?_
                    refine S_iinc (L' := [(0, _), (3, _), (4, _)]) dX9_findDistances_190 rfl rfl rfl rfl ?_
                    rw [nI_inc]
                    refine V_goto (tgt := 137) dX9_findDistances_193 (by decide) ?_
                    first
                      | (have h152 := bI_1 c152
                         exact ih4 (y + 1) (some u) (by omega) (bsO_skip hbo (Or.inl h152)))
                      | (have h152 := bI_0 c152
                         first
                           | (have h163 : rlC (egZ z) v d C 180 y = none := (oI_some (fun n hn => by have := hbd2 y n hn; omega)).mp c163
                              exact ih4 (y + 1) (some u) (by omega) (bsO_skip hbo (Or.inr h163)))
                           | (have h163 : ¬ rlC (egZ z) v d C 180 y = none := fun z => c163 (congrArg oI z)
                              obtain ⟨e, he⟩ := Option.ne_none_iff_exists'.mp h163
                              have he2 := hbd2 y e he
                              have hx2 := hbd2 u x2 hu2
                              have h184 := c184
                              rw [show oI (rlC (egZ z) v d C 180 y) = nI e from congrArg oI he, show oI (rlC (egZ z) v d C 180 u) = nI x2 from congrArg oI hu2] at h184
                              first
                                | (have hle : x2 ≤ e := (nI_leI (by omega) (by omega)).mp h184
                                   exact ih4 (y + 1) (some u) (by omega) (bsO_old hbo hu2 he hle))
                                | (have hle : ¬ x2 ≤ e := fun z => h184 ((nI_leI (by omega) (by omega)).mpr z)
                                   exact ih4 (y + 1) (some y) (by omega) (bsO_new hbo h152 he (fun v e h h' => by cases h; rw [hu2] at h'; cases h'; omega)))))
        have lp3 : ∀ (e x : Nat) (w3 : Wd), x + e = 180 → DsI w1 (setB S v) (rlC (egZ z) v d C x) w3 → V mX9_findDistances X (mq mX9_findDistances X (fun r w' => r = none ∧ Kp diI noA w w' ∧ MCo (zQ z) (kN (zK z)) (zJ z) w' ∧ (∀ v, v < 180 → wI w' 426 v = oI (D v)) ∧ ∀ v e, D v = some e → e ≤ 18540)) 56 [(0, .ref 400), (2, .int (nI v)), (3, .int (nI x))] [] w3 (0, 0) := by
          intro e
          induction e with
          | zero =>
            intro x w3 hd t3
            have h3 : LayM w3 := hl1.kp t3.1
            obtain rfl : x = 180 := hd
            have lp4 := lp4 w3 t3
            refine V_iload_n dX9_findDistances_56 rfl rfl ?_
            refine V_sipush (v := 180) dX9_findDistances_57 (by decide) ?_
            refine V_icmp_ge (tgt := 132) dX9_findDistances_60 (by decide) (fun c60 => ?_) (fun c60 => False.elim (by exact c60 (by decide)))
            refine V_iconst (v := -1) dX9_findDistances_132 (by decide) ?_
            refine S_istore_n (L' := [(0, _), (3, _)]) dX9_findDistances_133 rfl rfl rfl ?_
            refine V_iconst (v := 0) dX9_findDistances_134 (by decide) ?_
            refine S_istore (L' := [(0, _), (3, _), (4, _)]) dX9_findDistances_135 rfl rfl ?_
            refine V_sub (L' := [(0, _), (3, _), (4, _)]) rfl ?_
            exact lp4 180 0 none rfl (fun s hs => absurd hs (Nat.not_lt_zero _))
          | succ e ih3 =>
            intro x w3 hd t3
            have h3 : LayM w3 := hl1.kp t3.1
            have hx : x < 180 := by omega
            refine V_iload_n dX9_findDistances_56 rfl rfl ?_
            refine V_sipush (v := 180) dX9_findDistances_57 (by decide) ?_
            refine V_icmp_ge (tgt := 132) dX9_findDistances_60 (by decide) (fun c60 => False.elim (by exact nI_ge (a := x) (b := 180) hx (by decide) c60)) (fun c60 => ?_)
            first | refine V_aload_n dX9_findDistances_63 rfl rfl ?_ | refine V_aload_nN dX9_findDistances_63 rfl rfl ?_
            first | refine V_getr (by exact h3.k _ rfl rfl) fX9_63 dX9_findDistances_64 (by exact (h3.r 23 rfl (by decide) : _ = some 424)) ?_ | refine V_getrN (by exact h3.k _ rfl rfl) fX9_63 dX9_findDistances_64 (by exact (h3.r 23 rfl (by decide) : _ = some 424)) ?_
            refine V_sipush (v := 180) dX9_findDistances_67 (by decide) ?_
            refine V_iload_n dX9_findDistances_70 rfl rfl ?_
            refine V_imul dX9_findDistances_71 ?_
            refine V_iload_n dX9_findDistances_72 rfl rfl ?_
            refine V_iadd dX9_findDistances_73 ?_
            rw [sp180]
            refine G_iald (j := 180 * x + v) (by exact h3.k _ rfl rfl) (by rfl) (by exact h3.lt 424 (m := 32400) rfl rfl (by decide) rfl (by omega)) (by exact h3.nlt 424 rfl rfl (by decide)) dX9_findDistances_74 (by exact (a2.kp t3.1 (fun a j z => by unfold dtI at z; omega)) x v hx (by omega)) ?_
            refine S_istore (L' := [(0, _), (2, _), (3, _), (4, _)]) dX9_findDistances_75 rfl rfl ?_
            refine V_iload dX9_findDistances_77 rfl ?_
            refine V_iconst (v := -1) dX9_findDistances_79 (by decide) ?_
            refine V_icmp_eq (tgt := 126) dX9_findDistances_80 (by decide) (fun c80 => ?_) (fun c80 => ?_)
            · refine S_iinc (L' := [(0, _), (2, _), (3, _)]) dX9_findDistances_126 rfl rfl rfl rfl ?_
              rw [nI_inc]
              refine V_goto (tgt := 56) dX9_findDistances_129 (by decide) ?_
              first
                | (have h80 : egZ z x v = none := (oI_some (eg_lt2 (jn := zJ z) z0.2.2.2.1.2.1 x v)).mp c80
                   exact ih3 (x + 1) w3 (by omega) (t3.skip (by rw [h80]; rfl)))
                | (have h80 : ¬ egZ z x v = none := fun z => c80 (congrArg oI z)
                   obtain ⟨c, hc⟩ := Option.ne_none_iff_exists'.mp h80
                   have hc102 : c ≤ 102 := eg_lt (jn := zJ z) z0.2.2.2.1.2.1 hc
                   have ec : oI (eg (zQ z) (kN (zK z)) (zJ z) x v) = nI c := congrArg oI hc
                   first
                     | (have h90 : C x = none := (oI_some (fun n hn => by have := hbd x n hn; omega)).mp c90
                        have hxx : rx (egZ z x v) d (C x) = some (d + c) := by rw [hc, h90]; rfl
                        have key := ih3 (x + 1) _ (by omega) (t3.next hxx)
                        rw [ec, nI_add]
                        exact key)
                     | (have h90 : ¬ C x = none := fun z => c90 (congrArg oI z)
                        obtain ⟨e, he⟩ := Option.ne_none_iff_exists'.mp h90
                        have hebd := hbd x e he
                        have h108 := c108
                        rw [ec, nI_add, show oI (C x) = nI e from congrArg oI he] at h108
                        first
                          | (have hle : e ≤ d + c := (nI_leI (by omega) (by omega)).mp h108
                             have hxx : rx (egZ z x v) d (C x) = C x := by rw [hc, he]; exact if_neg (by omega)
                             exact ih3 (x + 1) w3 (by omega) (t3.skip hxx))
                          | (have hle : ¬ e ≤ d + c := fun z => h108 ((nI_leI (by omega) (by omega)).mpr z)
                             have hxx : rx (egZ z x v) d (C x) = some (d + c) := by rw [hc, he]; exact if_pos (by omega)
                             have key := ih3 (x + 1) _ (by omega) (t3.next hxx)
                             rw [ec, nI_add]
                             exact key)))
            · first | refine V_aload_n dX9_findDistances_83 rfl rfl ?_ | refine V_aload_nN dX9_findDistances_83 rfl rfl ?_
              first | refine V_getr (by exact h3.k _ rfl rfl) fX9_70 dX9_findDistances_84 (by exact (h3.r 25 rfl (by decide) : _ = some 426)) ?_ | refine V_getrN (by exact h3.k _ rfl rfl) fX9_70 dX9_findDistances_84 (by exact (h3.r 25 rfl (by decide) : _ = some 426)) ?_
              refine V_iload_n dX9_findDistances_87 rfl rfl ?_
              refine G_iald (j := x) (by exact h3.k _ rfl rfl) (by rfl) (by exact h3.lt 426 (m := 180) rfl rfl (by decide) rfl (by omega)) (by exact h3.nlt 426 rfl rfl (by decide)) dX9_findDistances_88 (by exact (t3.2 x hx).1.trans (congrArg oI rlC_n)) ?_
              refine V_iconst (v := -1) dX9_findDistances_89 (by decide) ?_
              refine V_icmp_eq (tgt := 111) dX9_findDistances_90 (by decide) (fun c90 => ?_) (fun c90 => ?_)
              · first | refine V_aload_n dX9_findDistances_111 rfl rfl ?_ | refine V_aload_nN dX9_findDistances_111 rfl rfl ?_
                first | refine V_getr (by exact h3.k _ rfl rfl) fX9_70 dX9_findDistances_112 (by exact (h3.r 25 rfl (by decide) : _ = some 426)) ?_ | refine V_getrN (by exact h3.k _ rfl rfl) fX9_70 dX9_findDistances_112 (by exact (h3.r 25 rfl (by decide) : _ = some 426)) ?_
                refine V_iload_n dX9_findDistances_115 rfl rfl ?_
                first | refine V_aload_n dX9_findDistances_116 rfl rfl ?_ | refine V_aload_nN dX9_findDistances_116 rfl rfl ?_
                first | refine V_getr (by exact h3.k _ rfl rfl) fX9_70 dX9_findDistances_117 (by exact (h3.r 25 rfl (by decide) : _ = some 426)) ?_ | refine V_getrN (by exact h3.k _ rfl rfl) fX9_70 dX9_findDistances_117 (by exact (h3.r 25 rfl (by decide) : _ = some 426)) ?_
                refine V_iload_n dX9_findDistances_120 rfl rfl ?_
                refine G_iald (j := v) (by exact h3.k _ rfl rfl) (by rfl) (by exact h3.lt 426 (m := 180) rfl rfl (by decide) rfl (by omega)) (by exact h3.nlt 426 rfl rfl (by decide)) dX9_findDistances_121 (by exact ((t3.2 v (by omega)).1.trans (congrArg oI ((rlC_v hEv).trans hC)) : _ = nI d)) ?_
                refine V_iload dX9_findDistances_122 rfl ?_
                refine V_iadd dX9_findDistances_124 ?_
                refine G_iast (j := x) (by exact h3.k _ rfl rfl) (by rfl) (by exact h3.lt 426 (m := 180) rfl rfl (by decide) rfl (by omega)) (by exact h3.nlt 426 rfl rfl (by decide)) dX9_findDistances_125 ?_
                refine S_iinc (L' := [(0, _), (2, _), (3, _)]) dX9_findDistances_126 rfl rfl rfl rfl ?_
                rw [nI_inc]
                refine V_goto (tgt := 56) dX9_findDistances_129 (by decide) ?_
                first
                  | (have h80 : egZ z x v = none := (oI_some (eg_lt2 (jn := zJ z) z0.2.2.2.1.2.1 x v)).mp c80
                     exact ih3 (x + 1) w3 (by omega) (t3.skip (by rw [h80]; rfl)))
                  | (have h80 : ¬ egZ z x v = none := fun z => c80 (congrArg oI z)
                     obtain ⟨c, hc⟩ := Option.ne_none_iff_exists'.mp h80
                     have hc102 : c ≤ 102 := eg_lt (jn := zJ z) z0.2.2.2.1.2.1 hc
                     have ec : oI (eg (zQ z) (kN (zK z)) (zJ z) x v) = nI c := congrArg oI hc
                     first
                       | (have h90 : C x = none := (oI_some (fun n hn => by have := hbd x n hn; omega)).mp c90
                          have hxx : rx (egZ z x v) d (C x) = some (d + c) := by rw [hc, h90]; rfl
                          have key := ih3 (x + 1) _ (by omega) (t3.next hxx)
                          rw [ec, nI_add]
                          exact key)
                       | (have h90 : ¬ C x = none := fun z => c90 (congrArg oI z)
                          obtain ⟨e, he⟩ := Option.ne_none_iff_exists'.mp h90
                          have hebd := hbd x e he
                          have h108 := c108
                          rw [ec, nI_add, show oI (C x) = nI e from congrArg oI he] at h108
                          first
                            | (have hle : e ≤ d + c := (nI_leI (by omega) (by omega)).mp h108
                               have hxx : rx (egZ z x v) d (C x) = C x := by rw [hc, he]; exact if_neg (by omega)
                               exact ih3 (x + 1) w3 (by omega) (t3.skip hxx))
                            | (have hle : ¬ e ≤ d + c := fun z => h108 ((nI_leI (by omega) (by omega)).mpr z)
                               have hxx : rx (egZ z x v) d (C x) = some (d + c) := by rw [hc, he]; exact if_pos (by omega)
                               have key := ih3 (x + 1) _ (by omega) (t3.next hxx)
                               rw [ec, nI_add]
                               exact key)))
              · first | refine V_aload_n dX9_findDistances_93 rfl rfl ?_ | refine V_aload_nN dX9_findDistances_93 rfl rfl ?_
                first | refine V_getr (by exact h3.k _ rfl rfl) fX9_70 dX9_findDistances_94 (by exact (h3.r 25 rfl (by decide) : _ = some 426)) ?_ | refine V_getrN (by exact h3.k _ rfl rfl) fX9_70 dX9_findDistances_94 (by exact (h3.r 25 rfl (by decide) : _ = some 426)) ?_
                refine V_iload_n dX9_findDistances_97 rfl rfl ?_
                refine G_iald (j := v) (by exact h3.k _ rfl rfl) (by rfl) (by exact h3.lt 426 (m := 180) rfl rfl (by decide) rfl (by omega)) (by exact h3.nlt 426 rfl rfl (by decide)) dX9_findDistances_98 (by exact ((t3.2 v (by omega)).1.trans (congrArg oI ((rlC_v hEv).trans hC)) : _ = nI d)) ?_
                refine V_iload dX9_findDistances_99 rfl ?_
                refine V_iadd dX9_findDistances_101 ?_
                first | refine V_aload_n dX9_findDistances_102 rfl rfl ?_ | refine V_aload_nN dX9_findDistances_102 rfl rfl ?_
                first | refine V_getr (by exact h3.k _ rfl rfl) fX9_70 dX9_findDistances_103 (by exact (h3.r 25 rfl (by decide) : _ = some 426)) ?_ | refine V_getrN (by exact h3.k _ rfl rfl) fX9_70 dX9_findDistances_103 (by exact (h3.r 25 rfl (by decide) : _ = some 426)) ?_
                refine V_iload_n dX9_findDistances_106 rfl rfl ?_
                refine G_iald (j := x) (by exact h3.k _ rfl rfl) (by rfl) (by exact h3.lt 426 (m := 180) rfl rfl (by decide) rfl (by omega)) (by exact h3.nlt 426 rfl rfl (by decide)) dX9_findDistances_107 (by exact (t3.2 x hx).1.trans (congrArg oI rlC_n)) ?_
                refine V_icmp_ge (tgt := 126) dX9_findDistances_108 (by decide) (fun c108 => ?_) (fun c108 => ?_)
                · refine S_iinc (L' := [(0, _), (2, _), (3, _)]) dX9_findDistances_126 rfl rfl rfl rfl ?_
                  rw [nI_inc]
                  refine V_goto (tgt := 56) dX9_findDistances_129 (by decide) ?_
                  first
                    | (have h80 : egZ z x v = none := (oI_some (eg_lt2 (jn := zJ z) z0.2.2.2.1.2.1 x v)).mp c80
                       exact ih3 (x + 1) w3 (by omega) (t3.skip (by rw [h80]; rfl)))
                    | (have h80 : ¬ egZ z x v = none := fun z => c80 (congrArg oI z)
                       obtain ⟨c, hc⟩ := Option.ne_none_iff_exists'.mp h80
                       have hc102 : c ≤ 102 := eg_lt (jn := zJ z) z0.2.2.2.1.2.1 hc
                       have ec : oI (eg (zQ z) (kN (zK z)) (zJ z) x v) = nI c := congrArg oI hc
                       first
                         | (have h90 : C x = none := (oI_some (fun n hn => by have := hbd x n hn; omega)).mp c90
                            have hxx : rx (egZ z x v) d (C x) = some (d + c) := by rw [hc, h90]; rfl
                            have key := ih3 (x + 1) _ (by omega) (t3.next hxx)
                            rw [ec, nI_add]
                            exact key)
                         | (have h90 : ¬ C x = none := fun z => c90 (congrArg oI z)
                            obtain ⟨e, he⟩ := Option.ne_none_iff_exists'.mp h90
                            have hebd := hbd x e he
                            have h108 := c108
                            rw [ec, nI_add, show oI (C x) = nI e from congrArg oI he] at h108
                            first
                              | (have hle : e ≤ d + c := (nI_leI (by omega) (by omega)).mp h108
                                 have hxx : rx (egZ z x v) d (C x) = C x := by rw [hc, he]; exact if_neg (by omega)
                                 exact ih3 (x + 1) w3 (by omega) (t3.skip hxx))
                              | (have hle : ¬ e ≤ d + c := fun z => h108 ((nI_leI (by omega) (by omega)).mpr z)
                                 have hxx : rx (egZ z x v) d (C x) = some (d + c) := by rw [hc, he]; exact if_pos (by omega)
                                 have key := ih3 (x + 1) _ (by omega) (t3.next hxx)
                                 rw [ec, nI_add]
                                 exact key)))
                · first | refine V_aload_n dX9_findDistances_111 rfl rfl ?_ | refine V_aload_nN dX9_findDistances_111 rfl rfl ?_
                  first | refine V_getr (by exact h3.k _ rfl rfl) fX9_70 dX9_findDistances_112 (by exact (h3.r 25 rfl (by decide) : _ = some 426)) ?_ | refine V_getrN (by exact h3.k _ rfl rfl) fX9_70 dX9_findDistances_112 (by exact (h3.r 25 rfl (by decide) : _ = some 426)) ?_
                  refine V_iload_n dX9_findDistances_115 rfl rfl ?_
                  first | refine V_aload_n dX9_findDistances_116 rfl rfl ?_ | refine V_aload_nN dX9_findDistances_116 rfl rfl ?_
                  first | refine V_getr (by exact h3.k _ rfl rfl) fX9_70 dX9_findDistances_117 (by exact (h3.r 25 rfl (by decide) : _ = some 426)) ?_ | refine V_getrN (by exact h3.k _ rfl rfl) fX9_70 dX9_findDistances_117 (by exact (h3.r 25 rfl (by decide) : _ = some 426)) ?_
                  refine V_iload_n dX9_findDistances_120 rfl rfl ?_
                  refine G_iald (j := v) (by exact h3.k _ rfl rfl) (by rfl) (by exact h3.lt 426 (m := 180) rfl rfl (by decide) rfl (by omega)) (by exact h3.nlt 426 rfl rfl (by decide)) dX9_findDistances_121 (by exact ((t3.2 v (by omega)).1.trans (congrArg oI ((rlC_v hEv).trans hC)) : _ = nI d)) ?_
                  refine V_iload dX9_findDistances_122 rfl ?_
                  refine V_iadd dX9_findDistances_124 ?_
                  refine G_iast (j := x) (by exact h3.k _ rfl rfl) (by rfl) (by exact h3.lt 426 (m := 180) rfl rfl (by decide) rfl (by omega)) (by exact h3.nlt 426 rfl rfl (by decide)) dX9_findDistances_125 ?_
                  refine S_iinc (L' := [(0, _), (2, _), (3, _)]) dX9_findDistances_126 rfl rfl rfl rfl ?_
                  rw [nI_inc]
                  refine V_goto (tgt := 56) dX9_findDistances_129 (by decide) ?_
                  first
                    | (have h80 : egZ z x v = none := (oI_some (eg_lt2 (jn := zJ z) z0.2.2.2.1.2.1 x v)).mp c80
                       exact ih3 (x + 1) w3 (by omega) (t3.skip (by rw [h80]; rfl)))
                    | (have h80 : ¬ egZ z x v = none := fun z => c80 (congrArg oI z)
                       obtain ⟨c, hc⟩ := Option.ne_none_iff_exists'.mp h80
                       have hc102 : c ≤ 102 := eg_lt (jn := zJ z) z0.2.2.2.1.2.1 hc
                       have ec : oI (eg (zQ z) (kN (zK z)) (zJ z) x v) = nI c := congrArg oI hc
                       first
                         | (have h90 : C x = none := (oI_some (fun n hn => by have := hbd x n hn; omega)).mp c90
                            have hxx : rx (egZ z x v) d (C x) = some (d + c) := by rw [hc, h90]; rfl
                            have key := ih3 (x + 1) _ (by omega) (t3.next hxx)
                            rw [ec, nI_add]
                            exact key)
                         | (have h90 : ¬ C x = none := fun z => c90 (congrArg oI z)
                            obtain ⟨e, he⟩ := Option.ne_none_iff_exists'.mp h90
                            have hebd := hbd x e he
                            have h108 := c108
                            rw [ec, nI_add, show oI (C x) = nI e from congrArg oI he] at h108
                            first
                              | (have hle : e ≤ d + c := (nI_leI (by omega) (by omega)).mp h108
                                 have hxx : rx (egZ z x v) d (C x) = C x := by rw [hc, he]; exact if_neg (by omega)
                                 exact ih3 (x + 1) w3 (by omega) (t3.skip hxx))
                              | (have hle : ¬ e ≤ d + c := fun z => h108 ((nI_leI (by omega) (by omega)).mpr z)
                                 have hxx : rx (egZ z x v) d (C x) = some (d + c) := by rw [hc, he]; exact if_pos (by omega)
                                 have key := ih3 (x + 1) _ (by omega) (t3.next hxx)
                                 rw [ec, nI_add]
                                 exact key)))
        refine V_iload_n dX9_findDistances_42 rfl rfl ?_
        refine V_iconst (v := -1) dX9_findDistances_43 (by decide) ?_
        refine V_icmp_eq (tgt := 201) dX9_findDistances_44 (by decide) (fun c44 => False.elim (by exact nI_nm1 (by omega) c44)) (fun c44 => ?_)
        first | refine V_aload_n dX9_findDistances_47 rfl rfl ?_ | refine V_aload_nN dX9_findDistances_47 rfl rfl ?_
        first | refine V_getr (by exact h2.k _ rfl rfl) fX9_73 dX9_findDistances_48 (by exact (h2.r 26 rfl (by decide) : _ = some 427)) ?_ | refine V_getrN (by exact h2.k _ rfl rfl) fX9_73 dX9_findDistances_48 (by exact (h2.r 26 rfl (by decide) : _ = some 427)) ?_
        refine V_iload_n dX9_findDistances_51 rfl rfl ?_
        refine V_iconst (v := 1) dX9_findDistances_52 (by decide) ?_
        refine G_zast (j := v) (by exact h2.k _ rfl rfl) (by rfl) (by exact h2.lt 427 (m := 180) rfl rfl (by decide) rfl (by exact hP.1)) (by exact h2.nlt 427 rfl rfl (by decide)) rfl dX9_findDistances_53 ?_
        refine V_iconst (v := 0) dX9_findDistances_54 (by decide) ?_
        refine S_istore_n (L' := [(0, _), (2, _), (3, _)]) dX9_findDistances_55 rfl rfl rfl ?_
        exact lp3 180 0 _ rfl hs3
  have lp1 : ∀ w1, LayM w1 → Kp coI noA w w1 → MCo (zQ z) (kN (zK z)) (zJ z) w1 → ∀ (d v : Nat) (w2 : Wd), v + d = 180 → Kp dtI noA w1 w2 → (∀ i, i < v → wI w2 426 i = -1 ∧ wI w2 427 i = 0) → V mX9_findDistances X (mq mX9_findDistances X (fun r w' => r = none ∧ Kp diI noA w w' ∧ MCo (zQ z) (kN (zK z)) (zJ z) w' ∧ (∀ v, v < 180 → wI w' 426 v = oI (D v)) ∧ ∀ v e, D v = some e → e ≤ 18540)) 6 [(0, .ref 400), (1, .int (nI g)), (2, .int (nI v))] [] w2 (0, 0) := by
    intro w1 hl1 a1 a2 d
    induction d with
    | zero =>
      intro v w2 hd g2 m2
      have h2 : LayM w2 := hl1.kp g2
      obtain rfl : v = 180 := hd
      refine V_iload_n dX9_findDistances_6 rfl rfl ?_
      refine V_sipush (v := 180) dX9_findDistances_7 (by decide) ?_
      refine V_icmp_ge (tgt := 33) dX9_findDistances_10 (by decide) (fun c10 => ?_) (fun c10 => False.elim (by exact c10 (by decide)))
      first | refine V_aload_n dX9_findDistances_33 rfl rfl ?_ | refine V_aload_nN dX9_findDistances_33 rfl rfl ?_
      first | refine V_getr (by exact h2.k _ rfl rfl) fX9_70 dX9_findDistances_34 (by exact (h2.r 25 rfl (by decide) : _ = some 426)) ?_ | refine V_getrN (by exact h2.k _ rfl rfl) fX9_70 dX9_findDistances_34 (by exact (h2.r 25 rfl (by decide) : _ = some 426)) ?_
      refine V_iload_n dX9_findDistances_37 rfl rfl ?_
      refine V_iconst (v := 0) dX9_findDistances_38 (by decide) ?_
      refine G_iast (j := g) (by exact h2.k _ rfl rfl) (by rfl) (by exact h2.lt 426 (m := 180) rfl rfl (by decide) rfl (by exact hg.1)) (by exact h2.nlt 426 rfl rfl (by decide)) dX9_findDistances_39 ?_
      refine V_iload_n dX9_findDistances_40 rfl rfl ?_
      refine S_istore_n (L' := [(0, _), (2, _)]) dX9_findDistances_41 rfl rfl rfl ?_
      refine V_sub (L' := [(0, _), (2, _)]) rfl ?_
      have hI : DsI w1 (fun _ => false) (fun s => if s = g then some 0 else none) (sI w2 426 g 0) := by
        refine ⟨g2.trans (Kp.sI (SI := dtI) (SJ := noA) w2 (Or.inl rfl) _), fun s hs => ?_⟩
        dsimp only
        by_cases e : s = g
        · rw [e, rdI_eq, if_pos rfl]
          exact ⟨rfl, (rdI_nn (by decide)).trans (m2 g hg.1).2⟩
        · rw [rdI_ne e, if_neg e, rdI_nn (by decide)]
          exact m2 s hs
      exact lp2 w1 hl1 a1 a2 180 (fun _ => false) _ (some g) _ hI (RI.init hg) ⟨hg, rfl, 0, if_pos rfl, fun s e _ _ _ => Nat.zero_le _⟩ (by rw [cnt_z]; exact Nat.le_refl _) (fun s e h => by
        rw [cnt_z]
        by_cases q : s = g
        · rw [if_pos q] at h; cases h; exact Nat.zero_le _
        · rw [if_neg q] at h; cases h)
    | succ d ih =>
      intro v w2 hd g2 m2
      have h2 : LayM w2 := hl1.kp g2
      have hv : v < 180 := by omega
      refine V_iload_n dX9_findDistances_6 rfl rfl ?_
      refine V_sipush (v := 180) dX9_findDistances_7 (by decide) ?_
      refine V_icmp_ge (tgt := 33) dX9_findDistances_10 (by decide) (fun c10 => False.elim (by exact nI_ge (a := v) (b := 180) hv (by decide) c10)) (fun c10 => ?_)
      first | refine V_aload_n dX9_findDistances_13 rfl rfl ?_ | refine V_aload_nN dX9_findDistances_13 rfl rfl ?_
      first | refine V_getr (by exact h2.k _ rfl rfl) fX9_70 dX9_findDistances_14 (by exact (h2.r 25 rfl (by decide) : _ = some 426)) ?_ | refine V_getrN (by exact h2.k _ rfl rfl) fX9_70 dX9_findDistances_14 (by exact (h2.r 25 rfl (by decide) : _ = some 426)) ?_
      refine V_iload_n dX9_findDistances_17 rfl rfl ?_
      refine V_iconst (v := -1) dX9_findDistances_18 (by decide) ?_
      refine G_iast (j := v) (by exact h2.k _ rfl rfl) (by rfl) (by exact h2.lt 426 (m := 180) rfl rfl (by decide) rfl (by omega)) (by exact h2.nlt 426 rfl rfl (by decide)) dX9_findDistances_19 ?_
      first | refine V_aload_n dX9_findDistances_20 rfl rfl ?_ | refine V_aload_nN dX9_findDistances_20 rfl rfl ?_
      first | refine V_getr (by exact h2.k _ rfl rfl) fX9_73 dX9_findDistances_21 (by exact (h2.r 26 rfl (by decide) : _ = some 427)) ?_ | refine V_getrN (by exact h2.k _ rfl rfl) fX9_73 dX9_findDistances_21 (by exact (h2.r 26 rfl (by decide) : _ = some 427)) ?_
      refine V_iload_n dX9_findDistances_24 rfl rfl ?_
      refine V_iconst (v := 0) dX9_findDistances_25 (by decide) ?_
      refine G_zast (j := v) (by exact h2.k _ rfl rfl) (by rfl) (by exact h2.lt 427 (m := 180) rfl rfl (by decide) rfl (by omega)) (by exact h2.nlt 427 rfl rfl (by decide)) rfl dX9_findDistances_26 ?_
      refine S_iinc (L' := [(0, _), (1, _), (2, _)]) dX9_findDistances_27 rfl rfl rfl rfl ?_
      rw [nI_inc]
      refine V_goto (tgt := 6) dX9_findDistances_30 (by decide) ?_
      refine ih (v + 1) _ (by omega) (g2.trans ((Kp.sI (SI := dtI) (SJ := noA) w2 (Or.inl rfl) _).trans (Kp.sI (SI := dtI) (SJ := noA) _ (Or.inr rfl) _))) (fun i hi => ?_)
      by_cases e : i = v
      · rw [e]
        exact ⟨(rdI_nn (by decide)).trans rdI_eq, rdI_eq⟩
      · rw [rdI_nn (by decide), rdI_ne e, rdI_ne e, rdI_nn (by decide)]
        exact m2 i (by omega)
  first | refine V_aload_n dX9_findDistances_0 rfl rfl ?_ | refine V_aload_nN dX9_findDistances_0 rfl rfl ?_
  refine V_callVvr (As := []) (st := _) (c_X9_findCosts (kN (zK z)) (zQ z) (zJ z) w z0.2.1 z0.1.n z0.2.2.2.1.1 z0.2.2.2.1.2.1) kX9_215 (by exact z0.1.1.k _ rfl rfl) ⟨rfl, rfl, rfl⟩ ⟨(Nat.le_of_ble_eq_true rfl), (Nat.le_of_ble_eq_true rfl)⟩ dX9_findDistances_1 rfl rfl (Nat.le_of_ble_eq_true rfl) ⟨(Nat.le_of_ble_eq_true rfl), (Nat.le_of_ble_eq_true rfl)⟩ (fun w1 hw1 => ?_)
  obtain ⟨a1, a2⟩ := hw1
  have hl1 : LayM w1 := z0.1.1.kp a1
  refine V_iconst (v := 0) dX9_findDistances_4 (by decide) ?_
  refine S_istore_n (L' := [(0, _), (1, _), (2, _)]) dX9_findDistances_5 rfl rfl rfl ?_
  exact lp1 w1 hl1 a1 a2 180 0 w1 rfl (Kp.refl _ _ _) (fun i hi => absurd hi (Nat.not_lt_zero _))
