/-! THE REFERENCE: live -/
theorem b01_pN (q : Cp) (v : Nat) : b01 (v % 30 < q.1 (v / 30)) = bI (pN q v) := by
  unfold pN bI b01
  by_cases c : v % 30 < q.1 (v / 30)
  · rw [if_pos c, if_pos (decide_eq_true c)]
  · rw [if_neg c, if_neg (by simpa using c)]
theorem bI_vp (b : Bool) : vp_nar .boolean (bI b) = bI b := by cases b <;> rfl
theorem oI_some {o : Option Nat} (hb : ∀ n, o = some n → n < 2147483648) : oI o = -1 ↔ o = none := ⟨oI_m1 hb, fun h => by rw [h]; rfl⟩
theorem eg_lt {q : Cp} {nb jn a b c : Nat} (hj : jn ≤ 100) (h : eg q nb jn a b = some c) : c ≤ 102 := by
  unfold eg at h
  by_cases z : pP q a ∧ pP q b ∧ a ≠ b
  · rw [if_pos z] at h
    exact (wcN_lt hj h).2
  · rw [if_neg z] at h; cases h
theorem eg_lt2 {q : Cp} {nb jn : Nat} (hj : jn ≤ 100) (a b : Nat) : ∀ n, eg q nb jn a b = some n → n < 2147483648 := fun n h => by have := eg_lt hj h; omega
def unB (S : Nat → Bool) (v : Nat) : Nat → Bool := fun s => if s = v then false else S s
theorem cnt_un {S : Nat → Bool} {v : Nat} (h : S v = true) (hv : v < 180) : cntF (unB S v) 180 + 1 = cntF S 180 := by
  have e : setB (unB S v) v = S := funext fun s => by
    unfold setB unB
    by_cases c : s = v
    · rw [if_pos c, c, h]
    · rw [if_neg c, if_neg c]
  have := cntF_set (S := unB S v) (v := v) (if_pos rfl) (m := 180)
  rw [e, if_pos hv] at this
  exact this.symm
abbrev lvI (a _ : Nat) : Prop := a = 424 ∨ a = 425
def goB (q : Cp) (nb jn : Nat) (S : Nat → Bool) (v u : Nat) : Bool := S u && (eg q nb jn v u).isSome
/-- in the midst of pruning -/
def LvI (q : Cp) (nb jn : Nat) (w : Wd) (S : Nat → Bool) (w1 : Wd) : Prop := Kp lvI noA w w1 ∧ MCo q nb jn w1 ∧ (∀ v, v < 180 → wI w1 425 v = bI (S v)) ∧ (∀ v, lvS q nb jn v = true → S v = true) ∧ ∀ v, S v = true → pP q v
theorem LvI.cut {q : Cp} {nb jn : Nat} {w w1 : Wd} {S : Nat → Bool} {v : Nat} (h : LvI q nb jn w S w1) (hq : okQ36 nb q) (hv : v < 180) (hg : anyB (goB q nb jn S v) 180 = false) : LvI q nb jn w (unB S v) (sI w1 425 v 0) := by
  have g : Kp (fun a _ => a = 425) noA w1 (sI w1 425 v 0) := Kp.sI (SI := fun a _ => a = 425) (SJ := noA) w1 (show 425 = 425 from rfl) _
  refine ⟨h.1.trans (g.mono (fun a j z => Or.inr z) (fun _ _ z => z)), h.2.1.kp g (fun a j z => by omega), fun s hs => ?_, fun s hs => ?_, fun s hs => ?_⟩
  · by_cases e : s = v
    · rw [e, rdI_eq]; unfold unB; rw [if_pos rfl]; rfl
    · rw [rdI_ne e, h.2.2.1 s hs]; unfold unB; rw [if_neg e]
  · unfold unB
    by_cases e : s = v
    · subst e
      obtain ⟨u, u1, u2, c, u3⟩ := lvS_goes hq hs
      have : goB q nb jn S s u = true := by unfold goB; rw [h.2.2.2.1 u u2, u3]; rfl
      rw [anyB_t this u1] at hg
      cases hg
    · rw [if_neg e]; exact h.2.2.2.1 s hs
  · unfold unB at hs
    by_cases e : s = v
    · rw [if_pos e] at hs; cases hs
    · rw [if_neg e] at hs; exact h.2.2.2.2 s hs
theorem LvI.fin {q : Cp} {nb jn : Nat} {w w1 : Wd} {S : Nat → Bool} (h : LvI q nb jn w S w1) (hq : okQ36 nb q) (hc : ∀ v, v < 180 → S v = true → anyB (goB q nb jn S v) 180 = true) : ∀ v, S v = lvS q nb jn v := fun v => by
  cases hs : S v with
  | true =>
    refine (live_eq hq h.2.2.2.1 h.2.2.2.2 (fun x hx hSx => ?_) (30 - v % 30) v (by omega) hs).symm
    obtain ⟨u, u1, u2⟩ := anyB_ex (hc x hx hSx)
    unfold goB at u2
    rw [Bool.and_eq_true] at u2
    exact ⟨u, u1, u2.1, Option.isSome_iff_exists.mp u2.2⟩
  | false =>
    cases hl : lvS q nb jn v with
    | false => rfl
    | true => rw [h.2.2.2.1 v hl] at hs; cases hs
theorem RM.q36 {z : St} {w : Wd} (h : RM z w) : okQ36 (kN (zK z)) (zQ z) := ⟨fun c hc => h.2.1.le hc, fun c f b hc hf hb => (h.2.1.fr hc hf hb).2⟩

theorem pP_b (q : Cp) {i : Nat} (hi : i < 180) : decide (pP q i) = pN q i := by
  by_cases h : pN q i = true
  · exact (decide_eq_true (show pP q i from ⟨hi, h⟩)).trans h.symm
  · have hf : pN q i = false := by simpa using h
    exact (decide_eq_false (fun (z : pP q i) => h z.2)).trans hf.symm
theorem cnt_pP (q : Cp) : cntF (fun v => decide (pP q v)) 180 = cntF (pN q) 180 := cnt_congr 180 (fun i hi => pP_b q hi)

set_option maxRecDepth 100000 in
theorem c_X9_findLive (z : St)  (w : Wd) (z0 : RM z w) : Cc yX9_findLive mX9_findLive [.ref 400] w (fun r w' => ∃ x, r = some x ∧ (x = .int (nI (cntF (lvS (zQ z) (kN (zK z)) (zJ z)) 180)) ∧ Kp lvI noA w w' ∧ ∀ v, v < 180 → wI w' 425 v = bI ((lvS (zQ z) (kN (zK z)) (zJ z)) v))) := by
  refine Cc.of (by decide) rfl rfl (Nat.le_of_ble_eq_true rfl) (fun X => ?_)
  change V _ X _ 0 [(0, _)] [] _ (0, 0)
  have lp2 : ∀ (d : Nat) (S : Nat → Bool) (w2 : Wd) (m : Bool), LvI (zQ z) (kN (zK z)) (zJ z) w S w2 → cntF S 180 + (if m = true then 1 else 0) ≤ d → (m = false → ∀ v, v < 180 → S v = true → anyB (goB (zQ z) (kN (zK z)) (zJ z) S v) 180 = true) → V mX9_findLive X (mq mX9_findLive X (fun r w' => ∃ x, r = some x ∧ (x = .int (nI (cntF (lvS (zQ z) (kN (zK z)) (zJ z)) 180)) ∧ Kp lvI noA w w' ∧ ∀ v, v < 180 → wI w' 425 v = bI ((lvS (zQ z) (kN (zK z)) (zJ z)) v)))) 51 [(0, .ref 400), (1, .int (nI (cntF S 180))), (2, .int (bI m))] [] w2 (0, 0) := by
    intro d
    induction d with
    | zero =>
      intro S w2 m h2 hd hc
      have hl2 : LayM w2 := z0.1.1.kp h2.1
      cases m with
      | true => exact absurd hd (by show ¬ cntF S 180 + 1 ≤ 0; omega)
      | false =>
        refine V_iload_n dX9_findLive_51 rfl rfl ?_
        refine V_if_eq (tgt := 160) dX9_findLive_52 (by decide) (fun c52 => ?_) (fun c52 => False.elim (by exact c52 rfl))
        refine V_iload_n dX9_findLive_160 rfl rfl ?_
        refine V_iret rfl dX9_findLive_161 (Nat.le_of_ble_eq_true rfl) (Nat.le_of_ble_eq_true rfl) ?_
        have he := h2.fin z0.q36 (hc rfl)
        refine ⟨_, rfl, ?_, h2.1, fun v hv => ?_⟩
        · rw [cnt_congr 180 (fun i _ => he i)]
        · rw [h2.2.2.1 v hv, he v]
    | succ d ih =>
      intro S w2 m h2 hd hc
      have hl2 : LayM w2 := z0.1.1.kp h2.1
      cases m with
      | false =>
        refine V_iload_n dX9_findLive_51 rfl rfl ?_
        refine V_if_eq (tgt := 160) dX9_findLive_52 (by decide) (fun c52 => ?_) (fun c52 => False.elim (by exact c52 rfl))
        refine V_iload_n dX9_findLive_160 rfl rfl ?_
        refine V_iret rfl dX9_findLive_161 (Nat.le_of_ble_eq_true rfl) (Nat.le_of_ble_eq_true rfl) ?_
        have he := h2.fin z0.q36 (hc rfl)
        refine ⟨_, rfl, ?_, h2.1, fun v hv => ?_⟩
        · rw [cnt_congr 180 (fun i _ => he i)]
        · rw [h2.2.2.1 v hv, he v]
      | true =>
        have lp3 : ∀ (c0 : Nat), (∀ (S3 : Nat → Bool) (w3 : Wd) (m3 : Bool), LvI (zQ z) (kN (zK z)) (zJ z) w S3 w3 → (m3 = true → cntF S3 180 + 1 ≤ c0) → (m3 = false → cntF S3 180 = c0 ∧ ∀ v, v < 180 → S3 v = true → anyB (goB (zQ z) (kN (zK z)) (zJ z) S3 v) 180 = true) → V mX9_findLive X (mq mX9_findLive X (fun r w' => ∃ x, r = some x ∧ (x = .int (nI (cntF (lvS (zQ z) (kN (zK z)) (zJ z)) 180)) ∧ Kp lvI noA w w' ∧ ∀ v, v < 180 → wI w' 425 v = bI ((lvS (zQ z) (kN (zK z)) (zJ z)) v)))) 51 [(0, .ref 400), (1, .int (nI (cntF S3 180))), (2, .int (bI m3))] [] w3 (0, 0)) → ∀ (e v : Nat) (S : Nat → Bool) (w3 : Wd) (m : Bool), v + e = 180 → LvI (zQ z) (kN (zK z)) (zJ z) w S w3 → (m = true → cntF S 180 + 1 ≤ c0) → (m = false → cntF S 180 = c0 ∧ ∀ x, x < v → S x = true → anyB (goB (zQ z) (kN (zK z)) (zJ z) S x) 180 = true) → V mX9_findLive X (mq mX9_findLive X (fun r w' => ∃ x, r = some x ∧ (x = .int (nI (cntF (lvS (zQ z) (kN (zK z)) (zJ z)) 180)) ∧ Kp lvI noA w w' ∧ ∀ v, v < 180 → wI w' 425 v = bI ((lvS (zQ z) (kN (zK z)) (zJ z)) v)))) 59 [(0, .ref 400), (1, .int (nI (cntF S 180))), (2, .int (bI m)), (3, .int (nI v))] [] w3 (0, 0) := by
          intro c0 go e
          induction e with
          | zero =>
            intro v S w3 m hd h3 hm1 hm0
            have hl3 : LayM w3 := z0.1.1.kp h3.1
            obtain rfl : v = 180 := hd
            refine V_iload_n dX9_findLive_59 rfl rfl ?_
            refine V_sipush (v := 180) dX9_findLive_60 (by decide) ?_
            refine V_icmp_ge (tgt := 157) dX9_findLive_63 (by decide) (fun c63 => ?_) (fun c63 => False.elim (by exact c63 (by decide)))
            refine V_goto (tgt := 51) dX9_findLive_157 (by decide) ?_
            refine V_sub (L' := [(0, _), (1, _), (2, _)]) rfl ?_
            exact go S w3 m h3 hm1 (fun z => ⟨(hm0 z).1, fun x hx hSx => (hm0 z).2 x hx hSx⟩)
          | succ e ih =>
            intro v S w3 m hd h3 hm1 hm0
            have hl3 : LayM w3 := z0.1.1.kp h3.1
            have hv : v < 180 := by omega
            have lp4 : S v = true → ∀ (f u : Nat) (g : Bool), u + f = 180 → ((g = false ∧ anyB (goB (zQ z) (kN (zK z)) (zJ z) S v) u = false) ∨ (g = true ∧ anyB (goB (zQ z) (kN (zK z)) (zJ z) S v) 180 = true)) → V mX9_findLive X (mq mX9_findLive X (fun r w' => ∃ x, r = some x ∧ (x = .int (nI (cntF (lvS (zQ z) (kN (zK z)) (zJ z)) 180)) ∧ Kp lvI noA w w' ∧ ∀ v, v < 180 → wI w' 425 v = bI ((lvS (zQ z) (kN (zK z)) (zJ z)) v)))) 81 [(0, .ref 400), (1, .int (nI (cntF S 180))), (2, .int (bI m)), (3, .int (nI v)), (4, .int (bI g)), (5, .int (nI u))] [] w3 (0, 0) := by
              intro hSv f
              induction f with
              | zero =>
                intro u g hd hg
                obtain rfl : u = 180 := hd
                refine V_iload dX9_findLive_81 rfl ?_
                refine V_sipush (v := 180) dX9_findLive_83 (by decide) ?_
                refine V_icmp_ge (tgt := 134) dX9_findLive_86 (by decide) (fun c86 => ?_) (fun c86 => False.elim (by exact c86 (by decide)))
                have hgo : g = anyB (goB (zQ z) (kN (zK z)) (zJ z) S v) 180 := by
                  rcases hg with ⟨g1, g2⟩ | ⟨g1, g2⟩
                  · rw [g1, g2]
                  · rw [g1, g2]
                refine V_iload dX9_findLive_134 rfl ?_
                refine V_if_ne (tgt := 151) dX9_findLive_136 (by decide) (fun c136 => ?_) (fun c136 => ?_)
                · refine S_iinc (L' := [(0, _), (1, _), (2, _), (3, _)]) dX9_findLive_151 rfl rfl rfl rfl ?_
                  rw [nI_inc]
                  refine V_goto (tgt := 59) dX9_findLive_154 (by decide) ?_
                  first
                    | (have h136 := bI_1 c136
                       rw [hgo] at h136
                       exact ih (v + 1) S w3 m (by omega) h3 hm1 (fun z => ⟨(hm0 z).1, fun x hx hSx => by
                         by_cases e : x = v
                         · rw [e]; exact h136
                         · exact (hm0 z).2 x (by omega) hSx⟩))
                    | (have h136 := bI_0 c136
                       rw [hgo] at h136
                       exact ih (v + 1) (unB S v) _ true (by omega) (h3.cut z0.q36 hv h136) (fun _ => by
                         have := cnt_un hSv hv
                         cases m with
                         | true => have := hm1 rfl; omega
                         | false => have := (hm0 rfl).1; omega) (fun z => by cases z))
                · first | refine V_aload_n dX9_findLive_139 rfl rfl ?_ | refine V_aload_nN dX9_findLive_139 rfl rfl ?_
                  first | refine V_getr (by exact hl3.k _ rfl rfl) fX9_66 dX9_findLive_140 (by exact (hl3.r 24 rfl (by decide) : _ = some 425)) ?_ | refine V_getrN (by exact hl3.k _ rfl rfl) fX9_66 dX9_findLive_140 (by exact (hl3.r 24 rfl (by decide) : _ = some 425)) ?_
                  refine V_iload_n dX9_findLive_143 rfl rfl ?_
                  refine V_iconst (v := 0) dX9_findLive_144 (by decide) ?_
                  refine G_zast (j := v) (by exact hl3.k _ rfl rfl) (by rfl) (by exact hl3.lt 425 (m := 180) rfl rfl (by decide) rfl (by omega)) (by exact hl3.nlt 425 rfl rfl (by decide)) rfl dX9_findLive_145 ?_
                  refine S_iinc (L' := [(0, _), (1, _), (3, _)]) dX9_findLive_146 rfl rfl rfl rfl ?_
                  rw [show nI (cntF S 180) + Int32.ofInt (-1) = nI (cntF (unB S v) 180) from by rw [← cnt_un hSv hv, nI_dec]]
                  refine V_iconst (v := 1) dX9_findLive_149 (by decide) ?_
                  refine S_istore_n (L' := [(0, _), (1, _), (2, _), (3, _)]) dX9_findLive_150 rfl rfl rfl ?_
                  refine S_iinc (L' := [(0, _), (1, _), (2, _), (3, _)]) dX9_findLive_151 rfl rfl rfl rfl ?_
                  rw [nI_inc]
                  refine V_goto (tgt := 59) dX9_findLive_154 (by decide) ?_
                  first
                    | (have h136 := bI_1 c136
                       rw [hgo] at h136
                       exact ih (v + 1) S w3 m (by omega) h3 hm1 (fun z => ⟨(hm0 z).1, fun x hx hSx => by
                         by_cases e : x = v
                         · rw [e]; exact h136
                         · exact (hm0 z).2 x (by omega) hSx⟩))
                    | (have h136 := bI_0 c136
                       rw [hgo] at h136
                       exact ih (v + 1) (unB S v) _ true (by omega) (h3.cut z0.q36 hv h136) (fun _ => by
                         have := cnt_un hSv hv
                         cases m with
                         | true => have := hm1 rfl; omega
                         | false => have := (hm0 rfl).1; omega) (fun z => by cases z))
              | succ f ih4 =>
                intro u g hd hg
                have hu : u < 180 := by omega
                refine V_iload dX9_findLive_81 rfl ?_
                refine V_sipush (v := 180) dX9_findLive_83 (by decide) ?_
                refine V_icmp_ge (tgt := 134) dX9_findLive_86 (by decide) (fun c86 => False.elim (by exact nI_ge (a := u) (b := 180) hu (by decide) c86)) (fun c86 => ?_)
                refine V_iload dX9_findLive_89 rfl ?_
                refine V_if_ne (tgt := 134) dX9_findLive_91 (by decide) (fun c91 => ?_) (fun c91 => ?_)
                · have hgo : g = anyB (goB (zQ z) (kN (zK z)) (zJ z) S v) 180 := by
                    rcases hg with ⟨g1, g2⟩ | ⟨g1, g2⟩
                    · exact absurd (show bI g = 0 by rw [g1]; rfl) c91
                    · rw [g1, g2]
                  refine V_iload dX9_findLive_134 rfl ?_
                  refine V_if_ne (tgt := 151) dX9_findLive_136 (by decide) (fun c136 => ?_) (fun c136 => ?_)
                  · refine S_iinc (L' := [(0, _), (1, _), (2, _), (3, _)]) dX9_findLive_151 rfl rfl rfl rfl ?_
                    rw [nI_inc]
                    refine V_goto (tgt := 59) dX9_findLive_154 (by decide) ?_
                    first
                      | (have h136 := bI_1 c136
                         rw [hgo] at h136
                         exact ih (v + 1) S w3 m (by omega) h3 hm1 (fun z => ⟨(hm0 z).1, fun x hx hSx => by
                           by_cases e : x = v
                           · rw [e]; exact h136
                           · exact (hm0 z).2 x (by omega) hSx⟩))
                      | (have h136 := bI_0 c136
                         rw [hgo] at h136
                         exact ih (v + 1) (unB S v) _ true (by omega) (h3.cut z0.q36 hv h136) (fun _ => by
                           have := cnt_un hSv hv
                           cases m with
                           | true => have := hm1 rfl; omega
                           | false => have := (hm0 rfl).1; omega) (fun z => by cases z))
                  · first | refine V_aload_n dX9_findLive_139 rfl rfl ?_ | refine V_aload_nN dX9_findLive_139 rfl rfl ?_
                    first | refine V_getr (by exact hl3.k _ rfl rfl) fX9_66 dX9_findLive_140 (by exact (hl3.r 24 rfl (by decide) : _ = some 425)) ?_ | refine V_getrN (by exact hl3.k _ rfl rfl) fX9_66 dX9_findLive_140 (by exact (hl3.r 24 rfl (by decide) : _ = some 425)) ?_
                    refine V_iload_n dX9_findLive_143 rfl rfl ?_
                    refine V_iconst (v := 0) dX9_findLive_144 (by decide) ?_
                    refine G_zast (j := v) (by exact hl3.k _ rfl rfl) (by rfl) (by exact hl3.lt 425 (m := 180) rfl rfl (by decide) rfl (by omega)) (by exact hl3.nlt 425 rfl rfl (by decide)) rfl dX9_findLive_145 ?_
                    refine S_iinc (L' := [(0, _), (1, _), (3, _)]) dX9_findLive_146 rfl rfl rfl rfl ?_
                    rw [show nI (cntF S 180) + Int32.ofInt (-1) = nI (cntF (unB S v) 180) from by rw [← cnt_un hSv hv, nI_dec]]
                    refine V_iconst (v := 1) dX9_findLive_149 (by decide) ?_
                    refine S_istore_n (L' := [(0, _), (1, _), (2, _), (3, _)]) dX9_findLive_150 rfl rfl rfl ?_
                    refine S_iinc (L' := [(0, _), (1, _), (2, _), (3, _)]) dX9_findLive_151 rfl rfl rfl rfl ?_
                    rw [nI_inc]
                    refine V_goto (tgt := 59) dX9_findLive_154 (by decide) ?_
                    first
                      | (have h136 := bI_1 c136
                         rw [hgo] at h136
                         exact ih (v + 1) S w3 m (by omega) h3 hm1 (fun z => ⟨(hm0 z).1, fun x hx hSx => by
                           by_cases e : x = v
                           · rw [e]; exact h136
                           · exact (hm0 z).2 x (by omega) hSx⟩))
                      | (have h136 := bI_0 c136
                         rw [hgo] at h136
                         exact ih (v + 1) (unB S v) _ true (by omega) (h3.cut z0.q36 hv h136) (fun _ => by
                           have := cnt_un hSv hv
                           cases m with
                           | true => have := hm1 rfl; omega
                           | false => have := (hm0 rfl).1; omega) (fun z => by cases z))
                · first | refine V_aload_n dX9_findLive_94 rfl rfl ?_ | refine V_aload_nN dX9_findLive_94 rfl rfl ?_
                  first | refine V_getr (by exact hl3.k _ rfl rfl) fX9_66 dX9_findLive_95 (by exact (hl3.r 24 rfl (by decide) : _ = some 425)) ?_ | refine V_getrN (by exact hl3.k _ rfl rfl) fX9_66 dX9_findLive_95 (by exact (hl3.r 24 rfl (by decide) : _ = some 425)) ?_
                  refine V_iload dX9_findLive_98 rfl ?_
                  refine G_zald (j := u) (by exact hl3.k _ rfl rfl) (by rfl) (by exact hl3.lt 425 (m := 180) rfl rfl (by decide) rfl (by omega)) (by exact hl3.nlt 425 rfl rfl (by decide)) dX9_findLive_100 (by exact h3.2.2.1 u hu) ?_
                  refine V_if_eq (tgt := 125) dX9_findLive_101 (by decide) (fun c101 => ?_) (fun c101 => ?_)
                  · refine V_iconst (v := 0) dX9_findLive_125 (by decide) ?_
                    refine S_istore (L' := [(0, _), (1, _), (2, _), (3, _), (4, _), (5, _)]) dX9_findLive_126 rfl rfl ?_
                    refine S_iinc (L' := [(0, _), (1, _), (2, _), (3, _), (4, _), (5, _)]) dX9_findLive_128 rfl rfl rfl rfl ?_
                    rw [nI_inc]
                    refine V_goto (tgt := 81) dX9_findLive_131 (by decide) ?_
                    have h91 := bI_0 c91
                    have hgf : anyB (goB (zQ z) (kN (zK z)) (zJ z) S v) u = false := by
                      rcases hg with ⟨g1, g2⟩ | ⟨g1, g2⟩
                      · exact g2
                      · rw [h91] at g1; cases g1
                    first
                      | (have h118 : eg (zQ z) (kN (zK z)) (zJ z) v u = none := (oI_some (eg_lt2 (jn := zJ z) z0.2.2.2.1.2.1 v u)).mp c118
                         exact ih4 (u + 1) false (by omega) (Or.inl ⟨rfl, anyB_s hgf (by unfold goB; rw [h118]; exact Bool.and_false _)⟩))
                      | (have h101 := bI_0 c101
                         exact ih4 (u + 1) false (by omega) (Or.inl ⟨rfl, anyB_s hgf (by unfold goB; rw [h101]; exact Bool.false_and _)⟩))
                      | (have h118 : ¬ eg (zQ z) (kN (zK z)) (zJ z) v u = none := fun z => c118 (by rw [z]; rfl)
                         have h101 := bI_1 c101
                         obtain ⟨cc, hcc⟩ := Option.ne_none_iff_exists'.mp h118
                         have hgu : goB (zQ z) (kN (zK z)) (zJ z) S v u = true := by unfold goB; rw [h101, hcc]; rfl
                         exact ih4 (u + 1) true (by omega) (Or.inr ⟨rfl, anyB_t hgu hu⟩))
                  · first | refine V_aload_n dX9_findLive_104 rfl rfl ?_ | refine V_aload_nN dX9_findLive_104 rfl rfl ?_
                    first | refine V_getr (by exact hl3.k _ rfl rfl) fX9_63 dX9_findLive_105 (by exact (hl3.r 23 rfl (by decide) : _ = some 424)) ?_ | refine V_getrN (by exact hl3.k _ rfl rfl) fX9_63 dX9_findLive_105 (by exact (hl3.r 23 rfl (by decide) : _ = some 424)) ?_
                    refine V_sipush (v := 180) dX9_findLive_108 (by decide) ?_
                    refine V_iload_n dX9_findLive_111 rfl rfl ?_
                    refine V_imul dX9_findLive_112 ?_
                    refine V_iload dX9_findLive_113 rfl ?_
                    refine V_iadd dX9_findLive_115 ?_
                    rw [sp180]
                    refine G_iald (j := 180 * v + u) (by exact hl3.k _ rfl rfl) (by rfl) (by exact hl3.lt 424 (m := 32400) rfl rfl (by decide) rfl (by omega)) (by exact hl3.nlt 424 rfl rfl (by decide)) dX9_findLive_116 (by exact h3.2.1 v u hv hu) ?_
                    refine V_iconst (v := -1) dX9_findLive_117 (by decide) ?_
                    refine V_icmp_eq (tgt := 125) dX9_findLive_118 (by decide) (fun c118 => ?_) (fun c118 => ?_)
                    · refine V_iconst (v := 0) dX9_findLive_125 (by decide) ?_
                      refine S_istore (L' := [(0, _), (1, _), (2, _), (3, _), (4, _), (5, _)]) dX9_findLive_126 rfl rfl ?_
                      refine S_iinc (L' := [(0, _), (1, _), (2, _), (3, _), (4, _), (5, _)]) dX9_findLive_128 rfl rfl rfl rfl ?_
                      rw [nI_inc]
                      refine V_goto (tgt := 81) dX9_findLive_131 (by decide) ?_
                      have h91 := bI_0 c91
                      have hgf : anyB (goB (zQ z) (kN (zK z)) (zJ z) S v) u = false := by
                        rcases hg with ⟨g1, g2⟩ | ⟨g1, g2⟩
                        · exact g2
                        · rw [h91] at g1; cases g1
                      first
                        | (have h118 : eg (zQ z) (kN (zK z)) (zJ z) v u = none := (oI_some (eg_lt2 (jn := zJ z) z0.2.2.2.1.2.1 v u)).mp c118
                           exact ih4 (u + 1) false (by omega) (Or.inl ⟨rfl, anyB_s hgf (by unfold goB; rw [h118]; exact Bool.and_false _)⟩))
                        | (have h101 := bI_0 c101
                           exact ih4 (u + 1) false (by omega) (Or.inl ⟨rfl, anyB_s hgf (by unfold goB; rw [h101]; exact Bool.false_and _)⟩))
                        | (have h118 : ¬ eg (zQ z) (kN (zK z)) (zJ z) v u = none := fun z => c118 (by rw [z]; rfl)
                           have h101 := bI_1 c101
                           obtain ⟨cc, hcc⟩ := Option.ne_none_iff_exists'.mp h118
                           have hgu : goB (zQ z) (kN (zK z)) (zJ z) S v u = true := by unfold goB; rw [h101, hcc]; rfl
                           exact ih4 (u + 1) true (by omega) (Or.inr ⟨rfl, anyB_t hgu hu⟩))
                    · refine V_iconst (v := 1) dX9_findLive_121 (by decide) ?_
                      refine V_goto (tgt := 126) dX9_findLive_122 (by decide) ?_
                      refine S_istore (L' := [(0, _), (1, _), (2, _), (3, _), (4, _), (5, _)]) dX9_findLive_126 rfl rfl ?_
                      refine S_iinc (L' := [(0, _), (1, _), (2, _), (3, _), (4, _), (5, _)]) dX9_findLive_128 rfl rfl rfl rfl ?_
                      rw [nI_inc]
                      refine V_goto (tgt := 81) dX9_findLive_131 (by decide) ?_
                      have h91 := bI_0 c91
                      have hgf : anyB (goB (zQ z) (kN (zK z)) (zJ z) S v) u = false := by
                        rcases hg with ⟨g1, g2⟩ | ⟨g1, g2⟩
                        · exact g2
                        · rw [h91] at g1; cases g1
                      first
                        | (have h118 : eg (zQ z) (kN (zK z)) (zJ z) v u = none := (oI_some (eg_lt2 (jn := zJ z) z0.2.2.2.1.2.1 v u)).mp c118
                           exact ih4 (u + 1) false (by omega) (Or.inl ⟨rfl, anyB_s hgf (by unfold goB; rw [h118]; exact Bool.and_false _)⟩))
                        | (have h101 := bI_0 c101
                           exact ih4 (u + 1) false (by omega) (Or.inl ⟨rfl, anyB_s hgf (by unfold goB; rw [h101]; exact Bool.false_and _)⟩))
                        | (have h118 : ¬ eg (zQ z) (kN (zK z)) (zJ z) v u = none := fun z => c118 (by rw [z]; rfl)
                           have h101 := bI_1 c101
                           obtain ⟨cc, hcc⟩ := Option.ne_none_iff_exists'.mp h118
                           have hgu : goB (zQ z) (kN (zK z)) (zJ z) S v u = true := by unfold goB; rw [h101, hcc]; rfl
                           exact ih4 (u + 1) true (by omega) (Or.inr ⟨rfl, anyB_t hgu hu⟩))
            refine V_iload_n dX9_findLive_59 rfl rfl ?_
            refine V_sipush (v := 180) dX9_findLive_60 (by decide) ?_
            refine V_icmp_ge (tgt := 157) dX9_findLive_63 (by decide) (fun c63 => False.elim (by exact nI_ge (a := v) (b := 180) hv (by decide) c63)) (fun c63 => ?_)
            first | refine V_aload_n dX9_findLive_66 rfl rfl ?_ | refine V_aload_nN dX9_findLive_66 rfl rfl ?_
            first | refine V_getr (by exact hl3.k _ rfl rfl) fX9_66 dX9_findLive_67 (by exact (hl3.r 24 rfl (by decide) : _ = some 425)) ?_ | refine V_getrN (by exact hl3.k _ rfl rfl) fX9_66 dX9_findLive_67 (by exact (hl3.r 24 rfl (by decide) : _ = some 425)) ?_
            refine V_iload_n dX9_findLive_70 rfl rfl ?_
            refine G_zald (j := v) (by exact hl3.k _ rfl rfl) (by rfl) (by exact hl3.lt 425 (m := 180) rfl rfl (by decide) rfl (by omega)) (by exact hl3.nlt 425 rfl rfl (by decide)) dX9_findLive_71 (by exact h3.2.2.1 v hv) ?_
            refine V_if_eq (tgt := 151) dX9_findLive_72 (by decide) (fun c72 => ?_) (fun c72 => ?_)
            · refine S_iinc (L' := [(0, _), (1, _), (2, _), (3, _)]) dX9_findLive_151 rfl rfl rfl rfl ?_
              rw [nI_inc]
              refine V_goto (tgt := 59) dX9_findLive_154 (by decide) ?_
              have h72 := bI_0 c72
              exact ih (v + 1) S w3 m (by omega) h3 hm1 (fun z => ⟨(hm0 z).1, fun x hx hSx => by
                by_cases e : x = v
                · rw [e, h72] at hSx; cases hSx
                · exact (hm0 z).2 x (by omega) hSx⟩)
            · refine V_iconst (v := 0) dX9_findLive_75 (by decide) ?_
              refine S_istore (L' := [(0, _), (1, _), (2, _), (3, _), (4, _)]) dX9_findLive_76 rfl rfl ?_
              refine V_iconst (v := 0) dX9_findLive_78 (by decide) ?_
              refine S_istore (L' := [(0, _), (1, _), (2, _), (3, _), (4, _), (5, _)]) dX9_findLive_79 rfl rfl ?_
              exact lp4 (bI_1 c72) 180 0 false rfl (Or.inl ⟨rfl, rfl⟩)
        refine V_iload_n dX9_findLive_51 rfl rfl ?_
        refine V_if_eq (tgt := 160) dX9_findLive_52 (by decide) (fun c52 => False.elim (by exact absurd c52 (by decide))) (fun c52 => ?_)
        refine V_iconst (v := 0) dX9_findLive_55 (by decide) ?_
        refine S_istore_n (L' := [(0, _), (1, _), (2, _)]) dX9_findLive_56 rfl rfl rfl ?_
        refine V_iconst (v := 0) dX9_findLive_57 (by decide) ?_
        refine S_istore_n (L' := [(0, _), (1, _), (2, _), (3, _)]) dX9_findLive_58 rfl rfl rfl ?_
        exact lp3 (cntF S 180) (fun S3 w3 m3 h3 b3 c3 => ih S3 w3 m3 h3 (by cases m3 with
          | true => have := b3 rfl; show cntF S3 180 + 1 ≤ d; have : cntF S 180 + 1 ≤ d + 1 := hd; omega
          | false => have := (c3 rfl).1; show cntF S3 180 + 0 ≤ d; have : cntF S 180 + 1 ≤ d + 1 := hd; omega) (fun z => (c3 z).2)) 180 0 S w2 false rfl h2 (fun z => by cases z) (fun _ => ⟨rfl, fun v hv => absurd hv (Nat.not_lt_zero _)⟩)
  have lp1 : ∀ w1, Kp coI noA w w1 → MCo (zQ z) (kN (zK z)) (zJ z) w1 → ∀ (d v : Nat) (w2 : Wd), v + d = 180 → Kp (fun a _ => a = 425) noA w1 w2 → (∀ i, i < v → wI w2 425 i = bI (pN (zQ z) i)) → V mX9_findLive X (mq mX9_findLive X (fun r w' => ∃ x, r = some x ∧ (x = .int (nI (cntF (lvS (zQ z) (kN (zK z)) (zJ z)) 180)) ∧ Kp lvI noA w w' ∧ ∀ v, v < 180 → wI w' 425 v = bI ((lvS (zQ z) (kN (zK z)) (zJ z)) v)))) 8 [(0, .ref 400), (1, .int (nI (cntF (pN (zQ z)) v))), (2, .int (nI v))] [] w2 (0, 0) := by
    intro w1 a1 a2 d
    induction d with
    | zero =>
      intro v w2 hd g2 m2
      have h2 : MCp (kN (zK z)) (zQ z) w2 := (z0.2.1.kp a1 (fun a j z => by unfold coI at z; omega)).kp g2 (fun a j z => by omega)
      obtain rfl : v = 180 := hd
      refine V_iload_n dX9_findLive_8 rfl rfl ?_
      refine V_sipush (v := 180) dX9_findLive_9 (by decide) ?_
      refine V_icmp_ge (tgt := 49) dX9_findLive_12 (by decide) (fun c12 => ?_) (fun c12 => False.elim (by exact c12 (by decide)))
      rw [← cnt_pP]
      refine V_iconst (v := 1) dX9_findLive_49 (by decide) ?_
      refine S_istore_n (L' := [(0, _), (1, _), (2, _)]) dX9_findLive_50 rfl rfl rfl ?_
      exact lp2 (cntF (pN (zQ z)) 180 + 1) (fun v => decide (pP (zQ z) v)) w2 true ⟨(a1.mono (fun a j z => Or.inl z) (fun _ _ z => z)).trans (g2.mono (fun a j z => Or.inr z) (fun _ _ z => z)), a2.kp g2 (fun a j z => by omega), fun v hv => by
        rw [m2 v hv]
        exact congrArg bI (pP_b _ hv).symm, fun v hv => decide_eq_true (lvS_P hv), fun v hv => of_decide_eq_true hv⟩ (by rw [cnt_pP]; exact Nat.le_refl _) (fun z => by cases z)
    | succ d ih =>
      intro v w2 hd g2 m2
      have h2 : MCp (kN (zK z)) (zQ z) w2 := (z0.2.1.kp a1 (fun a j z => by unfold coI at z; omega)).kp g2 (fun a j z => by omega)
      have hv : v < 180 := by omega
      refine V_iload_n dX9_findLive_8 rfl rfl ?_
      refine V_sipush (v := 180) dX9_findLive_9 (by decide) ?_
      refine V_icmp_ge (tgt := 49) dX9_findLive_12 (by decide) (fun c12 => False.elim (by exact nI_ge (a := v) (b := 180) hv (by decide) c12)) (fun c12 => ?_)
      first | refine V_aload_n dX9_findLive_15 rfl rfl ?_ | refine V_aload_nN dX9_findLive_15 rfl rfl ?_
      first | refine V_getr (by exact h2.1.k _ rfl rfl) fX9_66 dX9_findLive_16 (by exact (h2.1.r 24 rfl (by decide) : _ = some 425)) ?_ | refine V_getrN (by exact h2.1.k _ rfl rfl) fX9_66 dX9_findLive_16 (by exact (h2.1.r 24 rfl (by decide) : _ = some 425)) ?_
      refine V_iload_n dX9_findLive_19 rfl rfl ?_
      first | refine V_aload_n dX9_findLive_20 rfl rfl ?_ | refine V_aload_nN dX9_findLive_20 rfl rfl ?_
      refine V_iload_n dX9_findLive_21 rfl rfl ?_
      refine V_callV (As := [_]) (st := _) (c_X9_isNode (kN (zK z)) (zQ z) v w2 h2 hv) kX9_212 (by exact h2.1.k _ rfl rfl) ⟨rfl, rfl, rfl⟩ ⟨(Nat.le_of_ble_eq_true rfl), (Nat.le_of_ble_eq_true rfl)⟩ dX9_findLive_22 rfl rfl (Nat.le_of_ble_eq_true rfl) ⟨(Nat.le_of_ble_eq_true rfl), (Nat.le_of_ble_eq_true rfl)⟩ ?_
      rw [b01_pN]
      refine G_zast (j := v) (by exact h2.1.k _ rfl rfl) (by rfl) (by exact h2.1.lt 425 (m := 180) rfl rfl (by decide) rfl (by omega)) (by exact h2.1.nlt 425 rfl rfl (by decide)) (bI_vp _) dX9_findLive_25 ?_
      refine V_iload_n dX9_findLive_26 rfl rfl ?_
      first | refine V_aload_n dX9_findLive_27 rfl rfl ?_ | refine V_aload_nN dX9_findLive_27 rfl rfl ?_
      first | refine V_getr (by exact h2.1.k _ rfl rfl) fX9_66 dX9_findLive_28 (by exact (h2.1.r 24 rfl (by decide) : _ = some 425)) ?_ | refine V_getrN (by exact h2.1.k _ rfl rfl) fX9_66 dX9_findLive_28 (by exact (h2.1.r 24 rfl (by decide) : _ = some 425)) ?_
      refine V_iload_n dX9_findLive_31 rfl rfl ?_
      refine G_zald (j := v) (by exact h2.1.k _ rfl rfl) (by rfl) (by exact h2.1.lt 425 (m := 180) rfl rfl (by decide) rfl (by omega)) (by exact h2.1.nlt 425 rfl rfl (by decide)) dX9_findLive_32 (by exact rdI_eq) ?_
      refine V_if_eq (tgt := 40) dX9_findLive_33 (by decide) (fun c33 => ?_) (fun c33 => ?_)
      · refine V_iconst (v := 0) dX9_findLive_40 (by decide) ?_
        refine V_iadd dX9_findLive_41 ?_
        refine S_istore_n (L' := [(0, _), (1, _), (2, _)]) dX9_findLive_42 rfl rfl rfl ?_
        refine S_iinc (L' := [(0, _), (1, _), (2, _)]) dX9_findLive_43 rfl rfl rfl rfl ?_
        rw [nI_inc]
        refine V_goto (tgt := 8) dX9_findLive_46 (by decide) ?_
        have g3 : Kp (fun a _ => a = 425) noA w1 (sI w2 425 v (bI (pN (zQ z) v))) := g2.trans (Kp.sI (SI := fun a _ => a = 425) (SJ := noA) w2 (show 425 = 425 from rfl) _)
        have m3 : ∀ i, i < v + 1 → wI (sI w2 425 v (bI (pN (zQ z) v))) 425 i = bI (pN (zQ z) i) := fun i hi => by
          by_cases e : i = v
          · rw [e, rdI_eq]
          · rw [rdI_ne e]; exact m2 i (by omega)
        have key := ih (v + 1) _ (by omega) g3 m3
        first
          | (have h33 := bI_1 c33
             rw [← cnt_y (p := pN (zQ z)) h33] at key
             exact key)
          | (have h33 := bI_0 c33
             rw [← cnt_n (p := pN (zQ z)) (n := v) (by rw [h33]; decide)] at key
             exact key)
      · refine V_iconst (v := 1) dX9_findLive_36 (by decide) ?_
        refine V_goto (tgt := 41) dX9_findLive_37 (by decide) ?_
        refine V_iadd dX9_findLive_41 ?_
        refine S_istore_n (L' := [(0, _), (1, _), (2, _)]) dX9_findLive_42 rfl rfl rfl ?_
        refine S_iinc (L' := [(0, _), (1, _), (2, _)]) dX9_findLive_43 rfl rfl rfl rfl ?_
        rw [nI_inc]
        refine V_goto (tgt := 8) dX9_findLive_46 (by decide) ?_
        have g3 : Kp (fun a _ => a = 425) noA w1 (sI w2 425 v (bI (pN (zQ z) v))) := g2.trans (Kp.sI (SI := fun a _ => a = 425) (SJ := noA) w2 (show 425 = 425 from rfl) _)
        have m3 : ∀ i, i < v + 1 → wI (sI w2 425 v (bI (pN (zQ z) v))) 425 i = bI (pN (zQ z) i) := fun i hi => by
          by_cases e : i = v
          · rw [e, rdI_eq]
          · rw [rdI_ne e]; exact m2 i (by omega)
        have key := ih (v + 1) _ (by omega) g3 m3
        first
          | (have h33 := bI_1 c33
             rw [← cnt_y (p := pN (zQ z)) h33] at key
             exact key)
          | (have h33 := bI_0 c33
             rw [← cnt_n (p := pN (zQ z)) (n := v) (by rw [h33]; decide)] at key
             exact key)
  first | refine V_aload_n dX9_findLive_0 rfl rfl ?_ | refine V_aload_nN dX9_findLive_0 rfl rfl ?_
  refine V_callVvr (As := []) (st := _) (c_X9_findCosts (kN (zK z)) (zQ z) (zJ z) w z0.2.1 z0.1.n z0.2.2.2.1.1 z0.2.2.2.1.2.1) kX9_215 (by exact z0.1.1.k _ rfl rfl) ⟨rfl, rfl, rfl⟩ ⟨(Nat.le_of_ble_eq_true rfl), (Nat.le_of_ble_eq_true rfl)⟩ dX9_findLive_1 rfl rfl (Nat.le_of_ble_eq_true rfl) ⟨(Nat.le_of_ble_eq_true rfl), (Nat.le_of_ble_eq_true rfl)⟩ (fun w1 hw1 => ?_)
  obtain ⟨a1, a2⟩ := hw1
  have hl1 : LayM w1 := z0.1.1.kp a1
  refine V_iconst (v := 0) dX9_findLive_4 (by decide) ?_
  refine S_istore_n (L' := [(0, _), (1, _)]) dX9_findLive_5 rfl rfl rfl ?_
  refine V_iconst (v := 0) dX9_findLive_6 (by decide) ?_
  refine S_istore_n (L' := [(0, _), (1, _), (2, _)]) dX9_findLive_7 rfl rfl rfl ?_
  exact lp1 w1 a1 a2 180 0 w1 rfl (Kp.refl _ _ _) (fun i hi => absurd hi (Nat.not_lt_zero _))

theorem RM.work {z : St} {w w' : Wd} (h : RM z w) {SI : Nat → Nat → Prop} (g : Kp SI noA w w') (hs : ∀ a j, SI a j → 424 ≤ a ∧ a < 428) : RM z w' ∧ Keep moA w w' := by
  have g2 : Kp grI noA w w' := g.mono (fun a j z => by have := hs a j z; unfold grI; omega) (fun _ _ z => z)
  exact ⟨h.setG g2 (h.2.2.2.1.kp g (fun a j z => by have := hs a j z; omega)), g2.mog⟩

set_option maxRecDepth 100000 in
theorem c_X9_live (z : St)  (w : Wd) (z0 : RM z w) : Cc yX9_live mX9_live [.ref 400] w (fun r w' => ∃ v, r = some v ∧ (v = .int (oLive z) ∧ RM z w' ∧ Keep moA w w')) := by
  refine Cc.of (by decide) rfl rfl (Nat.le_of_ble_eq_true rfl) (fun X => ?_)
  change V _ X _ 0 [(0, _)] [] _ (0, 0)
  first | refine V_aload_n dX9_live_0 rfl rfl ?_ | refine V_aload_nN dX9_live_0 rfl rfl ?_
  refine V_callVr (As := []) (st := _) (c_X9_findLive z w z0) kX9_218 (by exact z0.1.1.k _ rfl rfl) ⟨rfl, rfl, rfl⟩ ⟨(Nat.le_of_ble_eq_true rfl), (Nat.le_of_ble_eq_true rfl)⟩ dX9_live_1 rfl rfl (Nat.le_of_ble_eq_true rfl) ⟨(Nat.le_of_ble_eq_true rfl), (Nat.le_of_ble_eq_true rfl)⟩ (fun v1 w1 hw1 => ?_)
  obtain ⟨rfl, a1, a2⟩ := hw1
  obtain ⟨r1, r2⟩ := z0.work a1 (fun a j z => by unfold lvI at z; omega)
  refine V_iret rfl dX9_live_4 (Nat.le_of_ble_eq_true rfl) (Nat.le_of_ble_eq_true rfl) ?_
  exact ⟨_, rfl, by unfold oLive; rw [← cnt_lv _ _ _ 6 (Nat.le_refl _)], r1, r2⟩

set_option maxRecDepth 100000 in
theorem c_X9_isLive (z : St) (x y : Int32) (w : Wd) (z0 : RM z w) : Cc yX9_isLive mX9_isLive [.ref 400, .int x, .int y] w (fun r w' => ∃ v, r = some v ∧ (v = .int (oIsLive z x y) ∧ RM z w' ∧ Keep moA w w')) := by
  refine Cc.of (by decide) rfl rfl (Nat.le_of_ble_eq_true rfl) (fun X => ?_)
  change V _ X _ 0 [(0, _), (1, _), (2, _)] [] _ (0, 0)
  first | refine V_aload_n dX9_isLive_0 rfl rfl ?_ | refine V_aload_nN dX9_isLive_0 rfl rfl ?_
  refine V_iload_n dX9_isLive_1 rfl rfl ?_
  refine V_iload_n dX9_isLive_2 rfl rfl ?_
  refine V_callV (As := [_, _]) (st := _) (c_X9_isFrame (kN (zK z)) (zQ z) x y w z0.2.1) kX9_184 (by exact z0.1.1.k _ rfl rfl) ⟨rfl, rfl, rfl⟩ ⟨(Nat.le_of_ble_eq_true rfl), (Nat.le_of_ble_eq_true rfl)⟩ dX9_isLive_3 rfl rfl (Nat.le_of_ble_eq_true rfl) ⟨(Nat.le_of_ble_eq_true rfl), (Nat.le_of_ble_eq_true rfl)⟩ ?_
  refine V_if_ne (tgt := 12) dX9_isLive_6 (by decide) (fun c6 => ?_) (fun c6 => ?_)
  · obtain ⟨c, f, hc, hf, rfl, rfl⟩ := isFr_s z0 (b01_1 c6)
    have h30 := z0.2.1.le hc
    first | refine V_aload_n dX9_isLive_12 rfl rfl ?_ | refine V_aload_nN dX9_isLive_12 rfl rfl ?_
    refine V_callVr (As := []) (st := _) (c_X9_findLive z w z0) kX9_218 (by exact z0.1.1.k _ rfl rfl) ⟨rfl, rfl, rfl⟩ ⟨(Nat.le_of_ble_eq_true rfl), (Nat.le_of_ble_eq_true rfl)⟩ dX9_isLive_13 rfl rfl (Nat.le_of_ble_eq_true rfl) ⟨(Nat.le_of_ble_eq_true rfl), (Nat.le_of_ble_eq_true rfl)⟩ (fun v1 w1 hw1 => ?_)
    obtain ⟨rfl, a1, a2⟩ := hw1
    obtain ⟨r1, r2⟩ := z0.work a1 (fun a j z => by unfold lvI at z; omega)
    refine S_istore_n (L' := [(0, _), (1, _), (2, _)]) dX9_isLive_16 rfl rfl rfl ?_
    first | refine V_aload_n dX9_isLive_17 rfl rfl ?_ | refine V_aload_nN dX9_isLive_17 rfl rfl ?_
    first | refine V_getr (by exact r1.1.1.k _ rfl rfl) fX9_66 dX9_isLive_18 (by exact (r1.1.1.r 24 rfl (by decide) : _ = some 425)) ?_ | refine V_getrN (by exact r1.1.1.k _ rfl rfl) fX9_66 dX9_isLive_18 (by exact (r1.1.1.r 24 rfl (by decide) : _ = some 425)) ?_
    refine V_bipush (v := 30) dX9_isLive_21 (by decide) ?_
    refine V_iload_n dX9_isLive_23 rfl rfl ?_
    refine V_imul dX9_isLive_24 ?_
    refine V_iload_n dX9_isLive_25 rfl rfl ?_
    refine V_iadd dX9_isLive_26 ?_
    rw [slot_N]
    refine G_zald (j := 30 * c + f) (by exact r1.1.1.k _ rfl rfl) (by rfl) (by exact r1.1.1.lt 425 (m := 180) rfl rfl (by decide) rfl (by omega)) (by exact r1.1.1.nlt 425 rfl rfl (by decide)) dX9_isLive_27 (by exact a2 (30 * c + f) (by omega)) ?_
    refine V_if_eq (tgt := 35) dX9_isLive_28 (by decide) (fun c28 => ?_) (fun c28 => ?_)
    · refine V_iconst (v := 0) dX9_isLive_35 (by decide) ?_
      refine V_iret rfl dX9_isLive_36 (Nat.le_of_ble_eq_true rfl) (Nat.le_of_ble_eq_true rfl) ?_
      refine ⟨_, rfl, congrArg Value.int ?_, r1, r2⟩
      unfold oIsLive
      rw [if_pos (b01_1 c6), bN_nI (by omega), bN_nI (by omega)]
      have hiff : lvS (zQ z) (kN (zK z)) (zJ z) (30 * c + f) = true ↔ f < lvN (zQ z) (kN (zK z)) (zJ z) c := by
        unfold lvS
        rw [decide_eq_true_eq, show (30 * c + f) % 30 = f by omega, show (30 * c + f) / 30 = c by omega]
        omega
      first
        | (have h28 := bI_1 c28
           rw [if_pos (hiff.mp h28)])
        | (have h28 := bI_0 c28
           rw [if_neg (fun z => by rw [hiff.mpr z] at h28; cases h28)])
    · refine V_iconst (v := 1) dX9_isLive_31 (by decide) ?_
      refine V_goto (tgt := 36) dX9_isLive_32 (by decide) ?_
      refine V_iret rfl dX9_isLive_36 (Nat.le_of_ble_eq_true rfl) (Nat.le_of_ble_eq_true rfl) ?_
      refine ⟨_, rfl, congrArg Value.int ?_, r1, r2⟩
      unfold oIsLive
      rw [if_pos (b01_1 c6), bN_nI (by omega), bN_nI (by omega)]
      have hiff : lvS (zQ z) (kN (zK z)) (zJ z) (30 * c + f) = true ↔ f < lvN (zQ z) (kN (zK z)) (zJ z) c := by
        unfold lvS
        rw [decide_eq_true_eq, show (30 * c + f) % 30 = f by omega, show (30 * c + f) / 30 = c by omega]
        omega
      first
        | (have h28 := bI_1 c28
           rw [if_pos (hiff.mp h28)])
        | (have h28 := bI_0 c28
           rw [if_neg (fun z => by rw [hiff.mpr z] at h28; cases h28)])
  · refine V_bipush (v := -2) dX9_isLive_9 (by decide) ?_
    refine V_iret rfl dX9_isLive_11 (Nat.le_of_ble_eq_true rfl) (Nat.le_of_ble_eq_true rfl) ?_
    exact ⟨_, rfl, by unfold oIsLive; rw [if_neg (b01_0 c6)], z0, Keep.refl _ _⟩
