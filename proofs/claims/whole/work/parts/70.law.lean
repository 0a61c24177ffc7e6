/-! THE LAW: bone's case, the loop, the start -/
set_option maxRecDepth 100000 in
theorem law_bone {nm : String} {X : Cx} {Q : State → Prop} {n k : Nat} {f : Nat → Int32} {z : St} {w : Wd} {cs : Nat × Nat} (hs : xsc X = some (n, f)) (hk : 7 * k + 7 ≤ n) (hn : n ≤ 3584) (h : Lg k z w) (hc : cs.1 + 1 ≤ 600000 ∧ cs.2 + 14 ≤ 7302250) (next : ∀ z' w', Lg (k + 1) z' w' → V (mL_law nm) X Q 1606 (LL k) [] w' (cs.1 + 1, cs.2 + 14)) : V (mL_law nm) X Q 180 (LL k) [] w cs := by
  have i1 : vp_in (nI (7 * k) + 1) n := sc_in 1 hk (by decide) hn
  have i2 : vp_in (nI (7 * k) + 2) n := sc_in 2 hk (by decide) hn
  have i3 : vp_in (nI (7 * k) + 3) n := sc_in 3 hk (by decide) hn
  have i4 : vp_in (nI (7 * k) + 4) n := sc_in 4 hk (by decide) hn
  have i5 : vp_in (nI (7 * k) + 5) n := sc_in 5 hk (by decide) hn
  have i6 : vp_in (nI (7 * k) + 6) n := sc_in 6 hk (by decide) hn
  first | refine V_aload_n dL_law_180 rfl rfl ?_ | refine V_aload_nN dL_law_180 rfl rfl ?_
  first | refine V_aload_n dL_law_181 rfl rfl ?_ | refine V_aload_nN dL_law_181 rfl rfl ?_
  refine V_iload_n dL_law_182 rfl rfl ?_
  refine V_iconst (v := 1) dL_law_183 (by decide) ?_
  refine V_iadd dL_law_184 ?_
  refine V_sld hs (by exact i1) dL_law_185 ?_
  first | refine V_aload_n dL_law_186 rfl rfl ?_ | refine V_aload_nN dL_law_186 rfl rfl ?_
  refine V_iload_n dL_law_187 rfl rfl ?_
  refine V_iconst (v := 2) dL_law_188 (by decide) ?_
  refine V_iadd dL_law_189 ?_
  refine V_sld hs (by exact i2) dL_law_190 ?_
  first | refine V_aload_n dL_law_191 rfl rfl ?_ | refine V_aload_nN dL_law_191 rfl rfl ?_
  refine V_iload_n dL_law_192 rfl rfl ?_
  refine V_iconst (v := 3) dL_law_193 (by decide) ?_
  refine V_iadd dL_law_194 ?_
  refine V_sld hs (by exact i3) dL_law_195 ?_
  first | refine V_aload_n dL_law_196 rfl rfl ?_ | refine V_aload_nN dL_law_196 rfl rfl ?_
  refine V_iload_n dL_law_197 rfl rfl ?_
  refine V_iconst (v := 4) dL_law_198 (by decide) ?_
  refine V_iadd dL_law_199 ?_
  refine V_sld hs (by exact i4) dL_law_200 ?_
  refine V_wok (fun hok => ?_)
  have r20 : refIn w (.ref 20) := Or.inl (hok.2.1 20 (by rw [h.kx]; decide))
  have r400 : refIn w (.ref 400) := Or.inl (hok.2.1 400 (by rw [h.km]; decide))
  refine V_cVA (As := [_, _, _, _]) (st := []) (c_X8_bone z _ _ _ _ w h.1 h.2.2.1) kL_13 h.kx ⟨(Nat.le_of_ble_eq_true rfl), (Nat.le_of_ble_eq_true rfl)⟩ dL_law_201 rfl rfl (Nat.le_of_ble_eq_true rfl) hc (Or.inr ⟨rfl, (List.forall_mem_cons.mpr ⟨Or.inr (Or.inr rfl), (List.forall_mem_cons.mpr ⟨r20, (List.forall_mem_cons.mpr ⟨r400, (List.forall_mem_cons.mpr ⟨trivial, (fun _ h => absurd h List.not_mem_nil)⟩)⟩)⟩)⟩), fun _ h => absurd h List.not_mem_nil⟩) (fun r1 w1 q1 => ?_)
  obtain ⟨v1, rfl, rfl, x1, g1, u1⟩ := q1
  change V (mL_law nm) X Q 204 (LL k) [.int _] w1 (cs.1 + 1, cs.2 + 14)
  first | refine V_aload_n dL_law_204 rfl rfl ?_ | refine V_aload_nN dL_law_204 rfl rfl ?_
  first | refine V_aload_n dL_law_205 rfl rfl ?_ | refine V_aload_nN dL_law_205 rfl rfl ?_
  refine V_iload_n dL_law_206 rfl rfl ?_
  refine V_iconst (v := 1) dL_law_207 (by decide) ?_
  refine V_iadd dL_law_208 ?_
  refine V_sld hs (by exact i1) dL_law_209 ?_
  first | refine V_aload_n dL_law_210 rfl rfl ?_ | refine V_aload_nN dL_law_210 rfl rfl ?_
  refine V_iload_n dL_law_211 rfl rfl ?_
  refine V_iconst (v := 2) dL_law_212 (by decide) ?_
  refine V_iadd dL_law_213 ?_
  refine V_sld hs (by exact i2) dL_law_214 ?_
  first | refine V_aload_n dL_law_215 rfl rfl ?_ | refine V_aload_nN dL_law_215 rfl rfl ?_
  refine V_iload_n dL_law_216 rfl rfl ?_
  refine V_iconst (v := 3) dL_law_217 (by decide) ?_
  refine V_iadd dL_law_218 ?_
  refine V_sld hs (by exact i3) dL_law_219 ?_
  first | refine V_aload_n dL_law_220 rfl rfl ?_ | refine V_aload_nN dL_law_220 rfl rfl ?_
  refine V_iload_n dL_law_221 rfl rfl ?_
  refine V_iconst (v := 4) dL_law_222 (by decide) ?_
  refine V_iadd dL_law_223 ?_
  refine V_sld hs (by exact i4) dL_law_224 ?_
  refine V_callVr (As := [_, _, _, _]) (st := _) (c_X9_bone z _ _ _ _ w1 (h.2.1.ken g1)) kL_17 (by exact (h.2.1.ken g1).1.1.k 400 rfl rfl) ⟨rfl, rfl, rfl⟩ ⟨(Nat.le_of_ble_eq_true rfl), (Nat.le_of_ble_eq_true rfl)⟩ dL_law_225 rfl rfl (Nat.le_of_ble_eq_true rfl) hc (fun v2 w2 q2 => ?_)
  obtain ⟨rfl, m2, g2⟩ := q2
  refine V_icmp_eq (tgt := 1606) dL_law_228 (by decide) (fun c228 => ?_) (fun c228 => False.elim (by exact c228 rfl))
  exact next _ w2 ⟨x1.ken (KeN.of g2), m2, u1.keep g2, rt_Bone h.2.2.2⟩

theorem sc_go {k n : Nat} (hk : k ≤ 513) (hn : n ≤ 3584) (c : ¬ nI n - nI 7 < nI (7 * k)) : 7 * k + 7 ≤ n := by
  rw [Int32.lt_iff_toInt_lt, pk_sub_toInt (by omega) (by omega), nI_toInt (by omega)] at c
  omega
theorem sc_nx (k : Nat) : nI (7 * k) + Int32.ofInt 7 = nI (7 * (k + 1)) := (Int32.ofNat_add (7 * k) 7).symm

set_option maxRecDepth 100000 in
theorem law_loop {nm : String} {X : Cx} {Q : State → Prop} {n : Nat} {f : Nat → Int32} (hs : xsc X = some (n, f)) (hn : n ≤ 3584) (hend : ∀ (L : List (Nat × Value)) (w : Wd) (cs : Nat × Nat), cs.1 ≤ 600000 → cs.2 ≤ 7302250 → V (mL_law nm) X Q 1613 L [.int 1] w cs) : ∀ (d k : Nat) (z : St) (w : Wd) (cs : Nat × Nat), k + d = 513 → cs.1 + d ≤ 599000 → cs.2 + 14 * d ≤ 7300000 → Lg k z w → V (mL_law nm) X Q 18 (LL k) [] w cs := by
  intro d
  induction d with
  | zero =>
    intro k z w cs hd h1 h2 h
    refine V_iload_n dL_law_18 rfl rfl ?_
    first | refine V_aload_n dL_law_19 rfl rfl ?_ | refine V_aload_nN dL_law_19 rfl rfl ?_
    refine V_slen hs dL_law_20 ?_
    refine V_bipush (v := 7) dL_law_21 (by decide) ?_
    refine V_isub dL_law_23 ?_
    refine V_icmp_gt (tgt := 1612) dL_law_24 (by decide) (fun c24 => ?_) (fun c24 => False.elim (by have := sc_go (by omega) hn c24; omega))
    refine V_iconst (v := 1) dL_law_1612 (by decide) ?_
    exact hend _ _ _ (by omega) (by omega)
  | succ d ih =>
    intro k z w cs hd h1 h2 h
    have hc : cs.1 ≤ 600000 ∧ cs.2 ≤ 7302250 := ⟨by omega, by omega⟩
    have hcb : cs.1 + 1 ≤ 600000 ∧ cs.2 + 14 ≤ 7302250 := ⟨by omega, by omega⟩
    have nx : ∀ z' w', Lg (k + 1) z' w' → V (mL_law nm) X Q 1606 (LL k) [] w' cs := by
      intro z' w' h'
      refine S_iinc (L' := [(0, _), (1, _), (2, _), (3, _)]) dL_law_1606 rfl rfl rfl rfl ?_
      rw [sc_nx]
      refine V_goto (tgt := 18) dL_law_1609 (by decide) ?_
      exact ih (k + 1) z' w' cs (by omega) (by omega) (by omega) h'
    have nxB : ∀ z' w', Lg (k + 1) z' w' → V (mL_law nm) X Q 1606 (LL k) [] w' (cs.1 + 1, cs.2 + 14) := by
      intro z' w' h'
      refine S_iinc (L' := [(0, _), (1, _), (2, _), (3, _)]) dL_law_1606 rfl rfl rfl rfl ?_
      rw [sc_nx]
      refine V_goto (tgt := 18) dL_law_1609 (by decide) ?_
      exact ih (k + 1) z' w' (cs.1 + 1, cs.2 + 14) (by omega) (show cs.1 + 1 + d ≤ 599000 by omega) (show cs.2 + 14 + 14 * d ≤ 7300000 by omega) h'
    refine V_iload_n dL_law_18 rfl rfl ?_
    first | refine V_aload_n dL_law_19 rfl rfl ?_ | refine V_aload_nN dL_law_19 rfl rfl ?_
    refine V_slen hs dL_law_20 ?_
    refine V_bipush (v := 7) dL_law_21 (by decide) ?_
    refine V_isub dL_law_23 ?_
    refine V_icmp_gt (tgt := 1612) dL_law_24 (by decide) (fun c24 => ?_) (fun c24 => ?_)
    · refine V_iconst (v := 1) dL_law_1612 (by decide) ?_
      exact hend _ _ _ (by omega) (by omega)
    · have hk : 7 * k + 7 ≤ n := sc_go (by omega) hn c24
      have i0 : vp_in (nI (7 * k)) n := sc_0 hk hn
      first | refine V_aload_n dL_law_27 rfl rfl ?_ | refine V_aload_nN dL_law_27 rfl rfl ?_
      refine V_iload_n dL_law_28 rfl rfl ?_
      refine V_sld hs (by exact i0) dL_law_29 ?_
      refine V_bipush (v := 63) dL_law_30 (by decide) ?_
      refine V_iand dL_law_32 ?_
      refine V_topi (fun sw esw => ?_)
      by_cases s0 : sw = 0
      · rw [s0] at esw ⊢
        refine V_tableIn (off := 147) (tgt := 180) dL_law_33 (by decide) (by decide) (by decide) (by decide) ?_
        exact law_bone hs hk hn h hcb nxB
      by_cases s1 : sw = 1
      · rw [s1] at esw ⊢
        refine V_tableIn (off := 200) (tgt := 233) dL_law_33 (by decide) (by decide) (by decide) (by decide) ?_
        exact law_about hs hk hn h hc nx
      by_cases s2 : sw = 2
      · rw [s2] at esw ⊢
        refine V_tableIn (off := 233) (tgt := 266) dL_law_33 (by decide) (by decide) (by decide) (by decide) ?_
        exact law_turn hs hk hn h hc nx
      by_cases s3 : sw = 3
      · rw [s3] at esw ⊢
        refine V_tableIn (off := 266) (tgt := 299) dL_law_33 (by decide) (by decide) (by decide) (by decide) ?_
        exact law_root hs hk hn h hc nx
      by_cases s4 : sw = 4
      · rw [s4] at esw ⊢
        refine V_tableIn (off := 359) (tgt := 392) dL_law_33 (by decide) (by decide) (by decide) (by decide) ?_
        exact law_end hs hk hn h hc nx
      by_cases s5 : sw = 5
      · rw [s5] at esw ⊢
        refine V_tableIn (off := 393) (tgt := 426) dL_law_33 (by decide) (by decide) (by decide) (by decide) ?_
        exact law_far hs hk hn h hc nx
      by_cases s6 : sw = 6
      · rw [s6] at esw ⊢
        refine V_tableIn (off := 497) (tgt := 530) dL_law_33 (by decide) (by decide) (by decide) (by decide) ?_
        exact law_lock hs hk hn h hc nx
      by_cases s7 : sw = 7
      · rw [s7] at esw ⊢
        refine V_tableIn (off := 520) (tgt := 553) dL_law_33 (by decide) (by decide) (by decide) (by decide) ?_
        exact law_two hs hk hn h hc nx
      by_cases s8 : sw = 8
      · rw [s8] at esw ⊢
        refine V_tableIn (off := 624) (tgt := 657) dL_law_33 (by decide) (by decide) (by decide) (by decide) ?_
        exact law_rounds hs hk hn h hc nx
      by_cases s9 : sw = 9
      · rw [s9] at esw ⊢
        refine V_tableIn (off := 740) (tgt := 773) dL_law_33 (by decide) (by decide) (by decide) (by decide) ?_
        exact law_frame hs hk hn h hc nx
      by_cases s10 : sw = 10
      · rw [s10] at esw ⊢
        refine V_tableIn (off := 763) (tgt := 796) dL_law_33 (by decide) (by decide) (by decide) (by decide) ?_
        exact law_clear hs hk hn h hc nx
      by_cases s11 : sw = 11
      · rw [s11] at esw ⊢
        refine V_tableIn (off := 786) (tgt := 819) dL_law_33 (by decide) (by decide) (by decide) (by decide) ?_
        exact law_show hs hk hn h hc nx
      by_cases s12 : sw = 12
      · rw [s12] at esw ⊢
        refine V_tableIn (off := 819) (tgt := 852) dL_law_33 (by decide) (by decide) (by decide) (by decide) ?_
        exact law_at hs hk hn h hc nx
      by_cases s13 : sw = 13
      · rw [s13] at esw ⊢
        refine V_tableIn (off := 862) (tgt := 895) dL_law_33 (by decide) (by decide) (by decide) (by decide) ?_
        exact law_blend hs hk hn h hc nx
      by_cases s14 : sw = 14
      · rw [s14] at esw ⊢
        refine V_tableIn (off := 915) (tgt := 948) dL_law_33 (by decide) (by decide) (by decide) (by decide) ?_
        exact law_add hs hk hn h hc nx
      by_cases s15 : sw = 15
      · rw [s15] at esw ⊢
        refine V_tableIn (off := 958) (tgt := 991) dL_law_33 (by decide) (by decide) (by decide) (by decide) ?_
        exact law_like hs hk hn h hc nx
      by_cases s16 : sw = 16
      · rw [s16] at esw ⊢
        refine V_tableIn (off := 1011) (tgt := 1044) dL_law_33 (by decide) (by decide) (by decide) (by decide) ?_
        exact law_pack hs hk hn h hc nx
      by_cases s17 : sw = 17
      · rw [s17] at esw ⊢
        refine V_tableIn (off := 1044) (tgt := 1077) dL_law_33 (by decide) (by decide) (by decide) (by decide) ?_
        exact law_key hs hk hn h hc nx
      by_cases s18 : sw = 18
      · rw [s18] at esw ⊢
        refine V_tableIn (off := 1067) (tgt := 1100) dL_law_33 (by decide) (by decide) (by decide) (by decide) ?_
        exact law_thin hs hk hn h hc nx
      by_cases s19 : sw = 19
      · rw [s19] at esw ⊢
        refine V_tableIn (off := 1100) (tgt := 1133) dL_law_33 (by decide) (by decide) (by decide) (by decide) ?_
        exact law_join hs hk hn h hc nx
      by_cases s20 : sw = 20
      · rw [s20] at esw ⊢
        refine V_tableIn (off := 1123) (tgt := 1156) dL_law_33 (by decide) (by decide) (by decide) (by decide) ?_
        exact law_live hs hk hn h hc nx
      by_cases s21 : sw = 21
      · rw [s21] at esw ⊢
        refine V_tableIn (off := 1136) (tgt := 1169) dL_law_33 (by decide) (by decide) (by decide) (by decide) ?_
        exact law_isLive hs hk hn h hc nx
      by_cases s22 : sw = 22
      · rw [s22] at esw ⊢
        refine V_tableIn (off := 1169) (tgt := 1202) dL_law_33 (by decide) (by decide) (by decide) (by decide) ?_
        exact law_walk hs hk hn h hc nx
      by_cases s23 : sw = 23
      · rw [s23] at esw ⊢
        refine V_tableIn (off := 1222) (tgt := 1255) dL_law_33 (by decide) (by decide) (by decide) (by decide) ?_
        exact law_step hs hk hn h hc nx
      by_cases s24 : sw = 24
      · rw [s24] at esw ⊢
        refine V_tableIn (off := 1245) (tgt := 1278) dL_law_33 (by decide) (by decide) (by decide) (by decide) ?_
        exact law_sheet hs hk hn h hc nx
      by_cases s25 : sw = 25
      · rw [s25] at esw ⊢
        refine V_tableIn (off := 1288) (tgt := 1321) dL_law_33 (by decide) (by decide) (by decide) (by decide) ?_
        exact law_lose hs hk hn h hc nx
      by_cases s26 : sw = 26
      · rw [s26] at esw ⊢
        refine V_tableIn (off := 1311) (tgt := 1344) dL_law_33 (by decide) (by decide) (by decide) (by decide) ?_
        exact law_put hs hk hn h hc nx
      by_cases s27 : sw = 27
      · rw [s27] at esw ⊢
        refine V_tableIn (off := 1364) (tgt := 1397) dL_law_33 (by decide) (by decide) (by decide) (by decide) ?_
        exact law_get hs hk hn h hc nx
      by_cases s28 : sw = 28
      · rw [s28] at esw ⊢
        refine V_tableIn (off := 1407) (tgt := 1440) dL_law_33 (by decide) (by decide) (by decide) (by decide) ?_
        exact law_copy hs hk hn h hc nx
      by_cases s29 : sw = 29
      · rw [s29] at esw ⊢
        refine V_tableIn (off := 1470) (tgt := 1503) dL_law_33 (by decide) (by decide) (by decide) (by decide) ?_
        exact law_pose hs hk hn h hc nx
      by_cases s30 : sw = 30
      · rw [s30] at esw ⊢
        refine V_tableIn (off := 1503) (tgt := 1536) dL_law_33 (by decide) (by decide) (by decide) (by decide) ?_
        exact law_write hs hk hn h hc nx
      by_cases s31 : sw = 31
      · rw [s31] at esw ⊢
        refine V_tableIn (off := 1536) (tgt := 1569) dL_law_33 (by decide) (by decide) (by decide) (by decide) ?_
        exact law_count hs hk hn h hc nx
      by_cases s32 : sw = 32
      · rw [s32] at esw ⊢
        refine V_tableIn (off := 1559) (tgt := 1592) dL_law_33 (by decide) (by decide) (by decide) (by decide) ?_
        exact law_digest hs hk hn h hc nx
      refine V_tableOut (tgt := 1606) dL_law_33 (by have g0 := i32_neN 0 (by decide) s0; have g1 := i32_neN 1 (by decide) s1; have g2 := i32_neN 2 (by decide) s2; have g3 := i32_neN 3 (by decide) s3; have g4 := i32_neN 4 (by decide) s4; have g5 := i32_neN 5 (by decide) s5; have g6 := i32_neN 6 (by decide) s6; have g7 := i32_neN 7 (by decide) s7; have g8 := i32_neN 8 (by decide) s8; have g9 := i32_neN 9 (by decide) s9; have g10 := i32_neN 10 (by decide) s10; have g11 := i32_neN 11 (by decide) s11; have g12 := i32_neN 12 (by decide) s12; have g13 := i32_neN 13 (by decide) s13; have g14 := i32_neN 14 (by decide) s14; have g15 := i32_neN 15 (by decide) s15; have g16 := i32_neN 16 (by decide) s16; have g17 := i32_neN 17 (by decide) s17; have g18 := i32_neN 18 (by decide) s18; have g19 := i32_neN 19 (by decide) s19; have g20 := i32_neN 20 (by decide) s20; have g21 := i32_neN 21 (by decide) s21; have g22 := i32_neN 22 (by decide) s22; have g23 := i32_neN 23 (by decide) s23; have g24 := i32_neN 24 (by decide) s24; have g25 := i32_neN 25 (by decide) s25; have g26 := i32_neN 26 (by decide) s26; have g27 := i32_neN 27 (by decide) s27; have g28 := i32_neN 28 (by decide) s28; have g29 := i32_neN 29 (by decide) s29; have g30 := i32_neN 30 (by decide) s30; have g31 := i32_neN 31 (by decide) s31; have g32 := i32_neN 32 (by decide) s32; omega) (by decide) ?_
      exact nx z w h.stay

set_option maxRecDepth 100000 in
theorem law_all {nm : String} {X : Cx} {Q : State → Prop} {n : Nat} {f : Nat → Int32} (hs : xsc X = some (n, f)) (hn : n ≤ 3584) (hend : ∀ (L : List (Nat × Value)) (w : Wd) (cs : Nat × Nat), cs.1 ≤ 600000 → cs.2 ≤ 7302250 → V (mL_law nm) X Q 1613 L [.int 1] w cs) {w : Wd} (hU : Us (fun _ => False) w) : V (mL_law nm) X Q 0 [(0, .ref 8)] [] w (0, 0) := by
  refine V_new (n := 20) nlL_7 (by exact hU.frs (fun q => q) (by decide)) rfl (by repeat' first | exact (fun _ h => absurd h List.not_mem_nil) | refine List.forall_mem_cons.mpr ⟨?_, ?_⟩ | exact nRf_r (by omega) | rfl) (by repeat' first | exact (fun _ h => absurd h List.not_mem_nil) | refine List.forall_mem_cons.mpr ⟨?_, ?_⟩ | exact nRf_r (by omega) | rfl) dL_law_0 ⟨(Nat.le_of_ble_eq_true rfl), (Nat.le_of_ble_eq_true rfl)⟩ ?_
  refine V_dup dL_law_3 rfl ?_
  have k20 := nwK_s w 20 8 0
  refine V_wok (fun hok => ?_)
  refine V_callIr (As := []) (st := _) (c_X8_init (nw w 20 8 0) k20 (Zr.nw _ _ _ _) (Us.made (U := fun a => a = 20) (hU.mono (fun _ q => q.elim)) (n := 20) rfl 8 0)) kL_9 rfl rfl ⟨(Nat.le_of_ble_eq_true rfl), (Nat.le_of_ble_eq_true rfl)⟩ dL_law_4 rfl rfl (Nat.le_of_ble_eq_true rfl) ⟨(Nat.le_of_ble_eq_true rfl), (Nat.le_of_ble_eq_true rfl)⟩ (by exact Or.inr ⟨rfl, (List.forall_mem_cons.mpr ⟨Or.inr (Or.inr rfl), (fun _ h => absurd h List.not_mem_nil)⟩), (List.forall_mem_cons.mpr ⟨Or.inl (hok.2.1 20 (by rw [k20]; decide)), (fun _ h => absurd h List.not_mem_nil)⟩)⟩) (fun w1 q1 => ?_)
  obtain ⟨x1, u1⟩ := q1
  first | refine S_astore_n (L' := [(0, _), (1, _)]) dL_law_7 rfl rfl rfl ?_ | refine S_astore_nN (L' := [(0, _), (1, _)]) dL_law_7 rfl rfl rfl ?_
  refine V_new (n := 400) nlL_10 (by exact u1.frs (by decide) (by decide)) rfl (by repeat' first | exact (fun _ h => absurd h List.not_mem_nil) | refine List.forall_mem_cons.mpr ⟨?_, ?_⟩ | exact nRf_r (by omega) | rfl) (by repeat' first | exact (fun _ h => absurd h List.not_mem_nil) | refine List.forall_mem_cons.mpr ⟨?_, ?_⟩ | exact nRf_r (by omega) | rfl) dL_law_8 ⟨(Nat.le_of_ble_eq_true rfl), (Nat.le_of_ble_eq_true rfl)⟩ ?_
  refine V_dup dL_law_11 rfl ?_
  have k400 := nwK_s w1 400 9 0
  have k20 : wK (nw w1 400 9 0) 20 = 8 := (nwK_n (by decide)).trans (x1.1.1.1.k 20 rfl rfl)
  refine V_wok (fun hok => ?_)
  refine V_callIr (As := []) (st := _) (c_X9_init (nw w1 400 9 0) k400 (Zr.nw _ _ _ _) (Us.made (U := fun a => a < 300 ∨ a = 400) (u1.mono (fun _ q => Or.inl q)) (n := 400) (Or.inr rfl) 9 0)) kL_12 rfl rfl ⟨(Nat.le_of_ble_eq_true rfl), (Nat.le_of_ble_eq_true rfl)⟩ dL_law_12 rfl rfl (Nat.le_of_ble_eq_true rfl) ⟨(Nat.le_of_ble_eq_true rfl), (Nat.le_of_ble_eq_true rfl)⟩ (by exact Or.inr ⟨rfl, (List.forall_mem_cons.mpr ⟨Or.inr (Or.inr rfl), (List.forall_mem_cons.mpr ⟨Or.inl (hok.2.1 20 (by rw [k20]; decide)), (fun _ h => absurd h List.not_mem_nil)⟩)⟩), (List.forall_mem_cons.mpr ⟨Or.inl (hok.2.1 400 (by rw [k400]; decide)), (fun _ h => absurd h List.not_mem_nil)⟩)⟩) (fun w2 q2 => ?_)
  obtain ⟨m2, g2, u2⟩ := q2
  first | refine S_astore_n (L' := [(0, _), (1, _), (2, _)]) dL_law_15 rfl rfl rfl ?_ | refine S_astore_nN (L' := [(0, _), (1, _), (2, _)]) dL_law_15 rfl rfl rfl ?_
  refine V_iconst (v := 0) dL_law_16 (by decide) ?_
  refine S_istore_n (L' := [(0, _), (1, _), (2, _), (3, _)]) dL_law_17 rfl rfl rfl ?_
  exact law_loop hs hn hend 513 0 z00 w2 _ rfl (Nat.le_of_ble_eq_true rfl) (Nat.le_of_ble_eq_true rfl) ⟨x1.ken ((KeN.nw w1 (show moA 400 by decide) 9 0).trans g2), m2, u2, by decide, by decide⟩
