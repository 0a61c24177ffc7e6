/-! contracts of one call, rows of calls with a known answer -/
def Cc (y : MethodName) (M : Mi) (av : List Value) (w : Wd) (P : Option Value → Wd → Prop) : Prop := ∀ l, Ct l y M (fun av' w' => av' = av ∧ w' = w) (fun _ _ r w' => P r w')
theorem Cc.of {y : MethodName} {M : Mi} {av : List Value} {w : Wd} {P : Option Value → Wd → Prop} (hy : plainName y.cls = true) (hc : y.cls = M.1) (hn : y.name = M.2.2.2.2.2.1) (hlen : (lg_sl av).length ≤ M.2.2.1) (body : ∀ X : Cx, V M X (mq M X P) 0 (lv_args 0 av) [] w (0, 0)) : Cc y M av w P := fun l => by
  refine Ct.of hy hc hn (fun av' w' h => by rw [h.1]; exact hlen) (fun X av' w' h => ?_)
  obtain ⟨rfl, rfl⟩ := h
  exact body X
theorem Cc.mono {y : MethodName} {M : Mi} {av : List Value} {w : Wd} {P P' : Option Value → Wd → Prop} (h : Cc y M av w P) (hp : ∀ r w', P r w' → P' r w') : Cc y M av w P' := fun l D cy ad w2 sz av2 hpre => by
  have h1 := h l D cy ad w2 sz av2 hpre
  intro p e ha hc hk s m args below hf happ hP hK
  obtain ⟨k, o, h2, h3, h4, ⟨⟨⟨r, w', ad', e1, e2, e3⟩, h6⟩, h7⟩⟩ := h1 p e ha hc hk s m args below hf happ hP hK
  exact ⟨k, o, h2, h3, h4, ⟨⟨⟨r, w', ad', e1, hp r w' e2, e3⟩, h6⟩, h7⟩⟩
def NA (M : Mi) : Prop := M.2.2.2.2.1.cells = 0 ∧ M.2.2.2.2.1.slots = 0 ∧ M.2.2.2.2.2.2 = false
section
variable {M : Mi} {X : Cx} {Q : State → Prop} {pc : Nat} {L : List (Nat × Value)} {st : List Value} {w : Wd} {cs : Nat × Nat}
variable {y : MethodName} {M' : Mi} {idx n b ci : Nat} {As st0 : List Value} {w1 : Wd} {v : Value} {P : Option Value → Wd → Prop}
theorem V_cS (hC : Cc y M' As w P) (hk : LkS M.1 idx y M' n) (hna : NA M') (hR : Rm M M') (hd : decode M.2.1 pc = .ok (.invokestatic idx, 3)) (hn : As.length = n) (hst : st0 = As.reverse ++ st) (hsz : (st.map fun v => v.category).sum ≤ 8) (hcs : cs.1 ≤ M.2.2.2.2.1.cells ∧ cs.2 ≤ M.2.2.2.2.1.slots) (kk : ∀ r w', P r w' → V M X Q (pc + 3) L (r.toList ++ st) w' cs) : V M X Q pc L st0 w cs :=
  V_invS hC hk.1 hk.2.1 hk.2.2 hR hd hn hst hsz (by rw [hna.1, hna.2.1]; exact hcs) (Or.inl hna.2.2) ⟨rfl, rfl⟩ (by rw [hna.1, hna.2.1]; exact kk)
theorem V_cSN (hC : Cc y M' As w P) (hk : LkSN M.1 idx y M' n) (hna : NA M') (hR : Rm M M') (hd : decode M.2.1 pc = .ok (.invokestatic idx, 3)) (hn : As.length = n) (hst : st0 = As.reverse ++ st) (hsz : (st.map fun v => v.category).sum ≤ 8) (hcs : cs.1 ≤ M.2.2.2.2.1.cells ∧ cs.2 ≤ M.2.2.2.2.1.slots) (kk : ∀ r w', P r w' → V M X Q (pc + 3) L (r.toList ++ st) w' cs) : V M X Q pc L st0 w cs := by
  obtain ⟨hb, ⟨host, hh⟩, hs⟩ := hk
  exact V_invSN hC hb hh hs hR hd hn hst hsz (by rw [hna.1, hna.2.1]; exact hcs) (Or.inl hna.2.2) ⟨rfl, rfl⟩ (by rw [hna.1, hna.2.1]; exact kk)
theorem V_cV (hC : Cc y M' (.ref b :: As) w P) (hk : LkV M.1 idx y M' n ci) (hK : wK w b = ci + 1) (hna : NA M') (hR : Rm M M') (hd : decode M.2.1 pc = .ok (.invokevirtual idx, 3)) (hn : As.length = n) (hst : st0 = As.reverse ++ .ref b :: st) (hsz : (st.map fun v => v.category).sum ≤ 8) (hcs : cs.1 ≤ M.2.2.2.2.1.cells ∧ cs.2 ≤ M.2.2.2.2.1.slots) (kk : ∀ r w', P r w' → V M X Q (pc + 3) L (r.toList ++ st) w' cs) : V M X Q pc L st0 w cs := by
  obtain ⟨hb, h1, h2, h3, ⟨r0, h4, h5⟩, h6⟩ := hk
  exact V_invV hC hb h1 h2 h3 h4 h5 h6 hK hR hd hn hst hsz (by rw [hna.1, hna.2.1]; exact hcs) (Or.inl hna.2.2) ⟨rfl, rfl⟩ (by rw [hna.1, hna.2.1]; exact kk)
theorem V_callS (hC : Cc y M' As w (fun r w' => r = some v ∧ w' = w1)) (hk : LkS M.1 idx y M' n) (hna : NA M') (hR : Rm M M') (hd : decode M.2.1 pc = .ok (.invokestatic idx, 3)) (hn : As.length = n) (hst : st0 = As.reverse ++ st) (hsz : (st.map fun v => v.category).sum ≤ 8) (hcs : cs.1 ≤ M.2.2.2.2.1.cells ∧ cs.2 ≤ M.2.2.2.2.1.slots) (kk : V M X Q (pc + 3) L (v :: st) w1 cs) : V M X Q pc L st0 w cs :=
  V_cS hC hk hna hR hd hn hst hsz hcs (by rintro r w' ⟨rfl, rfl⟩; exact kk)
theorem V_callSv (hC : Cc y M' As w (fun r w' => r = none ∧ w' = w1)) (hk : LkS M.1 idx y M' n) (hna : NA M') (hR : Rm M M') (hd : decode M.2.1 pc = .ok (.invokestatic idx, 3)) (hn : As.length = n) (hst : st0 = As.reverse ++ st) (hsz : (st.map fun v => v.category).sum ≤ 8) (hcs : cs.1 ≤ M.2.2.2.2.1.cells ∧ cs.2 ≤ M.2.2.2.2.1.slots) (kk : V M X Q (pc + 3) L st w1 cs) : V M X Q pc L st0 w cs :=
  V_cS hC hk hna hR hd hn hst hsz hcs (by rintro r w' ⟨rfl, rfl⟩; exact kk)
theorem V_callSN (hC : Cc y M' As w (fun r w' => r = some v ∧ w' = w1)) (hk : LkSN M.1 idx y M' n) (hna : NA M') (hR : Rm M M') (hd : decode M.2.1 pc = .ok (.invokestatic idx, 3)) (hn : As.length = n) (hst : st0 = As.reverse ++ st) (hsz : (st.map fun v => v.category).sum ≤ 8) (hcs : cs.1 ≤ M.2.2.2.2.1.cells ∧ cs.2 ≤ M.2.2.2.2.1.slots) (kk : V M X Q (pc + 3) L (v :: st) w1 cs) : V M X Q pc L st0 w cs :=
  V_cSN hC hk hna hR hd hn hst hsz hcs (by rintro r w' ⟨rfl, rfl⟩; exact kk)
theorem V_callV (hC : Cc y M' (.ref b :: As) w (fun r w' => r = some v ∧ w' = w1)) (hk : LkV M.1 idx y M' n ci) (hK : wK w b = ci + 1) (hna : NA M') (hR : Rm M M') (hd : decode M.2.1 pc = .ok (.invokevirtual idx, 3)) (hn : As.length = n) (hst : st0 = As.reverse ++ .ref b :: st) (hsz : (st.map fun v => v.category).sum ≤ 8) (hcs : cs.1 ≤ M.2.2.2.2.1.cells ∧ cs.2 ≤ M.2.2.2.2.1.slots) (kk : V M X Q (pc + 3) L (v :: st) w1 cs) : V M X Q pc L st0 w cs :=
  V_cV hC hk hK hna hR hd hn hst hsz hcs (by rintro r w' ⟨rfl, rfl⟩; exact kk)
theorem V_callVv (hC : Cc y M' (.ref b :: As) w (fun r w' => r = none ∧ w' = w1)) (hk : LkV M.1 idx y M' n ci) (hK : wK w b = ci + 1) (hna : NA M') (hR : Rm M M') (hd : decode M.2.1 pc = .ok (.invokevirtual idx, 3)) (hn : As.length = n) (hst : st0 = As.reverse ++ .ref b :: st) (hsz : (st.map fun v => v.category).sum ≤ 8) (hcs : cs.1 ≤ M.2.2.2.2.1.cells ∧ cs.2 ≤ M.2.2.2.2.1.slots) (kk : V M X Q (pc + 3) L st w1 cs) : V M X Q pc L st0 w cs :=
  V_cV hC hk hK hna hR hd hn hst hsz hcs (by rintro r w' ⟨rfl, rfl⟩; exact kk)
/-- an answer of which a relation is known -/
theorem V_callSr {Rl : Value → Wd → Prop} (hC : Cc y M' As w (fun r w' => ∃ v, r = some v ∧ Rl v w')) (hk : LkS M.1 idx y M' n) (hna : NA M') (hR : Rm M M') (hd : decode M.2.1 pc = .ok (.invokestatic idx, 3)) (hn : As.length = n) (hst : st0 = As.reverse ++ st) (hsz : (st.map fun v => v.category).sum ≤ 8) (hcs : cs.1 ≤ M.2.2.2.2.1.cells ∧ cs.2 ≤ M.2.2.2.2.1.slots) (kk : ∀ v w', Rl v w' → V M X Q (pc + 3) L (v :: st) w' cs) : V M X Q pc L st0 w cs :=
  V_cS hC hk hna hR hd hn hst hsz hcs (by rintro r w' ⟨v, rfl, h⟩; exact kk v w' h)
theorem V_callVr {Rl : Value → Wd → Prop} (hC : Cc y M' (.ref b :: As) w (fun r w' => ∃ v, r = some v ∧ Rl v w')) (hk : LkV M.1 idx y M' n ci) (hK : wK w b = ci + 1) (hna : NA M') (hR : Rm M M') (hd : decode M.2.1 pc = .ok (.invokevirtual idx, 3)) (hn : As.length = n) (hst : st0 = As.reverse ++ .ref b :: st) (hsz : (st.map fun v => v.category).sum ≤ 8) (hcs : cs.1 ≤ M.2.2.2.2.1.cells ∧ cs.2 ≤ M.2.2.2.2.1.slots) (kk : ∀ v w', Rl v w' → V M X Q (pc + 3) L (v :: st) w' cs) : V M X Q pc L st0 w cs :=
  V_cV hC hk hK hna hR hd hn hst hsz hcs (by rintro r w' ⟨v, rfl, h⟩; exact kk v w' h)
theorem V_callVvr {Rl : Wd → Prop} (hC : Cc y M' (.ref b :: As) w (fun r w' => r = none ∧ Rl w')) (hk : LkV M.1 idx y M' n ci) (hK : wK w b = ci + 1) (hna : NA M') (hR : Rm M M') (hd : decode M.2.1 pc = .ok (.invokevirtual idx, 3)) (hn : As.length = n) (hst : st0 = As.reverse ++ .ref b :: st) (hsz : (st.map fun v => v.category).sum ≤ 8) (hcs : cs.1 ≤ M.2.2.2.2.1.cells ∧ cs.2 ≤ M.2.2.2.2.1.slots) (kk : ∀ w', Rl w' → V M X Q (pc + 3) L st w' cs) : V M X Q pc L st0 w cs :=
  V_cV hC hk hK hna hR hd hn hst hsz hcs (by rintro r w' ⟨rfl, h⟩; exact kk w' h)
theorem i64_tri (x y : Int64) : x < y ∨ x = y ∨ y < x := by
  rw [Int64.lt_iff_toInt_lt, Int64.lt_iff_toInt_lt, ← Int64.toInt_inj]
  omega
theorem lg_lt {x y : Int64} : lg_cmp x y < 0 ↔ x < y := by
  unfold lg_cmp
  rcases i64_tri x y with h | h | h
  · have h1 : ¬ x > y := fun q => Int64.lt_asymm h q
    have h2 : ¬ x = y := fun q => Int64.lt_irrefl (q ▸ h)
    simp only [h1, h2, if_false, h, iff_true]; decide
  · have h1 : ¬ x > y := fun q => Int64.lt_irrefl (h ▸ q)
    have h2 : ¬ x < y := fun q => Int64.lt_irrefl (h ▸ q)
    simp only [h1, if_false, h, if_true, iff_false]; simp [Int64.lt_irrefl]
  · have h2 : ¬ x < y := fun q => Int64.lt_asymm h q
    simp only [gt_iff_lt, h, if_true, h2, iff_false]; decide
theorem lg_gt {x y : Int64} : 0 < lg_cmp x y ↔ y < x := by
  unfold lg_cmp
  rcases i64_tri x y with h | h | h
  · have h1 : ¬ y < x := fun q => Int64.lt_asymm h q
    have h2 : ¬ x = y := fun q => Int64.lt_irrefl (q ▸ h)
    simp only [gt_iff_lt, h1, h2, if_false, iff_false]; decide
  · subst h
    simp [Int64.lt_irrefl]
  · simp only [gt_iff_lt, h, if_true, iff_true]; decide
theorem i32_le {a b : Int32} : a ≤ b ↔ ¬ b < a := Int32.not_lt.symm
theorem i64_le {a b : Int64} : a ≤ b ↔ ¬ b < a := Int64.not_lt.symm
theorem V_lcmp_lt {x y : Int64} {off : Int} {tgt : Nat} (h1 : decode M.2.1 pc = .ok (.lcmp, 1)) (hd : decode M.2.1 (pc + 1) = .ok (.ifCond .lt off, 3)) (ht : ((pc + 1 : Nat) : Int) + off = (tgt : Int)) (kt : x < y → V M X Q tgt L st w cs) (kf : ¬ x < y → V M X Q (pc + 1 + 3) L st w cs) : V M X Q pc L (.long y :: .long x :: st) w cs :=
  V_lcmp h1 (V_if_lt hd ht (fun c => kt (lg_lt.mp c)) (fun c => kf (fun q => c (lg_lt.mpr q))))
theorem V_lcmp_ge {x y : Int64} {off : Int} {tgt : Nat} (h1 : decode M.2.1 pc = .ok (.lcmp, 1)) (hd : decode M.2.1 (pc + 1) = .ok (.ifCond .ge off, 3)) (ht : ((pc + 1 : Nat) : Int) + off = (tgt : Int)) (kt : ¬ x < y → V M X Q tgt L st w cs) (kf : x < y → V M X Q (pc + 1 + 3) L st w cs) : V M X Q pc L (.long y :: .long x :: st) w cs :=
  V_lcmp h1 (V_if_ge hd ht (fun c => kt (fun q => i32_le.mp c (lg_lt.mpr q))) (fun c => kf (Classical.not_not.mp fun q => c (i32_le.mpr fun z => q (lg_lt.mp z)))))
theorem V_lcmp_gt {x y : Int64} {off : Int} {tgt : Nat} (h1 : decode M.2.1 pc = .ok (.lcmp, 1)) (hd : decode M.2.1 (pc + 1) = .ok (.ifCond .gt off, 3)) (ht : ((pc + 1 : Nat) : Int) + off = (tgt : Int)) (kt : y < x → V M X Q tgt L st w cs) (kf : ¬ y < x → V M X Q (pc + 1 + 3) L st w cs) : V M X Q pc L (.long y :: .long x :: st) w cs :=
  V_lcmp h1 (V_if_gt hd ht (fun c => kt (lg_gt.mp c)) (fun c => kf (fun q => c (lg_gt.mpr q))))
theorem V_lcmp_le {x y : Int64} {off : Int} {tgt : Nat} (h1 : decode M.2.1 pc = .ok (.lcmp, 1)) (hd : decode M.2.1 (pc + 1) = .ok (.ifCond .le off, 3)) (ht : ((pc + 1 : Nat) : Int) + off = (tgt : Int)) (kt : ¬ y < x → V M X Q tgt L st w cs) (kf : y < x → V M X Q (pc + 1 + 3) L st w cs) : V M X Q pc L (.long y :: .long x :: st) w cs :=
  V_lcmp h1 (V_if_le hd ht (fun c => kt (fun q => i32_le.mp c (lg_gt.mpr q))) (fun c => kf (Classical.not_not.mp fun q => c (i32_le.mpr fun z => q (lg_gt.mp z)))))
end
theorem S_istore_n {M : Mi} {X : Cx} {Q : State → Prop} {pc : Nat} {L : List (Nat × Value)} {st : List Value} {w : Wd} {cs : Nat × Nat} {k9 : Fin 4} {i : Nat} {x : Int32} {L' : List (Nat × Value)} (hd : decode M.2.1 pc = .ok (.istore_n k9, 1)) (hi : (k9 : Nat) = i) (hn : Nat.blt (i) M.2.2.1 = true) (hL : L'.map (fun q => List.find? (fun r => r.1 == q.1) ((i, .int x) :: L.filter (rm1 i))) = L'.map some) (k : V M X Q (pc + 1) L' st w cs) : V M X Q pc L (.int x :: st) w cs := V_istore_n hd hi hn rfl (V_sub hL k)
theorem S_istore {M : Mi} {X : Cx} {Q : State → Prop} {pc : Nat} {L : List (Nat × Value)} {st : List Value} {w : Wd} {cs : Nat × Nat} {i : Nat} {x : Int32} {L' : List (Nat × Value)} (hd : decode M.2.1 pc = .ok (.istore i, 2)) (hn : Nat.blt (i) M.2.2.1 = true) (hL : L'.map (fun q => List.find? (fun r => r.1 == q.1) ((i, .int x) :: L.filter (rm1 i))) = L'.map some) (k : V M X Q (pc + 2) L' st w cs) : V M X Q pc L (.int x :: st) w cs := V_istore hd hn rfl (V_sub hL k)
theorem S_lstore_n {M : Mi} {X : Cx} {Q : State → Prop} {pc : Nat} {L : List (Nat × Value)} {st : List Value} {w : Wd} {cs : Nat × Nat} {k9 : Fin 4} {i : Nat} {x : Int64} {L' : List (Nat × Value)} (hd : decode M.2.1 pc = .ok (.lstore_n k9, 1)) (hi : (k9 : Nat) = i) (hn : Nat.blt (i + 1) M.2.2.1 = true) (hL : L'.map (fun q => List.find? (fun r => r.1 == q.1) ((i, .long x) :: L.filter (rm2 i))) = L'.map some) (k : V M X Q (pc + 1) L' st w cs) : V M X Q pc L (.long x :: st) w cs := V_lstore_n hd hi hn rfl (V_sub hL k)
theorem S_lstore {M : Mi} {X : Cx} {Q : State → Prop} {pc : Nat} {L : List (Nat × Value)} {st : List Value} {w : Wd} {cs : Nat × Nat} {i : Nat} {x : Int64} {L' : List (Nat × Value)} (hd : decode M.2.1 pc = .ok (.lstore i, 2)) (hn : Nat.blt (i + 1) M.2.2.1 = true) (hL : L'.map (fun q => List.find? (fun r => r.1 == q.1) ((i, .long x) :: L.filter (rm2 i))) = L'.map some) (k : V M X Q (pc + 2) L' st w cs) : V M X Q pc L (.long x :: st) w cs := V_lstore hd hn rfl (V_sub hL k)
theorem S_astore_n {M : Mi} {X : Cx} {Q : State → Prop} {pc : Nat} {L : List (Nat × Value)} {st : List Value} {w : Wd} {cs : Nat × Nat} {k9 : Fin 4} {i : Nat} {x : Nat} {L' : List (Nat × Value)} (hd : decode M.2.1 pc = .ok (.astore_n k9, 1)) (hi : (k9 : Nat) = i) (hn : Nat.blt (i) M.2.2.1 = true) (hL : L'.map (fun q => List.find? (fun r => r.1 == q.1) ((i, .ref x) :: L.filter (rm1 i))) = L'.map some) (k : V M X Q (pc + 1) L' st w cs) : V M X Q pc L (.ref x :: st) w cs := V_astore_n hd hi hn rfl (V_sub hL k)
theorem S_astore {M : Mi} {X : Cx} {Q : State → Prop} {pc : Nat} {L : List (Nat × Value)} {st : List Value} {w : Wd} {cs : Nat × Nat} {i : Nat} {x : Nat} {L' : List (Nat × Value)} (hd : decode M.2.1 pc = .ok (.astore i, 2)) (hn : Nat.blt (i) M.2.2.1 = true) (hL : L'.map (fun q => List.find? (fun r => r.1 == q.1) ((i, .ref x) :: L.filter (rm1 i))) = L'.map some) (k : V M X Q (pc + 2) L' st w cs) : V M X Q pc L (.ref x :: st) w cs := V_astore hd hn rfl (V_sub hL k)
theorem S_astore_nN {M : Mi} {X : Cx} {Q : State → Prop} {pc : Nat} {L : List (Nat × Value)} {st : List Value} {w : Wd} {cs : Nat × Nat} {k9 : Fin 4} {i : Nat} {L' : List (Nat × Value)} (hd : decode M.2.1 pc = .ok (.astore_n k9, 1)) (hi : (k9 : Nat) = i) (hn : Nat.blt i M.2.2.1 = true) (hL : L'.map (fun q => List.find? (fun r => r.1 == q.1) ((i, .null) :: L.filter (rm1 i))) = L'.map some) (k : V M X Q (pc + 1) L' st w cs) : V M X Q pc L (.null :: st) w cs := V_astore_nN hd hi hn rfl (V_sub hL k)
theorem S_astoreN {M : Mi} {X : Cx} {Q : State → Prop} {pc : Nat} {L : List (Nat × Value)} {st : List Value} {w : Wd} {cs : Nat × Nat} {i : Nat} {L' : List (Nat × Value)} (hd : decode M.2.1 pc = .ok (.astore i, 2)) (hn : Nat.blt i M.2.2.1 = true) (hL : L'.map (fun q => List.find? (fun r => r.1 == q.1) ((i, .null) :: L.filter (rm1 i))) = L'.map some) (k : V M X Q (pc + 2) L' st w cs) : V M X Q pc L (.null :: st) w cs := V_astoreN hd hn rfl (V_sub hL k)
theorem S_iinc {M : Mi} {X : Cx} {Q : State → Prop} {pc : Nat} {L : List (Nat × Value)} {st : List Value} {w : Wd} {cs : Nat × Nat} {i : Nat} {n : Int} {x v : Int32} {L' : List (Nat × Value)} (hd : decode M.2.1 pc = .ok (.iinc i n, 3)) (h0 : L.find? (fun q => q.1 == i) = some (i, .int x)) (hv : x + Int32.ofInt n = v) (hn : Nat.blt i M.2.2.1 = true) (hL : L'.map (fun q => List.find? (fun r => r.1 == q.1) ((i, .int v) :: L.filter (rm1 i))) = L'.map some) (k : V M X Q (pc + 3) L' st w cs) : V M X Q pc L st w cs := V_iinc hd h0 hv hn rfl (V_sub hL k)
