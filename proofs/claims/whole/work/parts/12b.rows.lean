/-! reads with a known number -/
section
variable {M : Mi} {X : Cx} {Q : State → Prop} {pc : Nat} {L : List (Nat × Value)} {st : List Value} {w : Wd} {cs : Nat × Nat}
theorem G_geti {n ci k idx : Nat} {x : Int32} (hK : wK w n = ci + 1) (hf : FL M.1 idx ci k 0) (hd : decode M.2.1 pc = .ok (.getfield idx, 3)) (hv : wI w n k = x) (kk : V M X Q (pc + 3) L (.int x :: st) w cs) : V M X Q pc L (.ref n :: st) w cs := V_geti hK hf hd (hv ▸ kk)
theorem G_getl {n ci k idx : Nat} {x : Int64} (hK : wK w n = ci + 1) (hf : FL M.1 idx ci k 1) (hd : decode M.2.1 pc = .ok (.getfield idx, 3)) (hv : wJ w n k = x) (kk : V M X Q (pc + 3) L (.long x :: st) w cs) : V M X Q pc L (.ref n :: st) w cs := V_getl hK hf hd (hv ▸ kk)
/-- a row read at a known place -/
theorem G_iald {n : Nat} {i : Int32} {x : Int32} {j : Nat} (hK : wK w n = 11) (hi : i = nI j) (hj : j < wN w n) (hN : wN w n < 2147483648) (hd : decode M.2.1 pc = .ok (.iaload, 1)) (hv : wI w n j = x) (kk : V M X Q (pc + 1) L (.int x :: st) w cs) : V M X Q pc L (.int i :: .ref n :: st) w cs := by
  subst hi
  refine V_iald hK (vp_in_nI hj (by omega)) hd ?_
  rw [nI_clamp (by omega), hv]
  exact kk
theorem G_zald {n : Nat} {i : Int32} {x : Int32} {j : Nat} (hK : wK w n = 13) (hi : i = nI j) (hj : j < wN w n) (hN : wN w n < 2147483648) (hd : decode M.2.1 pc = .ok (.baload, 1)) (hv : wI w n j = x) (kk : V M X Q (pc + 1) L (.int x :: st) w cs) : V M X Q pc L (.int i :: .ref n :: st) w cs := by
  subst hi
  refine V_zald hK (vp_in_nI hj (by omega)) hd ?_
  rw [nI_clamp (by omega), hv]
  exact kk
theorem G_lald {n : Nat} {i : Int32} {x : Int64} {j : Nat} (hK : wK w n = 12) (hi : i = nI j) (hj : j < wN w n) (hN : wN w n < 2147483648) (hd : decode M.2.1 pc = .ok (.laload, 1)) (hv : wJ w n j = x) (kk : V M X Q (pc + 1) L (.long x :: st) w cs) : V M X Q pc L (.int i :: .ref n :: st) w cs := by
  subst hi
  refine V_lald hK (vp_in_nI hj (by omega)) hd ?_
  rw [nI_clamp (by omega), hv]
  exact kk
theorem G_iast {n : Nat} {i x : Int32} {j : Nat} (hK : wK w n = 11) (hi : i = nI j) (hj : j < wN w n) (hN : wN w n < 2147483648) (hd : decode M.2.1 pc = .ok (.iastore, 1)) (kk : V M X Q (pc + 1) L st (sI w n j x) cs) : V M X Q pc L (.int x :: .int i :: .ref n :: st) w cs := by
  subst hi
  refine V_iast hK (vp_in_nI hj (by omega)) hd ?_
  rw [nI_clamp (by omega)]
  exact kk
theorem G_zast {n : Nat} {i x : Int32} {j : Nat} (hK : wK w n = 13) (hi : i = nI j) (hj : j < wN w n) (hN : wN w n < 2147483648) (hx : vp_nar .boolean x = x) (hd : decode M.2.1 pc = .ok (.bastore, 1)) (kk : V M X Q (pc + 1) L st (sI w n j x) cs) : V M X Q pc L (.int x :: .int i :: .ref n :: st) w cs := by
  subst hi
  refine V_zast hK (vp_in_nI hj (by omega)) hx hd ?_
  rw [nI_clamp (by omega)]
  exact kk
theorem G_last {n : Nat} {i : Int32} {x : Int64} {j : Nat} (hK : wK w n = 12) (hi : i = nI j) (hj : j < wN w n) (hN : wN w n < 2147483648) (hd : decode M.2.1 pc = .ok (.lastore, 1)) (kk : V M X Q (pc + 1) L st (sJ w n j x) cs) : V M X Q pc L (.long x :: .int i :: .ref n :: st) w cs := by
  subst hi
  refine V_last hK (vp_in_nI hj (by omega)) hd ?_
  rw [nI_clamp (by omega)]
  exact kk
theorem G_aald14 {n b : Nat} {i : Int32} {j : Nat} (hK : wK w n = 14) (hi : i = nI j) (hj : j < wN w n) (hN : wN w n < 2147483648) (hb : wR w n j = some b) (hd : decode M.2.1 pc = .ok (.aaload, 1)) (kk : V M X Q (pc + 1) L (.ref b :: st) w cs) : V M X Q pc L (.int i :: .ref n :: st) w cs := by
  subst hi
  exact V_aald14 hK (vp_in_nI hj (by omega)) (by rw [nI_clamp (by omega)]; exact hb) hd kk
theorem G_aald15 {n b : Nat} {i : Int32} {j : Nat} (hK : wK w n = 15) (hi : i = nI j) (hj : j < wN w n) (hN : wN w n < 2147483648) (hb : wR w n j = some b) (hd : decode M.2.1 pc = .ok (.aaload, 1)) (kk : V M X Q (pc + 1) L (.ref b :: st) w cs) : V M X Q pc L (.int i :: .ref n :: st) w cs := by
  subst hi
  exact V_aald15 hK (vp_in_nI hj (by omega)) (by rw [nI_clamp (by omega)]; exact hb) hd kk
theorem G_aald16 {n b : Nat} {i : Int32} {j : Nat} (hK : wK w n = 16) (hi : i = nI j) (hj : j < wN w n) (hN : wN w n < 2147483648) (hb : wR w n j = some b) (hd : decode M.2.1 pc = .ok (.aaload, 1)) (kk : V M X Q (pc + 1) L (.ref b :: st) w cs) : V M X Q pc L (.int i :: .ref n :: st) w cs := by
  subst hi
  exact V_aald16 hK (vp_in_nI hj (by omega)) (by rw [nI_clamp (by omega)]; exact hb) hd kk
theorem G_aald17 {n b : Nat} {i : Int32} {j : Nat} (hK : wK w n = 17) (hi : i = nI j) (hj : j < wN w n) (hN : wN w n < 2147483648) (hb : wR w n j = some b) (hd : decode M.2.1 pc = .ok (.aaload, 1)) (kk : V M X Q (pc + 1) L (.ref b :: st) w cs) : V M X Q pc L (.int i :: .ref n :: st) w cs := by
  subst hi
  exact V_aald17 hK (vp_in_nI hj (by omega)) (by rw [nI_clamp (by omega)]; exact hb) hd kk
end
theorem wJ_sJ (w : Wd) (n k a j : Nat) (x : Int64) : wJ (sJ w n k x) a j = if a = n ∧ j = k then x else wJ w a j := rfl
theorem wI_sI (w : Wd) (n k a j : Nat) (x : Int32) : wI (sI w n k x) a j = if a = n ∧ j = k then x else wI w a j := rfl
theorem wI_sJ (w : Wd) (n k : Nat) (x : Int64) : wI (sJ w n k x) = wI w := rfl
theorem wJ_sI (w : Wd) (n k : Nat) (x : Int32) : wJ (sI w n k x) = wJ w := rfl
