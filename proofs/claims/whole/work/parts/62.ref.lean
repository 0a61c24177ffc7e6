/-! THE REFERENCE: bone -/
def mbW (w : Wd) (n : Nat) (pn l lo sp dp : Int32) : Wd := sI (sI (sI (sI (sI (sI (sI w 404 n pn) 405 n l) 406 n lo) 407 n sp) 408 n dp) 409 n lo) 400 2 (nI (n + 1))
theorem mb_I (w : Wd) (n : Nat) (pn l lo sp dp : Int32) (a j : Nat) : wI (mbW w n pn l lo sp dp) a j = if a = 400 ∧ j = 2 then nI (n + 1) else if a = 409 ∧ j = n then lo else if a = 408 ∧ j = n then dp else if a = 407 ∧ j = n then sp else if a = 406 ∧ j = n then lo else if a = 405 ∧ j = n then l else if a = 404 ∧ j = n then pn else wI w a j := by
  unfold mbW
  rw [wI_sI, wI_sI, wI_sI, wI_sI, wI_sI, wI_sI, wI_sI]
theorem mb_kp (w : Wd) (n : Nat) (pn l lo sp dp : Int32) : Kp skI skJ w (mbW w n pn l lo sp dp) :=
  (((((((Kp.sI w (by unfold skI; omega) _).trans (Kp.sI _ (by unfold skI; omega) _)).trans (Kp.sI _ (by unfold skI; omega) _)).trans (Kp.sI _ (by unfold skI; omega) _)).trans (Kp.sI _ (by unfold skI; omega) _)).trans (Kp.sI _ (by unfold skI; omega) _)).trans (Kp.sI _ (by unfold skI; omega) _))
theorem msk_add {k : Sk} {o : Option Nat} {l lo sp : Nat} {w : Wd} (h : MSk k w) (hk : kN k < 10) (ho : ∀ p, o = some p → p < kN k ∧ dep k p < 5) (h1 : 1 ≤ l) (h2 : l ≤ 100) (h3 : lo < 36) (h4 : sp < 36) : MSk (kAdd k o l lo sp) (mbW w (kN k) (oI o) (nI l) (nI lo) (nI sp) (nI (dep (kAdd k o l lo sp) (kN k)))) := by
  have hwf : Wf (kAdd k o l lo sp) := h.2.1.add hk ho h1 h2 h3 h4
  have g := mb_kp w (kN k) (oI o) (nI l) (nI lo) (nI sp) (nI (dep (kAdd k o l lo sp) (kN k)))
  have hI := mb_I w (kN k) (oI o) (nI l) (nI lo) (nI sp) (nI (dep (kAdd k o l lo sp) (kN k)))
  have hJ : wJ (mbW w (kN k) (oI o) (nI l) (nI lo) (nI sp) (nI (dep (kAdd k o l lo sp) (kN k)))) = wJ w := rfl
  generalize mbW w (kN k) (oI o) (nI l) (nI lo) (nI sp) (nI (dep (kAdd k o l lo sp) (kN k))) = W at *
  refine ⟨h.1.kp g, hwf, fun t ht => ?_, ?_, ?_, ?_, ?_, fun b hb => ?_⟩
  · rw [g.I (by unfold skI; omega), g.I (by unfold skI; omega)]; exact h.2.2.1 t ht
  · rw [hI, if_pos ⟨rfl, rfl⟩]; rfl
  · rw [hI]; simp; exact h.lck
  · rw [hJ]; exact h.rx
  · rw [hJ]; exact h.ry
  · have hb' : b < kN k + 1 := hb
    by_cases e : b = kN k
    · subst e
      rw [show kPar (kAdd k o l lo sp) (kN k) = o from va_up_self _ _ _, show kLen (kAdd k o l lo sp) (kN k) = l from va_up_self _ _ _, show kLow (kAdd k o l lo sp) (kN k) = lo from va_up_self _ _ _, show kSpr (kAdd k o l lo sp) (kN k) = sp from va_up_self _ _ _, show kTrn (kAdd k o l lo sp) (kN k) = lo from va_up_self _ _ _]
      simp only [hI]
      simp
    · rw [dep_add (by omega), show kPar (kAdd k o l lo sp) b = kPar k b from va_up_ne _ _ e, show kLen (kAdd k o l lo sp) b = kLen k b from va_up_ne _ _ e, show kLow (kAdd k o l lo sp) b = kLow k b from va_up_ne _ _ e, show kSpr (kAdd k o l lo sp) b = kSpr k b from va_up_ne _ _ e, show kTrn (kAdd k o l lo sp) b = kTrn k b from va_up_ne _ _ e]
      have hI' : ∀ a, a ≠ 400 → wI W a b = wI w a b := fun a ha => by
        rw [hI, if_neg (fun q => ha q.1), if_neg (fun q => e q.2), if_neg (fun q => e q.2), if_neg (fun q => e q.2), if_neg (fun q => e q.2), if_neg (fun q => e q.2), if_neg (fun q => e q.2)]
      rw [hI' 404 (by decide), hI' 405 (by decide), hI' 406 (by decide), hI' 407 (by decide), hI' 408 (by decide), hI' 409 (by decide)]
      exact h.2.2.2.2.2.2.2 b (by omega)
theorem RM.bone {z : St} {w W : Wd} {k : Sk} (h : RM z w) (g : Kp skI skJ w W) (hk : MSk k W) (h0 : sumN (zQ z).1 6 = 0) (hn : kN k ≤ 10) : RM (pK z k) W := by
  have hz : ∀ c, c < 6 → (zQ z).1 c = 0 := fun c hc => Classical.not_not.mp (fun q => by have := sumN_at (f := (zQ z).1) hc (by omega); omega)
  refine ⟨hk, ⟨hk.1, hn, fun c hc => ?_⟩, h.2.2.1.kp g (fun a j q => by unfold skI at q; omega), h.2.2.2.1.kp g (fun a j q => by unfold skI at q; omega), h.2.2.2.2.1.kp g (fun a j q => by unfold skI at q; omega), (g.I (by unfold skI; omega)).trans h.2.2.2.2.2.1, h.2.2.2.2.2.2⟩
  rw [g.I (by unfold skI; omega)]
  exact ⟨h.2.1.sz hc, h.2.1.le hc, fun f hf => by rw [show (zQ (pK z k)).1 c = (zQ z).1 c from rfl, hz c hc] at hf; omega⟩

set_option maxRecDepth 100000 in
theorem c_X9_bone (z : St) (p l lo sp : Int32) (w : Wd) (z0 : RM z w) : Cc yX9_bone mX9_bone [.ref 400, .int p, .int l, .int lo, .int sp] w (fun r w' => ∃ v, r = some v ∧ (v = .int (oBone z p l lo sp).1 ∧ RM (oBone z p l lo sp).2 w' ∧ Keep moA w w')) := by
  refine Cc.of (by decide) rfl rfl (Nat.le_of_ble_eq_true rfl) (fun X => ?_)
  change V _ X _ 0 [(0, _), (1, _), (2, _), (3, _), (4, _)] [] _ (0, 0)
  have g0 : ¬ ((isB z p ∨ p = -1) ∧ (1 ≤ l.toInt ∧ l.toInt ≤ 100) ∧ (0 ≤ lo.toInt ∧ lo.toInt ≤ 35) ∧ (0 ≤ sp.toInt ∧ sp.toInt ≤ 35)) → V mX9_bone X (mq mX9_bone X (fun r w' => ∃ v, r = some v ∧ (v = .int (oBone z p l lo sp).1 ∧ RM (oBone z p l lo sp).2 w' ∧ Keep moA w w'))) 60 [(0, .ref 400), (1, .int p), (2, .int l), (3, .int lo), (4, .int sp)] [.int 0] w (0, 0) := by
    intro hno0
    refine S_istore (L' := [(0, _), (1, _), (2, _), (3, _), (4, _), (5, _)]) dX9_bone_60 rfl rfl ?_
    refine V_iload dX9_bone_62 rfl ?_
    refine V_if_eq (tgt := 82) dX9_bone_64 (by decide) (fun c64 => ?_) (fun c64 => False.elim (by exact c64 rfl))
    refine V_bipush (v := -2) dX9_bone_82 (by decide) ?_
    refine V_iret rfl dX9_bone_84 (Nat.le_of_ble_eq_true rfl) (Nat.le_of_ble_eq_true rfl) ?_
    have hno : ¬ badB z p l lo sp := fun q => hno0 q.1
    have e : oBone z p l lo sp = (-2, z) := if_neg hno
    exact ⟨_, rfl, by rw [e], by rw [e]; exact z0, Keep.refl _ _⟩
  have g1 : ((isB z p ∨ p = -1) ∧ (1 ≤ l.toInt ∧ l.toInt ≤ 100) ∧ (0 ≤ lo.toInt ∧ lo.toInt ≤ 35) ∧ (0 ≤ sp.toInt ∧ sp.toInt ≤ 35)) → V mX9_bone X (mq mX9_bone X (fun r w' => ∃ v, r = some v ∧ (v = .int (oBone z p l lo sp).1 ∧ RM (oBone z p l lo sp).2 w' ∧ Keep moA w w'))) 60 [(0, .ref 400), (1, .int p), (2, .int l), (3, .int lo), (4, .int sp)] [.int 1] w (0, 0) := by
    intro hargs
    by_cases hx : isB z p
    · obtain ⟨b, hb, rfl⟩ := isB_s z0 hx
      have hbN : bN (nI b) = b := bN_nI (by have := z0.1.n10; omega)
      refine S_istore (L' := [(0, _), (1, _), (2, _), (3, _), (4, _), (5, _)]) dX9_bone_60 rfl rfl ?_
      refine V_iload dX9_bone_62 rfl ?_
      refine V_if_eq (tgt := 82) dX9_bone_64 (by decide) (fun c64 => False.elim (by exact absurd c64 (by decide))) (fun c64 => ?_)
      refine V_iload_n dX9_bone_67 rfl rfl ?_
      refine V_iconst (v := -1) dX9_bone_68 (by decide) ?_
      refine V_icmp_eq (tgt := 85) dX9_bone_69 (by decide) (fun c69 => False.elim (by exact nI_nm1 (by have := z0.1.n10; omega) c69)) (fun c69 => ?_)
      first | refine V_aload_n dX9_bone_72 rfl rfl ?_ | refine V_aload_nN dX9_bone_72 rfl rfl ?_
      first | refine V_getr (by exact z0.1.1.k _ rfl rfl) fX9_28 dX9_bone_73 (by exact (z0.1.1.r 7 rfl (by decide) : _ = some 408)) ?_ | refine V_getrN (by exact z0.1.1.k _ rfl rfl) fX9_28 dX9_bone_73 (by exact (z0.1.1.r 7 rfl (by decide) : _ = some 408)) ?_
      refine V_iload_n dX9_bone_76 rfl rfl ?_
      refine G_iald (j := b) (by exact z0.1.1.k _ rfl rfl) (by rfl) (by exact z0.1.1.lt 408 (m := 10) rfl rfl (by decide) rfl (by have := z0.1.n10; omega)) (by exact z0.1.1.nlt 408 rfl rfl (by decide)) dX9_bone_77 (by exact z0.1.dep hb) ?_
      refine V_iconst (v := 5) dX9_bone_78 (by decide) ?_
      refine V_icmp_ne (tgt := 85) dX9_bone_79 (by decide) (fun c79 => ?_) (fun c79 => ?_)
      · have h79 : ¬ dep (zK z) b = 5 := fun q => c79 (by rw [q]; rfl)
        have hd5 := (z0.1.wf hb).2.1
        have hok : badB z (nI b) l lo sp := ⟨hargs, fun q => by have := q.2; rw [hbN] at this; omega⟩
        obtain ⟨-, hl, hlo, hsp⟩ := hargs
        first | refine V_aload_n dX9_bone_85 rfl rfl ?_ | refine V_aload_nN dX9_bone_85 rfl rfl ?_
        refine V_callV (As := []) (st := _) (c_X9_frames (kN (zK z)) (zQ z) w z0.2.1) kX9_128 (by exact z0.1.1.k _ rfl rfl) ⟨rfl, rfl, rfl⟩ ⟨(Nat.le_of_ble_eq_true rfl), (Nat.le_of_ble_eq_true rfl)⟩ dX9_bone_86 rfl rfl (Nat.le_of_ble_eq_true rfl) ⟨(Nat.le_of_ble_eq_true rfl), (Nat.le_of_ble_eq_true rfl)⟩ ?_
        refine V_if_le (tgt := 95) dX9_bone_89 (by decide) (fun c89 => ?_) (fun c89 => ?_)
        · have h60 : sumN (zQ z).1 6 ≤ 6 * 30 := sumN_le 6 (fun i hi => z0.2.1.le hi)
          have h0 : ¬ 0 < sumN (zQ z).1 6 := fun q => nI_nle q (by omega) c89
          first | refine V_aload_n dX9_bone_95 rfl rfl ?_ | refine V_aload_nN dX9_bone_95 rfl rfl ?_
          refine G_geti (by exact z0.1.1.k _ rfl rfl) fX9_111 dX9_bone_96 (by exact z0.1.n) ?_
          refine V_bipush (v := 10) dX9_bone_99 (by decide) ?_
          refine V_icmp_ne (tgt := 107) dX9_bone_101 (by decide) (fun c101 => ?_) (fun c101 => ?_)
          · have h10 : kN (zK z) < 10 := by
              have h11 := z0.1.n10
              have : ¬ kN (zK z) = 10 := fun q => c101 (by rw [q]; rfl)
              omega
            have hloN : bN lo < 36 := by unfold bN; omega
            have hspN : bN sp < 36 := by unfold bN; omega
            have hlN : 1 ≤ bN l ∧ bN l ≤ 100 := by unfold bN; omega
            have hs0 : sumN (zQ z).1 6 = 0 := by omega
            refine V_sub (L' := [(0, .ref 400), (1, .int (nI b)), (2, .int (nI (bN l))), (3, .int (nI (bN lo))), (4, .int (nI (bN sp)))]) (by rw [← i32_nat (show 0 ≤ l.toInt by omega), ← i32_nat hlo.1, ← i32_nat hsp.1]; rfl) ?_
            first | refine V_aload_n dX9_bone_107 rfl rfl ?_ | refine V_aload_nN dX9_bone_107 rfl rfl ?_
            first | refine V_getr (by exact z0.1.1.k _ rfl rfl) fX9_16 dX9_bone_108 (by exact (z0.1.1.r 3 rfl (by decide) : _ = some 404)) ?_ | refine V_getrN (by exact z0.1.1.k _ rfl rfl) fX9_16 dX9_bone_108 (by exact (z0.1.1.r 3 rfl (by decide) : _ = some 404)) ?_
            first | refine V_aload_n dX9_bone_111 rfl rfl ?_ | refine V_aload_nN dX9_bone_111 rfl rfl ?_
            refine G_geti (by exact z0.1.1.k _ rfl rfl) fX9_111 dX9_bone_112 (by exact z0.1.n) ?_
            refine V_iload_n dX9_bone_115 rfl rfl ?_
            refine G_iast (j := (kN (zK z))) (by exact z0.1.1.k _ rfl rfl) (by rfl) (by exact z0.1.1.lt 404 (m := 10) rfl rfl (by decide) rfl (by omega)) (by exact z0.1.1.nlt 404 rfl rfl (by decide)) dX9_bone_116 ?_
            first | refine V_aload_n dX9_bone_117 rfl rfl ?_ | refine V_aload_nN dX9_bone_117 rfl rfl ?_
            first | refine V_getr (by exact z0.1.1.k _ rfl rfl) fX9_19 dX9_bone_118 (by exact (z0.1.1.r 4 rfl (by decide) : _ = some 405)) ?_ | refine V_getrN (by exact z0.1.1.k _ rfl rfl) fX9_19 dX9_bone_118 (by exact (z0.1.1.r 4 rfl (by decide) : _ = some 405)) ?_
            first | refine V_aload_n dX9_bone_121 rfl rfl ?_ | refine V_aload_nN dX9_bone_121 rfl rfl ?_
            refine G_geti (by exact z0.1.1.k _ rfl rfl) fX9_111 dX9_bone_122 (by exact (rdI_nn (by decide)).trans (z0.1.n)) ?_
            refine V_iload_n dX9_bone_125 rfl rfl ?_
            refine G_iast (j := (kN (zK z))) (by exact z0.1.1.k _ rfl rfl) (by rfl) (by exact z0.1.1.lt 405 (m := 10) rfl rfl (by decide) rfl (by omega)) (by exact z0.1.1.nlt 405 rfl rfl (by decide)) dX9_bone_126 ?_
            first | refine V_aload_n dX9_bone_127 rfl rfl ?_ | refine V_aload_nN dX9_bone_127 rfl rfl ?_
            first | refine V_getr (by exact z0.1.1.k _ rfl rfl) fX9_22 dX9_bone_128 (by exact (z0.1.1.r 5 rfl (by decide) : _ = some 406)) ?_ | refine V_getrN (by exact z0.1.1.k _ rfl rfl) fX9_22 dX9_bone_128 (by exact (z0.1.1.r 5 rfl (by decide) : _ = some 406)) ?_
            first | refine V_aload_n dX9_bone_131 rfl rfl ?_ | refine V_aload_nN dX9_bone_131 rfl rfl ?_
            refine G_geti (by exact z0.1.1.k _ rfl rfl) fX9_111 dX9_bone_132 (by exact (rdI_nn (by decide)).trans ((rdI_nn (by decide)).trans (z0.1.n))) ?_
            refine V_iload_n dX9_bone_135 rfl rfl ?_
            refine G_iast (j := (kN (zK z))) (by exact z0.1.1.k _ rfl rfl) (by rfl) (by exact z0.1.1.lt 406 (m := 10) rfl rfl (by decide) rfl (by omega)) (by exact z0.1.1.nlt 406 rfl rfl (by decide)) dX9_bone_136 ?_
            first | refine V_aload_n dX9_bone_137 rfl rfl ?_ | refine V_aload_nN dX9_bone_137 rfl rfl ?_
            first | refine V_getr (by exact z0.1.1.k _ rfl rfl) fX9_25 dX9_bone_138 (by exact (z0.1.1.r 6 rfl (by decide) : _ = some 407)) ?_ | refine V_getrN (by exact z0.1.1.k _ rfl rfl) fX9_25 dX9_bone_138 (by exact (z0.1.1.r 6 rfl (by decide) : _ = some 407)) ?_
            first | refine V_aload_n dX9_bone_141 rfl rfl ?_ | refine V_aload_nN dX9_bone_141 rfl rfl ?_
            refine G_geti (by exact z0.1.1.k _ rfl rfl) fX9_111 dX9_bone_142 (by exact (rdI_nn (by decide)).trans ((rdI_nn (by decide)).trans ((rdI_nn (by decide)).trans (z0.1.n)))) ?_
            refine V_iload dX9_bone_145 rfl ?_
            refine G_iast (j := (kN (zK z))) (by exact z0.1.1.k _ rfl rfl) (by rfl) (by exact z0.1.1.lt 407 (m := 10) rfl rfl (by decide) rfl (by omega)) (by exact z0.1.1.nlt 407 rfl rfl (by decide)) dX9_bone_147 ?_
            first | refine V_aload_n dX9_bone_148 rfl rfl ?_ | refine V_aload_nN dX9_bone_148 rfl rfl ?_
            first | refine V_getr (by exact z0.1.1.k _ rfl rfl) fX9_28 dX9_bone_149 (by exact (z0.1.1.r 7 rfl (by decide) : _ = some 408)) ?_ | refine V_getrN (by exact z0.1.1.k _ rfl rfl) fX9_28 dX9_bone_149 (by exact (z0.1.1.r 7 rfl (by decide) : _ = some 408)) ?_
            first | refine V_aload_n dX9_bone_152 rfl rfl ?_ | refine V_aload_nN dX9_bone_152 rfl rfl ?_
            refine G_geti (by exact z0.1.1.k _ rfl rfl) fX9_111 dX9_bone_153 (by exact (rdI_nn (by decide)).trans ((rdI_nn (by decide)).trans ((rdI_nn (by decide)).trans ((rdI_nn (by decide)).trans (z0.1.n))))) ?_
            refine V_iload_n dX9_bone_156 rfl rfl ?_
            refine V_iconst (v := -1) dX9_bone_157 (by decide) ?_
            refine V_icmp_ne (tgt := 165) dX9_bone_158 (by decide) (fun c158 => ?_) (fun c158 => False.elim (by exact nI_nm1 (by have := z0.1.n10; omega) c158))
            first | refine V_aload_n dX9_bone_165 rfl rfl ?_ | refine V_aload_nN dX9_bone_165 rfl rfl ?_
            first | refine V_getr (by exact z0.1.1.k _ rfl rfl) fX9_28 dX9_bone_166 (by exact (z0.1.1.r 7 rfl (by decide) : _ = some 408)) ?_ | refine V_getrN (by exact z0.1.1.k _ rfl rfl) fX9_28 dX9_bone_166 (by exact (z0.1.1.r 7 rfl (by decide) : _ = some 408)) ?_
            refine V_iload_n dX9_bone_169 rfl rfl ?_
            refine G_iald (j := b) (by exact z0.1.1.k _ rfl rfl) (by rfl) (by exact z0.1.1.lt 408 (m := 10) rfl rfl (by decide) rfl (by omega)) (by exact z0.1.1.nlt 408 rfl rfl (by decide)) dX9_bone_170 (by exact (rdI_nn (by decide)).trans ((rdI_nn (by decide)).trans ((rdI_nn (by decide)).trans ((rdI_nn (by decide)).trans (z0.1.dep hb))))) ?_
            refine V_iconst (v := 1) dX9_bone_171 (by decide) ?_
            refine V_iadd dX9_bone_172 ?_
            rw [nI_1]
            refine G_iast (j := (kN (zK z))) (by exact z0.1.1.k _ rfl rfl) (by rfl) (by exact z0.1.1.lt 408 (m := 10) rfl rfl (by decide) rfl (by omega)) (by exact z0.1.1.nlt 408 rfl rfl (by decide)) dX9_bone_173 ?_
            first | refine V_aload_n dX9_bone_174 rfl rfl ?_ | refine V_aload_nN dX9_bone_174 rfl rfl ?_
            first | refine V_getr (by exact z0.1.1.k _ rfl rfl) fX9_31 dX9_bone_175 (by exact (z0.1.1.r 8 rfl (by decide) : _ = some 409)) ?_ | refine V_getrN (by exact z0.1.1.k _ rfl rfl) fX9_31 dX9_bone_175 (by exact (z0.1.1.r 8 rfl (by decide) : _ = some 409)) ?_
            first | refine V_aload_n dX9_bone_178 rfl rfl ?_ | refine V_aload_nN dX9_bone_178 rfl rfl ?_
            refine G_geti (by exact z0.1.1.k _ rfl rfl) fX9_111 dX9_bone_179 (by exact (rdI_nn (by decide)).trans ((rdI_nn (by decide)).trans ((rdI_nn (by decide)).trans ((rdI_nn (by decide)).trans ((rdI_nn (by decide)).trans (z0.1.n)))))) ?_
            refine V_iload_n dX9_bone_182 rfl rfl ?_
            refine G_iast (j := (kN (zK z))) (by exact z0.1.1.k _ rfl rfl) (by rfl) (by exact z0.1.1.lt 409 (m := 10) rfl rfl (by decide) rfl (by omega)) (by exact z0.1.1.nlt 409 rfl rfl (by decide)) dX9_bone_183 ?_
            first | refine V_aload_n dX9_bone_184 rfl rfl ?_ | refine V_aload_nN dX9_bone_184 rfl rfl ?_
            refine V_dup dX9_bone_185 rfl ?_
            refine G_geti (by exact z0.1.1.k _ rfl rfl) fX9_111 dX9_bone_186 (by exact (rdI_nn (by decide)).trans ((rdI_nn (by decide)).trans ((rdI_nn (by decide)).trans ((rdI_nn (by decide)).trans ((rdI_nn (by decide)).trans ((rdI_nn (by decide)).trans (z0.1.n))))))) ?_
            refine V_iconst (v := 1) dX9_bone_189 (by decide) ?_
            refine V_iadd dX9_bone_190 ?_
            rw [nI_1]
            refine V_puti (by exact z0.1.1.k _ rfl rfl) pfX9_111 (fun h => nomatch h) dX9_bone_191 ⟨rfl, rfl⟩ ?_
            first | refine V_aload_n dX9_bone_194 rfl rfl ?_ | refine V_aload_nN dX9_bone_194 rfl rfl ?_
            refine G_geti (by exact z0.1.1.k _ rfl rfl) fX9_111 dX9_bone_195 (by exact rdI_eq) ?_
            refine V_iconst (v := 1) dX9_bone_198 (by decide) ?_
            refine V_isub dX9_bone_199 ?_
            refine V_iret rfl dX9_bone_200 (Nat.le_of_ble_eq_true rfl) (Nat.le_of_ble_eq_true rfl) ?_
            have hoo : ∀ p, some b = some p → p < kN (zK z) ∧ dep (zK z) p < 5 := fun p hp => by cases hp; exact ⟨hb, by omega⟩
            have hdp : nI (dep (zK z) b + 1) = nI (dep (kAdd (zK z) (some b) (bN l) (bN lo) (bN sp)) (kN (zK z))) := by
              rw [dep_new z0.1.2.1 (fun p hp => (hoo p hp).1)]
            have e : oBone z (nI b) l lo sp = (nI (kN (zK z)), pK z (kAdd (zK z) (some b) (bN l) (bN lo) (bN sp))) := by
              unfold oBone
              rw [if_pos hok, if_neg h0, if_neg (by omega)]
              rw [if_neg (show ¬ nI b = -1 from nI_nm1 (by omega)), hbN]
            rw [e]
            have hP := msk_add z0.1 (o := (some b)) (l := bN l) (lo := bN lo) (sp := bN sp) h10 hoo hlN.1 hlN.2 hloN hspN
            rw [← hdp] at hP
            refine ⟨_, rfl, congrArg Value.int (nI_pred _), z0.bone (mb_kp _ _ _ _ _ _ _) hP hs0 (by show kN (zK z) + 1 ≤ 10; omega), (mb_kp _ _ _ _ _ _ _).mo⟩
          · refine V_bipush (v := -4) dX9_bone_104 (by decide) ?_
            refine V_iret rfl dX9_bone_106 (Nat.le_of_ble_eq_true rfl) (Nat.le_of_ble_eq_true rfl) ?_
            have h10 : kN (zK z) = 10 := (nI_eq (b := 10) (by have := z0.1.n10; omega) (by decide)).mp c101
            have e : oBone z (nI b) l lo sp = (-4, z) := by unfold oBone; rw [if_pos hok, if_neg h0, if_pos (by omega)]
            exact ⟨_, rfl, by rw [e], by rw [e]; exact z0, Keep.refl _ _⟩
        · refine V_bipush (v := -3) dX9_bone_92 (by decide) ?_
          refine V_iret rfl dX9_bone_94 (Nat.le_of_ble_eq_true rfl) (Nat.le_of_ble_eq_true rfl) ?_
          have h0 : 0 < sumN (zQ z).1 6 := Nat.pos_of_ne_zero (fun q => c89 (by rw [q]; decide))
          have e : oBone z (nI b) l lo sp = (-3, z) := by unfold oBone; rw [if_pos hok, if_pos h0]
          exact ⟨_, rfl, by rw [e], by rw [e]; exact z0, Keep.refl _ _⟩
      · refine V_bipush (v := -2) dX9_bone_82 (by decide) ?_
        refine V_iret rfl dX9_bone_84 (Nat.le_of_ble_eq_true rfl) (Nat.le_of_ble_eq_true rfl) ?_
        have h79 : dep (zK z) b = 5 := (nI_eq (b := 5) (by have := (z0.1.wf hb).2.1; omega) (by decide)).mp c79
        have hno : ¬ badB z (nI b) l lo sp := fun q => q.2 ⟨hx, by rw [hbN]; omega⟩
        have e : oBone z (nI b) l lo sp = (-2, z) := if_neg hno
        exact ⟨_, rfl, by rw [e], by rw [e]; exact z0, Keep.refl _ _⟩
    · have hp : p = -1 := hargs.1.elim (fun q => absurd q hx) id
      refine S_istore (L' := [(0, _), (1, _), (2, _), (3, _), (4, _), (5, _)]) dX9_bone_60 rfl rfl ?_
      refine V_iload dX9_bone_62 rfl ?_
      refine V_if_eq (tgt := 82) dX9_bone_64 (by decide) (fun c64 => False.elim (by exact absurd c64 (by decide))) (fun c64 => ?_)
      refine V_iload_n dX9_bone_67 rfl rfl ?_
      refine V_iconst (v := -1) dX9_bone_68 (by decide) ?_
      refine V_icmp_eq (tgt := 85) dX9_bone_69 (by decide) (fun c69 => ?_) (fun c69 => False.elim (by exact c69 hp))
      have hok : badB z p l lo sp := ⟨hargs, fun q => hx q.1⟩
      obtain ⟨-, hl, hlo, hsp⟩ := hargs
      first | refine V_aload_n dX9_bone_85 rfl rfl ?_ | refine V_aload_nN dX9_bone_85 rfl rfl ?_
      refine V_callV (As := []) (st := _) (c_X9_frames (kN (zK z)) (zQ z) w z0.2.1) kX9_128 (by exact z0.1.1.k _ rfl rfl) ⟨rfl, rfl, rfl⟩ ⟨(Nat.le_of_ble_eq_true rfl), (Nat.le_of_ble_eq_true rfl)⟩ dX9_bone_86 rfl rfl (Nat.le_of_ble_eq_true rfl) ⟨(Nat.le_of_ble_eq_true rfl), (Nat.le_of_ble_eq_true rfl)⟩ ?_
      refine V_if_le (tgt := 95) dX9_bone_89 (by decide) (fun c89 => ?_) (fun c89 => ?_)
      · have h60 : sumN (zQ z).1 6 ≤ 6 * 30 := sumN_le 6 (fun i hi => z0.2.1.le hi)
        have h0 : ¬ 0 < sumN (zQ z).1 6 := fun q => nI_nle q (by omega) c89
        first | refine V_aload_n dX9_bone_95 rfl rfl ?_ | refine V_aload_nN dX9_bone_95 rfl rfl ?_
        refine G_geti (by exact z0.1.1.k _ rfl rfl) fX9_111 dX9_bone_96 (by exact z0.1.n) ?_
        refine V_bipush (v := 10) dX9_bone_99 (by decide) ?_
        refine V_icmp_ne (tgt := 107) dX9_bone_101 (by decide) (fun c101 => ?_) (fun c101 => ?_)
        · have h10 : kN (zK z) < 10 := by
            have h11 := z0.1.n10
            have : ¬ kN (zK z) = 10 := fun q => c101 (by rw [q]; rfl)
            omega
          have hloN : bN lo < 36 := by unfold bN; omega
          have hspN : bN sp < 36 := by unfold bN; omega
          have hlN : 1 ≤ bN l ∧ bN l ≤ 100 := by unfold bN; omega
          have hs0 : sumN (zQ z).1 6 = 0 := by omega
          refine V_sub (L' := [(0, .ref 400), (1, .int p), (2, .int (nI (bN l))), (3, .int (nI (bN lo))), (4, .int (nI (bN sp)))]) (by rw [← i32_nat (show 0 ≤ l.toInt by omega), ← i32_nat hlo.1, ← i32_nat hsp.1]; rfl) ?_
          first | refine V_aload_n dX9_bone_107 rfl rfl ?_ | refine V_aload_nN dX9_bone_107 rfl rfl ?_
          first | refine V_getr (by exact z0.1.1.k _ rfl rfl) fX9_16 dX9_bone_108 (by exact (z0.1.1.r 3 rfl (by decide) : _ = some 404)) ?_ | refine V_getrN (by exact z0.1.1.k _ rfl rfl) fX9_16 dX9_bone_108 (by exact (z0.1.1.r 3 rfl (by decide) : _ = some 404)) ?_
          first | refine V_aload_n dX9_bone_111 rfl rfl ?_ | refine V_aload_nN dX9_bone_111 rfl rfl ?_
          refine G_geti (by exact z0.1.1.k _ rfl rfl) fX9_111 dX9_bone_112 (by exact z0.1.n) ?_
          refine V_iload_n dX9_bone_115 rfl rfl ?_
          refine G_iast (j := (kN (zK z))) (by exact z0.1.1.k _ rfl rfl) (by rfl) (by exact z0.1.1.lt 404 (m := 10) rfl rfl (by decide) rfl (by omega)) (by exact z0.1.1.nlt 404 rfl rfl (by decide)) dX9_bone_116 ?_
          first | refine V_aload_n dX9_bone_117 rfl rfl ?_ | refine V_aload_nN dX9_bone_117 rfl rfl ?_
          first | refine V_getr (by exact z0.1.1.k _ rfl rfl) fX9_19 dX9_bone_118 (by exact (z0.1.1.r 4 rfl (by decide) : _ = some 405)) ?_ | refine V_getrN (by exact z0.1.1.k _ rfl rfl) fX9_19 dX9_bone_118 (by exact (z0.1.1.r 4 rfl (by decide) : _ = some 405)) ?_
          first | refine V_aload_n dX9_bone_121 rfl rfl ?_ | refine V_aload_nN dX9_bone_121 rfl rfl ?_
          refine G_geti (by exact z0.1.1.k _ rfl rfl) fX9_111 dX9_bone_122 (by exact (rdI_nn (by decide)).trans (z0.1.n)) ?_
          refine V_iload_n dX9_bone_125 rfl rfl ?_
          refine G_iast (j := (kN (zK z))) (by exact z0.1.1.k _ rfl rfl) (by rfl) (by exact z0.1.1.lt 405 (m := 10) rfl rfl (by decide) rfl (by omega)) (by exact z0.1.1.nlt 405 rfl rfl (by decide)) dX9_bone_126 ?_
          first | refine V_aload_n dX9_bone_127 rfl rfl ?_ | refine V_aload_nN dX9_bone_127 rfl rfl ?_
          first | refine V_getr (by exact z0.1.1.k _ rfl rfl) fX9_22 dX9_bone_128 (by exact (z0.1.1.r 5 rfl (by decide) : _ = some 406)) ?_ | refine V_getrN (by exact z0.1.1.k _ rfl rfl) fX9_22 dX9_bone_128 (by exact (z0.1.1.r 5 rfl (by decide) : _ = some 406)) ?_
          first | refine V_aload_n dX9_bone_131 rfl rfl ?_ | refine V_aload_nN dX9_bone_131 rfl rfl ?_
          refine G_geti (by exact z0.1.1.k _ rfl rfl) fX9_111 dX9_bone_132 (by exact (rdI_nn (by decide)).trans ((rdI_nn (by decide)).trans (z0.1.n))) ?_
          refine V_iload_n dX9_bone_135 rfl rfl ?_
          refine G_iast (j := (kN (zK z))) (by exact z0.1.1.k _ rfl rfl) (by rfl) (by exact z0.1.1.lt 406 (m := 10) rfl rfl (by decide) rfl (by omega)) (by exact z0.1.1.nlt 406 rfl rfl (by decide)) dX9_bone_136 ?_
          first | refine V_aload_n dX9_bone_137 rfl rfl ?_ | refine V_aload_nN dX9_bone_137 rfl rfl ?_
          first | refine V_getr (by exact z0.1.1.k _ rfl rfl) fX9_25 dX9_bone_138 (by exact (z0.1.1.r 6 rfl (by decide) : _ = some 407)) ?_ | refine V_getrN (by exact z0.1.1.k _ rfl rfl) fX9_25 dX9_bone_138 (by exact (z0.1.1.r 6 rfl (by decide) : _ = some 407)) ?_
          first | refine V_aload_n dX9_bone_141 rfl rfl ?_ | refine V_aload_nN dX9_bone_141 rfl rfl ?_
          refine G_geti (by exact z0.1.1.k _ rfl rfl) fX9_111 dX9_bone_142 (by exact (rdI_nn (by decide)).trans ((rdI_nn (by decide)).trans ((rdI_nn (by decide)).trans (z0.1.n)))) ?_
          refine V_iload dX9_bone_145 rfl ?_
          refine G_iast (j := (kN (zK z))) (by exact z0.1.1.k _ rfl rfl) (by rfl) (by exact z0.1.1.lt 407 (m := 10) rfl rfl (by decide) rfl (by omega)) (by exact z0.1.1.nlt 407 rfl rfl (by decide)) dX9_bone_147 ?_
          first | refine V_aload_n dX9_bone_148 rfl rfl ?_ | refine V_aload_nN dX9_bone_148 rfl rfl ?_
          first | refine V_getr (by exact z0.1.1.k _ rfl rfl) fX9_28 dX9_bone_149 (by exact (z0.1.1.r 7 rfl (by decide) : _ = some 408)) ?_ | refine V_getrN (by exact z0.1.1.k _ rfl rfl) fX9_28 dX9_bone_149 (by exact (z0.1.1.r 7 rfl (by decide) : _ = some 408)) ?_
          first | refine V_aload_n dX9_bone_152 rfl rfl ?_ | refine V_aload_nN dX9_bone_152 rfl rfl ?_
          refine G_geti (by exact z0.1.1.k _ rfl rfl) fX9_111 dX9_bone_153 (by exact (rdI_nn (by decide)).trans ((rdI_nn (by decide)).trans ((rdI_nn (by decide)).trans ((rdI_nn (by decide)).trans (z0.1.n))))) ?_
          refine V_iload_n dX9_bone_156 rfl rfl ?_
          refine V_iconst (v := -1) dX9_bone_157 (by decide) ?_
          refine V_icmp_ne (tgt := 165) dX9_bone_158 (by decide) (fun c158 => False.elim (by exact c158 hp)) (fun c158 => ?_)
          refine V_iconst (v := 1) dX9_bone_161 (by decide) ?_
          refine V_goto (tgt := 173) dX9_bone_162 (by decide) ?_
          refine G_iast (j := (kN (zK z))) (by exact z0.1.1.k _ rfl rfl) (by rfl) (by exact z0.1.1.lt 408 (m := 10) rfl rfl (by decide) rfl (by omega)) (by exact z0.1.1.nlt 408 rfl rfl (by decide)) dX9_bone_173 ?_
          first | refine V_aload_n dX9_bone_174 rfl rfl ?_ | refine V_aload_nN dX9_bone_174 rfl rfl ?_
          first | refine V_getr (by exact z0.1.1.k _ rfl rfl) fX9_31 dX9_bone_175 (by exact (z0.1.1.r 8 rfl (by decide) : _ = some 409)) ?_ | refine V_getrN (by exact z0.1.1.k _ rfl rfl) fX9_31 dX9_bone_175 (by exact (z0.1.1.r 8 rfl (by decide) : _ = some 409)) ?_
          first | refine V_aload_n dX9_bone_178 rfl rfl ?_ | refine V_aload_nN dX9_bone_178 rfl rfl ?_
          refine G_geti (by exact z0.1.1.k _ rfl rfl) fX9_111 dX9_bone_179 (by exact (rdI_nn (by decide)).trans ((rdI_nn (by decide)).trans ((rdI_nn (by decide)).trans ((rdI_nn (by decide)).trans ((rdI_nn (by decide)).trans (z0.1.n)))))) ?_
          refine V_iload_n dX9_bone_182 rfl rfl ?_
          refine G_iast (j := (kN (zK z))) (by exact z0.1.1.k _ rfl rfl) (by rfl) (by exact z0.1.1.lt 409 (m := 10) rfl rfl (by decide) rfl (by omega)) (by exact z0.1.1.nlt 409 rfl rfl (by decide)) dX9_bone_183 ?_
          first | refine V_aload_n dX9_bone_184 rfl rfl ?_ | refine V_aload_nN dX9_bone_184 rfl rfl ?_
          refine V_dup dX9_bone_185 rfl ?_
          refine G_geti (by exact z0.1.1.k _ rfl rfl) fX9_111 dX9_bone_186 (by exact (rdI_nn (by decide)).trans ((rdI_nn (by decide)).trans ((rdI_nn (by decide)).trans ((rdI_nn (by decide)).trans ((rdI_nn (by decide)).trans ((rdI_nn (by decide)).trans (z0.1.n))))))) ?_
          refine V_iconst (v := 1) dX9_bone_189 (by decide) ?_
          refine V_iadd dX9_bone_190 ?_
          rw [nI_1]
          refine V_puti (by exact z0.1.1.k _ rfl rfl) pfX9_111 (fun h => nomatch h) dX9_bone_191 ⟨rfl, rfl⟩ ?_
          first | refine V_aload_n dX9_bone_194 rfl rfl ?_ | refine V_aload_nN dX9_bone_194 rfl rfl ?_
          refine G_geti (by exact z0.1.1.k _ rfl rfl) fX9_111 dX9_bone_195 (by exact rdI_eq) ?_
          refine V_iconst (v := 1) dX9_bone_198 (by decide) ?_
          refine V_isub dX9_bone_199 ?_
          refine V_iret rfl dX9_bone_200 (Nat.le_of_ble_eq_true rfl) (Nat.le_of_ble_eq_true rfl) ?_
          have hoo : ∀ q, (none : Option Nat) = some q → q < kN (zK z) ∧ dep (zK z) q < 5 := fun q hq => by cases hq
          have hdp : (1 : Int32) = nI (dep (kAdd (zK z) none (bN l) (bN lo) (bN sp)) (kN (zK z))) := by
            rw [dep_new z0.1.2.1 (fun p hp => (hoo p hp).1)]
            rfl
          have e : oBone z p l lo sp = (nI (kN (zK z)), pK z (kAdd (zK z) none (bN l) (bN lo) (bN sp))) := by
            unfold oBone
            rw [if_pos hok, if_neg h0, if_neg (by omega)]
            rw [if_pos hp]
          rw [e]
          have hP := msk_add z0.1 (o := none) (l := bN l) (lo := bN lo) (sp := bN sp) h10 hoo hlN.1 hlN.2 hloN hspN
          have hpm : p = oI none := hp
          rw [← hdp, ← hpm] at hP
          refine ⟨_, rfl, congrArg Value.int (nI_pred _), z0.bone (mb_kp _ _ _ _ _ _ _) hP hs0 (by show kN (zK z) + 1 ≤ 10; omega), (mb_kp _ _ _ _ _ _ _).mo⟩
        · refine V_bipush (v := -4) dX9_bone_104 (by decide) ?_
          refine V_iret rfl dX9_bone_106 (Nat.le_of_ble_eq_true rfl) (Nat.le_of_ble_eq_true rfl) ?_
          have h10 : kN (zK z) = 10 := (nI_eq (b := 10) (by have := z0.1.n10; omega) (by decide)).mp c101
          have e : oBone z p l lo sp = (-4, z) := by unfold oBone; rw [if_pos hok, if_neg h0, if_pos (by omega)]
          exact ⟨_, rfl, by rw [e], by rw [e]; exact z0, Keep.refl _ _⟩
      · refine V_bipush (v := -3) dX9_bone_92 (by decide) ?_
        refine V_iret rfl dX9_bone_94 (Nat.le_of_ble_eq_true rfl) (Nat.le_of_ble_eq_true rfl) ?_
        have h0 : 0 < sumN (zQ z).1 6 := Nat.pos_of_ne_zero (fun q => c89 (by rw [q]; decide))
        have e : oBone z p l lo sp = (-3, z) := by unfold oBone; rw [if_pos hok, if_pos h0]
        exact ⟨_, rfl, by rw [e], by rw [e]; exact z0, Keep.refl _ _⟩
  refine V_iload_n dX9_bone_0 rfl rfl ?_
  refine V_i2l dX9_bone_1 ?_
  refine V_ldc2 ctX9_122 dX9_bone_2 ?_
  first | refine V_aload_n dX9_bone_5 rfl rfl ?_ | refine V_aload_nN dX9_bone_5 rfl rfl ?_
  refine G_geti (by exact z0.1.1.k _ rfl rfl) fX9_111 dX9_bone_6 (by exact z0.1.n) ?_
  refine V_iconst (v := 1) dX9_bone_9 (by decide) ?_
  refine V_isub dX9_bone_10 ?_
  refine V_i2l dX9_bone_11 ?_
  refine V_callS (As := [_, _, _]) (st := _) (in9m p (kN (zK z)) (by have := z0.1.n10; omega) w) kX9_114 ⟨rfl, rfl, rfl⟩ ⟨(Nat.le_of_ble_eq_true rfl), (Nat.le_of_ble_eq_true rfl)⟩ dX9_bone_12 rfl rfl (Nat.le_of_ble_eq_true rfl) ⟨(Nat.le_of_ble_eq_true rfl), (Nat.le_of_ble_eq_true rfl)⟩ ?_
  refine V_if_eq (tgt := 59) dX9_bone_15 (by decide) (fun c15 => ?_) (fun c15 => ?_)
  · refine V_iconst (v := 0) dX9_bone_59 (by decide) ?_
    first
      | exact g1 ⟨b01_1 c15, b01_1 c27, b01_1 c39, b01_1 c52⟩
      | exact g0 (fun q => b01_0 c52 q.2.2.2)
      | exact g0 (fun q => b01_0 c39 q.2.2.1)
      | exact g0 (fun q => b01_0 c27 q.2.1)
      | exact g0 (fun q => b01_0 c15 q.1)
  · refine V_iload_n dX9_bone_18 rfl rfl ?_
    refine V_i2l dX9_bone_19 ?_
    refine V_lconst (v := 1) dX9_bone_20 (by decide) ?_
    refine V_ldc2 ctX9_124 dX9_bone_21 ?_
    refine V_callS (As := [_, _, _]) (st := _) (in9 l 1 100 1 100 rfl rfl w) kX9_114 ⟨rfl, rfl, rfl⟩ ⟨(Nat.le_of_ble_eq_true rfl), (Nat.le_of_ble_eq_true rfl)⟩ dX9_bone_24 rfl rfl (Nat.le_of_ble_eq_true rfl) ⟨(Nat.le_of_ble_eq_true rfl), (Nat.le_of_ble_eq_true rfl)⟩ ?_
    refine V_if_eq (tgt := 59) dX9_bone_27 (by decide) (fun c27 => ?_) (fun c27 => ?_)
    · refine V_iconst (v := 0) dX9_bone_59 (by decide) ?_
      first
        | exact g1 ⟨b01_1 c15, b01_1 c27, b01_1 c39, b01_1 c52⟩
        | exact g0 (fun q => b01_0 c52 q.2.2.2)
        | exact g0 (fun q => b01_0 c39 q.2.2.1)
        | exact g0 (fun q => b01_0 c27 q.2.1)
        | exact g0 (fun q => b01_0 c15 q.1)
    · refine V_iload_n dX9_bone_30 rfl rfl ?_
      refine V_i2l dX9_bone_31 ?_
      refine V_lconst (v := 0) dX9_bone_32 (by decide) ?_
      refine V_ldc2 ctX9_126 dX9_bone_33 ?_
      refine V_callS (As := [_, _, _]) (st := _) (in9 lo 0 35 0 35 rfl rfl w) kX9_114 ⟨rfl, rfl, rfl⟩ ⟨(Nat.le_of_ble_eq_true rfl), (Nat.le_of_ble_eq_true rfl)⟩ dX9_bone_36 rfl rfl (Nat.le_of_ble_eq_true rfl) ⟨(Nat.le_of_ble_eq_true rfl), (Nat.le_of_ble_eq_true rfl)⟩ ?_
      refine V_if_eq (tgt := 59) dX9_bone_39 (by decide) (fun c39 => ?_) (fun c39 => ?_)
      · refine V_iconst (v := 0) dX9_bone_59 (by decide) ?_
        first
          | exact g1 ⟨b01_1 c15, b01_1 c27, b01_1 c39, b01_1 c52⟩
          | exact g0 (fun q => b01_0 c52 q.2.2.2)
          | exact g0 (fun q => b01_0 c39 q.2.2.1)
          | exact g0 (fun q => b01_0 c27 q.2.1)
          | exact g0 (fun q => b01_0 c15 q.1)
      · refine V_iload dX9_bone_42 rfl ?_
        refine V_i2l dX9_bone_44 ?_
        refine V_lconst (v := 0) dX9_bone_45 (by decide) ?_
        refine V_ldc2 ctX9_126 dX9_bone_46 ?_
        refine V_callS (As := [_, _, _]) (st := _) (in9 sp 0 35 0 35 rfl rfl w) kX9_114 ⟨rfl, rfl, rfl⟩ ⟨(Nat.le_of_ble_eq_true rfl), (Nat.le_of_ble_eq_true rfl)⟩ dX9_bone_49 rfl rfl (Nat.le_of_ble_eq_true rfl) ⟨(Nat.le_of_ble_eq_true rfl), (Nat.le_of_ble_eq_true rfl)⟩ ?_
        refine V_if_eq (tgt := 59) dX9_bone_52 (by decide) (fun c52 => ?_) (fun c52 => ?_)
        · refine V_iconst (v := 0) dX9_bone_59 (by decide) ?_
          first
            | exact g1 ⟨b01_1 c15, b01_1 c27, b01_1 c39, b01_1 c52⟩
            | exact g0 (fun q => b01_0 c52 q.2.2.2)
            | exact g0 (fun q => b01_0 c39 q.2.2.1)
            | exact g0 (fun q => b01_0 c27 q.2.1)
            | exact g0 (fun q => b01_0 c15 q.1)
        · refine V_iconst (v := 1) dX9_bone_55 (by decide) ?_
          refine V_goto (tgt := 60) dX9_bone_56 (by decide) ?_
          first
            | exact g1 ⟨b01_1 c15, b01_1 c27, b01_1 c39, b01_1 c52⟩
            | exact g0 (fun q => b01_0 c52 q.2.2.2)
            | exact g0 (fun q => b01_0 c39 q.2.2.1)
            | exact g0 (fun q => b01_0 c27 q.2.1)
            | exact g0 (fun q => b01_0 c15 q.1)
