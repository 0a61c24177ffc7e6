section
-- ===== PART A: goes FIRST, ahead of the names: the tables' words, and 'selects' of the private methods out of them =====
/-- a private method of a class that the tables say can be made, by its rows of tables_1 -/
def lw_okq (q : MethodName × Nat) : Prop := (q.1.cls ≠ "java/lang/invoke/MethodHandle" ∧ q.1.cls ≠ "java/lang/invoke/VarHandle") ∧ Cond.instantiable q.1.cls q.2 ∈ tables_1 ∧ Cond.privateMethod q.1 ∈ tables_1 ∧ Cond.instanceMethod q.1 ∈ tables_1
theorem lw_p0 : lw_okq (⟨"BoneSteps$Skeleton", "place", "()V"⟩, 5) := ⟨⟨by decide +kernel, by decide +kernel⟩, List.mem_of_getElem? (i := 23) (by decide +kernel), List.mem_of_getElem? (i := 307) (by decide +kernel), List.mem_of_getElem? (i := 308) (by decide +kernel)⟩
theorem lw_p1 : lw_okq (⟨"BoneSteps$Bone", "farTurned", "(JJJJI)J"⟩, 14) := ⟨⟨by decide +kernel, by decide +kernel⟩, List.mem_of_getElem? (i := 208) (by decide +kernel), List.mem_of_getElem? (i := 366) (by decide +kernel), List.mem_of_getElem? (i := 367) (by decide +kernel)⟩
theorem lw_p2 : lw_okq (⟨"BoneSteps$Skeleton", "reachByRound", "(LBoneSteps$Bone;JJ)Z"⟩, 5) := ⟨⟨by decide +kernel, by decide +kernel⟩, List.mem_of_getElem? (i := 23) (by decide +kernel), List.mem_of_getElem? (i := 383) (by decide +kernel), List.mem_of_getElem? (i := 384) (by decide +kernel)⟩
theorem lw_p3 : lw_okq (⟨"BoneSteps$Graph", "isJoined", "(LBoneSteps$Clips;[II)Z"⟩, 9) := ⟨⟨by decide +kernel, by decide +kernel⟩, List.mem_of_getElem? (i := 105) (by decide +kernel), List.mem_of_getElem? (i := 517) (by decide +kernel), List.mem_of_getElem? (i := 518) (by decide +kernel)⟩
theorem lw_p4 : lw_okq (⟨"BoneSteps$Graph", "begin", "(LBoneSteps$Clips;I)V"⟩, 9) := ⟨⟨by decide +kernel, by decide +kernel⟩, List.mem_of_getElem? (i := 105) (by decide +kernel), List.mem_of_getElem? (i := 539) (by decide +kernel), List.mem_of_getElem? (i := 540) (by decide +kernel)⟩
theorem lw_p5 : lw_okq (⟨"BoneSteps$Graph", "nearestOpen", "()I"⟩, 9) := ⟨⟨by decide +kernel, by decide +kernel⟩, List.mem_of_getElem? (i := 105) (by decide +kernel), List.mem_of_getElem? (i := 547) (by decide +kernel), List.mem_of_getElem? (i := 548) (by decide +kernel)⟩
theorem lw_p6 : lw_okq (⟨"BoneSteps$Graph", "reachFrom", "(LBoneSteps$Clips;I)V"⟩, 9) := ⟨⟨by decide +kernel, by decide +kernel⟩, List.mem_of_getElem? (i := 105) (by decide +kernel), List.mem_of_getElem? (i := 551) (by decide +kernel), List.mem_of_getElem? (i := 552) (by decide +kernel)⟩
theorem lw_p7 : lw_okq (⟨"BoneSteps$Graph", "wayCost", "(LBoneSteps$Clips;II)I"⟩, 9) := ⟨⟨by decide +kernel, by decide +kernel⟩, List.mem_of_getElem? (i := 105) (by decide +kernel), List.mem_of_getElem? (i := 555) (by decide +kernel), List.mem_of_getElem? (i := 556) (by decide +kernel)⟩
theorem lw_p8 : lw_okq (⟨"BoneSteps$Graph", "keepPath", "(II)V"⟩, 9) := ⟨⟨by decide +kernel, by decide +kernel⟩, List.mem_of_getElem? (i := 105) (by decide +kernel), List.mem_of_getElem? (i := 559) (by decide +kernel), List.mem_of_getElem? (i := 560) (by decide +kernel)⟩
theorem lw_p9 : lw_okq (⟨"BoneSteps", "findSheet", "(I)LBoneSteps$Sheet;"⟩, 6) := ⟨⟨by decide +kernel, by decide +kernel⟩, List.mem_of_getElem? (i := 15) (by decide +kernel), List.mem_of_getElem? (i := 571) (by decide +kernel), List.mem_of_getElem? (i := 572) (by decide +kernel)⟩
theorem lw_p10 : lw_okq (⟨"BoneSteps", "found", "(I)I"⟩, 6) := ⟨⟨by decide +kernel, by decide +kernel⟩, List.mem_of_getElem? (i := 15) (by decide +kernel), List.mem_of_getElem? (i := 580) (by decide +kernel), List.mem_of_getElem? (i := 581) (by decide +kernel)⟩
theorem lw_p11 : lw_okq (⟨"BoneStepsModel", "frames", "()I"⟩, 35) := ⟨⟨by decide +kernel, by decide +kernel⟩, List.mem_of_getElem? (i := 658) (by decide +kernel), List.mem_of_getElem? (i := 781) (by decide +kernel), List.mem_of_getElem? (i := 782) (by decide +kernel)⟩
theorem lw_p12 : lw_okq (⟨"BoneStepsModel", "isBone", "(I)Z"⟩, 35) := ⟨⟨by decide +kernel, by decide +kernel⟩, List.mem_of_getElem? (i := 658) (by decide +kernel), List.mem_of_getElem? (i := 789) (by decide +kernel), List.mem_of_getElem? (i := 790) (by decide +kernel)⟩
theorem lw_p13 : lw_okq (⟨"BoneStepsModel", "isWithin", "(II)Z"⟩, 35) := ⟨⟨by decide +kernel, by decide +kernel⟩, List.mem_of_getElem? (i := 658) (by decide +kernel), List.mem_of_getElem? (i := 797) (by decide +kernel), List.mem_of_getElem? (i := 798) (by decide +kernel)⟩
theorem lw_p14 : lw_okq (⟨"BoneStepsModel", "hold", "()V"⟩, 35) := ⟨⟨by decide +kernel, by decide +kernel⟩, List.mem_of_getElem? (i := 658) (by decide +kernel), List.mem_of_getElem? (i := 804) (by decide +kernel), List.mem_of_getElem? (i := 805) (by decide +kernel)⟩
theorem lw_p15 : lw_okq (⟨"BoneStepsModel", "place", "()V"⟩, 35) := ⟨⟨by decide +kernel, by decide +kernel⟩, List.mem_of_getElem? (i := 658) (by decide +kernel), List.mem_of_getElem? (i := 808) (by decide +kernel), List.mem_of_getElem? (i := 809) (by decide +kernel)⟩
def lw_privs_1 : List (MethodName × Nat) := [(⟨"BoneSteps$Skeleton", "place", "()V"⟩, 5), (⟨"BoneSteps$Bone", "farTurned", "(JJJJI)J"⟩, 14), (⟨"BoneSteps$Skeleton", "reachByRound", "(LBoneSteps$Bone;JJ)Z"⟩, 5), (⟨"BoneSteps$Graph", "isJoined", "(LBoneSteps$Clips;[II)Z"⟩, 9), (⟨"BoneSteps$Graph", "begin", "(LBoneSteps$Clips;I)V"⟩, 9), (⟨"BoneSteps$Graph", "nearestOpen", "()I"⟩, 9), (⟨"BoneSteps$Graph", "reachFrom", "(LBoneSteps$Clips;I)V"⟩, 9), (⟨"BoneSteps$Graph", "wayCost", "(LBoneSteps$Clips;II)I"⟩, 9), (⟨"BoneSteps$Graph", "keepPath", "(II)V"⟩, 9), (⟨"BoneSteps", "findSheet", "(I)LBoneSteps$Sheet;"⟩, 6), (⟨"BoneSteps", "found", "(I)I"⟩, 6), (⟨"BoneStepsModel", "frames", "()I"⟩, 35), (⟨"BoneStepsModel", "isBone", "(I)Z"⟩, 35), (⟨"BoneStepsModel", "isWithin", "(II)Z"⟩, 35), (⟨"BoneStepsModel", "hold", "()V"⟩, 35), (⟨"BoneStepsModel", "place", "()V"⟩, 35)]
theorem lw_r1 : ∀ q ∈ lw_privs_1, lw_okq q := List.forall_mem_cons.mpr ⟨lw_p0, List.forall_mem_cons.mpr ⟨lw_p1, List.forall_mem_cons.mpr ⟨lw_p2, List.forall_mem_cons.mpr ⟨lw_p3, List.forall_mem_cons.mpr ⟨lw_p4, List.forall_mem_cons.mpr ⟨lw_p5, List.forall_mem_cons.mpr ⟨lw_p6, List.forall_mem_cons.mpr ⟨lw_p7, List.forall_mem_cons.mpr ⟨lw_p8, List.forall_mem_cons.mpr ⟨lw_p9, List.forall_mem_cons.mpr ⟨lw_p10, List.forall_mem_cons.mpr ⟨lw_p11, List.forall_mem_cons.mpr ⟨lw_p12, List.forall_mem_cons.mpr ⟨lw_p13, List.forall_mem_cons.mpr ⟨lw_p14, List.forall_mem_cons.mpr ⟨lw_p15, fun _ h => absurd h List.not_mem_nil⟩⟩⟩⟩⟩⟩⟩⟩⟩⟩⟩⟩⟩⟩⟩⟩
theorem lw_p16 : lw_okq (⟨"BoneStepsModel", "settle", "()V"⟩, 35) := ⟨⟨by decide +kernel, by decide +kernel⟩, List.mem_of_getElem? (i := 658) (by decide +kernel), List.mem_of_getElem? (i := 814) (by decide +kernel), List.mem_of_getElem? (i := 815) (by decide +kernel)⟩
theorem lw_p17 : lw_okq (⟨"BoneStepsModel", "farOf", "(IJJ)J"⟩, 35) := ⟨⟨by decide +kernel, by decide +kernel⟩, List.mem_of_getElem? (i := 658) (by decide +kernel), List.mem_of_getElem? (i := 839) (by decide +kernel), List.mem_of_getElem? (i := 840) (by decide +kernel)⟩
theorem lw_p18 : lw_okq (⟨"BoneStepsModel", "isFrame", "(II)Z"⟩, 35) := ⟨⟨by decide +kernel, by decide +kernel⟩, List.mem_of_getElem? (i := 658) (by decide +kernel), List.mem_of_getElem? (i := 875) (by decide +kernel), List.mem_of_getElem? (i := 876) (by decide +kernel)⟩
theorem lw_p19 : lw_okq (⟨"BoneStepsModel", "blended", "(IIII)I"⟩, 35) := ⟨⟨by decide +kernel, by decide +kernel⟩, List.mem_of_getElem? (i := 658) (by decide +kernel), List.mem_of_getElem? (i := 888) (by decide +kernel), List.mem_of_getElem? (i := 889) (by decide +kernel)⟩
theorem lw_p20 : lw_okq (⟨"BoneStepsModel", "intoLimits", "(II)I"⟩, 35) := ⟨⟨by decide +kernel, by decide +kernel⟩, List.mem_of_getElem? (i := 658) (by decide +kernel), List.mem_of_getElem? (i := 895) (by decide +kernel), List.mem_of_getElem? (i := 896) (by decide +kernel)⟩
theorem lw_p21 : lw_okq (⟨"BoneStepsModel", "likeness", "(II)I"⟩, 35) := ⟨⟨by decide +kernel, by decide +kernel⟩, List.mem_of_getElem? (i := 658) (by decide +kernel), List.mem_of_getElem? (i := 910) (by decide +kernel), List.mem_of_getElem? (i := 911) (by decide +kernel)⟩
theorem lw_p22 : lw_okq (⟨"BoneStepsModel", "findKeys", "(II)V"⟩, 35) := ⟨⟨by decide +kernel, by decide +kernel⟩, List.mem_of_getElem? (i := 658) (by decide +kernel), List.mem_of_getElem? (i := 919) (by decide +kernel), List.mem_of_getElem? (i := 920) (by decide +kernel)⟩
theorem lw_p23 : lw_okq (⟨"BoneStepsModel", "holds", "(IIII)Z"⟩, 35) := ⟨⟨by decide +kernel, by decide +kernel⟩, List.mem_of_getElem? (i := 658) (by decide +kernel), List.mem_of_getElem? (i := 923) (by decide +kernel), List.mem_of_getElem? (i := 924) (by decide +kernel)⟩
theorem lw_p24 : lw_okq (⟨"BoneStepsModel", "findLive", "()I"⟩, 35) := ⟨⟨by decide +kernel, by decide +kernel⟩, List.mem_of_getElem? (i := 658) (by decide +kernel), List.mem_of_getElem? (i := 943) (by decide +kernel), List.mem_of_getElem? (i := 944) (by decide +kernel)⟩
theorem lw_p25 : lw_okq (⟨"BoneStepsModel", "findCosts", "()V"⟩, 35) := ⟨⟨by decide +kernel, by decide +kernel⟩, List.mem_of_getElem? (i := 658) (by decide +kernel), List.mem_of_getElem? (i := 947) (by decide +kernel), List.mem_of_getElem? (i := 948) (by decide +kernel)⟩
theorem lw_p26 : lw_okq (⟨"BoneStepsModel", "isNode", "(I)Z"⟩, 35) := ⟨⟨by decide +kernel, by decide +kernel⟩, List.mem_of_getElem? (i := 658) (by decide +kernel), List.mem_of_getElem? (i := 951) (by decide +kernel), List.mem_of_getElem? (i := 952) (by decide +kernel)⟩
theorem lw_p27 : lw_okq (⟨"BoneStepsModel", "findDistances", "(I)V"⟩, 35) := ⟨⟨by decide +kernel, by decide +kernel⟩, List.mem_of_getElem? (i := 658) (by decide +kernel), List.mem_of_getElem? (i := 963) (by decide +kernel), List.mem_of_getElem? (i := 964) (by decide +kernel)⟩
theorem lw_p28 : lw_okq (⟨"BoneStepsModel", "met", "(I)I"⟩, 35) := ⟨⟨by decide +kernel, by decide +kernel⟩, List.mem_of_getElem? (i := 658) (by decide +kernel), List.mem_of_getElem? (i := 980) (by decide +kernel), List.mem_of_getElem? (i := 981) (by decide +kernel)⟩
theorem lw_p29 : lw_okq (⟨"BoneStepsModel", "lacks", "(III)I"⟩, 35) := ⟨⟨by decide +kernel, by decide +kernel⟩, List.mem_of_getElem? (i := 658) (by decide +kernel), List.mem_of_getElem? (i := 992) (by decide +kernel), List.mem_of_getElem? (i := 993) (by decide +kernel)⟩
theorem lw_p30 : lw_okq (⟨"BoneStepsModel", "lacksRow", "(II)I"⟩, 35) := ⟨⟨by decide +kernel, by decide +kernel⟩, List.mem_of_getElem? (i := 658) (by decide +kernel), List.mem_of_getElem? (i := 1009) (by decide +kernel), List.mem_of_getElem? (i := 1010) (by decide +kernel)⟩
def lw_privs_2 : List (MethodName × Nat) := [(⟨"BoneStepsModel", "settle", "()V"⟩, 35), (⟨"BoneStepsModel", "farOf", "(IJJ)J"⟩, 35), (⟨"BoneStepsModel", "isFrame", "(II)Z"⟩, 35), (⟨"BoneStepsModel", "blended", "(IIII)I"⟩, 35), (⟨"BoneStepsModel", "intoLimits", "(II)I"⟩, 35), (⟨"BoneStepsModel", "likeness", "(II)I"⟩, 35), (⟨"BoneStepsModel", "findKeys", "(II)V"⟩, 35), (⟨"BoneStepsModel", "holds", "(IIII)Z"⟩, 35), (⟨"BoneStepsModel", "findLive", "()I"⟩, 35), (⟨"BoneStepsModel", "findCosts", "()V"⟩, 35), (⟨"BoneStepsModel", "isNode", "(I)Z"⟩, 35), (⟨"BoneStepsModel", "findDistances", "(I)V"⟩, 35), (⟨"BoneStepsModel", "met", "(I)I"⟩, 35), (⟨"BoneStepsModel", "lacks", "(III)I"⟩, 35), (⟨"BoneStepsModel", "lacksRow", "(II)I"⟩, 35)]
theorem lw_r2 : ∀ q ∈ lw_privs_2, lw_okq q := List.forall_mem_cons.mpr ⟨lw_p16, List.forall_mem_cons.mpr ⟨lw_p17, List.forall_mem_cons.mpr ⟨lw_p18, List.forall_mem_cons.mpr ⟨lw_p19, List.forall_mem_cons.mpr ⟨lw_p20, List.forall_mem_cons.mpr ⟨lw_p21, List.forall_mem_cons.mpr ⟨lw_p22, List.forall_mem_cons.mpr ⟨lw_p23, List.forall_mem_cons.mpr ⟨lw_p24, List.forall_mem_cons.mpr ⟨lw_p25, List.forall_mem_cons.mpr ⟨lw_p26, List.forall_mem_cons.mpr ⟨lw_p27, List.forall_mem_cons.mpr ⟨lw_p28, List.forall_mem_cons.mpr ⟨lw_p29, List.forall_mem_cons.mpr ⟨lw_p30, fun _ h => absurd h List.not_mem_nil⟩⟩⟩⟩⟩⟩⟩⟩⟩⟩⟩⟩⟩⟩⟩
def lw_privs : List (MethodName × Nat) := lw_privs_1 ++ (lw_privs_2)
def lw_tbl : List Cond := k2_sels lw_privs ++ tables_1
theorem lw_privs_ok : ∀ q ∈ lw_privs, lw_okq q := by
  show ∀ q ∈ lw_privs_1 ++ (lw_privs_2), lw_okq q
  exact List.forall_mem_append.mpr ⟨lw_r1, lw_r2⟩
end
section
/-! ===== BEGIN words of one list among another's, by their places ===== -/
theorem goodIn_r {big : List Cond} (ws : List Cond) (ps : List Nat) (hp : ws = ps.filterMap (fun i => big[i]?)) (h : ws.all goodWord = true) : GoodIn big ws := by
  intro w hw
  have h1 := List.all_eq_true.mp h w hw
  rw [hp] at hw
  obtain ⟨i, -, hi⟩ := List.mem_filterMap.mp hw
  have hm : w ∈ big := by first | exact List.mem_of_getElem? hi | exact List.getElem?_mem hi
  exact ⟨hm, good_of_word h1⟩
theorem goodIn_app {big a b : List Cond} (ha : GoodIn big a) (hb : GoodIn big b) : GoodIn big (a ++ b) := fun w h => (List.mem_append.mp h).elim (ha w) (hb w)
theorem goodIn_ca {big a b : List Cond} {c : Cond} (ha : GoodIn big (c :: a)) (hb : GoodIn big b) : GoodIn big (c :: (a ++ b)) := fun w h => (List.mem_cons.mp h).elim (fun e => ha w (List.mem_cons.mpr (Or.inl e))) (fun h => (List.mem_append.mp h).elim (fun h => ha w (List.mem_cons.mpr (Or.inr h))) (hb w))
theorem goodIn_sub {big ws : List Cond} (hm : ∀ w ∈ ws, w ∈ big) (h : ws.all goodWord = true) : GoodIn big ws := fun w hw => ⟨hm w hw, good_of_word (List.all_eq_true.mp h w hw)⟩
/-! ===== END ===== -/
def RX0 : String := "BoneSteps$Bone"
def TX0 : u_T := fun k => match k with
  | 0 => ("BoneSteps$Bone", "parent", "LBoneSteps$Bone;", true)
  | 1 => ("BoneSteps$Bone", "parentNumber", "I", true)
  | 2 => ("BoneSteps$Bone", "depth", "I", true)
  | 3 => ("BoneSteps$Bone", "length", "I", true)
  | 4 => ("BoneSteps$Bone", "low", "I", true)
  | 5 => ("BoneSteps$Bone", "spread", "I", true)
  | 6 => ("BoneSteps$Bone", "last", "I", true)
  | 7 => ("BoneSteps$Bone", "turn", "I", false)
  | 8 => ("BoneSteps$Bone", "startX", "J", false)
  | 9 => ("BoneSteps$Bone", "startY", "J", false)
  | 10 => ("BoneSteps$Bone", "directionX", "J", false)
  | 11 => ("BoneSteps$Bone", "directionY", "J", false)
  | 12 => ("BoneSteps$Bone", "endX", "J", false)
  | _ => ("BoneSteps$Bone", "endY", "J", false)
def tyX0 : Nat → FieldType := fun k => match k with
  | 0 => .object "BoneSteps$Bone"
  | 1 => .int
  | 2 => .int
  | 3 => .int
  | 4 => .int
  | 5 => .int
  | 6 => .int
  | 7 => .int
  | 8 => .long
  | 9 => .long
  | 10 => .long
  | 11 => .long
  | 12 => .long
  | _ => .long
abbrev wsX00 : List Cond := u_ws RX0 TX0 14
theorem nmX0 : ∀ a, a < 14 → ∀ b, b < 14 → a ≠ b → (TX0 a).2.1 ≠ (TX0 b).2.1 := by decide +kernel
theorem tyX0_ok : ∀ k, k < 14 → parseFieldDescriptor (TX0 k).2.2.1 = some (tyX0 k) := by decide +kernel
abbrev cX0_init : ByteArray := prog_2_method_1_code
def yX0_init : MethodName := ⟨RX0, "<init>", "(LBoneSteps$Bone;IIII)V"⟩
abbrev cX0_allows : ByteArray := prog_2_method_2_code
def yX0_allows : MethodName := ⟨RX0, "allows", "(I)Z"⟩
abbrev cX0_leastTurn : ByteArray := prog_2_method_3_code
def yX0_leastTurn : MethodName := ⟨RX0, "leastTurn", "()I"⟩
abbrev cX0_intoLimits : ByteArray := prog_2_method_4_code
def yX0_intoLimits : MethodName := ⟨RX0, "intoLimits", "(I)I"⟩
abbrev cX0_blended : ByteArray := prog_2_method_5_code
def yX0_blended : MethodName := ⟨RX0, "blended", "(III)I"⟩
abbrev cX0_takeTurn : ByteArray := prog_2_method_6_code
def yX0_takeTurn : MethodName := ⟨RX0, "takeTurn", "(I)I"⟩
abbrev cX0_place : ByteArray := prog_2_method_7_code
def yX0_place : MethodName := ⟨RX0, "place", "(JJ)V"⟩
abbrev cX0_farFrom : ByteArray := prog_2_method_8_code
def yX0_farFrom : MethodName := ⟨RX0, "farFrom", "(JJ)J"⟩
abbrev cX0_nearestTurn : ByteArray := prog_2_method_9_code
def yX0_nearestTurn : MethodName := ⟨RX0, "nearestTurn", "(LBoneSteps$Bone;JJI)I"⟩
abbrev cX0_farTurned : ByteArray := prog_2_method_10_code
def yX0_farTurned : MethodName := ⟨RX0, "farTurned", "(JJJJI)J"⟩
def RX1 : String := "BoneSteps$Clip"
def TX1 : u_T := fun k => match k with
  | 0 => ("BoneSteps$Clip", "frames", "[[I", true)
  | _ => ("BoneSteps$Clip", "size", "I", false)
def tyX1 : Nat → FieldType := fun k => match k with
  | 0 => .array (.array .int)
  | _ => .int
abbrev wsX10 : List Cond := u_ws RX1 TX1 2
theorem nmX1 : ∀ a, a < 2 → ∀ b, b < 2 → a ≠ b → (TX1 a).2.1 ≠ (TX1 b).2.1 := by decide +kernel
theorem tyX1_ok : ∀ k, k < 2 → parseFieldDescriptor (TX1 k).2.2.1 = some (tyX1 k) := by decide +kernel
abbrev cX1_init : ByteArray := prog_3_method_1_code
def yX1_init : MethodName := ⟨RX1, "<init>", "()V"⟩
def RX2 : String := "BoneSteps$Clips"
def TX2 : u_T := fun k => match k with
  | 0 => ("BoneSteps$Clips", "clips", "[LBoneSteps$Clip;", true)
  | _ => ("BoneSteps$Clips", "width", "I", false)
def tyX2 : Nat → FieldType := fun k => match k with
  | 0 => .array (.object "BoneSteps$Clip")
  | _ => .int
abbrev wsX20 : List Cond := u_ws RX2 TX2 2
theorem nmX2 : ∀ a, a < 2 → ∀ b, b < 2 → a ≠ b → (TX2 a).2.1 ≠ (TX2 b).2.1 := by decide +kernel
theorem tyX2_ok : ∀ k, k < 2 → parseFieldDescriptor (TX2 k).2.2.1 = some (tyX2 k) := by decide +kernel
abbrev cX2_init : ByteArray := prog_4_method_1_code
def yX2_init : MethodName := ⟨RX2, "<init>", "()V"⟩
abbrev cX2_find : ByteArray := prog_4_method_2_code
def yX2_find : MethodName := ⟨RX2, "find", "(I)LBoneSteps$Clip;"⟩
abbrev cX2_findFrame : ByteArray := prog_4_method_3_code
def yX2_findFrame : MethodName := ⟨RX2, "findFrame", "(II)[I"⟩
abbrev cX2_findSlot : ByteArray := prog_4_method_4_code
def yX2_findSlot : MethodName := ⟨RX2, "findSlot", "(I)[I"⟩
abbrev cX2_total : ByteArray := prog_4_method_5_code
def yX2_total : MethodName := ⟨RX2, "total", "()I"⟩
abbrev cX2_likeness : ByteArray := prog_4_method_6_code
def yX2_likeness : MethodName := ⟨RX2, "likeness", "([I[II)I"⟩
abbrev cX2_digestOn : ByteArray := prog_4_method_7_code
def yX2_digestOn : MethodName := ⟨RX2, "digestOn", "(J)J"⟩
def RX3 : String := "BoneSteps$Graph"
def TX3 : u_T := fun k => match k with
  | 0 => ("BoneSteps$Graph", "join", "I", false)
  | 1 => ("BoneSteps$Graph", "walkCost", "I", false)
  | 2 => ("BoneSteps$Graph", "path", "[I", true)
  | 3 => ("BoneSteps$Graph", "pathSize", "I", false)
  | 4 => ("BoneSteps$Graph", "slots", "[I", true)
  | 5 => ("BoneSteps$Graph", "slotCount", "I", false)
  | 6 => ("BoneSteps$Graph", "costs", "[I", true)
  | 7 => ("BoneSteps$Graph", "followers", "[I", true)
  | _ => ("BoneSteps$Graph", "settled", "[Z", true)
def tyX3 : Nat → FieldType := fun k => match k with
  | 0 => .int
  | 1 => .int
  | 2 => .array .int
  | 3 => .int
  | 4 => .array .int
  | 5 => .int
  | 6 => .array .int
  | 7 => .array .int
  | _ => .array .boolean
abbrev wsX30 : List Cond := u_ws RX3 TX3 9
theorem nmX3 : ∀ a, a < 9 → ∀ b, b < 9 → a ≠ b → (TX3 a).2.1 ≠ (TX3 b).2.1 := by decide +kernel
theorem tyX3_ok : ∀ k, k < 9 → parseFieldDescriptor (TX3 k).2.2.1 = some (tyX3 k) := by decide +kernel
abbrev cX3_init : ByteArray := prog_5_method_1_code
def yX3_init : MethodName := ⟨RX3, "<init>", "()V"⟩
abbrev cX3_lastJoined : ByteArray := prog_5_method_2_code
def yX3_lastJoined : MethodName := ⟨RX3, "lastJoined", "(LBoneSteps$Clips;I)I"⟩
abbrev cX3_isJoined : ByteArray := prog_5_method_3_code
def yX3_isJoined : MethodName := ⟨RX3, "isJoined", "(LBoneSteps$Clips;[II)Z"⟩
abbrev cX3_findWalk : ByteArray := prog_5_method_4_code
def yX3_findWalk : MethodName := ⟨RX3, "findWalk", "(LBoneSteps$Clips;II)V"⟩
abbrev cX3_begin : ByteArray := prog_5_method_5_code
def yX3_begin : MethodName := ⟨RX3, "begin", "(LBoneSteps$Clips;I)V"⟩
abbrev cX3_nearestOpen : ByteArray := prog_5_method_6_code
def yX3_nearestOpen : MethodName := ⟨RX3, "nearestOpen", "()I"⟩
abbrev cX3_reachFrom : ByteArray := prog_5_method_7_code
def yX3_reachFrom : MethodName := ⟨RX3, "reachFrom", "(LBoneSteps$Clips;I)V"⟩
abbrev cX3_wayCost : ByteArray := prog_5_method_8_code
def yX3_wayCost : MethodName := ⟨RX3, "wayCost", "(LBoneSteps$Clips;II)I"⟩
abbrev cX3_keepPath : ByteArray := prog_5_method_9_code
def yX3_keepPath : MethodName := ⟨RX3, "keepPath", "(II)V"⟩
def RX4 : String := "BoneSteps$Packing"
def TX4 : u_T := fun k => match k with
  | 0 => ("BoneSteps$Packing", "keys", "[I", true)
  | _ => ("BoneSteps$Packing", "size", "I", false)
def tyX4 : Nat → FieldType := fun k => match k with
  | 0 => .array .int
  | _ => .int
abbrev wsX40 : List Cond := u_ws RX4 TX4 2
theorem nmX4 : ∀ a, a < 2 → ∀ b, b < 2 → a ≠ b → (TX4 a).2.1 ≠ (TX4 b).2.1 := by decide +kernel
theorem tyX4_ok : ∀ k, k < 2 → parseFieldDescriptor (TX4 k).2.2.1 = some (tyX4 k) := by decide +kernel
abbrev cX4_init : ByteArray := prog_6_method_1_code
def yX4_init : MethodName := ⟨RX4, "<init>", "()V"⟩
abbrev cX4_findKeys : ByteArray := prog_6_method_2_code
def yX4_findKeys : MethodName := ⟨RX4, "findKeys", "(LBoneSteps$Skeleton;LBoneSteps$Clip;I)V"⟩
abbrev cX4_nextKey : ByteArray := prog_6_method_3_code
def yX4_nextKey : MethodName := ⟨RX4, "nextKey", "(LBoneSteps$Skeleton;LBoneSteps$Clip;II)I"⟩
abbrev cX4_spans : ByteArray := prog_6_method_4_code
def yX4_spans : MethodName := ⟨RX4, "spans", "(LBoneSteps$Skeleton;LBoneSteps$Clip;III)Z"⟩
abbrev cX4_keepKeys : ByteArray := prog_6_method_5_code
def yX4_keepKeys : MethodName := ⟨RX4, "keepKeys", "(LBoneSteps$Clip;)V"⟩
def RX5 : String := "BoneSteps$Sheet"
def TX5 : u_T := fun k => match k with
  | 0 => ("BoneSteps$Sheet", "items", "[I", true)
  | 1 => ("BoneSteps$Sheet", "lost", "Z", false)
  | 2 => ("BoneSteps$Sheet", "form", "I", false)
  | _ => ("BoneSteps$Sheet", "size", "I", false)
def tyX5 : Nat → FieldType := fun k => match k with
  | 0 => .array .int
  | 1 => .boolean
  | 2 => .int
  | _ => .int
abbrev wsX50 : List Cond := u_ws RX5 TX5 4
theorem nmX5 : ∀ a, a < 4 → ∀ b, b < 4 → a ≠ b → (TX5 a).2.1 ≠ (TX5 b).2.1 := by decide +kernel
theorem tyX5_ok : ∀ k, k < 4 → parseFieldDescriptor (TX5 k).2.2.1 = some (tyX5 k) := by decide +kernel
abbrev cX5_init : ByteArray := prog_7_method_1_code
def yX5_init : MethodName := ⟨RX5, "<init>", "()V"⟩
abbrev cX5_begin : ByteArray := prog_7_method_2_code
def yX5_begin : MethodName := ⟨RX5, "begin", "(II)V"⟩
abbrev cX5_holds : ByteArray := prog_7_method_3_code
def yX5_holds : MethodName := ⟨RX5, "holds", "(II)Z"⟩
abbrev cX5_wrongItem : ByteArray := prog_7_method_4_code
def yX5_wrongItem : MethodName := ⟨RX5, "wrongItem", "(II)I"⟩
abbrev cX5_wrongPose : ByteArray := prog_7_method_5_code
def yX5_wrongPose : MethodName := ⟨RX5, "wrongPose", "(II)I"⟩
abbrev cX5_store : ByteArray := prog_7_method_6_code
def yX5_store : MethodName := ⟨RX5, "store", "(II)V"⟩
def RX6 : String := "BoneSteps$Skeleton"
def TX6 : u_T := fun k => match k with
  | 0 => ("BoneSteps$Skeleton", "bones", "[LBoneSteps$Bone;", true)
  | 1 => ("BoneSteps$Skeleton", "size", "I", false)
  | 2 => ("BoneSteps$Skeleton", "locked", "I", false)
  | 3 => ("BoneSteps$Skeleton", "rootX", "J", false)
  | _ => ("BoneSteps$Skeleton", "rootY", "J", false)
def tyX6 : Nat → FieldType := fun k => match k with
  | 0 => .array (.object "BoneSteps$Bone")
  | 1 => .int
  | 2 => .int
  | 3 => .long
  | _ => .long
abbrev wsX60 : List Cond := u_ws RX6 TX6 5
theorem nmX6 : ∀ a, a < 5 → ∀ b, b < 5 → a ≠ b → (TX6 a).2.1 ≠ (TX6 b).2.1 := by decide +kernel
theorem tyX6_ok : ∀ k, k < 5 → parseFieldDescriptor (TX6 k).2.2.1 = some (tyX6 k) := by decide +kernel
abbrev cX6_init : ByteArray := prog_8_method_1_code
def yX6_init : MethodName := ⟨RX6, "<init>", "()V"⟩
abbrev cX6_find : ByteArray := prog_8_method_2_code
def yX6_find : MethodName := ⟨RX6, "find", "(I)LBoneSteps$Bone;"⟩
abbrev cX6_grow : ByteArray := prog_8_method_3_code
def yX6_grow : MethodName := ⟨RX6, "grow", "(LBoneSteps$Bone;)I"⟩
abbrev cX6_moveRoot : ByteArray := prog_8_method_4_code
def yX6_moveRoot : MethodName := ⟨RX6, "moveRoot", "(JJ)V"⟩
abbrev cX6_place : ByteArray := prog_8_method_5_code
def yX6_place : MethodName := ⟨RX6, "place", "()V"⟩
abbrev cX6_settle : ByteArray := prog_8_method_6_code
def yX6_settle : MethodName := ⟨RX6, "settle", "()V"⟩
abbrev cX6_tellTurns : ByteArray := prog_8_method_7_code
def yX6_tellTurns : MethodName := ⟨RX6, "tellTurns", "([I)V"⟩
abbrev cX6_takeTurns : ByteArray := prog_8_method_8_code
def yX6_takeTurns : MethodName := ⟨RX6, "takeTurns", "([I)V"⟩
abbrev cX6_blendWith : ByteArray := prog_8_method_9_code
def yX6_blendWith : MethodName := ⟨RX6, "blendWith", "([III)V"⟩
abbrev cX6_addDifference : ByteArray := prog_8_method_10_code
def yX6_addDifference : MethodName := ⟨RX6, "addDifference", "([I[I)I"⟩
abbrev cX6_takeItems : ByteArray := prog_8_method_11_code
def yX6_takeItems : MethodName := ⟨RX6, "takeItems", "([II)I"⟩
abbrev cX6_reachByTwo : ByteArray := prog_8_method_12_code
def yX6_reachByTwo : MethodName := ⟨RX6, "reachByTwo", "(LBoneSteps$Bone;JJ)V"⟩
abbrev cX6_reachByRounds : ByteArray := prog_8_method_13_code
def yX6_reachByRounds : MethodName := ⟨RX6, "reachByRounds", "(LBoneSteps$Bone;JJI)V"⟩
abbrev cX6_reachByRound : ByteArray := prog_8_method_14_code
def yX6_reachByRound : MethodName := ⟨RX6, "reachByRound", "(LBoneSteps$Bone;JJ)Z"⟩
abbrev cX6_digestOn : ByteArray := prog_8_method_15_code
def yX6_digestOn : MethodName := ⟨RX6, "digestOn", "(J)J"⟩
def RX7 : String := "BoneSteps$Turns"
def TX7 : u_T := fun k => match k with
  | _ => ("", "", "", false)
def tyX7 : Nat → FieldType := fun k => match k with
  | _ => .int
abbrev wsX70 : List Cond := u_ws RX7 TX7 0
theorem nmX7 : ∀ a, a < 0 → ∀ b, b < 0 → a ≠ b → (TX7 a).2.1 ≠ (TX7 b).2.1 := by decide +kernel
theorem tyX7_ok : ∀ k, k < 0 → parseFieldDescriptor (TX7 k).2.2.1 = some (tyX7 k) := by decide +kernel
abbrev cX7_normal : ByteArray := prog_9_method_2_code
def yX7_normal : MethodName := ⟨RX7, "normal", "(I)I"⟩
abbrev cX7_cosine : ByteArray := prog_9_method_3_code
def yX7_cosine : MethodName := ⟨RX7, "cosine", "(I)I"⟩
abbrev cX7_sine : ByteArray := prog_9_method_4_code
def yX7_sine : MethodName := ⟨RX7, "sine", "(I)I"⟩
abbrev cX7_shortWay : ByteArray := prog_9_method_5_code
def yX7_shortWay : MethodName := ⟨RX7, "shortWay", "(II)I"⟩
abbrev cX7_distance : ByteArray := prog_9_method_6_code
def yX7_distance : MethodName := ⟨RX7, "distance", "(II)I"⟩
def RX8 : String := "BoneSteps"
def TX8 : u_T := fun k => match k with
  | 0 => ("BoneSteps", "skeleton", "LBoneSteps$Skeleton;", true)
  | 1 => ("BoneSteps", "clips", "LBoneSteps$Clips;", true)
  | 2 => ("BoneSteps", "packing", "LBoneSteps$Packing;", true)
  | 3 => ("BoneSteps", "graph", "LBoneSteps$Graph;", true)
  | 4 => ("BoneSteps", "sheets", "[LBoneSteps$Sheet;", true)
  | _ => ("BoneSteps", "finding", "I", false)
def tyX8 : Nat → FieldType := fun k => match k with
  | 0 => .object "BoneSteps$Skeleton"
  | 1 => .object "BoneSteps$Clips"
  | 2 => .object "BoneSteps$Packing"
  | 3 => .object "BoneSteps$Graph"
  | 4 => .array (.object "BoneSteps$Sheet")
  | _ => .int
abbrev wsX80 : List Cond := u_ws RX8 TX8 6
theorem nmX8 : ∀ a, a < 6 → ∀ b, b < 6 → a ≠ b → (TX8 a).2.1 ≠ (TX8 b).2.1 := by decide +kernel
theorem tyX8_ok : ∀ k, k < 6 → parseFieldDescriptor (TX8 k).2.2.1 = some (tyX8 k) := by decide +kernel
abbrev cX8_init : ByteArray := prog_1_method_1_code
def yX8_init : MethodName := ⟨RX8, "<init>", "()V"⟩
abbrev cX8_bone : ByteArray := prog_1_method_2_code
def yX8_bone : MethodName := ⟨RX8, "bone", "(IIII)I"⟩
abbrev cX8_about : ByteArray := prog_1_method_3_code
def yX8_about : MethodName := ⟨RX8, "about", "(II)I"⟩
abbrev cX8_turn : ByteArray := prog_1_method_4_code
def yX8_turn : MethodName := ⟨RX8, "turn", "(II)I"⟩
abbrev cX8_root : ByteArray := prog_1_method_5_code
def yX8_root : MethodName := ⟨RX8, "root", "(JJ)I"⟩
abbrev cX8_end : ByteArray := prog_1_method_6_code
def yX8_end : MethodName := ⟨RX8, "end", "(II)J"⟩
abbrev cX8_far : ByteArray := prog_1_method_7_code
def yX8_far : MethodName := ⟨RX8, "far", "(IJJ)J"⟩
abbrev cX8_lock : ByteArray := prog_1_method_8_code
def yX8_lock : MethodName := ⟨RX8, "lock", "(I)I"⟩
abbrev cX8_two : ByteArray := prog_1_method_9_code
def yX8_two : MethodName := ⟨RX8, "two", "(IJJ)J"⟩
abbrev cX8_rounds : ByteArray := prog_1_method_10_code
def yX8_rounds : MethodName := ⟨RX8, "rounds", "(IJJI)J"⟩
abbrev cX8_frame : ByteArray := prog_1_method_11_code
def yX8_frame : MethodName := ⟨RX8, "frame", "(I)I"⟩
abbrev cX8_clear : ByteArray := prog_1_method_12_code
def yX8_clear : MethodName := ⟨RX8, "clear", "(I)I"⟩
abbrev cX8_show : ByteArray := prog_1_method_13_code
def yX8_show : MethodName := ⟨RX8, "show", "(II)I"⟩
abbrev cX8_at : ByteArray := prog_1_method_14_code
def yX8_at : MethodName := ⟨RX8, "at", "(III)I"⟩
abbrev cX8_blend : ByteArray := prog_1_method_15_code
def yX8_blend : MethodName := ⟨RX8, "blend", "(IIII)I"⟩
abbrev cX8_add : ByteArray := prog_1_method_16_code
def yX8_add : MethodName := ⟨RX8, "add", "(III)I"⟩
abbrev cX8_like : ByteArray := prog_1_method_17_code
def yX8_like : MethodName := ⟨RX8, "like", "(IIII)I"⟩
abbrev cX8_pack : ByteArray := prog_1_method_18_code
def yX8_pack : MethodName := ⟨RX8, "pack", "(II)I"⟩
abbrev cX8_key : ByteArray := prog_1_method_19_code
def yX8_key : MethodName := ⟨RX8, "key", "(I)I"⟩
abbrev cX8_thin : ByteArray := prog_1_method_20_code
def yX8_thin : MethodName := ⟨RX8, "thin", "(II)I"⟩
abbrev cX8_join : ByteArray := prog_1_method_21_code
def yX8_join : MethodName := ⟨RX8, "join", "(I)I"⟩
abbrev cX8_live : ByteArray := prog_1_method_22_code
def yX8_live : MethodName := ⟨RX8, "live", "()I"⟩
abbrev cX8_isLive : ByteArray := prog_1_method_23_code
def yX8_isLive : MethodName := ⟨RX8, "isLive", "(II)I"⟩
abbrev cX8_walk : ByteArray := prog_1_method_24_code
def yX8_walk : MethodName := ⟨RX8, "walk", "(IIII)I"⟩
abbrev cX8_step : ByteArray := prog_1_method_25_code
def yX8_step : MethodName := ⟨RX8, "step", "(I)I"⟩
abbrev cX8_sheet : ByteArray := prog_1_method_26_code
def yX8_sheet : MethodName := ⟨RX8, "sheet", "(III)I"⟩
abbrev cX8_lose : ByteArray := prog_1_method_27_code
def yX8_lose : MethodName := ⟨RX8, "lose", "(I)I"⟩
abbrev cX8_put : ByteArray := prog_1_method_28_code
def yX8_put : MethodName := ⟨RX8, "put", "(IIII)I"⟩
abbrev cX8_get : ByteArray := prog_1_method_29_code
def yX8_get : MethodName := ⟨RX8, "get", "(III)I"⟩
abbrev cX8_copy : ByteArray := prog_1_method_30_code
def yX8_copy : MethodName := ⟨RX8, "copy", "(IIIII)I"⟩
abbrev cX8_pose : ByteArray := prog_1_method_31_code
def yX8_pose : MethodName := ⟨RX8, "pose", "(II)I"⟩
abbrev cX8_write : ByteArray := prog_1_method_32_code
def yX8_write : MethodName := ⟨RX8, "write", "(II)I"⟩
abbrev cX8_count : ByteArray := prog_1_method_33_code
def yX8_count : MethodName := ⟨RX8, "count", "(I)I"⟩
abbrev cX8_digest : ByteArray := prog_1_method_34_code
def yX8_digest : MethodName := ⟨RX8, "digest", "()J"⟩
abbrev cX8_isIn : ByteArray := prog_1_method_35_code
def yX8_isIn : MethodName := ⟨RX8, "isIn", "(JJJ)Z"⟩
abbrev cX8_isTurn : ByteArray := prog_1_method_36_code
def yX8_isTurn : MethodName := ⟨RX8, "isTurn", "(I)Z"⟩
abbrev cX8_isPlace : ByteArray := prog_1_method_37_code
def yX8_isPlace : MethodName := ⟨RX8, "isPlace", "(JJ)Z"⟩
abbrev cX8_isForm : ByteArray := prog_1_method_38_code
def yX8_isForm : MethodName := ⟨RX8, "isForm", "(I)Z"⟩
abbrev cX8_asLong : ByteArray := prog_1_method_39_code
def yX8_asLong : MethodName := ⟨RX8, "asLong", "(I)J"⟩
abbrev cX8_found : ByteArray := prog_1_method_40_code
def yX8_found : MethodName := ⟨RX8, "found", "(I)I"⟩
abbrev cX8_findSheet : ByteArray := prog_1_method_41_code
def yX8_findSheet : MethodName := ⟨RX8, "findSheet", "(I)LBoneSteps$Sheet;"⟩
def RX9 : String := "BoneStepsModel"
def TX9 : u_T := fun k => match k with
  | 0 => ("BoneStepsModel", "cs", "[I", true)
  | 1 => ("BoneStepsModel", "ss", "[I", true)
  | 2 => ("BoneStepsModel", "bones", "I", false)
  | 3 => ("BoneStepsModel", "parent", "[I", true)
  | 4 => ("BoneStepsModel", "length", "[I", true)
  | 5 => ("BoneStepsModel", "low", "[I", true)
  | 6 => ("BoneStepsModel", "spread", "[I", true)
  | 7 => ("BoneStepsModel", "depth", "[I", true)
  | 8 => ("BoneStepsModel", "pose", "[I", true)
  | 9 => ("BoneStepsModel", "rootX", "J", false)
  | 10 => ("BoneStepsModel", "rootY", "J", false)
  | 11 => ("BoneStepsModel", "locked", "I", false)
  | 12 => ("BoneStepsModel", "dirX", "[J", true)
  | 13 => ("BoneStepsModel", "dirY", "[J", true)
  | 14 => ("BoneStepsModel", "endX", "[J", true)
  | 15 => ("BoneStepsModel", "endY", "[J", true)
  | 16 => ("BoneStepsModel", "keptX", "J", false)
  | 17 => ("BoneStepsModel", "keptY", "J", false)
  | 18 => ("BoneStepsModel", "size", "[I", true)
  | 19 => ("BoneStepsModel", "clips", "[I", true)
  | 20 => ("BoneStepsModel", "keys", "I", false)
  | 21 => ("BoneStepsModel", "key", "[I", true)
  | 22 => ("BoneStepsModel", "join", "I", false)
  | 23 => ("BoneStepsModel", "cost", "[I", true)
  | 24 => ("BoneStepsModel", "isLive", "[Z", true)
  | 25 => ("BoneStepsModel", "dist", "[I", true)
  | 26 => ("BoneStepsModel", "isDone", "[Z", true)
  | 27 => ("BoneStepsModel", "walked", "I", false)
  | 28 => ("BoneStepsModel", "steps", "I", false)
  | 29 => ("BoneStepsModel", "path", "[I", true)
  | 30 => ("BoneStepsModel", "forms", "[I", true)
  | 31 => ("BoneStepsModel", "sizes", "[I", true)
  | 32 => ("BoneStepsModel", "items", "[I", true)
  | 33 => ("BoneStepsModel", "moved", "[I", true)
  | _ => ("BoneStepsModel", "latest", "I", false)
def tyX9 : Nat → FieldType := fun k => match k with
  | 0 => .array .int
  | 1 => .array .int
  | 2 => .int
  | 3 => .array .int
  | 4 => .array .int
  | 5 => .array .int
  | 6 => .array .int
  | 7 => .array .int
  | 8 => .array .int
  | 9 => .long
  | 10 => .long
  | 11 => .int
  | 12 => .array .long
  | 13 => .array .long
  | 14 => .array .long
  | 15 => .array .long
  | 16 => .long
  | 17 => .long
  | 18 => .array .int
  | 19 => .array .int
  | 20 => .int
  | 21 => .array .int
  | 22 => .int
  | 23 => .array .int
  | 24 => .array .boolean
  | 25 => .array .int
  | 26 => .array .boolean
  | 27 => .int
  | 28 => .int
  | 29 => .array .int
  | 30 => .array .int
  | 31 => .array .int
  | 32 => .array .int
  | 33 => .array .int
  | _ => .int
abbrev wsX90 : List Cond := u_ws RX9 TX9 35
theorem nmX9 : ∀ a, a < 35 → ∀ b, b < 35 → a ≠ b → (TX9 a).2.1 ≠ (TX9 b).2.1 := by decide +kernel
theorem tyX9_ok : ∀ k, k < 35 → parseFieldDescriptor (TX9 k).2.2.1 = some (tyX9 k) := by decide +kernel
abbrev cX9_init : ByteArray := prog_11_method_1_code
def yX9_init : MethodName := ⟨RX9, "<init>", "()V"⟩
abbrev cX9_in : ByteArray := prog_11_method_3_code
def yX9_in : MethodName := ⟨RX9, "in", "(JJJ)Z"⟩
abbrev cX9_no : ByteArray := prog_11_method_4_code
def yX9_no : MethodName := ⟨RX9, "no", "(I)J"⟩
abbrev cX9_round : ByteArray := prog_11_method_5_code
def yX9_round : MethodName := ⟨RX9, "round", "(I)I"⟩
abbrev cX9_shortWay : ByteArray := prog_11_method_6_code
def yX9_shortWay : MethodName := ⟨RX9, "shortWay", "(II)I"⟩
abbrev cX9_amount : ByteArray := prog_11_method_7_code
def yX9_amount : MethodName := ⟨RX9, "amount", "(I)I"⟩
abbrev cX9_isWithin : ByteArray := prog_11_method_8_code
def yX9_isWithin : MethodName := ⟨RX9, "isWithin", "(II)Z"⟩
abbrev cX9_intoLimits : ByteArray := prog_11_method_9_code
def yX9_intoLimits : MethodName := ⟨RX9, "intoLimits", "(II)I"⟩
abbrev cX9_isBone : ByteArray := prog_11_method_10_code
def yX9_isBone : MethodName := ⟨RX9, "isBone", "(I)Z"⟩
abbrev cX9_isPlace : ByteArray := prog_11_method_11_code
def yX9_isPlace : MethodName := ⟨RX9, "isPlace", "(JJ)Z"⟩
abbrev cX9_frames : ByteArray := prog_11_method_12_code
def yX9_frames : MethodName := ⟨RX9, "frames", "()I"⟩
abbrev cX9_bone : ByteArray := prog_11_method_13_code
def yX9_bone : MethodName := ⟨RX9, "bone", "(IIII)I"⟩
abbrev cX9_about : ByteArray := prog_11_method_14_code
def yX9_about : MethodName := ⟨RX9, "about", "(II)I"⟩
abbrev cX9_place : ByteArray := prog_11_method_15_code
def yX9_place : MethodName := ⟨RX9, "place", "()V"⟩
abbrev cX9_hold : ByteArray := prog_11_method_16_code
def yX9_hold : MethodName := ⟨RX9, "hold", "()V"⟩
abbrev cX9_settle : ByteArray := prog_11_method_17_code
def yX9_settle : MethodName := ⟨RX9, "settle", "()V"⟩
abbrev cX9_turn : ByteArray := prog_11_method_18_code
def yX9_turn : MethodName := ⟨RX9, "turn", "(II)I"⟩
abbrev cX9_root : ByteArray := prog_11_method_19_code
def yX9_root : MethodName := ⟨RX9, "root", "(JJ)I"⟩
abbrev cX9_end : ByteArray := prog_11_method_20_code
def yX9_end : MethodName := ⟨RX9, "end", "(II)J"⟩
abbrev cX9_farOf : ByteArray := prog_11_method_21_code
def yX9_farOf : MethodName := ⟨RX9, "farOf", "(IJJ)J"⟩
abbrev cX9_far : ByteArray := prog_11_method_22_code
def yX9_far : MethodName := ⟨RX9, "far", "(IJJ)J"⟩
abbrev cX9_lock : ByteArray := prog_11_method_23_code
def yX9_lock : MethodName := ⟨RX9, "lock", "(I)I"⟩
abbrev cX9_two : ByteArray := prog_11_method_24_code
def yX9_two : MethodName := ⟨RX9, "two", "(IJJ)J"⟩
abbrev cX9_rounds : ByteArray := prog_11_method_25_code
def yX9_rounds : MethodName := ⟨RX9, "rounds", "(IJJI)J"⟩
abbrev cX9_spot : ByteArray := prog_11_method_26_code
def yX9_spot : MethodName := ⟨RX9, "spot", "(II)I"⟩
abbrev cX9_isClip : ByteArray := prog_11_method_27_code
def yX9_isClip : MethodName := ⟨RX9, "isClip", "(I)Z"⟩
abbrev cX9_isFrame : ByteArray := prog_11_method_28_code
def yX9_isFrame : MethodName := ⟨RX9, "isFrame", "(II)Z"⟩
abbrev cX9_frame : ByteArray := prog_11_method_29_code
def yX9_frame : MethodName := ⟨RX9, "frame", "(I)I"⟩
abbrev cX9_clear : ByteArray := prog_11_method_30_code
def yX9_clear : MethodName := ⟨RX9, "clear", "(I)I"⟩
abbrev cX9_show : ByteArray := prog_11_method_31_code
def yX9_show : MethodName := ⟨RX9, "show", "(II)I"⟩
abbrev cX9_at : ByteArray := prog_11_method_32_code
def yX9_at : MethodName := ⟨RX9, "at", "(III)I"⟩
abbrev cX9_blended : ByteArray := prog_11_method_33_code
def yX9_blended : MethodName := ⟨RX9, "blended", "(IIII)I"⟩
abbrev cX9_blend : ByteArray := prog_11_method_34_code
def yX9_blend : MethodName := ⟨RX9, "blend", "(IIII)I"⟩
abbrev cX9_add : ByteArray := prog_11_method_35_code
def yX9_add : MethodName := ⟨RX9, "add", "(III)I"⟩
abbrev cX9_likeness : ByteArray := prog_11_method_36_code
def yX9_likeness : MethodName := ⟨RX9, "likeness", "(II)I"⟩
abbrev cX9_like : ByteArray := prog_11_method_37_code
def yX9_like : MethodName := ⟨RX9, "like", "(IIII)I"⟩
abbrev cX9_holds : ByteArray := prog_11_method_38_code
def yX9_holds : MethodName := ⟨RX9, "holds", "(IIII)Z"⟩
abbrev cX9_findKeys : ByteArray := prog_11_method_39_code
def yX9_findKeys : MethodName := ⟨RX9, "findKeys", "(II)V"⟩
abbrev cX9_pack : ByteArray := prog_11_method_40_code
def yX9_pack : MethodName := ⟨RX9, "pack", "(II)I"⟩
abbrev cX9_key : ByteArray := prog_11_method_41_code
def yX9_key : MethodName := ⟨RX9, "key", "(I)I"⟩
abbrev cX9_thin : ByteArray := prog_11_method_42_code
def yX9_thin : MethodName := ⟨RX9, "thin", "(II)I"⟩
abbrev cX9_join : ByteArray := prog_11_method_43_code
def yX9_join : MethodName := ⟨RX9, "join", "(I)I"⟩
abbrev cX9_isNode : ByteArray := prog_11_method_44_code
def yX9_isNode : MethodName := ⟨RX9, "isNode", "(I)Z"⟩
abbrev cX9_findCosts : ByteArray := prog_11_method_45_code
def yX9_findCosts : MethodName := ⟨RX9, "findCosts", "()V"⟩
abbrev cX9_findLive : ByteArray := prog_11_method_46_code
def yX9_findLive : MethodName := ⟨RX9, "findLive", "()I"⟩
abbrev cX9_live : ByteArray := prog_11_method_47_code
def yX9_live : MethodName := ⟨RX9, "live", "()I"⟩
abbrev cX9_isLive : ByteArray := prog_11_method_48_code
def yX9_isLive : MethodName := ⟨RX9, "isLive", "(II)I"⟩
abbrev cX9_findDistances : ByteArray := prog_11_method_49_code
def yX9_findDistances : MethodName := ⟨RX9, "findDistances", "(I)V"⟩
abbrev cX9_walk : ByteArray := prog_11_method_50_code
def yX9_walk : MethodName := ⟨RX9, "walk", "(IIII)I"⟩
abbrev cX9_step : ByteArray := prog_11_method_51_code
def yX9_step : MethodName := ⟨RX9, "step", "(I)I"⟩
abbrev cX9_met : ByteArray := prog_11_method_52_code
def yX9_met : MethodName := ⟨RX9, "met", "(I)I"⟩
abbrev cX9_isSheet : ByteArray := prog_11_method_53_code
def yX9_isSheet : MethodName := ⟨RX9, "isSheet", "(I)Z"⟩
abbrev cX9_sheet : ByteArray := prog_11_method_54_code
def yX9_sheet : MethodName := ⟨RX9, "sheet", "(III)I"⟩
abbrev cX9_lose : ByteArray := prog_11_method_55_code
def yX9_lose : MethodName := ⟨RX9, "lose", "(I)I"⟩
abbrev cX9_lacks : ByteArray := prog_11_method_56_code
def yX9_lacks : MethodName := ⟨RX9, "lacks", "(III)I"⟩
abbrev cX9_put : ByteArray := prog_11_method_57_code
def yX9_put : MethodName := ⟨RX9, "put", "(IIII)I"⟩
abbrev cX9_get : ByteArray := prog_11_method_58_code
def yX9_get : MethodName := ⟨RX9, "get", "(III)I"⟩
abbrev cX9_copy : ByteArray := prog_11_method_59_code
def yX9_copy : MethodName := ⟨RX9, "copy", "(IIIII)I"⟩
abbrev cX9_lacksRow : ByteArray := prog_11_method_60_code
def yX9_lacksRow : MethodName := ⟨RX9, "lacksRow", "(II)I"⟩
abbrev cX9_pose : ByteArray := prog_11_method_61_code
def yX9_pose : MethodName := ⟨RX9, "pose", "(II)I"⟩
abbrev cX9_write : ByteArray := prog_11_method_62_code
def yX9_write : MethodName := ⟨RX9, "write", "(II)I"⟩
abbrev cX9_count : ByteArray := prog_11_method_63_code
def yX9_count : MethodName := ⟨RX9, "count", "(I)I"⟩
abbrev cX9_digest : ByteArray := prog_11_method_64_code
def yX9_digest : MethodName := ⟨RX9, "digest", "()J"⟩
def RJ9 : String := "java/lang/Math"
def TJ9 : u_T := fun k => match k with
  | _ => ("", "", "", false)
def tyJ9 : Nat → FieldType := fun k => match k with
  | _ => .int
abbrev wsJ90 : List Cond := u_ws RJ9 TJ9 0
theorem nmJ9 : ∀ a, a < 0 → ∀ b, b < 0 → a ≠ b → (TJ9 a).2.1 ≠ (TJ9 b).2.1 := by decide +kernel
theorem tyJ9_ok : ∀ k, k < 0 → parseFieldDescriptor (TJ9 k).2.2.1 = some (tyJ9 k) := by decide +kernel
abbrev cJ9_floorMod_7cf53 : ByteArray := prog_12_method_50_code
def yJ9_floorMod_7cf53 : MethodName := ⟨RJ9, "floorMod", "(II)I"⟩
abbrev cJ9_abs_067f4 : ByteArray := prog_12_method_61_code
def yJ9_abs_067f4 : MethodName := ⟨RJ9, "abs", "(J)J"⟩
abbrev cJ9_max_f86c9 : ByteArray := prog_12_method_66_code
def yJ9_max_f86c9 : MethodName := ⟨RJ9, "max", "(JJ)J"⟩
def RJ10 : String := "java/lang/System"
def TJ10 : u_T := fun k => match k with
  | _ => ("", "", "", false)
def tyJ10 : Nat → FieldType := fun k => match k with
  | _ => .int
abbrev wsJ100 : List Cond := u_ws RJ10 TJ10 0
theorem nmJ10 : ∀ a, a < 0 → ∀ b, b < 0 → a ≠ b → (TJ10 a).2.1 ≠ (TJ10 b).2.1 := by decide +kernel
theorem tyJ10_ok : ∀ k, k < 0 → parseFieldDescriptor (TJ10 k).2.2.1 = some (tyJ10 k) := by decide +kernel
def RJ7 : String := "java/util/Arrays"
def TJ7 : u_T := fun k => match k with
  | _ => ("", "", "", false)
def tyJ7 : Nat → FieldType := fun k => match k with
  | _ => .int
abbrev wsJ70 : List Cond := u_ws RJ7 TJ7 0
theorem nmJ7 : ∀ a, a < 0 → ∀ b, b < 0 → a ≠ b → (TJ7 a).2.1 ≠ (TJ7 b).2.1 := by decide +kernel
theorem tyJ7_ok : ∀ k, k < 0 → parseFieldDescriptor (TJ7 k).2.2.1 = some (tyJ7 k) := by decide +kernel
abbrev cJ7_fill_53178 : ByteArray := prog_14_method_103_code
def yJ7_fill_53178 : MethodName := ⟨RJ7, "fill", "([II)V"⟩
def RL : String := "BoneStepsLaw"
abbrev cL_law : ByteArray := code
def yL_law : MethodName := ⟨RL, "law", "([I)Z"⟩
abbrev vwCl : List vw_C := [(RX0, TX0, 14), (RX1, TX1, 2), (RX2, TX2, 2), (RX3, TX3, 9), (RX4, TX4, 2), (RX5, TX5, 4), (RX6, TX6, 5), (RX8, TX8, 6), (RX9, TX9, 35)]
end
section
theorem dX0_init_0 : decode cX0_init 0 = .ok (.aload_n 0, 1) := by decide +kernel
theorem dX0_init_1 : decode cX0_init 1 = .ok (.invokespecial 3, 3) := by decide +kernel
theorem dX0_init_4 : decode cX0_init 4 = .ok (.aload_n 0, 1) := by decide +kernel
theorem dX0_init_5 : decode cX0_init 5 = .ok (.aload_n 1, 1) := by decide +kernel
theorem dX0_init_6 : decode cX0_init 6 = .ok (.putfield 9, 3) := by decide +kernel
theorem dX0_init_9 : decode cX0_init 9 = .ok (.aload_n 0, 1) := by decide +kernel
theorem dX0_init_10 : decode cX0_init 10 = .ok (.iload_n 2, 1) := by decide +kernel
theorem dX0_init_11 : decode cX0_init 11 = .ok (.putfield 15, 3) := by decide +kernel
theorem dX0_init_14 : decode cX0_init 14 = .ok (.aload_n 0, 1) := by decide +kernel
theorem dX0_init_15 : decode cX0_init 15 = .ok (.aload_n 1, 1) := by decide +kernel
theorem dX0_init_16 : decode cX0_init 16 = .ok (.ifnonnull 7, 3) := by decide +kernel
theorem dX0_init_19 : decode cX0_init 19 = .ok (.iconst 1, 1) := by decide +kernel
theorem dX0_init_20 : decode cX0_init 20 = .ok (.goto 9, 3) := by decide +kernel
theorem dX0_init_23 : decode cX0_init 23 = .ok (.aload_n 1, 1) := by decide +kernel
theorem dX0_init_24 : decode cX0_init 24 = .ok (.getfield 19, 3) := by decide +kernel
theorem dX0_init_27 : decode cX0_init 27 = .ok (.iconst 1, 1) := by decide +kernel
theorem dX0_init_28 : decode cX0_init 28 = .ok (.iadd, 1) := by decide +kernel
theorem dX0_init_29 : decode cX0_init 29 = .ok (.putfield 19, 3) := by decide +kernel
theorem dX0_init_32 : decode cX0_init 32 = .ok (.aload_n 0, 1) := by decide +kernel
theorem dX0_init_33 : decode cX0_init 33 = .ok (.iload_n 3, 1) := by decide +kernel
theorem dX0_init_34 : decode cX0_init 34 = .ok (.putfield 22, 3) := by decide +kernel
theorem dX0_init_37 : decode cX0_init 37 = .ok (.aload_n 0, 1) := by decide +kernel
theorem dX0_init_38 : decode cX0_init 38 = .ok (.iload 4, 2) := by decide +kernel
theorem dX0_init_40 : decode cX0_init 40 = .ok (.putfield 25, 3) := by decide +kernel
theorem dX0_init_43 : decode cX0_init 43 = .ok (.aload_n 0, 1) := by decide +kernel
theorem dX0_init_44 : decode cX0_init 44 = .ok (.iload 5, 2) := by decide +kernel
theorem dX0_init_46 : decode cX0_init 46 = .ok (.putfield 28, 3) := by decide +kernel
theorem dX0_init_49 : decode cX0_init 49 = .ok (.aload_n 0, 1) := by decide +kernel
theorem dX0_init_50 : decode cX0_init 50 = .ok (.iload 4, 2) := by decide +kernel
theorem dX0_init_52 : decode cX0_init 52 = .ok (.iload 5, 2) := by decide +kernel
theorem dX0_init_54 : decode cX0_init 54 = .ok (.iadd, 1) := by decide +kernel
theorem dX0_init_55 : decode cX0_init 55 = .ok (.bipush 36, 2) := by decide +kernel
theorem dX0_init_57 : decode cX0_init 57 = .ok (.irem, 1) := by decide +kernel
theorem dX0_init_58 : decode cX0_init 58 = .ok (.putfield 31, 3) := by decide +kernel
theorem dX0_init_61 : decode cX0_init 61 = .ok (.aload_n 0, 1) := by decide +kernel
theorem dX0_init_62 : decode cX0_init 62 = .ok (.iload 4, 2) := by decide +kernel
theorem dX0_init_64 : decode cX0_init 64 = .ok (.putfield 34, 3) := by decide +kernel
theorem dX0_init_67 : decode cX0_init 67 = .ok (.return_, 1) := by decide +kernel
theorem dX0_allows_0 : decode cX0_allows 0 = .ok (.iload_n 1, 1) := by decide +kernel
theorem dX0_allows_1 : decode cX0_allows 1 = .ok (.aload_n 0, 1) := by decide +kernel
theorem dX0_allows_2 : decode cX0_allows 2 = .ok (.getfield 25, 3) := by decide +kernel
theorem dX0_allows_5 : decode cX0_allows 5 = .ok (.if_icmp .ge 15, 3) := by decide +kernel
theorem dX0_allows_8 : decode cX0_allows 8 = .ok (.iload_n 1, 1) := by decide +kernel
theorem dX0_allows_9 : decode cX0_allows 9 = .ok (.bipush 36, 2) := by decide +kernel
theorem dX0_allows_11 : decode cX0_allows 11 = .ok (.iadd, 1) := by decide +kernel
theorem dX0_allows_12 : decode cX0_allows 12 = .ok (.aload_n 0, 1) := by decide +kernel
theorem dX0_allows_13 : decode cX0_allows 13 = .ok (.getfield 25, 3) := by decide +kernel
theorem dX0_allows_16 : decode cX0_allows 16 = .ok (.isub, 1) := by decide +kernel
theorem dX0_allows_17 : decode cX0_allows 17 = .ok (.goto 9, 3) := by decide +kernel
theorem dX0_allows_20 : decode cX0_allows 20 = .ok (.iload_n 1, 1) := by decide +kernel
theorem dX0_allows_21 : decode cX0_allows 21 = .ok (.aload_n 0, 1) := by decide +kernel
theorem dX0_allows_22 : decode cX0_allows 22 = .ok (.getfield 25, 3) := by decide +kernel
theorem dX0_allows_25 : decode cX0_allows 25 = .ok (.isub, 1) := by decide +kernel
theorem dX0_allows_26 : decode cX0_allows 26 = .ok (.istore_n 2, 1) := by decide +kernel
theorem dX0_allows_27 : decode cX0_allows 27 = .ok (.iload_n 2, 1) := by decide +kernel
theorem dX0_allows_28 : decode cX0_allows 28 = .ok (.aload_n 0, 1) := by decide +kernel
theorem dX0_allows_29 : decode cX0_allows 29 = .ok (.getfield 28, 3) := by decide +kernel
theorem dX0_allows_32 : decode cX0_allows 32 = .ok (.if_icmp .gt 7, 3) := by decide +kernel
theorem dX0_allows_35 : decode cX0_allows 35 = .ok (.iconst 1, 1) := by decide +kernel
theorem dX0_allows_36 : decode cX0_allows 36 = .ok (.goto 4, 3) := by decide +kernel
theorem dX0_allows_39 : decode cX0_allows 39 = .ok (.iconst 0, 1) := by decide +kernel
theorem dX0_allows_40 : decode cX0_allows 40 = .ok (.ireturn, 1) := by decide +kernel
theorem dX0_leastTurn_0 : decode cX0_leastTurn 0 = .ok (.aload_n 0, 1) := by decide +kernel
theorem dX0_leastTurn_1 : decode cX0_leastTurn 1 = .ok (.getfield 31, 3) := by decide +kernel
theorem dX0_leastTurn_4 : decode cX0_leastTurn 4 = .ok (.aload_n 0, 1) := by decide +kernel
theorem dX0_leastTurn_5 : decode cX0_leastTurn 5 = .ok (.getfield 25, 3) := by decide +kernel
theorem dX0_leastTurn_8 : decode cX0_leastTurn 8 = .ok (.if_icmp .ge 7, 3) := by decide +kernel
theorem dX0_leastTurn_11 : decode cX0_leastTurn 11 = .ok (.iconst 0, 1) := by decide +kernel
theorem dX0_leastTurn_12 : decode cX0_leastTurn 12 = .ok (.goto 7, 3) := by decide +kernel
theorem dX0_leastTurn_15 : decode cX0_leastTurn 15 = .ok (.aload_n 0, 1) := by decide +kernel
theorem dX0_leastTurn_16 : decode cX0_leastTurn 16 = .ok (.getfield 25, 3) := by decide +kernel
theorem dX0_leastTurn_19 : decode cX0_leastTurn 19 = .ok (.ireturn, 1) := by decide +kernel
theorem dX0_intoLimits_0 : decode cX0_intoLimits 0 = .ok (.aload_n 0, 1) := by decide +kernel
theorem dX0_intoLimits_1 : decode cX0_intoLimits 1 = .ok (.iload_n 1, 1) := by decide +kernel
theorem dX0_intoLimits_2 : decode cX0_intoLimits 2 = .ok (.invokevirtual 37, 3) := by decide +kernel
theorem dX0_intoLimits_5 : decode cX0_intoLimits 5 = .ok (.ifCond .eq 5, 3) := by decide +kernel
theorem dX0_intoLimits_8 : decode cX0_intoLimits 8 = .ok (.iload_n 1, 1) := by decide +kernel
theorem dX0_intoLimits_9 : decode cX0_intoLimits 9 = .ok (.ireturn, 1) := by decide +kernel
theorem dX0_intoLimits_10 : decode cX0_intoLimits 10 = .ok (.iload_n 1, 1) := by decide +kernel
theorem dX0_intoLimits_11 : decode cX0_intoLimits 11 = .ok (.aload_n 0, 1) := by decide +kernel
theorem dX0_intoLimits_12 : decode cX0_intoLimits 12 = .ok (.getfield 25, 3) := by decide +kernel
theorem dX0_intoLimits_15 : decode cX0_intoLimits 15 = .ok (.invokestatic 41, 3) := by decide +kernel
theorem dX0_intoLimits_18 : decode cX0_intoLimits 18 = .ok (.iload_n 1, 1) := by decide +kernel
theorem dX0_intoLimits_19 : decode cX0_intoLimits 19 = .ok (.aload_n 0, 1) := by decide +kernel
theorem dX0_intoLimits_20 : decode cX0_intoLimits 20 = .ok (.getfield 31, 3) := by decide +kernel
theorem dX0_intoLimits_23 : decode cX0_intoLimits 23 = .ok (.invokestatic 41, 3) := by decide +kernel
theorem dX0_intoLimits_26 : decode cX0_intoLimits 26 = .ok (.if_icmp .gt 10, 3) := by decide +kernel
theorem dX0_intoLimits_29 : decode cX0_intoLimits 29 = .ok (.aload_n 0, 1) := by decide +kernel
theorem dX0_intoLimits_30 : decode cX0_intoLimits 30 = .ok (.getfield 25, 3) := by decide +kernel
theorem dX0_intoLimits_33 : decode cX0_intoLimits 33 = .ok (.goto 7, 3) := by decide +kernel
theorem dX0_intoLimits_36 : decode cX0_intoLimits 36 = .ok (.aload_n 0, 1) := by decide +kernel
theorem dX0_intoLimits_37 : decode cX0_intoLimits 37 = .ok (.getfield 31, 3) := by decide +kernel
theorem dX0_intoLimits_40 : decode cX0_intoLimits 40 = .ok (.ireturn, 1) := by decide +kernel
theorem dX0_blended_0 : decode cX0_blended 0 = .ok (.aload_n 0, 1) := by decide +kernel
theorem dX0_blended_1 : decode cX0_blended 1 = .ok (.iload_n 1, 1) := by decide +kernel
theorem dX0_blended_2 : decode cX0_blended 2 = .ok (.iload_n 1, 1) := by decide +kernel
theorem dX0_blended_3 : decode cX0_blended 3 = .ok (.iload_n 2, 1) := by decide +kernel
theorem dX0_blended_4 : decode cX0_blended 4 = .ok (.invokestatic 47, 3) := by decide +kernel
theorem dX0_blended_7 : decode cX0_blended 7 = .ok (.iload_n 3, 1) := by decide +kernel
theorem dX0_blended_8 : decode cX0_blended 8 = .ok (.imul, 1) := by decide +kernel
theorem dX0_blended_9 : decode cX0_blended 9 = .ok (.bipush 100, 2) := by decide +kernel
theorem dX0_blended_11 : decode cX0_blended 11 = .ok (.idiv, 1) := by decide +kernel
theorem dX0_blended_12 : decode cX0_blended 12 = .ok (.iadd, 1) := by decide +kernel
theorem dX0_blended_13 : decode cX0_blended 13 = .ok (.invokestatic 50, 3) := by decide +kernel
theorem dX0_blended_16 : decode cX0_blended 16 = .ok (.invokevirtual 54, 3) := by decide +kernel
theorem dX0_blended_19 : decode cX0_blended 19 = .ok (.ireturn, 1) := by decide +kernel
theorem dX0_takeTurn_0 : decode cX0_takeTurn 0 = .ok (.aload_n 0, 1) := by decide +kernel
theorem dX0_takeTurn_1 : decode cX0_takeTurn 1 = .ok (.aload_n 0, 1) := by decide +kernel
theorem dX0_takeTurn_2 : decode cX0_takeTurn 2 = .ok (.iload_n 1, 1) := by decide +kernel
theorem dX0_takeTurn_3 : decode cX0_takeTurn 3 = .ok (.invokevirtual 54, 3) := by decide +kernel
theorem dX0_takeTurn_6 : decode cX0_takeTurn 6 = .ok (.putfield 34, 3) := by decide +kernel
theorem dX0_takeTurn_9 : decode cX0_takeTurn 9 = .ok (.aload_n 0, 1) := by decide +kernel
theorem dX0_takeTurn_10 : decode cX0_takeTurn 10 = .ok (.getfield 34, 3) := by decide +kernel
theorem dX0_takeTurn_13 : decode cX0_takeTurn 13 = .ok (.iload_n 1, 1) := by decide +kernel
theorem dX0_takeTurn_14 : decode cX0_takeTurn 14 = .ok (.if_icmp .ne 7, 3) := by decide +kernel
theorem dX0_takeTurn_17 : decode cX0_takeTurn 17 = .ok (.iconst 0, 1) := by decide +kernel
theorem dX0_takeTurn_18 : decode cX0_takeTurn 18 = .ok (.goto 4, 3) := by decide +kernel
theorem dX0_takeTurn_21 : decode cX0_takeTurn 21 = .ok (.iconst 1, 1) := by decide +kernel
theorem dX0_takeTurn_22 : decode cX0_takeTurn 22 = .ok (.ireturn, 1) := by decide +kernel
theorem dX0_place_0 : decode cX0_place 0 = .ok (.aload_n 0, 1) := by decide +kernel
theorem dX0_place_1 : decode cX0_place 1 = .ok (.aload_n 0, 1) := by decide +kernel
theorem dX0_place_2 : decode cX0_place 2 = .ok (.getfield 9, 3) := by decide +kernel
theorem dX0_place_5 : decode cX0_place 5 = .ok (.ifnonnull 7, 3) := by decide +kernel
theorem dX0_place_8 : decode cX0_place 8 = .ok (.lload_n 1, 1) := by decide +kernel
theorem dX0_place_9 : decode cX0_place 9 = .ok (.goto 10, 3) := by decide +kernel
theorem dX0_place_12 : decode cX0_place 12 = .ok (.aload_n 0, 1) := by decide +kernel
theorem dX0_place_13 : decode cX0_place 13 = .ok (.getfield 9, 3) := by decide +kernel
theorem dX0_place_16 : decode cX0_place 16 = .ok (.getfield 57, 3) := by decide +kernel
theorem dX0_place_19 : decode cX0_place 19 = .ok (.putfield 61, 3) := by decide +kernel
theorem dX0_place_22 : decode cX0_place 22 = .ok (.aload_n 0, 1) := by decide +kernel
theorem dX0_place_23 : decode cX0_place 23 = .ok (.aload_n 0, 1) := by decide +kernel
theorem dX0_place_24 : decode cX0_place 24 = .ok (.getfield 9, 3) := by decide +kernel
theorem dX0_place_27 : decode cX0_place 27 = .ok (.ifnonnull 7, 3) := by decide +kernel
theorem dX0_place_30 : decode cX0_place 30 = .ok (.lload_n 3, 1) := by decide +kernel
theorem dX0_place_31 : decode cX0_place 31 = .ok (.goto 10, 3) := by decide +kernel
theorem dX0_place_34 : decode cX0_place 34 = .ok (.aload_n 0, 1) := by decide +kernel
theorem dX0_place_35 : decode cX0_place 35 = .ok (.getfield 9, 3) := by decide +kernel
theorem dX0_place_38 : decode cX0_place 38 = .ok (.getfield 64, 3) := by decide +kernel
theorem dX0_place_41 : decode cX0_place 41 = .ok (.putfield 67, 3) := by decide +kernel
theorem dX0_place_44 : decode cX0_place 44 = .ok (.aload_n 0, 1) := by decide +kernel
theorem dX0_place_45 : decode cX0_place 45 = .ok (.getfield 9, 3) := by decide +kernel
theorem dX0_place_48 : decode cX0_place 48 = .ok (.ifnonnull 9, 3) := by decide +kernel
theorem dX0_place_51 : decode cX0_place 51 = .ok (.ldc2_w 70, 3) := by decide +kernel
theorem dX0_place_54 : decode cX0_place 54 = .ok (.goto 10, 3) := by decide +kernel
theorem dX0_place_57 : decode cX0_place 57 = .ok (.aload_n 0, 1) := by decide +kernel
theorem dX0_place_58 : decode cX0_place 58 = .ok (.getfield 9, 3) := by decide +kernel
theorem dX0_place_61 : decode cX0_place 61 = .ok (.getfield 72, 3) := by decide +kernel
theorem dX0_place_64 : decode cX0_place 64 = .ok (.lstore 5, 2) := by decide +kernel
theorem dX0_place_66 : decode cX0_place 66 = .ok (.aload_n 0, 1) := by decide +kernel
theorem dX0_place_67 : decode cX0_place 67 = .ok (.getfield 9, 3) := by decide +kernel
theorem dX0_place_70 : decode cX0_place 70 = .ok (.ifnonnull 7, 3) := by decide +kernel
theorem dX0_place_73 : decode cX0_place 73 = .ok (.lconst 0, 1) := by decide +kernel
theorem dX0_place_74 : decode cX0_place 74 = .ok (.goto 10, 3) := by decide +kernel
theorem dX0_place_77 : decode cX0_place 77 = .ok (.aload_n 0, 1) := by decide +kernel
theorem dX0_place_78 : decode cX0_place 78 = .ok (.getfield 9, 3) := by decide +kernel
theorem dX0_place_81 : decode cX0_place 81 = .ok (.getfield 75, 3) := by decide +kernel
theorem dX0_place_84 : decode cX0_place 84 = .ok (.lstore 7, 2) := by decide +kernel
theorem dX0_place_86 : decode cX0_place 86 = .ok (.aload_n 0, 1) := by decide +kernel
theorem dX0_place_87 : decode cX0_place 87 = .ok (.getfield 34, 3) := by decide +kernel
theorem dX0_place_90 : decode cX0_place 90 = .ok (.invokestatic 78, 3) := by decide +kernel
theorem dX0_place_93 : decode cX0_place 93 = .ok (.istore 9, 2) := by decide +kernel
theorem dX0_place_95 : decode cX0_place 95 = .ok (.aload_n 0, 1) := by decide +kernel
theorem dX0_place_96 : decode cX0_place 96 = .ok (.getfield 34, 3) := by decide +kernel
theorem dX0_place_99 : decode cX0_place 99 = .ok (.invokestatic 81, 3) := by decide +kernel
theorem dX0_place_102 : decode cX0_place 102 = .ok (.istore 10, 2) := by decide +kernel
theorem dX0_place_104 : decode cX0_place 104 = .ok (.aload_n 0, 1) := by decide +kernel
theorem dX0_place_105 : decode cX0_place 105 = .ok (.lload 5, 2) := by decide +kernel
theorem dX0_place_107 : decode cX0_place 107 = .ok (.iload 9, 2) := by decide +kernel
theorem dX0_place_109 : decode cX0_place 109 = .ok (.i2l, 1) := by decide +kernel
theorem dX0_place_110 : decode cX0_place 110 = .ok (.lmul, 1) := by decide +kernel
theorem dX0_place_111 : decode cX0_place 111 = .ok (.lload 7, 2) := by decide +kernel
theorem dX0_place_113 : decode cX0_place 113 = .ok (.iload 10, 2) := by decide +kernel
theorem dX0_place_115 : decode cX0_place 115 = .ok (.i2l, 1) := by decide +kernel
theorem dX0_place_116 : decode cX0_place 116 = .ok (.lmul, 1) := by decide +kernel
theorem dX0_place_117 : decode cX0_place 117 = .ok (.lsub, 1) := by decide +kernel
theorem dX0_place_118 : decode cX0_place 118 = .ok (.ldc2_w 84, 3) := by decide +kernel
theorem dX0_place_121 : decode cX0_place 121 = .ok (.ldiv, 1) := by decide +kernel
theorem dX0_place_122 : decode cX0_place 122 = .ok (.putfield 72, 3) := by decide +kernel
theorem dX0_place_125 : decode cX0_place 125 = .ok (.aload_n 0, 1) := by decide +kernel
theorem dX0_place_126 : decode cX0_place 126 = .ok (.lload 5, 2) := by decide +kernel
theorem dX0_place_128 : decode cX0_place 128 = .ok (.iload 10, 2) := by decide +kernel
theorem dX0_place_130 : decode cX0_place 130 = .ok (.i2l, 1) := by decide +kernel
theorem dX0_place_131 : decode cX0_place 131 = .ok (.lmul, 1) := by decide +kernel
theorem dX0_place_132 : decode cX0_place 132 = .ok (.lload 7, 2) := by decide +kernel
theorem dX0_place_134 : decode cX0_place 134 = .ok (.iload 9, 2) := by decide +kernel
theorem dX0_place_136 : decode cX0_place 136 = .ok (.i2l, 1) := by decide +kernel
theorem dX0_place_137 : decode cX0_place 137 = .ok (.lmul, 1) := by decide +kernel
theorem dX0_place_138 : decode cX0_place 138 = .ok (.ladd, 1) := by decide +kernel
theorem dX0_place_139 : decode cX0_place 139 = .ok (.ldc2_w 84, 3) := by decide +kernel
theorem dX0_place_142 : decode cX0_place 142 = .ok (.ldiv, 1) := by decide +kernel
theorem dX0_place_143 : decode cX0_place 143 = .ok (.putfield 75, 3) := by decide +kernel
theorem dX0_place_146 : decode cX0_place 146 = .ok (.aload_n 0, 1) := by decide +kernel
theorem dX0_place_147 : decode cX0_place 147 = .ok (.aload_n 0, 1) := by decide +kernel
theorem dX0_place_148 : decode cX0_place 148 = .ok (.getfield 61, 3) := by decide +kernel
theorem dX0_place_151 : decode cX0_place 151 = .ok (.aload_n 0, 1) := by decide +kernel
theorem dX0_place_152 : decode cX0_place 152 = .ok (.getfield 22, 3) := by decide +kernel
theorem dX0_place_155 : decode cX0_place 155 = .ok (.i2l, 1) := by decide +kernel
theorem dX0_place_156 : decode cX0_place 156 = .ok (.aload_n 0, 1) := by decide +kernel
theorem dX0_place_157 : decode cX0_place 157 = .ok (.getfield 72, 3) := by decide +kernel
theorem dX0_place_160 : decode cX0_place 160 = .ok (.lmul, 1) := by decide +kernel
theorem dX0_place_161 : decode cX0_place 161 = .ok (.ladd, 1) := by decide +kernel
theorem dX0_place_162 : decode cX0_place 162 = .ok (.putfield 57, 3) := by decide +kernel
theorem dX0_place_165 : decode cX0_place 165 = .ok (.aload_n 0, 1) := by decide +kernel
theorem dX0_place_166 : decode cX0_place 166 = .ok (.aload_n 0, 1) := by decide +kernel
theorem dX0_place_167 : decode cX0_place 167 = .ok (.getfield 67, 3) := by decide +kernel
theorem dX0_place_170 : decode cX0_place 170 = .ok (.aload_n 0, 1) := by decide +kernel
theorem dX0_place_171 : decode cX0_place 171 = .ok (.getfield 22, 3) := by decide +kernel
theorem dX0_place_174 : decode cX0_place 174 = .ok (.i2l, 1) := by decide +kernel
theorem dX0_place_175 : decode cX0_place 175 = .ok (.aload_n 0, 1) := by decide +kernel
theorem dX0_place_176 : decode cX0_place 176 = .ok (.getfield 75, 3) := by decide +kernel
theorem dX0_place_179 : decode cX0_place 179 = .ok (.lmul, 1) := by decide +kernel
theorem dX0_place_180 : decode cX0_place 180 = .ok (.ladd, 1) := by decide +kernel
theorem dX0_place_181 : decode cX0_place 181 = .ok (.putfield 64, 3) := by decide +kernel
theorem dX0_place_184 : decode cX0_place 184 = .ok (.return_, 1) := by decide +kernel
theorem dX0_farFrom_0 : decode cX0_farFrom 0 = .ok (.aload_n 0, 1) := by decide +kernel
theorem dX0_farFrom_1 : decode cX0_farFrom 1 = .ok (.getfield 57, 3) := by decide +kernel
theorem dX0_farFrom_4 : decode cX0_farFrom 4 = .ok (.lload_n 1, 1) := by decide +kernel
theorem dX0_farFrom_5 : decode cX0_farFrom 5 = .ok (.lsub, 1) := by decide +kernel
theorem dX0_farFrom_6 : decode cX0_farFrom 6 = .ok (.invokestatic 86, 3) := by decide +kernel
theorem dX0_farFrom_9 : decode cX0_farFrom 9 = .ok (.aload_n 0, 1) := by decide +kernel
theorem dX0_farFrom_10 : decode cX0_farFrom 10 = .ok (.getfield 64, 3) := by decide +kernel
theorem dX0_farFrom_13 : decode cX0_farFrom 13 = .ok (.lload_n 3, 1) := by decide +kernel
theorem dX0_farFrom_14 : decode cX0_farFrom 14 = .ok (.lsub, 1) := by decide +kernel
theorem dX0_farFrom_15 : decode cX0_farFrom 15 = .ok (.invokestatic 86, 3) := by decide +kernel
theorem dX0_farFrom_18 : decode cX0_farFrom 18 = .ok (.invokestatic 92, 3) := by decide +kernel
theorem dX0_farFrom_21 : decode cX0_farFrom 21 = .ok (.lreturn, 1) := by decide +kernel
theorem dX0_nearestTurn_0 : decode cX0_nearestTurn 0 = .ok (.aload_n 1, 1) := by decide +kernel
theorem dX0_nearestTurn_1 : decode cX0_nearestTurn 1 = .ok (.getfield 57, 3) := by decide +kernel
theorem dX0_nearestTurn_4 : decode cX0_nearestTurn 4 = .ok (.aload_n 0, 1) := by decide +kernel
theorem dX0_nearestTurn_5 : decode cX0_nearestTurn 5 = .ok (.getfield 61, 3) := by decide +kernel
theorem dX0_nearestTurn_8 : decode cX0_nearestTurn 8 = .ok (.lsub, 1) := by decide +kernel
theorem dX0_nearestTurn_9 : decode cX0_nearestTurn 9 = .ok (.lstore 7, 2) := by decide +kernel
theorem dX0_nearestTurn_11 : decode cX0_nearestTurn 11 = .ok (.aload_n 1, 1) := by decide +kernel
theorem dX0_nearestTurn_12 : decode cX0_nearestTurn 12 = .ok (.getfield 64, 3) := by decide +kernel
theorem dX0_nearestTurn_15 : decode cX0_nearestTurn 15 = .ok (.aload_n 0, 1) := by decide +kernel
theorem dX0_nearestTurn_16 : decode cX0_nearestTurn 16 = .ok (.getfield 67, 3) := by decide +kernel
theorem dX0_nearestTurn_19 : decode cX0_nearestTurn 19 = .ok (.lsub, 1) := by decide +kernel
theorem dX0_nearestTurn_20 : decode cX0_nearestTurn 20 = .ok (.lstore 9, 2) := by decide +kernel
theorem dX0_nearestTurn_22 : decode cX0_nearestTurn 22 = .ok (.aload_n 0, 1) := by decide +kernel
theorem dX0_nearestTurn_23 : decode cX0_nearestTurn 23 = .ok (.getfield 34, 3) := by decide +kernel
theorem dX0_nearestTurn_26 : decode cX0_nearestTurn 26 = .ok (.invokestatic 78, 3) := by decide +kernel
theorem dX0_nearestTurn_29 : decode cX0_nearestTurn 29 = .ok (.istore 11, 2) := by decide +kernel
theorem dX0_nearestTurn_31 : decode cX0_nearestTurn 31 = .ok (.aload_n 0, 1) := by decide +kernel
theorem dX0_nearestTurn_32 : decode cX0_nearestTurn 32 = .ok (.getfield 34, 3) := by decide +kernel
theorem dX0_nearestTurn_35 : decode cX0_nearestTurn 35 = .ok (.invokestatic 81, 3) := by decide +kernel
theorem dX0_nearestTurn_38 : decode cX0_nearestTurn 38 = .ok (.istore 12, 2) := by decide +kernel
theorem dX0_nearestTurn_40 : decode cX0_nearestTurn 40 = .ok (.lload 7, 2) := by decide +kernel
theorem dX0_nearestTurn_42 : decode cX0_nearestTurn 42 = .ok (.iload 11, 2) := by decide +kernel
theorem dX0_nearestTurn_44 : decode cX0_nearestTurn 44 = .ok (.i2l, 1) := by decide +kernel
theorem dX0_nearestTurn_45 : decode cX0_nearestTurn 45 = .ok (.lmul, 1) := by decide +kernel
theorem dX0_nearestTurn_46 : decode cX0_nearestTurn 46 = .ok (.lload 9, 2) := by decide +kernel
theorem dX0_nearestTurn_48 : decode cX0_nearestTurn 48 = .ok (.iload 12, 2) := by decide +kernel
theorem dX0_nearestTurn_50 : decode cX0_nearestTurn 50 = .ok (.i2l, 1) := by decide +kernel
theorem dX0_nearestTurn_51 : decode cX0_nearestTurn 51 = .ok (.lmul, 1) := by decide +kernel
theorem dX0_nearestTurn_52 : decode cX0_nearestTurn 52 = .ok (.ladd, 1) := by decide +kernel
theorem dX0_nearestTurn_53 : decode cX0_nearestTurn 53 = .ok (.ldc2_w 84, 3) := by decide +kernel
theorem dX0_nearestTurn_56 : decode cX0_nearestTurn 56 = .ok (.ldiv, 1) := by decide +kernel
theorem dX0_nearestTurn_57 : decode cX0_nearestTurn 57 = .ok (.lstore 13, 2) := by decide +kernel
theorem dX0_nearestTurn_59 : decode cX0_nearestTurn 59 = .ok (.lload 9, 2) := by decide +kernel
theorem dX0_nearestTurn_61 : decode cX0_nearestTurn 61 = .ok (.iload 11, 2) := by decide +kernel
theorem dX0_nearestTurn_63 : decode cX0_nearestTurn 63 = .ok (.i2l, 1) := by decide +kernel
theorem dX0_nearestTurn_64 : decode cX0_nearestTurn 64 = .ok (.lmul, 1) := by decide +kernel
theorem dX0_nearestTurn_65 : decode cX0_nearestTurn 65 = .ok (.lload 7, 2) := by decide +kernel
theorem dX0_nearestTurn_67 : decode cX0_nearestTurn 67 = .ok (.iload 12, 2) := by decide +kernel
theorem dX0_nearestTurn_69 : decode cX0_nearestTurn 69 = .ok (.i2l, 1) := by decide +kernel
theorem dX0_nearestTurn_70 : decode cX0_nearestTurn 70 = .ok (.lmul, 1) := by decide +kernel
theorem dX0_nearestTurn_71 : decode cX0_nearestTurn 71 = .ok (.lsub, 1) := by decide +kernel
theorem dX0_nearestTurn_72 : decode cX0_nearestTurn 72 = .ok (.ldc2_w 84, 3) := by decide +kernel
theorem dX0_nearestTurn_75 : decode cX0_nearestTurn 75 = .ok (.ldiv, 1) := by decide +kernel
theorem dX0_nearestTurn_76 : decode cX0_nearestTurn 76 = .ok (.lstore 15, 2) := by decide +kernel
theorem dX0_nearestTurn_78 : decode cX0_nearestTurn 78 = .ok (.iload 6, 2) := by decide +kernel
theorem dX0_nearestTurn_80 : decode cX0_nearestTurn 80 = .ok (.istore 17, 2) := by decide +kernel
theorem dX0_nearestTurn_82 : decode cX0_nearestTurn 82 = .ok (.aload_n 0, 1) := by decide +kernel
theorem dX0_nearestTurn_83 : decode cX0_nearestTurn 83 = .ok (.lload 13, 2) := by decide +kernel
theorem dX0_nearestTurn_85 : decode cX0_nearestTurn 85 = .ok (.lload 15, 2) := by decide +kernel
theorem dX0_nearestTurn_87 : decode cX0_nearestTurn 87 = .ok (.lload_n 2, 1) := by decide +kernel
theorem dX0_nearestTurn_88 : decode cX0_nearestTurn 88 = .ok (.lload 4, 2) := by decide +kernel
theorem dX0_nearestTurn_90 : decode cX0_nearestTurn 90 = .ok (.iload 6, 2) := by decide +kernel
theorem dX0_nearestTurn_92 : decode cX0_nearestTurn 92 = .ok (.invokevirtual 96, 3) := by decide +kernel
theorem dX0_nearestTurn_95 : decode cX0_nearestTurn 95 = .ok (.lstore 18, 2) := by decide +kernel
theorem dX0_nearestTurn_97 : decode cX0_nearestTurn 97 = .ok (.iconst 0, 1) := by decide +kernel
theorem dX0_nearestTurn_98 : decode cX0_nearestTurn 98 = .ok (.istore 20, 2) := by decide +kernel
theorem dX0_nearestTurn_100 : decode cX0_nearestTurn 100 = .ok (.iload 20, 2) := by decide +kernel
theorem dX0_nearestTurn_102 : decode cX0_nearestTurn 102 = .ok (.bipush 36, 2) := by decide +kernel
theorem dX0_nearestTurn_104 : decode cX0_nearestTurn 104 = .ok (.if_icmp .ge 49, 3) := by decide +kernel
theorem dX0_nearestTurn_107 : decode cX0_nearestTurn 107 = .ok (.aload_n 0, 1) := by decide +kernel
theorem dX0_nearestTurn_108 : decode cX0_nearestTurn 108 = .ok (.iload 20, 2) := by decide +kernel
theorem dX0_nearestTurn_110 : decode cX0_nearestTurn 110 = .ok (.invokevirtual 37, 3) := by decide +kernel
theorem dX0_nearestTurn_113 : decode cX0_nearestTurn 113 = .ok (.ifCond .eq 34, 3) := by decide +kernel
theorem dX0_nearestTurn_116 : decode cX0_nearestTurn 116 = .ok (.aload_n 0, 1) := by decide +kernel
theorem dX0_nearestTurn_117 : decode cX0_nearestTurn 117 = .ok (.lload 13, 2) := by decide +kernel
theorem dX0_nearestTurn_119 : decode cX0_nearestTurn 119 = .ok (.lload 15, 2) := by decide +kernel
theorem dX0_nearestTurn_121 : decode cX0_nearestTurn 121 = .ok (.lload_n 2, 1) := by decide +kernel
theorem dX0_nearestTurn_122 : decode cX0_nearestTurn 122 = .ok (.lload 4, 2) := by decide +kernel
theorem dX0_nearestTurn_124 : decode cX0_nearestTurn 124 = .ok (.iload 20, 2) := by decide +kernel
theorem dX0_nearestTurn_126 : decode cX0_nearestTurn 126 = .ok (.invokevirtual 96, 3) := by decide +kernel
theorem dX0_nearestTurn_129 : decode cX0_nearestTurn 129 = .ok (.lstore 21, 2) := by decide +kernel
theorem dX0_nearestTurn_131 : decode cX0_nearestTurn 131 = .ok (.lload 21, 2) := by decide +kernel
theorem dX0_nearestTurn_133 : decode cX0_nearestTurn 133 = .ok (.lload 18, 2) := by decide +kernel
theorem dX0_nearestTurn_135 : decode cX0_nearestTurn 135 = .ok (.lcmp, 1) := by decide +kernel
theorem dX0_nearestTurn_136 : decode cX0_nearestTurn 136 = .ok (.ifCond .ge 11, 3) := by decide +kernel
theorem dX0_nearestTurn_139 : decode cX0_nearestTurn 139 = .ok (.lload 21, 2) := by decide +kernel
theorem dX0_nearestTurn_141 : decode cX0_nearestTurn 141 = .ok (.lstore 18, 2) := by decide +kernel
theorem dX0_nearestTurn_143 : decode cX0_nearestTurn 143 = .ok (.iload 20, 2) := by decide +kernel
theorem dX0_nearestTurn_145 : decode cX0_nearestTurn 145 = .ok (.istore 17, 2) := by decide +kernel
theorem dX0_nearestTurn_147 : decode cX0_nearestTurn 147 = .ok (.iinc 20 1, 3) := by decide +kernel
theorem dX0_nearestTurn_150 : decode cX0_nearestTurn 150 = .ok (.goto (-50), 3) := by decide +kernel
theorem dX0_nearestTurn_153 : decode cX0_nearestTurn 153 = .ok (.iload 17, 2) := by decide +kernel
theorem dX0_nearestTurn_155 : decode cX0_nearestTurn 155 = .ok (.ireturn, 1) := by decide +kernel
theorem dX0_farTurned_0 : decode cX0_farTurned 0 = .ok (.iload 9, 2) := by decide +kernel
theorem dX0_farTurned_2 : decode cX0_farTurned 2 = .ok (.invokestatic 78, 3) := by decide +kernel
theorem dX0_farTurned_5 : decode cX0_farTurned 5 = .ok (.istore 10, 2) := by decide +kernel
theorem dX0_farTurned_7 : decode cX0_farTurned 7 = .ok (.iload 9, 2) := by decide +kernel
theorem dX0_farTurned_9 : decode cX0_farTurned 9 = .ok (.invokestatic 81, 3) := by decide +kernel
theorem dX0_farTurned_12 : decode cX0_farTurned 12 = .ok (.istore 11, 2) := by decide +kernel
theorem dX0_farTurned_14 : decode cX0_farTurned 14 = .ok (.aload_n 0, 1) := by decide +kernel
theorem dX0_farTurned_15 : decode cX0_farTurned 15 = .ok (.getfield 61, 3) := by decide +kernel
theorem dX0_farTurned_18 : decode cX0_farTurned 18 = .ok (.lload_n 1, 1) := by decide +kernel
theorem dX0_farTurned_19 : decode cX0_farTurned 19 = .ok (.iload 10, 2) := by decide +kernel
theorem dX0_farTurned_21 : decode cX0_farTurned 21 = .ok (.i2l, 1) := by decide +kernel
theorem dX0_farTurned_22 : decode cX0_farTurned 22 = .ok (.lmul, 1) := by decide +kernel
theorem dX0_farTurned_23 : decode cX0_farTurned 23 = .ok (.lload_n 3, 1) := by decide +kernel
theorem dX0_farTurned_24 : decode cX0_farTurned 24 = .ok (.iload 11, 2) := by decide +kernel
theorem dX0_farTurned_26 : decode cX0_farTurned 26 = .ok (.i2l, 1) := by decide +kernel
theorem dX0_farTurned_27 : decode cX0_farTurned 27 = .ok (.lmul, 1) := by decide +kernel
theorem dX0_farTurned_28 : decode cX0_farTurned 28 = .ok (.lsub, 1) := by decide +kernel
theorem dX0_farTurned_29 : decode cX0_farTurned 29 = .ok (.ldc2_w 84, 3) := by decide +kernel
theorem dX0_farTurned_32 : decode cX0_farTurned 32 = .ok (.ldiv, 1) := by decide +kernel
theorem dX0_farTurned_33 : decode cX0_farTurned 33 = .ok (.ladd, 1) := by decide +kernel
theorem dX0_farTurned_34 : decode cX0_farTurned 34 = .ok (.lstore 12, 2) := by decide +kernel
theorem dX0_farTurned_36 : decode cX0_farTurned 36 = .ok (.aload_n 0, 1) := by decide +kernel
theorem dX0_farTurned_37 : decode cX0_farTurned 37 = .ok (.getfield 67, 3) := by decide +kernel
theorem dX0_farTurned_40 : decode cX0_farTurned 40 = .ok (.lload_n 1, 1) := by decide +kernel
theorem dX0_farTurned_41 : decode cX0_farTurned 41 = .ok (.iload 11, 2) := by decide +kernel
theorem dX0_farTurned_43 : decode cX0_farTurned 43 = .ok (.i2l, 1) := by decide +kernel
theorem dX0_farTurned_44 : decode cX0_farTurned 44 = .ok (.lmul, 1) := by decide +kernel
theorem dX0_farTurned_45 : decode cX0_farTurned 45 = .ok (.lload_n 3, 1) := by decide +kernel
theorem dX0_farTurned_46 : decode cX0_farTurned 46 = .ok (.iload 10, 2) := by decide +kernel
theorem dX0_farTurned_48 : decode cX0_farTurned 48 = .ok (.i2l, 1) := by decide +kernel
theorem dX0_farTurned_49 : decode cX0_farTurned 49 = .ok (.lmul, 1) := by decide +kernel
theorem dX0_farTurned_50 : decode cX0_farTurned 50 = .ok (.ladd, 1) := by decide +kernel
theorem dX0_farTurned_51 : decode cX0_farTurned 51 = .ok (.ldc2_w 84, 3) := by decide +kernel
theorem dX0_farTurned_54 : decode cX0_farTurned 54 = .ok (.ldiv, 1) := by decide +kernel
theorem dX0_farTurned_55 : decode cX0_farTurned 55 = .ok (.ladd, 1) := by decide +kernel
theorem dX0_farTurned_56 : decode cX0_farTurned 56 = .ok (.lstore 14, 2) := by decide +kernel
theorem dX0_farTurned_58 : decode cX0_farTurned 58 = .ok (.lload 12, 2) := by decide +kernel
theorem dX0_farTurned_60 : decode cX0_farTurned 60 = .ok (.lload 5, 2) := by decide +kernel
theorem dX0_farTurned_62 : decode cX0_farTurned 62 = .ok (.lsub, 1) := by decide +kernel
theorem dX0_farTurned_63 : decode cX0_farTurned 63 = .ok (.invokestatic 86, 3) := by decide +kernel
theorem dX0_farTurned_66 : decode cX0_farTurned 66 = .ok (.lload 14, 2) := by decide +kernel
theorem dX0_farTurned_68 : decode cX0_farTurned 68 = .ok (.lload 7, 2) := by decide +kernel
theorem dX0_farTurned_70 : decode cX0_farTurned 70 = .ok (.lsub, 1) := by decide +kernel
theorem dX0_farTurned_71 : decode cX0_farTurned 71 = .ok (.invokestatic 86, 3) := by decide +kernel
theorem dX0_farTurned_74 : decode cX0_farTurned 74 = .ok (.invokestatic 92, 3) := by decide +kernel
theorem dX0_farTurned_77 : decode cX0_farTurned 77 = .ok (.lreturn, 1) := by decide +kernel
theorem dX1_init_0 : decode cX1_init 0 = .ok (.aload_n 0, 1) := by decide +kernel
theorem dX1_init_1 : decode cX1_init 1 = .ok (.invokespecial 3, 3) := by decide +kernel
theorem dX1_init_4 : decode cX1_init 4 = .ok (.aload_n 0, 1) := by decide +kernel
theorem dX1_init_5 : decode cX1_init 5 = .ok (.bipush 30, 2) := by decide +kernel
theorem dX1_init_7 : decode cX1_init 7 = .ok (.bipush 10, 2) := by decide +kernel
theorem dX1_init_9 : decode cX1_init 9 = .ok (.multianewarray 9 2, 4) := by decide +kernel
theorem dX1_init_13 : decode cX1_init 13 = .ok (.putfield 11, 3) := by decide +kernel
theorem dX1_init_16 : decode cX1_init 16 = .ok (.return_, 1) := by decide +kernel
theorem dX2_init_0 : decode cX2_init 0 = .ok (.aload_n 0, 1) := by decide +kernel
theorem dX2_init_1 : decode cX2_init 1 = .ok (.invokespecial 3, 3) := by decide +kernel
theorem dX2_init_4 : decode cX2_init 4 = .ok (.aload_n 0, 1) := by decide +kernel
theorem dX2_init_5 : decode cX2_init 5 = .ok (.bipush 6, 2) := by decide +kernel
theorem dX2_init_7 : decode cX2_init 7 = .ok (.anewarray 9, 3) := by decide +kernel
theorem dX2_init_10 : decode cX2_init 10 = .ok (.putfield 11, 3) := by decide +kernel
theorem dX2_init_13 : decode cX2_init 13 = .ok (.iconst 0, 1) := by decide +kernel
theorem dX2_init_14 : decode cX2_init 14 = .ok (.istore_n 1, 1) := by decide +kernel
theorem dX2_init_15 : decode cX2_init 15 = .ok (.iload_n 1, 1) := by decide +kernel
theorem dX2_init_16 : decode cX2_init 16 = .ok (.bipush 6, 2) := by decide +kernel
theorem dX2_init_18 : decode cX2_init 18 = .ok (.if_icmp .ge 22, 3) := by decide +kernel
theorem dX2_init_21 : decode cX2_init 21 = .ok (.aload_n 0, 1) := by decide +kernel
theorem dX2_init_22 : decode cX2_init 22 = .ok (.getfield 11, 3) := by decide +kernel
theorem dX2_init_25 : decode cX2_init 25 = .ok (.iload_n 1, 1) := by decide +kernel
theorem dX2_init_26 : decode cX2_init 26 = .ok (.new 9, 3) := by decide +kernel
theorem dX2_init_29 : decode cX2_init 29 = .ok (.dup, 1) := by decide +kernel
theorem dX2_init_30 : decode cX2_init 30 = .ok (.invokespecial 17, 3) := by decide +kernel
theorem dX2_init_33 : decode cX2_init 33 = .ok (.aastore, 1) := by decide +kernel
theorem dX2_init_34 : decode cX2_init 34 = .ok (.iinc 1 1, 3) := by decide +kernel
theorem dX2_init_37 : decode cX2_init 37 = .ok (.goto (-22), 3) := by decide +kernel
theorem dX2_init_40 : decode cX2_init 40 = .ok (.return_, 1) := by decide +kernel
theorem dX2_find_0 : decode cX2_find 0 = .ok (.iload_n 1, 1) := by decide +kernel
theorem dX2_find_1 : decode cX2_find 1 = .ok (.i2l, 1) := by decide +kernel
theorem dX2_find_2 : decode cX2_find 2 = .ok (.lconst 0, 1) := by decide +kernel
theorem dX2_find_3 : decode cX2_find 3 = .ok (.ldc2_w 18, 3) := by decide +kernel
theorem dX2_find_6 : decode cX2_find 6 = .ok (.invokestatic 20, 3) := by decide +kernel
theorem dX2_find_9 : decode cX2_find 9 = .ok (.ifCond .eq 12, 3) := by decide +kernel
theorem dX2_find_12 : decode cX2_find 12 = .ok (.aload_n 0, 1) := by decide +kernel
theorem dX2_find_13 : decode cX2_find 13 = .ok (.getfield 11, 3) := by decide +kernel
theorem dX2_find_16 : decode cX2_find 16 = .ok (.iload_n 1, 1) := by decide +kernel
theorem dX2_find_17 : decode cX2_find 17 = .ok (.aaload, 1) := by decide +kernel
theorem dX2_find_18 : decode cX2_find 18 = .ok (.goto 4, 3) := by decide +kernel
theorem dX2_find_21 : decode cX2_find 21 = .ok (.aconst_null, 1) := by decide +kernel
theorem dX2_find_22 : decode cX2_find 22 = .ok (.areturn, 1) := by decide +kernel
theorem dX2_findFrame_0 : decode cX2_findFrame 0 = .ok (.iload_n 1, 1) := by decide +kernel
theorem dX2_findFrame_1 : decode cX2_findFrame 1 = .ok (.ifCond .lt 26, 3) := by decide +kernel
theorem dX2_findFrame_4 : decode cX2_findFrame 4 = .ok (.iload_n 1, 1) := by decide +kernel
theorem dX2_findFrame_5 : decode cX2_findFrame 5 = .ok (.bipush 6, 2) := by decide +kernel
theorem dX2_findFrame_7 : decode cX2_findFrame 7 = .ok (.if_icmp .ge 20, 3) := by decide +kernel
theorem dX2_findFrame_10 : decode cX2_findFrame 10 = .ok (.iload_n 2, 1) := by decide +kernel
theorem dX2_findFrame_11 : decode cX2_findFrame 11 = .ok (.ifCond .lt 16, 3) := by decide +kernel
theorem dX2_findFrame_14 : decode cX2_findFrame 14 = .ok (.iload_n 2, 1) := by decide +kernel
theorem dX2_findFrame_15 : decode cX2_findFrame 15 = .ok (.aload_n 0, 1) := by decide +kernel
theorem dX2_findFrame_16 : decode cX2_findFrame 16 = .ok (.getfield 11, 3) := by decide +kernel
theorem dX2_findFrame_19 : decode cX2_findFrame 19 = .ok (.iload_n 1, 1) := by decide +kernel
theorem dX2_findFrame_20 : decode cX2_findFrame 20 = .ok (.aaload, 1) := by decide +kernel
theorem dX2_findFrame_21 : decode cX2_findFrame 21 = .ok (.getfield 24, 3) := by decide +kernel
theorem dX2_findFrame_24 : decode cX2_findFrame 24 = .ok (.if_icmp .lt 5, 3) := by decide +kernel
theorem dX2_findFrame_27 : decode cX2_findFrame 27 = .ok (.aconst_null, 1) := by decide +kernel
theorem dX2_findFrame_28 : decode cX2_findFrame 28 = .ok (.areturn, 1) := by decide +kernel
theorem dX2_findFrame_29 : decode cX2_findFrame 29 = .ok (.aload_n 0, 1) := by decide +kernel
theorem dX2_findFrame_30 : decode cX2_findFrame 30 = .ok (.getfield 11, 3) := by decide +kernel
theorem dX2_findFrame_33 : decode cX2_findFrame 33 = .ok (.iload_n 1, 1) := by decide +kernel
theorem dX2_findFrame_34 : decode cX2_findFrame 34 = .ok (.aaload, 1) := by decide +kernel
theorem dX2_findFrame_35 : decode cX2_findFrame 35 = .ok (.getfield 28, 3) := by decide +kernel
theorem dX2_findFrame_38 : decode cX2_findFrame 38 = .ok (.iload_n 2, 1) := by decide +kernel
theorem dX2_findFrame_39 : decode cX2_findFrame 39 = .ok (.aaload, 1) := by decide +kernel
theorem dX2_findFrame_40 : decode cX2_findFrame 40 = .ok (.areturn, 1) := by decide +kernel
theorem dX2_findSlot_0 : decode cX2_findSlot 0 = .ok (.aload_n 0, 1) := by decide +kernel
theorem dX2_findSlot_1 : decode cX2_findSlot 1 = .ok (.iload_n 1, 1) := by decide +kernel
theorem dX2_findSlot_2 : decode cX2_findSlot 2 = .ok (.bipush 30, 2) := by decide +kernel
theorem dX2_findSlot_4 : decode cX2_findSlot 4 = .ok (.idiv, 1) := by decide +kernel
theorem dX2_findSlot_5 : decode cX2_findSlot 5 = .ok (.iload_n 1, 1) := by decide +kernel
theorem dX2_findSlot_6 : decode cX2_findSlot 6 = .ok (.bipush 30, 2) := by decide +kernel
theorem dX2_findSlot_8 : decode cX2_findSlot 8 = .ok (.irem, 1) := by decide +kernel
theorem dX2_findSlot_9 : decode cX2_findSlot 9 = .ok (.invokevirtual 32, 3) := by decide +kernel
theorem dX2_findSlot_12 : decode cX2_findSlot 12 = .ok (.areturn, 1) := by decide +kernel
theorem dX2_total_0 : decode cX2_total 0 = .ok (.iconst 0, 1) := by decide +kernel
theorem dX2_total_1 : decode cX2_total 1 = .ok (.istore_n 1, 1) := by decide +kernel
theorem dX2_total_2 : decode cX2_total 2 = .ok (.iconst 0, 1) := by decide +kernel
theorem dX2_total_3 : decode cX2_total 3 = .ok (.istore_n 2, 1) := by decide +kernel
theorem dX2_total_4 : decode cX2_total 4 = .ok (.iload_n 2, 1) := by decide +kernel
theorem dX2_total_5 : decode cX2_total 5 = .ok (.bipush 6, 2) := by decide +kernel
theorem dX2_total_7 : decode cX2_total 7 = .ok (.if_icmp .ge 21, 3) := by decide +kernel
theorem dX2_total_10 : decode cX2_total 10 = .ok (.iload_n 1, 1) := by decide +kernel
theorem dX2_total_11 : decode cX2_total 11 = .ok (.aload_n 0, 1) := by decide +kernel
theorem dX2_total_12 : decode cX2_total 12 = .ok (.getfield 11, 3) := by decide +kernel
theorem dX2_total_15 : decode cX2_total 15 = .ok (.iload_n 2, 1) := by decide +kernel
theorem dX2_total_16 : decode cX2_total 16 = .ok (.aaload, 1) := by decide +kernel
theorem dX2_total_17 : decode cX2_total 17 = .ok (.getfield 24, 3) := by decide +kernel
theorem dX2_total_20 : decode cX2_total 20 = .ok (.iadd, 1) := by decide +kernel
theorem dX2_total_21 : decode cX2_total 21 = .ok (.istore_n 1, 1) := by decide +kernel
theorem dX2_total_22 : decode cX2_total 22 = .ok (.iinc 2 1, 3) := by decide +kernel
theorem dX2_total_25 : decode cX2_total 25 = .ok (.goto (-21), 3) := by decide +kernel
theorem dX2_total_28 : decode cX2_total 28 = .ok (.iload_n 1, 1) := by decide +kernel
theorem dX2_total_29 : decode cX2_total 29 = .ok (.ireturn, 1) := by decide +kernel
theorem dX2_likeness_0 : decode cX2_likeness 0 = .ok (.iconst 0, 1) := by decide +kernel
theorem dX2_likeness_1 : decode cX2_likeness 1 = .ok (.istore 4, 2) := by decide +kernel
theorem dX2_likeness_3 : decode cX2_likeness 3 = .ok (.iconst 0, 1) := by decide +kernel
theorem dX2_likeness_4 : decode cX2_likeness 4 = .ok (.istore 5, 2) := by decide +kernel
theorem dX2_likeness_6 : decode cX2_likeness 6 = .ok (.iload 5, 2) := by decide +kernel
theorem dX2_likeness_8 : decode cX2_likeness 8 = .ok (.aload_n 0, 1) := by decide +kernel
theorem dX2_likeness_9 : decode cX2_likeness 9 = .ok (.getfield 36, 3) := by decide +kernel
theorem dX2_likeness_12 : decode cX2_likeness 12 = .ok (.if_icmp .ge 31, 3) := by decide +kernel
theorem dX2_likeness_15 : decode cX2_likeness 15 = .ok (.iload 4, 2) := by decide +kernel
theorem dX2_likeness_17 : decode cX2_likeness 17 = .ok (.iload_n 3, 1) := by decide +kernel
theorem dX2_likeness_18 : decode cX2_likeness 18 = .ok (.if_icmp .gt 25, 3) := by decide +kernel
theorem dX2_likeness_21 : decode cX2_likeness 21 = .ok (.iload 4, 2) := by decide +kernel
theorem dX2_likeness_23 : decode cX2_likeness 23 = .ok (.aload_n 1, 1) := by decide +kernel
theorem dX2_likeness_24 : decode cX2_likeness 24 = .ok (.iload 5, 2) := by decide +kernel
theorem dX2_likeness_26 : decode cX2_likeness 26 = .ok (.iaload, 1) := by decide +kernel
theorem dX2_likeness_27 : decode cX2_likeness 27 = .ok (.aload_n 2, 1) := by decide +kernel
theorem dX2_likeness_28 : decode cX2_likeness 28 = .ok (.iload 5, 2) := by decide +kernel
theorem dX2_likeness_30 : decode cX2_likeness 30 = .ok (.iaload, 1) := by decide +kernel
theorem dX2_likeness_31 : decode cX2_likeness 31 = .ok (.invokestatic 39, 3) := by decide +kernel
theorem dX2_likeness_34 : decode cX2_likeness 34 = .ok (.iadd, 1) := by decide +kernel
theorem dX2_likeness_35 : decode cX2_likeness 35 = .ok (.istore 4, 2) := by decide +kernel
theorem dX2_likeness_37 : decode cX2_likeness 37 = .ok (.iinc 5 1, 3) := by decide +kernel
theorem dX2_likeness_40 : decode cX2_likeness 40 = .ok (.goto (-34), 3) := by decide +kernel
theorem dX2_likeness_43 : decode cX2_likeness 43 = .ok (.iload 4, 2) := by decide +kernel
theorem dX2_likeness_45 : decode cX2_likeness 45 = .ok (.ireturn, 1) := by decide +kernel
theorem dX2_digestOn_0 : decode cX2_digestOn 0 = .ok (.lload_n 1, 1) := by decide +kernel
theorem dX2_digestOn_1 : decode cX2_digestOn 1 = .ok (.lstore_n 3, 1) := by decide +kernel
theorem dX2_digestOn_2 : decode cX2_digestOn 2 = .ok (.iconst 0, 1) := by decide +kernel
theorem dX2_digestOn_3 : decode cX2_digestOn 3 = .ok (.istore 5, 2) := by decide +kernel
theorem dX2_digestOn_5 : decode cX2_digestOn 5 = .ok (.iload 5, 2) := by decide +kernel
theorem dX2_digestOn_7 : decode cX2_digestOn 7 = .ok (.bipush 6, 2) := by decide +kernel
theorem dX2_digestOn_9 : decode cX2_digestOn 9 = .ok (.if_icmp .ge 75, 3) := by decide +kernel
theorem dX2_digestOn_12 : decode cX2_digestOn 12 = .ok (.iconst 0, 1) := by decide +kernel
theorem dX2_digestOn_13 : decode cX2_digestOn 13 = .ok (.istore 6, 2) := by decide +kernel
theorem dX2_digestOn_15 : decode cX2_digestOn 15 = .ok (.iload 6, 2) := by decide +kernel
theorem dX2_digestOn_17 : decode cX2_digestOn 17 = .ok (.aload_n 0, 1) := by decide +kernel
theorem dX2_digestOn_18 : decode cX2_digestOn 18 = .ok (.getfield 11, 3) := by decide +kernel
theorem dX2_digestOn_21 : decode cX2_digestOn 21 = .ok (.iload 5, 2) := by decide +kernel
theorem dX2_digestOn_23 : decode cX2_digestOn 23 = .ok (.aaload, 1) := by decide +kernel
theorem dX2_digestOn_24 : decode cX2_digestOn 24 = .ok (.getfield 24, 3) := by decide +kernel
theorem dX2_digestOn_27 : decode cX2_digestOn 27 = .ok (.if_icmp .ge 51, 3) := by decide +kernel
theorem dX2_digestOn_30 : decode cX2_digestOn 30 = .ok (.iconst 0, 1) := by decide +kernel
theorem dX2_digestOn_31 : decode cX2_digestOn 31 = .ok (.istore 7, 2) := by decide +kernel
theorem dX2_digestOn_33 : decode cX2_digestOn 33 = .ok (.iload 7, 2) := by decide +kernel
theorem dX2_digestOn_35 : decode cX2_digestOn 35 = .ok (.aload_n 0, 1) := by decide +kernel
theorem dX2_digestOn_36 : decode cX2_digestOn 36 = .ok (.getfield 36, 3) := by decide +kernel
theorem dX2_digestOn_39 : decode cX2_digestOn 39 = .ok (.if_icmp .ge 33, 3) := by decide +kernel
theorem dX2_digestOn_42 : decode cX2_digestOn 42 = .ok (.ldc2_w 45, 3) := by decide +kernel
theorem dX2_digestOn_45 : decode cX2_digestOn 45 = .ok (.lload_n 3, 1) := by decide +kernel
theorem dX2_digestOn_46 : decode cX2_digestOn 46 = .ok (.lmul, 1) := by decide +kernel
theorem dX2_digestOn_47 : decode cX2_digestOn 47 = .ok (.aload_n 0, 1) := by decide +kernel
theorem dX2_digestOn_48 : decode cX2_digestOn 48 = .ok (.getfield 11, 3) := by decide +kernel
theorem dX2_digestOn_51 : decode cX2_digestOn 51 = .ok (.iload 5, 2) := by decide +kernel
theorem dX2_digestOn_53 : decode cX2_digestOn 53 = .ok (.aaload, 1) := by decide +kernel
theorem dX2_digestOn_54 : decode cX2_digestOn 54 = .ok (.getfield 28, 3) := by decide +kernel
theorem dX2_digestOn_57 : decode cX2_digestOn 57 = .ok (.iload 6, 2) := by decide +kernel
theorem dX2_digestOn_59 : decode cX2_digestOn 59 = .ok (.aaload, 1) := by decide +kernel
theorem dX2_digestOn_60 : decode cX2_digestOn 60 = .ok (.iload 7, 2) := by decide +kernel
theorem dX2_digestOn_62 : decode cX2_digestOn 62 = .ok (.iaload, 1) := by decide +kernel
theorem dX2_digestOn_63 : decode cX2_digestOn 63 = .ok (.i2l, 1) := by decide +kernel
theorem dX2_digestOn_64 : decode cX2_digestOn 64 = .ok (.ladd, 1) := by decide +kernel
theorem dX2_digestOn_65 : decode cX2_digestOn 65 = .ok (.lstore_n 3, 1) := by decide +kernel
theorem dX2_digestOn_66 : decode cX2_digestOn 66 = .ok (.iinc 7 1, 3) := by decide +kernel
theorem dX2_digestOn_69 : decode cX2_digestOn 69 = .ok (.goto (-36), 3) := by decide +kernel
theorem dX2_digestOn_72 : decode cX2_digestOn 72 = .ok (.iinc 6 1, 3) := by decide +kernel
theorem dX2_digestOn_75 : decode cX2_digestOn 75 = .ok (.goto (-60), 3) := by decide +kernel
theorem dX2_digestOn_78 : decode cX2_digestOn 78 = .ok (.iinc 5 1, 3) := by decide +kernel
theorem dX2_digestOn_81 : decode cX2_digestOn 81 = .ok (.goto (-76), 3) := by decide +kernel
theorem dX2_digestOn_84 : decode cX2_digestOn 84 = .ok (.lload_n 3, 1) := by decide +kernel
theorem dX2_digestOn_85 : decode cX2_digestOn 85 = .ok (.lreturn, 1) := by decide +kernel
theorem dX3_init_0 : decode cX3_init 0 = .ok (.aload_n 0, 1) := by decide +kernel
theorem dX3_init_1 : decode cX3_init 1 = .ok (.invokespecial 3, 3) := by decide +kernel
theorem dX3_init_4 : decode cX3_init 4 = .ok (.aload_n 0, 1) := by decide +kernel
theorem dX3_init_5 : decode cX3_init 5 = .ok (.iconst 3, 1) := by decide +kernel
theorem dX3_init_6 : decode cX3_init 6 = .ok (.putfield 9, 3) := by decide +kernel
theorem dX3_init_9 : decode cX3_init 9 = .ok (.aload_n 0, 1) := by decide +kernel
theorem dX3_init_10 : decode cX3_init 10 = .ok (.iconst (-1), 1) := by decide +kernel
theorem dX3_init_11 : decode cX3_init 11 = .ok (.putfield 15, 3) := by decide +kernel
theorem dX3_init_14 : decode cX3_init 14 = .ok (.aload_n 0, 1) := by decide +kernel
theorem dX3_init_15 : decode cX3_init 15 = .ok (.sipush 180, 3) := by decide +kernel
theorem dX3_init_18 : decode cX3_init 18 = .ok (.newarray .int, 2) := by decide +kernel
theorem dX3_init_20 : decode cX3_init 20 = .ok (.putfield 18, 3) := by decide +kernel
theorem dX3_init_23 : decode cX3_init 23 = .ok (.aload_n 0, 1) := by decide +kernel
theorem dX3_init_24 : decode cX3_init 24 = .ok (.sipush 180, 3) := by decide +kernel
theorem dX3_init_27 : decode cX3_init 27 = .ok (.newarray .int, 2) := by decide +kernel
theorem dX3_init_29 : decode cX3_init 29 = .ok (.putfield 22, 3) := by decide +kernel
theorem dX3_init_32 : decode cX3_init 32 = .ok (.aload_n 0, 1) := by decide +kernel
theorem dX3_init_33 : decode cX3_init 33 = .ok (.sipush 180, 3) := by decide +kernel
theorem dX3_init_36 : decode cX3_init 36 = .ok (.newarray .int, 2) := by decide +kernel
theorem dX3_init_38 : decode cX3_init 38 = .ok (.putfield 25, 3) := by decide +kernel
theorem dX3_init_41 : decode cX3_init 41 = .ok (.aload_n 0, 1) := by decide +kernel
theorem dX3_init_42 : decode cX3_init 42 = .ok (.sipush 180, 3) := by decide +kernel
theorem dX3_init_45 : decode cX3_init 45 = .ok (.newarray .int, 2) := by decide +kernel
theorem dX3_init_47 : decode cX3_init 47 = .ok (.putfield 28, 3) := by decide +kernel
theorem dX3_init_50 : decode cX3_init 50 = .ok (.aload_n 0, 1) := by decide +kernel
theorem dX3_init_51 : decode cX3_init 51 = .ok (.sipush 180, 3) := by decide +kernel
theorem dX3_init_54 : decode cX3_init 54 = .ok (.newarray .boolean, 2) := by decide +kernel
theorem dX3_init_56 : decode cX3_init 56 = .ok (.putfield 31, 3) := by decide +kernel
theorem dX3_init_59 : decode cX3_init 59 = .ok (.return_, 1) := by decide +kernel
theorem dX3_lastJoined_0 : decode cX3_lastJoined 0 = .ok (.bipush 29, 2) := by decide +kernel
theorem dX3_lastJoined_2 : decode cX3_lastJoined 2 = .ok (.istore_n 3, 1) := by decide +kernel
theorem dX3_lastJoined_3 : decode cX3_lastJoined 3 = .ok (.iload_n 3, 1) := by decide +kernel
theorem dX3_lastJoined_4 : decode cX3_lastJoined 4 = .ok (.ifCond .lt 40, 3) := by decide +kernel
theorem dX3_lastJoined_7 : decode cX3_lastJoined 7 = .ok (.aload_n 1, 1) := by decide +kernel
theorem dX3_lastJoined_8 : decode cX3_lastJoined 8 = .ok (.iload_n 2, 1) := by decide +kernel
theorem dX3_lastJoined_9 : decode cX3_lastJoined 9 = .ok (.iload_n 3, 1) := by decide +kernel
theorem dX3_lastJoined_10 : decode cX3_lastJoined 10 = .ok (.invokevirtual 35, 3) := by decide +kernel
theorem dX3_lastJoined_13 : decode cX3_lastJoined 13 = .ok (.astore 4, 2) := by decide +kernel
theorem dX3_lastJoined_15 : decode cX3_lastJoined 15 = .ok (.aload 4, 2) := by decide +kernel
theorem dX3_lastJoined_17 : decode cX3_lastJoined 17 = .ok (.ifnull 21, 3) := by decide +kernel
theorem dX3_lastJoined_20 : decode cX3_lastJoined 20 = .ok (.aload_n 0, 1) := by decide +kernel
theorem dX3_lastJoined_21 : decode cX3_lastJoined 21 = .ok (.aload_n 1, 1) := by decide +kernel
theorem dX3_lastJoined_22 : decode cX3_lastJoined 22 = .ok (.aload 4, 2) := by decide +kernel
theorem dX3_lastJoined_24 : decode cX3_lastJoined 24 = .ok (.bipush 30, 2) := by decide +kernel
theorem dX3_lastJoined_26 : decode cX3_lastJoined 26 = .ok (.iload_n 2, 1) := by decide +kernel
theorem dX3_lastJoined_27 : decode cX3_lastJoined 27 = .ok (.imul, 1) := by decide +kernel
theorem dX3_lastJoined_28 : decode cX3_lastJoined 28 = .ok (.iload_n 3, 1) := by decide +kernel
theorem dX3_lastJoined_29 : decode cX3_lastJoined 29 = .ok (.iadd, 1) := by decide +kernel
theorem dX3_lastJoined_30 : decode cX3_lastJoined 30 = .ok (.invokevirtual 41, 3) := by decide +kernel
theorem dX3_lastJoined_33 : decode cX3_lastJoined 33 = .ok (.ifCond .eq 5, 3) := by decide +kernel
theorem dX3_lastJoined_36 : decode cX3_lastJoined 36 = .ok (.iload_n 3, 1) := by decide +kernel
theorem dX3_lastJoined_37 : decode cX3_lastJoined 37 = .ok (.ireturn, 1) := by decide +kernel
theorem dX3_lastJoined_38 : decode cX3_lastJoined 38 = .ok (.iinc 3 (-1), 3) := by decide +kernel
theorem dX3_lastJoined_41 : decode cX3_lastJoined 41 = .ok (.goto (-38), 3) := by decide +kernel
theorem dX3_lastJoined_44 : decode cX3_lastJoined 44 = .ok (.iconst (-1), 1) := by decide +kernel
theorem dX3_lastJoined_45 : decode cX3_lastJoined 45 = .ok (.ireturn, 1) := by decide +kernel
theorem dX3_isJoined_0 : decode cX3_isJoined 0 = .ok (.iconst 0, 1) := by decide +kernel
theorem dX3_isJoined_1 : decode cX3_isJoined 1 = .ok (.istore 4, 2) := by decide +kernel
theorem dX3_isJoined_3 : decode cX3_isJoined 3 = .ok (.iload 4, 2) := by decide +kernel
theorem dX3_isJoined_5 : decode cX3_isJoined 5 = .ok (.sipush 180, 3) := by decide +kernel
theorem dX3_isJoined_8 : decode cX3_isJoined 8 = .ok (.if_icmp .ge 48, 3) := by decide +kernel
theorem dX3_isJoined_11 : decode cX3_isJoined 11 = .ok (.aload_n 1, 1) := by decide +kernel
theorem dX3_isJoined_12 : decode cX3_isJoined 12 = .ok (.iload 4, 2) := by decide +kernel
theorem dX3_isJoined_14 : decode cX3_isJoined 14 = .ok (.invokevirtual 45, 3) := by decide +kernel
theorem dX3_isJoined_17 : decode cX3_isJoined 17 = .ok (.astore 5, 2) := by decide +kernel
theorem dX3_isJoined_19 : decode cX3_isJoined 19 = .ok (.aload 5, 2) := by decide +kernel
theorem dX3_isJoined_21 : decode cX3_isJoined 21 = .ok (.ifnull 29, 3) := by decide +kernel
theorem dX3_isJoined_24 : decode cX3_isJoined 24 = .ok (.iload 4, 2) := by decide +kernel
theorem dX3_isJoined_26 : decode cX3_isJoined 26 = .ok (.iload_n 3, 1) := by decide +kernel
theorem dX3_isJoined_27 : decode cX3_isJoined 27 = .ok (.if_icmp .eq 23, 3) := by decide +kernel
theorem dX3_isJoined_30 : decode cX3_isJoined 30 = .ok (.aload_n 1, 1) := by decide +kernel
theorem dX3_isJoined_31 : decode cX3_isJoined 31 = .ok (.aload_n 2, 1) := by decide +kernel
theorem dX3_isJoined_32 : decode cX3_isJoined 32 = .ok (.aload 5, 2) := by decide +kernel
theorem dX3_isJoined_34 : decode cX3_isJoined 34 = .ok (.aload_n 0, 1) := by decide +kernel
theorem dX3_isJoined_35 : decode cX3_isJoined 35 = .ok (.getfield 9, 3) := by decide +kernel
theorem dX3_isJoined_38 : decode cX3_isJoined 38 = .ok (.invokevirtual 49, 3) := by decide +kernel
theorem dX3_isJoined_41 : decode cX3_isJoined 41 = .ok (.aload_n 0, 1) := by decide +kernel
theorem dX3_isJoined_42 : decode cX3_isJoined 42 = .ok (.getfield 9, 3) := by decide +kernel
theorem dX3_isJoined_45 : decode cX3_isJoined 45 = .ok (.if_icmp .gt 5, 3) := by decide +kernel
theorem dX3_isJoined_48 : decode cX3_isJoined 48 = .ok (.iconst 1, 1) := by decide +kernel
theorem dX3_isJoined_49 : decode cX3_isJoined 49 = .ok (.ireturn, 1) := by decide +kernel
theorem dX3_isJoined_50 : decode cX3_isJoined 50 = .ok (.iinc 4 1, 3) := by decide +kernel
theorem dX3_isJoined_53 : decode cX3_isJoined 53 = .ok (.goto (-50), 3) := by decide +kernel
theorem dX3_isJoined_56 : decode cX3_isJoined 56 = .ok (.iconst 0, 1) := by decide +kernel
theorem dX3_isJoined_57 : decode cX3_isJoined 57 = .ok (.ireturn, 1) := by decide +kernel
theorem dX3_findWalk_0 : decode cX3_findWalk 0 = .ok (.aload_n 0, 1) := by decide +kernel
theorem dX3_findWalk_1 : decode cX3_findWalk 1 = .ok (.aload_n 1, 1) := by decide +kernel
theorem dX3_findWalk_2 : decode cX3_findWalk 2 = .ok (.iload_n 3, 1) := by decide +kernel
theorem dX3_findWalk_3 : decode cX3_findWalk 3 = .ok (.invokevirtual 53, 3) := by decide +kernel
theorem dX3_findWalk_6 : decode cX3_findWalk 6 = .ok (.iconst 0, 1) := by decide +kernel
theorem dX3_findWalk_7 : decode cX3_findWalk 7 = .ok (.istore 4, 2) := by decide +kernel
theorem dX3_findWalk_9 : decode cX3_findWalk 9 = .ok (.iload 4, 2) := by decide +kernel
theorem dX3_findWalk_11 : decode cX3_findWalk 11 = .ok (.aload_n 0, 1) := by decide +kernel
theorem dX3_findWalk_12 : decode cX3_findWalk 12 = .ok (.getfield 57, 3) := by decide +kernel
theorem dX3_findWalk_15 : decode cX3_findWalk 15 = .ok (.if_icmp .ge 48, 3) := by decide +kernel
theorem dX3_findWalk_18 : decode cX3_findWalk 18 = .ok (.aload_n 0, 1) := by decide +kernel
theorem dX3_findWalk_19 : decode cX3_findWalk 19 = .ok (.getfield 31, 3) := by decide +kernel
theorem dX3_findWalk_22 : decode cX3_findWalk 22 = .ok (.iload_n 2, 1) := by decide +kernel
theorem dX3_findWalk_23 : decode cX3_findWalk 23 = .ok (.baload, 1) := by decide +kernel
theorem dX3_findWalk_24 : decode cX3_findWalk 24 = .ok (.ifCond .ne 39, 3) := by decide +kernel
theorem dX3_findWalk_27 : decode cX3_findWalk 27 = .ok (.aload_n 0, 1) := by decide +kernel
theorem dX3_findWalk_28 : decode cX3_findWalk 28 = .ok (.invokevirtual 60, 3) := by decide +kernel
theorem dX3_findWalk_31 : decode cX3_findWalk 31 = .ok (.istore 5, 2) := by decide +kernel
theorem dX3_findWalk_33 : decode cX3_findWalk 33 = .ok (.iload 5, 2) := by decide +kernel
theorem dX3_findWalk_35 : decode cX3_findWalk 35 = .ok (.iconst (-1), 1) := by decide +kernel
theorem dX3_findWalk_36 : decode cX3_findWalk 36 = .ok (.if_icmp .ne 6, 3) := by decide +kernel
theorem dX3_findWalk_39 : decode cX3_findWalk 39 = .ok (.goto 24, 3) := by decide +kernel
theorem dX3_findWalk_42 : decode cX3_findWalk 42 = .ok (.aload_n 0, 1) := by decide +kernel
theorem dX3_findWalk_43 : decode cX3_findWalk 43 = .ok (.getfield 31, 3) := by decide +kernel
theorem dX3_findWalk_46 : decode cX3_findWalk 46 = .ok (.iload 5, 2) := by decide +kernel
theorem dX3_findWalk_48 : decode cX3_findWalk 48 = .ok (.iconst 1, 1) := by decide +kernel
theorem dX3_findWalk_49 : decode cX3_findWalk 49 = .ok (.bastore, 1) := by decide +kernel
theorem dX3_findWalk_50 : decode cX3_findWalk 50 = .ok (.aload_n 0, 1) := by decide +kernel
theorem dX3_findWalk_51 : decode cX3_findWalk 51 = .ok (.aload_n 1, 1) := by decide +kernel
theorem dX3_findWalk_52 : decode cX3_findWalk 52 = .ok (.iload 5, 2) := by decide +kernel
theorem dX3_findWalk_54 : decode cX3_findWalk 54 = .ok (.invokevirtual 64, 3) := by decide +kernel
theorem dX3_findWalk_57 : decode cX3_findWalk 57 = .ok (.iinc 4 1, 3) := by decide +kernel
theorem dX3_findWalk_60 : decode cX3_findWalk 60 = .ok (.goto (-51), 3) := by decide +kernel
theorem dX3_findWalk_63 : decode cX3_findWalk 63 = .ok (.aload_n 0, 1) := by decide +kernel
theorem dX3_findWalk_64 : decode cX3_findWalk 64 = .ok (.aload_n 0, 1) := by decide +kernel
theorem dX3_findWalk_65 : decode cX3_findWalk 65 = .ok (.getfield 31, 3) := by decide +kernel
theorem dX3_findWalk_68 : decode cX3_findWalk 68 = .ok (.iload_n 2, 1) := by decide +kernel
theorem dX3_findWalk_69 : decode cX3_findWalk 69 = .ok (.baload, 1) := by decide +kernel
theorem dX3_findWalk_70 : decode cX3_findWalk 70 = .ok (.ifCond .eq 12, 3) := by decide +kernel
theorem dX3_findWalk_73 : decode cX3_findWalk 73 = .ok (.aload_n 0, 1) := by decide +kernel
theorem dX3_findWalk_74 : decode cX3_findWalk 74 = .ok (.getfield 25, 3) := by decide +kernel
theorem dX3_findWalk_77 : decode cX3_findWalk 77 = .ok (.iload_n 2, 1) := by decide +kernel
theorem dX3_findWalk_78 : decode cX3_findWalk 78 = .ok (.iaload, 1) := by decide +kernel
theorem dX3_findWalk_79 : decode cX3_findWalk 79 = .ok (.goto 4, 3) := by decide +kernel
theorem dX3_findWalk_82 : decode cX3_findWalk 82 = .ok (.iconst (-1), 1) := by decide +kernel
theorem dX3_findWalk_83 : decode cX3_findWalk 83 = .ok (.putfield 15, 3) := by decide +kernel
theorem dX3_findWalk_86 : decode cX3_findWalk 86 = .ok (.aload_n 0, 1) := by decide +kernel
theorem dX3_findWalk_87 : decode cX3_findWalk 87 = .ok (.iload_n 2, 1) := by decide +kernel
theorem dX3_findWalk_88 : decode cX3_findWalk 88 = .ok (.iload_n 3, 1) := by decide +kernel
theorem dX3_findWalk_89 : decode cX3_findWalk 89 = .ok (.invokevirtual 67, 3) := by decide +kernel
theorem dX3_findWalk_92 : decode cX3_findWalk 92 = .ok (.return_, 1) := by decide +kernel
theorem dX3_begin_0 : decode cX3_begin 0 = .ok (.aload_n 0, 1) := by decide +kernel
theorem dX3_begin_1 : decode cX3_begin 1 = .ok (.iconst 0, 1) := by decide +kernel
theorem dX3_begin_2 : decode cX3_begin 2 = .ok (.putfield 57, 3) := by decide +kernel
theorem dX3_begin_5 : decode cX3_begin 5 = .ok (.iconst 0, 1) := by decide +kernel
theorem dX3_begin_6 : decode cX3_begin 6 = .ok (.istore_n 3, 1) := by decide +kernel
theorem dX3_begin_7 : decode cX3_begin 7 = .ok (.iload_n 3, 1) := by decide +kernel
theorem dX3_begin_8 : decode cX3_begin 8 = .ok (.sipush 180, 3) := by decide +kernel
theorem dX3_begin_11 : decode cX3_begin 11 = .ok (.if_icmp .ge 44, 3) := by decide +kernel
theorem dX3_begin_14 : decode cX3_begin 14 = .ok (.aload_n 0, 1) := by decide +kernel
theorem dX3_begin_15 : decode cX3_begin 15 = .ok (.getfield 31, 3) := by decide +kernel
theorem dX3_begin_18 : decode cX3_begin 18 = .ok (.iload_n 3, 1) := by decide +kernel
theorem dX3_begin_19 : decode cX3_begin 19 = .ok (.iconst 0, 1) := by decide +kernel
theorem dX3_begin_20 : decode cX3_begin 20 = .ok (.bastore, 1) := by decide +kernel
theorem dX3_begin_21 : decode cX3_begin 21 = .ok (.aload_n 1, 1) := by decide +kernel
theorem dX3_begin_22 : decode cX3_begin 22 = .ok (.iload_n 3, 1) := by decide +kernel
theorem dX3_begin_23 : decode cX3_begin 23 = .ok (.invokevirtual 45, 3) := by decide +kernel
theorem dX3_begin_26 : decode cX3_begin 26 = .ok (.ifnull 23, 3) := by decide +kernel
theorem dX3_begin_29 : decode cX3_begin 29 = .ok (.aload_n 0, 1) := by decide +kernel
theorem dX3_begin_30 : decode cX3_begin 30 = .ok (.getfield 22, 3) := by decide +kernel
theorem dX3_begin_33 : decode cX3_begin 33 = .ok (.aload_n 0, 1) := by decide +kernel
theorem dX3_begin_34 : decode cX3_begin 34 = .ok (.getfield 57, 3) := by decide +kernel
theorem dX3_begin_37 : decode cX3_begin 37 = .ok (.iload_n 3, 1) := by decide +kernel
theorem dX3_begin_38 : decode cX3_begin 38 = .ok (.iastore, 1) := by decide +kernel
theorem dX3_begin_39 : decode cX3_begin 39 = .ok (.aload_n 0, 1) := by decide +kernel
theorem dX3_begin_40 : decode cX3_begin 40 = .ok (.dup, 1) := by decide +kernel
theorem dX3_begin_41 : decode cX3_begin 41 = .ok (.getfield 57, 3) := by decide +kernel
theorem dX3_begin_44 : decode cX3_begin 44 = .ok (.iconst 1, 1) := by decide +kernel
theorem dX3_begin_45 : decode cX3_begin 45 = .ok (.iadd, 1) := by decide +kernel
theorem dX3_begin_46 : decode cX3_begin 46 = .ok (.putfield 57, 3) := by decide +kernel
theorem dX3_begin_49 : decode cX3_begin 49 = .ok (.iinc 3 1, 3) := by decide +kernel
theorem dX3_begin_52 : decode cX3_begin 52 = .ok (.goto (-45), 3) := by decide +kernel
theorem dX3_begin_55 : decode cX3_begin 55 = .ok (.aload_n 0, 1) := by decide +kernel
theorem dX3_begin_56 : decode cX3_begin 56 = .ok (.getfield 25, 3) := by decide +kernel
theorem dX3_begin_59 : decode cX3_begin 59 = .ok (.ldc 71, 2) := by decide +kernel
theorem dX3_begin_61 : decode cX3_begin 61 = .ok (.invokestatic 72, 3) := by decide +kernel
theorem dX3_begin_64 : decode cX3_begin 64 = .ok (.aload_n 0, 1) := by decide +kernel
theorem dX3_begin_65 : decode cX3_begin 65 = .ok (.getfield 28, 3) := by decide +kernel
theorem dX3_begin_68 : decode cX3_begin 68 = .ok (.iconst (-1), 1) := by decide +kernel
theorem dX3_begin_69 : decode cX3_begin 69 = .ok (.invokestatic 72, 3) := by decide +kernel
theorem dX3_begin_72 : decode cX3_begin 72 = .ok (.aload_n 0, 1) := by decide +kernel
theorem dX3_begin_73 : decode cX3_begin 73 = .ok (.getfield 25, 3) := by decide +kernel
theorem dX3_begin_76 : decode cX3_begin 76 = .ok (.iload_n 2, 1) := by decide +kernel
theorem dX3_begin_77 : decode cX3_begin 77 = .ok (.iconst 0, 1) := by decide +kernel
theorem dX3_begin_78 : decode cX3_begin 78 = .ok (.iastore, 1) := by decide +kernel
theorem dX3_begin_79 : decode cX3_begin 79 = .ok (.return_, 1) := by decide +kernel
theorem dX3_nearestOpen_0 : decode cX3_nearestOpen 0 = .ok (.iconst (-1), 1) := by decide +kernel
theorem dX3_nearestOpen_1 : decode cX3_nearestOpen 1 = .ok (.istore_n 1, 1) := by decide +kernel
theorem dX3_nearestOpen_2 : decode cX3_nearestOpen 2 = .ok (.ldc 71, 2) := by decide +kernel
theorem dX3_nearestOpen_4 : decode cX3_nearestOpen 4 = .ok (.istore_n 2, 1) := by decide +kernel
theorem dX3_nearestOpen_5 : decode cX3_nearestOpen 5 = .ok (.iconst 0, 1) := by decide +kernel
theorem dX3_nearestOpen_6 : decode cX3_nearestOpen 6 = .ok (.istore_n 3, 1) := by decide +kernel
theorem dX3_nearestOpen_7 : decode cX3_nearestOpen 7 = .ok (.iload_n 3, 1) := by decide +kernel
theorem dX3_nearestOpen_8 : decode cX3_nearestOpen 8 = .ok (.aload_n 0, 1) := by decide +kernel
theorem dX3_nearestOpen_9 : decode cX3_nearestOpen 9 = .ok (.getfield 57, 3) := by decide +kernel
theorem dX3_nearestOpen_12 : decode cX3_nearestOpen 12 = .ok (.if_icmp .ge 49, 3) := by decide +kernel
theorem dX3_nearestOpen_15 : decode cX3_nearestOpen 15 = .ok (.aload_n 0, 1) := by decide +kernel
theorem dX3_nearestOpen_16 : decode cX3_nearestOpen 16 = .ok (.getfield 22, 3) := by decide +kernel
theorem dX3_nearestOpen_19 : decode cX3_nearestOpen 19 = .ok (.iload_n 3, 1) := by decide +kernel
theorem dX3_nearestOpen_20 : decode cX3_nearestOpen 20 = .ok (.iaload, 1) := by decide +kernel
theorem dX3_nearestOpen_21 : decode cX3_nearestOpen 21 = .ok (.istore 4, 2) := by decide +kernel
theorem dX3_nearestOpen_23 : decode cX3_nearestOpen 23 = .ok (.aload_n 0, 1) := by decide +kernel
theorem dX3_nearestOpen_24 : decode cX3_nearestOpen 24 = .ok (.getfield 31, 3) := by decide +kernel
theorem dX3_nearestOpen_27 : decode cX3_nearestOpen 27 = .ok (.iload 4, 2) := by decide +kernel
theorem dX3_nearestOpen_29 : decode cX3_nearestOpen 29 = .ok (.baload, 1) := by decide +kernel
theorem dX3_nearestOpen_30 : decode cX3_nearestOpen 30 = .ok (.ifCond .ne 25, 3) := by decide +kernel
theorem dX3_nearestOpen_33 : decode cX3_nearestOpen 33 = .ok (.aload_n 0, 1) := by decide +kernel
theorem dX3_nearestOpen_34 : decode cX3_nearestOpen 34 = .ok (.getfield 25, 3) := by decide +kernel
theorem dX3_nearestOpen_37 : decode cX3_nearestOpen 37 = .ok (.iload 4, 2) := by decide +kernel
theorem dX3_nearestOpen_39 : decode cX3_nearestOpen 39 = .ok (.iaload, 1) := by decide +kernel
theorem dX3_nearestOpen_40 : decode cX3_nearestOpen 40 = .ok (.iload_n 2, 1) := by decide +kernel
theorem dX3_nearestOpen_41 : decode cX3_nearestOpen 41 = .ok (.if_icmp .ge 14, 3) := by decide +kernel
theorem dX3_nearestOpen_44 : decode cX3_nearestOpen 44 = .ok (.aload_n 0, 1) := by decide +kernel
theorem dX3_nearestOpen_45 : decode cX3_nearestOpen 45 = .ok (.getfield 25, 3) := by decide +kernel
theorem dX3_nearestOpen_48 : decode cX3_nearestOpen 48 = .ok (.iload 4, 2) := by decide +kernel
theorem dX3_nearestOpen_50 : decode cX3_nearestOpen 50 = .ok (.iaload, 1) := by decide +kernel
theorem dX3_nearestOpen_51 : decode cX3_nearestOpen 51 = .ok (.istore_n 2, 1) := by decide +kernel
theorem dX3_nearestOpen_52 : decode cX3_nearestOpen 52 = .ok (.iload 4, 2) := by decide +kernel
theorem dX3_nearestOpen_54 : decode cX3_nearestOpen 54 = .ok (.istore_n 1, 1) := by decide +kernel
theorem dX3_nearestOpen_55 : decode cX3_nearestOpen 55 = .ok (.iinc 3 1, 3) := by decide +kernel
theorem dX3_nearestOpen_58 : decode cX3_nearestOpen 58 = .ok (.goto (-51), 3) := by decide +kernel
theorem dX3_nearestOpen_61 : decode cX3_nearestOpen 61 = .ok (.iload_n 1, 1) := by decide +kernel
theorem dX3_nearestOpen_62 : decode cX3_nearestOpen 62 = .ok (.ireturn, 1) := by decide +kernel
theorem dX3_reachFrom_0 : decode cX3_reachFrom 0 = .ok (.iconst 0, 1) := by decide +kernel
theorem dX3_reachFrom_1 : decode cX3_reachFrom 1 = .ok (.istore_n 3, 1) := by decide +kernel
theorem dX3_reachFrom_2 : decode cX3_reachFrom 2 = .ok (.iload_n 3, 1) := by decide +kernel
theorem dX3_reachFrom_3 : decode cX3_reachFrom 3 = .ok (.aload_n 0, 1) := by decide +kernel
theorem dX3_reachFrom_4 : decode cX3_reachFrom 4 = .ok (.getfield 57, 3) := by decide +kernel
theorem dX3_reachFrom_7 : decode cX3_reachFrom 7 = .ok (.if_icmp .ge 110, 3) := by decide +kernel
theorem dX3_reachFrom_10 : decode cX3_reachFrom 10 = .ok (.aload_n 0, 1) := by decide +kernel
theorem dX3_reachFrom_11 : decode cX3_reachFrom 11 = .ok (.getfield 22, 3) := by decide +kernel
theorem dX3_reachFrom_14 : decode cX3_reachFrom 14 = .ok (.iload_n 3, 1) := by decide +kernel
theorem dX3_reachFrom_15 : decode cX3_reachFrom 15 = .ok (.iaload, 1) := by decide +kernel
theorem dX3_reachFrom_16 : decode cX3_reachFrom 16 = .ok (.istore 4, 2) := by decide +kernel
theorem dX3_reachFrom_18 : decode cX3_reachFrom 18 = .ok (.aload_n 0, 1) := by decide +kernel
theorem dX3_reachFrom_19 : decode cX3_reachFrom 19 = .ok (.getfield 31, 3) := by decide +kernel
theorem dX3_reachFrom_22 : decode cX3_reachFrom 22 = .ok (.iload 4, 2) := by decide +kernel
theorem dX3_reachFrom_24 : decode cX3_reachFrom 24 = .ok (.baload, 1) := by decide +kernel
theorem dX3_reachFrom_25 : decode cX3_reachFrom 25 = .ok (.ifCond .eq 7, 3) := by decide +kernel
theorem dX3_reachFrom_28 : decode cX3_reachFrom 28 = .ok (.iconst (-1), 1) := by decide +kernel
theorem dX3_reachFrom_29 : decode cX3_reachFrom 29 = .ok (.goto 11, 3) := by decide +kernel
theorem dX3_reachFrom_32 : decode cX3_reachFrom 32 = .ok (.aload_n 0, 1) := by decide +kernel
theorem dX3_reachFrom_33 : decode cX3_reachFrom 33 = .ok (.aload_n 1, 1) := by decide +kernel
theorem dX3_reachFrom_34 : decode cX3_reachFrom 34 = .ok (.iload 4, 2) := by decide +kernel
theorem dX3_reachFrom_36 : decode cX3_reachFrom 36 = .ok (.iload_n 2, 1) := by decide +kernel
theorem dX3_reachFrom_37 : decode cX3_reachFrom 37 = .ok (.invokevirtual 78, 3) := by decide +kernel
theorem dX3_reachFrom_40 : decode cX3_reachFrom 40 = .ok (.istore 5, 2) := by decide +kernel
theorem dX3_reachFrom_42 : decode cX3_reachFrom 42 = .ok (.iload 5, 2) := by decide +kernel
theorem dX3_reachFrom_44 : decode cX3_reachFrom 44 = .ok (.iconst (-1), 1) := by decide +kernel
theorem dX3_reachFrom_45 : decode cX3_reachFrom 45 = .ok (.if_icmp .eq 66, 3) := by decide +kernel
theorem dX3_reachFrom_48 : decode cX3_reachFrom 48 = .ok (.aload_n 0, 1) := by decide +kernel
theorem dX3_reachFrom_49 : decode cX3_reachFrom 49 = .ok (.getfield 25, 3) := by decide +kernel
theorem dX3_reachFrom_52 : decode cX3_reachFrom 52 = .ok (.iload_n 2, 1) := by decide +kernel
theorem dX3_reachFrom_53 : decode cX3_reachFrom 53 = .ok (.iaload, 1) := by decide +kernel
theorem dX3_reachFrom_54 : decode cX3_reachFrom 54 = .ok (.iload 5, 2) := by decide +kernel
theorem dX3_reachFrom_56 : decode cX3_reachFrom 56 = .ok (.iadd, 1) := by decide +kernel
theorem dX3_reachFrom_57 : decode cX3_reachFrom 57 = .ok (.istore 6, 2) := by decide +kernel
theorem dX3_reachFrom_59 : decode cX3_reachFrom 59 = .ok (.iload 6, 2) := by decide +kernel
theorem dX3_reachFrom_61 : decode cX3_reachFrom 61 = .ok (.aload_n 0, 1) := by decide +kernel
theorem dX3_reachFrom_62 : decode cX3_reachFrom 62 = .ok (.getfield 25, 3) := by decide +kernel
theorem dX3_reachFrom_65 : decode cX3_reachFrom 65 = .ok (.iload 4, 2) := by decide +kernel
theorem dX3_reachFrom_67 : decode cX3_reachFrom 67 = .ok (.iaload, 1) := by decide +kernel
theorem dX3_reachFrom_68 : decode cX3_reachFrom 68 = .ok (.if_icmp .lt 26, 3) := by decide +kernel
theorem dX3_reachFrom_71 : decode cX3_reachFrom 71 = .ok (.iload 6, 2) := by decide +kernel
theorem dX3_reachFrom_73 : decode cX3_reachFrom 73 = .ok (.aload_n 0, 1) := by decide +kernel
theorem dX3_reachFrom_74 : decode cX3_reachFrom 74 = .ok (.getfield 25, 3) := by decide +kernel
theorem dX3_reachFrom_77 : decode cX3_reachFrom 77 = .ok (.iload 4, 2) := by decide +kernel
theorem dX3_reachFrom_79 : decode cX3_reachFrom 79 = .ok (.iaload, 1) := by decide +kernel
theorem dX3_reachFrom_80 : decode cX3_reachFrom 80 = .ok (.if_icmp .ne 31, 3) := by decide +kernel
theorem dX3_reachFrom_83 : decode cX3_reachFrom 83 = .ok (.iload_n 2, 1) := by decide +kernel
theorem dX3_reachFrom_84 : decode cX3_reachFrom 84 = .ok (.aload_n 0, 1) := by decide +kernel
theorem dX3_reachFrom_85 : decode cX3_reachFrom 85 = .ok (.getfield 28, 3) := by decide +kernel
theorem dX3_reachFrom_88 : decode cX3_reachFrom 88 = .ok (.iload 4, 2) := by decide +kernel
theorem dX3_reachFrom_90 : decode cX3_reachFrom 90 = .ok (.iaload, 1) := by decide +kernel
theorem dX3_reachFrom_91 : decode cX3_reachFrom 91 = .ok (.if_icmp .ge 20, 3) := by decide +kernel
theorem dX3_reachFrom_94 : decode cX3_reachFrom 94 = .ok (.aload_n 0, 1) := by decide +kernel
theorem dX3_reachFrom_95 : decode cX3_reachFrom 95 = .ok (.getfield 25, 3) := by decide +kernel
theorem dX3_reachFrom_98 : decode cX3_reachFrom 98 = .ok (.iload 4, 2) := by decide +kernel
theorem dX3_reachFrom_100 : decode cX3_reachFrom 100 = .ok (.iload 6, 2) := by decide +kernel
theorem dX3_reachFrom_102 : decode cX3_reachFrom 102 = .ok (.iastore, 1) := by decide +kernel
theorem dX3_reachFrom_103 : decode cX3_reachFrom 103 = .ok (.aload_n 0, 1) := by decide +kernel
theorem dX3_reachFrom_104 : decode cX3_reachFrom 104 = .ok (.getfield 28, 3) := by decide +kernel
theorem dX3_reachFrom_107 : decode cX3_reachFrom 107 = .ok (.iload 4, 2) := by decide +kernel
theorem dX3_reachFrom_109 : decode cX3_reachFrom 109 = .ok (.iload_n 2, 1) := by decide +kernel
theorem dX3_reachFrom_110 : decode cX3_reachFrom 110 = .ok (.iastore, 1) := by decide +kernel
theorem dX3_reachFrom_111 : decode cX3_reachFrom 111 = .ok (.iinc 3 1, 3) := by decide +kernel
theorem dX3_reachFrom_114 : decode cX3_reachFrom 114 = .ok (.goto (-112), 3) := by decide +kernel
theorem dX3_reachFrom_117 : decode cX3_reachFrom 117 = .ok (.return_, 1) := by decide +kernel
theorem dX3_wayCost_0 : decode cX3_wayCost 0 = .ok (.iload_n 3, 1) := by decide +kernel
theorem dX3_wayCost_1 : decode cX3_wayCost 1 = .ok (.iload_n 2, 1) := by decide +kernel
theorem dX3_wayCost_2 : decode cX3_wayCost 2 = .ok (.iconst 1, 1) := by decide +kernel
theorem dX3_wayCost_3 : decode cX3_wayCost 3 = .ok (.iadd, 1) := by decide +kernel
theorem dX3_wayCost_4 : decode cX3_wayCost 4 = .ok (.if_icmp .ne 12, 3) := by decide +kernel
theorem dX3_wayCost_7 : decode cX3_wayCost 7 = .ok (.iload_n 3, 1) := by decide +kernel
theorem dX3_wayCost_8 : decode cX3_wayCost 8 = .ok (.bipush 30, 2) := by decide +kernel
theorem dX3_wayCost_10 : decode cX3_wayCost 10 = .ok (.irem, 1) := by decide +kernel
theorem dX3_wayCost_11 : decode cX3_wayCost 11 = .ok (.ifCond .eq 5, 3) := by decide +kernel
theorem dX3_wayCost_14 : decode cX3_wayCost 14 = .ok (.iconst 1, 1) := by decide +kernel
theorem dX3_wayCost_15 : decode cX3_wayCost 15 = .ok (.ireturn, 1) := by decide +kernel
theorem dX3_wayCost_16 : decode cX3_wayCost 16 = .ok (.aload_n 1, 1) := by decide +kernel
theorem dX3_wayCost_17 : decode cX3_wayCost 17 = .ok (.iload_n 2, 1) := by decide +kernel
theorem dX3_wayCost_18 : decode cX3_wayCost 18 = .ok (.invokevirtual 45, 3) := by decide +kernel
theorem dX3_wayCost_21 : decode cX3_wayCost 21 = .ok (.astore 4, 2) := by decide +kernel
theorem dX3_wayCost_23 : decode cX3_wayCost 23 = .ok (.aload_n 1, 1) := by decide +kernel
theorem dX3_wayCost_24 : decode cX3_wayCost 24 = .ok (.iload_n 3, 1) := by decide +kernel
theorem dX3_wayCost_25 : decode cX3_wayCost 25 = .ok (.invokevirtual 45, 3) := by decide +kernel
theorem dX3_wayCost_28 : decode cX3_wayCost 28 = .ok (.astore 5, 2) := by decide +kernel
theorem dX3_wayCost_30 : decode cX3_wayCost 30 = .ok (.aload 4, 2) := by decide +kernel
theorem dX3_wayCost_32 : decode cX3_wayCost 32 = .ok (.ifnull 8, 3) := by decide +kernel
theorem dX3_wayCost_35 : decode cX3_wayCost 35 = .ok (.aload 5, 2) := by decide +kernel
theorem dX3_wayCost_37 : decode cX3_wayCost 37 = .ok (.ifnonnull 5, 3) := by decide +kernel
theorem dX3_wayCost_40 : decode cX3_wayCost 40 = .ok (.iconst (-1), 1) := by decide +kernel
theorem dX3_wayCost_41 : decode cX3_wayCost 41 = .ok (.ireturn, 1) := by decide +kernel
theorem dX3_wayCost_42 : decode cX3_wayCost 42 = .ok (.aload_n 1, 1) := by decide +kernel
theorem dX3_wayCost_43 : decode cX3_wayCost 43 = .ok (.aload 4, 2) := by decide +kernel
theorem dX3_wayCost_45 : decode cX3_wayCost 45 = .ok (.aload 5, 2) := by decide +kernel
theorem dX3_wayCost_47 : decode cX3_wayCost 47 = .ok (.aload_n 0, 1) := by decide +kernel
theorem dX3_wayCost_48 : decode cX3_wayCost 48 = .ok (.getfield 9, 3) := by decide +kernel
theorem dX3_wayCost_51 : decode cX3_wayCost 51 = .ok (.invokevirtual 49, 3) := by decide +kernel
theorem dX3_wayCost_54 : decode cX3_wayCost 54 = .ok (.istore 6, 2) := by decide +kernel
theorem dX3_wayCost_56 : decode cX3_wayCost 56 = .ok (.iload 6, 2) := by decide +kernel
theorem dX3_wayCost_58 : decode cX3_wayCost 58 = .ok (.aload_n 0, 1) := by decide +kernel
theorem dX3_wayCost_59 : decode cX3_wayCost 59 = .ok (.getfield 9, 3) := by decide +kernel
theorem dX3_wayCost_62 : decode cX3_wayCost 62 = .ok (.if_icmp .gt 10, 3) := by decide +kernel
theorem dX3_wayCost_65 : decode cX3_wayCost 65 = .ok (.iconst 2, 1) := by decide +kernel
theorem dX3_wayCost_66 : decode cX3_wayCost 66 = .ok (.iload 6, 2) := by decide +kernel
theorem dX3_wayCost_68 : decode cX3_wayCost 68 = .ok (.iadd, 1) := by decide +kernel
theorem dX3_wayCost_69 : decode cX3_wayCost 69 = .ok (.goto 4, 3) := by decide +kernel
theorem dX3_wayCost_72 : decode cX3_wayCost 72 = .ok (.iconst (-1), 1) := by decide +kernel
theorem dX3_wayCost_73 : decode cX3_wayCost 73 = .ok (.ireturn, 1) := by decide +kernel
theorem dX3_keepPath_0 : decode cX3_keepPath 0 = .ok (.aload_n 0, 1) := by decide +kernel
theorem dX3_keepPath_1 : decode cX3_keepPath 1 = .ok (.iconst 0, 1) := by decide +kernel
theorem dX3_keepPath_2 : decode cX3_keepPath 2 = .ok (.putfield 82, 3) := by decide +kernel
theorem dX3_keepPath_5 : decode cX3_keepPath 5 = .ok (.aload_n 0, 1) := by decide +kernel
theorem dX3_keepPath_6 : decode cX3_keepPath 6 = .ok (.getfield 15, 3) := by decide +kernel
theorem dX3_keepPath_9 : decode cX3_keepPath 9 = .ok (.iconst (-1), 1) := by decide +kernel
theorem dX3_keepPath_10 : decode cX3_keepPath 10 = .ok (.if_icmp .ne 4, 3) := by decide +kernel
theorem dX3_keepPath_13 : decode cX3_keepPath 13 = .ok (.return_, 1) := by decide +kernel
theorem dX3_keepPath_14 : decode cX3_keepPath 14 = .ok (.iload_n 1, 1) := by decide +kernel
theorem dX3_keepPath_15 : decode cX3_keepPath 15 = .ok (.istore_n 3, 1) := by decide +kernel
theorem dX3_keepPath_16 : decode cX3_keepPath 16 = .ok (.iconst 0, 1) := by decide +kernel
theorem dX3_keepPath_17 : decode cX3_keepPath 17 = .ok (.istore 4, 2) := by decide +kernel
theorem dX3_keepPath_19 : decode cX3_keepPath 19 = .ok (.iload 4, 2) := by decide +kernel
theorem dX3_keepPath_21 : decode cX3_keepPath 21 = .ok (.sipush 180, 3) := by decide +kernel
theorem dX3_keepPath_24 : decode cX3_keepPath 24 = .ok (.if_icmp .ge 46, 3) := by decide +kernel
theorem dX3_keepPath_27 : decode cX3_keepPath 27 = .ok (.iload_n 3, 1) := by decide +kernel
theorem dX3_keepPath_28 : decode cX3_keepPath 28 = .ok (.iconst (-1), 1) := by decide +kernel
theorem dX3_keepPath_29 : decode cX3_keepPath 29 = .ok (.if_icmp .eq 41, 3) := by decide +kernel
theorem dX3_keepPath_32 : decode cX3_keepPath 32 = .ok (.aload_n 0, 1) := by decide +kernel
theorem dX3_keepPath_33 : decode cX3_keepPath 33 = .ok (.getfield 18, 3) := by decide +kernel
theorem dX3_keepPath_36 : decode cX3_keepPath 36 = .ok (.iload 4, 2) := by decide +kernel
theorem dX3_keepPath_38 : decode cX3_keepPath 38 = .ok (.iload_n 3, 1) := by decide +kernel
theorem dX3_keepPath_39 : decode cX3_keepPath 39 = .ok (.iastore, 1) := by decide +kernel
theorem dX3_keepPath_40 : decode cX3_keepPath 40 = .ok (.aload_n 0, 1) := by decide +kernel
theorem dX3_keepPath_41 : decode cX3_keepPath 41 = .ok (.iload 4, 2) := by decide +kernel
theorem dX3_keepPath_43 : decode cX3_keepPath 43 = .ok (.iconst 1, 1) := by decide +kernel
theorem dX3_keepPath_44 : decode cX3_keepPath 44 = .ok (.iadd, 1) := by decide +kernel
theorem dX3_keepPath_45 : decode cX3_keepPath 45 = .ok (.putfield 82, 3) := by decide +kernel
theorem dX3_keepPath_48 : decode cX3_keepPath 48 = .ok (.iload_n 3, 1) := by decide +kernel
theorem dX3_keepPath_49 : decode cX3_keepPath 49 = .ok (.iload_n 2, 1) := by decide +kernel
theorem dX3_keepPath_50 : decode cX3_keepPath 50 = .ok (.if_icmp .ne 7, 3) := by decide +kernel
theorem dX3_keepPath_53 : decode cX3_keepPath 53 = .ok (.iconst (-1), 1) := by decide +kernel
theorem dX3_keepPath_54 : decode cX3_keepPath 54 = .ok (.goto 9, 3) := by decide +kernel
theorem dX3_keepPath_57 : decode cX3_keepPath 57 = .ok (.aload_n 0, 1) := by decide +kernel
theorem dX3_keepPath_58 : decode cX3_keepPath 58 = .ok (.getfield 28, 3) := by decide +kernel
theorem dX3_keepPath_61 : decode cX3_keepPath 61 = .ok (.iload_n 3, 1) := by decide +kernel
theorem dX3_keepPath_62 : decode cX3_keepPath 62 = .ok (.iaload, 1) := by decide +kernel
theorem dX3_keepPath_63 : decode cX3_keepPath 63 = .ok (.istore_n 3, 1) := by decide +kernel
theorem dX3_keepPath_64 : decode cX3_keepPath 64 = .ok (.iinc 4 1, 3) := by decide +kernel
theorem dX3_keepPath_67 : decode cX3_keepPath 67 = .ok (.goto (-48), 3) := by decide +kernel
theorem dX3_keepPath_70 : decode cX3_keepPath 70 = .ok (.return_, 1) := by decide +kernel
theorem dX4_init_0 : decode cX4_init 0 = .ok (.aload_n 0, 1) := by decide +kernel
theorem dX4_init_1 : decode cX4_init 1 = .ok (.invokespecial 3, 3) := by decide +kernel
theorem dX4_init_4 : decode cX4_init 4 = .ok (.aload_n 0, 1) := by decide +kernel
theorem dX4_init_5 : decode cX4_init 5 = .ok (.bipush 30, 2) := by decide +kernel
theorem dX4_init_7 : decode cX4_init 7 = .ok (.newarray .int, 2) := by decide +kernel
theorem dX4_init_9 : decode cX4_init 9 = .ok (.putfield 9, 3) := by decide +kernel
theorem dX4_init_12 : decode cX4_init 12 = .ok (.return_, 1) := by decide +kernel
theorem dX4_findKeys_0 : decode cX4_findKeys 0 = .ok (.aload_n 0, 1) := by decide +kernel
theorem dX4_findKeys_1 : decode cX4_findKeys 1 = .ok (.iconst 0, 1) := by decide +kernel
theorem dX4_findKeys_2 : decode cX4_findKeys 2 = .ok (.putfield 15, 3) := by decide +kernel
theorem dX4_findKeys_5 : decode cX4_findKeys 5 = .ok (.iconst (-1), 1) := by decide +kernel
theorem dX4_findKeys_6 : decode cX4_findKeys 6 = .ok (.istore 4, 2) := by decide +kernel
theorem dX4_findKeys_8 : decode cX4_findKeys 8 = .ok (.iconst 0, 1) := by decide +kernel
theorem dX4_findKeys_9 : decode cX4_findKeys 9 = .ok (.istore 5, 2) := by decide +kernel
theorem dX4_findKeys_11 : decode cX4_findKeys 11 = .ok (.iload 5, 2) := by decide +kernel
theorem dX4_findKeys_13 : decode cX4_findKeys 13 = .ok (.bipush 30, 2) := by decide +kernel
theorem dX4_findKeys_15 : decode cX4_findKeys 15 = .ok (.if_icmp .ge 57, 3) := by decide +kernel
theorem dX4_findKeys_18 : decode cX4_findKeys 18 = .ok (.iload 4, 2) := by decide +kernel
theorem dX4_findKeys_20 : decode cX4_findKeys 20 = .ok (.aload_n 2, 1) := by decide +kernel
theorem dX4_findKeys_21 : decode cX4_findKeys 21 = .ok (.getfield 19, 3) := by decide +kernel
theorem dX4_findKeys_24 : decode cX4_findKeys 24 = .ok (.iconst 1, 1) := by decide +kernel
theorem dX4_findKeys_25 : decode cX4_findKeys 25 = .ok (.isub, 1) := by decide +kernel
theorem dX4_findKeys_26 : decode cX4_findKeys 26 = .ok (.if_icmp .ge 46, 3) := by decide +kernel
theorem dX4_findKeys_29 : decode cX4_findKeys 29 = .ok (.iload 4, 2) := by decide +kernel
theorem dX4_findKeys_31 : decode cX4_findKeys 31 = .ok (.iconst (-1), 1) := by decide +kernel
theorem dX4_findKeys_32 : decode cX4_findKeys 32 = .ok (.if_icmp .ne 7, 3) := by decide +kernel
theorem dX4_findKeys_35 : decode cX4_findKeys 35 = .ok (.iconst 0, 1) := by decide +kernel
theorem dX4_findKeys_36 : decode cX4_findKeys 36 = .ok (.goto 11, 3) := by decide +kernel
theorem dX4_findKeys_39 : decode cX4_findKeys 39 = .ok (.aload_n 1, 1) := by decide +kernel
theorem dX4_findKeys_40 : decode cX4_findKeys 40 = .ok (.aload_n 2, 1) := by decide +kernel
theorem dX4_findKeys_41 : decode cX4_findKeys 41 = .ok (.iload 4, 2) := by decide +kernel
theorem dX4_findKeys_43 : decode cX4_findKeys 43 = .ok (.iload_n 3, 1) := by decide +kernel
theorem dX4_findKeys_44 : decode cX4_findKeys 44 = .ok (.invokestatic 22, 3) := by decide +kernel
theorem dX4_findKeys_47 : decode cX4_findKeys 47 = .ok (.istore 4, 2) := by decide +kernel
theorem dX4_findKeys_49 : decode cX4_findKeys 49 = .ok (.aload_n 0, 1) := by decide +kernel
theorem dX4_findKeys_50 : decode cX4_findKeys 50 = .ok (.getfield 9, 3) := by decide +kernel
theorem dX4_findKeys_53 : decode cX4_findKeys 53 = .ok (.iload 5, 2) := by decide +kernel
theorem dX4_findKeys_55 : decode cX4_findKeys 55 = .ok (.iload 4, 2) := by decide +kernel
theorem dX4_findKeys_57 : decode cX4_findKeys 57 = .ok (.iastore, 1) := by decide +kernel
theorem dX4_findKeys_58 : decode cX4_findKeys 58 = .ok (.aload_n 0, 1) := by decide +kernel
theorem dX4_findKeys_59 : decode cX4_findKeys 59 = .ok (.iload 5, 2) := by decide +kernel
theorem dX4_findKeys_61 : decode cX4_findKeys 61 = .ok (.iconst 1, 1) := by decide +kernel
theorem dX4_findKeys_62 : decode cX4_findKeys 62 = .ok (.iadd, 1) := by decide +kernel
theorem dX4_findKeys_63 : decode cX4_findKeys 63 = .ok (.putfield 15, 3) := by decide +kernel
theorem dX4_findKeys_66 : decode cX4_findKeys 66 = .ok (.iinc 5 1, 3) := by decide +kernel
theorem dX4_findKeys_69 : decode cX4_findKeys 69 = .ok (.goto (-58), 3) := by decide +kernel
theorem dX4_findKeys_72 : decode cX4_findKeys 72 = .ok (.return_, 1) := by decide +kernel
theorem dX4_nextKey_0 : decode cX4_nextKey 0 = .ok (.aload_n 1, 1) := by decide +kernel
theorem dX4_nextKey_1 : decode cX4_nextKey 1 = .ok (.getfield 19, 3) := by decide +kernel
theorem dX4_nextKey_4 : decode cX4_nextKey 4 = .ok (.iconst 1, 1) := by decide +kernel
theorem dX4_nextKey_5 : decode cX4_nextKey 5 = .ok (.isub, 1) := by decide +kernel
theorem dX4_nextKey_6 : decode cX4_nextKey 6 = .ok (.istore 4, 2) := by decide +kernel
theorem dX4_nextKey_8 : decode cX4_nextKey 8 = .ok (.iload 4, 2) := by decide +kernel
theorem dX4_nextKey_10 : decode cX4_nextKey 10 = .ok (.iload_n 2, 1) := by decide +kernel
theorem dX4_nextKey_11 : decode cX4_nextKey 11 = .ok (.iconst 1, 1) := by decide +kernel
theorem dX4_nextKey_12 : decode cX4_nextKey 12 = .ok (.iadd, 1) := by decide +kernel
theorem dX4_nextKey_13 : decode cX4_nextKey 13 = .ok (.if_icmp .le 24, 3) := by decide +kernel
theorem dX4_nextKey_16 : decode cX4_nextKey 16 = .ok (.aload_n 0, 1) := by decide +kernel
theorem dX4_nextKey_17 : decode cX4_nextKey 17 = .ok (.aload_n 1, 1) := by decide +kernel
theorem dX4_nextKey_18 : decode cX4_nextKey 18 = .ok (.iload_n 2, 1) := by decide +kernel
theorem dX4_nextKey_19 : decode cX4_nextKey 19 = .ok (.iload 4, 2) := by decide +kernel
theorem dX4_nextKey_21 : decode cX4_nextKey 21 = .ok (.iload_n 3, 1) := by decide +kernel
theorem dX4_nextKey_22 : decode cX4_nextKey 22 = .ok (.invokestatic 26, 3) := by decide +kernel
theorem dX4_nextKey_25 : decode cX4_nextKey 25 = .ok (.ifCond .eq 6, 3) := by decide +kernel
theorem dX4_nextKey_28 : decode cX4_nextKey 28 = .ok (.iload 4, 2) := by decide +kernel
theorem dX4_nextKey_30 : decode cX4_nextKey 30 = .ok (.ireturn, 1) := by decide +kernel
theorem dX4_nextKey_31 : decode cX4_nextKey 31 = .ok (.iinc 4 (-1), 3) := by decide +kernel
theorem dX4_nextKey_34 : decode cX4_nextKey 34 = .ok (.goto (-26), 3) := by decide +kernel
theorem dX4_nextKey_37 : decode cX4_nextKey 37 = .ok (.iload_n 2, 1) := by decide +kernel
theorem dX4_nextKey_38 : decode cX4_nextKey 38 = .ok (.iconst 1, 1) := by decide +kernel
theorem dX4_nextKey_39 : decode cX4_nextKey 39 = .ok (.iadd, 1) := by decide +kernel
theorem dX4_nextKey_40 : decode cX4_nextKey 40 = .ok (.ireturn, 1) := by decide +kernel
theorem dX4_spans_0 : decode cX4_spans 0 = .ok (.iload_n 2, 1) := by decide +kernel
theorem dX4_spans_1 : decode cX4_spans 1 = .ok (.iconst 1, 1) := by decide +kernel
theorem dX4_spans_2 : decode cX4_spans 2 = .ok (.iadd, 1) := by decide +kernel
theorem dX4_spans_3 : decode cX4_spans 3 = .ok (.istore 5, 2) := by decide +kernel
theorem dX4_spans_5 : decode cX4_spans 5 = .ok (.iload 5, 2) := by decide +kernel
theorem dX4_spans_7 : decode cX4_spans 7 = .ok (.iload_n 3, 1) := by decide +kernel
theorem dX4_spans_8 : decode cX4_spans 8 = .ok (.if_icmp .ge 94, 3) := by decide +kernel
theorem dX4_spans_11 : decode cX4_spans 11 = .ok (.bipush 100, 2) := by decide +kernel
theorem dX4_spans_13 : decode cX4_spans 13 = .ok (.iload 5, 2) := by decide +kernel
theorem dX4_spans_15 : decode cX4_spans 15 = .ok (.iload_n 2, 1) := by decide +kernel
theorem dX4_spans_16 : decode cX4_spans 16 = .ok (.isub, 1) := by decide +kernel
theorem dX4_spans_17 : decode cX4_spans 17 = .ok (.imul, 1) := by decide +kernel
theorem dX4_spans_18 : decode cX4_spans 18 = .ok (.iload_n 3, 1) := by decide +kernel
theorem dX4_spans_19 : decode cX4_spans 19 = .ok (.iload_n 2, 1) := by decide +kernel
theorem dX4_spans_20 : decode cX4_spans 20 = .ok (.isub, 1) := by decide +kernel
theorem dX4_spans_21 : decode cX4_spans 21 = .ok (.idiv, 1) := by decide +kernel
theorem dX4_spans_22 : decode cX4_spans 22 = .ok (.istore 6, 2) := by decide +kernel
theorem dX4_spans_24 : decode cX4_spans 24 = .ok (.iconst 0, 1) := by decide +kernel
theorem dX4_spans_25 : decode cX4_spans 25 = .ok (.istore 7, 2) := by decide +kernel
theorem dX4_spans_27 : decode cX4_spans 27 = .ok (.iload 7, 2) := by decide +kernel
theorem dX4_spans_29 : decode cX4_spans 29 = .ok (.aload_n 0, 1) := by decide +kernel
theorem dX4_spans_30 : decode cX4_spans 30 = .ok (.getfield 30, 3) := by decide +kernel
theorem dX4_spans_33 : decode cX4_spans 33 = .ok (.if_icmp .ge 63, 3) := by decide +kernel
theorem dX4_spans_36 : decode cX4_spans 36 = .ok (.aload_n 0, 1) := by decide +kernel
theorem dX4_spans_37 : decode cX4_spans 37 = .ok (.getfield 33, 3) := by decide +kernel
theorem dX4_spans_40 : decode cX4_spans 40 = .ok (.iload 7, 2) := by decide +kernel
theorem dX4_spans_42 : decode cX4_spans 42 = .ok (.aaload, 1) := by decide +kernel
theorem dX4_spans_43 : decode cX4_spans 43 = .ok (.aload_n 1, 1) := by decide +kernel
theorem dX4_spans_44 : decode cX4_spans 44 = .ok (.getfield 37, 3) := by decide +kernel
theorem dX4_spans_47 : decode cX4_spans 47 = .ok (.iload_n 2, 1) := by decide +kernel
theorem dX4_spans_48 : decode cX4_spans 48 = .ok (.aaload, 1) := by decide +kernel
theorem dX4_spans_49 : decode cX4_spans 49 = .ok (.iload 7, 2) := by decide +kernel
theorem dX4_spans_51 : decode cX4_spans 51 = .ok (.iaload, 1) := by decide +kernel
theorem dX4_spans_52 : decode cX4_spans 52 = .ok (.aload_n 1, 1) := by decide +kernel
theorem dX4_spans_53 : decode cX4_spans 53 = .ok (.getfield 37, 3) := by decide +kernel
theorem dX4_spans_56 : decode cX4_spans 56 = .ok (.iload_n 3, 1) := by decide +kernel
theorem dX4_spans_57 : decode cX4_spans 57 = .ok (.aaload, 1) := by decide +kernel
theorem dX4_spans_58 : decode cX4_spans 58 = .ok (.iload 7, 2) := by decide +kernel
theorem dX4_spans_60 : decode cX4_spans 60 = .ok (.iaload, 1) := by decide +kernel
theorem dX4_spans_61 : decode cX4_spans 61 = .ok (.iload 6, 2) := by decide +kernel
theorem dX4_spans_63 : decode cX4_spans 63 = .ok (.invokevirtual 41, 3) := by decide +kernel
theorem dX4_spans_66 : decode cX4_spans 66 = .ok (.istore 8, 2) := by decide +kernel
theorem dX4_spans_68 : decode cX4_spans 68 = .ok (.iload 8, 2) := by decide +kernel
theorem dX4_spans_70 : decode cX4_spans 70 = .ok (.aload_n 1, 1) := by decide +kernel
theorem dX4_spans_71 : decode cX4_spans 71 = .ok (.getfield 37, 3) := by decide +kernel
theorem dX4_spans_74 : decode cX4_spans 74 = .ok (.iload 5, 2) := by decide +kernel
theorem dX4_spans_76 : decode cX4_spans 76 = .ok (.aaload, 1) := by decide +kernel
theorem dX4_spans_77 : decode cX4_spans 77 = .ok (.iload 7, 2) := by decide +kernel
theorem dX4_spans_79 : decode cX4_spans 79 = .ok (.iaload, 1) := by decide +kernel
theorem dX4_spans_80 : decode cX4_spans 80 = .ok (.invokestatic 47, 3) := by decide +kernel
theorem dX4_spans_83 : decode cX4_spans 83 = .ok (.iload 4, 2) := by decide +kernel
theorem dX4_spans_85 : decode cX4_spans 85 = .ok (.if_icmp .le 5, 3) := by decide +kernel
theorem dX4_spans_88 : decode cX4_spans 88 = .ok (.iconst 0, 1) := by decide +kernel
theorem dX4_spans_89 : decode cX4_spans 89 = .ok (.ireturn, 1) := by decide +kernel
theorem dX4_spans_90 : decode cX4_spans 90 = .ok (.iinc 7 1, 3) := by decide +kernel
theorem dX4_spans_93 : decode cX4_spans 93 = .ok (.goto (-66), 3) := by decide +kernel
theorem dX4_spans_96 : decode cX4_spans 96 = .ok (.iinc 5 1, 3) := by decide +kernel
theorem dX4_spans_99 : decode cX4_spans 99 = .ok (.goto (-94), 3) := by decide +kernel
theorem dX4_spans_102 : decode cX4_spans 102 = .ok (.iconst 1, 1) := by decide +kernel
theorem dX4_spans_103 : decode cX4_spans 103 = .ok (.ireturn, 1) := by decide +kernel
theorem dX4_keepKeys_0 : decode cX4_keepKeys 0 = .ok (.iconst 0, 1) := by decide +kernel
theorem dX4_keepKeys_1 : decode cX4_keepKeys 1 = .ok (.istore_n 2, 1) := by decide +kernel
theorem dX4_keepKeys_2 : decode cX4_keepKeys 2 = .ok (.iload_n 2, 1) := by decide +kernel
theorem dX4_keepKeys_3 : decode cX4_keepKeys 3 = .ok (.aload_n 0, 1) := by decide +kernel
theorem dX4_keepKeys_4 : decode cX4_keepKeys 4 = .ok (.getfield 15, 3) := by decide +kernel
theorem dX4_keepKeys_7 : decode cX4_keepKeys 7 = .ok (.if_icmp .ge 33, 3) := by decide +kernel
theorem dX4_keepKeys_10 : decode cX4_keepKeys 10 = .ok (.aload_n 1, 1) := by decide +kernel
theorem dX4_keepKeys_11 : decode cX4_keepKeys 11 = .ok (.getfield 37, 3) := by decide +kernel
theorem dX4_keepKeys_14 : decode cX4_keepKeys 14 = .ok (.aload_n 0, 1) := by decide +kernel
theorem dX4_keepKeys_15 : decode cX4_keepKeys 15 = .ok (.getfield 9, 3) := by decide +kernel
theorem dX4_keepKeys_18 : decode cX4_keepKeys 18 = .ok (.iload_n 2, 1) := by decide +kernel
theorem dX4_keepKeys_19 : decode cX4_keepKeys 19 = .ok (.iaload, 1) := by decide +kernel
theorem dX4_keepKeys_20 : decode cX4_keepKeys 20 = .ok (.aaload, 1) := by decide +kernel
theorem dX4_keepKeys_21 : decode cX4_keepKeys 21 = .ok (.iconst 0, 1) := by decide +kernel
theorem dX4_keepKeys_22 : decode cX4_keepKeys 22 = .ok (.aload_n 1, 1) := by decide +kernel
theorem dX4_keepKeys_23 : decode cX4_keepKeys 23 = .ok (.getfield 37, 3) := by decide +kernel
theorem dX4_keepKeys_26 : decode cX4_keepKeys 26 = .ok (.iload_n 2, 1) := by decide +kernel
theorem dX4_keepKeys_27 : decode cX4_keepKeys 27 = .ok (.aaload, 1) := by decide +kernel
theorem dX4_keepKeys_28 : decode cX4_keepKeys 28 = .ok (.iconst 0, 1) := by decide +kernel
theorem dX4_keepKeys_29 : decode cX4_keepKeys 29 = .ok (.bipush 10, 2) := by decide +kernel
theorem dX4_keepKeys_31 : decode cX4_keepKeys 31 = .ok (.invokestatic 53, 3) := by decide +kernel
theorem dX4_keepKeys_34 : decode cX4_keepKeys 34 = .ok (.iinc 2 1, 3) := by decide +kernel
theorem dX4_keepKeys_37 : decode cX4_keepKeys 37 = .ok (.goto (-35), 3) := by decide +kernel
theorem dX4_keepKeys_40 : decode cX4_keepKeys 40 = .ok (.aload_n 1, 1) := by decide +kernel
theorem dX4_keepKeys_41 : decode cX4_keepKeys 41 = .ok (.aload_n 0, 1) := by decide +kernel
theorem dX4_keepKeys_42 : decode cX4_keepKeys 42 = .ok (.getfield 15, 3) := by decide +kernel
theorem dX4_keepKeys_45 : decode cX4_keepKeys 45 = .ok (.putfield 19, 3) := by decide +kernel
theorem dX4_keepKeys_48 : decode cX4_keepKeys 48 = .ok (.return_, 1) := by decide +kernel
theorem dX5_init_0 : decode cX5_init 0 = .ok (.aload_n 0, 1) := by decide +kernel
theorem dX5_init_1 : decode cX5_init 1 = .ok (.invokespecial 3, 3) := by decide +kernel
theorem dX5_init_4 : decode cX5_init 4 = .ok (.aload_n 0, 1) := by decide +kernel
theorem dX5_init_5 : decode cX5_init 5 = .ok (.bipush 60, 2) := by decide +kernel
theorem dX5_init_7 : decode cX5_init 7 = .ok (.newarray .int, 2) := by decide +kernel
theorem dX5_init_9 : decode cX5_init 9 = .ok (.putfield 9, 3) := by decide +kernel
theorem dX5_init_12 : decode cX5_init 12 = .ok (.aload_n 0, 1) := by decide +kernel
theorem dX5_init_13 : decode cX5_init 13 = .ok (.iconst 1, 1) := by decide +kernel
theorem dX5_init_14 : decode cX5_init 14 = .ok (.putfield 15, 3) := by decide +kernel
theorem dX5_init_17 : decode cX5_init 17 = .ok (.return_, 1) := by decide +kernel
theorem dX5_begin_0 : decode cX5_begin 0 = .ok (.aload_n 0, 1) := by decide +kernel
theorem dX5_begin_1 : decode cX5_begin 1 = .ok (.getfield 9, 3) := by decide +kernel
theorem dX5_begin_4 : decode cX5_begin 4 = .ok (.iconst 0, 1) := by decide +kernel
theorem dX5_begin_5 : decode cX5_begin 5 = .ok (.invokestatic 19, 3) := by decide +kernel
theorem dX5_begin_8 : decode cX5_begin 8 = .ok (.aload_n 0, 1) := by decide +kernel
theorem dX5_begin_9 : decode cX5_begin 9 = .ok (.iconst 0, 1) := by decide +kernel
theorem dX5_begin_10 : decode cX5_begin 10 = .ok (.putfield 15, 3) := by decide +kernel
theorem dX5_begin_13 : decode cX5_begin 13 = .ok (.aload_n 0, 1) := by decide +kernel
theorem dX5_begin_14 : decode cX5_begin 14 = .ok (.iload_n 1, 1) := by decide +kernel
theorem dX5_begin_15 : decode cX5_begin 15 = .ok (.putfield 25, 3) := by decide +kernel
theorem dX5_begin_18 : decode cX5_begin 18 = .ok (.aload_n 0, 1) := by decide +kernel
theorem dX5_begin_19 : decode cX5_begin 19 = .ok (.iload_n 2, 1) := by decide +kernel
theorem dX5_begin_20 : decode cX5_begin 20 = .ok (.putfield 29, 3) := by decide +kernel
theorem dX5_begin_23 : decode cX5_begin 23 = .ok (.return_, 1) := by decide +kernel
theorem dX5_holds_0 : decode cX5_holds 0 = .ok (.iload_n 1, 1) := by decide +kernel
theorem dX5_holds_1 : decode cX5_holds 1 = .ok (.ifCond .lt 29, 3) := by decide +kernel
theorem dX5_holds_4 : decode cX5_holds 4 = .ok (.iload_n 2, 1) := by decide +kernel
theorem dX5_holds_5 : decode cX5_holds 5 = .ok (.ifCond .lt 25, 3) := by decide +kernel
theorem dX5_holds_8 : decode cX5_holds 8 = .ok (.iload_n 1, 1) := by decide +kernel
theorem dX5_holds_9 : decode cX5_holds 9 = .ok (.aload_n 0, 1) := by decide +kernel
theorem dX5_holds_10 : decode cX5_holds 10 = .ok (.getfield 29, 3) := by decide +kernel
theorem dX5_holds_13 : decode cX5_holds 13 = .ok (.if_icmp .gt 17, 3) := by decide +kernel
theorem dX5_holds_16 : decode cX5_holds 16 = .ok (.iload_n 2, 1) := by decide +kernel
theorem dX5_holds_17 : decode cX5_holds 17 = .ok (.aload_n 0, 1) := by decide +kernel
theorem dX5_holds_18 : decode cX5_holds 18 = .ok (.getfield 29, 3) := by decide +kernel
theorem dX5_holds_21 : decode cX5_holds 21 = .ok (.iload_n 1, 1) := by decide +kernel
theorem dX5_holds_22 : decode cX5_holds 22 = .ok (.isub, 1) := by decide +kernel
theorem dX5_holds_23 : decode cX5_holds 23 = .ok (.if_icmp .gt 7, 3) := by decide +kernel
theorem dX5_holds_26 : decode cX5_holds 26 = .ok (.iconst 1, 1) := by decide +kernel
theorem dX5_holds_27 : decode cX5_holds 27 = .ok (.goto 4, 3) := by decide +kernel
theorem dX5_holds_30 : decode cX5_holds 30 = .ok (.iconst 0, 1) := by decide +kernel
theorem dX5_holds_31 : decode cX5_holds 31 = .ok (.ireturn, 1) := by decide +kernel
theorem dX5_wrongItem_0 : decode cX5_wrongItem 0 = .ok (.aload_n 0, 1) := by decide +kernel
theorem dX5_wrongItem_1 : decode cX5_wrongItem 1 = .ok (.getfield 15, 3) := by decide +kernel
theorem dX5_wrongItem_4 : decode cX5_wrongItem 4 = .ok (.ifCond .eq 5, 3) := by decide +kernel
theorem dX5_wrongItem_7 : decode cX5_wrongItem 7 = .ok (.iconst 1, 1) := by decide +kernel
theorem dX5_wrongItem_8 : decode cX5_wrongItem 8 = .ok (.ireturn, 1) := by decide +kernel
theorem dX5_wrongItem_9 : decode cX5_wrongItem 9 = .ok (.aload_n 0, 1) := by decide +kernel
theorem dX5_wrongItem_10 : decode cX5_wrongItem 10 = .ok (.getfield 25, 3) := by decide +kernel
theorem dX5_wrongItem_13 : decode cX5_wrongItem 13 = .ok (.iload_n 1, 1) := by decide +kernel
theorem dX5_wrongItem_14 : decode cX5_wrongItem 14 = .ok (.if_icmp .eq 5, 3) := by decide +kernel
theorem dX5_wrongItem_17 : decode cX5_wrongItem 17 = .ok (.iconst 3, 1) := by decide +kernel
theorem dX5_wrongItem_18 : decode cX5_wrongItem 18 = .ok (.ireturn, 1) := by decide +kernel
theorem dX5_wrongItem_19 : decode cX5_wrongItem 19 = .ok (.iload_n 2, 1) := by decide +kernel
theorem dX5_wrongItem_20 : decode cX5_wrongItem 20 = .ok (.i2l, 1) := by decide +kernel
end
section
theorem dX5_wrongItem_21 : decode cX5_wrongItem 21 = .ok (.lconst 0, 1) := by decide +kernel
theorem dX5_wrongItem_22 : decode cX5_wrongItem 22 = .ok (.aload_n 0, 1) := by decide +kernel
theorem dX5_wrongItem_23 : decode cX5_wrongItem 23 = .ok (.getfield 29, 3) := by decide +kernel
theorem dX5_wrongItem_26 : decode cX5_wrongItem 26 = .ok (.iconst 1, 1) := by decide +kernel
theorem dX5_wrongItem_27 : decode cX5_wrongItem 27 = .ok (.isub, 1) := by decide +kernel
theorem dX5_wrongItem_28 : decode cX5_wrongItem 28 = .ok (.i2l, 1) := by decide +kernel
theorem dX5_wrongItem_29 : decode cX5_wrongItem 29 = .ok (.invokestatic 32, 3) := by decide +kernel
theorem dX5_wrongItem_32 : decode cX5_wrongItem 32 = .ok (.ifCond .eq 7, 3) := by decide +kernel
theorem dX5_wrongItem_35 : decode cX5_wrongItem 35 = .ok (.iconst 0, 1) := by decide +kernel
theorem dX5_wrongItem_36 : decode cX5_wrongItem 36 = .ok (.goto 4, 3) := by decide +kernel
theorem dX5_wrongItem_39 : decode cX5_wrongItem 39 = .ok (.iconst 2, 1) := by decide +kernel
theorem dX5_wrongItem_40 : decode cX5_wrongItem 40 = .ok (.ireturn, 1) := by decide +kernel
theorem dX5_wrongPose_0 : decode cX5_wrongPose 0 = .ok (.aload_n 0, 1) := by decide +kernel
theorem dX5_wrongPose_1 : decode cX5_wrongPose 1 = .ok (.getfield 15, 3) := by decide +kernel
theorem dX5_wrongPose_4 : decode cX5_wrongPose 4 = .ok (.ifCond .eq 5, 3) := by decide +kernel
theorem dX5_wrongPose_7 : decode cX5_wrongPose 7 = .ok (.iconst 1, 1) := by decide +kernel
theorem dX5_wrongPose_8 : decode cX5_wrongPose 8 = .ok (.ireturn, 1) := by decide +kernel
theorem dX5_wrongPose_9 : decode cX5_wrongPose 9 = .ok (.aload_n 0, 1) := by decide +kernel
theorem dX5_wrongPose_10 : decode cX5_wrongPose 10 = .ok (.iload_n 1, 1) := by decide +kernel
theorem dX5_wrongPose_11 : decode cX5_wrongPose 11 = .ok (.iload_n 2, 1) := by decide +kernel
theorem dX5_wrongPose_12 : decode cX5_wrongPose 12 = .ok (.invokevirtual 36, 3) := by decide +kernel
theorem dX5_wrongPose_15 : decode cX5_wrongPose 15 = .ok (.ifCond .eq 7, 3) := by decide +kernel
theorem dX5_wrongPose_18 : decode cX5_wrongPose 18 = .ok (.iconst 0, 1) := by decide +kernel
theorem dX5_wrongPose_19 : decode cX5_wrongPose 19 = .ok (.goto 4, 3) := by decide +kernel
theorem dX5_wrongPose_22 : decode cX5_wrongPose 22 = .ok (.iconst 2, 1) := by decide +kernel
theorem dX5_wrongPose_23 : decode cX5_wrongPose 23 = .ok (.ireturn, 1) := by decide +kernel
theorem dX5_store_0 : decode cX5_store 0 = .ok (.aload_n 0, 1) := by decide +kernel
theorem dX5_store_1 : decode cX5_store 1 = .ok (.getfield 9, 3) := by decide +kernel
theorem dX5_store_4 : decode cX5_store 4 = .ok (.iload_n 1, 1) := by decide +kernel
theorem dX5_store_5 : decode cX5_store 5 = .ok (.aload_n 0, 1) := by decide +kernel
theorem dX5_store_6 : decode cX5_store 6 = .ok (.getfield 25, 3) := by decide +kernel
theorem dX5_store_9 : decode cX5_store 9 = .ok (.ifCond .ne 8, 3) := by decide +kernel
theorem dX5_store_12 : decode cX5_store 12 = .ok (.iload_n 2, 1) := by decide +kernel
theorem dX5_store_13 : decode cX5_store 13 = .ok (.i2b, 1) := by decide +kernel
theorem dX5_store_14 : decode cX5_store 14 = .ok (.goto 17, 3) := by decide +kernel
theorem dX5_store_17 : decode cX5_store 17 = .ok (.aload_n 0, 1) := by decide +kernel
theorem dX5_store_18 : decode cX5_store 18 = .ok (.getfield 25, 3) := by decide +kernel
theorem dX5_store_21 : decode cX5_store 21 = .ok (.iconst 1, 1) := by decide +kernel
theorem dX5_store_22 : decode cX5_store 22 = .ok (.if_icmp .ne 8, 3) := by decide +kernel
theorem dX5_store_25 : decode cX5_store 25 = .ok (.iload_n 2, 1) := by decide +kernel
theorem dX5_store_26 : decode cX5_store 26 = .ok (.i2s, 1) := by decide +kernel
theorem dX5_store_27 : decode cX5_store 27 = .ok (.goto 4, 3) := by decide +kernel
theorem dX5_store_30 : decode cX5_store 30 = .ok (.iload_n 2, 1) := by decide +kernel
theorem dX5_store_31 : decode cX5_store 31 = .ok (.iastore, 1) := by decide +kernel
theorem dX5_store_32 : decode cX5_store 32 = .ok (.return_, 1) := by decide +kernel
theorem dX6_init_0 : decode cX6_init 0 = .ok (.aload_n 0, 1) := by decide +kernel
theorem dX6_init_1 : decode cX6_init 1 = .ok (.invokespecial 3, 3) := by decide +kernel
theorem dX6_init_4 : decode cX6_init 4 = .ok (.aload_n 0, 1) := by decide +kernel
theorem dX6_init_5 : decode cX6_init 5 = .ok (.bipush 10, 2) := by decide +kernel
theorem dX6_init_7 : decode cX6_init 7 = .ok (.anewarray 9, 3) := by decide +kernel
theorem dX6_init_10 : decode cX6_init 10 = .ok (.putfield 11, 3) := by decide +kernel
theorem dX6_init_13 : decode cX6_init 13 = .ok (.aload_n 0, 1) := by decide +kernel
theorem dX6_init_14 : decode cX6_init 14 = .ok (.iconst (-1), 1) := by decide +kernel
theorem dX6_init_15 : decode cX6_init 15 = .ok (.putfield 17, 3) := by decide +kernel
theorem dX6_init_18 : decode cX6_init 18 = .ok (.return_, 1) := by decide +kernel
theorem dX6_find_0 : decode cX6_find 0 = .ok (.iload_n 1, 1) := by decide +kernel
theorem dX6_find_1 : decode cX6_find 1 = .ok (.i2l, 1) := by decide +kernel
theorem dX6_find_2 : decode cX6_find 2 = .ok (.lconst 0, 1) := by decide +kernel
theorem dX6_find_3 : decode cX6_find 3 = .ok (.aload_n 0, 1) := by decide +kernel
theorem dX6_find_4 : decode cX6_find 4 = .ok (.getfield 21, 3) := by decide +kernel
theorem dX6_find_7 : decode cX6_find 7 = .ok (.iconst 1, 1) := by decide +kernel
theorem dX6_find_8 : decode cX6_find 8 = .ok (.isub, 1) := by decide +kernel
theorem dX6_find_9 : decode cX6_find 9 = .ok (.i2l, 1) := by decide +kernel
theorem dX6_find_10 : decode cX6_find 10 = .ok (.invokestatic 24, 3) := by decide +kernel
theorem dX6_find_13 : decode cX6_find 13 = .ok (.ifCond .eq 12, 3) := by decide +kernel
theorem dX6_find_16 : decode cX6_find 16 = .ok (.aload_n 0, 1) := by decide +kernel
theorem dX6_find_17 : decode cX6_find 17 = .ok (.getfield 11, 3) := by decide +kernel
theorem dX6_find_20 : decode cX6_find 20 = .ok (.iload_n 1, 1) := by decide +kernel
theorem dX6_find_21 : decode cX6_find 21 = .ok (.aaload, 1) := by decide +kernel
theorem dX6_find_22 : decode cX6_find 22 = .ok (.goto 4, 3) := by decide +kernel
theorem dX6_find_25 : decode cX6_find 25 = .ok (.aconst_null, 1) := by decide +kernel
theorem dX6_find_26 : decode cX6_find 26 = .ok (.areturn, 1) := by decide +kernel
theorem dX6_grow_0 : decode cX6_grow 0 = .ok (.aload_n 0, 1) := by decide +kernel
theorem dX6_grow_1 : decode cX6_grow 1 = .ok (.getfield 11, 3) := by decide +kernel
theorem dX6_grow_4 : decode cX6_grow 4 = .ok (.aload_n 0, 1) := by decide +kernel
theorem dX6_grow_5 : decode cX6_grow 5 = .ok (.getfield 21, 3) := by decide +kernel
theorem dX6_grow_8 : decode cX6_grow 8 = .ok (.aload_n 1, 1) := by decide +kernel
theorem dX6_grow_9 : decode cX6_grow 9 = .ok (.aastore, 1) := by decide +kernel
theorem dX6_grow_10 : decode cX6_grow 10 = .ok (.aload_n 1, 1) := by decide +kernel
theorem dX6_grow_11 : decode cX6_grow 11 = .ok (.aload_n 0, 1) := by decide +kernel
theorem dX6_grow_12 : decode cX6_grow 12 = .ok (.getfield 28, 3) := by decide +kernel
theorem dX6_grow_15 : decode cX6_grow 15 = .ok (.aload_n 0, 1) := by decide +kernel
theorem dX6_grow_16 : decode cX6_grow 16 = .ok (.getfield 32, 3) := by decide +kernel
theorem dX6_grow_19 : decode cX6_grow 19 = .ok (.invokevirtual 35, 3) := by decide +kernel
theorem dX6_grow_22 : decode cX6_grow 22 = .ok (.aload_n 0, 1) := by decide +kernel
theorem dX6_grow_23 : decode cX6_grow 23 = .ok (.dup, 1) := by decide +kernel
theorem dX6_grow_24 : decode cX6_grow 24 = .ok (.getfield 21, 3) := by decide +kernel
theorem dX6_grow_27 : decode cX6_grow 27 = .ok (.iconst 1, 1) := by decide +kernel
theorem dX6_grow_28 : decode cX6_grow 28 = .ok (.iadd, 1) := by decide +kernel
theorem dX6_grow_29 : decode cX6_grow 29 = .ok (.putfield 21, 3) := by decide +kernel
theorem dX6_grow_32 : decode cX6_grow 32 = .ok (.aload_n 0, 1) := by decide +kernel
theorem dX6_grow_33 : decode cX6_grow 33 = .ok (.getfield 21, 3) := by decide +kernel
theorem dX6_grow_36 : decode cX6_grow 36 = .ok (.iconst 1, 1) := by decide +kernel
theorem dX6_grow_37 : decode cX6_grow 37 = .ok (.isub, 1) := by decide +kernel
theorem dX6_grow_38 : decode cX6_grow 38 = .ok (.ireturn, 1) := by decide +kernel
theorem dX6_moveRoot_0 : decode cX6_moveRoot 0 = .ok (.aload_n 0, 1) := by decide +kernel
theorem dX6_moveRoot_1 : decode cX6_moveRoot 1 = .ok (.lload_n 1, 1) := by decide +kernel
theorem dX6_moveRoot_2 : decode cX6_moveRoot 2 = .ok (.putfield 28, 3) := by decide +kernel
theorem dX6_moveRoot_5 : decode cX6_moveRoot 5 = .ok (.aload_n 0, 1) := by decide +kernel
theorem dX6_moveRoot_6 : decode cX6_moveRoot 6 = .ok (.lload_n 3, 1) := by decide +kernel
theorem dX6_moveRoot_7 : decode cX6_moveRoot 7 = .ok (.putfield 32, 3) := by decide +kernel
theorem dX6_moveRoot_10 : decode cX6_moveRoot 10 = .ok (.aload_n 0, 1) := by decide +kernel
theorem dX6_moveRoot_11 : decode cX6_moveRoot 11 = .ok (.invokevirtual 39, 3) := by decide +kernel
theorem dX6_moveRoot_14 : decode cX6_moveRoot 14 = .ok (.return_, 1) := by decide +kernel
theorem dX6_place_0 : decode cX6_place 0 = .ok (.iconst 0, 1) := by decide +kernel
theorem dX6_place_1 : decode cX6_place 1 = .ok (.istore_n 1, 1) := by decide +kernel
theorem dX6_place_2 : decode cX6_place 2 = .ok (.iload_n 1, 1) := by decide +kernel
theorem dX6_place_3 : decode cX6_place 3 = .ok (.aload_n 0, 1) := by decide +kernel
theorem dX6_place_4 : decode cX6_place 4 = .ok (.getfield 21, 3) := by decide +kernel
theorem dX6_place_7 : decode cX6_place 7 = .ok (.if_icmp .ge 26, 3) := by decide +kernel
theorem dX6_place_10 : decode cX6_place 10 = .ok (.aload_n 0, 1) := by decide +kernel
theorem dX6_place_11 : decode cX6_place 11 = .ok (.getfield 11, 3) := by decide +kernel
theorem dX6_place_14 : decode cX6_place 14 = .ok (.iload_n 1, 1) := by decide +kernel
theorem dX6_place_15 : decode cX6_place 15 = .ok (.aaload, 1) := by decide +kernel
theorem dX6_place_16 : decode cX6_place 16 = .ok (.aload_n 0, 1) := by decide +kernel
theorem dX6_place_17 : decode cX6_place 17 = .ok (.getfield 28, 3) := by decide +kernel
theorem dX6_place_20 : decode cX6_place 20 = .ok (.aload_n 0, 1) := by decide +kernel
theorem dX6_place_21 : decode cX6_place 21 = .ok (.getfield 32, 3) := by decide +kernel
theorem dX6_place_24 : decode cX6_place 24 = .ok (.invokevirtual 35, 3) := by decide +kernel
theorem dX6_place_27 : decode cX6_place 27 = .ok (.iinc 1 1, 3) := by decide +kernel
theorem dX6_place_30 : decode cX6_place 30 = .ok (.goto (-28), 3) := by decide +kernel
theorem dX6_place_33 : decode cX6_place 33 = .ok (.return_, 1) := by decide +kernel
theorem dX6_settle_0 : decode cX6_settle 0 = .ok (.aload_n 0, 1) := by decide +kernel
theorem dX6_settle_1 : decode cX6_settle 1 = .ok (.aload_n 0, 1) := by decide +kernel
theorem dX6_settle_2 : decode cX6_settle 2 = .ok (.getfield 17, 3) := by decide +kernel
theorem dX6_settle_5 : decode cX6_settle 5 = .ok (.invokevirtual 41, 3) := by decide +kernel
theorem dX6_settle_8 : decode cX6_settle 8 = .ok (.astore_n 1, 1) := by decide +kernel
theorem dX6_settle_9 : decode cX6_settle 9 = .ok (.aload_n 1, 1) := by decide +kernel
theorem dX6_settle_10 : decode cX6_settle 10 = .ok (.ifnonnull 8, 3) := by decide +kernel
theorem dX6_settle_13 : decode cX6_settle 13 = .ok (.aload_n 0, 1) := by decide +kernel
theorem dX6_settle_14 : decode cX6_settle 14 = .ok (.invokevirtual 39, 3) := by decide +kernel
theorem dX6_settle_17 : decode cX6_settle 17 = .ok (.return_, 1) := by decide +kernel
theorem dX6_settle_18 : decode cX6_settle 18 = .ok (.aload_n 1, 1) := by decide +kernel
theorem dX6_settle_19 : decode cX6_settle 19 = .ok (.getfield 45, 3) := by decide +kernel
theorem dX6_settle_22 : decode cX6_settle 22 = .ok (.lstore_n 2, 1) := by decide +kernel
theorem dX6_settle_23 : decode cX6_settle 23 = .ok (.aload_n 1, 1) := by decide +kernel
theorem dX6_settle_24 : decode cX6_settle 24 = .ok (.getfield 48, 3) := by decide +kernel
theorem dX6_settle_27 : decode cX6_settle 27 = .ok (.lstore 4, 2) := by decide +kernel
theorem dX6_settle_29 : decode cX6_settle 29 = .ok (.aload_n 0, 1) := by decide +kernel
theorem dX6_settle_30 : decode cX6_settle 30 = .ok (.invokevirtual 39, 3) := by decide +kernel
theorem dX6_settle_33 : decode cX6_settle 33 = .ok (.aload_n 0, 1) := by decide +kernel
theorem dX6_settle_34 : decode cX6_settle 34 = .ok (.dup, 1) := by decide +kernel
theorem dX6_settle_35 : decode cX6_settle 35 = .ok (.getfield 28, 3) := by decide +kernel
theorem dX6_settle_38 : decode cX6_settle 38 = .ok (.lload_n 2, 1) := by decide +kernel
theorem dX6_settle_39 : decode cX6_settle 39 = .ok (.aload_n 1, 1) := by decide +kernel
theorem dX6_settle_40 : decode cX6_settle 40 = .ok (.getfield 45, 3) := by decide +kernel
theorem dX6_settle_43 : decode cX6_settle 43 = .ok (.lsub, 1) := by decide +kernel
theorem dX6_settle_44 : decode cX6_settle 44 = .ok (.ladd, 1) := by decide +kernel
theorem dX6_settle_45 : decode cX6_settle 45 = .ok (.putfield 28, 3) := by decide +kernel
theorem dX6_settle_48 : decode cX6_settle 48 = .ok (.aload_n 0, 1) := by decide +kernel
theorem dX6_settle_49 : decode cX6_settle 49 = .ok (.dup, 1) := by decide +kernel
theorem dX6_settle_50 : decode cX6_settle 50 = .ok (.getfield 32, 3) := by decide +kernel
theorem dX6_settle_53 : decode cX6_settle 53 = .ok (.lload 4, 2) := by decide +kernel
theorem dX6_settle_55 : decode cX6_settle 55 = .ok (.aload_n 1, 1) := by decide +kernel
theorem dX6_settle_56 : decode cX6_settle 56 = .ok (.getfield 48, 3) := by decide +kernel
theorem dX6_settle_59 : decode cX6_settle 59 = .ok (.lsub, 1) := by decide +kernel
theorem dX6_settle_60 : decode cX6_settle 60 = .ok (.ladd, 1) := by decide +kernel
theorem dX6_settle_61 : decode cX6_settle 61 = .ok (.putfield 32, 3) := by decide +kernel
theorem dX6_settle_64 : decode cX6_settle 64 = .ok (.aload_n 0, 1) := by decide +kernel
theorem dX6_settle_65 : decode cX6_settle 65 = .ok (.invokevirtual 39, 3) := by decide +kernel
theorem dX6_settle_68 : decode cX6_settle 68 = .ok (.return_, 1) := by decide +kernel
theorem dX6_tellTurns_0 : decode cX6_tellTurns 0 = .ok (.iconst 0, 1) := by decide +kernel
theorem dX6_tellTurns_1 : decode cX6_tellTurns 1 = .ok (.istore_n 2, 1) := by decide +kernel
theorem dX6_tellTurns_2 : decode cX6_tellTurns 2 = .ok (.iload_n 2, 1) := by decide +kernel
theorem dX6_tellTurns_3 : decode cX6_tellTurns 3 = .ok (.aload_n 0, 1) := by decide +kernel
theorem dX6_tellTurns_4 : decode cX6_tellTurns 4 = .ok (.getfield 21, 3) := by decide +kernel
theorem dX6_tellTurns_7 : decode cX6_tellTurns 7 = .ok (.if_icmp .ge 21, 3) := by decide +kernel
theorem dX6_tellTurns_10 : decode cX6_tellTurns 10 = .ok (.aload_n 1, 1) := by decide +kernel
theorem dX6_tellTurns_11 : decode cX6_tellTurns 11 = .ok (.iload_n 2, 1) := by decide +kernel
theorem dX6_tellTurns_12 : decode cX6_tellTurns 12 = .ok (.aload_n 0, 1) := by decide +kernel
theorem dX6_tellTurns_13 : decode cX6_tellTurns 13 = .ok (.getfield 11, 3) := by decide +kernel
theorem dX6_tellTurns_16 : decode cX6_tellTurns 16 = .ok (.iload_n 2, 1) := by decide +kernel
theorem dX6_tellTurns_17 : decode cX6_tellTurns 17 = .ok (.aaload, 1) := by decide +kernel
theorem dX6_tellTurns_18 : decode cX6_tellTurns 18 = .ok (.getfield 51, 3) := by decide +kernel
theorem dX6_tellTurns_21 : decode cX6_tellTurns 21 = .ok (.iastore, 1) := by decide +kernel
theorem dX6_tellTurns_22 : decode cX6_tellTurns 22 = .ok (.iinc 2 1, 3) := by decide +kernel
theorem dX6_tellTurns_25 : decode cX6_tellTurns 25 = .ok (.goto (-23), 3) := by decide +kernel
theorem dX6_tellTurns_28 : decode cX6_tellTurns 28 = .ok (.return_, 1) := by decide +kernel
theorem dX6_takeTurns_0 : decode cX6_takeTurns 0 = .ok (.iconst 0, 1) := by decide +kernel
theorem dX6_takeTurns_1 : decode cX6_takeTurns 1 = .ok (.istore_n 2, 1) := by decide +kernel
theorem dX6_takeTurns_2 : decode cX6_takeTurns 2 = .ok (.iload_n 2, 1) := by decide +kernel
theorem dX6_takeTurns_3 : decode cX6_takeTurns 3 = .ok (.aload_n 0, 1) := by decide +kernel
theorem dX6_takeTurns_4 : decode cX6_takeTurns 4 = .ok (.getfield 21, 3) := by decide +kernel
theorem dX6_takeTurns_7 : decode cX6_takeTurns 7 = .ok (.if_icmp .ge 21, 3) := by decide +kernel
theorem dX6_takeTurns_10 : decode cX6_takeTurns 10 = .ok (.aload_n 0, 1) := by decide +kernel
theorem dX6_takeTurns_11 : decode cX6_takeTurns 11 = .ok (.getfield 11, 3) := by decide +kernel
theorem dX6_takeTurns_14 : decode cX6_takeTurns 14 = .ok (.iload_n 2, 1) := by decide +kernel
theorem dX6_takeTurns_15 : decode cX6_takeTurns 15 = .ok (.aaload, 1) := by decide +kernel
theorem dX6_takeTurns_16 : decode cX6_takeTurns 16 = .ok (.aload_n 1, 1) := by decide +kernel
theorem dX6_takeTurns_17 : decode cX6_takeTurns 17 = .ok (.iload_n 2, 1) := by decide +kernel
theorem dX6_takeTurns_18 : decode cX6_takeTurns 18 = .ok (.iaload, 1) := by decide +kernel
theorem dX6_takeTurns_19 : decode cX6_takeTurns 19 = .ok (.putfield 51, 3) := by decide +kernel
theorem dX6_takeTurns_22 : decode cX6_takeTurns 22 = .ok (.iinc 2 1, 3) := by decide +kernel
theorem dX6_takeTurns_25 : decode cX6_takeTurns 25 = .ok (.goto (-23), 3) := by decide +kernel
theorem dX6_takeTurns_28 : decode cX6_takeTurns 28 = .ok (.aload_n 0, 1) := by decide +kernel
theorem dX6_takeTurns_29 : decode cX6_takeTurns 29 = .ok (.invokevirtual 54, 3) := by decide +kernel
theorem dX6_takeTurns_32 : decode cX6_takeTurns 32 = .ok (.return_, 1) := by decide +kernel
theorem dX6_blendWith_0 : decode cX6_blendWith 0 = .ok (.iconst 0, 1) := by decide +kernel
theorem dX6_blendWith_1 : decode cX6_blendWith 1 = .ok (.istore 4, 2) := by decide +kernel
theorem dX6_blendWith_3 : decode cX6_blendWith 3 = .ok (.iload 4, 2) := by decide +kernel
theorem dX6_blendWith_5 : decode cX6_blendWith 5 = .ok (.aload_n 0, 1) := by decide +kernel
theorem dX6_blendWith_6 : decode cX6_blendWith 6 = .ok (.getfield 21, 3) := by decide +kernel
theorem dX6_blendWith_9 : decode cX6_blendWith 9 = .ok (.if_icmp .ge 54, 3) := by decide +kernel
theorem dX6_blendWith_12 : decode cX6_blendWith 12 = .ok (.iload_n 3, 1) := by decide +kernel
theorem dX6_blendWith_13 : decode cX6_blendWith 13 = .ok (.iload 4, 2) := by decide +kernel
theorem dX6_blendWith_15 : decode cX6_blendWith 15 = .ok (.ishr, 1) := by decide +kernel
theorem dX6_blendWith_16 : decode cX6_blendWith 16 = .ok (.iconst 1, 1) := by decide +kernel
theorem dX6_blendWith_17 : decode cX6_blendWith 17 = .ok (.iand, 1) := by decide +kernel
theorem dX6_blendWith_18 : decode cX6_blendWith 18 = .ok (.iconst 1, 1) := by decide +kernel
theorem dX6_blendWith_19 : decode cX6_blendWith 19 = .ok (.if_icmp .ne 38, 3) := by decide +kernel
theorem dX6_blendWith_22 : decode cX6_blendWith 22 = .ok (.aload_n 0, 1) := by decide +kernel
theorem dX6_blendWith_23 : decode cX6_blendWith 23 = .ok (.getfield 11, 3) := by decide +kernel
theorem dX6_blendWith_26 : decode cX6_blendWith 26 = .ok (.iload 4, 2) := by decide +kernel
theorem dX6_blendWith_28 : decode cX6_blendWith 28 = .ok (.aaload, 1) := by decide +kernel
theorem dX6_blendWith_29 : decode cX6_blendWith 29 = .ok (.aload_n 0, 1) := by decide +kernel
theorem dX6_blendWith_30 : decode cX6_blendWith 30 = .ok (.getfield 11, 3) := by decide +kernel
theorem dX6_blendWith_33 : decode cX6_blendWith 33 = .ok (.iload 4, 2) := by decide +kernel
theorem dX6_blendWith_35 : decode cX6_blendWith 35 = .ok (.aaload, 1) := by decide +kernel
theorem dX6_blendWith_36 : decode cX6_blendWith 36 = .ok (.aload_n 0, 1) := by decide +kernel
theorem dX6_blendWith_37 : decode cX6_blendWith 37 = .ok (.getfield 11, 3) := by decide +kernel
theorem dX6_blendWith_40 : decode cX6_blendWith 40 = .ok (.iload 4, 2) := by decide +kernel
theorem dX6_blendWith_42 : decode cX6_blendWith 42 = .ok (.aaload, 1) := by decide +kernel
theorem dX6_blendWith_43 : decode cX6_blendWith 43 = .ok (.getfield 51, 3) := by decide +kernel
theorem dX6_blendWith_46 : decode cX6_blendWith 46 = .ok (.aload_n 1, 1) := by decide +kernel
theorem dX6_blendWith_47 : decode cX6_blendWith 47 = .ok (.iload 4, 2) := by decide +kernel
theorem dX6_blendWith_49 : decode cX6_blendWith 49 = .ok (.iaload, 1) := by decide +kernel
theorem dX6_blendWith_50 : decode cX6_blendWith 50 = .ok (.iload_n 2, 1) := by decide +kernel
theorem dX6_blendWith_51 : decode cX6_blendWith 51 = .ok (.invokevirtual 57, 3) := by decide +kernel
theorem dX6_blendWith_54 : decode cX6_blendWith 54 = .ok (.putfield 51, 3) := by decide +kernel
theorem dX6_blendWith_57 : decode cX6_blendWith 57 = .ok (.iinc 4 1, 3) := by decide +kernel
theorem dX6_blendWith_60 : decode cX6_blendWith 60 = .ok (.goto (-57), 3) := by decide +kernel
theorem dX6_blendWith_63 : decode cX6_blendWith 63 = .ok (.aload_n 0, 1) := by decide +kernel
theorem dX6_blendWith_64 : decode cX6_blendWith 64 = .ok (.invokevirtual 54, 3) := by decide +kernel
theorem dX6_blendWith_67 : decode cX6_blendWith 67 = .ok (.return_, 1) := by decide +kernel
theorem dX6_addDifference_0 : decode cX6_addDifference 0 = .ok (.iconst 0, 1) := by decide +kernel
theorem dX6_addDifference_1 : decode cX6_addDifference 1 = .ok (.istore_n 3, 1) := by decide +kernel
theorem dX6_addDifference_2 : decode cX6_addDifference 2 = .ok (.iconst 0, 1) := by decide +kernel
theorem dX6_addDifference_3 : decode cX6_addDifference 3 = .ok (.istore 4, 2) := by decide +kernel
theorem dX6_addDifference_5 : decode cX6_addDifference 5 = .ok (.iload 4, 2) := by decide +kernel
theorem dX6_addDifference_7 : decode cX6_addDifference 7 = .ok (.aload_n 0, 1) := by decide +kernel
theorem dX6_addDifference_8 : decode cX6_addDifference 8 = .ok (.getfield 21, 3) := by decide +kernel
theorem dX6_addDifference_11 : decode cX6_addDifference 11 = .ok (.if_icmp .ge 51, 3) := by decide +kernel
theorem dX6_addDifference_14 : decode cX6_addDifference 14 = .ok (.aload_n 2, 1) := by decide +kernel
theorem dX6_addDifference_15 : decode cX6_addDifference 15 = .ok (.iload 4, 2) := by decide +kernel
theorem dX6_addDifference_17 : decode cX6_addDifference 17 = .ok (.iaload, 1) := by decide +kernel
theorem dX6_addDifference_18 : decode cX6_addDifference 18 = .ok (.aload_n 1, 1) := by decide +kernel
theorem dX6_addDifference_19 : decode cX6_addDifference 19 = .ok (.iload 4, 2) := by decide +kernel
theorem dX6_addDifference_21 : decode cX6_addDifference 21 = .ok (.iaload, 1) := by decide +kernel
theorem dX6_addDifference_22 : decode cX6_addDifference 22 = .ok (.invokestatic 61, 3) := by decide +kernel
theorem dX6_addDifference_25 : decode cX6_addDifference 25 = .ok (.istore 5, 2) := by decide +kernel
theorem dX6_addDifference_27 : decode cX6_addDifference 27 = .ok (.iload_n 3, 1) := by decide +kernel
theorem dX6_addDifference_28 : decode cX6_addDifference 28 = .ok (.aload_n 0, 1) := by decide +kernel
theorem dX6_addDifference_29 : decode cX6_addDifference 29 = .ok (.getfield 11, 3) := by decide +kernel
theorem dX6_addDifference_32 : decode cX6_addDifference 32 = .ok (.iload 4, 2) := by decide +kernel
theorem dX6_addDifference_34 : decode cX6_addDifference 34 = .ok (.aaload, 1) := by decide +kernel
theorem dX6_addDifference_35 : decode cX6_addDifference 35 = .ok (.aload_n 0, 1) := by decide +kernel
theorem dX6_addDifference_36 : decode cX6_addDifference 36 = .ok (.getfield 11, 3) := by decide +kernel
theorem dX6_addDifference_39 : decode cX6_addDifference 39 = .ok (.iload 4, 2) := by decide +kernel
theorem dX6_addDifference_41 : decode cX6_addDifference 41 = .ok (.aaload, 1) := by decide +kernel
theorem dX6_addDifference_42 : decode cX6_addDifference 42 = .ok (.getfield 51, 3) := by decide +kernel
theorem dX6_addDifference_45 : decode cX6_addDifference 45 = .ok (.iload 5, 2) := by decide +kernel
theorem dX6_addDifference_47 : decode cX6_addDifference 47 = .ok (.iadd, 1) := by decide +kernel
theorem dX6_addDifference_48 : decode cX6_addDifference 48 = .ok (.invokestatic 67, 3) := by decide +kernel
theorem dX6_addDifference_51 : decode cX6_addDifference 51 = .ok (.invokevirtual 71, 3) := by decide +kernel
theorem dX6_addDifference_54 : decode cX6_addDifference 54 = .ok (.iadd, 1) := by decide +kernel
theorem dX6_addDifference_55 : decode cX6_addDifference 55 = .ok (.istore_n 3, 1) := by decide +kernel
theorem dX6_addDifference_56 : decode cX6_addDifference 56 = .ok (.iinc 4 1, 3) := by decide +kernel
theorem dX6_addDifference_59 : decode cX6_addDifference 59 = .ok (.goto (-54), 3) := by decide +kernel
theorem dX6_addDifference_62 : decode cX6_addDifference 62 = .ok (.aload_n 0, 1) := by decide +kernel
theorem dX6_addDifference_63 : decode cX6_addDifference 63 = .ok (.invokevirtual 54, 3) := by decide +kernel
theorem dX6_addDifference_66 : decode cX6_addDifference 66 = .ok (.iload_n 3, 1) := by decide +kernel
theorem dX6_addDifference_67 : decode cX6_addDifference 67 = .ok (.ireturn, 1) := by decide +kernel
theorem dX6_takeItems_0 : decode cX6_takeItems 0 = .ok (.iconst 0, 1) := by decide +kernel
theorem dX6_takeItems_1 : decode cX6_takeItems 1 = .ok (.istore_n 3, 1) := by decide +kernel
theorem dX6_takeItems_2 : decode cX6_takeItems 2 = .ok (.iconst 0, 1) := by decide +kernel
theorem dX6_takeItems_3 : decode cX6_takeItems 3 = .ok (.istore 4, 2) := by decide +kernel
theorem dX6_takeItems_5 : decode cX6_takeItems 5 = .ok (.iload 4, 2) := by decide +kernel
theorem dX6_takeItems_7 : decode cX6_takeItems 7 = .ok (.aload_n 0, 1) := by decide +kernel
theorem dX6_takeItems_8 : decode cX6_takeItems 8 = .ok (.getfield 21, 3) := by decide +kernel
theorem dX6_takeItems_11 : decode cX6_takeItems 11 = .ok (.if_icmp .ge 31, 3) := by decide +kernel
theorem dX6_takeItems_14 : decode cX6_takeItems 14 = .ok (.iload_n 3, 1) := by decide +kernel
theorem dX6_takeItems_15 : decode cX6_takeItems 15 = .ok (.aload_n 0, 1) := by decide +kernel
theorem dX6_takeItems_16 : decode cX6_takeItems 16 = .ok (.getfield 11, 3) := by decide +kernel
theorem dX6_takeItems_19 : decode cX6_takeItems 19 = .ok (.iload 4, 2) := by decide +kernel
theorem dX6_takeItems_21 : decode cX6_takeItems 21 = .ok (.aaload, 1) := by decide +kernel
theorem dX6_takeItems_22 : decode cX6_takeItems 22 = .ok (.aload_n 1, 1) := by decide +kernel
theorem dX6_takeItems_23 : decode cX6_takeItems 23 = .ok (.iload_n 2, 1) := by decide +kernel
theorem dX6_takeItems_24 : decode cX6_takeItems 24 = .ok (.iload 4, 2) := by decide +kernel
theorem dX6_takeItems_26 : decode cX6_takeItems 26 = .ok (.iadd, 1) := by decide +kernel
theorem dX6_takeItems_27 : decode cX6_takeItems 27 = .ok (.iaload, 1) := by decide +kernel
theorem dX6_takeItems_28 : decode cX6_takeItems 28 = .ok (.invokestatic 67, 3) := by decide +kernel
theorem dX6_takeItems_31 : decode cX6_takeItems 31 = .ok (.invokevirtual 71, 3) := by decide +kernel
theorem dX6_takeItems_34 : decode cX6_takeItems 34 = .ok (.iadd, 1) := by decide +kernel
theorem dX6_takeItems_35 : decode cX6_takeItems 35 = .ok (.istore_n 3, 1) := by decide +kernel
theorem dX6_takeItems_36 : decode cX6_takeItems 36 = .ok (.iinc 4 1, 3) := by decide +kernel
theorem dX6_takeItems_39 : decode cX6_takeItems 39 = .ok (.goto (-34), 3) := by decide +kernel
theorem dX6_takeItems_42 : decode cX6_takeItems 42 = .ok (.aload_n 0, 1) := by decide +kernel
theorem dX6_takeItems_43 : decode cX6_takeItems 43 = .ok (.invokevirtual 54, 3) := by decide +kernel
theorem dX6_takeItems_46 : decode cX6_takeItems 46 = .ok (.iload_n 3, 1) := by decide +kernel
theorem dX6_takeItems_47 : decode cX6_takeItems 47 = .ok (.ireturn, 1) := by decide +kernel
theorem dX6_reachByTwo_0 : decode cX6_reachByTwo 0 = .ok (.aload_n 1, 1) := by decide +kernel
theorem dX6_reachByTwo_1 : decode cX6_reachByTwo 1 = .ok (.getfield 74, 3) := by decide +kernel
theorem dX6_reachByTwo_4 : decode cX6_reachByTwo 4 = .ok (.astore 6, 2) := by decide +kernel
theorem dX6_reachByTwo_6 : decode cX6_reachByTwo 6 = .ok (.aload 6, 2) := by decide +kernel
theorem dX6_reachByTwo_8 : decode cX6_reachByTwo 8 = .ok (.ifnonnull 24, 3) := by decide +kernel
theorem dX6_reachByTwo_11 : decode cX6_reachByTwo 11 = .ok (.aload_n 1, 1) := by decide +kernel
theorem dX6_reachByTwo_12 : decode cX6_reachByTwo 12 = .ok (.aload_n 1, 1) := by decide +kernel
theorem dX6_reachByTwo_13 : decode cX6_reachByTwo 13 = .ok (.aload_n 1, 1) := by decide +kernel
theorem dX6_reachByTwo_14 : decode cX6_reachByTwo 14 = .ok (.lload_n 2, 1) := by decide +kernel
theorem dX6_reachByTwo_15 : decode cX6_reachByTwo 15 = .ok (.lload 4, 2) := by decide +kernel
theorem dX6_reachByTwo_17 : decode cX6_reachByTwo 17 = .ok (.aload_n 1, 1) := by decide +kernel
theorem dX6_reachByTwo_18 : decode cX6_reachByTwo 18 = .ok (.invokevirtual 78, 3) := by decide +kernel
theorem dX6_reachByTwo_21 : decode cX6_reachByTwo 21 = .ok (.invokevirtual 82, 3) := by decide +kernel
theorem dX6_reachByTwo_24 : decode cX6_reachByTwo 24 = .ok (.putfield 51, 3) := by decide +kernel
theorem dX6_reachByTwo_27 : decode cX6_reachByTwo 27 = .ok (.aload_n 0, 1) := by decide +kernel
theorem dX6_reachByTwo_28 : decode cX6_reachByTwo 28 = .ok (.invokevirtual 39, 3) := by decide +kernel
theorem dX6_reachByTwo_31 : decode cX6_reachByTwo 31 = .ok (.return_, 1) := by decide +kernel
theorem dX6_reachByTwo_32 : decode cX6_reachByTwo 32 = .ok (.aload 6, 2) := by decide +kernel
theorem dX6_reachByTwo_34 : decode cX6_reachByTwo 34 = .ok (.getfield 51, 3) := by decide +kernel
theorem dX6_reachByTwo_37 : decode cX6_reachByTwo 37 = .ok (.istore 7, 2) := by decide +kernel
theorem dX6_reachByTwo_39 : decode cX6_reachByTwo 39 = .ok (.aload_n 1, 1) := by decide +kernel
theorem dX6_reachByTwo_40 : decode cX6_reachByTwo 40 = .ok (.getfield 51, 3) := by decide +kernel
theorem dX6_reachByTwo_43 : decode cX6_reachByTwo 43 = .ok (.istore 8, 2) := by decide +kernel
theorem dX6_reachByTwo_45 : decode cX6_reachByTwo 45 = .ok (.ldc2_w 86, 3) := by decide +kernel
theorem dX6_reachByTwo_48 : decode cX6_reachByTwo 48 = .ok (.lstore 9, 2) := by decide +kernel
theorem dX6_reachByTwo_50 : decode cX6_reachByTwo 50 = .ok (.iconst 0, 1) := by decide +kernel
theorem dX6_reachByTwo_51 : decode cX6_reachByTwo 51 = .ok (.istore 11, 2) := by decide +kernel
theorem dX6_reachByTwo_53 : decode cX6_reachByTwo 53 = .ok (.iload 11, 2) := by decide +kernel
theorem dX6_reachByTwo_55 : decode cX6_reachByTwo 55 = .ok (.bipush 36, 2) := by decide +kernel
theorem dX6_reachByTwo_57 : decode cX6_reachByTwo 57 = .ok (.if_icmp .ge 82, 3) := by decide +kernel
theorem dX6_reachByTwo_60 : decode cX6_reachByTwo 60 = .ok (.aload 6, 2) := by decide +kernel
theorem dX6_reachByTwo_62 : decode cX6_reachByTwo 62 = .ok (.iload 11, 2) := by decide +kernel
theorem dX6_reachByTwo_64 : decode cX6_reachByTwo 64 = .ok (.invokevirtual 88, 3) := by decide +kernel
theorem dX6_reachByTwo_67 : decode cX6_reachByTwo 67 = .ok (.ifCond .eq 66, 3) := by decide +kernel
theorem dX6_reachByTwo_70 : decode cX6_reachByTwo 70 = .ok (.aload 6, 2) := by decide +kernel
theorem dX6_reachByTwo_72 : decode cX6_reachByTwo 72 = .ok (.iload 11, 2) := by decide +kernel
theorem dX6_reachByTwo_74 : decode cX6_reachByTwo 74 = .ok (.putfield 51, 3) := by decide +kernel
theorem dX6_reachByTwo_77 : decode cX6_reachByTwo 77 = .ok (.aload_n 0, 1) := by decide +kernel
theorem dX6_reachByTwo_78 : decode cX6_reachByTwo 78 = .ok (.invokevirtual 39, 3) := by decide +kernel
theorem dX6_reachByTwo_81 : decode cX6_reachByTwo 81 = .ok (.aload_n 1, 1) := by decide +kernel
theorem dX6_reachByTwo_82 : decode cX6_reachByTwo 82 = .ok (.aload_n 1, 1) := by decide +kernel
theorem dX6_reachByTwo_83 : decode cX6_reachByTwo 83 = .ok (.aload_n 1, 1) := by decide +kernel
theorem dX6_reachByTwo_84 : decode cX6_reachByTwo 84 = .ok (.lload_n 2, 1) := by decide +kernel
theorem dX6_reachByTwo_85 : decode cX6_reachByTwo 85 = .ok (.lload 4, 2) := by decide +kernel
theorem dX6_reachByTwo_87 : decode cX6_reachByTwo 87 = .ok (.aload_n 1, 1) := by decide +kernel
theorem dX6_reachByTwo_88 : decode cX6_reachByTwo 88 = .ok (.invokevirtual 78, 3) := by decide +kernel
theorem dX6_reachByTwo_91 : decode cX6_reachByTwo 91 = .ok (.invokevirtual 82, 3) := by decide +kernel
theorem dX6_reachByTwo_94 : decode cX6_reachByTwo 94 = .ok (.putfield 51, 3) := by decide +kernel
theorem dX6_reachByTwo_97 : decode cX6_reachByTwo 97 = .ok (.aload_n 0, 1) := by decide +kernel
theorem dX6_reachByTwo_98 : decode cX6_reachByTwo 98 = .ok (.invokevirtual 39, 3) := by decide +kernel
theorem dX6_reachByTwo_101 : decode cX6_reachByTwo 101 = .ok (.aload_n 1, 1) := by decide +kernel
theorem dX6_reachByTwo_102 : decode cX6_reachByTwo 102 = .ok (.lload_n 2, 1) := by decide +kernel
theorem dX6_reachByTwo_103 : decode cX6_reachByTwo 103 = .ok (.lload 4, 2) := by decide +kernel
theorem dX6_reachByTwo_105 : decode cX6_reachByTwo 105 = .ok (.invokevirtual 92, 3) := by decide +kernel
theorem dX6_reachByTwo_108 : decode cX6_reachByTwo 108 = .ok (.lload 9, 2) := by decide +kernel
theorem dX6_reachByTwo_110 : decode cX6_reachByTwo 110 = .ok (.lcmp, 1) := by decide +kernel
theorem dX6_reachByTwo_111 : decode cX6_reachByTwo 111 = .ok (.ifCond .ge 22, 3) := by decide +kernel
theorem dX6_reachByTwo_114 : decode cX6_reachByTwo 114 = .ok (.aload_n 1, 1) := by decide +kernel
theorem dX6_reachByTwo_115 : decode cX6_reachByTwo 115 = .ok (.lload_n 2, 1) := by decide +kernel
theorem dX6_reachByTwo_116 : decode cX6_reachByTwo 116 = .ok (.lload 4, 2) := by decide +kernel
theorem dX6_reachByTwo_118 : decode cX6_reachByTwo 118 = .ok (.invokevirtual 92, 3) := by decide +kernel
theorem dX6_reachByTwo_121 : decode cX6_reachByTwo 121 = .ok (.lstore 9, 2) := by decide +kernel
theorem dX6_reachByTwo_123 : decode cX6_reachByTwo 123 = .ok (.iload 11, 2) := by decide +kernel
theorem dX6_reachByTwo_125 : decode cX6_reachByTwo 125 = .ok (.istore 7, 2) := by decide +kernel
theorem dX6_reachByTwo_127 : decode cX6_reachByTwo 127 = .ok (.aload_n 1, 1) := by decide +kernel
theorem dX6_reachByTwo_128 : decode cX6_reachByTwo 128 = .ok (.getfield 51, 3) := by decide +kernel
theorem dX6_reachByTwo_131 : decode cX6_reachByTwo 131 = .ok (.istore 8, 2) := by decide +kernel
theorem dX6_reachByTwo_133 : decode cX6_reachByTwo 133 = .ok (.iinc 11 1, 3) := by decide +kernel
theorem dX6_reachByTwo_136 : decode cX6_reachByTwo 136 = .ok (.goto (-83), 3) := by decide +kernel
theorem dX6_reachByTwo_139 : decode cX6_reachByTwo 139 = .ok (.aload 6, 2) := by decide +kernel
theorem dX6_reachByTwo_141 : decode cX6_reachByTwo 141 = .ok (.iload 7, 2) := by decide +kernel
theorem dX6_reachByTwo_143 : decode cX6_reachByTwo 143 = .ok (.putfield 51, 3) := by decide +kernel
theorem dX6_reachByTwo_146 : decode cX6_reachByTwo 146 = .ok (.aload_n 1, 1) := by decide +kernel
theorem dX6_reachByTwo_147 : decode cX6_reachByTwo 147 = .ok (.iload 8, 2) := by decide +kernel
theorem dX6_reachByTwo_149 : decode cX6_reachByTwo 149 = .ok (.putfield 51, 3) := by decide +kernel
theorem dX6_reachByTwo_152 : decode cX6_reachByTwo 152 = .ok (.aload_n 0, 1) := by decide +kernel
theorem dX6_reachByTwo_153 : decode cX6_reachByTwo 153 = .ok (.invokevirtual 39, 3) := by decide +kernel
theorem dX6_reachByTwo_156 : decode cX6_reachByTwo 156 = .ok (.return_, 1) := by decide +kernel
theorem dX6_reachByRounds_0 : decode cX6_reachByRounds 0 = .ok (.iconst 1, 1) := by decide +kernel
theorem dX6_reachByRounds_1 : decode cX6_reachByRounds 1 = .ok (.istore 7, 2) := by decide +kernel
theorem dX6_reachByRounds_3 : decode cX6_reachByRounds 3 = .ok (.iconst 0, 1) := by decide +kernel
theorem dX6_reachByRounds_4 : decode cX6_reachByRounds 4 = .ok (.istore 8, 2) := by decide +kernel
theorem dX6_reachByRounds_6 : decode cX6_reachByRounds 6 = .ok (.iload 8, 2) := by decide +kernel
theorem dX6_reachByRounds_8 : decode cX6_reachByRounds 8 = .ok (.iload 6, 2) := by decide +kernel
theorem dX6_reachByRounds_10 : decode cX6_reachByRounds 10 = .ok (.if_icmp .ge 24, 3) := by decide +kernel
theorem dX6_reachByRounds_13 : decode cX6_reachByRounds 13 = .ok (.iload 7, 2) := by decide +kernel
theorem dX6_reachByRounds_15 : decode cX6_reachByRounds 15 = .ok (.ifCond .eq 19, 3) := by decide +kernel
theorem dX6_reachByRounds_18 : decode cX6_reachByRounds 18 = .ok (.aload_n 0, 1) := by decide +kernel
theorem dX6_reachByRounds_19 : decode cX6_reachByRounds 19 = .ok (.aload_n 1, 1) := by decide +kernel
theorem dX6_reachByRounds_20 : decode cX6_reachByRounds 20 = .ok (.lload_n 2, 1) := by decide +kernel
theorem dX6_reachByRounds_21 : decode cX6_reachByRounds 21 = .ok (.lload 4, 2) := by decide +kernel
theorem dX6_reachByRounds_23 : decode cX6_reachByRounds 23 = .ok (.invokevirtual 96, 3) := by decide +kernel
theorem dX6_reachByRounds_26 : decode cX6_reachByRounds 26 = .ok (.istore 7, 2) := by decide +kernel
theorem dX6_reachByRounds_28 : decode cX6_reachByRounds 28 = .ok (.iinc 8 1, 3) := by decide +kernel
theorem dX6_reachByRounds_31 : decode cX6_reachByRounds 31 = .ok (.goto (-25), 3) := by decide +kernel
theorem dX6_reachByRounds_34 : decode cX6_reachByRounds 34 = .ok (.return_, 1) := by decide +kernel
theorem dX6_reachByRound_0 : decode cX6_reachByRound 0 = .ok (.iconst 0, 1) := by decide +kernel
theorem dX6_reachByRound_1 : decode cX6_reachByRound 1 = .ok (.istore 6, 2) := by decide +kernel
theorem dX6_reachByRound_3 : decode cX6_reachByRound 3 = .ok (.aload_n 1, 1) := by decide +kernel
theorem dX6_reachByRound_4 : decode cX6_reachByRound 4 = .ok (.astore 7, 2) := by decide +kernel
theorem dX6_reachByRound_6 : decode cX6_reachByRound 6 = .ok (.aload 7, 2) := by decide +kernel
theorem dX6_reachByRound_8 : decode cX6_reachByRound 8 = .ok (.ifnull 53, 3) := by decide +kernel
theorem dX6_reachByRound_11 : decode cX6_reachByRound 11 = .ok (.aload 7, 2) := by decide +kernel
theorem dX6_reachByRound_13 : decode cX6_reachByRound 13 = .ok (.aload_n 1, 1) := by decide +kernel
theorem dX6_reachByRound_14 : decode cX6_reachByRound 14 = .ok (.lload_n 2, 1) := by decide +kernel
theorem dX6_reachByRound_15 : decode cX6_reachByRound 15 = .ok (.lload 4, 2) := by decide +kernel
theorem dX6_reachByRound_17 : decode cX6_reachByRound 17 = .ok (.aload 7, 2) := by decide +kernel
theorem dX6_reachByRound_19 : decode cX6_reachByRound 19 = .ok (.getfield 51, 3) := by decide +kernel
theorem dX6_reachByRound_22 : decode cX6_reachByRound 22 = .ok (.invokevirtual 82, 3) := by decide +kernel
theorem dX6_reachByRound_25 : decode cX6_reachByRound 25 = .ok (.istore 8, 2) := by decide +kernel
theorem dX6_reachByRound_27 : decode cX6_reachByRound 27 = .ok (.iload 8, 2) := by decide +kernel
theorem dX6_reachByRound_29 : decode cX6_reachByRound 29 = .ok (.aload 7, 2) := by decide +kernel
theorem dX6_reachByRound_31 : decode cX6_reachByRound 31 = .ok (.getfield 51, 3) := by decide +kernel
theorem dX6_reachByRound_34 : decode cX6_reachByRound 34 = .ok (.if_icmp .eq 17, 3) := by decide +kernel
theorem dX6_reachByRound_37 : decode cX6_reachByRound 37 = .ok (.aload 7, 2) := by decide +kernel
theorem dX6_reachByRound_39 : decode cX6_reachByRound 39 = .ok (.iload 8, 2) := by decide +kernel
theorem dX6_reachByRound_41 : decode cX6_reachByRound 41 = .ok (.putfield 51, 3) := by decide +kernel
theorem dX6_reachByRound_44 : decode cX6_reachByRound 44 = .ok (.aload_n 0, 1) := by decide +kernel
theorem dX6_reachByRound_45 : decode cX6_reachByRound 45 = .ok (.invokevirtual 39, 3) := by decide +kernel
theorem dX6_reachByRound_48 : decode cX6_reachByRound 48 = .ok (.iconst 1, 1) := by decide +kernel
theorem dX6_reachByRound_49 : decode cX6_reachByRound 49 = .ok (.istore 6, 2) := by decide +kernel
theorem dX6_reachByRound_51 : decode cX6_reachByRound 51 = .ok (.aload 7, 2) := by decide +kernel
theorem dX6_reachByRound_53 : decode cX6_reachByRound 53 = .ok (.getfield 74, 3) := by decide +kernel
theorem dX6_reachByRound_56 : decode cX6_reachByRound 56 = .ok (.astore 7, 2) := by decide +kernel
theorem dX6_reachByRound_58 : decode cX6_reachByRound 58 = .ok (.goto (-52), 3) := by decide +kernel
theorem dX6_reachByRound_61 : decode cX6_reachByRound 61 = .ok (.iload 6, 2) := by decide +kernel
theorem dX6_reachByRound_63 : decode cX6_reachByRound 63 = .ok (.ireturn, 1) := by decide +kernel
theorem dX6_digestOn_0 : decode cX6_digestOn 0 = .ok (.lload_n 1, 1) := by decide +kernel
theorem dX6_digestOn_1 : decode cX6_digestOn 1 = .ok (.lstore_n 3, 1) := by decide +kernel
theorem dX6_digestOn_2 : decode cX6_digestOn 2 = .ok (.iconst 0, 1) := by decide +kernel
theorem dX6_digestOn_3 : decode cX6_digestOn 3 = .ok (.istore 5, 2) := by decide +kernel
theorem dX6_digestOn_5 : decode cX6_digestOn 5 = .ok (.iload 5, 2) := by decide +kernel
theorem dX6_digestOn_7 : decode cX6_digestOn 7 = .ok (.aload_n 0, 1) := by decide +kernel
theorem dX6_digestOn_8 : decode cX6_digestOn 8 = .ok (.getfield 21, 3) := by decide +kernel
theorem dX6_digestOn_11 : decode cX6_digestOn 11 = .ok (.if_icmp .ge 61, 3) := by decide +kernel
theorem dX6_digestOn_14 : decode cX6_digestOn 14 = .ok (.ldc2_w 100, 3) := by decide +kernel
theorem dX6_digestOn_17 : decode cX6_digestOn 17 = .ok (.lload_n 3, 1) := by decide +kernel
theorem dX6_digestOn_18 : decode cX6_digestOn 18 = .ok (.lmul, 1) := by decide +kernel
theorem dX6_digestOn_19 : decode cX6_digestOn 19 = .ok (.aload_n 0, 1) := by decide +kernel
theorem dX6_digestOn_20 : decode cX6_digestOn 20 = .ok (.getfield 11, 3) := by decide +kernel
theorem dX6_digestOn_23 : decode cX6_digestOn 23 = .ok (.iload 5, 2) := by decide +kernel
theorem dX6_digestOn_25 : decode cX6_digestOn 25 = .ok (.aaload, 1) := by decide +kernel
theorem dX6_digestOn_26 : decode cX6_digestOn 26 = .ok (.getfield 51, 3) := by decide +kernel
theorem dX6_digestOn_29 : decode cX6_digestOn 29 = .ok (.i2l, 1) := by decide +kernel
theorem dX6_digestOn_30 : decode cX6_digestOn 30 = .ok (.ladd, 1) := by decide +kernel
theorem dX6_digestOn_31 : decode cX6_digestOn 31 = .ok (.lstore_n 3, 1) := by decide +kernel
theorem dX6_digestOn_32 : decode cX6_digestOn 32 = .ok (.ldc2_w 100, 3) := by decide +kernel
theorem dX6_digestOn_35 : decode cX6_digestOn 35 = .ok (.lload_n 3, 1) := by decide +kernel
theorem dX6_digestOn_36 : decode cX6_digestOn 36 = .ok (.lmul, 1) := by decide +kernel
theorem dX6_digestOn_37 : decode cX6_digestOn 37 = .ok (.aload_n 0, 1) := by decide +kernel
theorem dX6_digestOn_38 : decode cX6_digestOn 38 = .ok (.getfield 11, 3) := by decide +kernel
theorem dX6_digestOn_41 : decode cX6_digestOn 41 = .ok (.iload 5, 2) := by decide +kernel
theorem dX6_digestOn_43 : decode cX6_digestOn 43 = .ok (.aaload, 1) := by decide +kernel
theorem dX6_digestOn_44 : decode cX6_digestOn 44 = .ok (.getfield 45, 3) := by decide +kernel
theorem dX6_digestOn_47 : decode cX6_digestOn 47 = .ok (.ladd, 1) := by decide +kernel
theorem dX6_digestOn_48 : decode cX6_digestOn 48 = .ok (.lstore_n 3, 1) := by decide +kernel
theorem dX6_digestOn_49 : decode cX6_digestOn 49 = .ok (.ldc2_w 100, 3) := by decide +kernel
theorem dX6_digestOn_52 : decode cX6_digestOn 52 = .ok (.lload_n 3, 1) := by decide +kernel
theorem dX6_digestOn_53 : decode cX6_digestOn 53 = .ok (.lmul, 1) := by decide +kernel
theorem dX6_digestOn_54 : decode cX6_digestOn 54 = .ok (.aload_n 0, 1) := by decide +kernel
theorem dX6_digestOn_55 : decode cX6_digestOn 55 = .ok (.getfield 11, 3) := by decide +kernel
theorem dX6_digestOn_58 : decode cX6_digestOn 58 = .ok (.iload 5, 2) := by decide +kernel
theorem dX6_digestOn_60 : decode cX6_digestOn 60 = .ok (.aaload, 1) := by decide +kernel
theorem dX6_digestOn_61 : decode cX6_digestOn 61 = .ok (.getfield 48, 3) := by decide +kernel
theorem dX6_digestOn_64 : decode cX6_digestOn 64 = .ok (.ladd, 1) := by decide +kernel
theorem dX6_digestOn_65 : decode cX6_digestOn 65 = .ok (.lstore_n 3, 1) := by decide +kernel
theorem dX6_digestOn_66 : decode cX6_digestOn 66 = .ok (.iinc 5 1, 3) := by decide +kernel
theorem dX6_digestOn_69 : decode cX6_digestOn 69 = .ok (.goto (-64), 3) := by decide +kernel
theorem dX6_digestOn_72 : decode cX6_digestOn 72 = .ok (.lload_n 3, 1) := by decide +kernel
theorem dX6_digestOn_73 : decode cX6_digestOn 73 = .ok (.lreturn, 1) := by decide +kernel
theorem dX7_normal_0 : decode cX7_normal 0 = .ok (.iload_n 0, 1) := by decide +kernel
theorem dX7_normal_1 : decode cX7_normal 1 = .ok (.bipush 36, 2) := by decide +kernel
theorem dX7_normal_3 : decode cX7_normal 3 = .ok (.invokestatic 9, 3) := by decide +kernel
theorem dX7_normal_6 : decode cX7_normal 6 = .ok (.ireturn, 1) := by decide +kernel
theorem dX7_cosine_0 : decode cX7_cosine 0 = .ok (.getstatic 15, 3) := by decide +kernel
theorem dX7_cosine_3 : decode cX7_cosine 3 = .ok (.iload_n 0, 1) := by decide +kernel
theorem dX7_cosine_4 : decode cX7_cosine 4 = .ok (.bipush 36, 2) := by decide +kernel
theorem dX7_cosine_6 : decode cX7_cosine 6 = .ok (.invokestatic 9, 3) := by decide +kernel
theorem dX7_cosine_9 : decode cX7_cosine 9 = .ok (.iaload, 1) := by decide +kernel
theorem dX7_cosine_10 : decode cX7_cosine 10 = .ok (.ireturn, 1) := by decide +kernel
theorem dX7_sine_0 : decode cX7_sine 0 = .ok (.getstatic 15, 3) := by decide +kernel
theorem dX7_sine_3 : decode cX7_sine 3 = .ok (.iload_n 0, 1) := by decide +kernel
theorem dX7_sine_4 : decode cX7_sine 4 = .ok (.bipush 9, 2) := by decide +kernel
theorem dX7_sine_6 : decode cX7_sine 6 = .ok (.isub, 1) := by decide +kernel
theorem dX7_sine_7 : decode cX7_sine 7 = .ok (.bipush 36, 2) := by decide +kernel
theorem dX7_sine_9 : decode cX7_sine 9 = .ok (.invokestatic 9, 3) := by decide +kernel
theorem dX7_sine_12 : decode cX7_sine 12 = .ok (.iaload, 1) := by decide +kernel
theorem dX7_sine_13 : decode cX7_sine 13 = .ok (.ireturn, 1) := by decide +kernel
theorem dX7_shortWay_0 : decode cX7_shortWay 0 = .ok (.iload_n 1, 1) := by decide +kernel
theorem dX7_shortWay_1 : decode cX7_shortWay 1 = .ok (.iload_n 0, 1) := by decide +kernel
theorem dX7_shortWay_2 : decode cX7_shortWay 2 = .ok (.isub, 1) := by decide +kernel
theorem dX7_shortWay_3 : decode cX7_shortWay 3 = .ok (.istore_n 2, 1) := by decide +kernel
theorem dX7_shortWay_4 : decode cX7_shortWay 4 = .ok (.iload_n 2, 1) := by decide +kernel
theorem dX7_shortWay_5 : decode cX7_shortWay 5 = .ok (.bipush 18, 2) := by decide +kernel
theorem dX7_shortWay_7 : decode cX7_shortWay 7 = .ok (.if_icmp .le 10, 3) := by decide +kernel
theorem dX7_shortWay_10 : decode cX7_shortWay 10 = .ok (.iload_n 2, 1) := by decide +kernel
theorem dX7_shortWay_11 : decode cX7_shortWay 11 = .ok (.bipush 36, 2) := by decide +kernel
theorem dX7_shortWay_13 : decode cX7_shortWay 13 = .ok (.isub, 1) := by decide +kernel
theorem dX7_shortWay_14 : decode cX7_shortWay 14 = .ok (.goto 17, 3) := by decide +kernel
theorem dX7_shortWay_17 : decode cX7_shortWay 17 = .ok (.iload_n 2, 1) := by decide +kernel
theorem dX7_shortWay_18 : decode cX7_shortWay 18 = .ok (.bipush (-18), 2) := by decide +kernel
theorem dX7_shortWay_20 : decode cX7_shortWay 20 = .ok (.if_icmp .gt 10, 3) := by decide +kernel
theorem dX7_shortWay_23 : decode cX7_shortWay 23 = .ok (.iload_n 2, 1) := by decide +kernel
theorem dX7_shortWay_24 : decode cX7_shortWay 24 = .ok (.bipush 36, 2) := by decide +kernel
theorem dX7_shortWay_26 : decode cX7_shortWay 26 = .ok (.iadd, 1) := by decide +kernel
theorem dX7_shortWay_27 : decode cX7_shortWay 27 = .ok (.goto 4, 3) := by decide +kernel
theorem dX7_shortWay_30 : decode cX7_shortWay 30 = .ok (.iload_n 2, 1) := by decide +kernel
theorem dX7_shortWay_31 : decode cX7_shortWay 31 = .ok (.ireturn, 1) := by decide +kernel
theorem dX7_distance_0 : decode cX7_distance 0 = .ok (.iload_n 0, 1) := by decide +kernel
theorem dX7_distance_1 : decode cX7_distance 1 = .ok (.iload_n 1, 1) := by decide +kernel
theorem dX7_distance_2 : decode cX7_distance 2 = .ok (.if_icmp .ge 9, 3) := by decide +kernel
theorem dX7_distance_5 : decode cX7_distance 5 = .ok (.iload_n 1, 1) := by decide +kernel
theorem dX7_distance_6 : decode cX7_distance 6 = .ok (.iload_n 0, 1) := by decide +kernel
theorem dX7_distance_7 : decode cX7_distance 7 = .ok (.isub, 1) := by decide +kernel
theorem dX7_distance_8 : decode cX7_distance 8 = .ok (.goto 6, 3) := by decide +kernel
theorem dX7_distance_11 : decode cX7_distance 11 = .ok (.iload_n 0, 1) := by decide +kernel
theorem dX7_distance_12 : decode cX7_distance 12 = .ok (.iload_n 1, 1) := by decide +kernel
theorem dX7_distance_13 : decode cX7_distance 13 = .ok (.isub, 1) := by decide +kernel
theorem dX7_distance_14 : decode cX7_distance 14 = .ok (.istore_n 2, 1) := by decide +kernel
theorem dX7_distance_15 : decode cX7_distance 15 = .ok (.iload_n 2, 1) := by decide +kernel
theorem dX7_distance_16 : decode cX7_distance 16 = .ok (.bipush 18, 2) := by decide +kernel
theorem dX7_distance_18 : decode cX7_distance 18 = .ok (.if_icmp .le 10, 3) := by decide +kernel
theorem dX7_distance_21 : decode cX7_distance 21 = .ok (.bipush 36, 2) := by decide +kernel
theorem dX7_distance_23 : decode cX7_distance 23 = .ok (.iload_n 2, 1) := by decide +kernel
theorem dX7_distance_24 : decode cX7_distance 24 = .ok (.isub, 1) := by decide +kernel
theorem dX7_distance_25 : decode cX7_distance 25 = .ok (.goto 4, 3) := by decide +kernel
theorem dX7_distance_28 : decode cX7_distance 28 = .ok (.iload_n 2, 1) := by decide +kernel
theorem dX7_distance_29 : decode cX7_distance 29 = .ok (.ireturn, 1) := by decide +kernel
theorem dX8_init_0 : decode cX8_init 0 = .ok (.aload_n 0, 1) := by decide +kernel
theorem dX8_init_1 : decode cX8_init 1 = .ok (.invokespecial 3, 3) := by decide +kernel
theorem dX8_init_4 : decode cX8_init 4 = .ok (.aload_n 0, 1) := by decide +kernel
theorem dX8_init_5 : decode cX8_init 5 = .ok (.new 9, 3) := by decide +kernel
theorem dX8_init_8 : decode cX8_init 8 = .ok (.dup, 1) := by decide +kernel
theorem dX8_init_9 : decode cX8_init 9 = .ok (.invokespecial 11, 3) := by decide +kernel
theorem dX8_init_12 : decode cX8_init 12 = .ok (.putfield 12, 3) := by decide +kernel
theorem dX8_init_15 : decode cX8_init 15 = .ok (.aload_n 0, 1) := by decide +kernel
theorem dX8_init_16 : decode cX8_init 16 = .ok (.new 16, 3) := by decide +kernel
theorem dX8_init_19 : decode cX8_init 19 = .ok (.dup, 1) := by decide +kernel
theorem dX8_init_20 : decode cX8_init 20 = .ok (.invokespecial 18, 3) := by decide +kernel
theorem dX8_init_23 : decode cX8_init 23 = .ok (.putfield 19, 3) := by decide +kernel
theorem dX8_init_26 : decode cX8_init 26 = .ok (.aload_n 0, 1) := by decide +kernel
theorem dX8_init_27 : decode cX8_init 27 = .ok (.new 23, 3) := by decide +kernel
theorem dX8_init_30 : decode cX8_init 30 = .ok (.dup, 1) := by decide +kernel
theorem dX8_init_31 : decode cX8_init 31 = .ok (.invokespecial 25, 3) := by decide +kernel
theorem dX8_init_34 : decode cX8_init 34 = .ok (.putfield 26, 3) := by decide +kernel
theorem dX8_init_37 : decode cX8_init 37 = .ok (.aload_n 0, 1) := by decide +kernel
theorem dX8_init_38 : decode cX8_init 38 = .ok (.new 30, 3) := by decide +kernel
theorem dX8_init_41 : decode cX8_init 41 = .ok (.dup, 1) := by decide +kernel
theorem dX8_init_42 : decode cX8_init 42 = .ok (.invokespecial 32, 3) := by decide +kernel
theorem dX8_init_45 : decode cX8_init 45 = .ok (.putfield 33, 3) := by decide +kernel
theorem dX8_init_48 : decode cX8_init 48 = .ok (.aload_n 0, 1) := by decide +kernel
theorem dX8_init_49 : decode cX8_init 49 = .ok (.iconst 4, 1) := by decide +kernel
theorem dX8_init_50 : decode cX8_init 50 = .ok (.anewarray 37, 3) := by decide +kernel
theorem dX8_init_53 : decode cX8_init 53 = .ok (.putfield 39, 3) := by decide +kernel
theorem dX8_init_56 : decode cX8_init 56 = .ok (.aload_n 0, 1) := by decide +kernel
theorem dX8_init_57 : decode cX8_init 57 = .ok (.iconst 0, 1) := by decide +kernel
theorem dX8_init_58 : decode cX8_init 58 = .ok (.putfield 43, 3) := by decide +kernel
theorem dX8_init_61 : decode cX8_init 61 = .ok (.iconst 0, 1) := by decide +kernel
theorem dX8_init_62 : decode cX8_init 62 = .ok (.istore_n 1, 1) := by decide +kernel
theorem dX8_init_63 : decode cX8_init 63 = .ok (.iload_n 1, 1) := by decide +kernel
theorem dX8_init_64 : decode cX8_init 64 = .ok (.iconst 4, 1) := by decide +kernel
theorem dX8_init_65 : decode cX8_init 65 = .ok (.if_icmp .ge 22, 3) := by decide +kernel
theorem dX8_init_68 : decode cX8_init 68 = .ok (.aload_n 0, 1) := by decide +kernel
theorem dX8_init_69 : decode cX8_init 69 = .ok (.getfield 39, 3) := by decide +kernel
theorem dX8_init_72 : decode cX8_init 72 = .ok (.iload_n 1, 1) := by decide +kernel
theorem dX8_init_73 : decode cX8_init 73 = .ok (.new 37, 3) := by decide +kernel
theorem dX8_init_76 : decode cX8_init 76 = .ok (.dup, 1) := by decide +kernel
theorem dX8_init_77 : decode cX8_init 77 = .ok (.invokespecial 47, 3) := by decide +kernel
theorem dX8_init_80 : decode cX8_init 80 = .ok (.aastore, 1) := by decide +kernel
theorem dX8_init_81 : decode cX8_init 81 = .ok (.iinc 1 1, 3) := by decide +kernel
theorem dX8_init_84 : decode cX8_init 84 = .ok (.goto (-21), 3) := by decide +kernel
theorem dX8_init_87 : decode cX8_init 87 = .ok (.return_, 1) := by decide +kernel
theorem dX8_bone_0 : decode cX8_bone 0 = .ok (.aload_n 0, 1) := by decide +kernel
theorem dX8_bone_1 : decode cX8_bone 1 = .ok (.getfield 12, 3) := by decide +kernel
theorem dX8_bone_4 : decode cX8_bone 4 = .ok (.iload_n 1, 1) := by decide +kernel
theorem dX8_bone_5 : decode cX8_bone 5 = .ok (.invokevirtual 48, 3) := by decide +kernel
theorem dX8_bone_8 : decode cX8_bone 8 = .ok (.astore 5, 2) := by decide +kernel
theorem dX8_bone_10 : decode cX8_bone 10 = .ok (.aload 5, 2) := by decide +kernel
theorem dX8_bone_12 : decode cX8_bone 12 = .ok (.ifnonnull 11, 3) := by decide +kernel
theorem dX8_bone_15 : decode cX8_bone 15 = .ok (.iload_n 1, 1) := by decide +kernel
theorem dX8_bone_16 : decode cX8_bone 16 = .ok (.iconst (-1), 1) := by decide +kernel
theorem dX8_bone_17 : decode cX8_bone 17 = .ok (.if_icmp .eq 6, 3) := by decide +kernel
theorem dX8_bone_20 : decode cX8_bone 20 = .ok (.bipush (-2), 2) := by decide +kernel
theorem dX8_bone_22 : decode cX8_bone 22 = .ok (.ireturn, 1) := by decide +kernel
theorem dX8_bone_23 : decode cX8_bone 23 = .ok (.iload_n 2, 1) := by decide +kernel
theorem dX8_bone_24 : decode cX8_bone 24 = .ok (.i2l, 1) := by decide +kernel
theorem dX8_bone_25 : decode cX8_bone 25 = .ok (.lconst 1, 1) := by decide +kernel
theorem dX8_bone_26 : decode cX8_bone 26 = .ok (.ldc2_w 52, 3) := by decide +kernel
theorem dX8_bone_29 : decode cX8_bone 29 = .ok (.invokestatic 54, 3) := by decide +kernel
theorem dX8_bone_32 : decode cX8_bone 32 = .ok (.ifCond .eq 18, 3) := by decide +kernel
theorem dX8_bone_35 : decode cX8_bone 35 = .ok (.iload_n 3, 1) := by decide +kernel
theorem dX8_bone_36 : decode cX8_bone 36 = .ok (.invokestatic 58, 3) := by decide +kernel
theorem dX8_bone_39 : decode cX8_bone 39 = .ok (.ifCond .eq 11, 3) := by decide +kernel
theorem dX8_bone_42 : decode cX8_bone 42 = .ok (.iload 4, 2) := by decide +kernel
theorem dX8_bone_44 : decode cX8_bone 44 = .ok (.invokestatic 58, 3) := by decide +kernel
theorem dX8_bone_47 : decode cX8_bone 47 = .ok (.ifCond .ne 6, 3) := by decide +kernel
theorem dX8_bone_50 : decode cX8_bone 50 = .ok (.bipush (-2), 2) := by decide +kernel
theorem dX8_bone_52 : decode cX8_bone 52 = .ok (.ireturn, 1) := by decide +kernel
theorem dX8_bone_53 : decode cX8_bone 53 = .ok (.aload 5, 2) := by decide +kernel
theorem dX8_bone_55 : decode cX8_bone 55 = .ok (.ifnull 15, 3) := by decide +kernel
theorem dX8_bone_58 : decode cX8_bone 58 = .ok (.aload 5, 2) := by decide +kernel
theorem dX8_bone_60 : decode cX8_bone 60 = .ok (.getfield 62, 3) := by decide +kernel
theorem dX8_bone_63 : decode cX8_bone 63 = .ok (.iconst 5, 1) := by decide +kernel
theorem dX8_bone_64 : decode cX8_bone 64 = .ok (.if_icmp .lt 6, 3) := by decide +kernel
theorem dX8_bone_67 : decode cX8_bone 67 = .ok (.bipush (-2), 2) := by decide +kernel
theorem dX8_bone_69 : decode cX8_bone 69 = .ok (.ireturn, 1) := by decide +kernel
theorem dX8_bone_70 : decode cX8_bone 70 = .ok (.aload_n 0, 1) := by decide +kernel
theorem dX8_bone_71 : decode cX8_bone 71 = .ok (.getfield 19, 3) := by decide +kernel
theorem dX8_bone_74 : decode cX8_bone 74 = .ok (.invokevirtual 67, 3) := by decide +kernel
theorem dX8_bone_77 : decode cX8_bone 77 = .ok (.ifCond .le 6, 3) := by decide +kernel
theorem dX8_bone_80 : decode cX8_bone 80 = .ok (.bipush (-3), 2) := by decide +kernel
theorem dX8_bone_82 : decode cX8_bone 82 = .ok (.ireturn, 1) := by decide +kernel
theorem dX8_bone_83 : decode cX8_bone 83 = .ok (.aload_n 0, 1) := by decide +kernel
theorem dX8_bone_84 : decode cX8_bone 84 = .ok (.getfield 12, 3) := by decide +kernel
theorem dX8_bone_87 : decode cX8_bone 87 = .ok (.getfield 71, 3) := by decide +kernel
theorem dX8_bone_90 : decode cX8_bone 90 = .ok (.bipush 10, 2) := by decide +kernel
theorem dX8_bone_92 : decode cX8_bone 92 = .ok (.if_icmp .lt 6, 3) := by decide +kernel
theorem dX8_bone_95 : decode cX8_bone 95 = .ok (.bipush (-4), 2) := by decide +kernel
theorem dX8_bone_97 : decode cX8_bone 97 = .ok (.ireturn, 1) := by decide +kernel
theorem dX8_bone_98 : decode cX8_bone 98 = .ok (.aload_n 0, 1) := by decide +kernel
theorem dX8_bone_99 : decode cX8_bone 99 = .ok (.getfield 12, 3) := by decide +kernel
theorem dX8_bone_102 : decode cX8_bone 102 = .ok (.new 63, 3) := by decide +kernel
theorem dX8_bone_105 : decode cX8_bone 105 = .ok (.dup, 1) := by decide +kernel
theorem dX8_bone_106 : decode cX8_bone 106 = .ok (.aload 5, 2) := by decide +kernel
theorem dX8_bone_108 : decode cX8_bone 108 = .ok (.iload_n 1, 1) := by decide +kernel
theorem dX8_bone_109 : decode cX8_bone 109 = .ok (.iload_n 2, 1) := by decide +kernel
theorem dX8_bone_110 : decode cX8_bone 110 = .ok (.iload_n 3, 1) := by decide +kernel
theorem dX8_bone_111 : decode cX8_bone 111 = .ok (.iload 4, 2) := by decide +kernel
theorem dX8_bone_113 : decode cX8_bone 113 = .ok (.invokespecial 74, 3) := by decide +kernel
theorem dX8_bone_116 : decode cX8_bone 116 = .ok (.invokevirtual 77, 3) := by decide +kernel
theorem dX8_bone_119 : decode cX8_bone 119 = .ok (.ireturn, 1) := by decide +kernel
theorem dX8_about_0 : decode cX8_about 0 = .ok (.aload_n 0, 1) := by decide +kernel
theorem dX8_about_1 : decode cX8_about 1 = .ok (.getfield 12, 3) := by decide +kernel
theorem dX8_about_4 : decode cX8_about 4 = .ok (.iload_n 1, 1) := by decide +kernel
theorem dX8_about_5 : decode cX8_about 5 = .ok (.invokevirtual 48, 3) := by decide +kernel
theorem dX8_about_8 : decode cX8_about 8 = .ok (.astore_n 3, 1) := by decide +kernel
theorem dX8_about_9 : decode cX8_about 9 = .ok (.aload_n 3, 1) := by decide +kernel
theorem dX8_about_10 : decode cX8_about 10 = .ok (.ifnonnull 6, 3) := by decide +kernel
theorem dX8_about_13 : decode cX8_about 13 = .ok (.bipush (-2), 2) := by decide +kernel
theorem dX8_about_15 : decode cX8_about 15 = .ok (.ireturn, 1) := by decide +kernel
theorem dX8_about_16 : decode cX8_about 16 = .ok (.iload_n 2, 1) := by decide +kernel
theorem dX8_about_17 : decode cX8_about 17 = .ok (.tableswitch 60 0 4 #[35, 40, 45, 50, 55], 35) := by decide +kernel
theorem dX8_about_52 : decode cX8_about 52 = .ok (.aload_n 3, 1) := by decide +kernel
theorem dX8_about_53 : decode cX8_about 53 = .ok (.getfield 81, 3) := by decide +kernel
theorem dX8_about_56 : decode cX8_about 56 = .ok (.ireturn, 1) := by decide +kernel
theorem dX8_about_57 : decode cX8_about 57 = .ok (.aload_n 3, 1) := by decide +kernel
theorem dX8_about_58 : decode cX8_about 58 = .ok (.getfield 84, 3) := by decide +kernel
theorem dX8_about_61 : decode cX8_about 61 = .ok (.ireturn, 1) := by decide +kernel
theorem dX8_about_62 : decode cX8_about 62 = .ok (.aload_n 3, 1) := by decide +kernel
theorem dX8_about_63 : decode cX8_about 63 = .ok (.getfield 87, 3) := by decide +kernel
theorem dX8_about_66 : decode cX8_about 66 = .ok (.ireturn, 1) := by decide +kernel
theorem dX8_about_67 : decode cX8_about 67 = .ok (.aload_n 3, 1) := by decide +kernel
theorem dX8_about_68 : decode cX8_about 68 = .ok (.getfield 90, 3) := by decide +kernel
theorem dX8_about_71 : decode cX8_about 71 = .ok (.ireturn, 1) := by decide +kernel
theorem dX8_about_72 : decode cX8_about 72 = .ok (.aload_n 3, 1) := by decide +kernel
theorem dX8_about_73 : decode cX8_about 73 = .ok (.getfield 93, 3) := by decide +kernel
theorem dX8_about_76 : decode cX8_about 76 = .ok (.ireturn, 1) := by decide +kernel
theorem dX8_about_77 : decode cX8_about 77 = .ok (.bipush (-2), 2) := by decide +kernel
theorem dX8_about_79 : decode cX8_about 79 = .ok (.ireturn, 1) := by decide +kernel
theorem dX8_turn_0 : decode cX8_turn 0 = .ok (.aload_n 0, 1) := by decide +kernel
theorem dX8_turn_1 : decode cX8_turn 1 = .ok (.getfield 12, 3) := by decide +kernel
theorem dX8_turn_4 : decode cX8_turn 4 = .ok (.iload_n 1, 1) := by decide +kernel
theorem dX8_turn_5 : decode cX8_turn 5 = .ok (.invokevirtual 48, 3) := by decide +kernel
theorem dX8_turn_8 : decode cX8_turn 8 = .ok (.astore_n 3, 1) := by decide +kernel
theorem dX8_turn_9 : decode cX8_turn 9 = .ok (.aload_n 3, 1) := by decide +kernel
theorem dX8_turn_10 : decode cX8_turn 10 = .ok (.ifnull 10, 3) := by decide +kernel
theorem dX8_turn_13 : decode cX8_turn 13 = .ok (.iload_n 2, 1) := by decide +kernel
theorem dX8_turn_14 : decode cX8_turn 14 = .ok (.invokestatic 58, 3) := by decide +kernel
theorem dX8_turn_17 : decode cX8_turn 17 = .ok (.ifCond .ne 6, 3) := by decide +kernel
theorem dX8_turn_20 : decode cX8_turn 20 = .ok (.bipush (-2), 2) := by decide +kernel
theorem dX8_turn_22 : decode cX8_turn 22 = .ok (.ireturn, 1) := by decide +kernel
theorem dX8_turn_23 : decode cX8_turn 23 = .ok (.aload_n 3, 1) := by decide +kernel
theorem dX8_turn_24 : decode cX8_turn 24 = .ok (.iload_n 2, 1) := by decide +kernel
theorem dX8_turn_25 : decode cX8_turn 25 = .ok (.invokevirtual 96, 3) := by decide +kernel
theorem dX8_turn_28 : decode cX8_turn 28 = .ok (.ifCond .ne 6, 3) := by decide +kernel
theorem dX8_turn_31 : decode cX8_turn 31 = .ok (.bipush (-3), 2) := by decide +kernel
theorem dX8_turn_33 : decode cX8_turn 33 = .ok (.ireturn, 1) := by decide +kernel
theorem dX8_turn_34 : decode cX8_turn 34 = .ok (.aload_n 3, 1) := by decide +kernel
theorem dX8_turn_35 : decode cX8_turn 35 = .ok (.getfield 93, 3) := by decide +kernel
theorem dX8_turn_38 : decode cX8_turn 38 = .ok (.istore 4, 2) := by decide +kernel
theorem dX8_turn_40 : decode cX8_turn 40 = .ok (.aload_n 3, 1) := by decide +kernel
theorem dX8_turn_41 : decode cX8_turn 41 = .ok (.iload_n 2, 1) := by decide +kernel
theorem dX8_turn_42 : decode cX8_turn 42 = .ok (.putfield 93, 3) := by decide +kernel
theorem dX8_turn_45 : decode cX8_turn 45 = .ok (.aload_n 0, 1) := by decide +kernel
theorem dX8_turn_46 : decode cX8_turn 46 = .ok (.getfield 12, 3) := by decide +kernel
theorem dX8_turn_49 : decode cX8_turn 49 = .ok (.invokevirtual 99, 3) := by decide +kernel
theorem dX8_turn_52 : decode cX8_turn 52 = .ok (.iload 4, 2) := by decide +kernel
theorem dX8_turn_54 : decode cX8_turn 54 = .ok (.ireturn, 1) := by decide +kernel
theorem dX8_root_0 : decode cX8_root 0 = .ok (.lload_n 1, 1) := by decide +kernel
theorem dX8_root_1 : decode cX8_root 1 = .ok (.lload_n 3, 1) := by decide +kernel
theorem dX8_root_2 : decode cX8_root 2 = .ok (.invokestatic 102, 3) := by decide +kernel
theorem dX8_root_5 : decode cX8_root 5 = .ok (.ifCond .ne 6, 3) := by decide +kernel
theorem dX8_root_8 : decode cX8_root 8 = .ok (.bipush (-2), 2) := by decide +kernel
theorem dX8_root_10 : decode cX8_root 10 = .ok (.ireturn, 1) := by decide +kernel
theorem dX8_root_11 : decode cX8_root 11 = .ok (.aload_n 0, 1) := by decide +kernel
theorem dX8_root_12 : decode cX8_root 12 = .ok (.getfield 12, 3) := by decide +kernel
theorem dX8_root_15 : decode cX8_root 15 = .ok (.getfield 106, 3) := by decide +kernel
theorem dX8_root_18 : decode cX8_root 18 = .ok (.iconst (-1), 1) := by decide +kernel
theorem dX8_root_19 : decode cX8_root 19 = .ok (.if_icmp .eq 6, 3) := by decide +kernel
theorem dX8_root_22 : decode cX8_root 22 = .ok (.bipush (-3), 2) := by decide +kernel
theorem dX8_root_24 : decode cX8_root 24 = .ok (.ireturn, 1) := by decide +kernel
theorem dX8_root_25 : decode cX8_root 25 = .ok (.aload_n 0, 1) := by decide +kernel
theorem dX8_root_26 : decode cX8_root 26 = .ok (.getfield 12, 3) := by decide +kernel
theorem dX8_root_29 : decode cX8_root 29 = .ok (.lload_n 1, 1) := by decide +kernel
theorem dX8_root_30 : decode cX8_root 30 = .ok (.lload_n 3, 1) := by decide +kernel
theorem dX8_root_31 : decode cX8_root 31 = .ok (.invokevirtual 109, 3) := by decide +kernel
theorem dX8_root_34 : decode cX8_root 34 = .ok (.iconst 1, 1) := by decide +kernel
theorem dX8_root_35 : decode cX8_root 35 = .ok (.ireturn, 1) := by decide +kernel
theorem dX8_end_0 : decode cX8_end 0 = .ok (.aload_n 0, 1) := by decide +kernel
theorem dX8_end_1 : decode cX8_end 1 = .ok (.getfield 12, 3) := by decide +kernel
theorem dX8_end_4 : decode cX8_end 4 = .ok (.iload_n 1, 1) := by decide +kernel
theorem dX8_end_5 : decode cX8_end 5 = .ok (.invokevirtual 48, 3) := by decide +kernel
theorem dX8_end_8 : decode cX8_end 8 = .ok (.astore_n 3, 1) := by decide +kernel
theorem dX8_end_9 : decode cX8_end 9 = .ok (.aload_n 3, 1) := by decide +kernel
theorem dX8_end_10 : decode cX8_end 10 = .ok (.ifnonnull 8, 3) := by decide +kernel
theorem dX8_end_13 : decode cX8_end 13 = .ok (.iload_n 1, 1) := by decide +kernel
theorem dX8_end_14 : decode cX8_end 14 = .ok (.iconst (-1), 1) := by decide +kernel
theorem dX8_end_15 : decode cX8_end 15 = .ok (.if_icmp .ne 13, 3) := by decide +kernel
theorem dX8_end_18 : decode cX8_end 18 = .ok (.iload_n 2, 1) := by decide +kernel
theorem dX8_end_19 : decode cX8_end 19 = .ok (.i2l, 1) := by decide +kernel
theorem dX8_end_20 : decode cX8_end 20 = .ok (.lconst 0, 1) := by decide +kernel
theorem dX8_end_21 : decode cX8_end 21 = .ok (.lconst 1, 1) := by decide +kernel
theorem dX8_end_22 : decode cX8_end 22 = .ok (.invokestatic 54, 3) := by decide +kernel
theorem dX8_end_25 : decode cX8_end 25 = .ok (.ifCond .ne 9, 3) := by decide +kernel
theorem dX8_end_28 : decode cX8_end 28 = .ok (.bipush (-2), 2) := by decide +kernel
theorem dX8_end_30 : decode cX8_end 30 = .ok (.invokestatic 113, 3) := by decide +kernel
theorem dX8_end_33 : decode cX8_end 33 = .ok (.lreturn, 1) := by decide +kernel
theorem dX8_end_34 : decode cX8_end 34 = .ok (.aload_n 3, 1) := by decide +kernel
theorem dX8_end_35 : decode cX8_end 35 = .ok (.ifnonnull 25, 3) := by decide +kernel
theorem dX8_end_38 : decode cX8_end 38 = .ok (.iload_n 2, 1) := by decide +kernel
theorem dX8_end_39 : decode cX8_end 39 = .ok (.ifCond .ne 13, 3) := by decide +kernel
theorem dX8_end_42 : decode cX8_end 42 = .ok (.aload_n 0, 1) := by decide +kernel
theorem dX8_end_43 : decode cX8_end 43 = .ok (.getfield 12, 3) := by decide +kernel
theorem dX8_end_46 : decode cX8_end 46 = .ok (.getfield 117, 3) := by decide +kernel
theorem dX8_end_49 : decode cX8_end 49 = .ok (.goto 10, 3) := by decide +kernel
theorem dX8_end_52 : decode cX8_end 52 = .ok (.aload_n 0, 1) := by decide +kernel
theorem dX8_end_53 : decode cX8_end 53 = .ok (.getfield 12, 3) := by decide +kernel
theorem dX8_end_56 : decode cX8_end 56 = .ok (.getfield 121, 3) := by decide +kernel
theorem dX8_end_59 : decode cX8_end 59 = .ok (.lreturn, 1) := by decide +kernel
theorem dX8_end_60 : decode cX8_end 60 = .ok (.iload_n 2, 1) := by decide +kernel
theorem dX8_end_61 : decode cX8_end 61 = .ok (.ifCond .ne 10, 3) := by decide +kernel
theorem dX8_end_64 : decode cX8_end 64 = .ok (.aload_n 3, 1) := by decide +kernel
theorem dX8_end_65 : decode cX8_end 65 = .ok (.getfield 124, 3) := by decide +kernel
theorem dX8_end_68 : decode cX8_end 68 = .ok (.goto 7, 3) := by decide +kernel
theorem dX8_end_71 : decode cX8_end 71 = .ok (.aload_n 3, 1) := by decide +kernel
theorem dX8_end_72 : decode cX8_end 72 = .ok (.getfield 127, 3) := by decide +kernel
theorem dX8_end_75 : decode cX8_end 75 = .ok (.lreturn, 1) := by decide +kernel
theorem dX8_far_0 : decode cX8_far 0 = .ok (.aload_n 0, 1) := by decide +kernel
theorem dX8_far_1 : decode cX8_far 1 = .ok (.getfield 12, 3) := by decide +kernel
theorem dX8_far_4 : decode cX8_far 4 = .ok (.iload_n 1, 1) := by decide +kernel
theorem dX8_far_5 : decode cX8_far 5 = .ok (.invokevirtual 48, 3) := by decide +kernel
theorem dX8_far_8 : decode cX8_far 8 = .ok (.astore 6, 2) := by decide +kernel
theorem dX8_far_10 : decode cX8_far 10 = .ok (.aload 6, 2) := by decide +kernel
theorem dX8_far_12 : decode cX8_far 12 = .ok (.ifnull 12, 3) := by decide +kernel
theorem dX8_far_15 : decode cX8_far 15 = .ok (.lload_n 2, 1) := by decide +kernel
theorem dX8_far_16 : decode cX8_far 16 = .ok (.lload 4, 2) := by decide +kernel
theorem dX8_far_18 : decode cX8_far 18 = .ok (.invokestatic 102, 3) := by decide +kernel
theorem dX8_far_21 : decode cX8_far 21 = .ok (.ifCond .ne 9, 3) := by decide +kernel
theorem dX8_far_24 : decode cX8_far 24 = .ok (.bipush (-2), 2) := by decide +kernel
theorem dX8_far_26 : decode cX8_far 26 = .ok (.invokestatic 113, 3) := by decide +kernel
theorem dX8_far_29 : decode cX8_far 29 = .ok (.lreturn, 1) := by decide +kernel
theorem dX8_far_30 : decode cX8_far 30 = .ok (.aload 6, 2) := by decide +kernel
theorem dX8_far_32 : decode cX8_far 32 = .ok (.lload_n 2, 1) := by decide +kernel
theorem dX8_far_33 : decode cX8_far 33 = .ok (.lload 4, 2) := by decide +kernel
theorem dX8_far_35 : decode cX8_far 35 = .ok (.invokevirtual 130, 3) := by decide +kernel
theorem dX8_far_38 : decode cX8_far 38 = .ok (.lreturn, 1) := by decide +kernel
theorem dX8_lock_0 : decode cX8_lock 0 = .ok (.iload_n 1, 1) := by decide +kernel
theorem dX8_lock_1 : decode cX8_lock 1 = .ok (.iconst (-1), 1) := by decide +kernel
theorem dX8_lock_2 : decode cX8_lock 2 = .ok (.if_icmp .eq 17, 3) := by decide +kernel
theorem dX8_lock_5 : decode cX8_lock 5 = .ok (.aload_n 0, 1) := by decide +kernel
theorem dX8_lock_6 : decode cX8_lock 6 = .ok (.getfield 12, 3) := by decide +kernel
theorem dX8_lock_9 : decode cX8_lock 9 = .ok (.iload_n 1, 1) := by decide +kernel
theorem dX8_lock_10 : decode cX8_lock 10 = .ok (.invokevirtual 48, 3) := by decide +kernel
theorem dX8_lock_13 : decode cX8_lock 13 = .ok (.ifnonnull 6, 3) := by decide +kernel
theorem dX8_lock_16 : decode cX8_lock 16 = .ok (.bipush (-2), 2) := by decide +kernel
theorem dX8_lock_18 : decode cX8_lock 18 = .ok (.ireturn, 1) := by decide +kernel
theorem dX8_lock_19 : decode cX8_lock 19 = .ok (.aload_n 0, 1) := by decide +kernel
theorem dX8_lock_20 : decode cX8_lock 20 = .ok (.getfield 12, 3) := by decide +kernel
theorem dX8_lock_23 : decode cX8_lock 23 = .ok (.getfield 106, 3) := by decide +kernel
theorem dX8_lock_26 : decode cX8_lock 26 = .ok (.istore_n 2, 1) := by decide +kernel
theorem dX8_lock_27 : decode cX8_lock 27 = .ok (.aload_n 0, 1) := by decide +kernel
theorem dX8_lock_28 : decode cX8_lock 28 = .ok (.getfield 12, 3) := by decide +kernel
theorem dX8_lock_31 : decode cX8_lock 31 = .ok (.iload_n 1, 1) := by decide +kernel
theorem dX8_lock_32 : decode cX8_lock 32 = .ok (.putfield 106, 3) := by decide +kernel
theorem dX8_lock_35 : decode cX8_lock 35 = .ok (.iload_n 2, 1) := by decide +kernel
theorem dX8_lock_36 : decode cX8_lock 36 = .ok (.ireturn, 1) := by decide +kernel
theorem dX8_two_0 : decode cX8_two 0 = .ok (.aload_n 0, 1) := by decide +kernel
theorem dX8_two_1 : decode cX8_two 1 = .ok (.getfield 12, 3) := by decide +kernel
theorem dX8_two_4 : decode cX8_two 4 = .ok (.iload_n 1, 1) := by decide +kernel
theorem dX8_two_5 : decode cX8_two 5 = .ok (.invokevirtual 48, 3) := by decide +kernel
theorem dX8_two_8 : decode cX8_two 8 = .ok (.astore 6, 2) := by decide +kernel
theorem dX8_two_10 : decode cX8_two 10 = .ok (.aload 6, 2) := by decide +kernel
theorem dX8_two_12 : decode cX8_two 12 = .ok (.ifnull 12, 3) := by decide +kernel
theorem dX8_two_15 : decode cX8_two 15 = .ok (.lload_n 2, 1) := by decide +kernel
theorem dX8_two_16 : decode cX8_two 16 = .ok (.lload 4, 2) := by decide +kernel
theorem dX8_two_18 : decode cX8_two 18 = .ok (.invokestatic 102, 3) := by decide +kernel
theorem dX8_two_21 : decode cX8_two 21 = .ok (.ifCond .ne 9, 3) := by decide +kernel
theorem dX8_two_24 : decode cX8_two 24 = .ok (.bipush (-2), 2) := by decide +kernel
theorem dX8_two_26 : decode cX8_two 26 = .ok (.invokestatic 113, 3) := by decide +kernel
theorem dX8_two_29 : decode cX8_two 29 = .ok (.lreturn, 1) := by decide +kernel
theorem dX8_two_30 : decode cX8_two 30 = .ok (.aload_n 0, 1) := by decide +kernel
theorem dX8_two_31 : decode cX8_two 31 = .ok (.getfield 12, 3) := by decide +kernel
theorem dX8_two_34 : decode cX8_two 34 = .ok (.getfield 106, 3) := by decide +kernel
theorem dX8_two_37 : decode cX8_two 37 = .ok (.iconst (-1), 1) := by decide +kernel
theorem dX8_two_38 : decode cX8_two 38 = .ok (.if_icmp .eq 9, 3) := by decide +kernel
theorem dX8_two_41 : decode cX8_two 41 = .ok (.bipush (-3), 2) := by decide +kernel
theorem dX8_two_43 : decode cX8_two 43 = .ok (.invokestatic 113, 3) := by decide +kernel
theorem dX8_two_46 : decode cX8_two 46 = .ok (.lreturn, 1) := by decide +kernel
theorem dX8_two_47 : decode cX8_two 47 = .ok (.aload_n 0, 1) := by decide +kernel
theorem dX8_two_48 : decode cX8_two 48 = .ok (.getfield 12, 3) := by decide +kernel
theorem dX8_two_51 : decode cX8_two 51 = .ok (.aload 6, 2) := by decide +kernel
theorem dX8_two_53 : decode cX8_two 53 = .ok (.lload_n 2, 1) := by decide +kernel
theorem dX8_two_54 : decode cX8_two 54 = .ok (.lload 4, 2) := by decide +kernel
theorem dX8_two_56 : decode cX8_two 56 = .ok (.invokevirtual 134, 3) := by decide +kernel
theorem dX8_two_59 : decode cX8_two 59 = .ok (.aload 6, 2) := by decide +kernel
theorem dX8_two_61 : decode cX8_two 61 = .ok (.lload_n 2, 1) := by decide +kernel
theorem dX8_two_62 : decode cX8_two 62 = .ok (.lload 4, 2) := by decide +kernel
theorem dX8_two_64 : decode cX8_two 64 = .ok (.invokevirtual 130, 3) := by decide +kernel
theorem dX8_two_67 : decode cX8_two 67 = .ok (.lreturn, 1) := by decide +kernel
theorem dX8_rounds_0 : decode cX8_rounds 0 = .ok (.aload_n 0, 1) := by decide +kernel
theorem dX8_rounds_1 : decode cX8_rounds 1 = .ok (.getfield 12, 3) := by decide +kernel
theorem dX8_rounds_4 : decode cX8_rounds 4 = .ok (.iload_n 1, 1) := by decide +kernel
theorem dX8_rounds_5 : decode cX8_rounds 5 = .ok (.invokevirtual 48, 3) := by decide +kernel
theorem dX8_rounds_8 : decode cX8_rounds 8 = .ok (.astore 7, 2) := by decide +kernel
theorem dX8_rounds_10 : decode cX8_rounds 10 = .ok (.aload 7, 2) := by decide +kernel
theorem dX8_rounds_12 : decode cX8_rounds 12 = .ok (.ifnull 25, 3) := by decide +kernel
theorem dX8_rounds_15 : decode cX8_rounds 15 = .ok (.lload_n 2, 1) := by decide +kernel
theorem dX8_rounds_16 : decode cX8_rounds 16 = .ok (.lload 4, 2) := by decide +kernel
theorem dX8_rounds_18 : decode cX8_rounds 18 = .ok (.invokestatic 102, 3) := by decide +kernel
theorem dX8_rounds_21 : decode cX8_rounds 21 = .ok (.ifCond .eq 16, 3) := by decide +kernel
theorem dX8_rounds_24 : decode cX8_rounds 24 = .ok (.iload 6, 2) := by decide +kernel
theorem dX8_rounds_26 : decode cX8_rounds 26 = .ok (.i2l, 1) := by decide +kernel
theorem dX8_rounds_27 : decode cX8_rounds 27 = .ok (.lconst 1, 1) := by decide +kernel
theorem dX8_rounds_28 : decode cX8_rounds 28 = .ok (.ldc2_w 138, 3) := by decide +kernel
theorem dX8_rounds_31 : decode cX8_rounds 31 = .ok (.invokestatic 54, 3) := by decide +kernel
theorem dX8_rounds_34 : decode cX8_rounds 34 = .ok (.ifCond .ne 9, 3) := by decide +kernel
theorem dX8_rounds_37 : decode cX8_rounds 37 = .ok (.bipush (-2), 2) := by decide +kernel
theorem dX8_rounds_39 : decode cX8_rounds 39 = .ok (.invokestatic 113, 3) := by decide +kernel
theorem dX8_rounds_42 : decode cX8_rounds 42 = .ok (.lreturn, 1) := by decide +kernel
theorem dX8_rounds_43 : decode cX8_rounds 43 = .ok (.aload_n 0, 1) := by decide +kernel
theorem dX8_rounds_44 : decode cX8_rounds 44 = .ok (.getfield 12, 3) := by decide +kernel
theorem dX8_rounds_47 : decode cX8_rounds 47 = .ok (.getfield 106, 3) := by decide +kernel
theorem dX8_rounds_50 : decode cX8_rounds 50 = .ok (.iconst (-1), 1) := by decide +kernel
theorem dX8_rounds_51 : decode cX8_rounds 51 = .ok (.if_icmp .eq 9, 3) := by decide +kernel
theorem dX8_rounds_54 : decode cX8_rounds 54 = .ok (.bipush (-3), 2) := by decide +kernel
theorem dX8_rounds_56 : decode cX8_rounds 56 = .ok (.invokestatic 113, 3) := by decide +kernel
theorem dX8_rounds_59 : decode cX8_rounds 59 = .ok (.lreturn, 1) := by decide +kernel
theorem dX8_rounds_60 : decode cX8_rounds 60 = .ok (.aload_n 0, 1) := by decide +kernel
theorem dX8_rounds_61 : decode cX8_rounds 61 = .ok (.getfield 12, 3) := by decide +kernel
theorem dX8_rounds_64 : decode cX8_rounds 64 = .ok (.aload 7, 2) := by decide +kernel
theorem dX8_rounds_66 : decode cX8_rounds 66 = .ok (.lload_n 2, 1) := by decide +kernel
theorem dX8_rounds_67 : decode cX8_rounds 67 = .ok (.lload 4, 2) := by decide +kernel
theorem dX8_rounds_69 : decode cX8_rounds 69 = .ok (.iload 6, 2) := by decide +kernel
theorem dX8_rounds_71 : decode cX8_rounds 71 = .ok (.invokevirtual 140, 3) := by decide +kernel
theorem dX8_rounds_74 : decode cX8_rounds 74 = .ok (.aload 7, 2) := by decide +kernel
theorem dX8_rounds_76 : decode cX8_rounds 76 = .ok (.lload_n 2, 1) := by decide +kernel
theorem dX8_rounds_77 : decode cX8_rounds 77 = .ok (.lload 4, 2) := by decide +kernel
theorem dX8_rounds_79 : decode cX8_rounds 79 = .ok (.invokevirtual 130, 3) := by decide +kernel
theorem dX8_rounds_82 : decode cX8_rounds 82 = .ok (.lreturn, 1) := by decide +kernel
theorem dX8_frame_0 : decode cX8_frame 0 = .ok (.aload_n 0, 1) := by decide +kernel
theorem dX8_frame_1 : decode cX8_frame 1 = .ok (.getfield 19, 3) := by decide +kernel
theorem dX8_frame_4 : decode cX8_frame 4 = .ok (.iload_n 1, 1) := by decide +kernel
theorem dX8_frame_5 : decode cX8_frame 5 = .ok (.invokevirtual 144, 3) := by decide +kernel
theorem dX8_frame_8 : decode cX8_frame 8 = .ok (.astore_n 2, 1) := by decide +kernel
theorem dX8_frame_9 : decode cX8_frame 9 = .ok (.aload_n 2, 1) := by decide +kernel
theorem dX8_frame_10 : decode cX8_frame 10 = .ok (.ifnonnull 6, 3) := by decide +kernel
theorem dX8_frame_13 : decode cX8_frame 13 = .ok (.bipush (-2), 2) := by decide +kernel
theorem dX8_frame_15 : decode cX8_frame 15 = .ok (.ireturn, 1) := by decide +kernel
theorem dX8_frame_16 : decode cX8_frame 16 = .ok (.aload_n 0, 1) := by decide +kernel
theorem dX8_frame_17 : decode cX8_frame 17 = .ok (.getfield 12, 3) := by decide +kernel
theorem dX8_frame_20 : decode cX8_frame 20 = .ok (.getfield 71, 3) := by decide +kernel
theorem dX8_frame_23 : decode cX8_frame 23 = .ok (.ifCond .ne 6, 3) := by decide +kernel
theorem dX8_frame_26 : decode cX8_frame 26 = .ok (.bipush (-3), 2) := by decide +kernel
theorem dX8_frame_28 : decode cX8_frame 28 = .ok (.ireturn, 1) := by decide +kernel
theorem dX8_frame_29 : decode cX8_frame 29 = .ok (.aload_n 2, 1) := by decide +kernel
theorem dX8_frame_30 : decode cX8_frame 30 = .ok (.getfield 147, 3) := by decide +kernel
theorem dX8_frame_33 : decode cX8_frame 33 = .ok (.bipush 30, 2) := by decide +kernel
theorem dX8_frame_35 : decode cX8_frame 35 = .ok (.if_icmp .lt 6, 3) := by decide +kernel
theorem dX8_frame_38 : decode cX8_frame 38 = .ok (.bipush (-4), 2) := by decide +kernel
theorem dX8_frame_40 : decode cX8_frame 40 = .ok (.ireturn, 1) := by decide +kernel
theorem dX8_frame_41 : decode cX8_frame 41 = .ok (.aload_n 0, 1) := by decide +kernel
theorem dX8_frame_42 : decode cX8_frame 42 = .ok (.getfield 12, 3) := by decide +kernel
theorem dX8_frame_45 : decode cX8_frame 45 = .ok (.aload_n 2, 1) := by decide +kernel
theorem dX8_frame_46 : decode cX8_frame 46 = .ok (.getfield 150, 3) := by decide +kernel
theorem dX8_frame_49 : decode cX8_frame 49 = .ok (.aload_n 2, 1) := by decide +kernel
theorem dX8_frame_50 : decode cX8_frame 50 = .ok (.getfield 147, 3) := by decide +kernel
theorem dX8_frame_53 : decode cX8_frame 53 = .ok (.aaload, 1) := by decide +kernel
theorem dX8_frame_54 : decode cX8_frame 54 = .ok (.invokevirtual 154, 3) := by decide +kernel
theorem dX8_frame_57 : decode cX8_frame 57 = .ok (.aload_n 2, 1) := by decide +kernel
theorem dX8_frame_58 : decode cX8_frame 58 = .ok (.dup, 1) := by decide +kernel
theorem dX8_frame_59 : decode cX8_frame 59 = .ok (.getfield 147, 3) := by decide +kernel
theorem dX8_frame_62 : decode cX8_frame 62 = .ok (.iconst 1, 1) := by decide +kernel
theorem dX8_frame_63 : decode cX8_frame 63 = .ok (.iadd, 1) := by decide +kernel
theorem dX8_frame_64 : decode cX8_frame 64 = .ok (.putfield 147, 3) := by decide +kernel
theorem dX8_frame_67 : decode cX8_frame 67 = .ok (.aload_n 0, 1) := by decide +kernel
theorem dX8_frame_68 : decode cX8_frame 68 = .ok (.getfield 19, 3) := by decide +kernel
theorem dX8_frame_71 : decode cX8_frame 71 = .ok (.aload_n 0, 1) := by decide +kernel
theorem dX8_frame_72 : decode cX8_frame 72 = .ok (.getfield 12, 3) := by decide +kernel
theorem dX8_frame_75 : decode cX8_frame 75 = .ok (.getfield 71, 3) := by decide +kernel
theorem dX8_frame_78 : decode cX8_frame 78 = .ok (.putfield 158, 3) := by decide +kernel
theorem dX8_frame_81 : decode cX8_frame 81 = .ok (.aload_n 2, 1) := by decide +kernel
theorem dX8_frame_82 : decode cX8_frame 82 = .ok (.getfield 147, 3) := by decide +kernel
theorem dX8_frame_85 : decode cX8_frame 85 = .ok (.ireturn, 1) := by decide +kernel
theorem dX8_clear_0 : decode cX8_clear 0 = .ok (.aload_n 0, 1) := by decide +kernel
theorem dX8_clear_1 : decode cX8_clear 1 = .ok (.getfield 19, 3) := by decide +kernel
theorem dX8_clear_4 : decode cX8_clear 4 = .ok (.iload_n 1, 1) := by decide +kernel
theorem dX8_clear_5 : decode cX8_clear 5 = .ok (.invokevirtual 144, 3) := by decide +kernel
theorem dX8_clear_8 : decode cX8_clear 8 = .ok (.astore_n 2, 1) := by decide +kernel
theorem dX8_clear_9 : decode cX8_clear 9 = .ok (.aload_n 2, 1) := by decide +kernel
theorem dX8_clear_10 : decode cX8_clear 10 = .ok (.ifnonnull 6, 3) := by decide +kernel
theorem dX8_clear_13 : decode cX8_clear 13 = .ok (.bipush (-2), 2) := by decide +kernel
theorem dX8_clear_15 : decode cX8_clear 15 = .ok (.ireturn, 1) := by decide +kernel
theorem dX8_clear_16 : decode cX8_clear 16 = .ok (.aload_n 2, 1) := by decide +kernel
theorem dX8_clear_17 : decode cX8_clear 17 = .ok (.getfield 147, 3) := by decide +kernel
theorem dX8_clear_20 : decode cX8_clear 20 = .ok (.istore_n 3, 1) := by decide +kernel
theorem dX8_clear_21 : decode cX8_clear 21 = .ok (.aload_n 2, 1) := by decide +kernel
theorem dX8_clear_22 : decode cX8_clear 22 = .ok (.iconst 0, 1) := by decide +kernel
theorem dX8_clear_23 : decode cX8_clear 23 = .ok (.putfield 147, 3) := by decide +kernel
theorem dX8_clear_26 : decode cX8_clear 26 = .ok (.iload_n 3, 1) := by decide +kernel
theorem dX8_clear_27 : decode cX8_clear 27 = .ok (.ireturn, 1) := by decide +kernel
theorem dX8_show_0 : decode cX8_show 0 = .ok (.aload_n 0, 1) := by decide +kernel
theorem dX8_show_1 : decode cX8_show 1 = .ok (.getfield 19, 3) := by decide +kernel
theorem dX8_show_4 : decode cX8_show 4 = .ok (.iload_n 1, 1) := by decide +kernel
theorem dX8_show_5 : decode cX8_show 5 = .ok (.iload_n 2, 1) := by decide +kernel
theorem dX8_show_6 : decode cX8_show 6 = .ok (.invokevirtual 161, 3) := by decide +kernel
theorem dX8_show_9 : decode cX8_show 9 = .ok (.astore_n 3, 1) := by decide +kernel
theorem dX8_show_10 : decode cX8_show 10 = .ok (.aload_n 3, 1) := by decide +kernel
theorem dX8_show_11 : decode cX8_show 11 = .ok (.ifnonnull 6, 3) := by decide +kernel
theorem dX8_show_14 : decode cX8_show 14 = .ok (.bipush (-2), 2) := by decide +kernel
theorem dX8_show_16 : decode cX8_show 16 = .ok (.ireturn, 1) := by decide +kernel
theorem dX8_show_17 : decode cX8_show 17 = .ok (.aload_n 0, 1) := by decide +kernel
theorem dX8_show_18 : decode cX8_show 18 = .ok (.getfield 12, 3) := by decide +kernel
theorem dX8_show_21 : decode cX8_show 21 = .ok (.aload_n 3, 1) := by decide +kernel
theorem dX8_show_22 : decode cX8_show 22 = .ok (.invokevirtual 165, 3) := by decide +kernel
theorem dX8_show_25 : decode cX8_show 25 = .ok (.iconst 1, 1) := by decide +kernel
theorem dX8_show_26 : decode cX8_show 26 = .ok (.ireturn, 1) := by decide +kernel
theorem dX8_at_0 : decode cX8_at 0 = .ok (.aload_n 0, 1) := by decide +kernel
theorem dX8_at_1 : decode cX8_at 1 = .ok (.getfield 19, 3) := by decide +kernel
theorem dX8_at_4 : decode cX8_at 4 = .ok (.iload_n 1, 1) := by decide +kernel
theorem dX8_at_5 : decode cX8_at 5 = .ok (.iload_n 2, 1) := by decide +kernel
theorem dX8_at_6 : decode cX8_at 6 = .ok (.invokevirtual 161, 3) := by decide +kernel
theorem dX8_at_9 : decode cX8_at 9 = .ok (.astore 4, 2) := by decide +kernel
theorem dX8_at_11 : decode cX8_at 11 = .ok (.aload 4, 2) := by decide +kernel
theorem dX8_at_13 : decode cX8_at 13 = .ok (.ifnull 22, 3) := by decide +kernel
theorem dX8_at_16 : decode cX8_at 16 = .ok (.iload_n 3, 1) := by decide +kernel
theorem dX8_at_17 : decode cX8_at 17 = .ok (.i2l, 1) := by decide +kernel
theorem dX8_at_18 : decode cX8_at 18 = .ok (.lconst 0, 1) := by decide +kernel
theorem dX8_at_19 : decode cX8_at 19 = .ok (.aload_n 0, 1) := by decide +kernel
theorem dX8_at_20 : decode cX8_at 20 = .ok (.getfield 12, 3) := by decide +kernel
theorem dX8_at_23 : decode cX8_at 23 = .ok (.getfield 71, 3) := by decide +kernel
theorem dX8_at_26 : decode cX8_at 26 = .ok (.iconst 1, 1) := by decide +kernel
theorem dX8_at_27 : decode cX8_at 27 = .ok (.isub, 1) := by decide +kernel
theorem dX8_at_28 : decode cX8_at 28 = .ok (.i2l, 1) := by decide +kernel
theorem dX8_at_29 : decode cX8_at 29 = .ok (.invokestatic 54, 3) := by decide +kernel
theorem dX8_at_32 : decode cX8_at 32 = .ok (.ifCond .ne 6, 3) := by decide +kernel
theorem dX8_at_35 : decode cX8_at 35 = .ok (.bipush (-2), 2) := by decide +kernel
theorem dX8_at_37 : decode cX8_at 37 = .ok (.ireturn, 1) := by decide +kernel
theorem dX8_at_38 : decode cX8_at 38 = .ok (.aload 4, 2) := by decide +kernel
theorem dX8_at_40 : decode cX8_at 40 = .ok (.iload_n 3, 1) := by decide +kernel
theorem dX8_at_41 : decode cX8_at 41 = .ok (.iaload, 1) := by decide +kernel
theorem dX8_at_42 : decode cX8_at 42 = .ok (.ireturn, 1) := by decide +kernel
theorem dX8_blend_0 : decode cX8_blend 0 = .ok (.aload_n 0, 1) := by decide +kernel
theorem dX8_blend_1 : decode cX8_blend 1 = .ok (.getfield 19, 3) := by decide +kernel
theorem dX8_blend_4 : decode cX8_blend 4 = .ok (.iload_n 1, 1) := by decide +kernel
theorem dX8_blend_5 : decode cX8_blend 5 = .ok (.iload_n 2, 1) := by decide +kernel
theorem dX8_blend_6 : decode cX8_blend 6 = .ok (.invokevirtual 161, 3) := by decide +kernel
theorem dX8_blend_9 : decode cX8_blend 9 = .ok (.astore 5, 2) := by decide +kernel
theorem dX8_blend_11 : decode cX8_blend 11 = .ok (.aload 5, 2) := by decide +kernel
theorem dX8_blend_13 : decode cX8_blend 13 = .ok (.ifnull 28, 3) := by decide +kernel
theorem dX8_blend_16 : decode cX8_blend 16 = .ok (.iload_n 3, 1) := by decide +kernel
theorem dX8_blend_17 : decode cX8_blend 17 = .ok (.i2l, 1) := by decide +kernel
theorem dX8_blend_18 : decode cX8_blend 18 = .ok (.lconst 0, 1) := by decide +kernel
theorem dX8_blend_19 : decode cX8_blend 19 = .ok (.ldc2_w 52, 3) := by decide +kernel
theorem dX8_blend_22 : decode cX8_blend 22 = .ok (.invokestatic 54, 3) := by decide +kernel
theorem dX8_blend_25 : decode cX8_blend 25 = .ok (.ifCond .eq 16, 3) := by decide +kernel
theorem dX8_blend_28 : decode cX8_blend 28 = .ok (.iload 4, 2) := by decide +kernel
theorem dX8_blend_30 : decode cX8_blend 30 = .ok (.i2l, 1) := by decide +kernel
theorem dX8_blend_31 : decode cX8_blend 31 = .ok (.lconst 0, 1) := by decide +kernel
theorem dX8_blend_32 : decode cX8_blend 32 = .ok (.ldc2_w 168, 3) := by decide +kernel
theorem dX8_blend_35 : decode cX8_blend 35 = .ok (.invokestatic 54, 3) := by decide +kernel
theorem dX8_blend_38 : decode cX8_blend 38 = .ok (.ifCond .ne 6, 3) := by decide +kernel
theorem dX8_blend_41 : decode cX8_blend 41 = .ok (.bipush (-2), 2) := by decide +kernel
theorem dX8_blend_43 : decode cX8_blend 43 = .ok (.ireturn, 1) := by decide +kernel
theorem dX8_blend_44 : decode cX8_blend 44 = .ok (.aload_n 0, 1) := by decide +kernel
theorem dX8_blend_45 : decode cX8_blend 45 = .ok (.getfield 12, 3) := by decide +kernel
theorem dX8_blend_48 : decode cX8_blend 48 = .ok (.aload 5, 2) := by decide +kernel
theorem dX8_blend_50 : decode cX8_blend 50 = .ok (.iload_n 3, 1) := by decide +kernel
theorem dX8_blend_51 : decode cX8_blend 51 = .ok (.iload 4, 2) := by decide +kernel
theorem dX8_blend_53 : decode cX8_blend 53 = .ok (.invokevirtual 170, 3) := by decide +kernel
theorem dX8_blend_56 : decode cX8_blend 56 = .ok (.iconst 1, 1) := by decide +kernel
theorem dX8_blend_57 : decode cX8_blend 57 = .ok (.ireturn, 1) := by decide +kernel
theorem dX8_add_0 : decode cX8_add 0 = .ok (.aload_n 0, 1) := by decide +kernel
theorem dX8_add_1 : decode cX8_add 1 = .ok (.getfield 19, 3) := by decide +kernel
theorem dX8_add_4 : decode cX8_add 4 = .ok (.iload_n 1, 1) := by decide +kernel
theorem dX8_add_5 : decode cX8_add 5 = .ok (.iload_n 2, 1) := by decide +kernel
theorem dX8_add_6 : decode cX8_add 6 = .ok (.invokevirtual 161, 3) := by decide +kernel
theorem dX8_add_9 : decode cX8_add 9 = .ok (.astore 4, 2) := by decide +kernel
theorem dX8_add_11 : decode cX8_add 11 = .ok (.aload_n 0, 1) := by decide +kernel
theorem dX8_add_12 : decode cX8_add 12 = .ok (.getfield 19, 3) := by decide +kernel
theorem dX8_add_15 : decode cX8_add 15 = .ok (.iload_n 1, 1) := by decide +kernel
theorem dX8_add_16 : decode cX8_add 16 = .ok (.iload_n 3, 1) := by decide +kernel
theorem dX8_add_17 : decode cX8_add 17 = .ok (.invokevirtual 161, 3) := by decide +kernel
theorem dX8_add_20 : decode cX8_add 20 = .ok (.astore 5, 2) := by decide +kernel
theorem dX8_add_22 : decode cX8_add 22 = .ok (.aload 4, 2) := by decide +kernel
theorem dX8_add_24 : decode cX8_add 24 = .ok (.ifnull 8, 3) := by decide +kernel
theorem dX8_add_27 : decode cX8_add 27 = .ok (.aload 5, 2) := by decide +kernel
theorem dX8_add_29 : decode cX8_add 29 = .ok (.ifnonnull 6, 3) := by decide +kernel
theorem dX8_add_32 : decode cX8_add 32 = .ok (.bipush (-2), 2) := by decide +kernel
theorem dX8_add_34 : decode cX8_add 34 = .ok (.ireturn, 1) := by decide +kernel
theorem dX8_add_35 : decode cX8_add 35 = .ok (.aload_n 0, 1) := by decide +kernel
theorem dX8_add_36 : decode cX8_add 36 = .ok (.getfield 12, 3) := by decide +kernel
theorem dX8_add_39 : decode cX8_add 39 = .ok (.aload 4, 2) := by decide +kernel
theorem dX8_add_41 : decode cX8_add 41 = .ok (.aload 5, 2) := by decide +kernel
theorem dX8_add_43 : decode cX8_add 43 = .ok (.invokevirtual 174, 3) := by decide +kernel
theorem dX8_add_46 : decode cX8_add 46 = .ok (.ireturn, 1) := by decide +kernel
theorem dX8_like_0 : decode cX8_like 0 = .ok (.aload_n 0, 1) := by decide +kernel
theorem dX8_like_1 : decode cX8_like 1 = .ok (.getfield 19, 3) := by decide +kernel
theorem dX8_like_4 : decode cX8_like 4 = .ok (.iload_n 1, 1) := by decide +kernel
theorem dX8_like_5 : decode cX8_like 5 = .ok (.iload_n 2, 1) := by decide +kernel
theorem dX8_like_6 : decode cX8_like 6 = .ok (.invokevirtual 161, 3) := by decide +kernel
theorem dX8_like_9 : decode cX8_like 9 = .ok (.astore 5, 2) := by decide +kernel
theorem dX8_like_11 : decode cX8_like 11 = .ok (.aload_n 0, 1) := by decide +kernel
theorem dX8_like_12 : decode cX8_like 12 = .ok (.getfield 19, 3) := by decide +kernel
theorem dX8_like_15 : decode cX8_like 15 = .ok (.iload_n 3, 1) := by decide +kernel
theorem dX8_like_16 : decode cX8_like 16 = .ok (.iload 4, 2) := by decide +kernel
theorem dX8_like_18 : decode cX8_like 18 = .ok (.invokevirtual 161, 3) := by decide +kernel
theorem dX8_like_21 : decode cX8_like 21 = .ok (.astore 6, 2) := by decide +kernel
theorem dX8_like_23 : decode cX8_like 23 = .ok (.aload 5, 2) := by decide +kernel
theorem dX8_like_25 : decode cX8_like 25 = .ok (.ifnull 8, 3) := by decide +kernel
theorem dX8_like_28 : decode cX8_like 28 = .ok (.aload 6, 2) := by decide +kernel
theorem dX8_like_30 : decode cX8_like 30 = .ok (.ifnonnull 6, 3) := by decide +kernel
theorem dX8_like_33 : decode cX8_like 33 = .ok (.bipush (-2), 2) := by decide +kernel
theorem dX8_like_35 : decode cX8_like 35 = .ok (.ireturn, 1) := by decide +kernel
theorem dX8_like_36 : decode cX8_like 36 = .ok (.aload_n 0, 1) := by decide +kernel
theorem dX8_like_37 : decode cX8_like 37 = .ok (.getfield 19, 3) := by decide +kernel
theorem dX8_like_40 : decode cX8_like 40 = .ok (.aload 5, 2) := by decide +kernel
theorem dX8_like_42 : decode cX8_like 42 = .ok (.aload 6, 2) := by decide +kernel
theorem dX8_like_44 : decode cX8_like 44 = .ok (.ldc 178, 2) := by decide +kernel
theorem dX8_like_46 : decode cX8_like 46 = .ok (.invokevirtual 179, 3) := by decide +kernel
theorem dX8_like_49 : decode cX8_like 49 = .ok (.ireturn, 1) := by decide +kernel
theorem dX8_pack_0 : decode cX8_pack 0 = .ok (.aload_n 0, 1) := by decide +kernel
theorem dX8_pack_1 : decode cX8_pack 1 = .ok (.getfield 19, 3) := by decide +kernel
theorem dX8_pack_4 : decode cX8_pack 4 = .ok (.iload_n 1, 1) := by decide +kernel
theorem dX8_pack_5 : decode cX8_pack 5 = .ok (.invokevirtual 144, 3) := by decide +kernel
theorem dX8_pack_8 : decode cX8_pack 8 = .ok (.astore_n 3, 1) := by decide +kernel
theorem dX8_pack_9 : decode cX8_pack 9 = .ok (.aload_n 3, 1) := by decide +kernel
theorem dX8_pack_10 : decode cX8_pack 10 = .ok (.ifnull 15, 3) := by decide +kernel
theorem dX8_pack_13 : decode cX8_pack 13 = .ok (.iload_n 2, 1) := by decide +kernel
theorem dX8_pack_14 : decode cX8_pack 14 = .ok (.i2l, 1) := by decide +kernel
theorem dX8_pack_15 : decode cX8_pack 15 = .ok (.lconst 0, 1) := by decide +kernel
theorem dX8_pack_16 : decode cX8_pack 16 = .ok (.ldc2_w 183, 3) := by decide +kernel
theorem dX8_pack_19 : decode cX8_pack 19 = .ok (.invokestatic 54, 3) := by decide +kernel
theorem dX8_pack_22 : decode cX8_pack 22 = .ok (.ifCond .ne 6, 3) := by decide +kernel
theorem dX8_pack_25 : decode cX8_pack 25 = .ok (.bipush (-2), 2) := by decide +kernel
theorem dX8_pack_27 : decode cX8_pack 27 = .ok (.ireturn, 1) := by decide +kernel
theorem dX8_pack_28 : decode cX8_pack 28 = .ok (.aload_n 0, 1) := by decide +kernel
theorem dX8_pack_29 : decode cX8_pack 29 = .ok (.getfield 26, 3) := by decide +kernel
theorem dX8_pack_32 : decode cX8_pack 32 = .ok (.aload_n 0, 1) := by decide +kernel
theorem dX8_pack_33 : decode cX8_pack 33 = .ok (.getfield 12, 3) := by decide +kernel
theorem dX8_pack_36 : decode cX8_pack 36 = .ok (.aload_n 3, 1) := by decide +kernel
theorem dX8_pack_37 : decode cX8_pack 37 = .ok (.iload_n 2, 1) := by decide +kernel
theorem dX8_pack_38 : decode cX8_pack 38 = .ok (.invokevirtual 185, 3) := by decide +kernel
theorem dX8_pack_41 : decode cX8_pack 41 = .ok (.aload_n 0, 1) := by decide +kernel
theorem dX8_pack_42 : decode cX8_pack 42 = .ok (.getfield 26, 3) := by decide +kernel
theorem dX8_pack_45 : decode cX8_pack 45 = .ok (.getfield 189, 3) := by decide +kernel
theorem dX8_pack_48 : decode cX8_pack 48 = .ok (.ireturn, 1) := by decide +kernel
theorem dX8_key_0 : decode cX8_key 0 = .ok (.iload_n 1, 1) := by decide +kernel
theorem dX8_key_1 : decode cX8_key 1 = .ok (.i2l, 1) := by decide +kernel
theorem dX8_key_2 : decode cX8_key 2 = .ok (.lconst 0, 1) := by decide +kernel
theorem dX8_key_3 : decode cX8_key 3 = .ok (.aload_n 0, 1) := by decide +kernel
theorem dX8_key_4 : decode cX8_key 4 = .ok (.getfield 26, 3) := by decide +kernel
theorem dX8_key_7 : decode cX8_key 7 = .ok (.getfield 189, 3) := by decide +kernel
theorem dX8_key_10 : decode cX8_key 10 = .ok (.iconst 1, 1) := by decide +kernel
theorem dX8_key_11 : decode cX8_key 11 = .ok (.isub, 1) := by decide +kernel
theorem dX8_key_12 : decode cX8_key 12 = .ok (.i2l, 1) := by decide +kernel
theorem dX8_key_13 : decode cX8_key 13 = .ok (.invokestatic 54, 3) := by decide +kernel
theorem dX8_key_16 : decode cX8_key 16 = .ok (.ifCond .eq 15, 3) := by decide +kernel
theorem dX8_key_19 : decode cX8_key 19 = .ok (.aload_n 0, 1) := by decide +kernel
theorem dX8_key_20 : decode cX8_key 20 = .ok (.getfield 26, 3) := by decide +kernel
theorem dX8_key_23 : decode cX8_key 23 = .ok (.getfield 190, 3) := by decide +kernel
theorem dX8_key_26 : decode cX8_key 26 = .ok (.iload_n 1, 1) := by decide +kernel
theorem dX8_key_27 : decode cX8_key 27 = .ok (.iaload, 1) := by decide +kernel
theorem dX8_key_28 : decode cX8_key 28 = .ok (.goto 5, 3) := by decide +kernel
theorem dX8_key_31 : decode cX8_key 31 = .ok (.bipush (-2), 2) := by decide +kernel
theorem dX8_key_33 : decode cX8_key 33 = .ok (.ireturn, 1) := by decide +kernel
theorem dX8_thin_0 : decode cX8_thin 0 = .ok (.aload_n 0, 1) := by decide +kernel
theorem dX8_thin_1 : decode cX8_thin 1 = .ok (.getfield 19, 3) := by decide +kernel
theorem dX8_thin_4 : decode cX8_thin 4 = .ok (.iload_n 1, 1) := by decide +kernel
theorem dX8_thin_5 : decode cX8_thin 5 = .ok (.invokevirtual 144, 3) := by decide +kernel
theorem dX8_thin_8 : decode cX8_thin 8 = .ok (.astore_n 3, 1) := by decide +kernel
theorem dX8_thin_9 : decode cX8_thin 9 = .ok (.aload_n 3, 1) := by decide +kernel
theorem dX8_thin_10 : decode cX8_thin 10 = .ok (.ifnull 15, 3) := by decide +kernel
theorem dX8_thin_13 : decode cX8_thin 13 = .ok (.iload_n 2, 1) := by decide +kernel
theorem dX8_thin_14 : decode cX8_thin 14 = .ok (.i2l, 1) := by decide +kernel
theorem dX8_thin_15 : decode cX8_thin 15 = .ok (.lconst 0, 1) := by decide +kernel
theorem dX8_thin_16 : decode cX8_thin 16 = .ok (.ldc2_w 183, 3) := by decide +kernel
theorem dX8_thin_19 : decode cX8_thin 19 = .ok (.invokestatic 54, 3) := by decide +kernel
theorem dX8_thin_22 : decode cX8_thin 22 = .ok (.ifCond .ne 6, 3) := by decide +kernel
theorem dX8_thin_25 : decode cX8_thin 25 = .ok (.bipush (-2), 2) := by decide +kernel
theorem dX8_thin_27 : decode cX8_thin 27 = .ok (.ireturn, 1) := by decide +kernel
end
section
theorem dX8_thin_28 : decode cX8_thin 28 = .ok (.aload_n 3, 1) := by decide +kernel
theorem dX8_thin_29 : decode cX8_thin 29 = .ok (.getfield 147, 3) := by decide +kernel
theorem dX8_thin_32 : decode cX8_thin 32 = .ok (.istore 4, 2) := by decide +kernel
theorem dX8_thin_34 : decode cX8_thin 34 = .ok (.aload_n 0, 1) := by decide +kernel
theorem dX8_thin_35 : decode cX8_thin 35 = .ok (.getfield 26, 3) := by decide +kernel
theorem dX8_thin_38 : decode cX8_thin 38 = .ok (.aload_n 0, 1) := by decide +kernel
theorem dX8_thin_39 : decode cX8_thin 39 = .ok (.getfield 12, 3) := by decide +kernel
theorem dX8_thin_42 : decode cX8_thin 42 = .ok (.aload_n 3, 1) := by decide +kernel
theorem dX8_thin_43 : decode cX8_thin 43 = .ok (.iload_n 2, 1) := by decide +kernel
theorem dX8_thin_44 : decode cX8_thin 44 = .ok (.invokevirtual 185, 3) := by decide +kernel
theorem dX8_thin_47 : decode cX8_thin 47 = .ok (.aload_n 0, 1) := by decide +kernel
theorem dX8_thin_48 : decode cX8_thin 48 = .ok (.getfield 26, 3) := by decide +kernel
theorem dX8_thin_51 : decode cX8_thin 51 = .ok (.aload_n 3, 1) := by decide +kernel
theorem dX8_thin_52 : decode cX8_thin 52 = .ok (.invokevirtual 194, 3) := by decide +kernel
theorem dX8_thin_55 : decode cX8_thin 55 = .ok (.iload 4, 2) := by decide +kernel
theorem dX8_thin_57 : decode cX8_thin 57 = .ok (.aload_n 3, 1) := by decide +kernel
theorem dX8_thin_58 : decode cX8_thin 58 = .ok (.getfield 147, 3) := by decide +kernel
theorem dX8_thin_61 : decode cX8_thin 61 = .ok (.isub, 1) := by decide +kernel
theorem dX8_thin_62 : decode cX8_thin 62 = .ok (.ireturn, 1) := by decide +kernel
theorem dX8_join_0 : decode cX8_join 0 = .ok (.iload_n 1, 1) := by decide +kernel
theorem dX8_join_1 : decode cX8_join 1 = .ok (.i2l, 1) := by decide +kernel
theorem dX8_join_2 : decode cX8_join 2 = .ok (.lconst 0, 1) := by decide +kernel
theorem dX8_join_3 : decode cX8_join 3 = .ok (.ldc2_w 52, 3) := by decide +kernel
theorem dX8_join_6 : decode cX8_join 6 = .ok (.invokestatic 54, 3) := by decide +kernel
theorem dX8_join_9 : decode cX8_join 9 = .ok (.ifCond .ne 6, 3) := by decide +kernel
theorem dX8_join_12 : decode cX8_join 12 = .ok (.bipush (-2), 2) := by decide +kernel
theorem dX8_join_14 : decode cX8_join 14 = .ok (.ireturn, 1) := by decide +kernel
theorem dX8_join_15 : decode cX8_join 15 = .ok (.aload_n 0, 1) := by decide +kernel
theorem dX8_join_16 : decode cX8_join 16 = .ok (.getfield 33, 3) := by decide +kernel
theorem dX8_join_19 : decode cX8_join 19 = .ok (.getfield 198, 3) := by decide +kernel
theorem dX8_join_22 : decode cX8_join 22 = .ok (.istore_n 2, 1) := by decide +kernel
theorem dX8_join_23 : decode cX8_join 23 = .ok (.aload_n 0, 1) := by decide +kernel
theorem dX8_join_24 : decode cX8_join 24 = .ok (.getfield 33, 3) := by decide +kernel
theorem dX8_join_27 : decode cX8_join 27 = .ok (.iload_n 1, 1) := by decide +kernel
theorem dX8_join_28 : decode cX8_join 28 = .ok (.putfield 198, 3) := by decide +kernel
theorem dX8_join_31 : decode cX8_join 31 = .ok (.iload_n 2, 1) := by decide +kernel
theorem dX8_join_32 : decode cX8_join 32 = .ok (.ireturn, 1) := by decide +kernel
theorem dX8_live_0 : decode cX8_live 0 = .ok (.iconst 0, 1) := by decide +kernel
theorem dX8_live_1 : decode cX8_live 1 = .ok (.istore_n 1, 1) := by decide +kernel
theorem dX8_live_2 : decode cX8_live 2 = .ok (.iconst 0, 1) := by decide +kernel
theorem dX8_live_3 : decode cX8_live 3 = .ok (.istore_n 2, 1) := by decide +kernel
theorem dX8_live_4 : decode cX8_live 4 = .ok (.iload_n 2, 1) := by decide +kernel
theorem dX8_live_5 : decode cX8_live 5 = .ok (.bipush 6, 2) := by decide +kernel
theorem dX8_live_7 : decode cX8_live 7 = .ok (.if_icmp .ge 26, 3) := by decide +kernel
theorem dX8_live_10 : decode cX8_live 10 = .ok (.iload_n 1, 1) := by decide +kernel
theorem dX8_live_11 : decode cX8_live 11 = .ok (.aload_n 0, 1) := by decide +kernel
theorem dX8_live_12 : decode cX8_live 12 = .ok (.getfield 33, 3) := by decide +kernel
theorem dX8_live_15 : decode cX8_live 15 = .ok (.aload_n 0, 1) := by decide +kernel
theorem dX8_live_16 : decode cX8_live 16 = .ok (.getfield 19, 3) := by decide +kernel
theorem dX8_live_19 : decode cX8_live 19 = .ok (.iload_n 2, 1) := by decide +kernel
theorem dX8_live_20 : decode cX8_live 20 = .ok (.invokevirtual 201, 3) := by decide +kernel
theorem dX8_live_23 : decode cX8_live 23 = .ok (.iconst 1, 1) := by decide +kernel
theorem dX8_live_24 : decode cX8_live 24 = .ok (.iadd, 1) := by decide +kernel
theorem dX8_live_25 : decode cX8_live 25 = .ok (.iadd, 1) := by decide +kernel
theorem dX8_live_26 : decode cX8_live 26 = .ok (.istore_n 1, 1) := by decide +kernel
theorem dX8_live_27 : decode cX8_live 27 = .ok (.iinc 2 1, 3) := by decide +kernel
theorem dX8_live_30 : decode cX8_live 30 = .ok (.goto (-26), 3) := by decide +kernel
theorem dX8_live_33 : decode cX8_live 33 = .ok (.iload_n 1, 1) := by decide +kernel
theorem dX8_live_34 : decode cX8_live 34 = .ok (.ireturn, 1) := by decide +kernel
theorem dX8_isLive_0 : decode cX8_isLive 0 = .ok (.aload_n 0, 1) := by decide +kernel
theorem dX8_isLive_1 : decode cX8_isLive 1 = .ok (.getfield 19, 3) := by decide +kernel
theorem dX8_isLive_4 : decode cX8_isLive 4 = .ok (.iload_n 1, 1) := by decide +kernel
theorem dX8_isLive_5 : decode cX8_isLive 5 = .ok (.iload_n 2, 1) := by decide +kernel
theorem dX8_isLive_6 : decode cX8_isLive 6 = .ok (.invokevirtual 161, 3) := by decide +kernel
theorem dX8_isLive_9 : decode cX8_isLive 9 = .ok (.ifnonnull 6, 3) := by decide +kernel
theorem dX8_isLive_12 : decode cX8_isLive 12 = .ok (.bipush (-2), 2) := by decide +kernel
theorem dX8_isLive_14 : decode cX8_isLive 14 = .ok (.ireturn, 1) := by decide +kernel
theorem dX8_isLive_15 : decode cX8_isLive 15 = .ok (.iload_n 2, 1) := by decide +kernel
theorem dX8_isLive_16 : decode cX8_isLive 16 = .ok (.aload_n 0, 1) := by decide +kernel
theorem dX8_isLive_17 : decode cX8_isLive 17 = .ok (.getfield 33, 3) := by decide +kernel
theorem dX8_isLive_20 : decode cX8_isLive 20 = .ok (.aload_n 0, 1) := by decide +kernel
theorem dX8_isLive_21 : decode cX8_isLive 21 = .ok (.getfield 19, 3) := by decide +kernel
theorem dX8_isLive_24 : decode cX8_isLive 24 = .ok (.iload_n 1, 1) := by decide +kernel
theorem dX8_isLive_25 : decode cX8_isLive 25 = .ok (.invokevirtual 201, 3) := by decide +kernel
theorem dX8_isLive_28 : decode cX8_isLive 28 = .ok (.if_icmp .gt 7, 3) := by decide +kernel
theorem dX8_isLive_31 : decode cX8_isLive 31 = .ok (.iconst 1, 1) := by decide +kernel
theorem dX8_isLive_32 : decode cX8_isLive 32 = .ok (.goto 4, 3) := by decide +kernel
theorem dX8_isLive_35 : decode cX8_isLive 35 = .ok (.iconst 0, 1) := by decide +kernel
theorem dX8_isLive_36 : decode cX8_isLive 36 = .ok (.ireturn, 1) := by decide +kernel
theorem dX8_walk_0 : decode cX8_walk 0 = .ok (.aload_n 0, 1) := by decide +kernel
theorem dX8_walk_1 : decode cX8_walk 1 = .ok (.getfield 19, 3) := by decide +kernel
theorem dX8_walk_4 : decode cX8_walk 4 = .ok (.iload_n 1, 1) := by decide +kernel
theorem dX8_walk_5 : decode cX8_walk 5 = .ok (.iload_n 2, 1) := by decide +kernel
theorem dX8_walk_6 : decode cX8_walk 6 = .ok (.invokevirtual 161, 3) := by decide +kernel
theorem dX8_walk_9 : decode cX8_walk 9 = .ok (.ifnull 16, 3) := by decide +kernel
theorem dX8_walk_12 : decode cX8_walk 12 = .ok (.aload_n 0, 1) := by decide +kernel
theorem dX8_walk_13 : decode cX8_walk 13 = .ok (.getfield 19, 3) := by decide +kernel
theorem dX8_walk_16 : decode cX8_walk 16 = .ok (.iload_n 3, 1) := by decide +kernel
theorem dX8_walk_17 : decode cX8_walk 17 = .ok (.iload 4, 2) := by decide +kernel
theorem dX8_walk_19 : decode cX8_walk 19 = .ok (.invokevirtual 161, 3) := by decide +kernel
theorem dX8_walk_22 : decode cX8_walk 22 = .ok (.ifnonnull 6, 3) := by decide +kernel
theorem dX8_walk_25 : decode cX8_walk 25 = .ok (.bipush (-2), 2) := by decide +kernel
theorem dX8_walk_27 : decode cX8_walk 27 = .ok (.ireturn, 1) := by decide +kernel
theorem dX8_walk_28 : decode cX8_walk 28 = .ok (.aload_n 0, 1) := by decide +kernel
theorem dX8_walk_29 : decode cX8_walk 29 = .ok (.getfield 33, 3) := by decide +kernel
theorem dX8_walk_32 : decode cX8_walk 32 = .ok (.aload_n 0, 1) := by decide +kernel
theorem dX8_walk_33 : decode cX8_walk 33 = .ok (.getfield 19, 3) := by decide +kernel
theorem dX8_walk_36 : decode cX8_walk 36 = .ok (.bipush 30, 2) := by decide +kernel
theorem dX8_walk_38 : decode cX8_walk 38 = .ok (.iload_n 1, 1) := by decide +kernel
theorem dX8_walk_39 : decode cX8_walk 39 = .ok (.imul, 1) := by decide +kernel
theorem dX8_walk_40 : decode cX8_walk 40 = .ok (.iload_n 2, 1) := by decide +kernel
theorem dX8_walk_41 : decode cX8_walk 41 = .ok (.iadd, 1) := by decide +kernel
theorem dX8_walk_42 : decode cX8_walk 42 = .ok (.bipush 30, 2) := by decide +kernel
theorem dX8_walk_44 : decode cX8_walk 44 = .ok (.iload_n 3, 1) := by decide +kernel
theorem dX8_walk_45 : decode cX8_walk 45 = .ok (.imul, 1) := by decide +kernel
theorem dX8_walk_46 : decode cX8_walk 46 = .ok (.iload 4, 2) := by decide +kernel
theorem dX8_walk_48 : decode cX8_walk 48 = .ok (.iadd, 1) := by decide +kernel
theorem dX8_walk_49 : decode cX8_walk 49 = .ok (.invokevirtual 205, 3) := by decide +kernel
theorem dX8_walk_52 : decode cX8_walk 52 = .ok (.aload_n 0, 1) := by decide +kernel
theorem dX8_walk_53 : decode cX8_walk 53 = .ok (.getfield 33, 3) := by decide +kernel
theorem dX8_walk_56 : decode cX8_walk 56 = .ok (.getfield 209, 3) := by decide +kernel
theorem dX8_walk_59 : decode cX8_walk 59 = .ok (.ireturn, 1) := by decide +kernel
theorem dX8_step_0 : decode cX8_step 0 = .ok (.iload_n 1, 1) := by decide +kernel
theorem dX8_step_1 : decode cX8_step 1 = .ok (.i2l, 1) := by decide +kernel
theorem dX8_step_2 : decode cX8_step 2 = .ok (.lconst 0, 1) := by decide +kernel
theorem dX8_step_3 : decode cX8_step 3 = .ok (.aload_n 0, 1) := by decide +kernel
theorem dX8_step_4 : decode cX8_step 4 = .ok (.getfield 33, 3) := by decide +kernel
theorem dX8_step_7 : decode cX8_step 7 = .ok (.getfield 212, 3) := by decide +kernel
theorem dX8_step_10 : decode cX8_step 10 = .ok (.iconst 1, 1) := by decide +kernel
theorem dX8_step_11 : decode cX8_step 11 = .ok (.isub, 1) := by decide +kernel
theorem dX8_step_12 : decode cX8_step 12 = .ok (.i2l, 1) := by decide +kernel
theorem dX8_step_13 : decode cX8_step 13 = .ok (.invokestatic 54, 3) := by decide +kernel
theorem dX8_step_16 : decode cX8_step 16 = .ok (.ifCond .eq 15, 3) := by decide +kernel
theorem dX8_step_19 : decode cX8_step 19 = .ok (.aload_n 0, 1) := by decide +kernel
theorem dX8_step_20 : decode cX8_step 20 = .ok (.getfield 33, 3) := by decide +kernel
theorem dX8_step_23 : decode cX8_step 23 = .ok (.getfield 215, 3) := by decide +kernel
theorem dX8_step_26 : decode cX8_step 26 = .ok (.iload_n 1, 1) := by decide +kernel
theorem dX8_step_27 : decode cX8_step 27 = .ok (.iaload, 1) := by decide +kernel
theorem dX8_step_28 : decode cX8_step 28 = .ok (.goto 5, 3) := by decide +kernel
theorem dX8_step_31 : decode cX8_step 31 = .ok (.bipush (-2), 2) := by decide +kernel
theorem dX8_step_33 : decode cX8_step 33 = .ok (.ireturn, 1) := by decide +kernel
theorem dX8_sheet_0 : decode cX8_sheet 0 = .ok (.aload_n 0, 1) := by decide +kernel
theorem dX8_sheet_1 : decode cX8_sheet 1 = .ok (.iload_n 1, 1) := by decide +kernel
theorem dX8_sheet_2 : decode cX8_sheet 2 = .ok (.invokevirtual 218, 3) := by decide +kernel
theorem dX8_sheet_5 : decode cX8_sheet 5 = .ok (.astore 4, 2) := by decide +kernel
theorem dX8_sheet_7 : decode cX8_sheet 7 = .ok (.aload 4, 2) := by decide +kernel
theorem dX8_sheet_9 : decode cX8_sheet 9 = .ok (.ifnull 16, 3) := by decide +kernel
theorem dX8_sheet_12 : decode cX8_sheet 12 = .ok (.iload_n 2, 1) := by decide +kernel
theorem dX8_sheet_13 : decode cX8_sheet 13 = .ok (.invokestatic 222, 3) := by decide +kernel
theorem dX8_sheet_16 : decode cX8_sheet 16 = .ok (.ifCond .eq 9, 3) := by decide +kernel
theorem dX8_sheet_19 : decode cX8_sheet 19 = .ok (.iload_n 3, 1) := by decide +kernel
theorem dX8_sheet_20 : decode cX8_sheet 20 = .ok (.bipush 60, 2) := by decide +kernel
theorem dX8_sheet_22 : decode cX8_sheet 22 = .ok (.if_icmp .le 6, 3) := by decide +kernel
theorem dX8_sheet_25 : decode cX8_sheet 25 = .ok (.bipush (-2), 2) := by decide +kernel
theorem dX8_sheet_27 : decode cX8_sheet 27 = .ok (.ireturn, 1) := by decide +kernel
theorem dX8_sheet_28 : decode cX8_sheet 28 = .ok (.iload_n 3, 1) := by decide +kernel
theorem dX8_sheet_29 : decode cX8_sheet 29 = .ok (.ifCond .ge 9, 3) := by decide +kernel
theorem dX8_sheet_32 : decode cX8_sheet 32 = .ok (.aload_n 0, 1) := by decide +kernel
theorem dX8_sheet_33 : decode cX8_sheet 33 = .ok (.iconst 5, 1) := by decide +kernel
theorem dX8_sheet_34 : decode cX8_sheet 34 = .ok (.invokevirtual 225, 3) := by decide +kernel
theorem dX8_sheet_37 : decode cX8_sheet 37 = .ok (.ireturn, 1) := by decide +kernel
theorem dX8_sheet_38 : decode cX8_sheet 38 = .ok (.aload 4, 2) := by decide +kernel
theorem dX8_sheet_40 : decode cX8_sheet 40 = .ok (.iload_n 2, 1) := by decide +kernel
theorem dX8_sheet_41 : decode cX8_sheet 41 = .ok (.iload_n 3, 1) := by decide +kernel
theorem dX8_sheet_42 : decode cX8_sheet 42 = .ok (.invokevirtual 229, 3) := by decide +kernel
theorem dX8_sheet_45 : decode cX8_sheet 45 = .ok (.iload_n 3, 1) := by decide +kernel
theorem dX8_sheet_46 : decode cX8_sheet 46 = .ok (.ireturn, 1) := by decide +kernel
theorem dX8_lose_0 : decode cX8_lose 0 = .ok (.aload_n 0, 1) := by decide +kernel
theorem dX8_lose_1 : decode cX8_lose 1 = .ok (.iload_n 1, 1) := by decide +kernel
theorem dX8_lose_2 : decode cX8_lose 2 = .ok (.invokevirtual 218, 3) := by decide +kernel
theorem dX8_lose_5 : decode cX8_lose 5 = .ok (.astore_n 2, 1) := by decide +kernel
theorem dX8_lose_6 : decode cX8_lose 6 = .ok (.aload_n 2, 1) := by decide +kernel
theorem dX8_lose_7 : decode cX8_lose 7 = .ok (.ifnonnull 6, 3) := by decide +kernel
theorem dX8_lose_10 : decode cX8_lose 10 = .ok (.bipush (-2), 2) := by decide +kernel
theorem dX8_lose_12 : decode cX8_lose 12 = .ok (.ireturn, 1) := by decide +kernel
theorem dX8_lose_13 : decode cX8_lose 13 = .ok (.aload_n 2, 1) := by decide +kernel
theorem dX8_lose_14 : decode cX8_lose 14 = .ok (.getfield 233, 3) := by decide +kernel
theorem dX8_lose_17 : decode cX8_lose 17 = .ok (.ifCond .eq 9, 3) := by decide +kernel
theorem dX8_lose_20 : decode cX8_lose 20 = .ok (.aload_n 0, 1) := by decide +kernel
theorem dX8_lose_21 : decode cX8_lose 21 = .ok (.iconst 1, 1) := by decide +kernel
theorem dX8_lose_22 : decode cX8_lose 22 = .ok (.invokevirtual 225, 3) := by decide +kernel
theorem dX8_lose_25 : decode cX8_lose 25 = .ok (.ireturn, 1) := by decide +kernel
theorem dX8_lose_26 : decode cX8_lose 26 = .ok (.aload_n 2, 1) := by decide +kernel
theorem dX8_lose_27 : decode cX8_lose 27 = .ok (.iconst 1, 1) := by decide +kernel
theorem dX8_lose_28 : decode cX8_lose 28 = .ok (.putfield 233, 3) := by decide +kernel
theorem dX8_lose_31 : decode cX8_lose 31 = .ok (.aload_n 2, 1) := by decide +kernel
theorem dX8_lose_32 : decode cX8_lose 32 = .ok (.getfield 237, 3) := by decide +kernel
theorem dX8_lose_35 : decode cX8_lose 35 = .ok (.ireturn, 1) := by decide +kernel
theorem dX8_put_0 : decode cX8_put 0 = .ok (.aload_n 0, 1) := by decide +kernel
theorem dX8_put_1 : decode cX8_put 1 = .ok (.iload_n 1, 1) := by decide +kernel
theorem dX8_put_2 : decode cX8_put 2 = .ok (.invokevirtual 218, 3) := by decide +kernel
theorem dX8_put_5 : decode cX8_put 5 = .ok (.astore 5, 2) := by decide +kernel
theorem dX8_put_7 : decode cX8_put 7 = .ok (.aload 5, 2) := by decide +kernel
theorem dX8_put_9 : decode cX8_put 9 = .ok (.ifnull 10, 3) := by decide +kernel
theorem dX8_put_12 : decode cX8_put 12 = .ok (.iload_n 2, 1) := by decide +kernel
theorem dX8_put_13 : decode cX8_put 13 = .ok (.invokestatic 222, 3) := by decide +kernel
theorem dX8_put_16 : decode cX8_put 16 = .ok (.ifCond .ne 6, 3) := by decide +kernel
theorem dX8_put_19 : decode cX8_put 19 = .ok (.bipush (-2), 2) := by decide +kernel
theorem dX8_put_21 : decode cX8_put 21 = .ok (.ireturn, 1) := by decide +kernel
theorem dX8_put_22 : decode cX8_put 22 = .ok (.aload 5, 2) := by decide +kernel
theorem dX8_put_24 : decode cX8_put 24 = .ok (.iload_n 2, 1) := by decide +kernel
theorem dX8_put_25 : decode cX8_put 25 = .ok (.iload_n 3, 1) := by decide +kernel
theorem dX8_put_26 : decode cX8_put 26 = .ok (.invokevirtual 238, 3) := by decide +kernel
theorem dX8_put_29 : decode cX8_put 29 = .ok (.istore 6, 2) := by decide +kernel
theorem dX8_put_31 : decode cX8_put 31 = .ok (.iload 6, 2) := by decide +kernel
theorem dX8_put_33 : decode cX8_put 33 = .ok (.ifCond .eq 10, 3) := by decide +kernel
theorem dX8_put_36 : decode cX8_put 36 = .ok (.aload_n 0, 1) := by decide +kernel
theorem dX8_put_37 : decode cX8_put 37 = .ok (.iload 6, 2) := by decide +kernel
theorem dX8_put_39 : decode cX8_put 39 = .ok (.invokevirtual 225, 3) := by decide +kernel
theorem dX8_put_42 : decode cX8_put 42 = .ok (.ireturn, 1) := by decide +kernel
theorem dX8_put_43 : decode cX8_put 43 = .ok (.aload 5, 2) := by decide +kernel
theorem dX8_put_45 : decode cX8_put 45 = .ok (.iload_n 3, 1) := by decide +kernel
theorem dX8_put_46 : decode cX8_put 46 = .ok (.iload 4, 2) := by decide +kernel
theorem dX8_put_48 : decode cX8_put 48 = .ok (.invokevirtual 242, 3) := by decide +kernel
theorem dX8_put_51 : decode cX8_put 51 = .ok (.iconst 1, 1) := by decide +kernel
theorem dX8_put_52 : decode cX8_put 52 = .ok (.ireturn, 1) := by decide +kernel
theorem dX8_get_0 : decode cX8_get 0 = .ok (.aload_n 0, 1) := by decide +kernel
theorem dX8_get_1 : decode cX8_get 1 = .ok (.iload_n 1, 1) := by decide +kernel
theorem dX8_get_2 : decode cX8_get 2 = .ok (.invokevirtual 218, 3) := by decide +kernel
theorem dX8_get_5 : decode cX8_get 5 = .ok (.astore 4, 2) := by decide +kernel
theorem dX8_get_7 : decode cX8_get 7 = .ok (.aload 4, 2) := by decide +kernel
theorem dX8_get_9 : decode cX8_get 9 = .ok (.ifnull 10, 3) := by decide +kernel
theorem dX8_get_12 : decode cX8_get 12 = .ok (.iload_n 2, 1) := by decide +kernel
theorem dX8_get_13 : decode cX8_get 13 = .ok (.invokestatic 222, 3) := by decide +kernel
theorem dX8_get_16 : decode cX8_get 16 = .ok (.ifCond .ne 6, 3) := by decide +kernel
theorem dX8_get_19 : decode cX8_get 19 = .ok (.ldc 245, 2) := by decide +kernel
theorem dX8_get_21 : decode cX8_get 21 = .ok (.ireturn, 1) := by decide +kernel
theorem dX8_get_22 : decode cX8_get 22 = .ok (.aload 4, 2) := by decide +kernel
theorem dX8_get_24 : decode cX8_get 24 = .ok (.iload_n 2, 1) := by decide +kernel
theorem dX8_get_25 : decode cX8_get 25 = .ok (.iload_n 3, 1) := by decide +kernel
theorem dX8_get_26 : decode cX8_get 26 = .ok (.invokevirtual 238, 3) := by decide +kernel
theorem dX8_get_29 : decode cX8_get 29 = .ok (.istore 5, 2) := by decide +kernel
theorem dX8_get_31 : decode cX8_get 31 = .ok (.iload 5, 2) := by decide +kernel
theorem dX8_get_33 : decode cX8_get 33 = .ok (.ifCond .eq 12, 3) := by decide +kernel
theorem dX8_get_36 : decode cX8_get 36 = .ok (.aload_n 0, 1) := by decide +kernel
theorem dX8_get_37 : decode cX8_get 37 = .ok (.iload 5, 2) := by decide +kernel
theorem dX8_get_39 : decode cX8_get 39 = .ok (.putfield 43, 3) := by decide +kernel
theorem dX8_get_42 : decode cX8_get 42 = .ok (.ldc 245, 2) := by decide +kernel
theorem dX8_get_44 : decode cX8_get 44 = .ok (.ireturn, 1) := by decide +kernel
theorem dX8_get_45 : decode cX8_get 45 = .ok (.aload 4, 2) := by decide +kernel
theorem dX8_get_47 : decode cX8_get 47 = .ok (.getfield 246, 3) := by decide +kernel
theorem dX8_get_50 : decode cX8_get 50 = .ok (.iload_n 3, 1) := by decide +kernel
theorem dX8_get_51 : decode cX8_get 51 = .ok (.iaload, 1) := by decide +kernel
theorem dX8_get_52 : decode cX8_get 52 = .ok (.ireturn, 1) := by decide +kernel
theorem dX8_copy_0 : decode cX8_copy 0 = .ok (.aload_n 0, 1) := by decide +kernel
theorem dX8_copy_1 : decode cX8_copy 1 = .ok (.iload_n 1, 1) := by decide +kernel
theorem dX8_copy_2 : decode cX8_copy 2 = .ok (.invokevirtual 218, 3) := by decide +kernel
theorem dX8_copy_5 : decode cX8_copy 5 = .ok (.astore 6, 2) := by decide +kernel
theorem dX8_copy_7 : decode cX8_copy 7 = .ok (.aload_n 0, 1) := by decide +kernel
theorem dX8_copy_8 : decode cX8_copy 8 = .ok (.iload_n 3, 1) := by decide +kernel
theorem dX8_copy_9 : decode cX8_copy 9 = .ok (.invokevirtual 218, 3) := by decide +kernel
theorem dX8_copy_12 : decode cX8_copy 12 = .ok (.astore 7, 2) := by decide +kernel
theorem dX8_copy_14 : decode cX8_copy 14 = .ok (.aload 6, 2) := by decide +kernel
theorem dX8_copy_16 : decode cX8_copy 16 = .ok (.ifnull 8, 3) := by decide +kernel
theorem dX8_copy_19 : decode cX8_copy 19 = .ok (.aload 7, 2) := by decide +kernel
theorem dX8_copy_21 : decode cX8_copy 21 = .ok (.ifnonnull 6, 3) := by decide +kernel
theorem dX8_copy_24 : decode cX8_copy 24 = .ok (.bipush (-2), 2) := by decide +kernel
theorem dX8_copy_26 : decode cX8_copy 26 = .ok (.ireturn, 1) := by decide +kernel
theorem dX8_copy_27 : decode cX8_copy 27 = .ok (.aload 6, 2) := by decide +kernel
theorem dX8_copy_29 : decode cX8_copy 29 = .ok (.getfield 233, 3) := by decide +kernel
theorem dX8_copy_32 : decode cX8_copy 32 = .ok (.ifCond .ne 11, 3) := by decide +kernel
theorem dX8_copy_35 : decode cX8_copy 35 = .ok (.aload 7, 2) := by decide +kernel
theorem dX8_copy_37 : decode cX8_copy 37 = .ok (.getfield 233, 3) := by decide +kernel
theorem dX8_copy_40 : decode cX8_copy 40 = .ok (.ifCond .eq 9, 3) := by decide +kernel
theorem dX8_copy_43 : decode cX8_copy 43 = .ok (.aload_n 0, 1) := by decide +kernel
theorem dX8_copy_44 : decode cX8_copy 44 = .ok (.iconst 1, 1) := by decide +kernel
theorem dX8_copy_45 : decode cX8_copy 45 = .ok (.invokevirtual 225, 3) := by decide +kernel
theorem dX8_copy_48 : decode cX8_copy 48 = .ok (.ireturn, 1) := by decide +kernel
theorem dX8_copy_49 : decode cX8_copy 49 = .ok (.aload 6, 2) := by decide +kernel
theorem dX8_copy_51 : decode cX8_copy 51 = .ok (.getfield 249, 3) := by decide +kernel
theorem dX8_copy_54 : decode cX8_copy 54 = .ok (.aload 7, 2) := by decide +kernel
theorem dX8_copy_56 : decode cX8_copy 56 = .ok (.getfield 249, 3) := by decide +kernel
theorem dX8_copy_59 : decode cX8_copy 59 = .ok (.if_icmp .eq 9, 3) := by decide +kernel
theorem dX8_copy_62 : decode cX8_copy 62 = .ok (.aload_n 0, 1) := by decide +kernel
theorem dX8_copy_63 : decode cX8_copy 63 = .ok (.iconst 4, 1) := by decide +kernel
theorem dX8_copy_64 : decode cX8_copy 64 = .ok (.invokevirtual 225, 3) := by decide +kernel
theorem dX8_copy_67 : decode cX8_copy 67 = .ok (.ireturn, 1) := by decide +kernel
theorem dX8_copy_68 : decode cX8_copy 68 = .ok (.aload 6, 2) := by decide +kernel
theorem dX8_copy_70 : decode cX8_copy 70 = .ok (.iload_n 2, 1) := by decide +kernel
theorem dX8_copy_71 : decode cX8_copy 71 = .ok (.iload 5, 2) := by decide +kernel
theorem dX8_copy_73 : decode cX8_copy 73 = .ok (.invokevirtual 252, 3) := by decide +kernel
theorem dX8_copy_76 : decode cX8_copy 76 = .ok (.ifCond .eq 15, 3) := by decide +kernel
theorem dX8_copy_79 : decode cX8_copy 79 = .ok (.aload 7, 2) := by decide +kernel
theorem dX8_copy_81 : decode cX8_copy 81 = .ok (.iload 4, 2) := by decide +kernel
theorem dX8_copy_83 : decode cX8_copy 83 = .ok (.iload 5, 2) := by decide +kernel
theorem dX8_copy_85 : decode cX8_copy 85 = .ok (.invokevirtual 252, 3) := by decide +kernel
theorem dX8_copy_88 : decode cX8_copy 88 = .ok (.ifCond .ne 9, 3) := by decide +kernel
theorem dX8_copy_91 : decode cX8_copy 91 = .ok (.aload_n 0, 1) := by decide +kernel
theorem dX8_copy_92 : decode cX8_copy 92 = .ok (.iconst 2, 1) := by decide +kernel
theorem dX8_copy_93 : decode cX8_copy 93 = .ok (.invokevirtual 225, 3) := by decide +kernel
theorem dX8_copy_96 : decode cX8_copy 96 = .ok (.ireturn, 1) := by decide +kernel
theorem dX8_copy_97 : decode cX8_copy 97 = .ok (.aload 6, 2) := by decide +kernel
theorem dX8_copy_99 : decode cX8_copy 99 = .ok (.getfield 246, 3) := by decide +kernel
theorem dX8_copy_102 : decode cX8_copy 102 = .ok (.iload_n 2, 1) := by decide +kernel
theorem dX8_copy_103 : decode cX8_copy 103 = .ok (.aload 7, 2) := by decide +kernel
theorem dX8_copy_105 : decode cX8_copy 105 = .ok (.getfield 246, 3) := by decide +kernel
theorem dX8_copy_108 : decode cX8_copy 108 = .ok (.iload 4, 2) := by decide +kernel
theorem dX8_copy_110 : decode cX8_copy 110 = .ok (.iload 5, 2) := by decide +kernel
theorem dX8_copy_112 : decode cX8_copy 112 = .ok (.invokestatic 256, 3) := by decide +kernel
theorem dX8_copy_115 : decode cX8_copy 115 = .ok (.iconst 1, 1) := by decide +kernel
theorem dX8_copy_116 : decode cX8_copy 116 = .ok (.ireturn, 1) := by decide +kernel
theorem dX8_pose_0 : decode cX8_pose 0 = .ok (.aload_n 0, 1) := by decide +kernel
theorem dX8_pose_1 : decode cX8_pose 1 = .ok (.iload_n 1, 1) := by decide +kernel
theorem dX8_pose_2 : decode cX8_pose 2 = .ok (.invokevirtual 218, 3) := by decide +kernel
theorem dX8_pose_5 : decode cX8_pose 5 = .ok (.astore_n 3, 1) := by decide +kernel
theorem dX8_pose_6 : decode cX8_pose 6 = .ok (.aload_n 3, 1) := by decide +kernel
theorem dX8_pose_7 : decode cX8_pose 7 = .ok (.ifnonnull 6, 3) := by decide +kernel
theorem dX8_pose_10 : decode cX8_pose 10 = .ok (.bipush (-2), 2) := by decide +kernel
theorem dX8_pose_12 : decode cX8_pose 12 = .ok (.ireturn, 1) := by decide +kernel
theorem dX8_pose_13 : decode cX8_pose 13 = .ok (.aload_n 3, 1) := by decide +kernel
theorem dX8_pose_14 : decode cX8_pose 14 = .ok (.iload_n 2, 1) := by decide +kernel
theorem dX8_pose_15 : decode cX8_pose 15 = .ok (.aload_n 0, 1) := by decide +kernel
theorem dX8_pose_16 : decode cX8_pose 16 = .ok (.getfield 12, 3) := by decide +kernel
theorem dX8_pose_19 : decode cX8_pose 19 = .ok (.getfield 71, 3) := by decide +kernel
theorem dX8_pose_22 : decode cX8_pose 22 = .ok (.invokevirtual 262, 3) := by decide +kernel
theorem dX8_pose_25 : decode cX8_pose 25 = .ok (.istore 4, 2) := by decide +kernel
theorem dX8_pose_27 : decode cX8_pose 27 = .ok (.iload 4, 2) := by decide +kernel
theorem dX8_pose_29 : decode cX8_pose 29 = .ok (.ifCond .eq 10, 3) := by decide +kernel
theorem dX8_pose_32 : decode cX8_pose 32 = .ok (.aload_n 0, 1) := by decide +kernel
theorem dX8_pose_33 : decode cX8_pose 33 = .ok (.iload 4, 2) := by decide +kernel
theorem dX8_pose_35 : decode cX8_pose 35 = .ok (.invokevirtual 225, 3) := by decide +kernel
theorem dX8_pose_38 : decode cX8_pose 38 = .ok (.ireturn, 1) := by decide +kernel
theorem dX8_pose_39 : decode cX8_pose 39 = .ok (.aload_n 0, 1) := by decide +kernel
theorem dX8_pose_40 : decode cX8_pose 40 = .ok (.getfield 12, 3) := by decide +kernel
theorem dX8_pose_43 : decode cX8_pose 43 = .ok (.aload_n 3, 1) := by decide +kernel
theorem dX8_pose_44 : decode cX8_pose 44 = .ok (.getfield 246, 3) := by decide +kernel
theorem dX8_pose_47 : decode cX8_pose 47 = .ok (.iload_n 2, 1) := by decide +kernel
theorem dX8_pose_48 : decode cX8_pose 48 = .ok (.invokevirtual 265, 3) := by decide +kernel
theorem dX8_pose_51 : decode cX8_pose 51 = .ok (.ireturn, 1) := by decide +kernel
theorem dX8_write_0 : decode cX8_write 0 = .ok (.aload_n 0, 1) := by decide +kernel
theorem dX8_write_1 : decode cX8_write 1 = .ok (.iload_n 1, 1) := by decide +kernel
theorem dX8_write_2 : decode cX8_write 2 = .ok (.invokevirtual 218, 3) := by decide +kernel
theorem dX8_write_5 : decode cX8_write 5 = .ok (.astore_n 3, 1) := by decide +kernel
theorem dX8_write_6 : decode cX8_write 6 = .ok (.aload_n 3, 1) := by decide +kernel
theorem dX8_write_7 : decode cX8_write 7 = .ok (.ifnonnull 6, 3) := by decide +kernel
theorem dX8_write_10 : decode cX8_write 10 = .ok (.bipush (-2), 2) := by decide +kernel
theorem dX8_write_12 : decode cX8_write 12 = .ok (.ireturn, 1) := by decide +kernel
theorem dX8_write_13 : decode cX8_write 13 = .ok (.aload_n 3, 1) := by decide +kernel
theorem dX8_write_14 : decode cX8_write 14 = .ok (.iload_n 2, 1) := by decide +kernel
theorem dX8_write_15 : decode cX8_write 15 = .ok (.aload_n 0, 1) := by decide +kernel
theorem dX8_write_16 : decode cX8_write 16 = .ok (.getfield 12, 3) := by decide +kernel
theorem dX8_write_19 : decode cX8_write 19 = .ok (.getfield 71, 3) := by decide +kernel
theorem dX8_write_22 : decode cX8_write 22 = .ok (.invokevirtual 262, 3) := by decide +kernel
theorem dX8_write_25 : decode cX8_write 25 = .ok (.istore 4, 2) := by decide +kernel
theorem dX8_write_27 : decode cX8_write 27 = .ok (.iload 4, 2) := by decide +kernel
theorem dX8_write_29 : decode cX8_write 29 = .ok (.ifCond .eq 10, 3) := by decide +kernel
theorem dX8_write_32 : decode cX8_write 32 = .ok (.aload_n 0, 1) := by decide +kernel
theorem dX8_write_33 : decode cX8_write 33 = .ok (.iload 4, 2) := by decide +kernel
theorem dX8_write_35 : decode cX8_write 35 = .ok (.invokevirtual 225, 3) := by decide +kernel
theorem dX8_write_38 : decode cX8_write 38 = .ok (.ireturn, 1) := by decide +kernel
theorem dX8_write_39 : decode cX8_write 39 = .ok (.iconst 0, 1) := by decide +kernel
theorem dX8_write_40 : decode cX8_write 40 = .ok (.istore 5, 2) := by decide +kernel
theorem dX8_write_42 : decode cX8_write 42 = .ok (.iload 5, 2) := by decide +kernel
theorem dX8_write_44 : decode cX8_write 44 = .ok (.aload_n 0, 1) := by decide +kernel
theorem dX8_write_45 : decode cX8_write 45 = .ok (.getfield 12, 3) := by decide +kernel
theorem dX8_write_48 : decode cX8_write 48 = .ok (.getfield 71, 3) := by decide +kernel
theorem dX8_write_51 : decode cX8_write 51 = .ok (.if_icmp .ge 30, 3) := by decide +kernel
theorem dX8_write_54 : decode cX8_write 54 = .ok (.aload_n 3, 1) := by decide +kernel
theorem dX8_write_55 : decode cX8_write 55 = .ok (.iload_n 2, 1) := by decide +kernel
theorem dX8_write_56 : decode cX8_write 56 = .ok (.iload 5, 2) := by decide +kernel
theorem dX8_write_58 : decode cX8_write 58 = .ok (.iadd, 1) := by decide +kernel
theorem dX8_write_59 : decode cX8_write 59 = .ok (.aload_n 0, 1) := by decide +kernel
theorem dX8_write_60 : decode cX8_write 60 = .ok (.getfield 12, 3) := by decide +kernel
theorem dX8_write_63 : decode cX8_write 63 = .ok (.getfield 269, 3) := by decide +kernel
theorem dX8_write_66 : decode cX8_write 66 = .ok (.iload 5, 2) := by decide +kernel
theorem dX8_write_68 : decode cX8_write 68 = .ok (.aaload, 1) := by decide +kernel
theorem dX8_write_69 : decode cX8_write 69 = .ok (.getfield 93, 3) := by decide +kernel
theorem dX8_write_72 : decode cX8_write 72 = .ok (.invokevirtual 242, 3) := by decide +kernel
theorem dX8_write_75 : decode cX8_write 75 = .ok (.iinc 5 1, 3) := by decide +kernel
theorem dX8_write_78 : decode cX8_write 78 = .ok (.goto (-36), 3) := by decide +kernel
theorem dX8_write_81 : decode cX8_write 81 = .ok (.aload_n 0, 1) := by decide +kernel
theorem dX8_write_82 : decode cX8_write 82 = .ok (.getfield 12, 3) := by decide +kernel
theorem dX8_write_85 : decode cX8_write 85 = .ok (.getfield 71, 3) := by decide +kernel
theorem dX8_write_88 : decode cX8_write 88 = .ok (.ireturn, 1) := by decide +kernel
theorem dX8_count_0 : decode cX8_count 0 = .ok (.iload_n 1, 1) := by decide +kernel
theorem dX8_count_1 : decode cX8_count 1 = .ok (.tableswitch 96 0 6 #[43, 51, 59, 67, 75, 83, 91], 43) := by decide +kernel
theorem dX8_count_44 : decode cX8_count 44 = .ok (.aload_n 0, 1) := by decide +kernel
theorem dX8_count_45 : decode cX8_count 45 = .ok (.getfield 12, 3) := by decide +kernel
theorem dX8_count_48 : decode cX8_count 48 = .ok (.getfield 71, 3) := by decide +kernel
theorem dX8_count_51 : decode cX8_count 51 = .ok (.ireturn, 1) := by decide +kernel
theorem dX8_count_52 : decode cX8_count 52 = .ok (.aload_n 0, 1) := by decide +kernel
theorem dX8_count_53 : decode cX8_count 53 = .ok (.getfield 19, 3) := by decide +kernel
theorem dX8_count_56 : decode cX8_count 56 = .ok (.invokevirtual 67, 3) := by decide +kernel
theorem dX8_count_59 : decode cX8_count 59 = .ok (.ireturn, 1) := by decide +kernel
theorem dX8_count_60 : decode cX8_count 60 = .ok (.aload_n 0, 1) := by decide +kernel
theorem dX8_count_61 : decode cX8_count 61 = .ok (.getfield 12, 3) := by decide +kernel
theorem dX8_count_64 : decode cX8_count 64 = .ok (.getfield 106, 3) := by decide +kernel
theorem dX8_count_67 : decode cX8_count 67 = .ok (.ireturn, 1) := by decide +kernel
theorem dX8_count_68 : decode cX8_count 68 = .ok (.aload_n 0, 1) := by decide +kernel
theorem dX8_count_69 : decode cX8_count 69 = .ok (.getfield 33, 3) := by decide +kernel
theorem dX8_count_72 : decode cX8_count 72 = .ok (.getfield 198, 3) := by decide +kernel
theorem dX8_count_75 : decode cX8_count 75 = .ok (.ireturn, 1) := by decide +kernel
theorem dX8_count_76 : decode cX8_count 76 = .ok (.aload_n 0, 1) := by decide +kernel
theorem dX8_count_77 : decode cX8_count 77 = .ok (.getfield 26, 3) := by decide +kernel
theorem dX8_count_80 : decode cX8_count 80 = .ok (.getfield 189, 3) := by decide +kernel
theorem dX8_count_83 : decode cX8_count 83 = .ok (.ireturn, 1) := by decide +kernel
theorem dX8_count_84 : decode cX8_count 84 = .ok (.aload_n 0, 1) := by decide +kernel
theorem dX8_count_85 : decode cX8_count 85 = .ok (.getfield 33, 3) := by decide +kernel
theorem dX8_count_88 : decode cX8_count 88 = .ok (.getfield 209, 3) := by decide +kernel
theorem dX8_count_91 : decode cX8_count 91 = .ok (.ireturn, 1) := by decide +kernel
theorem dX8_count_92 : decode cX8_count 92 = .ok (.aload_n 0, 1) := by decide +kernel
theorem dX8_count_93 : decode cX8_count 93 = .ok (.getfield 43, 3) := by decide +kernel
theorem dX8_count_96 : decode cX8_count 96 = .ok (.ireturn, 1) := by decide +kernel
theorem dX8_count_97 : decode cX8_count 97 = .ok (.bipush (-2), 2) := by decide +kernel
theorem dX8_count_99 : decode cX8_count 99 = .ok (.ireturn, 1) := by decide +kernel
theorem dX8_digest_0 : decode cX8_digest 0 = .ok (.ldc2_w 273, 3) := by decide +kernel
theorem dX8_digest_3 : decode cX8_digest 3 = .ok (.lstore_n 1, 1) := by decide +kernel
theorem dX8_digest_4 : decode cX8_digest 4 = .ok (.iconst 0, 1) := by decide +kernel
theorem dX8_digest_5 : decode cX8_digest 5 = .ok (.istore_n 3, 1) := by decide +kernel
theorem dX8_digest_6 : decode cX8_digest 6 = .ok (.iload_n 3, 1) := by decide +kernel
theorem dX8_digest_7 : decode cX8_digest 7 = .ok (.iconst 3, 1) := by decide +kernel
theorem dX8_digest_8 : decode cX8_digest 8 = .ok (.if_icmp .gt 22, 3) := by decide +kernel
theorem dX8_digest_11 : decode cX8_digest 11 = .ok (.ldc2_w 275, 3) := by decide +kernel
theorem dX8_digest_14 : decode cX8_digest 14 = .ok (.lload_n 1, 1) := by decide +kernel
theorem dX8_digest_15 : decode cX8_digest 15 = .ok (.lmul, 1) := by decide +kernel
theorem dX8_digest_16 : decode cX8_digest 16 = .ok (.aload_n 0, 1) := by decide +kernel
theorem dX8_digest_17 : decode cX8_digest 17 = .ok (.iload_n 3, 1) := by decide +kernel
theorem dX8_digest_18 : decode cX8_digest 18 = .ok (.invokevirtual 277, 3) := by decide +kernel
theorem dX8_digest_21 : decode cX8_digest 21 = .ok (.i2l, 1) := by decide +kernel
theorem dX8_digest_22 : decode cX8_digest 22 = .ok (.ladd, 1) := by decide +kernel
theorem dX8_digest_23 : decode cX8_digest 23 = .ok (.lstore_n 1, 1) := by decide +kernel
theorem dX8_digest_24 : decode cX8_digest 24 = .ok (.iinc 3 1, 3) := by decide +kernel
theorem dX8_digest_27 : decode cX8_digest 27 = .ok (.goto (-21), 3) := by decide +kernel
theorem dX8_digest_30 : decode cX8_digest 30 = .ok (.aload_n 0, 1) := by decide +kernel
theorem dX8_digest_31 : decode cX8_digest 31 = .ok (.getfield 19, 3) := by decide +kernel
theorem dX8_digest_34 : decode cX8_digest 34 = .ok (.aload_n 0, 1) := by decide +kernel
theorem dX8_digest_35 : decode cX8_digest 35 = .ok (.getfield 12, 3) := by decide +kernel
theorem dX8_digest_38 : decode cX8_digest 38 = .ok (.lload_n 1, 1) := by decide +kernel
theorem dX8_digest_39 : decode cX8_digest 39 = .ok (.invokevirtual 280, 3) := by decide +kernel
theorem dX8_digest_42 : decode cX8_digest 42 = .ok (.invokevirtual 284, 3) := by decide +kernel
theorem dX8_digest_45 : decode cX8_digest 45 = .ok (.lreturn, 1) := by decide +kernel
theorem dX8_isIn_0 : decode cX8_isIn 0 = .ok (.lload_n 0, 1) := by decide +kernel
theorem dX8_isIn_1 : decode cX8_isIn 1 = .ok (.lload_n 2, 1) := by decide +kernel
theorem dX8_isIn_2 : decode cX8_isIn 2 = .ok (.lcmp, 1) := by decide +kernel
theorem dX8_isIn_3 : decode cX8_isIn 3 = .ok (.ifCond .lt 14, 3) := by decide +kernel
theorem dX8_isIn_6 : decode cX8_isIn 6 = .ok (.lload_n 0, 1) := by decide +kernel
theorem dX8_isIn_7 : decode cX8_isIn 7 = .ok (.lload 4, 2) := by decide +kernel
theorem dX8_isIn_9 : decode cX8_isIn 9 = .ok (.lcmp, 1) := by decide +kernel
theorem dX8_isIn_10 : decode cX8_isIn 10 = .ok (.ifCond .gt 7, 3) := by decide +kernel
theorem dX8_isIn_13 : decode cX8_isIn 13 = .ok (.iconst 1, 1) := by decide +kernel
theorem dX8_isIn_14 : decode cX8_isIn 14 = .ok (.goto 4, 3) := by decide +kernel
theorem dX8_isIn_17 : decode cX8_isIn 17 = .ok (.iconst 0, 1) := by decide +kernel
theorem dX8_isIn_18 : decode cX8_isIn 18 = .ok (.ireturn, 1) := by decide +kernel
theorem dX8_isTurn_0 : decode cX8_isTurn 0 = .ok (.iload_n 0, 1) := by decide +kernel
theorem dX8_isTurn_1 : decode cX8_isTurn 1 = .ok (.i2l, 1) := by decide +kernel
theorem dX8_isTurn_2 : decode cX8_isTurn 2 = .ok (.lconst 0, 1) := by decide +kernel
theorem dX8_isTurn_3 : decode cX8_isTurn 3 = .ok (.ldc2_w 285, 3) := by decide +kernel
theorem dX8_isTurn_6 : decode cX8_isTurn 6 = .ok (.invokestatic 54, 3) := by decide +kernel
theorem dX8_isTurn_9 : decode cX8_isTurn 9 = .ok (.ireturn, 1) := by decide +kernel
theorem dX8_isPlace_0 : decode cX8_isPlace 0 = .ok (.lload_n 0, 1) := by decide +kernel
theorem dX8_isPlace_1 : decode cX8_isPlace 1 = .ok (.ldc2_w 287, 3) := by decide +kernel
theorem dX8_isPlace_4 : decode cX8_isPlace 4 = .ok (.ldc2_w 289, 3) := by decide +kernel
theorem dX8_isPlace_7 : decode cX8_isPlace 7 = .ok (.invokestatic 54, 3) := by decide +kernel
theorem dX8_isPlace_10 : decode cX8_isPlace 10 = .ok (.ifCond .eq 20, 3) := by decide +kernel
theorem dX8_isPlace_13 : decode cX8_isPlace 13 = .ok (.lload_n 2, 1) := by decide +kernel
theorem dX8_isPlace_14 : decode cX8_isPlace 14 = .ok (.ldc2_w 287, 3) := by decide +kernel
theorem dX8_isPlace_17 : decode cX8_isPlace 17 = .ok (.ldc2_w 289, 3) := by decide +kernel
theorem dX8_isPlace_20 : decode cX8_isPlace 20 = .ok (.invokestatic 54, 3) := by decide +kernel
theorem dX8_isPlace_23 : decode cX8_isPlace 23 = .ok (.ifCond .eq 7, 3) := by decide +kernel
theorem dX8_isPlace_26 : decode cX8_isPlace 26 = .ok (.iconst 1, 1) := by decide +kernel
theorem dX8_isPlace_27 : decode cX8_isPlace 27 = .ok (.goto 4, 3) := by decide +kernel
theorem dX8_isPlace_30 : decode cX8_isPlace 30 = .ok (.iconst 0, 1) := by decide +kernel
theorem dX8_isPlace_31 : decode cX8_isPlace 31 = .ok (.ireturn, 1) := by decide +kernel
theorem dX8_isForm_0 : decode cX8_isForm 0 = .ok (.iload_n 0, 1) := by decide +kernel
theorem dX8_isForm_1 : decode cX8_isForm 1 = .ok (.i2l, 1) := by decide +kernel
theorem dX8_isForm_2 : decode cX8_isForm 2 = .ok (.lconst 0, 1) := by decide +kernel
theorem dX8_isForm_3 : decode cX8_isForm 3 = .ok (.ldc2_w 291, 3) := by decide +kernel
theorem dX8_isForm_6 : decode cX8_isForm 6 = .ok (.invokestatic 54, 3) := by decide +kernel
theorem dX8_isForm_9 : decode cX8_isForm 9 = .ok (.ireturn, 1) := by decide +kernel
theorem dX8_asLong_0 : decode cX8_asLong 0 = .ok (.ldc2_w 293, 3) := by decide +kernel
theorem dX8_asLong_3 : decode cX8_asLong 3 = .ok (.iload_n 0, 1) := by decide +kernel
theorem dX8_asLong_4 : decode cX8_asLong 4 = .ok (.i2l, 1) := by decide +kernel
theorem dX8_asLong_5 : decode cX8_asLong 5 = .ok (.lsub, 1) := by decide +kernel
theorem dX8_asLong_6 : decode cX8_asLong 6 = .ok (.lreturn, 1) := by decide +kernel
theorem dX8_found_0 : decode cX8_found 0 = .ok (.aload_n 0, 1) := by decide +kernel
theorem dX8_found_1 : decode cX8_found 1 = .ok (.iload_n 1, 1) := by decide +kernel
theorem dX8_found_2 : decode cX8_found 2 = .ok (.putfield 43, 3) := by decide +kernel
theorem dX8_found_5 : decode cX8_found 5 = .ok (.bipush (-10), 2) := by decide +kernel
theorem dX8_found_7 : decode cX8_found 7 = .ok (.iload_n 1, 1) := by decide +kernel
theorem dX8_found_8 : decode cX8_found 8 = .ok (.isub, 1) := by decide +kernel
theorem dX8_found_9 : decode cX8_found 9 = .ok (.ireturn, 1) := by decide +kernel
theorem dX8_findSheet_0 : decode cX8_findSheet 0 = .ok (.iload_n 1, 1) := by decide +kernel
theorem dX8_findSheet_1 : decode cX8_findSheet 1 = .ok (.i2l, 1) := by decide +kernel
theorem dX8_findSheet_2 : decode cX8_findSheet 2 = .ok (.lconst 0, 1) := by decide +kernel
theorem dX8_findSheet_3 : decode cX8_findSheet 3 = .ok (.ldc2_w 295, 3) := by decide +kernel
theorem dX8_findSheet_6 : decode cX8_findSheet 6 = .ok (.invokestatic 54, 3) := by decide +kernel
theorem dX8_findSheet_9 : decode cX8_findSheet 9 = .ok (.ifCond .eq 12, 3) := by decide +kernel
theorem dX8_findSheet_12 : decode cX8_findSheet 12 = .ok (.aload_n 0, 1) := by decide +kernel
theorem dX8_findSheet_13 : decode cX8_findSheet 13 = .ok (.getfield 39, 3) := by decide +kernel
theorem dX8_findSheet_16 : decode cX8_findSheet 16 = .ok (.iload_n 1, 1) := by decide +kernel
theorem dX8_findSheet_17 : decode cX8_findSheet 17 = .ok (.aaload, 1) := by decide +kernel
theorem dX8_findSheet_18 : decode cX8_findSheet 18 = .ok (.goto 4, 3) := by decide +kernel
theorem dX8_findSheet_21 : decode cX8_findSheet 21 = .ok (.aconst_null, 1) := by decide +kernel
theorem dX8_findSheet_22 : decode cX8_findSheet 22 = .ok (.areturn, 1) := by decide +kernel
theorem dX9_init_0 : decode cX9_init 0 = .ok (.aload_n 0, 1) := by decide +kernel
theorem dX9_init_1 : decode cX9_init 1 = .ok (.invokespecial 1, 3) := by decide +kernel
theorem dX9_init_4 : decode cX9_init 4 = .ok (.aload_n 0, 1) := by decide +kernel
theorem dX9_init_5 : decode cX9_init 5 = .ok (.bipush 36, 2) := by decide +kernel
theorem dX9_init_7 : decode cX9_init 7 = .ok (.newarray .int, 2) := by decide +kernel
theorem dX9_init_9 : decode cX9_init 9 = .ok (.putfield 7, 3) := by decide +kernel
theorem dX9_init_12 : decode cX9_init 12 = .ok (.aload_n 0, 1) := by decide +kernel
theorem dX9_init_13 : decode cX9_init 13 = .ok (.bipush 36, 2) := by decide +kernel
theorem dX9_init_15 : decode cX9_init 15 = .ok (.newarray .int, 2) := by decide +kernel
theorem dX9_init_17 : decode cX9_init 17 = .ok (.putfield 13, 3) := by decide +kernel
theorem dX9_init_20 : decode cX9_init 20 = .ok (.aload_n 0, 1) := by decide +kernel
theorem dX9_init_21 : decode cX9_init 21 = .ok (.bipush 10, 2) := by decide +kernel
theorem dX9_init_23 : decode cX9_init 23 = .ok (.newarray .int, 2) := by decide +kernel
theorem dX9_init_25 : decode cX9_init 25 = .ok (.putfield 16, 3) := by decide +kernel
theorem dX9_init_28 : decode cX9_init 28 = .ok (.aload_n 0, 1) := by decide +kernel
theorem dX9_init_29 : decode cX9_init 29 = .ok (.bipush 10, 2) := by decide +kernel
theorem dX9_init_31 : decode cX9_init 31 = .ok (.newarray .int, 2) := by decide +kernel
theorem dX9_init_33 : decode cX9_init 33 = .ok (.putfield 19, 3) := by decide +kernel
theorem dX9_init_36 : decode cX9_init 36 = .ok (.aload_n 0, 1) := by decide +kernel
theorem dX9_init_37 : decode cX9_init 37 = .ok (.bipush 10, 2) := by decide +kernel
theorem dX9_init_39 : decode cX9_init 39 = .ok (.newarray .int, 2) := by decide +kernel
theorem dX9_init_41 : decode cX9_init 41 = .ok (.putfield 22, 3) := by decide +kernel
theorem dX9_init_44 : decode cX9_init 44 = .ok (.aload_n 0, 1) := by decide +kernel
theorem dX9_init_45 : decode cX9_init 45 = .ok (.bipush 10, 2) := by decide +kernel
theorem dX9_init_47 : decode cX9_init 47 = .ok (.newarray .int, 2) := by decide +kernel
theorem dX9_init_49 : decode cX9_init 49 = .ok (.putfield 25, 3) := by decide +kernel
theorem dX9_init_52 : decode cX9_init 52 = .ok (.aload_n 0, 1) := by decide +kernel
theorem dX9_init_53 : decode cX9_init 53 = .ok (.bipush 10, 2) := by decide +kernel
theorem dX9_init_55 : decode cX9_init 55 = .ok (.newarray .int, 2) := by decide +kernel
theorem dX9_init_57 : decode cX9_init 57 = .ok (.putfield 28, 3) := by decide +kernel
theorem dX9_init_60 : decode cX9_init 60 = .ok (.aload_n 0, 1) := by decide +kernel
theorem dX9_init_61 : decode cX9_init 61 = .ok (.bipush 10, 2) := by decide +kernel
theorem dX9_init_63 : decode cX9_init 63 = .ok (.newarray .int, 2) := by decide +kernel
theorem dX9_init_65 : decode cX9_init 65 = .ok (.putfield 31, 3) := by decide +kernel
theorem dX9_init_68 : decode cX9_init 68 = .ok (.aload_n 0, 1) := by decide +kernel
theorem dX9_init_69 : decode cX9_init 69 = .ok (.iconst (-1), 1) := by decide +kernel
theorem dX9_init_70 : decode cX9_init 70 = .ok (.putfield 34, 3) := by decide +kernel
theorem dX9_init_73 : decode cX9_init 73 = .ok (.aload_n 0, 1) := by decide +kernel
theorem dX9_init_74 : decode cX9_init 74 = .ok (.bipush 10, 2) := by decide +kernel
theorem dX9_init_76 : decode cX9_init 76 = .ok (.newarray .long, 2) := by decide +kernel
theorem dX9_init_78 : decode cX9_init 78 = .ok (.putfield 38, 3) := by decide +kernel
theorem dX9_init_81 : decode cX9_init 81 = .ok (.aload_n 0, 1) := by decide +kernel
theorem dX9_init_82 : decode cX9_init 82 = .ok (.bipush 10, 2) := by decide +kernel
theorem dX9_init_84 : decode cX9_init 84 = .ok (.newarray .long, 2) := by decide +kernel
theorem dX9_init_86 : decode cX9_init 86 = .ok (.putfield 42, 3) := by decide +kernel
theorem dX9_init_89 : decode cX9_init 89 = .ok (.aload_n 0, 1) := by decide +kernel
theorem dX9_init_90 : decode cX9_init 90 = .ok (.bipush 10, 2) := by decide +kernel
theorem dX9_init_92 : decode cX9_init 92 = .ok (.newarray .long, 2) := by decide +kernel
theorem dX9_init_94 : decode cX9_init 94 = .ok (.putfield 45, 3) := by decide +kernel
theorem dX9_init_97 : decode cX9_init 97 = .ok (.aload_n 0, 1) := by decide +kernel
theorem dX9_init_98 : decode cX9_init 98 = .ok (.bipush 10, 2) := by decide +kernel
theorem dX9_init_100 : decode cX9_init 100 = .ok (.newarray .long, 2) := by decide +kernel
theorem dX9_init_102 : decode cX9_init 102 = .ok (.putfield 48, 3) := by decide +kernel
theorem dX9_init_105 : decode cX9_init 105 = .ok (.aload_n 0, 1) := by decide +kernel
theorem dX9_init_106 : decode cX9_init 106 = .ok (.bipush 6, 2) := by decide +kernel
theorem dX9_init_108 : decode cX9_init 108 = .ok (.newarray .int, 2) := by decide +kernel
theorem dX9_init_110 : decode cX9_init 110 = .ok (.putfield 51, 3) := by decide +kernel
theorem dX9_init_113 : decode cX9_init 113 = .ok (.aload_n 0, 1) := by decide +kernel
theorem dX9_init_114 : decode cX9_init 114 = .ok (.sipush 1800, 3) := by decide +kernel
theorem dX9_init_117 : decode cX9_init 117 = .ok (.newarray .int, 2) := by decide +kernel
theorem dX9_init_119 : decode cX9_init 119 = .ok (.putfield 54, 3) := by decide +kernel
theorem dX9_init_122 : decode cX9_init 122 = .ok (.aload_n 0, 1) := by decide +kernel
theorem dX9_init_123 : decode cX9_init 123 = .ok (.bipush 30, 2) := by decide +kernel
theorem dX9_init_125 : decode cX9_init 125 = .ok (.newarray .int, 2) := by decide +kernel
theorem dX9_init_127 : decode cX9_init 127 = .ok (.putfield 57, 3) := by decide +kernel
theorem dX9_init_130 : decode cX9_init 130 = .ok (.aload_n 0, 1) := by decide +kernel
theorem dX9_init_131 : decode cX9_init 131 = .ok (.iconst 3, 1) := by decide +kernel
theorem dX9_init_132 : decode cX9_init 132 = .ok (.putfield 60, 3) := by decide +kernel
theorem dX9_init_135 : decode cX9_init 135 = .ok (.aload_n 0, 1) := by decide +kernel
theorem dX9_init_136 : decode cX9_init 136 = .ok (.sipush 32400, 3) := by decide +kernel
theorem dX9_init_139 : decode cX9_init 139 = .ok (.newarray .int, 2) := by decide +kernel
theorem dX9_init_141 : decode cX9_init 141 = .ok (.putfield 63, 3) := by decide +kernel
theorem dX9_init_144 : decode cX9_init 144 = .ok (.aload_n 0, 1) := by decide +kernel
theorem dX9_init_145 : decode cX9_init 145 = .ok (.sipush 180, 3) := by decide +kernel
theorem dX9_init_148 : decode cX9_init 148 = .ok (.newarray .boolean, 2) := by decide +kernel
theorem dX9_init_150 : decode cX9_init 150 = .ok (.putfield 66, 3) := by decide +kernel
theorem dX9_init_153 : decode cX9_init 153 = .ok (.aload_n 0, 1) := by decide +kernel
theorem dX9_init_154 : decode cX9_init 154 = .ok (.sipush 180, 3) := by decide +kernel
theorem dX9_init_157 : decode cX9_init 157 = .ok (.newarray .int, 2) := by decide +kernel
theorem dX9_init_159 : decode cX9_init 159 = .ok (.putfield 70, 3) := by decide +kernel
theorem dX9_init_162 : decode cX9_init 162 = .ok (.aload_n 0, 1) := by decide +kernel
theorem dX9_init_163 : decode cX9_init 163 = .ok (.sipush 180, 3) := by decide +kernel
theorem dX9_init_166 : decode cX9_init 166 = .ok (.newarray .boolean, 2) := by decide +kernel
theorem dX9_init_168 : decode cX9_init 168 = .ok (.putfield 73, 3) := by decide +kernel
theorem dX9_init_171 : decode cX9_init 171 = .ok (.aload_n 0, 1) := by decide +kernel
theorem dX9_init_172 : decode cX9_init 172 = .ok (.iconst (-1), 1) := by decide +kernel
theorem dX9_init_173 : decode cX9_init 173 = .ok (.putfield 76, 3) := by decide +kernel
theorem dX9_init_176 : decode cX9_init 176 = .ok (.aload_n 0, 1) := by decide +kernel
theorem dX9_init_177 : decode cX9_init 177 = .ok (.sipush 180, 3) := by decide +kernel
theorem dX9_init_180 : decode cX9_init 180 = .ok (.newarray .int, 2) := by decide +kernel
theorem dX9_init_182 : decode cX9_init 182 = .ok (.putfield 79, 3) := by decide +kernel
theorem dX9_init_185 : decode cX9_init 185 = .ok (.aload_n 0, 1) := by decide +kernel
theorem dX9_init_186 : decode cX9_init 186 = .ok (.iconst 4, 1) := by decide +kernel
theorem dX9_init_187 : decode cX9_init 187 = .ok (.newarray .int, 2) := by decide +kernel
theorem dX9_init_189 : decode cX9_init 189 = .ok (.putfield 82, 3) := by decide +kernel
theorem dX9_init_192 : decode cX9_init 192 = .ok (.aload_n 0, 1) := by decide +kernel
theorem dX9_init_193 : decode cX9_init 193 = .ok (.iconst 4, 1) := by decide +kernel
theorem dX9_init_194 : decode cX9_init 194 = .ok (.newarray .int, 2) := by decide +kernel
theorem dX9_init_196 : decode cX9_init 196 = .ok (.putfield 85, 3) := by decide +kernel
theorem dX9_init_199 : decode cX9_init 199 = .ok (.aload_n 0, 1) := by decide +kernel
theorem dX9_init_200 : decode cX9_init 200 = .ok (.sipush 240, 3) := by decide +kernel
theorem dX9_init_203 : decode cX9_init 203 = .ok (.newarray .int, 2) := by decide +kernel
theorem dX9_init_205 : decode cX9_init 205 = .ok (.putfield 88, 3) := by decide +kernel
theorem dX9_init_208 : decode cX9_init 208 = .ok (.aload_n 0, 1) := by decide +kernel
theorem dX9_init_209 : decode cX9_init 209 = .ok (.bipush 60, 2) := by decide +kernel
theorem dX9_init_211 : decode cX9_init 211 = .ok (.newarray .int, 2) := by decide +kernel
theorem dX9_init_213 : decode cX9_init 213 = .ok (.putfield 91, 3) := by decide +kernel
theorem dX9_init_216 : decode cX9_init 216 = .ok (.aload_n 0, 1) := by decide +kernel
theorem dX9_init_217 : decode cX9_init 217 = .ok (.getfield 7, 3) := by decide +kernel
theorem dX9_init_220 : decode cX9_init 220 = .ok (.iconst 0, 1) := by decide +kernel
theorem dX9_init_221 : decode cX9_init 221 = .ok (.bipush 65, 2) := by decide +kernel
theorem dX9_init_223 : decode cX9_init 223 = .ok (.iastore, 1) := by decide +kernel
theorem dX9_init_224 : decode cX9_init 224 = .ok (.aload_n 0, 1) := by decide +kernel
theorem dX9_init_225 : decode cX9_init 225 = .ok (.getfield 7, 3) := by decide +kernel
theorem dX9_init_228 : decode cX9_init 228 = .ok (.iconst 1, 1) := by decide +kernel
theorem dX9_init_229 : decode cX9_init 229 = .ok (.bipush 63, 2) := by decide +kernel
theorem dX9_init_231 : decode cX9_init 231 = .ok (.iastore, 1) := by decide +kernel
theorem dX9_init_232 : decode cX9_init 232 = .ok (.aload_n 0, 1) := by decide +kernel
theorem dX9_init_233 : decode cX9_init 233 = .ok (.getfield 7, 3) := by decide +kernel
theorem dX9_init_236 : decode cX9_init 236 = .ok (.iconst 2, 1) := by decide +kernel
theorem dX9_init_237 : decode cX9_init 237 = .ok (.bipush 60, 2) := by decide +kernel
theorem dX9_init_239 : decode cX9_init 239 = .ok (.iastore, 1) := by decide +kernel
theorem dX9_init_240 : decode cX9_init 240 = .ok (.aload_n 0, 1) := by decide +kernel
theorem dX9_init_241 : decode cX9_init 241 = .ok (.getfield 7, 3) := by decide +kernel
theorem dX9_init_244 : decode cX9_init 244 = .ok (.iconst 3, 1) := by decide +kernel
theorem dX9_init_245 : decode cX9_init 245 = .ok (.bipush 56, 2) := by decide +kernel
theorem dX9_init_247 : decode cX9_init 247 = .ok (.iastore, 1) := by decide +kernel
theorem dX9_init_248 : decode cX9_init 248 = .ok (.aload_n 0, 1) := by decide +kernel
theorem dX9_init_249 : decode cX9_init 249 = .ok (.getfield 7, 3) := by decide +kernel
theorem dX9_init_252 : decode cX9_init 252 = .ok (.iconst 4, 1) := by decide +kernel
theorem dX9_init_253 : decode cX9_init 253 = .ok (.bipush 52, 2) := by decide +kernel
theorem dX9_init_255 : decode cX9_init 255 = .ok (.iastore, 1) := by decide +kernel
theorem dX9_init_256 : decode cX9_init 256 = .ok (.aload_n 0, 1) := by decide +kernel
theorem dX9_init_257 : decode cX9_init 257 = .ok (.getfield 7, 3) := by decide +kernel
theorem dX9_init_260 : decode cX9_init 260 = .ok (.iconst 5, 1) := by decide +kernel
theorem dX9_init_261 : decode cX9_init 261 = .ok (.bipush 39, 2) := by decide +kernel
theorem dX9_init_263 : decode cX9_init 263 = .ok (.iastore, 1) := by decide +kernel
theorem dX9_init_264 : decode cX9_init 264 = .ok (.aload_n 0, 1) := by decide +kernel
theorem dX9_init_265 : decode cX9_init 265 = .ok (.getfield 7, 3) := by decide +kernel
theorem dX9_init_268 : decode cX9_init 268 = .ok (.bipush 6, 2) := by decide +kernel
theorem dX9_init_270 : decode cX9_init 270 = .ok (.bipush 33, 2) := by decide +kernel
theorem dX9_init_272 : decode cX9_init 272 = .ok (.iastore, 1) := by decide +kernel
theorem dX9_init_273 : decode cX9_init 273 = .ok (.aload_n 0, 1) := by decide +kernel
theorem dX9_init_274 : decode cX9_init 274 = .ok (.getfield 7, 3) := by decide +kernel
theorem dX9_init_277 : decode cX9_init 277 = .ok (.bipush 7, 2) := by decide +kernel
theorem dX9_init_279 : decode cX9_init 279 = .ok (.bipush 25, 2) := by decide +kernel
theorem dX9_init_281 : decode cX9_init 281 = .ok (.iastore, 1) := by decide +kernel
theorem dX9_init_282 : decode cX9_init 282 = .ok (.aload_n 0, 1) := by decide +kernel
theorem dX9_init_283 : decode cX9_init 283 = .ok (.getfield 7, 3) := by decide +kernel
theorem dX9_init_286 : decode cX9_init 286 = .ok (.bipush 8, 2) := by decide +kernel
theorem dX9_init_288 : decode cX9_init 288 = .ok (.bipush 16, 2) := by decide +kernel
theorem dX9_init_290 : decode cX9_init 290 = .ok (.iastore, 1) := by decide +kernel
theorem dX9_init_291 : decode cX9_init 291 = .ok (.aload_n 0, 1) := by decide +kernel
theorem dX9_init_292 : decode cX9_init 292 = .ok (.getfield 13, 3) := by decide +kernel
theorem dX9_init_295 : decode cX9_init 295 = .ok (.iconst 0, 1) := by decide +kernel
theorem dX9_init_296 : decode cX9_init 296 = .ok (.iconst 0, 1) := by decide +kernel
theorem dX9_init_297 : decode cX9_init 297 = .ok (.iastore, 1) := by decide +kernel
theorem dX9_init_298 : decode cX9_init 298 = .ok (.aload_n 0, 1) := by decide +kernel
theorem dX9_init_299 : decode cX9_init 299 = .ok (.getfield 13, 3) := by decide +kernel
theorem dX9_init_302 : decode cX9_init 302 = .ok (.iconst 1, 1) := by decide +kernel
theorem dX9_init_303 : decode cX9_init 303 = .ok (.bipush 16, 2) := by decide +kernel
theorem dX9_init_305 : decode cX9_init 305 = .ok (.iastore, 1) := by decide +kernel
theorem dX9_init_306 : decode cX9_init 306 = .ok (.aload_n 0, 1) := by decide +kernel
theorem dX9_init_307 : decode cX9_init 307 = .ok (.getfield 13, 3) := by decide +kernel
theorem dX9_init_310 : decode cX9_init 310 = .ok (.iconst 2, 1) := by decide +kernel
theorem dX9_init_311 : decode cX9_init 311 = .ok (.bipush 25, 2) := by decide +kernel
theorem dX9_init_313 : decode cX9_init 313 = .ok (.iastore, 1) := by decide +kernel
theorem dX9_init_314 : decode cX9_init 314 = .ok (.aload_n 0, 1) := by decide +kernel
theorem dX9_init_315 : decode cX9_init 315 = .ok (.getfield 13, 3) := by decide +kernel
theorem dX9_init_318 : decode cX9_init 318 = .ok (.iconst 3, 1) := by decide +kernel
theorem dX9_init_319 : decode cX9_init 319 = .ok (.bipush 33, 2) := by decide +kernel
theorem dX9_init_321 : decode cX9_init 321 = .ok (.iastore, 1) := by decide +kernel
theorem dX9_init_322 : decode cX9_init 322 = .ok (.aload_n 0, 1) := by decide +kernel
theorem dX9_init_323 : decode cX9_init 323 = .ok (.getfield 13, 3) := by decide +kernel
theorem dX9_init_326 : decode cX9_init 326 = .ok (.iconst 4, 1) := by decide +kernel
theorem dX9_init_327 : decode cX9_init 327 = .ok (.bipush 39, 2) := by decide +kernel
theorem dX9_init_329 : decode cX9_init 329 = .ok (.iastore, 1) := by decide +kernel
theorem dX9_init_330 : decode cX9_init 330 = .ok (.aload_n 0, 1) := by decide +kernel
theorem dX9_init_331 : decode cX9_init 331 = .ok (.getfield 13, 3) := by decide +kernel
theorem dX9_init_334 : decode cX9_init 334 = .ok (.iconst 5, 1) := by decide +kernel
theorem dX9_init_335 : decode cX9_init 335 = .ok (.bipush 52, 2) := by decide +kernel
theorem dX9_init_337 : decode cX9_init 337 = .ok (.iastore, 1) := by decide +kernel
theorem dX9_init_338 : decode cX9_init 338 = .ok (.aload_n 0, 1) := by decide +kernel
theorem dX9_init_339 : decode cX9_init 339 = .ok (.getfield 13, 3) := by decide +kernel
theorem dX9_init_342 : decode cX9_init 342 = .ok (.bipush 6, 2) := by decide +kernel
theorem dX9_init_344 : decode cX9_init 344 = .ok (.bipush 56, 2) := by decide +kernel
theorem dX9_init_346 : decode cX9_init 346 = .ok (.iastore, 1) := by decide +kernel
theorem dX9_init_347 : decode cX9_init 347 = .ok (.aload_n 0, 1) := by decide +kernel
theorem dX9_init_348 : decode cX9_init 348 = .ok (.getfield 13, 3) := by decide +kernel
theorem dX9_init_351 : decode cX9_init 351 = .ok (.bipush 7, 2) := by decide +kernel
theorem dX9_init_353 : decode cX9_init 353 = .ok (.bipush 60, 2) := by decide +kernel
theorem dX9_init_355 : decode cX9_init 355 = .ok (.iastore, 1) := by decide +kernel
theorem dX9_init_356 : decode cX9_init 356 = .ok (.aload_n 0, 1) := by decide +kernel
theorem dX9_init_357 : decode cX9_init 357 = .ok (.getfield 13, 3) := by decide +kernel
theorem dX9_init_360 : decode cX9_init 360 = .ok (.bipush 8, 2) := by decide +kernel
theorem dX9_init_362 : decode cX9_init 362 = .ok (.bipush 63, 2) := by decide +kernel
theorem dX9_init_364 : decode cX9_init 364 = .ok (.iastore, 1) := by decide +kernel
theorem dX9_init_365 : decode cX9_init 365 = .ok (.bipush 9, 2) := by decide +kernel
theorem dX9_init_367 : decode cX9_init 367 = .ok (.istore_n 1, 1) := by decide +kernel
theorem dX9_init_368 : decode cX9_init 368 = .ok (.iload_n 1, 1) := by decide +kernel
theorem dX9_init_369 : decode cX9_init 369 = .ok (.bipush 36, 2) := by decide +kernel
theorem dX9_init_371 : decode cX9_init 371 = .ok (.if_icmp .ge 40, 3) := by decide +kernel
theorem dX9_init_374 : decode cX9_init 374 = .ok (.aload_n 0, 1) := by decide +kernel
theorem dX9_init_375 : decode cX9_init 375 = .ok (.getfield 7, 3) := by decide +kernel
theorem dX9_init_378 : decode cX9_init 378 = .ok (.iload_n 1, 1) := by decide +kernel
theorem dX9_init_379 : decode cX9_init 379 = .ok (.aload_n 0, 1) := by decide +kernel
theorem dX9_init_380 : decode cX9_init 380 = .ok (.getfield 13, 3) := by decide +kernel
theorem dX9_init_383 : decode cX9_init 383 = .ok (.iload_n 1, 1) := by decide +kernel
theorem dX9_init_384 : decode cX9_init 384 = .ok (.bipush 9, 2) := by decide +kernel
theorem dX9_init_386 : decode cX9_init 386 = .ok (.isub, 1) := by decide +kernel
theorem dX9_init_387 : decode cX9_init 387 = .ok (.iaload, 1) := by decide +kernel
theorem dX9_init_388 : decode cX9_init 388 = .ok (.ineg, 1) := by decide +kernel
theorem dX9_init_389 : decode cX9_init 389 = .ok (.iastore, 1) := by decide +kernel
theorem dX9_init_390 : decode cX9_init 390 = .ok (.aload_n 0, 1) := by decide +kernel
theorem dX9_init_391 : decode cX9_init 391 = .ok (.getfield 13, 3) := by decide +kernel
theorem dX9_init_394 : decode cX9_init 394 = .ok (.iload_n 1, 1) := by decide +kernel
theorem dX9_init_395 : decode cX9_init 395 = .ok (.aload_n 0, 1) := by decide +kernel
theorem dX9_init_396 : decode cX9_init 396 = .ok (.getfield 7, 3) := by decide +kernel
theorem dX9_init_399 : decode cX9_init 399 = .ok (.iload_n 1, 1) := by decide +kernel
theorem dX9_init_400 : decode cX9_init 400 = .ok (.bipush 9, 2) := by decide +kernel
theorem dX9_init_402 : decode cX9_init 402 = .ok (.isub, 1) := by decide +kernel
theorem dX9_init_403 : decode cX9_init 403 = .ok (.iaload, 1) := by decide +kernel
theorem dX9_init_404 : decode cX9_init 404 = .ok (.iastore, 1) := by decide +kernel
theorem dX9_init_405 : decode cX9_init 405 = .ok (.iinc 1 1, 3) := by decide +kernel
theorem dX9_init_408 : decode cX9_init 408 = .ok (.goto (-40), 3) := by decide +kernel
theorem dX9_init_411 : decode cX9_init 411 = .ok (.iconst 0, 1) := by decide +kernel
theorem dX9_init_412 : decode cX9_init 412 = .ok (.istore_n 1, 1) := by decide +kernel
theorem dX9_init_413 : decode cX9_init 413 = .ok (.iload_n 1, 1) := by decide +kernel
theorem dX9_init_414 : decode cX9_init 414 = .ok (.iconst 4, 1) := by decide +kernel
theorem dX9_init_415 : decode cX9_init 415 = .ok (.if_icmp .ge 16, 3) := by decide +kernel
theorem dX9_init_418 : decode cX9_init 418 = .ok (.aload_n 0, 1) := by decide +kernel
theorem dX9_init_419 : decode cX9_init 419 = .ok (.getfield 82, 3) := by decide +kernel
theorem dX9_init_422 : decode cX9_init 422 = .ok (.iload_n 1, 1) := by decide +kernel
theorem dX9_init_423 : decode cX9_init 423 = .ok (.iconst (-1), 1) := by decide +kernel
theorem dX9_init_424 : decode cX9_init 424 = .ok (.iastore, 1) := by decide +kernel
theorem dX9_init_425 : decode cX9_init 425 = .ok (.iinc 1 1, 3) := by decide +kernel
theorem dX9_init_428 : decode cX9_init 428 = .ok (.goto (-15), 3) := by decide +kernel
theorem dX9_init_431 : decode cX9_init 431 = .ok (.return_, 1) := by decide +kernel
theorem dX9_in_0 : decode cX9_in 0 = .ok (.lload_n 0, 1) := by decide +kernel
theorem dX9_in_1 : decode cX9_in 1 = .ok (.lload_n 2, 1) := by decide +kernel
theorem dX9_in_2 : decode cX9_in 2 = .ok (.lcmp, 1) := by decide +kernel
theorem dX9_in_3 : decode cX9_in 3 = .ok (.ifCond .lt 14, 3) := by decide +kernel
theorem dX9_in_6 : decode cX9_in 6 = .ok (.lload_n 0, 1) := by decide +kernel
theorem dX9_in_7 : decode cX9_in 7 = .ok (.lload 4, 2) := by decide +kernel
theorem dX9_in_9 : decode cX9_in 9 = .ok (.lcmp, 1) := by decide +kernel
theorem dX9_in_10 : decode cX9_in 10 = .ok (.ifCond .gt 7, 3) := by decide +kernel
theorem dX9_in_13 : decode cX9_in 13 = .ok (.iconst 1, 1) := by decide +kernel
theorem dX9_in_14 : decode cX9_in 14 = .ok (.goto 4, 3) := by decide +kernel
theorem dX9_in_17 : decode cX9_in 17 = .ok (.iconst 0, 1) := by decide +kernel
theorem dX9_in_18 : decode cX9_in 18 = .ok (.ireturn, 1) := by decide +kernel
theorem dX9_no_0 : decode cX9_no 0 = .ok (.ldc2_w 94, 3) := by decide +kernel
theorem dX9_no_3 : decode cX9_no 3 = .ok (.iload_n 0, 1) := by decide +kernel
theorem dX9_no_4 : decode cX9_no 4 = .ok (.i2l, 1) := by decide +kernel
theorem dX9_no_5 : decode cX9_no 5 = .ok (.lsub, 1) := by decide +kernel
theorem dX9_no_6 : decode cX9_no 6 = .ok (.lreturn, 1) := by decide +kernel
theorem dX9_round_0 : decode cX9_round 0 = .ok (.iload_n 0, 1) := by decide +kernel
theorem dX9_round_1 : decode cX9_round 1 = .ok (.bipush 36, 2) := by decide +kernel
theorem dX9_round_3 : decode cX9_round 3 = .ok (.irem, 1) := by decide +kernel
theorem dX9_round_4 : decode cX9_round 4 = .ok (.istore_n 1, 1) := by decide +kernel
theorem dX9_round_5 : decode cX9_round 5 = .ok (.iload_n 1, 1) := by decide +kernel
theorem dX9_round_6 : decode cX9_round 6 = .ok (.ifCond .ge 10, 3) := by decide +kernel
theorem dX9_round_9 : decode cX9_round 9 = .ok (.iload_n 1, 1) := by decide +kernel
theorem dX9_round_10 : decode cX9_round 10 = .ok (.bipush 36, 2) := by decide +kernel
theorem dX9_round_12 : decode cX9_round 12 = .ok (.iadd, 1) := by decide +kernel
theorem dX9_round_13 : decode cX9_round 13 = .ok (.goto 4, 3) := by decide +kernel
theorem dX9_round_16 : decode cX9_round 16 = .ok (.iload_n 1, 1) := by decide +kernel
theorem dX9_round_17 : decode cX9_round 17 = .ok (.ireturn, 1) := by decide +kernel
theorem dX9_shortWay_0 : decode cX9_shortWay 0 = .ok (.iload_n 1, 1) := by decide +kernel
theorem dX9_shortWay_1 : decode cX9_shortWay 1 = .ok (.iload_n 0, 1) := by decide +kernel
theorem dX9_shortWay_2 : decode cX9_shortWay 2 = .ok (.isub, 1) := by decide +kernel
theorem dX9_shortWay_3 : decode cX9_shortWay 3 = .ok (.invokestatic 96, 3) := by decide +kernel
theorem dX9_shortWay_6 : decode cX9_shortWay 6 = .ok (.istore_n 2, 1) := by decide +kernel
theorem dX9_shortWay_7 : decode cX9_shortWay 7 = .ok (.iload_n 2, 1) := by decide +kernel
theorem dX9_shortWay_8 : decode cX9_shortWay 8 = .ok (.bipush 18, 2) := by decide +kernel
theorem dX9_shortWay_10 : decode cX9_shortWay 10 = .ok (.if_icmp .le 10, 3) := by decide +kernel
theorem dX9_shortWay_13 : decode cX9_shortWay 13 = .ok (.iload_n 2, 1) := by decide +kernel
theorem dX9_shortWay_14 : decode cX9_shortWay 14 = .ok (.bipush 36, 2) := by decide +kernel
theorem dX9_shortWay_16 : decode cX9_shortWay 16 = .ok (.isub, 1) := by decide +kernel
theorem dX9_shortWay_17 : decode cX9_shortWay 17 = .ok (.goto 4, 3) := by decide +kernel
theorem dX9_shortWay_20 : decode cX9_shortWay 20 = .ok (.iload_n 2, 1) := by decide +kernel
theorem dX9_shortWay_21 : decode cX9_shortWay 21 = .ok (.ireturn, 1) := by decide +kernel
theorem dX9_amount_0 : decode cX9_amount 0 = .ok (.iload_n 0, 1) := by decide +kernel
theorem dX9_amount_1 : decode cX9_amount 1 = .ok (.ifCond .ge 8, 3) := by decide +kernel
theorem dX9_amount_4 : decode cX9_amount 4 = .ok (.iload_n 0, 1) := by decide +kernel
theorem dX9_amount_5 : decode cX9_amount 5 = .ok (.ineg, 1) := by decide +kernel
theorem dX9_amount_6 : decode cX9_amount 6 = .ok (.goto 4, 3) := by decide +kernel
theorem dX9_amount_9 : decode cX9_amount 9 = .ok (.iload_n 0, 1) := by decide +kernel
theorem dX9_amount_10 : decode cX9_amount 10 = .ok (.ireturn, 1) := by decide +kernel
theorem dX9_isWithin_0 : decode cX9_isWithin 0 = .ok (.iload_n 2, 1) := by decide +kernel
theorem dX9_isWithin_1 : decode cX9_isWithin 1 = .ok (.aload_n 0, 1) := by decide +kernel
theorem dX9_isWithin_2 : decode cX9_isWithin 2 = .ok (.getfield 22, 3) := by decide +kernel
theorem dX9_isWithin_5 : decode cX9_isWithin 5 = .ok (.iload_n 1, 1) := by decide +kernel
theorem dX9_isWithin_6 : decode cX9_isWithin 6 = .ok (.iaload, 1) := by decide +kernel
theorem dX9_isWithin_7 : decode cX9_isWithin 7 = .ok (.isub, 1) := by decide +kernel
theorem dX9_isWithin_8 : decode cX9_isWithin 8 = .ok (.invokestatic 96, 3) := by decide +kernel
theorem dX9_isWithin_11 : decode cX9_isWithin 11 = .ok (.aload_n 0, 1) := by decide +kernel
theorem dX9_isWithin_12 : decode cX9_isWithin 12 = .ok (.getfield 25, 3) := by decide +kernel
theorem dX9_isWithin_15 : decode cX9_isWithin 15 = .ok (.iload_n 1, 1) := by decide +kernel
theorem dX9_isWithin_16 : decode cX9_isWithin 16 = .ok (.iaload, 1) := by decide +kernel
theorem dX9_isWithin_17 : decode cX9_isWithin 17 = .ok (.if_icmp .gt 7, 3) := by decide +kernel
theorem dX9_isWithin_20 : decode cX9_isWithin 20 = .ok (.iconst 1, 1) := by decide +kernel
theorem dX9_isWithin_21 : decode cX9_isWithin 21 = .ok (.goto 4, 3) := by decide +kernel
theorem dX9_isWithin_24 : decode cX9_isWithin 24 = .ok (.iconst 0, 1) := by decide +kernel
theorem dX9_isWithin_25 : decode cX9_isWithin 25 = .ok (.ireturn, 1) := by decide +kernel
theorem dX9_intoLimits_0 : decode cX9_intoLimits 0 = .ok (.aload_n 0, 1) := by decide +kernel
theorem dX9_intoLimits_1 : decode cX9_intoLimits 1 = .ok (.iload_n 1, 1) := by decide +kernel
theorem dX9_intoLimits_2 : decode cX9_intoLimits 2 = .ok (.iload_n 2, 1) := by decide +kernel
theorem dX9_intoLimits_3 : decode cX9_intoLimits 3 = .ok (.invokevirtual 100, 3) := by decide +kernel
theorem dX9_intoLimits_6 : decode cX9_intoLimits 6 = .ok (.ifCond .eq 5, 3) := by decide +kernel
theorem dX9_intoLimits_9 : decode cX9_intoLimits 9 = .ok (.iload_n 2, 1) := by decide +kernel
theorem dX9_intoLimits_10 : decode cX9_intoLimits 10 = .ok (.ireturn, 1) := by decide +kernel
theorem dX9_intoLimits_11 : decode cX9_intoLimits 11 = .ok (.aload_n 0, 1) := by decide +kernel
theorem dX9_intoLimits_12 : decode cX9_intoLimits 12 = .ok (.getfield 22, 3) := by decide +kernel
theorem dX9_intoLimits_15 : decode cX9_intoLimits 15 = .ok (.iload_n 1, 1) := by decide +kernel
theorem dX9_intoLimits_16 : decode cX9_intoLimits 16 = .ok (.iaload, 1) := by decide +kernel
theorem dX9_intoLimits_17 : decode cX9_intoLimits 17 = .ok (.aload_n 0, 1) := by decide +kernel
theorem dX9_intoLimits_18 : decode cX9_intoLimits 18 = .ok (.getfield 25, 3) := by decide +kernel
theorem dX9_intoLimits_21 : decode cX9_intoLimits 21 = .ok (.iload_n 1, 1) := by decide +kernel
theorem dX9_intoLimits_22 : decode cX9_intoLimits 22 = .ok (.iaload, 1) := by decide +kernel
theorem dX9_intoLimits_23 : decode cX9_intoLimits 23 = .ok (.iadd, 1) := by decide +kernel
theorem dX9_intoLimits_24 : decode cX9_intoLimits 24 = .ok (.invokestatic 96, 3) := by decide +kernel
theorem dX9_intoLimits_27 : decode cX9_intoLimits 27 = .ok (.istore_n 3, 1) := by decide +kernel
theorem dX9_intoLimits_28 : decode cX9_intoLimits 28 = .ok (.iload_n 2, 1) := by decide +kernel
theorem dX9_intoLimits_29 : decode cX9_intoLimits 29 = .ok (.iload_n 3, 1) := by decide +kernel
theorem dX9_intoLimits_30 : decode cX9_intoLimits 30 = .ok (.invokestatic 104, 3) := by decide +kernel
theorem dX9_intoLimits_33 : decode cX9_intoLimits 33 = .ok (.invokestatic 108, 3) := by decide +kernel
theorem dX9_intoLimits_36 : decode cX9_intoLimits 36 = .ok (.iload_n 2, 1) := by decide +kernel
theorem dX9_intoLimits_37 : decode cX9_intoLimits 37 = .ok (.aload_n 0, 1) := by decide +kernel
theorem dX9_intoLimits_38 : decode cX9_intoLimits 38 = .ok (.getfield 22, 3) := by decide +kernel
theorem dX9_intoLimits_41 : decode cX9_intoLimits 41 = .ok (.iload_n 1, 1) := by decide +kernel
theorem dX9_intoLimits_42 : decode cX9_intoLimits 42 = .ok (.iaload, 1) := by decide +kernel
theorem dX9_intoLimits_43 : decode cX9_intoLimits 43 = .ok (.invokestatic 104, 3) := by decide +kernel
theorem dX9_intoLimits_46 : decode cX9_intoLimits 46 = .ok (.invokestatic 108, 3) := by decide +kernel
theorem dX9_intoLimits_49 : decode cX9_intoLimits 49 = .ok (.if_icmp .ge 7, 3) := by decide +kernel
theorem dX9_intoLimits_52 : decode cX9_intoLimits 52 = .ok (.iload_n 3, 1) := by decide +kernel
theorem dX9_intoLimits_53 : decode cX9_intoLimits 53 = .ok (.goto 9, 3) := by decide +kernel
theorem dX9_intoLimits_56 : decode cX9_intoLimits 56 = .ok (.aload_n 0, 1) := by decide +kernel
theorem dX9_intoLimits_57 : decode cX9_intoLimits 57 = .ok (.getfield 22, 3) := by decide +kernel
theorem dX9_intoLimits_60 : decode cX9_intoLimits 60 = .ok (.iload_n 1, 1) := by decide +kernel
theorem dX9_intoLimits_61 : decode cX9_intoLimits 61 = .ok (.iaload, 1) := by decide +kernel
theorem dX9_intoLimits_62 : decode cX9_intoLimits 62 = .ok (.ireturn, 1) := by decide +kernel
theorem dX9_isBone_0 : decode cX9_isBone 0 = .ok (.iload_n 1, 1) := by decide +kernel
theorem dX9_isBone_1 : decode cX9_isBone 1 = .ok (.i2l, 1) := by decide +kernel
theorem dX9_isBone_2 : decode cX9_isBone 2 = .ok (.lconst 0, 1) := by decide +kernel
theorem dX9_isBone_3 : decode cX9_isBone 3 = .ok (.aload_n 0, 1) := by decide +kernel
theorem dX9_isBone_4 : decode cX9_isBone 4 = .ok (.getfield 111, 3) := by decide +kernel
theorem dX9_isBone_7 : decode cX9_isBone 7 = .ok (.iconst 1, 1) := by decide +kernel
theorem dX9_isBone_8 : decode cX9_isBone 8 = .ok (.isub, 1) := by decide +kernel
theorem dX9_isBone_9 : decode cX9_isBone 9 = .ok (.i2l, 1) := by decide +kernel
theorem dX9_isBone_10 : decode cX9_isBone 10 = .ok (.invokestatic 114, 3) := by decide +kernel
theorem dX9_isBone_13 : decode cX9_isBone 13 = .ok (.ireturn, 1) := by decide +kernel
theorem dX9_isPlace_0 : decode cX9_isPlace 0 = .ok (.lload_n 0, 1) := by decide +kernel
theorem dX9_isPlace_1 : decode cX9_isPlace 1 = .ok (.ldc2_w 118, 3) := by decide +kernel
theorem dX9_isPlace_4 : decode cX9_isPlace 4 = .ok (.ldc2_w 120, 3) := by decide +kernel
theorem dX9_isPlace_7 : decode cX9_isPlace 7 = .ok (.invokestatic 114, 3) := by decide +kernel
theorem dX9_isPlace_10 : decode cX9_isPlace 10 = .ok (.ifCond .eq 20, 3) := by decide +kernel
theorem dX9_isPlace_13 : decode cX9_isPlace 13 = .ok (.lload_n 2, 1) := by decide +kernel
theorem dX9_isPlace_14 : decode cX9_isPlace 14 = .ok (.ldc2_w 118, 3) := by decide +kernel
theorem dX9_isPlace_17 : decode cX9_isPlace 17 = .ok (.ldc2_w 120, 3) := by decide +kernel
theorem dX9_isPlace_20 : decode cX9_isPlace 20 = .ok (.invokestatic 114, 3) := by decide +kernel
theorem dX9_isPlace_23 : decode cX9_isPlace 23 = .ok (.ifCond .eq 7, 3) := by decide +kernel
theorem dX9_isPlace_26 : decode cX9_isPlace 26 = .ok (.iconst 1, 1) := by decide +kernel
theorem dX9_isPlace_27 : decode cX9_isPlace 27 = .ok (.goto 4, 3) := by decide +kernel
theorem dX9_isPlace_30 : decode cX9_isPlace 30 = .ok (.iconst 0, 1) := by decide +kernel
theorem dX9_isPlace_31 : decode cX9_isPlace 31 = .ok (.ireturn, 1) := by decide +kernel
theorem dX9_frames_0 : decode cX9_frames 0 = .ok (.iconst 0, 1) := by decide +kernel
theorem dX9_frames_1 : decode cX9_frames 1 = .ok (.istore_n 1, 1) := by decide +kernel
theorem dX9_frames_2 : decode cX9_frames 2 = .ok (.iconst 0, 1) := by decide +kernel
theorem dX9_frames_3 : decode cX9_frames 3 = .ok (.istore_n 2, 1) := by decide +kernel
theorem dX9_frames_4 : decode cX9_frames 4 = .ok (.iload_n 2, 1) := by decide +kernel
theorem dX9_frames_5 : decode cX9_frames 5 = .ok (.bipush 6, 2) := by decide +kernel
theorem dX9_frames_7 : decode cX9_frames 7 = .ok (.if_icmp .ge 18, 3) := by decide +kernel
theorem dX9_frames_10 : decode cX9_frames 10 = .ok (.iload_n 1, 1) := by decide +kernel
theorem dX9_frames_11 : decode cX9_frames 11 = .ok (.aload_n 0, 1) := by decide +kernel
theorem dX9_frames_12 : decode cX9_frames 12 = .ok (.getfield 51, 3) := by decide +kernel
theorem dX9_frames_15 : decode cX9_frames 15 = .ok (.iload_n 2, 1) := by decide +kernel
theorem dX9_frames_16 : decode cX9_frames 16 = .ok (.iaload, 1) := by decide +kernel
theorem dX9_frames_17 : decode cX9_frames 17 = .ok (.iadd, 1) := by decide +kernel
theorem dX9_frames_18 : decode cX9_frames 18 = .ok (.istore_n 1, 1) := by decide +kernel
theorem dX9_frames_19 : decode cX9_frames 19 = .ok (.iinc 2 1, 3) := by decide +kernel
theorem dX9_frames_22 : decode cX9_frames 22 = .ok (.goto (-18), 3) := by decide +kernel
theorem dX9_frames_25 : decode cX9_frames 25 = .ok (.iload_n 1, 1) := by decide +kernel
theorem dX9_frames_26 : decode cX9_frames 26 = .ok (.ireturn, 1) := by decide +kernel
theorem dX9_bone_0 : decode cX9_bone 0 = .ok (.iload_n 1, 1) := by decide +kernel
theorem dX9_bone_1 : decode cX9_bone 1 = .ok (.i2l, 1) := by decide +kernel
theorem dX9_bone_2 : decode cX9_bone 2 = .ok (.ldc2_w 122, 3) := by decide +kernel
theorem dX9_bone_5 : decode cX9_bone 5 = .ok (.aload_n 0, 1) := by decide +kernel
theorem dX9_bone_6 : decode cX9_bone 6 = .ok (.getfield 111, 3) := by decide +kernel
theorem dX9_bone_9 : decode cX9_bone 9 = .ok (.iconst 1, 1) := by decide +kernel
theorem dX9_bone_10 : decode cX9_bone 10 = .ok (.isub, 1) := by decide +kernel
theorem dX9_bone_11 : decode cX9_bone 11 = .ok (.i2l, 1) := by decide +kernel
theorem dX9_bone_12 : decode cX9_bone 12 = .ok (.invokestatic 114, 3) := by decide +kernel
theorem dX9_bone_15 : decode cX9_bone 15 = .ok (.ifCond .eq 44, 3) := by decide +kernel
theorem dX9_bone_18 : decode cX9_bone 18 = .ok (.iload_n 2, 1) := by decide +kernel
theorem dX9_bone_19 : decode cX9_bone 19 = .ok (.i2l, 1) := by decide +kernel
theorem dX9_bone_20 : decode cX9_bone 20 = .ok (.lconst 1, 1) := by decide +kernel
theorem dX9_bone_21 : decode cX9_bone 21 = .ok (.ldc2_w 124, 3) := by decide +kernel
theorem dX9_bone_24 : decode cX9_bone 24 = .ok (.invokestatic 114, 3) := by decide +kernel
theorem dX9_bone_27 : decode cX9_bone 27 = .ok (.ifCond .eq 32, 3) := by decide +kernel
theorem dX9_bone_30 : decode cX9_bone 30 = .ok (.iload_n 3, 1) := by decide +kernel
theorem dX9_bone_31 : decode cX9_bone 31 = .ok (.i2l, 1) := by decide +kernel
theorem dX9_bone_32 : decode cX9_bone 32 = .ok (.lconst 0, 1) := by decide +kernel
theorem dX9_bone_33 : decode cX9_bone 33 = .ok (.ldc2_w 126, 3) := by decide +kernel
theorem dX9_bone_36 : decode cX9_bone 36 = .ok (.invokestatic 114, 3) := by decide +kernel
theorem dX9_bone_39 : decode cX9_bone 39 = .ok (.ifCond .eq 20, 3) := by decide +kernel
theorem dX9_bone_42 : decode cX9_bone 42 = .ok (.iload 4, 2) := by decide +kernel
theorem dX9_bone_44 : decode cX9_bone 44 = .ok (.i2l, 1) := by decide +kernel
theorem dX9_bone_45 : decode cX9_bone 45 = .ok (.lconst 0, 1) := by decide +kernel
theorem dX9_bone_46 : decode cX9_bone 46 = .ok (.ldc2_w 126, 3) := by decide +kernel
theorem dX9_bone_49 : decode cX9_bone 49 = .ok (.invokestatic 114, 3) := by decide +kernel
theorem dX9_bone_52 : decode cX9_bone 52 = .ok (.ifCond .eq 7, 3) := by decide +kernel
theorem dX9_bone_55 : decode cX9_bone 55 = .ok (.iconst 1, 1) := by decide +kernel
theorem dX9_bone_56 : decode cX9_bone 56 = .ok (.goto 4, 3) := by decide +kernel
theorem dX9_bone_59 : decode cX9_bone 59 = .ok (.iconst 0, 1) := by decide +kernel
theorem dX9_bone_60 : decode cX9_bone 60 = .ok (.istore 5, 2) := by decide +kernel
theorem dX9_bone_62 : decode cX9_bone 62 = .ok (.iload 5, 2) := by decide +kernel
theorem dX9_bone_64 : decode cX9_bone 64 = .ok (.ifCond .eq 18, 3) := by decide +kernel
theorem dX9_bone_67 : decode cX9_bone 67 = .ok (.iload_n 1, 1) := by decide +kernel
theorem dX9_bone_68 : decode cX9_bone 68 = .ok (.iconst (-1), 1) := by decide +kernel
theorem dX9_bone_69 : decode cX9_bone 69 = .ok (.if_icmp .eq 16, 3) := by decide +kernel
theorem dX9_bone_72 : decode cX9_bone 72 = .ok (.aload_n 0, 1) := by decide +kernel
theorem dX9_bone_73 : decode cX9_bone 73 = .ok (.getfield 28, 3) := by decide +kernel
theorem dX9_bone_76 : decode cX9_bone 76 = .ok (.iload_n 1, 1) := by decide +kernel
theorem dX9_bone_77 : decode cX9_bone 77 = .ok (.iaload, 1) := by decide +kernel
theorem dX9_bone_78 : decode cX9_bone 78 = .ok (.iconst 5, 1) := by decide +kernel
theorem dX9_bone_79 : decode cX9_bone 79 = .ok (.if_icmp .ne 6, 3) := by decide +kernel
theorem dX9_bone_82 : decode cX9_bone 82 = .ok (.bipush (-2), 2) := by decide +kernel
theorem dX9_bone_84 : decode cX9_bone 84 = .ok (.ireturn, 1) := by decide +kernel
theorem dX9_bone_85 : decode cX9_bone 85 = .ok (.aload_n 0, 1) := by decide +kernel
theorem dX9_bone_86 : decode cX9_bone 86 = .ok (.invokevirtual 128, 3) := by decide +kernel
theorem dX9_bone_89 : decode cX9_bone 89 = .ok (.ifCond .le 6, 3) := by decide +kernel
theorem dX9_bone_92 : decode cX9_bone 92 = .ok (.bipush (-3), 2) := by decide +kernel
theorem dX9_bone_94 : decode cX9_bone 94 = .ok (.ireturn, 1) := by decide +kernel
theorem dX9_bone_95 : decode cX9_bone 95 = .ok (.aload_n 0, 1) := by decide +kernel
theorem dX9_bone_96 : decode cX9_bone 96 = .ok (.getfield 111, 3) := by decide +kernel
theorem dX9_bone_99 : decode cX9_bone 99 = .ok (.bipush 10, 2) := by decide +kernel
theorem dX9_bone_101 : decode cX9_bone 101 = .ok (.if_icmp .ne 6, 3) := by decide +kernel
theorem dX9_bone_104 : decode cX9_bone 104 = .ok (.bipush (-4), 2) := by decide +kernel
theorem dX9_bone_106 : decode cX9_bone 106 = .ok (.ireturn, 1) := by decide +kernel
theorem dX9_bone_107 : decode cX9_bone 107 = .ok (.aload_n 0, 1) := by decide +kernel
theorem dX9_bone_108 : decode cX9_bone 108 = .ok (.getfield 16, 3) := by decide +kernel
theorem dX9_bone_111 : decode cX9_bone 111 = .ok (.aload_n 0, 1) := by decide +kernel
theorem dX9_bone_112 : decode cX9_bone 112 = .ok (.getfield 111, 3) := by decide +kernel
theorem dX9_bone_115 : decode cX9_bone 115 = .ok (.iload_n 1, 1) := by decide +kernel
theorem dX9_bone_116 : decode cX9_bone 116 = .ok (.iastore, 1) := by decide +kernel
theorem dX9_bone_117 : decode cX9_bone 117 = .ok (.aload_n 0, 1) := by decide +kernel
theorem dX9_bone_118 : decode cX9_bone 118 = .ok (.getfield 19, 3) := by decide +kernel
theorem dX9_bone_121 : decode cX9_bone 121 = .ok (.aload_n 0, 1) := by decide +kernel
theorem dX9_bone_122 : decode cX9_bone 122 = .ok (.getfield 111, 3) := by decide +kernel
theorem dX9_bone_125 : decode cX9_bone 125 = .ok (.iload_n 2, 1) := by decide +kernel
theorem dX9_bone_126 : decode cX9_bone 126 = .ok (.iastore, 1) := by decide +kernel
theorem dX9_bone_127 : decode cX9_bone 127 = .ok (.aload_n 0, 1) := by decide +kernel
theorem dX9_bone_128 : decode cX9_bone 128 = .ok (.getfield 22, 3) := by decide +kernel
theorem dX9_bone_131 : decode cX9_bone 131 = .ok (.aload_n 0, 1) := by decide +kernel
theorem dX9_bone_132 : decode cX9_bone 132 = .ok (.getfield 111, 3) := by decide +kernel
theorem dX9_bone_135 : decode cX9_bone 135 = .ok (.iload_n 3, 1) := by decide +kernel
theorem dX9_bone_136 : decode cX9_bone 136 = .ok (.iastore, 1) := by decide +kernel
theorem dX9_bone_137 : decode cX9_bone 137 = .ok (.aload_n 0, 1) := by decide +kernel
theorem dX9_bone_138 : decode cX9_bone 138 = .ok (.getfield 25, 3) := by decide +kernel
theorem dX9_bone_141 : decode cX9_bone 141 = .ok (.aload_n 0, 1) := by decide +kernel
theorem dX9_bone_142 : decode cX9_bone 142 = .ok (.getfield 111, 3) := by decide +kernel
theorem dX9_bone_145 : decode cX9_bone 145 = .ok (.iload 4, 2) := by decide +kernel
theorem dX9_bone_147 : decode cX9_bone 147 = .ok (.iastore, 1) := by decide +kernel
theorem dX9_bone_148 : decode cX9_bone 148 = .ok (.aload_n 0, 1) := by decide +kernel
theorem dX9_bone_149 : decode cX9_bone 149 = .ok (.getfield 28, 3) := by decide +kernel
theorem dX9_bone_152 : decode cX9_bone 152 = .ok (.aload_n 0, 1) := by decide +kernel
theorem dX9_bone_153 : decode cX9_bone 153 = .ok (.getfield 111, 3) := by decide +kernel
theorem dX9_bone_156 : decode cX9_bone 156 = .ok (.iload_n 1, 1) := by decide +kernel
theorem dX9_bone_157 : decode cX9_bone 157 = .ok (.iconst (-1), 1) := by decide +kernel
theorem dX9_bone_158 : decode cX9_bone 158 = .ok (.if_icmp .ne 7, 3) := by decide +kernel
theorem dX9_bone_161 : decode cX9_bone 161 = .ok (.iconst 1, 1) := by decide +kernel
theorem dX9_bone_162 : decode cX9_bone 162 = .ok (.goto 11, 3) := by decide +kernel
theorem dX9_bone_165 : decode cX9_bone 165 = .ok (.aload_n 0, 1) := by decide +kernel
theorem dX9_bone_166 : decode cX9_bone 166 = .ok (.getfield 28, 3) := by decide +kernel
theorem dX9_bone_169 : decode cX9_bone 169 = .ok (.iload_n 1, 1) := by decide +kernel
theorem dX9_bone_170 : decode cX9_bone 170 = .ok (.iaload, 1) := by decide +kernel
theorem dX9_bone_171 : decode cX9_bone 171 = .ok (.iconst 1, 1) := by decide +kernel
theorem dX9_bone_172 : decode cX9_bone 172 = .ok (.iadd, 1) := by decide +kernel
theorem dX9_bone_173 : decode cX9_bone 173 = .ok (.iastore, 1) := by decide +kernel
theorem dX9_bone_174 : decode cX9_bone 174 = .ok (.aload_n 0, 1) := by decide +kernel
theorem dX9_bone_175 : decode cX9_bone 175 = .ok (.getfield 31, 3) := by decide +kernel
theorem dX9_bone_178 : decode cX9_bone 178 = .ok (.aload_n 0, 1) := by decide +kernel
theorem dX9_bone_179 : decode cX9_bone 179 = .ok (.getfield 111, 3) := by decide +kernel
theorem dX9_bone_182 : decode cX9_bone 182 = .ok (.iload_n 3, 1) := by decide +kernel
theorem dX9_bone_183 : decode cX9_bone 183 = .ok (.iastore, 1) := by decide +kernel
theorem dX9_bone_184 : decode cX9_bone 184 = .ok (.aload_n 0, 1) := by decide +kernel
theorem dX9_bone_185 : decode cX9_bone 185 = .ok (.dup, 1) := by decide +kernel
theorem dX9_bone_186 : decode cX9_bone 186 = .ok (.getfield 111, 3) := by decide +kernel
theorem dX9_bone_189 : decode cX9_bone 189 = .ok (.iconst 1, 1) := by decide +kernel
theorem dX9_bone_190 : decode cX9_bone 190 = .ok (.iadd, 1) := by decide +kernel
theorem dX9_bone_191 : decode cX9_bone 191 = .ok (.putfield 111, 3) := by decide +kernel
theorem dX9_bone_194 : decode cX9_bone 194 = .ok (.aload_n 0, 1) := by decide +kernel
theorem dX9_bone_195 : decode cX9_bone 195 = .ok (.getfield 111, 3) := by decide +kernel
theorem dX9_bone_198 : decode cX9_bone 198 = .ok (.iconst 1, 1) := by decide +kernel
theorem dX9_bone_199 : decode cX9_bone 199 = .ok (.isub, 1) := by decide +kernel
theorem dX9_bone_200 : decode cX9_bone 200 = .ok (.ireturn, 1) := by decide +kernel
theorem dX9_about_0 : decode cX9_about 0 = .ok (.aload_n 0, 1) := by decide +kernel
theorem dX9_about_1 : decode cX9_about 1 = .ok (.iload_n 1, 1) := by decide +kernel
theorem dX9_about_2 : decode cX9_about 2 = .ok (.invokevirtual 132, 3) := by decide +kernel
theorem dX9_about_5 : decode cX9_about 5 = .ok (.ifCond .ne 6, 3) := by decide +kernel
theorem dX9_about_8 : decode cX9_about 8 = .ok (.bipush (-2), 2) := by decide +kernel
theorem dX9_about_10 : decode cX9_about 10 = .ok (.ireturn, 1) := by decide +kernel
theorem dX9_about_11 : decode cX9_about 11 = .ok (.iload_n 2, 1) := by decide +kernel
theorem dX9_about_12 : decode cX9_about 12 = .ok (.tableswitch 71 0 4 #[36, 43, 50, 57, 64], 36) := by decide +kernel
theorem dX9_about_48 : decode cX9_about 48 = .ok (.aload_n 0, 1) := by decide +kernel
theorem dX9_about_49 : decode cX9_about 49 = .ok (.getfield 16, 3) := by decide +kernel
theorem dX9_about_52 : decode cX9_about 52 = .ok (.iload_n 1, 1) := by decide +kernel
theorem dX9_about_53 : decode cX9_about 53 = .ok (.iaload, 1) := by decide +kernel
theorem dX9_about_54 : decode cX9_about 54 = .ok (.ireturn, 1) := by decide +kernel
theorem dX9_about_55 : decode cX9_about 55 = .ok (.aload_n 0, 1) := by decide +kernel
theorem dX9_about_56 : decode cX9_about 56 = .ok (.getfield 19, 3) := by decide +kernel
theorem dX9_about_59 : decode cX9_about 59 = .ok (.iload_n 1, 1) := by decide +kernel
theorem dX9_about_60 : decode cX9_about 60 = .ok (.iaload, 1) := by decide +kernel
theorem dX9_about_61 : decode cX9_about 61 = .ok (.ireturn, 1) := by decide +kernel
theorem dX9_about_62 : decode cX9_about 62 = .ok (.aload_n 0, 1) := by decide +kernel
theorem dX9_about_63 : decode cX9_about 63 = .ok (.getfield 22, 3) := by decide +kernel
theorem dX9_about_66 : decode cX9_about 66 = .ok (.iload_n 1, 1) := by decide +kernel
theorem dX9_about_67 : decode cX9_about 67 = .ok (.iaload, 1) := by decide +kernel
theorem dX9_about_68 : decode cX9_about 68 = .ok (.ireturn, 1) := by decide +kernel
theorem dX9_about_69 : decode cX9_about 69 = .ok (.aload_n 0, 1) := by decide +kernel
theorem dX9_about_70 : decode cX9_about 70 = .ok (.getfield 25, 3) := by decide +kernel
theorem dX9_about_73 : decode cX9_about 73 = .ok (.iload_n 1, 1) := by decide +kernel
theorem dX9_about_74 : decode cX9_about 74 = .ok (.iaload, 1) := by decide +kernel
theorem dX9_about_75 : decode cX9_about 75 = .ok (.ireturn, 1) := by decide +kernel
theorem dX9_about_76 : decode cX9_about 76 = .ok (.aload_n 0, 1) := by decide +kernel
theorem dX9_about_77 : decode cX9_about 77 = .ok (.getfield 31, 3) := by decide +kernel
theorem dX9_about_80 : decode cX9_about 80 = .ok (.iload_n 1, 1) := by decide +kernel
theorem dX9_about_81 : decode cX9_about 81 = .ok (.iaload, 1) := by decide +kernel
theorem dX9_about_82 : decode cX9_about 82 = .ok (.ireturn, 1) := by decide +kernel
theorem dX9_about_83 : decode cX9_about 83 = .ok (.bipush (-2), 2) := by decide +kernel
theorem dX9_about_85 : decode cX9_about 85 = .ok (.ireturn, 1) := by decide +kernel
theorem dX9_place_0 : decode cX9_place 0 = .ok (.iconst 0, 1) := by decide +kernel
theorem dX9_place_1 : decode cX9_place 1 = .ok (.istore_n 1, 1) := by decide +kernel
theorem dX9_place_2 : decode cX9_place 2 = .ok (.iload_n 1, 1) := by decide +kernel
theorem dX9_place_3 : decode cX9_place 3 = .ok (.aload_n 0, 1) := by decide +kernel
theorem dX9_place_4 : decode cX9_place 4 = .ok (.getfield 111, 3) := by decide +kernel
theorem dX9_place_7 : decode cX9_place 7 = .ok (.if_icmp .ge 197, 3) := by decide +kernel
theorem dX9_place_10 : decode cX9_place 10 = .ok (.aload_n 0, 1) := by decide +kernel
theorem dX9_place_11 : decode cX9_place 11 = .ok (.getfield 16, 3) := by decide +kernel
theorem dX9_place_14 : decode cX9_place 14 = .ok (.iload_n 1, 1) := by decide +kernel
theorem dX9_place_15 : decode cX9_place 15 = .ok (.iaload, 1) := by decide +kernel
theorem dX9_place_16 : decode cX9_place 16 = .ok (.istore_n 2, 1) := by decide +kernel
theorem dX9_place_17 : decode cX9_place 17 = .ok (.iload_n 2, 1) := by decide +kernel
theorem dX9_place_18 : decode cX9_place 18 = .ok (.iconst (-1), 1) := by decide +kernel
theorem dX9_place_19 : decode cX9_place 19 = .ok (.if_icmp .ne 9, 3) := by decide +kernel
theorem dX9_place_22 : decode cX9_place 22 = .ok (.ldc2_w 136, 3) := by decide +kernel
theorem dX9_place_25 : decode cX9_place 25 = .ok (.goto 9, 3) := by decide +kernel
theorem dX9_place_28 : decode cX9_place 28 = .ok (.aload_n 0, 1) := by decide +kernel
theorem dX9_place_29 : decode cX9_place 29 = .ok (.getfield 38, 3) := by decide +kernel
theorem dX9_place_32 : decode cX9_place 32 = .ok (.iload_n 2, 1) := by decide +kernel
theorem dX9_place_33 : decode cX9_place 33 = .ok (.laload, 1) := by decide +kernel
theorem dX9_place_34 : decode cX9_place 34 = .ok (.lstore_n 3, 1) := by decide +kernel
theorem dX9_place_35 : decode cX9_place 35 = .ok (.iload_n 2, 1) := by decide +kernel
theorem dX9_place_36 : decode cX9_place 36 = .ok (.iconst (-1), 1) := by decide +kernel
theorem dX9_place_37 : decode cX9_place 37 = .ok (.if_icmp .ne 7, 3) := by decide +kernel
theorem dX9_place_40 : decode cX9_place 40 = .ok (.lconst 0, 1) := by decide +kernel
theorem dX9_place_41 : decode cX9_place 41 = .ok (.goto 9, 3) := by decide +kernel
theorem dX9_place_44 : decode cX9_place 44 = .ok (.aload_n 0, 1) := by decide +kernel
theorem dX9_place_45 : decode cX9_place 45 = .ok (.getfield 42, 3) := by decide +kernel
theorem dX9_place_48 : decode cX9_place 48 = .ok (.iload_n 2, 1) := by decide +kernel
theorem dX9_place_49 : decode cX9_place 49 = .ok (.laload, 1) := by decide +kernel
theorem dX9_place_50 : decode cX9_place 50 = .ok (.lstore 5, 2) := by decide +kernel
theorem dX9_place_52 : decode cX9_place 52 = .ok (.aload_n 0, 1) := by decide +kernel
theorem dX9_place_53 : decode cX9_place 53 = .ok (.getfield 7, 3) := by decide +kernel
theorem dX9_place_56 : decode cX9_place 56 = .ok (.aload_n 0, 1) := by decide +kernel
theorem dX9_place_57 : decode cX9_place 57 = .ok (.getfield 31, 3) := by decide +kernel
theorem dX9_place_60 : decode cX9_place 60 = .ok (.iload_n 1, 1) := by decide +kernel
theorem dX9_place_61 : decode cX9_place 61 = .ok (.iaload, 1) := by decide +kernel
theorem dX9_place_62 : decode cX9_place 62 = .ok (.iaload, 1) := by decide +kernel
theorem dX9_place_63 : decode cX9_place 63 = .ok (.i2l, 1) := by decide +kernel
theorem dX9_place_64 : decode cX9_place 64 = .ok (.lstore 7, 2) := by decide +kernel
theorem dX9_place_66 : decode cX9_place 66 = .ok (.aload_n 0, 1) := by decide +kernel
theorem dX9_place_67 : decode cX9_place 67 = .ok (.getfield 13, 3) := by decide +kernel
theorem dX9_place_70 : decode cX9_place 70 = .ok (.aload_n 0, 1) := by decide +kernel
theorem dX9_place_71 : decode cX9_place 71 = .ok (.getfield 31, 3) := by decide +kernel
theorem dX9_place_74 : decode cX9_place 74 = .ok (.iload_n 1, 1) := by decide +kernel
theorem dX9_place_75 : decode cX9_place 75 = .ok (.iaload, 1) := by decide +kernel
theorem dX9_place_76 : decode cX9_place 76 = .ok (.iaload, 1) := by decide +kernel
theorem dX9_place_77 : decode cX9_place 77 = .ok (.i2l, 1) := by decide +kernel
theorem dX9_place_78 : decode cX9_place 78 = .ok (.lstore 9, 2) := by decide +kernel
theorem dX9_place_80 : decode cX9_place 80 = .ok (.aload_n 0, 1) := by decide +kernel
theorem dX9_place_81 : decode cX9_place 81 = .ok (.getfield 38, 3) := by decide +kernel
theorem dX9_place_84 : decode cX9_place 84 = .ok (.iload_n 1, 1) := by decide +kernel
theorem dX9_place_85 : decode cX9_place 85 = .ok (.lload_n 3, 1) := by decide +kernel
theorem dX9_place_86 : decode cX9_place 86 = .ok (.lload 7, 2) := by decide +kernel
theorem dX9_place_88 : decode cX9_place 88 = .ok (.lmul, 1) := by decide +kernel
theorem dX9_place_89 : decode cX9_place 89 = .ok (.lload 5, 2) := by decide +kernel
theorem dX9_place_91 : decode cX9_place 91 = .ok (.lload 9, 2) := by decide +kernel
theorem dX9_place_93 : decode cX9_place 93 = .ok (.lmul, 1) := by decide +kernel
theorem dX9_place_94 : decode cX9_place 94 = .ok (.lsub, 1) := by decide +kernel
theorem dX9_place_95 : decode cX9_place 95 = .ok (.ldc2_w 138, 3) := by decide +kernel
theorem dX9_place_98 : decode cX9_place 98 = .ok (.ldiv, 1) := by decide +kernel
theorem dX9_place_99 : decode cX9_place 99 = .ok (.lastore, 1) := by decide +kernel
theorem dX9_place_100 : decode cX9_place 100 = .ok (.aload_n 0, 1) := by decide +kernel
theorem dX9_place_101 : decode cX9_place 101 = .ok (.getfield 42, 3) := by decide +kernel
theorem dX9_place_104 : decode cX9_place 104 = .ok (.iload_n 1, 1) := by decide +kernel
theorem dX9_place_105 : decode cX9_place 105 = .ok (.lload_n 3, 1) := by decide +kernel
theorem dX9_place_106 : decode cX9_place 106 = .ok (.lload 9, 2) := by decide +kernel
theorem dX9_place_108 : decode cX9_place 108 = .ok (.lmul, 1) := by decide +kernel
theorem dX9_place_109 : decode cX9_place 109 = .ok (.lload 5, 2) := by decide +kernel
theorem dX9_place_111 : decode cX9_place 111 = .ok (.lload 7, 2) := by decide +kernel
theorem dX9_place_113 : decode cX9_place 113 = .ok (.lmul, 1) := by decide +kernel
theorem dX9_place_114 : decode cX9_place 114 = .ok (.ladd, 1) := by decide +kernel
theorem dX9_place_115 : decode cX9_place 115 = .ok (.ldc2_w 138, 3) := by decide +kernel
theorem dX9_place_118 : decode cX9_place 118 = .ok (.ldiv, 1) := by decide +kernel
theorem dX9_place_119 : decode cX9_place 119 = .ok (.lastore, 1) := by decide +kernel
theorem dX9_place_120 : decode cX9_place 120 = .ok (.aload_n 0, 1) := by decide +kernel
theorem dX9_place_121 : decode cX9_place 121 = .ok (.getfield 45, 3) := by decide +kernel
theorem dX9_place_124 : decode cX9_place 124 = .ok (.iload_n 1, 1) := by decide +kernel
theorem dX9_place_125 : decode cX9_place 125 = .ok (.iload_n 2, 1) := by decide +kernel
theorem dX9_place_126 : decode cX9_place 126 = .ok (.iconst (-1), 1) := by decide +kernel
theorem dX9_place_127 : decode cX9_place 127 = .ok (.if_icmp .ne 10, 3) := by decide +kernel
theorem dX9_place_130 : decode cX9_place 130 = .ok (.aload_n 0, 1) := by decide +kernel
theorem dX9_place_131 : decode cX9_place 131 = .ok (.getfield 140, 3) := by decide +kernel
theorem dX9_place_134 : decode cX9_place 134 = .ok (.goto 9, 3) := by decide +kernel
theorem dX9_place_137 : decode cX9_place 137 = .ok (.aload_n 0, 1) := by decide +kernel
end
section
theorem dX9_place_138 : decode cX9_place 138 = .ok (.getfield 45, 3) := by decide +kernel
theorem dX9_place_141 : decode cX9_place 141 = .ok (.iload_n 2, 1) := by decide +kernel
theorem dX9_place_142 : decode cX9_place 142 = .ok (.laload, 1) := by decide +kernel
theorem dX9_place_143 : decode cX9_place 143 = .ok (.aload_n 0, 1) := by decide +kernel
theorem dX9_place_144 : decode cX9_place 144 = .ok (.getfield 19, 3) := by decide +kernel
theorem dX9_place_147 : decode cX9_place 147 = .ok (.iload_n 1, 1) := by decide +kernel
theorem dX9_place_148 : decode cX9_place 148 = .ok (.iaload, 1) := by decide +kernel
theorem dX9_place_149 : decode cX9_place 149 = .ok (.i2l, 1) := by decide +kernel
theorem dX9_place_150 : decode cX9_place 150 = .ok (.aload_n 0, 1) := by decide +kernel
theorem dX9_place_151 : decode cX9_place 151 = .ok (.getfield 38, 3) := by decide +kernel
theorem dX9_place_154 : decode cX9_place 154 = .ok (.iload_n 1, 1) := by decide +kernel
theorem dX9_place_155 : decode cX9_place 155 = .ok (.laload, 1) := by decide +kernel
theorem dX9_place_156 : decode cX9_place 156 = .ok (.lmul, 1) := by decide +kernel
theorem dX9_place_157 : decode cX9_place 157 = .ok (.ladd, 1) := by decide +kernel
theorem dX9_place_158 : decode cX9_place 158 = .ok (.lastore, 1) := by decide +kernel
theorem dX9_place_159 : decode cX9_place 159 = .ok (.aload_n 0, 1) := by decide +kernel
theorem dX9_place_160 : decode cX9_place 160 = .ok (.getfield 48, 3) := by decide +kernel
theorem dX9_place_163 : decode cX9_place 163 = .ok (.iload_n 1, 1) := by decide +kernel
theorem dX9_place_164 : decode cX9_place 164 = .ok (.iload_n 2, 1) := by decide +kernel
theorem dX9_place_165 : decode cX9_place 165 = .ok (.iconst (-1), 1) := by decide +kernel
theorem dX9_place_166 : decode cX9_place 166 = .ok (.if_icmp .ne 10, 3) := by decide +kernel
theorem dX9_place_169 : decode cX9_place 169 = .ok (.aload_n 0, 1) := by decide +kernel
theorem dX9_place_170 : decode cX9_place 170 = .ok (.getfield 144, 3) := by decide +kernel
theorem dX9_place_173 : decode cX9_place 173 = .ok (.goto 9, 3) := by decide +kernel
theorem dX9_place_176 : decode cX9_place 176 = .ok (.aload_n 0, 1) := by decide +kernel
theorem dX9_place_177 : decode cX9_place 177 = .ok (.getfield 48, 3) := by decide +kernel
theorem dX9_place_180 : decode cX9_place 180 = .ok (.iload_n 2, 1) := by decide +kernel
theorem dX9_place_181 : decode cX9_place 181 = .ok (.laload, 1) := by decide +kernel
theorem dX9_place_182 : decode cX9_place 182 = .ok (.aload_n 0, 1) := by decide +kernel
theorem dX9_place_183 : decode cX9_place 183 = .ok (.getfield 19, 3) := by decide +kernel
theorem dX9_place_186 : decode cX9_place 186 = .ok (.iload_n 1, 1) := by decide +kernel
theorem dX9_place_187 : decode cX9_place 187 = .ok (.iaload, 1) := by decide +kernel
theorem dX9_place_188 : decode cX9_place 188 = .ok (.i2l, 1) := by decide +kernel
theorem dX9_place_189 : decode cX9_place 189 = .ok (.aload_n 0, 1) := by decide +kernel
theorem dX9_place_190 : decode cX9_place 190 = .ok (.getfield 42, 3) := by decide +kernel
theorem dX9_place_193 : decode cX9_place 193 = .ok (.iload_n 1, 1) := by decide +kernel
theorem dX9_place_194 : decode cX9_place 194 = .ok (.laload, 1) := by decide +kernel
theorem dX9_place_195 : decode cX9_place 195 = .ok (.lmul, 1) := by decide +kernel
theorem dX9_place_196 : decode cX9_place 196 = .ok (.ladd, 1) := by decide +kernel
theorem dX9_place_197 : decode cX9_place 197 = .ok (.lastore, 1) := by decide +kernel
theorem dX9_place_198 : decode cX9_place 198 = .ok (.iinc 1 1, 3) := by decide +kernel
theorem dX9_place_201 : decode cX9_place 201 = .ok (.goto (-199), 3) := by decide +kernel
theorem dX9_place_204 : decode cX9_place 204 = .ok (.return_, 1) := by decide +kernel
theorem dX9_hold_0 : decode cX9_hold 0 = .ok (.aload_n 0, 1) := by decide +kernel
theorem dX9_hold_1 : decode cX9_hold 1 = .ok (.invokevirtual 147, 3) := by decide +kernel
theorem dX9_hold_4 : decode cX9_hold 4 = .ok (.aload_n 0, 1) := by decide +kernel
theorem dX9_hold_5 : decode cX9_hold 5 = .ok (.aload_n 0, 1) := by decide +kernel
theorem dX9_hold_6 : decode cX9_hold 6 = .ok (.getfield 34, 3) := by decide +kernel
theorem dX9_hold_9 : decode cX9_hold 9 = .ok (.iconst (-1), 1) := by decide +kernel
theorem dX9_hold_10 : decode cX9_hold 10 = .ok (.if_icmp .ne 7, 3) := by decide +kernel
theorem dX9_hold_13 : decode cX9_hold 13 = .ok (.lconst 0, 1) := by decide +kernel
theorem dX9_hold_14 : decode cX9_hold 14 = .ok (.goto 12, 3) := by decide +kernel
theorem dX9_hold_17 : decode cX9_hold 17 = .ok (.aload_n 0, 1) := by decide +kernel
theorem dX9_hold_18 : decode cX9_hold 18 = .ok (.getfield 45, 3) := by decide +kernel
theorem dX9_hold_21 : decode cX9_hold 21 = .ok (.aload_n 0, 1) := by decide +kernel
theorem dX9_hold_22 : decode cX9_hold 22 = .ok (.getfield 34, 3) := by decide +kernel
theorem dX9_hold_25 : decode cX9_hold 25 = .ok (.laload, 1) := by decide +kernel
theorem dX9_hold_26 : decode cX9_hold 26 = .ok (.putfield 150, 3) := by decide +kernel
theorem dX9_hold_29 : decode cX9_hold 29 = .ok (.aload_n 0, 1) := by decide +kernel
theorem dX9_hold_30 : decode cX9_hold 30 = .ok (.aload_n 0, 1) := by decide +kernel
theorem dX9_hold_31 : decode cX9_hold 31 = .ok (.getfield 34, 3) := by decide +kernel
theorem dX9_hold_34 : decode cX9_hold 34 = .ok (.iconst (-1), 1) := by decide +kernel
theorem dX9_hold_35 : decode cX9_hold 35 = .ok (.if_icmp .ne 7, 3) := by decide +kernel
theorem dX9_hold_38 : decode cX9_hold 38 = .ok (.lconst 0, 1) := by decide +kernel
theorem dX9_hold_39 : decode cX9_hold 39 = .ok (.goto 12, 3) := by decide +kernel
theorem dX9_hold_42 : decode cX9_hold 42 = .ok (.aload_n 0, 1) := by decide +kernel
theorem dX9_hold_43 : decode cX9_hold 43 = .ok (.getfield 48, 3) := by decide +kernel
theorem dX9_hold_46 : decode cX9_hold 46 = .ok (.aload_n 0, 1) := by decide +kernel
theorem dX9_hold_47 : decode cX9_hold 47 = .ok (.getfield 34, 3) := by decide +kernel
theorem dX9_hold_50 : decode cX9_hold 50 = .ok (.laload, 1) := by decide +kernel
theorem dX9_hold_51 : decode cX9_hold 51 = .ok (.putfield 153, 3) := by decide +kernel
theorem dX9_hold_54 : decode cX9_hold 54 = .ok (.return_, 1) := by decide +kernel
theorem dX9_settle_0 : decode cX9_settle 0 = .ok (.aload_n 0, 1) := by decide +kernel
theorem dX9_settle_1 : decode cX9_settle 1 = .ok (.invokevirtual 147, 3) := by decide +kernel
theorem dX9_settle_4 : decode cX9_settle 4 = .ok (.aload_n 0, 1) := by decide +kernel
theorem dX9_settle_5 : decode cX9_settle 5 = .ok (.getfield 34, 3) := by decide +kernel
theorem dX9_settle_8 : decode cX9_settle 8 = .ok (.iconst (-1), 1) := by decide +kernel
theorem dX9_settle_9 : decode cX9_settle 9 = .ok (.if_icmp .eq 49, 3) := by decide +kernel
theorem dX9_settle_12 : decode cX9_settle 12 = .ok (.aload_n 0, 1) := by decide +kernel
theorem dX9_settle_13 : decode cX9_settle 13 = .ok (.dup, 1) := by decide +kernel
theorem dX9_settle_14 : decode cX9_settle 14 = .ok (.getfield 140, 3) := by decide +kernel
theorem dX9_settle_17 : decode cX9_settle 17 = .ok (.aload_n 0, 1) := by decide +kernel
theorem dX9_settle_18 : decode cX9_settle 18 = .ok (.getfield 150, 3) := by decide +kernel
theorem dX9_settle_21 : decode cX9_settle 21 = .ok (.aload_n 0, 1) := by decide +kernel
theorem dX9_settle_22 : decode cX9_settle 22 = .ok (.getfield 45, 3) := by decide +kernel
theorem dX9_settle_25 : decode cX9_settle 25 = .ok (.aload_n 0, 1) := by decide +kernel
theorem dX9_settle_26 : decode cX9_settle 26 = .ok (.getfield 34, 3) := by decide +kernel
theorem dX9_settle_29 : decode cX9_settle 29 = .ok (.laload, 1) := by decide +kernel
theorem dX9_settle_30 : decode cX9_settle 30 = .ok (.lsub, 1) := by decide +kernel
theorem dX9_settle_31 : decode cX9_settle 31 = .ok (.ladd, 1) := by decide +kernel
theorem dX9_settle_32 : decode cX9_settle 32 = .ok (.putfield 140, 3) := by decide +kernel
theorem dX9_settle_35 : decode cX9_settle 35 = .ok (.aload_n 0, 1) := by decide +kernel
theorem dX9_settle_36 : decode cX9_settle 36 = .ok (.dup, 1) := by decide +kernel
theorem dX9_settle_37 : decode cX9_settle 37 = .ok (.getfield 144, 3) := by decide +kernel
theorem dX9_settle_40 : decode cX9_settle 40 = .ok (.aload_n 0, 1) := by decide +kernel
theorem dX9_settle_41 : decode cX9_settle 41 = .ok (.getfield 153, 3) := by decide +kernel
theorem dX9_settle_44 : decode cX9_settle 44 = .ok (.aload_n 0, 1) := by decide +kernel
theorem dX9_settle_45 : decode cX9_settle 45 = .ok (.getfield 48, 3) := by decide +kernel
theorem dX9_settle_48 : decode cX9_settle 48 = .ok (.aload_n 0, 1) := by decide +kernel
theorem dX9_settle_49 : decode cX9_settle 49 = .ok (.getfield 34, 3) := by decide +kernel
theorem dX9_settle_52 : decode cX9_settle 52 = .ok (.laload, 1) := by decide +kernel
theorem dX9_settle_53 : decode cX9_settle 53 = .ok (.lsub, 1) := by decide +kernel
theorem dX9_settle_54 : decode cX9_settle 54 = .ok (.ladd, 1) := by decide +kernel
theorem dX9_settle_55 : decode cX9_settle 55 = .ok (.putfield 144, 3) := by decide +kernel
theorem dX9_settle_58 : decode cX9_settle 58 = .ok (.return_, 1) := by decide +kernel
theorem dX9_turn_0 : decode cX9_turn 0 = .ok (.aload_n 0, 1) := by decide +kernel
theorem dX9_turn_1 : decode cX9_turn 1 = .ok (.iload_n 1, 1) := by decide +kernel
theorem dX9_turn_2 : decode cX9_turn 2 = .ok (.invokevirtual 132, 3) := by decide +kernel
theorem dX9_turn_5 : decode cX9_turn 5 = .ok (.ifCond .eq 15, 3) := by decide +kernel
theorem dX9_turn_8 : decode cX9_turn 8 = .ok (.iload_n 2, 1) := by decide +kernel
theorem dX9_turn_9 : decode cX9_turn 9 = .ok (.i2l, 1) := by decide +kernel
theorem dX9_turn_10 : decode cX9_turn 10 = .ok (.lconst 0, 1) := by decide +kernel
theorem dX9_turn_11 : decode cX9_turn 11 = .ok (.ldc2_w 126, 3) := by decide +kernel
theorem dX9_turn_14 : decode cX9_turn 14 = .ok (.invokestatic 114, 3) := by decide +kernel
theorem dX9_turn_17 : decode cX9_turn 17 = .ok (.ifCond .ne 6, 3) := by decide +kernel
theorem dX9_turn_20 : decode cX9_turn 20 = .ok (.bipush (-2), 2) := by decide +kernel
theorem dX9_turn_22 : decode cX9_turn 22 = .ok (.ireturn, 1) := by decide +kernel
theorem dX9_turn_23 : decode cX9_turn 23 = .ok (.aload_n 0, 1) := by decide +kernel
theorem dX9_turn_24 : decode cX9_turn 24 = .ok (.iload_n 1, 1) := by decide +kernel
theorem dX9_turn_25 : decode cX9_turn 25 = .ok (.iload_n 2, 1) := by decide +kernel
theorem dX9_turn_26 : decode cX9_turn 26 = .ok (.invokevirtual 100, 3) := by decide +kernel
theorem dX9_turn_29 : decode cX9_turn 29 = .ok (.ifCond .ne 6, 3) := by decide +kernel
theorem dX9_turn_32 : decode cX9_turn 32 = .ok (.bipush (-3), 2) := by decide +kernel
theorem dX9_turn_34 : decode cX9_turn 34 = .ok (.ireturn, 1) := by decide +kernel
theorem dX9_turn_35 : decode cX9_turn 35 = .ok (.aload_n 0, 1) := by decide +kernel
theorem dX9_turn_36 : decode cX9_turn 36 = .ok (.getfield 31, 3) := by decide +kernel
theorem dX9_turn_39 : decode cX9_turn 39 = .ok (.iload_n 1, 1) := by decide +kernel
theorem dX9_turn_40 : decode cX9_turn 40 = .ok (.iaload, 1) := by decide +kernel
theorem dX9_turn_41 : decode cX9_turn 41 = .ok (.istore_n 3, 1) := by decide +kernel
theorem dX9_turn_42 : decode cX9_turn 42 = .ok (.aload_n 0, 1) := by decide +kernel
theorem dX9_turn_43 : decode cX9_turn 43 = .ok (.invokevirtual 156, 3) := by decide +kernel
theorem dX9_turn_46 : decode cX9_turn 46 = .ok (.aload_n 0, 1) := by decide +kernel
theorem dX9_turn_47 : decode cX9_turn 47 = .ok (.getfield 31, 3) := by decide +kernel
theorem dX9_turn_50 : decode cX9_turn 50 = .ok (.iload_n 1, 1) := by decide +kernel
theorem dX9_turn_51 : decode cX9_turn 51 = .ok (.iload_n 2, 1) := by decide +kernel
theorem dX9_turn_52 : decode cX9_turn 52 = .ok (.iastore, 1) := by decide +kernel
theorem dX9_turn_53 : decode cX9_turn 53 = .ok (.aload_n 0, 1) := by decide +kernel
theorem dX9_turn_54 : decode cX9_turn 54 = .ok (.invokevirtual 159, 3) := by decide +kernel
theorem dX9_turn_57 : decode cX9_turn 57 = .ok (.iload_n 3, 1) := by decide +kernel
theorem dX9_turn_58 : decode cX9_turn 58 = .ok (.ireturn, 1) := by decide +kernel
theorem dX9_root_0 : decode cX9_root 0 = .ok (.lload_n 1, 1) := by decide +kernel
theorem dX9_root_1 : decode cX9_root 1 = .ok (.lload_n 3, 1) := by decide +kernel
theorem dX9_root_2 : decode cX9_root 2 = .ok (.invokestatic 162, 3) := by decide +kernel
theorem dX9_root_5 : decode cX9_root 5 = .ok (.ifCond .ne 6, 3) := by decide +kernel
theorem dX9_root_8 : decode cX9_root 8 = .ok (.bipush (-2), 2) := by decide +kernel
theorem dX9_root_10 : decode cX9_root 10 = .ok (.ireturn, 1) := by decide +kernel
theorem dX9_root_11 : decode cX9_root 11 = .ok (.aload_n 0, 1) := by decide +kernel
theorem dX9_root_12 : decode cX9_root 12 = .ok (.getfield 34, 3) := by decide +kernel
theorem dX9_root_15 : decode cX9_root 15 = .ok (.iconst (-1), 1) := by decide +kernel
theorem dX9_root_16 : decode cX9_root 16 = .ok (.if_icmp .eq 6, 3) := by decide +kernel
theorem dX9_root_19 : decode cX9_root 19 = .ok (.bipush (-3), 2) := by decide +kernel
theorem dX9_root_21 : decode cX9_root 21 = .ok (.ireturn, 1) := by decide +kernel
theorem dX9_root_22 : decode cX9_root 22 = .ok (.aload_n 0, 1) := by decide +kernel
theorem dX9_root_23 : decode cX9_root 23 = .ok (.lload_n 1, 1) := by decide +kernel
theorem dX9_root_24 : decode cX9_root 24 = .ok (.putfield 140, 3) := by decide +kernel
theorem dX9_root_27 : decode cX9_root 27 = .ok (.aload_n 0, 1) := by decide +kernel
theorem dX9_root_28 : decode cX9_root 28 = .ok (.lload_n 3, 1) := by decide +kernel
theorem dX9_root_29 : decode cX9_root 29 = .ok (.putfield 144, 3) := by decide +kernel
theorem dX9_root_32 : decode cX9_root 32 = .ok (.iconst 1, 1) := by decide +kernel
theorem dX9_root_33 : decode cX9_root 33 = .ok (.ireturn, 1) := by decide +kernel
theorem dX9_end_0 : decode cX9_end 0 = .ok (.iload_n 1, 1) := by decide +kernel
theorem dX9_end_1 : decode cX9_end 1 = .ok (.i2l, 1) := by decide +kernel
theorem dX9_end_2 : decode cX9_end 2 = .ok (.ldc2_w 122, 3) := by decide +kernel
theorem dX9_end_5 : decode cX9_end 5 = .ok (.aload_n 0, 1) := by decide +kernel
theorem dX9_end_6 : decode cX9_end 6 = .ok (.getfield 111, 3) := by decide +kernel
theorem dX9_end_9 : decode cX9_end 9 = .ok (.iconst 1, 1) := by decide +kernel
theorem dX9_end_10 : decode cX9_end 10 = .ok (.isub, 1) := by decide +kernel
theorem dX9_end_11 : decode cX9_end 11 = .ok (.i2l, 1) := by decide +kernel
theorem dX9_end_12 : decode cX9_end 12 = .ok (.invokestatic 114, 3) := by decide +kernel
theorem dX9_end_15 : decode cX9_end 15 = .ok (.ifCond .eq 13, 3) := by decide +kernel
theorem dX9_end_18 : decode cX9_end 18 = .ok (.iload_n 2, 1) := by decide +kernel
theorem dX9_end_19 : decode cX9_end 19 = .ok (.i2l, 1) := by decide +kernel
theorem dX9_end_20 : decode cX9_end 20 = .ok (.lconst 0, 1) := by decide +kernel
theorem dX9_end_21 : decode cX9_end 21 = .ok (.lconst 1, 1) := by decide +kernel
theorem dX9_end_22 : decode cX9_end 22 = .ok (.invokestatic 114, 3) := by decide +kernel
theorem dX9_end_25 : decode cX9_end 25 = .ok (.ifCond .ne 9, 3) := by decide +kernel
theorem dX9_end_28 : decode cX9_end 28 = .ok (.bipush (-2), 2) := by decide +kernel
theorem dX9_end_30 : decode cX9_end 30 = .ok (.invokestatic 166, 3) := by decide +kernel
theorem dX9_end_33 : decode cX9_end 33 = .ok (.lreturn, 1) := by decide +kernel
theorem dX9_end_34 : decode cX9_end 34 = .ok (.aload_n 0, 1) := by decide +kernel
theorem dX9_end_35 : decode cX9_end 35 = .ok (.invokevirtual 147, 3) := by decide +kernel
theorem dX9_end_38 : decode cX9_end 38 = .ok (.iload_n 1, 1) := by decide +kernel
theorem dX9_end_39 : decode cX9_end 39 = .ok (.iconst (-1), 1) := by decide +kernel
theorem dX9_end_40 : decode cX9_end 40 = .ok (.if_icmp .ne 21, 3) := by decide +kernel
theorem dX9_end_43 : decode cX9_end 43 = .ok (.iload_n 2, 1) := by decide +kernel
theorem dX9_end_44 : decode cX9_end 44 = .ok (.ifCond .ne 10, 3) := by decide +kernel
theorem dX9_end_47 : decode cX9_end 47 = .ok (.aload_n 0, 1) := by decide +kernel
theorem dX9_end_48 : decode cX9_end 48 = .ok (.getfield 140, 3) := by decide +kernel
theorem dX9_end_51 : decode cX9_end 51 = .ok (.goto 29, 3) := by decide +kernel
theorem dX9_end_54 : decode cX9_end 54 = .ok (.aload_n 0, 1) := by decide +kernel
theorem dX9_end_55 : decode cX9_end 55 = .ok (.getfield 144, 3) := by decide +kernel
theorem dX9_end_58 : decode cX9_end 58 = .ok (.goto 22, 3) := by decide +kernel
theorem dX9_end_61 : decode cX9_end 61 = .ok (.iload_n 2, 1) := by decide +kernel
theorem dX9_end_62 : decode cX9_end 62 = .ok (.ifCond .ne 12, 3) := by decide +kernel
theorem dX9_end_65 : decode cX9_end 65 = .ok (.aload_n 0, 1) := by decide +kernel
theorem dX9_end_66 : decode cX9_end 66 = .ok (.getfield 45, 3) := by decide +kernel
theorem dX9_end_69 : decode cX9_end 69 = .ok (.iload_n 1, 1) := by decide +kernel
theorem dX9_end_70 : decode cX9_end 70 = .ok (.laload, 1) := by decide +kernel
theorem dX9_end_71 : decode cX9_end 71 = .ok (.goto 9, 3) := by decide +kernel
theorem dX9_end_74 : decode cX9_end 74 = .ok (.aload_n 0, 1) := by decide +kernel
theorem dX9_end_75 : decode cX9_end 75 = .ok (.getfield 48, 3) := by decide +kernel
theorem dX9_end_78 : decode cX9_end 78 = .ok (.iload_n 1, 1) := by decide +kernel
theorem dX9_end_79 : decode cX9_end 79 = .ok (.laload, 1) := by decide +kernel
theorem dX9_end_80 : decode cX9_end 80 = .ok (.lreturn, 1) := by decide +kernel
theorem dX9_farOf_0 : decode cX9_farOf 0 = .ok (.aload_n 0, 1) := by decide +kernel
theorem dX9_farOf_1 : decode cX9_farOf 1 = .ok (.invokevirtual 147, 3) := by decide +kernel
theorem dX9_farOf_4 : decode cX9_farOf 4 = .ok (.aload_n 0, 1) := by decide +kernel
theorem dX9_farOf_5 : decode cX9_farOf 5 = .ok (.getfield 45, 3) := by decide +kernel
theorem dX9_farOf_8 : decode cX9_farOf 8 = .ok (.iload_n 1, 1) := by decide +kernel
theorem dX9_farOf_9 : decode cX9_farOf 9 = .ok (.laload, 1) := by decide +kernel
theorem dX9_farOf_10 : decode cX9_farOf 10 = .ok (.lload_n 2, 1) := by decide +kernel
theorem dX9_farOf_11 : decode cX9_farOf 11 = .ok (.lcmp, 1) := by decide +kernel
theorem dX9_farOf_12 : decode cX9_farOf 12 = .ok (.ifCond .le 14, 3) := by decide +kernel
theorem dX9_farOf_15 : decode cX9_farOf 15 = .ok (.aload_n 0, 1) := by decide +kernel
theorem dX9_farOf_16 : decode cX9_farOf 16 = .ok (.getfield 45, 3) := by decide +kernel
theorem dX9_farOf_19 : decode cX9_farOf 19 = .ok (.iload_n 1, 1) := by decide +kernel
theorem dX9_farOf_20 : decode cX9_farOf 20 = .ok (.laload, 1) := by decide +kernel
theorem dX9_farOf_21 : decode cX9_farOf 21 = .ok (.lload_n 2, 1) := by decide +kernel
theorem dX9_farOf_22 : decode cX9_farOf 22 = .ok (.lsub, 1) := by decide +kernel
theorem dX9_farOf_23 : decode cX9_farOf 23 = .ok (.goto 11, 3) := by decide +kernel
theorem dX9_farOf_26 : decode cX9_farOf 26 = .ok (.lload_n 2, 1) := by decide +kernel
theorem dX9_farOf_27 : decode cX9_farOf 27 = .ok (.aload_n 0, 1) := by decide +kernel
theorem dX9_farOf_28 : decode cX9_farOf 28 = .ok (.getfield 45, 3) := by decide +kernel
theorem dX9_farOf_31 : decode cX9_farOf 31 = .ok (.iload_n 1, 1) := by decide +kernel
theorem dX9_farOf_32 : decode cX9_farOf 32 = .ok (.laload, 1) := by decide +kernel
theorem dX9_farOf_33 : decode cX9_farOf 33 = .ok (.lsub, 1) := by decide +kernel
theorem dX9_farOf_34 : decode cX9_farOf 34 = .ok (.lstore 6, 2) := by decide +kernel
theorem dX9_farOf_36 : decode cX9_farOf 36 = .ok (.aload_n 0, 1) := by decide +kernel
theorem dX9_farOf_37 : decode cX9_farOf 37 = .ok (.getfield 48, 3) := by decide +kernel
theorem dX9_farOf_40 : decode cX9_farOf 40 = .ok (.iload_n 1, 1) := by decide +kernel
theorem dX9_farOf_41 : decode cX9_farOf 41 = .ok (.laload, 1) := by decide +kernel
theorem dX9_farOf_42 : decode cX9_farOf 42 = .ok (.lload 4, 2) := by decide +kernel
theorem dX9_farOf_44 : decode cX9_farOf 44 = .ok (.lcmp, 1) := by decide +kernel
theorem dX9_farOf_45 : decode cX9_farOf 45 = .ok (.ifCond .le 15, 3) := by decide +kernel
theorem dX9_farOf_48 : decode cX9_farOf 48 = .ok (.aload_n 0, 1) := by decide +kernel
theorem dX9_farOf_49 : decode cX9_farOf 49 = .ok (.getfield 48, 3) := by decide +kernel
theorem dX9_farOf_52 : decode cX9_farOf 52 = .ok (.iload_n 1, 1) := by decide +kernel
theorem dX9_farOf_53 : decode cX9_farOf 53 = .ok (.laload, 1) := by decide +kernel
theorem dX9_farOf_54 : decode cX9_farOf 54 = .ok (.lload 4, 2) := by decide +kernel
theorem dX9_farOf_56 : decode cX9_farOf 56 = .ok (.lsub, 1) := by decide +kernel
theorem dX9_farOf_57 : decode cX9_farOf 57 = .ok (.goto 12, 3) := by decide +kernel
theorem dX9_farOf_60 : decode cX9_farOf 60 = .ok (.lload 4, 2) := by decide +kernel
theorem dX9_farOf_62 : decode cX9_farOf 62 = .ok (.aload_n 0, 1) := by decide +kernel
theorem dX9_farOf_63 : decode cX9_farOf 63 = .ok (.getfield 48, 3) := by decide +kernel
theorem dX9_farOf_66 : decode cX9_farOf 66 = .ok (.iload_n 1, 1) := by decide +kernel
theorem dX9_farOf_67 : decode cX9_farOf 67 = .ok (.laload, 1) := by decide +kernel
theorem dX9_farOf_68 : decode cX9_farOf 68 = .ok (.lsub, 1) := by decide +kernel
theorem dX9_farOf_69 : decode cX9_farOf 69 = .ok (.lstore 8, 2) := by decide +kernel
theorem dX9_farOf_71 : decode cX9_farOf 71 = .ok (.lload 6, 2) := by decide +kernel
theorem dX9_farOf_73 : decode cX9_farOf 73 = .ok (.lload 8, 2) := by decide +kernel
theorem dX9_farOf_75 : decode cX9_farOf 75 = .ok (.lcmp, 1) := by decide +kernel
theorem dX9_farOf_76 : decode cX9_farOf 76 = .ok (.ifCond .le 8, 3) := by decide +kernel
theorem dX9_farOf_79 : decode cX9_farOf 79 = .ok (.lload 6, 2) := by decide +kernel
theorem dX9_farOf_81 : decode cX9_farOf 81 = .ok (.goto 5, 3) := by decide +kernel
theorem dX9_farOf_84 : decode cX9_farOf 84 = .ok (.lload 8, 2) := by decide +kernel
theorem dX9_farOf_86 : decode cX9_farOf 86 = .ok (.lreturn, 1) := by decide +kernel
theorem dX9_far_0 : decode cX9_far 0 = .ok (.aload_n 0, 1) := by decide +kernel
theorem dX9_far_1 : decode cX9_far 1 = .ok (.iload_n 1, 1) := by decide +kernel
theorem dX9_far_2 : decode cX9_far 2 = .ok (.invokevirtual 132, 3) := by decide +kernel
theorem dX9_far_5 : decode cX9_far 5 = .ok (.ifCond .eq 23, 3) := by decide +kernel
theorem dX9_far_8 : decode cX9_far 8 = .ok (.lload_n 2, 1) := by decide +kernel
theorem dX9_far_9 : decode cX9_far 9 = .ok (.lload 4, 2) := by decide +kernel
theorem dX9_far_11 : decode cX9_far 11 = .ok (.invokestatic 162, 3) := by decide +kernel
theorem dX9_far_14 : decode cX9_far 14 = .ok (.ifCond .eq 14, 3) := by decide +kernel
theorem dX9_far_17 : decode cX9_far 17 = .ok (.aload_n 0, 1) := by decide +kernel
theorem dX9_far_18 : decode cX9_far 18 = .ok (.iload_n 1, 1) := by decide +kernel
theorem dX9_far_19 : decode cX9_far 19 = .ok (.lload_n 2, 1) := by decide +kernel
theorem dX9_far_20 : decode cX9_far 20 = .ok (.lload 4, 2) := by decide +kernel
theorem dX9_far_22 : decode cX9_far 22 = .ok (.invokevirtual 170, 3) := by decide +kernel
theorem dX9_far_25 : decode cX9_far 25 = .ok (.goto 8, 3) := by decide +kernel
theorem dX9_far_28 : decode cX9_far 28 = .ok (.bipush (-2), 2) := by decide +kernel
theorem dX9_far_30 : decode cX9_far 30 = .ok (.invokestatic 166, 3) := by decide +kernel
theorem dX9_far_33 : decode cX9_far 33 = .ok (.lreturn, 1) := by decide +kernel
theorem dX9_lock_0 : decode cX9_lock 0 = .ok (.iload_n 1, 1) := by decide +kernel
theorem dX9_lock_1 : decode cX9_lock 1 = .ok (.i2l, 1) := by decide +kernel
theorem dX9_lock_2 : decode cX9_lock 2 = .ok (.ldc2_w 122, 3) := by decide +kernel
theorem dX9_lock_5 : decode cX9_lock 5 = .ok (.aload_n 0, 1) := by decide +kernel
theorem dX9_lock_6 : decode cX9_lock 6 = .ok (.getfield 111, 3) := by decide +kernel
theorem dX9_lock_9 : decode cX9_lock 9 = .ok (.iconst 1, 1) := by decide +kernel
theorem dX9_lock_10 : decode cX9_lock 10 = .ok (.isub, 1) := by decide +kernel
theorem dX9_lock_11 : decode cX9_lock 11 = .ok (.i2l, 1) := by decide +kernel
theorem dX9_lock_12 : decode cX9_lock 12 = .ok (.invokestatic 114, 3) := by decide +kernel
theorem dX9_lock_15 : decode cX9_lock 15 = .ok (.ifCond .ne 6, 3) := by decide +kernel
theorem dX9_lock_18 : decode cX9_lock 18 = .ok (.bipush (-2), 2) := by decide +kernel
theorem dX9_lock_20 : decode cX9_lock 20 = .ok (.ireturn, 1) := by decide +kernel
theorem dX9_lock_21 : decode cX9_lock 21 = .ok (.aload_n 0, 1) := by decide +kernel
theorem dX9_lock_22 : decode cX9_lock 22 = .ok (.getfield 34, 3) := by decide +kernel
theorem dX9_lock_25 : decode cX9_lock 25 = .ok (.istore_n 2, 1) := by decide +kernel
theorem dX9_lock_26 : decode cX9_lock 26 = .ok (.aload_n 0, 1) := by decide +kernel
theorem dX9_lock_27 : decode cX9_lock 27 = .ok (.iload_n 1, 1) := by decide +kernel
theorem dX9_lock_28 : decode cX9_lock 28 = .ok (.putfield 34, 3) := by decide +kernel
theorem dX9_lock_31 : decode cX9_lock 31 = .ok (.iload_n 2, 1) := by decide +kernel
theorem dX9_lock_32 : decode cX9_lock 32 = .ok (.ireturn, 1) := by decide +kernel
theorem dX9_two_0 : decode cX9_two 0 = .ok (.aload_n 0, 1) := by decide +kernel
theorem dX9_two_1 : decode cX9_two 1 = .ok (.iload_n 1, 1) := by decide +kernel
theorem dX9_two_2 : decode cX9_two 2 = .ok (.invokevirtual 132, 3) := by decide +kernel
theorem dX9_two_5 : decode cX9_two 5 = .ok (.ifCond .eq 12, 3) := by decide +kernel
theorem dX9_two_8 : decode cX9_two 8 = .ok (.lload_n 2, 1) := by decide +kernel
theorem dX9_two_9 : decode cX9_two 9 = .ok (.lload 4, 2) := by decide +kernel
theorem dX9_two_11 : decode cX9_two 11 = .ok (.invokestatic 162, 3) := by decide +kernel
theorem dX9_two_14 : decode cX9_two 14 = .ok (.ifCond .ne 9, 3) := by decide +kernel
theorem dX9_two_17 : decode cX9_two 17 = .ok (.bipush (-2), 2) := by decide +kernel
theorem dX9_two_19 : decode cX9_two 19 = .ok (.invokestatic 166, 3) := by decide +kernel
theorem dX9_two_22 : decode cX9_two 22 = .ok (.lreturn, 1) := by decide +kernel
theorem dX9_two_23 : decode cX9_two 23 = .ok (.aload_n 0, 1) := by decide +kernel
theorem dX9_two_24 : decode cX9_two 24 = .ok (.getfield 34, 3) := by decide +kernel
theorem dX9_two_27 : decode cX9_two 27 = .ok (.iconst (-1), 1) := by decide +kernel
theorem dX9_two_28 : decode cX9_two 28 = .ok (.if_icmp .eq 9, 3) := by decide +kernel
theorem dX9_two_31 : decode cX9_two 31 = .ok (.bipush (-3), 2) := by decide +kernel
theorem dX9_two_33 : decode cX9_two 33 = .ok (.invokestatic 166, 3) := by decide +kernel
theorem dX9_two_36 : decode cX9_two 36 = .ok (.lreturn, 1) := by decide +kernel
theorem dX9_two_37 : decode cX9_two 37 = .ok (.aload_n 0, 1) := by decide +kernel
theorem dX9_two_38 : decode cX9_two 38 = .ok (.getfield 16, 3) := by decide +kernel
theorem dX9_two_41 : decode cX9_two 41 = .ok (.iload_n 1, 1) := by decide +kernel
theorem dX9_two_42 : decode cX9_two 42 = .ok (.iaload, 1) := by decide +kernel
theorem dX9_two_43 : decode cX9_two 43 = .ok (.istore 6, 2) := by decide +kernel
theorem dX9_two_45 : decode cX9_two 45 = .ok (.ldc2_w 122, 3) := by decide +kernel
theorem dX9_two_48 : decode cX9_two 48 = .ok (.lstore 7, 2) := by decide +kernel
theorem dX9_two_50 : decode cX9_two 50 = .ok (.iconst 0, 1) := by decide +kernel
theorem dX9_two_51 : decode cX9_two 51 = .ok (.istore 9, 2) := by decide +kernel
theorem dX9_two_53 : decode cX9_two 53 = .ok (.iconst 0, 1) := by decide +kernel
theorem dX9_two_54 : decode cX9_two 54 = .ok (.istore 10, 2) := by decide +kernel
theorem dX9_two_56 : decode cX9_two 56 = .ok (.iconst 0, 1) := by decide +kernel
theorem dX9_two_57 : decode cX9_two 57 = .ok (.istore 11, 2) := by decide +kernel
theorem dX9_two_59 : decode cX9_two 59 = .ok (.iload 11, 2) := by decide +kernel
theorem dX9_two_61 : decode cX9_two 61 = .ok (.bipush 36, 2) := by decide +kernel
theorem dX9_two_63 : decode cX9_two 63 = .ok (.if_icmp .ge 120, 3) := by decide +kernel
theorem dX9_two_66 : decode cX9_two 66 = .ok (.iload 6, 2) := by decide +kernel
theorem dX9_two_68 : decode cX9_two 68 = .ok (.iconst (-1), 1) := by decide +kernel
theorem dX9_two_69 : decode cX9_two 69 = .ok (.if_icmp .ne 11, 3) := by decide +kernel
theorem dX9_two_72 : decode cX9_two 72 = .ok (.iload 11, 2) := by decide +kernel
theorem dX9_two_74 : decode cX9_two 74 = .ok (.ifCond .ne 103, 3) := by decide +kernel
theorem dX9_two_77 : decode cX9_two 77 = .ok (.goto 14, 3) := by decide +kernel
theorem dX9_two_80 : decode cX9_two 80 = .ok (.aload_n 0, 1) := by decide +kernel
theorem dX9_two_81 : decode cX9_two 81 = .ok (.iload 6, 2) := by decide +kernel
theorem dX9_two_83 : decode cX9_two 83 = .ok (.iload 11, 2) := by decide +kernel
theorem dX9_two_85 : decode cX9_two 85 = .ok (.invokevirtual 100, 3) := by decide +kernel
theorem dX9_two_88 : decode cX9_two 88 = .ok (.ifCond .eq 89, 3) := by decide +kernel
theorem dX9_two_91 : decode cX9_two 91 = .ok (.iload 6, 2) := by decide +kernel
theorem dX9_two_93 : decode cX9_two 93 = .ok (.iconst (-1), 1) := by decide +kernel
theorem dX9_two_94 : decode cX9_two 94 = .ok (.if_icmp .eq 12, 3) := by decide +kernel
theorem dX9_two_97 : decode cX9_two 97 = .ok (.aload_n 0, 1) := by decide +kernel
theorem dX9_two_98 : decode cX9_two 98 = .ok (.getfield 31, 3) := by decide +kernel
theorem dX9_two_101 : decode cX9_two 101 = .ok (.iload 6, 2) := by decide +kernel
theorem dX9_two_103 : decode cX9_two 103 = .ok (.iload 11, 2) := by decide +kernel
theorem dX9_two_105 : decode cX9_two 105 = .ok (.iastore, 1) := by decide +kernel
theorem dX9_two_106 : decode cX9_two 106 = .ok (.iconst 0, 1) := by decide +kernel
theorem dX9_two_107 : decode cX9_two 107 = .ok (.istore 12, 2) := by decide +kernel
theorem dX9_two_109 : decode cX9_two 109 = .ok (.iload 12, 2) := by decide +kernel
theorem dX9_two_111 : decode cX9_two 111 = .ok (.bipush 36, 2) := by decide +kernel
theorem dX9_two_113 : decode cX9_two 113 = .ok (.if_icmp .ge 64, 3) := by decide +kernel
theorem dX9_two_116 : decode cX9_two 116 = .ok (.aload_n 0, 1) := by decide +kernel
theorem dX9_two_117 : decode cX9_two 117 = .ok (.iload_n 1, 1) := by decide +kernel
theorem dX9_two_118 : decode cX9_two 118 = .ok (.iload 12, 2) := by decide +kernel
theorem dX9_two_120 : decode cX9_two 120 = .ok (.invokevirtual 100, 3) := by decide +kernel
theorem dX9_two_123 : decode cX9_two 123 = .ok (.ifCond .eq 48, 3) := by decide +kernel
theorem dX9_two_126 : decode cX9_two 126 = .ok (.aload_n 0, 1) := by decide +kernel
theorem dX9_two_127 : decode cX9_two 127 = .ok (.getfield 31, 3) := by decide +kernel
theorem dX9_two_130 : decode cX9_two 130 = .ok (.iload_n 1, 1) := by decide +kernel
theorem dX9_two_131 : decode cX9_two 131 = .ok (.iload 12, 2) := by decide +kernel
theorem dX9_two_133 : decode cX9_two 133 = .ok (.iastore, 1) := by decide +kernel
theorem dX9_two_134 : decode cX9_two 134 = .ok (.aload_n 0, 1) := by decide +kernel
theorem dX9_two_135 : decode cX9_two 135 = .ok (.iload_n 1, 1) := by decide +kernel
theorem dX9_two_136 : decode cX9_two 136 = .ok (.lload_n 2, 1) := by decide +kernel
theorem dX9_two_137 : decode cX9_two 137 = .ok (.lload 4, 2) := by decide +kernel
theorem dX9_two_139 : decode cX9_two 139 = .ok (.invokevirtual 170, 3) := by decide +kernel
theorem dX9_two_142 : decode cX9_two 142 = .ok (.lstore 13, 2) := by decide +kernel
theorem dX9_two_144 : decode cX9_two 144 = .ok (.lload 7, 2) := by decide +kernel
theorem dX9_two_146 : decode cX9_two 146 = .ok (.lconst 0, 1) := by decide +kernel
theorem dX9_two_147 : decode cX9_two 147 = .ok (.lcmp, 1) := by decide +kernel
theorem dX9_two_148 : decode cX9_two 148 = .ok (.ifCond .lt 11, 3) := by decide +kernel
theorem dX9_two_151 : decode cX9_two 151 = .ok (.lload 13, 2) := by decide +kernel
theorem dX9_two_153 : decode cX9_two 153 = .ok (.lload 7, 2) := by decide +kernel
theorem dX9_two_155 : decode cX9_two 155 = .ok (.lcmp, 1) := by decide +kernel
theorem dX9_two_156 : decode cX9_two 156 = .ok (.ifCond .ge 15, 3) := by decide +kernel
theorem dX9_two_159 : decode cX9_two 159 = .ok (.lload 13, 2) := by decide +kernel
theorem dX9_two_161 : decode cX9_two 161 = .ok (.lstore 7, 2) := by decide +kernel
theorem dX9_two_163 : decode cX9_two 163 = .ok (.iload 11, 2) := by decide +kernel
theorem dX9_two_165 : decode cX9_two 165 = .ok (.istore 9, 2) := by decide +kernel
theorem dX9_two_167 : decode cX9_two 167 = .ok (.iload 12, 2) := by decide +kernel
theorem dX9_two_169 : decode cX9_two 169 = .ok (.istore 10, 2) := by decide +kernel
theorem dX9_two_171 : decode cX9_two 171 = .ok (.iinc 12 1, 3) := by decide +kernel
theorem dX9_two_174 : decode cX9_two 174 = .ok (.goto (-65), 3) := by decide +kernel
theorem dX9_two_177 : decode cX9_two 177 = .ok (.iinc 11 1, 3) := by decide +kernel
theorem dX9_two_180 : decode cX9_two 180 = .ok (.goto (-121), 3) := by decide +kernel
theorem dX9_two_183 : decode cX9_two 183 = .ok (.iload 6, 2) := by decide +kernel
theorem dX9_two_185 : decode cX9_two 185 = .ok (.iconst (-1), 1) := by decide +kernel
theorem dX9_two_186 : decode cX9_two 186 = .ok (.if_icmp .eq 12, 3) := by decide +kernel
theorem dX9_two_189 : decode cX9_two 189 = .ok (.aload_n 0, 1) := by decide +kernel
theorem dX9_two_190 : decode cX9_two 190 = .ok (.getfield 31, 3) := by decide +kernel
theorem dX9_two_193 : decode cX9_two 193 = .ok (.iload 6, 2) := by decide +kernel
theorem dX9_two_195 : decode cX9_two 195 = .ok (.iload 9, 2) := by decide +kernel
theorem dX9_two_197 : decode cX9_two 197 = .ok (.iastore, 1) := by decide +kernel
theorem dX9_two_198 : decode cX9_two 198 = .ok (.aload_n 0, 1) := by decide +kernel
theorem dX9_two_199 : decode cX9_two 199 = .ok (.getfield 31, 3) := by decide +kernel
theorem dX9_two_202 : decode cX9_two 202 = .ok (.iload_n 1, 1) := by decide +kernel
theorem dX9_two_203 : decode cX9_two 203 = .ok (.iload 10, 2) := by decide +kernel
theorem dX9_two_205 : decode cX9_two 205 = .ok (.iastore, 1) := by decide +kernel
theorem dX9_two_206 : decode cX9_two 206 = .ok (.lload 7, 2) := by decide +kernel
theorem dX9_two_208 : decode cX9_two 208 = .ok (.lreturn, 1) := by decide +kernel
theorem dX9_rounds_0 : decode cX9_rounds 0 = .ok (.aload_n 0, 1) := by decide +kernel
theorem dX9_rounds_1 : decode cX9_rounds 1 = .ok (.iload_n 1, 1) := by decide +kernel
theorem dX9_rounds_2 : decode cX9_rounds 2 = .ok (.invokevirtual 132, 3) := by decide +kernel
theorem dX9_rounds_5 : decode cX9_rounds 5 = .ok (.ifCond .eq 25, 3) := by decide +kernel
theorem dX9_rounds_8 : decode cX9_rounds 8 = .ok (.lload_n 2, 1) := by decide +kernel
theorem dX9_rounds_9 : decode cX9_rounds 9 = .ok (.lload 4, 2) := by decide +kernel
theorem dX9_rounds_11 : decode cX9_rounds 11 = .ok (.invokestatic 162, 3) := by decide +kernel
theorem dX9_rounds_14 : decode cX9_rounds 14 = .ok (.ifCond .eq 16, 3) := by decide +kernel
theorem dX9_rounds_17 : decode cX9_rounds 17 = .ok (.iload 6, 2) := by decide +kernel
theorem dX9_rounds_19 : decode cX9_rounds 19 = .ok (.i2l, 1) := by decide +kernel
theorem dX9_rounds_20 : decode cX9_rounds 20 = .ok (.lconst 1, 1) := by decide +kernel
theorem dX9_rounds_21 : decode cX9_rounds 21 = .ok (.ldc2_w 174, 3) := by decide +kernel
theorem dX9_rounds_24 : decode cX9_rounds 24 = .ok (.invokestatic 114, 3) := by decide +kernel
theorem dX9_rounds_27 : decode cX9_rounds 27 = .ok (.ifCond .ne 9, 3) := by decide +kernel
theorem dX9_rounds_30 : decode cX9_rounds 30 = .ok (.bipush (-2), 2) := by decide +kernel
theorem dX9_rounds_32 : decode cX9_rounds 32 = .ok (.invokestatic 166, 3) := by decide +kernel
theorem dX9_rounds_35 : decode cX9_rounds 35 = .ok (.lreturn, 1) := by decide +kernel
theorem dX9_rounds_36 : decode cX9_rounds 36 = .ok (.aload_n 0, 1) := by decide +kernel
theorem dX9_rounds_37 : decode cX9_rounds 37 = .ok (.getfield 34, 3) := by decide +kernel
theorem dX9_rounds_40 : decode cX9_rounds 40 = .ok (.iconst (-1), 1) := by decide +kernel
theorem dX9_rounds_41 : decode cX9_rounds 41 = .ok (.if_icmp .eq 9, 3) := by decide +kernel
theorem dX9_rounds_44 : decode cX9_rounds 44 = .ok (.bipush (-3), 2) := by decide +kernel
theorem dX9_rounds_46 : decode cX9_rounds 46 = .ok (.invokestatic 166, 3) := by decide +kernel
theorem dX9_rounds_49 : decode cX9_rounds 49 = .ok (.lreturn, 1) := by decide +kernel
theorem dX9_rounds_50 : decode cX9_rounds 50 = .ok (.iconst 0, 1) := by decide +kernel
theorem dX9_rounds_51 : decode cX9_rounds 51 = .ok (.istore 7, 2) := by decide +kernel
theorem dX9_rounds_53 : decode cX9_rounds 53 = .ok (.iload 7, 2) := by decide +kernel
theorem dX9_rounds_55 : decode cX9_rounds 55 = .ok (.iload 6, 2) := by decide +kernel
theorem dX9_rounds_57 : decode cX9_rounds 57 = .ok (.if_icmp .ge 120, 3) := by decide +kernel
theorem dX9_rounds_60 : decode cX9_rounds 60 = .ok (.iload_n 1, 1) := by decide +kernel
theorem dX9_rounds_61 : decode cX9_rounds 61 = .ok (.istore 8, 2) := by decide +kernel
theorem dX9_rounds_63 : decode cX9_rounds 63 = .ok (.iload 8, 2) := by decide +kernel
theorem dX9_rounds_65 : decode cX9_rounds 65 = .ok (.iconst (-1), 1) := by decide +kernel
theorem dX9_rounds_66 : decode cX9_rounds 66 = .ok (.if_icmp .eq 105, 3) := by decide +kernel
theorem dX9_rounds_69 : decode cX9_rounds 69 = .ok (.aload_n 0, 1) := by decide +kernel
theorem dX9_rounds_70 : decode cX9_rounds 70 = .ok (.getfield 31, 3) := by decide +kernel
theorem dX9_rounds_73 : decode cX9_rounds 73 = .ok (.iload 8, 2) := by decide +kernel
theorem dX9_rounds_75 : decode cX9_rounds 75 = .ok (.iaload, 1) := by decide +kernel
theorem dX9_rounds_76 : decode cX9_rounds 76 = .ok (.istore 9, 2) := by decide +kernel
theorem dX9_rounds_78 : decode cX9_rounds 78 = .ok (.aload_n 0, 1) := by decide +kernel
theorem dX9_rounds_79 : decode cX9_rounds 79 = .ok (.iload_n 1, 1) := by decide +kernel
theorem dX9_rounds_80 : decode cX9_rounds 80 = .ok (.lload_n 2, 1) := by decide +kernel
theorem dX9_rounds_81 : decode cX9_rounds 81 = .ok (.lload 4, 2) := by decide +kernel
theorem dX9_rounds_83 : decode cX9_rounds 83 = .ok (.invokevirtual 170, 3) := by decide +kernel
theorem dX9_rounds_86 : decode cX9_rounds 86 = .ok (.lstore 10, 2) := by decide +kernel
theorem dX9_rounds_88 : decode cX9_rounds 88 = .ok (.iconst 0, 1) := by decide +kernel
theorem dX9_rounds_89 : decode cX9_rounds 89 = .ok (.istore 12, 2) := by decide +kernel
theorem dX9_rounds_91 : decode cX9_rounds 91 = .ok (.iload 12, 2) := by decide +kernel
theorem dX9_rounds_93 : decode cX9_rounds 93 = .ok (.bipush 36, 2) := by decide +kernel
theorem dX9_rounds_95 : decode cX9_rounds 95 = .ok (.if_icmp .ge 55, 3) := by decide +kernel
theorem dX9_rounds_98 : decode cX9_rounds 98 = .ok (.aload_n 0, 1) := by decide +kernel
theorem dX9_rounds_99 : decode cX9_rounds 99 = .ok (.iload 8, 2) := by decide +kernel
theorem dX9_rounds_101 : decode cX9_rounds 101 = .ok (.iload 12, 2) := by decide +kernel
theorem dX9_rounds_103 : decode cX9_rounds 103 = .ok (.invokevirtual 100, 3) := by decide +kernel
theorem dX9_rounds_106 : decode cX9_rounds 106 = .ok (.ifCond .eq 38, 3) := by decide +kernel
theorem dX9_rounds_109 : decode cX9_rounds 109 = .ok (.aload_n 0, 1) := by decide +kernel
theorem dX9_rounds_110 : decode cX9_rounds 110 = .ok (.getfield 31, 3) := by decide +kernel
theorem dX9_rounds_113 : decode cX9_rounds 113 = .ok (.iload 8, 2) := by decide +kernel
theorem dX9_rounds_115 : decode cX9_rounds 115 = .ok (.iload 12, 2) := by decide +kernel
theorem dX9_rounds_117 : decode cX9_rounds 117 = .ok (.iastore, 1) := by decide +kernel
theorem dX9_rounds_118 : decode cX9_rounds 118 = .ok (.aload_n 0, 1) := by decide +kernel
theorem dX9_rounds_119 : decode cX9_rounds 119 = .ok (.iload_n 1, 1) := by decide +kernel
theorem dX9_rounds_120 : decode cX9_rounds 120 = .ok (.lload_n 2, 1) := by decide +kernel
theorem dX9_rounds_121 : decode cX9_rounds 121 = .ok (.lload 4, 2) := by decide +kernel
theorem dX9_rounds_123 : decode cX9_rounds 123 = .ok (.invokevirtual 170, 3) := by decide +kernel
theorem dX9_rounds_126 : decode cX9_rounds 126 = .ok (.lstore 13, 2) := by decide +kernel
theorem dX9_rounds_128 : decode cX9_rounds 128 = .ok (.lload 13, 2) := by decide +kernel
theorem dX9_rounds_130 : decode cX9_rounds 130 = .ok (.lload 10, 2) := by decide +kernel
theorem dX9_rounds_132 : decode cX9_rounds 132 = .ok (.lcmp, 1) := by decide +kernel
theorem dX9_rounds_133 : decode cX9_rounds 133 = .ok (.ifCond .ge 11, 3) := by decide +kernel
theorem dX9_rounds_136 : decode cX9_rounds 136 = .ok (.lload 13, 2) := by decide +kernel
theorem dX9_rounds_138 : decode cX9_rounds 138 = .ok (.lstore 10, 2) := by decide +kernel
theorem dX9_rounds_140 : decode cX9_rounds 140 = .ok (.iload 12, 2) := by decide +kernel
theorem dX9_rounds_142 : decode cX9_rounds 142 = .ok (.istore 9, 2) := by decide +kernel
theorem dX9_rounds_144 : decode cX9_rounds 144 = .ok (.iinc 12 1, 3) := by decide +kernel
theorem dX9_rounds_147 : decode cX9_rounds 147 = .ok (.goto (-56), 3) := by decide +kernel
theorem dX9_rounds_150 : decode cX9_rounds 150 = .ok (.aload_n 0, 1) := by decide +kernel
theorem dX9_rounds_151 : decode cX9_rounds 151 = .ok (.getfield 31, 3) := by decide +kernel
theorem dX9_rounds_154 : decode cX9_rounds 154 = .ok (.iload 8, 2) := by decide +kernel
theorem dX9_rounds_156 : decode cX9_rounds 156 = .ok (.iload 9, 2) := by decide +kernel
theorem dX9_rounds_158 : decode cX9_rounds 158 = .ok (.iastore, 1) := by decide +kernel
theorem dX9_rounds_159 : decode cX9_rounds 159 = .ok (.aload_n 0, 1) := by decide +kernel
theorem dX9_rounds_160 : decode cX9_rounds 160 = .ok (.getfield 16, 3) := by decide +kernel
theorem dX9_rounds_163 : decode cX9_rounds 163 = .ok (.iload 8, 2) := by decide +kernel
theorem dX9_rounds_165 : decode cX9_rounds 165 = .ok (.iaload, 1) := by decide +kernel
theorem dX9_rounds_166 : decode cX9_rounds 166 = .ok (.istore 8, 2) := by decide +kernel
theorem dX9_rounds_168 : decode cX9_rounds 168 = .ok (.goto (-105), 3) := by decide +kernel
theorem dX9_rounds_171 : decode cX9_rounds 171 = .ok (.iinc 7 1, 3) := by decide +kernel
theorem dX9_rounds_174 : decode cX9_rounds 174 = .ok (.goto (-121), 3) := by decide +kernel
theorem dX9_rounds_177 : decode cX9_rounds 177 = .ok (.aload_n 0, 1) := by decide +kernel
theorem dX9_rounds_178 : decode cX9_rounds 178 = .ok (.iload_n 1, 1) := by decide +kernel
theorem dX9_rounds_179 : decode cX9_rounds 179 = .ok (.lload_n 2, 1) := by decide +kernel
theorem dX9_rounds_180 : decode cX9_rounds 180 = .ok (.lload 4, 2) := by decide +kernel
theorem dX9_rounds_182 : decode cX9_rounds 182 = .ok (.invokevirtual 170, 3) := by decide +kernel
theorem dX9_rounds_185 : decode cX9_rounds 185 = .ok (.lreturn, 1) := by decide +kernel
theorem dX9_spot_0 : decode cX9_spot 0 = .ok (.sipush 300, 3) := by decide +kernel
theorem dX9_spot_3 : decode cX9_spot 3 = .ok (.iload_n 0, 1) := by decide +kernel
theorem dX9_spot_4 : decode cX9_spot 4 = .ok (.imul, 1) := by decide +kernel
theorem dX9_spot_5 : decode cX9_spot 5 = .ok (.bipush 10, 2) := by decide +kernel
theorem dX9_spot_7 : decode cX9_spot 7 = .ok (.iload_n 1, 1) := by decide +kernel
theorem dX9_spot_8 : decode cX9_spot 8 = .ok (.imul, 1) := by decide +kernel
theorem dX9_spot_9 : decode cX9_spot 9 = .ok (.iadd, 1) := by decide +kernel
theorem dX9_spot_10 : decode cX9_spot 10 = .ok (.ireturn, 1) := by decide +kernel
theorem dX9_isClip_0 : decode cX9_isClip 0 = .ok (.iload_n 0, 1) := by decide +kernel
theorem dX9_isClip_1 : decode cX9_isClip 1 = .ok (.i2l, 1) := by decide +kernel
theorem dX9_isClip_2 : decode cX9_isClip 2 = .ok (.lconst 0, 1) := by decide +kernel
theorem dX9_isClip_3 : decode cX9_isClip 3 = .ok (.ldc2_w 176, 3) := by decide +kernel
theorem dX9_isClip_6 : decode cX9_isClip 6 = .ok (.invokestatic 114, 3) := by decide +kernel
theorem dX9_isClip_9 : decode cX9_isClip 9 = .ok (.ireturn, 1) := by decide +kernel
theorem dX9_isFrame_0 : decode cX9_isFrame 0 = .ok (.iload_n 1, 1) := by decide +kernel
theorem dX9_isFrame_1 : decode cX9_isFrame 1 = .ok (.invokestatic 178, 3) := by decide +kernel
theorem dX9_isFrame_4 : decode cX9_isFrame 4 = .ok (.ifCond .eq 25, 3) := by decide +kernel
theorem dX9_isFrame_7 : decode cX9_isFrame 7 = .ok (.iload_n 2, 1) := by decide +kernel
theorem dX9_isFrame_8 : decode cX9_isFrame 8 = .ok (.i2l, 1) := by decide +kernel
theorem dX9_isFrame_9 : decode cX9_isFrame 9 = .ok (.lconst 0, 1) := by decide +kernel
theorem dX9_isFrame_10 : decode cX9_isFrame 10 = .ok (.aload_n 0, 1) := by decide +kernel
theorem dX9_isFrame_11 : decode cX9_isFrame 11 = .ok (.getfield 51, 3) := by decide +kernel
theorem dX9_isFrame_14 : decode cX9_isFrame 14 = .ok (.iload_n 1, 1) := by decide +kernel
theorem dX9_isFrame_15 : decode cX9_isFrame 15 = .ok (.iaload, 1) := by decide +kernel
theorem dX9_isFrame_16 : decode cX9_isFrame 16 = .ok (.iconst 1, 1) := by decide +kernel
theorem dX9_isFrame_17 : decode cX9_isFrame 17 = .ok (.isub, 1) := by decide +kernel
theorem dX9_isFrame_18 : decode cX9_isFrame 18 = .ok (.i2l, 1) := by decide +kernel
theorem dX9_isFrame_19 : decode cX9_isFrame 19 = .ok (.invokestatic 114, 3) := by decide +kernel
theorem dX9_isFrame_22 : decode cX9_isFrame 22 = .ok (.ifCond .eq 7, 3) := by decide +kernel
theorem dX9_isFrame_25 : decode cX9_isFrame 25 = .ok (.iconst 1, 1) := by decide +kernel
theorem dX9_isFrame_26 : decode cX9_isFrame 26 = .ok (.goto 4, 3) := by decide +kernel
theorem dX9_isFrame_29 : decode cX9_isFrame 29 = .ok (.iconst 0, 1) := by decide +kernel
theorem dX9_isFrame_30 : decode cX9_isFrame 30 = .ok (.ireturn, 1) := by decide +kernel
theorem dX9_frame_0 : decode cX9_frame 0 = .ok (.iload_n 1, 1) := by decide +kernel
theorem dX9_frame_1 : decode cX9_frame 1 = .ok (.invokestatic 178, 3) := by decide +kernel
theorem dX9_frame_4 : decode cX9_frame 4 = .ok (.ifCond .ne 6, 3) := by decide +kernel
theorem dX9_frame_7 : decode cX9_frame 7 = .ok (.bipush (-2), 2) := by decide +kernel
theorem dX9_frame_9 : decode cX9_frame 9 = .ok (.ireturn, 1) := by decide +kernel
theorem dX9_frame_10 : decode cX9_frame 10 = .ok (.aload_n 0, 1) := by decide +kernel
theorem dX9_frame_11 : decode cX9_frame 11 = .ok (.getfield 111, 3) := by decide +kernel
theorem dX9_frame_14 : decode cX9_frame 14 = .ok (.ifCond .ne 6, 3) := by decide +kernel
theorem dX9_frame_17 : decode cX9_frame 17 = .ok (.bipush (-3), 2) := by decide +kernel
theorem dX9_frame_19 : decode cX9_frame 19 = .ok (.ireturn, 1) := by decide +kernel
theorem dX9_frame_20 : decode cX9_frame 20 = .ok (.aload_n 0, 1) := by decide +kernel
theorem dX9_frame_21 : decode cX9_frame 21 = .ok (.getfield 51, 3) := by decide +kernel
theorem dX9_frame_24 : decode cX9_frame 24 = .ok (.iload_n 1, 1) := by decide +kernel
theorem dX9_frame_25 : decode cX9_frame 25 = .ok (.iaload, 1) := by decide +kernel
theorem dX9_frame_26 : decode cX9_frame 26 = .ok (.bipush 30, 2) := by decide +kernel
theorem dX9_frame_28 : decode cX9_frame 28 = .ok (.if_icmp .ne 6, 3) := by decide +kernel
theorem dX9_frame_31 : decode cX9_frame 31 = .ok (.bipush (-4), 2) := by decide +kernel
theorem dX9_frame_33 : decode cX9_frame 33 = .ok (.ireturn, 1) := by decide +kernel
theorem dX9_frame_34 : decode cX9_frame 34 = .ok (.iconst 0, 1) := by decide +kernel
theorem dX9_frame_35 : decode cX9_frame 35 = .ok (.istore_n 2, 1) := by decide +kernel
theorem dX9_frame_36 : decode cX9_frame 36 = .ok (.iload_n 2, 1) := by decide +kernel
theorem dX9_frame_37 : decode cX9_frame 37 = .ok (.aload_n 0, 1) := by decide +kernel
theorem dX9_frame_38 : decode cX9_frame 38 = .ok (.getfield 111, 3) := by decide +kernel
theorem dX9_frame_41 : decode cX9_frame 41 = .ok (.if_icmp .ge 32, 3) := by decide +kernel
theorem dX9_frame_44 : decode cX9_frame 44 = .ok (.aload_n 0, 1) := by decide +kernel
theorem dX9_frame_45 : decode cX9_frame 45 = .ok (.getfield 54, 3) := by decide +kernel
theorem dX9_frame_48 : decode cX9_frame 48 = .ok (.iload_n 1, 1) := by decide +kernel
theorem dX9_frame_49 : decode cX9_frame 49 = .ok (.aload_n 0, 1) := by decide +kernel
theorem dX9_frame_50 : decode cX9_frame 50 = .ok (.getfield 51, 3) := by decide +kernel
theorem dX9_frame_53 : decode cX9_frame 53 = .ok (.iload_n 1, 1) := by decide +kernel
theorem dX9_frame_54 : decode cX9_frame 54 = .ok (.iaload, 1) := by decide +kernel
theorem dX9_frame_55 : decode cX9_frame 55 = .ok (.invokestatic 181, 3) := by decide +kernel
theorem dX9_frame_58 : decode cX9_frame 58 = .ok (.iload_n 2, 1) := by decide +kernel
theorem dX9_frame_59 : decode cX9_frame 59 = .ok (.iadd, 1) := by decide +kernel
theorem dX9_frame_60 : decode cX9_frame 60 = .ok (.aload_n 0, 1) := by decide +kernel
theorem dX9_frame_61 : decode cX9_frame 61 = .ok (.getfield 31, 3) := by decide +kernel
theorem dX9_frame_64 : decode cX9_frame 64 = .ok (.iload_n 2, 1) := by decide +kernel
theorem dX9_frame_65 : decode cX9_frame 65 = .ok (.iaload, 1) := by decide +kernel
theorem dX9_frame_66 : decode cX9_frame 66 = .ok (.iastore, 1) := by decide +kernel
theorem dX9_frame_67 : decode cX9_frame 67 = .ok (.iinc 2 1, 3) := by decide +kernel
theorem dX9_frame_70 : decode cX9_frame 70 = .ok (.goto (-34), 3) := by decide +kernel
theorem dX9_frame_73 : decode cX9_frame 73 = .ok (.aload_n 0, 1) := by decide +kernel
theorem dX9_frame_74 : decode cX9_frame 74 = .ok (.getfield 51, 3) := by decide +kernel
theorem dX9_frame_77 : decode cX9_frame 77 = .ok (.iload_n 1, 1) := by decide +kernel
theorem dX9_frame_78 : decode cX9_frame 78 = .ok (.dup2, 1) := by decide +kernel
theorem dX9_frame_79 : decode cX9_frame 79 = .ok (.iaload, 1) := by decide +kernel
theorem dX9_frame_80 : decode cX9_frame 80 = .ok (.iconst 1, 1) := by decide +kernel
theorem dX9_frame_81 : decode cX9_frame 81 = .ok (.iadd, 1) := by decide +kernel
theorem dX9_frame_82 : decode cX9_frame 82 = .ok (.iastore, 1) := by decide +kernel
theorem dX9_frame_83 : decode cX9_frame 83 = .ok (.aload_n 0, 1) := by decide +kernel
theorem dX9_frame_84 : decode cX9_frame 84 = .ok (.getfield 51, 3) := by decide +kernel
theorem dX9_frame_87 : decode cX9_frame 87 = .ok (.iload_n 1, 1) := by decide +kernel
theorem dX9_frame_88 : decode cX9_frame 88 = .ok (.iaload, 1) := by decide +kernel
theorem dX9_frame_89 : decode cX9_frame 89 = .ok (.ireturn, 1) := by decide +kernel
theorem dX9_clear_0 : decode cX9_clear 0 = .ok (.iload_n 1, 1) := by decide +kernel
theorem dX9_clear_1 : decode cX9_clear 1 = .ok (.invokestatic 178, 3) := by decide +kernel
theorem dX9_clear_4 : decode cX9_clear 4 = .ok (.ifCond .ne 6, 3) := by decide +kernel
theorem dX9_clear_7 : decode cX9_clear 7 = .ok (.bipush (-2), 2) := by decide +kernel
theorem dX9_clear_9 : decode cX9_clear 9 = .ok (.ireturn, 1) := by decide +kernel
theorem dX9_clear_10 : decode cX9_clear 10 = .ok (.aload_n 0, 1) := by decide +kernel
theorem dX9_clear_11 : decode cX9_clear 11 = .ok (.getfield 51, 3) := by decide +kernel
theorem dX9_clear_14 : decode cX9_clear 14 = .ok (.iload_n 1, 1) := by decide +kernel
theorem dX9_clear_15 : decode cX9_clear 15 = .ok (.iaload, 1) := by decide +kernel
theorem dX9_clear_16 : decode cX9_clear 16 = .ok (.istore_n 2, 1) := by decide +kernel
theorem dX9_clear_17 : decode cX9_clear 17 = .ok (.aload_n 0, 1) := by decide +kernel
theorem dX9_clear_18 : decode cX9_clear 18 = .ok (.getfield 51, 3) := by decide +kernel
theorem dX9_clear_21 : decode cX9_clear 21 = .ok (.iload_n 1, 1) := by decide +kernel
theorem dX9_clear_22 : decode cX9_clear 22 = .ok (.iconst 0, 1) := by decide +kernel
theorem dX9_clear_23 : decode cX9_clear 23 = .ok (.iastore, 1) := by decide +kernel
theorem dX9_clear_24 : decode cX9_clear 24 = .ok (.iload_n 2, 1) := by decide +kernel
theorem dX9_clear_25 : decode cX9_clear 25 = .ok (.ireturn, 1) := by decide +kernel
theorem dX9_show_0 : decode cX9_show 0 = .ok (.aload_n 0, 1) := by decide +kernel
theorem dX9_show_1 : decode cX9_show 1 = .ok (.iload_n 1, 1) := by decide +kernel
theorem dX9_show_2 : decode cX9_show 2 = .ok (.iload_n 2, 1) := by decide +kernel
theorem dX9_show_3 : decode cX9_show 3 = .ok (.invokevirtual 184, 3) := by decide +kernel
theorem dX9_show_6 : decode cX9_show 6 = .ok (.ifCond .ne 6, 3) := by decide +kernel
theorem dX9_show_9 : decode cX9_show 9 = .ok (.bipush (-2), 2) := by decide +kernel
theorem dX9_show_11 : decode cX9_show 11 = .ok (.ireturn, 1) := by decide +kernel
theorem dX9_show_12 : decode cX9_show 12 = .ok (.aload_n 0, 1) := by decide +kernel
theorem dX9_show_13 : decode cX9_show 13 = .ok (.invokevirtual 156, 3) := by decide +kernel
theorem dX9_show_16 : decode cX9_show 16 = .ok (.iconst 0, 1) := by decide +kernel
theorem dX9_show_17 : decode cX9_show 17 = .ok (.istore_n 3, 1) := by decide +kernel
theorem dX9_show_18 : decode cX9_show 18 = .ok (.iload_n 3, 1) := by decide +kernel
theorem dX9_show_19 : decode cX9_show 19 = .ok (.aload_n 0, 1) := by decide +kernel
theorem dX9_show_20 : decode cX9_show 20 = .ok (.getfield 111, 3) := by decide +kernel
theorem dX9_show_23 : decode cX9_show 23 = .ok (.if_icmp .ge 27, 3) := by decide +kernel
theorem dX9_show_26 : decode cX9_show 26 = .ok (.aload_n 0, 1) := by decide +kernel
theorem dX9_show_27 : decode cX9_show 27 = .ok (.getfield 31, 3) := by decide +kernel
theorem dX9_show_30 : decode cX9_show 30 = .ok (.iload_n 3, 1) := by decide +kernel
theorem dX9_show_31 : decode cX9_show 31 = .ok (.aload_n 0, 1) := by decide +kernel
theorem dX9_show_32 : decode cX9_show 32 = .ok (.getfield 54, 3) := by decide +kernel
theorem dX9_show_35 : decode cX9_show 35 = .ok (.iload_n 1, 1) := by decide +kernel
theorem dX9_show_36 : decode cX9_show 36 = .ok (.iload_n 2, 1) := by decide +kernel
theorem dX9_show_37 : decode cX9_show 37 = .ok (.invokestatic 181, 3) := by decide +kernel
theorem dX9_show_40 : decode cX9_show 40 = .ok (.iload_n 3, 1) := by decide +kernel
theorem dX9_show_41 : decode cX9_show 41 = .ok (.iadd, 1) := by decide +kernel
theorem dX9_show_42 : decode cX9_show 42 = .ok (.iaload, 1) := by decide +kernel
theorem dX9_show_43 : decode cX9_show 43 = .ok (.iastore, 1) := by decide +kernel
theorem dX9_show_44 : decode cX9_show 44 = .ok (.iinc 3 1, 3) := by decide +kernel
theorem dX9_show_47 : decode cX9_show 47 = .ok (.goto (-29), 3) := by decide +kernel
theorem dX9_show_50 : decode cX9_show 50 = .ok (.aload_n 0, 1) := by decide +kernel
theorem dX9_show_51 : decode cX9_show 51 = .ok (.invokevirtual 159, 3) := by decide +kernel
theorem dX9_show_54 : decode cX9_show 54 = .ok (.iconst 1, 1) := by decide +kernel
theorem dX9_show_55 : decode cX9_show 55 = .ok (.ireturn, 1) := by decide +kernel
theorem dX9_at_0 : decode cX9_at 0 = .ok (.aload_n 0, 1) := by decide +kernel
theorem dX9_at_1 : decode cX9_at 1 = .ok (.iload_n 1, 1) := by decide +kernel
theorem dX9_at_2 : decode cX9_at 2 = .ok (.iload_n 2, 1) := by decide +kernel
theorem dX9_at_3 : decode cX9_at 3 = .ok (.invokevirtual 184, 3) := by decide +kernel
theorem dX9_at_6 : decode cX9_at 6 = .ok (.ifCond .eq 26, 3) := by decide +kernel
theorem dX9_at_9 : decode cX9_at 9 = .ok (.aload_n 0, 1) := by decide +kernel
theorem dX9_at_10 : decode cX9_at 10 = .ok (.iload_n 3, 1) := by decide +kernel
theorem dX9_at_11 : decode cX9_at 11 = .ok (.invokevirtual 132, 3) := by decide +kernel
theorem dX9_at_14 : decode cX9_at 14 = .ok (.ifCond .eq 18, 3) := by decide +kernel
theorem dX9_at_17 : decode cX9_at 17 = .ok (.aload_n 0, 1) := by decide +kernel
theorem dX9_at_18 : decode cX9_at 18 = .ok (.getfield 54, 3) := by decide +kernel
theorem dX9_at_21 : decode cX9_at 21 = .ok (.iload_n 1, 1) := by decide +kernel
theorem dX9_at_22 : decode cX9_at 22 = .ok (.iload_n 2, 1) := by decide +kernel
theorem dX9_at_23 : decode cX9_at 23 = .ok (.invokestatic 181, 3) := by decide +kernel
theorem dX9_at_26 : decode cX9_at 26 = .ok (.iload_n 3, 1) := by decide +kernel
theorem dX9_at_27 : decode cX9_at 27 = .ok (.iadd, 1) := by decide +kernel
theorem dX9_at_28 : decode cX9_at 28 = .ok (.iaload, 1) := by decide +kernel
theorem dX9_at_29 : decode cX9_at 29 = .ok (.goto 5, 3) := by decide +kernel
theorem dX9_at_32 : decode cX9_at 32 = .ok (.bipush (-2), 2) := by decide +kernel
theorem dX9_at_34 : decode cX9_at 34 = .ok (.ireturn, 1) := by decide +kernel
theorem dX9_blended_0 : decode cX9_blended 0 = .ok (.aload_n 0, 1) := by decide +kernel
theorem dX9_blended_1 : decode cX9_blended 1 = .ok (.iload_n 1, 1) := by decide +kernel
theorem dX9_blended_2 : decode cX9_blended 2 = .ok (.iload_n 2, 1) := by decide +kernel
theorem dX9_blended_3 : decode cX9_blended 3 = .ok (.iload_n 2, 1) := by decide +kernel
theorem dX9_blended_4 : decode cX9_blended 4 = .ok (.iload_n 3, 1) := by decide +kernel
theorem dX9_blended_5 : decode cX9_blended 5 = .ok (.invokestatic 104, 3) := by decide +kernel
theorem dX9_blended_8 : decode cX9_blended 8 = .ok (.iload 4, 2) := by decide +kernel
theorem dX9_blended_10 : decode cX9_blended 10 = .ok (.imul, 1) := by decide +kernel
theorem dX9_blended_11 : decode cX9_blended 11 = .ok (.bipush 100, 2) := by decide +kernel
theorem dX9_blended_13 : decode cX9_blended 13 = .ok (.idiv, 1) := by decide +kernel
theorem dX9_blended_14 : decode cX9_blended 14 = .ok (.iadd, 1) := by decide +kernel
theorem dX9_blended_15 : decode cX9_blended 15 = .ok (.invokestatic 96, 3) := by decide +kernel
theorem dX9_blended_18 : decode cX9_blended 18 = .ok (.invokevirtual 187, 3) := by decide +kernel
theorem dX9_blended_21 : decode cX9_blended 21 = .ok (.ireturn, 1) := by decide +kernel
theorem dX9_blend_0 : decode cX9_blend 0 = .ok (.aload_n 0, 1) := by decide +kernel
theorem dX9_blend_1 : decode cX9_blend 1 = .ok (.iload_n 1, 1) := by decide +kernel
theorem dX9_blend_2 : decode cX9_blend 2 = .ok (.iload_n 2, 1) := by decide +kernel
theorem dX9_blend_3 : decode cX9_blend 3 = .ok (.invokevirtual 184, 3) := by decide +kernel
theorem dX9_blend_6 : decode cX9_blend 6 = .ok (.ifCond .eq 28, 3) := by decide +kernel
theorem dX9_blend_9 : decode cX9_blend 9 = .ok (.iload_n 3, 1) := by decide +kernel
theorem dX9_blend_10 : decode cX9_blend 10 = .ok (.i2l, 1) := by decide +kernel
theorem dX9_blend_11 : decode cX9_blend 11 = .ok (.lconst 0, 1) := by decide +kernel
theorem dX9_blend_12 : decode cX9_blend 12 = .ok (.ldc2_w 124, 3) := by decide +kernel
theorem dX9_blend_15 : decode cX9_blend 15 = .ok (.invokestatic 114, 3) := by decide +kernel
theorem dX9_blend_18 : decode cX9_blend 18 = .ok (.ifCond .eq 16, 3) := by decide +kernel
theorem dX9_blend_21 : decode cX9_blend 21 = .ok (.iload 4, 2) := by decide +kernel
theorem dX9_blend_23 : decode cX9_blend 23 = .ok (.i2l, 1) := by decide +kernel
theorem dX9_blend_24 : decode cX9_blend 24 = .ok (.lconst 0, 1) := by decide +kernel
theorem dX9_blend_25 : decode cX9_blend 25 = .ok (.ldc2_w 190, 3) := by decide +kernel
theorem dX9_blend_28 : decode cX9_blend 28 = .ok (.invokestatic 114, 3) := by decide +kernel
theorem dX9_blend_31 : decode cX9_blend 31 = .ok (.ifCond .ne 6, 3) := by decide +kernel
theorem dX9_blend_34 : decode cX9_blend 34 = .ok (.bipush (-2), 2) := by decide +kernel
theorem dX9_blend_36 : decode cX9_blend 36 = .ok (.ireturn, 1) := by decide +kernel
theorem dX9_blend_37 : decode cX9_blend 37 = .ok (.aload_n 0, 1) := by decide +kernel
theorem dX9_blend_38 : decode cX9_blend 38 = .ok (.invokevirtual 156, 3) := by decide +kernel
theorem dX9_blend_41 : decode cX9_blend 41 = .ok (.iconst 0, 1) := by decide +kernel
theorem dX9_blend_42 : decode cX9_blend 42 = .ok (.istore 5, 2) := by decide +kernel
theorem dX9_blend_44 : decode cX9_blend 44 = .ok (.iload 5, 2) := by decide +kernel
theorem dX9_blend_46 : decode cX9_blend 46 = .ok (.aload_n 0, 1) := by decide +kernel
theorem dX9_blend_47 : decode cX9_blend 47 = .ok (.getfield 111, 3) := by decide +kernel
theorem dX9_blend_50 : decode cX9_blend 50 = .ok (.if_icmp .ge 54, 3) := by decide +kernel
theorem dX9_blend_53 : decode cX9_blend 53 = .ok (.iload 4, 2) := by decide +kernel
theorem dX9_blend_55 : decode cX9_blend 55 = .ok (.iload 5, 2) := by decide +kernel
theorem dX9_blend_57 : decode cX9_blend 57 = .ok (.ishr, 1) := by decide +kernel
theorem dX9_blend_58 : decode cX9_blend 58 = .ok (.iconst 1, 1) := by decide +kernel
theorem dX9_blend_59 : decode cX9_blend 59 = .ok (.iand, 1) := by decide +kernel
theorem dX9_blend_60 : decode cX9_blend 60 = .ok (.iconst 1, 1) := by decide +kernel
theorem dX9_blend_61 : decode cX9_blend 61 = .ok (.if_icmp .ne 37, 3) := by decide +kernel
theorem dX9_blend_64 : decode cX9_blend 64 = .ok (.aload_n 0, 1) := by decide +kernel
theorem dX9_blend_65 : decode cX9_blend 65 = .ok (.getfield 31, 3) := by decide +kernel
theorem dX9_blend_68 : decode cX9_blend 68 = .ok (.iload 5, 2) := by decide +kernel
theorem dX9_blend_70 : decode cX9_blend 70 = .ok (.aload_n 0, 1) := by decide +kernel
theorem dX9_blend_71 : decode cX9_blend 71 = .ok (.iload 5, 2) := by decide +kernel
theorem dX9_blend_73 : decode cX9_blend 73 = .ok (.aload_n 0, 1) := by decide +kernel
theorem dX9_blend_74 : decode cX9_blend 74 = .ok (.getfield 31, 3) := by decide +kernel
theorem dX9_blend_77 : decode cX9_blend 77 = .ok (.iload 5, 2) := by decide +kernel
theorem dX9_blend_79 : decode cX9_blend 79 = .ok (.iaload, 1) := by decide +kernel
theorem dX9_blend_80 : decode cX9_blend 80 = .ok (.aload_n 0, 1) := by decide +kernel
theorem dX9_blend_81 : decode cX9_blend 81 = .ok (.getfield 54, 3) := by decide +kernel
theorem dX9_blend_84 : decode cX9_blend 84 = .ok (.iload_n 1, 1) := by decide +kernel
theorem dX9_blend_85 : decode cX9_blend 85 = .ok (.iload_n 2, 1) := by decide +kernel
theorem dX9_blend_86 : decode cX9_blend 86 = .ok (.invokestatic 181, 3) := by decide +kernel
theorem dX9_blend_89 : decode cX9_blend 89 = .ok (.iload 5, 2) := by decide +kernel
theorem dX9_blend_91 : decode cX9_blend 91 = .ok (.iadd, 1) := by decide +kernel
theorem dX9_blend_92 : decode cX9_blend 92 = .ok (.iaload, 1) := by decide +kernel
theorem dX9_blend_93 : decode cX9_blend 93 = .ok (.iload_n 3, 1) := by decide +kernel
theorem dX9_blend_94 : decode cX9_blend 94 = .ok (.invokevirtual 192, 3) := by decide +kernel
theorem dX9_blend_97 : decode cX9_blend 97 = .ok (.iastore, 1) := by decide +kernel
theorem dX9_blend_98 : decode cX9_blend 98 = .ok (.iinc 5 1, 3) := by decide +kernel
theorem dX9_blend_101 : decode cX9_blend 101 = .ok (.goto (-57), 3) := by decide +kernel
theorem dX9_blend_104 : decode cX9_blend 104 = .ok (.aload_n 0, 1) := by decide +kernel
theorem dX9_blend_105 : decode cX9_blend 105 = .ok (.invokevirtual 159, 3) := by decide +kernel
theorem dX9_blend_108 : decode cX9_blend 108 = .ok (.iconst 1, 1) := by decide +kernel
theorem dX9_blend_109 : decode cX9_blend 109 = .ok (.ireturn, 1) := by decide +kernel
theorem dX9_add_0 : decode cX9_add 0 = .ok (.aload_n 0, 1) := by decide +kernel
theorem dX9_add_1 : decode cX9_add 1 = .ok (.iload_n 1, 1) := by decide +kernel
theorem dX9_add_2 : decode cX9_add 2 = .ok (.iload_n 2, 1) := by decide +kernel
theorem dX9_add_3 : decode cX9_add 3 = .ok (.invokevirtual 184, 3) := by decide +kernel
theorem dX9_add_6 : decode cX9_add 6 = .ok (.ifCond .eq 12, 3) := by decide +kernel
theorem dX9_add_9 : decode cX9_add 9 = .ok (.aload_n 0, 1) := by decide +kernel
theorem dX9_add_10 : decode cX9_add 10 = .ok (.iload_n 1, 1) := by decide +kernel
theorem dX9_add_11 : decode cX9_add 11 = .ok (.iload_n 3, 1) := by decide +kernel
theorem dX9_add_12 : decode cX9_add 12 = .ok (.invokevirtual 184, 3) := by decide +kernel
theorem dX9_add_15 : decode cX9_add 15 = .ok (.ifCond .ne 6, 3) := by decide +kernel
theorem dX9_add_18 : decode cX9_add 18 = .ok (.bipush (-2), 2) := by decide +kernel
theorem dX9_add_20 : decode cX9_add 20 = .ok (.ireturn, 1) := by decide +kernel
theorem dX9_add_21 : decode cX9_add 21 = .ok (.iconst 0, 1) := by decide +kernel
theorem dX9_add_22 : decode cX9_add 22 = .ok (.istore 4, 2) := by decide +kernel
theorem dX9_add_24 : decode cX9_add 24 = .ok (.aload_n 0, 1) := by decide +kernel
theorem dX9_add_25 : decode cX9_add 25 = .ok (.invokevirtual 156, 3) := by decide +kernel
theorem dX9_add_28 : decode cX9_add 28 = .ok (.iconst 0, 1) := by decide +kernel
theorem dX9_add_29 : decode cX9_add 29 = .ok (.istore 5, 2) := by decide +kernel
theorem dX9_add_31 : decode cX9_add 31 = .ok (.iload 5, 2) := by decide +kernel
theorem dX9_add_33 : decode cX9_add 33 = .ok (.aload_n 0, 1) := by decide +kernel
theorem dX9_add_34 : decode cX9_add 34 = .ok (.getfield 111, 3) := by decide +kernel
theorem dX9_add_37 : decode cX9_add 37 = .ok (.if_icmp .ge 87, 3) := by decide +kernel
theorem dX9_add_40 : decode cX9_add 40 = .ok (.aload_n 0, 1) := by decide +kernel
theorem dX9_add_41 : decode cX9_add 41 = .ok (.getfield 31, 3) := by decide +kernel
theorem dX9_add_44 : decode cX9_add 44 = .ok (.iload 5, 2) := by decide +kernel
theorem dX9_add_46 : decode cX9_add 46 = .ok (.iaload, 1) := by decide +kernel
theorem dX9_add_47 : decode cX9_add 47 = .ok (.aload_n 0, 1) := by decide +kernel
theorem dX9_add_48 : decode cX9_add 48 = .ok (.getfield 54, 3) := by decide +kernel
theorem dX9_add_51 : decode cX9_add 51 = .ok (.iload_n 1, 1) := by decide +kernel
theorem dX9_add_52 : decode cX9_add 52 = .ok (.iload_n 3, 1) := by decide +kernel
theorem dX9_add_53 : decode cX9_add 53 = .ok (.invokestatic 181, 3) := by decide +kernel
theorem dX9_add_56 : decode cX9_add 56 = .ok (.iload 5, 2) := by decide +kernel
theorem dX9_add_58 : decode cX9_add 58 = .ok (.iadd, 1) := by decide +kernel
theorem dX9_add_59 : decode cX9_add 59 = .ok (.iaload, 1) := by decide +kernel
theorem dX9_add_60 : decode cX9_add 60 = .ok (.aload_n 0, 1) := by decide +kernel
theorem dX9_add_61 : decode cX9_add 61 = .ok (.getfield 54, 3) := by decide +kernel
theorem dX9_add_64 : decode cX9_add 64 = .ok (.iload_n 1, 1) := by decide +kernel
theorem dX9_add_65 : decode cX9_add 65 = .ok (.iload_n 2, 1) := by decide +kernel
theorem dX9_add_66 : decode cX9_add 66 = .ok (.invokestatic 181, 3) := by decide +kernel
theorem dX9_add_69 : decode cX9_add 69 = .ok (.iload 5, 2) := by decide +kernel
theorem dX9_add_71 : decode cX9_add 71 = .ok (.iadd, 1) := by decide +kernel
theorem dX9_add_72 : decode cX9_add 72 = .ok (.iaload, 1) := by decide +kernel
theorem dX9_add_73 : decode cX9_add 73 = .ok (.invokestatic 104, 3) := by decide +kernel
theorem dX9_add_76 : decode cX9_add 76 = .ok (.iadd, 1) := by decide +kernel
theorem dX9_add_77 : decode cX9_add 77 = .ok (.invokestatic 96, 3) := by decide +kernel
theorem dX9_add_80 : decode cX9_add 80 = .ok (.istore 6, 2) := by decide +kernel
theorem dX9_add_82 : decode cX9_add 82 = .ok (.iload 4, 2) := by decide +kernel
theorem dX9_add_84 : decode cX9_add 84 = .ok (.aload_n 0, 1) := by decide +kernel
theorem dX9_add_85 : decode cX9_add 85 = .ok (.iload 5, 2) := by decide +kernel
theorem dX9_add_87 : decode cX9_add 87 = .ok (.iload 6, 2) := by decide +kernel
theorem dX9_add_89 : decode cX9_add 89 = .ok (.invokevirtual 100, 3) := by decide +kernel
theorem dX9_add_92 : decode cX9_add 92 = .ok (.ifCond .eq 7, 3) := by decide +kernel
theorem dX9_add_95 : decode cX9_add 95 = .ok (.iconst 0, 1) := by decide +kernel
theorem dX9_add_96 : decode cX9_add 96 = .ok (.goto 4, 3) := by decide +kernel
theorem dX9_add_99 : decode cX9_add 99 = .ok (.iconst 1, 1) := by decide +kernel
theorem dX9_add_100 : decode cX9_add 100 = .ok (.iadd, 1) := by decide +kernel
theorem dX9_add_101 : decode cX9_add 101 = .ok (.istore 4, 2) := by decide +kernel
theorem dX9_add_103 : decode cX9_add 103 = .ok (.aload_n 0, 1) := by decide +kernel
theorem dX9_add_104 : decode cX9_add 104 = .ok (.getfield 31, 3) := by decide +kernel
theorem dX9_add_107 : decode cX9_add 107 = .ok (.iload 5, 2) := by decide +kernel
theorem dX9_add_109 : decode cX9_add 109 = .ok (.aload_n 0, 1) := by decide +kernel
theorem dX9_add_110 : decode cX9_add 110 = .ok (.iload 5, 2) := by decide +kernel
theorem dX9_add_112 : decode cX9_add 112 = .ok (.iload 6, 2) := by decide +kernel
theorem dX9_add_114 : decode cX9_add 114 = .ok (.invokevirtual 187, 3) := by decide +kernel
theorem dX9_add_117 : decode cX9_add 117 = .ok (.iastore, 1) := by decide +kernel
theorem dX9_add_118 : decode cX9_add 118 = .ok (.iinc 5 1, 3) := by decide +kernel
theorem dX9_add_121 : decode cX9_add 121 = .ok (.goto (-90), 3) := by decide +kernel
theorem dX9_add_124 : decode cX9_add 124 = .ok (.aload_n 0, 1) := by decide +kernel
theorem dX9_add_125 : decode cX9_add 125 = .ok (.invokevirtual 159, 3) := by decide +kernel
theorem dX9_add_128 : decode cX9_add 128 = .ok (.iload 4, 2) := by decide +kernel
theorem dX9_add_130 : decode cX9_add 130 = .ok (.ireturn, 1) := by decide +kernel
theorem dX9_likeness_0 : decode cX9_likeness 0 = .ok (.iconst 0, 1) := by decide +kernel
theorem dX9_likeness_1 : decode cX9_likeness 1 = .ok (.istore_n 3, 1) := by decide +kernel
theorem dX9_likeness_2 : decode cX9_likeness 2 = .ok (.iconst 0, 1) := by decide +kernel
theorem dX9_likeness_3 : decode cX9_likeness 3 = .ok (.istore 4, 2) := by decide +kernel
theorem dX9_likeness_5 : decode cX9_likeness 5 = .ok (.iload 4, 2) := by decide +kernel
theorem dX9_likeness_7 : decode cX9_likeness 7 = .ok (.aload_n 0, 1) := by decide +kernel
theorem dX9_likeness_8 : decode cX9_likeness 8 = .ok (.getfield 111, 3) := by decide +kernel
theorem dX9_likeness_11 : decode cX9_likeness 11 = .ok (.if_icmp .ge 36, 3) := by decide +kernel
theorem dX9_likeness_14 : decode cX9_likeness 14 = .ok (.iload_n 3, 1) := by decide +kernel
theorem dX9_likeness_15 : decode cX9_likeness 15 = .ok (.aload_n 0, 1) := by decide +kernel
theorem dX9_likeness_16 : decode cX9_likeness 16 = .ok (.getfield 54, 3) := by decide +kernel
theorem dX9_likeness_19 : decode cX9_likeness 19 = .ok (.iload_n 1, 1) := by decide +kernel
theorem dX9_likeness_20 : decode cX9_likeness 20 = .ok (.iload 4, 2) := by decide +kernel
theorem dX9_likeness_22 : decode cX9_likeness 22 = .ok (.iadd, 1) := by decide +kernel
theorem dX9_likeness_23 : decode cX9_likeness 23 = .ok (.iaload, 1) := by decide +kernel
theorem dX9_likeness_24 : decode cX9_likeness 24 = .ok (.aload_n 0, 1) := by decide +kernel
theorem dX9_likeness_25 : decode cX9_likeness 25 = .ok (.getfield 54, 3) := by decide +kernel
theorem dX9_likeness_28 : decode cX9_likeness 28 = .ok (.iload_n 2, 1) := by decide +kernel
theorem dX9_likeness_29 : decode cX9_likeness 29 = .ok (.iload 4, 2) := by decide +kernel
theorem dX9_likeness_31 : decode cX9_likeness 31 = .ok (.iadd, 1) := by decide +kernel
theorem dX9_likeness_32 : decode cX9_likeness 32 = .ok (.iaload, 1) := by decide +kernel
theorem dX9_likeness_33 : decode cX9_likeness 33 = .ok (.invokestatic 104, 3) := by decide +kernel
theorem dX9_likeness_36 : decode cX9_likeness 36 = .ok (.invokestatic 108, 3) := by decide +kernel
theorem dX9_likeness_39 : decode cX9_likeness 39 = .ok (.iadd, 1) := by decide +kernel
theorem dX9_likeness_40 : decode cX9_likeness 40 = .ok (.istore_n 3, 1) := by decide +kernel
theorem dX9_likeness_41 : decode cX9_likeness 41 = .ok (.iinc 4 1, 3) := by decide +kernel
theorem dX9_likeness_44 : decode cX9_likeness 44 = .ok (.goto (-39), 3) := by decide +kernel
theorem dX9_likeness_47 : decode cX9_likeness 47 = .ok (.iload_n 3, 1) := by decide +kernel
theorem dX9_likeness_48 : decode cX9_likeness 48 = .ok (.ireturn, 1) := by decide +kernel
theorem dX9_like_0 : decode cX9_like 0 = .ok (.aload_n 0, 1) := by decide +kernel
theorem dX9_like_1 : decode cX9_like 1 = .ok (.iload_n 1, 1) := by decide +kernel
theorem dX9_like_2 : decode cX9_like 2 = .ok (.iload_n 2, 1) := by decide +kernel
theorem dX9_like_3 : decode cX9_like 3 = .ok (.invokevirtual 184, 3) := by decide +kernel
theorem dX9_like_6 : decode cX9_like 6 = .ok (.ifCond .eq 31, 3) := by decide +kernel
theorem dX9_like_9 : decode cX9_like 9 = .ok (.aload_n 0, 1) := by decide +kernel
theorem dX9_like_10 : decode cX9_like 10 = .ok (.iload_n 3, 1) := by decide +kernel
theorem dX9_like_11 : decode cX9_like 11 = .ok (.iload 4, 2) := by decide +kernel
theorem dX9_like_13 : decode cX9_like 13 = .ok (.invokevirtual 184, 3) := by decide +kernel
theorem dX9_like_16 : decode cX9_like 16 = .ok (.ifCond .eq 21, 3) := by decide +kernel
theorem dX9_like_19 : decode cX9_like 19 = .ok (.aload_n 0, 1) := by decide +kernel
theorem dX9_like_20 : decode cX9_like 20 = .ok (.iload_n 1, 1) := by decide +kernel
theorem dX9_like_21 : decode cX9_like 21 = .ok (.iload_n 2, 1) := by decide +kernel
theorem dX9_like_22 : decode cX9_like 22 = .ok (.invokestatic 181, 3) := by decide +kernel
theorem dX9_like_25 : decode cX9_like 25 = .ok (.iload_n 3, 1) := by decide +kernel
theorem dX9_like_26 : decode cX9_like 26 = .ok (.iload 4, 2) := by decide +kernel
theorem dX9_like_28 : decode cX9_like 28 = .ok (.invokestatic 181, 3) := by decide +kernel
theorem dX9_like_31 : decode cX9_like 31 = .ok (.invokevirtual 196, 3) := by decide +kernel
theorem dX9_like_34 : decode cX9_like 34 = .ok (.goto 5, 3) := by decide +kernel
theorem dX9_like_37 : decode cX9_like 37 = .ok (.bipush (-2), 2) := by decide +kernel
theorem dX9_like_39 : decode cX9_like 39 = .ok (.ireturn, 1) := by decide +kernel
theorem dX9_holds_0 : decode cX9_holds 0 = .ok (.iload_n 2, 1) := by decide +kernel
theorem dX9_holds_1 : decode cX9_holds 1 = .ok (.iconst 1, 1) := by decide +kernel
theorem dX9_holds_2 : decode cX9_holds 2 = .ok (.iadd, 1) := by decide +kernel
theorem dX9_holds_3 : decode cX9_holds 3 = .ok (.istore 5, 2) := by decide +kernel
theorem dX9_holds_5 : decode cX9_holds 5 = .ok (.iload 5, 2) := by decide +kernel
theorem dX9_holds_7 : decode cX9_holds 7 = .ok (.iload_n 3, 1) := by decide +kernel
theorem dX9_holds_8 : decode cX9_holds 8 = .ok (.if_icmp .ge 105, 3) := by decide +kernel
theorem dX9_holds_11 : decode cX9_holds 11 = .ok (.bipush 100, 2) := by decide +kernel
theorem dX9_holds_13 : decode cX9_holds 13 = .ok (.iload 5, 2) := by decide +kernel
theorem dX9_holds_15 : decode cX9_holds 15 = .ok (.iload_n 2, 1) := by decide +kernel
theorem dX9_holds_16 : decode cX9_holds 16 = .ok (.isub, 1) := by decide +kernel
theorem dX9_holds_17 : decode cX9_holds 17 = .ok (.imul, 1) := by decide +kernel
theorem dX9_holds_18 : decode cX9_holds 18 = .ok (.iload_n 3, 1) := by decide +kernel
theorem dX9_holds_19 : decode cX9_holds 19 = .ok (.iload_n 2, 1) := by decide +kernel
theorem dX9_holds_20 : decode cX9_holds 20 = .ok (.isub, 1) := by decide +kernel
theorem dX9_holds_21 : decode cX9_holds 21 = .ok (.idiv, 1) := by decide +kernel
theorem dX9_holds_22 : decode cX9_holds 22 = .ok (.istore 6, 2) := by decide +kernel
theorem dX9_holds_24 : decode cX9_holds 24 = .ok (.iconst 0, 1) := by decide +kernel
theorem dX9_holds_25 : decode cX9_holds 25 = .ok (.istore 7, 2) := by decide +kernel
theorem dX9_holds_27 : decode cX9_holds 27 = .ok (.iload 7, 2) := by decide +kernel
theorem dX9_holds_29 : decode cX9_holds 29 = .ok (.aload_n 0, 1) := by decide +kernel
theorem dX9_holds_30 : decode cX9_holds 30 = .ok (.getfield 111, 3) := by decide +kernel
theorem dX9_holds_33 : decode cX9_holds 33 = .ok (.if_icmp .ge 74, 3) := by decide +kernel
theorem dX9_holds_36 : decode cX9_holds 36 = .ok (.aload_n 0, 1) := by decide +kernel
theorem dX9_holds_37 : decode cX9_holds 37 = .ok (.iload 7, 2) := by decide +kernel
theorem dX9_holds_39 : decode cX9_holds 39 = .ok (.aload_n 0, 1) := by decide +kernel
theorem dX9_holds_40 : decode cX9_holds 40 = .ok (.getfield 54, 3) := by decide +kernel
theorem dX9_holds_43 : decode cX9_holds 43 = .ok (.iload_n 1, 1) := by decide +kernel
theorem dX9_holds_44 : decode cX9_holds 44 = .ok (.iload_n 2, 1) := by decide +kernel
theorem dX9_holds_45 : decode cX9_holds 45 = .ok (.invokestatic 181, 3) := by decide +kernel
theorem dX9_holds_48 : decode cX9_holds 48 = .ok (.iload 7, 2) := by decide +kernel
theorem dX9_holds_50 : decode cX9_holds 50 = .ok (.iadd, 1) := by decide +kernel
theorem dX9_holds_51 : decode cX9_holds 51 = .ok (.iaload, 1) := by decide +kernel
theorem dX9_holds_52 : decode cX9_holds 52 = .ok (.aload_n 0, 1) := by decide +kernel
theorem dX9_holds_53 : decode cX9_holds 53 = .ok (.getfield 54, 3) := by decide +kernel
theorem dX9_holds_56 : decode cX9_holds 56 = .ok (.iload_n 1, 1) := by decide +kernel
theorem dX9_holds_57 : decode cX9_holds 57 = .ok (.iload_n 3, 1) := by decide +kernel
theorem dX9_holds_58 : decode cX9_holds 58 = .ok (.invokestatic 181, 3) := by decide +kernel
theorem dX9_holds_61 : decode cX9_holds 61 = .ok (.iload 7, 2) := by decide +kernel
theorem dX9_holds_63 : decode cX9_holds 63 = .ok (.iadd, 1) := by decide +kernel
theorem dX9_holds_64 : decode cX9_holds 64 = .ok (.iaload, 1) := by decide +kernel
theorem dX9_holds_65 : decode cX9_holds 65 = .ok (.iload 6, 2) := by decide +kernel
theorem dX9_holds_67 : decode cX9_holds 67 = .ok (.invokevirtual 192, 3) := by decide +kernel
theorem dX9_holds_70 : decode cX9_holds 70 = .ok (.istore 8, 2) := by decide +kernel
theorem dX9_holds_72 : decode cX9_holds 72 = .ok (.iload 8, 2) := by decide +kernel
theorem dX9_holds_74 : decode cX9_holds 74 = .ok (.aload_n 0, 1) := by decide +kernel
theorem dX9_holds_75 : decode cX9_holds 75 = .ok (.getfield 54, 3) := by decide +kernel
theorem dX9_holds_78 : decode cX9_holds 78 = .ok (.iload_n 1, 1) := by decide +kernel
theorem dX9_holds_79 : decode cX9_holds 79 = .ok (.iload 5, 2) := by decide +kernel
theorem dX9_holds_81 : decode cX9_holds 81 = .ok (.invokestatic 181, 3) := by decide +kernel
theorem dX9_holds_84 : decode cX9_holds 84 = .ok (.iload 7, 2) := by decide +kernel
theorem dX9_holds_86 : decode cX9_holds 86 = .ok (.iadd, 1) := by decide +kernel
theorem dX9_holds_87 : decode cX9_holds 87 = .ok (.iaload, 1) := by decide +kernel
theorem dX9_holds_88 : decode cX9_holds 88 = .ok (.invokestatic 104, 3) := by decide +kernel
theorem dX9_holds_91 : decode cX9_holds 91 = .ok (.invokestatic 108, 3) := by decide +kernel
theorem dX9_holds_94 : decode cX9_holds 94 = .ok (.iload 4, 2) := by decide +kernel
theorem dX9_holds_96 : decode cX9_holds 96 = .ok (.if_icmp .le 5, 3) := by decide +kernel
theorem dX9_holds_99 : decode cX9_holds 99 = .ok (.iconst 0, 1) := by decide +kernel
theorem dX9_holds_100 : decode cX9_holds 100 = .ok (.ireturn, 1) := by decide +kernel
theorem dX9_holds_101 : decode cX9_holds 101 = .ok (.iinc 7 1, 3) := by decide +kernel
theorem dX9_holds_104 : decode cX9_holds 104 = .ok (.goto (-77), 3) := by decide +kernel
theorem dX9_holds_107 : decode cX9_holds 107 = .ok (.iinc 5 1, 3) := by decide +kernel
theorem dX9_holds_110 : decode cX9_holds 110 = .ok (.goto (-105), 3) := by decide +kernel
theorem dX9_holds_113 : decode cX9_holds 113 = .ok (.iconst 1, 1) := by decide +kernel
theorem dX9_holds_114 : decode cX9_holds 114 = .ok (.ireturn, 1) := by decide +kernel
theorem dX9_findKeys_0 : decode cX9_findKeys 0 = .ok (.aload_n 0, 1) := by decide +kernel
theorem dX9_findKeys_1 : decode cX9_findKeys 1 = .ok (.iconst 0, 1) := by decide +kernel
theorem dX9_findKeys_2 : decode cX9_findKeys 2 = .ok (.putfield 199, 3) := by decide +kernel
theorem dX9_findKeys_5 : decode cX9_findKeys 5 = .ok (.iconst 0, 1) := by decide +kernel
theorem dX9_findKeys_6 : decode cX9_findKeys 6 = .ok (.istore_n 3, 1) := by decide +kernel
theorem dX9_findKeys_7 : decode cX9_findKeys 7 = .ok (.iload_n 3, 1) := by decide +kernel
theorem dX9_findKeys_8 : decode cX9_findKeys 8 = .ok (.aload_n 0, 1) := by decide +kernel
theorem dX9_findKeys_9 : decode cX9_findKeys 9 = .ok (.getfield 51, 3) := by decide +kernel
theorem dX9_findKeys_12 : decode cX9_findKeys 12 = .ok (.iload_n 1, 1) := by decide +kernel
theorem dX9_findKeys_13 : decode cX9_findKeys 13 = .ok (.iaload, 1) := by decide +kernel
theorem dX9_findKeys_14 : decode cX9_findKeys 14 = .ok (.if_icmp .ge 97, 3) := by decide +kernel
theorem dX9_findKeys_17 : decode cX9_findKeys 17 = .ok (.aload_n 0, 1) := by decide +kernel
theorem dX9_findKeys_18 : decode cX9_findKeys 18 = .ok (.getfield 57, 3) := by decide +kernel
theorem dX9_findKeys_21 : decode cX9_findKeys 21 = .ok (.aload_n 0, 1) := by decide +kernel
theorem dX9_findKeys_22 : decode cX9_findKeys 22 = .ok (.getfield 199, 3) := by decide +kernel
theorem dX9_findKeys_25 : decode cX9_findKeys 25 = .ok (.iload_n 3, 1) := by decide +kernel
theorem dX9_findKeys_26 : decode cX9_findKeys 26 = .ok (.iastore, 1) := by decide +kernel
theorem dX9_findKeys_27 : decode cX9_findKeys 27 = .ok (.aload_n 0, 1) := by decide +kernel
theorem dX9_findKeys_28 : decode cX9_findKeys 28 = .ok (.dup, 1) := by decide +kernel
theorem dX9_findKeys_29 : decode cX9_findKeys 29 = .ok (.getfield 199, 3) := by decide +kernel
theorem dX9_findKeys_32 : decode cX9_findKeys 32 = .ok (.iconst 1, 1) := by decide +kernel
theorem dX9_findKeys_33 : decode cX9_findKeys 33 = .ok (.iadd, 1) := by decide +kernel
theorem dX9_findKeys_34 : decode cX9_findKeys 34 = .ok (.putfield 199, 3) := by decide +kernel
theorem dX9_findKeys_37 : decode cX9_findKeys 37 = .ok (.aload_n 0, 1) := by decide +kernel
theorem dX9_findKeys_38 : decode cX9_findKeys 38 = .ok (.getfield 51, 3) := by decide +kernel
theorem dX9_findKeys_41 : decode cX9_findKeys 41 = .ok (.iload_n 1, 1) := by decide +kernel
theorem dX9_findKeys_42 : decode cX9_findKeys 42 = .ok (.iaload, 1) := by decide +kernel
theorem dX9_findKeys_43 : decode cX9_findKeys 43 = .ok (.istore 4, 2) := by decide +kernel
theorem dX9_findKeys_45 : decode cX9_findKeys 45 = .ok (.iload_n 3, 1) := by decide +kernel
theorem dX9_findKeys_46 : decode cX9_findKeys 46 = .ok (.iconst 1, 1) := by decide +kernel
theorem dX9_findKeys_47 : decode cX9_findKeys 47 = .ok (.iadd, 1) := by decide +kernel
theorem dX9_findKeys_48 : decode cX9_findKeys 48 = .ok (.istore 5, 2) := by decide +kernel
theorem dX9_findKeys_50 : decode cX9_findKeys 50 = .ok (.iload 5, 2) := by decide +kernel
theorem dX9_findKeys_52 : decode cX9_findKeys 52 = .ok (.aload_n 0, 1) := by decide +kernel
theorem dX9_findKeys_53 : decode cX9_findKeys 53 = .ok (.getfield 51, 3) := by decide +kernel
theorem dX9_findKeys_56 : decode cX9_findKeys 56 = .ok (.iload_n 1, 1) := by decide +kernel
theorem dX9_findKeys_57 : decode cX9_findKeys 57 = .ok (.iaload, 1) := by decide +kernel
theorem dX9_findKeys_58 : decode cX9_findKeys 58 = .ok (.if_icmp .ge 47, 3) := by decide +kernel
theorem dX9_findKeys_61 : decode cX9_findKeys 61 = .ok (.aload_n 0, 1) := by decide +kernel
theorem dX9_findKeys_62 : decode cX9_findKeys 62 = .ok (.iload_n 1, 1) := by decide +kernel
theorem dX9_findKeys_63 : decode cX9_findKeys 63 = .ok (.iload_n 3, 1) := by decide +kernel
theorem dX9_findKeys_64 : decode cX9_findKeys 64 = .ok (.iload 5, 2) := by decide +kernel
theorem dX9_findKeys_66 : decode cX9_findKeys 66 = .ok (.iload_n 2, 1) := by decide +kernel
theorem dX9_findKeys_67 : decode cX9_findKeys 67 = .ok (.invokevirtual 202, 3) := by decide +kernel
theorem dX9_findKeys_70 : decode cX9_findKeys 70 = .ok (.ifCond .eq 8, 3) := by decide +kernel
theorem dX9_findKeys_73 : decode cX9_findKeys 73 = .ok (.iload 5, 2) := by decide +kernel
theorem dX9_findKeys_75 : decode cX9_findKeys 75 = .ok (.goto 22, 3) := by decide +kernel
theorem dX9_findKeys_78 : decode cX9_findKeys 78 = .ok (.iload 4, 2) := by decide +kernel
theorem dX9_findKeys_80 : decode cX9_findKeys 80 = .ok (.aload_n 0, 1) := by decide +kernel
theorem dX9_findKeys_81 : decode cX9_findKeys 81 = .ok (.getfield 51, 3) := by decide +kernel
theorem dX9_findKeys_84 : decode cX9_findKeys 84 = .ok (.iload_n 1, 1) := by decide +kernel
theorem dX9_findKeys_85 : decode cX9_findKeys 85 = .ok (.iaload, 1) := by decide +kernel
theorem dX9_findKeys_86 : decode cX9_findKeys 86 = .ok (.if_icmp .ne 9, 3) := by decide +kernel
theorem dX9_findKeys_89 : decode cX9_findKeys 89 = .ok (.iload_n 3, 1) := by decide +kernel
theorem dX9_findKeys_90 : decode cX9_findKeys 90 = .ok (.iconst 1, 1) := by decide +kernel
theorem dX9_findKeys_91 : decode cX9_findKeys 91 = .ok (.iadd, 1) := by decide +kernel
theorem dX9_findKeys_92 : decode cX9_findKeys 92 = .ok (.goto 5, 3) := by decide +kernel
theorem dX9_findKeys_95 : decode cX9_findKeys 95 = .ok (.iload 4, 2) := by decide +kernel
theorem dX9_findKeys_97 : decode cX9_findKeys 97 = .ok (.istore 4, 2) := by decide +kernel
theorem dX9_findKeys_99 : decode cX9_findKeys 99 = .ok (.iinc 5 1, 3) := by decide +kernel
theorem dX9_findKeys_102 : decode cX9_findKeys 102 = .ok (.goto (-52), 3) := by decide +kernel
theorem dX9_findKeys_105 : decode cX9_findKeys 105 = .ok (.iload 4, 2) := by decide +kernel
theorem dX9_findKeys_107 : decode cX9_findKeys 107 = .ok (.istore_n 3, 1) := by decide +kernel
theorem dX9_findKeys_108 : decode cX9_findKeys 108 = .ok (.goto (-101), 3) := by decide +kernel
theorem dX9_findKeys_111 : decode cX9_findKeys 111 = .ok (.return_, 1) := by decide +kernel
theorem dX9_pack_0 : decode cX9_pack 0 = .ok (.iload_n 1, 1) := by decide +kernel
theorem dX9_pack_1 : decode cX9_pack 1 = .ok (.invokestatic 178, 3) := by decide +kernel
theorem dX9_pack_4 : decode cX9_pack 4 = .ok (.ifCond .eq 15, 3) := by decide +kernel
theorem dX9_pack_7 : decode cX9_pack 7 = .ok (.iload_n 2, 1) := by decide +kernel
theorem dX9_pack_8 : decode cX9_pack 8 = .ok (.i2l, 1) := by decide +kernel
theorem dX9_pack_9 : decode cX9_pack 9 = .ok (.lconst 0, 1) := by decide +kernel
theorem dX9_pack_10 : decode cX9_pack 10 = .ok (.ldc2_w 206, 3) := by decide +kernel
theorem dX9_pack_13 : decode cX9_pack 13 = .ok (.invokestatic 114, 3) := by decide +kernel
theorem dX9_pack_16 : decode cX9_pack 16 = .ok (.ifCond .ne 6, 3) := by decide +kernel
theorem dX9_pack_19 : decode cX9_pack 19 = .ok (.bipush (-2), 2) := by decide +kernel
theorem dX9_pack_21 : decode cX9_pack 21 = .ok (.ireturn, 1) := by decide +kernel
theorem dX9_pack_22 : decode cX9_pack 22 = .ok (.aload_n 0, 1) := by decide +kernel
theorem dX9_pack_23 : decode cX9_pack 23 = .ok (.iload_n 1, 1) := by decide +kernel
theorem dX9_pack_24 : decode cX9_pack 24 = .ok (.iload_n 2, 1) := by decide +kernel
theorem dX9_pack_25 : decode cX9_pack 25 = .ok (.invokevirtual 208, 3) := by decide +kernel
theorem dX9_pack_28 : decode cX9_pack 28 = .ok (.aload_n 0, 1) := by decide +kernel
theorem dX9_pack_29 : decode cX9_pack 29 = .ok (.getfield 199, 3) := by decide +kernel
theorem dX9_pack_32 : decode cX9_pack 32 = .ok (.ireturn, 1) := by decide +kernel
theorem dX9_key_0 : decode cX9_key 0 = .ok (.iload_n 1, 1) := by decide +kernel
theorem dX9_key_1 : decode cX9_key 1 = .ok (.i2l, 1) := by decide +kernel
theorem dX9_key_2 : decode cX9_key 2 = .ok (.lconst 0, 1) := by decide +kernel
theorem dX9_key_3 : decode cX9_key 3 = .ok (.aload_n 0, 1) := by decide +kernel
theorem dX9_key_4 : decode cX9_key 4 = .ok (.getfield 199, 3) := by decide +kernel
theorem dX9_key_7 : decode cX9_key 7 = .ok (.iconst 1, 1) := by decide +kernel
theorem dX9_key_8 : decode cX9_key 8 = .ok (.isub, 1) := by decide +kernel
theorem dX9_key_9 : decode cX9_key 9 = .ok (.i2l, 1) := by decide +kernel
theorem dX9_key_10 : decode cX9_key 10 = .ok (.invokestatic 114, 3) := by decide +kernel
theorem dX9_key_13 : decode cX9_key 13 = .ok (.ifCond .eq 12, 3) := by decide +kernel
theorem dX9_key_16 : decode cX9_key 16 = .ok (.aload_n 0, 1) := by decide +kernel
theorem dX9_key_17 : decode cX9_key 17 = .ok (.getfield 57, 3) := by decide +kernel
theorem dX9_key_20 : decode cX9_key 20 = .ok (.iload_n 1, 1) := by decide +kernel
theorem dX9_key_21 : decode cX9_key 21 = .ok (.iaload, 1) := by decide +kernel
theorem dX9_key_22 : decode cX9_key 22 = .ok (.goto 5, 3) := by decide +kernel
theorem dX9_key_25 : decode cX9_key 25 = .ok (.bipush (-2), 2) := by decide +kernel
theorem dX9_key_27 : decode cX9_key 27 = .ok (.ireturn, 1) := by decide +kernel
theorem dX9_thin_0 : decode cX9_thin 0 = .ok (.iload_n 1, 1) := by decide +kernel
theorem dX9_thin_1 : decode cX9_thin 1 = .ok (.invokestatic 178, 3) := by decide +kernel
theorem dX9_thin_4 : decode cX9_thin 4 = .ok (.ifCond .eq 15, 3) := by decide +kernel
theorem dX9_thin_7 : decode cX9_thin 7 = .ok (.iload_n 2, 1) := by decide +kernel
theorem dX9_thin_8 : decode cX9_thin 8 = .ok (.i2l, 1) := by decide +kernel
theorem dX9_thin_9 : decode cX9_thin 9 = .ok (.lconst 0, 1) := by decide +kernel
theorem dX9_thin_10 : decode cX9_thin 10 = .ok (.ldc2_w 206, 3) := by decide +kernel
theorem dX9_thin_13 : decode cX9_thin 13 = .ok (.invokestatic 114, 3) := by decide +kernel
theorem dX9_thin_16 : decode cX9_thin 16 = .ok (.ifCond .ne 6, 3) := by decide +kernel
theorem dX9_thin_19 : decode cX9_thin 19 = .ok (.bipush (-2), 2) := by decide +kernel
theorem dX9_thin_21 : decode cX9_thin 21 = .ok (.ireturn, 1) := by decide +kernel
theorem dX9_thin_22 : decode cX9_thin 22 = .ok (.aload_n 0, 1) := by decide +kernel
theorem dX9_thin_23 : decode cX9_thin 23 = .ok (.iload_n 1, 1) := by decide +kernel
theorem dX9_thin_24 : decode cX9_thin 24 = .ok (.iload_n 2, 1) := by decide +kernel
theorem dX9_thin_25 : decode cX9_thin 25 = .ok (.invokevirtual 208, 3) := by decide +kernel
theorem dX9_thin_28 : decode cX9_thin 28 = .ok (.aload_n 0, 1) := by decide +kernel
theorem dX9_thin_29 : decode cX9_thin 29 = .ok (.getfield 51, 3) := by decide +kernel
theorem dX9_thin_32 : decode cX9_thin 32 = .ok (.iload_n 1, 1) := by decide +kernel
theorem dX9_thin_33 : decode cX9_thin 33 = .ok (.iaload, 1) := by decide +kernel
theorem dX9_thin_34 : decode cX9_thin 34 = .ok (.aload_n 0, 1) := by decide +kernel
theorem dX9_thin_35 : decode cX9_thin 35 = .ok (.getfield 199, 3) := by decide +kernel
theorem dX9_thin_38 : decode cX9_thin 38 = .ok (.isub, 1) := by decide +kernel
theorem dX9_thin_39 : decode cX9_thin 39 = .ok (.istore_n 3, 1) := by decide +kernel
theorem dX9_thin_40 : decode cX9_thin 40 = .ok (.iconst 0, 1) := by decide +kernel
theorem dX9_thin_41 : decode cX9_thin 41 = .ok (.istore 4, 2) := by decide +kernel
theorem dX9_thin_43 : decode cX9_thin 43 = .ok (.iload 4, 2) := by decide +kernel
theorem dX9_thin_45 : decode cX9_thin 45 = .ok (.aload_n 0, 1) := by decide +kernel
theorem dX9_thin_46 : decode cX9_thin 46 = .ok (.getfield 199, 3) := by decide +kernel
theorem dX9_thin_49 : decode cX9_thin 49 = .ok (.if_icmp .ge 60, 3) := by decide +kernel
theorem dX9_thin_52 : decode cX9_thin 52 = .ok (.iconst 0, 1) := by decide +kernel
theorem dX9_thin_53 : decode cX9_thin 53 = .ok (.istore 5, 2) := by decide +kernel
theorem dX9_thin_55 : decode cX9_thin 55 = .ok (.iload 5, 2) := by decide +kernel
theorem dX9_thin_57 : decode cX9_thin 57 = .ok (.aload_n 0, 1) := by decide +kernel
theorem dX9_thin_58 : decode cX9_thin 58 = .ok (.getfield 111, 3) := by decide +kernel
theorem dX9_thin_61 : decode cX9_thin 61 = .ok (.if_icmp .ge 42, 3) := by decide +kernel
theorem dX9_thin_64 : decode cX9_thin 64 = .ok (.aload_n 0, 1) := by decide +kernel
theorem dX9_thin_65 : decode cX9_thin 65 = .ok (.getfield 54, 3) := by decide +kernel
theorem dX9_thin_68 : decode cX9_thin 68 = .ok (.iload_n 1, 1) := by decide +kernel
theorem dX9_thin_69 : decode cX9_thin 69 = .ok (.iload 4, 2) := by decide +kernel
theorem dX9_thin_71 : decode cX9_thin 71 = .ok (.invokestatic 181, 3) := by decide +kernel
theorem dX9_thin_74 : decode cX9_thin 74 = .ok (.iload 5, 2) := by decide +kernel
theorem dX9_thin_76 : decode cX9_thin 76 = .ok (.iadd, 1) := by decide +kernel
theorem dX9_thin_77 : decode cX9_thin 77 = .ok (.aload_n 0, 1) := by decide +kernel
theorem dX9_thin_78 : decode cX9_thin 78 = .ok (.getfield 54, 3) := by decide +kernel
theorem dX9_thin_81 : decode cX9_thin 81 = .ok (.iload_n 1, 1) := by decide +kernel
theorem dX9_thin_82 : decode cX9_thin 82 = .ok (.aload_n 0, 1) := by decide +kernel
theorem dX9_thin_83 : decode cX9_thin 83 = .ok (.getfield 57, 3) := by decide +kernel
theorem dX9_thin_86 : decode cX9_thin 86 = .ok (.iload 4, 2) := by decide +kernel
theorem dX9_thin_88 : decode cX9_thin 88 = .ok (.iaload, 1) := by decide +kernel
theorem dX9_thin_89 : decode cX9_thin 89 = .ok (.invokestatic 181, 3) := by decide +kernel
theorem dX9_thin_92 : decode cX9_thin 92 = .ok (.iload 5, 2) := by decide +kernel
theorem dX9_thin_94 : decode cX9_thin 94 = .ok (.iadd, 1) := by decide +kernel
theorem dX9_thin_95 : decode cX9_thin 95 = .ok (.iaload, 1) := by decide +kernel
theorem dX9_thin_96 : decode cX9_thin 96 = .ok (.iastore, 1) := by decide +kernel
theorem dX9_thin_97 : decode cX9_thin 97 = .ok (.iinc 5 1, 3) := by decide +kernel
theorem dX9_thin_100 : decode cX9_thin 100 = .ok (.goto (-45), 3) := by decide +kernel
theorem dX9_thin_103 : decode cX9_thin 103 = .ok (.iinc 4 1, 3) := by decide +kernel
theorem dX9_thin_106 : decode cX9_thin 106 = .ok (.goto (-63), 3) := by decide +kernel
theorem dX9_thin_109 : decode cX9_thin 109 = .ok (.aload_n 0, 1) := by decide +kernel
theorem dX9_thin_110 : decode cX9_thin 110 = .ok (.getfield 51, 3) := by decide +kernel
theorem dX9_thin_113 : decode cX9_thin 113 = .ok (.iload_n 1, 1) := by decide +kernel
theorem dX9_thin_114 : decode cX9_thin 114 = .ok (.aload_n 0, 1) := by decide +kernel
theorem dX9_thin_115 : decode cX9_thin 115 = .ok (.getfield 199, 3) := by decide +kernel
theorem dX9_thin_118 : decode cX9_thin 118 = .ok (.iastore, 1) := by decide +kernel
theorem dX9_thin_119 : decode cX9_thin 119 = .ok (.iload_n 3, 1) := by decide +kernel
theorem dX9_thin_120 : decode cX9_thin 120 = .ok (.ireturn, 1) := by decide +kernel
theorem dX9_join_0 : decode cX9_join 0 = .ok (.iload_n 1, 1) := by decide +kernel
theorem dX9_join_1 : decode cX9_join 1 = .ok (.i2l, 1) := by decide +kernel
theorem dX9_join_2 : decode cX9_join 2 = .ok (.lconst 0, 1) := by decide +kernel
theorem dX9_join_3 : decode cX9_join 3 = .ok (.ldc2_w 124, 3) := by decide +kernel
theorem dX9_join_6 : decode cX9_join 6 = .ok (.invokestatic 114, 3) := by decide +kernel
theorem dX9_join_9 : decode cX9_join 9 = .ok (.ifCond .ne 6, 3) := by decide +kernel
theorem dX9_join_12 : decode cX9_join 12 = .ok (.bipush (-2), 2) := by decide +kernel
theorem dX9_join_14 : decode cX9_join 14 = .ok (.ireturn, 1) := by decide +kernel
theorem dX9_join_15 : decode cX9_join 15 = .ok (.aload_n 0, 1) := by decide +kernel
theorem dX9_join_16 : decode cX9_join 16 = .ok (.getfield 60, 3) := by decide +kernel
theorem dX9_join_19 : decode cX9_join 19 = .ok (.istore_n 2, 1) := by decide +kernel
theorem dX9_join_20 : decode cX9_join 20 = .ok (.aload_n 0, 1) := by decide +kernel
theorem dX9_join_21 : decode cX9_join 21 = .ok (.iload_n 1, 1) := by decide +kernel
theorem dX9_join_22 : decode cX9_join 22 = .ok (.putfield 60, 3) := by decide +kernel
theorem dX9_join_25 : decode cX9_join 25 = .ok (.iload_n 2, 1) := by decide +kernel
theorem dX9_join_26 : decode cX9_join 26 = .ok (.ireturn, 1) := by decide +kernel
theorem dX9_isNode_0 : decode cX9_isNode 0 = .ok (.iload_n 1, 1) := by decide +kernel
theorem dX9_isNode_1 : decode cX9_isNode 1 = .ok (.bipush 30, 2) := by decide +kernel
theorem dX9_isNode_3 : decode cX9_isNode 3 = .ok (.irem, 1) := by decide +kernel
theorem dX9_isNode_4 : decode cX9_isNode 4 = .ok (.aload_n 0, 1) := by decide +kernel
theorem dX9_isNode_5 : decode cX9_isNode 5 = .ok (.getfield 51, 3) := by decide +kernel
theorem dX9_isNode_8 : decode cX9_isNode 8 = .ok (.iload_n 1, 1) := by decide +kernel
end
section
theorem dX9_isNode_9 : decode cX9_isNode 9 = .ok (.bipush 30, 2) := by decide +kernel
theorem dX9_isNode_11 : decode cX9_isNode 11 = .ok (.idiv, 1) := by decide +kernel
theorem dX9_isNode_12 : decode cX9_isNode 12 = .ok (.iaload, 1) := by decide +kernel
theorem dX9_isNode_13 : decode cX9_isNode 13 = .ok (.if_icmp .ge 7, 3) := by decide +kernel
theorem dX9_isNode_16 : decode cX9_isNode 16 = .ok (.iconst 1, 1) := by decide +kernel
theorem dX9_isNode_17 : decode cX9_isNode 17 = .ok (.goto 4, 3) := by decide +kernel
theorem dX9_isNode_20 : decode cX9_isNode 20 = .ok (.iconst 0, 1) := by decide +kernel
theorem dX9_isNode_21 : decode cX9_isNode 21 = .ok (.ireturn, 1) := by decide +kernel
theorem dX9_findCosts_0 : decode cX9_findCosts 0 = .ok (.iconst 0, 1) := by decide +kernel
theorem dX9_findCosts_1 : decode cX9_findCosts 1 = .ok (.istore_n 1, 1) := by decide +kernel
theorem dX9_findCosts_2 : decode cX9_findCosts 2 = .ok (.iload_n 1, 1) := by decide +kernel
theorem dX9_findCosts_3 : decode cX9_findCosts 3 = .ok (.sipush 180, 3) := by decide +kernel
theorem dX9_findCosts_6 : decode cX9_findCosts 6 = .ok (.if_icmp .ge 112, 3) := by decide +kernel
theorem dX9_findCosts_9 : decode cX9_findCosts 9 = .ok (.iconst 0, 1) := by decide +kernel
theorem dX9_findCosts_10 : decode cX9_findCosts 10 = .ok (.istore_n 2, 1) := by decide +kernel
theorem dX9_findCosts_11 : decode cX9_findCosts 11 = .ok (.iload_n 2, 1) := by decide +kernel
theorem dX9_findCosts_12 : decode cX9_findCosts 12 = .ok (.sipush 180, 3) := by decide +kernel
theorem dX9_findCosts_15 : decode cX9_findCosts 15 = .ok (.if_icmp .ge 97, 3) := by decide +kernel
theorem dX9_findCosts_18 : decode cX9_findCosts 18 = .ok (.iconst (-1), 1) := by decide +kernel
theorem dX9_findCosts_19 : decode cX9_findCosts 19 = .ok (.istore_n 3, 1) := by decide +kernel
theorem dX9_findCosts_20 : decode cX9_findCosts 20 = .ok (.aload_n 0, 1) := by decide +kernel
theorem dX9_findCosts_21 : decode cX9_findCosts 21 = .ok (.iload_n 1, 1) := by decide +kernel
theorem dX9_findCosts_22 : decode cX9_findCosts 22 = .ok (.invokevirtual 212, 3) := by decide +kernel
theorem dX9_findCosts_25 : decode cX9_findCosts 25 = .ok (.ifCond .eq 68, 3) := by decide +kernel
theorem dX9_findCosts_28 : decode cX9_findCosts 28 = .ok (.aload_n 0, 1) := by decide +kernel
theorem dX9_findCosts_29 : decode cX9_findCosts 29 = .ok (.iload_n 2, 1) := by decide +kernel
theorem dX9_findCosts_30 : decode cX9_findCosts 30 = .ok (.invokevirtual 212, 3) := by decide +kernel
theorem dX9_findCosts_33 : decode cX9_findCosts 33 = .ok (.ifCond .eq 60, 3) := by decide +kernel
theorem dX9_findCosts_36 : decode cX9_findCosts 36 = .ok (.iload_n 1, 1) := by decide +kernel
theorem dX9_findCosts_37 : decode cX9_findCosts 37 = .ok (.iload_n 2, 1) := by decide +kernel
theorem dX9_findCosts_38 : decode cX9_findCosts 38 = .ok (.if_icmp .eq 55, 3) := by decide +kernel
theorem dX9_findCosts_41 : decode cX9_findCosts 41 = .ok (.aload_n 0, 1) := by decide +kernel
theorem dX9_findCosts_42 : decode cX9_findCosts 42 = .ok (.bipush 10, 2) := by decide +kernel
theorem dX9_findCosts_44 : decode cX9_findCosts 44 = .ok (.iload_n 1, 1) := by decide +kernel
theorem dX9_findCosts_45 : decode cX9_findCosts 45 = .ok (.imul, 1) := by decide +kernel
theorem dX9_findCosts_46 : decode cX9_findCosts 46 = .ok (.bipush 10, 2) := by decide +kernel
theorem dX9_findCosts_48 : decode cX9_findCosts 48 = .ok (.iload_n 2, 1) := by decide +kernel
theorem dX9_findCosts_49 : decode cX9_findCosts 49 = .ok (.imul, 1) := by decide +kernel
theorem dX9_findCosts_50 : decode cX9_findCosts 50 = .ok (.invokevirtual 196, 3) := by decide +kernel
theorem dX9_findCosts_53 : decode cX9_findCosts 53 = .ok (.istore 4, 2) := by decide +kernel
theorem dX9_findCosts_55 : decode cX9_findCosts 55 = .ok (.iload 4, 2) := by decide +kernel
theorem dX9_findCosts_57 : decode cX9_findCosts 57 = .ok (.aload_n 0, 1) := by decide +kernel
theorem dX9_findCosts_58 : decode cX9_findCosts 58 = .ok (.getfield 60, 3) := by decide +kernel
theorem dX9_findCosts_61 : decode cX9_findCosts 61 = .ok (.if_icmp .gt 10, 3) := by decide +kernel
theorem dX9_findCosts_64 : decode cX9_findCosts 64 = .ok (.iconst 2, 1) := by decide +kernel
theorem dX9_findCosts_65 : decode cX9_findCosts 65 = .ok (.iload 4, 2) := by decide +kernel
theorem dX9_findCosts_67 : decode cX9_findCosts 67 = .ok (.iadd, 1) := by decide +kernel
theorem dX9_findCosts_68 : decode cX9_findCosts 68 = .ok (.goto 4, 3) := by decide +kernel
theorem dX9_findCosts_71 : decode cX9_findCosts 71 = .ok (.iconst (-1), 1) := by decide +kernel
theorem dX9_findCosts_72 : decode cX9_findCosts 72 = .ok (.istore_n 3, 1) := by decide +kernel
theorem dX9_findCosts_73 : decode cX9_findCosts 73 = .ok (.iload_n 2, 1) := by decide +kernel
theorem dX9_findCosts_74 : decode cX9_findCosts 74 = .ok (.iload_n 1, 1) := by decide +kernel
theorem dX9_findCosts_75 : decode cX9_findCosts 75 = .ok (.iconst 1, 1) := by decide +kernel
theorem dX9_findCosts_76 : decode cX9_findCosts 76 = .ok (.iadd, 1) := by decide +kernel
theorem dX9_findCosts_77 : decode cX9_findCosts 77 = .ok (.if_icmp .ne 14, 3) := by decide +kernel
theorem dX9_findCosts_80 : decode cX9_findCosts 80 = .ok (.iload_n 2, 1) := by decide +kernel
theorem dX9_findCosts_81 : decode cX9_findCosts 81 = .ok (.bipush 30, 2) := by decide +kernel
theorem dX9_findCosts_83 : decode cX9_findCosts 83 = .ok (.irem, 1) := by decide +kernel
theorem dX9_findCosts_84 : decode cX9_findCosts 84 = .ok (.ifCond .eq 7, 3) := by decide +kernel
theorem dX9_findCosts_87 : decode cX9_findCosts 87 = .ok (.iconst 1, 1) := by decide +kernel
theorem dX9_findCosts_88 : decode cX9_findCosts 88 = .ok (.goto 4, 3) := by decide +kernel
theorem dX9_findCosts_91 : decode cX9_findCosts 91 = .ok (.iload_n 3, 1) := by decide +kernel
theorem dX9_findCosts_92 : decode cX9_findCosts 92 = .ok (.istore_n 3, 1) := by decide +kernel
theorem dX9_findCosts_93 : decode cX9_findCosts 93 = .ok (.aload_n 0, 1) := by decide +kernel
theorem dX9_findCosts_94 : decode cX9_findCosts 94 = .ok (.getfield 63, 3) := by decide +kernel
theorem dX9_findCosts_97 : decode cX9_findCosts 97 = .ok (.sipush 180, 3) := by decide +kernel
theorem dX9_findCosts_100 : decode cX9_findCosts 100 = .ok (.iload_n 1, 1) := by decide +kernel
theorem dX9_findCosts_101 : decode cX9_findCosts 101 = .ok (.imul, 1) := by decide +kernel
theorem dX9_findCosts_102 : decode cX9_findCosts 102 = .ok (.iload_n 2, 1) := by decide +kernel
theorem dX9_findCosts_103 : decode cX9_findCosts 103 = .ok (.iadd, 1) := by decide +kernel
theorem dX9_findCosts_104 : decode cX9_findCosts 104 = .ok (.iload_n 3, 1) := by decide +kernel
theorem dX9_findCosts_105 : decode cX9_findCosts 105 = .ok (.iastore, 1) := by decide +kernel
theorem dX9_findCosts_106 : decode cX9_findCosts 106 = .ok (.iinc 2 1, 3) := by decide +kernel
theorem dX9_findCosts_109 : decode cX9_findCosts 109 = .ok (.goto (-98), 3) := by decide +kernel
theorem dX9_findCosts_112 : decode cX9_findCosts 112 = .ok (.iinc 1 1, 3) := by decide +kernel
theorem dX9_findCosts_115 : decode cX9_findCosts 115 = .ok (.goto (-113), 3) := by decide +kernel
theorem dX9_findCosts_118 : decode cX9_findCosts 118 = .ok (.return_, 1) := by decide +kernel
theorem dX9_findLive_0 : decode cX9_findLive 0 = .ok (.aload_n 0, 1) := by decide +kernel
theorem dX9_findLive_1 : decode cX9_findLive 1 = .ok (.invokevirtual 215, 3) := by decide +kernel
theorem dX9_findLive_4 : decode cX9_findLive 4 = .ok (.iconst 0, 1) := by decide +kernel
theorem dX9_findLive_5 : decode cX9_findLive 5 = .ok (.istore_n 1, 1) := by decide +kernel
theorem dX9_findLive_6 : decode cX9_findLive 6 = .ok (.iconst 0, 1) := by decide +kernel
theorem dX9_findLive_7 : decode cX9_findLive 7 = .ok (.istore_n 2, 1) := by decide +kernel
theorem dX9_findLive_8 : decode cX9_findLive 8 = .ok (.iload_n 2, 1) := by decide +kernel
theorem dX9_findLive_9 : decode cX9_findLive 9 = .ok (.sipush 180, 3) := by decide +kernel
theorem dX9_findLive_12 : decode cX9_findLive 12 = .ok (.if_icmp .ge 37, 3) := by decide +kernel
theorem dX9_findLive_15 : decode cX9_findLive 15 = .ok (.aload_n 0, 1) := by decide +kernel
theorem dX9_findLive_16 : decode cX9_findLive 16 = .ok (.getfield 66, 3) := by decide +kernel
theorem dX9_findLive_19 : decode cX9_findLive 19 = .ok (.iload_n 2, 1) := by decide +kernel
theorem dX9_findLive_20 : decode cX9_findLive 20 = .ok (.aload_n 0, 1) := by decide +kernel
theorem dX9_findLive_21 : decode cX9_findLive 21 = .ok (.iload_n 2, 1) := by decide +kernel
theorem dX9_findLive_22 : decode cX9_findLive 22 = .ok (.invokevirtual 212, 3) := by decide +kernel
theorem dX9_findLive_25 : decode cX9_findLive 25 = .ok (.bastore, 1) := by decide +kernel
theorem dX9_findLive_26 : decode cX9_findLive 26 = .ok (.iload_n 1, 1) := by decide +kernel
theorem dX9_findLive_27 : decode cX9_findLive 27 = .ok (.aload_n 0, 1) := by decide +kernel
theorem dX9_findLive_28 : decode cX9_findLive 28 = .ok (.getfield 66, 3) := by decide +kernel
theorem dX9_findLive_31 : decode cX9_findLive 31 = .ok (.iload_n 2, 1) := by decide +kernel
theorem dX9_findLive_32 : decode cX9_findLive 32 = .ok (.baload, 1) := by decide +kernel
theorem dX9_findLive_33 : decode cX9_findLive 33 = .ok (.ifCond .eq 7, 3) := by decide +kernel
theorem dX9_findLive_36 : decode cX9_findLive 36 = .ok (.iconst 1, 1) := by decide +kernel
theorem dX9_findLive_37 : decode cX9_findLive 37 = .ok (.goto 4, 3) := by decide +kernel
theorem dX9_findLive_40 : decode cX9_findLive 40 = .ok (.iconst 0, 1) := by decide +kernel
theorem dX9_findLive_41 : decode cX9_findLive 41 = .ok (.iadd, 1) := by decide +kernel
theorem dX9_findLive_42 : decode cX9_findLive 42 = .ok (.istore_n 1, 1) := by decide +kernel
theorem dX9_findLive_43 : decode cX9_findLive 43 = .ok (.iinc 2 1, 3) := by decide +kernel
theorem dX9_findLive_46 : decode cX9_findLive 46 = .ok (.goto (-38), 3) := by decide +kernel
theorem dX9_findLive_49 : decode cX9_findLive 49 = .ok (.iconst 1, 1) := by decide +kernel
theorem dX9_findLive_50 : decode cX9_findLive 50 = .ok (.istore_n 2, 1) := by decide +kernel
theorem dX9_findLive_51 : decode cX9_findLive 51 = .ok (.iload_n 2, 1) := by decide +kernel
theorem dX9_findLive_52 : decode cX9_findLive 52 = .ok (.ifCond .eq 108, 3) := by decide +kernel
theorem dX9_findLive_55 : decode cX9_findLive 55 = .ok (.iconst 0, 1) := by decide +kernel
theorem dX9_findLive_56 : decode cX9_findLive 56 = .ok (.istore_n 2, 1) := by decide +kernel
theorem dX9_findLive_57 : decode cX9_findLive 57 = .ok (.iconst 0, 1) := by decide +kernel
theorem dX9_findLive_58 : decode cX9_findLive 58 = .ok (.istore_n 3, 1) := by decide +kernel
theorem dX9_findLive_59 : decode cX9_findLive 59 = .ok (.iload_n 3, 1) := by decide +kernel
theorem dX9_findLive_60 : decode cX9_findLive 60 = .ok (.sipush 180, 3) := by decide +kernel
theorem dX9_findLive_63 : decode cX9_findLive 63 = .ok (.if_icmp .ge 94, 3) := by decide +kernel
theorem dX9_findLive_66 : decode cX9_findLive 66 = .ok (.aload_n 0, 1) := by decide +kernel
theorem dX9_findLive_67 : decode cX9_findLive 67 = .ok (.getfield 66, 3) := by decide +kernel
theorem dX9_findLive_70 : decode cX9_findLive 70 = .ok (.iload_n 3, 1) := by decide +kernel
theorem dX9_findLive_71 : decode cX9_findLive 71 = .ok (.baload, 1) := by decide +kernel
theorem dX9_findLive_72 : decode cX9_findLive 72 = .ok (.ifCond .eq 79, 3) := by decide +kernel
theorem dX9_findLive_75 : decode cX9_findLive 75 = .ok (.iconst 0, 1) := by decide +kernel
theorem dX9_findLive_76 : decode cX9_findLive 76 = .ok (.istore 4, 2) := by decide +kernel
theorem dX9_findLive_78 : decode cX9_findLive 78 = .ok (.iconst 0, 1) := by decide +kernel
theorem dX9_findLive_79 : decode cX9_findLive 79 = .ok (.istore 5, 2) := by decide +kernel
theorem dX9_findLive_81 : decode cX9_findLive 81 = .ok (.iload 5, 2) := by decide +kernel
theorem dX9_findLive_83 : decode cX9_findLive 83 = .ok (.sipush 180, 3) := by decide +kernel
theorem dX9_findLive_86 : decode cX9_findLive 86 = .ok (.if_icmp .ge 48, 3) := by decide +kernel
theorem dX9_findLive_89 : decode cX9_findLive 89 = .ok (.iload 4, 2) := by decide +kernel
theorem dX9_findLive_91 : decode cX9_findLive 91 = .ok (.ifCond .ne 43, 3) := by decide +kernel
theorem dX9_findLive_94 : decode cX9_findLive 94 = .ok (.aload_n 0, 1) := by decide +kernel
theorem dX9_findLive_95 : decode cX9_findLive 95 = .ok (.getfield 66, 3) := by decide +kernel
theorem dX9_findLive_98 : decode cX9_findLive 98 = .ok (.iload 5, 2) := by decide +kernel
theorem dX9_findLive_100 : decode cX9_findLive 100 = .ok (.baload, 1) := by decide +kernel
theorem dX9_findLive_101 : decode cX9_findLive 101 = .ok (.ifCond .eq 24, 3) := by decide +kernel
theorem dX9_findLive_104 : decode cX9_findLive 104 = .ok (.aload_n 0, 1) := by decide +kernel
theorem dX9_findLive_105 : decode cX9_findLive 105 = .ok (.getfield 63, 3) := by decide +kernel
theorem dX9_findLive_108 : decode cX9_findLive 108 = .ok (.sipush 180, 3) := by decide +kernel
theorem dX9_findLive_111 : decode cX9_findLive 111 = .ok (.iload_n 3, 1) := by decide +kernel
theorem dX9_findLive_112 : decode cX9_findLive 112 = .ok (.imul, 1) := by decide +kernel
theorem dX9_findLive_113 : decode cX9_findLive 113 = .ok (.iload 5, 2) := by decide +kernel
theorem dX9_findLive_115 : decode cX9_findLive 115 = .ok (.iadd, 1) := by decide +kernel
theorem dX9_findLive_116 : decode cX9_findLive 116 = .ok (.iaload, 1) := by decide +kernel
theorem dX9_findLive_117 : decode cX9_findLive 117 = .ok (.iconst (-1), 1) := by decide +kernel
theorem dX9_findLive_118 : decode cX9_findLive 118 = .ok (.if_icmp .eq 7, 3) := by decide +kernel
theorem dX9_findLive_121 : decode cX9_findLive 121 = .ok (.iconst 1, 1) := by decide +kernel
theorem dX9_findLive_122 : decode cX9_findLive 122 = .ok (.goto 4, 3) := by decide +kernel
theorem dX9_findLive_125 : decode cX9_findLive 125 = .ok (.iconst 0, 1) := by decide +kernel
theorem dX9_findLive_126 : decode cX9_findLive 126 = .ok (.istore 4, 2) := by decide +kernel
theorem dX9_findLive_128 : decode cX9_findLive 128 = .ok (.iinc 5 1, 3) := by decide +kernel
theorem dX9_findLive_131 : decode cX9_findLive 131 = .ok (.goto (-50), 3) := by decide +kernel
theorem dX9_findLive_134 : decode cX9_findLive 134 = .ok (.iload 4, 2) := by decide +kernel
theorem dX9_findLive_136 : decode cX9_findLive 136 = .ok (.ifCond .ne 15, 3) := by decide +kernel
theorem dX9_findLive_139 : decode cX9_findLive 139 = .ok (.aload_n 0, 1) := by decide +kernel
theorem dX9_findLive_140 : decode cX9_findLive 140 = .ok (.getfield 66, 3) := by decide +kernel
theorem dX9_findLive_143 : decode cX9_findLive 143 = .ok (.iload_n 3, 1) := by decide +kernel
theorem dX9_findLive_144 : decode cX9_findLive 144 = .ok (.iconst 0, 1) := by decide +kernel
theorem dX9_findLive_145 : decode cX9_findLive 145 = .ok (.bastore, 1) := by decide +kernel
theorem dX9_findLive_146 : decode cX9_findLive 146 = .ok (.iinc 1 (-1), 3) := by decide +kernel
theorem dX9_findLive_149 : decode cX9_findLive 149 = .ok (.iconst 1, 1) := by decide +kernel
theorem dX9_findLive_150 : decode cX9_findLive 150 = .ok (.istore_n 2, 1) := by decide +kernel
theorem dX9_findLive_151 : decode cX9_findLive 151 = .ok (.iinc 3 1, 3) := by decide +kernel
theorem dX9_findLive_154 : decode cX9_findLive 154 = .ok (.goto (-95), 3) := by decide +kernel
theorem dX9_findLive_157 : decode cX9_findLive 157 = .ok (.goto (-106), 3) := by decide +kernel
theorem dX9_findLive_160 : decode cX9_findLive 160 = .ok (.iload_n 1, 1) := by decide +kernel
theorem dX9_findLive_161 : decode cX9_findLive 161 = .ok (.ireturn, 1) := by decide +kernel
theorem dX9_live_0 : decode cX9_live 0 = .ok (.aload_n 0, 1) := by decide +kernel
theorem dX9_live_1 : decode cX9_live 1 = .ok (.invokevirtual 218, 3) := by decide +kernel
theorem dX9_live_4 : decode cX9_live 4 = .ok (.ireturn, 1) := by decide +kernel
theorem dX9_isLive_0 : decode cX9_isLive 0 = .ok (.aload_n 0, 1) := by decide +kernel
theorem dX9_isLive_1 : decode cX9_isLive 1 = .ok (.iload_n 1, 1) := by decide +kernel
theorem dX9_isLive_2 : decode cX9_isLive 2 = .ok (.iload_n 2, 1) := by decide +kernel
theorem dX9_isLive_3 : decode cX9_isLive 3 = .ok (.invokevirtual 184, 3) := by decide +kernel
theorem dX9_isLive_6 : decode cX9_isLive 6 = .ok (.ifCond .ne 6, 3) := by decide +kernel
theorem dX9_isLive_9 : decode cX9_isLive 9 = .ok (.bipush (-2), 2) := by decide +kernel
theorem dX9_isLive_11 : decode cX9_isLive 11 = .ok (.ireturn, 1) := by decide +kernel
theorem dX9_isLive_12 : decode cX9_isLive 12 = .ok (.aload_n 0, 1) := by decide +kernel
theorem dX9_isLive_13 : decode cX9_isLive 13 = .ok (.invokevirtual 218, 3) := by decide +kernel
theorem dX9_isLive_16 : decode cX9_isLive 16 = .ok (.istore_n 3, 1) := by decide +kernel
theorem dX9_isLive_17 : decode cX9_isLive 17 = .ok (.aload_n 0, 1) := by decide +kernel
theorem dX9_isLive_18 : decode cX9_isLive 18 = .ok (.getfield 66, 3) := by decide +kernel
theorem dX9_isLive_21 : decode cX9_isLive 21 = .ok (.bipush 30, 2) := by decide +kernel
theorem dX9_isLive_23 : decode cX9_isLive 23 = .ok (.iload_n 1, 1) := by decide +kernel
theorem dX9_isLive_24 : decode cX9_isLive 24 = .ok (.imul, 1) := by decide +kernel
theorem dX9_isLive_25 : decode cX9_isLive 25 = .ok (.iload_n 2, 1) := by decide +kernel
theorem dX9_isLive_26 : decode cX9_isLive 26 = .ok (.iadd, 1) := by decide +kernel
theorem dX9_isLive_27 : decode cX9_isLive 27 = .ok (.baload, 1) := by decide +kernel
theorem dX9_isLive_28 : decode cX9_isLive 28 = .ok (.ifCond .eq 7, 3) := by decide +kernel
theorem dX9_isLive_31 : decode cX9_isLive 31 = .ok (.iconst 1, 1) := by decide +kernel
theorem dX9_isLive_32 : decode cX9_isLive 32 = .ok (.goto 4, 3) := by decide +kernel
theorem dX9_isLive_35 : decode cX9_isLive 35 = .ok (.iconst 0, 1) := by decide +kernel
theorem dX9_isLive_36 : decode cX9_isLive 36 = .ok (.ireturn, 1) := by decide +kernel
theorem dX9_findDistances_0 : decode cX9_findDistances 0 = .ok (.aload_n 0, 1) := by decide +kernel
theorem dX9_findDistances_1 : decode cX9_findDistances 1 = .ok (.invokevirtual 215, 3) := by decide +kernel
theorem dX9_findDistances_4 : decode cX9_findDistances 4 = .ok (.iconst 0, 1) := by decide +kernel
theorem dX9_findDistances_5 : decode cX9_findDistances 5 = .ok (.istore_n 2, 1) := by decide +kernel
theorem dX9_findDistances_6 : decode cX9_findDistances 6 = .ok (.iload_n 2, 1) := by decide +kernel
theorem dX9_findDistances_7 : decode cX9_findDistances 7 = .ok (.sipush 180, 3) := by decide +kernel
theorem dX9_findDistances_10 : decode cX9_findDistances 10 = .ok (.if_icmp .ge 23, 3) := by decide +kernel
theorem dX9_findDistances_13 : decode cX9_findDistances 13 = .ok (.aload_n 0, 1) := by decide +kernel
theorem dX9_findDistances_14 : decode cX9_findDistances 14 = .ok (.getfield 70, 3) := by decide +kernel
theorem dX9_findDistances_17 : decode cX9_findDistances 17 = .ok (.iload_n 2, 1) := by decide +kernel
theorem dX9_findDistances_18 : decode cX9_findDistances 18 = .ok (.iconst (-1), 1) := by decide +kernel
theorem dX9_findDistances_19 : decode cX9_findDistances 19 = .ok (.iastore, 1) := by decide +kernel
theorem dX9_findDistances_20 : decode cX9_findDistances 20 = .ok (.aload_n 0, 1) := by decide +kernel
theorem dX9_findDistances_21 : decode cX9_findDistances 21 = .ok (.getfield 73, 3) := by decide +kernel
theorem dX9_findDistances_24 : decode cX9_findDistances 24 = .ok (.iload_n 2, 1) := by decide +kernel
theorem dX9_findDistances_25 : decode cX9_findDistances 25 = .ok (.iconst 0, 1) := by decide +kernel
theorem dX9_findDistances_26 : decode cX9_findDistances 26 = .ok (.bastore, 1) := by decide +kernel
theorem dX9_findDistances_27 : decode cX9_findDistances 27 = .ok (.iinc 2 1, 3) := by decide +kernel
theorem dX9_findDistances_30 : decode cX9_findDistances 30 = .ok (.goto (-24), 3) := by decide +kernel
theorem dX9_findDistances_33 : decode cX9_findDistances 33 = .ok (.aload_n 0, 1) := by decide +kernel
theorem dX9_findDistances_34 : decode cX9_findDistances 34 = .ok (.getfield 70, 3) := by decide +kernel
theorem dX9_findDistances_37 : decode cX9_findDistances 37 = .ok (.iload_n 1, 1) := by decide +kernel
theorem dX9_findDistances_38 : decode cX9_findDistances 38 = .ok (.iconst 0, 1) := by decide +kernel
theorem dX9_findDistances_39 : decode cX9_findDistances 39 = .ok (.iastore, 1) := by decide +kernel
theorem dX9_findDistances_40 : decode cX9_findDistances 40 = .ok (.iload_n 1, 1) := by decide +kernel
theorem dX9_findDistances_41 : decode cX9_findDistances 41 = .ok (.istore_n 2, 1) := by decide +kernel
theorem dX9_findDistances_42 : decode cX9_findDistances 42 = .ok (.iload_n 2, 1) := by decide +kernel
theorem dX9_findDistances_43 : decode cX9_findDistances 43 = .ok (.iconst (-1), 1) := by decide +kernel
theorem dX9_findDistances_44 : decode cX9_findDistances 44 = .ok (.if_icmp .eq 157, 3) := by decide +kernel
theorem dX9_findDistances_47 : decode cX9_findDistances 47 = .ok (.aload_n 0, 1) := by decide +kernel
theorem dX9_findDistances_48 : decode cX9_findDistances 48 = .ok (.getfield 73, 3) := by decide +kernel
theorem dX9_findDistances_51 : decode cX9_findDistances 51 = .ok (.iload_n 2, 1) := by decide +kernel
theorem dX9_findDistances_52 : decode cX9_findDistances 52 = .ok (.iconst 1, 1) := by decide +kernel
theorem dX9_findDistances_53 : decode cX9_findDistances 53 = .ok (.bastore, 1) := by decide +kernel
theorem dX9_findDistances_54 : decode cX9_findDistances 54 = .ok (.iconst 0, 1) := by decide +kernel
theorem dX9_findDistances_55 : decode cX9_findDistances 55 = .ok (.istore_n 3, 1) := by decide +kernel
theorem dX9_findDistances_56 : decode cX9_findDistances 56 = .ok (.iload_n 3, 1) := by decide +kernel
theorem dX9_findDistances_57 : decode cX9_findDistances 57 = .ok (.sipush 180, 3) := by decide +kernel
theorem dX9_findDistances_60 : decode cX9_findDistances 60 = .ok (.if_icmp .ge 72, 3) := by decide +kernel
theorem dX9_findDistances_63 : decode cX9_findDistances 63 = .ok (.aload_n 0, 1) := by decide +kernel
theorem dX9_findDistances_64 : decode cX9_findDistances 64 = .ok (.getfield 63, 3) := by decide +kernel
theorem dX9_findDistances_67 : decode cX9_findDistances 67 = .ok (.sipush 180, 3) := by decide +kernel
theorem dX9_findDistances_70 : decode cX9_findDistances 70 = .ok (.iload_n 3, 1) := by decide +kernel
theorem dX9_findDistances_71 : decode cX9_findDistances 71 = .ok (.imul, 1) := by decide +kernel
theorem dX9_findDistances_72 : decode cX9_findDistances 72 = .ok (.iload_n 2, 1) := by decide +kernel
theorem dX9_findDistances_73 : decode cX9_findDistances 73 = .ok (.iadd, 1) := by decide +kernel
theorem dX9_findDistances_74 : decode cX9_findDistances 74 = .ok (.iaload, 1) := by decide +kernel
theorem dX9_findDistances_75 : decode cX9_findDistances 75 = .ok (.istore 4, 2) := by decide +kernel
theorem dX9_findDistances_77 : decode cX9_findDistances 77 = .ok (.iload 4, 2) := by decide +kernel
theorem dX9_findDistances_79 : decode cX9_findDistances 79 = .ok (.iconst (-1), 1) := by decide +kernel
theorem dX9_findDistances_80 : decode cX9_findDistances 80 = .ok (.if_icmp .eq 46, 3) := by decide +kernel
theorem dX9_findDistances_83 : decode cX9_findDistances 83 = .ok (.aload_n 0, 1) := by decide +kernel
theorem dX9_findDistances_84 : decode cX9_findDistances 84 = .ok (.getfield 70, 3) := by decide +kernel
theorem dX9_findDistances_87 : decode cX9_findDistances 87 = .ok (.iload_n 3, 1) := by decide +kernel
theorem dX9_findDistances_88 : decode cX9_findDistances 88 = .ok (.iaload, 1) := by decide +kernel
theorem dX9_findDistances_89 : decode cX9_findDistances 89 = .ok (.iconst (-1), 1) := by decide +kernel
theorem dX9_findDistances_90 : decode cX9_findDistances 90 = .ok (.if_icmp .eq 21, 3) := by decide +kernel
theorem dX9_findDistances_93 : decode cX9_findDistances 93 = .ok (.aload_n 0, 1) := by decide +kernel
theorem dX9_findDistances_94 : decode cX9_findDistances 94 = .ok (.getfield 70, 3) := by decide +kernel
theorem dX9_findDistances_97 : decode cX9_findDistances 97 = .ok (.iload_n 2, 1) := by decide +kernel
theorem dX9_findDistances_98 : decode cX9_findDistances 98 = .ok (.iaload, 1) := by decide +kernel
theorem dX9_findDistances_99 : decode cX9_findDistances 99 = .ok (.iload 4, 2) := by decide +kernel
theorem dX9_findDistances_101 : decode cX9_findDistances 101 = .ok (.iadd, 1) := by decide +kernel
theorem dX9_findDistances_102 : decode cX9_findDistances 102 = .ok (.aload_n 0, 1) := by decide +kernel
theorem dX9_findDistances_103 : decode cX9_findDistances 103 = .ok (.getfield 70, 3) := by decide +kernel
theorem dX9_findDistances_106 : decode cX9_findDistances 106 = .ok (.iload_n 3, 1) := by decide +kernel
theorem dX9_findDistances_107 : decode cX9_findDistances 107 = .ok (.iaload, 1) := by decide +kernel
theorem dX9_findDistances_108 : decode cX9_findDistances 108 = .ok (.if_icmp .ge 18, 3) := by decide +kernel
theorem dX9_findDistances_111 : decode cX9_findDistances 111 = .ok (.aload_n 0, 1) := by decide +kernel
theorem dX9_findDistances_112 : decode cX9_findDistances 112 = .ok (.getfield 70, 3) := by decide +kernel
theorem dX9_findDistances_115 : decode cX9_findDistances 115 = .ok (.iload_n 3, 1) := by decide +kernel
theorem dX9_findDistances_116 : decode cX9_findDistances 116 = .ok (.aload_n 0, 1) := by decide +kernel
theorem dX9_findDistances_117 : decode cX9_findDistances 117 = .ok (.getfield 70, 3) := by decide +kernel
theorem dX9_findDistances_120 : decode cX9_findDistances 120 = .ok (.iload_n 2, 1) := by decide +kernel
theorem dX9_findDistances_121 : decode cX9_findDistances 121 = .ok (.iaload, 1) := by decide +kernel
theorem dX9_findDistances_122 : decode cX9_findDistances 122 = .ok (.iload 4, 2) := by decide +kernel
theorem dX9_findDistances_124 : decode cX9_findDistances 124 = .ok (.iadd, 1) := by decide +kernel
theorem dX9_findDistances_125 : decode cX9_findDistances 125 = .ok (.iastore, 1) := by decide +kernel
theorem dX9_findDistances_126 : decode cX9_findDistances 126 = .ok (.iinc 3 1, 3) := by decide +kernel
theorem dX9_findDistances_129 : decode cX9_findDistances 129 = .ok (.goto (-73), 3) := by decide +kernel
theorem dX9_findDistances_132 : decode cX9_findDistances 132 = .ok (.iconst (-1), 1) := by decide +kernel
theorem dX9_findDistances_133 : decode cX9_findDistances 133 = .ok (.istore_n 3, 1) := by decide +kernel
theorem dX9_findDistances_134 : decode cX9_findDistances 134 = .ok (.iconst 0, 1) := by decide +kernel
theorem dX9_findDistances_135 : decode cX9_findDistances 135 = .ok (.istore 4, 2) := by decide +kernel
theorem dX9_findDistances_137 : decode cX9_findDistances 137 = .ok (.iload 4, 2) := by decide +kernel
theorem dX9_findDistances_139 : decode cX9_findDistances 139 = .ok (.sipush 180, 3) := by decide +kernel
theorem dX9_findDistances_142 : decode cX9_findDistances 142 = .ok (.if_icmp .ge 54, 3) := by decide +kernel
theorem dX9_findDistances_145 : decode cX9_findDistances 145 = .ok (.aload_n 0, 1) := by decide +kernel
theorem dX9_findDistances_146 : decode cX9_findDistances 146 = .ok (.getfield 73, 3) := by decide +kernel
theorem dX9_findDistances_149 : decode cX9_findDistances 149 = .ok (.iload 4, 2) := by decide +kernel
theorem dX9_findDistances_151 : decode cX9_findDistances 151 = .ok (.baload, 1) := by decide +kernel
theorem dX9_findDistances_152 : decode cX9_findDistances 152 = .ok (.ifCond .ne 38, 3) := by decide +kernel
theorem dX9_findDistances_155 : decode cX9_findDistances 155 = .ok (.aload_n 0, 1) := by decide +kernel
theorem dX9_findDistances_156 : decode cX9_findDistances 156 = .ok (.getfield 70, 3) := by decide +kernel
theorem dX9_findDistances_159 : decode cX9_findDistances 159 = .ok (.iload 4, 2) := by decide +kernel
theorem dX9_findDistances_161 : decode cX9_findDistances 161 = .ok (.iaload, 1) := by decide +kernel
theorem dX9_findDistances_162 : decode cX9_findDistances 162 = .ok (.iconst (-1), 1) := by decide +kernel
theorem dX9_findDistances_163 : decode cX9_findDistances 163 = .ok (.if_icmp .eq 27, 3) := by decide +kernel
theorem dX9_findDistances_166 : decode cX9_findDistances 166 = .ok (.iload_n 3, 1) := by decide +kernel
theorem dX9_findDistances_167 : decode cX9_findDistances 167 = .ok (.iconst (-1), 1) := by decide +kernel
theorem dX9_findDistances_168 : decode cX9_findDistances 168 = .ok (.if_icmp .eq 19, 3) := by decide +kernel
theorem dX9_findDistances_171 : decode cX9_findDistances 171 = .ok (.aload_n 0, 1) := by decide +kernel
theorem dX9_findDistances_172 : decode cX9_findDistances 172 = .ok (.getfield 70, 3) := by decide +kernel
theorem dX9_findDistances_175 : decode cX9_findDistances 175 = .ok (.iload 4, 2) := by decide +kernel
theorem dX9_findDistances_177 : decode cX9_findDistances 177 = .ok (.iaload, 1) := by decide +kernel
theorem dX9_findDistances_178 : decode cX9_findDistances 178 = .ok (.aload_n 0, 1) := by decide +kernel
theorem dX9_findDistances_179 : decode cX9_findDistances 179 = .ok (.getfield 70, 3) := by decide +kernel
theorem dX9_findDistances_182 : decode cX9_findDistances 182 = .ok (.iload_n 3, 1) := by decide +kernel
theorem dX9_findDistances_183 : decode cX9_findDistances 183 = .ok (.iaload, 1) := by decide +kernel
theorem dX9_findDistances_184 : decode cX9_findDistances 184 = .ok (.if_icmp .ge 6, 3) := by decide +kernel
theorem dX9_findDistances_187 : decode cX9_findDistances 187 = .ok (.iload 4, 2) := by decide +kernel
theorem dX9_findDistances_189 : decode cX9_findDistances 189 = .ok (.istore_n 3, 1) := by decide +kernel
theorem dX9_findDistances_190 : decode cX9_findDistances 190 = .ok (.iinc 4 1, 3) := by decide +kernel
theorem dX9_findDistances_193 : decode cX9_findDistances 193 = .ok (.goto (-56), 3) := by decide +kernel
theorem dX9_findDistances_196 : decode cX9_findDistances 196 = .ok (.iload_n 3, 1) := by decide +kernel
theorem dX9_findDistances_197 : decode cX9_findDistances 197 = .ok (.istore_n 2, 1) := by decide +kernel
theorem dX9_findDistances_198 : decode cX9_findDistances 198 = .ok (.goto (-156), 3) := by decide +kernel
theorem dX9_findDistances_201 : decode cX9_findDistances 201 = .ok (.return_, 1) := by decide +kernel
theorem dX9_walk_0 : decode cX9_walk 0 = .ok (.aload_n 0, 1) := by decide +kernel
theorem dX9_walk_1 : decode cX9_walk 1 = .ok (.iload_n 1, 1) := by decide +kernel
theorem dX9_walk_2 : decode cX9_walk 2 = .ok (.iload_n 2, 1) := by decide +kernel
theorem dX9_walk_3 : decode cX9_walk 3 = .ok (.invokevirtual 184, 3) := by decide +kernel
theorem dX9_walk_6 : decode cX9_walk 6 = .ok (.ifCond .eq 13, 3) := by decide +kernel
theorem dX9_walk_9 : decode cX9_walk 9 = .ok (.aload_n 0, 1) := by decide +kernel
theorem dX9_walk_10 : decode cX9_walk 10 = .ok (.iload_n 3, 1) := by decide +kernel
theorem dX9_walk_11 : decode cX9_walk 11 = .ok (.iload 4, 2) := by decide +kernel
theorem dX9_walk_13 : decode cX9_walk 13 = .ok (.invokevirtual 184, 3) := by decide +kernel
theorem dX9_walk_16 : decode cX9_walk 16 = .ok (.ifCond .ne 6, 3) := by decide +kernel
theorem dX9_walk_19 : decode cX9_walk 19 = .ok (.bipush (-2), 2) := by decide +kernel
theorem dX9_walk_21 : decode cX9_walk 21 = .ok (.ireturn, 1) := by decide +kernel
theorem dX9_walk_22 : decode cX9_walk 22 = .ok (.bipush 30, 2) := by decide +kernel
theorem dX9_walk_24 : decode cX9_walk 24 = .ok (.iload_n 1, 1) := by decide +kernel
theorem dX9_walk_25 : decode cX9_walk 25 = .ok (.imul, 1) := by decide +kernel
theorem dX9_walk_26 : decode cX9_walk 26 = .ok (.iload_n 2, 1) := by decide +kernel
theorem dX9_walk_27 : decode cX9_walk 27 = .ok (.iadd, 1) := by decide +kernel
theorem dX9_walk_28 : decode cX9_walk 28 = .ok (.istore 5, 2) := by decide +kernel
theorem dX9_walk_30 : decode cX9_walk 30 = .ok (.bipush 30, 2) := by decide +kernel
theorem dX9_walk_32 : decode cX9_walk 32 = .ok (.iload_n 3, 1) := by decide +kernel
theorem dX9_walk_33 : decode cX9_walk 33 = .ok (.imul, 1) := by decide +kernel
theorem dX9_walk_34 : decode cX9_walk 34 = .ok (.iload 4, 2) := by decide +kernel
theorem dX9_walk_36 : decode cX9_walk 36 = .ok (.iadd, 1) := by decide +kernel
theorem dX9_walk_37 : decode cX9_walk 37 = .ok (.istore 6, 2) := by decide +kernel
theorem dX9_walk_39 : decode cX9_walk 39 = .ok (.aload_n 0, 1) := by decide +kernel
theorem dX9_walk_40 : decode cX9_walk 40 = .ok (.iload 6, 2) := by decide +kernel
theorem dX9_walk_42 : decode cX9_walk 42 = .ok (.invokevirtual 221, 3) := by decide +kernel
theorem dX9_walk_45 : decode cX9_walk 45 = .ok (.aload_n 0, 1) := by decide +kernel
theorem dX9_walk_46 : decode cX9_walk 46 = .ok (.aload_n 0, 1) := by decide +kernel
theorem dX9_walk_47 : decode cX9_walk 47 = .ok (.getfield 70, 3) := by decide +kernel
theorem dX9_walk_50 : decode cX9_walk 50 = .ok (.iload 5, 2) := by decide +kernel
theorem dX9_walk_52 : decode cX9_walk 52 = .ok (.iaload, 1) := by decide +kernel
theorem dX9_walk_53 : decode cX9_walk 53 = .ok (.putfield 76, 3) := by decide +kernel
theorem dX9_walk_56 : decode cX9_walk 56 = .ok (.aload_n 0, 1) := by decide +kernel
theorem dX9_walk_57 : decode cX9_walk 57 = .ok (.iconst 0, 1) := by decide +kernel
theorem dX9_walk_58 : decode cX9_walk 58 = .ok (.putfield 225, 3) := by decide +kernel
theorem dX9_walk_61 : decode cX9_walk 61 = .ok (.aload_n 0, 1) := by decide +kernel
theorem dX9_walk_62 : decode cX9_walk 62 = .ok (.getfield 76, 3) := by decide +kernel
theorem dX9_walk_65 : decode cX9_walk 65 = .ok (.iconst (-1), 1) := by decide +kernel
theorem dX9_walk_66 : decode cX9_walk 66 = .ok (.if_icmp .ne 5, 3) := by decide +kernel
theorem dX9_walk_69 : decode cX9_walk 69 = .ok (.iconst (-1), 1) := by decide +kernel
theorem dX9_walk_70 : decode cX9_walk 70 = .ok (.ireturn, 1) := by decide +kernel
theorem dX9_walk_71 : decode cX9_walk 71 = .ok (.aload_n 0, 1) := by decide +kernel
theorem dX9_walk_72 : decode cX9_walk 72 = .ok (.getfield 79, 3) := by decide +kernel
theorem dX9_walk_75 : decode cX9_walk 75 = .ok (.iconst 0, 1) := by decide +kernel
theorem dX9_walk_76 : decode cX9_walk 76 = .ok (.iload 5, 2) := by decide +kernel
theorem dX9_walk_78 : decode cX9_walk 78 = .ok (.iastore, 1) := by decide +kernel
theorem dX9_walk_79 : decode cX9_walk 79 = .ok (.aload_n 0, 1) := by decide +kernel
theorem dX9_walk_80 : decode cX9_walk 80 = .ok (.iconst 1, 1) := by decide +kernel
theorem dX9_walk_81 : decode cX9_walk 81 = .ok (.putfield 225, 3) := by decide +kernel
theorem dX9_walk_84 : decode cX9_walk 84 = .ok (.iload 5, 2) := by decide +kernel
theorem dX9_walk_86 : decode cX9_walk 86 = .ok (.iload 6, 2) := by decide +kernel
theorem dX9_walk_88 : decode cX9_walk 88 = .ok (.if_icmp .eq 101, 3) := by decide +kernel
theorem dX9_walk_91 : decode cX9_walk 91 = .ok (.iconst 0, 1) := by decide +kernel
theorem dX9_walk_92 : decode cX9_walk 92 = .ok (.istore 7, 2) := by decide +kernel
theorem dX9_walk_94 : decode cX9_walk 94 = .ok (.aload_n 0, 1) := by decide +kernel
theorem dX9_walk_95 : decode cX9_walk 95 = .ok (.getfield 63, 3) := by decide +kernel
theorem dX9_walk_98 : decode cX9_walk 98 = .ok (.sipush 180, 3) := by decide +kernel
theorem dX9_walk_101 : decode cX9_walk 101 = .ok (.iload 5, 2) := by decide +kernel
theorem dX9_walk_103 : decode cX9_walk 103 = .ok (.imul, 1) := by decide +kernel
theorem dX9_walk_104 : decode cX9_walk 104 = .ok (.iload 7, 2) := by decide +kernel
theorem dX9_walk_106 : decode cX9_walk 106 = .ok (.iadd, 1) := by decide +kernel
theorem dX9_walk_107 : decode cX9_walk 107 = .ok (.iaload, 1) := by decide +kernel
theorem dX9_walk_108 : decode cX9_walk 108 = .ok (.iconst (-1), 1) := by decide +kernel
theorem dX9_walk_109 : decode cX9_walk 109 = .ok (.if_icmp .eq 46, 3) := by decide +kernel
theorem dX9_walk_112 : decode cX9_walk 112 = .ok (.aload_n 0, 1) := by decide +kernel
theorem dX9_walk_113 : decode cX9_walk 113 = .ok (.getfield 70, 3) := by decide +kernel
theorem dX9_walk_116 : decode cX9_walk 116 = .ok (.iload 7, 2) := by decide +kernel
theorem dX9_walk_118 : decode cX9_walk 118 = .ok (.iaload, 1) := by decide +kernel
theorem dX9_walk_119 : decode cX9_walk 119 = .ok (.iconst (-1), 1) := by decide +kernel
theorem dX9_walk_120 : decode cX9_walk 120 = .ok (.if_icmp .eq 35, 3) := by decide +kernel
theorem dX9_walk_123 : decode cX9_walk 123 = .ok (.aload_n 0, 1) := by decide +kernel
theorem dX9_walk_124 : decode cX9_walk 124 = .ok (.getfield 63, 3) := by decide +kernel
theorem dX9_walk_127 : decode cX9_walk 127 = .ok (.sipush 180, 3) := by decide +kernel
theorem dX9_walk_130 : decode cX9_walk 130 = .ok (.iload 5, 2) := by decide +kernel
theorem dX9_walk_132 : decode cX9_walk 132 = .ok (.imul, 1) := by decide +kernel
theorem dX9_walk_133 : decode cX9_walk 133 = .ok (.iload 7, 2) := by decide +kernel
theorem dX9_walk_135 : decode cX9_walk 135 = .ok (.iadd, 1) := by decide +kernel
theorem dX9_walk_136 : decode cX9_walk 136 = .ok (.iaload, 1) := by decide +kernel
theorem dX9_walk_137 : decode cX9_walk 137 = .ok (.aload_n 0, 1) := by decide +kernel
theorem dX9_walk_138 : decode cX9_walk 138 = .ok (.getfield 70, 3) := by decide +kernel
theorem dX9_walk_141 : decode cX9_walk 141 = .ok (.iload 7, 2) := by decide +kernel
theorem dX9_walk_143 : decode cX9_walk 143 = .ok (.iaload, 1) := by decide +kernel
theorem dX9_walk_144 : decode cX9_walk 144 = .ok (.iadd, 1) := by decide +kernel
theorem dX9_walk_145 : decode cX9_walk 145 = .ok (.aload_n 0, 1) := by decide +kernel
theorem dX9_walk_146 : decode cX9_walk 146 = .ok (.getfield 70, 3) := by decide +kernel
theorem dX9_walk_149 : decode cX9_walk 149 = .ok (.iload 5, 2) := by decide +kernel
theorem dX9_walk_151 : decode cX9_walk 151 = .ok (.iaload, 1) := by decide +kernel
theorem dX9_walk_152 : decode cX9_walk 152 = .ok (.if_icmp .eq 9, 3) := by decide +kernel
theorem dX9_walk_155 : decode cX9_walk 155 = .ok (.iinc 7 1, 3) := by decide +kernel
theorem dX9_walk_158 : decode cX9_walk 158 = .ok (.goto (-64), 3) := by decide +kernel
theorem dX9_walk_161 : decode cX9_walk 161 = .ok (.iload 7, 2) := by decide +kernel
theorem dX9_walk_163 : decode cX9_walk 163 = .ok (.istore 5, 2) := by decide +kernel
theorem dX9_walk_165 : decode cX9_walk 165 = .ok (.aload_n 0, 1) := by decide +kernel
theorem dX9_walk_166 : decode cX9_walk 166 = .ok (.getfield 79, 3) := by decide +kernel
theorem dX9_walk_169 : decode cX9_walk 169 = .ok (.aload_n 0, 1) := by decide +kernel
theorem dX9_walk_170 : decode cX9_walk 170 = .ok (.getfield 225, 3) := by decide +kernel
theorem dX9_walk_173 : decode cX9_walk 173 = .ok (.iload 7, 2) := by decide +kernel
theorem dX9_walk_175 : decode cX9_walk 175 = .ok (.iastore, 1) := by decide +kernel
theorem dX9_walk_176 : decode cX9_walk 176 = .ok (.aload_n 0, 1) := by decide +kernel
theorem dX9_walk_177 : decode cX9_walk 177 = .ok (.dup, 1) := by decide +kernel
theorem dX9_walk_178 : decode cX9_walk 178 = .ok (.getfield 225, 3) := by decide +kernel
theorem dX9_walk_181 : decode cX9_walk 181 = .ok (.iconst 1, 1) := by decide +kernel
theorem dX9_walk_182 : decode cX9_walk 182 = .ok (.iadd, 1) := by decide +kernel
theorem dX9_walk_183 : decode cX9_walk 183 = .ok (.putfield 225, 3) := by decide +kernel
theorem dX9_walk_186 : decode cX9_walk 186 = .ok (.goto (-102), 3) := by decide +kernel
theorem dX9_walk_189 : decode cX9_walk 189 = .ok (.aload_n 0, 1) := by decide +kernel
theorem dX9_walk_190 : decode cX9_walk 190 = .ok (.getfield 76, 3) := by decide +kernel
theorem dX9_walk_193 : decode cX9_walk 193 = .ok (.ireturn, 1) := by decide +kernel
theorem dX9_step_0 : decode cX9_step 0 = .ok (.iload_n 1, 1) := by decide +kernel
theorem dX9_step_1 : decode cX9_step 1 = .ok (.i2l, 1) := by decide +kernel
theorem dX9_step_2 : decode cX9_step 2 = .ok (.lconst 0, 1) := by decide +kernel
theorem dX9_step_3 : decode cX9_step 3 = .ok (.aload_n 0, 1) := by decide +kernel
theorem dX9_step_4 : decode cX9_step 4 = .ok (.getfield 225, 3) := by decide +kernel
theorem dX9_step_7 : decode cX9_step 7 = .ok (.iconst 1, 1) := by decide +kernel
theorem dX9_step_8 : decode cX9_step 8 = .ok (.isub, 1) := by decide +kernel
theorem dX9_step_9 : decode cX9_step 9 = .ok (.i2l, 1) := by decide +kernel
theorem dX9_step_10 : decode cX9_step 10 = .ok (.invokestatic 114, 3) := by decide +kernel
theorem dX9_step_13 : decode cX9_step 13 = .ok (.ifCond .eq 12, 3) := by decide +kernel
theorem dX9_step_16 : decode cX9_step 16 = .ok (.aload_n 0, 1) := by decide +kernel
theorem dX9_step_17 : decode cX9_step 17 = .ok (.getfield 79, 3) := by decide +kernel
theorem dX9_step_20 : decode cX9_step 20 = .ok (.iload_n 1, 1) := by decide +kernel
theorem dX9_step_21 : decode cX9_step 21 = .ok (.iaload, 1) := by decide +kernel
theorem dX9_step_22 : decode cX9_step 22 = .ok (.goto 5, 3) := by decide +kernel
theorem dX9_step_25 : decode cX9_step 25 = .ok (.bipush (-2), 2) := by decide +kernel
theorem dX9_step_27 : decode cX9_step 27 = .ok (.ireturn, 1) := by decide +kernel
theorem dX9_met_0 : decode cX9_met 0 = .ok (.aload_n 0, 1) := by decide +kernel
theorem dX9_met_1 : decode cX9_met 1 = .ok (.iload_n 1, 1) := by decide +kernel
theorem dX9_met_2 : decode cX9_met 2 = .ok (.putfield 228, 3) := by decide +kernel
theorem dX9_met_5 : decode cX9_met 5 = .ok (.bipush (-10), 2) := by decide +kernel
theorem dX9_met_7 : decode cX9_met 7 = .ok (.iload_n 1, 1) := by decide +kernel
theorem dX9_met_8 : decode cX9_met 8 = .ok (.isub, 1) := by decide +kernel
theorem dX9_met_9 : decode cX9_met 9 = .ok (.ireturn, 1) := by decide +kernel
theorem dX9_isSheet_0 : decode cX9_isSheet 0 = .ok (.iload_n 0, 1) := by decide +kernel
theorem dX9_isSheet_1 : decode cX9_isSheet 1 = .ok (.i2l, 1) := by decide +kernel
theorem dX9_isSheet_2 : decode cX9_isSheet 2 = .ok (.lconst 0, 1) := by decide +kernel
theorem dX9_isSheet_3 : decode cX9_isSheet 3 = .ok (.ldc2_w 231, 3) := by decide +kernel
theorem dX9_isSheet_6 : decode cX9_isSheet 6 = .ok (.invokestatic 114, 3) := by decide +kernel
theorem dX9_isSheet_9 : decode cX9_isSheet 9 = .ok (.ireturn, 1) := by decide +kernel
theorem dX9_sheet_0 : decode cX9_sheet 0 = .ok (.iload_n 1, 1) := by decide +kernel
theorem dX9_sheet_1 : decode cX9_sheet 1 = .ok (.invokestatic 233, 3) := by decide +kernel
theorem dX9_sheet_4 : decode cX9_sheet 4 = .ok (.ifCond .eq 21, 3) := by decide +kernel
theorem dX9_sheet_7 : decode cX9_sheet 7 = .ok (.iload_n 2, 1) := by decide +kernel
theorem dX9_sheet_8 : decode cX9_sheet 8 = .ok (.i2l, 1) := by decide +kernel
theorem dX9_sheet_9 : decode cX9_sheet 9 = .ok (.lconst 0, 1) := by decide +kernel
theorem dX9_sheet_10 : decode cX9_sheet 10 = .ok (.ldc2_w 236, 3) := by decide +kernel
theorem dX9_sheet_13 : decode cX9_sheet 13 = .ok (.invokestatic 114, 3) := by decide +kernel
theorem dX9_sheet_16 : decode cX9_sheet 16 = .ok (.ifCond .eq 9, 3) := by decide +kernel
theorem dX9_sheet_19 : decode cX9_sheet 19 = .ok (.iload_n 3, 1) := by decide +kernel
theorem dX9_sheet_20 : decode cX9_sheet 20 = .ok (.bipush 60, 2) := by decide +kernel
theorem dX9_sheet_22 : decode cX9_sheet 22 = .ok (.if_icmp .le 6, 3) := by decide +kernel
theorem dX9_sheet_25 : decode cX9_sheet 25 = .ok (.bipush (-2), 2) := by decide +kernel
theorem dX9_sheet_27 : decode cX9_sheet 27 = .ok (.ireturn, 1) := by decide +kernel
theorem dX9_sheet_28 : decode cX9_sheet 28 = .ok (.iload_n 3, 1) := by decide +kernel
theorem dX9_sheet_29 : decode cX9_sheet 29 = .ok (.ifCond .ge 9, 3) := by decide +kernel
theorem dX9_sheet_32 : decode cX9_sheet 32 = .ok (.aload_n 0, 1) := by decide +kernel
theorem dX9_sheet_33 : decode cX9_sheet 33 = .ok (.iconst 5, 1) := by decide +kernel
theorem dX9_sheet_34 : decode cX9_sheet 34 = .ok (.invokevirtual 238, 3) := by decide +kernel
theorem dX9_sheet_37 : decode cX9_sheet 37 = .ok (.ireturn, 1) := by decide +kernel
theorem dX9_sheet_38 : decode cX9_sheet 38 = .ok (.aload_n 0, 1) := by decide +kernel
theorem dX9_sheet_39 : decode cX9_sheet 39 = .ok (.getfield 82, 3) := by decide +kernel
theorem dX9_sheet_42 : decode cX9_sheet 42 = .ok (.iload_n 1, 1) := by decide +kernel
theorem dX9_sheet_43 : decode cX9_sheet 43 = .ok (.iload_n 2, 1) := by decide +kernel
theorem dX9_sheet_44 : decode cX9_sheet 44 = .ok (.iastore, 1) := by decide +kernel
theorem dX9_sheet_45 : decode cX9_sheet 45 = .ok (.aload_n 0, 1) := by decide +kernel
theorem dX9_sheet_46 : decode cX9_sheet 46 = .ok (.getfield 85, 3) := by decide +kernel
theorem dX9_sheet_49 : decode cX9_sheet 49 = .ok (.iload_n 1, 1) := by decide +kernel
theorem dX9_sheet_50 : decode cX9_sheet 50 = .ok (.iload_n 3, 1) := by decide +kernel
theorem dX9_sheet_51 : decode cX9_sheet 51 = .ok (.iastore, 1) := by decide +kernel
theorem dX9_sheet_52 : decode cX9_sheet 52 = .ok (.iconst 0, 1) := by decide +kernel
theorem dX9_sheet_53 : decode cX9_sheet 53 = .ok (.istore 4, 2) := by decide +kernel
theorem dX9_sheet_55 : decode cX9_sheet 55 = .ok (.iload 4, 2) := by decide +kernel
theorem dX9_sheet_57 : decode cX9_sheet 57 = .ok (.iload_n 3, 1) := by decide +kernel
theorem dX9_sheet_58 : decode cX9_sheet 58 = .ok (.if_icmp .ge 22, 3) := by decide +kernel
theorem dX9_sheet_61 : decode cX9_sheet 61 = .ok (.aload_n 0, 1) := by decide +kernel
theorem dX9_sheet_62 : decode cX9_sheet 62 = .ok (.getfield 88, 3) := by decide +kernel
theorem dX9_sheet_65 : decode cX9_sheet 65 = .ok (.bipush 60, 2) := by decide +kernel
theorem dX9_sheet_67 : decode cX9_sheet 67 = .ok (.iload_n 1, 1) := by decide +kernel
theorem dX9_sheet_68 : decode cX9_sheet 68 = .ok (.imul, 1) := by decide +kernel
theorem dX9_sheet_69 : decode cX9_sheet 69 = .ok (.iload 4, 2) := by decide +kernel
theorem dX9_sheet_71 : decode cX9_sheet 71 = .ok (.iadd, 1) := by decide +kernel
theorem dX9_sheet_72 : decode cX9_sheet 72 = .ok (.iconst 0, 1) := by decide +kernel
theorem dX9_sheet_73 : decode cX9_sheet 73 = .ok (.iastore, 1) := by decide +kernel
theorem dX9_sheet_74 : decode cX9_sheet 74 = .ok (.iinc 4 1, 3) := by decide +kernel
theorem dX9_sheet_77 : decode cX9_sheet 77 = .ok (.goto (-22), 3) := by decide +kernel
theorem dX9_sheet_80 : decode cX9_sheet 80 = .ok (.iload_n 3, 1) := by decide +kernel
theorem dX9_sheet_81 : decode cX9_sheet 81 = .ok (.ireturn, 1) := by decide +kernel
theorem dX9_lose_0 : decode cX9_lose 0 = .ok (.iload_n 1, 1) := by decide +kernel
theorem dX9_lose_1 : decode cX9_lose 1 = .ok (.invokestatic 233, 3) := by decide +kernel
theorem dX9_lose_4 : decode cX9_lose 4 = .ok (.ifCond .ne 6, 3) := by decide +kernel
theorem dX9_lose_7 : decode cX9_lose 7 = .ok (.bipush (-2), 2) := by decide +kernel
theorem dX9_lose_9 : decode cX9_lose 9 = .ok (.ireturn, 1) := by decide +kernel
theorem dX9_lose_10 : decode cX9_lose 10 = .ok (.aload_n 0, 1) := by decide +kernel
theorem dX9_lose_11 : decode cX9_lose 11 = .ok (.getfield 82, 3) := by decide +kernel
theorem dX9_lose_14 : decode cX9_lose 14 = .ok (.iload_n 1, 1) := by decide +kernel
theorem dX9_lose_15 : decode cX9_lose 15 = .ok (.iaload, 1) := by decide +kernel
theorem dX9_lose_16 : decode cX9_lose 16 = .ok (.ifCond .ge 9, 3) := by decide +kernel
theorem dX9_lose_19 : decode cX9_lose 19 = .ok (.aload_n 0, 1) := by decide +kernel
theorem dX9_lose_20 : decode cX9_lose 20 = .ok (.iconst 1, 1) := by decide +kernel
theorem dX9_lose_21 : decode cX9_lose 21 = .ok (.invokevirtual 238, 3) := by decide +kernel
theorem dX9_lose_24 : decode cX9_lose 24 = .ok (.ireturn, 1) := by decide +kernel
theorem dX9_lose_25 : decode cX9_lose 25 = .ok (.aload_n 0, 1) := by decide +kernel
theorem dX9_lose_26 : decode cX9_lose 26 = .ok (.getfield 82, 3) := by decide +kernel
theorem dX9_lose_29 : decode cX9_lose 29 = .ok (.iload_n 1, 1) := by decide +kernel
theorem dX9_lose_30 : decode cX9_lose 30 = .ok (.iconst (-1), 1) := by decide +kernel
theorem dX9_lose_31 : decode cX9_lose 31 = .ok (.iastore, 1) := by decide +kernel
theorem dX9_lose_32 : decode cX9_lose 32 = .ok (.aload_n 0, 1) := by decide +kernel
theorem dX9_lose_33 : decode cX9_lose 33 = .ok (.getfield 85, 3) := by decide +kernel
theorem dX9_lose_36 : decode cX9_lose 36 = .ok (.iload_n 1, 1) := by decide +kernel
theorem dX9_lose_37 : decode cX9_lose 37 = .ok (.iaload, 1) := by decide +kernel
theorem dX9_lose_38 : decode cX9_lose 38 = .ok (.ireturn, 1) := by decide +kernel
theorem dX9_lacks_0 : decode cX9_lacks 0 = .ok (.aload_n 0, 1) := by decide +kernel
theorem dX9_lacks_1 : decode cX9_lacks 1 = .ok (.getfield 82, 3) := by decide +kernel
theorem dX9_lacks_4 : decode cX9_lacks 4 = .ok (.iload_n 1, 1) := by decide +kernel
theorem dX9_lacks_5 : decode cX9_lacks 5 = .ok (.iaload, 1) := by decide +kernel
theorem dX9_lacks_6 : decode cX9_lacks 6 = .ok (.ifCond .ge 9, 3) := by decide +kernel
theorem dX9_lacks_9 : decode cX9_lacks 9 = .ok (.aload_n 0, 1) := by decide +kernel
theorem dX9_lacks_10 : decode cX9_lacks 10 = .ok (.iconst 1, 1) := by decide +kernel
theorem dX9_lacks_11 : decode cX9_lacks 11 = .ok (.invokevirtual 238, 3) := by decide +kernel
theorem dX9_lacks_14 : decode cX9_lacks 14 = .ok (.ireturn, 1) := by decide +kernel
theorem dX9_lacks_15 : decode cX9_lacks 15 = .ok (.aload_n 0, 1) := by decide +kernel
theorem dX9_lacks_16 : decode cX9_lacks 16 = .ok (.getfield 82, 3) := by decide +kernel
theorem dX9_lacks_19 : decode cX9_lacks 19 = .ok (.iload_n 1, 1) := by decide +kernel
theorem dX9_lacks_20 : decode cX9_lacks 20 = .ok (.iaload, 1) := by decide +kernel
theorem dX9_lacks_21 : decode cX9_lacks 21 = .ok (.iload_n 2, 1) := by decide +kernel
theorem dX9_lacks_22 : decode cX9_lacks 22 = .ok (.if_icmp .eq 9, 3) := by decide +kernel
theorem dX9_lacks_25 : decode cX9_lacks 25 = .ok (.aload_n 0, 1) := by decide +kernel
theorem dX9_lacks_26 : decode cX9_lacks 26 = .ok (.iconst 3, 1) := by decide +kernel
theorem dX9_lacks_27 : decode cX9_lacks 27 = .ok (.invokevirtual 238, 3) := by decide +kernel
theorem dX9_lacks_30 : decode cX9_lacks 30 = .ok (.ireturn, 1) := by decide +kernel
theorem dX9_lacks_31 : decode cX9_lacks 31 = .ok (.iload_n 3, 1) := by decide +kernel
theorem dX9_lacks_32 : decode cX9_lacks 32 = .ok (.i2l, 1) := by decide +kernel
theorem dX9_lacks_33 : decode cX9_lacks 33 = .ok (.lconst 0, 1) := by decide +kernel
theorem dX9_lacks_34 : decode cX9_lacks 34 = .ok (.aload_n 0, 1) := by decide +kernel
theorem dX9_lacks_35 : decode cX9_lacks 35 = .ok (.getfield 85, 3) := by decide +kernel
theorem dX9_lacks_38 : decode cX9_lacks 38 = .ok (.iload_n 1, 1) := by decide +kernel
theorem dX9_lacks_39 : decode cX9_lacks 39 = .ok (.iaload, 1) := by decide +kernel
theorem dX9_lacks_40 : decode cX9_lacks 40 = .ok (.iconst 1, 1) := by decide +kernel
theorem dX9_lacks_41 : decode cX9_lacks 41 = .ok (.isub, 1) := by decide +kernel
theorem dX9_lacks_42 : decode cX9_lacks 42 = .ok (.i2l, 1) := by decide +kernel
theorem dX9_lacks_43 : decode cX9_lacks 43 = .ok (.invokestatic 114, 3) := by decide +kernel
theorem dX9_lacks_46 : decode cX9_lacks 46 = .ok (.ifCond .eq 7, 3) := by decide +kernel
theorem dX9_lacks_49 : decode cX9_lacks 49 = .ok (.iconst 0, 1) := by decide +kernel
theorem dX9_lacks_50 : decode cX9_lacks 50 = .ok (.goto 8, 3) := by decide +kernel
theorem dX9_lacks_53 : decode cX9_lacks 53 = .ok (.aload_n 0, 1) := by decide +kernel
theorem dX9_lacks_54 : decode cX9_lacks 54 = .ok (.iconst 2, 1) := by decide +kernel
theorem dX9_lacks_55 : decode cX9_lacks 55 = .ok (.invokevirtual 238, 3) := by decide +kernel
theorem dX9_lacks_58 : decode cX9_lacks 58 = .ok (.ireturn, 1) := by decide +kernel
theorem dX9_put_0 : decode cX9_put 0 = .ok (.iload_n 1, 1) := by decide +kernel
theorem dX9_put_1 : decode cX9_put 1 = .ok (.invokestatic 233, 3) := by decide +kernel
theorem dX9_put_4 : decode cX9_put 4 = .ok (.ifCond .eq 15, 3) := by decide +kernel
theorem dX9_put_7 : decode cX9_put 7 = .ok (.iload_n 2, 1) := by decide +kernel
theorem dX9_put_8 : decode cX9_put 8 = .ok (.i2l, 1) := by decide +kernel
theorem dX9_put_9 : decode cX9_put 9 = .ok (.lconst 0, 1) := by decide +kernel
theorem dX9_put_10 : decode cX9_put 10 = .ok (.ldc2_w 236, 3) := by decide +kernel
theorem dX9_put_13 : decode cX9_put 13 = .ok (.invokestatic 114, 3) := by decide +kernel
theorem dX9_put_16 : decode cX9_put 16 = .ok (.ifCond .ne 6, 3) := by decide +kernel
theorem dX9_put_19 : decode cX9_put 19 = .ok (.bipush (-2), 2) := by decide +kernel
theorem dX9_put_21 : decode cX9_put 21 = .ok (.ireturn, 1) := by decide +kernel
theorem dX9_put_22 : decode cX9_put 22 = .ok (.aload_n 0, 1) := by decide +kernel
theorem dX9_put_23 : decode cX9_put 23 = .ok (.iload_n 1, 1) := by decide +kernel
theorem dX9_put_24 : decode cX9_put 24 = .ok (.iload_n 2, 1) := by decide +kernel
theorem dX9_put_25 : decode cX9_put 25 = .ok (.iload_n 3, 1) := by decide +kernel
theorem dX9_put_26 : decode cX9_put 26 = .ok (.invokevirtual 241, 3) := by decide +kernel
theorem dX9_put_29 : decode cX9_put 29 = .ok (.istore 5, 2) := by decide +kernel
theorem dX9_put_31 : decode cX9_put 31 = .ok (.iload 5, 2) := by decide +kernel
theorem dX9_put_33 : decode cX9_put 33 = .ok (.ifCond .eq 6, 3) := by decide +kernel
theorem dX9_put_36 : decode cX9_put 36 = .ok (.iload 5, 2) := by decide +kernel
theorem dX9_put_38 : decode cX9_put 38 = .ok (.ireturn, 1) := by decide +kernel
theorem dX9_put_39 : decode cX9_put 39 = .ok (.aload_n 0, 1) := by decide +kernel
theorem dX9_put_40 : decode cX9_put 40 = .ok (.getfield 88, 3) := by decide +kernel
theorem dX9_put_43 : decode cX9_put 43 = .ok (.bipush 60, 2) := by decide +kernel
theorem dX9_put_45 : decode cX9_put 45 = .ok (.iload_n 1, 1) := by decide +kernel
theorem dX9_put_46 : decode cX9_put 46 = .ok (.imul, 1) := by decide +kernel
theorem dX9_put_47 : decode cX9_put 47 = .ok (.iload_n 3, 1) := by decide +kernel
theorem dX9_put_48 : decode cX9_put 48 = .ok (.iadd, 1) := by decide +kernel
theorem dX9_put_49 : decode cX9_put 49 = .ok (.iload_n 2, 1) := by decide +kernel
theorem dX9_put_50 : decode cX9_put 50 = .ok (.ifCond .ne 9, 3) := by decide +kernel
theorem dX9_put_53 : decode cX9_put 53 = .ok (.iload 4, 2) := by decide +kernel
theorem dX9_put_55 : decode cX9_put 55 = .ok (.i2b, 1) := by decide +kernel
theorem dX9_put_56 : decode cX9_put 56 = .ok (.goto 16, 3) := by decide +kernel
theorem dX9_put_59 : decode cX9_put 59 = .ok (.iload_n 2, 1) := by decide +kernel
theorem dX9_put_60 : decode cX9_put 60 = .ok (.iconst 1, 1) := by decide +kernel
theorem dX9_put_61 : decode cX9_put 61 = .ok (.if_icmp .ne 9, 3) := by decide +kernel
theorem dX9_put_64 : decode cX9_put 64 = .ok (.iload 4, 2) := by decide +kernel
theorem dX9_put_66 : decode cX9_put 66 = .ok (.i2s, 1) := by decide +kernel
theorem dX9_put_67 : decode cX9_put 67 = .ok (.goto 5, 3) := by decide +kernel
theorem dX9_put_70 : decode cX9_put 70 = .ok (.iload 4, 2) := by decide +kernel
theorem dX9_put_72 : decode cX9_put 72 = .ok (.iastore, 1) := by decide +kernel
theorem dX9_put_73 : decode cX9_put 73 = .ok (.iconst 1, 1) := by decide +kernel
theorem dX9_put_74 : decode cX9_put 74 = .ok (.ireturn, 1) := by decide +kernel
theorem dX9_get_0 : decode cX9_get 0 = .ok (.iload_n 1, 1) := by decide +kernel
theorem dX9_get_1 : decode cX9_get 1 = .ok (.invokestatic 233, 3) := by decide +kernel
theorem dX9_get_4 : decode cX9_get 4 = .ok (.ifCond .eq 25, 3) := by decide +kernel
theorem dX9_get_7 : decode cX9_get 7 = .ok (.iload_n 2, 1) := by decide +kernel
theorem dX9_get_8 : decode cX9_get 8 = .ok (.i2l, 1) := by decide +kernel
theorem dX9_get_9 : decode cX9_get 9 = .ok (.lconst 0, 1) := by decide +kernel
theorem dX9_get_10 : decode cX9_get 10 = .ok (.ldc2_w 236, 3) := by decide +kernel
theorem dX9_get_13 : decode cX9_get 13 = .ok (.invokestatic 114, 3) := by decide +kernel
theorem dX9_get_16 : decode cX9_get 16 = .ok (.ifCond .eq 13, 3) := by decide +kernel
theorem dX9_get_19 : decode cX9_get 19 = .ok (.aload_n 0, 1) := by decide +kernel
theorem dX9_get_20 : decode cX9_get 20 = .ok (.iload_n 1, 1) := by decide +kernel
theorem dX9_get_21 : decode cX9_get 21 = .ok (.iload_n 2, 1) := by decide +kernel
theorem dX9_get_22 : decode cX9_get 22 = .ok (.iload_n 3, 1) := by decide +kernel
theorem dX9_get_23 : decode cX9_get 23 = .ok (.invokevirtual 241, 3) := by decide +kernel
theorem dX9_get_26 : decode cX9_get 26 = .ok (.ifCond .eq 6, 3) := by decide +kernel
theorem dX9_get_29 : decode cX9_get 29 = .ok (.ldc 245, 2) := by decide +kernel
theorem dX9_get_31 : decode cX9_get 31 = .ok (.ireturn, 1) := by decide +kernel
theorem dX9_get_32 : decode cX9_get 32 = .ok (.aload_n 0, 1) := by decide +kernel
theorem dX9_get_33 : decode cX9_get 33 = .ok (.getfield 88, 3) := by decide +kernel
theorem dX9_get_36 : decode cX9_get 36 = .ok (.bipush 60, 2) := by decide +kernel
theorem dX9_get_38 : decode cX9_get 38 = .ok (.iload_n 1, 1) := by decide +kernel
theorem dX9_get_39 : decode cX9_get 39 = .ok (.imul, 1) := by decide +kernel
theorem dX9_get_40 : decode cX9_get 40 = .ok (.iload_n 3, 1) := by decide +kernel
theorem dX9_get_41 : decode cX9_get 41 = .ok (.iadd, 1) := by decide +kernel
theorem dX9_get_42 : decode cX9_get 42 = .ok (.iaload, 1) := by decide +kernel
theorem dX9_get_43 : decode cX9_get 43 = .ok (.ireturn, 1) := by decide +kernel
theorem dX9_copy_0 : decode cX9_copy 0 = .ok (.iload_n 1, 1) := by decide +kernel
theorem dX9_copy_1 : decode cX9_copy 1 = .ok (.invokestatic 233, 3) := by decide +kernel
theorem dX9_copy_4 : decode cX9_copy 4 = .ok (.ifCond .eq 10, 3) := by decide +kernel
theorem dX9_copy_7 : decode cX9_copy 7 = .ok (.iload_n 3, 1) := by decide +kernel
theorem dX9_copy_8 : decode cX9_copy 8 = .ok (.invokestatic 233, 3) := by decide +kernel
theorem dX9_copy_11 : decode cX9_copy 11 = .ok (.ifCond .ne 6, 3) := by decide +kernel
theorem dX9_copy_14 : decode cX9_copy 14 = .ok (.bipush (-2), 2) := by decide +kernel
theorem dX9_copy_16 : decode cX9_copy 16 = .ok (.ireturn, 1) := by decide +kernel
theorem dX9_copy_17 : decode cX9_copy 17 = .ok (.aload_n 0, 1) := by decide +kernel
theorem dX9_copy_18 : decode cX9_copy 18 = .ok (.getfield 82, 3) := by decide +kernel
theorem dX9_copy_21 : decode cX9_copy 21 = .ok (.iload_n 1, 1) := by decide +kernel
theorem dX9_copy_22 : decode cX9_copy 22 = .ok (.iaload, 1) := by decide +kernel
theorem dX9_copy_23 : decode cX9_copy 23 = .ok (.ifCond .lt 12, 3) := by decide +kernel
theorem dX9_copy_26 : decode cX9_copy 26 = .ok (.aload_n 0, 1) := by decide +kernel
theorem dX9_copy_27 : decode cX9_copy 27 = .ok (.getfield 82, 3) := by decide +kernel
theorem dX9_copy_30 : decode cX9_copy 30 = .ok (.iload_n 3, 1) := by decide +kernel
theorem dX9_copy_31 : decode cX9_copy 31 = .ok (.iaload, 1) := by decide +kernel
theorem dX9_copy_32 : decode cX9_copy 32 = .ok (.ifCond .ge 9, 3) := by decide +kernel
theorem dX9_copy_35 : decode cX9_copy 35 = .ok (.aload_n 0, 1) := by decide +kernel
theorem dX9_copy_36 : decode cX9_copy 36 = .ok (.iconst 1, 1) := by decide +kernel
theorem dX9_copy_37 : decode cX9_copy 37 = .ok (.invokevirtual 238, 3) := by decide +kernel
theorem dX9_copy_40 : decode cX9_copy 40 = .ok (.ireturn, 1) := by decide +kernel
theorem dX9_copy_41 : decode cX9_copy 41 = .ok (.aload_n 0, 1) := by decide +kernel
theorem dX9_copy_42 : decode cX9_copy 42 = .ok (.getfield 82, 3) := by decide +kernel
theorem dX9_copy_45 : decode cX9_copy 45 = .ok (.iload_n 1, 1) := by decide +kernel
theorem dX9_copy_46 : decode cX9_copy 46 = .ok (.iaload, 1) := by decide +kernel
theorem dX9_copy_47 : decode cX9_copy 47 = .ok (.aload_n 0, 1) := by decide +kernel
theorem dX9_copy_48 : decode cX9_copy 48 = .ok (.getfield 82, 3) := by decide +kernel
theorem dX9_copy_51 : decode cX9_copy 51 = .ok (.iload_n 3, 1) := by decide +kernel
theorem dX9_copy_52 : decode cX9_copy 52 = .ok (.iaload, 1) := by decide +kernel
theorem dX9_copy_53 : decode cX9_copy 53 = .ok (.if_icmp .eq 9, 3) := by decide +kernel
theorem dX9_copy_56 : decode cX9_copy 56 = .ok (.aload_n 0, 1) := by decide +kernel
theorem dX9_copy_57 : decode cX9_copy 57 = .ok (.iconst 4, 1) := by decide +kernel
theorem dX9_copy_58 : decode cX9_copy 58 = .ok (.invokevirtual 238, 3) := by decide +kernel
theorem dX9_copy_61 : decode cX9_copy 61 = .ok (.ireturn, 1) := by decide +kernel
theorem dX9_copy_62 : decode cX9_copy 62 = .ok (.iload_n 2, 1) := by decide +kernel
theorem dX9_copy_63 : decode cX9_copy 63 = .ok (.ifCond .lt 48, 3) := by decide +kernel
theorem dX9_copy_66 : decode cX9_copy 66 = .ok (.iload 4, 2) := by decide +kernel
theorem dX9_copy_68 : decode cX9_copy 68 = .ok (.ifCond .lt 43, 3) := by decide +kernel
theorem dX9_copy_71 : decode cX9_copy 71 = .ok (.iload 5, 2) := by decide +kernel
theorem dX9_copy_73 : decode cX9_copy 73 = .ok (.ifCond .lt 38, 3) := by decide +kernel
theorem dX9_copy_76 : decode cX9_copy 76 = .ok (.iload_n 2, 1) := by decide +kernel
theorem dX9_copy_77 : decode cX9_copy 77 = .ok (.i2l, 1) := by decide +kernel
theorem dX9_copy_78 : decode cX9_copy 78 = .ok (.iload 5, 2) := by decide +kernel
theorem dX9_copy_80 : decode cX9_copy 80 = .ok (.i2l, 1) := by decide +kernel
theorem dX9_copy_81 : decode cX9_copy 81 = .ok (.ladd, 1) := by decide +kernel
theorem dX9_copy_82 : decode cX9_copy 82 = .ok (.aload_n 0, 1) := by decide +kernel
theorem dX9_copy_83 : decode cX9_copy 83 = .ok (.getfield 85, 3) := by decide +kernel
theorem dX9_copy_86 : decode cX9_copy 86 = .ok (.iload_n 1, 1) := by decide +kernel
theorem dX9_copy_87 : decode cX9_copy 87 = .ok (.iaload, 1) := by decide +kernel
theorem dX9_copy_88 : decode cX9_copy 88 = .ok (.i2l, 1) := by decide +kernel
theorem dX9_copy_89 : decode cX9_copy 89 = .ok (.lcmp, 1) := by decide +kernel
theorem dX9_copy_90 : decode cX9_copy 90 = .ok (.ifCond .gt 21, 3) := by decide +kernel
theorem dX9_copy_93 : decode cX9_copy 93 = .ok (.iload 4, 2) := by decide +kernel
theorem dX9_copy_95 : decode cX9_copy 95 = .ok (.i2l, 1) := by decide +kernel
theorem dX9_copy_96 : decode cX9_copy 96 = .ok (.iload 5, 2) := by decide +kernel
theorem dX9_copy_98 : decode cX9_copy 98 = .ok (.i2l, 1) := by decide +kernel
theorem dX9_copy_99 : decode cX9_copy 99 = .ok (.ladd, 1) := by decide +kernel
theorem dX9_copy_100 : decode cX9_copy 100 = .ok (.aload_n 0, 1) := by decide +kernel
theorem dX9_copy_101 : decode cX9_copy 101 = .ok (.getfield 85, 3) := by decide +kernel
theorem dX9_copy_104 : decode cX9_copy 104 = .ok (.iload_n 3, 1) := by decide +kernel
theorem dX9_copy_105 : decode cX9_copy 105 = .ok (.iaload, 1) := by decide +kernel
theorem dX9_copy_106 : decode cX9_copy 106 = .ok (.i2l, 1) := by decide +kernel
theorem dX9_copy_107 : decode cX9_copy 107 = .ok (.lcmp, 1) := by decide +kernel
theorem dX9_copy_108 : decode cX9_copy 108 = .ok (.ifCond .le 9, 3) := by decide +kernel
theorem dX9_copy_111 : decode cX9_copy 111 = .ok (.aload_n 0, 1) := by decide +kernel
theorem dX9_copy_112 : decode cX9_copy 112 = .ok (.iconst 2, 1) := by decide +kernel
theorem dX9_copy_113 : decode cX9_copy 113 = .ok (.invokevirtual 238, 3) := by decide +kernel
theorem dX9_copy_116 : decode cX9_copy 116 = .ok (.ireturn, 1) := by decide +kernel
theorem dX9_copy_117 : decode cX9_copy 117 = .ok (.iconst 0, 1) := by decide +kernel
theorem dX9_copy_118 : decode cX9_copy 118 = .ok (.istore 6, 2) := by decide +kernel
theorem dX9_copy_120 : decode cX9_copy 120 = .ok (.iload 6, 2) := by decide +kernel
theorem dX9_copy_122 : decode cX9_copy 122 = .ok (.iload 5, 2) := by decide +kernel
theorem dX9_copy_124 : decode cX9_copy 124 = .ok (.if_icmp .ge 30, 3) := by decide +kernel
theorem dX9_copy_127 : decode cX9_copy 127 = .ok (.aload_n 0, 1) := by decide +kernel
theorem dX9_copy_128 : decode cX9_copy 128 = .ok (.getfield 91, 3) := by decide +kernel
theorem dX9_copy_131 : decode cX9_copy 131 = .ok (.iload 6, 2) := by decide +kernel
theorem dX9_copy_133 : decode cX9_copy 133 = .ok (.aload_n 0, 1) := by decide +kernel
theorem dX9_copy_134 : decode cX9_copy 134 = .ok (.getfield 88, 3) := by decide +kernel
theorem dX9_copy_137 : decode cX9_copy 137 = .ok (.bipush 60, 2) := by decide +kernel
theorem dX9_copy_139 : decode cX9_copy 139 = .ok (.iload_n 1, 1) := by decide +kernel
theorem dX9_copy_140 : decode cX9_copy 140 = .ok (.imul, 1) := by decide +kernel
theorem dX9_copy_141 : decode cX9_copy 141 = .ok (.iload_n 2, 1) := by decide +kernel
theorem dX9_copy_142 : decode cX9_copy 142 = .ok (.iadd, 1) := by decide +kernel
theorem dX9_copy_143 : decode cX9_copy 143 = .ok (.iload 6, 2) := by decide +kernel
theorem dX9_copy_145 : decode cX9_copy 145 = .ok (.iadd, 1) := by decide +kernel
theorem dX9_copy_146 : decode cX9_copy 146 = .ok (.iaload, 1) := by decide +kernel
theorem dX9_copy_147 : decode cX9_copy 147 = .ok (.iastore, 1) := by decide +kernel
theorem dX9_copy_148 : decode cX9_copy 148 = .ok (.iinc 6 1, 3) := by decide +kernel
theorem dX9_copy_151 : decode cX9_copy 151 = .ok (.goto (-31), 3) := by decide +kernel
theorem dX9_copy_154 : decode cX9_copy 154 = .ok (.iconst 0, 1) := by decide +kernel
theorem dX9_copy_155 : decode cX9_copy 155 = .ok (.istore 6, 2) := by decide +kernel
theorem dX9_copy_157 : decode cX9_copy 157 = .ok (.iload 6, 2) := by decide +kernel
theorem dX9_copy_159 : decode cX9_copy 159 = .ok (.iload 5, 2) := by decide +kernel
theorem dX9_copy_161 : decode cX9_copy 161 = .ok (.if_icmp .ge 31, 3) := by decide +kernel
theorem dX9_copy_164 : decode cX9_copy 164 = .ok (.aload_n 0, 1) := by decide +kernel
theorem dX9_copy_165 : decode cX9_copy 165 = .ok (.getfield 88, 3) := by decide +kernel
theorem dX9_copy_168 : decode cX9_copy 168 = .ok (.bipush 60, 2) := by decide +kernel
theorem dX9_copy_170 : decode cX9_copy 170 = .ok (.iload_n 3, 1) := by decide +kernel
theorem dX9_copy_171 : decode cX9_copy 171 = .ok (.imul, 1) := by decide +kernel
theorem dX9_copy_172 : decode cX9_copy 172 = .ok (.iload 4, 2) := by decide +kernel
theorem dX9_copy_174 : decode cX9_copy 174 = .ok (.iadd, 1) := by decide +kernel
theorem dX9_copy_175 : decode cX9_copy 175 = .ok (.iload 6, 2) := by decide +kernel
theorem dX9_copy_177 : decode cX9_copy 177 = .ok (.iadd, 1) := by decide +kernel
theorem dX9_copy_178 : decode cX9_copy 178 = .ok (.aload_n 0, 1) := by decide +kernel
theorem dX9_copy_179 : decode cX9_copy 179 = .ok (.getfield 91, 3) := by decide +kernel
theorem dX9_copy_182 : decode cX9_copy 182 = .ok (.iload 6, 2) := by decide +kernel
theorem dX9_copy_184 : decode cX9_copy 184 = .ok (.iaload, 1) := by decide +kernel
theorem dX9_copy_185 : decode cX9_copy 185 = .ok (.iastore, 1) := by decide +kernel
theorem dX9_copy_186 : decode cX9_copy 186 = .ok (.iinc 6 1, 3) := by decide +kernel
theorem dX9_copy_189 : decode cX9_copy 189 = .ok (.goto (-32), 3) := by decide +kernel
theorem dX9_copy_192 : decode cX9_copy 192 = .ok (.iconst 1, 1) := by decide +kernel
theorem dX9_copy_193 : decode cX9_copy 193 = .ok (.ireturn, 1) := by decide +kernel
theorem dX9_lacksRow_0 : decode cX9_lacksRow 0 = .ok (.iload_n 1, 1) := by decide +kernel
theorem dX9_lacksRow_1 : decode cX9_lacksRow 1 = .ok (.invokestatic 233, 3) := by decide +kernel
theorem dX9_lacksRow_4 : decode cX9_lacksRow 4 = .ok (.ifCond .ne 6, 3) := by decide +kernel
theorem dX9_lacksRow_7 : decode cX9_lacksRow 7 = .ok (.bipush (-2), 2) := by decide +kernel
theorem dX9_lacksRow_9 : decode cX9_lacksRow 9 = .ok (.ireturn, 1) := by decide +kernel
theorem dX9_lacksRow_10 : decode cX9_lacksRow 10 = .ok (.aload_n 0, 1) := by decide +kernel
theorem dX9_lacksRow_11 : decode cX9_lacksRow 11 = .ok (.getfield 82, 3) := by decide +kernel
theorem dX9_lacksRow_14 : decode cX9_lacksRow 14 = .ok (.iload_n 1, 1) := by decide +kernel
theorem dX9_lacksRow_15 : decode cX9_lacksRow 15 = .ok (.iaload, 1) := by decide +kernel
theorem dX9_lacksRow_16 : decode cX9_lacksRow 16 = .ok (.ifCond .ge 9, 3) := by decide +kernel
theorem dX9_lacksRow_19 : decode cX9_lacksRow 19 = .ok (.aload_n 0, 1) := by decide +kernel
theorem dX9_lacksRow_20 : decode cX9_lacksRow 20 = .ok (.iconst 1, 1) := by decide +kernel
theorem dX9_lacksRow_21 : decode cX9_lacksRow 21 = .ok (.invokevirtual 238, 3) := by decide +kernel
theorem dX9_lacksRow_24 : decode cX9_lacksRow 24 = .ok (.ireturn, 1) := by decide +kernel
theorem dX9_lacksRow_25 : decode cX9_lacksRow 25 = .ok (.iload_n 2, 1) := by decide +kernel
theorem dX9_lacksRow_26 : decode cX9_lacksRow 26 = .ok (.ifCond .lt 22, 3) := by decide +kernel
theorem dX9_lacksRow_29 : decode cX9_lacksRow 29 = .ok (.iload_n 2, 1) := by decide +kernel
theorem dX9_lacksRow_30 : decode cX9_lacksRow 30 = .ok (.i2l, 1) := by decide +kernel
theorem dX9_lacksRow_31 : decode cX9_lacksRow 31 = .ok (.aload_n 0, 1) := by decide +kernel
theorem dX9_lacksRow_32 : decode cX9_lacksRow 32 = .ok (.getfield 111, 3) := by decide +kernel
theorem dX9_lacksRow_35 : decode cX9_lacksRow 35 = .ok (.i2l, 1) := by decide +kernel
theorem dX9_lacksRow_36 : decode cX9_lacksRow 36 = .ok (.ladd, 1) := by decide +kernel
theorem dX9_lacksRow_37 : decode cX9_lacksRow 37 = .ok (.aload_n 0, 1) := by decide +kernel
theorem dX9_lacksRow_38 : decode cX9_lacksRow 38 = .ok (.getfield 85, 3) := by decide +kernel
theorem dX9_lacksRow_41 : decode cX9_lacksRow 41 = .ok (.iload_n 1, 1) := by decide +kernel
theorem dX9_lacksRow_42 : decode cX9_lacksRow 42 = .ok (.iaload, 1) := by decide +kernel
theorem dX9_lacksRow_43 : decode cX9_lacksRow 43 = .ok (.i2l, 1) := by decide +kernel
theorem dX9_lacksRow_44 : decode cX9_lacksRow 44 = .ok (.lcmp, 1) := by decide +kernel
theorem dX9_lacksRow_45 : decode cX9_lacksRow 45 = .ok (.ifCond .le 11, 3) := by decide +kernel
theorem dX9_lacksRow_48 : decode cX9_lacksRow 48 = .ok (.aload_n 0, 1) := by decide +kernel
theorem dX9_lacksRow_49 : decode cX9_lacksRow 49 = .ok (.iconst 2, 1) := by decide +kernel
theorem dX9_lacksRow_50 : decode cX9_lacksRow 50 = .ok (.invokevirtual 238, 3) := by decide +kernel
theorem dX9_lacksRow_53 : decode cX9_lacksRow 53 = .ok (.goto 4, 3) := by decide +kernel
theorem dX9_lacksRow_56 : decode cX9_lacksRow 56 = .ok (.iconst 0, 1) := by decide +kernel
theorem dX9_lacksRow_57 : decode cX9_lacksRow 57 = .ok (.ireturn, 1) := by decide +kernel
theorem dX9_pose_0 : decode cX9_pose 0 = .ok (.aload_n 0, 1) := by decide +kernel
theorem dX9_pose_1 : decode cX9_pose 1 = .ok (.iload_n 1, 1) := by decide +kernel
theorem dX9_pose_2 : decode cX9_pose 2 = .ok (.iload_n 2, 1) := by decide +kernel
theorem dX9_pose_3 : decode cX9_pose 3 = .ok (.invokevirtual 246, 3) := by decide +kernel
theorem dX9_pose_6 : decode cX9_pose 6 = .ok (.istore_n 3, 1) := by decide +kernel
theorem dX9_pose_7 : decode cX9_pose 7 = .ok (.iload_n 3, 1) := by decide +kernel
theorem dX9_pose_8 : decode cX9_pose 8 = .ok (.ifCond .eq 5, 3) := by decide +kernel
theorem dX9_pose_11 : decode cX9_pose 11 = .ok (.iload_n 3, 1) := by decide +kernel
theorem dX9_pose_12 : decode cX9_pose 12 = .ok (.ireturn, 1) := by decide +kernel
theorem dX9_pose_13 : decode cX9_pose 13 = .ok (.iconst 0, 1) := by decide +kernel
theorem dX9_pose_14 : decode cX9_pose 14 = .ok (.istore 4, 2) := by decide +kernel
theorem dX9_pose_16 : decode cX9_pose 16 = .ok (.aload_n 0, 1) := by decide +kernel
theorem dX9_pose_17 : decode cX9_pose 17 = .ok (.invokevirtual 156, 3) := by decide +kernel
theorem dX9_pose_20 : decode cX9_pose 20 = .ok (.iconst 0, 1) := by decide +kernel
theorem dX9_pose_21 : decode cX9_pose 21 = .ok (.istore 5, 2) := by decide +kernel
theorem dX9_pose_23 : decode cX9_pose 23 = .ok (.iload 5, 2) := by decide +kernel
theorem dX9_pose_25 : decode cX9_pose 25 = .ok (.aload_n 0, 1) := by decide +kernel
theorem dX9_pose_26 : decode cX9_pose 26 = .ok (.getfield 111, 3) := by decide +kernel
theorem dX9_pose_29 : decode cX9_pose 29 = .ok (.if_icmp .ge 64, 3) := by decide +kernel
theorem dX9_pose_32 : decode cX9_pose 32 = .ok (.aload_n 0, 1) := by decide +kernel
theorem dX9_pose_33 : decode cX9_pose 33 = .ok (.getfield 88, 3) := by decide +kernel
theorem dX9_pose_36 : decode cX9_pose 36 = .ok (.bipush 60, 2) := by decide +kernel
theorem dX9_pose_38 : decode cX9_pose 38 = .ok (.iload_n 1, 1) := by decide +kernel
theorem dX9_pose_39 : decode cX9_pose 39 = .ok (.imul, 1) := by decide +kernel
theorem dX9_pose_40 : decode cX9_pose 40 = .ok (.iload_n 2, 1) := by decide +kernel
theorem dX9_pose_41 : decode cX9_pose 41 = .ok (.iadd, 1) := by decide +kernel
theorem dX9_pose_42 : decode cX9_pose 42 = .ok (.iload 5, 2) := by decide +kernel
theorem dX9_pose_44 : decode cX9_pose 44 = .ok (.iadd, 1) := by decide +kernel
theorem dX9_pose_45 : decode cX9_pose 45 = .ok (.iaload, 1) := by decide +kernel
theorem dX9_pose_46 : decode cX9_pose 46 = .ok (.invokestatic 96, 3) := by decide +kernel
theorem dX9_pose_49 : decode cX9_pose 49 = .ok (.istore 6, 2) := by decide +kernel
theorem dX9_pose_51 : decode cX9_pose 51 = .ok (.iload 4, 2) := by decide +kernel
theorem dX9_pose_53 : decode cX9_pose 53 = .ok (.aload_n 0, 1) := by decide +kernel
theorem dX9_pose_54 : decode cX9_pose 54 = .ok (.iload 5, 2) := by decide +kernel
theorem dX9_pose_56 : decode cX9_pose 56 = .ok (.iload 6, 2) := by decide +kernel
theorem dX9_pose_58 : decode cX9_pose 58 = .ok (.invokevirtual 100, 3) := by decide +kernel
theorem dX9_pose_61 : decode cX9_pose 61 = .ok (.ifCond .eq 7, 3) := by decide +kernel
theorem dX9_pose_64 : decode cX9_pose 64 = .ok (.iconst 0, 1) := by decide +kernel
theorem dX9_pose_65 : decode cX9_pose 65 = .ok (.goto 4, 3) := by decide +kernel
theorem dX9_pose_68 : decode cX9_pose 68 = .ok (.iconst 1, 1) := by decide +kernel
theorem dX9_pose_69 : decode cX9_pose 69 = .ok (.iadd, 1) := by decide +kernel
theorem dX9_pose_70 : decode cX9_pose 70 = .ok (.istore 4, 2) := by decide +kernel
theorem dX9_pose_72 : decode cX9_pose 72 = .ok (.aload_n 0, 1) := by decide +kernel
theorem dX9_pose_73 : decode cX9_pose 73 = .ok (.getfield 31, 3) := by decide +kernel
theorem dX9_pose_76 : decode cX9_pose 76 = .ok (.iload 5, 2) := by decide +kernel
theorem dX9_pose_78 : decode cX9_pose 78 = .ok (.aload_n 0, 1) := by decide +kernel
theorem dX9_pose_79 : decode cX9_pose 79 = .ok (.iload 5, 2) := by decide +kernel
theorem dX9_pose_81 : decode cX9_pose 81 = .ok (.iload 6, 2) := by decide +kernel
theorem dX9_pose_83 : decode cX9_pose 83 = .ok (.invokevirtual 187, 3) := by decide +kernel
theorem dX9_pose_86 : decode cX9_pose 86 = .ok (.iastore, 1) := by decide +kernel
theorem dX9_pose_87 : decode cX9_pose 87 = .ok (.iinc 5 1, 3) := by decide +kernel
theorem dX9_pose_90 : decode cX9_pose 90 = .ok (.goto (-67), 3) := by decide +kernel
theorem dX9_pose_93 : decode cX9_pose 93 = .ok (.aload_n 0, 1) := by decide +kernel
theorem dX9_pose_94 : decode cX9_pose 94 = .ok (.invokevirtual 159, 3) := by decide +kernel
theorem dX9_pose_97 : decode cX9_pose 97 = .ok (.iload 4, 2) := by decide +kernel
theorem dX9_pose_99 : decode cX9_pose 99 = .ok (.ireturn, 1) := by decide +kernel
theorem dX9_write_0 : decode cX9_write 0 = .ok (.aload_n 0, 1) := by decide +kernel
theorem dX9_write_1 : decode cX9_write 1 = .ok (.iload_n 1, 1) := by decide +kernel
theorem dX9_write_2 : decode cX9_write 2 = .ok (.iload_n 2, 1) := by decide +kernel
theorem dX9_write_3 : decode cX9_write 3 = .ok (.invokevirtual 246, 3) := by decide +kernel
theorem dX9_write_6 : decode cX9_write 6 = .ok (.istore_n 3, 1) := by decide +kernel
theorem dX9_write_7 : decode cX9_write 7 = .ok (.iload_n 3, 1) := by decide +kernel
theorem dX9_write_8 : decode cX9_write 8 = .ok (.ifCond .eq 5, 3) := by decide +kernel
theorem dX9_write_11 : decode cX9_write 11 = .ok (.iload_n 3, 1) := by decide +kernel
theorem dX9_write_12 : decode cX9_write 12 = .ok (.ireturn, 1) := by decide +kernel
theorem dX9_write_13 : decode cX9_write 13 = .ok (.iconst 0, 1) := by decide +kernel
theorem dX9_write_14 : decode cX9_write 14 = .ok (.istore 4, 2) := by decide +kernel
theorem dX9_write_16 : decode cX9_write 16 = .ok (.iload 4, 2) := by decide +kernel
theorem dX9_write_18 : decode cX9_write 18 = .ok (.aload_n 0, 1) := by decide +kernel
theorem dX9_write_19 : decode cX9_write 19 = .ok (.getfield 111, 3) := by decide +kernel
theorem dX9_write_22 : decode cX9_write 22 = .ok (.if_icmp .ge 30, 3) := by decide +kernel
theorem dX9_write_25 : decode cX9_write 25 = .ok (.aload_n 0, 1) := by decide +kernel
theorem dX9_write_26 : decode cX9_write 26 = .ok (.getfield 88, 3) := by decide +kernel
theorem dX9_write_29 : decode cX9_write 29 = .ok (.bipush 60, 2) := by decide +kernel
theorem dX9_write_31 : decode cX9_write 31 = .ok (.iload_n 1, 1) := by decide +kernel
theorem dX9_write_32 : decode cX9_write 32 = .ok (.imul, 1) := by decide +kernel
theorem dX9_write_33 : decode cX9_write 33 = .ok (.iload_n 2, 1) := by decide +kernel
theorem dX9_write_34 : decode cX9_write 34 = .ok (.iadd, 1) := by decide +kernel
theorem dX9_write_35 : decode cX9_write 35 = .ok (.iload 4, 2) := by decide +kernel
theorem dX9_write_37 : decode cX9_write 37 = .ok (.iadd, 1) := by decide +kernel
theorem dX9_write_38 : decode cX9_write 38 = .ok (.aload_n 0, 1) := by decide +kernel
theorem dX9_write_39 : decode cX9_write 39 = .ok (.getfield 31, 3) := by decide +kernel
theorem dX9_write_42 : decode cX9_write 42 = .ok (.iload 4, 2) := by decide +kernel
theorem dX9_write_44 : decode cX9_write 44 = .ok (.iaload, 1) := by decide +kernel
theorem dX9_write_45 : decode cX9_write 45 = .ok (.iastore, 1) := by decide +kernel
theorem dX9_write_46 : decode cX9_write 46 = .ok (.iinc 4 1, 3) := by decide +kernel
theorem dX9_write_49 : decode cX9_write 49 = .ok (.goto (-33), 3) := by decide +kernel
theorem dX9_write_52 : decode cX9_write 52 = .ok (.aload_n 0, 1) := by decide +kernel
theorem dX9_write_53 : decode cX9_write 53 = .ok (.getfield 111, 3) := by decide +kernel
theorem dX9_write_56 : decode cX9_write 56 = .ok (.ireturn, 1) := by decide +kernel
theorem dX9_count_0 : decode cX9_count 0 = .ok (.iload_n 1, 1) := by decide +kernel
theorem dX9_count_1 : decode cX9_count 1 = .ok (.tableswitch 78 0 6 #[43, 48, 53, 58, 63, 68, 73], 43) := by decide +kernel
theorem dX9_count_44 : decode cX9_count 44 = .ok (.aload_n 0, 1) := by decide +kernel
theorem dX9_count_45 : decode cX9_count 45 = .ok (.getfield 111, 3) := by decide +kernel
theorem dX9_count_48 : decode cX9_count 48 = .ok (.ireturn, 1) := by decide +kernel
theorem dX9_count_49 : decode cX9_count 49 = .ok (.aload_n 0, 1) := by decide +kernel
theorem dX9_count_50 : decode cX9_count 50 = .ok (.invokevirtual 128, 3) := by decide +kernel
theorem dX9_count_53 : decode cX9_count 53 = .ok (.ireturn, 1) := by decide +kernel
theorem dX9_count_54 : decode cX9_count 54 = .ok (.aload_n 0, 1) := by decide +kernel
theorem dX9_count_55 : decode cX9_count 55 = .ok (.getfield 34, 3) := by decide +kernel
theorem dX9_count_58 : decode cX9_count 58 = .ok (.ireturn, 1) := by decide +kernel
theorem dX9_count_59 : decode cX9_count 59 = .ok (.aload_n 0, 1) := by decide +kernel
theorem dX9_count_60 : decode cX9_count 60 = .ok (.getfield 60, 3) := by decide +kernel
theorem dX9_count_63 : decode cX9_count 63 = .ok (.ireturn, 1) := by decide +kernel
theorem dX9_count_64 : decode cX9_count 64 = .ok (.aload_n 0, 1) := by decide +kernel
theorem dX9_count_65 : decode cX9_count 65 = .ok (.getfield 199, 3) := by decide +kernel
theorem dX9_count_68 : decode cX9_count 68 = .ok (.ireturn, 1) := by decide +kernel
theorem dX9_count_69 : decode cX9_count 69 = .ok (.aload_n 0, 1) := by decide +kernel
theorem dX9_count_70 : decode cX9_count 70 = .ok (.getfield 76, 3) := by decide +kernel
theorem dX9_count_73 : decode cX9_count 73 = .ok (.ireturn, 1) := by decide +kernel
theorem dX9_count_74 : decode cX9_count 74 = .ok (.aload_n 0, 1) := by decide +kernel
theorem dX9_count_75 : decode cX9_count 75 = .ok (.getfield 228, 3) := by decide +kernel
theorem dX9_count_78 : decode cX9_count 78 = .ok (.ireturn, 1) := by decide +kernel
theorem dX9_count_79 : decode cX9_count 79 = .ok (.bipush (-2), 2) := by decide +kernel
theorem dX9_count_81 : decode cX9_count 81 = .ok (.ireturn, 1) := by decide +kernel
theorem dX9_digest_0 : decode cX9_digest 0 = .ok (.aload_n 0, 1) := by decide +kernel
theorem dX9_digest_1 : decode cX9_digest 1 = .ok (.invokevirtual 147, 3) := by decide +kernel
theorem dX9_digest_4 : decode cX9_digest 4 = .ok (.ldc2_w 249, 3) := by decide +kernel
theorem dX9_digest_7 : decode cX9_digest 7 = .ok (.lstore_n 1, 1) := by decide +kernel
theorem dX9_digest_8 : decode cX9_digest 8 = .ok (.iconst 0, 1) := by decide +kernel
theorem dX9_digest_9 : decode cX9_digest 9 = .ok (.istore_n 3, 1) := by decide +kernel
theorem dX9_digest_10 : decode cX9_digest 10 = .ok (.iload_n 3, 1) := by decide +kernel
theorem dX9_digest_11 : decode cX9_digest 11 = .ok (.iconst 4, 1) := by decide +kernel
theorem dX9_digest_12 : decode cX9_digest 12 = .ok (.if_icmp .ge 22, 3) := by decide +kernel
theorem dX9_digest_15 : decode cX9_digest 15 = .ok (.ldc2_w 251, 3) := by decide +kernel
theorem dX9_digest_18 : decode cX9_digest 18 = .ok (.lload_n 1, 1) := by decide +kernel
theorem dX9_digest_19 : decode cX9_digest 19 = .ok (.lmul, 1) := by decide +kernel
theorem dX9_digest_20 : decode cX9_digest 20 = .ok (.aload_n 0, 1) := by decide +kernel
theorem dX9_digest_21 : decode cX9_digest 21 = .ok (.iload_n 3, 1) := by decide +kernel
theorem dX9_digest_22 : decode cX9_digest 22 = .ok (.invokevirtual 253, 3) := by decide +kernel
theorem dX9_digest_25 : decode cX9_digest 25 = .ok (.i2l, 1) := by decide +kernel
theorem dX9_digest_26 : decode cX9_digest 26 = .ok (.ladd, 1) := by decide +kernel
theorem dX9_digest_27 : decode cX9_digest 27 = .ok (.lstore_n 1, 1) := by decide +kernel
theorem dX9_digest_28 : decode cX9_digest 28 = .ok (.iinc 3 1, 3) := by decide +kernel
theorem dX9_digest_31 : decode cX9_digest 31 = .ok (.goto (-21), 3) := by decide +kernel
theorem dX9_digest_34 : decode cX9_digest 34 = .ok (.iconst 0, 1) := by decide +kernel
theorem dX9_digest_35 : decode cX9_digest 35 = .ok (.istore_n 3, 1) := by decide +kernel
theorem dX9_digest_36 : decode cX9_digest 36 = .ok (.iload_n 3, 1) := by decide +kernel
theorem dX9_digest_37 : decode cX9_digest 37 = .ok (.aload_n 0, 1) := by decide +kernel
theorem dX9_digest_38 : decode cX9_digest 38 = .ok (.getfield 111, 3) := by decide +kernel
theorem dX9_digest_41 : decode cX9_digest 41 = .ok (.if_icmp .ge 49, 3) := by decide +kernel
theorem dX9_digest_44 : decode cX9_digest 44 = .ok (.ldc2_w 251, 3) := by decide +kernel
theorem dX9_digest_47 : decode cX9_digest 47 = .ok (.lload_n 1, 1) := by decide +kernel
theorem dX9_digest_48 : decode cX9_digest 48 = .ok (.lmul, 1) := by decide +kernel
theorem dX9_digest_49 : decode cX9_digest 49 = .ok (.aload_n 0, 1) := by decide +kernel
theorem dX9_digest_50 : decode cX9_digest 50 = .ok (.getfield 31, 3) := by decide +kernel
theorem dX9_digest_53 : decode cX9_digest 53 = .ok (.iload_n 3, 1) := by decide +kernel
theorem dX9_digest_54 : decode cX9_digest 54 = .ok (.iaload, 1) := by decide +kernel
theorem dX9_digest_55 : decode cX9_digest 55 = .ok (.i2l, 1) := by decide +kernel
theorem dX9_digest_56 : decode cX9_digest 56 = .ok (.ladd, 1) := by decide +kernel
theorem dX9_digest_57 : decode cX9_digest 57 = .ok (.lstore_n 1, 1) := by decide +kernel
theorem dX9_digest_58 : decode cX9_digest 58 = .ok (.ldc2_w 251, 3) := by decide +kernel
theorem dX9_digest_61 : decode cX9_digest 61 = .ok (.lload_n 1, 1) := by decide +kernel
theorem dX9_digest_62 : decode cX9_digest 62 = .ok (.lmul, 1) := by decide +kernel
theorem dX9_digest_63 : decode cX9_digest 63 = .ok (.aload_n 0, 1) := by decide +kernel
theorem dX9_digest_64 : decode cX9_digest 64 = .ok (.getfield 45, 3) := by decide +kernel
theorem dX9_digest_67 : decode cX9_digest 67 = .ok (.iload_n 3, 1) := by decide +kernel
theorem dX9_digest_68 : decode cX9_digest 68 = .ok (.laload, 1) := by decide +kernel
theorem dX9_digest_69 : decode cX9_digest 69 = .ok (.ladd, 1) := by decide +kernel
theorem dX9_digest_70 : decode cX9_digest 70 = .ok (.lstore_n 1, 1) := by decide +kernel
theorem dX9_digest_71 : decode cX9_digest 71 = .ok (.ldc2_w 251, 3) := by decide +kernel
theorem dX9_digest_74 : decode cX9_digest 74 = .ok (.lload_n 1, 1) := by decide +kernel
theorem dX9_digest_75 : decode cX9_digest 75 = .ok (.lmul, 1) := by decide +kernel
theorem dX9_digest_76 : decode cX9_digest 76 = .ok (.aload_n 0, 1) := by decide +kernel
theorem dX9_digest_77 : decode cX9_digest 77 = .ok (.getfield 48, 3) := by decide +kernel
theorem dX9_digest_80 : decode cX9_digest 80 = .ok (.iload_n 3, 1) := by decide +kernel
theorem dX9_digest_81 : decode cX9_digest 81 = .ok (.laload, 1) := by decide +kernel
theorem dX9_digest_82 : decode cX9_digest 82 = .ok (.ladd, 1) := by decide +kernel
theorem dX9_digest_83 : decode cX9_digest 83 = .ok (.lstore_n 1, 1) := by decide +kernel
theorem dX9_digest_84 : decode cX9_digest 84 = .ok (.iinc 3 1, 3) := by decide +kernel
theorem dX9_digest_87 : decode cX9_digest 87 = .ok (.goto (-51), 3) := by decide +kernel
theorem dX9_digest_90 : decode cX9_digest 90 = .ok (.iconst 0, 1) := by decide +kernel
theorem dX9_digest_91 : decode cX9_digest 91 = .ok (.istore_n 3, 1) := by decide +kernel
theorem dX9_digest_92 : decode cX9_digest 92 = .ok (.iload_n 3, 1) := by decide +kernel
theorem dX9_digest_93 : decode cX9_digest 93 = .ok (.bipush 6, 2) := by decide +kernel
theorem dX9_digest_95 : decode cX9_digest 95 = .ok (.if_icmp .ge 69, 3) := by decide +kernel
theorem dX9_digest_98 : decode cX9_digest 98 = .ok (.iconst 0, 1) := by decide +kernel
theorem dX9_digest_99 : decode cX9_digest 99 = .ok (.istore 4, 2) := by decide +kernel
theorem dX9_digest_101 : decode cX9_digest 101 = .ok (.iload 4, 2) := by decide +kernel
theorem dX9_digest_103 : decode cX9_digest 103 = .ok (.aload_n 0, 1) := by decide +kernel
theorem dX9_digest_104 : decode cX9_digest 104 = .ok (.getfield 51, 3) := by decide +kernel
theorem dX9_digest_107 : decode cX9_digest 107 = .ok (.iload_n 3, 1) := by decide +kernel
theorem dX9_digest_108 : decode cX9_digest 108 = .ok (.iaload, 1) := by decide +kernel
theorem dX9_digest_109 : decode cX9_digest 109 = .ok (.if_icmp .ge 49, 3) := by decide +kernel
theorem dX9_digest_112 : decode cX9_digest 112 = .ok (.iconst 0, 1) := by decide +kernel
theorem dX9_digest_113 : decode cX9_digest 113 = .ok (.istore 5, 2) := by decide +kernel
theorem dX9_digest_115 : decode cX9_digest 115 = .ok (.iload 5, 2) := by decide +kernel
theorem dX9_digest_117 : decode cX9_digest 117 = .ok (.aload_n 0, 1) := by decide +kernel
theorem dX9_digest_118 : decode cX9_digest 118 = .ok (.getfield 111, 3) := by decide +kernel
theorem dX9_digest_121 : decode cX9_digest 121 = .ok (.if_icmp .ge 31, 3) := by decide +kernel
theorem dX9_digest_124 : decode cX9_digest 124 = .ok (.ldc2_w 251, 3) := by decide +kernel
theorem dX9_digest_127 : decode cX9_digest 127 = .ok (.lload_n 1, 1) := by decide +kernel
theorem dX9_digest_128 : decode cX9_digest 128 = .ok (.lmul, 1) := by decide +kernel
theorem dX9_digest_129 : decode cX9_digest 129 = .ok (.aload_n 0, 1) := by decide +kernel
theorem dX9_digest_130 : decode cX9_digest 130 = .ok (.getfield 54, 3) := by decide +kernel
theorem dX9_digest_133 : decode cX9_digest 133 = .ok (.iload_n 3, 1) := by decide +kernel
theorem dX9_digest_134 : decode cX9_digest 134 = .ok (.iload 4, 2) := by decide +kernel
theorem dX9_digest_136 : decode cX9_digest 136 = .ok (.invokestatic 181, 3) := by decide +kernel
theorem dX9_digest_139 : decode cX9_digest 139 = .ok (.iload 5, 2) := by decide +kernel
theorem dX9_digest_141 : decode cX9_digest 141 = .ok (.iadd, 1) := by decide +kernel
theorem dX9_digest_142 : decode cX9_digest 142 = .ok (.iaload, 1) := by decide +kernel
theorem dX9_digest_143 : decode cX9_digest 143 = .ok (.i2l, 1) := by decide +kernel
theorem dX9_digest_144 : decode cX9_digest 144 = .ok (.ladd, 1) := by decide +kernel
theorem dX9_digest_145 : decode cX9_digest 145 = .ok (.lstore_n 1, 1) := by decide +kernel
theorem dX9_digest_146 : decode cX9_digest 146 = .ok (.iinc 5 1, 3) := by decide +kernel
theorem dX9_digest_149 : decode cX9_digest 149 = .ok (.goto (-34), 3) := by decide +kernel
theorem dX9_digest_152 : decode cX9_digest 152 = .ok (.iinc 4 1, 3) := by decide +kernel
theorem dX9_digest_155 : decode cX9_digest 155 = .ok (.goto (-54), 3) := by decide +kernel
theorem dX9_digest_158 : decode cX9_digest 158 = .ok (.iinc 3 1, 3) := by decide +kernel
theorem dX9_digest_161 : decode cX9_digest 161 = .ok (.goto (-69), 3) := by decide +kernel
theorem dX9_digest_164 : decode cX9_digest 164 = .ok (.lload_n 1, 1) := by decide +kernel
theorem dX9_digest_165 : decode cX9_digest 165 = .ok (.lreturn, 1) := by decide +kernel
theorem dJ9_floorMod_7cf53_0 : decode cJ9_floorMod_7cf53 0 = .ok (.iload_n 0, 1) := by decide +kernel
theorem dJ9_floorMod_7cf53_1 : decode cJ9_floorMod_7cf53 1 = .ok (.iload_n 1, 1) := by decide +kernel
theorem dJ9_floorMod_7cf53_2 : decode cJ9_floorMod_7cf53 2 = .ok (.irem, 1) := by decide +kernel
theorem dJ9_floorMod_7cf53_3 : decode cJ9_floorMod_7cf53 3 = .ok (.istore_n 2, 1) := by decide +kernel
theorem dJ9_floorMod_7cf53_4 : decode cJ9_floorMod_7cf53 4 = .ok (.iload_n 0, 1) := by decide +kernel
theorem dJ9_floorMod_7cf53_5 : decode cJ9_floorMod_7cf53 5 = .ok (.iload_n 1, 1) := by decide +kernel
theorem dJ9_floorMod_7cf53_6 : decode cJ9_floorMod_7cf53 6 = .ok (.ixor, 1) := by decide +kernel
theorem dJ9_floorMod_7cf53_7 : decode cJ9_floorMod_7cf53 7 = .ok (.ifCond .ge 11, 3) := by decide +kernel
theorem dJ9_floorMod_7cf53_10 : decode cJ9_floorMod_7cf53 10 = .ok (.iload_n 2, 1) := by decide +kernel
theorem dJ9_floorMod_7cf53_11 : decode cJ9_floorMod_7cf53 11 = .ok (.ifCond .eq 7, 3) := by decide +kernel
theorem dJ9_floorMod_7cf53_14 : decode cJ9_floorMod_7cf53 14 = .ok (.iload_n 2, 1) := by decide +kernel
theorem dJ9_floorMod_7cf53_15 : decode cJ9_floorMod_7cf53 15 = .ok (.iload_n 1, 1) := by decide +kernel
theorem dJ9_floorMod_7cf53_16 : decode cJ9_floorMod_7cf53 16 = .ok (.iadd, 1) := by decide +kernel
theorem dJ9_floorMod_7cf53_17 : decode cJ9_floorMod_7cf53 17 = .ok (.ireturn, 1) := by decide +kernel
theorem dJ9_floorMod_7cf53_18 : decode cJ9_floorMod_7cf53 18 = .ok (.iload_n 2, 1) := by decide +kernel
theorem dJ9_floorMod_7cf53_19 : decode cJ9_floorMod_7cf53 19 = .ok (.ireturn, 1) := by decide +kernel
theorem dJ9_abs_067f4_0 : decode cJ9_abs_067f4 0 = .ok (.lload_n 0, 1) := by decide +kernel
theorem dJ9_abs_067f4_1 : decode cJ9_abs_067f4 1 = .ok (.lconst 0, 1) := by decide +kernel
theorem dJ9_abs_067f4_2 : decode cJ9_abs_067f4 2 = .ok (.lcmp, 1) := by decide +kernel
theorem dJ9_abs_067f4_3 : decode cJ9_abs_067f4 3 = .ok (.ifCond .ge 8, 3) := by decide +kernel
theorem dJ9_abs_067f4_6 : decode cJ9_abs_067f4 6 = .ok (.lload_n 0, 1) := by decide +kernel
theorem dJ9_abs_067f4_7 : decode cJ9_abs_067f4 7 = .ok (.lneg, 1) := by decide +kernel
theorem dJ9_abs_067f4_8 : decode cJ9_abs_067f4 8 = .ok (.goto 4, 3) := by decide +kernel
theorem dJ9_abs_067f4_11 : decode cJ9_abs_067f4 11 = .ok (.lload_n 0, 1) := by decide +kernel
theorem dJ9_abs_067f4_12 : decode cJ9_abs_067f4 12 = .ok (.lreturn, 1) := by decide +kernel
theorem dJ9_max_f86c9_0 : decode cJ9_max_f86c9 0 = .ok (.lload_n 0, 1) := by decide +kernel
theorem dJ9_max_f86c9_1 : decode cJ9_max_f86c9 1 = .ok (.lload_n 2, 1) := by decide +kernel
theorem dJ9_max_f86c9_2 : decode cJ9_max_f86c9 2 = .ok (.lcmp, 1) := by decide +kernel
theorem dJ9_max_f86c9_3 : decode cJ9_max_f86c9 3 = .ok (.ifCond .lt 7, 3) := by decide +kernel
theorem dJ9_max_f86c9_6 : decode cJ9_max_f86c9 6 = .ok (.lload_n 0, 1) := by decide +kernel
theorem dJ9_max_f86c9_7 : decode cJ9_max_f86c9 7 = .ok (.goto 4, 3) := by decide +kernel
theorem dJ9_max_f86c9_10 : decode cJ9_max_f86c9 10 = .ok (.lload_n 2, 1) := by decide +kernel
theorem dJ9_max_f86c9_11 : decode cJ9_max_f86c9 11 = .ok (.lreturn, 1) := by decide +kernel
theorem dJ7_fill_53178_0 : decode cJ7_fill_53178 0 = .ok (.iconst 0, 1) := by decide +kernel
theorem dJ7_fill_53178_1 : decode cJ7_fill_53178 1 = .ok (.istore_n 2, 1) := by decide +kernel
theorem dJ7_fill_53178_2 : decode cJ7_fill_53178 2 = .ok (.aload_n 0, 1) := by decide +kernel
theorem dJ7_fill_53178_3 : decode cJ7_fill_53178 3 = .ok (.arraylength, 1) := by decide +kernel
theorem dJ7_fill_53178_4 : decode cJ7_fill_53178 4 = .ok (.istore_n 3, 1) := by decide +kernel
theorem dJ7_fill_53178_5 : decode cJ7_fill_53178 5 = .ok (.iload_n 2, 1) := by decide +kernel
theorem dJ7_fill_53178_6 : decode cJ7_fill_53178 6 = .ok (.iload_n 3, 1) := by decide +kernel
theorem dJ7_fill_53178_7 : decode cJ7_fill_53178 7 = .ok (.if_icmp .ge 13, 3) := by decide +kernel
theorem dJ7_fill_53178_10 : decode cJ7_fill_53178 10 = .ok (.aload_n 0, 1) := by decide +kernel
theorem dJ7_fill_53178_11 : decode cJ7_fill_53178 11 = .ok (.iload_n 2, 1) := by decide +kernel
theorem dJ7_fill_53178_12 : decode cJ7_fill_53178 12 = .ok (.iload_n 1, 1) := by decide +kernel
theorem dJ7_fill_53178_13 : decode cJ7_fill_53178 13 = .ok (.iastore, 1) := by decide +kernel
theorem dJ7_fill_53178_14 : decode cJ7_fill_53178 14 = .ok (.iinc 2 1, 3) := by decide +kernel
theorem dJ7_fill_53178_17 : decode cJ7_fill_53178 17 = .ok (.goto (-12), 3) := by decide +kernel
theorem dJ7_fill_53178_20 : decode cJ7_fill_53178 20 = .ok (.return_, 1) := by decide +kernel
theorem dL_law_0 : decode cL_law 0 = .ok (.new 7, 3) := by decide +kernel
theorem dL_law_3 : decode cL_law 3 = .ok (.dup, 1) := by decide +kernel
theorem dL_law_4 : decode cL_law 4 = .ok (.invokespecial 9, 3) := by decide +kernel
theorem dL_law_7 : decode cL_law 7 = .ok (.astore_n 1, 1) := by decide +kernel
theorem dL_law_8 : decode cL_law 8 = .ok (.new 10, 3) := by decide +kernel
theorem dL_law_11 : decode cL_law 11 = .ok (.dup, 1) := by decide +kernel
theorem dL_law_12 : decode cL_law 12 = .ok (.invokespecial 12, 3) := by decide +kernel
theorem dL_law_15 : decode cL_law 15 = .ok (.astore_n 2, 1) := by decide +kernel
theorem dL_law_16 : decode cL_law 16 = .ok (.iconst 0, 1) := by decide +kernel
theorem dL_law_17 : decode cL_law 17 = .ok (.istore_n 3, 1) := by decide +kernel
theorem dL_law_18 : decode cL_law 18 = .ok (.iload_n 3, 1) := by decide +kernel
theorem dL_law_19 : decode cL_law 19 = .ok (.aload_n 0, 1) := by decide +kernel
theorem dL_law_20 : decode cL_law 20 = .ok (.arraylength, 1) := by decide +kernel
theorem dL_law_21 : decode cL_law 21 = .ok (.bipush 7, 2) := by decide +kernel
theorem dL_law_23 : decode cL_law 23 = .ok (.isub, 1) := by decide +kernel
theorem dL_law_24 : decode cL_law 24 = .ok (.if_icmp .gt 1588, 3) := by decide +kernel
theorem dL_law_27 : decode cL_law 27 = .ok (.aload_n 0, 1) := by decide +kernel
theorem dL_law_28 : decode cL_law 28 = .ok (.iload_n 3, 1) := by decide +kernel
theorem dL_law_29 : decode cL_law 29 = .ok (.iaload, 1) := by decide +kernel
theorem dL_law_30 : decode cL_law 30 = .ok (.bipush 63, 2) := by decide +kernel
theorem dL_law_32 : decode cL_law 32 = .ok (.iand, 1) := by decide +kernel
theorem dL_law_33 : decode cL_law 33 = .ok (.tableswitch 1573 0 32 #[147, 200, 233, 266, 359, 393, 497, 520, 624, 740, 763, 786, 819, 862, 915, 958, 1011, 1044, 1067, 1100, 1123, 1136, 1169, 1222, 1245, 1288, 1311, 1364, 1407, 1470, 1503, 1536, 1559], 147) := by decide +kernel
theorem dL_law_180 : decode cL_law 180 = .ok (.aload_n 1, 1) := by decide +kernel
theorem dL_law_181 : decode cL_law 181 = .ok (.aload_n 0, 1) := by decide +kernel
theorem dL_law_182 : decode cL_law 182 = .ok (.iload_n 3, 1) := by decide +kernel
theorem dL_law_183 : decode cL_law 183 = .ok (.iconst 1, 1) := by decide +kernel
theorem dL_law_184 : decode cL_law 184 = .ok (.iadd, 1) := by decide +kernel
theorem dL_law_185 : decode cL_law 185 = .ok (.iaload, 1) := by decide +kernel
theorem dL_law_186 : decode cL_law 186 = .ok (.aload_n 0, 1) := by decide +kernel
theorem dL_law_187 : decode cL_law 187 = .ok (.iload_n 3, 1) := by decide +kernel
theorem dL_law_188 : decode cL_law 188 = .ok (.iconst 2, 1) := by decide +kernel
theorem dL_law_189 : decode cL_law 189 = .ok (.iadd, 1) := by decide +kernel
theorem dL_law_190 : decode cL_law 190 = .ok (.iaload, 1) := by decide +kernel
theorem dL_law_191 : decode cL_law 191 = .ok (.aload_n 0, 1) := by decide +kernel
theorem dL_law_192 : decode cL_law 192 = .ok (.iload_n 3, 1) := by decide +kernel
theorem dL_law_193 : decode cL_law 193 = .ok (.iconst 3, 1) := by decide +kernel
theorem dL_law_194 : decode cL_law 194 = .ok (.iadd, 1) := by decide +kernel
theorem dL_law_195 : decode cL_law 195 = .ok (.iaload, 1) := by decide +kernel
theorem dL_law_196 : decode cL_law 196 = .ok (.aload_n 0, 1) := by decide +kernel
theorem dL_law_197 : decode cL_law 197 = .ok (.iload_n 3, 1) := by decide +kernel
theorem dL_law_198 : decode cL_law 198 = .ok (.iconst 4, 1) := by decide +kernel
theorem dL_law_199 : decode cL_law 199 = .ok (.iadd, 1) := by decide +kernel
theorem dL_law_200 : decode cL_law 200 = .ok (.iaload, 1) := by decide +kernel
theorem dL_law_201 : decode cL_law 201 = .ok (.invokevirtual 13, 3) := by decide +kernel
theorem dL_law_204 : decode cL_law 204 = .ok (.aload_n 2, 1) := by decide +kernel
theorem dL_law_205 : decode cL_law 205 = .ok (.aload_n 0, 1) := by decide +kernel
theorem dL_law_206 : decode cL_law 206 = .ok (.iload_n 3, 1) := by decide +kernel
theorem dL_law_207 : decode cL_law 207 = .ok (.iconst 1, 1) := by decide +kernel
theorem dL_law_208 : decode cL_law 208 = .ok (.iadd, 1) := by decide +kernel
theorem dL_law_209 : decode cL_law 209 = .ok (.iaload, 1) := by decide +kernel
theorem dL_law_210 : decode cL_law 210 = .ok (.aload_n 0, 1) := by decide +kernel
theorem dL_law_211 : decode cL_law 211 = .ok (.iload_n 3, 1) := by decide +kernel
theorem dL_law_212 : decode cL_law 212 = .ok (.iconst 2, 1) := by decide +kernel
theorem dL_law_213 : decode cL_law 213 = .ok (.iadd, 1) := by decide +kernel
theorem dL_law_214 : decode cL_law 214 = .ok (.iaload, 1) := by decide +kernel
theorem dL_law_215 : decode cL_law 215 = .ok (.aload_n 0, 1) := by decide +kernel
theorem dL_law_216 : decode cL_law 216 = .ok (.iload_n 3, 1) := by decide +kernel
theorem dL_law_217 : decode cL_law 217 = .ok (.iconst 3, 1) := by decide +kernel
theorem dL_law_218 : decode cL_law 218 = .ok (.iadd, 1) := by decide +kernel
theorem dL_law_219 : decode cL_law 219 = .ok (.iaload, 1) := by decide +kernel
theorem dL_law_220 : decode cL_law 220 = .ok (.aload_n 0, 1) := by decide +kernel
theorem dL_law_221 : decode cL_law 221 = .ok (.iload_n 3, 1) := by decide +kernel
theorem dL_law_222 : decode cL_law 222 = .ok (.iconst 4, 1) := by decide +kernel
theorem dL_law_223 : decode cL_law 223 = .ok (.iadd, 1) := by decide +kernel
end
section
theorem dL_law_224 : decode cL_law 224 = .ok (.iaload, 1) := by decide +kernel
theorem dL_law_225 : decode cL_law 225 = .ok (.invokevirtual 17, 3) := by decide +kernel
theorem dL_law_228 : decode cL_law 228 = .ok (.if_icmp .eq 1378, 3) := by decide +kernel
theorem dL_law_231 : decode cL_law 231 = .ok (.iconst 0, 1) := by decide +kernel
theorem dL_law_232 : decode cL_law 232 = .ok (.ireturn, 1) := by decide +kernel
theorem dL_law_233 : decode cL_law 233 = .ok (.aload_n 1, 1) := by decide +kernel
theorem dL_law_234 : decode cL_law 234 = .ok (.aload_n 0, 1) := by decide +kernel
theorem dL_law_235 : decode cL_law 235 = .ok (.iload_n 3, 1) := by decide +kernel
theorem dL_law_236 : decode cL_law 236 = .ok (.iconst 1, 1) := by decide +kernel
theorem dL_law_237 : decode cL_law 237 = .ok (.iadd, 1) := by decide +kernel
theorem dL_law_238 : decode cL_law 238 = .ok (.iaload, 1) := by decide +kernel
theorem dL_law_239 : decode cL_law 239 = .ok (.aload_n 0, 1) := by decide +kernel
theorem dL_law_240 : decode cL_law 240 = .ok (.iload_n 3, 1) := by decide +kernel
theorem dL_law_241 : decode cL_law 241 = .ok (.iconst 2, 1) := by decide +kernel
theorem dL_law_242 : decode cL_law 242 = .ok (.iadd, 1) := by decide +kernel
theorem dL_law_243 : decode cL_law 243 = .ok (.iaload, 1) := by decide +kernel
theorem dL_law_244 : decode cL_law 244 = .ok (.invokevirtual 18, 3) := by decide +kernel
theorem dL_law_247 : decode cL_law 247 = .ok (.aload_n 2, 1) := by decide +kernel
theorem dL_law_248 : decode cL_law 248 = .ok (.aload_n 0, 1) := by decide +kernel
theorem dL_law_249 : decode cL_law 249 = .ok (.iload_n 3, 1) := by decide +kernel
theorem dL_law_250 : decode cL_law 250 = .ok (.iconst 1, 1) := by decide +kernel
theorem dL_law_251 : decode cL_law 251 = .ok (.iadd, 1) := by decide +kernel
theorem dL_law_252 : decode cL_law 252 = .ok (.iaload, 1) := by decide +kernel
theorem dL_law_253 : decode cL_law 253 = .ok (.aload_n 0, 1) := by decide +kernel
theorem dL_law_254 : decode cL_law 254 = .ok (.iload_n 3, 1) := by decide +kernel
theorem dL_law_255 : decode cL_law 255 = .ok (.iconst 2, 1) := by decide +kernel
theorem dL_law_256 : decode cL_law 256 = .ok (.iadd, 1) := by decide +kernel
theorem dL_law_257 : decode cL_law 257 = .ok (.iaload, 1) := by decide +kernel
theorem dL_law_258 : decode cL_law 258 = .ok (.invokevirtual 22, 3) := by decide +kernel
theorem dL_law_261 : decode cL_law 261 = .ok (.if_icmp .eq 1345, 3) := by decide +kernel
theorem dL_law_264 : decode cL_law 264 = .ok (.iconst 0, 1) := by decide +kernel
theorem dL_law_265 : decode cL_law 265 = .ok (.ireturn, 1) := by decide +kernel
theorem dL_law_266 : decode cL_law 266 = .ok (.aload_n 1, 1) := by decide +kernel
theorem dL_law_267 : decode cL_law 267 = .ok (.aload_n 0, 1) := by decide +kernel
theorem dL_law_268 : decode cL_law 268 = .ok (.iload_n 3, 1) := by decide +kernel
theorem dL_law_269 : decode cL_law 269 = .ok (.iconst 1, 1) := by decide +kernel
theorem dL_law_270 : decode cL_law 270 = .ok (.iadd, 1) := by decide +kernel
theorem dL_law_271 : decode cL_law 271 = .ok (.iaload, 1) := by decide +kernel
theorem dL_law_272 : decode cL_law 272 = .ok (.aload_n 0, 1) := by decide +kernel
theorem dL_law_273 : decode cL_law 273 = .ok (.iload_n 3, 1) := by decide +kernel
theorem dL_law_274 : decode cL_law 274 = .ok (.iconst 2, 1) := by decide +kernel
theorem dL_law_275 : decode cL_law 275 = .ok (.iadd, 1) := by decide +kernel
theorem dL_law_276 : decode cL_law 276 = .ok (.iaload, 1) := by decide +kernel
theorem dL_law_277 : decode cL_law 277 = .ok (.invokevirtual 23, 3) := by decide +kernel
theorem dL_law_280 : decode cL_law 280 = .ok (.aload_n 2, 1) := by decide +kernel
theorem dL_law_281 : decode cL_law 281 = .ok (.aload_n 0, 1) := by decide +kernel
theorem dL_law_282 : decode cL_law 282 = .ok (.iload_n 3, 1) := by decide +kernel
theorem dL_law_283 : decode cL_law 283 = .ok (.iconst 1, 1) := by decide +kernel
theorem dL_law_284 : decode cL_law 284 = .ok (.iadd, 1) := by decide +kernel
theorem dL_law_285 : decode cL_law 285 = .ok (.iaload, 1) := by decide +kernel
theorem dL_law_286 : decode cL_law 286 = .ok (.aload_n 0, 1) := by decide +kernel
theorem dL_law_287 : decode cL_law 287 = .ok (.iload_n 3, 1) := by decide +kernel
theorem dL_law_288 : decode cL_law 288 = .ok (.iconst 2, 1) := by decide +kernel
theorem dL_law_289 : decode cL_law 289 = .ok (.iadd, 1) := by decide +kernel
theorem dL_law_290 : decode cL_law 290 = .ok (.iaload, 1) := by decide +kernel
theorem dL_law_291 : decode cL_law 291 = .ok (.invokevirtual 26, 3) := by decide +kernel
theorem dL_law_294 : decode cL_law 294 = .ok (.if_icmp .eq 1312, 3) := by decide +kernel
theorem dL_law_297 : decode cL_law 297 = .ok (.iconst 0, 1) := by decide +kernel
theorem dL_law_298 : decode cL_law 298 = .ok (.ireturn, 1) := by decide +kernel
theorem dL_law_299 : decode cL_law 299 = .ok (.aload_n 1, 1) := by decide +kernel
theorem dL_law_300 : decode cL_law 300 = .ok (.aload_n 0, 1) := by decide +kernel
theorem dL_law_301 : decode cL_law 301 = .ok (.iload_n 3, 1) := by decide +kernel
theorem dL_law_302 : decode cL_law 302 = .ok (.iconst 1, 1) := by decide +kernel
theorem dL_law_303 : decode cL_law 303 = .ok (.iadd, 1) := by decide +kernel
theorem dL_law_304 : decode cL_law 304 = .ok (.iaload, 1) := by decide +kernel
theorem dL_law_305 : decode cL_law 305 = .ok (.i2l, 1) := by decide +kernel
theorem dL_law_306 : decode cL_law 306 = .ok (.bipush 32, 2) := by decide +kernel
theorem dL_law_308 : decode cL_law 308 = .ok (.lshl, 1) := by decide +kernel
theorem dL_law_309 : decode cL_law 309 = .ok (.aload_n 0, 1) := by decide +kernel
theorem dL_law_310 : decode cL_law 310 = .ok (.iload_n 3, 1) := by decide +kernel
theorem dL_law_311 : decode cL_law 311 = .ok (.iconst 2, 1) := by decide +kernel
theorem dL_law_312 : decode cL_law 312 = .ok (.iadd, 1) := by decide +kernel
theorem dL_law_313 : decode cL_law 313 = .ok (.iaload, 1) := by decide +kernel
theorem dL_law_314 : decode cL_law 314 = .ok (.i2l, 1) := by decide +kernel
theorem dL_law_315 : decode cL_law 315 = .ok (.ldc2_w 27, 3) := by decide +kernel
theorem dL_law_318 : decode cL_law 318 = .ok (.land, 1) := by decide +kernel
theorem dL_law_319 : decode cL_law 319 = .ok (.lor, 1) := by decide +kernel
theorem dL_law_320 : decode cL_law 320 = .ok (.aload_n 0, 1) := by decide +kernel
theorem dL_law_321 : decode cL_law 321 = .ok (.iload_n 3, 1) := by decide +kernel
theorem dL_law_322 : decode cL_law 322 = .ok (.iconst 3, 1) := by decide +kernel
theorem dL_law_323 : decode cL_law 323 = .ok (.iadd, 1) := by decide +kernel
theorem dL_law_324 : decode cL_law 324 = .ok (.iaload, 1) := by decide +kernel
theorem dL_law_325 : decode cL_law 325 = .ok (.i2l, 1) := by decide +kernel
theorem dL_law_326 : decode cL_law 326 = .ok (.bipush 32, 2) := by decide +kernel
theorem dL_law_328 : decode cL_law 328 = .ok (.lshl, 1) := by decide +kernel
theorem dL_law_329 : decode cL_law 329 = .ok (.aload_n 0, 1) := by decide +kernel
theorem dL_law_330 : decode cL_law 330 = .ok (.iload_n 3, 1) := by decide +kernel
theorem dL_law_331 : decode cL_law 331 = .ok (.iconst 4, 1) := by decide +kernel
theorem dL_law_332 : decode cL_law 332 = .ok (.iadd, 1) := by decide +kernel
theorem dL_law_333 : decode cL_law 333 = .ok (.iaload, 1) := by decide +kernel
theorem dL_law_334 : decode cL_law 334 = .ok (.i2l, 1) := by decide +kernel
theorem dL_law_335 : decode cL_law 335 = .ok (.ldc2_w 27, 3) := by decide +kernel
theorem dL_law_338 : decode cL_law 338 = .ok (.land, 1) := by decide +kernel
theorem dL_law_339 : decode cL_law 339 = .ok (.lor, 1) := by decide +kernel
theorem dL_law_340 : decode cL_law 340 = .ok (.invokevirtual 29, 3) := by decide +kernel
theorem dL_law_343 : decode cL_law 343 = .ok (.aload_n 2, 1) := by decide +kernel
theorem dL_law_344 : decode cL_law 344 = .ok (.aload_n 0, 1) := by decide +kernel
theorem dL_law_345 : decode cL_law 345 = .ok (.iload_n 3, 1) := by decide +kernel
theorem dL_law_346 : decode cL_law 346 = .ok (.iconst 1, 1) := by decide +kernel
theorem dL_law_347 : decode cL_law 347 = .ok (.iadd, 1) := by decide +kernel
theorem dL_law_348 : decode cL_law 348 = .ok (.iaload, 1) := by decide +kernel
theorem dL_law_349 : decode cL_law 349 = .ok (.i2l, 1) := by decide +kernel
theorem dL_law_350 : decode cL_law 350 = .ok (.bipush 32, 2) := by decide +kernel
theorem dL_law_352 : decode cL_law 352 = .ok (.lshl, 1) := by decide +kernel
theorem dL_law_353 : decode cL_law 353 = .ok (.aload_n 0, 1) := by decide +kernel
theorem dL_law_354 : decode cL_law 354 = .ok (.iload_n 3, 1) := by decide +kernel
theorem dL_law_355 : decode cL_law 355 = .ok (.iconst 2, 1) := by decide +kernel
theorem dL_law_356 : decode cL_law 356 = .ok (.iadd, 1) := by decide +kernel
theorem dL_law_357 : decode cL_law 357 = .ok (.iaload, 1) := by decide +kernel
theorem dL_law_358 : decode cL_law 358 = .ok (.i2l, 1) := by decide +kernel
theorem dL_law_359 : decode cL_law 359 = .ok (.ldc2_w 27, 3) := by decide +kernel
theorem dL_law_362 : decode cL_law 362 = .ok (.land, 1) := by decide +kernel
theorem dL_law_363 : decode cL_law 363 = .ok (.lor, 1) := by decide +kernel
theorem dL_law_364 : decode cL_law 364 = .ok (.aload_n 0, 1) := by decide +kernel
theorem dL_law_365 : decode cL_law 365 = .ok (.iload_n 3, 1) := by decide +kernel
theorem dL_law_366 : decode cL_law 366 = .ok (.iconst 3, 1) := by decide +kernel
theorem dL_law_367 : decode cL_law 367 = .ok (.iadd, 1) := by decide +kernel
theorem dL_law_368 : decode cL_law 368 = .ok (.iaload, 1) := by decide +kernel
theorem dL_law_369 : decode cL_law 369 = .ok (.i2l, 1) := by decide +kernel
theorem dL_law_370 : decode cL_law 370 = .ok (.bipush 32, 2) := by decide +kernel
theorem dL_law_372 : decode cL_law 372 = .ok (.lshl, 1) := by decide +kernel
theorem dL_law_373 : decode cL_law 373 = .ok (.aload_n 0, 1) := by decide +kernel
theorem dL_law_374 : decode cL_law 374 = .ok (.iload_n 3, 1) := by decide +kernel
theorem dL_law_375 : decode cL_law 375 = .ok (.iconst 4, 1) := by decide +kernel
theorem dL_law_376 : decode cL_law 376 = .ok (.iadd, 1) := by decide +kernel
theorem dL_law_377 : decode cL_law 377 = .ok (.iaload, 1) := by decide +kernel
theorem dL_law_378 : decode cL_law 378 = .ok (.i2l, 1) := by decide +kernel
theorem dL_law_379 : decode cL_law 379 = .ok (.ldc2_w 27, 3) := by decide +kernel
theorem dL_law_382 : decode cL_law 382 = .ok (.land, 1) := by decide +kernel
theorem dL_law_383 : decode cL_law 383 = .ok (.lor, 1) := by decide +kernel
theorem dL_law_384 : decode cL_law 384 = .ok (.invokevirtual 33, 3) := by decide +kernel
theorem dL_law_387 : decode cL_law 387 = .ok (.if_icmp .eq 1219, 3) := by decide +kernel
theorem dL_law_390 : decode cL_law 390 = .ok (.iconst 0, 1) := by decide +kernel
theorem dL_law_391 : decode cL_law 391 = .ok (.ireturn, 1) := by decide +kernel
theorem dL_law_392 : decode cL_law 392 = .ok (.aload_n 1, 1) := by decide +kernel
theorem dL_law_393 : decode cL_law 393 = .ok (.aload_n 0, 1) := by decide +kernel
theorem dL_law_394 : decode cL_law 394 = .ok (.iload_n 3, 1) := by decide +kernel
theorem dL_law_395 : decode cL_law 395 = .ok (.iconst 1, 1) := by decide +kernel
theorem dL_law_396 : decode cL_law 396 = .ok (.iadd, 1) := by decide +kernel
theorem dL_law_397 : decode cL_law 397 = .ok (.iaload, 1) := by decide +kernel
theorem dL_law_398 : decode cL_law 398 = .ok (.aload_n 0, 1) := by decide +kernel
theorem dL_law_399 : decode cL_law 399 = .ok (.iload_n 3, 1) := by decide +kernel
theorem dL_law_400 : decode cL_law 400 = .ok (.iconst 2, 1) := by decide +kernel
theorem dL_law_401 : decode cL_law 401 = .ok (.iadd, 1) := by decide +kernel
theorem dL_law_402 : decode cL_law 402 = .ok (.iaload, 1) := by decide +kernel
theorem dL_law_403 : decode cL_law 403 = .ok (.invokevirtual 34, 3) := by decide +kernel
theorem dL_law_406 : decode cL_law 406 = .ok (.aload_n 2, 1) := by decide +kernel
theorem dL_law_407 : decode cL_law 407 = .ok (.aload_n 0, 1) := by decide +kernel
theorem dL_law_408 : decode cL_law 408 = .ok (.iload_n 3, 1) := by decide +kernel
theorem dL_law_409 : decode cL_law 409 = .ok (.iconst 1, 1) := by decide +kernel
theorem dL_law_410 : decode cL_law 410 = .ok (.iadd, 1) := by decide +kernel
theorem dL_law_411 : decode cL_law 411 = .ok (.iaload, 1) := by decide +kernel
theorem dL_law_412 : decode cL_law 412 = .ok (.aload_n 0, 1) := by decide +kernel
theorem dL_law_413 : decode cL_law 413 = .ok (.iload_n 3, 1) := by decide +kernel
theorem dL_law_414 : decode cL_law 414 = .ok (.iconst 2, 1) := by decide +kernel
theorem dL_law_415 : decode cL_law 415 = .ok (.iadd, 1) := by decide +kernel
theorem dL_law_416 : decode cL_law 416 = .ok (.iaload, 1) := by decide +kernel
theorem dL_law_417 : decode cL_law 417 = .ok (.invokevirtual 38, 3) := by decide +kernel
theorem dL_law_420 : decode cL_law 420 = .ok (.lcmp, 1) := by decide +kernel
theorem dL_law_421 : decode cL_law 421 = .ok (.ifCond .eq 1185, 3) := by decide +kernel
theorem dL_law_424 : decode cL_law 424 = .ok (.iconst 0, 1) := by decide +kernel
theorem dL_law_425 : decode cL_law 425 = .ok (.ireturn, 1) := by decide +kernel
theorem dL_law_426 : decode cL_law 426 = .ok (.aload_n 1, 1) := by decide +kernel
theorem dL_law_427 : decode cL_law 427 = .ok (.aload_n 0, 1) := by decide +kernel
theorem dL_law_428 : decode cL_law 428 = .ok (.iload_n 3, 1) := by decide +kernel
theorem dL_law_429 : decode cL_law 429 = .ok (.iconst 1, 1) := by decide +kernel
theorem dL_law_430 : decode cL_law 430 = .ok (.iadd, 1) := by decide +kernel
theorem dL_law_431 : decode cL_law 431 = .ok (.iaload, 1) := by decide +kernel
theorem dL_law_432 : decode cL_law 432 = .ok (.aload_n 0, 1) := by decide +kernel
theorem dL_law_433 : decode cL_law 433 = .ok (.iload_n 3, 1) := by decide +kernel
theorem dL_law_434 : decode cL_law 434 = .ok (.iconst 2, 1) := by decide +kernel
theorem dL_law_435 : decode cL_law 435 = .ok (.iadd, 1) := by decide +kernel
theorem dL_law_436 : decode cL_law 436 = .ok (.iaload, 1) := by decide +kernel
theorem dL_law_437 : decode cL_law 437 = .ok (.i2l, 1) := by decide +kernel
theorem dL_law_438 : decode cL_law 438 = .ok (.bipush 32, 2) := by decide +kernel
theorem dL_law_440 : decode cL_law 440 = .ok (.lshl, 1) := by decide +kernel
theorem dL_law_441 : decode cL_law 441 = .ok (.aload_n 0, 1) := by decide +kernel
theorem dL_law_442 : decode cL_law 442 = .ok (.iload_n 3, 1) := by decide +kernel
theorem dL_law_443 : decode cL_law 443 = .ok (.iconst 3, 1) := by decide +kernel
theorem dL_law_444 : decode cL_law 444 = .ok (.iadd, 1) := by decide +kernel
theorem dL_law_445 : decode cL_law 445 = .ok (.iaload, 1) := by decide +kernel
theorem dL_law_446 : decode cL_law 446 = .ok (.i2l, 1) := by decide +kernel
theorem dL_law_447 : decode cL_law 447 = .ok (.ldc2_w 27, 3) := by decide +kernel
theorem dL_law_450 : decode cL_law 450 = .ok (.land, 1) := by decide +kernel
theorem dL_law_451 : decode cL_law 451 = .ok (.lor, 1) := by decide +kernel
theorem dL_law_452 : decode cL_law 452 = .ok (.aload_n 0, 1) := by decide +kernel
theorem dL_law_453 : decode cL_law 453 = .ok (.iload_n 3, 1) := by decide +kernel
theorem dL_law_454 : decode cL_law 454 = .ok (.iconst 4, 1) := by decide +kernel
theorem dL_law_455 : decode cL_law 455 = .ok (.iadd, 1) := by decide +kernel
theorem dL_law_456 : decode cL_law 456 = .ok (.iaload, 1) := by decide +kernel
theorem dL_law_457 : decode cL_law 457 = .ok (.i2l, 1) := by decide +kernel
theorem dL_law_458 : decode cL_law 458 = .ok (.bipush 32, 2) := by decide +kernel
theorem dL_law_460 : decode cL_law 460 = .ok (.lshl, 1) := by decide +kernel
theorem dL_law_461 : decode cL_law 461 = .ok (.aload_n 0, 1) := by decide +kernel
theorem dL_law_462 : decode cL_law 462 = .ok (.iload_n 3, 1) := by decide +kernel
theorem dL_law_463 : decode cL_law 463 = .ok (.iconst 5, 1) := by decide +kernel
theorem dL_law_464 : decode cL_law 464 = .ok (.iadd, 1) := by decide +kernel
theorem dL_law_465 : decode cL_law 465 = .ok (.iaload, 1) := by decide +kernel
theorem dL_law_466 : decode cL_law 466 = .ok (.i2l, 1) := by decide +kernel
theorem dL_law_467 : decode cL_law 467 = .ok (.ldc2_w 27, 3) := by decide +kernel
theorem dL_law_470 : decode cL_law 470 = .ok (.land, 1) := by decide +kernel
theorem dL_law_471 : decode cL_law 471 = .ok (.lor, 1) := by decide +kernel
theorem dL_law_472 : decode cL_law 472 = .ok (.invokevirtual 39, 3) := by decide +kernel
theorem dL_law_475 : decode cL_law 475 = .ok (.aload_n 2, 1) := by decide +kernel
theorem dL_law_476 : decode cL_law 476 = .ok (.aload_n 0, 1) := by decide +kernel
theorem dL_law_477 : decode cL_law 477 = .ok (.iload_n 3, 1) := by decide +kernel
theorem dL_law_478 : decode cL_law 478 = .ok (.iconst 1, 1) := by decide +kernel
theorem dL_law_479 : decode cL_law 479 = .ok (.iadd, 1) := by decide +kernel
theorem dL_law_480 : decode cL_law 480 = .ok (.iaload, 1) := by decide +kernel
theorem dL_law_481 : decode cL_law 481 = .ok (.aload_n 0, 1) := by decide +kernel
theorem dL_law_482 : decode cL_law 482 = .ok (.iload_n 3, 1) := by decide +kernel
theorem dL_law_483 : decode cL_law 483 = .ok (.iconst 2, 1) := by decide +kernel
theorem dL_law_484 : decode cL_law 484 = .ok (.iadd, 1) := by decide +kernel
theorem dL_law_485 : decode cL_law 485 = .ok (.iaload, 1) := by decide +kernel
theorem dL_law_486 : decode cL_law 486 = .ok (.i2l, 1) := by decide +kernel
theorem dL_law_487 : decode cL_law 487 = .ok (.bipush 32, 2) := by decide +kernel
theorem dL_law_489 : decode cL_law 489 = .ok (.lshl, 1) := by decide +kernel
theorem dL_law_490 : decode cL_law 490 = .ok (.aload_n 0, 1) := by decide +kernel
theorem dL_law_491 : decode cL_law 491 = .ok (.iload_n 3, 1) := by decide +kernel
theorem dL_law_492 : decode cL_law 492 = .ok (.iconst 3, 1) := by decide +kernel
theorem dL_law_493 : decode cL_law 493 = .ok (.iadd, 1) := by decide +kernel
theorem dL_law_494 : decode cL_law 494 = .ok (.iaload, 1) := by decide +kernel
theorem dL_law_495 : decode cL_law 495 = .ok (.i2l, 1) := by decide +kernel
theorem dL_law_496 : decode cL_law 496 = .ok (.ldc2_w 27, 3) := by decide +kernel
theorem dL_law_499 : decode cL_law 499 = .ok (.land, 1) := by decide +kernel
theorem dL_law_500 : decode cL_law 500 = .ok (.lor, 1) := by decide +kernel
theorem dL_law_501 : decode cL_law 501 = .ok (.aload_n 0, 1) := by decide +kernel
theorem dL_law_502 : decode cL_law 502 = .ok (.iload_n 3, 1) := by decide +kernel
theorem dL_law_503 : decode cL_law 503 = .ok (.iconst 4, 1) := by decide +kernel
theorem dL_law_504 : decode cL_law 504 = .ok (.iadd, 1) := by decide +kernel
theorem dL_law_505 : decode cL_law 505 = .ok (.iaload, 1) := by decide +kernel
theorem dL_law_506 : decode cL_law 506 = .ok (.i2l, 1) := by decide +kernel
theorem dL_law_507 : decode cL_law 507 = .ok (.bipush 32, 2) := by decide +kernel
theorem dL_law_509 : decode cL_law 509 = .ok (.lshl, 1) := by decide +kernel
theorem dL_law_510 : decode cL_law 510 = .ok (.aload_n 0, 1) := by decide +kernel
theorem dL_law_511 : decode cL_law 511 = .ok (.iload_n 3, 1) := by decide +kernel
theorem dL_law_512 : decode cL_law 512 = .ok (.iconst 5, 1) := by decide +kernel
theorem dL_law_513 : decode cL_law 513 = .ok (.iadd, 1) := by decide +kernel
theorem dL_law_514 : decode cL_law 514 = .ok (.iaload, 1) := by decide +kernel
theorem dL_law_515 : decode cL_law 515 = .ok (.i2l, 1) := by decide +kernel
theorem dL_law_516 : decode cL_law 516 = .ok (.ldc2_w 27, 3) := by decide +kernel
theorem dL_law_519 : decode cL_law 519 = .ok (.land, 1) := by decide +kernel
theorem dL_law_520 : decode cL_law 520 = .ok (.lor, 1) := by decide +kernel
theorem dL_law_521 : decode cL_law 521 = .ok (.invokevirtual 43, 3) := by decide +kernel
theorem dL_law_524 : decode cL_law 524 = .ok (.lcmp, 1) := by decide +kernel
theorem dL_law_525 : decode cL_law 525 = .ok (.ifCond .eq 1081, 3) := by decide +kernel
theorem dL_law_528 : decode cL_law 528 = .ok (.iconst 0, 1) := by decide +kernel
theorem dL_law_529 : decode cL_law 529 = .ok (.ireturn, 1) := by decide +kernel
theorem dL_law_530 : decode cL_law 530 = .ok (.aload_n 1, 1) := by decide +kernel
theorem dL_law_531 : decode cL_law 531 = .ok (.aload_n 0, 1) := by decide +kernel
theorem dL_law_532 : decode cL_law 532 = .ok (.iload_n 3, 1) := by decide +kernel
theorem dL_law_533 : decode cL_law 533 = .ok (.iconst 1, 1) := by decide +kernel
theorem dL_law_534 : decode cL_law 534 = .ok (.iadd, 1) := by decide +kernel
theorem dL_law_535 : decode cL_law 535 = .ok (.iaload, 1) := by decide +kernel
theorem dL_law_536 : decode cL_law 536 = .ok (.invokevirtual 44, 3) := by decide +kernel
theorem dL_law_539 : decode cL_law 539 = .ok (.aload_n 2, 1) := by decide +kernel
theorem dL_law_540 : decode cL_law 540 = .ok (.aload_n 0, 1) := by decide +kernel
theorem dL_law_541 : decode cL_law 541 = .ok (.iload_n 3, 1) := by decide +kernel
theorem dL_law_542 : decode cL_law 542 = .ok (.iconst 1, 1) := by decide +kernel
theorem dL_law_543 : decode cL_law 543 = .ok (.iadd, 1) := by decide +kernel
theorem dL_law_544 : decode cL_law 544 = .ok (.iaload, 1) := by decide +kernel
theorem dL_law_545 : decode cL_law 545 = .ok (.invokevirtual 48, 3) := by decide +kernel
theorem dL_law_548 : decode cL_law 548 = .ok (.if_icmp .eq 1058, 3) := by decide +kernel
theorem dL_law_551 : decode cL_law 551 = .ok (.iconst 0, 1) := by decide +kernel
theorem dL_law_552 : decode cL_law 552 = .ok (.ireturn, 1) := by decide +kernel
theorem dL_law_553 : decode cL_law 553 = .ok (.aload_n 1, 1) := by decide +kernel
theorem dL_law_554 : decode cL_law 554 = .ok (.aload_n 0, 1) := by decide +kernel
theorem dL_law_555 : decode cL_law 555 = .ok (.iload_n 3, 1) := by decide +kernel
theorem dL_law_556 : decode cL_law 556 = .ok (.iconst 1, 1) := by decide +kernel
theorem dL_law_557 : decode cL_law 557 = .ok (.iadd, 1) := by decide +kernel
theorem dL_law_558 : decode cL_law 558 = .ok (.iaload, 1) := by decide +kernel
theorem dL_law_559 : decode cL_law 559 = .ok (.aload_n 0, 1) := by decide +kernel
theorem dL_law_560 : decode cL_law 560 = .ok (.iload_n 3, 1) := by decide +kernel
theorem dL_law_561 : decode cL_law 561 = .ok (.iconst 2, 1) := by decide +kernel
theorem dL_law_562 : decode cL_law 562 = .ok (.iadd, 1) := by decide +kernel
theorem dL_law_563 : decode cL_law 563 = .ok (.iaload, 1) := by decide +kernel
theorem dL_law_564 : decode cL_law 564 = .ok (.i2l, 1) := by decide +kernel
theorem dL_law_565 : decode cL_law 565 = .ok (.bipush 32, 2) := by decide +kernel
theorem dL_law_567 : decode cL_law 567 = .ok (.lshl, 1) := by decide +kernel
theorem dL_law_568 : decode cL_law 568 = .ok (.aload_n 0, 1) := by decide +kernel
theorem dL_law_569 : decode cL_law 569 = .ok (.iload_n 3, 1) := by decide +kernel
theorem dL_law_570 : decode cL_law 570 = .ok (.iconst 3, 1) := by decide +kernel
theorem dL_law_571 : decode cL_law 571 = .ok (.iadd, 1) := by decide +kernel
theorem dL_law_572 : decode cL_law 572 = .ok (.iaload, 1) := by decide +kernel
theorem dL_law_573 : decode cL_law 573 = .ok (.i2l, 1) := by decide +kernel
theorem dL_law_574 : decode cL_law 574 = .ok (.ldc2_w 27, 3) := by decide +kernel
theorem dL_law_577 : decode cL_law 577 = .ok (.land, 1) := by decide +kernel
theorem dL_law_578 : decode cL_law 578 = .ok (.lor, 1) := by decide +kernel
theorem dL_law_579 : decode cL_law 579 = .ok (.aload_n 0, 1) := by decide +kernel
theorem dL_law_580 : decode cL_law 580 = .ok (.iload_n 3, 1) := by decide +kernel
theorem dL_law_581 : decode cL_law 581 = .ok (.iconst 4, 1) := by decide +kernel
theorem dL_law_582 : decode cL_law 582 = .ok (.iadd, 1) := by decide +kernel
theorem dL_law_583 : decode cL_law 583 = .ok (.iaload, 1) := by decide +kernel
theorem dL_law_584 : decode cL_law 584 = .ok (.i2l, 1) := by decide +kernel
theorem dL_law_585 : decode cL_law 585 = .ok (.bipush 32, 2) := by decide +kernel
theorem dL_law_587 : decode cL_law 587 = .ok (.lshl, 1) := by decide +kernel
theorem dL_law_588 : decode cL_law 588 = .ok (.aload_n 0, 1) := by decide +kernel
theorem dL_law_589 : decode cL_law 589 = .ok (.iload_n 3, 1) := by decide +kernel
theorem dL_law_590 : decode cL_law 590 = .ok (.iconst 5, 1) := by decide +kernel
theorem dL_law_591 : decode cL_law 591 = .ok (.iadd, 1) := by decide +kernel
theorem dL_law_592 : decode cL_law 592 = .ok (.iaload, 1) := by decide +kernel
theorem dL_law_593 : decode cL_law 593 = .ok (.i2l, 1) := by decide +kernel
theorem dL_law_594 : decode cL_law 594 = .ok (.ldc2_w 27, 3) := by decide +kernel
theorem dL_law_597 : decode cL_law 597 = .ok (.land, 1) := by decide +kernel
theorem dL_law_598 : decode cL_law 598 = .ok (.lor, 1) := by decide +kernel
theorem dL_law_599 : decode cL_law 599 = .ok (.invokevirtual 49, 3) := by decide +kernel
theorem dL_law_602 : decode cL_law 602 = .ok (.aload_n 2, 1) := by decide +kernel
theorem dL_law_603 : decode cL_law 603 = .ok (.aload_n 0, 1) := by decide +kernel
theorem dL_law_604 : decode cL_law 604 = .ok (.iload_n 3, 1) := by decide +kernel
theorem dL_law_605 : decode cL_law 605 = .ok (.iconst 1, 1) := by decide +kernel
theorem dL_law_606 : decode cL_law 606 = .ok (.iadd, 1) := by decide +kernel
theorem dL_law_607 : decode cL_law 607 = .ok (.iaload, 1) := by decide +kernel
theorem dL_law_608 : decode cL_law 608 = .ok (.aload_n 0, 1) := by decide +kernel
theorem dL_law_609 : decode cL_law 609 = .ok (.iload_n 3, 1) := by decide +kernel
theorem dL_law_610 : decode cL_law 610 = .ok (.iconst 2, 1) := by decide +kernel
theorem dL_law_611 : decode cL_law 611 = .ok (.iadd, 1) := by decide +kernel
theorem dL_law_612 : decode cL_law 612 = .ok (.iaload, 1) := by decide +kernel
theorem dL_law_613 : decode cL_law 613 = .ok (.i2l, 1) := by decide +kernel
theorem dL_law_614 : decode cL_law 614 = .ok (.bipush 32, 2) := by decide +kernel
theorem dL_law_616 : decode cL_law 616 = .ok (.lshl, 1) := by decide +kernel
theorem dL_law_617 : decode cL_law 617 = .ok (.aload_n 0, 1) := by decide +kernel
theorem dL_law_618 : decode cL_law 618 = .ok (.iload_n 3, 1) := by decide +kernel
theorem dL_law_619 : decode cL_law 619 = .ok (.iconst 3, 1) := by decide +kernel
theorem dL_law_620 : decode cL_law 620 = .ok (.iadd, 1) := by decide +kernel
theorem dL_law_621 : decode cL_law 621 = .ok (.iaload, 1) := by decide +kernel
theorem dL_law_622 : decode cL_law 622 = .ok (.i2l, 1) := by decide +kernel
theorem dL_law_623 : decode cL_law 623 = .ok (.ldc2_w 27, 3) := by decide +kernel
theorem dL_law_626 : decode cL_law 626 = .ok (.land, 1) := by decide +kernel
theorem dL_law_627 : decode cL_law 627 = .ok (.lor, 1) := by decide +kernel
theorem dL_law_628 : decode cL_law 628 = .ok (.aload_n 0, 1) := by decide +kernel
theorem dL_law_629 : decode cL_law 629 = .ok (.iload_n 3, 1) := by decide +kernel
theorem dL_law_630 : decode cL_law 630 = .ok (.iconst 4, 1) := by decide +kernel
theorem dL_law_631 : decode cL_law 631 = .ok (.iadd, 1) := by decide +kernel
theorem dL_law_632 : decode cL_law 632 = .ok (.iaload, 1) := by decide +kernel
theorem dL_law_633 : decode cL_law 633 = .ok (.i2l, 1) := by decide +kernel
theorem dL_law_634 : decode cL_law 634 = .ok (.bipush 32, 2) := by decide +kernel
theorem dL_law_636 : decode cL_law 636 = .ok (.lshl, 1) := by decide +kernel
theorem dL_law_637 : decode cL_law 637 = .ok (.aload_n 0, 1) := by decide +kernel
theorem dL_law_638 : decode cL_law 638 = .ok (.iload_n 3, 1) := by decide +kernel
theorem dL_law_639 : decode cL_law 639 = .ok (.iconst 5, 1) := by decide +kernel
theorem dL_law_640 : decode cL_law 640 = .ok (.iadd, 1) := by decide +kernel
theorem dL_law_641 : decode cL_law 641 = .ok (.iaload, 1) := by decide +kernel
theorem dL_law_642 : decode cL_law 642 = .ok (.i2l, 1) := by decide +kernel
theorem dL_law_643 : decode cL_law 643 = .ok (.ldc2_w 27, 3) := by decide +kernel
theorem dL_law_646 : decode cL_law 646 = .ok (.land, 1) := by decide +kernel
theorem dL_law_647 : decode cL_law 647 = .ok (.lor, 1) := by decide +kernel
theorem dL_law_648 : decode cL_law 648 = .ok (.invokevirtual 52, 3) := by decide +kernel
theorem dL_law_651 : decode cL_law 651 = .ok (.lcmp, 1) := by decide +kernel
theorem dL_law_652 : decode cL_law 652 = .ok (.ifCond .eq 954, 3) := by decide +kernel
theorem dL_law_655 : decode cL_law 655 = .ok (.iconst 0, 1) := by decide +kernel
theorem dL_law_656 : decode cL_law 656 = .ok (.ireturn, 1) := by decide +kernel
theorem dL_law_657 : decode cL_law 657 = .ok (.aload_n 1, 1) := by decide +kernel
theorem dL_law_658 : decode cL_law 658 = .ok (.aload_n 0, 1) := by decide +kernel
theorem dL_law_659 : decode cL_law 659 = .ok (.iload_n 3, 1) := by decide +kernel
theorem dL_law_660 : decode cL_law 660 = .ok (.iconst 1, 1) := by decide +kernel
theorem dL_law_661 : decode cL_law 661 = .ok (.iadd, 1) := by decide +kernel
theorem dL_law_662 : decode cL_law 662 = .ok (.iaload, 1) := by decide +kernel
theorem dL_law_663 : decode cL_law 663 = .ok (.aload_n 0, 1) := by decide +kernel
theorem dL_law_664 : decode cL_law 664 = .ok (.iload_n 3, 1) := by decide +kernel
theorem dL_law_665 : decode cL_law 665 = .ok (.iconst 2, 1) := by decide +kernel
theorem dL_law_666 : decode cL_law 666 = .ok (.iadd, 1) := by decide +kernel
theorem dL_law_667 : decode cL_law 667 = .ok (.iaload, 1) := by decide +kernel
theorem dL_law_668 : decode cL_law 668 = .ok (.i2l, 1) := by decide +kernel
theorem dL_law_669 : decode cL_law 669 = .ok (.bipush 32, 2) := by decide +kernel
theorem dL_law_671 : decode cL_law 671 = .ok (.lshl, 1) := by decide +kernel
theorem dL_law_672 : decode cL_law 672 = .ok (.aload_n 0, 1) := by decide +kernel
theorem dL_law_673 : decode cL_law 673 = .ok (.iload_n 3, 1) := by decide +kernel
theorem dL_law_674 : decode cL_law 674 = .ok (.iconst 3, 1) := by decide +kernel
theorem dL_law_675 : decode cL_law 675 = .ok (.iadd, 1) := by decide +kernel
theorem dL_law_676 : decode cL_law 676 = .ok (.iaload, 1) := by decide +kernel
theorem dL_law_677 : decode cL_law 677 = .ok (.i2l, 1) := by decide +kernel
theorem dL_law_678 : decode cL_law 678 = .ok (.ldc2_w 27, 3) := by decide +kernel
theorem dL_law_681 : decode cL_law 681 = .ok (.land, 1) := by decide +kernel
theorem dL_law_682 : decode cL_law 682 = .ok (.lor, 1) := by decide +kernel
theorem dL_law_683 : decode cL_law 683 = .ok (.aload_n 0, 1) := by decide +kernel
theorem dL_law_684 : decode cL_law 684 = .ok (.iload_n 3, 1) := by decide +kernel
theorem dL_law_685 : decode cL_law 685 = .ok (.iconst 4, 1) := by decide +kernel
theorem dL_law_686 : decode cL_law 686 = .ok (.iadd, 1) := by decide +kernel
theorem dL_law_687 : decode cL_law 687 = .ok (.iaload, 1) := by decide +kernel
theorem dL_law_688 : decode cL_law 688 = .ok (.i2l, 1) := by decide +kernel
theorem dL_law_689 : decode cL_law 689 = .ok (.bipush 32, 2) := by decide +kernel
theorem dL_law_691 : decode cL_law 691 = .ok (.lshl, 1) := by decide +kernel
theorem dL_law_692 : decode cL_law 692 = .ok (.aload_n 0, 1) := by decide +kernel
theorem dL_law_693 : decode cL_law 693 = .ok (.iload_n 3, 1) := by decide +kernel
theorem dL_law_694 : decode cL_law 694 = .ok (.iconst 5, 1) := by decide +kernel
theorem dL_law_695 : decode cL_law 695 = .ok (.iadd, 1) := by decide +kernel
theorem dL_law_696 : decode cL_law 696 = .ok (.iaload, 1) := by decide +kernel
theorem dL_law_697 : decode cL_law 697 = .ok (.i2l, 1) := by decide +kernel
theorem dL_law_698 : decode cL_law 698 = .ok (.ldc2_w 27, 3) := by decide +kernel
theorem dL_law_701 : decode cL_law 701 = .ok (.land, 1) := by decide +kernel
theorem dL_law_702 : decode cL_law 702 = .ok (.lor, 1) := by decide +kernel
theorem dL_law_703 : decode cL_law 703 = .ok (.aload_n 0, 1) := by decide +kernel
theorem dL_law_704 : decode cL_law 704 = .ok (.iload_n 3, 1) := by decide +kernel
theorem dL_law_705 : decode cL_law 705 = .ok (.bipush 6, 2) := by decide +kernel
theorem dL_law_707 : decode cL_law 707 = .ok (.iadd, 1) := by decide +kernel
theorem dL_law_708 : decode cL_law 708 = .ok (.iaload, 1) := by decide +kernel
theorem dL_law_709 : decode cL_law 709 = .ok (.invokevirtual 53, 3) := by decide +kernel
theorem dL_law_712 : decode cL_law 712 = .ok (.aload_n 2, 1) := by decide +kernel
theorem dL_law_713 : decode cL_law 713 = .ok (.aload_n 0, 1) := by decide +kernel
theorem dL_law_714 : decode cL_law 714 = .ok (.iload_n 3, 1) := by decide +kernel
theorem dL_law_715 : decode cL_law 715 = .ok (.iconst 1, 1) := by decide +kernel
theorem dL_law_716 : decode cL_law 716 = .ok (.iadd, 1) := by decide +kernel
theorem dL_law_717 : decode cL_law 717 = .ok (.iaload, 1) := by decide +kernel
theorem dL_law_718 : decode cL_law 718 = .ok (.aload_n 0, 1) := by decide +kernel
theorem dL_law_719 : decode cL_law 719 = .ok (.iload_n 3, 1) := by decide +kernel
theorem dL_law_720 : decode cL_law 720 = .ok (.iconst 2, 1) := by decide +kernel
theorem dL_law_721 : decode cL_law 721 = .ok (.iadd, 1) := by decide +kernel
theorem dL_law_722 : decode cL_law 722 = .ok (.iaload, 1) := by decide +kernel
theorem dL_law_723 : decode cL_law 723 = .ok (.i2l, 1) := by decide +kernel
theorem dL_law_724 : decode cL_law 724 = .ok (.bipush 32, 2) := by decide +kernel
theorem dL_law_726 : decode cL_law 726 = .ok (.lshl, 1) := by decide +kernel
theorem dL_law_727 : decode cL_law 727 = .ok (.aload_n 0, 1) := by decide +kernel
theorem dL_law_728 : decode cL_law 728 = .ok (.iload_n 3, 1) := by decide +kernel
theorem dL_law_729 : decode cL_law 729 = .ok (.iconst 3, 1) := by decide +kernel
theorem dL_law_730 : decode cL_law 730 = .ok (.iadd, 1) := by decide +kernel
theorem dL_law_731 : decode cL_law 731 = .ok (.iaload, 1) := by decide +kernel
theorem dL_law_732 : decode cL_law 732 = .ok (.i2l, 1) := by decide +kernel
theorem dL_law_733 : decode cL_law 733 = .ok (.ldc2_w 27, 3) := by decide +kernel
theorem dL_law_736 : decode cL_law 736 = .ok (.land, 1) := by decide +kernel
theorem dL_law_737 : decode cL_law 737 = .ok (.lor, 1) := by decide +kernel
theorem dL_law_738 : decode cL_law 738 = .ok (.aload_n 0, 1) := by decide +kernel
theorem dL_law_739 : decode cL_law 739 = .ok (.iload_n 3, 1) := by decide +kernel
theorem dL_law_740 : decode cL_law 740 = .ok (.iconst 4, 1) := by decide +kernel
theorem dL_law_741 : decode cL_law 741 = .ok (.iadd, 1) := by decide +kernel
theorem dL_law_742 : decode cL_law 742 = .ok (.iaload, 1) := by decide +kernel
theorem dL_law_743 : decode cL_law 743 = .ok (.i2l, 1) := by decide +kernel
theorem dL_law_744 : decode cL_law 744 = .ok (.bipush 32, 2) := by decide +kernel
theorem dL_law_746 : decode cL_law 746 = .ok (.lshl, 1) := by decide +kernel
theorem dL_law_747 : decode cL_law 747 = .ok (.aload_n 0, 1) := by decide +kernel
theorem dL_law_748 : decode cL_law 748 = .ok (.iload_n 3, 1) := by decide +kernel
theorem dL_law_749 : decode cL_law 749 = .ok (.iconst 5, 1) := by decide +kernel
theorem dL_law_750 : decode cL_law 750 = .ok (.iadd, 1) := by decide +kernel
theorem dL_law_751 : decode cL_law 751 = .ok (.iaload, 1) := by decide +kernel
theorem dL_law_752 : decode cL_law 752 = .ok (.i2l, 1) := by decide +kernel
theorem dL_law_753 : decode cL_law 753 = .ok (.ldc2_w 27, 3) := by decide +kernel
theorem dL_law_756 : decode cL_law 756 = .ok (.land, 1) := by decide +kernel
theorem dL_law_757 : decode cL_law 757 = .ok (.lor, 1) := by decide +kernel
theorem dL_law_758 : decode cL_law 758 = .ok (.aload_n 0, 1) := by decide +kernel
theorem dL_law_759 : decode cL_law 759 = .ok (.iload_n 3, 1) := by decide +kernel
theorem dL_law_760 : decode cL_law 760 = .ok (.bipush 6, 2) := by decide +kernel
theorem dL_law_762 : decode cL_law 762 = .ok (.iadd, 1) := by decide +kernel
theorem dL_law_763 : decode cL_law 763 = .ok (.iaload, 1) := by decide +kernel
theorem dL_law_764 : decode cL_law 764 = .ok (.invokevirtual 57, 3) := by decide +kernel
theorem dL_law_767 : decode cL_law 767 = .ok (.lcmp, 1) := by decide +kernel
theorem dL_law_768 : decode cL_law 768 = .ok (.ifCond .eq 838, 3) := by decide +kernel
theorem dL_law_771 : decode cL_law 771 = .ok (.iconst 0, 1) := by decide +kernel
theorem dL_law_772 : decode cL_law 772 = .ok (.ireturn, 1) := by decide +kernel
theorem dL_law_773 : decode cL_law 773 = .ok (.aload_n 1, 1) := by decide +kernel
theorem dL_law_774 : decode cL_law 774 = .ok (.aload_n 0, 1) := by decide +kernel
theorem dL_law_775 : decode cL_law 775 = .ok (.iload_n 3, 1) := by decide +kernel
theorem dL_law_776 : decode cL_law 776 = .ok (.iconst 1, 1) := by decide +kernel
theorem dL_law_777 : decode cL_law 777 = .ok (.iadd, 1) := by decide +kernel
theorem dL_law_778 : decode cL_law 778 = .ok (.iaload, 1) := by decide +kernel
theorem dL_law_779 : decode cL_law 779 = .ok (.invokevirtual 58, 3) := by decide +kernel
theorem dL_law_782 : decode cL_law 782 = .ok (.aload_n 2, 1) := by decide +kernel
theorem dL_law_783 : decode cL_law 783 = .ok (.aload_n 0, 1) := by decide +kernel
theorem dL_law_784 : decode cL_law 784 = .ok (.iload_n 3, 1) := by decide +kernel
theorem dL_law_785 : decode cL_law 785 = .ok (.iconst 1, 1) := by decide +kernel
theorem dL_law_786 : decode cL_law 786 = .ok (.iadd, 1) := by decide +kernel
theorem dL_law_787 : decode cL_law 787 = .ok (.iaload, 1) := by decide +kernel
theorem dL_law_788 : decode cL_law 788 = .ok (.invokevirtual 61, 3) := by decide +kernel
theorem dL_law_791 : decode cL_law 791 = .ok (.if_icmp .eq 815, 3) := by decide +kernel
theorem dL_law_794 : decode cL_law 794 = .ok (.iconst 0, 1) := by decide +kernel
theorem dL_law_795 : decode cL_law 795 = .ok (.ireturn, 1) := by decide +kernel
theorem dL_law_796 : decode cL_law 796 = .ok (.aload_n 1, 1) := by decide +kernel
theorem dL_law_797 : decode cL_law 797 = .ok (.aload_n 0, 1) := by decide +kernel
theorem dL_law_798 : decode cL_law 798 = .ok (.iload_n 3, 1) := by decide +kernel
theorem dL_law_799 : decode cL_law 799 = .ok (.iconst 1, 1) := by decide +kernel
theorem dL_law_800 : decode cL_law 800 = .ok (.iadd, 1) := by decide +kernel
theorem dL_law_801 : decode cL_law 801 = .ok (.iaload, 1) := by decide +kernel
theorem dL_law_802 : decode cL_law 802 = .ok (.invokevirtual 62, 3) := by decide +kernel
theorem dL_law_805 : decode cL_law 805 = .ok (.aload_n 2, 1) := by decide +kernel
theorem dL_law_806 : decode cL_law 806 = .ok (.aload_n 0, 1) := by decide +kernel
theorem dL_law_807 : decode cL_law 807 = .ok (.iload_n 3, 1) := by decide +kernel
theorem dL_law_808 : decode cL_law 808 = .ok (.iconst 1, 1) := by decide +kernel
theorem dL_law_809 : decode cL_law 809 = .ok (.iadd, 1) := by decide +kernel
theorem dL_law_810 : decode cL_law 810 = .ok (.iaload, 1) := by decide +kernel
theorem dL_law_811 : decode cL_law 811 = .ok (.invokevirtual 65, 3) := by decide +kernel
theorem dL_law_814 : decode cL_law 814 = .ok (.if_icmp .eq 792, 3) := by decide +kernel
theorem dL_law_817 : decode cL_law 817 = .ok (.iconst 0, 1) := by decide +kernel
theorem dL_law_818 : decode cL_law 818 = .ok (.ireturn, 1) := by decide +kernel
theorem dL_law_819 : decode cL_law 819 = .ok (.aload_n 1, 1) := by decide +kernel
theorem dL_law_820 : decode cL_law 820 = .ok (.aload_n 0, 1) := by decide +kernel
theorem dL_law_821 : decode cL_law 821 = .ok (.iload_n 3, 1) := by decide +kernel
theorem dL_law_822 : decode cL_law 822 = .ok (.iconst 1, 1) := by decide +kernel
theorem dL_law_823 : decode cL_law 823 = .ok (.iadd, 1) := by decide +kernel
theorem dL_law_824 : decode cL_law 824 = .ok (.iaload, 1) := by decide +kernel
theorem dL_law_825 : decode cL_law 825 = .ok (.aload_n 0, 1) := by decide +kernel
theorem dL_law_826 : decode cL_law 826 = .ok (.iload_n 3, 1) := by decide +kernel
theorem dL_law_827 : decode cL_law 827 = .ok (.iconst 2, 1) := by decide +kernel
theorem dL_law_828 : decode cL_law 828 = .ok (.iadd, 1) := by decide +kernel
theorem dL_law_829 : decode cL_law 829 = .ok (.iaload, 1) := by decide +kernel
theorem dL_law_830 : decode cL_law 830 = .ok (.invokevirtual 66, 3) := by decide +kernel
theorem dL_law_833 : decode cL_law 833 = .ok (.aload_n 2, 1) := by decide +kernel
theorem dL_law_834 : decode cL_law 834 = .ok (.aload_n 0, 1) := by decide +kernel
theorem dL_law_835 : decode cL_law 835 = .ok (.iload_n 3, 1) := by decide +kernel
theorem dL_law_836 : decode cL_law 836 = .ok (.iconst 1, 1) := by decide +kernel
theorem dL_law_837 : decode cL_law 837 = .ok (.iadd, 1) := by decide +kernel
theorem dL_law_838 : decode cL_law 838 = .ok (.iaload, 1) := by decide +kernel
theorem dL_law_839 : decode cL_law 839 = .ok (.aload_n 0, 1) := by decide +kernel
theorem dL_law_840 : decode cL_law 840 = .ok (.iload_n 3, 1) := by decide +kernel
theorem dL_law_841 : decode cL_law 841 = .ok (.iconst 2, 1) := by decide +kernel
theorem dL_law_842 : decode cL_law 842 = .ok (.iadd, 1) := by decide +kernel
theorem dL_law_843 : decode cL_law 843 = .ok (.iaload, 1) := by decide +kernel
theorem dL_law_844 : decode cL_law 844 = .ok (.invokevirtual 69, 3) := by decide +kernel
theorem dL_law_847 : decode cL_law 847 = .ok (.if_icmp .eq 759, 3) := by decide +kernel
theorem dL_law_850 : decode cL_law 850 = .ok (.iconst 0, 1) := by decide +kernel
theorem dL_law_851 : decode cL_law 851 = .ok (.ireturn, 1) := by decide +kernel
theorem dL_law_852 : decode cL_law 852 = .ok (.aload_n 1, 1) := by decide +kernel
theorem dL_law_853 : decode cL_law 853 = .ok (.aload_n 0, 1) := by decide +kernel
theorem dL_law_854 : decode cL_law 854 = .ok (.iload_n 3, 1) := by decide +kernel
theorem dL_law_855 : decode cL_law 855 = .ok (.iconst 1, 1) := by decide +kernel
theorem dL_law_856 : decode cL_law 856 = .ok (.iadd, 1) := by decide +kernel
theorem dL_law_857 : decode cL_law 857 = .ok (.iaload, 1) := by decide +kernel
theorem dL_law_858 : decode cL_law 858 = .ok (.aload_n 0, 1) := by decide +kernel
theorem dL_law_859 : decode cL_law 859 = .ok (.iload_n 3, 1) := by decide +kernel
theorem dL_law_860 : decode cL_law 860 = .ok (.iconst 2, 1) := by decide +kernel
theorem dL_law_861 : decode cL_law 861 = .ok (.iadd, 1) := by decide +kernel
theorem dL_law_862 : decode cL_law 862 = .ok (.iaload, 1) := by decide +kernel
theorem dL_law_863 : decode cL_law 863 = .ok (.aload_n 0, 1) := by decide +kernel
theorem dL_law_864 : decode cL_law 864 = .ok (.iload_n 3, 1) := by decide +kernel
theorem dL_law_865 : decode cL_law 865 = .ok (.iconst 3, 1) := by decide +kernel
theorem dL_law_866 : decode cL_law 866 = .ok (.iadd, 1) := by decide +kernel
theorem dL_law_867 : decode cL_law 867 = .ok (.iaload, 1) := by decide +kernel
theorem dL_law_868 : decode cL_law 868 = .ok (.invokevirtual 70, 3) := by decide +kernel
theorem dL_law_871 : decode cL_law 871 = .ok (.aload_n 2, 1) := by decide +kernel
theorem dL_law_872 : decode cL_law 872 = .ok (.aload_n 0, 1) := by decide +kernel
theorem dL_law_873 : decode cL_law 873 = .ok (.iload_n 3, 1) := by decide +kernel
theorem dL_law_874 : decode cL_law 874 = .ok (.iconst 1, 1) := by decide +kernel
theorem dL_law_875 : decode cL_law 875 = .ok (.iadd, 1) := by decide +kernel
theorem dL_law_876 : decode cL_law 876 = .ok (.iaload, 1) := by decide +kernel
theorem dL_law_877 : decode cL_law 877 = .ok (.aload_n 0, 1) := by decide +kernel
theorem dL_law_878 : decode cL_law 878 = .ok (.iload_n 3, 1) := by decide +kernel
theorem dL_law_879 : decode cL_law 879 = .ok (.iconst 2, 1) := by decide +kernel
theorem dL_law_880 : decode cL_law 880 = .ok (.iadd, 1) := by decide +kernel
theorem dL_law_881 : decode cL_law 881 = .ok (.iaload, 1) := by decide +kernel
theorem dL_law_882 : decode cL_law 882 = .ok (.aload_n 0, 1) := by decide +kernel
theorem dL_law_883 : decode cL_law 883 = .ok (.iload_n 3, 1) := by decide +kernel
theorem dL_law_884 : decode cL_law 884 = .ok (.iconst 3, 1) := by decide +kernel
theorem dL_law_885 : decode cL_law 885 = .ok (.iadd, 1) := by decide +kernel
theorem dL_law_886 : decode cL_law 886 = .ok (.iaload, 1) := by decide +kernel
theorem dL_law_887 : decode cL_law 887 = .ok (.invokevirtual 74, 3) := by decide +kernel
theorem dL_law_890 : decode cL_law 890 = .ok (.if_icmp .eq 716, 3) := by decide +kernel
theorem dL_law_893 : decode cL_law 893 = .ok (.iconst 0, 1) := by decide +kernel
theorem dL_law_894 : decode cL_law 894 = .ok (.ireturn, 1) := by decide +kernel
theorem dL_law_895 : decode cL_law 895 = .ok (.aload_n 1, 1) := by decide +kernel
theorem dL_law_896 : decode cL_law 896 = .ok (.aload_n 0, 1) := by decide +kernel
theorem dL_law_897 : decode cL_law 897 = .ok (.iload_n 3, 1) := by decide +kernel
theorem dL_law_898 : decode cL_law 898 = .ok (.iconst 1, 1) := by decide +kernel
theorem dL_law_899 : decode cL_law 899 = .ok (.iadd, 1) := by decide +kernel
theorem dL_law_900 : decode cL_law 900 = .ok (.iaload, 1) := by decide +kernel
theorem dL_law_901 : decode cL_law 901 = .ok (.aload_n 0, 1) := by decide +kernel
theorem dL_law_902 : decode cL_law 902 = .ok (.iload_n 3, 1) := by decide +kernel
theorem dL_law_903 : decode cL_law 903 = .ok (.iconst 2, 1) := by decide +kernel
theorem dL_law_904 : decode cL_law 904 = .ok (.iadd, 1) := by decide +kernel
theorem dL_law_905 : decode cL_law 905 = .ok (.iaload, 1) := by decide +kernel
theorem dL_law_906 : decode cL_law 906 = .ok (.aload_n 0, 1) := by decide +kernel
theorem dL_law_907 : decode cL_law 907 = .ok (.iload_n 3, 1) := by decide +kernel
theorem dL_law_908 : decode cL_law 908 = .ok (.iconst 3, 1) := by decide +kernel
theorem dL_law_909 : decode cL_law 909 = .ok (.iadd, 1) := by decide +kernel
theorem dL_law_910 : decode cL_law 910 = .ok (.iaload, 1) := by decide +kernel
theorem dL_law_911 : decode cL_law 911 = .ok (.aload_n 0, 1) := by decide +kernel
theorem dL_law_912 : decode cL_law 912 = .ok (.iload_n 3, 1) := by decide +kernel
theorem dL_law_913 : decode cL_law 913 = .ok (.iconst 4, 1) := by decide +kernel
theorem dL_law_914 : decode cL_law 914 = .ok (.iadd, 1) := by decide +kernel
theorem dL_law_915 : decode cL_law 915 = .ok (.iaload, 1) := by decide +kernel
theorem dL_law_916 : decode cL_law 916 = .ok (.invokevirtual 75, 3) := by decide +kernel
theorem dL_law_919 : decode cL_law 919 = .ok (.aload_n 2, 1) := by decide +kernel
theorem dL_law_920 : decode cL_law 920 = .ok (.aload_n 0, 1) := by decide +kernel
theorem dL_law_921 : decode cL_law 921 = .ok (.iload_n 3, 1) := by decide +kernel
theorem dL_law_922 : decode cL_law 922 = .ok (.iconst 1, 1) := by decide +kernel
theorem dL_law_923 : decode cL_law 923 = .ok (.iadd, 1) := by decide +kernel
theorem dL_law_924 : decode cL_law 924 = .ok (.iaload, 1) := by decide +kernel
theorem dL_law_925 : decode cL_law 925 = .ok (.aload_n 0, 1) := by decide +kernel
theorem dL_law_926 : decode cL_law 926 = .ok (.iload_n 3, 1) := by decide +kernel
theorem dL_law_927 : decode cL_law 927 = .ok (.iconst 2, 1) := by decide +kernel
theorem dL_law_928 : decode cL_law 928 = .ok (.iadd, 1) := by decide +kernel
theorem dL_law_929 : decode cL_law 929 = .ok (.iaload, 1) := by decide +kernel
theorem dL_law_930 : decode cL_law 930 = .ok (.aload_n 0, 1) := by decide +kernel
theorem dL_law_931 : decode cL_law 931 = .ok (.iload_n 3, 1) := by decide +kernel
theorem dL_law_932 : decode cL_law 932 = .ok (.iconst 3, 1) := by decide +kernel
theorem dL_law_933 : decode cL_law 933 = .ok (.iadd, 1) := by decide +kernel
theorem dL_law_934 : decode cL_law 934 = .ok (.iaload, 1) := by decide +kernel
theorem dL_law_935 : decode cL_law 935 = .ok (.aload_n 0, 1) := by decide +kernel
theorem dL_law_936 : decode cL_law 936 = .ok (.iload_n 3, 1) := by decide +kernel
theorem dL_law_937 : decode cL_law 937 = .ok (.iconst 4, 1) := by decide +kernel
theorem dL_law_938 : decode cL_law 938 = .ok (.iadd, 1) := by decide +kernel
theorem dL_law_939 : decode cL_law 939 = .ok (.iaload, 1) := by decide +kernel
theorem dL_law_940 : decode cL_law 940 = .ok (.invokevirtual 78, 3) := by decide +kernel
theorem dL_law_943 : decode cL_law 943 = .ok (.if_icmp .eq 663, 3) := by decide +kernel
theorem dL_law_946 : decode cL_law 946 = .ok (.iconst 0, 1) := by decide +kernel
theorem dL_law_947 : decode cL_law 947 = .ok (.ireturn, 1) := by decide +kernel
theorem dL_law_948 : decode cL_law 948 = .ok (.aload_n 1, 1) := by decide +kernel
theorem dL_law_949 : decode cL_law 949 = .ok (.aload_n 0, 1) := by decide +kernel
theorem dL_law_950 : decode cL_law 950 = .ok (.iload_n 3, 1) := by decide +kernel
theorem dL_law_951 : decode cL_law 951 = .ok (.iconst 1, 1) := by decide +kernel
theorem dL_law_952 : decode cL_law 952 = .ok (.iadd, 1) := by decide +kernel
theorem dL_law_953 : decode cL_law 953 = .ok (.iaload, 1) := by decide +kernel
theorem dL_law_954 : decode cL_law 954 = .ok (.aload_n 0, 1) := by decide +kernel
theorem dL_law_955 : decode cL_law 955 = .ok (.iload_n 3, 1) := by decide +kernel
theorem dL_law_956 : decode cL_law 956 = .ok (.iconst 2, 1) := by decide +kernel
theorem dL_law_957 : decode cL_law 957 = .ok (.iadd, 1) := by decide +kernel
theorem dL_law_958 : decode cL_law 958 = .ok (.iaload, 1) := by decide +kernel
theorem dL_law_959 : decode cL_law 959 = .ok (.aload_n 0, 1) := by decide +kernel
theorem dL_law_960 : decode cL_law 960 = .ok (.iload_n 3, 1) := by decide +kernel
theorem dL_law_961 : decode cL_law 961 = .ok (.iconst 3, 1) := by decide +kernel
theorem dL_law_962 : decode cL_law 962 = .ok (.iadd, 1) := by decide +kernel
theorem dL_law_963 : decode cL_law 963 = .ok (.iaload, 1) := by decide +kernel
theorem dL_law_964 : decode cL_law 964 = .ok (.invokevirtual 79, 3) := by decide +kernel
theorem dL_law_967 : decode cL_law 967 = .ok (.aload_n 2, 1) := by decide +kernel
theorem dL_law_968 : decode cL_law 968 = .ok (.aload_n 0, 1) := by decide +kernel
theorem dL_law_969 : decode cL_law 969 = .ok (.iload_n 3, 1) := by decide +kernel
theorem dL_law_970 : decode cL_law 970 = .ok (.iconst 1, 1) := by decide +kernel
theorem dL_law_971 : decode cL_law 971 = .ok (.iadd, 1) := by decide +kernel
theorem dL_law_972 : decode cL_law 972 = .ok (.iaload, 1) := by decide +kernel
theorem dL_law_973 : decode cL_law 973 = .ok (.aload_n 0, 1) := by decide +kernel
theorem dL_law_974 : decode cL_law 974 = .ok (.iload_n 3, 1) := by decide +kernel
theorem dL_law_975 : decode cL_law 975 = .ok (.iconst 2, 1) := by decide +kernel
theorem dL_law_976 : decode cL_law 976 = .ok (.iadd, 1) := by decide +kernel
theorem dL_law_977 : decode cL_law 977 = .ok (.iaload, 1) := by decide +kernel
theorem dL_law_978 : decode cL_law 978 = .ok (.aload_n 0, 1) := by decide +kernel
theorem dL_law_979 : decode cL_law 979 = .ok (.iload_n 3, 1) := by decide +kernel
theorem dL_law_980 : decode cL_law 980 = .ok (.iconst 3, 1) := by decide +kernel
theorem dL_law_981 : decode cL_law 981 = .ok (.iadd, 1) := by decide +kernel
theorem dL_law_982 : decode cL_law 982 = .ok (.iaload, 1) := by decide +kernel
theorem dL_law_983 : decode cL_law 983 = .ok (.invokevirtual 82, 3) := by decide +kernel
theorem dL_law_986 : decode cL_law 986 = .ok (.if_icmp .eq 620, 3) := by decide +kernel
theorem dL_law_989 : decode cL_law 989 = .ok (.iconst 0, 1) := by decide +kernel
theorem dL_law_990 : decode cL_law 990 = .ok (.ireturn, 1) := by decide +kernel
theorem dL_law_991 : decode cL_law 991 = .ok (.aload_n 1, 1) := by decide +kernel
theorem dL_law_992 : decode cL_law 992 = .ok (.aload_n 0, 1) := by decide +kernel
theorem dL_law_993 : decode cL_law 993 = .ok (.iload_n 3, 1) := by decide +kernel
theorem dL_law_994 : decode cL_law 994 = .ok (.iconst 1, 1) := by decide +kernel
theorem dL_law_995 : decode cL_law 995 = .ok (.iadd, 1) := by decide +kernel
theorem dL_law_996 : decode cL_law 996 = .ok (.iaload, 1) := by decide +kernel
theorem dL_law_997 : decode cL_law 997 = .ok (.aload_n 0, 1) := by decide +kernel
theorem dL_law_998 : decode cL_law 998 = .ok (.iload_n 3, 1) := by decide +kernel
theorem dL_law_999 : decode cL_law 999 = .ok (.iconst 2, 1) := by decide +kernel
theorem dL_law_1000 : decode cL_law 1000 = .ok (.iadd, 1) := by decide +kernel
theorem dL_law_1001 : decode cL_law 1001 = .ok (.iaload, 1) := by decide +kernel
theorem dL_law_1002 : decode cL_law 1002 = .ok (.aload_n 0, 1) := by decide +kernel
theorem dL_law_1003 : decode cL_law 1003 = .ok (.iload_n 3, 1) := by decide +kernel
theorem dL_law_1004 : decode cL_law 1004 = .ok (.iconst 3, 1) := by decide +kernel
theorem dL_law_1005 : decode cL_law 1005 = .ok (.iadd, 1) := by decide +kernel
theorem dL_law_1006 : decode cL_law 1006 = .ok (.iaload, 1) := by decide +kernel
theorem dL_law_1007 : decode cL_law 1007 = .ok (.aload_n 0, 1) := by decide +kernel
theorem dL_law_1008 : decode cL_law 1008 = .ok (.iload_n 3, 1) := by decide +kernel
theorem dL_law_1009 : decode cL_law 1009 = .ok (.iconst 4, 1) := by decide +kernel
theorem dL_law_1010 : decode cL_law 1010 = .ok (.iadd, 1) := by decide +kernel
theorem dL_law_1011 : decode cL_law 1011 = .ok (.iaload, 1) := by decide +kernel
theorem dL_law_1012 : decode cL_law 1012 = .ok (.invokevirtual 83, 3) := by decide +kernel
theorem dL_law_1015 : decode cL_law 1015 = .ok (.aload_n 2, 1) := by decide +kernel
theorem dL_law_1016 : decode cL_law 1016 = .ok (.aload_n 0, 1) := by decide +kernel
theorem dL_law_1017 : decode cL_law 1017 = .ok (.iload_n 3, 1) := by decide +kernel
theorem dL_law_1018 : decode cL_law 1018 = .ok (.iconst 1, 1) := by decide +kernel
theorem dL_law_1019 : decode cL_law 1019 = .ok (.iadd, 1) := by decide +kernel
theorem dL_law_1020 : decode cL_law 1020 = .ok (.iaload, 1) := by decide +kernel
theorem dL_law_1021 : decode cL_law 1021 = .ok (.aload_n 0, 1) := by decide +kernel
theorem dL_law_1022 : decode cL_law 1022 = .ok (.iload_n 3, 1) := by decide +kernel
theorem dL_law_1023 : decode cL_law 1023 = .ok (.iconst 2, 1) := by decide +kernel
theorem dL_law_1024 : decode cL_law 1024 = .ok (.iadd, 1) := by decide +kernel
theorem dL_law_1025 : decode cL_law 1025 = .ok (.iaload, 1) := by decide +kernel
theorem dL_law_1026 : decode cL_law 1026 = .ok (.aload_n 0, 1) := by decide +kernel
theorem dL_law_1027 : decode cL_law 1027 = .ok (.iload_n 3, 1) := by decide +kernel
theorem dL_law_1028 : decode cL_law 1028 = .ok (.iconst 3, 1) := by decide +kernel
theorem dL_law_1029 : decode cL_law 1029 = .ok (.iadd, 1) := by decide +kernel
theorem dL_law_1030 : decode cL_law 1030 = .ok (.iaload, 1) := by decide +kernel
theorem dL_law_1031 : decode cL_law 1031 = .ok (.aload_n 0, 1) := by decide +kernel
theorem dL_law_1032 : decode cL_law 1032 = .ok (.iload_n 3, 1) := by decide +kernel
theorem dL_law_1033 : decode cL_law 1033 = .ok (.iconst 4, 1) := by decide +kernel
theorem dL_law_1034 : decode cL_law 1034 = .ok (.iadd, 1) := by decide +kernel
theorem dL_law_1035 : decode cL_law 1035 = .ok (.iaload, 1) := by decide +kernel
theorem dL_law_1036 : decode cL_law 1036 = .ok (.invokevirtual 86, 3) := by decide +kernel
theorem dL_law_1039 : decode cL_law 1039 = .ok (.if_icmp .eq 567, 3) := by decide +kernel
theorem dL_law_1042 : decode cL_law 1042 = .ok (.iconst 0, 1) := by decide +kernel
theorem dL_law_1043 : decode cL_law 1043 = .ok (.ireturn, 1) := by decide +kernel
theorem dL_law_1044 : decode cL_law 1044 = .ok (.aload_n 1, 1) := by decide +kernel
theorem dL_law_1045 : decode cL_law 1045 = .ok (.aload_n 0, 1) := by decide +kernel
theorem dL_law_1046 : decode cL_law 1046 = .ok (.iload_n 3, 1) := by decide +kernel
theorem dL_law_1047 : decode cL_law 1047 = .ok (.iconst 1, 1) := by decide +kernel
theorem dL_law_1048 : decode cL_law 1048 = .ok (.iadd, 1) := by decide +kernel
theorem dL_law_1049 : decode cL_law 1049 = .ok (.iaload, 1) := by decide +kernel
theorem dL_law_1050 : decode cL_law 1050 = .ok (.aload_n 0, 1) := by decide +kernel
theorem dL_law_1051 : decode cL_law 1051 = .ok (.iload_n 3, 1) := by decide +kernel
theorem dL_law_1052 : decode cL_law 1052 = .ok (.iconst 2, 1) := by decide +kernel
theorem dL_law_1053 : decode cL_law 1053 = .ok (.iadd, 1) := by decide +kernel
theorem dL_law_1054 : decode cL_law 1054 = .ok (.iaload, 1) := by decide +kernel
theorem dL_law_1055 : decode cL_law 1055 = .ok (.invokevirtual 87, 3) := by decide +kernel
theorem dL_law_1058 : decode cL_law 1058 = .ok (.aload_n 2, 1) := by decide +kernel
theorem dL_law_1059 : decode cL_law 1059 = .ok (.aload_n 0, 1) := by decide +kernel
theorem dL_law_1060 : decode cL_law 1060 = .ok (.iload_n 3, 1) := by decide +kernel
theorem dL_law_1061 : decode cL_law 1061 = .ok (.iconst 1, 1) := by decide +kernel
theorem dL_law_1062 : decode cL_law 1062 = .ok (.iadd, 1) := by decide +kernel
theorem dL_law_1063 : decode cL_law 1063 = .ok (.iaload, 1) := by decide +kernel
theorem dL_law_1064 : decode cL_law 1064 = .ok (.aload_n 0, 1) := by decide +kernel
theorem dL_law_1065 : decode cL_law 1065 = .ok (.iload_n 3, 1) := by decide +kernel
theorem dL_law_1066 : decode cL_law 1066 = .ok (.iconst 2, 1) := by decide +kernel
theorem dL_law_1067 : decode cL_law 1067 = .ok (.iadd, 1) := by decide +kernel
theorem dL_law_1068 : decode cL_law 1068 = .ok (.iaload, 1) := by decide +kernel
theorem dL_law_1069 : decode cL_law 1069 = .ok (.invokevirtual 90, 3) := by decide +kernel
theorem dL_law_1072 : decode cL_law 1072 = .ok (.if_icmp .eq 534, 3) := by decide +kernel
theorem dL_law_1075 : decode cL_law 1075 = .ok (.iconst 0, 1) := by decide +kernel
theorem dL_law_1076 : decode cL_law 1076 = .ok (.ireturn, 1) := by decide +kernel
theorem dL_law_1077 : decode cL_law 1077 = .ok (.aload_n 1, 1) := by decide +kernel
theorem dL_law_1078 : decode cL_law 1078 = .ok (.aload_n 0, 1) := by decide +kernel
theorem dL_law_1079 : decode cL_law 1079 = .ok (.iload_n 3, 1) := by decide +kernel
theorem dL_law_1080 : decode cL_law 1080 = .ok (.iconst 1, 1) := by decide +kernel
theorem dL_law_1081 : decode cL_law 1081 = .ok (.iadd, 1) := by decide +kernel
theorem dL_law_1082 : decode cL_law 1082 = .ok (.iaload, 1) := by decide +kernel
theorem dL_law_1083 : decode cL_law 1083 = .ok (.invokevirtual 91, 3) := by decide +kernel
theorem dL_law_1086 : decode cL_law 1086 = .ok (.aload_n 2, 1) := by decide +kernel
theorem dL_law_1087 : decode cL_law 1087 = .ok (.aload_n 0, 1) := by decide +kernel
theorem dL_law_1088 : decode cL_law 1088 = .ok (.iload_n 3, 1) := by decide +kernel
theorem dL_law_1089 : decode cL_law 1089 = .ok (.iconst 1, 1) := by decide +kernel
theorem dL_law_1090 : decode cL_law 1090 = .ok (.iadd, 1) := by decide +kernel
theorem dL_law_1091 : decode cL_law 1091 = .ok (.iaload, 1) := by decide +kernel
theorem dL_law_1092 : decode cL_law 1092 = .ok (.invokevirtual 94, 3) := by decide +kernel
theorem dL_law_1095 : decode cL_law 1095 = .ok (.if_icmp .eq 511, 3) := by decide +kernel
theorem dL_law_1098 : decode cL_law 1098 = .ok (.iconst 0, 1) := by decide +kernel
theorem dL_law_1099 : decode cL_law 1099 = .ok (.ireturn, 1) := by decide +kernel
theorem dL_law_1100 : decode cL_law 1100 = .ok (.aload_n 1, 1) := by decide +kernel
theorem dL_law_1101 : decode cL_law 1101 = .ok (.aload_n 0, 1) := by decide +kernel
theorem dL_law_1102 : decode cL_law 1102 = .ok (.iload_n 3, 1) := by decide +kernel
theorem dL_law_1103 : decode cL_law 1103 = .ok (.iconst 1, 1) := by decide +kernel
theorem dL_law_1104 : decode cL_law 1104 = .ok (.iadd, 1) := by decide +kernel
theorem dL_law_1105 : decode cL_law 1105 = .ok (.iaload, 1) := by decide +kernel
theorem dL_law_1106 : decode cL_law 1106 = .ok (.aload_n 0, 1) := by decide +kernel
theorem dL_law_1107 : decode cL_law 1107 = .ok (.iload_n 3, 1) := by decide +kernel
theorem dL_law_1108 : decode cL_law 1108 = .ok (.iconst 2, 1) := by decide +kernel
theorem dL_law_1109 : decode cL_law 1109 = .ok (.iadd, 1) := by decide +kernel
theorem dL_law_1110 : decode cL_law 1110 = .ok (.iaload, 1) := by decide +kernel
theorem dL_law_1111 : decode cL_law 1111 = .ok (.invokevirtual 95, 3) := by decide +kernel
theorem dL_law_1114 : decode cL_law 1114 = .ok (.aload_n 2, 1) := by decide +kernel
theorem dL_law_1115 : decode cL_law 1115 = .ok (.aload_n 0, 1) := by decide +kernel
theorem dL_law_1116 : decode cL_law 1116 = .ok (.iload_n 3, 1) := by decide +kernel
theorem dL_law_1117 : decode cL_law 1117 = .ok (.iconst 1, 1) := by decide +kernel
theorem dL_law_1118 : decode cL_law 1118 = .ok (.iadd, 1) := by decide +kernel
theorem dL_law_1119 : decode cL_law 1119 = .ok (.iaload, 1) := by decide +kernel
theorem dL_law_1120 : decode cL_law 1120 = .ok (.aload_n 0, 1) := by decide +kernel
theorem dL_law_1121 : decode cL_law 1121 = .ok (.iload_n 3, 1) := by decide +kernel
theorem dL_law_1122 : decode cL_law 1122 = .ok (.iconst 2, 1) := by decide +kernel
theorem dL_law_1123 : decode cL_law 1123 = .ok (.iadd, 1) := by decide +kernel
theorem dL_law_1124 : decode cL_law 1124 = .ok (.iaload, 1) := by decide +kernel
theorem dL_law_1125 : decode cL_law 1125 = .ok (.invokevirtual 98, 3) := by decide +kernel
theorem dL_law_1128 : decode cL_law 1128 = .ok (.if_icmp .eq 478, 3) := by decide +kernel
theorem dL_law_1131 : decode cL_law 1131 = .ok (.iconst 0, 1) := by decide +kernel
theorem dL_law_1132 : decode cL_law 1132 = .ok (.ireturn, 1) := by decide +kernel
theorem dL_law_1133 : decode cL_law 1133 = .ok (.aload_n 1, 1) := by decide +kernel
theorem dL_law_1134 : decode cL_law 1134 = .ok (.aload_n 0, 1) := by decide +kernel
theorem dL_law_1135 : decode cL_law 1135 = .ok (.iload_n 3, 1) := by decide +kernel
theorem dL_law_1136 : decode cL_law 1136 = .ok (.iconst 1, 1) := by decide +kernel
theorem dL_law_1137 : decode cL_law 1137 = .ok (.iadd, 1) := by decide +kernel
theorem dL_law_1138 : decode cL_law 1138 = .ok (.iaload, 1) := by decide +kernel
theorem dL_law_1139 : decode cL_law 1139 = .ok (.invokevirtual 99, 3) := by decide +kernel
theorem dL_law_1142 : decode cL_law 1142 = .ok (.aload_n 2, 1) := by decide +kernel
theorem dL_law_1143 : decode cL_law 1143 = .ok (.aload_n 0, 1) := by decide +kernel
theorem dL_law_1144 : decode cL_law 1144 = .ok (.iload_n 3, 1) := by decide +kernel
theorem dL_law_1145 : decode cL_law 1145 = .ok (.iconst 1, 1) := by decide +kernel
theorem dL_law_1146 : decode cL_law 1146 = .ok (.iadd, 1) := by decide +kernel
theorem dL_law_1147 : decode cL_law 1147 = .ok (.iaload, 1) := by decide +kernel
theorem dL_law_1148 : decode cL_law 1148 = .ok (.invokevirtual 102, 3) := by decide +kernel
theorem dL_law_1151 : decode cL_law 1151 = .ok (.if_icmp .eq 455, 3) := by decide +kernel
theorem dL_law_1154 : decode cL_law 1154 = .ok (.iconst 0, 1) := by decide +kernel
theorem dL_law_1155 : decode cL_law 1155 = .ok (.ireturn, 1) := by decide +kernel
theorem dL_law_1156 : decode cL_law 1156 = .ok (.aload_n 1, 1) := by decide +kernel
theorem dL_law_1157 : decode cL_law 1157 = .ok (.invokevirtual 103, 3) := by decide +kernel
theorem dL_law_1160 : decode cL_law 1160 = .ok (.aload_n 2, 1) := by decide +kernel
theorem dL_law_1161 : decode cL_law 1161 = .ok (.invokevirtual 107, 3) := by decide +kernel
theorem dL_law_1164 : decode cL_law 1164 = .ok (.if_icmp .eq 442, 3) := by decide +kernel
theorem dL_law_1167 : decode cL_law 1167 = .ok (.iconst 0, 1) := by decide +kernel
theorem dL_law_1168 : decode cL_law 1168 = .ok (.ireturn, 1) := by decide +kernel
theorem dL_law_1169 : decode cL_law 1169 = .ok (.aload_n 1, 1) := by decide +kernel
theorem dL_law_1170 : decode cL_law 1170 = .ok (.aload_n 0, 1) := by decide +kernel
theorem dL_law_1171 : decode cL_law 1171 = .ok (.iload_n 3, 1) := by decide +kernel
theorem dL_law_1172 : decode cL_law 1172 = .ok (.iconst 1, 1) := by decide +kernel
theorem dL_law_1173 : decode cL_law 1173 = .ok (.iadd, 1) := by decide +kernel
theorem dL_law_1174 : decode cL_law 1174 = .ok (.iaload, 1) := by decide +kernel
theorem dL_law_1175 : decode cL_law 1175 = .ok (.aload_n 0, 1) := by decide +kernel
theorem dL_law_1176 : decode cL_law 1176 = .ok (.iload_n 3, 1) := by decide +kernel
theorem dL_law_1177 : decode cL_law 1177 = .ok (.iconst 2, 1) := by decide +kernel
theorem dL_law_1178 : decode cL_law 1178 = .ok (.iadd, 1) := by decide +kernel
theorem dL_law_1179 : decode cL_law 1179 = .ok (.iaload, 1) := by decide +kernel
theorem dL_law_1180 : decode cL_law 1180 = .ok (.invokevirtual 108, 3) := by decide +kernel
theorem dL_law_1183 : decode cL_law 1183 = .ok (.aload_n 2, 1) := by decide +kernel
theorem dL_law_1184 : decode cL_law 1184 = .ok (.aload_n 0, 1) := by decide +kernel
theorem dL_law_1185 : decode cL_law 1185 = .ok (.iload_n 3, 1) := by decide +kernel
theorem dL_law_1186 : decode cL_law 1186 = .ok (.iconst 1, 1) := by decide +kernel
theorem dL_law_1187 : decode cL_law 1187 = .ok (.iadd, 1) := by decide +kernel
theorem dL_law_1188 : decode cL_law 1188 = .ok (.iaload, 1) := by decide +kernel
theorem dL_law_1189 : decode cL_law 1189 = .ok (.aload_n 0, 1) := by decide +kernel
theorem dL_law_1190 : decode cL_law 1190 = .ok (.iload_n 3, 1) := by decide +kernel
theorem dL_law_1191 : decode cL_law 1191 = .ok (.iconst 2, 1) := by decide +kernel
theorem dL_law_1192 : decode cL_law 1192 = .ok (.iadd, 1) := by decide +kernel
theorem dL_law_1193 : decode cL_law 1193 = .ok (.iaload, 1) := by decide +kernel
theorem dL_law_1194 : decode cL_law 1194 = .ok (.invokevirtual 111, 3) := by decide +kernel
theorem dL_law_1197 : decode cL_law 1197 = .ok (.if_icmp .eq 409, 3) := by decide +kernel
theorem dL_law_1200 : decode cL_law 1200 = .ok (.iconst 0, 1) := by decide +kernel
theorem dL_law_1201 : decode cL_law 1201 = .ok (.ireturn, 1) := by decide +kernel
theorem dL_law_1202 : decode cL_law 1202 = .ok (.aload_n 1, 1) := by decide +kernel
theorem dL_law_1203 : decode cL_law 1203 = .ok (.aload_n 0, 1) := by decide +kernel
theorem dL_law_1204 : decode cL_law 1204 = .ok (.iload_n 3, 1) := by decide +kernel
theorem dL_law_1205 : decode cL_law 1205 = .ok (.iconst 1, 1) := by decide +kernel
theorem dL_law_1206 : decode cL_law 1206 = .ok (.iadd, 1) := by decide +kernel
theorem dL_law_1207 : decode cL_law 1207 = .ok (.iaload, 1) := by decide +kernel
theorem dL_law_1208 : decode cL_law 1208 = .ok (.aload_n 0, 1) := by decide +kernel
theorem dL_law_1209 : decode cL_law 1209 = .ok (.iload_n 3, 1) := by decide +kernel
theorem dL_law_1210 : decode cL_law 1210 = .ok (.iconst 2, 1) := by decide +kernel
theorem dL_law_1211 : decode cL_law 1211 = .ok (.iadd, 1) := by decide +kernel
theorem dL_law_1212 : decode cL_law 1212 = .ok (.iaload, 1) := by decide +kernel
theorem dL_law_1213 : decode cL_law 1213 = .ok (.aload_n 0, 1) := by decide +kernel
theorem dL_law_1214 : decode cL_law 1214 = .ok (.iload_n 3, 1) := by decide +kernel
theorem dL_law_1215 : decode cL_law 1215 = .ok (.iconst 3, 1) := by decide +kernel
theorem dL_law_1216 : decode cL_law 1216 = .ok (.iadd, 1) := by decide +kernel
theorem dL_law_1217 : decode cL_law 1217 = .ok (.iaload, 1) := by decide +kernel
theorem dL_law_1218 : decode cL_law 1218 = .ok (.aload_n 0, 1) := by decide +kernel
theorem dL_law_1219 : decode cL_law 1219 = .ok (.iload_n 3, 1) := by decide +kernel
theorem dL_law_1220 : decode cL_law 1220 = .ok (.iconst 4, 1) := by decide +kernel
theorem dL_law_1221 : decode cL_law 1221 = .ok (.iadd, 1) := by decide +kernel
theorem dL_law_1222 : decode cL_law 1222 = .ok (.iaload, 1) := by decide +kernel
theorem dL_law_1223 : decode cL_law 1223 = .ok (.invokevirtual 112, 3) := by decide +kernel
theorem dL_law_1226 : decode cL_law 1226 = .ok (.aload_n 2, 1) := by decide +kernel
theorem dL_law_1227 : decode cL_law 1227 = .ok (.aload_n 0, 1) := by decide +kernel
theorem dL_law_1228 : decode cL_law 1228 = .ok (.iload_n 3, 1) := by decide +kernel
theorem dL_law_1229 : decode cL_law 1229 = .ok (.iconst 1, 1) := by decide +kernel
theorem dL_law_1230 : decode cL_law 1230 = .ok (.iadd, 1) := by decide +kernel
theorem dL_law_1231 : decode cL_law 1231 = .ok (.iaload, 1) := by decide +kernel
theorem dL_law_1232 : decode cL_law 1232 = .ok (.aload_n 0, 1) := by decide +kernel
theorem dL_law_1233 : decode cL_law 1233 = .ok (.iload_n 3, 1) := by decide +kernel
theorem dL_law_1234 : decode cL_law 1234 = .ok (.iconst 2, 1) := by decide +kernel
theorem dL_law_1235 : decode cL_law 1235 = .ok (.iadd, 1) := by decide +kernel
theorem dL_law_1236 : decode cL_law 1236 = .ok (.iaload, 1) := by decide +kernel
theorem dL_law_1237 : decode cL_law 1237 = .ok (.aload_n 0, 1) := by decide +kernel
theorem dL_law_1238 : decode cL_law 1238 = .ok (.iload_n 3, 1) := by decide +kernel
theorem dL_law_1239 : decode cL_law 1239 = .ok (.iconst 3, 1) := by decide +kernel
theorem dL_law_1240 : decode cL_law 1240 = .ok (.iadd, 1) := by decide +kernel
theorem dL_law_1241 : decode cL_law 1241 = .ok (.iaload, 1) := by decide +kernel
theorem dL_law_1242 : decode cL_law 1242 = .ok (.aload_n 0, 1) := by decide +kernel
theorem dL_law_1243 : decode cL_law 1243 = .ok (.iload_n 3, 1) := by decide +kernel
theorem dL_law_1244 : decode cL_law 1244 = .ok (.iconst 4, 1) := by decide +kernel
theorem dL_law_1245 : decode cL_law 1245 = .ok (.iadd, 1) := by decide +kernel
theorem dL_law_1246 : decode cL_law 1246 = .ok (.iaload, 1) := by decide +kernel
theorem dL_law_1247 : decode cL_law 1247 = .ok (.invokevirtual 115, 3) := by decide +kernel
theorem dL_law_1250 : decode cL_law 1250 = .ok (.if_icmp .eq 356, 3) := by decide +kernel
theorem dL_law_1253 : decode cL_law 1253 = .ok (.iconst 0, 1) := by decide +kernel
theorem dL_law_1254 : decode cL_law 1254 = .ok (.ireturn, 1) := by decide +kernel
theorem dL_law_1255 : decode cL_law 1255 = .ok (.aload_n 1, 1) := by decide +kernel
theorem dL_law_1256 : decode cL_law 1256 = .ok (.aload_n 0, 1) := by decide +kernel
theorem dL_law_1257 : decode cL_law 1257 = .ok (.iload_n 3, 1) := by decide +kernel
theorem dL_law_1258 : decode cL_law 1258 = .ok (.iconst 1, 1) := by decide +kernel
theorem dL_law_1259 : decode cL_law 1259 = .ok (.iadd, 1) := by decide +kernel
theorem dL_law_1260 : decode cL_law 1260 = .ok (.iaload, 1) := by decide +kernel
theorem dL_law_1261 : decode cL_law 1261 = .ok (.invokevirtual 116, 3) := by decide +kernel
theorem dL_law_1264 : decode cL_law 1264 = .ok (.aload_n 2, 1) := by decide +kernel
theorem dL_law_1265 : decode cL_law 1265 = .ok (.aload_n 0, 1) := by decide +kernel
theorem dL_law_1266 : decode cL_law 1266 = .ok (.iload_n 3, 1) := by decide +kernel
theorem dL_law_1267 : decode cL_law 1267 = .ok (.iconst 1, 1) := by decide +kernel
theorem dL_law_1268 : decode cL_law 1268 = .ok (.iadd, 1) := by decide +kernel
theorem dL_law_1269 : decode cL_law 1269 = .ok (.iaload, 1) := by decide +kernel
theorem dL_law_1270 : decode cL_law 1270 = .ok (.invokevirtual 119, 3) := by decide +kernel
theorem dL_law_1273 : decode cL_law 1273 = .ok (.if_icmp .eq 333, 3) := by decide +kernel
theorem dL_law_1276 : decode cL_law 1276 = .ok (.iconst 0, 1) := by decide +kernel
theorem dL_law_1277 : decode cL_law 1277 = .ok (.ireturn, 1) := by decide +kernel
theorem dL_law_1278 : decode cL_law 1278 = .ok (.aload_n 1, 1) := by decide +kernel
theorem dL_law_1279 : decode cL_law 1279 = .ok (.aload_n 0, 1) := by decide +kernel
theorem dL_law_1280 : decode cL_law 1280 = .ok (.iload_n 3, 1) := by decide +kernel
theorem dL_law_1281 : decode cL_law 1281 = .ok (.iconst 1, 1) := by decide +kernel
theorem dL_law_1282 : decode cL_law 1282 = .ok (.iadd, 1) := by decide +kernel
theorem dL_law_1283 : decode cL_law 1283 = .ok (.iaload, 1) := by decide +kernel
theorem dL_law_1284 : decode cL_law 1284 = .ok (.aload_n 0, 1) := by decide +kernel
theorem dL_law_1285 : decode cL_law 1285 = .ok (.iload_n 3, 1) := by decide +kernel
theorem dL_law_1286 : decode cL_law 1286 = .ok (.iconst 2, 1) := by decide +kernel
theorem dL_law_1287 : decode cL_law 1287 = .ok (.iadd, 1) := by decide +kernel
theorem dL_law_1288 : decode cL_law 1288 = .ok (.iaload, 1) := by decide +kernel
theorem dL_law_1289 : decode cL_law 1289 = .ok (.aload_n 0, 1) := by decide +kernel
theorem dL_law_1290 : decode cL_law 1290 = .ok (.iload_n 3, 1) := by decide +kernel
theorem dL_law_1291 : decode cL_law 1291 = .ok (.iconst 3, 1) := by decide +kernel
theorem dL_law_1292 : decode cL_law 1292 = .ok (.iadd, 1) := by decide +kernel
theorem dL_law_1293 : decode cL_law 1293 = .ok (.iaload, 1) := by decide +kernel
theorem dL_law_1294 : decode cL_law 1294 = .ok (.invokevirtual 120, 3) := by decide +kernel
theorem dL_law_1297 : decode cL_law 1297 = .ok (.aload_n 2, 1) := by decide +kernel
theorem dL_law_1298 : decode cL_law 1298 = .ok (.aload_n 0, 1) := by decide +kernel
theorem dL_law_1299 : decode cL_law 1299 = .ok (.iload_n 3, 1) := by decide +kernel
theorem dL_law_1300 : decode cL_law 1300 = .ok (.iconst 1, 1) := by decide +kernel
theorem dL_law_1301 : decode cL_law 1301 = .ok (.iadd, 1) := by decide +kernel
theorem dL_law_1302 : decode cL_law 1302 = .ok (.iaload, 1) := by decide +kernel
theorem dL_law_1303 : decode cL_law 1303 = .ok (.aload_n 0, 1) := by decide +kernel
theorem dL_law_1304 : decode cL_law 1304 = .ok (.iload_n 3, 1) := by decide +kernel
theorem dL_law_1305 : decode cL_law 1305 = .ok (.iconst 2, 1) := by decide +kernel
theorem dL_law_1306 : decode cL_law 1306 = .ok (.iadd, 1) := by decide +kernel
theorem dL_law_1307 : decode cL_law 1307 = .ok (.iaload, 1) := by decide +kernel
theorem dL_law_1308 : decode cL_law 1308 = .ok (.aload_n 0, 1) := by decide +kernel
theorem dL_law_1309 : decode cL_law 1309 = .ok (.iload_n 3, 1) := by decide +kernel
theorem dL_law_1310 : decode cL_law 1310 = .ok (.iconst 3, 1) := by decide +kernel
theorem dL_law_1311 : decode cL_law 1311 = .ok (.iadd, 1) := by decide +kernel
theorem dL_law_1312 : decode cL_law 1312 = .ok (.iaload, 1) := by decide +kernel
theorem dL_law_1313 : decode cL_law 1313 = .ok (.invokevirtual 123, 3) := by decide +kernel
theorem dL_law_1316 : decode cL_law 1316 = .ok (.if_icmp .eq 290, 3) := by decide +kernel
theorem dL_law_1319 : decode cL_law 1319 = .ok (.iconst 0, 1) := by decide +kernel
theorem dL_law_1320 : decode cL_law 1320 = .ok (.ireturn, 1) := by decide +kernel
theorem dL_law_1321 : decode cL_law 1321 = .ok (.aload_n 1, 1) := by decide +kernel
theorem dL_law_1322 : decode cL_law 1322 = .ok (.aload_n 0, 1) := by decide +kernel
theorem dL_law_1323 : decode cL_law 1323 = .ok (.iload_n 3, 1) := by decide +kernel
theorem dL_law_1324 : decode cL_law 1324 = .ok (.iconst 1, 1) := by decide +kernel
theorem dL_law_1325 : decode cL_law 1325 = .ok (.iadd, 1) := by decide +kernel
theorem dL_law_1326 : decode cL_law 1326 = .ok (.iaload, 1) := by decide +kernel
theorem dL_law_1327 : decode cL_law 1327 = .ok (.invokevirtual 124, 3) := by decide +kernel
theorem dL_law_1330 : decode cL_law 1330 = .ok (.aload_n 2, 1) := by decide +kernel
theorem dL_law_1331 : decode cL_law 1331 = .ok (.aload_n 0, 1) := by decide +kernel
theorem dL_law_1332 : decode cL_law 1332 = .ok (.iload_n 3, 1) := by decide +kernel
theorem dL_law_1333 : decode cL_law 1333 = .ok (.iconst 1, 1) := by decide +kernel
theorem dL_law_1334 : decode cL_law 1334 = .ok (.iadd, 1) := by decide +kernel
theorem dL_law_1335 : decode cL_law 1335 = .ok (.iaload, 1) := by decide +kernel
theorem dL_law_1336 : decode cL_law 1336 = .ok (.invokevirtual 127, 3) := by decide +kernel
theorem dL_law_1339 : decode cL_law 1339 = .ok (.if_icmp .eq 267, 3) := by decide +kernel
theorem dL_law_1342 : decode cL_law 1342 = .ok (.iconst 0, 1) := by decide +kernel
theorem dL_law_1343 : decode cL_law 1343 = .ok (.ireturn, 1) := by decide +kernel
theorem dL_law_1344 : decode cL_law 1344 = .ok (.aload_n 1, 1) := by decide +kernel
theorem dL_law_1345 : decode cL_law 1345 = .ok (.aload_n 0, 1) := by decide +kernel
theorem dL_law_1346 : decode cL_law 1346 = .ok (.iload_n 3, 1) := by decide +kernel
theorem dL_law_1347 : decode cL_law 1347 = .ok (.iconst 1, 1) := by decide +kernel
theorem dL_law_1348 : decode cL_law 1348 = .ok (.iadd, 1) := by decide +kernel
theorem dL_law_1349 : decode cL_law 1349 = .ok (.iaload, 1) := by decide +kernel
theorem dL_law_1350 : decode cL_law 1350 = .ok (.aload_n 0, 1) := by decide +kernel
theorem dL_law_1351 : decode cL_law 1351 = .ok (.iload_n 3, 1) := by decide +kernel
theorem dL_law_1352 : decode cL_law 1352 = .ok (.iconst 2, 1) := by decide +kernel
theorem dL_law_1353 : decode cL_law 1353 = .ok (.iadd, 1) := by decide +kernel
theorem dL_law_1354 : decode cL_law 1354 = .ok (.iaload, 1) := by decide +kernel
theorem dL_law_1355 : decode cL_law 1355 = .ok (.aload_n 0, 1) := by decide +kernel
theorem dL_law_1356 : decode cL_law 1356 = .ok (.iload_n 3, 1) := by decide +kernel
theorem dL_law_1357 : decode cL_law 1357 = .ok (.iconst 3, 1) := by decide +kernel
theorem dL_law_1358 : decode cL_law 1358 = .ok (.iadd, 1) := by decide +kernel
theorem dL_law_1359 : decode cL_law 1359 = .ok (.iaload, 1) := by decide +kernel
theorem dL_law_1360 : decode cL_law 1360 = .ok (.aload_n 0, 1) := by decide +kernel
theorem dL_law_1361 : decode cL_law 1361 = .ok (.iload_n 3, 1) := by decide +kernel
theorem dL_law_1362 : decode cL_law 1362 = .ok (.iconst 4, 1) := by decide +kernel
theorem dL_law_1363 : decode cL_law 1363 = .ok (.iadd, 1) := by decide +kernel
theorem dL_law_1364 : decode cL_law 1364 = .ok (.iaload, 1) := by decide +kernel
theorem dL_law_1365 : decode cL_law 1365 = .ok (.invokevirtual 128, 3) := by decide +kernel
theorem dL_law_1368 : decode cL_law 1368 = .ok (.aload_n 2, 1) := by decide +kernel
theorem dL_law_1369 : decode cL_law 1369 = .ok (.aload_n 0, 1) := by decide +kernel
theorem dL_law_1370 : decode cL_law 1370 = .ok (.iload_n 3, 1) := by decide +kernel
theorem dL_law_1371 : decode cL_law 1371 = .ok (.iconst 1, 1) := by decide +kernel
theorem dL_law_1372 : decode cL_law 1372 = .ok (.iadd, 1) := by decide +kernel
theorem dL_law_1373 : decode cL_law 1373 = .ok (.iaload, 1) := by decide +kernel
theorem dL_law_1374 : decode cL_law 1374 = .ok (.aload_n 0, 1) := by decide +kernel
theorem dL_law_1375 : decode cL_law 1375 = .ok (.iload_n 3, 1) := by decide +kernel
theorem dL_law_1376 : decode cL_law 1376 = .ok (.iconst 2, 1) := by decide +kernel
theorem dL_law_1377 : decode cL_law 1377 = .ok (.iadd, 1) := by decide +kernel
theorem dL_law_1378 : decode cL_law 1378 = .ok (.iaload, 1) := by decide +kernel
theorem dL_law_1379 : decode cL_law 1379 = .ok (.aload_n 0, 1) := by decide +kernel
theorem dL_law_1380 : decode cL_law 1380 = .ok (.iload_n 3, 1) := by decide +kernel
theorem dL_law_1381 : decode cL_law 1381 = .ok (.iconst 3, 1) := by decide +kernel
theorem dL_law_1382 : decode cL_law 1382 = .ok (.iadd, 1) := by decide +kernel
theorem dL_law_1383 : decode cL_law 1383 = .ok (.iaload, 1) := by decide +kernel
theorem dL_law_1384 : decode cL_law 1384 = .ok (.aload_n 0, 1) := by decide +kernel
theorem dL_law_1385 : decode cL_law 1385 = .ok (.iload_n 3, 1) := by decide +kernel
theorem dL_law_1386 : decode cL_law 1386 = .ok (.iconst 4, 1) := by decide +kernel
theorem dL_law_1387 : decode cL_law 1387 = .ok (.iadd, 1) := by decide +kernel
theorem dL_law_1388 : decode cL_law 1388 = .ok (.iaload, 1) := by decide +kernel
theorem dL_law_1389 : decode cL_law 1389 = .ok (.invokevirtual 131, 3) := by decide +kernel
theorem dL_law_1392 : decode cL_law 1392 = .ok (.if_icmp .eq 214, 3) := by decide +kernel
theorem dL_law_1395 : decode cL_law 1395 = .ok (.iconst 0, 1) := by decide +kernel
theorem dL_law_1396 : decode cL_law 1396 = .ok (.ireturn, 1) := by decide +kernel
theorem dL_law_1397 : decode cL_law 1397 = .ok (.aload_n 1, 1) := by decide +kernel
theorem dL_law_1398 : decode cL_law 1398 = .ok (.aload_n 0, 1) := by decide +kernel
theorem dL_law_1399 : decode cL_law 1399 = .ok (.iload_n 3, 1) := by decide +kernel
theorem dL_law_1400 : decode cL_law 1400 = .ok (.iconst 1, 1) := by decide +kernel
theorem dL_law_1401 : decode cL_law 1401 = .ok (.iadd, 1) := by decide +kernel
theorem dL_law_1402 : decode cL_law 1402 = .ok (.iaload, 1) := by decide +kernel
theorem dL_law_1403 : decode cL_law 1403 = .ok (.aload_n 0, 1) := by decide +kernel
theorem dL_law_1404 : decode cL_law 1404 = .ok (.iload_n 3, 1) := by decide +kernel
theorem dL_law_1405 : decode cL_law 1405 = .ok (.iconst 2, 1) := by decide +kernel
theorem dL_law_1406 : decode cL_law 1406 = .ok (.iadd, 1) := by decide +kernel
theorem dL_law_1407 : decode cL_law 1407 = .ok (.iaload, 1) := by decide +kernel
theorem dL_law_1408 : decode cL_law 1408 = .ok (.aload_n 0, 1) := by decide +kernel
theorem dL_law_1409 : decode cL_law 1409 = .ok (.iload_n 3, 1) := by decide +kernel
theorem dL_law_1410 : decode cL_law 1410 = .ok (.iconst 3, 1) := by decide +kernel
theorem dL_law_1411 : decode cL_law 1411 = .ok (.iadd, 1) := by decide +kernel
theorem dL_law_1412 : decode cL_law 1412 = .ok (.iaload, 1) := by decide +kernel
theorem dL_law_1413 : decode cL_law 1413 = .ok (.invokevirtual 132, 3) := by decide +kernel
theorem dL_law_1416 : decode cL_law 1416 = .ok (.aload_n 2, 1) := by decide +kernel
theorem dL_law_1417 : decode cL_law 1417 = .ok (.aload_n 0, 1) := by decide +kernel
theorem dL_law_1418 : decode cL_law 1418 = .ok (.iload_n 3, 1) := by decide +kernel
theorem dL_law_1419 : decode cL_law 1419 = .ok (.iconst 1, 1) := by decide +kernel
theorem dL_law_1420 : decode cL_law 1420 = .ok (.iadd, 1) := by decide +kernel
theorem dL_law_1421 : decode cL_law 1421 = .ok (.iaload, 1) := by decide +kernel
theorem dL_law_1422 : decode cL_law 1422 = .ok (.aload_n 0, 1) := by decide +kernel
theorem dL_law_1423 : decode cL_law 1423 = .ok (.iload_n 3, 1) := by decide +kernel
theorem dL_law_1424 : decode cL_law 1424 = .ok (.iconst 2, 1) := by decide +kernel
theorem dL_law_1425 : decode cL_law 1425 = .ok (.iadd, 1) := by decide +kernel
theorem dL_law_1426 : decode cL_law 1426 = .ok (.iaload, 1) := by decide +kernel
theorem dL_law_1427 : decode cL_law 1427 = .ok (.aload_n 0, 1) := by decide +kernel
theorem dL_law_1428 : decode cL_law 1428 = .ok (.iload_n 3, 1) := by decide +kernel
theorem dL_law_1429 : decode cL_law 1429 = .ok (.iconst 3, 1) := by decide +kernel
theorem dL_law_1430 : decode cL_law 1430 = .ok (.iadd, 1) := by decide +kernel
theorem dL_law_1431 : decode cL_law 1431 = .ok (.iaload, 1) := by decide +kernel
theorem dL_law_1432 : decode cL_law 1432 = .ok (.invokevirtual 135, 3) := by decide +kernel
theorem dL_law_1435 : decode cL_law 1435 = .ok (.if_icmp .eq 171, 3) := by decide +kernel
theorem dL_law_1438 : decode cL_law 1438 = .ok (.iconst 0, 1) := by decide +kernel
theorem dL_law_1439 : decode cL_law 1439 = .ok (.ireturn, 1) := by decide +kernel
theorem dL_law_1440 : decode cL_law 1440 = .ok (.aload_n 1, 1) := by decide +kernel
theorem dL_law_1441 : decode cL_law 1441 = .ok (.aload_n 0, 1) := by decide +kernel
theorem dL_law_1442 : decode cL_law 1442 = .ok (.iload_n 3, 1) := by decide +kernel
theorem dL_law_1443 : decode cL_law 1443 = .ok (.iconst 1, 1) := by decide +kernel
theorem dL_law_1444 : decode cL_law 1444 = .ok (.iadd, 1) := by decide +kernel
theorem dL_law_1445 : decode cL_law 1445 = .ok (.iaload, 1) := by decide +kernel
theorem dL_law_1446 : decode cL_law 1446 = .ok (.aload_n 0, 1) := by decide +kernel
theorem dL_law_1447 : decode cL_law 1447 = .ok (.iload_n 3, 1) := by decide +kernel
theorem dL_law_1448 : decode cL_law 1448 = .ok (.iconst 2, 1) := by decide +kernel
theorem dL_law_1449 : decode cL_law 1449 = .ok (.iadd, 1) := by decide +kernel
theorem dL_law_1450 : decode cL_law 1450 = .ok (.iaload, 1) := by decide +kernel
theorem dL_law_1451 : decode cL_law 1451 = .ok (.aload_n 0, 1) := by decide +kernel
theorem dL_law_1452 : decode cL_law 1452 = .ok (.iload_n 3, 1) := by decide +kernel
theorem dL_law_1453 : decode cL_law 1453 = .ok (.iconst 3, 1) := by decide +kernel
theorem dL_law_1454 : decode cL_law 1454 = .ok (.iadd, 1) := by decide +kernel
theorem dL_law_1455 : decode cL_law 1455 = .ok (.iaload, 1) := by decide +kernel
theorem dL_law_1456 : decode cL_law 1456 = .ok (.aload_n 0, 1) := by decide +kernel
theorem dL_law_1457 : decode cL_law 1457 = .ok (.iload_n 3, 1) := by decide +kernel
theorem dL_law_1458 : decode cL_law 1458 = .ok (.iconst 4, 1) := by decide +kernel
theorem dL_law_1459 : decode cL_law 1459 = .ok (.iadd, 1) := by decide +kernel
theorem dL_law_1460 : decode cL_law 1460 = .ok (.iaload, 1) := by decide +kernel
theorem dL_law_1461 : decode cL_law 1461 = .ok (.aload_n 0, 1) := by decide +kernel
theorem dL_law_1462 : decode cL_law 1462 = .ok (.iload_n 3, 1) := by decide +kernel
theorem dL_law_1463 : decode cL_law 1463 = .ok (.iconst 5, 1) := by decide +kernel
theorem dL_law_1464 : decode cL_law 1464 = .ok (.iadd, 1) := by decide +kernel
theorem dL_law_1465 : decode cL_law 1465 = .ok (.iaload, 1) := by decide +kernel
theorem dL_law_1466 : decode cL_law 1466 = .ok (.invokevirtual 136, 3) := by decide +kernel
theorem dL_law_1469 : decode cL_law 1469 = .ok (.aload_n 2, 1) := by decide +kernel
theorem dL_law_1470 : decode cL_law 1470 = .ok (.aload_n 0, 1) := by decide +kernel
theorem dL_law_1471 : decode cL_law 1471 = .ok (.iload_n 3, 1) := by decide +kernel
theorem dL_law_1472 : decode cL_law 1472 = .ok (.iconst 1, 1) := by decide +kernel
theorem dL_law_1473 : decode cL_law 1473 = .ok (.iadd, 1) := by decide +kernel
theorem dL_law_1474 : decode cL_law 1474 = .ok (.iaload, 1) := by decide +kernel
theorem dL_law_1475 : decode cL_law 1475 = .ok (.aload_n 0, 1) := by decide +kernel
theorem dL_law_1476 : decode cL_law 1476 = .ok (.iload_n 3, 1) := by decide +kernel
theorem dL_law_1477 : decode cL_law 1477 = .ok (.iconst 2, 1) := by decide +kernel
theorem dL_law_1478 : decode cL_law 1478 = .ok (.iadd, 1) := by decide +kernel
theorem dL_law_1479 : decode cL_law 1479 = .ok (.iaload, 1) := by decide +kernel
theorem dL_law_1480 : decode cL_law 1480 = .ok (.aload_n 0, 1) := by decide +kernel
theorem dL_law_1481 : decode cL_law 1481 = .ok (.iload_n 3, 1) := by decide +kernel
theorem dL_law_1482 : decode cL_law 1482 = .ok (.iconst 3, 1) := by decide +kernel
theorem dL_law_1483 : decode cL_law 1483 = .ok (.iadd, 1) := by decide +kernel
theorem dL_law_1484 : decode cL_law 1484 = .ok (.iaload, 1) := by decide +kernel
theorem dL_law_1485 : decode cL_law 1485 = .ok (.aload_n 0, 1) := by decide +kernel
theorem dL_law_1486 : decode cL_law 1486 = .ok (.iload_n 3, 1) := by decide +kernel
theorem dL_law_1487 : decode cL_law 1487 = .ok (.iconst 4, 1) := by decide +kernel
theorem dL_law_1488 : decode cL_law 1488 = .ok (.iadd, 1) := by decide +kernel
theorem dL_law_1489 : decode cL_law 1489 = .ok (.iaload, 1) := by decide +kernel
theorem dL_law_1490 : decode cL_law 1490 = .ok (.aload_n 0, 1) := by decide +kernel
theorem dL_law_1491 : decode cL_law 1491 = .ok (.iload_n 3, 1) := by decide +kernel
theorem dL_law_1492 : decode cL_law 1492 = .ok (.iconst 5, 1) := by decide +kernel
theorem dL_law_1493 : decode cL_law 1493 = .ok (.iadd, 1) := by decide +kernel
theorem dL_law_1494 : decode cL_law 1494 = .ok (.iaload, 1) := by decide +kernel
theorem dL_law_1495 : decode cL_law 1495 = .ok (.invokevirtual 140, 3) := by decide +kernel
theorem dL_law_1498 : decode cL_law 1498 = .ok (.if_icmp .eq 108, 3) := by decide +kernel
theorem dL_law_1501 : decode cL_law 1501 = .ok (.iconst 0, 1) := by decide +kernel
theorem dL_law_1502 : decode cL_law 1502 = .ok (.ireturn, 1) := by decide +kernel
theorem dL_law_1503 : decode cL_law 1503 = .ok (.aload_n 1, 1) := by decide +kernel
theorem dL_law_1504 : decode cL_law 1504 = .ok (.aload_n 0, 1) := by decide +kernel
theorem dL_law_1505 : decode cL_law 1505 = .ok (.iload_n 3, 1) := by decide +kernel
theorem dL_law_1506 : decode cL_law 1506 = .ok (.iconst 1, 1) := by decide +kernel
theorem dL_law_1507 : decode cL_law 1507 = .ok (.iadd, 1) := by decide +kernel
theorem dL_law_1508 : decode cL_law 1508 = .ok (.iaload, 1) := by decide +kernel
theorem dL_law_1509 : decode cL_law 1509 = .ok (.aload_n 0, 1) := by decide +kernel
theorem dL_law_1510 : decode cL_law 1510 = .ok (.iload_n 3, 1) := by decide +kernel
theorem dL_law_1511 : decode cL_law 1511 = .ok (.iconst 2, 1) := by decide +kernel
theorem dL_law_1512 : decode cL_law 1512 = .ok (.iadd, 1) := by decide +kernel
theorem dL_law_1513 : decode cL_law 1513 = .ok (.iaload, 1) := by decide +kernel
theorem dL_law_1514 : decode cL_law 1514 = .ok (.invokevirtual 141, 3) := by decide +kernel
theorem dL_law_1517 : decode cL_law 1517 = .ok (.aload_n 2, 1) := by decide +kernel
theorem dL_law_1518 : decode cL_law 1518 = .ok (.aload_n 0, 1) := by decide +kernel
theorem dL_law_1519 : decode cL_law 1519 = .ok (.iload_n 3, 1) := by decide +kernel
theorem dL_law_1520 : decode cL_law 1520 = .ok (.iconst 1, 1) := by decide +kernel
theorem dL_law_1521 : decode cL_law 1521 = .ok (.iadd, 1) := by decide +kernel
theorem dL_law_1522 : decode cL_law 1522 = .ok (.iaload, 1) := by decide +kernel
theorem dL_law_1523 : decode cL_law 1523 = .ok (.aload_n 0, 1) := by decide +kernel
theorem dL_law_1524 : decode cL_law 1524 = .ok (.iload_n 3, 1) := by decide +kernel
theorem dL_law_1525 : decode cL_law 1525 = .ok (.iconst 2, 1) := by decide +kernel
theorem dL_law_1526 : decode cL_law 1526 = .ok (.iadd, 1) := by decide +kernel
theorem dL_law_1527 : decode cL_law 1527 = .ok (.iaload, 1) := by decide +kernel
theorem dL_law_1528 : decode cL_law 1528 = .ok (.invokevirtual 144, 3) := by decide +kernel
theorem dL_law_1531 : decode cL_law 1531 = .ok (.if_icmp .eq 75, 3) := by decide +kernel
theorem dL_law_1534 : decode cL_law 1534 = .ok (.iconst 0, 1) := by decide +kernel
theorem dL_law_1535 : decode cL_law 1535 = .ok (.ireturn, 1) := by decide +kernel
theorem dL_law_1536 : decode cL_law 1536 = .ok (.aload_n 1, 1) := by decide +kernel
theorem dL_law_1537 : decode cL_law 1537 = .ok (.aload_n 0, 1) := by decide +kernel
theorem dL_law_1538 : decode cL_law 1538 = .ok (.iload_n 3, 1) := by decide +kernel
theorem dL_law_1539 : decode cL_law 1539 = .ok (.iconst 1, 1) := by decide +kernel
theorem dL_law_1540 : decode cL_law 1540 = .ok (.iadd, 1) := by decide +kernel
theorem dL_law_1541 : decode cL_law 1541 = .ok (.iaload, 1) := by decide +kernel
theorem dL_law_1542 : decode cL_law 1542 = .ok (.aload_n 0, 1) := by decide +kernel
theorem dL_law_1543 : decode cL_law 1543 = .ok (.iload_n 3, 1) := by decide +kernel
theorem dL_law_1544 : decode cL_law 1544 = .ok (.iconst 2, 1) := by decide +kernel
theorem dL_law_1545 : decode cL_law 1545 = .ok (.iadd, 1) := by decide +kernel
theorem dL_law_1546 : decode cL_law 1546 = .ok (.iaload, 1) := by decide +kernel
theorem dL_law_1547 : decode cL_law 1547 = .ok (.invokevirtual 145, 3) := by decide +kernel
theorem dL_law_1550 : decode cL_law 1550 = .ok (.aload_n 2, 1) := by decide +kernel
theorem dL_law_1551 : decode cL_law 1551 = .ok (.aload_n 0, 1) := by decide +kernel
theorem dL_law_1552 : decode cL_law 1552 = .ok (.iload_n 3, 1) := by decide +kernel
theorem dL_law_1553 : decode cL_law 1553 = .ok (.iconst 1, 1) := by decide +kernel
end
section
theorem dL_law_1554 : decode cL_law 1554 = .ok (.iadd, 1) := by decide +kernel
theorem dL_law_1555 : decode cL_law 1555 = .ok (.iaload, 1) := by decide +kernel
theorem dL_law_1556 : decode cL_law 1556 = .ok (.aload_n 0, 1) := by decide +kernel
theorem dL_law_1557 : decode cL_law 1557 = .ok (.iload_n 3, 1) := by decide +kernel
theorem dL_law_1558 : decode cL_law 1558 = .ok (.iconst 2, 1) := by decide +kernel
theorem dL_law_1559 : decode cL_law 1559 = .ok (.iadd, 1) := by decide +kernel
theorem dL_law_1560 : decode cL_law 1560 = .ok (.iaload, 1) := by decide +kernel
theorem dL_law_1561 : decode cL_law 1561 = .ok (.invokevirtual 148, 3) := by decide +kernel
theorem dL_law_1564 : decode cL_law 1564 = .ok (.if_icmp .eq 42, 3) := by decide +kernel
theorem dL_law_1567 : decode cL_law 1567 = .ok (.iconst 0, 1) := by decide +kernel
theorem dL_law_1568 : decode cL_law 1568 = .ok (.ireturn, 1) := by decide +kernel
theorem dL_law_1569 : decode cL_law 1569 = .ok (.aload_n 1, 1) := by decide +kernel
theorem dL_law_1570 : decode cL_law 1570 = .ok (.aload_n 0, 1) := by decide +kernel
theorem dL_law_1571 : decode cL_law 1571 = .ok (.iload_n 3, 1) := by decide +kernel
theorem dL_law_1572 : decode cL_law 1572 = .ok (.iconst 1, 1) := by decide +kernel
theorem dL_law_1573 : decode cL_law 1573 = .ok (.iadd, 1) := by decide +kernel
theorem dL_law_1574 : decode cL_law 1574 = .ok (.iaload, 1) := by decide +kernel
theorem dL_law_1575 : decode cL_law 1575 = .ok (.invokevirtual 149, 3) := by decide +kernel
theorem dL_law_1578 : decode cL_law 1578 = .ok (.aload_n 2, 1) := by decide +kernel
theorem dL_law_1579 : decode cL_law 1579 = .ok (.aload_n 0, 1) := by decide +kernel
theorem dL_law_1580 : decode cL_law 1580 = .ok (.iload_n 3, 1) := by decide +kernel
theorem dL_law_1581 : decode cL_law 1581 = .ok (.iconst 1, 1) := by decide +kernel
theorem dL_law_1582 : decode cL_law 1582 = .ok (.iadd, 1) := by decide +kernel
theorem dL_law_1583 : decode cL_law 1583 = .ok (.iaload, 1) := by decide +kernel
theorem dL_law_1584 : decode cL_law 1584 = .ok (.invokevirtual 152, 3) := by decide +kernel
theorem dL_law_1587 : decode cL_law 1587 = .ok (.if_icmp .eq 19, 3) := by decide +kernel
theorem dL_law_1590 : decode cL_law 1590 = .ok (.iconst 0, 1) := by decide +kernel
theorem dL_law_1591 : decode cL_law 1591 = .ok (.ireturn, 1) := by decide +kernel
theorem dL_law_1592 : decode cL_law 1592 = .ok (.aload_n 1, 1) := by decide +kernel
theorem dL_law_1593 : decode cL_law 1593 = .ok (.invokevirtual 153, 3) := by decide +kernel
theorem dL_law_1596 : decode cL_law 1596 = .ok (.aload_n 2, 1) := by decide +kernel
theorem dL_law_1597 : decode cL_law 1597 = .ok (.invokevirtual 157, 3) := by decide +kernel
theorem dL_law_1600 : decode cL_law 1600 = .ok (.lcmp, 1) := by decide +kernel
theorem dL_law_1601 : decode cL_law 1601 = .ok (.ifCond .eq 5, 3) := by decide +kernel
theorem dL_law_1604 : decode cL_law 1604 = .ok (.iconst 0, 1) := by decide +kernel
theorem dL_law_1605 : decode cL_law 1605 = .ok (.ireturn, 1) := by decide +kernel
theorem dL_law_1606 : decode cL_law 1606 = .ok (.iinc 3 7, 3) := by decide +kernel
theorem dL_law_1609 : decode cL_law 1609 = .ok (.goto (-1591), 3) := by decide +kernel
theorem dL_law_1612 : decode cL_law 1612 = .ok (.iconst 1, 1) := by decide +kernel
theorem dL_law_1613 : decode cL_law 1613 = .ok (.ireturn, 1) := by decide +kernel
end
section
/-! THE WORLD: names (Nat) in place of addresses; kinds, lengths, ints, longs, references by name and place; the names that there are. -/
abbrev Wd : Type := (Nat → Nat) × (Nat → Nat) × (Nat → Nat → Int32) × (Nat → Nat → Int64) × (Nat → Nat → Option Nat) × List Nat
def wK (w : Wd) : Nat → Nat := w.1
def wN (w : Wd) : Nat → Nat := w.2.1
def wI (w : Wd) : Nat → Nat → Int32 := w.2.2.1
def wJ (w : Wd) : Nat → Nat → Int64 := w.2.2.2.1
def wR (w : Wd) : Nat → Nat → Option Nat := w.2.2.2.2.1
def wL (w : Wd) : List Nat := w.2.2.2.2.2
def up2 {α : Type} (f : Nat → Nat → α) (n k : Nat) (x : α) : Nat → Nat → α := fun a j => if a = n ∧ j = k then x else f a j
def sI (w : Wd) (n k : Nat) (x : Int32) : Wd := (wK w, wN w, up2 (wI w) n k x, wJ w, wR w, wL w)
def sJ (w : Wd) (n k : Nat) (x : Int64) : Wd := (wK w, wN w, wI w, up2 (wJ w) n k x, wR w, wL w)
def sR (w : Wd) (n k : Nat) (x : Option Nat) : Wd := (wK w, wN w, wI w, wJ w, up2 (wR w) n k x, wL w)
/-- a row of ints written anew from place dp on -/
def sV (w : Wd) (n : Nat) (f : Nat → Int32) : Wd := (wK w, wN w, fun a j => if a = n then f j else wI w a j, wJ w, wR w, wL w)
theorem up2_self {α : Type} (f : Nat → Nat → α) (n k : Nat) (x : α) : up2 f n k x n k = x := if_pos ⟨rfl, rfl⟩
theorem up2_ne {α : Type} (f : Nat → Nat → α) {n k a j : Nat} (x : α) (h : ¬ (a = n ∧ j = k)) : up2 f n k x a j = f a j := if_neg h
theorem up2_nn {α : Type} (f : Nat → Nat → α) {n k a j : Nat} (x : α) (h : a ≠ n) : up2 f n k x a j = f a j := if_neg fun q => h q.1
def Wok (w : Wd) : Prop := (wL w).Nodup ∧ (∀ n, wK w n ≠ 0 → n ∈ wL w) ∧ ∀ n, n ∈ wL w → n ≠ 9 ∧ n ≠ 8
/-- the fields' types of the classes of vwCl: 0 int (and boolean), 1 long, 2 a reference -/
def fts : Nat → List Nat
  | 0 => [2, 0, 0, 0, 0, 0, 0, 0, 1, 1, 1, 1, 1, 1]
  | 1 => [2, 0]
  | 2 => [2, 0]
  | 3 => [0, 0, 2, 0, 2, 0, 2, 2, 2]
  | 4 => [2, 0]
  | 5 => [2, 0, 0, 0]
  | 6 => [2, 0, 0, 1, 1]
  | 7 => [2, 2, 2, 2, 2, 0]
  | _ => [2, 2, 0, 2, 2, 2, 2, 2, 2, 1, 1, 0, 2, 2, 2, 2, 1, 1, 2, 2, 0, 2, 0, 2, 2, 2, 2, 0, 0, 2, 2, 2, 2, 2, 0]
def fv (tag : Nat) (ad : Nat → Nat) (w : Wd) (n k : Nat) : Value := if tag = 0 then .int (wI w n k) else if tag = 1 then .long (wJ w n k) else va_rf ((wR w n k).map ad)
def fl (ci : Nat) (ad : Nat → Nat) (w : Wd) (n : Nat) : List Value := (List.range (fts ci).length).map (fun k => fv ((fts ci).getD k 0) ad w n k)
theorem fl_at {ci : Nat} {ad : Nat → Nat} {w : Wd} {n k tag : Nat} (h : (fts ci)[k]? = some tag) : (fl ci ad w n)[k]? = some (fv tag ad w n k) := by
  have hk : k < (fts ci).length := (List.getElem?_eq_some_iff.mp h).1
  unfold fl
  rw [List.getElem?_map, List.getElem?_range hk]
  simp [List.getD, h]
theorem fl_len (ci : Nat) (ad : Nat → Nat) (w : Wd) (n : Nat) : (fl ci ad w n).length = (fts ci).length := by simp [fl]
theorem fl_set {ci : Nat} {ad : Nat → Nat} {w w' : Wd} {n k tag : Nat} {v : Value} (h : (fts ci)[k]? = some tag) (hv : fv tag ad w' n k = v) (ho : ∀ j t, j ≠ k → fv t ad w' n j = fv t ad w n j) : (fl ci ad w n).set k v = fl ci ad w' n := by
  apply List.ext_getElem?
  intro j
  have hk : k < (fts ci).length := (List.getElem?_eq_some_iff.mp h).1
  by_cases hj : j < (fts ci).length
  · obtain ⟨t, ht⟩ : ∃ t, (fts ci)[j]? = some t := ⟨_, List.getElem?_eq_getElem hj⟩
    by_cases e : j = k
    · subst e
      rw [fl_at h, List.getElem?_set_self (by rw [fl_len]; exact hk), hv]
    · rw [List.getElem?_set_ne (fun q => e q.symm), fl_at ht, fl_at ht, ho j t e]
  · rw [List.getElem?_eq_none (by rw [List.length_set, fl_len]; omega), List.getElem?_eq_none (by rw [fl_len]; omega)]
/-- what a name's cell holds -/
def en (cy : Nat → ClassId) (ad : Nat → Nat) (w : Wd) (n : Nat) : va_E := match wK w n with
  | 11 => .inl (cy 0, wN w n, .inl (wI w n))
  | 12 => .inl (cy 1, wN w n, .inr (.inl (wJ w n)))
  | 13 => .inl (cy 2, wN w n, .inl (wI w n))
  | 14 => .inl (cy 3, wN w n, .inr (.inr (.inr (.inr (fun j => (wR w n j).map ad)))))
  | 15 => .inl (cy 4, wN w n, .inr (.inr (.inr (.inr (fun j => (wR w n j).map ad)))))
  | 16 => .inl (cy 5, wN w n, .inr (.inr (.inr (.inr (fun j => (wR w n j).map ad)))))
  | 17 => .inl (cy 6, wN w n, .inr (.inr (.inr (.inr (fun j => (wR w n j).map ad)))))
  | k => .inr (k - 1, fl (k - 1) ad w n)
theorem en_o {cy : Nat → ClassId} {ad : Nat → Nat} {w : Wd} {n ci : Nat} (h : wK w n = ci + 1) (hc : ci < 9) : en cy ad w n = .inr (ci, fl ci ad w n) := by
  unfold en
  rcases (show ci = 0 ∨ ci = 1 ∨ ci = 2 ∨ ci = 3 ∨ ci = 4 ∨ ci = 5 ∨ ci = 6 ∨ ci = 7 ∨ ci = 8 by omega) with e | e | e | e | e | e | e | e | e <;> (subst e; simp [h])
def pl (cy : Nat → ClassId) (ad : Nat → Nat) (w : Wd) : va_W := (wL w).map (fun n => (ad n, en cy ad w n))
theorem pl_get {cy : Nat → ClassId} {ad : Nat → Nat} {w : Wd} {n : Nat} (h : n ∈ wL w) : ∃ k : Nat, (wL w)[k]? = some n ∧ (pl cy ad w)[k]? = some (ad n, en cy ad w n) := by
  obtain ⟨k, hk⟩ := List.getElem?_of_mem h
  exact ⟨k, hk, by simp [pl, hk]⟩
theorem pl_set {cy : Nat → ClassId} {ad : Nat → Nat} {w w' : Wd} {n k : Nat} {e : va_E} (hw : Wok w) (hk : (wL w)[k]? = some n) (hl : wL w' = wL w) (he : en cy ad w' n = e) (ho : ∀ m, m ≠ n → en cy ad w' m = en cy ad w m) : (pl cy ad w).set k (ad n, e) = pl cy ad w' := by
  apply List.ext_getElem?
  intro j
  have hlt : k < (wL w).length := (List.getElem?_eq_some_iff.mp hk).1
  by_cases hj : j = k
  · subst hj
    rw [List.getElem?_set_self (by simpa [pl] using hlt)]
    simp [pl, hl, hk, he]
  · rw [List.getElem?_set_ne (fun q => hj q.symm)]
    simp only [pl, hl, List.getElem?_map]
    cases hm : (wL w)[j]? with
    | none => rfl
    | some m =>
      simp only [Option.map_some]
      have hne : m ≠ n := fun q => hj ((List.getElem?_inj (List.getElem?_eq_some_iff.mp hm).1 hw.1).mp (by rw [hm, hk, q]))
      rw [ho m hne]
/-- values and references by name -/
def mv (ad : Nat → Nat) : Value → Value
  | .ref n => .ref (ad n)
  | v => v
def mL (ad : Nat → Nat) (L : List (Nat × Value)) : List (Nat × Value) := L.map (fun q => (q.1, mv ad q.2))
theorem mv_cat (ad : Nat → Nat) (v : Value) : (mv ad v).category = v.category := by cases v <;> rfl
theorem lv_args_mv (ad : Nat → Nat) (av : List Value) : ∀ i, lv_args i (av.map (mv ad)) = mL ad (lv_args i av) := by
  induction av with
  | nil => intro i; rfl
  | cons v vs ih =>
    intro i
    simp only [List.map_cons, lv_args, mv_cat, ih, mL]
theorem mL_get {ad : Nat → Nat} {L : List (Nat × Value)} {i : Nat} {v : Value} (h : L.find? (fun q => q.1 == i) = some (i, v)) {ls : Array Slot} {nL : Nat} (hl : lv_has ls nL (mL ad L)) : ls[i]? = some (.val (mv ad v)) :=
  hl.2.2 (i, mv ad v) (List.mem_map.mpr ⟨(i, v), List.mem_of_find?_eq_some h, rfl⟩)
def rm1 (i : Nat) (q : Nat × Value) : Bool := !(q.1 == i) && !(q.1 + 1 == i && q.2.category == 2)
def rm2 (i : Nat) (q : Nat × Value) : Bool := !(q.1 == i) && (!(q.1 == i + 1) && !(q.1 + 1 == i && q.2.category == 2))
theorem mL_rm1 (ad : Nat → Nat) (i : Nat) (v : Value) (L : List (Nat × Value)) : (i, mv ad v) :: (mL ad L).filter (fun q => !(q.1 == i) && !(q.1 + 1 == i && q.2.category == 2)) = mL ad ((i, v) :: L.filter (rm1 i)) := by
  unfold mL rm1
  rw [List.map_cons, List.filter_map]
  congr 2
  apply List.filter_congr
  intro q _
  simp [mv_cat]
theorem mL_rm2 (ad : Nat → Nat) (i : Nat) (v : Value) (L : List (Nat × Value)) : (i, mv ad v) :: (mL ad L).filter (fun q => !(q.1 == i) && (!(q.1 == i + 1) && !(q.1 + 1 == i && q.2.category == 2))) = mL ad ((i, v) :: L.filter (rm2 i)) := by
  unfold mL rm2
  rw [List.map_cons, List.filter_map]
  congr 2
  apply List.filter_congr
  intro q _
  simp [mv_cat]
theorem lg_sl_mv (ad : Nat → Nat) (av : List Value) : (lg_sl (av.map (mv ad))).length = (lg_sl av).length := by
  induction av with
  | nil => rfl
  | cons v vs ih =>
    have e : ∀ (u : Value) (us : List Value), (lg_sl (u :: us)).length = (if u.category = 2 then 2 else 1) + (lg_sl us).length := fun u us => by
      unfold lg_sl
      rw [List.flatMap_cons, List.length_append]
      by_cases h : u.category = 2 <;> simp [h]
    rw [List.map_cons, e, e, ih, mv_cat]
end
section
/-! THE JUDGEMENT: V says of a world by names what W says of the machine. -/
def tys (cy : Nat → ClassId) : List (ClassId × FieldType) := [(cy 0, .int), (cy 1, .long), (cy 2, .boolean), (cy 3, .object "BoneSteps$Bone"), (cy 4, .object "BoneSteps$Clip"), (cy 5, .object "BoneSteps$Sheet"), (cy 6, .array .int)]
/-- the tables' words that every method takes along -/
def tb : List Cond := lw_tbl.filter goodWord
theorem tb_at {w : Cond} (i : Nat) (h : lw_tbl[i]? = some w) (hg : goodWord w = true) : w ∈ tb := List.mem_filter.mpr ⟨List.mem_of_getElem? h, hg⟩
theorem tb_good {c : Cond} (h : c ∈ tb) : GoodIn tb (c :: tb) := fun w hw => by
  have hm : w ∈ tb := (List.mem_cons.mp hw).elim (fun e => e ▸ h) id
  exact ⟨hm, good_of_word (List.mem_filter.mp hm).2⟩
/-- the words on private members of nest mates -/
def nwL : List (String × Nat × MethodName × String) := [("BoneSteps", 11, ⟨"BoneSteps$Skeleton", "<init>", "()V"⟩, "BoneSteps"), ("BoneSteps", 25, ⟨"BoneSteps$Packing", "<init>", "()V"⟩, "BoneSteps"), ("BoneSteps", 32, ⟨"BoneSteps$Graph", "<init>", "()V"⟩, "BoneSteps"), ("BoneSteps", 47, ⟨"BoneSteps$Sheet", "<init>", "()V"⟩, "BoneSteps"), ("BoneSteps$Clips", 17, ⟨"BoneSteps$Clip", "<init>", "()V"⟩, "BoneSteps"), ("BoneSteps$Clips", 20, ⟨"BoneSteps", "isIn", "(JJJ)Z"⟩, "BoneSteps"), ("BoneSteps$Sheet", 32, ⟨"BoneSteps", "isIn", "(JJJ)Z"⟩, "BoneSteps"), ("BoneSteps$Skeleton", 24, ⟨"BoneSteps", "isIn", "(JJJ)Z"⟩, "BoneSteps")]
def nwC (q : String × Nat × MethodName × String) : Cond := .methodLinkNest q.1 q.2.1 q.2.2.1 q.2.2.2
def Hy (D : va_G) (cy : Nat → ClassId) (U : State) : Prop := va_K D vwCl (tys cy) U ∧ ∀ q ∈ nwL, va_Nw (nwC q) U
theorem Hy.warm {D : va_G} {cy : Nat → ClassId} {s U : State} (h : Hy D cy s) (hW : s.WarmedH U.vm) : Hy D cy U := ⟨va_K.moved hW.alike h.1, fun q hq => va_Nw.warmM hW (h.2 q hq)⟩
theorem Hy.same {D : va_G} {cy : Nat → ClassId} {s U : State} (h : Hy D cy s) (e : s.vm = U.vm) : Hy D cy U := ⟨va_K.moved (by rw [e]; exact Vm.Alike.refl U.vm) h.1, fun q hq => va_Nw.same rfl e (h.2 q hq)⟩
def cosL : List Int32 := [65, 63, 60, 56, 52, 39, 33, 25, 16, 0, -16, -25, -33, -39, -52, -56, -60, -63, -65, -63, -60, -56, -52, -39, -33, -25, -16, 0, 16, 25, 33, 39, 52, 56, 60, 63]
def cosF (j : Nat) : Int32 := cosL.getD j 0
def Sta (t : Nat) (A : Nat → Prop) (U : State) (H : Heap) : Prop := va_Z RX7 "COSINES" "[I" (.ref t) A U H ∧ va_T .int t 36 (fun j => .int (cosF j)) A U H
/-- a method: its class, bytes, locals, answer's type, room, name, whether it makes cells -/
abbrev Mi : Type := String × ByteArray × Nat × Option FieldType × Room × String × Bool
/-- what stands still while a method runs -/
abbrev Cx : Type := Program × Launch × Env × State × MethodId × List Frame × Method × Code × va_G × (Nat → ClassId) × (Nat → Nat) × Wd × List Value × Option (Nat × (Nat → Int32))
def xs (X : Cx) : State := X.2.2.2.1
def xm (X : Cx) : MethodId := X.2.2.2.2.1
def xD (X : Cx) : va_G := X.2.2.2.2.2.2.2.2.1
def xcy (X : Cx) : Nat → ClassId := X.2.2.2.2.2.2.2.2.2.1
def xad (X : Cx) : Nat → Nat := X.2.2.2.2.2.2.2.2.2.2.1
def xw (X : Cx) : Wd := X.2.2.2.2.2.2.2.2.2.2.2.1
def xav (X : Cx) : List Value := X.2.2.2.2.2.2.2.2.2.2.2.2.1
def xsc (X : Cx) : Option (Nat × (Nat → Int32)) := X.2.2.2.2.2.2.2.2.2.2.2.2.2
def xA (X : Cx) : Nat → Prop := va_A (pl (xcy X) (xad X) (xw X)) (xs X).heap.size
def xargs (X : Cx) : Array Value := ((xav X).map (mv (xad X))).toArray
def Ok (M : Mi) (X : Cx) : Prop :=
  X.1.tables.exec = Jvm.exec ∧ X.2.2.2.2.2.2.2.1.code = M.2.1 ∧ X.2.2.2.2.2.2.2.1.maxLocals = M.2.2.1 ∧ X.2.2.2.2.2.2.1.sig.returnType = M.2.2.2.1 ∧ (xs X).vm.findClass M.1 = some (xm X).cls ∧ (∀ w ∈ tb, w.before (xargs X) (xs X) = true) ∧ X.2.2.2.2.2.2.1.locks = false ∧ Hy (xD X) (xcy X) (xs X) ∧ Sta (xad X 9) (xA X) (xs X) (xs X).heap ∧ X.2.2.2.2.2.2.1.name = M.2.2.2.2.2.1 ∧ ∀ q, xsc X = some q → va_X (xad X 8) q.1 q.2 (xs X) (xs X).heap ∧ xad X 8 < (xs X).heap.size ∧ ¬ xA X (xad X 8)
def Hd (M : Mi) (X : Cx) (ad : Nat → Nat) (w : Wd) (H : Heap) (locs : List Loc) : Prop :=
  Wok w ∧ va_P (xD X) vwCl (pl (xcy X) ad w) H ∧ va_D (xA X) (pl (xcy X) ad w) ∧ va_S (xA X) (xs X).heap H locs ∧ ((∀ n, (n ∈ wL (xw X) ∨ n = 9 ∨ n = 8) → ad n = xad X n) ∧ ∀ n, n ∈ wL (xw X) → n ∈ wL w) ∧ (M.2.2.2.2.2.2 = true ∨ ad = xad X)
/-- W at this context -/
def WX (M : Mi) (X : Cx) (H : Heap) (locs : List Loc) (cs : Nat × Nat) (Q : State → Prop) (g : JFrame) : Prop :=
  W X.1 X.2.1 X.2.2.1 M.2.2.2.2.1 (xs X) (xm X) (xargs X) X.2.2.2.2.2.1 X.2.2.2.2.2.2.1 X.2.2.2.2.2.2.2.1 H locs cs.1 cs.2 Q g
def V (M : Mi) (X : Cx) (Q : State → Prop) (pc : Nat) (L : List (Nat × Value)) (st : List Value) (w : Wd) (cs : Nat × Nat) : Prop :=
  Ok M X → ∀ (ad : Nat → Nat) (H : Heap) (locs : List Loc) (ls : Array Slot), Hd M X ad w H locs → lv_has ls M.2.2.1 (mL ad L) → WX M X H locs cs Q (F0 (xm X) pc ls (st.map (mv ad)))
/-- what a method's end says: the answer and the world behind it -/
def Qg (al : Bool) (D : va_G) (cy : Nat → ClassId) (ad : Nat → Nat) (w : Wd) (sz : Nat) (P : Option Value → Wd → Prop) : Array Value → State → Outcome → State → Prop := fun _ st oc t =>
  (∃ (r : Option Value) (w' : Wd) (ad' : Nat → Nat), oc = .returned (r.map (mv ad')) ∧ P r w' ∧ Wok w' ∧ va_P D vwCl (pl cy ad' w') t.heap ∧ va_D (va_A (pl cy ad w) sz) (pl cy ad' w') ∧ ((∀ n, (n ∈ wL w ∨ n = 9 ∨ n = 8) → ad' n = ad n) ∧ ∀ n, n ∈ wL w → n ∈ wL w') ∧ (al = true ∨ ad' = ad)) ∧ va_F (va_A (pl cy ad w) sz) st t
def mq (M : Mi) (X : Cx) (P : Option Value → Wd → Prop) : State → Prop :=
  MQ X.2.2.2.2.2.1 (Qg M.2.2.2.2.2.2 (xD X) (xcy X) (xad X) (xw X) (xs X).heap.size P) (xargs X) (xs X) M.2.2.2.2.1.cells M.2.2.2.2.1.slots (xA X)
def Pre0 (D : va_G) (cy : Nat → ClassId) (ad : Nat → Nat) (w : Wd) (sz : Nat) (U : State) : Prop :=
  U.heap.size = sz ∧ Wok w ∧ va_P D vwCl (pl cy ad w) U.heap ∧ va_D (fun _ => True) (pl cy ad w) ∧ Hy D cy U ∧ Sta (ad 9) (va_A (pl cy ad w) sz) U U.heap
theorem Pre0.blind {D : va_G} {cy : Nat → ClassId} {ad : Nat → Nat} {w : Wd} {sz : Nat} {av : List Value} : FrameBlind (va_Pc av (Pre0 D cy ad w sz)) := fun a U g mk q => by
  obtain ⟨q0, q1, q2, q3, q4, q5, q6, q7⟩ := q
  exact ⟨q0, q1, q2, q3, q4, q5.same rfl, va_Z.moved (u := U) (U := U.calling g mk a) (Vm.Alike.refl U.vm) q6, va_T.moved (u := U) (U := U.calling g mk a) (Vm.Alike.refl U.vm) q7⟩
/-- A CONTRACT: from every world and arguments with Pre the method comes to an answer and a world with Post -/
def Ct (l : Launch) (y : MethodName) (M : Mi) (Pre : List Value → Wd → Prop) (Post : List Value → Wd → Option Value → Wd → Prop) : Prop :=
  ∀ (D : va_G) (cy : Nat → ClassId) (ad : Nat → Nat) (w : Wd) (sz : Nat) (av : List Value), Pre av w →
    Met l y (.code y M.2.1 M.2.2.1 M.2.2.2.1 :: tb) M.2.2.2.2.1 (va_Pc (av.map (mv ad)) (Pre0 D cy ad w sz)) (Qg M.2.2.2.2.2.2 D cy ad w sz (Post av w)) M.2.2.2.2.1.cells M.2.2.2.2.1.slots (va_A (pl cy ad w) sz)
theorem Ct.of {l : Launch} {y : MethodName} {M : Mi} {Pre : List Value → Wd → Prop} {Post : List Value → Wd → Option Value → Wd → Prop} (hy : plainName y.cls = true) (hc : y.cls = M.1) (hn : y.name = M.2.2.2.2.2.1) (hlen : ∀ av w, Pre av w → (lg_sl av).length ≤ M.2.2.1)
    (body : ∀ (X : Cx) (av : List Value) (w : Wd), Pre av w → V M X (mq M X (Post av w)) 0 (lv_args 0 av) [] w (0, 0)) : Ct l y M Pre Post := by
  intro D cy ad w sz av hp
  refine Met.ofW (cc := M.2.1) (maxL := M.2.2.1) (ret := M.2.2.2.1) hy rfl ?_
  intro p e s m args below meth c s₁ B hml hv
  obtain ⟨rfl, hsz, hw, hP, hD0, hH, hZ, hT⟩ := hv
  subst hsz
  have hts : ∀ w ∈ tb, w.before (av.map (mv ad)).toArray s = true := fun w hw => atoms_spec (ws := .code y M.2.1 M.2.2.1 M.2.2.2.1 :: tb) B.pre w (List.mem_cons_of_mem _ hw)
  have hown : s.vm.findClass M.1 = some m.cls := by rw [← hc]; exact findClass_of_methodNamed B.named
  have hnm : meth.name = M.2.2.2.2.2.1 := by rw [← hn]; exact (name_of_methodNamed B.named B.method).1
  have hl := lv_entry (av.map (mv ad)) (n := M.2.2.1) (by rw [lg_sl_mv]; exact hlen av w hp)
  rw [lg_entry_eq]
  generalize (lg_sl (av.map (mv ad)) ++ List.replicate (M.2.2.1 - (lg_sl (av.map (mv ad))).length) Slot.unset).toArray = ls at hl ⊢
  rw [lv_args_mv] at hl
  have key := body (p, l, e, s, m, below, meth, c, D, cy, ad, w, av, none) av w hp ⟨B.exec, B.bytes, hml, B.returns, hown, hts, B.notSynchronized, hH, ⟨hZ, hT⟩, hnm, fun q h => by cases h⟩ ad s.heap [] ls ⟨hw, hP, hD0.self, va_S.rf, ⟨fun _ _ => rfl, fun _ h => h⟩, Or.inr rfl⟩ hl
  exact key
end
section
theorem V_iconst {M : Mi} {X : Cx} {Q : State → Prop} {pc : Nat} {L : List (Nat × Value)} {st : List Value} {w : Wd} {cs : Nat × Nat} {n : Int} {v : Int32} (hd : decode M.2.1 pc = .ok (.iconst n, 1)) (hv : Int32.ofInt n = v) (k : V M X Q (pc + 1) L (.int v :: st) w cs) : V M X Q pc L st w cs := fun o ad H locs ls h hl => lv_iconst o.1 o.2.1 hd hv (k o ad H locs ls h hl)
theorem V_bipush {M : Mi} {X : Cx} {Q : State → Prop} {pc : Nat} {L : List (Nat × Value)} {st : List Value} {w : Wd} {cs : Nat × Nat} {n : Int} {v : Int32} (hd : decode M.2.1 pc = .ok (.bipush n, 2)) (hv : (Int8.ofInt n).toInt32 = v) (k : V M X Q (pc + 2) L (.int v :: st) w cs) : V M X Q pc L st w cs := fun o ad H locs ls h hl => lv_bipush o.1 o.2.1 hd hv (k o ad H locs ls h hl)
theorem V_sipush {M : Mi} {X : Cx} {Q : State → Prop} {pc : Nat} {L : List (Nat × Value)} {st : List Value} {w : Wd} {cs : Nat × Nat} {n : Int} {v : Int32} (hd : decode M.2.1 pc = .ok (.sipush n, 3)) (hv : (Int16.ofInt n).toInt32 = v) (k : V M X Q (pc + 3) L (.int v :: st) w cs) : V M X Q pc L st w cs := fun o ad H locs ls h hl => lv_sipush o.1 o.2.1 hd hv (k o ad H locs ls h hl)
theorem V_lconst {M : Mi} {X : Cx} {Q : State → Prop} {pc : Nat} {L : List (Nat × Value)} {st : List Value} {w : Wd} {cs : Nat × Nat} {n : Fin 2} {v : Int64} (hd : decode M.2.1 pc = .ok (.lconst n, 1)) (hv : Int64.ofNat (n : Nat) = v) (k : V M X Q (pc + 1) L (.long v :: st) w cs) : V M X Q pc L st w cs := fun o ad H locs ls h hl => lv_lconst o.1 o.2.1 hd hv (k o ad H locs ls h hl)
theorem V_ldc {M : Mi} {X : Cx} {Q : State → Prop} {pc : Nat} {L : List (Nat × Value)} {st : List Value} {w : Wd} {cs : Nat × Nat} {i : Nat} {v : Int32} (hc : Cond.constant M.1 i v ∈ tb) (hd : decode M.2.1 pc = .ok (.ldc i, 2)) (k : V M X Q (pc + 2) L (.int v :: st) w cs) : V M X Q pc L st w cs := fun o ad H locs ls h hl => lv_ldc o.1 o.2.1 o.2.2.2.2.1 (o.2.2.2.2.2.1 _ hc) hd (k o ad H locs ls h hl)
theorem V_ldc2 {M : Mi} {X : Cx} {Q : State → Prop} {pc : Nat} {L : List (Nat × Value)} {st : List Value} {w : Wd} {cs : Nat × Nat} {i : Nat} {v : Int64} (hc : Cond.constantLong M.1 i v ∈ tb) (hd : decode M.2.1 pc = .ok (.ldc2_w i, 3)) (k : V M X Q (pc + 3) L (.long v :: st) w cs) : V M X Q pc L st w cs := fun o ad H locs ls h hl => lv_ldc2 o.1 o.2.1 o.2.2.2.2.1 (o.2.2.2.2.2.1 _ hc) hd (k o ad H locs ls h hl)
theorem V_null {M : Mi} {X : Cx} {Q : State → Prop} {pc : Nat} {L : List (Nat × Value)} {st : List Value} {w : Wd} {cs : Nat × Nat} (hd : decode M.2.1 pc = .ok (.aconst_null, 1)) (k : V M X Q (pc + 1) L (.null :: st) w cs) : V M X Q pc L st w cs := fun o ad H locs ls h hl => lv_null o.1 o.2.1 hd (k o ad H locs ls h hl)
theorem V_iload_n {M : Mi} {X : Cx} {Q : State → Prop} {pc : Nat} {L : List (Nat × Value)} {st : List Value} {w : Wd} {cs : Nat × Nat} {k9 : Fin 4} {i : Nat} {x : Int32} (hd : decode M.2.1 pc = .ok (.iload_n k9, 1)) (hi : (k9 : Nat) = i) (hL : L.find? (fun q => q.1 == i) = some (i, .int x)) (k : V M X Q (pc + 1) L (.int x :: st) w cs) : V M X Q pc L st w cs := fun o ad H locs ls h hl => lv_iload_n o.1 o.2.1 hd hi (mL_get hL hl) (k o ad H locs ls h hl)
theorem V_iload {M : Mi} {X : Cx} {Q : State → Prop} {pc : Nat} {L : List (Nat × Value)} {st : List Value} {w : Wd} {cs : Nat × Nat} {i : Nat} {x : Int32} (hd : decode M.2.1 pc = .ok (.iload i, 2)) (hL : L.find? (fun q => q.1 == i) = some (i, .int x)) (k : V M X Q (pc + 2) L (.int x :: st) w cs) : V M X Q pc L st w cs := fun o ad H locs ls h hl => lv_iload o.1 o.2.1 hd (mL_get hL hl) (k o ad H locs ls h hl)
theorem V_istore_n {M : Mi} {X : Cx} {Q : State → Prop} {pc : Nat} {L : List (Nat × Value)} {st : List Value} {w : Wd} {cs : Nat × Nat} {k9 : Fin 4} {i : Nat} {x : Int32} {L' : List (Nat × Value)} (hd : decode M.2.1 pc = .ok (.istore_n k9, 1)) (hi : (k9 : Nat) = i) (hn : Nat.blt (i) M.2.2.1 = true) (hL : (i, .int x) :: L.filter (rm1 i) = L') (k : V M X Q (pc + 1) L' st w cs) : V M X Q pc L (.int x :: st) w cs := fun o ad H locs ls h hl => lv_istore_n o.1 o.2.1 hd hi hl (Nat.blt_eq.mp hn) ((mL_rm1 ad i (.int x) L).trans (congrArg (mL ad) hL)) (fun ls hl => k o ad H locs ls h hl)
theorem V_istore {M : Mi} {X : Cx} {Q : State → Prop} {pc : Nat} {L : List (Nat × Value)} {st : List Value} {w : Wd} {cs : Nat × Nat} {i : Nat} {x : Int32} {L' : List (Nat × Value)} (hd : decode M.2.1 pc = .ok (.istore i, 2)) (hn : Nat.blt (i) M.2.2.1 = true) (hL : (i, .int x) :: L.filter (rm1 i) = L') (k : V M X Q (pc + 2) L' st w cs) : V M X Q pc L (.int x :: st) w cs := fun o ad H locs ls h hl => lv_istore o.1 o.2.1 hd hl (Nat.blt_eq.mp hn) ((mL_rm1 ad i (.int x) L).trans (congrArg (mL ad) hL)) (fun ls hl => k o ad H locs ls h hl)
theorem V_lload_n {M : Mi} {X : Cx} {Q : State → Prop} {pc : Nat} {L : List (Nat × Value)} {st : List Value} {w : Wd} {cs : Nat × Nat} {k9 : Fin 4} {i : Nat} {x : Int64} (hd : decode M.2.1 pc = .ok (.lload_n k9, 1)) (hi : (k9 : Nat) = i) (hL : L.find? (fun q => q.1 == i) = some (i, .long x)) (k : V M X Q (pc + 1) L (.long x :: st) w cs) : V M X Q pc L st w cs := fun o ad H locs ls h hl => lv_lload_n o.1 o.2.1 hd hi (mL_get hL hl) (k o ad H locs ls h hl)
theorem V_lload {M : Mi} {X : Cx} {Q : State → Prop} {pc : Nat} {L : List (Nat × Value)} {st : List Value} {w : Wd} {cs : Nat × Nat} {i : Nat} {x : Int64} (hd : decode M.2.1 pc = .ok (.lload i, 2)) (hL : L.find? (fun q => q.1 == i) = some (i, .long x)) (k : V M X Q (pc + 2) L (.long x :: st) w cs) : V M X Q pc L st w cs := fun o ad H locs ls h hl => lv_lload o.1 o.2.1 hd (mL_get hL hl) (k o ad H locs ls h hl)
theorem V_lstore_n {M : Mi} {X : Cx} {Q : State → Prop} {pc : Nat} {L : List (Nat × Value)} {st : List Value} {w : Wd} {cs : Nat × Nat} {k9 : Fin 4} {i : Nat} {x : Int64} {L' : List (Nat × Value)} (hd : decode M.2.1 pc = .ok (.lstore_n k9, 1)) (hi : (k9 : Nat) = i) (hn : Nat.blt (i + 1) M.2.2.1 = true) (hL : (i, .long x) :: L.filter (rm2 i) = L') (k : V M X Q (pc + 1) L' st w cs) : V M X Q pc L (.long x :: st) w cs := fun o ad H locs ls h hl => lv_lstore_n o.1 o.2.1 hd hi hl (Nat.blt_eq.mp hn) ((mL_rm2 ad i (.long x) L).trans (congrArg (mL ad) hL)) (fun ls hl => k o ad H locs ls h hl)
theorem V_lstore {M : Mi} {X : Cx} {Q : State → Prop} {pc : Nat} {L : List (Nat × Value)} {st : List Value} {w : Wd} {cs : Nat × Nat} {i : Nat} {x : Int64} {L' : List (Nat × Value)} (hd : decode M.2.1 pc = .ok (.lstore i, 2)) (hn : Nat.blt (i + 1) M.2.2.1 = true) (hL : (i, .long x) :: L.filter (rm2 i) = L') (k : V M X Q (pc + 2) L' st w cs) : V M X Q pc L (.long x :: st) w cs := fun o ad H locs ls h hl => lv_lstore o.1 o.2.1 hd hl (Nat.blt_eq.mp hn) ((mL_rm2 ad i (.long x) L).trans (congrArg (mL ad) hL)) (fun ls hl => k o ad H locs ls h hl)
theorem V_aload_n {M : Mi} {X : Cx} {Q : State → Prop} {pc : Nat} {L : List (Nat × Value)} {st : List Value} {w : Wd} {cs : Nat × Nat} {k9 : Fin 4} {i : Nat} {x : Nat} (hd : decode M.2.1 pc = .ok (.aload_n k9, 1)) (hi : (k9 : Nat) = i) (hL : L.find? (fun q => q.1 == i) = some (i, .ref x)) (k : V M X Q (pc + 1) L (.ref x :: st) w cs) : V M X Q pc L st w cs := fun o ad H locs ls h hl => lv_aload_n o.1 o.2.1 hd hi (mL_get hL hl) (k o ad H locs ls h hl)
theorem V_aload {M : Mi} {X : Cx} {Q : State → Prop} {pc : Nat} {L : List (Nat × Value)} {st : List Value} {w : Wd} {cs : Nat × Nat} {i : Nat} {x : Nat} (hd : decode M.2.1 pc = .ok (.aload i, 2)) (hL : L.find? (fun q => q.1 == i) = some (i, .ref x)) (k : V M X Q (pc + 2) L (.ref x :: st) w cs) : V M X Q pc L st w cs := fun o ad H locs ls h hl => lv_aload o.1 o.2.1 hd (mL_get hL hl) (k o ad H locs ls h hl)
theorem V_astore_n {M : Mi} {X : Cx} {Q : State → Prop} {pc : Nat} {L : List (Nat × Value)} {st : List Value} {w : Wd} {cs : Nat × Nat} {k9 : Fin 4} {i : Nat} {x : Nat} {L' : List (Nat × Value)} (hd : decode M.2.1 pc = .ok (.astore_n k9, 1)) (hi : (k9 : Nat) = i) (hn : Nat.blt (i) M.2.2.1 = true) (hL : (i, .ref x) :: L.filter (rm1 i) = L') (k : V M X Q (pc + 1) L' st w cs) : V M X Q pc L (.ref x :: st) w cs := fun o ad H locs ls h hl => lv_astore_n o.1 o.2.1 hd hi hl (Nat.blt_eq.mp hn) ((mL_rm1 ad i (.ref x) L).trans (congrArg (mL ad) hL)) (fun ls hl => k o ad H locs ls h hl)
theorem V_astore {M : Mi} {X : Cx} {Q : State → Prop} {pc : Nat} {L : List (Nat × Value)} {st : List Value} {w : Wd} {cs : Nat × Nat} {i : Nat} {x : Nat} {L' : List (Nat × Value)} (hd : decode M.2.1 pc = .ok (.astore i, 2)) (hn : Nat.blt (i) M.2.2.1 = true) (hL : (i, .ref x) :: L.filter (rm1 i) = L') (k : V M X Q (pc + 2) L' st w cs) : V M X Q pc L (.ref x :: st) w cs := fun o ad H locs ls h hl => lv_astore o.1 o.2.1 hd hl (Nat.blt_eq.mp hn) ((mL_rm1 ad i (.ref x) L).trans (congrArg (mL ad) hL)) (fun ls hl => k o ad H locs ls h hl)
theorem V_aload_nN {M : Mi} {X : Cx} {Q : State → Prop} {pc : Nat} {L : List (Nat × Value)} {st : List Value} {w : Wd} {cs : Nat × Nat} {k9 : Fin 4} {i : Nat} (hd : decode M.2.1 pc = .ok (.aload_n k9, 1)) (hi : (k9 : Nat) = i) (hL : L.find? (fun q => q.1 == i) = some (i, .null)) (k : V M X Q (pc + 1) L (.null :: st) w cs) : V M X Q pc L st w cs := fun o ad H locs ls h hl => lv_aload_nN o.1 o.2.1 hd hi (mL_get hL hl) (k o ad H locs ls h hl)
theorem V_aloadN {M : Mi} {X : Cx} {Q : State → Prop} {pc : Nat} {L : List (Nat × Value)} {st : List Value} {w : Wd} {cs : Nat × Nat} {i : Nat} (hd : decode M.2.1 pc = .ok (.aload i, 2)) (hL : L.find? (fun q => q.1 == i) = some (i, .null)) (k : V M X Q (pc + 2) L (.null :: st) w cs) : V M X Q pc L st w cs := fun o ad H locs ls h hl => lv_aloadN o.1 o.2.1 hd (mL_get hL hl) (k o ad H locs ls h hl)
theorem V_astore_nN {M : Mi} {X : Cx} {Q : State → Prop} {pc : Nat} {L : List (Nat × Value)} {st : List Value} {w : Wd} {cs : Nat × Nat} {k9 : Fin 4} {i : Nat} {L' : List (Nat × Value)} (hd : decode M.2.1 pc = .ok (.astore_n k9, 1)) (hi : (k9 : Nat) = i) (hn : Nat.blt i M.2.2.1 = true) (hL : (i, .null) :: L.filter (rm1 i) = L') (k : V M X Q (pc + 1) L' st w cs) : V M X Q pc L (.null :: st) w cs := fun o ad H locs ls h hl => lv_astore_nN o.1 o.2.1 hd hi hl (Nat.blt_eq.mp hn) ((mL_rm1 ad i .null L).trans (congrArg (mL ad) hL)) (fun ls hl => k o ad H locs ls h hl)
theorem V_astoreN {M : Mi} {X : Cx} {Q : State → Prop} {pc : Nat} {L : List (Nat × Value)} {st : List Value} {w : Wd} {cs : Nat × Nat} {i : Nat} {L' : List (Nat × Value)} (hd : decode M.2.1 pc = .ok (.astore i, 2)) (hn : Nat.blt i M.2.2.1 = true) (hL : (i, .null) :: L.filter (rm1 i) = L') (k : V M X Q (pc + 2) L' st w cs) : V M X Q pc L (.null :: st) w cs := fun o ad H locs ls h hl => lv_astoreN o.1 o.2.1 hd hl (Nat.blt_eq.mp hn) ((mL_rm1 ad i .null L).trans (congrArg (mL ad) hL)) (fun ls hl => k o ad H locs ls h hl)
theorem V_iinc {M : Mi} {X : Cx} {Q : State → Prop} {pc : Nat} {L : List (Nat × Value)} {st : List Value} {w : Wd} {cs : Nat × Nat} {i : Nat} {n : Int} {x v : Int32} {L' : List (Nat × Value)} (hd : decode M.2.1 pc = .ok (.iinc i n, 3)) (h0 : L.find? (fun q => q.1 == i) = some (i, .int x)) (hv : x + Int32.ofInt n = v) (hn : Nat.blt i M.2.2.1 = true) (hL : (i, .int v) :: L.filter (rm1 i) = L') (k : V M X Q (pc + 3) L' st w cs) : V M X Q pc L st w cs := fun o ad H locs ls h hl => by
  have hm : (i, Value.int x) ∈ mL ad L := List.mem_map.mpr ⟨(i, .int x), List.mem_of_find?_eq_some h0, rfl⟩
  obtain ⟨j, hj⟩ := List.getElem?_of_mem hm
  exact lv_iinc o.1 o.2.1 hd hl (k := j) hj hv (Nat.blt_eq.mp hn) ((mL_rm1 ad i (.int v) L).trans (congrArg (mL ad) hL)) (fun ls hl => k o ad H locs ls h hl)
theorem V_iadd {M : Mi} {X : Cx} {Q : State → Prop} {pc : Nat} {L : List (Nat × Value)} {st : List Value} {w : Wd} {cs : Nat × Nat} {x y : Int32} (hd : decode M.2.1 pc = .ok (.iadd, 1)) (k : V M X Q (pc + 1) L (.int (x + y) :: st) w cs) : V M X Q pc L (.int y :: .int x :: st) w cs := fun o ad H locs ls h hl => lv_iadd o.1 o.2.1 hd (k o ad H locs ls h hl)
theorem V_isub {M : Mi} {X : Cx} {Q : State → Prop} {pc : Nat} {L : List (Nat × Value)} {st : List Value} {w : Wd} {cs : Nat × Nat} {x y : Int32} (hd : decode M.2.1 pc = .ok (.isub, 1)) (k : V M X Q (pc + 1) L (.int (x - y) :: st) w cs) : V M X Q pc L (.int y :: .int x :: st) w cs := fun o ad H locs ls h hl => lv_isub o.1 o.2.1 hd (k o ad H locs ls h hl)
theorem V_imul {M : Mi} {X : Cx} {Q : State → Prop} {pc : Nat} {L : List (Nat × Value)} {st : List Value} {w : Wd} {cs : Nat × Nat} {x y : Int32} (hd : decode M.2.1 pc = .ok (.imul, 1)) (k : V M X Q (pc + 1) L (.int (x * y) :: st) w cs) : V M X Q pc L (.int y :: .int x :: st) w cs := fun o ad H locs ls h hl => lv_imul o.1 o.2.1 hd (k o ad H locs ls h hl)
theorem V_iand {M : Mi} {X : Cx} {Q : State → Prop} {pc : Nat} {L : List (Nat × Value)} {st : List Value} {w : Wd} {cs : Nat × Nat} {x y : Int32} (hd : decode M.2.1 pc = .ok (.iand, 1)) (k : V M X Q (pc + 1) L (.int (x &&& y) :: st) w cs) : V M X Q pc L (.int y :: .int x :: st) w cs := fun o ad H locs ls h hl => lv_iand o.1 o.2.1 hd (k o ad H locs ls h hl)
theorem V_ishr {M : Mi} {X : Cx} {Q : State → Prop} {pc : Nat} {L : List (Nat × Value)} {st : List Value} {w : Wd} {cs : Nat × Nat} {x y : Int32} (hd : decode M.2.1 pc = .ok (.ishr, 1)) (k : V M X Q (pc + 1) L (.int (x >>> (y &&& 31)) :: st) w cs) : V M X Q pc L (.int y :: .int x :: st) w cs := fun o ad H locs ls h hl => lv_ishr o.1 o.2.1 hd (k o ad H locs ls h hl)
theorem V_idiv {M : Mi} {X : Cx} {Q : State → Prop} {pc : Nat} {L : List (Nat × Value)} {st : List Value} {w : Wd} {cs : Nat × Nat} {x y : Int32} (hd : decode M.2.1 pc = .ok (.idiv, 1)) (hne : ¬ y = 0) (k : V M X Q (pc + 1) L (.int (x / y) :: st) w cs) : V M X Q pc L (.int y :: .int x :: st) w cs := fun o ad H locs ls h hl => lv_idiv o.1 o.2.1 hd hne (k o ad H locs ls h hl)
theorem V_irem {M : Mi} {X : Cx} {Q : State → Prop} {pc : Nat} {L : List (Nat × Value)} {st : List Value} {w : Wd} {cs : Nat × Nat} {x y : Int32} (hd : decode M.2.1 pc = .ok (.irem, 1)) (hne : ¬ y = 0) (k : V M X Q (pc + 1) L (.int (x - x / y * y) :: st) w cs) : V M X Q pc L (.int y :: .int x :: st) w cs := fun o ad H locs ls h hl => lv_irem o.1 o.2.1 hd hne (k o ad H locs ls h hl)
theorem V_ineg {M : Mi} {X : Cx} {Q : State → Prop} {pc : Nat} {L : List (Nat × Value)} {st : List Value} {w : Wd} {cs : Nat × Nat} {x : Int32} (hd : decode M.2.1 pc = .ok (.ineg, 1)) (k : V M X Q (pc + 1) L (.int (-x) :: st) w cs) : V M X Q pc L (.int x :: st) w cs := fun o ad H locs ls h hl => lv_ineg o.1 o.2.1 hd (k o ad H locs ls h hl)
theorem V_ladd {M : Mi} {X : Cx} {Q : State → Prop} {pc : Nat} {L : List (Nat × Value)} {st : List Value} {w : Wd} {cs : Nat × Nat} {x y : Int64} (hd : decode M.2.1 pc = .ok (.ladd, 1)) (k : V M X Q (pc + 1) L (.long (x + y) :: st) w cs) : V M X Q pc L (.long y :: .long x :: st) w cs := fun o ad H locs ls h hl => lv_ladd o.1 o.2.1 hd (k o ad H locs ls h hl)
theorem V_lsub {M : Mi} {X : Cx} {Q : State → Prop} {pc : Nat} {L : List (Nat × Value)} {st : List Value} {w : Wd} {cs : Nat × Nat} {x y : Int64} (hd : decode M.2.1 pc = .ok (.lsub, 1)) (k : V M X Q (pc + 1) L (.long (x - y) :: st) w cs) : V M X Q pc L (.long y :: .long x :: st) w cs := fun o ad H locs ls h hl => lv_lsub o.1 o.2.1 hd (k o ad H locs ls h hl)
theorem V_lmul {M : Mi} {X : Cx} {Q : State → Prop} {pc : Nat} {L : List (Nat × Value)} {st : List Value} {w : Wd} {cs : Nat × Nat} {x y : Int64} (hd : decode M.2.1 pc = .ok (.lmul, 1)) (k : V M X Q (pc + 1) L (.long (x * y) :: st) w cs) : V M X Q pc L (.long y :: .long x :: st) w cs := fun o ad H locs ls h hl => lv_lmul o.1 o.2.1 hd (k o ad H locs ls h hl)
theorem V_land {M : Mi} {X : Cx} {Q : State → Prop} {pc : Nat} {L : List (Nat × Value)} {st : List Value} {w : Wd} {cs : Nat × Nat} {x y : Int64} (hd : decode M.2.1 pc = .ok (.land, 1)) (k : V M X Q (pc + 1) L (.long (x &&& y) :: st) w cs) : V M X Q pc L (.long y :: .long x :: st) w cs := fun o ad H locs ls h hl => lv_land o.1 o.2.1 hd (k o ad H locs ls h hl)
theorem V_lor {M : Mi} {X : Cx} {Q : State → Prop} {pc : Nat} {L : List (Nat × Value)} {st : List Value} {w : Wd} {cs : Nat × Nat} {x y : Int64} (hd : decode M.2.1 pc = .ok (.lor, 1)) (k : V M X Q (pc + 1) L (.long (x ||| y) :: st) w cs) : V M X Q pc L (.long y :: .long x :: st) w cs := fun o ad H locs ls h hl => lv_lor o.1 o.2.1 hd (k o ad H locs ls h hl)
theorem V_ldiv {M : Mi} {X : Cx} {Q : State → Prop} {pc : Nat} {L : List (Nat × Value)} {st : List Value} {w : Wd} {cs : Nat × Nat} {x y : Int64} (hd : decode M.2.1 pc = .ok (.ldiv, 1)) (hne : ¬ y = 0) (k : V M X Q (pc + 1) L (.long (x / y) :: st) w cs) : V M X Q pc L (.long y :: .long x :: st) w cs := fun o ad H locs ls h hl => lv_ldiv o.1 o.2.1 hd hne (k o ad H locs ls h hl)
theorem V_lshl {M : Mi} {X : Cx} {Q : State → Prop} {pc : Nat} {L : List (Nat × Value)} {st : List Value} {w : Wd} {cs : Nat × Nat} {x v : Int64} {y : Int32} (hd : decode M.2.1 pc = .ok (.lshl, 1)) (hv : x <<< (y.toInt64 &&& 63) = v) (k : V M X Q (pc + 1) L (.long v :: st) w cs) : V M X Q pc L (.int y :: .long x :: st) w cs := fun o ad H locs ls h hl => lv_lshl o.1 o.2.1 hd hv (k o ad H locs ls h hl)
theorem V_i2l {M : Mi} {X : Cx} {Q : State → Prop} {pc : Nat} {L : List (Nat × Value)} {st : List Value} {w : Wd} {cs : Nat × Nat} {x : Int32} (hd : decode M.2.1 pc = .ok (.i2l, 1)) (k : V M X Q (pc + 1) L (.long x.toInt64 :: st) w cs) : V M X Q pc L (.int x :: st) w cs := fun o ad H locs ls h hl => lv_i2l o.1 o.2.1 hd rfl (k o ad H locs ls h hl)
theorem V_i2b {M : Mi} {X : Cx} {Q : State → Prop} {pc : Nat} {L : List (Nat × Value)} {st : List Value} {w : Wd} {cs : Nat × Nat} {x : Int32} (hd : decode M.2.1 pc = .ok (.i2b, 1)) (k : V M X Q (pc + 1) L (.int x.toInt8.toInt32 :: st) w cs) : V M X Q pc L (.int x :: st) w cs := fun o ad H locs ls h hl => lv_i2b o.1 o.2.1 hd rfl (k o ad H locs ls h hl)
theorem V_i2s {M : Mi} {X : Cx} {Q : State → Prop} {pc : Nat} {L : List (Nat × Value)} {st : List Value} {w : Wd} {cs : Nat × Nat} {x : Int32} (hd : decode M.2.1 pc = .ok (.i2s, 1)) (k : V M X Q (pc + 1) L (.int x.toInt16.toInt32 :: st) w cs) : V M X Q pc L (.int x :: st) w cs := fun o ad H locs ls h hl => lv_i2s o.1 o.2.1 hd rfl (k o ad H locs ls h hl)
theorem V_lcmp {M : Mi} {X : Cx} {Q : State → Prop} {pc : Nat} {L : List (Nat × Value)} {st : List Value} {w : Wd} {cs : Nat × Nat} {x y : Int64} (hd : decode M.2.1 pc = .ok (.lcmp, 1)) (k : V M X Q (pc + 1) L (.int (lg_cmp x y) :: st) w cs) : V M X Q pc L (.long y :: .long x :: st) w cs := fun o ad H locs ls h hl => W.lcmp o.1 o.2.1 hd (k o ad H locs ls h hl)
theorem V_dup {M : Mi} {X : Cx} {Q : State → Prop} {pc : Nat} {L : List (Nat × Value)} {st : List Value} {w : Wd} {cs : Nat × Nat} {v : Value} (hd : decode M.2.1 pc = .ok (.dup, 1)) (hc : v.category = 1) (k : V M X Q (pc + 1) L (v :: v :: st) w cs) : V M X Q pc L (v :: st) w cs := fun o ad H locs ls h hl => lv_dup o.1 o.2.1 hd ((mv_cat ad v).trans hc) (k o ad H locs ls h hl)
theorem V_dup2 {M : Mi} {X : Cx} {Q : State → Prop} {pc : Nat} {L : List (Nat × Value)} {st : List Value} {w : Wd} {cs : Nat × Nat} {u v : Value} (hd : decode M.2.1 pc = .ok (.dup2, 1)) (hc : u.category = 1) (hc2 : v.category = 1) (k : V M X Q (pc + 1) L (u :: v :: u :: v :: st) w cs) : V M X Q pc L (u :: v :: st) w cs := fun o ad H locs ls h hl => lv_dup2_11 o.1 o.2.1 hd ((mv_cat ad u).trans hc) ((mv_cat ad v).trans hc2) (k o ad H locs ls h hl)
theorem V_if_eq {M : Mi} {X : Cx} {Q : State → Prop} {pc : Nat} {L : List (Nat × Value)} {st : List Value} {w : Wd} {cs : Nat × Nat} {x : Int32} {off : Int} {tgt : Nat} (hd : decode M.2.1 pc = .ok (.ifCond .eq off, 3)) (ht : (pc : Int) + off = (tgt : Int)) (kt : x = 0 → V M X Q tgt L st w cs) (kf : ¬ x = 0 → V M X Q (pc + 3) L st w cs) : V M X Q pc L (.int x :: st) w cs := fun o ad H locs ls h hl => lv_if_eq o.1 o.2.1 hd ht (fun c9 => kt c9 o ad H locs ls h hl) (fun c9 => kf c9 o ad H locs ls h hl)
theorem V_icmp_eq {M : Mi} {X : Cx} {Q : State → Prop} {pc : Nat} {L : List (Nat × Value)} {st : List Value} {w : Wd} {cs : Nat × Nat} {x y : Int32} {off : Int} {tgt : Nat} (hd : decode M.2.1 pc = .ok (.if_icmp .eq off, 3)) (ht : (pc : Int) + off = (tgt : Int)) (kt : x = y → V M X Q tgt L st w cs) (kf : ¬ x = y → V M X Q (pc + 3) L st w cs) : V M X Q pc L (.int y :: .int x :: st) w cs := fun o ad H locs ls h hl => lv_icmp_eq o.1 o.2.1 hd ht (fun c9 => kt c9 o ad H locs ls h hl) (fun c9 => kf c9 o ad H locs ls h hl)
theorem V_if_ne {M : Mi} {X : Cx} {Q : State → Prop} {pc : Nat} {L : List (Nat × Value)} {st : List Value} {w : Wd} {cs : Nat × Nat} {x : Int32} {off : Int} {tgt : Nat} (hd : decode M.2.1 pc = .ok (.ifCond .ne off, 3)) (ht : (pc : Int) + off = (tgt : Int)) (kt : ¬ x = 0 → V M X Q tgt L st w cs) (kf : x = 0 → V M X Q (pc + 3) L st w cs) : V M X Q pc L (.int x :: st) w cs := fun o ad H locs ls h hl => lv_if_ne o.1 o.2.1 hd ht (fun c9 => kt c9 o ad H locs ls h hl) (fun c9 => kf c9 o ad H locs ls h hl)
theorem V_icmp_ne {M : Mi} {X : Cx} {Q : State → Prop} {pc : Nat} {L : List (Nat × Value)} {st : List Value} {w : Wd} {cs : Nat × Nat} {x y : Int32} {off : Int} {tgt : Nat} (hd : decode M.2.1 pc = .ok (.if_icmp .ne off, 3)) (ht : (pc : Int) + off = (tgt : Int)) (kt : ¬ x = y → V M X Q tgt L st w cs) (kf : x = y → V M X Q (pc + 3) L st w cs) : V M X Q pc L (.int y :: .int x :: st) w cs := fun o ad H locs ls h hl => lv_icmp_ne o.1 o.2.1 hd ht (fun c9 => kt c9 o ad H locs ls h hl) (fun c9 => kf c9 o ad H locs ls h hl)
theorem V_if_lt {M : Mi} {X : Cx} {Q : State → Prop} {pc : Nat} {L : List (Nat × Value)} {st : List Value} {w : Wd} {cs : Nat × Nat} {x : Int32} {off : Int} {tgt : Nat} (hd : decode M.2.1 pc = .ok (.ifCond .lt off, 3)) (ht : (pc : Int) + off = (tgt : Int)) (kt : x < 0 → V M X Q tgt L st w cs) (kf : ¬ x < 0 → V M X Q (pc + 3) L st w cs) : V M X Q pc L (.int x :: st) w cs := fun o ad H locs ls h hl => lv_if_lt o.1 o.2.1 hd ht (fun c9 => kt c9 o ad H locs ls h hl) (fun c9 => kf c9 o ad H locs ls h hl)
theorem V_icmp_lt {M : Mi} {X : Cx} {Q : State → Prop} {pc : Nat} {L : List (Nat × Value)} {st : List Value} {w : Wd} {cs : Nat × Nat} {x y : Int32} {off : Int} {tgt : Nat} (hd : decode M.2.1 pc = .ok (.if_icmp .lt off, 3)) (ht : (pc : Int) + off = (tgt : Int)) (kt : x < y → V M X Q tgt L st w cs) (kf : ¬ x < y → V M X Q (pc + 3) L st w cs) : V M X Q pc L (.int y :: .int x :: st) w cs := fun o ad H locs ls h hl => lv_icmp_lt o.1 o.2.1 hd ht (fun c9 => kt c9 o ad H locs ls h hl) (fun c9 => kf c9 o ad H locs ls h hl)
theorem V_if_ge {M : Mi} {X : Cx} {Q : State → Prop} {pc : Nat} {L : List (Nat × Value)} {st : List Value} {w : Wd} {cs : Nat × Nat} {x : Int32} {off : Int} {tgt : Nat} (hd : decode M.2.1 pc = .ok (.ifCond .ge off, 3)) (ht : (pc : Int) + off = (tgt : Int)) (kt : 0 ≤ x → V M X Q tgt L st w cs) (kf : ¬ 0 ≤ x → V M X Q (pc + 3) L st w cs) : V M X Q pc L (.int x :: st) w cs := fun o ad H locs ls h hl => lv_if_ge o.1 o.2.1 hd ht (fun c9 => kt c9 o ad H locs ls h hl) (fun c9 => kf c9 o ad H locs ls h hl)
theorem V_icmp_ge {M : Mi} {X : Cx} {Q : State → Prop} {pc : Nat} {L : List (Nat × Value)} {st : List Value} {w : Wd} {cs : Nat × Nat} {x y : Int32} {off : Int} {tgt : Nat} (hd : decode M.2.1 pc = .ok (.if_icmp .ge off, 3)) (ht : (pc : Int) + off = (tgt : Int)) (kt : y ≤ x → V M X Q tgt L st w cs) (kf : ¬ y ≤ x → V M X Q (pc + 3) L st w cs) : V M X Q pc L (.int y :: .int x :: st) w cs := fun o ad H locs ls h hl => lv_icmp_ge o.1 o.2.1 hd ht (fun c9 => kt c9 o ad H locs ls h hl) (fun c9 => kf c9 o ad H locs ls h hl)
theorem V_if_gt {M : Mi} {X : Cx} {Q : State → Prop} {pc : Nat} {L : List (Nat × Value)} {st : List Value} {w : Wd} {cs : Nat × Nat} {x : Int32} {off : Int} {tgt : Nat} (hd : decode M.2.1 pc = .ok (.ifCond .gt off, 3)) (ht : (pc : Int) + off = (tgt : Int)) (kt : 0 < x → V M X Q tgt L st w cs) (kf : ¬ 0 < x → V M X Q (pc + 3) L st w cs) : V M X Q pc L (.int x :: st) w cs := fun o ad H locs ls h hl => lv_if_gt o.1 o.2.1 hd ht (fun c9 => kt c9 o ad H locs ls h hl) (fun c9 => kf c9 o ad H locs ls h hl)
theorem V_icmp_gt {M : Mi} {X : Cx} {Q : State → Prop} {pc : Nat} {L : List (Nat × Value)} {st : List Value} {w : Wd} {cs : Nat × Nat} {x y : Int32} {off : Int} {tgt : Nat} (hd : decode M.2.1 pc = .ok (.if_icmp .gt off, 3)) (ht : (pc : Int) + off = (tgt : Int)) (kt : y < x → V M X Q tgt L st w cs) (kf : ¬ y < x → V M X Q (pc + 3) L st w cs) : V M X Q pc L (.int y :: .int x :: st) w cs := fun o ad H locs ls h hl => lv_icmp_gt o.1 o.2.1 hd ht (fun c9 => kt c9 o ad H locs ls h hl) (fun c9 => kf c9 o ad H locs ls h hl)
theorem V_if_le {M : Mi} {X : Cx} {Q : State → Prop} {pc : Nat} {L : List (Nat × Value)} {st : List Value} {w : Wd} {cs : Nat × Nat} {x : Int32} {off : Int} {tgt : Nat} (hd : decode M.2.1 pc = .ok (.ifCond .le off, 3)) (ht : (pc : Int) + off = (tgt : Int)) (kt : x ≤ 0 → V M X Q tgt L st w cs) (kf : ¬ x ≤ 0 → V M X Q (pc + 3) L st w cs) : V M X Q pc L (.int x :: st) w cs := fun o ad H locs ls h hl => lv_if_le o.1 o.2.1 hd ht (fun c9 => kt c9 o ad H locs ls h hl) (fun c9 => kf c9 o ad H locs ls h hl)
theorem V_icmp_le {M : Mi} {X : Cx} {Q : State → Prop} {pc : Nat} {L : List (Nat × Value)} {st : List Value} {w : Wd} {cs : Nat × Nat} {x y : Int32} {off : Int} {tgt : Nat} (hd : decode M.2.1 pc = .ok (.if_icmp .le off, 3)) (ht : (pc : Int) + off = (tgt : Int)) (kt : x ≤ y → V M X Q tgt L st w cs) (kf : ¬ x ≤ y → V M X Q (pc + 3) L st w cs) : V M X Q pc L (.int y :: .int x :: st) w cs := fun o ad H locs ls h hl => lv_icmp_le o.1 o.2.1 hd ht (fun c9 => kt c9 o ad H locs ls h hl) (fun c9 => kf c9 o ad H locs ls h hl)
theorem V_goto {M : Mi} {X : Cx} {Q : State → Prop} {pc : Nat} {L : List (Nat × Value)} {st : List Value} {w : Wd} {cs : Nat × Nat} {off : Int} {tgt : Nat} (hd : decode M.2.1 pc = .ok (.goto off, 3)) (ht : (pc : Int) + off = (tgt : Int)) (k : V M X Q tgt L st w cs) : V M X Q pc L st w cs := fun o ad H locs ls h hl => lv_goto o.1 o.2.1 hd ht (k o ad H locs ls h hl)
theorem V_ifnull {M : Mi} {X : Cx} {Q : State → Prop} {pc : Nat} {L : List (Nat × Value)} {st : List Value} {w : Wd} {cs : Nat × Nat} {x : Nat} {off : Int} (hd : decode M.2.1 pc = .ok (.ifnull off, 3)) (k : V M X Q (pc + 3) L st w cs) : V M X Q pc L (.ref x :: st) w cs := fun o ad H locs ls h hl => lv_ifnull o.1 o.2.1 hd (k o ad H locs ls h hl)
theorem V_ifnonnull {M : Mi} {X : Cx} {Q : State → Prop} {pc : Nat} {L : List (Nat × Value)} {st : List Value} {w : Wd} {cs : Nat × Nat} {x : Nat} {off : Int} {tgt : Nat} (hd : decode M.2.1 pc = .ok (.ifnonnull off, 3)) (ht : (pc : Int) + off = (tgt : Int)) (k : V M X Q tgt L st w cs) : V M X Q pc L (.ref x :: st) w cs := fun o ad H locs ls h hl => lv_ifnonnull o.1 o.2.1 hd ht (k o ad H locs ls h hl)
theorem V_ifnullN {M : Mi} {X : Cx} {Q : State → Prop} {pc : Nat} {L : List (Nat × Value)} {st : List Value} {w : Wd} {cs : Nat × Nat} {off : Int} {tgt : Nat} (hd : decode M.2.1 pc = .ok (.ifnull off, 3)) (ht : (pc : Int) + off = (tgt : Int)) (k : V M X Q tgt L st w cs) : V M X Q pc L (.null :: st) w cs := fun o ad H locs ls h hl => lv_ifnullN o.1 o.2.1 hd ht (k o ad H locs ls h hl)
theorem V_ifnonnullN {M : Mi} {X : Cx} {Q : State → Prop} {pc : Nat} {L : List (Nat × Value)} {st : List Value} {w : Wd} {cs : Nat × Nat} {off : Int} (hd : decode M.2.1 pc = .ok (.ifnonnull off, 3)) (k : V M X Q (pc + 3) L st w cs) : V M X Q pc L (.null :: st) w cs := fun o ad H locs ls h hl => lv_ifnonnullN o.1 o.2.1 hd (k o ad H locs ls h hl)
theorem V_tableIn {M : Mi} {X : Cx} {Q : State → Prop} {pc : Nat} {L : List (Nat × Value)} {st : List Value} {w : Wd} {cs : Nat × Nat} {dflt lo hi : Int} {offs : Array Int} {len : Nat} {x : Int32} {off : Int} {tgt : Nat} (hd : decode M.2.1 pc = .ok (.tableswitch dflt lo hi offs, len)) (h1 : ¬ x.toInt < lo) (h2 : ¬ hi < x.toInt) (ho : offs[(x.toInt - lo).toNat]? = some off) (ht : (pc : Int) + off = (tgt : Int)) (k : V M X Q tgt L st w cs) : V M X Q pc L (.int x :: st) w cs := fun o ad H locs ls h hl => lv_tableIn o.1 o.2.1 hd h1 h2 ho ht (k o ad H locs ls h hl)
theorem V_tableOut {M : Mi} {X : Cx} {Q : State → Prop} {pc : Nat} {L : List (Nat × Value)} {st : List Value} {w : Wd} {cs : Nat × Nat} {dflt lo hi : Int} {offs : Array Int} {len : Nat} {x : Int32} {tgt : Nat} (hd : decode M.2.1 pc = .ok (.tableswitch dflt lo hi offs, len)) (h0 : x.toInt < lo ∨ hi < x.toInt) (ht : (pc : Int) + dflt = (tgt : Int)) (k : V M X Q tgt L st w cs) : V M X Q pc L (.int x :: st) w cs := fun o ad H locs ls h hl => lv_tableOut o.1 o.2.1 hd h0 ht (k o ad H locs ls h hl)
theorem V_sub {M : Mi} {X : Cx} {Q : State → Prop} {pc : Nat} {L : List (Nat × Value)} {st : List Value} {w : Wd} {cs : Nat × Nat} {L' : List (Nat × Value)} (hL : L'.map (fun q => L.find? (fun r => r.1 == q.1)) = L'.map some) (k : V M X Q pc L' st w cs) : V M X Q pc L st w cs := fun o ad H locs ls h hl => by
  refine k o ad H locs ls h ⟨hl.1, hl.2.1, fun q hq => ?_⟩
  obtain ⟨r, hr, rfl⟩ := List.mem_map.mp hq
  obtain ⟨j, hj⟩ := List.getElem?_of_mem hr
  have h1 := congrArg (fun l => l[j]?) hL
  simp only [List.getElem?_map, hj, Option.map_some, Option.some.injEq] at h1
  exact hl.2.2 _ (List.mem_map.mpr ⟨r, List.mem_of_find?_eq_some h1, rfl⟩)
theorem V_world {M : Mi} {X : Cx} {Q : State → Prop} {pc : Nat} {L : List (Nat × Value)} {st : List Value} {w : Wd} {cs : Nat × Nat} {w' : Wd} (e : w = w') (k : V M X Q pc L st w' cs) : V M X Q pc L st w cs := e ▸ k
theorem V_namew {M : Mi} {X : Cx} {Q : State → Prop} {pc : Nat} {L : List (Nat × Value)} {st : List Value} {w : Wd} {cs : Nat × Nat} (k : ∀ w', w' = w → V M X Q pc L st w' cs) : V M X Q pc L st w cs := k w rfl
theorem V_topi {M : Mi} {X : Cx} {Q : State → Prop} {pc : Nat} {L : List (Nat × Value)} {st : List Value} {w : Wd} {cs : Nat × Nat} {x : Int32} (k : ∀ y : Int32, y = x → V M X Q pc L (.int y :: st) w cs) : V M X Q pc L (.int x :: st) w cs := k x rfl
theorem V_topl {M : Mi} {X : Cx} {Q : State → Prop} {pc : Nat} {L : List (Nat × Value)} {st : List Value} {w : Wd} {cs : Nat × Nat} {x : Int64} (k : ∀ y : Int64, y = x → V M X Q pc L (.long y :: st) w cs) : V M X Q pc L (.long x :: st) w cs := k x rfl
theorem V_seti {M : Mi} {X : Cx} {Q : State → Prop} {pc : Nat} {L : List (Nat × Value)} {st : List Value} {w : Wd} {cs : Nat × Nat} {x y : Int32} (e : x = y) (k : V M X Q pc L (.int y :: st) w cs) : V M X Q pc L (.int x :: st) w cs := e ▸ k
theorem V_setl {M : Mi} {X : Cx} {Q : State → Prop} {pc : Nat} {L : List (Nat × Value)} {st : List Value} {w : Wd} {cs : Nat × Nat} {x y : Int64} (e : x = y) (k : V M X Q pc L (.long y :: st) w cs) : V M X Q pc L (.long x :: st) w cs := e ▸ k
end
section
/-! rows of V that read and write the world -/
def FL (own : String) (idx ci k tag : Nat) : Prop := ci < 9 ∧ (fts ci)[k]? = some tag ∧ ∃ (C : String) (T : u_T) (N : Nat), vwCl[ci]? = some (C, T, N) ∧ k < N ∧ Cond.fieldLink own idx (T k).1 (T k).2.1 (T k).2.2.1 ∈ tb ∧ ∀ w ∈ u_ws C T N, w ∈ tb
def PF (own : String) (idx ci k tag : Nat) (ty : FieldType) (fin : Bool) : Prop := ci < 9 ∧ (fts ci)[k]? = some tag ∧ ∃ (C : String) (T : u_T) (N : Nat) (ty0 : Nat → FieldType), vwCl[ci]? = some (C, T, N) ∧ k < N ∧ Cond.fieldLink own idx (T k).1 (T k).2.1 (T k).2.2.1 ∈ tb ∧ (∀ w ∈ u_ws C T N, w ∈ tb) ∧ (∀ k, k < N → parseFieldDescriptor (T k).2.2.1 = some (ty0 k)) ∧ (∀ a, a < N → ∀ b, b < N → a ≠ b → (T a).2.1 ≠ (T b).2.1) ∧ (T k).2.2.2 = fin ∧ parseFieldDescriptor (T k).2.2.1 = some ty ∧ (fin = true → (T k).1 = own)
theorem en_congr {cy : Nat → ClassId} {ad : Nat → Nat} {w w' : Wd} {m : Nat} (h1 : wK w' m = wK w m) (h2 : wN w' m = wN w m) (h3 : wI w' m = wI w m) (h4 : wJ w' m = wJ w m) (h5 : wR w' m = wR w m) : en cy ad w' m = en cy ad w m := by
  unfold en fl fv
  rw [h1, h2, h3, h4, h5]
theorem sI_ne (w : Wd) {n k m : Nat} (x : Int32) (h : m ≠ n) : wI (sI w n k x) m = wI w m := funext fun j => up2_nn _ x h
theorem sJ_ne (w : Wd) {n k m : Nat} (x : Int64) (h : m ≠ n) : wJ (sJ w n k x) m = wJ w m := funext fun j => up2_nn _ x h
theorem sR_ne (w : Wd) {n k m : Nat} (x : Option Nat) (h : m ≠ n) : wR (sR w n k x) m = wR w m := funext fun j => up2_nn _ x h
theorem fv_sI {ad : Nat → Nat} {w : Wd} {n k j : Nat} {x : Int32} (t : Nat) (h : j ≠ k) : fv t ad (sI w n k x) n j = fv t ad w n j := by
  unfold fv
  rw [show wI (sI w n k x) n j = wI w n j from up2_ne _ x (fun q => h q.2)]
  rfl
theorem fv_sJ {ad : Nat → Nat} {w : Wd} {n k j : Nat} {x : Int64} (t : Nat) (h : j ≠ k) : fv t ad (sJ w n k x) n j = fv t ad w n j := by
  unfold fv
  rw [show wJ (sJ w n k x) n j = wJ w n j from up2_ne _ x (fun q => h q.2)]
  rfl
theorem fv_sR {ad : Nat → Nat} {w : Wd} {n k j : Nat} {x : Option Nat} (t : Nat) (h : j ≠ k) : fv t ad (sR w n k x) n j = fv t ad w n j := by
  unfold fv
  rw [show wR (sR w n k x) n j = wR w n j from up2_ne _ x (fun q => h q.2)]
  rfl
theorem dom {w : Wd} (h : Wok w) {n k : Nat} (hk : wK w n = k + 1) : n ∈ wL w := h.2.1 n (by omega)
section
variable {M : Mi} {X : Cx} {Q : State → Prop} {pc : Nat} {L : List (Nat × Value)} {st : List Value} {w : Wd} {cs : Nat × Nat}
theorem V_get {n ci k idx tag : Nat} {v : Value} (hK : wK w n = ci + 1) (hf : FL M.1 idx ci k tag) (hd : decode M.2.1 pc = .ok (.getfield idx, 3)) (hv : ∀ ad, fv tag ad w n k = mv ad v) (kk : V M X Q (pc + 3) L (v :: st) w cs) : V M X Q pc L (.ref n :: st) w cs := fun o ad H locs ls h hl => by
  obtain ⟨hc, ht, C, T, N, h1, h2, h3, h4⟩ := hf
  obtain ⟨q0, -, hq⟩ := pl_get (cy := xcy X) (ad := ad) (dom h.1 hK)
  rw [en_o hK hc] at hq
  exact va_get (D := xD X) (ci := ci) (C := C) (T := T) (N := N) o.1 o.2.1 (fun w hw => o.2.2.2.2.2.1 w hw) h4 o.2.2.2.2.1 o.2.2.2.2.2.2.2.1.1 h.2.1 q0 hq h1 k h2 (o.2.2.2.2.2.1 _ h3) (fun _ h9 => h9) ((fl_at ht).trans (congrArg some (hv ad))) hd (kk o ad H locs ls h hl)
theorem V_geti {n ci k idx : Nat} (hK : wK w n = ci + 1) (hf : FL M.1 idx ci k 0) (hd : decode M.2.1 pc = .ok (.getfield idx, 3)) (kk : V M X Q (pc + 3) L (.int (wI w n k) :: st) w cs) : V M X Q pc L (.ref n :: st) w cs := V_get hK hf hd (fun _ => rfl) kk
theorem V_getl {n ci k idx : Nat} (hK : wK w n = ci + 1) (hf : FL M.1 idx ci k 1) (hd : decode M.2.1 pc = .ok (.getfield idx, 3)) (kk : V M X Q (pc + 3) L (.long (wJ w n k) :: st) w cs) : V M X Q pc L (.ref n :: st) w cs := V_get hK hf hd (fun _ => rfl) kk
theorem V_getr {n ci k idx b : Nat} (hK : wK w n = ci + 1) (hf : FL M.1 idx ci k 2) (hd : decode M.2.1 pc = .ok (.getfield idx, 3)) (hb : wR w n k = some b) (kk : V M X Q (pc + 3) L (.ref b :: st) w cs) : V M X Q pc L (.ref n :: st) w cs := V_get hK hf hd (fun ad => by simp [fv, hb, va_rf, mv]) kk
theorem V_getrN {n ci k idx : Nat} (hK : wK w n = ci + 1) (hf : FL M.1 idx ci k 2) (hd : decode M.2.1 pc = .ok (.getfield idx, 3)) (hb : wR w n k = none) (kk : V M X Q (pc + 3) L (.null :: st) w cs) : V M X Q pc L (.ref n :: st) w cs := V_get hK hf hd (fun ad => by simp [fv, hb, va_rf, mv]) kk
theorem V_put {n ci k idx tag : Nat} {ty : FieldType} {fin : Bool} {v : Value} {w' : Wd} (hK : wK w n = ci + 1) (hf : PF M.1 idx ci k tag ty fin) (hi : fin = true → M.2.2.2.2.2.1 = "<init>") (hd : decode M.2.1 pc = .ok (.putfield idx, 3)) (hn : ∀ ad, narrow ty (mv ad v) = mv ad v ∧ fits ty (mv ad v) = true)
    (hw1 : wK w' = wK w) (hw2 : wL w' = wL w) (hv : ∀ ad, fv tag ad w' n k = mv ad v) (ho : ∀ ad j t, j ≠ k → fv t ad w' n j = fv t ad w n j) (hm : ∀ cy ad m, m ≠ n → en cy ad w' m = en cy ad w m)
    (kk : V M X Q (pc + 3) L st w' cs) : V M X Q pc L (v :: .ref n :: st) w cs := fun o ad H locs ls h hl => by
  obtain ⟨hc, ht, C, T, N, ty0, h1, h2, h3, h4, h5, h6, h7, h8, h9⟩ := hf
  obtain ⟨q0, hq0, hq⟩ := pl_get (cy := xcy X) (ad := ad) (dom h.1 hK)
  have e : (pl (xcy X) ad w).set q0 (ad n, .inr (ci, (fl ci ad w n).set k (mv ad v))) = pl (xcy X) ad w' := pl_set h.1 hq0 hw2 (by rw [fl_set ht (hv ad) (ho ad)]; exact en_o (by rw [hw1]; exact hK) hc) (hm (xcy X) ad)
  rw [en_o hK hc] at hq
  have hwok : Wok w' := by unfold Wok; rw [hw1, hw2]; exact h.1
  have hlen : k < (fl ci ad w n).length := by rw [fl_len]; exact (List.getElem?_eq_some_iff.mp ht).1
  cases fin with
  | false => exact va_put (D := xD X) (ci := ci) (C := C) (T := T) (N := N) o.1 o.2.1 (fun w hw => o.2.2.2.2.2.1 w hw) h4 ty0 h5 h6 o.2.2.2.2.1 o.2.2.2.2.2.2.2.1.1 h.2.1 h.2.2.1 h.2.2.2.1 q0 hq h1 k h2 (o.2.2.2.2.2.1 _ h3) (fun _ h9 => h9) h7 h8 (hn ad).1 (hn ad).2 hlen hd (fun H1 locs1 hP hD hS => kk o ad H1 locs1 ls ⟨hwok, e ▸ hP, e ▸ hD, hS, ⟨h.2.2.2.2.1.1, fun m hm => by rw [hw2]; exact h.2.2.2.2.1.2 m hm⟩, h.2.2.2.2.2⟩ hl)
  | true => exact va_putF (D := xD X) (ci := ci) (C := C) (T := T) (N := N) o.1 o.2.1 (fun w hw => o.2.2.2.2.2.1 w hw) h4 ty0 h5 h6 o.2.2.2.2.1 o.2.2.2.2.2.2.2.1.1 h.2.1 h.2.2.1 h.2.2.2.1 q0 hq h1 k h2 (o.2.2.2.2.2.1 _ h3) (fun _ h9 => h9) h7 (o.2.2.2.2.2.2.2.2.2.1.trans (hi rfl)) (h9 rfl) h8 (hn ad).1 (hn ad).2 hlen hd (fun H1 locs1 hP hD hS => kk o ad H1 locs1 ls ⟨hwok, e ▸ hP, e ▸ hD, hS, ⟨h.2.2.2.2.1.1, fun m hm => by rw [hw2]; exact h.2.2.2.2.1.2 m hm⟩, h.2.2.2.2.2⟩ hl)
theorem V_puti {n ci k idx : Nat} {ty : FieldType} {fin : Bool} {x : Int32} (hK : wK w n = ci + 1) (hf : PF M.1 idx ci k 0 ty fin) (hi : fin = true → M.2.2.2.2.2.1 = "<init>") (hd : decode M.2.1 pc = .ok (.putfield idx, 3)) (hn : narrow ty (.int x) = .int x ∧ fits ty (.int x) = true) (kk : V M X Q (pc + 3) L st (sI w n k x) cs) : V M X Q pc L (.int x :: .ref n :: st) w cs :=
  V_put (w' := sI w n k x) hK hf hi hd (fun _ => hn) rfl rfl (fun ad => by show Value.int (up2 _ _ _ _ _ _) = _; rw [up2_self]; rfl) (fun ad j t hj => fv_sI t hj) (fun cy ad m hm => en_congr rfl rfl (sI_ne w x hm) rfl rfl) kk
theorem V_putl {n ci k idx : Nat} {fin : Bool} {x : Int64} (hK : wK w n = ci + 1) (hf : PF M.1 idx ci k 1 .long fin) (hi : fin = true → M.2.2.2.2.2.1 = "<init>") (hd : decode M.2.1 pc = .ok (.putfield idx, 3)) (kk : V M X Q (pc + 3) L st (sJ w n k x) cs) : V M X Q pc L (.long x :: .ref n :: st) w cs :=
  V_put (w' := sJ w n k x) hK hf hi hd (fun _ => ⟨rfl, rfl⟩) rfl rfl (fun ad => by show Value.long (up2 _ _ _ _ _ _) = _; rw [up2_self]; rfl) (fun ad j t hj => fv_sJ t hj) (fun cy ad m hm => en_congr rfl rfl rfl (sJ_ne w x hm) rfl) kk
theorem V_putr {n ci k idx b : Nat} {ty : FieldType} {fin : Bool} (hK : wK w n = ci + 1) (hf : PF M.1 idx ci k 2 ty fin) (hi : fin = true → M.2.2.2.2.2.1 = "<init>") (hd : decode M.2.1 pc = .ok (.putfield idx, 3)) (hn : ∀ a, narrow ty (.ref a) = .ref a ∧ fits ty (.ref a) = true) (kk : V M X Q (pc + 3) L st (sR w n k (some b)) cs) : V M X Q pc L (.ref b :: .ref n :: st) w cs :=
  V_put (w' := sR w n k (some b)) hK hf hi hd (fun ad => hn (ad b)) rfl rfl (fun ad => by show va_rf (Option.map ad (up2 _ _ _ _ _ _)) = _; rw [up2_self]; rfl) (fun ad j t hj => fv_sR t hj) (fun cy ad m hm => en_congr rfl rfl rfl rfl (sR_ne w _ hm)) kk
theorem V_putrN {n ci k idx : Nat} {ty : FieldType} {fin : Bool} (hK : wK w n = ci + 1) (hf : PF M.1 idx ci k 2 ty fin) (hi : fin = true → M.2.2.2.2.2.1 = "<init>") (hd : decode M.2.1 pc = .ok (.putfield idx, 3)) (hn : narrow ty .null = .null ∧ fits ty .null = true) (kk : V M X Q (pc + 3) L st (sR w n k none) cs) : V M X Q pc L (.null :: .ref n :: st) w cs :=
  V_put (w' := sR w n k none) hK hf hi hd (fun ad => hn) rfl rfl (fun ad => by show va_rf (Option.map ad (up2 _ _ _ _ _ _)) = _; rw [up2_self]; rfl) (fun ad j t hj => fv_sR t hj) (fun cy ad m hm => en_congr rfl rfl rfl rfl (sR_ne w _ hm)) kk
theorem V_iald {n : Nat} {i : Int32} (hK : wK w n = 11) (hin : vp_in i (wN w n)) (hd : decode M.2.1 pc = .ok (.iaload, 1)) (kk : V M X Q (pc + 1) L (.int (wI w n i.toNatClampNeg) :: st) w cs) : V M X Q pc L (.int i :: .ref n :: st) w cs := fun o ad H locs ls h hl => by
  obtain ⟨q0, -, hq⟩ := pl_get (cy := xcy X) (ad := ad) (dom h.1 (k := 10) hK)
  rw [show en (xcy X) ad w n = .inl (xcy X 0, wN w n, .inl (wI w n)) by simp only [en, hK]] at hq
  exact va_iald o.1 o.2.1 o.2.2.2.2.2.2.2.1.1 h.2.1 q0 0 hq rfl hin hd (kk o ad H locs ls h hl)
theorem V_zald {n : Nat} {i : Int32} (hK : wK w n = 13) (hin : vp_in i (wN w n)) (hd : decode M.2.1 pc = .ok (.baload, 1)) (kk : V M X Q (pc + 1) L (.int (wI w n i.toNatClampNeg) :: st) w cs) : V M X Q pc L (.int i :: .ref n :: st) w cs := fun o ad H locs ls h hl => by
  obtain ⟨q0, -, hq⟩ := pl_get (cy := xcy X) (ad := ad) (dom h.1 (k := 12) hK)
  rw [show en (xcy X) ad w n = .inl (xcy X 2, wN w n, .inl (wI w n)) by simp only [en, hK]] at hq
  exact va_zald o.1 o.2.1 o.2.2.2.2.2.2.2.1.1 h.2.1 q0 2 hq rfl hin hd (kk o ad H locs ls h hl)
theorem V_lald {n : Nat} {i : Int32} (hK : wK w n = 12) (hin : vp_in i (wN w n)) (hd : decode M.2.1 pc = .ok (.laload, 1)) (kk : V M X Q (pc + 1) L (.long (wJ w n i.toNatClampNeg) :: st) w cs) : V M X Q pc L (.int i :: .ref n :: st) w cs := fun o ad H locs ls h hl => by
  obtain ⟨q0, -, hq⟩ := pl_get (cy := xcy X) (ad := ad) (dom h.1 (k := 11) hK)
  rw [show en (xcy X) ad w n = .inl (xcy X 1, wN w n, .inr (.inl (wJ w n))) by simp only [en, hK]] at hq
  exact va_lald o.1 o.2.1 o.2.2.2.2.2.2.2.1.1 h.2.1 q0 1 hq rfl hin hd (kk o ad H locs ls h hl)
theorem V_alen {n : Nat} {v : Int32} (hK : wK w n = 11) (hv : Int32.ofNat (wN w n) = v) (hd : decode M.2.1 pc = .ok (.arraylength, 1)) (kk : V M X Q (pc + 1) L (.int v :: st) w cs) : V M X Q pc L (.ref n :: st) w cs := fun o ad H locs ls h hl => by
  obtain ⟨q0, -, hq⟩ := pl_get (cy := xcy X) (ad := ad) (dom h.1 (k := 10) hK)
  rw [show en (xcy X) ad w n = .inl (xcy X 0, wN w n, .inl (wI w n)) by simp only [en, hK]] at hq
  exact va_alen o.1 o.2.1 o.2.2.2.2.2.2.2.1.1 h.2.1 q0 0 hq rfl hv hd (kk o ad H locs ls h hl)
theorem sI_row (w : Wd) (n k : Nat) (x : Int32) : wI (sI w n k x) n = upd (wI w n) k x := funext fun j => by
  show (if n = n ∧ j = k then x else wI w n j) = _
  unfold upd
  simp
theorem sJ_row (w : Wd) (n k : Nat) (x : Int64) : wJ (sJ w n k x) n = vp_updL (wJ w n) k x := funext fun j => by
  show (if n = n ∧ j = k then x else wJ w n j) = _
  unfold vp_updL
  simp
theorem V_iast {n : Nat} {i x : Int32} (hK : wK w n = 11) (hin : vp_in i (wN w n)) (hd : decode M.2.1 pc = .ok (.iastore, 1)) (kk : V M X Q (pc + 1) L st (sI w n i.toNatClampNeg x) cs) : V M X Q pc L (.int x :: .int i :: .ref n :: st) w cs := fun o ad H locs ls h hl => by
  obtain ⟨q0, hq0, hq⟩ := pl_get (cy := xcy X) (ad := ad) (dom h.1 (k := 10) hK)
  rw [show en (xcy X) ad w n = .inl (xcy X 0, wN w n, .inl (wI w n)) by simp only [en, hK]] at hq
  have e : (pl (xcy X) ad w).set q0 (ad n, .inl (xcy X 0, wN w n, .inl (upd (wI w n) i.toNatClampNeg x))) = pl (xcy X) ad (sI w n i.toNatClampNeg x) := pl_set h.1 hq0 rfl (by
    have hK2 : wK (sI w n i.toNatClampNeg x) n = 11 := hK
    simp only [en, hK2, sI_row]
    rfl) (fun m hm => en_congr rfl rfl (sI_ne w x hm) rfl rfl)
  exact va_iast o.1 o.2.1 o.2.2.2.2.2.2.2.1.1 h.2.1 h.2.2.1 h.2.2.2.1 q0 0 hq rfl hin hd (fun H1 locs1 hP hD hS => kk o ad H1 locs1 ls ⟨h.1, e ▸ hP, e ▸ hD, hS, h.2.2.2.2⟩ hl)
theorem V_zast {n : Nat} {i x : Int32} (hK : wK w n = 13) (hin : vp_in i (wN w n)) (hx : vp_nar .boolean x = x) (hd : decode M.2.1 pc = .ok (.bastore, 1)) (kk : V M X Q (pc + 1) L st (sI w n i.toNatClampNeg x) cs) : V M X Q pc L (.int x :: .int i :: .ref n :: st) w cs := fun o ad H locs ls h hl => by
  obtain ⟨q0, hq0, hq⟩ := pl_get (cy := xcy X) (ad := ad) (dom h.1 (k := 12) hK)
  rw [show en (xcy X) ad w n = .inl (xcy X 2, wN w n, .inl (wI w n)) by simp only [en, hK]] at hq
  have e : (pl (xcy X) ad w).set q0 (ad n, .inl (xcy X 2, wN w n, .inl (upd (wI w n) i.toNatClampNeg (vp_nar .boolean x)))) = pl (xcy X) ad (sI w n i.toNatClampNeg x) := pl_set h.1 hq0 rfl (by
    have hK2 : wK (sI w n i.toNatClampNeg x) n = 13 := hK
    simp only [en, hK2, sI_row, hx]
    rfl) (fun m hm => en_congr rfl rfl (sI_ne w x hm) rfl rfl)
  exact va_zast o.1 o.2.1 o.2.2.2.2.2.2.2.1.1 h.2.1 h.2.2.1 h.2.2.2.1 q0 2 hq rfl hin hd (fun H1 locs1 hP hD hS => kk o ad H1 locs1 ls ⟨h.1, e ▸ hP, e ▸ hD, hS, h.2.2.2.2⟩ hl)
theorem V_last {n : Nat} {i : Int32} {x : Int64} (hK : wK w n = 12) (hin : vp_in i (wN w n)) (hd : decode M.2.1 pc = .ok (.lastore, 1)) (kk : V M X Q (pc + 1) L st (sJ w n i.toNatClampNeg x) cs) : V M X Q pc L (.long x :: .int i :: .ref n :: st) w cs := fun o ad H locs ls h hl => by
  obtain ⟨q0, hq0, hq⟩ := pl_get (cy := xcy X) (ad := ad) (dom h.1 (k := 11) hK)
  rw [show en (xcy X) ad w n = .inl (xcy X 1, wN w n, .inr (.inl (wJ w n))) by simp only [en, hK]] at hq
  have e : (pl (xcy X) ad w).set q0 (ad n, .inl (xcy X 1, wN w n, .inr (.inl (vp_updL (wJ w n) i.toNatClampNeg x)))) = pl (xcy X) ad (sJ w n i.toNatClampNeg x) := pl_set h.1 hq0 rfl (by
    have hK2 : wK (sJ w n i.toNatClampNeg x) n = 12 := hK
    simp only [en, hK2, sJ_row]
    rfl) (fun m hm => en_congr rfl rfl rfl (sJ_ne w x hm) rfl)
  exact va_last o.1 o.2.1 o.2.2.2.2.2.2.2.1.1 h.2.1 h.2.2.1 h.2.2.2.1 q0 1 hq rfl hin hd (fun H1 locs1 hP hD hS => kk o ad H1 locs1 ls ⟨h.1, e ▸ hP, e ▸ hD, hS, h.2.2.2.2⟩ hl)

theorem V_aald14 {n b : Nat} {i : Int32} (hK : wK w n = 14) (hin : vp_in i (wN w n)) (hb : wR w n i.toNatClampNeg = some b) (hd : decode M.2.1 pc = .ok (.aaload, 1)) (kk : V M X Q (pc + 1) L (.ref b :: st) w cs) : V M X Q pc L (.int i :: .ref n :: st) w cs := fun o ad H locs ls h hl => by
  obtain ⟨q0, -, hq⟩ := pl_get (cy := xcy X) (ad := ad) (dom h.1 (k := 13) hK)
  rw [show en (xcy X) ad w n = .inl (xcy X 3, wN w n, .inr (.inr (.inr (.inr (fun j => (wR w n j).map ad))))) by simp only [en, hK]] at hq
  refine va_aldq (C := "BoneSteps$Bone") o.1 o.2.1 o.2.2.2.2.2.2.2.1.1 h.2.1 q0 3 hq rfl hin hd ?_
  rw [hb]
  exact kk o ad H locs ls h hl
theorem V_aast14 {n b ci : Nat} {r : vw_C} {i : Int32} (hK : wK w n = 14) (hb : wK w b = ci + 1) (hc : ci < 9) (hr : vwCl[ci]? = some r) (hr2 : r.1 = "BoneSteps$Bone") (hin : vp_in i (wN w n)) (hd : decode M.2.1 pc = .ok (.aastore, 1)) (kk : V M X Q (pc + 1) L st (sR w n i.toNatClampNeg (some b)) cs) : V M X Q pc L (.ref b :: .int i :: .ref n :: st) w cs := fun o ad H locs ls h hl => by
  obtain ⟨q0, hq0, hq⟩ := pl_get (cy := xcy X) (ad := ad) (dom h.1 (k := 13) hK)
  obtain ⟨q1, -, hq1⟩ := pl_get (cy := xcy X) (ad := ad) (dom h.1 hb)
  rw [show en (xcy X) ad w n = .inl (xcy X 3, wN w n, .inr (.inr (.inr (.inr (fun j => (wR w n j).map ad))))) by simp only [en, hK]] at hq
  rw [en_o hb hc] at hq1
  have e : (pl (xcy X) ad w).set q0 (ad n, .inl (xcy X 3, wN w n, .inr (.inr (.inr (.inr (va_up (fun j => (wR w n j).map ad) i.toNatClampNeg (some (ad b)))))))) = pl (xcy X) ad (sR w n i.toNatClampNeg (some b)) := pl_set h.1 hq0 rfl (by
    have hK2 : wK (sR w n i.toNatClampNeg (some b)) n = 14 := hK
    simp only [en, hK2]
    have e2 : (fun j => (wR (sR w n i.toNatClampNeg (some b)) n j).map ad) = va_up (fun j => (wR w n j).map ad) i.toNatClampNeg (some (ad b)) := funext fun j => by
      show (if n = n ∧ j = i.toNatClampNeg then some b else wR w n j).map ad = _
      unfold va_up
      by_cases hj : j = i.toNatClampNeg <;> simp [hj]
    rw [e2]
    rfl) (fun m hm => en_congr rfl rfl rfl rfl (sR_ne w _ hm))
  exact va_astq (r := r) o.1 o.2.1 o.2.2.2.2.2.2.2.1.1 h.2.1 h.2.2.1 h.2.2.2.1 q0 3 q1 ci hq (by rw [hr2]; rfl) hq1 hr hin hd (fun H1 locs1 hP hD hS => kk o ad H1 locs1 ls ⟨h.1, e ▸ hP, e ▸ hD, hS, h.2.2.2.2⟩ hl)
theorem V_aald15 {n b : Nat} {i : Int32} (hK : wK w n = 15) (hin : vp_in i (wN w n)) (hb : wR w n i.toNatClampNeg = some b) (hd : decode M.2.1 pc = .ok (.aaload, 1)) (kk : V M X Q (pc + 1) L (.ref b :: st) w cs) : V M X Q pc L (.int i :: .ref n :: st) w cs := fun o ad H locs ls h hl => by
  obtain ⟨q0, -, hq⟩ := pl_get (cy := xcy X) (ad := ad) (dom h.1 (k := 14) hK)
  rw [show en (xcy X) ad w n = .inl (xcy X 4, wN w n, .inr (.inr (.inr (.inr (fun j => (wR w n j).map ad))))) by simp only [en, hK]] at hq
  refine va_aldq (C := "BoneSteps$Clip") o.1 o.2.1 o.2.2.2.2.2.2.2.1.1 h.2.1 q0 4 hq rfl hin hd ?_
  rw [hb]
  exact kk o ad H locs ls h hl
theorem V_aast15 {n b ci : Nat} {r : vw_C} {i : Int32} (hK : wK w n = 15) (hb : wK w b = ci + 1) (hc : ci < 9) (hr : vwCl[ci]? = some r) (hr2 : r.1 = "BoneSteps$Clip") (hin : vp_in i (wN w n)) (hd : decode M.2.1 pc = .ok (.aastore, 1)) (kk : V M X Q (pc + 1) L st (sR w n i.toNatClampNeg (some b)) cs) : V M X Q pc L (.ref b :: .int i :: .ref n :: st) w cs := fun o ad H locs ls h hl => by
  obtain ⟨q0, hq0, hq⟩ := pl_get (cy := xcy X) (ad := ad) (dom h.1 (k := 14) hK)
  obtain ⟨q1, -, hq1⟩ := pl_get (cy := xcy X) (ad := ad) (dom h.1 hb)
  rw [show en (xcy X) ad w n = .inl (xcy X 4, wN w n, .inr (.inr (.inr (.inr (fun j => (wR w n j).map ad))))) by simp only [en, hK]] at hq
  rw [en_o hb hc] at hq1
  have e : (pl (xcy X) ad w).set q0 (ad n, .inl (xcy X 4, wN w n, .inr (.inr (.inr (.inr (va_up (fun j => (wR w n j).map ad) i.toNatClampNeg (some (ad b)))))))) = pl (xcy X) ad (sR w n i.toNatClampNeg (some b)) := pl_set h.1 hq0 rfl (by
    have hK2 : wK (sR w n i.toNatClampNeg (some b)) n = 15 := hK
    simp only [en, hK2]
    have e2 : (fun j => (wR (sR w n i.toNatClampNeg (some b)) n j).map ad) = va_up (fun j => (wR w n j).map ad) i.toNatClampNeg (some (ad b)) := funext fun j => by
      show (if n = n ∧ j = i.toNatClampNeg then some b else wR w n j).map ad = _
      unfold va_up
      by_cases hj : j = i.toNatClampNeg <;> simp [hj]
    rw [e2]
    rfl) (fun m hm => en_congr rfl rfl rfl rfl (sR_ne w _ hm))
  exact va_astq (r := r) o.1 o.2.1 o.2.2.2.2.2.2.2.1.1 h.2.1 h.2.2.1 h.2.2.2.1 q0 4 q1 ci hq (by rw [hr2]; rfl) hq1 hr hin hd (fun H1 locs1 hP hD hS => kk o ad H1 locs1 ls ⟨h.1, e ▸ hP, e ▸ hD, hS, h.2.2.2.2⟩ hl)
theorem V_aald16 {n b : Nat} {i : Int32} (hK : wK w n = 16) (hin : vp_in i (wN w n)) (hb : wR w n i.toNatClampNeg = some b) (hd : decode M.2.1 pc = .ok (.aaload, 1)) (kk : V M X Q (pc + 1) L (.ref b :: st) w cs) : V M X Q pc L (.int i :: .ref n :: st) w cs := fun o ad H locs ls h hl => by
  obtain ⟨q0, -, hq⟩ := pl_get (cy := xcy X) (ad := ad) (dom h.1 (k := 15) hK)
  rw [show en (xcy X) ad w n = .inl (xcy X 5, wN w n, .inr (.inr (.inr (.inr (fun j => (wR w n j).map ad))))) by simp only [en, hK]] at hq
  refine va_aldq (C := "BoneSteps$Sheet") o.1 o.2.1 o.2.2.2.2.2.2.2.1.1 h.2.1 q0 5 hq rfl hin hd ?_
  rw [hb]
  exact kk o ad H locs ls h hl
theorem V_aast16 {n b ci : Nat} {r : vw_C} {i : Int32} (hK : wK w n = 16) (hb : wK w b = ci + 1) (hc : ci < 9) (hr : vwCl[ci]? = some r) (hr2 : r.1 = "BoneSteps$Sheet") (hin : vp_in i (wN w n)) (hd : decode M.2.1 pc = .ok (.aastore, 1)) (kk : V M X Q (pc + 1) L st (sR w n i.toNatClampNeg (some b)) cs) : V M X Q pc L (.ref b :: .int i :: .ref n :: st) w cs := fun o ad H locs ls h hl => by
  obtain ⟨q0, hq0, hq⟩ := pl_get (cy := xcy X) (ad := ad) (dom h.1 (k := 15) hK)
  obtain ⟨q1, -, hq1⟩ := pl_get (cy := xcy X) (ad := ad) (dom h.1 hb)
  rw [show en (xcy X) ad w n = .inl (xcy X 5, wN w n, .inr (.inr (.inr (.inr (fun j => (wR w n j).map ad))))) by simp only [en, hK]] at hq
  rw [en_o hb hc] at hq1
  have e : (pl (xcy X) ad w).set q0 (ad n, .inl (xcy X 5, wN w n, .inr (.inr (.inr (.inr (va_up (fun j => (wR w n j).map ad) i.toNatClampNeg (some (ad b)))))))) = pl (xcy X) ad (sR w n i.toNatClampNeg (some b)) := pl_set h.1 hq0 rfl (by
    have hK2 : wK (sR w n i.toNatClampNeg (some b)) n = 16 := hK
    simp only [en, hK2]
    have e2 : (fun j => (wR (sR w n i.toNatClampNeg (some b)) n j).map ad) = va_up (fun j => (wR w n j).map ad) i.toNatClampNeg (some (ad b)) := funext fun j => by
      show (if n = n ∧ j = i.toNatClampNeg then some b else wR w n j).map ad = _
      unfold va_up
      by_cases hj : j = i.toNatClampNeg <;> simp [hj]
    rw [e2]
    rfl) (fun m hm => en_congr rfl rfl rfl rfl (sR_ne w _ hm))
  exact va_astq (r := r) o.1 o.2.1 o.2.2.2.2.2.2.2.1.1 h.2.1 h.2.2.1 h.2.2.2.1 q0 5 q1 ci hq (by rw [hr2]; rfl) hq1 hr hin hd (fun H1 locs1 hP hD hS => kk o ad H1 locs1 ls ⟨h.1, e ▸ hP, e ▸ hD, hS, h.2.2.2.2⟩ hl)
theorem V_aald14N {n : Nat} {i : Int32} (hK : wK w n = 14) (hin : vp_in i (wN w n)) (hb : wR w n i.toNatClampNeg = none) (hd : decode M.2.1 pc = .ok (.aaload, 1)) (kk : V M X Q (pc + 1) L (.null :: st) w cs) : V M X Q pc L (.int i :: .ref n :: st) w cs := fun o ad H locs ls h hl => by
  obtain ⟨q0, -, hq⟩ := pl_get (cy := xcy X) (ad := ad) (dom h.1 (k := 13) hK)
  rw [show en (xcy X) ad w n = .inl (xcy X 3, wN w n, .inr (.inr (.inr (.inr (fun j => (wR w n j).map ad))))) by simp only [en, hK]] at hq
  refine va_aldq (C := "BoneSteps$Bone") o.1 o.2.1 o.2.2.2.2.2.2.2.1.1 h.2.1 q0 3 hq rfl hin hd ?_
  rw [hb]
  exact kk o ad H locs ls h hl
theorem V_aald17 {n b : Nat} {i : Int32} (hK : wK w n = 17) (hin : vp_in i (wN w n)) (hb : wR w n i.toNatClampNeg = some b) (hd : decode M.2.1 pc = .ok (.aaload, 1)) (kk : V M X Q (pc + 1) L (.ref b :: st) w cs) : V M X Q pc L (.int i :: .ref n :: st) w cs := fun o ad H locs ls h hl => by
  obtain ⟨q0, -, hq⟩ := pl_get (cy := xcy X) (ad := ad) (dom h.1 (k := 16) hK)
  rw [show en (xcy X) ad w n = .inl (xcy X 6, wN w n, .inr (.inr (.inr (.inr (fun j => (wR w n j).map ad))))) by simp only [en, hK]] at hq
  have hlt : i.toNatClampNeg < wN w n := Nat.not_le.mp fun q => hin (Or.inr q)
  refine W.aald (v := va_rf ((wR w n i.toNatClampNeg).map ad)) (ty := .array .int) o.1 o.2.1 (h.2.1 q0 _ hq) ((o.2.2.2.2.2.2.2.1.1.2 6 _ rfl).1 (wN w n) (fun j => va_rf ((wR w n j).map ad))) rfl (fun q => by cases q) (by show ¬ (i < 0 ∨ (arrV _ _ _).slots.size ≤ _); rw [arrV_size]; exact hin) (by show (arrV _ _ _).slots[_]? = _; rw [arrV_read _ _ hlt]) rfl rfl hd ?_
  rw [hb]
  exact kk o ad H locs ls h hl
/-- the cosines: the static row, by the name 9 -/
theorem V_cos {idx : Nat} (hl2 : Cond.fieldLink M.1 idx RX7 "COSINES" "[I" ∈ tb) (hd : decode M.2.1 pc = .ok (.getstatic idx, 3)) (kk : V M X Q (pc + 3) L (.ref 9 :: st) w cs) : V M X Q pc L st w cs := fun o ad H locs ls h hl => by
  refine va_gets (v := .ref (xad X 9)) o.1 o.2.1 o.2.2.2.2.2.2.2.2.1.1 h.2.2.2.1 o.2.2.2.2.1 (o.2.2.2.2.2.1 _ hl2) (fun _ h9 => h9) hd ?_
  have := kk o ad H locs ls h hl
  rw [show xad X 9 = ad 9 from (h.2.2.2.2.1.1 9 (Or.inr (Or.inl rfl))).symm]
  exact this
theorem V_cosld {i : Int32} (hin : vp_in i 36) (hd : decode M.2.1 pc = .ok (.iaload, 1)) (kk : V M X Q (pc + 1) L (.int (cosF i.toNatClampNeg) :: st) w cs) : V M X Q pc L (.int i :: .ref 9 :: st) w cs := fun o ad H locs ls h hl => by
  have e : ad 9 = xad X 9 := h.2.2.2.2.1.1 9 (Or.inr (Or.inl rfl))
  have hT : va_T .int (ad 9) 36 (fun j => .int (cosF j)) (xA X) (xs X) (xs X).heap := by rw [e]; exact o.2.2.2.2.2.2.2.2.1.2
  exact va_ti o.1 o.2.1 hT h.2.2.2.1 hin rfl hd (kk o ad H locs ls h hl)
/-- the script, by the name 8 -/
theorem V_sld {i : Int32} {n : Nat} {f : Nat → Int32} (hs : xsc X = some (n, f)) (hin : vp_in i n) (hd : decode M.2.1 pc = .ok (.iaload, 1)) (kk : V M X Q (pc + 1) L (.int (f i.toNatClampNeg) :: st) w cs) : V M X Q pc L (.int i :: .ref 8 :: st) w cs := fun o ad H locs ls h hl => by
  obtain ⟨hX, hb, hA⟩ := o.2.2.2.2.2.2.2.2.2.2 _ hs
  have e : ad 8 = xad X 8 := h.2.2.2.2.1.1 8 (Or.inr (Or.inr rfl))
  rw [← e] at hX hb hA
  exact va_sld o.1 o.2.1 hX hb hA h.2.2.2.1 hin hd (kk o ad H locs ls h hl)
theorem V_slen {n : Nat} {f : Nat → Int32} (hs : xsc X = some (n, f)) (hd : decode M.2.1 pc = .ok (.arraylength, 1)) (kk : V M X Q (pc + 1) L (.int (Int32.ofNat n) :: st) w cs) : V M X Q pc L (.ref 8 :: st) w cs := fun o ad H locs ls h hl => by
  obtain ⟨hX, hb, hA⟩ := o.2.2.2.2.2.2.2.2.2.2 _ hs
  have e : ad 8 = xad X 8 := h.2.2.2.2.1.1 8 (Or.inr (Or.inr rfl))
  rw [← e] at hX hb hA
  exact va_slen o.1 o.2.1 hX hb hA h.2.2.2.1 hd (kk o ad H locs ls h hl)
end
end
section
/-! returns, calls -/
section
variable {M : Mi} {X : Cx} {Q : State → Prop} {pc : Nat} {L : List (Nat × Value)} {st : List Value} {w : Wd} {cs : Nat × Nat} {P : Option Value → Wd → Prop}
theorem Qg_end {ad : Nat → Nat} {H : Heap} {locs : List Loc} {r : Option Value} {t : State} (h : Hd M X ad w H locs) (hp : P r w) (ht : t.heap = H) : Qg M.2.2.2.2.2.2 (xD X) (xcy X) (xad X) (xw X) (xs X).heap.size P (xargs X) (xs X) (.returned (r.map (mv ad))) t :=
  ⟨⟨r, w, ad, rfl, hp, h.1, by rw [ht]; exact h.2.1, h.2.2.1, h.2.2.2.2.1, h.2.2.2.2.2⟩, h.2.2.2.1.F ht⟩
theorem V_iret {x : Int32} (hr : M.2.2.2.1 = some .int) (hd : decode M.2.1 pc = .ok (.ireturn, 1)) (hc : cs.1 ≤ M.2.2.2.2.1.cells) (hs : cs.2 ≤ M.2.2.2.2.1.slots) (hp : P (some (.int x)) w) : V M X (mq M X P) pc L [.int x] w cs := fun o ad H locs ls h hl => by
  have hlocks := o.2.2.2.2.2.2.1
  exact W.widen hc hs (W.iret o.1 o.2.1 (o.2.2.2.1.trans hr) (fun t ht hW => Qg_end (r := some (.int x)) h hp ht) h.2.2.2.1.2.2 hd hlocks)
theorem V_zret {x : Int32} (hr : M.2.2.2.1 = some .boolean) (hd : decode M.2.1 pc = .ok (.ireturn, 1)) (hc : cs.1 ≤ M.2.2.2.2.1.cells) (hs : cs.2 ≤ M.2.2.2.2.1.slots) (hn : narrow .boolean (.int x) = .int x) (hp : P (some (.int x)) w) : V M X (mq M X P) pc L [.int x] w cs := fun o ad H locs ls h hl => by
  have hlocks := o.2.2.2.2.2.2.1
  exact W.widen hc hs (W.zret o.1 o.2.1 (o.2.2.2.1.trans hr) hn (fun t ht hW => Qg_end (r := some (.int x)) h hp ht) h.2.2.2.1.2.2 hd hlocks)
theorem V_lret {x : Int64} (hr : M.2.2.2.1 = some .long) (hd : decode M.2.1 pc = .ok (.lreturn, 1)) (hc : cs.1 ≤ M.2.2.2.2.1.cells) (hs : cs.2 ≤ M.2.2.2.2.1.slots) (hp : P (some (.long x)) w) : V M X (mq M X P) pc L [.long x] w cs := fun o ad H locs ls h hl => by
  have hlocks := o.2.2.2.2.2.2.1
  exact W.widen hc hs (W.lret o.1 o.2.1 (o.2.2.2.1.trans hr) (fun t ht hW => Qg_end (r := some (.long x)) h hp ht) h.2.2.2.1.2.2 hd hlocks)
theorem V_vret (hr : M.2.2.2.1 = none) (hd : decode M.2.1 pc = .ok (.return_, 1)) (hc : cs.1 ≤ M.2.2.2.2.1.cells) (hs : cs.2 ≤ M.2.2.2.2.1.slots) (hp : P none w) : V M X (mq M X P) pc L [] w cs := fun o ad H locs ls h hl => by
  have hlocks := o.2.2.2.2.2.2.1
  exact W.widen hc hs (W.vret o.1 o.2.1 (o.2.2.2.1.trans hr) (fun t ht hW => Qg_end (r := none) h hp ht) h.2.2.2.1.2.2 hd hlocks)
theorem V_aret {rt : FieldType} {v : Value} (hr : M.2.2.2.1 = some rt) (hrt : (∃ n, rt = .object n) ∨ ∃ t, rt = .array t) (hd : decode M.2.1 pc = .ok (.areturn, 1)) (hc : cs.1 ≤ M.2.2.2.2.1.cells) (hs : cs.2 ≤ M.2.2.2.2.1.slots) (hv : v = .null ∨ ∃ n, v = .ref n) (hp : P (some v) w) : V M X (mq M X P) pc L [v] w cs := fun o ad H locs ls h hl => by
  have hlocks := o.2.2.2.2.2.2.1
  refine W.widen hc hs (W.aret (v := mv ad v) o.1 o.2.1 (o.2.2.2.1.trans hr) hrt ?_ (fun t ht hW => Qg_end (r := some v) h hp ht) h.2.2.2.1.2.2 hd hlocks)
  rcases hv with rfl | ⟨n, rfl⟩
  · exact Or.inl rfl
  · exact Or.inr ⟨_, rfl⟩
/-- what is called leaves the caller's own references where they are -/
def refIn (w : Wd) : Value → Prop
  | .ref n => n ∈ wL w ∨ n = 9 ∨ n = 8
  | _ => True
theorem mv_ext {ad ad' : Nat → Nat} {w : Wd} (he : ∀ n, (n ∈ wL w ∨ n = 9 ∨ n = 8) → ad' n = ad n) {v : Value} (hv : refIn w v) : mv ad' v = mv ad v := by
  cases v with
  | ref n => show Value.ref (ad' n) = Value.ref (ad n); rw [he n hv]
  | _ => rfl
theorem xA_of {ad : Nat → Nat} {H : Heap} {locs : List Loc} (h : Hd M X ad w H locs) : ∀ q, va_A (pl (xcy X) ad w) H.size q → xA X q := fun q hq => by
  rcases hq with ⟨k, e, hk⟩ | hq
  · exact h.2.2.1.2 k _ hk
  · exact Or.inr (Nat.le_trans h.2.2.2.1.1 hq)
theorem V_after {al : Bool} {mc ms : Nat} {P' : Option Value → Wd → Prop} {st0 : List Value} {a : Array Value}
    (run : Ok M X → ∀ (ad : Nat → Nat) (H : Heap) (locs : List Loc) (ls : Array Slot), Hd M X ad w H locs → lv_has ls M.2.2.1 (mL ad L) → va_Run X.1 X.2.1 X.2.2.1 M.2.2.2.2.1 (xs X) (xm X) (xargs X) X.2.2.2.2.2.1 X.2.2.2.2.2.2.1 X.2.2.2.2.2.2.2.1 H locs cs.1 cs.2 mc ms (F0 (xm X) pc ls (st0.map (mv ad))) (st.map (mv ad)) (Qg al (xD X) (xcy X) ad w H.size P' a) (va_A (pl (xcy X) ad w) H.size))
    (hal : al = false ∨ (M.2.2.2.2.2.2 = true ∧ (∀ q ∈ L, refIn w q.2) ∧ ∀ v ∈ st, refIn w v))
    (kk : ∀ r w', P' r w' → V M X Q (pc + 3) L (r.toList ++ st) w' (cs.1 + mc, cs.2 + ms)) : V M X Q pc L st0 w cs := fun o ad H locs ls h hl => by
  intro T hT S
  obtain ⟨v, st₀, t, T', L1, h0, S', hL, e1, e2, ⟨⟨r, w', ad', hv, hp, hok, hP, hD, hext, hals⟩, hz, hk⟩, go⟩ := run o ad H locs ls h hl T hT S
  cases hv
  rw [h0] at hz hk
  have hin := xA_of h
  have hmL : mL ad' L = mL ad L ∧ st.map (mv ad') = st.map (mv ad) := by
    rcases hal with ha | ⟨-, h1, h2⟩
    · rcases hals with q | q
      · rw [ha] at q; cases q
      · rw [q]; exact ⟨rfl, rfl⟩
    · refine ⟨List.map_congr_left fun q hq => ?_, List.map_congr_left fun q hq => mv_ext hext.1 (h2 q hq)⟩
      rw [mv_ext hext.1 (h1 q hq)]
  have hS' : va_S (xA X) (xs X).heap T'.heap (locs ++ L1) := by
    refine ⟨Nat.le_trans h.2.2.2.1.1 (by rw [e1]; exact hz), fun q h1 h2 => ?_, fun q hq => ?_⟩
    · rw [e1, hk q (Nat.lt_of_lt_of_le h1 h.2.2.2.1.1) (fun z => h2 (hin q z))]
      exact h.2.2.2.1.2.1 q h1 h2
    · rcases List.mem_append.mp hq with z | z
      · exact h.2.2.2.1.2.2 q z
      · exact hin _ (hL q z)
  have hd' : Hd M X ad' w' T'.heap (locs ++ L1) := by
    refine ⟨hok, by rw [e1]; exact hP, hD.weaken (fun _ q _ z => hin _ z), hS', ⟨fun n hn => ?_, fun n hn => hext.2 n (h.2.2.2.2.1.2 n hn)⟩, ?_⟩
    · rw [hext.1 n (hn.elim (fun z => Or.inl (h.2.2.2.2.1.2 n z)) Or.inr)]
      exact h.2.2.2.2.1.1 n hn
    · rcases hal with ha | ⟨ha, -⟩
      · rcases hals with q | q
        · rw [ha] at q; cases q
        · rw [q]; exact h.2.2.2.2.2
      · exact Or.inl ha
  have hW := kk r w' hp o ad' T'.heap (locs ++ L1) ls hd' (by rw [hmL.1]; exact hl) T' rfl S'
  have es : (r.toList ++ st).map (mv ad') = (r.map (mv ad')).toList ++ st.map (mv ad) := by
    rw [List.map_append, hmL.2]
    cases r <;> rfl
  rw [es] at hW
  obtain ⟨t2, a1, b1⟩ := hW
  exact ⟨t2, go t2 a1, b1⟩
/-- room for a call -/
def Rm (M M' : Mi) : Prop := M'.2.2.2.2.1.frames + 1 ≤ M.2.2.2.2.1.frames ∧ 8 + (M'.2.2.1 + 11) + M'.2.2.2.2.1.locals ≤ M.2.2.2.2.1.locals
/-- the words of a call -/
def LkB (y : MethodName) (M' : Mi) (n : Nat) : Prop := .initialized y.cls ∈ tb ∧ .code y M'.2.1 M'.2.2.1 M'.2.2.2.1 ∈ tb ∧ (y.cls ≠ "java/lang/invoke/MethodHandle" ∧ y.cls ≠ "java/lang/invoke/VarHandle" ∧ (parseMethodDescriptor y.desc).map (fun d => d.parameters.length) = some n)
theorem Pre_of {ad : Nat → Nat} {H : Heap} {locs : List Loc} (o : Ok M X) (h : Hd M X ad w H locs) {U : State} (hU : U.heap = H) (hW : (xs X).WarmedH U.vm) : Pre0 (xD X) (xcy X) ad w H.size U := by
  have hin := xA_of h
  refine ⟨by rw [hU], h.1, by rw [hU]; exact h.2.1, h.2.2.1.weaken (fun _ _ _ _ => trivial), o.2.2.2.2.2.2.2.1.warm hW, ?_, ?_⟩
  · have e : ad 9 = xad X 9 := h.2.2.2.2.1.1 9 (Or.inr (Or.inl rfl))
    rw [e, hU]
    exact (va_Z.moved hW.alike (o.2.2.2.2.2.2.2.2.1.1.kept h.2.2.2.1.2.1)).narrow hin
  · have e : ad 9 = xad X 9 := h.2.2.2.2.1.1 9 (Or.inr (Or.inl rfl))
    rw [e, hU]
    exact (va_T.moved hW.alike (o.2.2.2.2.2.2.2.2.1.2.kept h.2.2.2.1.2.1)).narrow hin
theorem sum_cat (ad : Nat → Nat) (st : List Value) : ((st.map (mv ad)).map fun v => v.category) = st.map fun v => v.category := by
  rw [List.map_map]
  exact List.map_congr_left fun v _ => mv_cat ad v
/-- a static method -/
theorem V_invS {y : MethodName} {M' : Mi} {idx n : Nat} {As st0 : List Value} {Pre : List Value → Wd → Prop} {Post : List Value → Wd → Option Value → Wd → Prop} (hC : ∀ l, Ct l y M' Pre Post) (hb : LkB y M' n) (hl1 : .methodLink M.1 idx y ∈ tb) (hl2 : .static y ∈ tb) (hR : Rm M M') (hd : decode M.2.1 pc = .ok (.invokestatic idx, 3)) (hn : As.length = n) (hst : st0 = As.reverse ++ st) (hsz : (st.map fun v => v.category).sum ≤ 8) (hcs : cs.1 + M'.2.2.2.2.1.cells ≤ M.2.2.2.2.1.cells ∧ cs.2 + M'.2.2.2.2.1.slots ≤ M.2.2.2.2.1.slots)
    (hal : M'.2.2.2.2.2.2 = false ∨ (M.2.2.2.2.2.2 = true ∧ (∀ q ∈ L, refIn w q.2) ∧ ∀ v ∈ st, refIn w v)) (hp : Pre As w) (kk : ∀ r w', Post As w r w' → V M X Q (pc + 3) L (r.toList ++ st) w' (cs.1 + M'.2.2.2.2.1.cells, cs.2 + M'.2.2.2.2.1.slots)) : V M X Q pc L st0 w cs := by
  refine V_after (a := (As.map (mv (fun _ => 0))).toArray) (P' := Post As w) (fun o ad H locs ls h hl => ?_) hal kk
  have hG := tb_good hb.2.1
  have cb := callB_of (R := M.2.2.2.2.1) (s := xs X) (args := xargs X) (own := M.1) (index := idx) (y := y) (bytes := M'.2.1) (maxL := M'.2.2.1) (ret := M'.2.2.2.1) (rm := M'.2.2.2.2.1) n o.2.2.2.2.2.1 hG rfl rfl rfl (o.2.2.2.2.2.1 _ hb.1) (o.2.2.2.2.2.1 _ hl1) hb.2.2 hR
  exact va_runS (As := As.map (mv ad)) ⟨o.1, o.2.1, o.2.2.1, o.2.2.2.2.1, o.2.2.2.2.2.1⟩ (hC X.2.1 (xD X) (xcy X) ad w H.size As hp) ⟨cb, o.2.2.2.2.2.1 _ hl2⟩ ⟨Pre0.blind, fun U hU hW => ⟨rfl, Pre_of o h hU hW⟩⟩ rfl (by rw [List.length_map]; exact hn) hl.1 (by show st0.map (mv ad) = _; rw [hst, List.map_append, List.map_reverse]) (by rw [show 2 * (F0 (xm X) pc ls (st0.map (mv ad))).monitorRoom = 0 from rfl, sum_cat]; omega) hd hcs
/-- a static method of a nest mate that is private there -/
theorem V_invSN {y : MethodName} {M' : Mi} {idx n : Nat} {host : String} {As st0 : List Value} {Pre : List Value → Wd → Prop} {Post : List Value → Wd → Option Value → Wd → Prop} (hC : ∀ l, Ct l y M' Pre Post) (hb : LkB y M' n) (hl1 : (M.1, idx, y, host) ∈ nwL) (hl2 : .static y ∈ tb) (hR : Rm M M') (hd : decode M.2.1 pc = .ok (.invokestatic idx, 3)) (hn : As.length = n) (hst : st0 = As.reverse ++ st) (hsz : (st.map fun v => v.category).sum ≤ 8) (hcs : cs.1 + M'.2.2.2.2.1.cells ≤ M.2.2.2.2.1.cells ∧ cs.2 + M'.2.2.2.2.1.slots ≤ M.2.2.2.2.1.slots)
    (hal : M'.2.2.2.2.2.2 = false ∨ (M.2.2.2.2.2.2 = true ∧ (∀ q ∈ L, refIn w q.2) ∧ ∀ v ∈ st, refIn w v)) (hp : Pre As w) (kk : ∀ r w', Post As w r w' → V M X Q (pc + 3) L (r.toList ++ st) w' (cs.1 + M'.2.2.2.2.1.cells, cs.2 + M'.2.2.2.2.1.slots)) : V M X Q pc L st0 w cs := by
  refine V_after (a := (As.map (mv (fun _ => 0))).toArray) (P' := Post As w) (fun o ad H locs ls h hl => ?_) hal kk
  have hG := tb_good hb.2.1
  have cb := va_cnB (R := M.2.2.2.2.1) (s := xs X) (args := xargs X) (own := M.1) (host := host) (index := idx) (y := y) (bytes := M'.2.1) (maxL := M'.2.2.1) (ret := M'.2.2.2.1) (rm := M'.2.2.2.2.1) n o.2.2.2.2.2.1 hG rfl rfl rfl (o.2.2.2.2.2.2.2.1.2 _ hl1) (o.2.2.2.2.2.1 _ hb.1) hb.2.2 hR
  exact va_runSN (As := As.map (mv ad)) ⟨o.1, o.2.1, o.2.2.1, o.2.2.2.2.1, o.2.2.2.2.2.1⟩ (hC X.2.1 (xD X) (xcy X) ad w H.size As hp) ⟨cb, o.2.2.2.2.2.1 _ hl2, trivial⟩ ⟨Pre0.blind, fun U hU hW => ⟨rfl, Pre_of o h hU hW⟩⟩ rfl (by rw [List.length_map]; exact hn) hl.1 (by show st0.map (mv ad) = _; rw [hst, List.map_append, List.map_reverse]) (by rw [show 2 * (F0 (xm X) pc ls (st0.map (mv ad))).monitorRoom = 0 from rfl, sum_cat]; omega) hd hcs
/-- an instance method -/
theorem V_invV {y : MethodName} {M' : Mi} {idx n b ci : Nat} {As st0 : List Value} {r0 : vw_C} {Pre : List Value → Wd → Prop} {Post : List Value → Wd → Option Value → Wd → Prop} (hC : ∀ l, Ct l y M' Pre Post) (hb : LkB y M' n) (hl1 : .methodLink M.1 idx y ∈ tb) (hl2 : .instanceMethod y ∈ tb) (hl3 : .selects y.cls y y ∈ tb) (hc : vwCl[ci]? = some r0) (hc1 : r0.1 = y.cls) (hc2 : ci < 9) (hK : wK w b = ci + 1) (hR : Rm M M') (hd : decode M.2.1 pc = .ok (.invokevirtual idx, 3)) (hn : As.length = n) (hst : st0 = As.reverse ++ .ref b :: st) (hsz : (st.map fun v => v.category).sum ≤ 8) (hcs : cs.1 + M'.2.2.2.2.1.cells ≤ M.2.2.2.2.1.cells ∧ cs.2 + M'.2.2.2.2.1.slots ≤ M.2.2.2.2.1.slots)
    (hal : M'.2.2.2.2.2.2 = false ∨ (M.2.2.2.2.2.2 = true ∧ (∀ q ∈ L, refIn w q.2) ∧ ∀ v ∈ st, refIn w v)) (hp : Pre (.ref b :: As) w) (kk : ∀ r w', Post (.ref b :: As) w r w' → V M X Q (pc + 3) L (r.toList ++ st) w' (cs.1 + M'.2.2.2.2.1.cells, cs.2 + M'.2.2.2.2.1.slots)) : V M X Q pc L st0 w cs := by
  refine V_after (a := (As.map (mv (fun _ => 0))).toArray) (P' := Post (.ref b :: As) w) (fun o ad H locs ls h hl => ?_) hal kk
  have hG := tb_good hb.2.1
  have cb := callB_of (R := M.2.2.2.2.1) (s := xs X) (args := xargs X) (own := M.1) (index := idx) (y := y) (bytes := M'.2.1) (maxL := M'.2.2.1) (ret := M'.2.2.2.1) (rm := M'.2.2.2.2.1) n o.2.2.2.2.2.1 hG rfl rfl rfl (o.2.2.2.2.2.1 _ hb.1) (o.2.2.2.2.2.1 _ hl1) hb.2.2 hR
  obtain ⟨q0, -, hq⟩ := pl_get (cy := xcy X) (ad := ad) (dom h.1 hK)
  rw [en_o hK hc2] at hq
  have hrc := va_recv o.2.2.2.2.2.2.2.1.1 h.2.1 hc hq
  rw [hc1] at hrc
  exact va_runV (C := y.cls) (b := ad b) (As := As.map (mv ad)) ⟨o.1, o.2.1, o.2.2.1, o.2.2.2.2.1, o.2.2.2.2.2.1⟩ (hC X.2.1 (xD X) (xcy X) ad w H.size (.ref b :: As) hp) ⟨cb, o.2.2.2.2.2.1 _ hl2, o.2.2.2.2.2.1 _ hl3⟩ ⟨Pre0.blind, hrc, fun U hU hW => ⟨rfl, Pre_of o h hU hW⟩⟩ rfl (by rw [List.length_map]; exact hn) hl.1 (by show st0.map (mv ad) = _; rw [hst, List.map_append, List.map_reverse]; rfl) (by rw [show 2 * (F0 (xm X) pc ls (st0.map (mv ad))).monitorRoom = 0 from rfl, sum_cat]; omega) hd hcs
/-- Math.abs and Math.max of longs -/
theorem V_labs {idx : Nat} {x : Int64} (h1 : .methodLink M.1 idx Lib.MathLoose.abs_long.x ∈ tb) (h2 : .static Lib.MathLoose.abs_long.x ∈ tb) (h3 : .initialized "java/lang/Math" ∈ tb) (h4 : .code Lib.MathLoose.abs_long.x Lib.MathLoose.abs_long.code 2 (some .long) ∈ tb) (hf : 1 ≤ M.2.2.2.2.1.frames) (hlo : (st.map fun v => v.category).sum + 13 ≤ M.2.2.2.2.1.locals) (hc : cs.1 ≤ M.2.2.2.2.1.cells) (hs : cs.2 ≤ M.2.2.2.2.1.slots) (hd : decode M.2.1 pc = .ok (.invokestatic idx, 3)) (kk : V M X Q (pc + 3) L (.long (if 0 < x then x else -x) :: st) w cs) : V M X Q pc L (.long x :: st) w cs := fun o ad H locs ls h hl =>
  va_mabs_long o.1 o.2.1 (o.2.2.1.trans hl.1.symm) o.2.2.2.2.1 (o.2.2.2.2.2.1 _ h1) (o.2.2.2.2.2.1 _ h2) (o.2.2.2.2.2.1 _ h3) (o.2.2.2.2.2.1 _ h4) hf (by rw [sum_cat]; exact hlo) hc hs hd (kk o ad H locs ls h hl)
theorem V_lmax {idx : Nat} {x y : Int64} (h1 : .methodLink M.1 idx Lib.MathLoose.max_long.x ∈ tb) (h2 : .static Lib.MathLoose.max_long.x ∈ tb) (h3 : .initialized "java/lang/Math" ∈ tb) (h4 : .code Lib.MathLoose.max_long.x Lib.MathLoose.max_long.code 4 (some .long) ∈ tb) (hf : 1 ≤ M.2.2.2.2.1.frames) (hlo : (st.map fun v => v.category).sum + 15 ≤ M.2.2.2.2.1.locals) (hc : cs.1 ≤ M.2.2.2.2.1.cells) (hs : cs.2 ≤ M.2.2.2.2.1.slots) (hd : decode M.2.1 pc = .ok (.invokestatic idx, 3)) (kk : V M X Q (pc + 3) L (.long (if y < x then x else y) :: st) w cs) : V M X Q pc L (.long y :: .long x :: st) w cs := fun o ad H locs ls h hl =>
  va_mmax_long o.1 o.2.1 (o.2.2.1.trans hl.1.symm) o.2.2.2.2.1 (o.2.2.2.2.2.1 _ h1) (o.2.2.2.2.2.1 _ h2) (o.2.2.2.2.2.1 _ h3) (o.2.2.2.2.2.1 _ h4) hf (by rw [sum_cat]; exact hlo) hc hs hd (kk o ad H locs ls h hl)
/-- System.arraycopy between rows of ints -/
theorem V_copy {idx n0 n1 : Nat} {sp dp n : Int32} (h1 : .methodLink M.1 idx arraycopyName ∈ tb) (h2 : .native arraycopyName ∈ tb) (h3 : .static arraycopyName ∈ tb) (h4 : .initialized "java/lang/System" ∈ tb) (hK0 : wK w n0 = 11) (hK1 : wK w n1 = 11) (g1 : ¬ sp < 0) (g2 : ¬ dp < 0) (g3 : ¬ n < 0) (g4 : sp.toNatClampNeg + n.toNatClampNeg ≤ wN w n0) (g5 : dp.toNatClampNeg + n.toNatClampNeg ≤ wN w n1) (hf : 1 ≤ M.2.2.2.2.1.frames) (hlo : (st.map fun v => v.category).sum + (nativeFrameWords "java/lang/System" "arraycopy" 5 + 11) ≤ M.2.2.2.2.1.locals) (hd : decode M.2.1 pc = .ok (.invokestatic idx, 3)) (kk : V M X Q (pc + 3) L st (sV w n1 (va_cpy (wI w n0) (wI w n1) sp.toNatClampNeg dp.toNatClampNeg n.toNatClampNeg)) cs) : V M X Q pc L (.int n :: .int dp :: .ref n1 :: .int sp :: .ref n0 :: st) w cs := fun o ad H locs ls h hl => by
  obtain ⟨q0, -, hq⟩ := pl_get (cy := xcy X) (ad := ad) (dom h.1 (k := 10) hK0)
  obtain ⟨q1, hq1, hqq⟩ := pl_get (cy := xcy X) (ad := ad) (dom h.1 (k := 10) hK1)
  rw [show en (xcy X) ad w n0 = .inl (xcy X 0, wN w n0, .inl (wI w n0)) by simp only [en, hK0]] at hq
  rw [show en (xcy X) ad w n1 = .inl (xcy X 0, wN w n1, .inl (wI w n1)) by simp only [en, hK1]] at hqq
  have e : (pl (xcy X) ad w).set q1 (ad n1, .inl (xcy X 0, wN w n1, .inl (va_cpy (wI w n0) (wI w n1) sp.toNatClampNeg dp.toNatClampNeg n.toNatClampNeg))) = pl (xcy X) ad (sV w n1 (va_cpy (wI w n0) (wI w n1) sp.toNatClampNeg dp.toNatClampNeg n.toNatClampNeg)) := pl_set h.1 hq1 rfl (by
    have hK2 : wK (sV w n1 (va_cpy (wI w n0) (wI w n1) sp.toNatClampNeg dp.toNatClampNeg n.toNatClampNeg)) n1 = 11 := hK1
    simp only [en, hK2]
    rw [show wI (sV w n1 (va_cpy (wI w n0) (wI w n1) sp.toNatClampNeg dp.toNatClampNeg n.toNatClampNeg)) n1 = va_cpy (wI w n0) (wI w n1) sp.toNatClampNeg dp.toNatClampNeg n.toNatClampNeg from funext fun j => if_pos rfl]
    rfl) (fun m hm => en_congr rfl rfl (funext fun j => if_neg hm) rfl rfl)
  exact va_copyi o.1 o.2.1 (o.2.2.1.trans hl.1.symm) o.2.2.2.2.1 (o.2.2.2.2.2.1 _ h1) (o.2.2.2.2.2.1 _ h2) (o.2.2.2.2.2.1 _ h3) (o.2.2.2.2.2.1 _ h4) o.2.2.2.2.2.2.2.1.1 h.2.1 h.2.2.1 h.2.2.2.1 q0 q1 0 0 (ty := .int) hq hqq rfl rfl rfl g1 g2 g3 g4 g5 (fun i _ => rfl) hf (by rw [sum_cat]; exact hlo) hd (fun H1 locs1 hP hD hS => kk o ad H1 locs1 ls ⟨h.1, e ▸ hP, e ▸ hD, hS, h.2.2.2.2⟩ hl)
end
end
section
theorem inX0 : ∀ w ∈ wsX00, w ∈ tb := fun w h => List.mem_filter.mpr ((by decide +kernel : ∀ w ∈ wsX00, w ∈ lw_tbl ∧ goodWord w = true) w h)
theorem inX1 : ∀ w ∈ wsX10, w ∈ tb := fun w h => List.mem_filter.mpr ((by decide +kernel : ∀ w ∈ wsX10, w ∈ lw_tbl ∧ goodWord w = true) w h)
theorem inX2 : ∀ w ∈ wsX20, w ∈ tb := fun w h => List.mem_filter.mpr ((by decide +kernel : ∀ w ∈ wsX20, w ∈ lw_tbl ∧ goodWord w = true) w h)
theorem inX3 : ∀ w ∈ wsX30, w ∈ tb := fun w h => List.mem_filter.mpr ((by decide +kernel : ∀ w ∈ wsX30, w ∈ lw_tbl ∧ goodWord w = true) w h)
theorem inX4 : ∀ w ∈ wsX40, w ∈ tb := fun w h => List.mem_filter.mpr ((by decide +kernel : ∀ w ∈ wsX40, w ∈ lw_tbl ∧ goodWord w = true) w h)
theorem inX5 : ∀ w ∈ wsX50, w ∈ tb := fun w h => List.mem_filter.mpr ((by decide +kernel : ∀ w ∈ wsX50, w ∈ lw_tbl ∧ goodWord w = true) w h)
theorem inX6 : ∀ w ∈ wsX60, w ∈ tb := fun w h => List.mem_filter.mpr ((by decide +kernel : ∀ w ∈ wsX60, w ∈ lw_tbl ∧ goodWord w = true) w h)
theorem inX8 : ∀ w ∈ wsX80, w ∈ tb := fun w h => List.mem_filter.mpr ((by decide +kernel : ∀ w ∈ wsX80, w ∈ lw_tbl ∧ goodWord w = true) w h)
theorem inX9 : ∀ w ∈ wsX90, w ∈ tb := fun w h => List.mem_filter.mpr ((by decide +kernel : ∀ w ∈ wsX90, w ∈ lw_tbl ∧ goodWord w = true) w h)
abbrev mJ7_fill_53178 : Mi := (RJ7, cJ7_fill_53178, 4, none, { frames := 0, cells := 0, slots := 0, locals := 0 }, "fill", false)
abbrev mJ9_floorMod_7cf53 : Mi := (RJ9, cJ9_floorMod_7cf53, 3, (some .int), { frames := 0, cells := 0, slots := 0, locals := 0 }, "floorMod", false)
abbrev mX0_allows : Mi := (RX0, cX0_allows, 3, (some .boolean), { frames := 0, cells := 0, slots := 0, locals := 0 }, "allows", false)
abbrev mX0_blended : Mi := (RX0, cX0_blended, 4, (some .int), { frames := 2, cells := 0, slots := 0, locals := 43 }, "blended", false)
abbrev mX0_farFrom : Mi := (RX0, cX0_farFrom, 5, (some .long), { frames := 1, cells := 0, slots := 0, locals := 23 }, "farFrom", false)
abbrev mX0_farTurned : Mi := (RX0, cX0_farTurned, 16, (some .long), { frames := 2, cells := 0, slots := 0, locals := 42 }, "farTurned", false)
abbrev mX0_init : Mi := (RX0, cX0_init, 6, none, { frames := 1, cells := 0, slots := 0, locals := 20 }, "<init>", false)
abbrev mX0_intoLimits : Mi := (RX0, cX0_intoLimits, 2, (some .int), { frames := 1, cells := 0, slots := 0, locals := 22 }, "intoLimits", false)
abbrev mX0_leastTurn : Mi := (RX0, cX0_leastTurn, 1, (some .int), { frames := 0, cells := 0, slots := 0, locals := 0 }, "leastTurn", false)
abbrev mX0_nearestTurn : Mi := (RX0, cX0_nearestTurn, 23, (some .int), { frames := 3, cells := 0, slots := 0, locals := 77 }, "nearestTurn", false)
abbrev mX0_place : Mi := (RX0, cX0_place, 11, none, { frames := 2, cells := 0, slots := 0, locals := 42 }, "place", false)
abbrev mX0_takeTurn : Mi := (RX0, cX0_takeTurn, 2, (some .int), { frames := 2, cells := 0, slots := 0, locals := 43 }, "takeTurn", false)
abbrev mX1_init : Mi := (RX1, cX1_init, 1, none, { frames := 1, cells := 31, slots := 330, locals := 20 }, "<init>", true)
abbrev mX2_digestOn : Mi := (RX2, cX2_digestOn, 8, (some .long), { frames := 0, cells := 0, slots := 0, locals := 0 }, "digestOn", false)
abbrev mX2_find : Mi := (RX2, cX2_find, 2, (some (.object "BoneSteps$Clip")), { frames := 1, cells := 0, slots := 0, locals := 25 }, "find", false)
abbrev mX2_findFrame : Mi := (RX2, cX2_findFrame, 3, (some (.array .int)), { frames := 0, cells := 0, slots := 0, locals := 0 }, "findFrame", false)
abbrev mX2_findSlot : Mi := (RX2, cX2_findSlot, 2, (some (.array .int)), { frames := 1, cells := 0, slots := 0, locals := 22 }, "findSlot", false)
abbrev mX2_init : Mi := (RX2, cX2_init, 2, none, { frames := 2, cells := 193, slots := 1998, locals := 40 }, "<init>", true)
abbrev mX2_likeness : Mi := (RX2, cX2_likeness, 6, (some .int), { frames := 1, cells := 0, slots := 0, locals := 22 }, "likeness", false)
abbrev mX2_total : Mi := (RX2, cX2_total, 3, (some .int), { frames := 0, cells := 0, slots := 0, locals := 0 }, "total", false)
abbrev mX3_begin : Mi := (RX3, cX3_begin, 4, none, { frames := 2, cells := 0, slots := 0, locals := 43 }, "begin", false)
abbrev mX3_findWalk : Mi := (RX3, cX3_findWalk, 6, none, { frames := 4, cells := 0, slots := 0, locals := 99 }, "findWalk", false)
abbrev mX3_init : Mi := (RX3, cX3_init, 1, none, { frames := 1, cells := 5, slots := 900, locals := 20 }, "<init>", true)
abbrev mX3_isJoined : Mi := (RX3, cX3_isJoined, 6, (some .boolean), { frames := 2, cells := 0, slots := 0, locals := 47 }, "isJoined", false)
abbrev mX3_keepPath : Mi := (RX3, cX3_keepPath, 5, none, { frames := 0, cells := 0, slots := 0, locals := 0 }, "keepPath", false)
abbrev mX3_lastJoined : Mi := (RX3, cX3_lastJoined, 5, (some .int), { frames := 3, cells := 0, slots := 0, locals := 72 }, "lastJoined", false)
abbrev mX3_nearestOpen : Mi := (RX3, cX3_nearestOpen, 5, (some .int), { frames := 0, cells := 0, slots := 0, locals := 0 }, "nearestOpen", false)
abbrev mX3_reachFrom : Mi := (RX3, cX3_reachFrom, 7, none, { frames := 3, cells := 0, slots := 0, locals := 73 }, "reachFrom", false)
abbrev mX3_wayCost : Mi := (RX3, cX3_wayCost, 7, (some .int), { frames := 2, cells := 0, slots := 0, locals := 47 }, "wayCost", false)
abbrev mX4_findKeys : Mi := (RX4, cX4_findKeys, 6, none, { frames := 5, cells := 0, slots := 0, locals := 118 }, "findKeys", false)
abbrev mX4_init : Mi := (RX4, cX4_init, 1, none, { frames := 1, cells := 1, slots := 30, locals := 20 }, "<init>", true)
abbrev mX4_keepKeys : Mi := (RX4, cX4_keepKeys, 3, none, { frames := 1, cells := 0, slots := 0, locals := 40 }, "keepKeys", false)
abbrev mX4_nextKey : Mi := (RX4, cX4_nextKey, 5, (some .int), { frames := 4, cells := 0, slots := 0, locals := 94 }, "nextKey", false)
abbrev mX4_spans : Mi := (RX4, cX4_spans, 9, (some .boolean), { frames := 3, cells := 0, slots := 0, locals := 66 }, "spans", false)
abbrev mX5_begin : Mi := (RX5, cX5_begin, 3, none, { frames := 1, cells := 0, slots := 0, locals := 23 }, "begin", false)
abbrev mX5_holds : Mi := (RX5, cX5_holds, 3, (some .boolean), { frames := 0, cells := 0, slots := 0, locals := 0 }, "holds", false)
abbrev mX5_init : Mi := (RX5, cX5_init, 1, none, { frames := 1, cells := 1, slots := 60, locals := 20 }, "<init>", true)
abbrev mX5_store : Mi := (RX5, cX5_store, 3, none, { frames := 0, cells := 0, slots := 0, locals := 0 }, "store", false)
abbrev mX5_wrongItem : Mi := (RX5, cX5_wrongItem, 3, (some .int), { frames := 1, cells := 0, slots := 0, locals := 25 }, "wrongItem", false)
abbrev mX5_wrongPose : Mi := (RX5, cX5_wrongPose, 3, (some .int), { frames := 1, cells := 0, slots := 0, locals := 22 }, "wrongPose", false)
abbrev mX6_addDifference : Mi := (RX6, cX6_addDifference, 6, (some .int), { frames := 5, cells := 0, slots := 0, locals := 118 }, "addDifference", false)
abbrev mX6_blendWith : Mi := (RX6, cX6_blendWith, 5, none, { frames := 5, cells := 0, slots := 0, locals := 118 }, "blendWith", false)
abbrev mX6_digestOn : Mi := (RX6, cX6_digestOn, 6, (some .long), { frames := 0, cells := 0, slots := 0, locals := 0 }, "digestOn", false)
abbrev mX6_find : Mi := (RX6, cX6_find, 2, (some (.object "BoneSteps$Bone")), { frames := 1, cells := 0, slots := 0, locals := 25 }, "find", false)
abbrev mX6_grow : Mi := (RX6, cX6_grow, 2, (some .int), { frames := 3, cells := 0, slots := 0, locals := 72 }, "grow", false)
abbrev mX6_init : Mi := (RX6, cX6_init, 1, none, { frames := 1, cells := 1, slots := 10, locals := 20 }, "<init>", true)
abbrev mX6_moveRoot : Mi := (RX6, cX6_moveRoot, 5, none, { frames := 4, cells := 0, slots := 0, locals := 93 }, "moveRoot", false)
abbrev mX6_place : Mi := (RX6, cX6_place, 2, none, { frames := 3, cells := 0, slots := 0, locals := 72 }, "place", false)
abbrev mX6_reachByRound : Mi := (RX6, cX6_reachByRound, 9, (some .boolean), { frames := 4, cells := 0, slots := 0, locals := 119 }, "reachByRound", false)
abbrev mX6_reachByRounds : Mi := (RX6, cX6_reachByRounds, 9, none, { frames := 5, cells := 0, slots := 0, locals := 147 }, "reachByRounds", false)
abbrev mX6_reachByTwo : Mi := (RX6, cX6_reachByTwo, 12, none, { frames := 4, cells := 0, slots := 0, locals := 119 }, "reachByTwo", false)
abbrev mX6_settle : Mi := (RX6, cX6_settle, 6, none, { frames := 4, cells := 0, slots := 0, locals := 93 }, "settle", false)
abbrev mX6_takeItems : Mi := (RX6, cX6_takeItems, 5, (some .int), { frames := 5, cells := 0, slots := 0, locals := 118 }, "takeItems", false)
abbrev mX6_takeTurns : Mi := (RX6, cX6_takeTurns, 3, none, { frames := 5, cells := 0, slots := 0, locals := 118 }, "takeTurns", false)
abbrev mX6_tellTurns : Mi := (RX6, cX6_tellTurns, 3, none, { frames := 0, cells := 0, slots := 0, locals := 0 }, "tellTurns", false)
abbrev mX7_cosine : Mi := (RX7, cX7_cosine, 1, (some .int), { frames := 1, cells := 0, slots := 0, locals := 22 }, "cosine", false)
abbrev mX7_distance : Mi := (RX7, cX7_distance, 3, (some .int), { frames := 0, cells := 0, slots := 0, locals := 0 }, "distance", false)
abbrev mX7_normal : Mi := (RX7, cX7_normal, 1, (some .int), { frames := 1, cells := 0, slots := 0, locals := 22 }, "normal", false)
abbrev mX7_shortWay : Mi := (RX7, cX7_shortWay, 3, (some .int), { frames := 0, cells := 0, slots := 0, locals := 0 }, "shortWay", false)
abbrev mX7_sine : Mi := (RX7, cX7_sine, 1, (some .int), { frames := 1, cells := 0, slots := 0, locals := 22 }, "sine", false)
abbrev mX8_about : Mi := (RX8, cX8_about, 4, (some .int), { frames := 2, cells := 0, slots := 0, locals := 46 }, "about", false)
abbrev mX8_add : Mi := (RX8, cX8_add, 6, (some .int), { frames := 6, cells := 0, slots := 0, locals := 143 }, "add", false)
abbrev mX8_asLong : Mi := (RX8, cX8_asLong, 1, (some .long), { frames := 0, cells := 0, slots := 0, locals := 0 }, "asLong", false)
abbrev mX8_at : Mi := (RX8, cX8_at, 5, (some .int), { frames := 1, cells := 0, slots := 0, locals := 25 }, "at", false)
abbrev mX8_blend : Mi := (RX8, cX8_blend, 6, (some .int), { frames := 6, cells := 0, slots := 0, locals := 142 }, "blend", false)
abbrev mX8_bone : Mi := (RX8, cX8_bone, 6, (some .int), { frames := 4, cells := 1, slots := 14, locals := 93 }, "bone", true)
abbrev mX8_clear : Mi := (RX8, cX8_clear, 4, (some .int), { frames := 2, cells := 0, slots := 0, locals := 46 }, "clear", false)
abbrev mX8_copy : Mi := (RX8, cX8_copy, 8, (some .int), { frames := 2, cells := 0, slots := 0, locals := 46 }, "copy", false)
abbrev mX8_count : Mi := (RX8, cX8_count, 2, (some .int), { frames := 1, cells := 0, slots := 0, locals := 22 }, "count", false)
abbrev mX8_digest : Mi := (RX8, cX8_digest, 4, (some .long), { frames := 2, cells := 0, slots := 0, locals := 43 }, "digest", false)
abbrev mX8_end : Mi := (RX8, cX8_end, 4, (some .long), { frames := 2, cells := 0, slots := 0, locals := 46 }, "end", false)
abbrev mX8_far : Mi := (RX8, cX8_far, 7, (some .long), { frames := 2, cells := 0, slots := 0, locals := 48 }, "far", false)
abbrev mX8_findSheet : Mi := (RX8, cX8_findSheet, 2, (some (.object "BoneSteps$Sheet")), { frames := 1, cells := 0, slots := 0, locals := 25 }, "findSheet", false)
abbrev mX8_found : Mi := (RX8, cX8_found, 2, (some .int), { frames := 0, cells := 0, slots := 0, locals := 0 }, "found", false)
abbrev mX8_frame : Mi := (RX8, cX8_frame, 3, (some .int), { frames := 2, cells := 0, slots := 0, locals := 46 }, "frame", false)
abbrev mX8_get : Mi := (RX8, cX8_get, 6, (some .int), { frames := 2, cells := 0, slots := 0, locals := 47 }, "get", false)
abbrev mX8_init : Mi := (RX8, cX8_init, 2, none, { frames := 3, cells := 213, slots := 3216, locals := 61 }, "<init>", true)
abbrev mX8_isForm : Mi := (RX8, cX8_isForm, 1, (some .boolean), { frames := 1, cells := 0, slots := 0, locals := 25 }, "isForm", false)
abbrev mX8_isIn : Mi := (RX8, cX8_isIn, 6, (some .boolean), { frames := 0, cells := 0, slots := 0, locals := 0 }, "isIn", false)
abbrev mX8_isLive : Mi := (RX8, cX8_isLive, 3, (some .int), { frames := 4, cells := 0, slots := 0, locals := 96 }, "isLive", false)
abbrev mX8_isPlace : Mi := (RX8, cX8_isPlace, 4, (some .boolean), { frames := 1, cells := 0, slots := 0, locals := 25 }, "isPlace", false)
abbrev mX8_isTurn : Mi := (RX8, cX8_isTurn, 1, (some .boolean), { frames := 1, cells := 0, slots := 0, locals := 25 }, "isTurn", false)
abbrev mX8_join : Mi := (RX8, cX8_join, 3, (some .int), { frames := 1, cells := 0, slots := 0, locals := 25 }, "join", false)
abbrev mX8_key : Mi := (RX8, cX8_key, 2, (some .int), { frames := 1, cells := 0, slots := 0, locals := 25 }, "key", false)
abbrev mX8_like : Mi := (RX8, cX8_like, 7, (some .int), { frames := 2, cells := 0, slots := 0, locals := 47 }, "like", false)
abbrev mX8_live : Mi := (RX8, cX8_live, 3, (some .int), { frames := 4, cells := 0, slots := 0, locals := 96 }, "live", false)
abbrev mX8_lock : Mi := (RX8, cX8_lock, 3, (some .int), { frames := 2, cells := 0, slots := 0, locals := 46 }, "lock", false)
abbrev mX8_lose : Mi := (RX8, cX8_lose, 3, (some .int), { frames := 2, cells := 0, slots := 0, locals := 46 }, "lose", false)
abbrev mX8_pack : Mi := (RX8, cX8_pack, 4, (some .int), { frames := 6, cells := 0, slots := 0, locals := 143 }, "pack", false)
abbrev mX8_pose : Mi := (RX8, cX8_pose, 5, (some .int), { frames := 6, cells := 0, slots := 0, locals := 142 }, "pose", false)
abbrev mX8_put : Mi := (RX8, cX8_put, 7, (some .int), { frames := 2, cells := 0, slots := 0, locals := 47 }, "put", false)
abbrev mX8_root : Mi := (RX8, cX8_root, 5, (some .int), { frames := 5, cells := 0, slots := 0, locals := 117 }, "root", false)
abbrev mX8_rounds : Mi := (RX8, cX8_rounds, 8, (some .long), { frames := 6, cells := 0, slots := 0, locals := 175 }, "rounds", false)
abbrev mX8_sheet : Mi := (RX8, cX8_sheet, 5, (some .int), { frames := 2, cells := 0, slots := 0, locals := 46 }, "sheet", false)
abbrev mX8_show : Mi := (RX8, cX8_show, 4, (some .int), { frames := 6, cells := 0, slots := 0, locals := 140 }, "show", false)
abbrev mX8_step : Mi := (RX8, cX8_step, 2, (some .int), { frames := 1, cells := 0, slots := 0, locals := 25 }, "step", false)
abbrev mX8_thin : Mi := (RX8, cX8_thin, 5, (some .int), { frames := 6, cells := 0, slots := 0, locals := 143 }, "thin", false)
abbrev mX8_turn : Mi := (RX8, cX8_turn, 5, (some .int), { frames := 5, cells := 0, slots := 0, locals := 118 }, "turn", false)
abbrev mX8_two : Mi := (RX8, cX8_two, 7, (some .long), { frames := 5, cells := 0, slots := 0, locals := 150 }, "two", false)
abbrev mX8_walk : Mi := (RX8, cX8_walk, 5, (some .int), { frames := 5, cells := 0, slots := 0, locals := 124 }, "walk", false)
abbrev mX8_write : Mi := (RX8, cX8_write, 6, (some .int), { frames := 2, cells := 0, slots := 0, locals := 46 }, "write", false)
abbrev mX9_about : Mi := (RX9, cX9_about, 3, (some .int), { frames := 2, cells := 0, slots := 0, locals := 46 }, "about", false)
abbrev mX9_add : Mi := (RX9, cX9_add, 7, (some .int), { frames := 3, cells := 0, slots := 0, locals := 67 }, "add", false)
abbrev mX9_amount : Mi := (RX9, cX9_amount, 1, (some .int), { frames := 0, cells := 0, slots := 0, locals := 0 }, "amount", false)
abbrev mX9_at : Mi := (RX9, cX9_at, 4, (some .int), { frames := 3, cells := 0, slots := 0, locals := 67 }, "at", false)
abbrev mX9_blend : Mi := (RX9, cX9_blend, 6, (some .int), { frames := 4, cells := 0, slots := 0, locals := 90 }, "blend", false)
abbrev mX9_blended : Mi := (RX9, cX9_blended, 5, (some .int), { frames := 3, cells := 0, slots := 0, locals := 66 }, "blended", false)
abbrev mX9_bone : Mi := (RX9, cX9_bone, 6, (some .int), { frames := 1, cells := 0, slots := 0, locals := 25 }, "bone", false)
abbrev mX9_clear : Mi := (RX9, cX9_clear, 3, (some .int), { frames := 2, cells := 0, slots := 0, locals := 45 }, "clear", false)
abbrev mX9_copy : Mi := (RX9, cX9_copy, 7, (some .int), { frames := 2, cells := 0, slots := 0, locals := 45 }, "copy", false)
abbrev mX9_count : Mi := (RX9, cX9_count, 2, (some .int), { frames := 1, cells := 0, slots := 0, locals := 22 }, "count", false)
abbrev mX9_digest : Mi := (RX9, cX9_digest, 6, (some .long), { frames := 2, cells := 0, slots := 0, locals := 43 }, "digest", false)
abbrev mX9_end : Mi := (RX9, cX9_end, 3, (some .long), { frames := 1, cells := 0, slots := 0, locals := 30 }, "end", false)
abbrev mX9_far : Mi := (RX9, cX9_far, 6, (some .long), { frames := 2, cells := 0, slots := 0, locals := 59 }, "far", false)
abbrev mX9_farOf : Mi := (RX9, cX9_farOf, 10, (some .long), { frames := 1, cells := 0, slots := 0, locals := 30 }, "farOf", false)
abbrev mX9_findCosts : Mi := (RX9, cX9_findCosts, 5, none, { frames := 3, cells := 0, slots := 0, locals := 67 }, "findCosts", false)
abbrev mX9_findDistances : Mi := (RX9, cX9_findDistances, 5, none, { frames := 4, cells := 0, slots := 0, locals := 91 }, "findDistances", false)
abbrev mX9_findKeys : Mi := (RX9, cX9_findKeys, 6, none, { frames := 5, cells := 0, slots := 0, locals := 118 }, "findKeys", false)
abbrev mX9_findLive : Mi := (RX9, cX9_findLive, 6, (some .int), { frames := 4, cells := 0, slots := 0, locals := 91 }, "findLive", false)
abbrev mX9_frame : Mi := (RX9, cX9_frame, 3, (some .int), { frames := 2, cells := 0, slots := 0, locals := 45 }, "frame", false)
abbrev mX9_frames : Mi := (RX9, cX9_frames, 3, (some .int), { frames := 0, cells := 0, slots := 0, locals := 0 }, "frames", false)
abbrev mX9_get : Mi := (RX9, cX9_get, 4, (some .int), { frames := 2, cells := 0, slots := 0, locals := 48 }, "get", false)
abbrev mX9_hold : Mi := (RX9, cX9_hold, 1, none, { frames := 1, cells := 0, slots := 0, locals := 30 }, "hold", false)
abbrev mX9_holds : Mi := (RX9, cX9_holds, 9, (some .boolean), { frames := 4, cells := 0, slots := 0, locals := 90 }, "holds", false)
abbrev mX9_in : Mi := (RX9, cX9_in, 6, (some .boolean), { frames := 0, cells := 0, slots := 0, locals := 0 }, "in", false)
abbrev mX9_init : Mi := (RX9, cX9_init, 2, none, { frames := 1, cells := 40, slots := 40000, locals := 20 }, "<init>", true)
abbrev mX9_intoLimits : Mi := (RX9, cX9_intoLimits, 4, (some .int), { frames := 2, cells := 0, slots := 0, locals := 43 }, "intoLimits", false)
abbrev mX9_isBone : Mi := (RX9, cX9_isBone, 2, (some .boolean), { frames := 1, cells := 0, slots := 0, locals := 25 }, "isBone", false)
abbrev mX9_isClip : Mi := (RX9, cX9_isClip, 1, (some .boolean), { frames := 1, cells := 0, slots := 0, locals := 25 }, "isClip", false)
abbrev mX9_isFrame : Mi := (RX9, cX9_isFrame, 3, (some .boolean), { frames := 2, cells := 0, slots := 0, locals := 45 }, "isFrame", false)
abbrev mX9_isLive : Mi := (RX9, cX9_isLive, 4, (some .int), { frames := 5, cells := 0, slots := 0, locals := 116 }, "isLive", false)
abbrev mX9_isNode : Mi := (RX9, cX9_isNode, 2, (some .boolean), { frames := 0, cells := 0, slots := 0, locals := 0 }, "isNode", false)
abbrev mX9_isPlace : Mi := (RX9, cX9_isPlace, 4, (some .boolean), { frames := 1, cells := 0, slots := 0, locals := 25 }, "isPlace", false)
abbrev mX9_isSheet : Mi := (RX9, cX9_isSheet, 1, (some .boolean), { frames := 1, cells := 0, slots := 0, locals := 25 }, "isSheet", false)
abbrev mX9_isWithin : Mi := (RX9, cX9_isWithin, 3, (some .boolean), { frames := 1, cells := 0, slots := 0, locals := 21 }, "isWithin", false)
abbrev mX9_join : Mi := (RX9, cX9_join, 3, (some .int), { frames := 1, cells := 0, slots := 0, locals := 25 }, "join", false)
abbrev mX9_key : Mi := (RX9, cX9_key, 2, (some .int), { frames := 1, cells := 0, slots := 0, locals := 25 }, "key", false)
abbrev mX9_lacks : Mi := (RX9, cX9_lacks, 4, (some .int), { frames := 1, cells := 0, slots := 0, locals := 25 }, "lacks", false)
abbrev mX9_lacksRow : Mi := (RX9, cX9_lacksRow, 3, (some .int), { frames := 2, cells := 0, slots := 0, locals := 45 }, "lacksRow", false)
abbrev mX9_like : Mi := (RX9, cX9_like, 5, (some .int), { frames := 3, cells := 0, slots := 0, locals := 67 }, "like", false)
abbrev mX9_likeness : Mi := (RX9, cX9_likeness, 5, (some .int), { frames := 2, cells := 0, slots := 0, locals := 43 }, "likeness", false)
abbrev mX9_live : Mi := (RX9, cX9_live, 1, (some .int), { frames := 5, cells := 0, slots := 0, locals := 116 }, "live", false)
abbrev mX9_lock : Mi := (RX9, cX9_lock, 3, (some .int), { frames := 1, cells := 0, slots := 0, locals := 25 }, "lock", false)
abbrev mX9_lose : Mi := (RX9, cX9_lose, 2, (some .int), { frames := 2, cells := 0, slots := 0, locals := 45 }, "lose", false)
abbrev mX9_met : Mi := (RX9, cX9_met, 2, (some .int), { frames := 0, cells := 0, slots := 0, locals := 0 }, "met", false)
abbrev mX9_no : Mi := (RX9, cX9_no, 1, (some .long), { frames := 0, cells := 0, slots := 0, locals := 0 }, "no", false)
abbrev mX9_pack : Mi := (RX9, cX9_pack, 3, (some .int), { frames := 6, cells := 0, slots := 0, locals := 143 }, "pack", false)
abbrev mX9_place : Mi := (RX9, cX9_place, 11, none, { frames := 0, cells := 0, slots := 0, locals := 0 }, "place", false)
abbrev mX9_pose : Mi := (RX9, cX9_pose, 7, (some .int), { frames := 3, cells := 0, slots := 0, locals := 67 }, "pose", false)
abbrev mX9_put : Mi := (RX9, cX9_put, 6, (some .int), { frames := 2, cells := 0, slots := 0, locals := 48 }, "put", false)
abbrev mX9_root : Mi := (RX9, cX9_root, 5, (some .int), { frames := 2, cells := 0, slots := 0, locals := 48 }, "root", false)
abbrev mX9_round : Mi := (RX9, cX9_round, 2, (some .int), { frames := 0, cells := 0, slots := 0, locals := 0 }, "round", false)
abbrev mX9_rounds : Mi := (RX9, cX9_rounds, 15, (some .long), { frames := 2, cells := 0, slots := 0, locals := 59 }, "rounds", false)
abbrev mX9_settle : Mi := (RX9, cX9_settle, 1, none, { frames := 1, cells := 0, slots := 0, locals := 30 }, "settle", false)
abbrev mX9_sheet : Mi := (RX9, cX9_sheet, 5, (some .int), { frames := 2, cells := 0, slots := 0, locals := 45 }, "sheet", false)
abbrev mX9_shortWay : Mi := (RX9, cX9_shortWay, 3, (some .int), { frames := 1, cells := 0, slots := 0, locals := 21 }, "shortWay", false)
abbrev mX9_show : Mi := (RX9, cX9_show, 4, (some .int), { frames := 3, cells := 0, slots := 0, locals := 67 }, "show", false)
abbrev mX9_spot : Mi := (RX9, cX9_spot, 2, (some .int), { frames := 0, cells := 0, slots := 0, locals := 0 }, "spot", false)
abbrev mX9_step : Mi := (RX9, cX9_step, 2, (some .int), { frames := 1, cells := 0, slots := 0, locals := 25 }, "step", false)
abbrev mX9_thin : Mi := (RX9, cX9_thin, 6, (some .int), { frames := 6, cells := 0, slots := 0, locals := 143 }, "thin", false)
abbrev mX9_turn : Mi := (RX9, cX9_turn, 4, (some .int), { frames := 2, cells := 0, slots := 0, locals := 50 }, "turn", false)
abbrev mX9_two : Mi := (RX9, cX9_two, 15, (some .long), { frames := 2, cells := 0, slots := 0, locals := 59 }, "two", false)
abbrev mX9_walk : Mi := (RX9, cX9_walk, 8, (some .int), { frames := 5, cells := 0, slots := 0, locals := 115 }, "walk", false)
abbrev mX9_write : Mi := (RX9, cX9_write, 5, (some .int), { frames := 3, cells := 0, slots := 0, locals := 67 }, "write", false)
def LkS (own : String) (idx : Nat) (y : MethodName) (M' : Mi) (n : Nat) : Prop := LkB y M' n ∧ Cond.methodLink own idx y ∈ tb ∧ Cond.static y ∈ tb
def LkSN (own : String) (idx : Nat) (y : MethodName) (M' : Mi) (n : Nat) : Prop := LkB y M' n ∧ (∃ host, (own, idx, y, host) ∈ nwL) ∧ Cond.static y ∈ tb
def LkV (own : String) (idx : Nat) (y : MethodName) (M' : Mi) (n ci : Nat) : Prop := LkB y M' n ∧ Cond.methodLink own idx y ∈ tb ∧ Cond.instanceMethod y ∈ tb ∧ Cond.selects y.cls y y ∈ tb ∧ (∃ r0, vwCl[ci]? = some r0 ∧ r0.1 = y.cls) ∧ ci < 9
def LkI (own : String) (idx : Nat) (y : MethodName) (M' : Mi) (n : Nat) : Prop := LkB y M' n ∧ Cond.methodLink own idx y ∈ tb ∧ Cond.instanceMethod y ∈ tb
def LkIN (own : String) (idx : Nat) (y : MethodName) (M' : Mi) (n : Nat) : Prop := LkB y M' n ∧ (∃ host, (own, idx, y, host) ∈ nwL) ∧ Cond.instanceMethod y ∈ tb
theorem w_248 : (Cond.fieldLink RX0 19 RX0 "depth" "I" : Cond) ∈ tb := tb_at 248 (by decide +kernel) (by decide +kernel)
theorem fX0_19 : FL RX0 19 0 2 0 := ⟨by decide, rfl, RX0, TX0, 14, rfl, by decide, w_248, inX0⟩
theorem w_250 : (Cond.fieldLink RX0 22 RX0 "length" "I" : Cond) ∈ tb := tb_at 250 (by decide +kernel) (by decide +kernel)
theorem fX0_22 : FL RX0 22 0 3 0 := ⟨by decide, rfl, RX0, TX0, 14, rfl, by decide, w_250, inX0⟩
theorem w_252 : (Cond.fieldLink RX0 25 RX0 "low" "I" : Cond) ∈ tb := tb_at 252 (by decide +kernel) (by decide +kernel)
theorem fX0_25 : FL RX0 25 0 4 0 := ⟨by decide, rfl, RX0, TX0, 14, rfl, by decide, w_252, inX0⟩
theorem w_254 : (Cond.fieldLink RX0 28 RX0 "spread" "I" : Cond) ∈ tb := tb_at 254 (by decide +kernel) (by decide +kernel)
theorem fX0_28 : FL RX0 28 0 5 0 := ⟨by decide, rfl, RX0, TX0, 14, rfl, by decide, w_254, inX0⟩
theorem w_256 : (Cond.fieldLink RX0 31 RX0 "last" "I" : Cond) ∈ tb := tb_at 256 (by decide +kernel) (by decide +kernel)
theorem fX0_31 : FL RX0 31 0 6 0 := ⟨by decide, rfl, RX0, TX0, 14, rfl, by decide, w_256, inX0⟩
theorem w_257 : (Cond.fieldLink RX0 34 RX0 "turn" "I" : Cond) ∈ tb := tb_at 257 (by decide +kernel) (by decide +kernel)
theorem fX0_34 : FL RX0 34 0 7 0 := ⟨by decide, rfl, RX0, TX0, 14, rfl, by decide, w_257, inX0⟩
theorem w_266 : (Cond.fieldLink RX0 57 RX0 "endX" "J" : Cond) ∈ tb := tb_at 266 (by decide +kernel) (by decide +kernel)
theorem fX0_57 : FL RX0 57 0 12 1 := ⟨by decide, rfl, RX0, TX0, 14, rfl, by decide, w_266, inX0⟩
theorem w_260 : (Cond.fieldLink RX0 61 RX0 "startX" "J" : Cond) ∈ tb := tb_at 260 (by decide +kernel) (by decide +kernel)
theorem fX0_61 : FL RX0 61 0 8 1 := ⟨by decide, rfl, RX0, TX0, 14, rfl, by decide, w_260, inX0⟩
theorem w_269 : (Cond.fieldLink RX0 64 RX0 "endY" "J" : Cond) ∈ tb := tb_at 269 (by decide +kernel) (by decide +kernel)
theorem fX0_64 : FL RX0 64 0 13 1 := ⟨by decide, rfl, RX0, TX0, 14, rfl, by decide, w_269, inX0⟩
theorem w_261 : (Cond.fieldLink RX0 67 RX0 "startY" "J" : Cond) ∈ tb := tb_at 261 (by decide +kernel) (by decide +kernel)
theorem fX0_67 : FL RX0 67 0 9 1 := ⟨by decide, rfl, RX0, TX0, 14, rfl, by decide, w_261, inX0⟩
theorem w_262 : (Cond.fieldLink RX0 72 RX0 "directionX" "J" : Cond) ∈ tb := tb_at 262 (by decide +kernel) (by decide +kernel)
theorem fX0_72 : FL RX0 72 0 10 1 := ⟨by decide, rfl, RX0, TX0, 14, rfl, by decide, w_262, inX0⟩
theorem w_263 : (Cond.fieldLink RX0 75 RX0 "directionY" "J" : Cond) ∈ tb := tb_at 263 (by decide +kernel) (by decide +kernel)
theorem fX0_75 : FL RX0 75 0 11 1 := ⟨by decide, rfl, RX0, TX0, 14, rfl, by decide, w_263, inX0⟩
theorem w_244 : (Cond.fieldLink RX0 9 RX0 "parent" "LBoneSteps$Bone;" : Cond) ∈ tb := tb_at 244 (by decide +kernel) (by decide +kernel)
theorem fX0_9 : FL RX0 9 0 0 2 := ⟨by decide, rfl, RX0, TX0, 14, rfl, by decide, w_244, inX0⟩
theorem w_112 : (Cond.fieldLink RX2 11 RX2 "clips" "[LBoneSteps$Clip;" : Cond) ∈ tb := tb_at 112 (by decide +kernel) (by decide +kernel)
theorem fX2_11 : FL RX2 11 2 0 2 := ⟨by decide, rfl, RX2, TX2, 2, rfl, by decide, w_112, inX2⟩
theorem w_104 : (Cond.fieldLink RX2 24 RX1 "size" "I" : Cond) ∈ tb := tb_at 104 (by decide +kernel) (by decide +kernel)
theorem fX2_24 : FL RX2 24 1 1 0 := ⟨by decide, rfl, RX1, TX1, 2, rfl, by decide, w_104, inX1⟩
theorem w_100 : (Cond.fieldLink RX2 28 RX1 "frames" "[[I" : Cond) ∈ tb := tb_at 100 (by decide +kernel) (by decide +kernel)
theorem fX2_28 : FL RX2 28 1 0 2 := ⟨by decide, rfl, RX1, TX1, 2, rfl, by decide, w_100, inX1⟩
theorem w_113 : (Cond.fieldLink RX2 36 RX2 "width" "I" : Cond) ∈ tb := tb_at 113 (by decide +kernel) (by decide +kernel)
theorem fX2_36 : FL RX2 36 2 1 0 := ⟨by decide, rfl, RX2, TX2, 2, rfl, by decide, w_113, inX2⟩
theorem w_143 : (Cond.fieldLink RX3 15 RX3 "walkCost" "I" : Cond) ∈ tb := tb_at 143 (by decide +kernel) (by decide +kernel)
theorem fX3_15 : FL RX3 15 3 1 0 := ⟨by decide, rfl, RX3, TX3, 9, rfl, by decide, w_143, inX3⟩
theorem w_145 : (Cond.fieldLink RX3 18 RX3 "path" "[I" : Cond) ∈ tb := tb_at 145 (by decide +kernel) (by decide +kernel)
theorem fX3_18 : FL RX3 18 3 2 2 := ⟨by decide, rfl, RX3, TX3, 9, rfl, by decide, w_145, inX3⟩
theorem w_149 : (Cond.fieldLink RX3 22 RX3 "slots" "[I" : Cond) ∈ tb := tb_at 149 (by decide +kernel) (by decide +kernel)
theorem fX3_22 : FL RX3 22 3 4 2 := ⟨by decide, rfl, RX3, TX3, 9, rfl, by decide, w_149, inX3⟩
theorem w_151 : (Cond.fieldLink RX3 25 RX3 "costs" "[I" : Cond) ∈ tb := tb_at 151 (by decide +kernel) (by decide +kernel)
theorem fX3_25 : FL RX3 25 3 6 2 := ⟨by decide, rfl, RX3, TX3, 9, rfl, by decide, w_151, inX3⟩
theorem w_152 : (Cond.fieldLink RX3 28 RX3 "followers" "[I" : Cond) ∈ tb := tb_at 152 (by decide +kernel) (by decide +kernel)
theorem fX3_28 : FL RX3 28 3 7 2 := ⟨by decide, rfl, RX3, TX3, 9, rfl, by decide, w_152, inX3⟩
theorem w_153 : (Cond.fieldLink RX3 31 RX3 "settled" "[Z" : Cond) ∈ tb := tb_at 153 (by decide +kernel) (by decide +kernel)
theorem fX3_31 : FL RX3 31 3 8 2 := ⟨by decide, rfl, RX3, TX3, 9, rfl, by decide, w_153, inX3⟩
theorem w_150 : (Cond.fieldLink RX3 57 RX3 "slotCount" "I" : Cond) ∈ tb := tb_at 150 (by decide +kernel) (by decide +kernel)
theorem fX3_57 : FL RX3 57 3 5 0 := ⟨by decide, rfl, RX3, TX3, 9, rfl, by decide, w_150, inX3⟩
theorem w_141 : (Cond.fieldLink RX3 9 RX3 "join" "I" : Cond) ∈ tb := tb_at 141 (by decide +kernel) (by decide +kernel)
theorem fX3_9 : FL RX3 9 3 0 0 := ⟨by decide, rfl, RX3, TX3, 9, rfl, by decide, w_141, inX3⟩
theorem w_128 : (Cond.fieldLink RX4 15 RX4 "size" "I" : Cond) ∈ tb := tb_at 128 (by decide +kernel) (by decide +kernel)
theorem fX4_15 : FL RX4 15 4 1 0 := ⟨by decide, rfl, RX4, TX4, 2, rfl, by decide, w_128, inX4⟩
theorem w_103 : (Cond.fieldLink RX4 19 RX1 "size" "I" : Cond) ∈ tb := tb_at 103 (by decide +kernel) (by decide +kernel)
theorem fX4_19 : FL RX4 19 1 1 0 := ⟨by decide, rfl, RX1, TX1, 2, rfl, by decide, w_103, inX1⟩
theorem w_66 : (Cond.fieldLink RX4 30 RX6 "size" "I" : Cond) ∈ tb := tb_at 66 (by decide +kernel) (by decide +kernel)
theorem fX4_30 : FL RX4 30 6 1 0 := ⟨by decide, rfl, RX6, TX6, 5, rfl, by decide, w_66, inX6⟩
theorem w_62 : (Cond.fieldLink RX4 33 RX6 "bones" "[LBoneSteps$Bone;" : Cond) ∈ tb := tb_at 62 (by decide +kernel) (by decide +kernel)
theorem fX4_33 : FL RX4 33 6 0 2 := ⟨by decide, rfl, RX6, TX6, 5, rfl, by decide, w_62, inX6⟩
theorem w_101 : (Cond.fieldLink RX4 37 RX1 "frames" "[[I" : Cond) ∈ tb := tb_at 101 (by decide +kernel) (by decide +kernel)
theorem fX4_37 : FL RX4 37 1 0 2 := ⟨by decide, rfl, RX1, TX1, 2, rfl, by decide, w_101, inX1⟩
theorem w_126 : (Cond.fieldLink RX4 9 RX4 "keys" "[I" : Cond) ∈ tb := tb_at 126 (by decide +kernel) (by decide +kernel)
theorem fX4_9 : FL RX4 9 4 0 2 := ⟨by decide, rfl, RX4, TX4, 2, rfl, by decide, w_126, inX4⟩
theorem w_183 : (Cond.fieldLink RX5 15 RX5 "lost" "Z" : Cond) ∈ tb := tb_at 183 (by decide +kernel) (by decide +kernel)
theorem fX5_15 : FL RX5 15 5 1 0 := ⟨by decide, rfl, RX5, TX5, 4, rfl, by decide, w_183, inX5⟩
theorem w_185 : (Cond.fieldLink RX5 25 RX5 "form" "I" : Cond) ∈ tb := tb_at 185 (by decide +kernel) (by decide +kernel)
theorem fX5_25 : FL RX5 25 5 2 0 := ⟨by decide, rfl, RX5, TX5, 4, rfl, by decide, w_185, inX5⟩
theorem w_187 : (Cond.fieldLink RX5 29 RX5 "size" "I" : Cond) ∈ tb := tb_at 187 (by decide +kernel) (by decide +kernel)
theorem fX5_29 : FL RX5 29 5 3 0 := ⟨by decide, rfl, RX5, TX5, 4, rfl, by decide, w_187, inX5⟩
theorem w_181 : (Cond.fieldLink RX5 9 RX5 "items" "[I" : Cond) ∈ tb := tb_at 181 (by decide +kernel) (by decide +kernel)
theorem fX5_9 : FL RX5 9 5 0 2 := ⟨by decide, rfl, RX5, TX5, 4, rfl, by decide, w_181, inX5⟩
theorem w_61 : (Cond.fieldLink RX6 11 RX6 "bones" "[LBoneSteps$Bone;" : Cond) ∈ tb := tb_at 61 (by decide +kernel) (by decide +kernel)
theorem fX6_11 : FL RX6 11 6 0 2 := ⟨by decide, rfl, RX6, TX6, 5, rfl, by decide, w_61, inX6⟩
theorem w_67 : (Cond.fieldLink RX6 17 RX6 "locked" "I" : Cond) ∈ tb := tb_at 67 (by decide +kernel) (by decide +kernel)
theorem fX6_17 : FL RX6 17 6 2 0 := ⟨by decide, rfl, RX6, TX6, 5, rfl, by decide, w_67, inX6⟩
theorem w_64 : (Cond.fieldLink RX6 21 RX6 "size" "I" : Cond) ∈ tb := tb_at 64 (by decide +kernel) (by decide +kernel)
theorem fX6_21 : FL RX6 21 6 1 0 := ⟨by decide, rfl, RX6, TX6, 5, rfl, by decide, w_64, inX6⟩
theorem w_69 : (Cond.fieldLink RX6 28 RX6 "rootX" "J" : Cond) ∈ tb := tb_at 69 (by decide +kernel) (by decide +kernel)
theorem fX6_28 : FL RX6 28 6 3 1 := ⟨by decide, rfl, RX6, TX6, 5, rfl, by decide, w_69, inX6⟩
theorem w_71 : (Cond.fieldLink RX6 32 RX6 "rootY" "J" : Cond) ∈ tb := tb_at 71 (by decide +kernel) (by decide +kernel)
theorem fX6_32 : FL RX6 32 6 4 1 := ⟨by decide, rfl, RX6, TX6, 5, rfl, by decide, w_71, inX6⟩
theorem w_264 : (Cond.fieldLink RX6 45 RX0 "endX" "J" : Cond) ∈ tb := tb_at 264 (by decide +kernel) (by decide +kernel)
theorem fX6_45 : FL RX6 45 0 12 1 := ⟨by decide, rfl, RX0, TX0, 14, rfl, by decide, w_264, inX0⟩
theorem w_267 : (Cond.fieldLink RX6 48 RX0 "endY" "J" : Cond) ∈ tb := tb_at 267 (by decide +kernel) (by decide +kernel)
theorem fX6_48 : FL RX6 48 0 13 1 := ⟨by decide, rfl, RX0, TX0, 14, rfl, by decide, w_267, inX0⟩
theorem w_259 : (Cond.fieldLink RX6 51 RX0 "turn" "I" : Cond) ∈ tb := tb_at 259 (by decide +kernel) (by decide +kernel)
theorem fX6_51 : FL RX6 51 0 7 0 := ⟨by decide, rfl, RX0, TX0, 14, rfl, by decide, w_259, inX0⟩
theorem w_245 : (Cond.fieldLink RX6 74 RX0 "parent" "LBoneSteps$Bone;" : Cond) ∈ tb := tb_at 245 (by decide +kernel) (by decide +kernel)
theorem fX6_74 : FL RX6 74 0 0 2 := ⟨by decide, rfl, RX0, TX0, 14, rfl, by decide, w_245, inX0⟩
theorem w_311 : (Cond.fieldLink RX7 15 RX7 "COSINES" "[I" : Cond) ∈ tb := tb_at 311 (by decide +kernel) (by decide +kernel)
theorem fsX7_15 : Cond.fieldLink RX7 15 RX7 "COSINES" "[I" ∈ tb := w_311
theorem w_68 : (Cond.fieldLink RX8 106 RX6 "locked" "I" : Cond) ∈ tb := tb_at 68 (by decide +kernel) (by decide +kernel)
theorem fX8_106 : FL RX8 106 6 2 0 := ⟨by decide, rfl, RX6, TX6, 5, rfl, by decide, w_68, inX6⟩
theorem w_70 : (Cond.fieldLink RX8 117 RX6 "rootX" "J" : Cond) ∈ tb := tb_at 70 (by decide +kernel) (by decide +kernel)
theorem fX8_117 : FL RX8 117 6 3 1 := ⟨by decide, rfl, RX6, TX6, 5, rfl, by decide, w_70, inX6⟩
theorem w_198 : (Cond.fieldLink RX8 12 RX8 "skeleton" "LBoneSteps$Skeleton;" : Cond) ∈ tb := tb_at 198 (by decide +kernel) (by decide +kernel)
theorem fX8_12 : FL RX8 12 7 0 2 := ⟨by decide, rfl, RX8, TX8, 6, rfl, by decide, w_198, inX8⟩
theorem w_72 : (Cond.fieldLink RX8 121 RX6 "rootY" "J" : Cond) ∈ tb := tb_at 72 (by decide +kernel) (by decide +kernel)
theorem fX8_121 : FL RX8 121 6 4 1 := ⟨by decide, rfl, RX6, TX6, 5, rfl, by decide, w_72, inX6⟩
theorem w_265 : (Cond.fieldLink RX8 124 RX0 "endX" "J" : Cond) ∈ tb := tb_at 265 (by decide +kernel) (by decide +kernel)
theorem fX8_124 : FL RX8 124 0 12 1 := ⟨by decide, rfl, RX0, TX0, 14, rfl, by decide, w_265, inX0⟩
theorem w_268 : (Cond.fieldLink RX8 127 RX0 "endY" "J" : Cond) ∈ tb := tb_at 268 (by decide +kernel) (by decide +kernel)
theorem fX8_127 : FL RX8 127 0 13 1 := ⟨by decide, rfl, RX0, TX0, 14, rfl, by decide, w_268, inX0⟩
theorem w_105 : (Cond.fieldLink RX8 147 RX1 "size" "I" : Cond) ∈ tb := tb_at 105 (by decide +kernel) (by decide +kernel)
theorem fX8_147 : FL RX8 147 1 1 0 := ⟨by decide, rfl, RX1, TX1, 2, rfl, by decide, w_105, inX1⟩
theorem w_102 : (Cond.fieldLink RX8 150 RX1 "frames" "[[I" : Cond) ∈ tb := tb_at 102 (by decide +kernel) (by decide +kernel)
theorem fX8_150 : FL RX8 150 1 0 2 := ⟨by decide, rfl, RX1, TX1, 2, rfl, by decide, w_102, inX1⟩
theorem w_129 : (Cond.fieldLink RX8 189 RX4 "size" "I" : Cond) ∈ tb := tb_at 129 (by decide +kernel) (by decide +kernel)
theorem fX8_189 : FL RX8 189 4 1 0 := ⟨by decide, rfl, RX4, TX4, 2, rfl, by decide, w_129, inX4⟩
theorem w_199 : (Cond.fieldLink RX8 19 RX8 "clips" "LBoneSteps$Clips;" : Cond) ∈ tb := tb_at 199 (by decide +kernel) (by decide +kernel)
theorem fX8_19 : FL RX8 19 7 1 2 := ⟨by decide, rfl, RX8, TX8, 6, rfl, by decide, w_199, inX8⟩
theorem w_127 : (Cond.fieldLink RX8 190 RX4 "keys" "[I" : Cond) ∈ tb := tb_at 127 (by decide +kernel) (by decide +kernel)
theorem fX8_190 : FL RX8 190 4 0 2 := ⟨by decide, rfl, RX4, TX4, 2, rfl, by decide, w_127, inX4⟩
theorem w_142 : (Cond.fieldLink RX8 198 RX3 "join" "I" : Cond) ∈ tb := tb_at 142 (by decide +kernel) (by decide +kernel)
theorem fX8_198 : FL RX8 198 3 0 0 := ⟨by decide, rfl, RX3, TX3, 9, rfl, by decide, w_142, inX3⟩
theorem w_144 : (Cond.fieldLink RX8 209 RX3 "walkCost" "I" : Cond) ∈ tb := tb_at 144 (by decide +kernel) (by decide +kernel)
theorem fX8_209 : FL RX8 209 3 1 0 := ⟨by decide, rfl, RX3, TX3, 9, rfl, by decide, w_144, inX3⟩
theorem w_148 : (Cond.fieldLink RX8 212 RX3 "pathSize" "I" : Cond) ∈ tb := tb_at 148 (by decide +kernel) (by decide +kernel)
theorem fX8_212 : FL RX8 212 3 3 0 := ⟨by decide, rfl, RX3, TX3, 9, rfl, by decide, w_148, inX3⟩
theorem w_146 : (Cond.fieldLink RX8 215 RX3 "path" "[I" : Cond) ∈ tb := tb_at 146 (by decide +kernel) (by decide +kernel)
theorem fX8_215 : FL RX8 215 3 2 2 := ⟨by decide, rfl, RX3, TX3, 9, rfl, by decide, w_146, inX3⟩
theorem w_184 : (Cond.fieldLink RX8 233 RX5 "lost" "Z" : Cond) ∈ tb := tb_at 184 (by decide +kernel) (by decide +kernel)
theorem fX8_233 : FL RX8 233 5 1 0 := ⟨by decide, rfl, RX5, TX5, 4, rfl, by decide, w_184, inX5⟩
theorem w_188 : (Cond.fieldLink RX8 237 RX5 "size" "I" : Cond) ∈ tb := tb_at 188 (by decide +kernel) (by decide +kernel)
theorem fX8_237 : FL RX8 237 5 3 0 := ⟨by decide, rfl, RX5, TX5, 4, rfl, by decide, w_188, inX5⟩
theorem w_182 : (Cond.fieldLink RX8 246 RX5 "items" "[I" : Cond) ∈ tb := tb_at 182 (by decide +kernel) (by decide +kernel)
theorem fX8_246 : FL RX8 246 5 0 2 := ⟨by decide, rfl, RX5, TX5, 4, rfl, by decide, w_182, inX5⟩
theorem w_186 : (Cond.fieldLink RX8 249 RX5 "form" "I" : Cond) ∈ tb := tb_at 186 (by decide +kernel) (by decide +kernel)
theorem fX8_249 : FL RX8 249 5 2 0 := ⟨by decide, rfl, RX5, TX5, 4, rfl, by decide, w_186, inX5⟩
theorem w_200 : (Cond.fieldLink RX8 26 RX8 "packing" "LBoneSteps$Packing;" : Cond) ∈ tb := tb_at 200 (by decide +kernel) (by decide +kernel)
theorem fX8_26 : FL RX8 26 7 2 2 := ⟨by decide, rfl, RX8, TX8, 6, rfl, by decide, w_200, inX8⟩
theorem w_63 : (Cond.fieldLink RX8 269 RX6 "bones" "[LBoneSteps$Bone;" : Cond) ∈ tb := tb_at 63 (by decide +kernel) (by decide +kernel)
theorem fX8_269 : FL RX8 269 6 0 2 := ⟨by decide, rfl, RX6, TX6, 5, rfl, by decide, w_63, inX6⟩
theorem w_201 : (Cond.fieldLink RX8 33 RX8 "graph" "LBoneSteps$Graph;" : Cond) ∈ tb := tb_at 201 (by decide +kernel) (by decide +kernel)
theorem fX8_33 : FL RX8 33 7 3 2 := ⟨by decide, rfl, RX8, TX8, 6, rfl, by decide, w_201, inX8⟩
theorem w_202 : (Cond.fieldLink RX8 39 RX8 "sheets" "[LBoneSteps$Sheet;" : Cond) ∈ tb := tb_at 202 (by decide +kernel) (by decide +kernel)
theorem fX8_39 : FL RX8 39 7 4 2 := ⟨by decide, rfl, RX8, TX8, 6, rfl, by decide, w_202, inX8⟩
theorem w_203 : (Cond.fieldLink RX8 43 RX8 "finding" "I" : Cond) ∈ tb := tb_at 203 (by decide +kernel) (by decide +kernel)
theorem fX8_43 : FL RX8 43 7 5 0 := ⟨by decide, rfl, RX8, TX8, 6, rfl, by decide, w_203, inX8⟩
theorem w_249 : (Cond.fieldLink RX8 62 RX0 "depth" "I" : Cond) ∈ tb := tb_at 249 (by decide +kernel) (by decide +kernel)
theorem fX8_62 : FL RX8 62 0 2 0 := ⟨by decide, rfl, RX0, TX0, 14, rfl, by decide, w_249, inX0⟩
theorem w_65 : (Cond.fieldLink RX8 71 RX6 "size" "I" : Cond) ∈ tb := tb_at 65 (by decide +kernel) (by decide +kernel)
theorem fX8_71 : FL RX8 71 6 1 0 := ⟨by decide, rfl, RX6, TX6, 5, rfl, by decide, w_65, inX6⟩
theorem w_247 : (Cond.fieldLink RX8 81 RX0 "parentNumber" "I" : Cond) ∈ tb := tb_at 247 (by decide +kernel) (by decide +kernel)
theorem fX8_81 : FL RX8 81 0 1 0 := ⟨by decide, rfl, RX0, TX0, 14, rfl, by decide, w_247, inX0⟩
theorem w_251 : (Cond.fieldLink RX8 84 RX0 "length" "I" : Cond) ∈ tb := tb_at 251 (by decide +kernel) (by decide +kernel)
theorem fX8_84 : FL RX8 84 0 3 0 := ⟨by decide, rfl, RX0, TX0, 14, rfl, by decide, w_251, inX0⟩
theorem w_253 : (Cond.fieldLink RX8 87 RX0 "low" "I" : Cond) ∈ tb := tb_at 253 (by decide +kernel) (by decide +kernel)
theorem fX8_87 : FL RX8 87 0 4 0 := ⟨by decide, rfl, RX0, TX0, 14, rfl, by decide, w_253, inX0⟩
theorem w_255 : (Cond.fieldLink RX8 90 RX0 "spread" "I" : Cond) ∈ tb := tb_at 255 (by decide +kernel) (by decide +kernel)
theorem fX8_90 : FL RX8 90 0 5 0 := ⟨by decide, rfl, RX0, TX0, 14, rfl, by decide, w_255, inX0⟩
theorem w_258 : (Cond.fieldLink RX8 93 RX0 "turn" "I" : Cond) ∈ tb := tb_at 258 (by decide +kernel) (by decide +kernel)
theorem fX8_93 : FL RX8 93 0 7 0 := ⟨by decide, rfl, RX0, TX0, 14, rfl, by decide, w_258, inX0⟩
theorem w_696 : (Cond.fieldLink RX9 111 RX9 "bones" "I" : Cond) ∈ tb := tb_at 696 (by decide +kernel) (by decide +kernel)
theorem fX9_111 : FL RX9 111 8 2 0 := ⟨by decide, rfl, RX9, TX9, 35, rfl, by decide, w_696, inX9⟩
theorem w_695 : (Cond.fieldLink RX9 13 RX9 "ss" "[I" : Cond) ∈ tb := tb_at 695 (by decide +kernel) (by decide +kernel)
theorem fX9_13 : FL RX9 13 8 1 2 := ⟨by decide, rfl, RX9, TX9, 35, rfl, by decide, w_695, inX9⟩
theorem w_703 : (Cond.fieldLink RX9 140 RX9 "rootX" "J" : Cond) ∈ tb := tb_at 703 (by decide +kernel) (by decide +kernel)
theorem fX9_140 : FL RX9 140 8 9 1 := ⟨by decide, rfl, RX9, TX9, 35, rfl, by decide, w_703, inX9⟩
theorem w_704 : (Cond.fieldLink RX9 144 RX9 "rootY" "J" : Cond) ∈ tb := tb_at 704 (by decide +kernel) (by decide +kernel)
theorem fX9_144 : FL RX9 144 8 10 1 := ⟨by decide, rfl, RX9, TX9, 35, rfl, by decide, w_704, inX9⟩
theorem w_710 : (Cond.fieldLink RX9 150 RX9 "keptX" "J" : Cond) ∈ tb := tb_at 710 (by decide +kernel) (by decide +kernel)
theorem fX9_150 : FL RX9 150 8 16 1 := ⟨by decide, rfl, RX9, TX9, 35, rfl, by decide, w_710, inX9⟩
theorem w_711 : (Cond.fieldLink RX9 153 RX9 "keptY" "J" : Cond) ∈ tb := tb_at 711 (by decide +kernel) (by decide +kernel)
theorem fX9_153 : FL RX9 153 8 17 1 := ⟨by decide, rfl, RX9, TX9, 35, rfl, by decide, w_711, inX9⟩
theorem w_697 : (Cond.fieldLink RX9 16 RX9 "parent" "[I" : Cond) ∈ tb := tb_at 697 (by decide +kernel) (by decide +kernel)
theorem fX9_16 : FL RX9 16 8 3 2 := ⟨by decide, rfl, RX9, TX9, 35, rfl, by decide, w_697, inX9⟩
theorem w_698 : (Cond.fieldLink RX9 19 RX9 "length" "[I" : Cond) ∈ tb := tb_at 698 (by decide +kernel) (by decide +kernel)
theorem fX9_19 : FL RX9 19 8 4 2 := ⟨by decide, rfl, RX9, TX9, 35, rfl, by decide, w_698, inX9⟩
theorem w_714 : (Cond.fieldLink RX9 199 RX9 "keys" "I" : Cond) ∈ tb := tb_at 714 (by decide +kernel) (by decide +kernel)
theorem fX9_199 : FL RX9 199 8 20 0 := ⟨by decide, rfl, RX9, TX9, 35, rfl, by decide, w_714, inX9⟩
theorem w_699 : (Cond.fieldLink RX9 22 RX9 "low" "[I" : Cond) ∈ tb := tb_at 699 (by decide +kernel) (by decide +kernel)
theorem fX9_22 : FL RX9 22 8 5 2 := ⟨by decide, rfl, RX9, TX9, 35, rfl, by decide, w_699, inX9⟩
theorem w_722 : (Cond.fieldLink RX9 225 RX9 "steps" "I" : Cond) ∈ tb := tb_at 722 (by decide +kernel) (by decide +kernel)
theorem fX9_225 : FL RX9 225 8 28 0 := ⟨by decide, rfl, RX9, TX9, 35, rfl, by decide, w_722, inX9⟩
theorem w_728 : (Cond.fieldLink RX9 228 RX9 "latest" "I" : Cond) ∈ tb := tb_at 728 (by decide +kernel) (by decide +kernel)
theorem fX9_228 : FL RX9 228 8 34 0 := ⟨by decide, rfl, RX9, TX9, 35, rfl, by decide, w_728, inX9⟩
theorem w_700 : (Cond.fieldLink RX9 25 RX9 "spread" "[I" : Cond) ∈ tb := tb_at 700 (by decide +kernel) (by decide +kernel)
theorem fX9_25 : FL RX9 25 8 6 2 := ⟨by decide, rfl, RX9, TX9, 35, rfl, by decide, w_700, inX9⟩
theorem w_701 : (Cond.fieldLink RX9 28 RX9 "depth" "[I" : Cond) ∈ tb := tb_at 701 (by decide +kernel) (by decide +kernel)
theorem fX9_28 : FL RX9 28 8 7 2 := ⟨by decide, rfl, RX9, TX9, 35, rfl, by decide, w_701, inX9⟩
theorem w_702 : (Cond.fieldLink RX9 31 RX9 "pose" "[I" : Cond) ∈ tb := tb_at 702 (by decide +kernel) (by decide +kernel)
theorem fX9_31 : FL RX9 31 8 8 2 := ⟨by decide, rfl, RX9, TX9, 35, rfl, by decide, w_702, inX9⟩
theorem w_705 : (Cond.fieldLink RX9 34 RX9 "locked" "I" : Cond) ∈ tb := tb_at 705 (by decide +kernel) (by decide +kernel)
theorem fX9_34 : FL RX9 34 8 11 0 := ⟨by decide, rfl, RX9, TX9, 35, rfl, by decide, w_705, inX9⟩
theorem w_706 : (Cond.fieldLink RX9 38 RX9 "dirX" "[J" : Cond) ∈ tb := tb_at 706 (by decide +kernel) (by decide +kernel)
theorem fX9_38 : FL RX9 38 8 12 2 := ⟨by decide, rfl, RX9, TX9, 35, rfl, by decide, w_706, inX9⟩
theorem w_707 : (Cond.fieldLink RX9 42 RX9 "dirY" "[J" : Cond) ∈ tb := tb_at 707 (by decide +kernel) (by decide +kernel)
theorem fX9_42 : FL RX9 42 8 13 2 := ⟨by decide, rfl, RX9, TX9, 35, rfl, by decide, w_707, inX9⟩
theorem w_708 : (Cond.fieldLink RX9 45 RX9 "endX" "[J" : Cond) ∈ tb := tb_at 708 (by decide +kernel) (by decide +kernel)
theorem fX9_45 : FL RX9 45 8 14 2 := ⟨by decide, rfl, RX9, TX9, 35, rfl, by decide, w_708, inX9⟩
theorem w_709 : (Cond.fieldLink RX9 48 RX9 "endY" "[J" : Cond) ∈ tb := tb_at 709 (by decide +kernel) (by decide +kernel)
theorem fX9_48 : FL RX9 48 8 15 2 := ⟨by decide, rfl, RX9, TX9, 35, rfl, by decide, w_709, inX9⟩
theorem w_712 : (Cond.fieldLink RX9 51 RX9 "size" "[I" : Cond) ∈ tb := tb_at 712 (by decide +kernel) (by decide +kernel)
theorem fX9_51 : FL RX9 51 8 18 2 := ⟨by decide, rfl, RX9, TX9, 35, rfl, by decide, w_712, inX9⟩
theorem w_713 : (Cond.fieldLink RX9 54 RX9 "clips" "[I" : Cond) ∈ tb := tb_at 713 (by decide +kernel) (by decide +kernel)
theorem fX9_54 : FL RX9 54 8 19 2 := ⟨by decide, rfl, RX9, TX9, 35, rfl, by decide, w_713, inX9⟩
theorem w_715 : (Cond.fieldLink RX9 57 RX9 "key" "[I" : Cond) ∈ tb := tb_at 715 (by decide +kernel) (by decide +kernel)
theorem fX9_57 : FL RX9 57 8 21 2 := ⟨by decide, rfl, RX9, TX9, 35, rfl, by decide, w_715, inX9⟩
theorem w_716 : (Cond.fieldLink RX9 60 RX9 "join" "I" : Cond) ∈ tb := tb_at 716 (by decide +kernel) (by decide +kernel)
theorem fX9_60 : FL RX9 60 8 22 0 := ⟨by decide, rfl, RX9, TX9, 35, rfl, by decide, w_716, inX9⟩
theorem w_717 : (Cond.fieldLink RX9 63 RX9 "cost" "[I" : Cond) ∈ tb := tb_at 717 (by decide +kernel) (by decide +kernel)
theorem fX9_63 : FL RX9 63 8 23 2 := ⟨by decide, rfl, RX9, TX9, 35, rfl, by decide, w_717, inX9⟩
theorem w_718 : (Cond.fieldLink RX9 66 RX9 "isLive" "[Z" : Cond) ∈ tb := tb_at 718 (by decide +kernel) (by decide +kernel)
theorem fX9_66 : FL RX9 66 8 24 2 := ⟨by decide, rfl, RX9, TX9, 35, rfl, by decide, w_718, inX9⟩
theorem w_694 : (Cond.fieldLink RX9 7 RX9 "cs" "[I" : Cond) ∈ tb := tb_at 694 (by decide +kernel) (by decide +kernel)
theorem fX9_7 : FL RX9 7 8 0 2 := ⟨by decide, rfl, RX9, TX9, 35, rfl, by decide, w_694, inX9⟩
theorem w_719 : (Cond.fieldLink RX9 70 RX9 "dist" "[I" : Cond) ∈ tb := tb_at 719 (by decide +kernel) (by decide +kernel)
theorem fX9_70 : FL RX9 70 8 25 2 := ⟨by decide, rfl, RX9, TX9, 35, rfl, by decide, w_719, inX9⟩
theorem w_720 : (Cond.fieldLink RX9 73 RX9 "isDone" "[Z" : Cond) ∈ tb := tb_at 720 (by decide +kernel) (by decide +kernel)
theorem fX9_73 : FL RX9 73 8 26 2 := ⟨by decide, rfl, RX9, TX9, 35, rfl, by decide, w_720, inX9⟩
theorem w_721 : (Cond.fieldLink RX9 76 RX9 "walked" "I" : Cond) ∈ tb := tb_at 721 (by decide +kernel) (by decide +kernel)
theorem fX9_76 : FL RX9 76 8 27 0 := ⟨by decide, rfl, RX9, TX9, 35, rfl, by decide, w_721, inX9⟩
theorem w_723 : (Cond.fieldLink RX9 79 RX9 "path" "[I" : Cond) ∈ tb := tb_at 723 (by decide +kernel) (by decide +kernel)
theorem fX9_79 : FL RX9 79 8 29 2 := ⟨by decide, rfl, RX9, TX9, 35, rfl, by decide, w_723, inX9⟩
theorem w_724 : (Cond.fieldLink RX9 82 RX9 "forms" "[I" : Cond) ∈ tb := tb_at 724 (by decide +kernel) (by decide +kernel)
theorem fX9_82 : FL RX9 82 8 30 2 := ⟨by decide, rfl, RX9, TX9, 35, rfl, by decide, w_724, inX9⟩
theorem w_725 : (Cond.fieldLink RX9 85 RX9 "sizes" "[I" : Cond) ∈ tb := tb_at 725 (by decide +kernel) (by decide +kernel)
theorem fX9_85 : FL RX9 85 8 31 2 := ⟨by decide, rfl, RX9, TX9, 35, rfl, by decide, w_725, inX9⟩
theorem w_726 : (Cond.fieldLink RX9 88 RX9 "items" "[I" : Cond) ∈ tb := tb_at 726 (by decide +kernel) (by decide +kernel)
theorem fX9_88 : FL RX9 88 8 32 2 := ⟨by decide, rfl, RX9, TX9, 35, rfl, by decide, w_726, inX9⟩
theorem w_727 : (Cond.fieldLink RX9 91 RX9 "moved" "[I" : Cond) ∈ tb := tb_at 727 (by decide +kernel) (by decide +kernel)
theorem fX9_91 : FL RX9 91 8 33 2 := ⟨by decide, rfl, RX9, TX9, 35, rfl, by decide, w_727, inX9⟩
theorem pfX8_12 : PF RX8 12 7 0 2 (.object "BoneSteps$Skeleton") true := ⟨by decide, rfl, RX8, TX8, 6, tyX8, rfl, by decide, w_198, inX8, tyX8_ok, nmX8, rfl, by decide +kernel, by decide⟩
theorem pfX8_19 : PF RX8 19 7 1 2 (.object "BoneSteps$Clips") true := ⟨by decide, rfl, RX8, TX8, 6, tyX8, rfl, by decide, w_199, inX8, tyX8_ok, nmX8, rfl, by decide +kernel, by decide⟩
theorem pfX8_26 : PF RX8 26 7 2 2 (.object "BoneSteps$Packing") true := ⟨by decide, rfl, RX8, TX8, 6, tyX8, rfl, by decide, w_200, inX8, tyX8_ok, nmX8, rfl, by decide +kernel, by decide⟩
theorem pfX8_33 : PF RX8 33 7 3 2 (.object "BoneSteps$Graph") true := ⟨by decide, rfl, RX8, TX8, 6, tyX8, rfl, by decide, w_201, inX8, tyX8_ok, nmX8, rfl, by decide +kernel, by decide⟩
theorem pfX8_39 : PF RX8 39 7 4 2 (.array (.object "BoneSteps$Sheet")) true := ⟨by decide, rfl, RX8, TX8, 6, tyX8, rfl, by decide, w_202, inX8, tyX8_ok, nmX8, rfl, by decide +kernel, by decide⟩
theorem pfX8_43 : PF RX8 43 7 5 0 .int false := ⟨by decide, rfl, RX8, TX8, 6, tyX8, rfl, by decide, w_203, inX8, tyX8_ok, nmX8, rfl, by decide +kernel, by decide⟩
theorem pfX8_93 : PF RX8 93 0 7 0 .int false := ⟨by decide, rfl, RX0, TX0, 14, tyX0, rfl, by decide, w_258, inX0, tyX0_ok, nmX0, rfl, by decide +kernel, by decide⟩
theorem pfX8_106 : PF RX8 106 6 2 0 .int false := ⟨by decide, rfl, RX6, TX6, 5, tyX6, rfl, by decide, w_68, inX6, tyX6_ok, nmX6, rfl, by decide +kernel, by decide⟩
theorem pfX8_147 : PF RX8 147 1 1 0 .int false := ⟨by decide, rfl, RX1, TX1, 2, tyX1, rfl, by decide, w_105, inX1, tyX1_ok, nmX1, rfl, by decide +kernel, by decide⟩
theorem w_114 : (Cond.fieldLink RX8 158 RX2 "width" "I" : Cond) ∈ tb := tb_at 114 (by decide +kernel) (by decide +kernel)
theorem pfX8_158 : PF RX8 158 2 1 0 .int false := ⟨by decide, rfl, RX2, TX2, 2, tyX2, rfl, by decide, w_114, inX2, tyX2_ok, nmX2, rfl, by decide +kernel, by decide⟩
theorem pfX8_198 : PF RX8 198 3 0 0 .int false := ⟨by decide, rfl, RX3, TX3, 9, tyX3, rfl, by decide, w_142, inX3, tyX3_ok, nmX3, rfl, by decide +kernel, by decide⟩
theorem pfX8_233 : PF RX8 233 5 1 0 .boolean false := ⟨by decide, rfl, RX5, TX5, 4, tyX5, rfl, by decide, w_184, inX5, tyX5_ok, nmX5, rfl, by decide +kernel, by decide⟩
theorem pfX0_9 : PF RX0 9 0 0 2 (.object "BoneSteps$Bone") true := ⟨by decide, rfl, RX0, TX0, 14, tyX0, rfl, by decide, w_244, inX0, tyX0_ok, nmX0, rfl, by decide +kernel, by decide⟩
theorem w_246 : (Cond.fieldLink RX0 15 RX0 "parentNumber" "I" : Cond) ∈ tb := tb_at 246 (by decide +kernel) (by decide +kernel)
theorem pfX0_15 : PF RX0 15 0 1 0 .int true := ⟨by decide, rfl, RX0, TX0, 14, tyX0, rfl, by decide, w_246, inX0, tyX0_ok, nmX0, rfl, by decide +kernel, by decide⟩
theorem pfX0_19 : PF RX0 19 0 2 0 .int true := ⟨by decide, rfl, RX0, TX0, 14, tyX0, rfl, by decide, w_248, inX0, tyX0_ok, nmX0, rfl, by decide +kernel, by decide⟩
theorem pfX0_22 : PF RX0 22 0 3 0 .int true := ⟨by decide, rfl, RX0, TX0, 14, tyX0, rfl, by decide, w_250, inX0, tyX0_ok, nmX0, rfl, by decide +kernel, by decide⟩
theorem pfX0_25 : PF RX0 25 0 4 0 .int true := ⟨by decide, rfl, RX0, TX0, 14, tyX0, rfl, by decide, w_252, inX0, tyX0_ok, nmX0, rfl, by decide +kernel, by decide⟩
theorem pfX0_28 : PF RX0 28 0 5 0 .int true := ⟨by decide, rfl, RX0, TX0, 14, tyX0, rfl, by decide, w_254, inX0, tyX0_ok, nmX0, rfl, by decide +kernel, by decide⟩
theorem pfX0_31 : PF RX0 31 0 6 0 .int true := ⟨by decide, rfl, RX0, TX0, 14, tyX0, rfl, by decide, w_256, inX0, tyX0_ok, nmX0, rfl, by decide +kernel, by decide⟩
theorem pfX0_34 : PF RX0 34 0 7 0 .int false := ⟨by decide, rfl, RX0, TX0, 14, tyX0, rfl, by decide, w_257, inX0, tyX0_ok, nmX0, rfl, by decide +kernel, by decide⟩
theorem pfX0_57 : PF RX0 57 0 12 1 .long false := ⟨by decide, rfl, RX0, TX0, 14, tyX0, rfl, by decide, w_266, inX0, tyX0_ok, nmX0, rfl, by decide +kernel, by decide⟩
theorem pfX0_61 : PF RX0 61 0 8 1 .long false := ⟨by decide, rfl, RX0, TX0, 14, tyX0, rfl, by decide, w_260, inX0, tyX0_ok, nmX0, rfl, by decide +kernel, by decide⟩
theorem pfX0_64 : PF RX0 64 0 13 1 .long false := ⟨by decide, rfl, RX0, TX0, 14, tyX0, rfl, by decide, w_269, inX0, tyX0_ok, nmX0, rfl, by decide +kernel, by decide⟩
theorem pfX0_67 : PF RX0 67 0 9 1 .long false := ⟨by decide, rfl, RX0, TX0, 14, tyX0, rfl, by decide, w_261, inX0, tyX0_ok, nmX0, rfl, by decide +kernel, by decide⟩
theorem pfX0_72 : PF RX0 72 0 10 1 .long false := ⟨by decide, rfl, RX0, TX0, 14, tyX0, rfl, by decide, w_262, inX0, tyX0_ok, nmX0, rfl, by decide +kernel, by decide⟩
theorem pfX0_75 : PF RX0 75 0 11 1 .long false := ⟨by decide, rfl, RX0, TX0, 14, tyX0, rfl, by decide, w_263, inX0, tyX0_ok, nmX0, rfl, by decide +kernel, by decide⟩
theorem w_99 : (Cond.fieldLink RX1 11 RX1 "frames" "[[I" : Cond) ∈ tb := tb_at 99 (by decide +kernel) (by decide +kernel)
theorem pfX1_11 : PF RX1 11 1 0 2 (.array (.array .int)) true := ⟨by decide, rfl, RX1, TX1, 2, tyX1, rfl, by decide, w_99, inX1, tyX1_ok, nmX1, rfl, by decide +kernel, by decide⟩
theorem pfX2_11 : PF RX2 11 2 0 2 (.array (.object "BoneSteps$Clip")) true := ⟨by decide, rfl, RX2, TX2, 2, tyX2, rfl, by decide, w_112, inX2, tyX2_ok, nmX2, rfl, by decide +kernel, by decide⟩
theorem pfX3_9 : PF RX3 9 3 0 0 .int false := ⟨by decide, rfl, RX3, TX3, 9, tyX3, rfl, by decide, w_141, inX3, tyX3_ok, nmX3, rfl, by decide +kernel, by decide⟩
theorem pfX3_15 : PF RX3 15 3 1 0 .int false := ⟨by decide, rfl, RX3, TX3, 9, tyX3, rfl, by decide, w_143, inX3, tyX3_ok, nmX3, rfl, by decide +kernel, by decide⟩
theorem pfX3_18 : PF RX3 18 3 2 2 (.array .int) true := ⟨by decide, rfl, RX3, TX3, 9, tyX3, rfl, by decide, w_145, inX3, tyX3_ok, nmX3, rfl, by decide +kernel, by decide⟩
theorem pfX3_22 : PF RX3 22 3 4 2 (.array .int) true := ⟨by decide, rfl, RX3, TX3, 9, tyX3, rfl, by decide, w_149, inX3, tyX3_ok, nmX3, rfl, by decide +kernel, by decide⟩
theorem pfX3_25 : PF RX3 25 3 6 2 (.array .int) true := ⟨by decide, rfl, RX3, TX3, 9, tyX3, rfl, by decide, w_151, inX3, tyX3_ok, nmX3, rfl, by decide +kernel, by decide⟩
theorem pfX3_28 : PF RX3 28 3 7 2 (.array .int) true := ⟨by decide, rfl, RX3, TX3, 9, tyX3, rfl, by decide, w_152, inX3, tyX3_ok, nmX3, rfl, by decide +kernel, by decide⟩
theorem pfX3_31 : PF RX3 31 3 8 2 (.array .boolean) true := ⟨by decide, rfl, RX3, TX3, 9, tyX3, rfl, by decide, w_153, inX3, tyX3_ok, nmX3, rfl, by decide +kernel, by decide⟩
theorem pfX3_57 : PF RX3 57 3 5 0 .int false := ⟨by decide, rfl, RX3, TX3, 9, tyX3, rfl, by decide, w_150, inX3, tyX3_ok, nmX3, rfl, by decide +kernel, by decide⟩
theorem w_147 : (Cond.fieldLink RX3 82 RX3 "pathSize" "I" : Cond) ∈ tb := tb_at 147 (by decide +kernel) (by decide +kernel)
theorem pfX3_82 : PF RX3 82 3 3 0 .int false := ⟨by decide, rfl, RX3, TX3, 9, tyX3, rfl, by decide, w_147, inX3, tyX3_ok, nmX3, rfl, by decide +kernel, by decide⟩
theorem pfX4_9 : PF RX4 9 4 0 2 (.array .int) true := ⟨by decide, rfl, RX4, TX4, 2, tyX4, rfl, by decide, w_126, inX4, tyX4_ok, nmX4, rfl, by decide +kernel, by decide⟩
theorem pfX4_15 : PF RX4 15 4 1 0 .int false := ⟨by decide, rfl, RX4, TX4, 2, tyX4, rfl, by decide, w_128, inX4, tyX4_ok, nmX4, rfl, by decide +kernel, by decide⟩
theorem pfX4_19 : PF RX4 19 1 1 0 .int false := ⟨by decide, rfl, RX1, TX1, 2, tyX1, rfl, by decide, w_103, inX1, tyX1_ok, nmX1, rfl, by decide +kernel, by decide⟩
theorem pfX5_9 : PF RX5 9 5 0 2 (.array .int) true := ⟨by decide, rfl, RX5, TX5, 4, tyX5, rfl, by decide, w_181, inX5, tyX5_ok, nmX5, rfl, by decide +kernel, by decide⟩
theorem pfX5_15 : PF RX5 15 5 1 0 .boolean false := ⟨by decide, rfl, RX5, TX5, 4, tyX5, rfl, by decide, w_183, inX5, tyX5_ok, nmX5, rfl, by decide +kernel, by decide⟩
theorem pfX5_25 : PF RX5 25 5 2 0 .int false := ⟨by decide, rfl, RX5, TX5, 4, tyX5, rfl, by decide, w_185, inX5, tyX5_ok, nmX5, rfl, by decide +kernel, by decide⟩
theorem pfX5_29 : PF RX5 29 5 3 0 .int false := ⟨by decide, rfl, RX5, TX5, 4, tyX5, rfl, by decide, w_187, inX5, tyX5_ok, nmX5, rfl, by decide +kernel, by decide⟩
theorem pfX6_11 : PF RX6 11 6 0 2 (.array (.object "BoneSteps$Bone")) true := ⟨by decide, rfl, RX6, TX6, 5, tyX6, rfl, by decide, w_61, inX6, tyX6_ok, nmX6, rfl, by decide +kernel, by decide⟩
theorem pfX6_17 : PF RX6 17 6 2 0 .int false := ⟨by decide, rfl, RX6, TX6, 5, tyX6, rfl, by decide, w_67, inX6, tyX6_ok, nmX6, rfl, by decide +kernel, by decide⟩
theorem pfX6_21 : PF RX6 21 6 1 0 .int false := ⟨by decide, rfl, RX6, TX6, 5, tyX6, rfl, by decide, w_64, inX6, tyX6_ok, nmX6, rfl, by decide +kernel, by decide⟩
theorem pfX6_28 : PF RX6 28 6 3 1 .long false := ⟨by decide, rfl, RX6, TX6, 5, tyX6, rfl, by decide, w_69, inX6, tyX6_ok, nmX6, rfl, by decide +kernel, by decide⟩
theorem pfX6_32 : PF RX6 32 6 4 1 .long false := ⟨by decide, rfl, RX6, TX6, 5, tyX6, rfl, by decide, w_71, inX6, tyX6_ok, nmX6, rfl, by decide +kernel, by decide⟩
theorem pfX6_51 : PF RX6 51 0 7 0 .int false := ⟨by decide, rfl, RX0, TX0, 14, tyX0, rfl, by decide, w_259, inX0, tyX0_ok, nmX0, rfl, by decide +kernel, by decide⟩
theorem pfX9_7 : PF RX9 7 8 0 2 (.array .int) true := ⟨by decide, rfl, RX9, TX9, 35, tyX9, rfl, by decide, w_694, inX9, tyX9_ok, nmX9, rfl, by decide +kernel, by decide⟩
theorem pfX9_13 : PF RX9 13 8 1 2 (.array .int) true := ⟨by decide, rfl, RX9, TX9, 35, tyX9, rfl, by decide, w_695, inX9, tyX9_ok, nmX9, rfl, by decide +kernel, by decide⟩
theorem pfX9_16 : PF RX9 16 8 3 2 (.array .int) true := ⟨by decide, rfl, RX9, TX9, 35, tyX9, rfl, by decide, w_697, inX9, tyX9_ok, nmX9, rfl, by decide +kernel, by decide⟩
theorem pfX9_19 : PF RX9 19 8 4 2 (.array .int) true := ⟨by decide, rfl, RX9, TX9, 35, tyX9, rfl, by decide, w_698, inX9, tyX9_ok, nmX9, rfl, by decide +kernel, by decide⟩
theorem pfX9_22 : PF RX9 22 8 5 2 (.array .int) true := ⟨by decide, rfl, RX9, TX9, 35, tyX9, rfl, by decide, w_699, inX9, tyX9_ok, nmX9, rfl, by decide +kernel, by decide⟩
theorem pfX9_25 : PF RX9 25 8 6 2 (.array .int) true := ⟨by decide, rfl, RX9, TX9, 35, tyX9, rfl, by decide, w_700, inX9, tyX9_ok, nmX9, rfl, by decide +kernel, by decide⟩
theorem pfX9_28 : PF RX9 28 8 7 2 (.array .int) true := ⟨by decide, rfl, RX9, TX9, 35, tyX9, rfl, by decide, w_701, inX9, tyX9_ok, nmX9, rfl, by decide +kernel, by decide⟩
theorem pfX9_31 : PF RX9 31 8 8 2 (.array .int) true := ⟨by decide, rfl, RX9, TX9, 35, tyX9, rfl, by decide, w_702, inX9, tyX9_ok, nmX9, rfl, by decide +kernel, by decide⟩
theorem pfX9_34 : PF RX9 34 8 11 0 .int false := ⟨by decide, rfl, RX9, TX9, 35, tyX9, rfl, by decide, w_705, inX9, tyX9_ok, nmX9, rfl, by decide +kernel, by decide⟩
theorem pfX9_38 : PF RX9 38 8 12 2 (.array .long) true := ⟨by decide, rfl, RX9, TX9, 35, tyX9, rfl, by decide, w_706, inX9, tyX9_ok, nmX9, rfl, by decide +kernel, by decide⟩
theorem pfX9_42 : PF RX9 42 8 13 2 (.array .long) true := ⟨by decide, rfl, RX9, TX9, 35, tyX9, rfl, by decide, w_707, inX9, tyX9_ok, nmX9, rfl, by decide +kernel, by decide⟩
theorem pfX9_45 : PF RX9 45 8 14 2 (.array .long) true := ⟨by decide, rfl, RX9, TX9, 35, tyX9, rfl, by decide, w_708, inX9, tyX9_ok, nmX9, rfl, by decide +kernel, by decide⟩
theorem pfX9_48 : PF RX9 48 8 15 2 (.array .long) true := ⟨by decide, rfl, RX9, TX9, 35, tyX9, rfl, by decide, w_709, inX9, tyX9_ok, nmX9, rfl, by decide +kernel, by decide⟩
theorem pfX9_51 : PF RX9 51 8 18 2 (.array .int) true := ⟨by decide, rfl, RX9, TX9, 35, tyX9, rfl, by decide, w_712, inX9, tyX9_ok, nmX9, rfl, by decide +kernel, by decide⟩
theorem pfX9_54 : PF RX9 54 8 19 2 (.array .int) true := ⟨by decide, rfl, RX9, TX9, 35, tyX9, rfl, by decide, w_713, inX9, tyX9_ok, nmX9, rfl, by decide +kernel, by decide⟩
theorem pfX9_57 : PF RX9 57 8 21 2 (.array .int) true := ⟨by decide, rfl, RX9, TX9, 35, tyX9, rfl, by decide, w_715, inX9, tyX9_ok, nmX9, rfl, by decide +kernel, by decide⟩
theorem pfX9_60 : PF RX9 60 8 22 0 .int false := ⟨by decide, rfl, RX9, TX9, 35, tyX9, rfl, by decide, w_716, inX9, tyX9_ok, nmX9, rfl, by decide +kernel, by decide⟩
theorem pfX9_63 : PF RX9 63 8 23 2 (.array .int) true := ⟨by decide, rfl, RX9, TX9, 35, tyX9, rfl, by decide, w_717, inX9, tyX9_ok, nmX9, rfl, by decide +kernel, by decide⟩
theorem pfX9_66 : PF RX9 66 8 24 2 (.array .boolean) true := ⟨by decide, rfl, RX9, TX9, 35, tyX9, rfl, by decide, w_718, inX9, tyX9_ok, nmX9, rfl, by decide +kernel, by decide⟩
theorem pfX9_70 : PF RX9 70 8 25 2 (.array .int) true := ⟨by decide, rfl, RX9, TX9, 35, tyX9, rfl, by decide, w_719, inX9, tyX9_ok, nmX9, rfl, by decide +kernel, by decide⟩
theorem pfX9_73 : PF RX9 73 8 26 2 (.array .boolean) true := ⟨by decide, rfl, RX9, TX9, 35, tyX9, rfl, by decide, w_720, inX9, tyX9_ok, nmX9, rfl, by decide +kernel, by decide⟩
theorem pfX9_76 : PF RX9 76 8 27 0 .int false := ⟨by decide, rfl, RX9, TX9, 35, tyX9, rfl, by decide, w_721, inX9, tyX9_ok, nmX9, rfl, by decide +kernel, by decide⟩
theorem pfX9_79 : PF RX9 79 8 29 2 (.array .int) true := ⟨by decide, rfl, RX9, TX9, 35, tyX9, rfl, by decide, w_723, inX9, tyX9_ok, nmX9, rfl, by decide +kernel, by decide⟩
theorem pfX9_82 : PF RX9 82 8 30 2 (.array .int) true := ⟨by decide, rfl, RX9, TX9, 35, tyX9, rfl, by decide, w_724, inX9, tyX9_ok, nmX9, rfl, by decide +kernel, by decide⟩
theorem pfX9_85 : PF RX9 85 8 31 2 (.array .int) true := ⟨by decide, rfl, RX9, TX9, 35, tyX9, rfl, by decide, w_725, inX9, tyX9_ok, nmX9, rfl, by decide +kernel, by decide⟩
theorem pfX9_88 : PF RX9 88 8 32 2 (.array .int) true := ⟨by decide, rfl, RX9, TX9, 35, tyX9, rfl, by decide, w_726, inX9, tyX9_ok, nmX9, rfl, by decide +kernel, by decide⟩
theorem pfX9_91 : PF RX9 91 8 33 2 (.array .int) true := ⟨by decide, rfl, RX9, TX9, 35, tyX9, rfl, by decide, w_727, inX9, tyX9_ok, nmX9, rfl, by decide +kernel, by decide⟩
theorem pfX9_111 : PF RX9 111 8 2 0 .int false := ⟨by decide, rfl, RX9, TX9, 35, tyX9, rfl, by decide, w_696, inX9, tyX9_ok, nmX9, rfl, by decide +kernel, by decide⟩
theorem pfX9_140 : PF RX9 140 8 9 1 .long false := ⟨by decide, rfl, RX9, TX9, 35, tyX9, rfl, by decide, w_703, inX9, tyX9_ok, nmX9, rfl, by decide +kernel, by decide⟩
theorem pfX9_144 : PF RX9 144 8 10 1 .long false := ⟨by decide, rfl, RX9, TX9, 35, tyX9, rfl, by decide, w_704, inX9, tyX9_ok, nmX9, rfl, by decide +kernel, by decide⟩
theorem pfX9_150 : PF RX9 150 8 16 1 .long false := ⟨by decide, rfl, RX9, TX9, 35, tyX9, rfl, by decide, w_710, inX9, tyX9_ok, nmX9, rfl, by decide +kernel, by decide⟩
theorem pfX9_153 : PF RX9 153 8 17 1 .long false := ⟨by decide, rfl, RX9, TX9, 35, tyX9, rfl, by decide, w_711, inX9, tyX9_ok, nmX9, rfl, by decide +kernel, by decide⟩
theorem pfX9_199 : PF RX9 199 8 20 0 .int false := ⟨by decide, rfl, RX9, TX9, 35, tyX9, rfl, by decide, w_714, inX9, tyX9_ok, nmX9, rfl, by decide +kernel, by decide⟩
theorem pfX9_225 : PF RX9 225 8 28 0 .int false := ⟨by decide, rfl, RX9, TX9, 35, tyX9, rfl, by decide, w_722, inX9, tyX9_ok, nmX9, rfl, by decide +kernel, by decide⟩
theorem pfX9_228 : PF RX9 228 8 34 0 .int false := ⟨by decide, rfl, RX9, TX9, 35, tyX9, rfl, by decide, w_728, inX9, tyX9_ok, nmX9, rfl, by decide +kernel, by decide⟩
theorem w_496 : (Cond.constant RX8 178 (2147483647 : Int32) : Cond) ∈ tb := tb_at 496 (by decide +kernel) (by decide +kernel)
theorem ctX8_178 : Cond.constant RX8 178 (2147483647 : Int32) ∈ tb := w_496
theorem w_640 : (Cond.constant RX8 245 (-2147483648 : Int32) : Cond) ∈ tb := tb_at 640 (by decide +kernel) (by decide +kernel)
theorem ctX8_245 : Cond.constant RX8 245 (-2147483648 : Int32) ∈ tb := w_640
theorem w_228 : (Cond.constantLong RX8 52 (100 : Int64) : Cond) ∈ tb := tb_at 228 (by decide +kernel) (by decide +kernel)
theorem ctX8_52 : Cond.constantLong RX8 52 (100 : Int64) ∈ tb := w_228
theorem w_408 : (Cond.constantLong RX8 138 (20 : Int64) : Cond) ∈ tb := tb_at 408 (by decide +kernel) (by decide +kernel)
theorem ctX8_138 : Cond.constantLong RX8 138 (20 : Int64) ∈ tb := w_408
theorem w_456 : (Cond.constantLong RX8 168 (1023 : Int64) : Cond) ∈ tb := tb_at 456 (by decide +kernel) (by decide +kernel)
theorem ctX8_168 : Cond.constantLong RX8 168 (1023 : Int64) ∈ tb := w_456
theorem w_506 : (Cond.constantLong RX8 183 (18 : Int64) : Cond) ∈ tb := tb_at 506 (by decide +kernel) (by decide +kernel)
theorem ctX8_183 : Cond.constantLong RX8 183 (18 : Int64) ∈ tb := w_506
theorem w_675 : (Cond.constantLong RX8 273 (17 : Int64) : Cond) ∈ tb := tb_at 675 (by decide +kernel) (by decide +kernel)
theorem ctX8_273 : Cond.constantLong RX8 273 (17 : Int64) ∈ tb := w_675
theorem w_676 : (Cond.constantLong RX8 275 (31 : Int64) : Cond) ∈ tb := tb_at 676 (by decide +kernel) (by decide +kernel)
theorem ctX8_275 : Cond.constantLong RX8 275 (31 : Int64) ∈ tb := w_676
theorem w_233 : (Cond.constantLong RX8 285 (35 : Int64) : Cond) ∈ tb := tb_at 233 (by decide +kernel) (by decide +kernel)
theorem ctX8_285 : Cond.constantLong RX8 285 (35 : Int64) ∈ tb := w_233
theorem w_348 : (Cond.constantLong RX8 287 (-1000000000000 : Int64) : Cond) ∈ tb := tb_at 348 (by decide +kernel) (by decide +kernel)
theorem ctX8_287 : Cond.constantLong RX8 287 (-1000000000000 : Int64) ∈ tb := w_348
theorem w_349 : (Cond.constantLong RX8 289 (1000000000000 : Int64) : Cond) ∈ tb := tb_at 349 (by decide +kernel) (by decide +kernel)
theorem ctX8_289 : Cond.constantLong RX8 289 (1000000000000 : Int64) ∈ tb := w_349
theorem w_609 : (Cond.constantLong RX8 291 (2 : Int64) : Cond) ∈ tb := tb_at 609 (by decide +kernel) (by decide +kernel)
theorem ctX8_291 : Cond.constantLong RX8 291 (2 : Int64) ∈ tb := w_609
theorem w_361 : (Cond.constantLong RX8 293 (-9223372036854775808 : Int64) : Cond) ∈ tb := tb_at 361 (by decide +kernel) (by decide +kernel)
theorem ctX8_293 : Cond.constantLong RX8 293 (-9223372036854775808 : Int64) ∈ tb := w_361
theorem w_605 : (Cond.constantLong RX8 295 (3 : Int64) : Cond) ∈ tb := tb_at 605 (by decide +kernel) (by decide +kernel)
theorem ctX8_295 : Cond.constantLong RX8 295 (3 : Int64) ∈ tb := w_605
theorem w_307 : (Cond.constantLong RX0 70 (1160290625 : Int64) : Cond) ∈ tb := tb_at 307 (by decide +kernel) (by decide +kernel)
theorem ctX0_70 : Cond.constantLong RX0 70 (1160290625 : Int64) ∈ tb := w_307
theorem w_319 : (Cond.constantLong RX0 84 (65 : Int64) : Cond) ∈ tb := tb_at 319 (by decide +kernel) (by decide +kernel)
theorem ctX0_84 : Cond.constantLong RX0 84 (65 : Int64) ∈ tb := w_319
theorem w_425 : (Cond.constantLong RX2 18 (5 : Int64) : Cond) ∈ tb := tb_at 425 (by decide +kernel) (by decide +kernel)
theorem ctX2_18 : Cond.constantLong RX2 18 (5 : Int64) ∈ tb := w_425
theorem w_687 : (Cond.constantLong RX2 45 (31 : Int64) : Cond) ∈ tb := tb_at 687 (by decide +kernel) (by decide +kernel)
theorem ctX2_45 : Cond.constantLong RX2 45 (31 : Int64) ∈ tb := w_687
theorem w_573 : (Cond.constant RX3 71 (2147483647 : Int32) : Cond) ∈ tb := tb_at 573 (by decide +kernel) (by decide +kernel)
theorem ctX3_71 : Cond.constant RX3 71 (2147483647 : Int32) ∈ tb := w_573
theorem w_401 : (Cond.constantLong RX6 86 (9223372036854775807 : Int64) : Cond) ∈ tb := tb_at 401 (by decide +kernel) (by decide +kernel)
theorem ctX6_86 : Cond.constantLong RX6 86 (9223372036854775807 : Int64) ∈ tb := w_401
theorem w_682 : (Cond.constantLong RX6 100 (31 : Int64) : Cond) ∈ tb := tb_at 682 (by decide +kernel) (by decide +kernel)
theorem ctX6_100 : Cond.constantLong RX6 100 (31 : Int64) ∈ tb := w_682
theorem w_1058 : (Cond.constantLong RL 27 (4294967295 : Int64) : Cond) ∈ tb := tb_at 1058 (by decide +kernel) (by decide +kernel)
theorem ctL_27 : Cond.constantLong RL 27 (4294967295 : Int64) ∈ tb := w_1058
theorem w_1030 : (Cond.constant RX9 245 (-2147483648 : Int32) : Cond) ∈ tb := tb_at 1030 (by decide +kernel) (by decide +kernel)
theorem ctX9_245 : Cond.constant RX9 245 (-2147483648 : Int32) ∈ tb := w_1030
theorem w_864 : (Cond.constantLong RX9 94 (-9223372036854775808 : Int64) : Cond) ∈ tb := tb_at 864 (by decide +kernel) (by decide +kernel)
theorem ctX9_94 : Cond.constantLong RX9 94 (-9223372036854775808 : Int64) ∈ tb := w_864
theorem w_855 : (Cond.constantLong RX9 118 (-1000000000000 : Int64) : Cond) ∈ tb := tb_at 855 (by decide +kernel) (by decide +kernel)
theorem ctX9_118 : Cond.constantLong RX9 118 (-1000000000000 : Int64) ∈ tb := w_855
theorem w_856 : (Cond.constantLong RX9 120 (1000000000000 : Int64) : Cond) ∈ tb := tb_at 856 (by decide +kernel) (by decide +kernel)
theorem ctX9_120 : Cond.constantLong RX9 120 (1000000000000 : Int64) ∈ tb := w_856
theorem w_805 : (Cond.constantLong RX9 122 (-1 : Int64) : Cond) ∈ tb := tb_at 805 (by decide +kernel) (by decide +kernel)
theorem ctX9_122 : Cond.constantLong RX9 122 (-1 : Int64) ∈ tb := w_805
theorem w_809 : (Cond.constantLong RX9 124 (100 : Int64) : Cond) ∈ tb := tb_at 809 (by decide +kernel) (by decide +kernel)
theorem ctX9_124 : Cond.constantLong RX9 124 (100 : Int64) ∈ tb := w_809
theorem w_810 : (Cond.constantLong RX9 126 (35 : Int64) : Cond) ∈ tb := tb_at 810 (by decide +kernel) (by decide +kernel)
theorem ctX9_126 : Cond.constantLong RX9 126 (35 : Int64) ∈ tb := w_810
theorem w_842 : (Cond.constantLong RX9 136 (1160290625 : Int64) : Cond) ∈ tb := tb_at 842 (by decide +kernel) (by decide +kernel)
theorem ctX9_136 : Cond.constantLong RX9 136 (1160290625 : Int64) ∈ tb := w_842
theorem w_843 : (Cond.constantLong RX9 138 (65 : Int64) : Cond) ∈ tb := tb_at 843 (by decide +kernel) (by decide +kernel)
theorem ctX9_138 : Cond.constantLong RX9 138 (65 : Int64) ∈ tb := w_843
theorem w_885 : (Cond.constantLong RX9 174 (20 : Int64) : Cond) ∈ tb := tb_at 885 (by decide +kernel) (by decide +kernel)
theorem ctX9_174 : Cond.constantLong RX9 174 (20 : Int64) ∈ tb := w_885
theorem w_893 : (Cond.constantLong RX9 176 (5 : Int64) : Cond) ∈ tb := tb_at 893 (by decide +kernel) (by decide +kernel)
theorem ctX9_176 : Cond.constantLong RX9 176 (5 : Int64) ∈ tb := w_893
theorem w_917 : (Cond.constantLong RX9 190 (1023 : Int64) : Cond) ∈ tb := tb_at 917 (by decide +kernel) (by decide +kernel)
theorem ctX9_190 : Cond.constantLong RX9 190 (1023 : Int64) ∈ tb := w_917
theorem w_948 : (Cond.constantLong RX9 206 (18 : Int64) : Cond) ∈ tb := tb_at 948 (by decide +kernel) (by decide +kernel)
theorem ctX9_206 : Cond.constantLong RX9 206 (18 : Int64) ∈ tb := w_948
theorem w_1008 : (Cond.constantLong RX9 231 (3 : Int64) : Cond) ∈ tb := tb_at 1008 (by decide +kernel) (by decide +kernel)
theorem ctX9_231 : Cond.constantLong RX9 231 (3 : Int64) ∈ tb := w_1008
theorem w_1009 : (Cond.constantLong RX9 236 (2 : Int64) : Cond) ∈ tb := tb_at 1009 (by decide +kernel) (by decide +kernel)
theorem ctX9_236 : Cond.constantLong RX9 236 (2 : Int64) ∈ tb := w_1009
theorem w_1055 : (Cond.constantLong RX9 249 (17 : Int64) : Cond) ∈ tb := tb_at 1055 (by decide +kernel) (by decide +kernel)
theorem ctX9_249 : Cond.constantLong RX9 249 (17 : Int64) ∈ tb := w_1055
theorem w_1056 : (Cond.constantLong RX9 251 (31 : Int64) : Cond) ∈ tb := tb_at 1056 (by decide +kernel) (by decide +kernel)
theorem ctX9_251 : Cond.constantLong RX9 251 (31 : Int64) ∈ tb := w_1056
theorem w_50 : (Cond.methodLink RX8 3 objectInit : Cond) ∈ tb := tb_at 50 (by decide +kernel) (by decide +kernel)
theorem koX8_3 : Cond.methodLink RX8 3 objectInit ∈ tb := w_50
theorem w_51 : (Cond.instanceMethod objectInit : Cond) ∈ tb := tb_at 51 (by decide +kernel) (by decide +kernel)
theorem w_52 : (Cond.code objectInit ⟨#[0xb1]⟩ 1 none : Cond) ∈ tb := tb_at 52 (by decide +kernel) (by decide +kernel)
theorem w_33 : (Cond.initialized RX6 : Cond) ∈ tb := tb_at 33 (by decide +kernel) (by decide +kernel)
theorem w_57 : (Cond.code yX6_init cX6_init 1 none : Cond) ∈ tb := tb_at 57 (by decide +kernel) (by decide +kernel)
theorem lbX6_init : LkB yX6_init mX6_init 0 := ⟨w_33, w_57, by decide +kernel⟩
theorem w_56 : (Cond.instanceMethod yX6_init : Cond) ∈ tb := tb_at 56 (by decide +kernel) (by decide +kernel)
theorem kX8_11 : LkIN RX8 11 yX6_init mX6_init 0 := ⟨lbX6_init, ⟨"BoneSteps", by decide +kernel⟩, w_56⟩
theorem w_34 : (Cond.initialized RX2 : Cond) ∈ tb := tb_at 34 (by decide +kernel) (by decide +kernel)
theorem w_88 : (Cond.code yX2_init cX2_init 2 none : Cond) ∈ tb := tb_at 88 (by decide +kernel) (by decide +kernel)
theorem lbX2_init : LkB yX2_init mX2_init 0 := ⟨w_34, w_88, by decide +kernel⟩
theorem w_86 : (Cond.methodLink RX8 18 yX2_init : Cond) ∈ tb := tb_at 86 (by decide +kernel) (by decide +kernel)
theorem w_87 : (Cond.instanceMethod yX2_init : Cond) ∈ tb := tb_at 87 (by decide +kernel) (by decide +kernel)
theorem kX8_18 : LkI RX8 18 yX2_init mX2_init 0 := ⟨lbX2_init, w_86, w_87⟩
theorem w_36 : (Cond.initialized RX4 : Cond) ∈ tb := tb_at 36 (by decide +kernel) (by decide +kernel)
theorem w_124 : (Cond.code yX4_init cX4_init 1 none : Cond) ∈ tb := tb_at 124 (by decide +kernel) (by decide +kernel)
theorem lbX4_init : LkB yX4_init mX4_init 0 := ⟨w_36, w_124, by decide +kernel⟩
theorem w_123 : (Cond.instanceMethod yX4_init : Cond) ∈ tb := tb_at 123 (by decide +kernel) (by decide +kernel)
theorem kX8_25 : LkIN RX8 25 yX4_init mX4_init 0 := ⟨lbX4_init, ⟨"BoneSteps", by decide +kernel⟩, w_123⟩
theorem w_37 : (Cond.initialized RX3 : Cond) ∈ tb := tb_at 37 (by decide +kernel) (by decide +kernel)
theorem w_139 : (Cond.code yX3_init cX3_init 1 none : Cond) ∈ tb := tb_at 139 (by decide +kernel) (by decide +kernel)
theorem lbX3_init : LkB yX3_init mX3_init 0 := ⟨w_37, w_139, by decide +kernel⟩
theorem w_138 : (Cond.instanceMethod yX3_init : Cond) ∈ tb := tb_at 138 (by decide +kernel) (by decide +kernel)
theorem kX8_32 : LkIN RX8 32 yX3_init mX3_init 0 := ⟨lbX3_init, ⟨"BoneSteps", by decide +kernel⟩, w_138⟩
theorem w_38 : (Cond.initialized RX5 : Cond) ∈ tb := tb_at 38 (by decide +kernel) (by decide +kernel)
theorem w_179 : (Cond.code yX5_init cX5_init 1 none : Cond) ∈ tb := tb_at 179 (by decide +kernel) (by decide +kernel)
theorem lbX5_init : LkB yX5_init mX5_init 0 := ⟨w_38, w_179, by decide +kernel⟩
theorem w_178 : (Cond.instanceMethod yX5_init : Cond) ∈ tb := tb_at 178 (by decide +kernel) (by decide +kernel)
theorem kX8_47 : LkIN RX8 47 yX5_init mX5_init 0 := ⟨lbX5_init, ⟨"BoneSteps", by decide +kernel⟩, w_178⟩
theorem w_40 : (Cond.initialized RX0 : Cond) ∈ tb := tb_at 40 (by decide +kernel) (by decide +kernel)
theorem w_242 : (Cond.code yX0_init cX0_init 6 none : Cond) ∈ tb := tb_at 242 (by decide +kernel) (by decide +kernel)
theorem lbX0_init : LkB yX0_init mX0_init 5 := ⟨w_40, w_242, by decide +kernel⟩
theorem w_240 : (Cond.methodLink RX8 74 yX0_init : Cond) ∈ tb := tb_at 240 (by decide +kernel) (by decide +kernel)
theorem w_241 : (Cond.instanceMethod yX0_init : Cond) ∈ tb := tb_at 241 (by decide +kernel) (by decide +kernel)
theorem kX8_74 : LkI RX8 74 yX0_init mX0_init 5 := ⟨lbX0_init, w_240, w_241⟩
theorem w_32 : (Cond.initialized RX8 : Cond) ∈ tb := tb_at 32 (by decide +kernel) (by decide +kernel)
theorem w_227 : (Cond.code yX8_isIn cX8_isIn 6 (some .boolean) : Cond) ∈ tb := tb_at 227 (by decide +kernel) (by decide +kernel)
theorem lbX8_isIn : LkB yX8_isIn mX8_isIn 3 := ⟨w_32, w_227, by decide +kernel⟩
theorem w_229 : (Cond.methodLink RX8 54 yX8_isIn : Cond) ∈ tb := tb_at 229 (by decide +kernel) (by decide +kernel)
theorem w_226 : (Cond.static yX8_isIn : Cond) ∈ tb := tb_at 226 (by decide +kernel) (by decide +kernel)
theorem kX8_54 : LkS RX8 54 yX8_isIn mX8_isIn 3 := ⟨lbX8_isIn, w_229, w_226⟩
theorem w_232 : (Cond.code yX8_isTurn cX8_isTurn 1 (some .boolean) : Cond) ∈ tb := tb_at 232 (by decide +kernel) (by decide +kernel)
theorem lbX8_isTurn : LkB yX8_isTurn mX8_isTurn 1 := ⟨w_32, w_232, by decide +kernel⟩
theorem w_230 : (Cond.methodLink RX8 58 yX8_isTurn : Cond) ∈ tb := tb_at 230 (by decide +kernel) (by decide +kernel)
theorem w_231 : (Cond.static yX8_isTurn : Cond) ∈ tb := tb_at 231 (by decide +kernel) (by decide +kernel)
theorem kX8_58 : LkS RX8 58 yX8_isTurn mX8_isTurn 1 := ⟨lbX8_isTurn, w_230, w_231⟩
theorem w_347 : (Cond.code yX8_isPlace cX8_isPlace 4 (some .boolean) : Cond) ∈ tb := tb_at 347 (by decide +kernel) (by decide +kernel)
theorem lbX8_isPlace : LkB yX8_isPlace mX8_isPlace 2 := ⟨w_32, w_347, by decide +kernel⟩
theorem w_345 : (Cond.methodLink RX8 102 yX8_isPlace : Cond) ∈ tb := tb_at 345 (by decide +kernel) (by decide +kernel)
theorem w_346 : (Cond.static yX8_isPlace : Cond) ∈ tb := tb_at 346 (by decide +kernel) (by decide +kernel)
theorem kX8_102 : LkS RX8 102 yX8_isPlace mX8_isPlace 2 := ⟨lbX8_isPlace, w_345, w_346⟩
theorem w_360 : (Cond.code yX8_asLong cX8_asLong 1 (some .long) : Cond) ∈ tb := tb_at 360 (by decide +kernel) (by decide +kernel)
theorem lbX8_asLong : LkB yX8_asLong mX8_asLong 1 := ⟨w_32, w_360, by decide +kernel⟩
theorem w_358 : (Cond.methodLink RX8 113 yX8_asLong : Cond) ∈ tb := tb_at 358 (by decide +kernel) (by decide +kernel)
theorem w_359 : (Cond.static yX8_asLong : Cond) ∈ tb := tb_at 359 (by decide +kernel) (by decide +kernel)
theorem kX8_113 : LkS RX8 113 yX8_asLong mX8_asLong 1 := ⟨lbX8_asLong, w_358, w_359⟩
theorem w_608 : (Cond.code yX8_isForm cX8_isForm 1 (some .boolean) : Cond) ∈ tb := tb_at 608 (by decide +kernel) (by decide +kernel)
theorem lbX8_isForm : LkB yX8_isForm mX8_isForm 1 := ⟨w_32, w_608, by decide +kernel⟩
theorem w_606 : (Cond.methodLink RX8 222 yX8_isForm : Cond) ∈ tb := tb_at 606 (by decide +kernel) (by decide +kernel)
theorem w_607 : (Cond.static yX8_isForm : Cond) ∈ tb := tb_at 607 (by decide +kernel) (by decide +kernel)
theorem kX8_222 : LkS RX8 222 yX8_isForm mX8_isForm 1 := ⟨lbX8_isForm, w_606, w_607⟩
theorem w_649 : (Cond.methodLink RX8 256 arraycopyName : Cond) ∈ tb := tb_at 649 (by decide +kernel) (by decide +kernel)
theorem koX8_256 : Cond.methodLink RX8 256 arraycopyName ∈ tb := w_649
theorem w_532 : (Cond.static arraycopyName : Cond) ∈ tb := tb_at 532 (by decide +kernel) (by decide +kernel)
theorem w_43 : (Cond.initialized RJ10 : Cond) ∈ tb := tb_at 43 (by decide +kernel) (by decide +kernel)
theorem w_533 : (Cond.native arraycopyName : Cond) ∈ tb := tb_at 533 (by decide +kernel) (by decide +kernel)
theorem sy_copy : Cond.native arraycopyName ∈ tb ∧ Cond.static arraycopyName ∈ tb ∧ Cond.initialized "java/lang/System" ∈ tb := ⟨w_533, w_532, w_43⟩
theorem w_224 : (Cond.code yX6_find cX6_find 2 (some (.object "BoneSteps$Bone")) : Cond) ∈ tb := tb_at 224 (by decide +kernel) (by decide +kernel)
theorem lbX6_find : LkB yX6_find mX6_find 1 := ⟨w_33, w_224, by decide +kernel⟩
theorem w_221 : (Cond.methodLink RX8 48 yX6_find : Cond) ∈ tb := tb_at 221 (by decide +kernel) (by decide +kernel)
theorem w_222 : (Cond.instanceMethod yX6_find : Cond) ∈ tb := tb_at 222 (by decide +kernel) (by decide +kernel)
theorem w_223 : (Cond.selects RX6 yX6_find yX6_find : Cond) ∈ tb := tb_at 223 (by decide +kernel) (by decide +kernel)
theorem kX8_48 : LkV RX8 48 yX6_find mX6_find 1 6 := ⟨lbX6_find, w_221, w_222, w_223, ⟨_, rfl, rfl⟩, by decide⟩
theorem w_237 : (Cond.code yX2_total cX2_total 3 (some .int) : Cond) ∈ tb := tb_at 237 (by decide +kernel) (by decide +kernel)
theorem lbX2_total : LkB yX2_total mX2_total 0 := ⟨w_34, w_237, by decide +kernel⟩
theorem w_234 : (Cond.methodLink RX8 67 yX2_total : Cond) ∈ tb := tb_at 234 (by decide +kernel) (by decide +kernel)
theorem w_235 : (Cond.instanceMethod yX2_total : Cond) ∈ tb := tb_at 235 (by decide +kernel) (by decide +kernel)
theorem w_236 : (Cond.selects RX2 yX2_total yX2_total : Cond) ∈ tb := tb_at 236 (by decide +kernel) (by decide +kernel)
theorem kX8_67 : LkV RX8 67 yX2_total mX2_total 0 2 := ⟨lbX2_total, w_234, w_235, w_236, ⟨_, rfl, rfl⟩, by decide⟩
theorem w_302 : (Cond.code yX6_grow cX6_grow 2 (some .int) : Cond) ∈ tb := tb_at 302 (by decide +kernel) (by decide +kernel)
theorem lbX6_grow : LkB yX6_grow mX6_grow 1 := ⟨w_33, w_302, by decide +kernel⟩
theorem w_299 : (Cond.methodLink RX8 77 yX6_grow : Cond) ∈ tb := tb_at 299 (by decide +kernel) (by decide +kernel)
theorem w_300 : (Cond.instanceMethod yX6_grow : Cond) ∈ tb := tb_at 300 (by decide +kernel) (by decide +kernel)
theorem w_301 : (Cond.selects RX6 yX6_grow yX6_grow : Cond) ∈ tb := tb_at 301 (by decide +kernel) (by decide +kernel)
theorem kX8_77 : LkV RX8 77 yX6_grow mX6_grow 1 6 := ⟨lbX6_grow, w_299, w_300, w_301, ⟨_, rfl, rfl⟩, by decide⟩
theorem w_331 : (Cond.code yX0_allows cX0_allows 3 (some .boolean) : Cond) ∈ tb := tb_at 331 (by decide +kernel) (by decide +kernel)
theorem lbX0_allows : LkB yX0_allows mX0_allows 1 := ⟨w_40, w_331, by decide +kernel⟩
theorem w_328 : (Cond.methodLink RX8 96 yX0_allows : Cond) ∈ tb := tb_at 328 (by decide +kernel) (by decide +kernel)
theorem w_329 : (Cond.instanceMethod yX0_allows : Cond) ∈ tb := tb_at 329 (by decide +kernel) (by decide +kernel)
theorem w_330 : (Cond.selects RX0 yX0_allows yX0_allows : Cond) ∈ tb := tb_at 330 (by decide +kernel) (by decide +kernel)
theorem kX8_96 : LkV RX8 96 yX0_allows mX0_allows 1 0 := ⟨lbX0_allows, w_328, w_329, w_330, ⟨_, rfl, rfl⟩, by decide⟩
theorem w_335 : (Cond.code yX6_settle cX6_settle 6 none : Cond) ∈ tb := tb_at 335 (by decide +kernel) (by decide +kernel)
theorem lbX6_settle : LkB yX6_settle mX6_settle 0 := ⟨w_33, w_335, by decide +kernel⟩
theorem w_332 : (Cond.methodLink RX8 99 yX6_settle : Cond) ∈ tb := tb_at 332 (by decide +kernel) (by decide +kernel)
theorem w_333 : (Cond.instanceMethod yX6_settle : Cond) ∈ tb := tb_at 333 (by decide +kernel) (by decide +kernel)
theorem w_334 : (Cond.selects RX6 yX6_settle yX6_settle : Cond) ∈ tb := tb_at 334 (by decide +kernel) (by decide +kernel)
theorem kX8_99 : LkV RX8 99 yX6_settle mX6_settle 0 6 := ⟨lbX6_settle, w_332, w_333, w_334, ⟨_, rfl, rfl⟩, by decide⟩
theorem w_353 : (Cond.code yX6_moveRoot cX6_moveRoot 5 none : Cond) ∈ tb := tb_at 353 (by decide +kernel) (by decide +kernel)
theorem lbX6_moveRoot : LkB yX6_moveRoot mX6_moveRoot 2 := ⟨w_33, w_353, by decide +kernel⟩
theorem w_350 : (Cond.methodLink RX8 109 yX6_moveRoot : Cond) ∈ tb := tb_at 350 (by decide +kernel) (by decide +kernel)
theorem w_351 : (Cond.instanceMethod yX6_moveRoot : Cond) ∈ tb := tb_at 351 (by decide +kernel) (by decide +kernel)
theorem w_352 : (Cond.selects RX6 yX6_moveRoot yX6_moveRoot : Cond) ∈ tb := tb_at 352 (by decide +kernel) (by decide +kernel)
theorem kX8_109 : LkV RX8 109 yX6_moveRoot mX6_moveRoot 2 6 := ⟨lbX6_moveRoot, w_350, w_351, w_352, ⟨_, rfl, rfl⟩, by decide⟩
theorem w_369 : (Cond.code yX0_farFrom cX0_farFrom 5 (some .long) : Cond) ∈ tb := tb_at 369 (by decide +kernel) (by decide +kernel)
theorem lbX0_farFrom : LkB yX0_farFrom mX0_farFrom 2 := ⟨w_40, w_369, by decide +kernel⟩
theorem w_366 : (Cond.methodLink RX8 130 yX0_farFrom : Cond) ∈ tb := tb_at 366 (by decide +kernel) (by decide +kernel)
theorem w_367 : (Cond.instanceMethod yX0_farFrom : Cond) ∈ tb := tb_at 367 (by decide +kernel) (by decide +kernel)
theorem w_368 : (Cond.selects RX0 yX0_farFrom yX0_farFrom : Cond) ∈ tb := tb_at 368 (by decide +kernel) (by decide +kernel)
theorem kX8_130 : LkV RX8 130 yX0_farFrom mX0_farFrom 2 0 := ⟨lbX0_farFrom, w_366, w_367, w_368, ⟨_, rfl, rfl⟩, by decide⟩
theorem w_387 : (Cond.code yX6_reachByTwo cX6_reachByTwo 12 none : Cond) ∈ tb := tb_at 387 (by decide +kernel) (by decide +kernel)
theorem lbX6_reachByTwo : LkB yX6_reachByTwo mX6_reachByTwo 3 := ⟨w_33, w_387, by decide +kernel⟩
theorem w_384 : (Cond.methodLink RX8 134 yX6_reachByTwo : Cond) ∈ tb := tb_at 384 (by decide +kernel) (by decide +kernel)
theorem w_385 : (Cond.instanceMethod yX6_reachByTwo : Cond) ∈ tb := tb_at 385 (by decide +kernel) (by decide +kernel)
theorem w_386 : (Cond.selects RX6 yX6_reachByTwo yX6_reachByTwo : Cond) ∈ tb := tb_at 386 (by decide +kernel) (by decide +kernel)
theorem kX8_134 : LkV RX8 134 yX6_reachByTwo mX6_reachByTwo 3 6 := ⟨lbX6_reachByTwo, w_384, w_385, w_386, ⟨_, rfl, rfl⟩, by decide⟩
theorem w_412 : (Cond.code yX6_reachByRounds cX6_reachByRounds 9 none : Cond) ∈ tb := tb_at 412 (by decide +kernel) (by decide +kernel)
theorem lbX6_reachByRounds : LkB yX6_reachByRounds mX6_reachByRounds 4 := ⟨w_33, w_412, by decide +kernel⟩
theorem w_409 : (Cond.methodLink RX8 140 yX6_reachByRounds : Cond) ∈ tb := tb_at 409 (by decide +kernel) (by decide +kernel)
theorem w_410 : (Cond.instanceMethod yX6_reachByRounds : Cond) ∈ tb := tb_at 410 (by decide +kernel) (by decide +kernel)
theorem w_411 : (Cond.selects RX6 yX6_reachByRounds yX6_reachByRounds : Cond) ∈ tb := tb_at 411 (by decide +kernel) (by decide +kernel)
theorem kX8_140 : LkV RX8 140 yX6_reachByRounds mX6_reachByRounds 4 6 := ⟨lbX6_reachByRounds, w_409, w_410, w_411, ⟨_, rfl, rfl⟩, by decide⟩
theorem w_424 : (Cond.code yX2_find cX2_find 2 (some (.object "BoneSteps$Clip")) : Cond) ∈ tb := tb_at 424 (by decide +kernel) (by decide +kernel)
theorem lbX2_find : LkB yX2_find mX2_find 1 := ⟨w_34, w_424, by decide +kernel⟩
theorem w_421 : (Cond.methodLink RX8 144 yX2_find : Cond) ∈ tb := tb_at 421 (by decide +kernel) (by decide +kernel)
theorem w_422 : (Cond.instanceMethod yX2_find : Cond) ∈ tb := tb_at 422 (by decide +kernel) (by decide +kernel)
theorem w_423 : (Cond.selects RX2 yX2_find yX2_find : Cond) ∈ tb := tb_at 423 (by decide +kernel) (by decide +kernel)
theorem kX8_144 : LkV RX8 144 yX2_find mX2_find 1 2 := ⟨lbX2_find, w_421, w_422, w_423, ⟨_, rfl, rfl⟩, by decide⟩
theorem w_430 : (Cond.code yX6_tellTurns cX6_tellTurns 3 none : Cond) ∈ tb := tb_at 430 (by decide +kernel) (by decide +kernel)
theorem lbX6_tellTurns : LkB yX6_tellTurns mX6_tellTurns 1 := ⟨w_33, w_430, by decide +kernel⟩
theorem w_427 : (Cond.methodLink RX8 154 yX6_tellTurns : Cond) ∈ tb := tb_at 427 (by decide +kernel) (by decide +kernel)
theorem w_428 : (Cond.instanceMethod yX6_tellTurns : Cond) ∈ tb := tb_at 428 (by decide +kernel) (by decide +kernel)
theorem w_429 : (Cond.selects RX6 yX6_tellTurns yX6_tellTurns : Cond) ∈ tb := tb_at 429 (by decide +kernel) (by decide +kernel)
theorem kX8_154 : LkV RX8 154 yX6_tellTurns mX6_tellTurns 1 6 := ⟨lbX6_tellTurns, w_427, w_428, w_429, ⟨_, rfl, rfl⟩, by decide⟩
theorem w_442 : (Cond.code yX2_findFrame cX2_findFrame 3 (some (.array .int)) : Cond) ∈ tb := tb_at 442 (by decide +kernel) (by decide +kernel)
theorem lbX2_findFrame : LkB yX2_findFrame mX2_findFrame 2 := ⟨w_34, w_442, by decide +kernel⟩
theorem w_439 : (Cond.methodLink RX8 161 yX2_findFrame : Cond) ∈ tb := tb_at 439 (by decide +kernel) (by decide +kernel)
theorem w_440 : (Cond.instanceMethod yX2_findFrame : Cond) ∈ tb := tb_at 440 (by decide +kernel) (by decide +kernel)
theorem w_441 : (Cond.selects RX2 yX2_findFrame yX2_findFrame : Cond) ∈ tb := tb_at 441 (by decide +kernel) (by decide +kernel)
theorem kX8_161 : LkV RX8 161 yX2_findFrame mX2_findFrame 2 2 := ⟨lbX2_findFrame, w_439, w_440, w_441, ⟨_, rfl, rfl⟩, by decide⟩
theorem w_446 : (Cond.code yX6_takeTurns cX6_takeTurns 3 none : Cond) ∈ tb := tb_at 446 (by decide +kernel) (by decide +kernel)
theorem lbX6_takeTurns : LkB yX6_takeTurns mX6_takeTurns 1 := ⟨w_33, w_446, by decide +kernel⟩
theorem w_443 : (Cond.methodLink RX8 165 yX6_takeTurns : Cond) ∈ tb := tb_at 443 (by decide +kernel) (by decide +kernel)
theorem w_444 : (Cond.instanceMethod yX6_takeTurns : Cond) ∈ tb := tb_at 444 (by decide +kernel) (by decide +kernel)
theorem w_445 : (Cond.selects RX6 yX6_takeTurns yX6_takeTurns : Cond) ∈ tb := tb_at 445 (by decide +kernel) (by decide +kernel)
theorem kX8_165 : LkV RX8 165 yX6_takeTurns mX6_takeTurns 1 6 := ⟨lbX6_takeTurns, w_443, w_444, w_445, ⟨_, rfl, rfl⟩, by decide⟩
theorem w_460 : (Cond.code yX6_blendWith cX6_blendWith 5 none : Cond) ∈ tb := tb_at 460 (by decide +kernel) (by decide +kernel)
theorem lbX6_blendWith : LkB yX6_blendWith mX6_blendWith 3 := ⟨w_33, w_460, by decide +kernel⟩
theorem w_457 : (Cond.methodLink RX8 170 yX6_blendWith : Cond) ∈ tb := tb_at 457 (by decide +kernel) (by decide +kernel)
theorem w_458 : (Cond.instanceMethod yX6_blendWith : Cond) ∈ tb := tb_at 458 (by decide +kernel) (by decide +kernel)
theorem w_459 : (Cond.selects RX6 yX6_blendWith yX6_blendWith : Cond) ∈ tb := tb_at 459 (by decide +kernel) (by decide +kernel)
theorem kX8_170 : LkV RX8 170 yX6_blendWith mX6_blendWith 3 6 := ⟨lbX6_blendWith, w_457, w_458, w_459, ⟨_, rfl, rfl⟩, by decide⟩
theorem w_485 : (Cond.code yX6_addDifference cX6_addDifference 6 (some .int) : Cond) ∈ tb := tb_at 485 (by decide +kernel) (by decide +kernel)
theorem lbX6_addDifference : LkB yX6_addDifference mX6_addDifference 2 := ⟨w_33, w_485, by decide +kernel⟩
theorem w_482 : (Cond.methodLink RX8 174 yX6_addDifference : Cond) ∈ tb := tb_at 482 (by decide +kernel) (by decide +kernel)
theorem w_483 : (Cond.instanceMethod yX6_addDifference : Cond) ∈ tb := tb_at 483 (by decide +kernel) (by decide +kernel)
theorem w_484 : (Cond.selects RX6 yX6_addDifference yX6_addDifference : Cond) ∈ tb := tb_at 484 (by decide +kernel) (by decide +kernel)
theorem kX8_174 : LkV RX8 174 yX6_addDifference mX6_addDifference 2 6 := ⟨lbX6_addDifference, w_482, w_483, w_484, ⟨_, rfl, rfl⟩, by decide⟩
theorem w_500 : (Cond.code yX2_likeness cX2_likeness 6 (some .int) : Cond) ∈ tb := tb_at 500 (by decide +kernel) (by decide +kernel)
theorem lbX2_likeness : LkB yX2_likeness mX2_likeness 3 := ⟨w_34, w_500, by decide +kernel⟩
theorem w_497 : (Cond.methodLink RX8 179 yX2_likeness : Cond) ∈ tb := tb_at 497 (by decide +kernel) (by decide +kernel)
theorem w_498 : (Cond.instanceMethod yX2_likeness : Cond) ∈ tb := tb_at 498 (by decide +kernel) (by decide +kernel)
theorem w_499 : (Cond.selects RX2 yX2_likeness yX2_likeness : Cond) ∈ tb := tb_at 499 (by decide +kernel) (by decide +kernel)
theorem kX8_179 : LkV RX8 179 yX2_likeness mX2_likeness 3 2 := ⟨lbX2_likeness, w_497, w_498, w_499, ⟨_, rfl, rfl⟩, by decide⟩
theorem w_510 : (Cond.code yX4_findKeys cX4_findKeys 6 none : Cond) ∈ tb := tb_at 510 (by decide +kernel) (by decide +kernel)
theorem lbX4_findKeys : LkB yX4_findKeys mX4_findKeys 3 := ⟨w_36, w_510, by decide +kernel⟩
theorem w_507 : (Cond.methodLink RX8 185 yX4_findKeys : Cond) ∈ tb := tb_at 507 (by decide +kernel) (by decide +kernel)
theorem w_508 : (Cond.instanceMethod yX4_findKeys : Cond) ∈ tb := tb_at 508 (by decide +kernel) (by decide +kernel)
theorem w_509 : (Cond.selects RX4 yX4_findKeys yX4_findKeys : Cond) ∈ tb := tb_at 509 (by decide +kernel) (by decide +kernel)
theorem kX8_185 : LkV RX8 185 yX4_findKeys mX4_findKeys 3 4 := ⟨lbX4_findKeys, w_507, w_508, w_509, ⟨_, rfl, rfl⟩, by decide⟩
theorem w_530 : (Cond.code yX4_keepKeys cX4_keepKeys 3 none : Cond) ∈ tb := tb_at 530 (by decide +kernel) (by decide +kernel)
theorem lbX4_keepKeys : LkB yX4_keepKeys mX4_keepKeys 1 := ⟨w_36, w_530, by decide +kernel⟩
theorem w_527 : (Cond.methodLink RX8 194 yX4_keepKeys : Cond) ∈ tb := tb_at 527 (by decide +kernel) (by decide +kernel)
theorem w_528 : (Cond.instanceMethod yX4_keepKeys : Cond) ∈ tb := tb_at 528 (by decide +kernel) (by decide +kernel)
theorem w_529 : (Cond.selects RX4 yX4_keepKeys yX4_keepKeys : Cond) ∈ tb := tb_at 529 (by decide +kernel) (by decide +kernel)
theorem kX8_194 : LkV RX8 194 yX4_keepKeys mX4_keepKeys 1 4 := ⟨lbX4_keepKeys, w_527, w_528, w_529, ⟨_, rfl, rfl⟩, by decide⟩
theorem w_545 : (Cond.code yX3_lastJoined cX3_lastJoined 5 (some .int) : Cond) ∈ tb := tb_at 545 (by decide +kernel) (by decide +kernel)
theorem lbX3_lastJoined : LkB yX3_lastJoined mX3_lastJoined 2 := ⟨w_37, w_545, by decide +kernel⟩
theorem w_542 : (Cond.methodLink RX8 201 yX3_lastJoined : Cond) ∈ tb := tb_at 542 (by decide +kernel) (by decide +kernel)
theorem w_543 : (Cond.instanceMethod yX3_lastJoined : Cond) ∈ tb := tb_at 543 (by decide +kernel) (by decide +kernel)
theorem w_544 : (Cond.selects RX3 yX3_lastJoined yX3_lastJoined : Cond) ∈ tb := tb_at 544 (by decide +kernel) (by decide +kernel)
theorem kX8_201 : LkV RX8 201 yX3_lastJoined mX3_lastJoined 2 3 := ⟨lbX3_lastJoined, w_542, w_543, w_544, ⟨_, rfl, rfl⟩, by decide⟩
theorem w_568 : (Cond.code yX3_findWalk cX3_findWalk 6 none : Cond) ∈ tb := tb_at 568 (by decide +kernel) (by decide +kernel)
theorem lbX3_findWalk : LkB yX3_findWalk mX3_findWalk 3 := ⟨w_37, w_568, by decide +kernel⟩
theorem w_565 : (Cond.methodLink RX8 205 yX3_findWalk : Cond) ∈ tb := tb_at 565 (by decide +kernel) (by decide +kernel)
theorem w_566 : (Cond.instanceMethod yX3_findWalk : Cond) ∈ tb := tb_at 566 (by decide +kernel) (by decide +kernel)
theorem w_567 : (Cond.selects RX3 yX3_findWalk yX3_findWalk : Cond) ∈ tb := tb_at 567 (by decide +kernel) (by decide +kernel)
theorem kX8_205 : LkV RX8 205 yX3_findWalk mX3_findWalk 3 3 := ⟨lbX3_findWalk, w_565, w_566, w_567, ⟨_, rfl, rfl⟩, by decide⟩
theorem w_604 : (Cond.code yX8_findSheet cX8_findSheet 2 (some (.object "BoneSteps$Sheet")) : Cond) ∈ tb := tb_at 604 (by decide +kernel) (by decide +kernel)
theorem lbX8_findSheet : LkB yX8_findSheet mX8_findSheet 1 := ⟨w_32, w_604, by decide +kernel⟩
theorem w_601 : (Cond.methodLink RX8 218 yX8_findSheet : Cond) ∈ tb := tb_at 601 (by decide +kernel) (by decide +kernel)
theorem w_603 : (Cond.instanceMethod yX8_findSheet : Cond) ∈ tb := tb_at 603 (by decide +kernel) (by decide +kernel)
theorem w_9 : (Cond.selects RX8 yX8_findSheet yX8_findSheet : Cond) ∈ tb := tb_at 9 (by decide +kernel) (by decide +kernel)
theorem kX8_218 : LkV RX8 218 yX8_findSheet mX8_findSheet 1 7 := ⟨lbX8_findSheet, w_601, w_603, w_9, ⟨_, rfl, rfl⟩, by decide⟩
theorem w_613 : (Cond.code yX8_found cX8_found 2 (some .int) : Cond) ∈ tb := tb_at 613 (by decide +kernel) (by decide +kernel)
theorem lbX8_found : LkB yX8_found mX8_found 1 := ⟨w_32, w_613, by decide +kernel⟩
theorem w_610 : (Cond.methodLink RX8 225 yX8_found : Cond) ∈ tb := tb_at 610 (by decide +kernel) (by decide +kernel)
theorem w_612 : (Cond.instanceMethod yX8_found : Cond) ∈ tb := tb_at 612 (by decide +kernel) (by decide +kernel)
theorem w_10 : (Cond.selects RX8 yX8_found yX8_found : Cond) ∈ tb := tb_at 10 (by decide +kernel) (by decide +kernel)
theorem kX8_225 : LkV RX8 225 yX8_found mX8_found 1 7 := ⟨lbX8_found, w_610, w_612, w_10, ⟨_, rfl, rfl⟩, by decide⟩
theorem w_617 : (Cond.code yX5_begin cX5_begin 3 none : Cond) ∈ tb := tb_at 617 (by decide +kernel) (by decide +kernel)
theorem lbX5_begin : LkB yX5_begin mX5_begin 2 := ⟨w_38, w_617, by decide +kernel⟩
theorem w_614 : (Cond.methodLink RX8 229 yX5_begin : Cond) ∈ tb := tb_at 614 (by decide +kernel) (by decide +kernel)
theorem w_615 : (Cond.instanceMethod yX5_begin : Cond) ∈ tb := tb_at 615 (by decide +kernel) (by decide +kernel)
theorem w_616 : (Cond.selects RX5 yX5_begin yX5_begin : Cond) ∈ tb := tb_at 616 (by decide +kernel) (by decide +kernel)
theorem kX8_229 : LkV RX8 229 yX5_begin mX5_begin 2 5 := ⟨lbX5_begin, w_614, w_615, w_616, ⟨_, rfl, rfl⟩, by decide⟩
theorem w_630 : (Cond.code yX5_wrongItem cX5_wrongItem 3 (some .int) : Cond) ∈ tb := tb_at 630 (by decide +kernel) (by decide +kernel)
theorem lbX5_wrongItem : LkB yX5_wrongItem mX5_wrongItem 2 := ⟨w_38, w_630, by decide +kernel⟩
theorem w_627 : (Cond.methodLink RX8 238 yX5_wrongItem : Cond) ∈ tb := tb_at 627 (by decide +kernel) (by decide +kernel)
theorem w_628 : (Cond.instanceMethod yX5_wrongItem : Cond) ∈ tb := tb_at 628 (by decide +kernel) (by decide +kernel)
theorem w_629 : (Cond.selects RX5 yX5_wrongItem yX5_wrongItem : Cond) ∈ tb := tb_at 629 (by decide +kernel) (by decide +kernel)
theorem kX8_238 : LkV RX8 238 yX5_wrongItem mX5_wrongItem 2 5 := ⟨lbX5_wrongItem, w_627, w_628, w_629, ⟨_, rfl, rfl⟩, by decide⟩
theorem w_635 : (Cond.code yX5_store cX5_store 3 none : Cond) ∈ tb := tb_at 635 (by decide +kernel) (by decide +kernel)
theorem lbX5_store : LkB yX5_store mX5_store 2 := ⟨w_38, w_635, by decide +kernel⟩
theorem w_632 : (Cond.methodLink RX8 242 yX5_store : Cond) ∈ tb := tb_at 632 (by decide +kernel) (by decide +kernel)
theorem w_633 : (Cond.instanceMethod yX5_store : Cond) ∈ tb := tb_at 633 (by decide +kernel) (by decide +kernel)
theorem w_634 : (Cond.selects RX5 yX5_store yX5_store : Cond) ∈ tb := tb_at 634 (by decide +kernel) (by decide +kernel)
theorem kX8_242 : LkV RX8 242 yX5_store mX5_store 2 5 := ⟨lbX5_store, w_632, w_633, w_634, ⟨_, rfl, rfl⟩, by decide⟩
theorem w_648 : (Cond.code yX5_holds cX5_holds 3 (some .boolean) : Cond) ∈ tb := tb_at 648 (by decide +kernel) (by decide +kernel)
theorem lbX5_holds : LkB yX5_holds mX5_holds 2 := ⟨w_38, w_648, by decide +kernel⟩
theorem w_645 : (Cond.methodLink RX8 252 yX5_holds : Cond) ∈ tb := tb_at 645 (by decide +kernel) (by decide +kernel)
theorem w_646 : (Cond.instanceMethod yX5_holds : Cond) ∈ tb := tb_at 646 (by decide +kernel) (by decide +kernel)
theorem w_647 : (Cond.selects RX5 yX5_holds yX5_holds : Cond) ∈ tb := tb_at 647 (by decide +kernel) (by decide +kernel)
theorem kX8_252 : LkV RX8 252 yX5_holds mX5_holds 2 5 := ⟨lbX5_holds, w_645, w_646, w_647, ⟨_, rfl, rfl⟩, by decide⟩
theorem w_657 : (Cond.code yX5_wrongPose cX5_wrongPose 3 (some .int) : Cond) ∈ tb := tb_at 657 (by decide +kernel) (by decide +kernel)
theorem lbX5_wrongPose : LkB yX5_wrongPose mX5_wrongPose 2 := ⟨w_38, w_657, by decide +kernel⟩
theorem w_654 : (Cond.methodLink RX8 262 yX5_wrongPose : Cond) ∈ tb := tb_at 654 (by decide +kernel) (by decide +kernel)
theorem w_655 : (Cond.instanceMethod yX5_wrongPose : Cond) ∈ tb := tb_at 655 (by decide +kernel) (by decide +kernel)
theorem w_656 : (Cond.selects RX5 yX5_wrongPose yX5_wrongPose : Cond) ∈ tb := tb_at 656 (by decide +kernel) (by decide +kernel)
theorem kX8_262 : LkV RX8 262 yX5_wrongPose mX5_wrongPose 2 5 := ⟨lbX5_wrongPose, w_654, w_655, w_656, ⟨_, rfl, rfl⟩, by decide⟩
theorem w_662 : (Cond.code yX6_takeItems cX6_takeItems 5 (some .int) : Cond) ∈ tb := tb_at 662 (by decide +kernel) (by decide +kernel)
theorem lbX6_takeItems : LkB yX6_takeItems mX6_takeItems 2 := ⟨w_33, w_662, by decide +kernel⟩
theorem w_659 : (Cond.methodLink RX8 265 yX6_takeItems : Cond) ∈ tb := tb_at 659 (by decide +kernel) (by decide +kernel)
theorem w_660 : (Cond.instanceMethod yX6_takeItems : Cond) ∈ tb := tb_at 660 (by decide +kernel) (by decide +kernel)
theorem w_661 : (Cond.selects RX6 yX6_takeItems yX6_takeItems : Cond) ∈ tb := tb_at 661 (by decide +kernel) (by decide +kernel)
theorem kX8_265 : LkV RX8 265 yX6_takeItems mX6_takeItems 2 6 := ⟨lbX6_takeItems, w_659, w_660, w_661, ⟨_, rfl, rfl⟩, by decide⟩
theorem w_670 : (Cond.code yX8_count cX8_count 2 (some .int) : Cond) ∈ tb := tb_at 670 (by decide +kernel) (by decide +kernel)
theorem lbX8_count : LkB yX8_count mX8_count 1 := ⟨w_32, w_670, by decide +kernel⟩
theorem w_677 : (Cond.methodLink RX8 277 yX8_count : Cond) ∈ tb := tb_at 677 (by decide +kernel) (by decide +kernel)
theorem w_668 : (Cond.instanceMethod yX8_count : Cond) ∈ tb := tb_at 668 (by decide +kernel) (by decide +kernel)
theorem w_669 : (Cond.selects RX8 yX8_count yX8_count : Cond) ∈ tb := tb_at 669 (by decide +kernel) (by decide +kernel)
theorem kX8_277 : LkV RX8 277 yX8_count mX8_count 1 7 := ⟨lbX8_count, w_677, w_668, w_669, ⟨_, rfl, rfl⟩, by decide⟩
theorem w_681 : (Cond.code yX6_digestOn cX6_digestOn 6 (some .long) : Cond) ∈ tb := tb_at 681 (by decide +kernel) (by decide +kernel)
theorem lbX6_digestOn : LkB yX6_digestOn mX6_digestOn 1 := ⟨w_33, w_681, by decide +kernel⟩
theorem w_678 : (Cond.methodLink RX8 280 yX6_digestOn : Cond) ∈ tb := tb_at 678 (by decide +kernel) (by decide +kernel)
theorem w_679 : (Cond.instanceMethod yX6_digestOn : Cond) ∈ tb := tb_at 679 (by decide +kernel) (by decide +kernel)
theorem w_680 : (Cond.selects RX6 yX6_digestOn yX6_digestOn : Cond) ∈ tb := tb_at 680 (by decide +kernel) (by decide +kernel)
theorem kX8_280 : LkV RX8 280 yX6_digestOn mX6_digestOn 1 6 := ⟨lbX6_digestOn, w_678, w_679, w_680, ⟨_, rfl, rfl⟩, by decide⟩
theorem w_686 : (Cond.code yX2_digestOn cX2_digestOn 8 (some .long) : Cond) ∈ tb := tb_at 686 (by decide +kernel) (by decide +kernel)
theorem lbX2_digestOn : LkB yX2_digestOn mX2_digestOn 1 := ⟨w_34, w_686, by decide +kernel⟩
theorem w_683 : (Cond.methodLink RX8 284 yX2_digestOn : Cond) ∈ tb := tb_at 683 (by decide +kernel) (by decide +kernel)
theorem w_684 : (Cond.instanceMethod yX2_digestOn : Cond) ∈ tb := tb_at 684 (by decide +kernel) (by decide +kernel)
theorem w_685 : (Cond.selects RX2 yX2_digestOn yX2_digestOn : Cond) ∈ tb := tb_at 685 (by decide +kernel) (by decide +kernel)
theorem kX8_284 : LkV RX8 284 yX2_digestOn mX2_digestOn 1 2 := ⟨lbX2_digestOn, w_683, w_684, w_685, ⟨_, rfl, rfl⟩, by decide⟩
theorem w_243 : (Cond.methodLink RX0 3 objectInit : Cond) ∈ tb := tb_at 243 (by decide +kernel) (by decide +kernel)
theorem koX0_3 : Cond.methodLink RX0 3 objectInit ∈ tb := w_243
theorem w_41 : (Cond.initialized RX7 : Cond) ∈ tb := tb_at 41 (by decide +kernel) (by decide +kernel)
theorem w_477 : (Cond.code yX7_distance cX7_distance 3 (some .int) : Cond) ∈ tb := tb_at 477 (by decide +kernel) (by decide +kernel)
theorem lbX7_distance : LkB yX7_distance mX7_distance 2 := ⟨w_41, w_477, by decide +kernel⟩
theorem w_475 : (Cond.methodLink RX0 41 yX7_distance : Cond) ∈ tb := tb_at 475 (by decide +kernel) (by decide +kernel)
theorem w_476 : (Cond.static yX7_distance : Cond) ∈ tb := tb_at 476 (by decide +kernel) (by decide +kernel)
theorem kX0_41 : LkS RX0 41 yX7_distance mX7_distance 2 := ⟨lbX7_distance, w_475, w_476⟩
theorem w_467 : (Cond.code yX7_shortWay cX7_shortWay 3 (some .int) : Cond) ∈ tb := tb_at 467 (by decide +kernel) (by decide +kernel)
theorem lbX7_shortWay : LkB yX7_shortWay mX7_shortWay 2 := ⟨w_41, w_467, by decide +kernel⟩
theorem w_465 : (Cond.methodLink RX0 47 yX7_shortWay : Cond) ∈ tb := tb_at 465 (by decide +kernel) (by decide +kernel)
theorem w_466 : (Cond.static yX7_shortWay : Cond) ∈ tb := tb_at 466 (by decide +kernel) (by decide +kernel)
theorem kX0_47 : LkS RX0 47 yX7_shortWay mX7_shortWay 2 := ⟨lbX7_shortWay, w_465, w_466⟩
theorem w_470 : (Cond.code yX7_normal cX7_normal 1 (some .int) : Cond) ∈ tb := tb_at 470 (by decide +kernel) (by decide +kernel)
theorem lbX7_normal : LkB yX7_normal mX7_normal 1 := ⟨w_41, w_470, by decide +kernel⟩
theorem w_468 : (Cond.methodLink RX0 50 yX7_normal : Cond) ∈ tb := tb_at 468 (by decide +kernel) (by decide +kernel)
theorem w_469 : (Cond.static yX7_normal : Cond) ∈ tb := tb_at 469 (by decide +kernel) (by decide +kernel)
theorem kX0_50 : LkS RX0 50 yX7_normal mX7_normal 1 := ⟨lbX7_normal, w_468, w_469⟩
theorem w_310 : (Cond.code yX7_cosine cX7_cosine 1 (some .int) : Cond) ∈ tb := tb_at 310 (by decide +kernel) (by decide +kernel)
theorem lbX7_cosine : LkB yX7_cosine mX7_cosine 1 := ⟨w_41, w_310, by decide +kernel⟩
theorem w_308 : (Cond.methodLink RX0 78 yX7_cosine : Cond) ∈ tb := tb_at 308 (by decide +kernel) (by decide +kernel)
theorem w_309 : (Cond.static yX7_cosine : Cond) ∈ tb := tb_at 309 (by decide +kernel) (by decide +kernel)
theorem kX0_78 : LkS RX0 78 yX7_cosine mX7_cosine 1 := ⟨lbX7_cosine, w_308, w_309⟩
theorem w_318 : (Cond.code yX7_sine cX7_sine 1 (some .int) : Cond) ∈ tb := tb_at 318 (by decide +kernel) (by decide +kernel)
theorem lbX7_sine : LkB yX7_sine mX7_sine 1 := ⟨w_41, w_318, by decide +kernel⟩
theorem w_316 : (Cond.methodLink RX0 81 yX7_sine : Cond) ∈ tb := tb_at 316 (by decide +kernel) (by decide +kernel)
theorem w_317 : (Cond.static yX7_sine : Cond) ∈ tb := tb_at 317 (by decide +kernel) (by decide +kernel)
theorem kX0_81 : LkS RX0 81 yX7_sine mX7_sine 1 := ⟨lbX7_sine, w_316, w_317⟩
theorem w_370 : (Cond.methodLink RX0 86 Lib.MathLoose.abs_long.x : Cond) ∈ tb := tb_at 370 (by decide +kernel) (by decide +kernel)
theorem koX0_86 : Cond.methodLink RX0 86 Lib.MathLoose.abs_long.x ∈ tb := w_370
theorem w_371 : (Cond.static Lib.MathLoose.abs_long.x : Cond) ∈ tb := tb_at 371 (by decide +kernel) (by decide +kernel)
theorem w_42 : (Cond.initialized RJ9 : Cond) ∈ tb := tb_at 42 (by decide +kernel) (by decide +kernel)
theorem w_372 : (Cond.code Lib.MathLoose.abs_long.x Lib.MathLoose.abs_long.code 2 (some .long) : Cond) ∈ tb := tb_at 372 (by decide +kernel) (by decide +kernel)
theorem sy_abs : Cond.static Lib.MathLoose.abs_long.x ∈ tb ∧ Cond.initialized "java/lang/Math" ∈ tb ∧ Cond.code Lib.MathLoose.abs_long.x Lib.MathLoose.abs_long.code 2 (some .long) ∈ tb := ⟨w_371, w_42, w_372⟩
theorem w_373 : (Cond.methodLink RX0 92 Lib.MathLoose.max_long.x : Cond) ∈ tb := tb_at 373 (by decide +kernel) (by decide +kernel)
theorem koX0_92 : Cond.methodLink RX0 92 Lib.MathLoose.max_long.x ∈ tb := w_373
theorem w_374 : (Cond.static Lib.MathLoose.max_long.x : Cond) ∈ tb := tb_at 374 (by decide +kernel) (by decide +kernel)
theorem w_375 : (Cond.code Lib.MathLoose.max_long.x Lib.MathLoose.max_long.code 4 (some .long) : Cond) ∈ tb := tb_at 375 (by decide +kernel) (by decide +kernel)
theorem sy_max : Cond.static Lib.MathLoose.max_long.x ∈ tb ∧ Cond.initialized "java/lang/Math" ∈ tb ∧ Cond.code Lib.MathLoose.max_long.x Lib.MathLoose.max_long.code 4 (some .long) ∈ tb := ⟨w_374, w_42, w_375⟩
theorem w_400 : (Cond.methodLink RX0 37 yX0_allows : Cond) ∈ tb := tb_at 400 (by decide +kernel) (by decide +kernel)
theorem kX0_37 : LkV RX0 37 yX0_allows mX0_allows 1 0 := ⟨lbX0_allows, w_400, w_329, w_330, ⟨_, rfl, rfl⟩, by decide⟩
theorem w_474 : (Cond.code yX0_intoLimits cX0_intoLimits 2 (some .int) : Cond) ∈ tb := tb_at 474 (by decide +kernel) (by decide +kernel)
theorem lbX0_intoLimits : LkB yX0_intoLimits mX0_intoLimits 1 := ⟨w_40, w_474, by decide +kernel⟩
theorem w_471 : (Cond.methodLink RX0 54 yX0_intoLimits : Cond) ∈ tb := tb_at 471 (by decide +kernel) (by decide +kernel)
theorem w_472 : (Cond.instanceMethod yX0_intoLimits : Cond) ∈ tb := tb_at 472 (by decide +kernel) (by decide +kernel)
theorem w_473 : (Cond.selects RX0 yX0_intoLimits yX0_intoLimits : Cond) ∈ tb := tb_at 473 (by decide +kernel) (by decide +kernel)
theorem kX0_54 : LkV RX0 54 yX0_intoLimits mX0_intoLimits 1 0 := ⟨lbX0_intoLimits, w_471, w_472, w_473, ⟨_, rfl, rfl⟩, by decide⟩
theorem w_399 : (Cond.code yX0_farTurned cX0_farTurned 16 (some .long) : Cond) ∈ tb := tb_at 399 (by decide +kernel) (by decide +kernel)
theorem lbX0_farTurned : LkB yX0_farTurned mX0_farTurned 5 := ⟨w_40, w_399, by decide +kernel⟩
theorem w_396 : (Cond.methodLink RX0 96 yX0_farTurned : Cond) ∈ tb := tb_at 396 (by decide +kernel) (by decide +kernel)
theorem w_398 : (Cond.instanceMethod yX0_farTurned : Cond) ∈ tb := tb_at 398 (by decide +kernel) (by decide +kernel)
theorem w_1 : (Cond.selects RX0 yX0_farTurned yX0_farTurned : Cond) ∈ tb := tb_at 1 (by decide +kernel) (by decide +kernel)
theorem kX0_96 : LkV RX0 96 yX0_farTurned mX0_farTurned 5 0 := ⟨lbX0_farTurned, w_396, w_398, w_1, ⟨_, rfl, rfl⟩, by decide⟩
theorem w_96 : (Cond.methodLink RX1 3 objectInit : Cond) ∈ tb := tb_at 96 (by decide +kernel) (by decide +kernel)
theorem koX1_3 : Cond.methodLink RX1 3 objectInit ∈ tb := w_96
theorem w_89 : (Cond.methodLink RX2 3 objectInit : Cond) ∈ tb := tb_at 89 (by decide +kernel) (by decide +kernel)
theorem koX2_3 : Cond.methodLink RX2 3 objectInit ∈ tb := w_89
theorem w_35 : (Cond.initialized RX1 : Cond) ∈ tb := tb_at 35 (by decide +kernel) (by decide +kernel)
theorem w_95 : (Cond.code yX1_init cX1_init 1 none : Cond) ∈ tb := tb_at 95 (by decide +kernel) (by decide +kernel)
theorem lbX1_init : LkB yX1_init mX1_init 0 := ⟨w_35, w_95, by decide +kernel⟩
theorem w_94 : (Cond.instanceMethod yX1_init : Cond) ∈ tb := tb_at 94 (by decide +kernel) (by decide +kernel)
theorem kX2_17 : LkIN RX2 17 yX1_init mX1_init 0 := ⟨lbX1_init, ⟨"BoneSteps", by decide +kernel⟩, w_94⟩
theorem kX2_20 : LkSN RX2 20 yX8_isIn mX8_isIn 3 := ⟨lbX8_isIn, ⟨"BoneSteps", by decide +kernel⟩, w_226⟩
theorem w_501 : (Cond.methodLink RX2 39 yX7_distance : Cond) ∈ tb := tb_at 501 (by decide +kernel) (by decide +kernel)
theorem kX2_39 : LkS RX2 39 yX7_distance mX7_distance 2 := ⟨lbX7_distance, w_501, w_476⟩
theorem w_555 : (Cond.methodLink RX2 32 yX2_findFrame : Cond) ∈ tb := tb_at 555 (by decide +kernel) (by decide +kernel)
theorem kX2_32 : LkV RX2 32 yX2_findFrame mX2_findFrame 2 2 := ⟨lbX2_findFrame, w_555, w_440, w_441, ⟨_, rfl, rfl⟩, by decide⟩
theorem w_140 : (Cond.methodLink RX3 3 objectInit : Cond) ∈ tb := tb_at 140 (by decide +kernel) (by decide +kernel)
theorem koX3_3 : Cond.methodLink RX3 3 objectInit ∈ tb := w_140
theorem w_44 : (Cond.initialized RJ7 : Cond) ∈ tb := tb_at 44 (by decide +kernel) (by decide +kernel)
theorem w_576 : (Cond.code yJ7_fill_53178 cJ7_fill_53178 4 none : Cond) ∈ tb := tb_at 576 (by decide +kernel) (by decide +kernel)
theorem lbJ7_fill_53178 : LkB yJ7_fill_53178 mJ7_fill_53178 2 := ⟨w_44, w_576, by decide +kernel⟩
theorem w_574 : (Cond.methodLink RX3 72 yJ7_fill_53178 : Cond) ∈ tb := tb_at 574 (by decide +kernel) (by decide +kernel)
theorem w_575 : (Cond.static yJ7_fill_53178 : Cond) ∈ tb := tb_at 575 (by decide +kernel) (by decide +kernel)
theorem kX3_72 : LkS RX3 72 yJ7_fill_53178 mJ7_fill_53178 2 := ⟨lbJ7_fill_53178, w_574, w_575⟩
theorem w_546 : (Cond.methodLink RX3 35 yX2_findFrame : Cond) ∈ tb := tb_at 546 (by decide +kernel) (by decide +kernel)
theorem kX3_35 : LkV RX3 35 yX2_findFrame mX2_findFrame 2 2 := ⟨lbX2_findFrame, w_546, w_440, w_441, ⟨_, rfl, rfl⟩, by decide⟩
theorem w_550 : (Cond.code yX3_isJoined cX3_isJoined 6 (some .boolean) : Cond) ∈ tb := tb_at 550 (by decide +kernel) (by decide +kernel)
theorem lbX3_isJoined : LkB yX3_isJoined mX3_isJoined 3 := ⟨w_37, w_550, by decide +kernel⟩
theorem w_547 : (Cond.methodLink RX3 41 yX3_isJoined : Cond) ∈ tb := tb_at 547 (by decide +kernel) (by decide +kernel)
theorem w_549 : (Cond.instanceMethod yX3_isJoined : Cond) ∈ tb := tb_at 549 (by decide +kernel) (by decide +kernel)
theorem w_3 : (Cond.selects RX3 yX3_isJoined yX3_isJoined : Cond) ∈ tb := tb_at 3 (by decide +kernel) (by decide +kernel)
theorem kX3_41 : LkV RX3 41 yX3_isJoined mX3_isJoined 3 3 := ⟨lbX3_isJoined, w_547, w_549, w_3, ⟨_, rfl, rfl⟩, by decide⟩
theorem w_554 : (Cond.code yX2_findSlot cX2_findSlot 2 (some (.array .int)) : Cond) ∈ tb := tb_at 554 (by decide +kernel) (by decide +kernel)
theorem lbX2_findSlot : LkB yX2_findSlot mX2_findSlot 1 := ⟨w_34, w_554, by decide +kernel⟩
theorem w_551 : (Cond.methodLink RX3 45 yX2_findSlot : Cond) ∈ tb := tb_at 551 (by decide +kernel) (by decide +kernel)
theorem w_552 : (Cond.instanceMethod yX2_findSlot : Cond) ∈ tb := tb_at 552 (by decide +kernel) (by decide +kernel)
theorem w_553 : (Cond.selects RX2 yX2_findSlot yX2_findSlot : Cond) ∈ tb := tb_at 553 (by decide +kernel) (by decide +kernel)
theorem kX3_45 : LkV RX3 45 yX2_findSlot mX2_findSlot 1 2 := ⟨lbX2_findSlot, w_551, w_552, w_553, ⟨_, rfl, rfl⟩, by decide⟩
theorem w_556 : (Cond.methodLink RX3 49 yX2_likeness : Cond) ∈ tb := tb_at 556 (by decide +kernel) (by decide +kernel)
theorem kX3_49 : LkV RX3 49 yX2_likeness mX2_likeness 3 2 := ⟨lbX2_likeness, w_556, w_498, w_499, ⟨_, rfl, rfl⟩, by decide⟩
theorem w_572 : (Cond.code yX3_begin cX3_begin 4 none : Cond) ∈ tb := tb_at 572 (by decide +kernel) (by decide +kernel)
theorem lbX3_begin : LkB yX3_begin mX3_begin 2 := ⟨w_37, w_572, by decide +kernel⟩
theorem w_569 : (Cond.methodLink RX3 53 yX3_begin : Cond) ∈ tb := tb_at 569 (by decide +kernel) (by decide +kernel)
theorem w_571 : (Cond.instanceMethod yX3_begin : Cond) ∈ tb := tb_at 571 (by decide +kernel) (by decide +kernel)
theorem w_4 : (Cond.selects RX3 yX3_begin yX3_begin : Cond) ∈ tb := tb_at 4 (by decide +kernel) (by decide +kernel)
theorem kX3_53 : LkV RX3 53 yX3_begin mX3_begin 2 3 := ⟨lbX3_begin, w_569, w_571, w_4, ⟨_, rfl, rfl⟩, by decide⟩
theorem w_580 : (Cond.code yX3_nearestOpen cX3_nearestOpen 5 (some .int) : Cond) ∈ tb := tb_at 580 (by decide +kernel) (by decide +kernel)
theorem lbX3_nearestOpen : LkB yX3_nearestOpen mX3_nearestOpen 0 := ⟨w_37, w_580, by decide +kernel⟩
theorem w_577 : (Cond.methodLink RX3 60 yX3_nearestOpen : Cond) ∈ tb := tb_at 577 (by decide +kernel) (by decide +kernel)
theorem w_579 : (Cond.instanceMethod yX3_nearestOpen : Cond) ∈ tb := tb_at 579 (by decide +kernel) (by decide +kernel)
theorem w_5 : (Cond.selects RX3 yX3_nearestOpen yX3_nearestOpen : Cond) ∈ tb := tb_at 5 (by decide +kernel) (by decide +kernel)
theorem kX3_60 : LkV RX3 60 yX3_nearestOpen mX3_nearestOpen 0 3 := ⟨lbX3_nearestOpen, w_577, w_579, w_5, ⟨_, rfl, rfl⟩, by decide⟩
theorem w_584 : (Cond.code yX3_reachFrom cX3_reachFrom 7 none : Cond) ∈ tb := tb_at 584 (by decide +kernel) (by decide +kernel)
theorem lbX3_reachFrom : LkB yX3_reachFrom mX3_reachFrom 2 := ⟨w_37, w_584, by decide +kernel⟩
theorem w_581 : (Cond.methodLink RX3 64 yX3_reachFrom : Cond) ∈ tb := tb_at 581 (by decide +kernel) (by decide +kernel)
theorem w_583 : (Cond.instanceMethod yX3_reachFrom : Cond) ∈ tb := tb_at 583 (by decide +kernel) (by decide +kernel)
theorem w_6 : (Cond.selects RX3 yX3_reachFrom yX3_reachFrom : Cond) ∈ tb := tb_at 6 (by decide +kernel) (by decide +kernel)
theorem kX3_64 : LkV RX3 64 yX3_reachFrom mX3_reachFrom 2 3 := ⟨lbX3_reachFrom, w_581, w_583, w_6, ⟨_, rfl, rfl⟩, by decide⟩
theorem w_592 : (Cond.code yX3_keepPath cX3_keepPath 5 none : Cond) ∈ tb := tb_at 592 (by decide +kernel) (by decide +kernel)
theorem lbX3_keepPath : LkB yX3_keepPath mX3_keepPath 2 := ⟨w_37, w_592, by decide +kernel⟩
theorem w_589 : (Cond.methodLink RX3 67 yX3_keepPath : Cond) ∈ tb := tb_at 589 (by decide +kernel) (by decide +kernel)
theorem w_591 : (Cond.instanceMethod yX3_keepPath : Cond) ∈ tb := tb_at 591 (by decide +kernel) (by decide +kernel)
theorem w_8 : (Cond.selects RX3 yX3_keepPath yX3_keepPath : Cond) ∈ tb := tb_at 8 (by decide +kernel) (by decide +kernel)
theorem kX3_67 : LkV RX3 67 yX3_keepPath mX3_keepPath 2 3 := ⟨lbX3_keepPath, w_589, w_591, w_8, ⟨_, rfl, rfl⟩, by decide⟩
theorem w_588 : (Cond.code yX3_wayCost cX3_wayCost 7 (some .int) : Cond) ∈ tb := tb_at 588 (by decide +kernel) (by decide +kernel)
theorem lbX3_wayCost : LkB yX3_wayCost mX3_wayCost 3 := ⟨w_37, w_588, by decide +kernel⟩
theorem w_585 : (Cond.methodLink RX3 78 yX3_wayCost : Cond) ∈ tb := tb_at 585 (by decide +kernel) (by decide +kernel)
theorem w_587 : (Cond.instanceMethod yX3_wayCost : Cond) ∈ tb := tb_at 587 (by decide +kernel) (by decide +kernel)
theorem w_7 : (Cond.selects RX3 yX3_wayCost yX3_wayCost : Cond) ∈ tb := tb_at 7 (by decide +kernel) (by decide +kernel)
theorem kX3_78 : LkV RX3 78 yX3_wayCost mX3_wayCost 3 3 := ⟨lbX3_wayCost, w_585, w_587, w_7, ⟨_, rfl, rfl⟩, by decide⟩
theorem w_125 : (Cond.methodLink RX4 3 objectInit : Cond) ∈ tb := tb_at 125 (by decide +kernel) (by decide +kernel)
theorem koX4_3 : Cond.methodLink RX4 3 objectInit ∈ tb := w_125
theorem w_513 : (Cond.code yX4_nextKey cX4_nextKey 5 (some .int) : Cond) ∈ tb := tb_at 513 (by decide +kernel) (by decide +kernel)
theorem lbX4_nextKey : LkB yX4_nextKey mX4_nextKey 4 := ⟨w_36, w_513, by decide +kernel⟩
theorem w_511 : (Cond.methodLink RX4 22 yX4_nextKey : Cond) ∈ tb := tb_at 511 (by decide +kernel) (by decide +kernel)
theorem w_512 : (Cond.static yX4_nextKey : Cond) ∈ tb := tb_at 512 (by decide +kernel) (by decide +kernel)
theorem kX4_22 : LkS RX4 22 yX4_nextKey mX4_nextKey 4 := ⟨lbX4_nextKey, w_511, w_512⟩
theorem w_516 : (Cond.code yX4_spans cX4_spans 9 (some .boolean) : Cond) ∈ tb := tb_at 516 (by decide +kernel) (by decide +kernel)
theorem lbX4_spans : LkB yX4_spans mX4_spans 5 := ⟨w_36, w_516, by decide +kernel⟩
theorem w_514 : (Cond.methodLink RX4 26 yX4_spans : Cond) ∈ tb := tb_at 514 (by decide +kernel) (by decide +kernel)
theorem w_515 : (Cond.static yX4_spans : Cond) ∈ tb := tb_at 515 (by decide +kernel) (by decide +kernel)
theorem kX4_26 : LkS RX4 26 yX4_spans mX4_spans 5 := ⟨lbX4_spans, w_514, w_515⟩
theorem w_518 : (Cond.methodLink RX4 47 yX7_distance : Cond) ∈ tb := tb_at 518 (by decide +kernel) (by decide +kernel)
theorem kX4_47 : LkS RX4 47 yX7_distance mX7_distance 2 := ⟨lbX7_distance, w_518, w_476⟩
theorem w_531 : (Cond.methodLink RX4 53 arraycopyName : Cond) ∈ tb := tb_at 531 (by decide +kernel) (by decide +kernel)
theorem koX4_53 : Cond.methodLink RX4 53 arraycopyName ∈ tb := w_531
theorem w_464 : (Cond.code yX0_blended cX0_blended 4 (some .int) : Cond) ∈ tb := tb_at 464 (by decide +kernel) (by decide +kernel)
theorem lbX0_blended : LkB yX0_blended mX0_blended 3 := ⟨w_40, w_464, by decide +kernel⟩
theorem w_517 : (Cond.methodLink RX4 41 yX0_blended : Cond) ∈ tb := tb_at 517 (by decide +kernel) (by decide +kernel)
theorem w_462 : (Cond.instanceMethod yX0_blended : Cond) ∈ tb := tb_at 462 (by decide +kernel) (by decide +kernel)
theorem w_463 : (Cond.selects RX0 yX0_blended yX0_blended : Cond) ∈ tb := tb_at 463 (by decide +kernel) (by decide +kernel)
theorem kX4_41 : LkV RX4 41 yX0_blended mX0_blended 3 0 := ⟨lbX0_blended, w_517, w_462, w_463, ⟨_, rfl, rfl⟩, by decide⟩
theorem w_180 : (Cond.methodLink RX5 3 objectInit : Cond) ∈ tb := tb_at 180 (by decide +kernel) (by decide +kernel)
theorem koX5_3 : Cond.methodLink RX5 3 objectInit ∈ tb := w_180
theorem w_618 : (Cond.methodLink RX5 19 yJ7_fill_53178 : Cond) ∈ tb := tb_at 618 (by decide +kernel) (by decide +kernel)
theorem kX5_19 : LkS RX5 19 yJ7_fill_53178 mJ7_fill_53178 2 := ⟨lbJ7_fill_53178, w_618, w_575⟩
theorem kX5_32 : LkSN RX5 32 yX8_isIn mX8_isIn 3 := ⟨lbX8_isIn, ⟨"BoneSteps", by decide +kernel⟩, w_226⟩
theorem w_658 : (Cond.methodLink RX5 36 yX5_holds : Cond) ∈ tb := tb_at 658 (by decide +kernel) (by decide +kernel)
theorem kX5_36 : LkV RX5 36 yX5_holds mX5_holds 2 5 := ⟨lbX5_holds, w_658, w_646, w_647, ⟨_, rfl, rfl⟩, by decide⟩
theorem w_58 : (Cond.methodLink RX6 3 objectInit : Cond) ∈ tb := tb_at 58 (by decide +kernel) (by decide +kernel)
theorem koX6_3 : Cond.methodLink RX6 3 objectInit ∈ tb := w_58
theorem kX6_24 : LkSN RX6 24 yX8_isIn mX8_isIn 3 := ⟨lbX8_isIn, ⟨"BoneSteps", by decide +kernel⟩, w_226⟩
theorem w_486 : (Cond.methodLink RX6 61 yX7_shortWay : Cond) ∈ tb := tb_at 486 (by decide +kernel) (by decide +kernel)
theorem kX6_61 : LkS RX6 61 yX7_shortWay mX7_shortWay 2 := ⟨lbX7_shortWay, w_486, w_466⟩
theorem w_487 : (Cond.methodLink RX6 67 yX7_normal : Cond) ∈ tb := tb_at 487 (by decide +kernel) (by decide +kernel)
theorem kX6_67 : LkS RX6 67 yX7_normal mX7_normal 1 := ⟨lbX7_normal, w_487, w_469⟩
theorem w_306 : (Cond.code yX0_place cX0_place 11 none : Cond) ∈ tb := tb_at 306 (by decide +kernel) (by decide +kernel)
theorem lbX0_place : LkB yX0_place mX0_place 2 := ⟨w_40, w_306, by decide +kernel⟩
theorem w_303 : (Cond.methodLink RX6 35 yX0_place : Cond) ∈ tb := tb_at 303 (by decide +kernel) (by decide +kernel)
theorem w_304 : (Cond.instanceMethod yX0_place : Cond) ∈ tb := tb_at 304 (by decide +kernel) (by decide +kernel)
theorem w_305 : (Cond.selects RX0 yX0_place yX0_place : Cond) ∈ tb := tb_at 305 (by decide +kernel) (by decide +kernel)
theorem kX6_35 : LkV RX6 35 yX0_place mX0_place 2 0 := ⟨lbX0_place, w_303, w_304, w_305, ⟨_, rfl, rfl⟩, by decide⟩
theorem w_340 : (Cond.code yX6_place cX6_place 2 none : Cond) ∈ tb := tb_at 340 (by decide +kernel) (by decide +kernel)
theorem lbX6_place : LkB yX6_place mX6_place 0 := ⟨w_33, w_340, by decide +kernel⟩
theorem w_337 : (Cond.methodLink RX6 39 yX6_place : Cond) ∈ tb := tb_at 337 (by decide +kernel) (by decide +kernel)
theorem w_339 : (Cond.instanceMethod yX6_place : Cond) ∈ tb := tb_at 339 (by decide +kernel) (by decide +kernel)
theorem w_0 : (Cond.selects RX6 yX6_place yX6_place : Cond) ∈ tb := tb_at 0 (by decide +kernel) (by decide +kernel)
theorem kX6_39 : LkV RX6 39 yX6_place mX6_place 0 6 := ⟨lbX6_place, w_337, w_339, w_0, ⟨_, rfl, rfl⟩, by decide⟩
theorem w_336 : (Cond.methodLink RX6 41 yX6_find : Cond) ∈ tb := tb_at 336 (by decide +kernel) (by decide +kernel)
theorem kX6_41 : LkV RX6 41 yX6_find mX6_find 1 6 := ⟨lbX6_find, w_336, w_222, w_223, ⟨_, rfl, rfl⟩, by decide⟩
theorem w_447 : (Cond.methodLink RX6 54 yX6_settle : Cond) ∈ tb := tb_at 447 (by decide +kernel) (by decide +kernel)
theorem kX6_54 : LkV RX6 54 yX6_settle mX6_settle 0 6 := ⟨lbX6_settle, w_447, w_333, w_334, ⟨_, rfl, rfl⟩, by decide⟩
theorem w_461 : (Cond.methodLink RX6 57 yX0_blended : Cond) ∈ tb := tb_at 461 (by decide +kernel) (by decide +kernel)
theorem kX6_57 : LkV RX6 57 yX0_blended mX0_blended 3 0 := ⟨lbX0_blended, w_461, w_462, w_463, ⟨_, rfl, rfl⟩, by decide⟩
theorem w_491 : (Cond.code yX0_takeTurn cX0_takeTurn 2 (some .int) : Cond) ∈ tb := tb_at 491 (by decide +kernel) (by decide +kernel)
theorem lbX0_takeTurn : LkB yX0_takeTurn mX0_takeTurn 1 := ⟨w_40, w_491, by decide +kernel⟩
theorem w_488 : (Cond.methodLink RX6 71 yX0_takeTurn : Cond) ∈ tb := tb_at 488 (by decide +kernel) (by decide +kernel)
theorem w_489 : (Cond.instanceMethod yX0_takeTurn : Cond) ∈ tb := tb_at 489 (by decide +kernel) (by decide +kernel)
theorem w_490 : (Cond.selects RX0 yX0_takeTurn yX0_takeTurn : Cond) ∈ tb := tb_at 490 (by decide +kernel) (by decide +kernel)
theorem kX6_71 : LkV RX6 71 yX0_takeTurn mX0_takeTurn 1 0 := ⟨lbX0_takeTurn, w_488, w_489, w_490, ⟨_, rfl, rfl⟩, by decide⟩
theorem w_391 : (Cond.code yX0_leastTurn cX0_leastTurn 1 (some .int) : Cond) ∈ tb := tb_at 391 (by decide +kernel) (by decide +kernel)
theorem lbX0_leastTurn : LkB yX0_leastTurn mX0_leastTurn 0 := ⟨w_40, w_391, by decide +kernel⟩
theorem w_388 : (Cond.methodLink RX6 78 yX0_leastTurn : Cond) ∈ tb := tb_at 388 (by decide +kernel) (by decide +kernel)
theorem w_389 : (Cond.instanceMethod yX0_leastTurn : Cond) ∈ tb := tb_at 389 (by decide +kernel) (by decide +kernel)
theorem w_390 : (Cond.selects RX0 yX0_leastTurn yX0_leastTurn : Cond) ∈ tb := tb_at 390 (by decide +kernel) (by decide +kernel)
theorem kX6_78 : LkV RX6 78 yX0_leastTurn mX0_leastTurn 0 0 := ⟨lbX0_leastTurn, w_388, w_389, w_390, ⟨_, rfl, rfl⟩, by decide⟩
theorem w_395 : (Cond.code yX0_nearestTurn cX0_nearestTurn 23 (some .int) : Cond) ∈ tb := tb_at 395 (by decide +kernel) (by decide +kernel)
theorem lbX0_nearestTurn : LkB yX0_nearestTurn mX0_nearestTurn 4 := ⟨w_40, w_395, by decide +kernel⟩
theorem w_392 : (Cond.methodLink RX6 82 yX0_nearestTurn : Cond) ∈ tb := tb_at 392 (by decide +kernel) (by decide +kernel)
theorem w_393 : (Cond.instanceMethod yX0_nearestTurn : Cond) ∈ tb := tb_at 393 (by decide +kernel) (by decide +kernel)
theorem w_394 : (Cond.selects RX0 yX0_nearestTurn yX0_nearestTurn : Cond) ∈ tb := tb_at 394 (by decide +kernel) (by decide +kernel)
theorem kX6_82 : LkV RX6 82 yX0_nearestTurn mX0_nearestTurn 4 0 := ⟨lbX0_nearestTurn, w_392, w_393, w_394, ⟨_, rfl, rfl⟩, by decide⟩
theorem w_402 : (Cond.methodLink RX6 88 yX0_allows : Cond) ∈ tb := tb_at 402 (by decide +kernel) (by decide +kernel)
theorem kX6_88 : LkV RX6 88 yX0_allows mX0_allows 1 0 := ⟨lbX0_allows, w_402, w_329, w_330, ⟨_, rfl, rfl⟩, by decide⟩
theorem w_403 : (Cond.methodLink RX6 92 yX0_farFrom : Cond) ∈ tb := tb_at 403 (by decide +kernel) (by decide +kernel)
theorem kX6_92 : LkV RX6 92 yX0_farFrom mX0_farFrom 2 0 := ⟨lbX0_farFrom, w_403, w_367, w_368, ⟨_, rfl, rfl⟩, by decide⟩
theorem w_416 : (Cond.code yX6_reachByRound cX6_reachByRound 9 (some .boolean) : Cond) ∈ tb := tb_at 416 (by decide +kernel) (by decide +kernel)
theorem lbX6_reachByRound : LkB yX6_reachByRound mX6_reachByRound 3 := ⟨w_33, w_416, by decide +kernel⟩
theorem w_413 : (Cond.methodLink RX6 96 yX6_reachByRound : Cond) ∈ tb := tb_at 413 (by decide +kernel) (by decide +kernel)
theorem w_415 : (Cond.instanceMethod yX6_reachByRound : Cond) ∈ tb := tb_at 415 (by decide +kernel) (by decide +kernel)
theorem w_2 : (Cond.selects RX6 yX6_reachByRound yX6_reachByRound : Cond) ∈ tb := tb_at 2 (by decide +kernel) (by decide +kernel)
theorem kX6_96 : LkV RX6 96 yX6_reachByRound mX6_reachByRound 3 6 := ⟨lbX6_reachByRound, w_413, w_415, w_2, ⟨_, rfl, rfl⟩, by decide⟩
theorem w_315 : (Cond.code yJ9_floorMod_7cf53 cJ9_floorMod_7cf53 3 (some .int) : Cond) ∈ tb := tb_at 315 (by decide +kernel) (by decide +kernel)
theorem lbJ9_floorMod_7cf53 : LkB yJ9_floorMod_7cf53 mJ9_floorMod_7cf53 2 := ⟨w_42, w_315, by decide +kernel⟩
theorem w_313 : (Cond.methodLink RX7 9 yJ9_floorMod_7cf53 : Cond) ∈ tb := tb_at 313 (by decide +kernel) (by decide +kernel)
theorem w_314 : (Cond.static yJ9_floorMod_7cf53 : Cond) ∈ tb := tb_at 314 (by decide +kernel) (by decide +kernel)
theorem kX7_9 : LkS RX7 9 yJ9_floorMod_7cf53 mJ9_floorMod_7cf53 2 := ⟨lbJ9_floorMod_7cf53, w_313, w_314⟩
theorem w_49 : (Cond.code yX8_init cX8_init 2 none : Cond) ∈ tb := tb_at 49 (by decide +kernel) (by decide +kernel)
theorem lbX8_init : LkB yX8_init mX8_init 0 := ⟨w_32, w_49, by decide +kernel⟩
theorem w_47 : (Cond.methodLink RL 9 yX8_init : Cond) ∈ tb := tb_at 47 (by decide +kernel) (by decide +kernel)
theorem w_48 : (Cond.instanceMethod yX8_init : Cond) ∈ tb := tb_at 48 (by decide +kernel) (by decide +kernel)
theorem kL_9 : LkI RL 9 yX8_init mX8_init 0 := ⟨lbX8_init, w_47, w_48⟩
theorem w_39 : (Cond.initialized RX9 : Cond) ∈ tb := tb_at 39 (by decide +kernel) (by decide +kernel)
theorem w_692 : (Cond.code yX9_init cX9_init 2 none : Cond) ∈ tb := tb_at 692 (by decide +kernel) (by decide +kernel)
theorem lbX9_init : LkB yX9_init mX9_init 0 := ⟨w_39, w_692, by decide +kernel⟩
theorem w_690 : (Cond.methodLink RL 12 yX9_init : Cond) ∈ tb := tb_at 690 (by decide +kernel) (by decide +kernel)
theorem w_691 : (Cond.instanceMethod yX9_init : Cond) ∈ tb := tb_at 691 (by decide +kernel) (by decide +kernel)
theorem kL_12 : LkI RL 12 yX9_init mX9_init 0 := ⟨lbX9_init, w_690, w_691⟩
theorem w_220 : (Cond.code yX8_bone cX8_bone 6 (some .int) : Cond) ∈ tb := tb_at 220 (by decide +kernel) (by decide +kernel)
theorem lbX8_bone : LkB yX8_bone mX8_bone 4 := ⟨w_32, w_220, by decide +kernel⟩
theorem w_217 : (Cond.methodLink RL 13 yX8_bone : Cond) ∈ tb := tb_at 217 (by decide +kernel) (by decide +kernel)
theorem w_218 : (Cond.instanceMethod yX8_bone : Cond) ∈ tb := tb_at 218 (by decide +kernel) (by decide +kernel)
theorem w_219 : (Cond.selects RX8 yX8_bone yX8_bone : Cond) ∈ tb := tb_at 219 (by decide +kernel) (by decide +kernel)
theorem kL_13 : LkV RL 13 yX8_bone mX8_bone 4 7 := ⟨lbX8_bone, w_217, w_218, w_219, ⟨_, rfl, rfl⟩, by decide⟩
theorem w_804 : (Cond.code yX9_bone cX9_bone 6 (some .int) : Cond) ∈ tb := tb_at 804 (by decide +kernel) (by decide +kernel)
theorem lbX9_bone : LkB yX9_bone mX9_bone 4 := ⟨w_39, w_804, by decide +kernel⟩
theorem w_801 : (Cond.methodLink RL 17 yX9_bone : Cond) ∈ tb := tb_at 801 (by decide +kernel) (by decide +kernel)
theorem w_802 : (Cond.instanceMethod yX9_bone : Cond) ∈ tb := tb_at 802 (by decide +kernel) (by decide +kernel)
theorem w_803 : (Cond.selects RX9 yX9_bone yX9_bone : Cond) ∈ tb := tb_at 803 (by decide +kernel) (by decide +kernel)
theorem kL_17 : LkV RL 17 yX9_bone mX9_bone 4 8 := ⟨lbX9_bone, w_801, w_802, w_803, ⟨_, rfl, rfl⟩, by decide⟩
theorem w_323 : (Cond.code yX8_about cX8_about 4 (some .int) : Cond) ∈ tb := tb_at 323 (by decide +kernel) (by decide +kernel)
theorem lbX8_about : LkB yX8_about mX8_about 2 := ⟨w_32, w_323, by decide +kernel⟩
theorem w_320 : (Cond.methodLink RL 18 yX8_about : Cond) ∈ tb := tb_at 320 (by decide +kernel) (by decide +kernel)
theorem w_321 : (Cond.instanceMethod yX8_about : Cond) ∈ tb := tb_at 321 (by decide +kernel) (by decide +kernel)
theorem w_322 : (Cond.selects RX8 yX8_about yX8_about : Cond) ∈ tb := tb_at 322 (by decide +kernel) (by decide +kernel)
theorem kL_18 : LkV RL 18 yX8_about mX8_about 2 7 := ⟨lbX8_about, w_320, w_321, w_322, ⟨_, rfl, rfl⟩, by decide⟩
theorem w_818 : (Cond.code yX9_about cX9_about 3 (some .int) : Cond) ∈ tb := tb_at 818 (by decide +kernel) (by decide +kernel)
theorem lbX9_about : LkB yX9_about mX9_about 2 := ⟨w_39, w_818, by decide +kernel⟩
theorem w_815 : (Cond.methodLink RL 22 yX9_about : Cond) ∈ tb := tb_at 815 (by decide +kernel) (by decide +kernel)
theorem w_816 : (Cond.instanceMethod yX9_about : Cond) ∈ tb := tb_at 816 (by decide +kernel) (by decide +kernel)
theorem w_817 : (Cond.selects RX9 yX9_about yX9_about : Cond) ∈ tb := tb_at 817 (by decide +kernel) (by decide +kernel)
theorem kL_22 : LkV RL 22 yX9_about mX9_about 2 8 := ⟨lbX9_about, w_815, w_816, w_817, ⟨_, rfl, rfl⟩, by decide⟩
theorem w_327 : (Cond.code yX8_turn cX8_turn 5 (some .int) : Cond) ∈ tb := tb_at 327 (by decide +kernel) (by decide +kernel)
theorem lbX8_turn : LkB yX8_turn mX8_turn 2 := ⟨w_32, w_327, by decide +kernel⟩
theorem w_324 : (Cond.methodLink RL 23 yX8_turn : Cond) ∈ tb := tb_at 324 (by decide +kernel) (by decide +kernel)
theorem w_325 : (Cond.instanceMethod yX8_turn : Cond) ∈ tb := tb_at 325 (by decide +kernel) (by decide +kernel)
theorem w_326 : (Cond.selects RX8 yX8_turn yX8_turn : Cond) ∈ tb := tb_at 326 (by decide +kernel) (by decide +kernel)
theorem kL_23 : LkV RL 23 yX8_turn mX8_turn 2 7 := ⟨lbX8_turn, w_324, w_325, w_326, ⟨_, rfl, rfl⟩, by decide⟩
theorem w_826 : (Cond.code yX9_turn cX9_turn 4 (some .int) : Cond) ∈ tb := tb_at 826 (by decide +kernel) (by decide +kernel)
theorem lbX9_turn : LkB yX9_turn mX9_turn 2 := ⟨w_39, w_826, by decide +kernel⟩
theorem w_823 : (Cond.methodLink RL 26 yX9_turn : Cond) ∈ tb := tb_at 823 (by decide +kernel) (by decide +kernel)
theorem w_824 : (Cond.instanceMethod yX9_turn : Cond) ∈ tb := tb_at 824 (by decide +kernel) (by decide +kernel)
theorem w_825 : (Cond.selects RX9 yX9_turn yX9_turn : Cond) ∈ tb := tb_at 825 (by decide +kernel) (by decide +kernel)
theorem kL_26 : LkV RL 26 yX9_turn mX9_turn 2 8 := ⟨lbX9_turn, w_823, w_824, w_825, ⟨_, rfl, rfl⟩, by decide⟩
theorem w_344 : (Cond.code yX8_root cX8_root 5 (some .int) : Cond) ∈ tb := tb_at 344 (by decide +kernel) (by decide +kernel)
theorem lbX8_root : LkB yX8_root mX8_root 2 := ⟨w_32, w_344, by decide +kernel⟩
theorem w_341 : (Cond.methodLink RL 29 yX8_root : Cond) ∈ tb := tb_at 341 (by decide +kernel) (by decide +kernel)
theorem w_342 : (Cond.instanceMethod yX8_root : Cond) ∈ tb := tb_at 342 (by decide +kernel) (by decide +kernel)
theorem w_343 : (Cond.selects RX8 yX8_root yX8_root : Cond) ∈ tb := tb_at 343 (by decide +kernel) (by decide +kernel)
theorem kL_29 : LkV RL 29 yX8_root mX8_root 2 7 := ⟨lbX8_root, w_341, w_342, w_343, ⟨_, rfl, rfl⟩, by decide⟩
theorem w_851 : (Cond.code yX9_root cX9_root 5 (some .int) : Cond) ∈ tb := tb_at 851 (by decide +kernel) (by decide +kernel)
theorem lbX9_root : LkB yX9_root mX9_root 2 := ⟨w_39, w_851, by decide +kernel⟩
theorem w_848 : (Cond.methodLink RL 33 yX9_root : Cond) ∈ tb := tb_at 848 (by decide +kernel) (by decide +kernel)
theorem w_849 : (Cond.instanceMethod yX9_root : Cond) ∈ tb := tb_at 849 (by decide +kernel) (by decide +kernel)
theorem w_850 : (Cond.selects RX9 yX9_root yX9_root : Cond) ∈ tb := tb_at 850 (by decide +kernel) (by decide +kernel)
theorem kL_33 : LkV RL 33 yX9_root mX9_root 2 8 := ⟨lbX9_root, w_848, w_849, w_850, ⟨_, rfl, rfl⟩, by decide⟩
theorem w_357 : (Cond.code yX8_end cX8_end 4 (some .long) : Cond) ∈ tb := tb_at 357 (by decide +kernel) (by decide +kernel)
theorem lbX8_end : LkB yX8_end mX8_end 2 := ⟨w_32, w_357, by decide +kernel⟩
theorem w_354 : (Cond.methodLink RL 34 yX8_end : Cond) ∈ tb := tb_at 354 (by decide +kernel) (by decide +kernel)
theorem w_355 : (Cond.instanceMethod yX8_end : Cond) ∈ tb := tb_at 355 (by decide +kernel) (by decide +kernel)
theorem w_356 : (Cond.selects RX8 yX8_end yX8_end : Cond) ∈ tb := tb_at 356 (by decide +kernel) (by decide +kernel)
theorem kL_34 : LkV RL 34 yX8_end mX8_end 2 7 := ⟨lbX8_end, w_354, w_355, w_356, ⟨_, rfl, rfl⟩, by decide⟩
theorem w_860 : (Cond.code yX9_end cX9_end 3 (some .long) : Cond) ∈ tb := tb_at 860 (by decide +kernel) (by decide +kernel)
theorem lbX9_end : LkB yX9_end mX9_end 2 := ⟨w_39, w_860, by decide +kernel⟩
theorem w_857 : (Cond.methodLink RL 38 yX9_end : Cond) ∈ tb := tb_at 857 (by decide +kernel) (by decide +kernel)
theorem w_858 : (Cond.instanceMethod yX9_end : Cond) ∈ tb := tb_at 858 (by decide +kernel) (by decide +kernel)
theorem w_859 : (Cond.selects RX9 yX9_end yX9_end : Cond) ∈ tb := tb_at 859 (by decide +kernel) (by decide +kernel)
theorem kL_38 : LkV RL 38 yX9_end mX9_end 2 8 := ⟨lbX9_end, w_857, w_858, w_859, ⟨_, rfl, rfl⟩, by decide⟩
theorem w_365 : (Cond.code yX8_far cX8_far 7 (some .long) : Cond) ∈ tb := tb_at 365 (by decide +kernel) (by decide +kernel)
theorem lbX8_far : LkB yX8_far mX8_far 3 := ⟨w_32, w_365, by decide +kernel⟩
theorem w_362 : (Cond.methodLink RL 39 yX8_far : Cond) ∈ tb := tb_at 362 (by decide +kernel) (by decide +kernel)
theorem w_363 : (Cond.instanceMethod yX8_far : Cond) ∈ tb := tb_at 363 (by decide +kernel) (by decide +kernel)
theorem w_364 : (Cond.selects RX8 yX8_far yX8_far : Cond) ∈ tb := tb_at 364 (by decide +kernel) (by decide +kernel)
theorem kL_39 : LkV RL 39 yX8_far mX8_far 3 7 := ⟨lbX8_far, w_362, w_363, w_364, ⟨_, rfl, rfl⟩, by decide⟩
theorem w_868 : (Cond.code yX9_far cX9_far 6 (some .long) : Cond) ∈ tb := tb_at 868 (by decide +kernel) (by decide +kernel)
theorem lbX9_far : LkB yX9_far mX9_far 3 := ⟨w_39, w_868, by decide +kernel⟩
theorem w_865 : (Cond.methodLink RL 43 yX9_far : Cond) ∈ tb := tb_at 865 (by decide +kernel) (by decide +kernel)
theorem w_866 : (Cond.instanceMethod yX9_far : Cond) ∈ tb := tb_at 866 (by decide +kernel) (by decide +kernel)
theorem w_867 : (Cond.selects RX9 yX9_far yX9_far : Cond) ∈ tb := tb_at 867 (by decide +kernel) (by decide +kernel)
theorem kL_43 : LkV RL 43 yX9_far mX9_far 3 8 := ⟨lbX9_far, w_865, w_866, w_867, ⟨_, rfl, rfl⟩, by decide⟩
theorem w_379 : (Cond.code yX8_lock cX8_lock 3 (some .int) : Cond) ∈ tb := tb_at 379 (by decide +kernel) (by decide +kernel)
theorem lbX8_lock : LkB yX8_lock mX8_lock 1 := ⟨w_32, w_379, by decide +kernel⟩
theorem w_376 : (Cond.methodLink RL 44 yX8_lock : Cond) ∈ tb := tb_at 376 (by decide +kernel) (by decide +kernel)
theorem w_377 : (Cond.instanceMethod yX8_lock : Cond) ∈ tb := tb_at 377 (by decide +kernel) (by decide +kernel)
theorem w_378 : (Cond.selects RX8 yX8_lock yX8_lock : Cond) ∈ tb := tb_at 378 (by decide +kernel) (by decide +kernel)
theorem kL_44 : LkV RL 44 yX8_lock mX8_lock 1 7 := ⟨lbX8_lock, w_376, w_377, w_378, ⟨_, rfl, rfl⟩, by decide⟩
theorem w_876 : (Cond.code yX9_lock cX9_lock 3 (some .int) : Cond) ∈ tb := tb_at 876 (by decide +kernel) (by decide +kernel)
theorem lbX9_lock : LkB yX9_lock mX9_lock 1 := ⟨w_39, w_876, by decide +kernel⟩
theorem w_873 : (Cond.methodLink RL 48 yX9_lock : Cond) ∈ tb := tb_at 873 (by decide +kernel) (by decide +kernel)
theorem w_874 : (Cond.instanceMethod yX9_lock : Cond) ∈ tb := tb_at 874 (by decide +kernel) (by decide +kernel)
theorem w_875 : (Cond.selects RX9 yX9_lock yX9_lock : Cond) ∈ tb := tb_at 875 (by decide +kernel) (by decide +kernel)
theorem kL_48 : LkV RL 48 yX9_lock mX9_lock 1 8 := ⟨lbX9_lock, w_873, w_874, w_875, ⟨_, rfl, rfl⟩, by decide⟩
theorem w_383 : (Cond.code yX8_two cX8_two 7 (some .long) : Cond) ∈ tb := tb_at 383 (by decide +kernel) (by decide +kernel)
theorem lbX8_two : LkB yX8_two mX8_two 3 := ⟨w_32, w_383, by decide +kernel⟩
theorem w_380 : (Cond.methodLink RL 49 yX8_two : Cond) ∈ tb := tb_at 380 (by decide +kernel) (by decide +kernel)
theorem w_381 : (Cond.instanceMethod yX8_two : Cond) ∈ tb := tb_at 381 (by decide +kernel) (by decide +kernel)
theorem w_382 : (Cond.selects RX8 yX8_two yX8_two : Cond) ∈ tb := tb_at 382 (by decide +kernel) (by decide +kernel)
theorem kL_49 : LkV RL 49 yX8_two mX8_two 3 7 := ⟨lbX8_two, w_380, w_381, w_382, ⟨_, rfl, rfl⟩, by decide⟩
theorem w_880 : (Cond.code yX9_two cX9_two 15 (some .long) : Cond) ∈ tb := tb_at 880 (by decide +kernel) (by decide +kernel)
theorem lbX9_two : LkB yX9_two mX9_two 3 := ⟨w_39, w_880, by decide +kernel⟩
theorem w_877 : (Cond.methodLink RL 52 yX9_two : Cond) ∈ tb := tb_at 877 (by decide +kernel) (by decide +kernel)
theorem w_878 : (Cond.instanceMethod yX9_two : Cond) ∈ tb := tb_at 878 (by decide +kernel) (by decide +kernel)
theorem w_879 : (Cond.selects RX9 yX9_two yX9_two : Cond) ∈ tb := tb_at 879 (by decide +kernel) (by decide +kernel)
theorem kL_52 : LkV RL 52 yX9_two mX9_two 3 8 := ⟨lbX9_two, w_877, w_878, w_879, ⟨_, rfl, rfl⟩, by decide⟩
theorem w_407 : (Cond.code yX8_rounds cX8_rounds 8 (some .long) : Cond) ∈ tb := tb_at 407 (by decide +kernel) (by decide +kernel)
theorem lbX8_rounds : LkB yX8_rounds mX8_rounds 4 := ⟨w_32, w_407, by decide +kernel⟩
theorem w_404 : (Cond.methodLink RL 53 yX8_rounds : Cond) ∈ tb := tb_at 404 (by decide +kernel) (by decide +kernel)
theorem w_405 : (Cond.instanceMethod yX8_rounds : Cond) ∈ tb := tb_at 405 (by decide +kernel) (by decide +kernel)
theorem w_406 : (Cond.selects RX8 yX8_rounds yX8_rounds : Cond) ∈ tb := tb_at 406 (by decide +kernel) (by decide +kernel)
theorem kL_53 : LkV RL 53 yX8_rounds mX8_rounds 4 7 := ⟨lbX8_rounds, w_404, w_405, w_406, ⟨_, rfl, rfl⟩, by decide⟩
theorem w_884 : (Cond.code yX9_rounds cX9_rounds 15 (some .long) : Cond) ∈ tb := tb_at 884 (by decide +kernel) (by decide +kernel)
theorem lbX9_rounds : LkB yX9_rounds mX9_rounds 4 := ⟨w_39, w_884, by decide +kernel⟩
theorem w_881 : (Cond.methodLink RL 57 yX9_rounds : Cond) ∈ tb := tb_at 881 (by decide +kernel) (by decide +kernel)
theorem w_882 : (Cond.instanceMethod yX9_rounds : Cond) ∈ tb := tb_at 882 (by decide +kernel) (by decide +kernel)
theorem w_883 : (Cond.selects RX9 yX9_rounds yX9_rounds : Cond) ∈ tb := tb_at 883 (by decide +kernel) (by decide +kernel)
theorem kL_57 : LkV RL 57 yX9_rounds mX9_rounds 4 8 := ⟨lbX9_rounds, w_881, w_882, w_883, ⟨_, rfl, rfl⟩, by decide⟩
theorem w_420 : (Cond.code yX8_frame cX8_frame 3 (some .int) : Cond) ∈ tb := tb_at 420 (by decide +kernel) (by decide +kernel)
theorem lbX8_frame : LkB yX8_frame mX8_frame 1 := ⟨w_32, w_420, by decide +kernel⟩
theorem w_417 : (Cond.methodLink RL 58 yX8_frame : Cond) ∈ tb := tb_at 417 (by decide +kernel) (by decide +kernel)
theorem w_418 : (Cond.instanceMethod yX8_frame : Cond) ∈ tb := tb_at 418 (by decide +kernel) (by decide +kernel)
theorem w_419 : (Cond.selects RX8 yX8_frame yX8_frame : Cond) ∈ tb := tb_at 419 (by decide +kernel) (by decide +kernel)
theorem kL_58 : LkV RL 58 yX8_frame mX8_frame 1 7 := ⟨lbX8_frame, w_417, w_418, w_419, ⟨_, rfl, rfl⟩, by decide⟩
theorem w_889 : (Cond.code yX9_frame cX9_frame 3 (some .int) : Cond) ∈ tb := tb_at 889 (by decide +kernel) (by decide +kernel)
theorem lbX9_frame : LkB yX9_frame mX9_frame 1 := ⟨w_39, w_889, by decide +kernel⟩
theorem w_886 : (Cond.methodLink RL 61 yX9_frame : Cond) ∈ tb := tb_at 886 (by decide +kernel) (by decide +kernel)
theorem w_887 : (Cond.instanceMethod yX9_frame : Cond) ∈ tb := tb_at 887 (by decide +kernel) (by decide +kernel)
theorem w_888 : (Cond.selects RX9 yX9_frame yX9_frame : Cond) ∈ tb := tb_at 888 (by decide +kernel) (by decide +kernel)
theorem kL_61 : LkV RL 61 yX9_frame mX9_frame 1 8 := ⟨lbX9_frame, w_886, w_887, w_888, ⟨_, rfl, rfl⟩, by decide⟩
theorem w_434 : (Cond.code yX8_clear cX8_clear 4 (some .int) : Cond) ∈ tb := tb_at 434 (by decide +kernel) (by decide +kernel)
theorem lbX8_clear : LkB yX8_clear mX8_clear 1 := ⟨w_32, w_434, by decide +kernel⟩
theorem w_431 : (Cond.methodLink RL 62 yX8_clear : Cond) ∈ tb := tb_at 431 (by decide +kernel) (by decide +kernel)
theorem w_432 : (Cond.instanceMethod yX8_clear : Cond) ∈ tb := tb_at 432 (by decide +kernel) (by decide +kernel)
theorem w_433 : (Cond.selects RX8 yX8_clear yX8_clear : Cond) ∈ tb := tb_at 433 (by decide +kernel) (by decide +kernel)
theorem kL_62 : LkV RL 62 yX8_clear mX8_clear 1 7 := ⟨lbX8_clear, w_431, w_432, w_433, ⟨_, rfl, rfl⟩, by decide⟩
theorem w_900 : (Cond.code yX9_clear cX9_clear 3 (some .int) : Cond) ∈ tb := tb_at 900 (by decide +kernel) (by decide +kernel)
theorem lbX9_clear : LkB yX9_clear mX9_clear 1 := ⟨w_39, w_900, by decide +kernel⟩
theorem w_897 : (Cond.methodLink RL 65 yX9_clear : Cond) ∈ tb := tb_at 897 (by decide +kernel) (by decide +kernel)
theorem w_898 : (Cond.instanceMethod yX9_clear : Cond) ∈ tb := tb_at 898 (by decide +kernel) (by decide +kernel)
theorem w_899 : (Cond.selects RX9 yX9_clear yX9_clear : Cond) ∈ tb := tb_at 899 (by decide +kernel) (by decide +kernel)
theorem kL_65 : LkV RL 65 yX9_clear mX9_clear 1 8 := ⟨lbX9_clear, w_897, w_898, w_899, ⟨_, rfl, rfl⟩, by decide⟩
theorem w_438 : (Cond.code yX8_show cX8_show 4 (some .int) : Cond) ∈ tb := tb_at 438 (by decide +kernel) (by decide +kernel)
theorem lbX8_show : LkB yX8_show mX8_show 2 := ⟨w_32, w_438, by decide +kernel⟩
theorem w_435 : (Cond.methodLink RL 66 yX8_show : Cond) ∈ tb := tb_at 435 (by decide +kernel) (by decide +kernel)
theorem w_436 : (Cond.instanceMethod yX8_show : Cond) ∈ tb := tb_at 436 (by decide +kernel) (by decide +kernel)
theorem w_437 : (Cond.selects RX8 yX8_show yX8_show : Cond) ∈ tb := tb_at 437 (by decide +kernel) (by decide +kernel)
theorem kL_66 : LkV RL 66 yX8_show mX8_show 2 7 := ⟨lbX8_show, w_435, w_436, w_437, ⟨_, rfl, rfl⟩, by decide⟩
theorem w_904 : (Cond.code yX9_show cX9_show 4 (some .int) : Cond) ∈ tb := tb_at 904 (by decide +kernel) (by decide +kernel)
theorem lbX9_show : LkB yX9_show mX9_show 2 := ⟨w_39, w_904, by decide +kernel⟩
theorem w_901 : (Cond.methodLink RL 69 yX9_show : Cond) ∈ tb := tb_at 901 (by decide +kernel) (by decide +kernel)
theorem w_902 : (Cond.instanceMethod yX9_show : Cond) ∈ tb := tb_at 902 (by decide +kernel) (by decide +kernel)
theorem w_903 : (Cond.selects RX9 yX9_show yX9_show : Cond) ∈ tb := tb_at 903 (by decide +kernel) (by decide +kernel)
theorem kL_69 : LkV RL 69 yX9_show mX9_show 2 8 := ⟨lbX9_show, w_901, w_902, w_903, ⟨_, rfl, rfl⟩, by decide⟩
theorem w_451 : (Cond.code yX8_at cX8_at 5 (some .int) : Cond) ∈ tb := tb_at 451 (by decide +kernel) (by decide +kernel)
theorem lbX8_at : LkB yX8_at mX8_at 3 := ⟨w_32, w_451, by decide +kernel⟩
theorem w_448 : (Cond.methodLink RL 70 yX8_at : Cond) ∈ tb := tb_at 448 (by decide +kernel) (by decide +kernel)
theorem w_449 : (Cond.instanceMethod yX8_at : Cond) ∈ tb := tb_at 449 (by decide +kernel) (by decide +kernel)
theorem w_450 : (Cond.selects RX8 yX8_at yX8_at : Cond) ∈ tb := tb_at 450 (by decide +kernel) (by decide +kernel)
theorem kL_70 : LkV RL 70 yX8_at mX8_at 3 7 := ⟨lbX8_at, w_448, w_449, w_450, ⟨_, rfl, rfl⟩, by decide⟩
theorem w_912 : (Cond.code yX9_at cX9_at 4 (some .int) : Cond) ∈ tb := tb_at 912 (by decide +kernel) (by decide +kernel)
theorem lbX9_at : LkB yX9_at mX9_at 3 := ⟨w_39, w_912, by decide +kernel⟩
theorem w_909 : (Cond.methodLink RL 74 yX9_at : Cond) ∈ tb := tb_at 909 (by decide +kernel) (by decide +kernel)
theorem w_910 : (Cond.instanceMethod yX9_at : Cond) ∈ tb := tb_at 910 (by decide +kernel) (by decide +kernel)
theorem w_911 : (Cond.selects RX9 yX9_at yX9_at : Cond) ∈ tb := tb_at 911 (by decide +kernel) (by decide +kernel)
theorem kL_74 : LkV RL 74 yX9_at mX9_at 3 8 := ⟨lbX9_at, w_909, w_910, w_911, ⟨_, rfl, rfl⟩, by decide⟩
theorem w_455 : (Cond.code yX8_blend cX8_blend 6 (some .int) : Cond) ∈ tb := tb_at 455 (by decide +kernel) (by decide +kernel)
theorem lbX8_blend : LkB yX8_blend mX8_blend 4 := ⟨w_32, w_455, by decide +kernel⟩
theorem w_452 : (Cond.methodLink RL 75 yX8_blend : Cond) ∈ tb := tb_at 452 (by decide +kernel) (by decide +kernel)
theorem w_453 : (Cond.instanceMethod yX8_blend : Cond) ∈ tb := tb_at 453 (by decide +kernel) (by decide +kernel)
theorem w_454 : (Cond.selects RX8 yX8_blend yX8_blend : Cond) ∈ tb := tb_at 454 (by decide +kernel) (by decide +kernel)
theorem kL_75 : LkV RL 75 yX8_blend mX8_blend 4 7 := ⟨lbX8_blend, w_452, w_453, w_454, ⟨_, rfl, rfl⟩, by decide⟩
theorem w_916 : (Cond.code yX9_blend cX9_blend 6 (some .int) : Cond) ∈ tb := tb_at 916 (by decide +kernel) (by decide +kernel)
theorem lbX9_blend : LkB yX9_blend mX9_blend 4 := ⟨w_39, w_916, by decide +kernel⟩
theorem w_913 : (Cond.methodLink RL 78 yX9_blend : Cond) ∈ tb := tb_at 913 (by decide +kernel) (by decide +kernel)
theorem w_914 : (Cond.instanceMethod yX9_blend : Cond) ∈ tb := tb_at 914 (by decide +kernel) (by decide +kernel)
theorem w_915 : (Cond.selects RX9 yX9_blend yX9_blend : Cond) ∈ tb := tb_at 915 (by decide +kernel) (by decide +kernel)
theorem kL_78 : LkV RL 78 yX9_blend mX9_blend 4 8 := ⟨lbX9_blend, w_913, w_914, w_915, ⟨_, rfl, rfl⟩, by decide⟩
theorem w_481 : (Cond.code yX8_add cX8_add 6 (some .int) : Cond) ∈ tb := tb_at 481 (by decide +kernel) (by decide +kernel)
theorem lbX8_add : LkB yX8_add mX8_add 3 := ⟨w_32, w_481, by decide +kernel⟩
theorem w_478 : (Cond.methodLink RL 79 yX8_add : Cond) ∈ tb := tb_at 478 (by decide +kernel) (by decide +kernel)
theorem w_479 : (Cond.instanceMethod yX8_add : Cond) ∈ tb := tb_at 479 (by decide +kernel) (by decide +kernel)
theorem w_480 : (Cond.selects RX8 yX8_add yX8_add : Cond) ∈ tb := tb_at 480 (by decide +kernel) (by decide +kernel)
theorem kL_79 : LkV RL 79 yX8_add mX8_add 3 7 := ⟨lbX8_add, w_478, w_479, w_480, ⟨_, rfl, rfl⟩, by decide⟩
theorem w_935 : (Cond.code yX9_add cX9_add 7 (some .int) : Cond) ∈ tb := tb_at 935 (by decide +kernel) (by decide +kernel)
theorem lbX9_add : LkB yX9_add mX9_add 3 := ⟨w_39, w_935, by decide +kernel⟩
theorem w_932 : (Cond.methodLink RL 82 yX9_add : Cond) ∈ tb := tb_at 932 (by decide +kernel) (by decide +kernel)
theorem w_933 : (Cond.instanceMethod yX9_add : Cond) ∈ tb := tb_at 933 (by decide +kernel) (by decide +kernel)
theorem w_934 : (Cond.selects RX9 yX9_add yX9_add : Cond) ∈ tb := tb_at 934 (by decide +kernel) (by decide +kernel)
theorem kL_82 : LkV RL 82 yX9_add mX9_add 3 8 := ⟨lbX9_add, w_932, w_933, w_934, ⟨_, rfl, rfl⟩, by decide⟩
theorem w_495 : (Cond.code yX8_like cX8_like 7 (some .int) : Cond) ∈ tb := tb_at 495 (by decide +kernel) (by decide +kernel)
theorem lbX8_like : LkB yX8_like mX8_like 4 := ⟨w_32, w_495, by decide +kernel⟩
theorem w_492 : (Cond.methodLink RL 83 yX8_like : Cond) ∈ tb := tb_at 492 (by decide +kernel) (by decide +kernel)
theorem w_493 : (Cond.instanceMethod yX8_like : Cond) ∈ tb := tb_at 493 (by decide +kernel) (by decide +kernel)
theorem w_494 : (Cond.selects RX8 yX8_like yX8_like : Cond) ∈ tb := tb_at 494 (by decide +kernel) (by decide +kernel)
theorem kL_83 : LkV RL 83 yX8_like mX8_like 4 7 := ⟨lbX8_like, w_492, w_493, w_494, ⟨_, rfl, rfl⟩, by decide⟩
theorem w_939 : (Cond.code yX9_like cX9_like 5 (some .int) : Cond) ∈ tb := tb_at 939 (by decide +kernel) (by decide +kernel)
theorem lbX9_like : LkB yX9_like mX9_like 4 := ⟨w_39, w_939, by decide +kernel⟩
theorem w_936 : (Cond.methodLink RL 86 yX9_like : Cond) ∈ tb := tb_at 936 (by decide +kernel) (by decide +kernel)
theorem w_937 : (Cond.instanceMethod yX9_like : Cond) ∈ tb := tb_at 937 (by decide +kernel) (by decide +kernel)
theorem w_938 : (Cond.selects RX9 yX9_like yX9_like : Cond) ∈ tb := tb_at 938 (by decide +kernel) (by decide +kernel)
theorem kL_86 : LkV RL 86 yX9_like mX9_like 4 8 := ⟨lbX9_like, w_936, w_937, w_938, ⟨_, rfl, rfl⟩, by decide⟩
theorem w_505 : (Cond.code yX8_pack cX8_pack 4 (some .int) : Cond) ∈ tb := tb_at 505 (by decide +kernel) (by decide +kernel)
theorem lbX8_pack : LkB yX8_pack mX8_pack 2 := ⟨w_32, w_505, by decide +kernel⟩
theorem w_502 : (Cond.methodLink RL 87 yX8_pack : Cond) ∈ tb := tb_at 502 (by decide +kernel) (by decide +kernel)
theorem w_503 : (Cond.instanceMethod yX8_pack : Cond) ∈ tb := tb_at 503 (by decide +kernel) (by decide +kernel)
theorem w_504 : (Cond.selects RX8 yX8_pack yX8_pack : Cond) ∈ tb := tb_at 504 (by decide +kernel) (by decide +kernel)
theorem kL_87 : LkV RL 87 yX8_pack mX8_pack 2 7 := ⟨lbX8_pack, w_502, w_503, w_504, ⟨_, rfl, rfl⟩, by decide⟩
theorem w_947 : (Cond.code yX9_pack cX9_pack 3 (some .int) : Cond) ∈ tb := tb_at 947 (by decide +kernel) (by decide +kernel)
theorem lbX9_pack : LkB yX9_pack mX9_pack 2 := ⟨w_39, w_947, by decide +kernel⟩
theorem w_944 : (Cond.methodLink RL 90 yX9_pack : Cond) ∈ tb := tb_at 944 (by decide +kernel) (by decide +kernel)
theorem w_945 : (Cond.instanceMethod yX9_pack : Cond) ∈ tb := tb_at 945 (by decide +kernel) (by decide +kernel)
theorem w_946 : (Cond.selects RX9 yX9_pack yX9_pack : Cond) ∈ tb := tb_at 946 (by decide +kernel) (by decide +kernel)
theorem kL_90 : LkV RL 90 yX9_pack mX9_pack 2 8 := ⟨lbX9_pack, w_944, w_945, w_946, ⟨_, rfl, rfl⟩, by decide⟩
theorem w_522 : (Cond.code yX8_key cX8_key 2 (some .int) : Cond) ∈ tb := tb_at 522 (by decide +kernel) (by decide +kernel)
theorem lbX8_key : LkB yX8_key mX8_key 1 := ⟨w_32, w_522, by decide +kernel⟩
theorem w_519 : (Cond.methodLink RL 91 yX8_key : Cond) ∈ tb := tb_at 519 (by decide +kernel) (by decide +kernel)
theorem w_520 : (Cond.instanceMethod yX8_key : Cond) ∈ tb := tb_at 520 (by decide +kernel) (by decide +kernel)
theorem w_521 : (Cond.selects RX8 yX8_key yX8_key : Cond) ∈ tb := tb_at 521 (by decide +kernel) (by decide +kernel)
theorem kL_91 : LkV RL 91 yX8_key mX8_key 1 7 := ⟨lbX8_key, w_519, w_520, w_521, ⟨_, rfl, rfl⟩, by decide⟩
theorem w_960 : (Cond.code yX9_key cX9_key 2 (some .int) : Cond) ∈ tb := tb_at 960 (by decide +kernel) (by decide +kernel)
theorem lbX9_key : LkB yX9_key mX9_key 1 := ⟨w_39, w_960, by decide +kernel⟩
theorem w_957 : (Cond.methodLink RL 94 yX9_key : Cond) ∈ tb := tb_at 957 (by decide +kernel) (by decide +kernel)
theorem w_958 : (Cond.instanceMethod yX9_key : Cond) ∈ tb := tb_at 958 (by decide +kernel) (by decide +kernel)
theorem w_959 : (Cond.selects RX9 yX9_key yX9_key : Cond) ∈ tb := tb_at 959 (by decide +kernel) (by decide +kernel)
theorem kL_94 : LkV RL 94 yX9_key mX9_key 1 8 := ⟨lbX9_key, w_957, w_958, w_959, ⟨_, rfl, rfl⟩, by decide⟩
theorem w_526 : (Cond.code yX8_thin cX8_thin 5 (some .int) : Cond) ∈ tb := tb_at 526 (by decide +kernel) (by decide +kernel)
theorem lbX8_thin : LkB yX8_thin mX8_thin 2 := ⟨w_32, w_526, by decide +kernel⟩
theorem w_523 : (Cond.methodLink RL 95 yX8_thin : Cond) ∈ tb := tb_at 523 (by decide +kernel) (by decide +kernel)
theorem w_524 : (Cond.instanceMethod yX8_thin : Cond) ∈ tb := tb_at 524 (by decide +kernel) (by decide +kernel)
theorem w_525 : (Cond.selects RX8 yX8_thin yX8_thin : Cond) ∈ tb := tb_at 525 (by decide +kernel) (by decide +kernel)
theorem kL_95 : LkV RL 95 yX8_thin mX8_thin 2 7 := ⟨lbX8_thin, w_523, w_524, w_525, ⟨_, rfl, rfl⟩, by decide⟩
theorem w_964 : (Cond.code yX9_thin cX9_thin 6 (some .int) : Cond) ∈ tb := tb_at 964 (by decide +kernel) (by decide +kernel)
theorem lbX9_thin : LkB yX9_thin mX9_thin 2 := ⟨w_39, w_964, by decide +kernel⟩
theorem w_961 : (Cond.methodLink RL 98 yX9_thin : Cond) ∈ tb := tb_at 961 (by decide +kernel) (by decide +kernel)
theorem w_962 : (Cond.instanceMethod yX9_thin : Cond) ∈ tb := tb_at 962 (by decide +kernel) (by decide +kernel)
theorem w_963 : (Cond.selects RX9 yX9_thin yX9_thin : Cond) ∈ tb := tb_at 963 (by decide +kernel) (by decide +kernel)
theorem kL_98 : LkV RL 98 yX9_thin mX9_thin 2 8 := ⟨lbX9_thin, w_961, w_962, w_963, ⟨_, rfl, rfl⟩, by decide⟩
theorem w_537 : (Cond.code yX8_join cX8_join 3 (some .int) : Cond) ∈ tb := tb_at 537 (by decide +kernel) (by decide +kernel)
theorem lbX8_join : LkB yX8_join mX8_join 1 := ⟨w_32, w_537, by decide +kernel⟩
theorem w_534 : (Cond.methodLink RL 99 yX8_join : Cond) ∈ tb := tb_at 534 (by decide +kernel) (by decide +kernel)
theorem w_535 : (Cond.instanceMethod yX8_join : Cond) ∈ tb := tb_at 535 (by decide +kernel) (by decide +kernel)
theorem w_536 : (Cond.selects RX8 yX8_join yX8_join : Cond) ∈ tb := tb_at 536 (by decide +kernel) (by decide +kernel)
theorem kL_99 : LkV RL 99 yX8_join mX8_join 1 7 := ⟨lbX8_join, w_534, w_535, w_536, ⟨_, rfl, rfl⟩, by decide⟩
theorem w_968 : (Cond.code yX9_join cX9_join 3 (some .int) : Cond) ∈ tb := tb_at 968 (by decide +kernel) (by decide +kernel)
theorem lbX9_join : LkB yX9_join mX9_join 1 := ⟨w_39, w_968, by decide +kernel⟩
theorem w_965 : (Cond.methodLink RL 102 yX9_join : Cond) ∈ tb := tb_at 965 (by decide +kernel) (by decide +kernel)
theorem w_966 : (Cond.instanceMethod yX9_join : Cond) ∈ tb := tb_at 966 (by decide +kernel) (by decide +kernel)
theorem w_967 : (Cond.selects RX9 yX9_join yX9_join : Cond) ∈ tb := tb_at 967 (by decide +kernel) (by decide +kernel)
theorem kL_102 : LkV RL 102 yX9_join mX9_join 1 8 := ⟨lbX9_join, w_965, w_966, w_967, ⟨_, rfl, rfl⟩, by decide⟩
theorem w_541 : (Cond.code yX8_live cX8_live 3 (some .int) : Cond) ∈ tb := tb_at 541 (by decide +kernel) (by decide +kernel)
theorem lbX8_live : LkB yX8_live mX8_live 0 := ⟨w_32, w_541, by decide +kernel⟩
theorem w_538 : (Cond.methodLink RL 103 yX8_live : Cond) ∈ tb := tb_at 538 (by decide +kernel) (by decide +kernel)
theorem w_539 : (Cond.instanceMethod yX8_live : Cond) ∈ tb := tb_at 539 (by decide +kernel) (by decide +kernel)
theorem w_540 : (Cond.selects RX8 yX8_live yX8_live : Cond) ∈ tb := tb_at 540 (by decide +kernel) (by decide +kernel)
theorem kL_103 : LkV RL 103 yX8_live mX8_live 0 7 := ⟨lbX8_live, w_538, w_539, w_540, ⟨_, rfl, rfl⟩, by decide⟩
theorem w_972 : (Cond.code yX9_live cX9_live 1 (some .int) : Cond) ∈ tb := tb_at 972 (by decide +kernel) (by decide +kernel)
theorem lbX9_live : LkB yX9_live mX9_live 0 := ⟨w_39, w_972, by decide +kernel⟩
theorem w_969 : (Cond.methodLink RL 107 yX9_live : Cond) ∈ tb := tb_at 969 (by decide +kernel) (by decide +kernel)
theorem w_970 : (Cond.instanceMethod yX9_live : Cond) ∈ tb := tb_at 970 (by decide +kernel) (by decide +kernel)
theorem w_971 : (Cond.selects RX9 yX9_live yX9_live : Cond) ∈ tb := tb_at 971 (by decide +kernel) (by decide +kernel)
theorem kL_107 : LkV RL 107 yX9_live mX9_live 0 8 := ⟨lbX9_live, w_969, w_970, w_971, ⟨_, rfl, rfl⟩, by decide⟩
theorem w_560 : (Cond.code yX8_isLive cX8_isLive 3 (some .int) : Cond) ∈ tb := tb_at 560 (by decide +kernel) (by decide +kernel)
theorem lbX8_isLive : LkB yX8_isLive mX8_isLive 2 := ⟨w_32, w_560, by decide +kernel⟩
theorem w_557 : (Cond.methodLink RL 108 yX8_isLive : Cond) ∈ tb := tb_at 557 (by decide +kernel) (by decide +kernel)
theorem w_558 : (Cond.instanceMethod yX8_isLive : Cond) ∈ tb := tb_at 558 (by decide +kernel) (by decide +kernel)
theorem w_559 : (Cond.selects RX8 yX8_isLive yX8_isLive : Cond) ∈ tb := tb_at 559 (by decide +kernel) (by decide +kernel)
theorem kL_108 : LkV RL 108 yX8_isLive mX8_isLive 2 7 := ⟨lbX8_isLive, w_557, w_558, w_559, ⟨_, rfl, rfl⟩, by decide⟩
theorem w_988 : (Cond.code yX9_isLive cX9_isLive 4 (some .int) : Cond) ∈ tb := tb_at 988 (by decide +kernel) (by decide +kernel)
theorem lbX9_isLive : LkB yX9_isLive mX9_isLive 2 := ⟨w_39, w_988, by decide +kernel⟩
theorem w_985 : (Cond.methodLink RL 111 yX9_isLive : Cond) ∈ tb := tb_at 985 (by decide +kernel) (by decide +kernel)
theorem w_986 : (Cond.instanceMethod yX9_isLive : Cond) ∈ tb := tb_at 986 (by decide +kernel) (by decide +kernel)
theorem w_987 : (Cond.selects RX9 yX9_isLive yX9_isLive : Cond) ∈ tb := tb_at 987 (by decide +kernel) (by decide +kernel)
theorem kL_111 : LkV RL 111 yX9_isLive mX9_isLive 2 8 := ⟨lbX9_isLive, w_985, w_986, w_987, ⟨_, rfl, rfl⟩, by decide⟩
theorem w_564 : (Cond.code yX8_walk cX8_walk 5 (some .int) : Cond) ∈ tb := tb_at 564 (by decide +kernel) (by decide +kernel)
theorem lbX8_walk : LkB yX8_walk mX8_walk 4 := ⟨w_32, w_564, by decide +kernel⟩
theorem w_561 : (Cond.methodLink RL 112 yX8_walk : Cond) ∈ tb := tb_at 561 (by decide +kernel) (by decide +kernel)
theorem w_562 : (Cond.instanceMethod yX8_walk : Cond) ∈ tb := tb_at 562 (by decide +kernel) (by decide +kernel)
theorem w_563 : (Cond.selects RX8 yX8_walk yX8_walk : Cond) ∈ tb := tb_at 563 (by decide +kernel) (by decide +kernel)
theorem kL_112 : LkV RL 112 yX8_walk mX8_walk 4 7 := ⟨lbX8_walk, w_561, w_562, w_563, ⟨_, rfl, rfl⟩, by decide⟩
theorem w_992 : (Cond.code yX9_walk cX9_walk 8 (some .int) : Cond) ∈ tb := tb_at 992 (by decide +kernel) (by decide +kernel)
theorem lbX9_walk : LkB yX9_walk mX9_walk 4 := ⟨w_39, w_992, by decide +kernel⟩
theorem w_989 : (Cond.methodLink RL 115 yX9_walk : Cond) ∈ tb := tb_at 989 (by decide +kernel) (by decide +kernel)
theorem w_990 : (Cond.instanceMethod yX9_walk : Cond) ∈ tb := tb_at 990 (by decide +kernel) (by decide +kernel)
theorem w_991 : (Cond.selects RX9 yX9_walk yX9_walk : Cond) ∈ tb := tb_at 991 (by decide +kernel) (by decide +kernel)
theorem kL_115 : LkV RL 115 yX9_walk mX9_walk 4 8 := ⟨lbX9_walk, w_989, w_990, w_991, ⟨_, rfl, rfl⟩, by decide⟩
theorem w_596 : (Cond.code yX8_step cX8_step 2 (some .int) : Cond) ∈ tb := tb_at 596 (by decide +kernel) (by decide +kernel)
theorem lbX8_step : LkB yX8_step mX8_step 1 := ⟨w_32, w_596, by decide +kernel⟩
theorem w_593 : (Cond.methodLink RL 116 yX8_step : Cond) ∈ tb := tb_at 593 (by decide +kernel) (by decide +kernel)
theorem w_594 : (Cond.instanceMethod yX8_step : Cond) ∈ tb := tb_at 594 (by decide +kernel) (by decide +kernel)
theorem w_595 : (Cond.selects RX8 yX8_step yX8_step : Cond) ∈ tb := tb_at 595 (by decide +kernel) (by decide +kernel)
theorem kL_116 : LkV RL 116 yX8_step mX8_step 1 7 := ⟨lbX8_step, w_593, w_594, w_595, ⟨_, rfl, rfl⟩, by decide⟩
theorem w_1000 : (Cond.code yX9_step cX9_step 2 (some .int) : Cond) ∈ tb := tb_at 1000 (by decide +kernel) (by decide +kernel)
theorem lbX9_step : LkB yX9_step mX9_step 1 := ⟨w_39, w_1000, by decide +kernel⟩
theorem w_997 : (Cond.methodLink RL 119 yX9_step : Cond) ∈ tb := tb_at 997 (by decide +kernel) (by decide +kernel)
theorem w_998 : (Cond.instanceMethod yX9_step : Cond) ∈ tb := tb_at 998 (by decide +kernel) (by decide +kernel)
theorem w_999 : (Cond.selects RX9 yX9_step yX9_step : Cond) ∈ tb := tb_at 999 (by decide +kernel) (by decide +kernel)
theorem kL_119 : LkV RL 119 yX9_step mX9_step 1 8 := ⟨lbX9_step, w_997, w_998, w_999, ⟨_, rfl, rfl⟩, by decide⟩
theorem w_600 : (Cond.code yX8_sheet cX8_sheet 5 (some .int) : Cond) ∈ tb := tb_at 600 (by decide +kernel) (by decide +kernel)
theorem lbX8_sheet : LkB yX8_sheet mX8_sheet 3 := ⟨w_32, w_600, by decide +kernel⟩
theorem w_597 : (Cond.methodLink RL 120 yX8_sheet : Cond) ∈ tb := tb_at 597 (by decide +kernel) (by decide +kernel)
theorem w_598 : (Cond.instanceMethod yX8_sheet : Cond) ∈ tb := tb_at 598 (by decide +kernel) (by decide +kernel)
theorem w_599 : (Cond.selects RX8 yX8_sheet yX8_sheet : Cond) ∈ tb := tb_at 599 (by decide +kernel) (by decide +kernel)
theorem kL_120 : LkV RL 120 yX8_sheet mX8_sheet 3 7 := ⟨lbX8_sheet, w_597, w_598, w_599, ⟨_, rfl, rfl⟩, by decide⟩
theorem w_1004 : (Cond.code yX9_sheet cX9_sheet 5 (some .int) : Cond) ∈ tb := tb_at 1004 (by decide +kernel) (by decide +kernel)
theorem lbX9_sheet : LkB yX9_sheet mX9_sheet 3 := ⟨w_39, w_1004, by decide +kernel⟩
theorem w_1001 : (Cond.methodLink RL 123 yX9_sheet : Cond) ∈ tb := tb_at 1001 (by decide +kernel) (by decide +kernel)
theorem w_1002 : (Cond.instanceMethod yX9_sheet : Cond) ∈ tb := tb_at 1002 (by decide +kernel) (by decide +kernel)
theorem w_1003 : (Cond.selects RX9 yX9_sheet yX9_sheet : Cond) ∈ tb := tb_at 1003 (by decide +kernel) (by decide +kernel)
theorem kL_123 : LkV RL 123 yX9_sheet mX9_sheet 3 8 := ⟨lbX9_sheet, w_1001, w_1002, w_1003, ⟨_, rfl, rfl⟩, by decide⟩
theorem w_622 : (Cond.code yX8_lose cX8_lose 3 (some .int) : Cond) ∈ tb := tb_at 622 (by decide +kernel) (by decide +kernel)
theorem lbX8_lose : LkB yX8_lose mX8_lose 1 := ⟨w_32, w_622, by decide +kernel⟩
theorem w_619 : (Cond.methodLink RL 124 yX8_lose : Cond) ∈ tb := tb_at 619 (by decide +kernel) (by decide +kernel)
theorem w_620 : (Cond.instanceMethod yX8_lose : Cond) ∈ tb := tb_at 620 (by decide +kernel) (by decide +kernel)
theorem w_621 : (Cond.selects RX8 yX8_lose yX8_lose : Cond) ∈ tb := tb_at 621 (by decide +kernel) (by decide +kernel)
theorem kL_124 : LkV RL 124 yX8_lose mX8_lose 1 7 := ⟨lbX8_lose, w_619, w_620, w_621, ⟨_, rfl, rfl⟩, by decide⟩
theorem w_1017 : (Cond.code yX9_lose cX9_lose 2 (some .int) : Cond) ∈ tb := tb_at 1017 (by decide +kernel) (by decide +kernel)
theorem lbX9_lose : LkB yX9_lose mX9_lose 1 := ⟨w_39, w_1017, by decide +kernel⟩
theorem w_1014 : (Cond.methodLink RL 127 yX9_lose : Cond) ∈ tb := tb_at 1014 (by decide +kernel) (by decide +kernel)
theorem w_1015 : (Cond.instanceMethod yX9_lose : Cond) ∈ tb := tb_at 1015 (by decide +kernel) (by decide +kernel)
theorem w_1016 : (Cond.selects RX9 yX9_lose yX9_lose : Cond) ∈ tb := tb_at 1016 (by decide +kernel) (by decide +kernel)
theorem kL_127 : LkV RL 127 yX9_lose mX9_lose 1 8 := ⟨lbX9_lose, w_1014, w_1015, w_1016, ⟨_, rfl, rfl⟩, by decide⟩
theorem w_626 : (Cond.code yX8_put cX8_put 7 (some .int) : Cond) ∈ tb := tb_at 626 (by decide +kernel) (by decide +kernel)
theorem lbX8_put : LkB yX8_put mX8_put 4 := ⟨w_32, w_626, by decide +kernel⟩
theorem w_623 : (Cond.methodLink RL 128 yX8_put : Cond) ∈ tb := tb_at 623 (by decide +kernel) (by decide +kernel)
theorem w_624 : (Cond.instanceMethod yX8_put : Cond) ∈ tb := tb_at 624 (by decide +kernel) (by decide +kernel)
theorem w_625 : (Cond.selects RX8 yX8_put yX8_put : Cond) ∈ tb := tb_at 625 (by decide +kernel) (by decide +kernel)
theorem kL_128 : LkV RL 128 yX8_put mX8_put 4 7 := ⟨lbX8_put, w_623, w_624, w_625, ⟨_, rfl, rfl⟩, by decide⟩
theorem w_1021 : (Cond.code yX9_put cX9_put 6 (some .int) : Cond) ∈ tb := tb_at 1021 (by decide +kernel) (by decide +kernel)
theorem lbX9_put : LkB yX9_put mX9_put 4 := ⟨w_39, w_1021, by decide +kernel⟩
theorem w_1018 : (Cond.methodLink RL 131 yX9_put : Cond) ∈ tb := tb_at 1018 (by decide +kernel) (by decide +kernel)
theorem w_1019 : (Cond.instanceMethod yX9_put : Cond) ∈ tb := tb_at 1019 (by decide +kernel) (by decide +kernel)
theorem w_1020 : (Cond.selects RX9 yX9_put yX9_put : Cond) ∈ tb := tb_at 1020 (by decide +kernel) (by decide +kernel)
theorem kL_131 : LkV RL 131 yX9_put mX9_put 4 8 := ⟨lbX9_put, w_1018, w_1019, w_1020, ⟨_, rfl, rfl⟩, by decide⟩
theorem w_639 : (Cond.code yX8_get cX8_get 6 (some .int) : Cond) ∈ tb := tb_at 639 (by decide +kernel) (by decide +kernel)
theorem lbX8_get : LkB yX8_get mX8_get 3 := ⟨w_32, w_639, by decide +kernel⟩
theorem w_636 : (Cond.methodLink RL 132 yX8_get : Cond) ∈ tb := tb_at 636 (by decide +kernel) (by decide +kernel)
theorem w_637 : (Cond.instanceMethod yX8_get : Cond) ∈ tb := tb_at 637 (by decide +kernel) (by decide +kernel)
theorem w_638 : (Cond.selects RX8 yX8_get yX8_get : Cond) ∈ tb := tb_at 638 (by decide +kernel) (by decide +kernel)
theorem kL_132 : LkV RL 132 yX8_get mX8_get 3 7 := ⟨lbX8_get, w_636, w_637, w_638, ⟨_, rfl, rfl⟩, by decide⟩
theorem w_1029 : (Cond.code yX9_get cX9_get 4 (some .int) : Cond) ∈ tb := tb_at 1029 (by decide +kernel) (by decide +kernel)
theorem lbX9_get : LkB yX9_get mX9_get 3 := ⟨w_39, w_1029, by decide +kernel⟩
theorem w_1026 : (Cond.methodLink RL 135 yX9_get : Cond) ∈ tb := tb_at 1026 (by decide +kernel) (by decide +kernel)
theorem w_1027 : (Cond.instanceMethod yX9_get : Cond) ∈ tb := tb_at 1027 (by decide +kernel) (by decide +kernel)
theorem w_1028 : (Cond.selects RX9 yX9_get yX9_get : Cond) ∈ tb := tb_at 1028 (by decide +kernel) (by decide +kernel)
theorem kL_135 : LkV RL 135 yX9_get mX9_get 3 8 := ⟨lbX9_get, w_1026, w_1027, w_1028, ⟨_, rfl, rfl⟩, by decide⟩
theorem w_644 : (Cond.code yX8_copy cX8_copy 8 (some .int) : Cond) ∈ tb := tb_at 644 (by decide +kernel) (by decide +kernel)
theorem lbX8_copy : LkB yX8_copy mX8_copy 5 := ⟨w_32, w_644, by decide +kernel⟩
theorem w_641 : (Cond.methodLink RL 136 yX8_copy : Cond) ∈ tb := tb_at 641 (by decide +kernel) (by decide +kernel)
theorem w_642 : (Cond.instanceMethod yX8_copy : Cond) ∈ tb := tb_at 642 (by decide +kernel) (by decide +kernel)
theorem w_643 : (Cond.selects RX8 yX8_copy yX8_copy : Cond) ∈ tb := tb_at 643 (by decide +kernel) (by decide +kernel)
theorem kL_136 : LkV RL 136 yX8_copy mX8_copy 5 7 := ⟨lbX8_copy, w_641, w_642, w_643, ⟨_, rfl, rfl⟩, by decide⟩
theorem w_1034 : (Cond.code yX9_copy cX9_copy 7 (some .int) : Cond) ∈ tb := tb_at 1034 (by decide +kernel) (by decide +kernel)
theorem lbX9_copy : LkB yX9_copy mX9_copy 5 := ⟨w_39, w_1034, by decide +kernel⟩
theorem w_1031 : (Cond.methodLink RL 140 yX9_copy : Cond) ∈ tb := tb_at 1031 (by decide +kernel) (by decide +kernel)
theorem w_1032 : (Cond.instanceMethod yX9_copy : Cond) ∈ tb := tb_at 1032 (by decide +kernel) (by decide +kernel)
theorem w_1033 : (Cond.selects RX9 yX9_copy yX9_copy : Cond) ∈ tb := tb_at 1033 (by decide +kernel) (by decide +kernel)
theorem kL_140 : LkV RL 140 yX9_copy mX9_copy 5 8 := ⟨lbX9_copy, w_1031, w_1032, w_1033, ⟨_, rfl, rfl⟩, by decide⟩
theorem w_653 : (Cond.code yX8_pose cX8_pose 5 (some .int) : Cond) ∈ tb := tb_at 653 (by decide +kernel) (by decide +kernel)
theorem lbX8_pose : LkB yX8_pose mX8_pose 2 := ⟨w_32, w_653, by decide +kernel⟩
theorem w_650 : (Cond.methodLink RL 141 yX8_pose : Cond) ∈ tb := tb_at 650 (by decide +kernel) (by decide +kernel)
theorem w_651 : (Cond.instanceMethod yX8_pose : Cond) ∈ tb := tb_at 651 (by decide +kernel) (by decide +kernel)
theorem w_652 : (Cond.selects RX8 yX8_pose yX8_pose : Cond) ∈ tb := tb_at 652 (by decide +kernel) (by decide +kernel)
theorem kL_141 : LkV RL 141 yX8_pose mX8_pose 2 7 := ⟨lbX8_pose, w_650, w_651, w_652, ⟨_, rfl, rfl⟩, by decide⟩
theorem w_1038 : (Cond.code yX9_pose cX9_pose 7 (some .int) : Cond) ∈ tb := tb_at 1038 (by decide +kernel) (by decide +kernel)
theorem lbX9_pose : LkB yX9_pose mX9_pose 2 := ⟨w_39, w_1038, by decide +kernel⟩
theorem w_1035 : (Cond.methodLink RL 144 yX9_pose : Cond) ∈ tb := tb_at 1035 (by decide +kernel) (by decide +kernel)
theorem w_1036 : (Cond.instanceMethod yX9_pose : Cond) ∈ tb := tb_at 1036 (by decide +kernel) (by decide +kernel)
theorem w_1037 : (Cond.selects RX9 yX9_pose yX9_pose : Cond) ∈ tb := tb_at 1037 (by decide +kernel) (by decide +kernel)
theorem kL_144 : LkV RL 144 yX9_pose mX9_pose 2 8 := ⟨lbX9_pose, w_1035, w_1036, w_1037, ⟨_, rfl, rfl⟩, by decide⟩
theorem w_666 : (Cond.code yX8_write cX8_write 6 (some .int) : Cond) ∈ tb := tb_at 666 (by decide +kernel) (by decide +kernel)
theorem lbX8_write : LkB yX8_write mX8_write 2 := ⟨w_32, w_666, by decide +kernel⟩
theorem w_663 : (Cond.methodLink RL 145 yX8_write : Cond) ∈ tb := tb_at 663 (by decide +kernel) (by decide +kernel)
theorem w_664 : (Cond.instanceMethod yX8_write : Cond) ∈ tb := tb_at 664 (by decide +kernel) (by decide +kernel)
theorem w_665 : (Cond.selects RX8 yX8_write yX8_write : Cond) ∈ tb := tb_at 665 (by decide +kernel) (by decide +kernel)
theorem kL_145 : LkV RL 145 yX8_write mX8_write 2 7 := ⟨lbX8_write, w_663, w_664, w_665, ⟨_, rfl, rfl⟩, by decide⟩
theorem w_1046 : (Cond.code yX9_write cX9_write 5 (some .int) : Cond) ∈ tb := tb_at 1046 (by decide +kernel) (by decide +kernel)
theorem lbX9_write : LkB yX9_write mX9_write 2 := ⟨w_39, w_1046, by decide +kernel⟩
theorem w_1043 : (Cond.methodLink RL 148 yX9_write : Cond) ∈ tb := tb_at 1043 (by decide +kernel) (by decide +kernel)
theorem w_1044 : (Cond.instanceMethod yX9_write : Cond) ∈ tb := tb_at 1044 (by decide +kernel) (by decide +kernel)
theorem w_1045 : (Cond.selects RX9 yX9_write yX9_write : Cond) ∈ tb := tb_at 1045 (by decide +kernel) (by decide +kernel)
theorem kL_148 : LkV RL 148 yX9_write mX9_write 2 8 := ⟨lbX9_write, w_1043, w_1044, w_1045, ⟨_, rfl, rfl⟩, by decide⟩
theorem w_667 : (Cond.methodLink RL 149 yX8_count : Cond) ∈ tb := tb_at 667 (by decide +kernel) (by decide +kernel)
theorem kL_149 : LkV RL 149 yX8_count mX8_count 1 7 := ⟨lbX8_count, w_667, w_668, w_669, ⟨_, rfl, rfl⟩, by decide⟩
theorem w_1050 : (Cond.code yX9_count cX9_count 2 (some .int) : Cond) ∈ tb := tb_at 1050 (by decide +kernel) (by decide +kernel)
theorem lbX9_count : LkB yX9_count mX9_count 1 := ⟨w_39, w_1050, by decide +kernel⟩
theorem w_1047 : (Cond.methodLink RL 152 yX9_count : Cond) ∈ tb := tb_at 1047 (by decide +kernel) (by decide +kernel)
theorem w_1048 : (Cond.instanceMethod yX9_count : Cond) ∈ tb := tb_at 1048 (by decide +kernel) (by decide +kernel)
theorem w_1049 : (Cond.selects RX9 yX9_count yX9_count : Cond) ∈ tb := tb_at 1049 (by decide +kernel) (by decide +kernel)
theorem kL_152 : LkV RL 152 yX9_count mX9_count 1 8 := ⟨lbX9_count, w_1047, w_1048, w_1049, ⟨_, rfl, rfl⟩, by decide⟩
theorem w_674 : (Cond.code yX8_digest cX8_digest 4 (some .long) : Cond) ∈ tb := tb_at 674 (by decide +kernel) (by decide +kernel)
theorem lbX8_digest : LkB yX8_digest mX8_digest 0 := ⟨w_32, w_674, by decide +kernel⟩
theorem w_671 : (Cond.methodLink RL 153 yX8_digest : Cond) ∈ tb := tb_at 671 (by decide +kernel) (by decide +kernel)
theorem w_672 : (Cond.instanceMethod yX8_digest : Cond) ∈ tb := tb_at 672 (by decide +kernel) (by decide +kernel)
theorem w_673 : (Cond.selects RX8 yX8_digest yX8_digest : Cond) ∈ tb := tb_at 673 (by decide +kernel) (by decide +kernel)
theorem kL_153 : LkV RL 153 yX8_digest mX8_digest 0 7 := ⟨lbX8_digest, w_671, w_672, w_673, ⟨_, rfl, rfl⟩, by decide⟩
theorem w_1054 : (Cond.code yX9_digest cX9_digest 6 (some .long) : Cond) ∈ tb := tb_at 1054 (by decide +kernel) (by decide +kernel)
theorem lbX9_digest : LkB yX9_digest mX9_digest 0 := ⟨w_39, w_1054, by decide +kernel⟩
theorem w_1051 : (Cond.methodLink RL 157 yX9_digest : Cond) ∈ tb := tb_at 1051 (by decide +kernel) (by decide +kernel)
theorem w_1052 : (Cond.instanceMethod yX9_digest : Cond) ∈ tb := tb_at 1052 (by decide +kernel) (by decide +kernel)
theorem w_1053 : (Cond.selects RX9 yX9_digest yX9_digest : Cond) ∈ tb := tb_at 1053 (by decide +kernel) (by decide +kernel)
theorem kL_157 : LkV RL 157 yX9_digest mX9_digest 0 8 := ⟨lbX9_digest, w_1051, w_1052, w_1053, ⟨_, rfl, rfl⟩, by decide⟩
theorem w_693 : (Cond.methodLink RX9 1 objectInit : Cond) ∈ tb := tb_at 693 (by decide +kernel) (by decide +kernel)
theorem koX9_1 : Cond.methodLink RX9 1 objectInit ∈ tb := w_693
theorem w_833 : (Cond.code yX9_round cX9_round 2 (some .int) : Cond) ∈ tb := tb_at 833 (by decide +kernel) (by decide +kernel)
theorem lbX9_round : LkB yX9_round mX9_round 1 := ⟨w_39, w_833, by decide +kernel⟩
theorem w_831 : (Cond.methodLink RX9 96 yX9_round : Cond) ∈ tb := tb_at 831 (by decide +kernel) (by decide +kernel)
theorem w_832 : (Cond.static yX9_round : Cond) ∈ tb := tb_at 832 (by decide +kernel) (by decide +kernel)
theorem kX9_96 : LkS RX9 96 yX9_round mX9_round 1 := ⟨lbX9_round, w_831, w_832⟩
theorem w_924 : (Cond.code yX9_shortWay cX9_shortWay 3 (some .int) : Cond) ∈ tb := tb_at 924 (by decide +kernel) (by decide +kernel)
theorem lbX9_shortWay : LkB yX9_shortWay mX9_shortWay 2 := ⟨w_39, w_924, by decide +kernel⟩
theorem w_922 : (Cond.methodLink RX9 104 yX9_shortWay : Cond) ∈ tb := tb_at 922 (by decide +kernel) (by decide +kernel)
theorem w_923 : (Cond.static yX9_shortWay : Cond) ∈ tb := tb_at 923 (by decide +kernel) (by decide +kernel)
theorem kX9_104 : LkS RX9 104 yX9_shortWay mX9_shortWay 2 := ⟨lbX9_shortWay, w_922, w_923⟩
theorem w_931 : (Cond.code yX9_amount cX9_amount 1 (some .int) : Cond) ∈ tb := tb_at 931 (by decide +kernel) (by decide +kernel)
theorem lbX9_amount : LkB yX9_amount mX9_amount 1 := ⟨w_39, w_931, by decide +kernel⟩
theorem w_929 : (Cond.methodLink RX9 108 yX9_amount : Cond) ∈ tb := tb_at 929 (by decide +kernel) (by decide +kernel)
theorem w_930 : (Cond.static yX9_amount : Cond) ∈ tb := tb_at 930 (by decide +kernel) (by decide +kernel)
theorem kX9_108 : LkS RX9 108 yX9_amount mX9_amount 1 := ⟨lbX9_amount, w_929, w_930⟩
theorem w_808 : (Cond.code yX9_in cX9_in 6 (some .boolean) : Cond) ∈ tb := tb_at 808 (by decide +kernel) (by decide +kernel)
theorem lbX9_in : LkB yX9_in mX9_in 3 := ⟨w_39, w_808, by decide +kernel⟩
theorem w_806 : (Cond.methodLink RX9 114 yX9_in : Cond) ∈ tb := tb_at 806 (by decide +kernel) (by decide +kernel)
theorem w_807 : (Cond.static yX9_in : Cond) ∈ tb := tb_at 807 (by decide +kernel) (by decide +kernel)
theorem kX9_114 : LkS RX9 114 yX9_in mX9_in 3 := ⟨lbX9_in, w_806, w_807⟩
theorem w_854 : (Cond.code yX9_isPlace cX9_isPlace 4 (some .boolean) : Cond) ∈ tb := tb_at 854 (by decide +kernel) (by decide +kernel)
theorem lbX9_isPlace : LkB yX9_isPlace mX9_isPlace 2 := ⟨w_39, w_854, by decide +kernel⟩
theorem w_852 : (Cond.methodLink RX9 162 yX9_isPlace : Cond) ∈ tb := tb_at 852 (by decide +kernel) (by decide +kernel)
theorem w_853 : (Cond.static yX9_isPlace : Cond) ∈ tb := tb_at 853 (by decide +kernel) (by decide +kernel)
theorem kX9_162 : LkS RX9 162 yX9_isPlace mX9_isPlace 2 := ⟨lbX9_isPlace, w_852, w_853⟩
theorem w_863 : (Cond.code yX9_no cX9_no 1 (some .long) : Cond) ∈ tb := tb_at 863 (by decide +kernel) (by decide +kernel)
theorem lbX9_no : LkB yX9_no mX9_no 1 := ⟨w_39, w_863, by decide +kernel⟩
theorem w_861 : (Cond.methodLink RX9 166 yX9_no : Cond) ∈ tb := tb_at 861 (by decide +kernel) (by decide +kernel)
theorem w_862 : (Cond.static yX9_no : Cond) ∈ tb := tb_at 862 (by decide +kernel) (by decide +kernel)
theorem kX9_166 : LkS RX9 166 yX9_no mX9_no 1 := ⟨lbX9_no, w_861, w_862⟩
theorem w_892 : (Cond.code yX9_isClip cX9_isClip 1 (some .boolean) : Cond) ∈ tb := tb_at 892 (by decide +kernel) (by decide +kernel)
theorem lbX9_isClip : LkB yX9_isClip mX9_isClip 1 := ⟨w_39, w_892, by decide +kernel⟩
theorem w_890 : (Cond.methodLink RX9 178 yX9_isClip : Cond) ∈ tb := tb_at 890 (by decide +kernel) (by decide +kernel)
theorem w_891 : (Cond.static yX9_isClip : Cond) ∈ tb := tb_at 891 (by decide +kernel) (by decide +kernel)
theorem kX9_178 : LkS RX9 178 yX9_isClip mX9_isClip 1 := ⟨lbX9_isClip, w_890, w_891⟩
theorem w_896 : (Cond.code yX9_spot cX9_spot 2 (some .int) : Cond) ∈ tb := tb_at 896 (by decide +kernel) (by decide +kernel)
theorem lbX9_spot : LkB yX9_spot mX9_spot 2 := ⟨w_39, w_896, by decide +kernel⟩
theorem w_894 : (Cond.methodLink RX9 181 yX9_spot : Cond) ∈ tb := tb_at 894 (by decide +kernel) (by decide +kernel)
theorem w_895 : (Cond.static yX9_spot : Cond) ∈ tb := tb_at 895 (by decide +kernel) (by decide +kernel)
theorem kX9_181 : LkS RX9 181 yX9_spot mX9_spot 2 := ⟨lbX9_spot, w_894, w_895⟩
theorem w_1007 : (Cond.code yX9_isSheet cX9_isSheet 1 (some .boolean) : Cond) ∈ tb := tb_at 1007 (by decide +kernel) (by decide +kernel)
theorem lbX9_isSheet : LkB yX9_isSheet mX9_isSheet 1 := ⟨w_39, w_1007, by decide +kernel⟩
theorem w_1005 : (Cond.methodLink RX9 233 yX9_isSheet : Cond) ∈ tb := tb_at 1005 (by decide +kernel) (by decide +kernel)
theorem w_1006 : (Cond.static yX9_isSheet : Cond) ∈ tb := tb_at 1006 (by decide +kernel) (by decide +kernel)
theorem kX9_233 : LkS RX9 233 yX9_isSheet mX9_isSheet 1 := ⟨lbX9_isSheet, w_1005, w_1006⟩
theorem w_830 : (Cond.code yX9_isWithin cX9_isWithin 3 (some .boolean) : Cond) ∈ tb := tb_at 830 (by decide +kernel) (by decide +kernel)
theorem lbX9_isWithin : LkB yX9_isWithin mX9_isWithin 2 := ⟨w_39, w_830, by decide +kernel⟩
theorem w_827 : (Cond.methodLink RX9 100 yX9_isWithin : Cond) ∈ tb := tb_at 827 (by decide +kernel) (by decide +kernel)
theorem w_829 : (Cond.instanceMethod yX9_isWithin : Cond) ∈ tb := tb_at 829 (by decide +kernel) (by decide +kernel)
theorem w_13 : (Cond.selects RX9 yX9_isWithin yX9_isWithin : Cond) ∈ tb := tb_at 13 (by decide +kernel) (by decide +kernel)
theorem kX9_100 : LkV RX9 100 yX9_isWithin mX9_isWithin 2 8 := ⟨lbX9_isWithin, w_827, w_829, w_13, ⟨_, rfl, rfl⟩, by decide⟩
theorem w_814 : (Cond.code yX9_frames cX9_frames 3 (some .int) : Cond) ∈ tb := tb_at 814 (by decide +kernel) (by decide +kernel)
theorem lbX9_frames : LkB yX9_frames mX9_frames 0 := ⟨w_39, w_814, by decide +kernel⟩
theorem w_811 : (Cond.methodLink RX9 128 yX9_frames : Cond) ∈ tb := tb_at 811 (by decide +kernel) (by decide +kernel)
theorem w_813 : (Cond.instanceMethod yX9_frames : Cond) ∈ tb := tb_at 813 (by decide +kernel) (by decide +kernel)
theorem w_11 : (Cond.selects RX9 yX9_frames yX9_frames : Cond) ∈ tb := tb_at 11 (by decide +kernel) (by decide +kernel)
theorem kX9_128 : LkV RX9 128 yX9_frames mX9_frames 0 8 := ⟨lbX9_frames, w_811, w_813, w_11, ⟨_, rfl, rfl⟩, by decide⟩
theorem w_822 : (Cond.code yX9_isBone cX9_isBone 2 (some .boolean) : Cond) ∈ tb := tb_at 822 (by decide +kernel) (by decide +kernel)
theorem lbX9_isBone : LkB yX9_isBone mX9_isBone 1 := ⟨w_39, w_822, by decide +kernel⟩
theorem w_819 : (Cond.methodLink RX9 132 yX9_isBone : Cond) ∈ tb := tb_at 819 (by decide +kernel) (by decide +kernel)
theorem w_821 : (Cond.instanceMethod yX9_isBone : Cond) ∈ tb := tb_at 821 (by decide +kernel) (by decide +kernel)
theorem w_12 : (Cond.selects RX9 yX9_isBone yX9_isBone : Cond) ∈ tb := tb_at 12 (by decide +kernel) (by decide +kernel)
theorem kX9_132 : LkV RX9 132 yX9_isBone mX9_isBone 1 8 := ⟨lbX9_isBone, w_819, w_821, w_12, ⟨_, rfl, rfl⟩, by decide⟩
theorem w_841 : (Cond.code yX9_place cX9_place 11 none : Cond) ∈ tb := tb_at 841 (by decide +kernel) (by decide +kernel)
theorem lbX9_place : LkB yX9_place mX9_place 0 := ⟨w_39, w_841, by decide +kernel⟩
theorem w_838 : (Cond.methodLink RX9 147 yX9_place : Cond) ∈ tb := tb_at 838 (by decide +kernel) (by decide +kernel)
theorem w_840 : (Cond.instanceMethod yX9_place : Cond) ∈ tb := tb_at 840 (by decide +kernel) (by decide +kernel)
theorem w_15 : (Cond.selects RX9 yX9_place yX9_place : Cond) ∈ tb := tb_at 15 (by decide +kernel) (by decide +kernel)
theorem kX9_147 : LkV RX9 147 yX9_place mX9_place 0 8 := ⟨lbX9_place, w_838, w_840, w_15, ⟨_, rfl, rfl⟩, by decide⟩
theorem w_837 : (Cond.code yX9_hold cX9_hold 1 none : Cond) ∈ tb := tb_at 837 (by decide +kernel) (by decide +kernel)
theorem lbX9_hold : LkB yX9_hold mX9_hold 0 := ⟨w_39, w_837, by decide +kernel⟩
theorem w_834 : (Cond.methodLink RX9 156 yX9_hold : Cond) ∈ tb := tb_at 834 (by decide +kernel) (by decide +kernel)
theorem w_836 : (Cond.instanceMethod yX9_hold : Cond) ∈ tb := tb_at 836 (by decide +kernel) (by decide +kernel)
theorem w_14 : (Cond.selects RX9 yX9_hold yX9_hold : Cond) ∈ tb := tb_at 14 (by decide +kernel) (by decide +kernel)
theorem kX9_156 : LkV RX9 156 yX9_hold mX9_hold 0 8 := ⟨lbX9_hold, w_834, w_836, w_14, ⟨_, rfl, rfl⟩, by decide⟩
theorem w_847 : (Cond.code yX9_settle cX9_settle 1 none : Cond) ∈ tb := tb_at 847 (by decide +kernel) (by decide +kernel)
theorem lbX9_settle : LkB yX9_settle mX9_settle 0 := ⟨w_39, w_847, by decide +kernel⟩
theorem w_844 : (Cond.methodLink RX9 159 yX9_settle : Cond) ∈ tb := tb_at 844 (by decide +kernel) (by decide +kernel)
theorem w_846 : (Cond.instanceMethod yX9_settle : Cond) ∈ tb := tb_at 846 (by decide +kernel) (by decide +kernel)
theorem w_16 : (Cond.selects RX9 yX9_settle yX9_settle : Cond) ∈ tb := tb_at 16 (by decide +kernel) (by decide +kernel)
theorem kX9_159 : LkV RX9 159 yX9_settle mX9_settle 0 8 := ⟨lbX9_settle, w_844, w_846, w_16, ⟨_, rfl, rfl⟩, by decide⟩
theorem w_872 : (Cond.code yX9_farOf cX9_farOf 10 (some .long) : Cond) ∈ tb := tb_at 872 (by decide +kernel) (by decide +kernel)
theorem lbX9_farOf : LkB yX9_farOf mX9_farOf 3 := ⟨w_39, w_872, by decide +kernel⟩
theorem w_869 : (Cond.methodLink RX9 170 yX9_farOf : Cond) ∈ tb := tb_at 869 (by decide +kernel) (by decide +kernel)
theorem w_871 : (Cond.instanceMethod yX9_farOf : Cond) ∈ tb := tb_at 871 (by decide +kernel) (by decide +kernel)
theorem w_17 : (Cond.selects RX9 yX9_farOf yX9_farOf : Cond) ∈ tb := tb_at 17 (by decide +kernel) (by decide +kernel)
theorem kX9_170 : LkV RX9 170 yX9_farOf mX9_farOf 3 8 := ⟨lbX9_farOf, w_869, w_871, w_17, ⟨_, rfl, rfl⟩, by decide⟩
theorem w_908 : (Cond.code yX9_isFrame cX9_isFrame 3 (some .boolean) : Cond) ∈ tb := tb_at 908 (by decide +kernel) (by decide +kernel)
theorem lbX9_isFrame : LkB yX9_isFrame mX9_isFrame 2 := ⟨w_39, w_908, by decide +kernel⟩
theorem w_905 : (Cond.methodLink RX9 184 yX9_isFrame : Cond) ∈ tb := tb_at 905 (by decide +kernel) (by decide +kernel)
theorem w_907 : (Cond.instanceMethod yX9_isFrame : Cond) ∈ tb := tb_at 907 (by decide +kernel) (by decide +kernel)
theorem w_18 : (Cond.selects RX9 yX9_isFrame yX9_isFrame : Cond) ∈ tb := tb_at 18 (by decide +kernel) (by decide +kernel)
theorem kX9_184 : LkV RX9 184 yX9_isFrame mX9_isFrame 2 8 := ⟨lbX9_isFrame, w_905, w_907, w_18, ⟨_, rfl, rfl⟩, by decide⟩
theorem w_928 : (Cond.code yX9_intoLimits cX9_intoLimits 4 (some .int) : Cond) ∈ tb := tb_at 928 (by decide +kernel) (by decide +kernel)
theorem lbX9_intoLimits : LkB yX9_intoLimits mX9_intoLimits 2 := ⟨w_39, w_928, by decide +kernel⟩
theorem w_925 : (Cond.methodLink RX9 187 yX9_intoLimits : Cond) ∈ tb := tb_at 925 (by decide +kernel) (by decide +kernel)
theorem w_927 : (Cond.instanceMethod yX9_intoLimits : Cond) ∈ tb := tb_at 927 (by decide +kernel) (by decide +kernel)
theorem w_20 : (Cond.selects RX9 yX9_intoLimits yX9_intoLimits : Cond) ∈ tb := tb_at 20 (by decide +kernel) (by decide +kernel)
theorem kX9_187 : LkV RX9 187 yX9_intoLimits mX9_intoLimits 2 8 := ⟨lbX9_intoLimits, w_925, w_927, w_20, ⟨_, rfl, rfl⟩, by decide⟩
theorem w_921 : (Cond.code yX9_blended cX9_blended 5 (some .int) : Cond) ∈ tb := tb_at 921 (by decide +kernel) (by decide +kernel)
theorem lbX9_blended : LkB yX9_blended mX9_blended 4 := ⟨w_39, w_921, by decide +kernel⟩
theorem w_918 : (Cond.methodLink RX9 192 yX9_blended : Cond) ∈ tb := tb_at 918 (by decide +kernel) (by decide +kernel)
theorem w_920 : (Cond.instanceMethod yX9_blended : Cond) ∈ tb := tb_at 920 (by decide +kernel) (by decide +kernel)
theorem w_19 : (Cond.selects RX9 yX9_blended yX9_blended : Cond) ∈ tb := tb_at 19 (by decide +kernel) (by decide +kernel)
theorem kX9_192 : LkV RX9 192 yX9_blended mX9_blended 4 8 := ⟨lbX9_blended, w_918, w_920, w_19, ⟨_, rfl, rfl⟩, by decide⟩
theorem w_943 : (Cond.code yX9_likeness cX9_likeness 5 (some .int) : Cond) ∈ tb := tb_at 943 (by decide +kernel) (by decide +kernel)
theorem lbX9_likeness : LkB yX9_likeness mX9_likeness 2 := ⟨w_39, w_943, by decide +kernel⟩
theorem w_940 : (Cond.methodLink RX9 196 yX9_likeness : Cond) ∈ tb := tb_at 940 (by decide +kernel) (by decide +kernel)
theorem w_942 : (Cond.instanceMethod yX9_likeness : Cond) ∈ tb := tb_at 942 (by decide +kernel) (by decide +kernel)
theorem w_21 : (Cond.selects RX9 yX9_likeness yX9_likeness : Cond) ∈ tb := tb_at 21 (by decide +kernel) (by decide +kernel)
theorem kX9_196 : LkV RX9 196 yX9_likeness mX9_likeness 2 8 := ⟨lbX9_likeness, w_940, w_942, w_21, ⟨_, rfl, rfl⟩, by decide⟩
theorem w_956 : (Cond.code yX9_holds cX9_holds 9 (some .boolean) : Cond) ∈ tb := tb_at 956 (by decide +kernel) (by decide +kernel)
theorem lbX9_holds : LkB yX9_holds mX9_holds 4 := ⟨w_39, w_956, by decide +kernel⟩
theorem w_953 : (Cond.methodLink RX9 202 yX9_holds : Cond) ∈ tb := tb_at 953 (by decide +kernel) (by decide +kernel)
theorem w_955 : (Cond.instanceMethod yX9_holds : Cond) ∈ tb := tb_at 955 (by decide +kernel) (by decide +kernel)
theorem w_23 : (Cond.selects RX9 yX9_holds yX9_holds : Cond) ∈ tb := tb_at 23 (by decide +kernel) (by decide +kernel)
theorem kX9_202 : LkV RX9 202 yX9_holds mX9_holds 4 8 := ⟨lbX9_holds, w_953, w_955, w_23, ⟨_, rfl, rfl⟩, by decide⟩
theorem w_952 : (Cond.code yX9_findKeys cX9_findKeys 6 none : Cond) ∈ tb := tb_at 952 (by decide +kernel) (by decide +kernel)
theorem lbX9_findKeys : LkB yX9_findKeys mX9_findKeys 2 := ⟨w_39, w_952, by decide +kernel⟩
theorem w_949 : (Cond.methodLink RX9 208 yX9_findKeys : Cond) ∈ tb := tb_at 949 (by decide +kernel) (by decide +kernel)
theorem w_951 : (Cond.instanceMethod yX9_findKeys : Cond) ∈ tb := tb_at 951 (by decide +kernel) (by decide +kernel)
theorem w_22 : (Cond.selects RX9 yX9_findKeys yX9_findKeys : Cond) ∈ tb := tb_at 22 (by decide +kernel) (by decide +kernel)
theorem kX9_208 : LkV RX9 208 yX9_findKeys mX9_findKeys 2 8 := ⟨lbX9_findKeys, w_949, w_951, w_22, ⟨_, rfl, rfl⟩, by decide⟩
theorem w_984 : (Cond.code yX9_isNode cX9_isNode 2 (some .boolean) : Cond) ∈ tb := tb_at 984 (by decide +kernel) (by decide +kernel)
theorem lbX9_isNode : LkB yX9_isNode mX9_isNode 1 := ⟨w_39, w_984, by decide +kernel⟩
theorem w_981 : (Cond.methodLink RX9 212 yX9_isNode : Cond) ∈ tb := tb_at 981 (by decide +kernel) (by decide +kernel)
theorem w_983 : (Cond.instanceMethod yX9_isNode : Cond) ∈ tb := tb_at 983 (by decide +kernel) (by decide +kernel)
theorem w_26 : (Cond.selects RX9 yX9_isNode yX9_isNode : Cond) ∈ tb := tb_at 26 (by decide +kernel) (by decide +kernel)
theorem kX9_212 : LkV RX9 212 yX9_isNode mX9_isNode 1 8 := ⟨lbX9_isNode, w_981, w_983, w_26, ⟨_, rfl, rfl⟩, by decide⟩
theorem w_980 : (Cond.code yX9_findCosts cX9_findCosts 5 none : Cond) ∈ tb := tb_at 980 (by decide +kernel) (by decide +kernel)
theorem lbX9_findCosts : LkB yX9_findCosts mX9_findCosts 0 := ⟨w_39, w_980, by decide +kernel⟩
theorem w_977 : (Cond.methodLink RX9 215 yX9_findCosts : Cond) ∈ tb := tb_at 977 (by decide +kernel) (by decide +kernel)
theorem w_979 : (Cond.instanceMethod yX9_findCosts : Cond) ∈ tb := tb_at 979 (by decide +kernel) (by decide +kernel)
theorem w_25 : (Cond.selects RX9 yX9_findCosts yX9_findCosts : Cond) ∈ tb := tb_at 25 (by decide +kernel) (by decide +kernel)
theorem kX9_215 : LkV RX9 215 yX9_findCosts mX9_findCosts 0 8 := ⟨lbX9_findCosts, w_977, w_979, w_25, ⟨_, rfl, rfl⟩, by decide⟩
theorem w_976 : (Cond.code yX9_findLive cX9_findLive 6 (some .int) : Cond) ∈ tb := tb_at 976 (by decide +kernel) (by decide +kernel)
theorem lbX9_findLive : LkB yX9_findLive mX9_findLive 0 := ⟨w_39, w_976, by decide +kernel⟩
theorem w_973 : (Cond.methodLink RX9 218 yX9_findLive : Cond) ∈ tb := tb_at 973 (by decide +kernel) (by decide +kernel)
theorem w_975 : (Cond.instanceMethod yX9_findLive : Cond) ∈ tb := tb_at 975 (by decide +kernel) (by decide +kernel)
theorem w_24 : (Cond.selects RX9 yX9_findLive yX9_findLive : Cond) ∈ tb := tb_at 24 (by decide +kernel) (by decide +kernel)
theorem kX9_218 : LkV RX9 218 yX9_findLive mX9_findLive 0 8 := ⟨lbX9_findLive, w_973, w_975, w_24, ⟨_, rfl, rfl⟩, by decide⟩
theorem w_996 : (Cond.code yX9_findDistances cX9_findDistances 5 none : Cond) ∈ tb := tb_at 996 (by decide +kernel) (by decide +kernel)
theorem lbX9_findDistances : LkB yX9_findDistances mX9_findDistances 1 := ⟨w_39, w_996, by decide +kernel⟩
theorem w_993 : (Cond.methodLink RX9 221 yX9_findDistances : Cond) ∈ tb := tb_at 993 (by decide +kernel) (by decide +kernel)
theorem w_995 : (Cond.instanceMethod yX9_findDistances : Cond) ∈ tb := tb_at 995 (by decide +kernel) (by decide +kernel)
theorem w_27 : (Cond.selects RX9 yX9_findDistances yX9_findDistances : Cond) ∈ tb := tb_at 27 (by decide +kernel) (by decide +kernel)
theorem kX9_221 : LkV RX9 221 yX9_findDistances mX9_findDistances 1 8 := ⟨lbX9_findDistances, w_993, w_995, w_27, ⟨_, rfl, rfl⟩, by decide⟩
theorem w_1013 : (Cond.code yX9_met cX9_met 2 (some .int) : Cond) ∈ tb := tb_at 1013 (by decide +kernel) (by decide +kernel)
theorem lbX9_met : LkB yX9_met mX9_met 1 := ⟨w_39, w_1013, by decide +kernel⟩
theorem w_1010 : (Cond.methodLink RX9 238 yX9_met : Cond) ∈ tb := tb_at 1010 (by decide +kernel) (by decide +kernel)
theorem w_1012 : (Cond.instanceMethod yX9_met : Cond) ∈ tb := tb_at 1012 (by decide +kernel) (by decide +kernel)
theorem w_28 : (Cond.selects RX9 yX9_met yX9_met : Cond) ∈ tb := tb_at 28 (by decide +kernel) (by decide +kernel)
theorem kX9_238 : LkV RX9 238 yX9_met mX9_met 1 8 := ⟨lbX9_met, w_1010, w_1012, w_28, ⟨_, rfl, rfl⟩, by decide⟩
theorem w_1025 : (Cond.code yX9_lacks cX9_lacks 4 (some .int) : Cond) ∈ tb := tb_at 1025 (by decide +kernel) (by decide +kernel)
theorem lbX9_lacks : LkB yX9_lacks mX9_lacks 3 := ⟨w_39, w_1025, by decide +kernel⟩
theorem w_1022 : (Cond.methodLink RX9 241 yX9_lacks : Cond) ∈ tb := tb_at 1022 (by decide +kernel) (by decide +kernel)
theorem w_1024 : (Cond.instanceMethod yX9_lacks : Cond) ∈ tb := tb_at 1024 (by decide +kernel) (by decide +kernel)
theorem w_29 : (Cond.selects RX9 yX9_lacks yX9_lacks : Cond) ∈ tb := tb_at 29 (by decide +kernel) (by decide +kernel)
theorem kX9_241 : LkV RX9 241 yX9_lacks mX9_lacks 3 8 := ⟨lbX9_lacks, w_1022, w_1024, w_29, ⟨_, rfl, rfl⟩, by decide⟩
theorem w_1042 : (Cond.code yX9_lacksRow cX9_lacksRow 3 (some .int) : Cond) ∈ tb := tb_at 1042 (by decide +kernel) (by decide +kernel)
theorem lbX9_lacksRow : LkB yX9_lacksRow mX9_lacksRow 2 := ⟨w_39, w_1042, by decide +kernel⟩
theorem w_1039 : (Cond.methodLink RX9 246 yX9_lacksRow : Cond) ∈ tb := tb_at 1039 (by decide +kernel) (by decide +kernel)
theorem w_1041 : (Cond.instanceMethod yX9_lacksRow : Cond) ∈ tb := tb_at 1041 (by decide +kernel) (by decide +kernel)
theorem w_30 : (Cond.selects RX9 yX9_lacksRow yX9_lacksRow : Cond) ∈ tb := tb_at 30 (by decide +kernel) (by decide +kernel)
theorem kX9_246 : LkV RX9 246 yX9_lacksRow mX9_lacksRow 2 8 := ⟨lbX9_lacksRow, w_1039, w_1041, w_30, ⟨_, rfl, rfl⟩, by decide⟩
theorem w_1057 : (Cond.methodLink RX9 253 yX9_count : Cond) ∈ tb := tb_at 1057 (by decide +kernel) (by decide +kernel)
theorem kX9_253 : LkV RX9 253 yX9_count mX9_count 1 8 := ⟨lbX9_count, w_1057, w_1048, w_1049, ⟨_, rfl, rfl⟩, by decide⟩
end
section
/-! contracts of one call, rows of calls with a known answer -/
def Cc (y : MethodName) (M : Mi) (av : List Value) (w : Wd) (P : Option Value → Wd → Prop) : Prop := ∀ l, Ct l y M (fun av' w' => av' = av ∧ w' = w) (fun _ _ r w' => P r w')
theorem Cc.of {y : MethodName} {M : Mi} {av : List Value} {w : Wd} {P : Option Value → Wd → Prop} (hy : plainName y.cls = true) (hc : y.cls = M.1) (hn : y.name = M.2.2.2.2.2.1) (hlen : (lg_sl av).length ≤ M.2.2.1) (body : ∀ X : Cx, V M X (mq M X P) 0 (lv_args 0 av) [] w (0, 0)) : Cc y M av w P := fun l => by
  refine Ct.of hy hc hn (fun av' w' h => by rw [h.1]; exact hlen) (fun X av' w' h => ?_)
  obtain ⟨rfl, rfl⟩ := h
  exact body X
theorem Cc.mono {y : MethodName} {M : Mi} {av : List Value} {w : Wd} {P P' : Option Value → Wd → Prop} (h : Cc y M av w P) (hp : ∀ r w', P r w' → P' r w') : Cc y M av w P' := fun l D cy ad w2 sz av2 hpre => by
  have h1 := h l D cy ad w2 sz av2 hpre
  intro p e ha hc hk s m args below hf happ hP hK
  obtain ⟨k, o, h2, h3, h4, ⟨⟨⟨r, w', ad', e1, e2, e3⟩, h6⟩, h7⟩⟩ := h1 p e ha hc hk s m args below hf happ hP hK
  exact ⟨k, o, h2, h3, h4, ⟨⟨⟨r, w', ad', e1, hp r w' e2, e3⟩, h6⟩, h7⟩⟩
def NA (M : Mi) : Prop := M.2.2.2.2.1.cells = 0 ∧ M.2.2.2.2.1.slots = 0 ∧ M.2.2.2.2.2.2 = false
section
variable {M : Mi} {X : Cx} {Q : State → Prop} {pc : Nat} {L : List (Nat × Value)} {st : List Value} {w : Wd} {cs : Nat × Nat}
variable {y : MethodName} {M' : Mi} {idx n b ci : Nat} {As st0 : List Value} {w1 : Wd} {v : Value} {P : Option Value → Wd → Prop}
theorem V_cS (hC : Cc y M' As w P) (hk : LkS M.1 idx y M' n) (hna : NA M') (hR : Rm M M') (hd : decode M.2.1 pc = .ok (.invokestatic idx, 3)) (hn : As.length = n) (hst : st0 = As.reverse ++ st) (hsz : (st.map fun v => v.category).sum ≤ 8) (hcs : cs.1 ≤ M.2.2.2.2.1.cells ∧ cs.2 ≤ M.2.2.2.2.1.slots) (kk : ∀ r w', P r w' → V M X Q (pc + 3) L (r.toList ++ st) w' cs) : V M X Q pc L st0 w cs :=
  V_invS hC hk.1 hk.2.1 hk.2.2 hR hd hn hst hsz (by rw [hna.1, hna.2.1]; exact hcs) (Or.inl hna.2.2) ⟨rfl, rfl⟩ (by rw [hna.1, hna.2.1]; exact kk)
theorem V_cSN (hC : Cc y M' As w P) (hk : LkSN M.1 idx y M' n) (hna : NA M') (hR : Rm M M') (hd : decode M.2.1 pc = .ok (.invokestatic idx, 3)) (hn : As.length = n) (hst : st0 = As.reverse ++ st) (hsz : (st.map fun v => v.category).sum ≤ 8) (hcs : cs.1 ≤ M.2.2.2.2.1.cells ∧ cs.2 ≤ M.2.2.2.2.1.slots) (kk : ∀ r w', P r w' → V M X Q (pc + 3) L (r.toList ++ st) w' cs) : V M X Q pc L st0 w cs := by
  obtain ⟨hb, ⟨host, hh⟩, hs⟩ := hk
  exact V_invSN hC hb hh hs hR hd hn hst hsz (by rw [hna.1, hna.2.1]; exact hcs) (Or.inl hna.2.2) ⟨rfl, rfl⟩ (by rw [hna.1, hna.2.1]; exact kk)
theorem V_cV (hC : Cc y M' (.ref b :: As) w P) (hk : LkV M.1 idx y M' n ci) (hK : wK w b = ci + 1) (hna : NA M') (hR : Rm M M') (hd : decode M.2.1 pc = .ok (.invokevirtual idx, 3)) (hn : As.length = n) (hst : st0 = As.reverse ++ .ref b :: st) (hsz : (st.map fun v => v.category).sum ≤ 8) (hcs : cs.1 ≤ M.2.2.2.2.1.cells ∧ cs.2 ≤ M.2.2.2.2.1.slots) (kk : ∀ r w', P r w' → V M X Q (pc + 3) L (r.toList ++ st) w' cs) : V M X Q pc L st0 w cs := by
  obtain ⟨hb, h1, h2, h3, ⟨r0, h4, h5⟩, h6⟩ := hk
  exact V_invV hC hb h1 h2 h3 h4 h5 h6 hK hR hd hn hst hsz (by rw [hna.1, hna.2.1]; exact hcs) (Or.inl hna.2.2) ⟨rfl, rfl⟩ (by rw [hna.1, hna.2.1]; exact kk)
theorem V_callS (hC : Cc y M' As w (fun r w' => r = some v ∧ w' = w1)) (hk : LkS M.1 idx y M' n) (hna : NA M') (hR : Rm M M') (hd : decode M.2.1 pc = .ok (.invokestatic idx, 3)) (hn : As.length = n) (hst : st0 = As.reverse ++ st) (hsz : (st.map fun v => v.category).sum ≤ 8) (hcs : cs.1 ≤ M.2.2.2.2.1.cells ∧ cs.2 ≤ M.2.2.2.2.1.slots) (kk : V M X Q (pc + 3) L (v :: st) w1 cs) : V M X Q pc L st0 w cs :=
  V_cS hC hk hna hR hd hn hst hsz hcs (by rintro r w' ⟨rfl, rfl⟩; exact kk)
theorem V_callSv (hC : Cc y M' As w (fun r w' => r = none ∧ w' = w1)) (hk : LkS M.1 idx y M' n) (hna : NA M') (hR : Rm M M') (hd : decode M.2.1 pc = .ok (.invokestatic idx, 3)) (hn : As.length = n) (hst : st0 = As.reverse ++ st) (hsz : (st.map fun v => v.category).sum ≤ 8) (hcs : cs.1 ≤ M.2.2.2.2.1.cells ∧ cs.2 ≤ M.2.2.2.2.1.slots) (kk : V M X Q (pc + 3) L st w1 cs) : V M X Q pc L st0 w cs :=
  V_cS hC hk hna hR hd hn hst hsz hcs (by rintro r w' ⟨rfl, rfl⟩; exact kk)
theorem V_callSN (hC : Cc y M' As w (fun r w' => r = some v ∧ w' = w1)) (hk : LkSN M.1 idx y M' n) (hna : NA M') (hR : Rm M M') (hd : decode M.2.1 pc = .ok (.invokestatic idx, 3)) (hn : As.length = n) (hst : st0 = As.reverse ++ st) (hsz : (st.map fun v => v.category).sum ≤ 8) (hcs : cs.1 ≤ M.2.2.2.2.1.cells ∧ cs.2 ≤ M.2.2.2.2.1.slots) (kk : V M X Q (pc + 3) L (v :: st) w1 cs) : V M X Q pc L st0 w cs :=
  V_cSN hC hk hna hR hd hn hst hsz hcs (by rintro r w' ⟨rfl, rfl⟩; exact kk)
theorem V_callV (hC : Cc y M' (.ref b :: As) w (fun r w' => r = some v ∧ w' = w1)) (hk : LkV M.1 idx y M' n ci) (hK : wK w b = ci + 1) (hna : NA M') (hR : Rm M M') (hd : decode M.2.1 pc = .ok (.invokevirtual idx, 3)) (hn : As.length = n) (hst : st0 = As.reverse ++ .ref b :: st) (hsz : (st.map fun v => v.category).sum ≤ 8) (hcs : cs.1 ≤ M.2.2.2.2.1.cells ∧ cs.2 ≤ M.2.2.2.2.1.slots) (kk : V M X Q (pc + 3) L (v :: st) w1 cs) : V M X Q pc L st0 w cs :=
  V_cV hC hk hK hna hR hd hn hst hsz hcs (by rintro r w' ⟨rfl, rfl⟩; exact kk)
theorem V_callVv (hC : Cc y M' (.ref b :: As) w (fun r w' => r = none ∧ w' = w1)) (hk : LkV M.1 idx y M' n ci) (hK : wK w b = ci + 1) (hna : NA M') (hR : Rm M M') (hd : decode M.2.1 pc = .ok (.invokevirtual idx, 3)) (hn : As.length = n) (hst : st0 = As.reverse ++ .ref b :: st) (hsz : (st.map fun v => v.category).sum ≤ 8) (hcs : cs.1 ≤ M.2.2.2.2.1.cells ∧ cs.2 ≤ M.2.2.2.2.1.slots) (kk : V M X Q (pc + 3) L st w1 cs) : V M X Q pc L st0 w cs :=
  V_cV hC hk hK hna hR hd hn hst hsz hcs (by rintro r w' ⟨rfl, rfl⟩; exact kk)
/-- an answer of which a relation is known -/
theorem V_callSr {Rl : Value → Wd → Prop} (hC : Cc y M' As w (fun r w' => ∃ v, r = some v ∧ Rl v w')) (hk : LkS M.1 idx y M' n) (hna : NA M') (hR : Rm M M') (hd : decode M.2.1 pc = .ok (.invokestatic idx, 3)) (hn : As.length = n) (hst : st0 = As.reverse ++ st) (hsz : (st.map fun v => v.category).sum ≤ 8) (hcs : cs.1 ≤ M.2.2.2.2.1.cells ∧ cs.2 ≤ M.2.2.2.2.1.slots) (kk : ∀ v w', Rl v w' → V M X Q (pc + 3) L (v :: st) w' cs) : V M X Q pc L st0 w cs :=
  V_cS hC hk hna hR hd hn hst hsz hcs (by rintro r w' ⟨v, rfl, h⟩; exact kk v w' h)
theorem V_callVr {Rl : Value → Wd → Prop} (hC : Cc y M' (.ref b :: As) w (fun r w' => ∃ v, r = some v ∧ Rl v w')) (hk : LkV M.1 idx y M' n ci) (hK : wK w b = ci + 1) (hna : NA M') (hR : Rm M M') (hd : decode M.2.1 pc = .ok (.invokevirtual idx, 3)) (hn : As.length = n) (hst : st0 = As.reverse ++ .ref b :: st) (hsz : (st.map fun v => v.category).sum ≤ 8) (hcs : cs.1 ≤ M.2.2.2.2.1.cells ∧ cs.2 ≤ M.2.2.2.2.1.slots) (kk : ∀ v w', Rl v w' → V M X Q (pc + 3) L (v :: st) w' cs) : V M X Q pc L st0 w cs :=
  V_cV hC hk hK hna hR hd hn hst hsz hcs (by rintro r w' ⟨v, rfl, h⟩; exact kk v w' h)
theorem V_callVvr {Rl : Wd → Prop} (hC : Cc y M' (.ref b :: As) w (fun r w' => r = none ∧ Rl w')) (hk : LkV M.1 idx y M' n ci) (hK : wK w b = ci + 1) (hna : NA M') (hR : Rm M M') (hd : decode M.2.1 pc = .ok (.invokevirtual idx, 3)) (hn : As.length = n) (hst : st0 = As.reverse ++ .ref b :: st) (hsz : (st.map fun v => v.category).sum ≤ 8) (hcs : cs.1 ≤ M.2.2.2.2.1.cells ∧ cs.2 ≤ M.2.2.2.2.1.slots) (kk : ∀ w', Rl w' → V M X Q (pc + 3) L st w' cs) : V M X Q pc L st0 w cs :=
  V_cV hC hk hK hna hR hd hn hst hsz hcs (by rintro r w' ⟨rfl, h⟩; exact kk w' h)
theorem i64_tri (x y : Int64) : x < y ∨ x = y ∨ y < x := by
  rw [Int64.lt_iff_toInt_lt, Int64.lt_iff_toInt_lt, ← Int64.toInt_inj]
  omega
theorem lg_lt {x y : Int64} : lg_cmp x y < 0 ↔ x < y := by
  unfold lg_cmp
  rcases i64_tri x y with h | h | h
  · have h1 : ¬ x > y := fun q => Int64.lt_asymm h q
    have h2 : ¬ x = y := fun q => Int64.lt_irrefl (q ▸ h)
    simp only [h1, h2, if_false, h, iff_true]; decide
  · have h1 : ¬ x > y := fun q => Int64.lt_irrefl (h ▸ q)
    have h2 : ¬ x < y := fun q => Int64.lt_irrefl (h ▸ q)
    simp only [h1, if_false, h, if_true, iff_false]; simp [Int64.lt_irrefl]
  · have h2 : ¬ x < y := fun q => Int64.lt_asymm h q
    simp only [gt_iff_lt, h, if_true, h2, iff_false]; decide
theorem lg_gt {x y : Int64} : 0 < lg_cmp x y ↔ y < x := by
  unfold lg_cmp
  rcases i64_tri x y with h | h | h
  · have h1 : ¬ y < x := fun q => Int64.lt_asymm h q
    have h2 : ¬ x = y := fun q => Int64.lt_irrefl (q ▸ h)
    simp only [gt_iff_lt, h1, h2, if_false, iff_false]; decide
  · subst h
    simp [Int64.lt_irrefl]
  · simp only [gt_iff_lt, h, if_true, iff_true]; decide
theorem i32_le {a b : Int32} : a ≤ b ↔ ¬ b < a := Int32.not_lt.symm
theorem i64_le {a b : Int64} : a ≤ b ↔ ¬ b < a := Int64.not_lt.symm
theorem V_lcmp_lt {x y : Int64} {off : Int} {tgt : Nat} (h1 : decode M.2.1 pc = .ok (.lcmp, 1)) (hd : decode M.2.1 (pc + 1) = .ok (.ifCond .lt off, 3)) (ht : ((pc + 1 : Nat) : Int) + off = (tgt : Int)) (kt : x < y → V M X Q tgt L st w cs) (kf : ¬ x < y → V M X Q (pc + 1 + 3) L st w cs) : V M X Q pc L (.long y :: .long x :: st) w cs :=
  V_lcmp h1 (V_if_lt hd ht (fun c => kt (lg_lt.mp c)) (fun c => kf (fun q => c (lg_lt.mpr q))))
theorem V_lcmp_ge {x y : Int64} {off : Int} {tgt : Nat} (h1 : decode M.2.1 pc = .ok (.lcmp, 1)) (hd : decode M.2.1 (pc + 1) = .ok (.ifCond .ge off, 3)) (ht : ((pc + 1 : Nat) : Int) + off = (tgt : Int)) (kt : ¬ x < y → V M X Q tgt L st w cs) (kf : x < y → V M X Q (pc + 1 + 3) L st w cs) : V M X Q pc L (.long y :: .long x :: st) w cs :=
  V_lcmp h1 (V_if_ge hd ht (fun c => kt (fun q => i32_le.mp c (lg_lt.mpr q))) (fun c => kf (Classical.not_not.mp fun q => c (i32_le.mpr fun z => q (lg_lt.mp z)))))
theorem V_lcmp_gt {x y : Int64} {off : Int} {tgt : Nat} (h1 : decode M.2.1 pc = .ok (.lcmp, 1)) (hd : decode M.2.1 (pc + 1) = .ok (.ifCond .gt off, 3)) (ht : ((pc + 1 : Nat) : Int) + off = (tgt : Int)) (kt : y < x → V M X Q tgt L st w cs) (kf : ¬ y < x → V M X Q (pc + 1 + 3) L st w cs) : V M X Q pc L (.long y :: .long x :: st) w cs :=
  V_lcmp h1 (V_if_gt hd ht (fun c => kt (lg_gt.mp c)) (fun c => kf (fun q => c (lg_gt.mpr q))))
theorem V_lcmp_le {x y : Int64} {off : Int} {tgt : Nat} (h1 : decode M.2.1 pc = .ok (.lcmp, 1)) (hd : decode M.2.1 (pc + 1) = .ok (.ifCond .le off, 3)) (ht : ((pc + 1 : Nat) : Int) + off = (tgt : Int)) (kt : ¬ y < x → V M X Q tgt L st w cs) (kf : y < x → V M X Q (pc + 1 + 3) L st w cs) : V M X Q pc L (.long y :: .long x :: st) w cs :=
  V_lcmp h1 (V_if_le hd ht (fun c => kt (fun q => i32_le.mp c (lg_gt.mpr q))) (fun c => kf (Classical.not_not.mp fun q => c (i32_le.mpr fun z => q (lg_gt.mp z)))))
end
theorem S_istore_n {M : Mi} {X : Cx} {Q : State → Prop} {pc : Nat} {L : List (Nat × Value)} {st : List Value} {w : Wd} {cs : Nat × Nat} {k9 : Fin 4} {i : Nat} {x : Int32} {L' : List (Nat × Value)} (hd : decode M.2.1 pc = .ok (.istore_n k9, 1)) (hi : (k9 : Nat) = i) (hn : Nat.blt (i) M.2.2.1 = true) (hL : L'.map (fun q => List.find? (fun r => r.1 == q.1) ((i, .int x) :: L.filter (rm1 i))) = L'.map some) (k : V M X Q (pc + 1) L' st w cs) : V M X Q pc L (.int x :: st) w cs := V_istore_n hd hi hn rfl (V_sub hL k)
theorem S_istore {M : Mi} {X : Cx} {Q : State → Prop} {pc : Nat} {L : List (Nat × Value)} {st : List Value} {w : Wd} {cs : Nat × Nat} {i : Nat} {x : Int32} {L' : List (Nat × Value)} (hd : decode M.2.1 pc = .ok (.istore i, 2)) (hn : Nat.blt (i) M.2.2.1 = true) (hL : L'.map (fun q => List.find? (fun r => r.1 == q.1) ((i, .int x) :: L.filter (rm1 i))) = L'.map some) (k : V M X Q (pc + 2) L' st w cs) : V M X Q pc L (.int x :: st) w cs := V_istore hd hn rfl (V_sub hL k)
theorem S_lstore_n {M : Mi} {X : Cx} {Q : State → Prop} {pc : Nat} {L : List (Nat × Value)} {st : List Value} {w : Wd} {cs : Nat × Nat} {k9 : Fin 4} {i : Nat} {x : Int64} {L' : List (Nat × Value)} (hd : decode M.2.1 pc = .ok (.lstore_n k9, 1)) (hi : (k9 : Nat) = i) (hn : Nat.blt (i + 1) M.2.2.1 = true) (hL : L'.map (fun q => List.find? (fun r => r.1 == q.1) ((i, .long x) :: L.filter (rm2 i))) = L'.map some) (k : V M X Q (pc + 1) L' st w cs) : V M X Q pc L (.long x :: st) w cs := V_lstore_n hd hi hn rfl (V_sub hL k)
theorem S_lstore {M : Mi} {X : Cx} {Q : State → Prop} {pc : Nat} {L : List (Nat × Value)} {st : List Value} {w : Wd} {cs : Nat × Nat} {i : Nat} {x : Int64} {L' : List (Nat × Value)} (hd : decode M.2.1 pc = .ok (.lstore i, 2)) (hn : Nat.blt (i + 1) M.2.2.1 = true) (hL : L'.map (fun q => List.find? (fun r => r.1 == q.1) ((i, .long x) :: L.filter (rm2 i))) = L'.map some) (k : V M X Q (pc + 2) L' st w cs) : V M X Q pc L (.long x :: st) w cs := V_lstore hd hn rfl (V_sub hL k)
theorem S_astore_n {M : Mi} {X : Cx} {Q : State → Prop} {pc : Nat} {L : List (Nat × Value)} {st : List Value} {w : Wd} {cs : Nat × Nat} {k9 : Fin 4} {i : Nat} {x : Nat} {L' : List (Nat × Value)} (hd : decode M.2.1 pc = .ok (.astore_n k9, 1)) (hi : (k9 : Nat) = i) (hn : Nat.blt (i) M.2.2.1 = true) (hL : L'.map (fun q => List.find? (fun r => r.1 == q.1) ((i, .ref x) :: L.filter (rm1 i))) = L'.map some) (k : V M X Q (pc + 1) L' st w cs) : V M X Q pc L (.ref x :: st) w cs := V_astore_n hd hi hn rfl (V_sub hL k)
theorem S_astore {M : Mi} {X : Cx} {Q : State → Prop} {pc : Nat} {L : List (Nat × Value)} {st : List Value} {w : Wd} {cs : Nat × Nat} {i : Nat} {x : Nat} {L' : List (Nat × Value)} (hd : decode M.2.1 pc = .ok (.astore i, 2)) (hn : Nat.blt (i) M.2.2.1 = true) (hL : L'.map (fun q => List.find? (fun r => r.1 == q.1) ((i, .ref x) :: L.filter (rm1 i))) = L'.map some) (k : V M X Q (pc + 2) L' st w cs) : V M X Q pc L (.ref x :: st) w cs := V_astore hd hn rfl (V_sub hL k)
theorem S_astore_nN {M : Mi} {X : Cx} {Q : State → Prop} {pc : Nat} {L : List (Nat × Value)} {st : List Value} {w : Wd} {cs : Nat × Nat} {k9 : Fin 4} {i : Nat} {L' : List (Nat × Value)} (hd : decode M.2.1 pc = .ok (.astore_n k9, 1)) (hi : (k9 : Nat) = i) (hn : Nat.blt i M.2.2.1 = true) (hL : L'.map (fun q => List.find? (fun r => r.1 == q.1) ((i, .null) :: L.filter (rm1 i))) = L'.map some) (k : V M X Q (pc + 1) L' st w cs) : V M X Q pc L (.null :: st) w cs := V_astore_nN hd hi hn rfl (V_sub hL k)
theorem S_astoreN {M : Mi} {X : Cx} {Q : State → Prop} {pc : Nat} {L : List (Nat × Value)} {st : List Value} {w : Wd} {cs : Nat × Nat} {i : Nat} {L' : List (Nat × Value)} (hd : decode M.2.1 pc = .ok (.astore i, 2)) (hn : Nat.blt i M.2.2.1 = true) (hL : L'.map (fun q => List.find? (fun r => r.1 == q.1) ((i, .null) :: L.filter (rm1 i))) = L'.map some) (k : V M X Q (pc + 2) L' st w cs) : V M X Q pc L (.null :: st) w cs := V_astoreN hd hn rfl (V_sub hL k)
theorem S_iinc {M : Mi} {X : Cx} {Q : State → Prop} {pc : Nat} {L : List (Nat × Value)} {st : List Value} {w : Wd} {cs : Nat × Nat} {i : Nat} {n : Int} {x v : Int32} {L' : List (Nat × Value)} (hd : decode M.2.1 pc = .ok (.iinc i n, 3)) (h0 : L.find? (fun q => q.1 == i) = some (i, .int x)) (hv : x + Int32.ofInt n = v) (hn : Nat.blt i M.2.2.1 = true) (hL : L'.map (fun q => List.find? (fun r => r.1 == q.1) ((i, .int v) :: L.filter (rm1 i))) = L'.map some) (k : V M X Q (pc + 3) L' st w cs) : V M X Q pc L st w cs := V_iinc hd h0 hv hn rfl (V_sub hL k)
end
section
/-! numbers -/
theorem V_ixor {M : Mi} {X : Cx} {Q : State → Prop} {pc : Nat} {L : List (Nat × Value)} {st : List Value} {w : Wd} {cs : Nat × Nat} {x y : Int32} (hd : decode M.2.1 pc = .ok (.ixor, 1)) (k : V M X Q (pc + 1) L (.int (x ^^^ y) :: st) w cs) : V M X Q pc L (.int y :: .int x :: st) w cs := fun o ad H locs ls h hl => lv_ixor o.1 o.2.1 hd (k o ad H locs ls h hl)
theorem i32_neN {x y : Int32} (k : Int) (hk : y.toInt = k) (h : ¬ x = y) : x.toInt ≠ k := fun q => h (Int32.toInt_inj.mp (q.trans hk.symm))
theorem fb_rng (x : Int32) : -2147483648 ≤ x.toInt ∧ x.toInt < 2147483648 := ⟨by have := x.le_toInt; simpa using this, by have := x.toInt_lt; simpa using this⟩
theorem fb_rngL (x : Int64) : -9223372036854775808 ≤ x.toInt ∧ x.toInt < 9223372036854775808 := ⟨by have := x.le_toInt; simpa using this, by have := x.toInt_lt; simpa using this⟩
theorem fb_bmod {z : Int} (h1 : -2147483648 ≤ z) (h2 : z < 2147483648) : z.bmod (2 ^ 32) = z := Int.bmod_eq_of_le (by omega) (by omega)
theorem fb_bmodL {z : Int} (h1 : -9223372036854775808 ≤ z) (h2 : z < 9223372036854775808) : z.bmod (2 ^ 64) = z := Int.bmod_eq_of_le (by omega) (by omega)
theorem fb_addI {x y : Int32} (h1 : -2147483648 ≤ x.toInt + y.toInt) (h2 : x.toInt + y.toInt < 2147483648) : (x + y).toInt = x.toInt + y.toInt := by rw [Int32.toInt_add, fb_bmod h1 h2]
theorem fb_subI {x y : Int32} (h1 : -2147483648 ≤ x.toInt - y.toInt) (h2 : x.toInt - y.toInt < 2147483648) : (x - y).toInt = x.toInt - y.toInt := by rw [Int32.toInt_sub, fb_bmod h1 h2]
theorem fb_mulI {x y : Int32} (h1 : -2147483648 ≤ x.toInt * y.toInt) (h2 : x.toInt * y.toInt < 2147483648) : (x * y).toInt = x.toInt * y.toInt := by rw [Int32.toInt_mul, fb_bmod h1 h2]
theorem fb_negI {x : Int32} (h : x.toInt ≠ -2147483648) : (-x).toInt = -x.toInt := by have := fb_rng x; rw [Int32.toInt_neg, fb_bmod (by omega) (by omega)]
theorem fb_ofI {z : Int} (h1 : -2147483648 ≤ z) (h2 : z < 2147483648) : (Int32.ofInt z).toInt = z := by rw [Int32.toInt_ofInt]; exact fb_bmod h1 h2
theorem fb_addL {x y : Int64} (h1 : -9223372036854775808 ≤ x.toInt + y.toInt) (h2 : x.toInt + y.toInt < 9223372036854775808) : (x + y).toInt = x.toInt + y.toInt := by rw [Int64.toInt_add, fb_bmodL h1 h2]
theorem fb_subL {x y : Int64} (h1 : -9223372036854775808 ≤ x.toInt - y.toInt) (h2 : x.toInt - y.toInt < 9223372036854775808) : (x - y).toInt = x.toInt - y.toInt := by rw [Int64.toInt_sub, fb_bmodL h1 h2]
theorem fb_mulL {x y : Int64} (h1 : -9223372036854775808 ≤ x.toInt * y.toInt) (h2 : x.toInt * y.toInt < 9223372036854775808) : (x * y).toInt = x.toInt * y.toInt := by rw [Int64.toInt_mul, fb_bmodL h1 h2]
theorem fb_negL {x : Int64} (h : x.toInt ≠ -9223372036854775808) : (-x).toInt = -x.toInt := by have := fb_rngL x; rw [Int64.toInt_neg, fb_bmodL (by omega) (by omega)]
theorem i32_divT (x y : Int32) (h : y.toInt ≠ -1) : (x / y).toInt = x.toInt.tdiv y.toInt := by
  have hx := fb_rng x
  rw [Int32.toInt_div]
  by_cases h0 : y.toInt = 0
  · rw [h0, Int.tdiv_zero]; rfl
  have h1 : (x.toInt.tdiv y.toInt).natAbs = x.toInt.natAbs / y.toInt.natAbs := Int.natAbs_tdiv ..
  have h2 : 2 ≤ y.toInt.natAbs ∨ y.toInt = 1 := by omega
  apply fb_bmod
  · rcases h2 with h2 | h2
    · have : x.toInt.natAbs / y.toInt.natAbs ≤ x.toInt.natAbs / 2 := Nat.div_le_div_left h2 (by omega)
      omega
    · rw [h2, Int.tdiv_one]; omega
  · rcases h2 with h2 | h2
    · have : x.toInt.natAbs / y.toInt.natAbs ≤ x.toInt.natAbs / 2 := Nat.div_le_div_left h2 (by omega)
      omega
    · rw [h2, Int.tdiv_one]; omega
theorem i32_remT (x y : Int32) (h : y.toInt ≠ -1) (h0 : y.toInt ≠ 0) : (x - x / y * y).toInt = x.toInt.tmod y.toInt := by
  have hx := fb_rng x
  have e : x.toInt - x.toInt.tdiv y.toInt * y.toInt = x.toInt.tmod y.toInt := by
    rw [Int.tmod_def, Int.mul_comm]
  have hr : (x.toInt.tmod y.toInt).natAbs ≤ x.toInt.natAbs := by rw [Int.natAbs_tmod]; exact Nat.mod_le _ _
  have hq : (x.toInt.tdiv y.toInt * y.toInt).natAbs ≤ x.toInt.natAbs := by
    rw [Int.natAbs_mul, Int.natAbs_tdiv]; exact Nat.div_mul_le_self _ _
  have hb : -2147483648 ≤ x.toInt.tdiv y.toInt * y.toInt ∧ x.toInt.tdiv y.toInt * y.toInt ≤ 2147483648 := by omega
  by_cases hm : x.toInt.tdiv y.toInt * y.toInt = 2147483648
  · exfalso
    omega
  · rw [fb_subI]
    · rw [fb_mulI] <;> rw [i32_divT x y h] <;> omega
    · rw [fb_mulI] <;> rw [i32_divT x y h] <;> omega
    · rw [fb_mulI] <;> rw [i32_divT x y h] <;> omega
/-- a number's rest by 36, 0 to 35 -/
def rN (t : Int32) : Nat := (t.toInt % 36).toNat
theorem rN_lt (t : Int32) : rN t < 36 := by unfold rN; omega
theorem rem36 (t : Int32) : (t - t / 36 * 36).toInt = t.toInt.tmod 36 := i32_remT t 36 (by decide) (by decide)
theorem tm36 (z : Int) : (0 ≤ z → z.tmod 36 = z % 36) ∧ (z < 0 → z.tmod 36 = -((-z) % 36)) := by
  refine ⟨fun h => Int.tmod_eq_emod_of_nonneg h, fun h => ?_⟩
  have e : z = -(-z) := by omega
  rw [e, Int.neg_tmod, Int.tmod_eq_emod_of_nonneg (by omega), Int.neg_neg]
theorem rN_pos {t : Int32} (h : 0 ≤ t.toInt.tmod 36) : t - t / 36 * 36 = nI (rN t) := by
  apply Int32.toInt_inj.mp
  have := rN_lt t
  have h1 := tm36 t.toInt
  rw [rem36, nI_toInt (by omega), rN]
  rcases Int.lt_or_le t.toInt 0 with h2 | h2
  · rw [h1.2 h2] at h ⊢
    omega
  · rw [h1.1 h2] at h ⊢
    omega
theorem rN_neg {t : Int32} (h : t.toInt.tmod 36 < 0) : t - t / 36 * 36 + 36 = nI (rN t) := by
  apply Int32.toInt_inj.mp
  have := rN_lt t
  have h1 := tm36 t.toInt
  have e36 : (36 : Int32).toInt = 36 := rfl
  have h2 : t.toInt < 0 := by
    rcases Int.lt_or_le t.toInt 0 with h2 | h2
    · exact h2
    · rw [h1.1 h2] at h; omega
  have h3 := h1.2 h2
  have h4 := rem36 t
  rw [fb_addI (by rw [h4, h3, e36]; omega) (by rw [h4, h3, e36]; omega), h4, h3, e36, nI_toInt (by omega), rN]
  rw [h3] at h
  omega
def b01 (c : Prop) [Decidable c] : Int32 := if c then 1 else 0
theorem b01_t {c : Prop} [Decidable c] (h : c) : b01 c = 1 := if_pos h
theorem b01_f {c : Prop} [Decidable c] (h : ¬ c) : b01 c = 0 := if_neg h
theorem b01_0 {c : Prop} [Decidable c] (h : b01 c = 0) : ¬ c := fun q => by rw [b01_t q] at h; cases h
theorem b01_1 {c : Prop} [Decidable c] (h : ¬ b01 c = 0) : c := Classical.not_not.mp fun q => h (b01_f q)
theorem b01_nar (c : Prop) [Decidable c] : narrow .boolean (.int (b01 c)) = .int (b01 c) := by unfold b01; by_cases h : c <;> simp [h] <;> rfl
theorem Ct.ofF {l : Launch} {y : MethodName} {M : Mi} {Pre : List Value → Wd → Prop} {Post : List Value → Wd → Option Value → Wd → Prop} (hy : plainFor y = true) (hc : y.cls = M.1) (hn : y.name = M.2.2.2.2.2.1) (hlen : ∀ av w, Pre av w → (lg_sl av).length ≤ M.2.2.1)
    (body : ∀ (X : Cx) (av : List Value) (w : Wd), Pre av w → V M X (mq M X (Post av w)) 0 (lv_args 0 av) [] w (0, 0)) : Ct l y M Pre Post := by
  intro D cy ad w sz av hp
  refine va_MetF (cc := M.2.1) (maxL := M.2.2.1) (ret := M.2.2.2.1) hy rfl ?_
  intro p e s m args below meth c s₁ B hml hv
  obtain ⟨rfl, hsz, hw, hP, hD0, hH, hZ, hT⟩ := hv
  subst hsz
  have hts : ∀ w ∈ tb, w.before (av.map (mv ad)).toArray s = true := fun w hw => atoms_spec (ws := .code y M.2.1 M.2.2.1 M.2.2.2.1 :: tb) B.pre w (List.mem_cons_of_mem _ hw)
  have hown : s.vm.findClass M.1 = some m.cls := by rw [← hc]; exact findClass_of_methodNamed B.named
  have hnm : meth.name = M.2.2.2.2.2.1 := by rw [← hn]; exact (name_of_methodNamed B.named B.method).1
  have hl := lv_entry (av.map (mv ad)) (n := M.2.2.1) (by rw [lg_sl_mv]; exact hlen av w hp)
  rw [lg_entry_eq]
  generalize (lg_sl (av.map (mv ad)) ++ List.replicate (M.2.2.1 - (lg_sl (av.map (mv ad))).length) Slot.unset).toArray = ls at hl ⊢
  rw [lv_args_mv] at hl
  have key := body (p, l, e, s, m, below, meth, c, D, cy, ad, w, av, none) av w hp ⟨B.exec, B.bytes, hml, B.returns, hown, hts, B.notSynchronized, hH, ⟨hZ, hT⟩, hnm, fun q h => by cases h⟩ ad s.heap [] ls ⟨hw, hP, hD0.self, va_S.rf, ⟨fun _ _ => rfl, fun _ h => h⟩, Or.inr rfl⟩ hl
  exact key
theorem Cc.ofF {y : MethodName} {M : Mi} {av : List Value} {w : Wd} {P : Option Value → Wd → Prop} (hy : plainFor y = true) (hc : y.cls = M.1) (hn : y.name = M.2.2.2.2.2.1) (hlen : (lg_sl av).length ≤ M.2.2.1) (body : ∀ X : Cx, V M X (mq M X P) 0 (lv_args 0 av) [] w (0, 0)) : Cc y M av w P := fun l => by
  refine Ct.ofF hy hc hn (fun av' w' h => by rw [h.1]; exact hlen) (fun X av' w' h => ?_)
  obtain ⟨rfl, rfl⟩ := h
  exact body X
end
section
/-! the leaves: numbers alone -/
theorem i32_neg_msb (x : Int32) : x < 0 ↔ x.toBitVec.msb = true := by
  rw [Int32.lt_iff_toInt_lt, BitVec.msb_eq_toInt]
  show x.toBitVec.toInt < 0 ↔ _
  simp
theorem fm_sgn (x : Int32) : 0 ≤ (x ^^^ 36) ↔ ¬ x < 0 := by
  rw [i32_le, not_congr (i32_neg_msb (x ^^^ 36)), not_congr (i32_neg_msb x), Int32.toBitVec_xor, BitVec.msb_xor]
  rw [show (36 : Int32).toBitVec.msb = false from rfl]
  simp
theorem tm_pos {x : Int32} (h : ¬ x < 0) : 0 ≤ x.toInt.tmod 36 := by
  rw [Int32.lt_iff_toInt_lt] at h
  have h0 : (0 : Int32).toInt = 0 := rfl
  rw [(tm36 x.toInt).1 (by omega)]; omega
theorem tm_neg {x : Int32} (h : x < 0) (h1 : ¬ x.toInt.tmod 36 = 0) : x.toInt.tmod 36 < 0 := by
  rw [Int32.lt_iff_toInt_lt] at h
  have h0 : (0 : Int32).toInt = 0 := rfl
  rw [(tm36 x.toInt).2 (by omega)] at h1 ⊢; omega
theorem rem_0 {x : Int32} (h : x - x / 36 * 36 = 0) : x.toInt.tmod 36 = 0 := by rw [← rem36, h]; rfl
theorem rem_lt {x : Int32} : x - x / 36 * 36 < 0 ↔ x.toInt.tmod 36 < 0 := by rw [Int32.lt_iff_toInt_lt, rem36]; rfl
def tDist (a b : Int32) : Int32 := if b ≤ a then (if a - b ≤ 18 then a - b else 36 - (a - b)) else (if b - a ≤ 18 then b - a else 36 - (b - a))
def tShort (a b : Int32) : Int32 := if b - a ≤ 18 then (if -18 < b - a then b - a else b - a + 36) else b - a - 36
def mShort (t u : Int32) : Int32 := if nI (rN (u - t)) ≤ 18 then nI (rN (u - t)) else nI (rN (u - t)) - 36
def mAmt (v : Int32) : Int32 := if 0 ≤ v then v else -v
abbrev plc (x : Int64) : Prop := -1000000000000 ≤ x.toInt ∧ x.toInt ≤ 1000000000000
abbrev inL (a b c : Int64) : Prop := b.toInt ≤ a.toInt ∧ a.toInt ≤ c.toInt
theorem b01_c {p q : Prop} [Decidable p] [Decidable q] (h : p ↔ q) : b01 p = b01 q := by unfold b01; by_cases hp : p <;> simp [hp, ← h]
theorem ok2 {v : Value} {w : Wd} {x : Value} (h : v = x) : some v = some x ∧ w = w := ⟨congrArg some h, rfl⟩
theorem ok2i {w : Wd} {x y : Int32} (h : x = y) : some (Value.int x) = some (.int y) ∧ w = w := ⟨congrArg (fun z => some (Value.int z)) h, rfl⟩
theorem ok2l {w : Wd} {x y : Int64} (h : x = y) : some (Value.long x) = some (.long y) ∧ w = w := ⟨congrArg (fun z => some (Value.long z)) h, rfl⟩

set_option maxRecDepth 100000 in
theorem c_X8_isIn (a b c : Int64) (w : Wd) : Cc yX8_isIn mX8_isIn [.long a, .long b, .long c] w (fun r w' => r = some (.int (b01 (inL a b c))) ∧ w' = w) := by
  refine Cc.of (by decide) rfl rfl (Nat.le_of_ble_eq_true rfl) (fun X => ?_)
  change V _ X _ 0 [(0, _), (2, _), (4, _)] [] _ (0, 0)
  refine V_lload_n dX8_isIn_0 rfl rfl ?_
  refine V_lload_n dX8_isIn_1 rfl rfl ?_
  refine V_lcmp_lt (tgt := 17) dX8_isIn_2 dX8_isIn_3 (by decide) (fun c2 => ?_) (fun c2 => ?_)
  · refine V_iconst (v := 0) dX8_isIn_17 (by decide) ?_
    refine V_zret rfl dX8_isIn_18 (Nat.le_of_ble_eq_true rfl) (Nat.le_of_ble_eq_true rfl) rfl ?_
    refine ok2i ?_
    simp only [Int64.lt_iff_toInt_lt] at *
    first | exact (b01_t (by unfold inL; omega)).symm | exact (b01_f (by unfold inL; omega)).symm
  · refine V_lload_n dX8_isIn_6 rfl rfl ?_
    refine V_lload dX8_isIn_7 rfl ?_
    refine V_lcmp_gt (tgt := 17) dX8_isIn_9 dX8_isIn_10 (by decide) (fun c9 => ?_) (fun c9 => ?_)
    · refine V_iconst (v := 0) dX8_isIn_17 (by decide) ?_
      refine V_zret rfl dX8_isIn_18 (Nat.le_of_ble_eq_true rfl) (Nat.le_of_ble_eq_true rfl) rfl ?_
      refine ok2i ?_
      simp only [Int64.lt_iff_toInt_lt] at *
      first | exact (b01_t (by unfold inL; omega)).symm | exact (b01_f (by unfold inL; omega)).symm
    · refine V_iconst (v := 1) dX8_isIn_13 (by decide) ?_
      refine V_goto (tgt := 18) dX8_isIn_14 (by decide) ?_
      refine V_zret rfl dX8_isIn_18 (Nat.le_of_ble_eq_true rfl) (Nat.le_of_ble_eq_true rfl) rfl ?_
      refine ok2i ?_
      simp only [Int64.lt_iff_toInt_lt] at *
      first | exact (b01_t (by unfold inL; omega)).symm | exact (b01_f (by unfold inL; omega)).symm

set_option maxRecDepth 100000 in
theorem c_X9_in (a b c : Int64) (w : Wd) : Cc yX9_in mX9_in [.long a, .long b, .long c] w (fun r w' => r = some (.int (b01 (inL a b c))) ∧ w' = w) := by
  refine Cc.of (by decide) rfl rfl (Nat.le_of_ble_eq_true rfl) (fun X => ?_)
  change V _ X _ 0 [(0, _), (2, _), (4, _)] [] _ (0, 0)
  refine V_lload_n dX9_in_0 rfl rfl ?_
  refine V_lload_n dX9_in_1 rfl rfl ?_
  refine V_lcmp_lt (tgt := 17) dX9_in_2 dX9_in_3 (by decide) (fun c2 => ?_) (fun c2 => ?_)
  · refine V_iconst (v := 0) dX9_in_17 (by decide) ?_
    refine V_zret rfl dX9_in_18 (Nat.le_of_ble_eq_true rfl) (Nat.le_of_ble_eq_true rfl) rfl ?_
    refine ok2i ?_
    simp only [Int64.lt_iff_toInt_lt] at *
    first | exact (b01_t (by unfold inL; omega)).symm | exact (b01_f (by unfold inL; omega)).symm
  · refine V_lload_n dX9_in_6 rfl rfl ?_
    refine V_lload dX9_in_7 rfl ?_
    refine V_lcmp_gt (tgt := 17) dX9_in_9 dX9_in_10 (by decide) (fun c9 => ?_) (fun c9 => ?_)
    · refine V_iconst (v := 0) dX9_in_17 (by decide) ?_
      refine V_zret rfl dX9_in_18 (Nat.le_of_ble_eq_true rfl) (Nat.le_of_ble_eq_true rfl) rfl ?_
      refine ok2i ?_
      simp only [Int64.lt_iff_toInt_lt] at *
      first | exact (b01_t (by unfold inL; omega)).symm | exact (b01_f (by unfold inL; omega)).symm
    · refine V_iconst (v := 1) dX9_in_13 (by decide) ?_
      refine V_goto (tgt := 18) dX9_in_14 (by decide) ?_
      refine V_zret rfl dX9_in_18 (Nat.le_of_ble_eq_true rfl) (Nat.le_of_ble_eq_true rfl) rfl ?_
      refine ok2i ?_
      simp only [Int64.lt_iff_toInt_lt] at *
      first | exact (b01_t (by unfold inL; omega)).symm | exact (b01_f (by unfold inL; omega)).symm

set_option maxRecDepth 100000 in
theorem c_J9_floorMod_7cf53 (x : Int32) (w : Wd) : Cc yJ9_floorMod_7cf53 mJ9_floorMod_7cf53 [.int x, .int 36] w (fun r w' => r = some (.int (nI (rN x))) ∧ w' = w) := by
  refine Cc.ofF (by decide +kernel) rfl rfl (Nat.le_of_ble_eq_true rfl) (fun X => ?_)
  change V _ X _ 0 [(0, _), (1, _)] [] _ (0, 0)
  refine V_iload_n dJ9_floorMod_7cf53_0 rfl rfl ?_
  refine V_iload_n dJ9_floorMod_7cf53_1 rfl rfl ?_
  refine V_irem dJ9_floorMod_7cf53_2 (by decide) ?_
  refine S_istore_n (L' := [(0, _), (1, _), (2, _)]) dJ9_floorMod_7cf53_3 rfl rfl rfl ?_
  refine V_iload_n dJ9_floorMod_7cf53_4 rfl rfl ?_
  refine V_iload_n dJ9_floorMod_7cf53_5 rfl rfl ?_
  refine V_ixor dJ9_floorMod_7cf53_6 ?_
  refine V_if_ge (tgt := 18) dJ9_floorMod_7cf53_7 (by decide) (fun c7 => ?_) (fun c7 => ?_)
  · refine V_iload_n dJ9_floorMod_7cf53_18 rfl rfl ?_
    refine V_iret rfl dJ9_floorMod_7cf53_19 (Nat.le_of_ble_eq_true rfl) (Nat.le_of_ble_eq_true rfl) ?_
    refine ok2i ?_
    first | exact rN_pos (tm_pos ((fm_sgn x).mp c7)) | exact rN_pos (by rw [rem_0 c11]; decide) | exact rN_neg (tm_neg (Classical.not_not.mp fun q => c7 ((fm_sgn x).mpr q)) (fun q => c11 (Int32.toInt_inj.mp (by rw [rem36, q]; rfl))))
  · refine V_iload_n dJ9_floorMod_7cf53_10 rfl rfl ?_
    refine V_if_eq (tgt := 18) dJ9_floorMod_7cf53_11 (by decide) (fun c11 => ?_) (fun c11 => ?_)
    · refine V_iload_n dJ9_floorMod_7cf53_18 rfl rfl ?_
      refine V_iret rfl dJ9_floorMod_7cf53_19 (Nat.le_of_ble_eq_true rfl) (Nat.le_of_ble_eq_true rfl) ?_
      refine ok2i ?_
      first | exact rN_pos (tm_pos ((fm_sgn x).mp c7)) | exact rN_pos (by rw [rem_0 c11]; decide) | exact rN_neg (tm_neg (Classical.not_not.mp fun q => c7 ((fm_sgn x).mpr q)) (fun q => c11 (Int32.toInt_inj.mp (by rw [rem36, q]; rfl))))
    · refine V_iload_n dJ9_floorMod_7cf53_14 rfl rfl ?_
      refine V_iload_n dJ9_floorMod_7cf53_15 rfl rfl ?_
      refine V_iadd dJ9_floorMod_7cf53_16 ?_
      refine V_iret rfl dJ9_floorMod_7cf53_17 (Nat.le_of_ble_eq_true rfl) (Nat.le_of_ble_eq_true rfl) ?_
      refine ok2i ?_
      first | exact rN_pos (tm_pos ((fm_sgn x).mp c7)) | exact rN_pos (by rw [rem_0 c11]; decide) | exact rN_neg (tm_neg (Classical.not_not.mp fun q => c7 ((fm_sgn x).mpr q)) (fun q => c11 (Int32.toInt_inj.mp (by rw [rem36, q]; rfl))))

set_option maxRecDepth 100000 in
theorem c_X7_normal (x : Int32) (w : Wd) : Cc yX7_normal mX7_normal [.int x] w (fun r w' => r = some (.int (nI (rN x))) ∧ w' = w) := by
  refine Cc.of (by decide) rfl rfl (Nat.le_of_ble_eq_true rfl) (fun X => ?_)
  change V _ X _ 0 [(0, _)] [] _ (0, 0)
  refine V_iload_n dX7_normal_0 rfl rfl ?_
  refine V_bipush (v := 36) dX7_normal_1 (by decide) ?_
  refine V_callS (As := [_, _]) (st := _) (c_J9_floorMod_7cf53 _ _) kX7_9 ⟨rfl, rfl, rfl⟩ ⟨(Nat.le_of_ble_eq_true rfl), (Nat.le_of_ble_eq_true rfl)⟩ dX7_normal_3 rfl rfl (Nat.le_of_ble_eq_true rfl) ⟨(Nat.le_of_ble_eq_true rfl), (Nat.le_of_ble_eq_true rfl)⟩ ?_
  refine V_iret rfl dX7_normal_6 (Nat.le_of_ble_eq_true rfl) (Nat.le_of_ble_eq_true rfl) ?_
  exact ok2i rfl

set_option maxRecDepth 100000 in
theorem c_X7_cosine (x : Int32) (w : Wd) : Cc yX7_cosine mX7_cosine [.int x] w (fun r w' => r = some (.int (cosF (rN x))) ∧ w' = w) := by
  refine Cc.of (by decide) rfl rfl (Nat.le_of_ble_eq_true rfl) (fun X => ?_)
  change V _ X _ 0 [(0, _)] [] _ (0, 0)
  refine V_cos fsX7_15 dX7_cosine_0 ?_
  refine V_iload_n dX7_cosine_3 rfl rfl ?_
  refine V_bipush (v := 36) dX7_cosine_4 (by decide) ?_
  refine V_callS (As := [_, _]) (st := _) (c_J9_floorMod_7cf53 _ _) kX7_9 ⟨rfl, rfl, rfl⟩ ⟨(Nat.le_of_ble_eq_true rfl), (Nat.le_of_ble_eq_true rfl)⟩ dX7_cosine_6 rfl rfl (Nat.le_of_ble_eq_true rfl) ⟨(Nat.le_of_ble_eq_true rfl), (Nat.le_of_ble_eq_true rfl)⟩ ?_
  refine V_cosld (by exact vp_in_nI (rN_lt _) (by decide)) dX7_cosine_9 ?_
  refine V_iret rfl dX7_cosine_10 (Nat.le_of_ble_eq_true rfl) (Nat.le_of_ble_eq_true rfl) ?_
  exact ok2i (by rw [nI_clamp (Nat.lt_trans (rN_lt _) (by decide))])

set_option maxRecDepth 100000 in
theorem c_X7_sine (x : Int32) (w : Wd) : Cc yX7_sine mX7_sine [.int x] w (fun r w' => r = some (.int (cosF (rN (x - 9)))) ∧ w' = w) := by
  refine Cc.of (by decide) rfl rfl (Nat.le_of_ble_eq_true rfl) (fun X => ?_)
  change V _ X _ 0 [(0, _)] [] _ (0, 0)
  refine V_cos fsX7_15 dX7_sine_0 ?_
  refine V_iload_n dX7_sine_3 rfl rfl ?_
  refine V_bipush (v := 9) dX7_sine_4 (by decide) ?_
  refine V_isub dX7_sine_6 ?_
  refine V_bipush (v := 36) dX7_sine_7 (by decide) ?_
  refine V_callS (As := [_, _]) (st := _) (c_J9_floorMod_7cf53 _ _) kX7_9 ⟨rfl, rfl, rfl⟩ ⟨(Nat.le_of_ble_eq_true rfl), (Nat.le_of_ble_eq_true rfl)⟩ dX7_sine_9 rfl rfl (Nat.le_of_ble_eq_true rfl) ⟨(Nat.le_of_ble_eq_true rfl), (Nat.le_of_ble_eq_true rfl)⟩ ?_
  refine V_cosld (by exact vp_in_nI (rN_lt _) (by decide)) dX7_sine_12 ?_
  refine V_iret rfl dX7_sine_13 (Nat.le_of_ble_eq_true rfl) (Nat.le_of_ble_eq_true rfl) ?_
  exact ok2i (by rw [nI_clamp (Nat.lt_trans (rN_lt _) (by decide))])

set_option maxRecDepth 100000 in
theorem c_X7_distance (a b : Int32) (w : Wd) : Cc yX7_distance mX7_distance [.int a, .int b] w (fun r w' => r = some (.int (tDist a b)) ∧ w' = w) := by
  refine Cc.of (by decide) rfl rfl (Nat.le_of_ble_eq_true rfl) (fun X => ?_)
  change V _ X _ 0 [(0, _), (1, _)] [] _ (0, 0)
  refine V_iload_n dX7_distance_0 rfl rfl ?_
  refine V_iload_n dX7_distance_1 rfl rfl ?_
  refine V_icmp_ge (tgt := 11) dX7_distance_2 (by decide) (fun c2 => ?_) (fun c2 => ?_)
  · refine V_iload_n dX7_distance_11 rfl rfl ?_
    refine V_iload_n dX7_distance_12 rfl rfl ?_
    refine V_isub dX7_distance_13 ?_
    refine S_istore_n (L' := [(2, _)]) dX7_distance_14 rfl rfl rfl ?_
    refine V_iload_n dX7_distance_15 rfl rfl ?_
    refine V_bipush (v := 18) dX7_distance_16 (by decide) ?_
    refine V_icmp_le (tgt := 28) dX7_distance_18 (by decide) (fun c18 => ?_) (fun c18 => ?_)
    · refine V_iload_n dX7_distance_28 rfl rfl ?_
      refine V_iret rfl dX7_distance_29 (Nat.le_of_ble_eq_true rfl) (Nat.le_of_ble_eq_true rfl) ?_
      refine ok2i ?_
      unfold tDist; (repeat' split) <;> first | rfl | (exfalso; simp only [Int32.le_iff_toInt_le, Int32.lt_iff_toInt_lt] at *; omega)
    · refine V_bipush (v := 36) dX7_distance_21 (by decide) ?_
      refine V_iload_n dX7_distance_23 rfl rfl ?_
      refine V_isub dX7_distance_24 ?_
      refine V_goto (tgt := 29) dX7_distance_25 (by decide) ?_
      refine V_iret rfl dX7_distance_29 (Nat.le_of_ble_eq_true rfl) (Nat.le_of_ble_eq_true rfl) ?_
      refine ok2i ?_
      unfold tDist; (repeat' split) <;> first | rfl | (exfalso; simp only [Int32.le_iff_toInt_le, Int32.lt_iff_toInt_lt] at *; omega)
  · refine V_iload_n dX7_distance_5 rfl rfl ?_
    refine V_iload_n dX7_distance_6 rfl rfl ?_
    refine V_isub dX7_distance_7 ?_
    refine V_goto (tgt := 14) dX7_distance_8 (by decide) ?_
    refine S_istore_n (L' := [(2, _)]) dX7_distance_14 rfl rfl rfl ?_
    refine V_iload_n dX7_distance_15 rfl rfl ?_
    refine V_bipush (v := 18) dX7_distance_16 (by decide) ?_
    refine V_icmp_le (tgt := 28) dX7_distance_18 (by decide) (fun c18 => ?_) (fun c18 => ?_)
    · refine V_iload_n dX7_distance_28 rfl rfl ?_
      refine V_iret rfl dX7_distance_29 (Nat.le_of_ble_eq_true rfl) (Nat.le_of_ble_eq_true rfl) ?_
      refine ok2i ?_
      unfold tDist; (repeat' split) <;> first | rfl | (exfalso; simp only [Int32.le_iff_toInt_le, Int32.lt_iff_toInt_lt] at *; omega)
    · refine V_bipush (v := 36) dX7_distance_21 (by decide) ?_
      refine V_iload_n dX7_distance_23 rfl rfl ?_
      refine V_isub dX7_distance_24 ?_
      refine V_goto (tgt := 29) dX7_distance_25 (by decide) ?_
      refine V_iret rfl dX7_distance_29 (Nat.le_of_ble_eq_true rfl) (Nat.le_of_ble_eq_true rfl) ?_
      refine ok2i ?_
      unfold tDist; (repeat' split) <;> first | rfl | (exfalso; simp only [Int32.le_iff_toInt_le, Int32.lt_iff_toInt_lt] at *; omega)

set_option maxRecDepth 100000 in
theorem c_X7_shortWay (a b : Int32) (w : Wd) : Cc yX7_shortWay mX7_shortWay [.int a, .int b] w (fun r w' => r = some (.int (tShort a b)) ∧ w' = w) := by
  refine Cc.of (by decide) rfl rfl (Nat.le_of_ble_eq_true rfl) (fun X => ?_)
  change V _ X _ 0 [(0, _), (1, _)] [] _ (0, 0)
  refine V_iload_n dX7_shortWay_0 rfl rfl ?_
  refine V_iload_n dX7_shortWay_1 rfl rfl ?_
  refine V_isub dX7_shortWay_2 ?_
  refine S_istore_n (L' := [(2, _)]) dX7_shortWay_3 rfl rfl rfl ?_
  refine V_iload_n dX7_shortWay_4 rfl rfl ?_
  refine V_bipush (v := 18) dX7_shortWay_5 (by decide) ?_
  refine V_icmp_le (tgt := 17) dX7_shortWay_7 (by decide) (fun c7 => ?_) (fun c7 => ?_)
  · refine V_iload_n dX7_shortWay_17 rfl rfl ?_
    refine V_bipush (v := -18) dX7_shortWay_18 (by decide) ?_
    refine V_icmp_gt (tgt := 30) dX7_shortWay_20 (by decide) (fun c20 => ?_) (fun c20 => ?_)
    · refine V_iload_n dX7_shortWay_30 rfl rfl ?_
      refine V_iret rfl dX7_shortWay_31 (Nat.le_of_ble_eq_true rfl) (Nat.le_of_ble_eq_true rfl) ?_
      refine ok2i ?_
      unfold tShort; (repeat' split) <;> first | rfl | (exfalso; simp only [Int32.le_iff_toInt_le, Int32.lt_iff_toInt_lt] at *; omega)
    · refine V_iload_n dX7_shortWay_23 rfl rfl ?_
      refine V_bipush (v := 36) dX7_shortWay_24 (by decide) ?_
      refine V_iadd dX7_shortWay_26 ?_
      refine V_goto (tgt := 31) dX7_shortWay_27 (by decide) ?_
      refine V_iret rfl dX7_shortWay_31 (Nat.le_of_ble_eq_true rfl) (Nat.le_of_ble_eq_true rfl) ?_
      refine ok2i ?_
      unfold tShort; (repeat' split) <;> first | rfl | (exfalso; simp only [Int32.le_iff_toInt_le, Int32.lt_iff_toInt_lt] at *; omega)
  · refine V_iload_n dX7_shortWay_10 rfl rfl ?_
    refine V_bipush (v := 36) dX7_shortWay_11 (by decide) ?_
    refine V_isub dX7_shortWay_13 ?_
    refine V_goto (tgt := 31) dX7_shortWay_14 (by decide) ?_
    refine V_iret rfl dX7_shortWay_31 (Nat.le_of_ble_eq_true rfl) (Nat.le_of_ble_eq_true rfl) ?_
    refine ok2i ?_
    unfold tShort; (repeat' split) <;> first | rfl | (exfalso; simp only [Int32.le_iff_toInt_le, Int32.lt_iff_toInt_lt] at *; omega)

set_option maxRecDepth 100000 in
theorem c_X9_round (x : Int32) (w : Wd) : Cc yX9_round mX9_round [.int x] w (fun r w' => r = some (.int (nI (rN x))) ∧ w' = w) := by
  refine Cc.of (by decide) rfl rfl (Nat.le_of_ble_eq_true rfl) (fun X => ?_)
  change V _ X _ 0 [(0, _)] [] _ (0, 0)
  refine V_iload_n dX9_round_0 rfl rfl ?_
  refine V_bipush (v := 36) dX9_round_1 (by decide) ?_
  refine V_irem dX9_round_3 (by decide) ?_
  refine S_istore_n (L' := [(1, _)]) dX9_round_4 rfl rfl rfl ?_
  refine V_iload_n dX9_round_5 rfl rfl ?_
  refine V_if_ge (tgt := 16) dX9_round_6 (by decide) (fun c6 => ?_) (fun c6 => ?_)
  · refine V_iload_n dX9_round_16 rfl rfl ?_
    refine V_iret rfl dX9_round_17 (Nat.le_of_ble_eq_true rfl) (Nat.le_of_ble_eq_true rfl) ?_
    refine ok2i ?_
    first | exact rN_pos (Int.not_lt.mp fun q => c6 (rem_lt.mpr q)) | exact rN_pos (by rw [← rem36]; exact Int32.le_iff_toInt_le.mp c6) | exact rN_neg (rem_lt.mp (by first | exact c6 | exact Int32.not_le.mp c6))
  · refine V_iload_n dX9_round_9 rfl rfl ?_
    refine V_bipush (v := 36) dX9_round_10 (by decide) ?_
    refine V_iadd dX9_round_12 ?_
    refine V_goto (tgt := 17) dX9_round_13 (by decide) ?_
    refine V_iret rfl dX9_round_17 (Nat.le_of_ble_eq_true rfl) (Nat.le_of_ble_eq_true rfl) ?_
    refine ok2i ?_
    first | exact rN_pos (Int.not_lt.mp fun q => c6 (rem_lt.mpr q)) | exact rN_pos (by rw [← rem36]; exact Int32.le_iff_toInt_le.mp c6) | exact rN_neg (rem_lt.mp (by first | exact c6 | exact Int32.not_le.mp c6))

set_option maxRecDepth 100000 in
theorem c_X9_shortWay (a b : Int32) (w : Wd) : Cc yX9_shortWay mX9_shortWay [.int a, .int b] w (fun r w' => r = some (.int (mShort a b)) ∧ w' = w) := by
  refine Cc.of (by decide) rfl rfl (Nat.le_of_ble_eq_true rfl) (fun X => ?_)
  change V _ X _ 0 [(0, _), (1, _)] [] _ (0, 0)
  refine V_iload_n dX9_shortWay_0 rfl rfl ?_
  refine V_iload_n dX9_shortWay_1 rfl rfl ?_
  refine V_isub dX9_shortWay_2 ?_
  refine V_callS (As := [_]) (st := _) (c_X9_round _ _) kX9_96 ⟨rfl, rfl, rfl⟩ ⟨(Nat.le_of_ble_eq_true rfl), (Nat.le_of_ble_eq_true rfl)⟩ dX9_shortWay_3 rfl rfl (Nat.le_of_ble_eq_true rfl) ⟨(Nat.le_of_ble_eq_true rfl), (Nat.le_of_ble_eq_true rfl)⟩ ?_
  refine S_istore_n (L' := [(2, _)]) dX9_shortWay_6 rfl rfl rfl ?_
  refine V_iload_n dX9_shortWay_7 rfl rfl ?_
  refine V_bipush (v := 18) dX9_shortWay_8 (by decide) ?_
  refine V_icmp_le (tgt := 20) dX9_shortWay_10 (by decide) (fun c10 => ?_) (fun c10 => ?_)
  · refine V_iload_n dX9_shortWay_20 rfl rfl ?_
    refine V_iret rfl dX9_shortWay_21 (Nat.le_of_ble_eq_true rfl) (Nat.le_of_ble_eq_true rfl) ?_
    refine ok2i ?_
    unfold mShort; (repeat' split) <;> first | rfl | (exfalso; simp only [Int32.le_iff_toInt_le, Int32.lt_iff_toInt_lt] at *; omega)
  · refine V_iload_n dX9_shortWay_13 rfl rfl ?_
    refine V_bipush (v := 36) dX9_shortWay_14 (by decide) ?_
    refine V_isub dX9_shortWay_16 ?_
    refine V_goto (tgt := 21) dX9_shortWay_17 (by decide) ?_
    refine V_iret rfl dX9_shortWay_21 (Nat.le_of_ble_eq_true rfl) (Nat.le_of_ble_eq_true rfl) ?_
    refine ok2i ?_
    unfold mShort; (repeat' split) <;> first | rfl | (exfalso; simp only [Int32.le_iff_toInt_le, Int32.lt_iff_toInt_lt] at *; omega)

set_option maxRecDepth 100000 in
theorem c_X9_amount (a : Int32) (w : Wd) : Cc yX9_amount mX9_amount [.int a] w (fun r w' => r = some (.int (mAmt a)) ∧ w' = w) := by
  refine Cc.of (by decide) rfl rfl (Nat.le_of_ble_eq_true rfl) (fun X => ?_)
  change V _ X _ 0 [(0, _)] [] _ (0, 0)
  refine V_iload_n dX9_amount_0 rfl rfl ?_
  refine V_if_ge (tgt := 9) dX9_amount_1 (by decide) (fun c1 => ?_) (fun c1 => ?_)
  · refine V_iload_n dX9_amount_9 rfl rfl ?_
    refine V_iret rfl dX9_amount_10 (Nat.le_of_ble_eq_true rfl) (Nat.le_of_ble_eq_true rfl) ?_
    refine ok2i ?_
    unfold mAmt; (repeat' split) <;> first | rfl | (exfalso; simp only [Int32.le_iff_toInt_le, Int32.lt_iff_toInt_lt] at *; omega)
  · refine V_iload_n dX9_amount_4 rfl rfl ?_
    refine V_ineg dX9_amount_5 ?_
    refine V_goto (tgt := 10) dX9_amount_6 (by decide) ?_
    refine V_iret rfl dX9_amount_10 (Nat.le_of_ble_eq_true rfl) (Nat.le_of_ble_eq_true rfl) ?_
    refine ok2i ?_
    unfold mAmt; (repeat' split) <;> first | rfl | (exfalso; simp only [Int32.le_iff_toInt_le, Int32.lt_iff_toInt_lt] at *; omega)

set_option maxRecDepth 100000 in
theorem c_X9_spot (a b : Int32) (w : Wd) : Cc yX9_spot mX9_spot [.int a, .int b] w (fun r w' => r = some (.int (300 * a + 10 * b)) ∧ w' = w) := by
  refine Cc.of (by decide) rfl rfl (Nat.le_of_ble_eq_true rfl) (fun X => ?_)
  change V _ X _ 0 [(0, _), (1, _)] [] _ (0, 0)
  refine V_sipush (v := 300) dX9_spot_0 (by decide) ?_
  refine V_iload_n dX9_spot_3 rfl rfl ?_
  refine V_imul dX9_spot_4 ?_
  refine V_bipush (v := 10) dX9_spot_5 (by decide) ?_
  refine V_iload_n dX9_spot_7 rfl rfl ?_
  refine V_imul dX9_spot_8 ?_
  refine V_iadd dX9_spot_9 ?_
  refine V_iret rfl dX9_spot_10 (Nat.le_of_ble_eq_true rfl) (Nat.le_of_ble_eq_true rfl) ?_
  exact ok2i rfl

set_option maxRecDepth 100000 in
theorem c_X8_asLong (a : Int32) (w : Wd) : Cc yX8_asLong mX8_asLong [.int a] w (fun r w' => r = some (.long (-9223372036854775808 - a.toInt64)) ∧ w' = w) := by
  refine Cc.of (by decide) rfl rfl (Nat.le_of_ble_eq_true rfl) (fun X => ?_)
  change V _ X _ 0 [(0, _)] [] _ (0, 0)
  refine V_ldc2 ctX8_293 dX8_asLong_0 ?_
  refine V_iload_n dX8_asLong_3 rfl rfl ?_
  refine V_i2l dX8_asLong_4 ?_
  refine V_lsub dX8_asLong_5 ?_
  refine V_lret rfl dX8_asLong_6 (Nat.le_of_ble_eq_true rfl) (Nat.le_of_ble_eq_true rfl) ?_
  exact ok2l rfl

set_option maxRecDepth 100000 in
theorem c_X9_no (a : Int32) (w : Wd) : Cc yX9_no mX9_no [.int a] w (fun r w' => r = some (.long (-9223372036854775808 - a.toInt64)) ∧ w' = w) := by
  refine Cc.of (by decide) rfl rfl (Nat.le_of_ble_eq_true rfl) (fun X => ?_)
  change V _ X _ 0 [(0, _)] [] _ (0, 0)
  refine V_ldc2 ctX9_94 dX9_no_0 ?_
  refine V_iload_n dX9_no_3 rfl rfl ?_
  refine V_i2l dX9_no_4 ?_
  refine V_lsub dX9_no_5 ?_
  refine V_lret rfl dX9_no_6 (Nat.le_of_ble_eq_true rfl) (Nat.le_of_ble_eq_true rfl) ?_
  exact ok2l rfl

set_option maxRecDepth 100000 in
theorem c_X8_isTurn (a : Int32) (w : Wd) : Cc yX8_isTurn mX8_isTurn [.int a] w (fun r w' => r = some (.int (b01 (0 ≤ a.toInt ∧ a.toInt ≤ 35))) ∧ w' = w) := by
  refine Cc.of (by decide) rfl rfl (Nat.le_of_ble_eq_true rfl) (fun X => ?_)
  change V _ X _ 0 [(0, _)] [] _ (0, 0)
  refine V_iload_n dX8_isTurn_0 rfl rfl ?_
  refine V_i2l dX8_isTurn_1 ?_
  refine V_lconst (v := 0) dX8_isTurn_2 (by decide) ?_
  refine V_ldc2 ctX8_285 dX8_isTurn_3 ?_
  refine V_callS (As := [_, _, _]) (st := _) (c_X8_isIn _ _ _ _) kX8_54 ⟨rfl, rfl, rfl⟩ ⟨(Nat.le_of_ble_eq_true rfl), (Nat.le_of_ble_eq_true rfl)⟩ dX8_isTurn_6 rfl rfl (Nat.le_of_ble_eq_true rfl) ⟨(Nat.le_of_ble_eq_true rfl), (Nat.le_of_ble_eq_true rfl)⟩ ?_
  refine V_zret rfl dX8_isTurn_9 (Nat.le_of_ble_eq_true rfl) (Nat.le_of_ble_eq_true rfl) (b01_nar _) ?_
  exact ok2i (b01_c (by unfold inL; rw [Int32.toInt_toInt64]; exact Iff.rfl))

set_option maxRecDepth 100000 in
theorem c_X8_isForm (a : Int32) (w : Wd) : Cc yX8_isForm mX8_isForm [.int a] w (fun r w' => r = some (.int (b01 (0 ≤ a.toInt ∧ a.toInt ≤ 2))) ∧ w' = w) := by
  refine Cc.of (by decide) rfl rfl (Nat.le_of_ble_eq_true rfl) (fun X => ?_)
  change V _ X _ 0 [(0, _)] [] _ (0, 0)
  refine V_iload_n dX8_isForm_0 rfl rfl ?_
  refine V_i2l dX8_isForm_1 ?_
  refine V_lconst (v := 0) dX8_isForm_2 (by decide) ?_
  refine V_ldc2 ctX8_291 dX8_isForm_3 ?_
  refine V_callS (As := [_, _, _]) (st := _) (c_X8_isIn _ _ _ _) kX8_54 ⟨rfl, rfl, rfl⟩ ⟨(Nat.le_of_ble_eq_true rfl), (Nat.le_of_ble_eq_true rfl)⟩ dX8_isForm_6 rfl rfl (Nat.le_of_ble_eq_true rfl) ⟨(Nat.le_of_ble_eq_true rfl), (Nat.le_of_ble_eq_true rfl)⟩ ?_
  refine V_zret rfl dX8_isForm_9 (Nat.le_of_ble_eq_true rfl) (Nat.le_of_ble_eq_true rfl) (b01_nar _) ?_
  exact ok2i (b01_c (by unfold inL; rw [Int32.toInt_toInt64]; exact Iff.rfl))

set_option maxRecDepth 100000 in
theorem c_X9_isClip (a : Int32) (w : Wd) : Cc yX9_isClip mX9_isClip [.int a] w (fun r w' => r = some (.int (b01 (0 ≤ a.toInt ∧ a.toInt ≤ 5))) ∧ w' = w) := by
  refine Cc.of (by decide) rfl rfl (Nat.le_of_ble_eq_true rfl) (fun X => ?_)
  change V _ X _ 0 [(0, _)] [] _ (0, 0)
  refine V_iload_n dX9_isClip_0 rfl rfl ?_
  refine V_i2l dX9_isClip_1 ?_
  refine V_lconst (v := 0) dX9_isClip_2 (by decide) ?_
  refine V_ldc2 ctX9_176 dX9_isClip_3 ?_
  refine V_callS (As := [_, _, _]) (st := _) (c_X9_in _ _ _ _) kX9_114 ⟨rfl, rfl, rfl⟩ ⟨(Nat.le_of_ble_eq_true rfl), (Nat.le_of_ble_eq_true rfl)⟩ dX9_isClip_6 rfl rfl (Nat.le_of_ble_eq_true rfl) ⟨(Nat.le_of_ble_eq_true rfl), (Nat.le_of_ble_eq_true rfl)⟩ ?_
  refine V_zret rfl dX9_isClip_9 (Nat.le_of_ble_eq_true rfl) (Nat.le_of_ble_eq_true rfl) (b01_nar _) ?_
  exact ok2i (b01_c (by unfold inL; rw [Int32.toInt_toInt64]; exact Iff.rfl))

set_option maxRecDepth 100000 in
theorem c_X9_isSheet (a : Int32) (w : Wd) : Cc yX9_isSheet mX9_isSheet [.int a] w (fun r w' => r = some (.int (b01 (0 ≤ a.toInt ∧ a.toInt ≤ 3))) ∧ w' = w) := by
  refine Cc.of (by decide) rfl rfl (Nat.le_of_ble_eq_true rfl) (fun X => ?_)
  change V _ X _ 0 [(0, _)] [] _ (0, 0)
  refine V_iload_n dX9_isSheet_0 rfl rfl ?_
  refine V_i2l dX9_isSheet_1 ?_
  refine V_lconst (v := 0) dX9_isSheet_2 (by decide) ?_
  refine V_ldc2 ctX9_231 dX9_isSheet_3 ?_
  refine V_callS (As := [_, _, _]) (st := _) (c_X9_in _ _ _ _) kX9_114 ⟨rfl, rfl, rfl⟩ ⟨(Nat.le_of_ble_eq_true rfl), (Nat.le_of_ble_eq_true rfl)⟩ dX9_isSheet_6 rfl rfl (Nat.le_of_ble_eq_true rfl) ⟨(Nat.le_of_ble_eq_true rfl), (Nat.le_of_ble_eq_true rfl)⟩ ?_
  refine V_zret rfl dX9_isSheet_9 (Nat.le_of_ble_eq_true rfl) (Nat.le_of_ble_eq_true rfl) (b01_nar _) ?_
  exact ok2i (b01_c (by unfold inL; rw [Int32.toInt_toInt64]; exact Iff.rfl))

set_option maxRecDepth 100000 in
theorem c_X8_isPlace (a b : Int64) (w : Wd) : Cc yX8_isPlace mX8_isPlace [.long a, .long b] w (fun r w' => r = some (.int (b01 (plc a ∧ plc b))) ∧ w' = w) := by
  refine Cc.of (by decide) rfl rfl (Nat.le_of_ble_eq_true rfl) (fun X => ?_)
  change V _ X _ 0 [(0, _), (2, _)] [] _ (0, 0)
  refine V_lload_n dX8_isPlace_0 rfl rfl ?_
  refine V_ldc2 ctX8_287 dX8_isPlace_1 ?_
  refine V_ldc2 ctX8_289 dX8_isPlace_4 ?_
  refine V_callS (As := [_, _, _]) (st := _) (c_X8_isIn _ _ _ _) kX8_54 ⟨rfl, rfl, rfl⟩ ⟨(Nat.le_of_ble_eq_true rfl), (Nat.le_of_ble_eq_true rfl)⟩ dX8_isPlace_7 rfl rfl (Nat.le_of_ble_eq_true rfl) ⟨(Nat.le_of_ble_eq_true rfl), (Nat.le_of_ble_eq_true rfl)⟩ ?_
  refine V_if_eq (tgt := 30) dX8_isPlace_10 (by decide) (fun c10 => ?_) (fun c10 => ?_)
  · refine V_iconst (v := 0) dX8_isPlace_30 (by decide) ?_
    refine V_zret rfl dX8_isPlace_31 (Nat.le_of_ble_eq_true rfl) (Nat.le_of_ble_eq_true rfl) rfl ?_
    exact ok2i (by first | exact (b01_f (fun q => b01_0 (by assumption) q.1)).symm | exact (b01_f (fun q => b01_0 (by assumption) q.2)).symm | exact (b01_t ⟨b01_1 (by assumption), b01_1 (by assumption)⟩).symm)
  · refine V_lload_n dX8_isPlace_13 rfl rfl ?_
    refine V_ldc2 ctX8_287 dX8_isPlace_14 ?_
    refine V_ldc2 ctX8_289 dX8_isPlace_17 ?_
    refine V_callS (As := [_, _, _]) (st := _) (c_X8_isIn _ _ _ _) kX8_54 ⟨rfl, rfl, rfl⟩ ⟨(Nat.le_of_ble_eq_true rfl), (Nat.le_of_ble_eq_true rfl)⟩ dX8_isPlace_20 rfl rfl (Nat.le_of_ble_eq_true rfl) ⟨(Nat.le_of_ble_eq_true rfl), (Nat.le_of_ble_eq_true rfl)⟩ ?_
    refine V_if_eq (tgt := 30) dX8_isPlace_23 (by decide) (fun c23 => ?_) (fun c23 => ?_)
    · refine V_iconst (v := 0) dX8_isPlace_30 (by decide) ?_
      refine V_zret rfl dX8_isPlace_31 (Nat.le_of_ble_eq_true rfl) (Nat.le_of_ble_eq_true rfl) rfl ?_
      exact ok2i (by first | exact (b01_f (fun q => b01_0 (by assumption) q.1)).symm | exact (b01_f (fun q => b01_0 (by assumption) q.2)).symm | exact (b01_t ⟨b01_1 (by assumption), b01_1 (by assumption)⟩).symm)
    · refine V_iconst (v := 1) dX8_isPlace_26 (by decide) ?_
      refine V_goto (tgt := 31) dX8_isPlace_27 (by decide) ?_
      refine V_zret rfl dX8_isPlace_31 (Nat.le_of_ble_eq_true rfl) (Nat.le_of_ble_eq_true rfl) rfl ?_
      exact ok2i (by first | exact (b01_f (fun q => b01_0 (by assumption) q.1)).symm | exact (b01_f (fun q => b01_0 (by assumption) q.2)).symm | exact (b01_t ⟨b01_1 (by assumption), b01_1 (by assumption)⟩).symm)

set_option maxRecDepth 100000 in
theorem c_X9_isPlace (a b : Int64) (w : Wd) : Cc yX9_isPlace mX9_isPlace [.long a, .long b] w (fun r w' => r = some (.int (b01 (plc a ∧ plc b))) ∧ w' = w) := by
  refine Cc.of (by decide) rfl rfl (Nat.le_of_ble_eq_true rfl) (fun X => ?_)
  change V _ X _ 0 [(0, _), (2, _)] [] _ (0, 0)
  refine V_lload_n dX9_isPlace_0 rfl rfl ?_
  refine V_ldc2 ctX9_118 dX9_isPlace_1 ?_
  refine V_ldc2 ctX9_120 dX9_isPlace_4 ?_
  refine V_callS (As := [_, _, _]) (st := _) (c_X9_in _ _ _ _) kX9_114 ⟨rfl, rfl, rfl⟩ ⟨(Nat.le_of_ble_eq_true rfl), (Nat.le_of_ble_eq_true rfl)⟩ dX9_isPlace_7 rfl rfl (Nat.le_of_ble_eq_true rfl) ⟨(Nat.le_of_ble_eq_true rfl), (Nat.le_of_ble_eq_true rfl)⟩ ?_
  refine V_if_eq (tgt := 30) dX9_isPlace_10 (by decide) (fun c10 => ?_) (fun c10 => ?_)
  · refine V_iconst (v := 0) dX9_isPlace_30 (by decide) ?_
    refine V_zret rfl dX9_isPlace_31 (Nat.le_of_ble_eq_true rfl) (Nat.le_of_ble_eq_true rfl) rfl ?_
    exact ok2i (by first | exact (b01_f (fun q => b01_0 (by assumption) q.1)).symm | exact (b01_f (fun q => b01_0 (by assumption) q.2)).symm | exact (b01_t ⟨b01_1 (by assumption), b01_1 (by assumption)⟩).symm)
  · refine V_lload_n dX9_isPlace_13 rfl rfl ?_
    refine V_ldc2 ctX9_118 dX9_isPlace_14 ?_
    refine V_ldc2 ctX9_120 dX9_isPlace_17 ?_
    refine V_callS (As := [_, _, _]) (st := _) (c_X9_in _ _ _ _) kX9_114 ⟨rfl, rfl, rfl⟩ ⟨(Nat.le_of_ble_eq_true rfl), (Nat.le_of_ble_eq_true rfl)⟩ dX9_isPlace_20 rfl rfl (Nat.le_of_ble_eq_true rfl) ⟨(Nat.le_of_ble_eq_true rfl), (Nat.le_of_ble_eq_true rfl)⟩ ?_
    refine V_if_eq (tgt := 30) dX9_isPlace_23 (by decide) (fun c23 => ?_) (fun c23 => ?_)
    · refine V_iconst (v := 0) dX9_isPlace_30 (by decide) ?_
      refine V_zret rfl dX9_isPlace_31 (Nat.le_of_ble_eq_true rfl) (Nat.le_of_ble_eq_true rfl) rfl ?_
      exact ok2i (by first | exact (b01_f (fun q => b01_0 (by assumption) q.1)).symm | exact (b01_f (fun q => b01_0 (by assumption) q.2)).symm | exact (b01_t ⟨b01_1 (by assumption), b01_1 (by assumption)⟩).symm)
    · refine V_iconst (v := 1) dX9_isPlace_26 (by decide) ?_
      refine V_goto (tgt := 31) dX9_isPlace_27 (by decide) ?_
      refine V_zret rfl dX9_isPlace_31 (Nat.le_of_ble_eq_true rfl) (Nat.le_of_ble_eq_true rfl) rfl ?_
      exact ok2i (by first | exact (b01_f (fun q => b01_0 (by assumption) q.1)).symm | exact (b01_f (fun q => b01_0 (by assumption) q.2)).symm | exact (b01_t ⟨b01_1 (by assumption), b01_1 (by assumption)⟩).symm)
end
section
/-! THE STATE: names of the class's cells and of the reference's, layouts, the numbers that they hold -/
/-- the same cells, other numbers -/
def wS (w : Wd) (I : Nat → Nat → Int32) (J : Nat → Nat → Int64) : Wd := (wK w, wN w, I, J, wR w, wL w)
theorem wS_self (w : Wd) : wS w (wI w) (wJ w) = w := rfl
def kS (n : Nat) : Nat := if n = 20 then 8 else if n = 21 then 7 else if n = 22 then 3 else if n = 23 then 5 else if n = 24 then 4 else if n = 25 then 16 else if n = 26 then 14 else if n = 27 then 15 else if n = 28 then 11 else if n = 29 then 11 else if n = 30 then 11 else if n = 31 then 11 else if n = 32 then 11 else if n = 33 then 13 else 0
def nS (n : Nat) : Nat := if n = 25 then 4 else if n = 26 then 10 else if n = 27 then 6 else if n = 28 then 30 else 180
def rS (n k : Nat) : Option Nat := if n = 20 then some (21 + k) else if n = 21 then some 26 else if n = 22 then some 27 else if n = 23 then some 28 else if k = 2 then some 29 else if k = 4 then some 30 else some (25 + k)
def rSok (n k : Nat) : Bool := (n == 20 && Nat.blt k 5) || ((n == 21 || n == 22 || n == 23) && k == 0) || (n == 24 && (k == 2 || k == 4 || k == 6 || k == 7 || k == 8))
/-- the class's cells: one BoneSteps (20), its Skeleton 21, Clips 22, Packing 23, Graph 24, Sheet[] 25, Bone[] 26, Clip[] 27, keys 28, path 29, slots 30, costs 31, followers 32, settled 33; Clips 40.., their int[][] 50.., rows 100 and 30 c and f; Sheets 60.., items 70..; Bones 300.. -/
def LayX (w : Wd) : Prop :=
  (∀ n, 20 ≤ n → n < 34 → wK w n = kS n ∧ (25 ≤ n → wN w n = nS n)) ∧ (∀ n k, rSok n k = true → wR w n k = rS n k) ∧
  (∀ c, c < 6 → wK w (40 + c) = 2 ∧ wK w (50 + c) = 17 ∧ wN w (50 + c) = 30 ∧ wR w (40 + c) 0 = some (50 + c) ∧ wR w 27 c = some (40 + c) ∧ ∀ f, f < 30 → wK w (100 + (30 * c + f)) = 11 ∧ wN w (100 + (30 * c + f)) = 10 ∧ wR w (50 + c) f = some (100 + (30 * c + f))) ∧
  (∀ s, s < 4 → wK w (60 + s) = 6 ∧ wK w (70 + s) = 11 ∧ wN w (70 + s) = 60 ∧ wR w (60 + s) 0 = some (70 + s) ∧ wR w 25 s = some (60 + s))
theorem LayX.k {w : Wd} (h : LayX w) (n : Nat) (h1 : Nat.ble 20 n = true) (h2 : Nat.blt n 34 = true) : wK w n = kS n := (h.1 n (Nat.ble_eq.mp h1) (Nat.blt_eq.mp h2)).1
theorem LayX.n {w : Wd} (h : LayX w) (n : Nat) (h1 : Nat.ble 25 n = true) (h2 : Nat.blt n 34 = true) : wN w n = nS n := (h.1 n (by have := Nat.ble_eq.mp h1; omega) (Nat.blt_eq.mp h2)).2 (Nat.ble_eq.mp h1)
theorem LayX.r {w : Wd} (h : LayX w) (n k : Nat) (h1 : rSok n k = true) : wR w n k = rS n k := h.2.1 n k h1
theorem LayX.kc {w : Wd} (h : LayX w) {c : Nat} (hc : c < 6) : wK w (40 + c) = 2 := (h.2.2.1 c hc).1
theorem LayX.kf {w : Wd} (h : LayX w) {c : Nat} (hc : c < 6) : wK w (50 + c) = 17 := (h.2.2.1 c hc).2.1
theorem LayX.nf {w : Wd} (h : LayX w) {c : Nat} (hc : c < 6) : wN w (50 + c) = 30 := (h.2.2.1 c hc).2.2.1
theorem LayX.rf {w : Wd} (h : LayX w) {c : Nat} (hc : c < 6) : wR w (40 + c) 0 = some (50 + c) := (h.2.2.1 c hc).2.2.2.1
theorem LayX.rc {w : Wd} (h : LayX w) {c : Nat} (hc : c < 6) : wR w 27 c = some (40 + c) := (h.2.2.1 c hc).2.2.2.2.1
theorem LayX.kr {w : Wd} (h : LayX w) {c f : Nat} (hc : c < 6) (hf : f < 30) : wK w (100 + (30 * c + f)) = 11 := ((h.2.2.1 c hc).2.2.2.2.2 f hf).1
theorem LayX.nr {w : Wd} (h : LayX w) {c f : Nat} (hc : c < 6) (hf : f < 30) : wN w (100 + (30 * c + f)) = 10 := ((h.2.2.1 c hc).2.2.2.2.2 f hf).2.1
theorem LayX.rr {w : Wd} (h : LayX w) {c f : Nat} (hc : c < 6) (hf : f < 30) : wR w (50 + c) f = some (100 + (30 * c + f)) := ((h.2.2.1 c hc).2.2.2.2.2 f hf).2.2
theorem LayX.ks {w : Wd} (h : LayX w) {s : Nat} (hs : s < 4) : wK w (60 + s) = 6 := (h.2.2.2 s hs).1
theorem LayX.ki {w : Wd} (h : LayX w) {s : Nat} (hs : s < 4) : wK w (70 + s) = 11 := (h.2.2.2 s hs).2.1
theorem LayX.ni {w : Wd} (h : LayX w) {s : Nat} (hs : s < 4) : wN w (70 + s) = 60 := (h.2.2.2 s hs).2.2.1
theorem LayX.ri {w : Wd} (h : LayX w) {s : Nat} (hs : s < 4) : wR w (60 + s) 0 = some (70 + s) := (h.2.2.2 s hs).2.2.2.1
theorem LayX.rs {w : Wd} (h : LayX w) {s : Nat} (hs : s < 4) : wR w 25 s = some (60 + s) := (h.2.2.2 s hs).2.2.2.2
/-- the reference's cells: the object 400, the row in its field k at 401 and k -/
def kM (n : Nat) : Nat := if n = 400 then 9 else if n = 413 ∨ n = 414 ∨ n = 415 ∨ n = 416 then 12 else if n = 425 ∨ n = 427 then 13 else if n = 403 ∨ n = 410 ∨ n = 411 ∨ n = 412 ∨ n = 417 ∨ n = 418 ∨ n = 421 ∨ n = 423 ∨ n = 428 ∨ n = 429 ∨ n = 435 then 0 else 11
def nM (n : Nat) : Nat := if n < 403 then 36 else if n < 417 then 10 else if n = 419 then 6 else if n = 420 then 1800 else if n = 422 then 30 else if n = 424 then 32400 else if n = 425 ∨ n = 426 ∨ n = 427 ∨ n = 430 then 180 else if n = 431 ∨ n = 432 then 4 else if n = 433 then 240 else 60
def LayM (w : Wd) : Prop := (∀ n, 400 ≤ n → n < 436 → wK w n = kM n ∧ (kM n ≠ 0 → 401 ≤ n → wN w n = nM n)) ∧ ∀ k, k < 35 → kM (401 + k) ≠ 0 → wR w 400 k = some (401 + k)
theorem LayM.k {w : Wd} (h : LayM w) (n : Nat) (h1 : Nat.ble 400 n = true) (h2 : Nat.blt n 436 = true) : wK w n = kM n := (h.1 n (Nat.ble_eq.mp h1) (Nat.blt_eq.mp h2)).1
theorem LayM.n {w : Wd} (h : LayM w) (n : Nat) (h1 : Nat.ble 401 n = true) (h2 : Nat.blt n 436 = true) (h3 : kM n ≠ 0) : wN w n = nM n := (h.1 n (by have := Nat.ble_eq.mp h1; omega) (Nat.blt_eq.mp h2)).2 h3 (Nat.ble_eq.mp h1)
theorem LayM.r {w : Wd} (h : LayM w) (k : Nat) (h1 : Nat.blt k 35 = true) (h2 : kM (401 + k) ≠ 0) : wR w 400 k = some (401 + k) := h.2 k (Nat.blt_eq.mp h1) h2
/-- none is -1 -/
def oI (o : Option Nat) : Int32 := match o with
  | none => -1
  | some n => nI n
def sinF (t : Nat) : Int32 := cosF ((t + 27) % 36)
/-- a TURN within LIMITS -/
abbrev wi (lo sp t : Nat) : Prop := (t + 36 - lo) % 36 ≤ sp
def shortN (t u : Nat) : Int := let d := (u + 36 - t) % 36; if d ≤ 18 then d else (d : Int) - 36
def distN (t u : Nat) : Nat := let d := (u + 36 - t) % 36; if d ≤ 18 then d else 36 - d
def lastN (lo sp : Nat) : Nat := (lo + sp) % 36
def intoN (lo sp t : Nat) : Nat := if wi lo sp t then t else if distN t lo ≤ distN t (lastN lo sp) then lo else lastN lo sp
def addN (t : Nat) (z : Int) : Nat := ((t + z) % 36).toNat
def blendN (lo sp t u w : Nat) : Nat := intoN lo sp (addN t ((shortN t u * w).tdiv 100))
abbrev Sk : Type := Nat × (Nat → Option Nat) × (Nat → Nat) × (Nat → Nat) × (Nat → Nat) × (Nat → Nat) × Int64 × Int64 × Option Nat
def kN (k : Sk) : Nat := k.1
def kPar (k : Sk) : Nat → Option Nat := k.2.1
def kLen (k : Sk) : Nat → Nat := k.2.2.1
def kLow (k : Sk) : Nat → Nat := k.2.2.2.1
def kSpr (k : Sk) : Nat → Nat := k.2.2.2.2.1
def kTrn (k : Sk) : Nat → Nat := k.2.2.2.2.2.1
def kRx (k : Sk) : Int64 := k.2.2.2.2.2.2.1
def kRy (k : Sk) : Int64 := k.2.2.2.2.2.2.2.1
def kLck (k : Sk) : Option Nat := k.2.2.2.2.2.2.2.2
def kT (k : Sk) (t : Nat → Nat) : Sk := (kN k, kPar k, kLen k, kLow k, kSpr k, t, kRx k, kRy k, kLck k)
def kRt (k : Sk) (x y : Int64) : Sk := (kN k, kPar k, kLen k, kLow k, kSpr k, kTrn k, x, y, kLck k)
def kLk (k : Sk) (o : Option Nat) : Sk := (kN k, kPar k, kLen k, kLow k, kSpr k, kTrn k, kRx k, kRy k, o)
/-- directions and ends, by the order of numbers -/
abbrev Q4 : Type := Int64 × Int64 × Int64 × Int64
def pStart (k : Sk) (P : Nat → Q4) (b : Nat) : Q4 := match kPar k b with
  | none => (1160290625, 0, kRx k, kRy k)
  | some p => P p
def pStep (k : Sk) (P : Nat → Q4) (b : Nat) : Q4 :=
  let f := pStart k P b
  let c := (cosF (kTrn k b)).toInt64
  let s := (sinF (kTrn k b)).toInt64
  let dx := (f.1 * c - f.2.1 * s) / 65
  let dy := (f.1 * s + f.2.1 * c) / 65
  (dx, dy, f.2.2.1 + (nI (kLen k b)).toInt64 * dx, f.2.2.2 + (nI (kLen k b)).toInt64 * dy)
def posN (k : Sk) : Nat → Nat → Q4
  | 0 => fun _ => (0, 0, 0, 0)
  | b + 1 => va_up (posN k b) b (pStep k (posN k b) b)
def pos (k : Sk) (b : Nat) : Q4 := posN k (b + 1) b
theorem posN_lt (k : Sk) : ∀ n b, b < n → posN k n b = pos k b := by
  intro n
  induction n with
  | zero => intro b h; omega
  | succ n ih =>
    intro b h
    show va_up (posN k n) n _ b = _
    by_cases e : b = n
    · subst e; rfl
    · rw [va_up_ne _ _ e]
      exact ih b (by omega)
def depN (k : Sk) : Nat → Nat → Nat
  | 0 => fun _ => 0
  | b + 1 => va_up (depN k b) b (match kPar k b with
    | none => 1
    | some p => depN k b p + 1)
def dep (k : Sk) (b : Nat) : Nat := depN k (b + 1) b
theorem depN_lt (k : Sk) : ∀ n b, b < n → depN k n b = dep k b := by
  intro n
  induction n with
  | zero => intro b h; omega
  | succ n ih =>
    intro b h
    show va_up (depN k n) n _ b = _
    by_cases e : b = n
    · subst e; rfl
    · rw [va_up_ne _ _ e]
      exact ih b (by omega)
/-- a skeleton as the document allows it -/
def Wf (k : Sk) : Prop := kN k ≤ 10 ∧ (∀ b, b < kN k → (∀ p, kPar k b = some p → p < b) ∧ dep k b ≤ 5 ∧ 1 ≤ kLen k b ∧ kLen k b ≤ 100 ∧ kLow k b < 36 ∧ kSpr k b < 36 ∧ kTrn k b < 36) ∧ ∀ b, kLck k = some b → b < kN k
theorem pos_eq {k : Sk} (h : Wf k) {b : Nat} (hb : b < kN k) : pos k b = pStep k (pos k) b := by
  show va_up (posN k b) b (pStep k (posN k b) b) b = _
  rw [va_up_self]
  unfold pStep pStart
  cases hp : kPar k b with
  | none => rfl
  | some p => simp only [posN_lt k b p ((h.2.1 b hb).1 p hp)]
theorem dep_eq {k : Sk} (h : Wf k) {b : Nat} (hb : b < kN k) : dep k b = (match kPar k b with
    | none => 1
    | some p => dep k p + 1) := by
  show va_up (depN k b) b _ b = _
  rw [va_up_self]
  cases hp : kPar k b with
  | none => rfl
  | some p => simp only [depN_lt k b p ((h.2.1 b hb).1 p hp)]
/-- the bones' references -/
def LayB (k : Sk) (w : Wd) : Prop := ∀ b, b < kN k → wK w (300 + b) = 1 ∧ wR w 26 b = some (300 + b) ∧ wR w (300 + b) 0 = (kPar k b).map (fun p => 300 + p)
/-- the class's skeleton but for the places that are kept, and those -/
def RSk0 (k : Sk) (I : Nat → Nat → Int32) (J : Nat → Nat → Int64) : Prop := I 21 1 = nI (kN k) ∧ I 21 2 = oI (kLck k) ∧ J 21 3 = kRx k ∧ J 21 4 = kRy k ∧ ∀ b, b < kN k → I (300 + b) 1 = oI (kPar k b) ∧ I (300 + b) 2 = nI (dep k b) ∧ I (300 + b) 3 = nI (kLen k b) ∧ I (300 + b) 4 = nI (kLow k b) ∧ I (300 + b) 5 = nI (kSpr k b) ∧ I (300 + b) 6 = nI (lastN (kLow k b) (kSpr k b)) ∧ I (300 + b) 7 = nI (kTrn k b)
def RPos (k : Sk) (n : Nat) (J : Nat → Nat → Int64) : Prop := ∀ b, b < n → J (300 + b) 8 = (pStart k (pos k) b).2.2.1 ∧ J (300 + b) 9 = (pStart k (pos k) b).2.2.2 ∧ J (300 + b) 10 = (pos k b).1 ∧ J (300 + b) 11 = (pos k b).2.1 ∧ J (300 + b) 12 = (pos k b).2.2.1 ∧ J (300 + b) 13 = (pos k b).2.2.2
end
