theorem inX0 : ∀ w ∈ wsX00, w ∈ tb := fun w h => List.mem_filter.mpr ((by decide +kernel : ∀ w ∈ wsX00, w ∈ lw_tbl ∧ goodWord w = true) w h)
theorem inX1 : ∀ w ∈ wsX10, w ∈ tb := fun w h => List.mem_filter.mpr ((by decide +kernel : ∀ w ∈ wsX10, w ∈ lw_tbl ∧ goodWord w = true) w h)
theorem inX2 : ∀ w ∈ wsX20, w ∈ tb := fun w h => List.mem_filter.mpr ((by decide +kernel : ∀ w ∈ wsX20, w ∈ lw_tbl ∧ goodWord w = true) w h)
theorem inX3 : ∀ w ∈ wsX30, w ∈ tb := fun w h => List.mem_filter.mpr ((by decide +kernel : ∀ w ∈ wsX30, w ∈ lw_tbl ∧ goodWord w = true) w h)
theorem inX4 : ∀ w ∈ wsX40, w ∈ tb := fun w h => List.mem_filter.mpr ((by decide +kernel : ∀ w ∈ wsX40, w ∈ lw_tbl ∧ goodWord w = true) w h)
theorem inX5 : ∀ w ∈ wsX50, w ∈ tb := fun w h => List.mem_filter.mpr ((by decide +kernel : ∀ w ∈ wsX50, w ∈ lw_tbl ∧ goodWord w = true) w h)
theorem inX6 : ∀ w ∈ wsX60, w ∈ tb := fun w h => List.mem_filter.mpr ((by decide +kernel : ∀ w ∈ wsX60, w ∈ lw_tbl ∧ goodWord w = true) w h)
theorem inX8 : ∀ w ∈ wsX80, w ∈ tb := fun w h => List.mem_filter.mpr ((by decide +kernel : ∀ w ∈ wsX80, w ∈ lw_tbl ∧ goodWord w = true) w h)
theorem inX9 : ∀ w ∈ wsX90, w ∈ tb := fun w h => List.mem_filter.mpr ((by decide +kernel : ∀ w ∈ wsX90, w ∈ lw_tbl ∧ goodWord w = true) w h)
abbrev mJ7_fill_53178 : Mi := (RJ7, cJ7_fill_53178, 4, none, { frames := 0, cells := 0, slots := 0, locals := 0 }, "fill", false)
abbrev mJ9_floorMod_7cf53 : Mi := (RJ9, cJ9_floorMod_7cf53, 3, (some .int), { frames := 0, cells := 0, slots := 0, locals := 0 }, "floorMod", false)
abbrev mX0_allows : Mi := (RX0, cX0_allows, 3, (some .boolean), { frames := 0, cells := 0, slots := 0, locals := 0 }, "allows", false)
abbrev mX0_blended : Mi := (RX0, cX0_blended, 4, (some .int), { frames := 2, cells := 0, slots := 0, locals := 43 }, "blended", false)
abbrev mX0_farFrom : Mi := (RX0, cX0_farFrom, 5, (some .long), { frames := 1, cells := 0, slots := 0, locals := 23 }, "farFrom", false)
abbrev mX0_farTurned : Mi := (RX0, cX0_farTurned, 16, (some .long), { frames := 2, cells := 0, slots := 0, locals := 42 }, "farTurned", false)
abbrev mX0_init : Mi := (RX0, cX0_init, 6, none, { frames := 1, cells := 0, slots := 0, locals := 20 }, "<init>", false)
abbrev mX0_intoLimits : Mi := (RX0, cX0_intoLimits, 2, (some .int), { frames := 1, cells := 0, slots := 0, locals := 22 }, "intoLimits", false)
abbrev mX0_leastTurn : Mi := (RX0, cX0_leastTurn, 1, (some .int), { frames := 0, cells := 0, slots := 0, locals := 0 }, "leastTurn", false)
abbrev mX0_nearestTurn : Mi := (RX0, cX0_nearestTurn, 23, (some .int), { frames := 3, cells := 0, slots := 0, locals := 77 }, "nearestTurn", false)
abbrev mX0_place : Mi := (RX0, cX0_place, 11, none, { frames := 2, cells := 0, slots := 0, locals := 42 }, "place", false)
abbrev mX0_takeTurn : Mi := (RX0, cX0_takeTurn, 2, (some .int), { frames := 2, cells := 0, slots := 0, locals := 43 }, "takeTurn", false)
abbrev mX1_init : Mi := (RX1, cX1_init, 1, none, { frames := 1, cells := 31, slots := 330, locals := 20 }, "<init>", true)
abbrev mX2_digestOn : Mi := (RX2, cX2_digestOn, 8, (some .long), { frames := 0, cells := 0, slots := 0, locals := 0 }, "digestOn", false)
abbrev mX2_find : Mi := (RX2, cX2_find, 2, (some (.object "BoneSteps$Clip")), { frames := 1, cells := 0, slots := 0, locals := 25 }, "find", false)
abbrev mX2_findFrame : Mi := (RX2, cX2_findFrame, 3, (some (.array .int)), { frames := 0, cells := 0, slots := 0, locals := 0 }, "findFrame", false)
abbrev mX2_findSlot : Mi := (RX2, cX2_findSlot, 2, (some (.array .int)), { frames := 1, cells := 0, slots := 0, locals := 22 }, "findSlot", false)
abbrev mX2_init : Mi := (RX2, cX2_init, 2, none, { frames := 2, cells := 193, slots := 1998, locals := 40 }, "<init>", true)
abbrev mX2_likeness : Mi := (RX2, cX2_likeness, 6, (some .int), { frames := 1, cells := 0, slots := 0, locals := 22 }, "likeness", false)
abbrev mX2_total : Mi := (RX2, cX2_total, 3, (some .int), { frames := 0, cells := 0, slots := 0, locals := 0 }, "total", false)
abbrev mX3_begin : Mi := (RX3, cX3_begin, 4, none, { frames := 2, cells := 0, slots := 0, locals := 43 }, "begin", false)
abbrev mX3_findWalk : Mi := (RX3, cX3_findWalk, 6, none, { frames := 4, cells := 0, slots := 0, locals := 99 }, "findWalk", false)
abbrev mX3_init : Mi := (RX3, cX3_init, 1, none, { frames := 1, cells := 5, slots := 900, locals := 20 }, "<init>", true)
abbrev mX3_isJoined : Mi := (RX3, cX3_isJoined, 6, (some .boolean), { frames := 2, cells := 0, slots := 0, locals := 47 }, "isJoined", false)
abbrev mX3_keepPath : Mi := (RX3, cX3_keepPath, 5, none, { frames := 0, cells := 0, slots := 0, locals := 0 }, "keepPath", false)
abbrev mX3_lastJoined : Mi := (RX3, cX3_lastJoined, 5, (some .int), { frames := 3, cells := 0, slots := 0, locals := 72 }, "lastJoined", false)
abbrev mX3_nearestOpen : Mi := (RX3, cX3_nearestOpen, 5, (some .int), { frames := 0, cells := 0, slots := 0, locals := 0 }, "nearestOpen", false)
abbrev mX3_reachFrom : Mi := (RX3, cX3_reachFrom, 7, none, { frames := 3, cells := 0, slots := 0, locals := 73 }, "reachFrom", false)
abbrev mX3_wayCost : Mi := (RX3, cX3_wayCost, 7, (some .int), { frames := 2, cells := 0, slots := 0, locals := 47 }, "wayCost", false)
abbrev mX4_findKeys : Mi := (RX4, cX4_findKeys, 6, none, { frames := 5, cells := 0, slots := 0, locals := 118 }, "findKeys", false)
abbrev mX4_init : Mi := (RX4, cX4_init, 1, none, { frames := 1, cells := 1, slots := 30, locals := 20 }, "<init>", true)
abbrev mX4_keepKeys : Mi := (RX4, cX4_keepKeys, 3, none, { frames := 1, cells := 0, slots := 0, locals := 40 }, "keepKeys", false)
abbrev mX4_nextKey : Mi := (RX4, cX4_nextKey, 5, (some .int), { frames := 4, cells := 0, slots := 0, locals := 94 }, "nextKey", false)
abbrev mX4_spans : Mi := (RX4, cX4_spans, 9, (some .boolean), { frames := 3, cells := 0, slots := 0, locals := 66 }, "spans", false)
abbrev mX5_begin : Mi := (RX5, cX5_begin, 3, none, { frames := 1, cells := 0, slots := 0, locals := 23 }, "begin", false)
abbrev mX5_holds : Mi := (RX5, cX5_holds, 3, (some .boolean), { frames := 0, cells := 0, slots := 0, locals := 0 }, "holds", false)
abbrev mX5_init : Mi := (RX5, cX5_init, 1, none, { frames := 1, cells := 1, slots := 60, locals := 20 }, "<init>", true)
abbrev mX5_store : Mi := (RX5, cX5_store, 3, none, { frames := 0, cells := 0, slots := 0, locals := 0 }, "store", false)
abbrev mX5_wrongItem : Mi := (RX5, cX5_wrongItem, 3, (some .int), { frames := 1, cells := 0, slots := 0, locals := 25 }, "wrongItem", false)
abbrev mX5_wrongPose : Mi := (RX5, cX5_wrongPose, 3, (some .int), { frames := 1, cells := 0, slots := 0, locals := 22 }, "wrongPose", false)
abbrev mX6_addDifference : Mi := (RX6, cX6_addDifference, 6, (some .int), { frames := 5, cells := 0, slots := 0, locals := 118 }, "addDifference", false)
abbrev mX6_blendWith : Mi := (RX6, cX6_blendWith, 5, none, { frames := 5, cells := 0, slots := 0, locals := 118 }, "blendWith", false)
abbrev mX6_digestOn : Mi := (RX6, cX6_digestOn, 6, (some .long), { frames := 0, cells := 0, slots := 0, locals := 0 }, "digestOn", false)
abbrev mX6_find : Mi := (RX6, cX6_find, 2, (some (.object "BoneSteps$Bone")), { frames := 1, cells := 0, slots := 0, locals := 25 }, "find", false)
abbrev mX6_grow : Mi := (RX6, cX6_grow, 2, (some .int), { frames := 3, cells := 0, slots := 0, locals := 72 }, "grow", false)
abbrev mX6_init : Mi := (RX6, cX6_init, 1, none, { frames := 1, cells := 1, slots := 10, locals := 20 }, "<init>", true)
abbrev mX6_moveRoot : Mi := (RX6, cX6_moveRoot, 5, none, { frames := 4, cells := 0, slots := 0, locals := 93 }, "moveRoot", false)
abbrev mX6_place : Mi := (RX6, cX6_place, 2, none, { frames := 3, cells := 0, slots := 0, locals := 72 }, "place", false)
abbrev mX6_reachByRound : Mi := (RX6, cX6_reachByRound, 9, (some .boolean), { frames := 4, cells := 0, slots := 0, locals := 119 }, "reachByRound", false)
abbrev mX6_reachByRounds : Mi := (RX6, cX6_reachByRounds, 9, none, { frames := 5, cells := 0, slots := 0, locals := 147 }, "reachByRounds", false)
abbrev mX6_reachByTwo : Mi := (RX6, cX6_reachByTwo, 12, none, { frames := 4, cells := 0, slots := 0, locals := 119 }, "reachByTwo", false)
abbrev mX6_settle : Mi := (RX6, cX6_settle, 6, none, { frames := 4, cells := 0, slots := 0, locals := 93 }, "settle", false)
abbrev mX6_takeItems : Mi := (RX6, cX6_takeItems, 5, (some .int), { frames := 5, cells := 0, slots := 0, locals := 118 }, "takeItems", false)
abbrev mX6_takeTurns : Mi := (RX6, cX6_takeTurns, 3, none, { frames := 5, cells := 0, slots := 0, locals := 118 }, "takeTurns", false)
abbrev mX6_tellTurns : Mi := (RX6, cX6_tellTurns, 3, none, { frames := 0, cells := 0, slots := 0, locals := 0 }, "tellTurns", false)
abbrev mX7_cosine : Mi := (RX7, cX7_cosine, 1, (some .int), { frames := 1, cells := 0, slots := 0, locals := 22 }, "cosine", false)
abbrev mX7_distance : Mi := (RX7, cX7_distance, 3, (some .int), { frames := 0, cells := 0, slots := 0, locals := 0 }, "distance", false)
abbrev mX7_normal : Mi := (RX7, cX7_normal, 1, (some .int), { frames := 1, cells := 0, slots := 0, locals := 22 }, "normal", false)
abbrev mX7_shortWay : Mi := (RX7, cX7_shortWay, 3, (some .int), { frames := 0, cells := 0, slots := 0, locals := 0 }, "shortWay", false)
abbrev mX7_sine : Mi := (RX7, cX7_sine, 1, (some .int), { frames := 1, cells := 0, slots := 0, locals := 22 }, "sine", false)
abbrev mX8_about : Mi := (RX8, cX8_about, 4, (some .int), { frames := 2, cells := 0, slots := 0, locals := 46 }, "about", false)
abbrev mX8_add : Mi := (RX8, cX8_add, 6, (some .int), { frames := 6, cells := 0, slots := 0, locals := 143 }, "add", false)
abbrev mX8_asLong : Mi := (RX8, cX8_asLong, 1, (some .long), { frames := 0, cells := 0, slots := 0, locals := 0 }, "asLong", false)
abbrev mX8_at : Mi := (RX8, cX8_at, 5, (some .int), { frames := 1, cells := 0, slots := 0, locals := 25 }, "at", false)
abbrev mX8_blend : Mi := (RX8, cX8_blend, 6, (some .int), { frames := 6, cells := 0, slots := 0, locals := 142 }, "blend", false)
abbrev mX8_bone : Mi := (RX8, cX8_bone, 6, (some .int), { frames := 4, cells := 1, slots := 14, locals := 93 }, "bone", true)
abbrev mX8_clear : Mi := (RX8, cX8_clear, 4, (some .int), { frames := 2, cells := 0, slots := 0, locals := 46 }, "clear", false)
abbrev mX8_copy : Mi := (RX8, cX8_copy, 8, (some .int), { frames := 2, cells := 0, slots := 0, locals := 46 }, "copy", false)
abbrev mX8_count : Mi := (RX8, cX8_count, 2, (some .int), { frames := 1, cells := 0, slots := 0, locals := 22 }, "count", false)
abbrev mX8_digest : Mi := (RX8, cX8_digest, 4, (some .long), { frames := 2, cells := 0, slots := 0, locals := 43 }, "digest", false)
abbrev mX8_end : Mi := (RX8, cX8_end, 4, (some .long), { frames := 2, cells := 0, slots := 0, locals := 46 }, "end", false)
abbrev mX8_far : Mi := (RX8, cX8_far, 7, (some .long), { frames := 2, cells := 0, slots := 0, locals := 48 }, "far", false)
abbrev mX8_findSheet : Mi := (RX8, cX8_findSheet, 2, (some (.object "BoneSteps$Sheet")), { frames := 1, cells := 0, slots := 0, locals := 25 }, "findSheet", false)
abbrev mX8_found : Mi := (RX8, cX8_found, 2, (some .int), { frames := 0, cells := 0, slots := 0, locals := 0 }, "found", false)
abbrev mX8_frame : Mi := (RX8, cX8_frame, 3, (some .int), { frames := 2, cells := 0, slots := 0, locals := 46 }, "frame", false)
abbrev mX8_get : Mi := (RX8, cX8_get, 6, (some .int), { frames := 2, cells := 0, slots := 0, locals := 47 }, "get", false)
abbrev mX8_init : Mi := (RX8, cX8_init, 2, none, { frames := 3, cells := 213, slots := 3216, locals := 61 }, "<init>", true)
abbrev mX8_isForm : Mi := (RX8, cX8_isForm, 1, (some .boolean), { frames := 1, cells := 0, slots := 0, locals := 25 }, "isForm", false)
abbrev mX8_isIn : Mi := (RX8, cX8_isIn, 6, (some .boolean), { frames := 0, cells := 0, slots := 0, locals := 0 }, "isIn", false)
abbrev mX8_isLive : Mi := (RX8, cX8_isLive, 3, (some .int), { frames := 4, cells := 0, slots := 0, locals := 96 }, "isLive", false)
abbrev mX8_isPlace : Mi := (RX8, cX8_isPlace, 4, (some .boolean), { frames := 1, cells := 0, slots := 0, locals := 25 }, "isPlace", false)
abbrev mX8_isTurn : Mi := (RX8, cX8_isTurn, 1, (some .boolean), { frames := 1, cells := 0, slots := 0, locals := 25 }, "isTurn", false)
abbrev mX8_join : Mi := (RX8, cX8_join, 3, (some .int), { frames := 1, cells := 0, slots := 0, locals := 25 }, "join", false)
abbrev mX8_key : Mi := (RX8, cX8_key, 2, (some .int), { frames := 1, cells := 0, slots := 0, locals := 25 }, "key", false)
abbrev mX8_like : Mi := (RX8, cX8_like, 7, (some .int), { frames := 2, cells := 0, slots := 0, locals := 47 }, "like", false)
abbrev mX8_live : Mi := (RX8, cX8_live, 3, (some .int), { frames := 4, cells := 0, slots := 0, locals := 96 }, "live", false)
abbrev mX8_lock : Mi := (RX8, cX8_lock, 3, (some .int), { frames := 2, cells := 0, slots := 0, locals := 46 }, "lock", false)
abbrev mX8_lose : Mi := (RX8, cX8_lose, 3, (some .int), { frames := 2, cells := 0, slots := 0, locals := 46 }, "lose", false)
abbrev mX8_pack : Mi := (RX8, cX8_pack, 4, (some .int), { frames := 6, cells := 0, slots := 0, locals := 143 }, "pack", false)
abbrev mX8_pose : Mi := (RX8, cX8_pose, 5, (some .int), { frames := 6, cells := 0, slots := 0, locals := 142 }, "pose", false)
abbrev mX8_put : Mi := (RX8, cX8_put, 7, (some .int), { frames := 2, cells := 0, slots := 0, locals := 47 }, "put", false)
abbrev mX8_root : Mi := (RX8, cX8_root, 5, (some .int), { frames := 5, cells := 0, slots := 0, locals := 117 }, "root", false)
abbrev mX8_rounds : Mi := (RX8, cX8_rounds, 8, (some .long), { frames := 6, cells := 0, slots := 0, locals := 175 }, "rounds", false)
abbrev mX8_sheet : Mi := (RX8, cX8_sheet, 5, (some .int), { frames := 2, cells := 0, slots := 0, locals := 46 }, "sheet", false)
abbrev mX8_show : Mi := (RX8, cX8_show, 4, (some .int), { frames := 6, cells := 0, slots := 0, locals := 140 }, "show", false)
abbrev mX8_step : Mi := (RX8, cX8_step, 2, (some .int), { frames := 1, cells := 0, slots := 0, locals := 25 }, "step", false)
abbrev mX8_thin : Mi := (RX8, cX8_thin, 5, (some .int), { frames := 6, cells := 0, slots := 0, locals := 143 }, "thin", false)
abbrev mX8_turn : Mi := (RX8, cX8_turn, 5, (some .int), { frames := 5, cells := 0, slots := 0, locals := 118 }, "turn", false)
abbrev mX8_two : Mi := (RX8, cX8_two, 7, (some .long), { frames := 5, cells := 0, slots := 0, locals := 150 }, "two", false)
abbrev mX8_walk : Mi := (RX8, cX8_walk, 5, (some .int), { frames := 5, cells := 0, slots := 0, locals := 124 }, "walk", false)
abbrev mX8_write : Mi := (RX8, cX8_write, 6, (some .int), { frames := 2, cells := 0, slots := 0, locals := 46 }, "write", false)
abbrev mX9_about : Mi := (RX9, cX9_about, 3, (some .int), { frames := 2, cells := 0, slots := 0, locals := 46 }, "about", false)
abbrev mX9_add : Mi := (RX9, cX9_add, 7, (some .int), { frames := 3, cells := 0, slots := 0, locals := 67 }, "add", false)
abbrev mX9_amount : Mi := (RX9, cX9_amount, 1, (some .int), { frames := 0, cells := 0, slots := 0, locals := 0 }, "amount", false)
abbrev mX9_at : Mi := (RX9, cX9_at, 4, (some .int), { frames := 3, cells := 0, slots := 0, locals := 67 }, "at", false)
abbrev mX9_blend : Mi := (RX9, cX9_blend, 6, (some .int), { frames := 4, cells := 0, slots := 0, locals := 90 }, "blend", false)
abbrev mX9_blended : Mi := (RX9, cX9_blended, 5, (some .int), { frames := 3, cells := 0, slots := 0, locals := 66 }, "blended", false)
abbrev mX9_bone : Mi := (RX9, cX9_bone, 6, (some .int), { frames := 1, cells := 0, slots := 0, locals := 25 }, "bone", false)
abbrev mX9_clear : Mi := (RX9, cX9_clear, 3, (some .int), { frames := 2, cells := 0, slots := 0, locals := 45 }, "clear", false)
abbrev mX9_copy : Mi := (RX9, cX9_copy, 7, (some .int), { frames := 2, cells := 0, slots := 0, locals := 45 }, "copy", false)
abbrev mX9_count : Mi := (RX9, cX9_count, 2, (some .int), { frames := 1, cells := 0, slots := 0, locals := 22 }, "count", false)
abbrev mX9_digest : Mi := (RX9, cX9_digest, 6, (some .long), { frames := 2, cells := 0, slots := 0, locals := 43 }, "digest", false)
abbrev mX9_end : Mi := (RX9, cX9_end, 3, (some .long), { frames := 1, cells := 0, slots := 0, locals := 30 }, "end", false)
abbrev mX9_far : Mi := (RX9, cX9_far, 6, (some .long), { frames := 2, cells := 0, slots := 0, locals := 59 }, "far", false)
abbrev mX9_farOf : Mi := (RX9, cX9_farOf, 10, (some .long), { frames := 1, cells := 0, slots := 0, locals := 30 }, "farOf", false)
abbrev mX9_findCosts : Mi := (RX9, cX9_findCosts, 5, none, { frames := 3, cells := 0, slots := 0, locals := 67 }, "findCosts", false)
abbrev mX9_findDistances : Mi := (RX9, cX9_findDistances, 5, none, { frames := 4, cells := 0, slots := 0, locals := 91 }, "findDistances", false)
abbrev mX9_findKeys : Mi := (RX9, cX9_findKeys, 6, none, { frames := 5, cells := 0, slots := 0, locals := 118 }, "findKeys", false)
abbrev mX9_findLive : Mi := (RX9, cX9_findLive, 6, (some .int), { frames := 4, cells := 0, slots := 0, locals := 91 }, "findLive", false)
abbrev mX9_frame : Mi := (RX9, cX9_frame, 3, (some .int), { frames := 2, cells := 0, slots := 0, locals := 45 }, "frame", false)
abbrev mX9_frames : Mi := (RX9, cX9_frames, 3, (some .int), { frames := 0, cells := 0, slots := 0, locals := 0 }, "frames", false)
abbrev mX9_get : Mi := (RX9, cX9_get, 4, (some .int), { frames := 2, cells := 0, slots := 0, locals := 48 }, "get", false)
abbrev mX9_hold : Mi := (RX9, cX9_hold, 1, none, { frames := 1, cells := 0, slots := 0, locals := 30 }, "hold", false)
abbrev mX9_holds : Mi := (RX9, cX9_holds, 9, (some .boolean), { frames := 4, cells := 0, slots := 0, locals := 90 }, "holds", false)
abbrev mX9_in : Mi := (RX9, cX9_in, 6, (some .boolean), { frames := 0, cells := 0, slots := 0, locals := 0 }, "in", false)
abbrev mX9_init : Mi := (RX9, cX9_init, 2, none, { frames := 1, cells := 40, slots := 40000, locals := 20 }, "<init>", true)
abbrev mX9_intoLimits : Mi := (RX9, cX9_intoLimits, 4, (some .int), { frames := 2, cells := 0, slots := 0, locals := 43 }, "intoLimits", false)
abbrev mX9_isBone : Mi := (RX9, cX9_isBone, 2, (some .boolean), { frames := 1, cells := 0, slots := 0, locals := 25 }, "isBone", false)
abbrev mX9_isClip : Mi := (RX9, cX9_isClip, 1, (some .boolean), { frames := 1, cells := 0, slots := 0, locals := 25 }, "isClip", false)
abbrev mX9_isFrame : Mi := (RX9, cX9_isFrame, 3, (some .boolean), { frames := 2, cells := 0, slots := 0, locals := 45 }, "isFrame", false)
abbrev mX9_isLive : Mi := (RX9, cX9_isLive, 4, (some .int), { frames := 5, cells := 0, slots := 0, locals := 116 }, "isLive", false)
abbrev mX9_isNode : Mi := (RX9, cX9_isNode, 2, (some .boolean), { frames := 0, cells := 0, slots := 0, locals := 0 }, "isNode", false)
abbrev mX9_isPlace : Mi := (RX9, cX9_isPlace, 4, (some .boolean), { frames := 1, cells := 0, slots := 0, locals := 25 }, "isPlace", false)
abbrev mX9_isSheet : Mi := (RX9, cX9_isSheet, 1, (some .boolean), { frames := 1, cells := 0, slots := 0, locals := 25 }, "isSheet", false)
abbrev mX9_isWithin : Mi := (RX9, cX9_isWithin, 3, (some .boolean), { frames := 1, cells := 0, slots := 0, locals := 21 }, "isWithin", false)
abbrev mX9_join : Mi := (RX9, cX9_join, 3, (some .int), { frames := 1, cells := 0, slots := 0, locals := 25 }, "join", false)
abbrev mX9_key : Mi := (RX9, cX9_key, 2, (some .int), { frames := 1, cells := 0, slots := 0, locals := 25 }, "key", false)
abbrev mX9_lacks : Mi := (RX9, cX9_lacks, 4, (some .int), { frames := 1, cells := 0, slots := 0, locals := 25 }, "lacks", false)
abbrev mX9_lacksRow : Mi := (RX9, cX9_lacksRow, 3, (some .int), { frames := 2, cells := 0, slots := 0, locals := 45 }, "lacksRow", false)
abbrev mX9_like : Mi := (RX9, cX9_like, 5, (some .int), { frames := 3, cells := 0, slots := 0, locals := 67 }, "like", false)
abbrev mX9_likeness : Mi := (RX9, cX9_likeness, 5, (some .int), { frames := 2, cells := 0, slots := 0, locals := 43 }, "likeness", false)
abbrev mX9_live : Mi := (RX9, cX9_live, 1, (some .int), { frames := 5, cells := 0, slots := 0, locals := 116 }, "live", false)
abbrev mX9_lock : Mi := (RX9, cX9_lock, 3, (some .int), { frames := 1, cells := 0, slots := 0, locals := 25 }, "lock", false)
abbrev mX9_lose : Mi := (RX9, cX9_lose, 2, (some .int), { frames := 2, cells := 0, slots := 0, locals := 45 }, "lose", false)
abbrev mX9_met : Mi := (RX9, cX9_met, 2, (some .int), { frames := 0, cells := 0, slots := 0, locals := 0 }, "met", false)
abbrev mX9_no : Mi := (RX9, cX9_no, 1, (some .long), { frames := 0, cells := 0, slots := 0, locals := 0 }, "no", false)
abbrev mX9_pack : Mi := (RX9, cX9_pack, 3, (some .int), { frames := 6, cells := 0, slots := 0, locals := 143 }, "pack", false)
abbrev mX9_place : Mi := (RX9, cX9_place, 11, none, { frames := 0, cells := 0, slots := 0, locals := 0 }, "place", false)
abbrev mX9_pose : Mi := (RX9, cX9_pose, 7, (some .int), { frames := 3, cells := 0, slots := 0, locals := 67 }, "pose", false)
abbrev mX9_put : Mi := (RX9, cX9_put, 6, (some .int), { frames := 2, cells := 0, slots := 0, locals := 48 }, "put", false)
abbrev mX9_root : Mi := (RX9, cX9_root, 5, (some .int), { frames := 2, cells := 0, slots := 0, locals := 48 }, "root", false)
abbrev mX9_round : Mi := (RX9, cX9_round, 2, (some .int), { frames := 0, cells := 0, slots := 0, locals := 0 }, "round", false)
abbrev mX9_rounds : Mi := (RX9, cX9_rounds, 15, (some .long), { frames := 2, cells := 0, slots := 0, locals := 59 }, "rounds", false)
abbrev mX9_settle : Mi := (RX9, cX9_settle, 1, none, { frames := 1, cells := 0, slots := 0, locals := 30 }, "settle", false)
abbrev mX9_sheet : Mi := (RX9, cX9_sheet, 5, (some .int), { frames := 2, cells := 0, slots := 0, locals := 45 }, "sheet", false)
abbrev mX9_shortWay : Mi := (RX9, cX9_shortWay, 3, (some .int), { frames := 1, cells := 0, slots := 0, locals := 21 }, "shortWay", false)
abbrev mX9_show : Mi := (RX9, cX9_show, 4, (some .int), { frames := 3, cells := 0, slots := 0, locals := 67 }, "show", false)
abbrev mX9_spot : Mi := (RX9, cX9_spot, 2, (some .int), { frames := 0, cells := 0, slots := 0, locals := 0 }, "spot", false)
abbrev mX9_step : Mi := (RX9, cX9_step, 2, (some .int), { frames := 1, cells := 0, slots := 0, locals := 25 }, "step", false)
abbrev mX9_thin : Mi := (RX9, cX9_thin, 6, (some .int), { frames := 6, cells := 0, slots := 0, locals := 143 }, "thin", false)
abbrev mX9_turn : Mi := (RX9, cX9_turn, 4, (some .int), { frames := 2, cells := 0, slots := 0, locals := 50 }, "turn", false)
abbrev mX9_two : Mi := (RX9, cX9_two, 15, (some .long), { frames := 2, cells := 0, slots := 0, locals := 59 }, "two", false)
abbrev mX9_walk : Mi := (RX9, cX9_walk, 8, (some .int), { frames := 5, cells := 0, slots := 0, locals := 115 }, "walk", false)
abbrev mX9_write : Mi := (RX9, cX9_write, 5, (some .int), { frames := 3, cells := 0, slots := 0, locals := 67 }, "write", false)
def LkS (own : String) (idx : Nat) (y : MethodName) (M' : Mi) (n : Nat) : Prop := LkB y M' n ∧ Cond.methodLink own idx y ∈ tb ∧ Cond.static y ∈ tb
def LkSN (own : String) (idx : Nat) (y : MethodName) (M' : Mi) (n : Nat) : Prop := LkB y M' n ∧ (∃ host, (own, idx, y, host) ∈ nwL) ∧ Cond.static y ∈ tb
def LkV (own : String) (idx : Nat) (y : MethodName) (M' : Mi) (n ci : Nat) : Prop := LkB y M' n ∧ Cond.methodLink own idx y ∈ tb ∧ Cond.instanceMethod y ∈ tb ∧ Cond.selects y.cls y y ∈ tb ∧ (∃ r0, vwCl[ci]? = some r0 ∧ r0.1 = y.cls) ∧ ci < 9
def LkI (own : String) (idx : Nat) (y : MethodName) (M' : Mi) (n : Nat) : Prop := LkB y M' n ∧ Cond.methodLink own idx y ∈ tb ∧ Cond.instanceMethod y ∈ tb
def LkIN (own : String) (idx : Nat) (y : MethodName) (M' : Mi) (n : Nat) : Prop := LkB y M' n ∧ (∃ host, (own, idx, y, host) ∈ nwL) ∧ Cond.instanceMethod y ∈ tb
theorem w_248 : (Cond.fieldLink RX0 19 RX0 "depth" "I" : Cond) ∈ tb := tb_at 248 (by decide +kernel) (by decide +kernel)
theorem fX0_19 : FL RX0 19 0 2 0 := ⟨by decide, rfl, RX0, TX0, 14, rfl, by decide, w_248, inX0⟩
theorem w_250 : (Cond.fieldLink RX0 22 RX0 "length" "I" : Cond) ∈ tb := tb_at 250 (by decide +kernel) (by decide +kernel)
theorem fX0_22 : FL RX0 22 0 3 0 := ⟨by decide, rfl, RX0, TX0, 14, rfl, by decide, w_250, inX0⟩
theorem w_252 : (Cond.fieldLink RX0 25 RX0 "low" "I" : Cond) ∈ tb := tb_at 252 (by decide +kernel) (by decide +kernel)
theorem fX0_25 : FL RX0 25 0 4 0 := ⟨by decide, rfl, RX0, TX0, 14, rfl, by decide, w_252, inX0⟩
theorem w_254 : (Cond.fieldLink RX0 28 RX0 "spread" "I" : Cond) ∈ tb := tb_at 254 (by decide +kernel) (by decide +kernel)
theorem fX0_28 : FL RX0 28 0 5 0 := ⟨by decide, rfl, RX0, TX0, 14, rfl, by decide, w_254, inX0⟩
theorem w_256 : (Cond.fieldLink RX0 31 RX0 "last" "I" : Cond) ∈ tb := tb_at 256 (by decide +kernel) (by decide +kernel)
theorem fX0_31 : FL RX0 31 0 6 0 := ⟨by decide, rfl, RX0, TX0, 14, rfl, by decide, w_256, inX0⟩
theorem w_257 : (Cond.fieldLink RX0 34 RX0 "turn" "I" : Cond) ∈ tb := tb_at 257 (by decide +kernel) (by decide +kernel)
theorem fX0_34 : FL RX0 34 0 7 0 := ⟨by decide, rfl, RX0, TX0, 14, rfl, by decide, w_257, inX0⟩
theorem w_266 : (Cond.fieldLink RX0 57 RX0 "endX" "J" : Cond) ∈ tb := tb_at 266 (by decide +kernel) (by decide +kernel)
theorem fX0_57 : FL RX0 57 0 12 1 := ⟨by decide, rfl, RX0, TX0, 14, rfl, by decide, w_266, inX0⟩
theorem w_260 : (Cond.fieldLink RX0 61 RX0 "startX" "J" : Cond) ∈ tb := tb_at 260 (by decide +kernel) (by decide +kernel)
theorem fX0_61 : FL RX0 61 0 8 1 := ⟨by decide, rfl, RX0, TX0, 14, rfl, by decide, w_260, inX0⟩
theorem w_269 : (Cond.fieldLink RX0 64 RX0 "endY" "J" : Cond) ∈ tb := tb_at 269 (by decide +kernel) (by decide +kernel)
theorem fX0_64 : FL RX0 64 0 13 1 := ⟨by decide, rfl, RX0, TX0, 14, rfl, by decide, w_269, inX0⟩
theorem w_261 : (Cond.fieldLink RX0 67 RX0 "startY" "J" : Cond) ∈ tb := tb_at 261 (by decide +kernel) (by decide +kernel)
theorem fX0_67 : FL RX0 67 0 9 1 := ⟨by decide, rfl, RX0, TX0, 14, rfl, by decide, w_261, inX0⟩
theorem w_262 : (Cond.fieldLink RX0 72 RX0 "directionX" "J" : Cond) ∈ tb := tb_at 262 (by decide +kernel) (by decide +kernel)
theorem fX0_72 : FL RX0 72 0 10 1 := ⟨by decide, rfl, RX0, TX0, 14, rfl, by decide, w_262, inX0⟩
theorem w_263 : (Cond.fieldLink RX0 75 RX0 "directionY" "J" : Cond) ∈ tb := tb_at 263 (by decide +kernel) (by decide +kernel)
theorem fX0_75 : FL RX0 75 0 11 1 := ⟨by decide, rfl, RX0, TX0, 14, rfl, by decide, w_263, inX0⟩
theorem w_244 : (Cond.fieldLink RX0 9 RX0 "parent" "LBoneSteps$Bone;" : Cond) ∈ tb := tb_at 244 (by decide +kernel) (by decide +kernel)
theorem fX0_9 : FL RX0 9 0 0 2 := ⟨by decide, rfl, RX0, TX0, 14, rfl, by decide, w_244, inX0⟩
theorem w_112 : (Cond.fieldLink RX2 11 RX2 "clips" "[LBoneSteps$Clip;" : Cond) ∈ tb := tb_at 112 (by decide +kernel) (by decide +kernel)
theorem fX2_11 : FL RX2 11 2 0 2 := ⟨by decide, rfl, RX2, TX2, 2, rfl, by decide, w_112, inX2⟩
theorem w_104 : (Cond.fieldLink RX2 24 RX1 "size" "I" : Cond) ∈ tb := tb_at 104 (by decide +kernel) (by decide +kernel)
theorem fX2_24 : FL RX2 24 1 1 0 := ⟨by decide, rfl, RX1, TX1, 2, rfl, by decide, w_104, inX1⟩
theorem w_100 : (Cond.fieldLink RX2 28 RX1 "frames" "[[I" : Cond) ∈ tb := tb_at 100 (by decide +kernel) (by decide +kernel)
theorem fX2_28 : FL RX2 28 1 0 2 := ⟨by decide, rfl, RX1, TX1, 2, rfl, by decide, w_100, inX1⟩
theorem w_113 : (Cond.fieldLink RX2 36 RX2 "width" "I" : Cond) ∈ tb := tb_at 113 (by decide +kernel) (by decide +kernel)
theorem fX2_36 : FL RX2 36 2 1 0 := ⟨by decide, rfl, RX2, TX2, 2, rfl, by decide, w_113, inX2⟩
theorem w_143 : (Cond.fieldLink RX3 15 RX3 "walkCost" "I" : Cond) ∈ tb := tb_at 143 (by decide +kernel) (by decide +kernel)
theorem fX3_15 : FL RX3 15 3 1 0 := ⟨by decide, rfl, RX3, TX3, 9, rfl, by decide, w_143, inX3⟩
theorem w_145 : (Cond.fieldLink RX3 18 RX3 "path" "[I" : Cond) ∈ tb := tb_at 145 (by decide +kernel) (by decide +kernel)
theorem fX3_18 : FL RX3 18 3 2 2 := ⟨by decide, rfl, RX3, TX3, 9, rfl, by decide, w_145, inX3⟩
theorem w_149 : (Cond.fieldLink RX3 22 RX3 "slots" "[I" : Cond) ∈ tb := tb_at 149 (by decide +kernel) (by decide +kernel)
theorem fX3_22 : FL RX3 22 3 4 2 := ⟨by decide, rfl, RX3, TX3, 9, rfl, by decide, w_149, inX3⟩
theorem w_151 : (Cond.fieldLink RX3 25 RX3 "costs" "[I" : Cond) ∈ tb := tb_at 151 (by decide +kernel) (by decide +kernel)
theorem fX3_25 : FL RX3 25 3 6 2 := ⟨by decide, rfl, RX3, TX3, 9, rfl, by decide, w_151, inX3⟩
theorem w_152 : (Cond.fieldLink RX3 28 RX3 "followers" "[I" : Cond) ∈ tb := tb_at 152 (by decide +kernel) (by decide +kernel)
theorem fX3_28 : FL RX3 28 3 7 2 := ⟨by decide, rfl, RX3, TX3, 9, rfl, by decide, w_152, inX3⟩
theorem w_153 : (Cond.fieldLink RX3 31 RX3 "settled" "[Z" : Cond) ∈ tb := tb_at 153 (by decide +kernel) (by decide +kernel)
theorem fX3_31 : FL RX3 31 3 8 2 := ⟨by decide, rfl, RX3, TX3, 9, rfl, by decide, w_153, inX3⟩
theorem w_150 : (Cond.fieldLink RX3 57 RX3 "slotCount" "I" : Cond) ∈ tb := tb_at 150 (by decide +kernel) (by decide +kernel)
theorem fX3_57 : FL RX3 57 3 5 0 := ⟨by decide, rfl, RX3, TX3, 9, rfl, by decide, w_150, inX3⟩
theorem w_141 : (Cond.fieldLink RX3 9 RX3 "join" "I" : Cond) ∈ tb := tb_at 141 (by decide +kernel) (by decide +kernel)
theorem fX3_9 : FL RX3 9 3 0 0 := ⟨by decide, rfl, RX3, TX3, 9, rfl, by decide, w_141, inX3⟩
theorem w_128 : (Cond.fieldLink RX4 15 RX4 "size" "I" : Cond) ∈ tb := tb_at 128 (by decide +kernel) (by decide +kernel)
theorem fX4_15 : FL RX4 15 4 1 0 := ⟨by decide, rfl, RX4, TX4, 2, rfl, by decide, w_128, inX4⟩
theorem w_103 : (Cond.fieldLink RX4 19 RX1 "size" "I" : Cond) ∈ tb := tb_at 103 (by decide +kernel) (by decide +kernel)
theorem fX4_19 : FL RX4 19 1 1 0 := ⟨by decide, rfl, RX1, TX1, 2, rfl, by decide, w_103, inX1⟩
theorem w_66 : (Cond.fieldLink RX4 30 RX6 "size" "I" : Cond) ∈ tb := tb_at 66 (by decide +kernel) (by decide +kernel)
theorem fX4_30 : FL RX4 30 6 1 0 := ⟨by decide, rfl, RX6, TX6, 5, rfl, by decide, w_66, inX6⟩
theorem w_62 : (Cond.fieldLink RX4 33 RX6 "bones" "[LBoneSteps$Bone;" : Cond) ∈ tb := tb_at 62 (by decide +kernel) (by decide +kernel)
theorem fX4_33 : FL RX4 33 6 0 2 := ⟨by decide, rfl, RX6, TX6, 5, rfl, by decide, w_62, inX6⟩
theorem w_101 : (Cond.fieldLink RX4 37 RX1 "frames" "[[I" : Cond) ∈ tb := tb_at 101 (by decide +kernel) (by decide +kernel)
theorem fX4_37 : FL RX4 37 1 0 2 := ⟨by decide, rfl, RX1, TX1, 2, rfl, by decide, w_101, inX1⟩
theorem w_126 : (Cond.fieldLink RX4 9 RX4 "keys" "[I" : Cond) ∈ tb := tb_at 126 (by decide +kernel) (by decide +kernel)
theorem fX4_9 : FL RX4 9 4 0 2 := ⟨by decide, rfl, RX4, TX4, 2, rfl, by decide, w_126, inX4⟩
theorem w_183 : (Cond.fieldLink RX5 15 RX5 "lost" "Z" : Cond) ∈ tb := tb_at 183 (by decide +kernel) (by decide +kernel)
theorem fX5_15 : FL RX5 15 5 1 0 := ⟨by decide, rfl, RX5, TX5, 4, rfl, by decide, w_183, inX5⟩
theorem w_185 : (Cond.fieldLink RX5 25 RX5 "form" "I" : Cond) ∈ tb := tb_at 185 (by decide +kernel) (by decide +kernel)
theorem fX5_25 : FL RX5 25 5 2 0 := ⟨by decide, rfl, RX5, TX5, 4, rfl, by decide, w_185, inX5⟩
theorem w_187 : (Cond.fieldLink RX5 29 RX5 "size" "I" : Cond) ∈ tb := tb_at 187 (by decide +kernel) (by decide +kernel)
theorem fX5_29 : FL RX5 29 5 3 0 := ⟨by decide, rfl, RX5, TX5, 4, rfl, by decide, w_187, inX5⟩
theorem w_181 : (Cond.fieldLink RX5 9 RX5 "items" "[I" : Cond) ∈ tb := tb_at 181 (by decide +kernel) (by decide +kernel)
theorem fX5_9 : FL RX5 9 5 0 2 := ⟨by decide, rfl, RX5, TX5, 4, rfl, by decide, w_181, inX5⟩
theorem w_61 : (Cond.fieldLink RX6 11 RX6 "bones" "[LBoneSteps$Bone;" : Cond) ∈ tb := tb_at 61 (by decide +kernel) (by decide +kernel)
theorem fX6_11 : FL RX6 11 6 0 2 := ⟨by decide, rfl, RX6, TX6, 5, rfl, by decide, w_61, inX6⟩
theorem w_67 : (Cond.fieldLink RX6 17 RX6 "locked" "I" : Cond) ∈ tb := tb_at 67 (by decide +kernel) (by decide +kernel)
theorem fX6_17 : FL RX6 17 6 2 0 := ⟨by decide, rfl, RX6, TX6, 5, rfl, by decide, w_67, inX6⟩
theorem w_64 : (Cond.fieldLink RX6 21 RX6 "size" "I" : Cond) ∈ tb := tb_at 64 (by decide +kernel) (by decide +kernel)
theorem fX6_21 : FL RX6 21 6 1 0 := ⟨by decide, rfl, RX6, TX6, 5, rfl, by decide, w_64, inX6⟩
theorem w_69 : (Cond.fieldLink RX6 28 RX6 "rootX" "J" : Cond) ∈ tb := tb_at 69 (by decide +kernel) (by decide +kernel)
theorem fX6_28 : FL RX6 28 6 3 1 := ⟨by decide, rfl, RX6, TX6, 5, rfl, by decide, w_69, inX6⟩
theorem w_71 : (Cond.fieldLink RX6 32 RX6 "rootY" "J" : Cond) ∈ tb := tb_at 71 (by decide +kernel) (by decide +kernel)
theorem fX6_32 : FL RX6 32 6 4 1 := ⟨by decide, rfl, RX6, TX6, 5, rfl, by decide, w_71, inX6⟩
theorem w_264 : (Cond.fieldLink RX6 45 RX0 "endX" "J" : Cond) ∈ tb := tb_at 264 (by decide +kernel) (by decide +kernel)
theorem fX6_45 : FL RX6 45 0 12 1 := ⟨by decide, rfl, RX0, TX0, 14, rfl, by decide, w_264, inX0⟩
theorem w_267 : (Cond.fieldLink RX6 48 RX0 "endY" "J" : Cond) ∈ tb := tb_at 267 (by decide +kernel) (by decide +kernel)
theorem fX6_48 : FL RX6 48 0 13 1 := ⟨by decide, rfl, RX0, TX0, 14, rfl, by decide, w_267, inX0⟩
theorem w_259 : (Cond.fieldLink RX6 51 RX0 "turn" "I" : Cond) ∈ tb := tb_at 259 (by decide +kernel) (by decide +kernel)
theorem fX6_51 : FL RX6 51 0 7 0 := ⟨by decide, rfl, RX0, TX0, 14, rfl, by decide, w_259, inX0⟩
theorem w_245 : (Cond.fieldLink RX6 74 RX0 "parent" "LBoneSteps$Bone;" : Cond) ∈ tb := tb_at 245 (by decide +kernel) (by decide +kernel)
theorem fX6_74 : FL RX6 74 0 0 2 := ⟨by decide, rfl, RX0, TX0, 14, rfl, by decide, w_245, inX0⟩
theorem w_311 : (Cond.fieldLink RX7 15 RX7 "COSINES" "[I" : Cond) ∈ tb := tb_at 311 (by decide +kernel) (by decide +kernel)
theorem fsX7_15 : Cond.fieldLink RX7 15 RX7 "COSINES" "[I" ∈ tb := w_311
theorem w_68 : (Cond.fieldLink RX8 106 RX6 "locked" "I" : Cond) ∈ tb := tb_at 68 (by decide +kernel) (by decide +kernel)
theorem fX8_106 : FL RX8 106 6 2 0 := ⟨by decide, rfl, RX6, TX6, 5, rfl, by decide, w_68, inX6⟩
theorem w_70 : (Cond.fieldLink RX8 117 RX6 "rootX" "J" : Cond) ∈ tb := tb_at 70 (by decide +kernel) (by decide +kernel)
theorem fX8_117 : FL RX8 117 6 3 1 := ⟨by decide, rfl, RX6, TX6, 5, rfl, by decide, w_70, inX6⟩
theorem w_198 : (Cond.fieldLink RX8 12 RX8 "skeleton" "LBoneSteps$Skeleton;" : Cond) ∈ tb := tb_at 198 (by decide +kernel) (by decide +kernel)
theorem fX8_12 : FL RX8 12 7 0 2 := ⟨by decide, rfl, RX8, TX8, 6, rfl, by decide, w_198, inX8⟩
theorem w_72 : (Cond.fieldLink RX8 121 RX6 "rootY" "J" : Cond) ∈ tb := tb_at 72 (by decide +kernel) (by decide +kernel)
theorem fX8_121 : FL RX8 121 6 4 1 := ⟨by decide, rfl, RX6, TX6, 5, rfl, by decide, w_72, inX6⟩
theorem w_265 : (Cond.fieldLink RX8 124 RX0 "endX" "J" : Cond) ∈ tb := tb_at 265 (by decide +kernel) (by decide +kernel)
theorem fX8_124 : FL RX8 124 0 12 1 := ⟨by decide, rfl, RX0, TX0, 14, rfl, by decide, w_265, inX0⟩
theorem w_268 : (Cond.fieldLink RX8 127 RX0 "endY" "J" : Cond) ∈ tb := tb_at 268 (by decide +kernel) (by decide +kernel)
theorem fX8_127 : FL RX8 127 0 13 1 := ⟨by decide, rfl, RX0, TX0, 14, rfl, by decide, w_268, inX0⟩
theorem w_105 : (Cond.fieldLink RX8 147 RX1 "size" "I" : Cond) ∈ tb := tb_at 105 (by decide +kernel) (by decide +kernel)
theorem fX8_147 : FL RX8 147 1 1 0 := ⟨by decide, rfl, RX1, TX1, 2, rfl, by decide, w_105, inX1⟩
theorem w_102 : (Cond.fieldLink RX8 150 RX1 "frames" "[[I" : Cond) ∈ tb := tb_at 102 (by decide +kernel) (by decide +kernel)
theorem fX8_150 : FL RX8 150 1 0 2 := ⟨by decide, rfl, RX1, TX1, 2, rfl, by decide, w_102, inX1⟩
theorem w_129 : (Cond.fieldLink RX8 189 RX4 "size" "I" : Cond) ∈ tb := tb_at 129 (by decide +kernel) (by decide +kernel)
theorem fX8_189 : FL RX8 189 4 1 0 := ⟨by decide, rfl, RX4, TX4, 2, rfl, by decide, w_129, inX4⟩
theorem w_199 : (Cond.fieldLink RX8 19 RX8 "clips" "LBoneSteps$Clips;" : Cond) ∈ tb := tb_at 199 (by decide +kernel) (by decide +kernel)
theorem fX8_19 : FL RX8 19 7 1 2 := ⟨by decide, rfl, RX8, TX8, 6, rfl, by decide, w_199, inX8⟩
theorem w_127 : (Cond.fieldLink RX8 190 RX4 "keys" "[I" : Cond) ∈ tb := tb_at 127 (by decide +kernel) (by decide +kernel)
theorem fX8_190 : FL RX8 190 4 0 2 := ⟨by decide, rfl, RX4, TX4, 2, rfl, by decide, w_127, inX4⟩
theorem w_142 : (Cond.fieldLink RX8 198 RX3 "join" "I" : Cond) ∈ tb := tb_at 142 (by decide +kernel) (by decide +kernel)
theorem fX8_198 : FL RX8 198 3 0 0 := ⟨by decide, rfl, RX3, TX3, 9, rfl, by decide, w_142, inX3⟩
theorem w_144 : (Cond.fieldLink RX8 209 RX3 "walkCost" "I" : Cond) ∈ tb := tb_at 144 (by decide +kernel) (by decide +kernel)
theorem fX8_209 : FL RX8 209 3 1 0 := ⟨by decide, rfl, RX3, TX3, 9, rfl, by decide, w_144, inX3⟩
theorem w_148 : (Cond.fieldLink RX8 212 RX3 "pathSize" "I" : Cond) ∈ tb := tb_at 148 (by decide +kernel) (by decide +kernel)
theorem fX8_212 : FL RX8 212 3 3 0 := ⟨by decide, rfl, RX3, TX3, 9, rfl, by decide, w_148, inX3⟩
theorem w_146 : (Cond.fieldLink RX8 215 RX3 "path" "[I" : Cond) ∈ tb := tb_at 146 (by decide +kernel) (by decide +kernel)
theorem fX8_215 : FL RX8 215 3 2 2 := ⟨by decide, rfl, RX3, TX3, 9, rfl, by decide, w_146, inX3⟩
theorem w_184 : (Cond.fieldLink RX8 233 RX5 "lost" "Z" : Cond) ∈ tb := tb_at 184 (by decide +kernel) (by decide +kernel)
theorem fX8_233 : FL RX8 233 5 1 0 := ⟨by decide, rfl, RX5, TX5, 4, rfl, by decide, w_184, inX5⟩
theorem w_188 : (Cond.fieldLink RX8 237 RX5 "size" "I" : Cond) ∈ tb := tb_at 188 (by decide +kernel) (by decide +kernel)
theorem fX8_237 : FL RX8 237 5 3 0 := ⟨by decide, rfl, RX5, TX5, 4, rfl, by decide, w_188, inX5⟩
theorem w_182 : (Cond.fieldLink RX8 246 RX5 "items" "[I" : Cond) ∈ tb := tb_at 182 (by decide +kernel) (by decide +kernel)
theorem fX8_246 : FL RX8 246 5 0 2 := ⟨by decide, rfl, RX5, TX5, 4, rfl, by decide, w_182, inX5⟩
theorem w_186 : (Cond.fieldLink RX8 249 RX5 "form" "I" : Cond) ∈ tb := tb_at 186 (by decide +kernel) (by decide +kernel)
theorem fX8_249 : FL RX8 249 5 2 0 := ⟨by decide, rfl, RX5, TX5, 4, rfl, by decide, w_186, inX5⟩
theorem w_200 : (Cond.fieldLink RX8 26 RX8 "packing" "LBoneSteps$Packing;" : Cond) ∈ tb := tb_at 200 (by decide +kernel) (by decide +kernel)
theorem fX8_26 : FL RX8 26 7 2 2 := ⟨by decide, rfl, RX8, TX8, 6, rfl, by decide, w_200, inX8⟩
theorem w_63 : (Cond.fieldLink RX8 269 RX6 "bones" "[LBoneSteps$Bone;" : Cond) ∈ tb := tb_at 63 (by decide +kernel) (by decide +kernel)
theorem fX8_269 : FL RX8 269 6 0 2 := ⟨by decide, rfl, RX6, TX6, 5, rfl, by decide, w_63, inX6⟩
theorem w_201 : (Cond.fieldLink RX8 33 RX8 "graph" "LBoneSteps$Graph;" : Cond) ∈ tb := tb_at 201 (by decide +kernel) (by decide +kernel)
theorem fX8_33 : FL RX8 33 7 3 2 := ⟨by decide, rfl, RX8, TX8, 6, rfl, by decide, w_201, inX8⟩
theorem w_202 : (Cond.fieldLink RX8 39 RX8 "sheets" "[LBoneSteps$Sheet;" : Cond) ∈ tb := tb_at 202 (by decide +kernel) (by decide +kernel)
theorem fX8_39 : FL RX8 39 7 4 2 := ⟨by decide, rfl, RX8, TX8, 6, rfl, by decide, w_202, inX8⟩
theorem w_203 : (Cond.fieldLink RX8 43 RX8 "finding" "I" : Cond) ∈ tb := tb_at 203 (by decide +kernel) (by decide +kernel)
theorem fX8_43 : FL RX8 43 7 5 0 := ⟨by decide, rfl, RX8, TX8, 6, rfl, by decide, w_203, inX8⟩
theorem w_249 : (Cond.fieldLink RX8 62 RX0 "depth" "I" : Cond) ∈ tb := tb_at 249 (by decide +kernel) (by decide +kernel)
theorem fX8_62 : FL RX8 62 0 2 0 := ⟨by decide, rfl, RX0, TX0, 14, rfl, by decide, w_249, inX0⟩
theorem w_65 : (Cond.fieldLink RX8 71 RX6 "size" "I" : Cond) ∈ tb := tb_at 65 (by decide +kernel) (by decide +kernel)
theorem fX8_71 : FL RX8 71 6 1 0 := ⟨by decide, rfl, RX6, TX6, 5, rfl, by decide, w_65, inX6⟩
theorem w_247 : (Cond.fieldLink RX8 81 RX0 "parentNumber" "I" : Cond) ∈ tb := tb_at 247 (by decide +kernel) (by decide +kernel)
theorem fX8_81 : FL RX8 81 0 1 0 := ⟨by decide, rfl, RX0, TX0, 14, rfl, by decide, w_247, inX0⟩
theorem w_251 : (Cond.fieldLink RX8 84 RX0 "length" "I" : Cond) ∈ tb := tb_at 251 (by decide +kernel) (by decide +kernel)
theorem fX8_84 : FL RX8 84 0 3 0 := ⟨by decide, rfl, RX0, TX0, 14, rfl, by decide, w_251, inX0⟩
theorem w_253 : (Cond.fieldLink RX8 87 RX0 "low" "I" : Cond) ∈ tb := tb_at 253 (by decide +kernel) (by decide +kernel)
theorem fX8_87 : FL RX8 87 0 4 0 := ⟨by decide, rfl, RX0, TX0, 14, rfl, by decide, w_253, inX0⟩
theorem w_255 : (Cond.fieldLink RX8 90 RX0 "spread" "I" : Cond) ∈ tb := tb_at 255 (by decide +kernel) (by decide +kernel)
theorem fX8_90 : FL RX8 90 0 5 0 := ⟨by decide, rfl, RX0, TX0, 14, rfl, by decide, w_255, inX0⟩
theorem w_258 : (Cond.fieldLink RX8 93 RX0 "turn" "I" : Cond) ∈ tb := tb_at 258 (by decide +kernel) (by decide +kernel)
theorem fX8_93 : FL RX8 93 0 7 0 := ⟨by decide, rfl, RX0, TX0, 14, rfl, by decide, w_258, inX0⟩
theorem w_696 : (Cond.fieldLink RX9 111 RX9 "bones" "I" : Cond) ∈ tb := tb_at 696 (by decide +kernel) (by decide +kernel)
theorem fX9_111 : FL RX9 111 8 2 0 := ⟨by decide, rfl, RX9, TX9, 35, rfl, by decide, w_696, inX9⟩
theorem w_695 : (Cond.fieldLink RX9 13 RX9 "ss" "[I" : Cond) ∈ tb := tb_at 695 (by decide +kernel) (by decide +kernel)
theorem fX9_13 : FL RX9 13 8 1 2 := ⟨by decide, rfl, RX9, TX9, 35, rfl, by decide, w_695, inX9⟩
theorem w_703 : (Cond.fieldLink RX9 140 RX9 "rootX" "J" : Cond) ∈ tb := tb_at 703 (by decide +kernel) (by decide +kernel)
theorem fX9_140 : FL RX9 140 8 9 1 := ⟨by decide, rfl, RX9, TX9, 35, rfl, by decide, w_703, inX9⟩
theorem w_704 : (Cond.fieldLink RX9 144 RX9 "rootY" "J" : Cond) ∈ tb := tb_at 704 (by decide +kernel) (by decide +kernel)
theorem fX9_144 : FL RX9 144 8 10 1 := ⟨by decide, rfl, RX9, TX9, 35, rfl, by decide, w_704, inX9⟩
theorem w_710 : (Cond.fieldLink RX9 150 RX9 "keptX" "J" : Cond) ∈ tb := tb_at 710 (by decide +kernel) (by decide +kernel)
theorem fX9_150 : FL RX9 150 8 16 1 := ⟨by decide, rfl, RX9, TX9, 35, rfl, by decide, w_710, inX9⟩
theorem w_711 : (Cond.fieldLink RX9 153 RX9 "keptY" "J" : Cond) ∈ tb := tb_at 711 (by decide +kernel) (by decide +kernel)
theorem fX9_153 : FL RX9 153 8 17 1 := ⟨by decide, rfl, RX9, TX9, 35, rfl, by decide, w_711, inX9⟩
theorem w_697 : (Cond.fieldLink RX9 16 RX9 "parent" "[I" : Cond) ∈ tb := tb_at 697 (by decide +kernel) (by decide +kernel)
theorem fX9_16 : FL RX9 16 8 3 2 := ⟨by decide, rfl, RX9, TX9, 35, rfl, by decide, w_697, inX9⟩
theorem w_698 : (Cond.fieldLink RX9 19 RX9 "length" "[I" : Cond) ∈ tb := tb_at 698 (by decide +kernel) (by decide +kernel)
theorem fX9_19 : FL RX9 19 8 4 2 := ⟨by decide, rfl, RX9, TX9, 35, rfl, by decide, w_698, inX9⟩
theorem w_714 : (Cond.fieldLink RX9 199 RX9 "keys" "I" : Cond) ∈ tb := tb_at 714 (by decide +kernel) (by decide +kernel)
theorem fX9_199 : FL RX9 199 8 20 0 := ⟨by decide, rfl, RX9, TX9, 35, rfl, by decide, w_714, inX9⟩
theorem w_699 : (Cond.fieldLink RX9 22 RX9 "low" "[I" : Cond) ∈ tb := tb_at 699 (by decide +kernel) (by decide +kernel)
theorem fX9_22 : FL RX9 22 8 5 2 := ⟨by decide, rfl, RX9, TX9, 35, rfl, by decide, w_699, inX9⟩
theorem w_722 : (Cond.fieldLink RX9 225 RX9 "steps" "I" : Cond) ∈ tb := tb_at 722 (by decide +kernel) (by decide +kernel)
theorem fX9_225 : FL RX9 225 8 28 0 := ⟨by decide, rfl, RX9, TX9, 35, rfl, by decide, w_722, inX9⟩
theorem w_728 : (Cond.fieldLink RX9 228 RX9 "latest" "I" : Cond) ∈ tb := tb_at 728 (by decide +kernel) (by decide +kernel)
theorem fX9_228 : FL RX9 228 8 34 0 := ⟨by decide, rfl, RX9, TX9, 35, rfl, by decide, w_728, inX9⟩
theorem w_700 : (Cond.fieldLink RX9 25 RX9 "spread" "[I" : Cond) ∈ tb := tb_at 700 (by decide +kernel) (by decide +kernel)
theorem fX9_25 : FL RX9 25 8 6 2 := ⟨by decide, rfl, RX9, TX9, 35, rfl, by decide, w_700, inX9⟩
theorem w_701 : (Cond.fieldLink RX9 28 RX9 "depth" "[I" : Cond) ∈ tb := tb_at 701 (by decide +kernel) (by decide +kernel)
theorem fX9_28 : FL RX9 28 8 7 2 := ⟨by decide, rfl, RX9, TX9, 35, rfl, by decide, w_701, inX9⟩
theorem w_702 : (Cond.fieldLink RX9 31 RX9 "pose" "[I" : Cond) ∈ tb := tb_at 702 (by decide +kernel) (by decide +kernel)
theorem fX9_31 : FL RX9 31 8 8 2 := ⟨by decide, rfl, RX9, TX9, 35, rfl, by decide, w_702, inX9⟩
theorem w_705 : (Cond.fieldLink RX9 34 RX9 "locked" "I" : Cond) ∈ tb := tb_at 705 (by decide +kernel) (by decide +kernel)
theorem fX9_34 : FL RX9 34 8 11 0 := ⟨by decide, rfl, RX9, TX9, 35, rfl, by decide, w_705, inX9⟩
theorem w_706 : (Cond.fieldLink RX9 38 RX9 "dirX" "[J" : Cond) ∈ tb := tb_at 706 (by decide +kernel) (by decide +kernel)
theorem fX9_38 : FL RX9 38 8 12 2 := ⟨by decide, rfl, RX9, TX9, 35, rfl, by decide, w_706, inX9⟩
theorem w_707 : (Cond.fieldLink RX9 42 RX9 "dirY" "[J" : Cond) ∈ tb := tb_at 707 (by decide +kernel) (by decide +kernel)
theorem fX9_42 : FL RX9 42 8 13 2 := ⟨by decide, rfl, RX9, TX9, 35, rfl, by decide, w_707, inX9⟩
theorem w_708 : (Cond.fieldLink RX9 45 RX9 "endX" "[J" : Cond) ∈ tb := tb_at 708 (by decide +kernel) (by decide +kernel)
theorem fX9_45 : FL RX9 45 8 14 2 := ⟨by decide, rfl, RX9, TX9, 35, rfl, by decide, w_708, inX9⟩
theorem w_709 : (Cond.fieldLink RX9 48 RX9 "endY" "[J" : Cond) ∈ tb := tb_at 709 (by decide +kernel) (by decide +kernel)
theorem fX9_48 : FL RX9 48 8 15 2 := ⟨by decide, rfl, RX9, TX9, 35, rfl, by decide, w_709, inX9⟩
theorem w_712 : (Cond.fieldLink RX9 51 RX9 "size" "[I" : Cond) ∈ tb := tb_at 712 (by decide +kernel) (by decide +kernel)
theorem fX9_51 : FL RX9 51 8 18 2 := ⟨by decide, rfl, RX9, TX9, 35, rfl, by decide, w_712, inX9⟩
theorem w_713 : (Cond.fieldLink RX9 54 RX9 "clips" "[I" : Cond) ∈ tb := tb_at 713 (by decide +kernel) (by decide +kernel)
theorem fX9_54 : FL RX9 54 8 19 2 := ⟨by decide, rfl, RX9, TX9, 35, rfl, by decide, w_713, inX9⟩
theorem w_715 : (Cond.fieldLink RX9 57 RX9 "key" "[I" : Cond) ∈ tb := tb_at 715 (by decide +kernel) (by decide +kernel)
theorem fX9_57 : FL RX9 57 8 21 2 := ⟨by decide, rfl, RX9, TX9, 35, rfl, by decide, w_715, inX9⟩
theorem w_716 : (Cond.fieldLink RX9 60 RX9 "join" "I" : Cond) ∈ tb := tb_at 716 (by decide +kernel) (by decide +kernel)
theorem fX9_60 : FL RX9 60 8 22 0 := ⟨by decide, rfl, RX9, TX9, 35, rfl, by decide, w_716, inX9⟩
theorem w_717 : (Cond.fieldLink RX9 63 RX9 "cost" "[I" : Cond) ∈ tb := tb_at 717 (by decide +kernel) (by decide +kernel)
theorem fX9_63 : FL RX9 63 8 23 2 := ⟨by decide, rfl, RX9, TX9, 35, rfl, by decide, w_717, inX9⟩
theorem w_718 : (Cond.fieldLink RX9 66 RX9 "isLive" "[Z" : Cond) ∈ tb := tb_at 718 (by decide +kernel) (by decide +kernel)
theorem fX9_66 : FL RX9 66 8 24 2 := ⟨by decide, rfl, RX9, TX9, 35, rfl, by decide, w_718, inX9⟩
theorem w_694 : (Cond.fieldLink RX9 7 RX9 "cs" "[I" : Cond) ∈ tb := tb_at 694 (by decide +kernel) (by decide +kernel)
theorem fX9_7 : FL RX9 7 8 0 2 := ⟨by decide, rfl, RX9, TX9, 35, rfl, by decide, w_694, inX9⟩
theorem w_719 : (Cond.fieldLink RX9 70 RX9 "dist" "[I" : Cond) ∈ tb := tb_at 719 (by decide +kernel) (by decide +kernel)
theorem fX9_70 : FL RX9 70 8 25 2 := ⟨by decide, rfl, RX9, TX9, 35, rfl, by decide, w_719, inX9⟩
theorem w_720 : (Cond.fieldLink RX9 73 RX9 "isDone" "[Z" : Cond) ∈ tb := tb_at 720 (by decide +kernel) (by decide +kernel)
theorem fX9_73 : FL RX9 73 8 26 2 := ⟨by decide, rfl, RX9, TX9, 35, rfl, by decide, w_720, inX9⟩
theorem w_721 : (Cond.fieldLink RX9 76 RX9 "walked" "I" : Cond) ∈ tb := tb_at 721 (by decide +kernel) (by decide +kernel)
theorem fX9_76 : FL RX9 76 8 27 0 := ⟨by decide, rfl, RX9, TX9, 35, rfl, by decide, w_721, inX9⟩
theorem w_723 : (Cond.fieldLink RX9 79 RX9 "path" "[I" : Cond) ∈ tb := tb_at 723 (by decide +kernel) (by decide +kernel)
theorem fX9_79 : FL RX9 79 8 29 2 := ⟨by decide, rfl, RX9, TX9, 35, rfl, by decide, w_723, inX9⟩
theorem w_724 : (Cond.fieldLink RX9 82 RX9 "forms" "[I" : Cond) ∈ tb := tb_at 724 (by decide +kernel) (by decide +kernel)
theorem fX9_82 : FL RX9 82 8 30 2 := ⟨by decide, rfl, RX9, TX9, 35, rfl, by decide, w_724, inX9⟩
theorem w_725 : (Cond.fieldLink RX9 85 RX9 "sizes" "[I" : Cond) ∈ tb := tb_at 725 (by decide +kernel) (by decide +kernel)
theorem fX9_85 : FL RX9 85 8 31 2 := ⟨by decide, rfl, RX9, TX9, 35, rfl, by decide, w_725, inX9⟩
theorem w_726 : (Cond.fieldLink RX9 88 RX9 "items" "[I" : Cond) ∈ tb := tb_at 726 (by decide +kernel) (by decide +kernel)
theorem fX9_88 : FL RX9 88 8 32 2 := ⟨by decide, rfl, RX9, TX9, 35, rfl, by decide, w_726, inX9⟩
theorem w_727 : (Cond.fieldLink RX9 91 RX9 "moved" "[I" : Cond) ∈ tb := tb_at 727 (by decide +kernel) (by decide +kernel)
theorem fX9_91 : FL RX9 91 8 33 2 := ⟨by decide, rfl, RX9, TX9, 35, rfl, by decide, w_727, inX9⟩
theorem pfX8_12 : PF RX8 12 7 0 2 (.object "BoneSteps$Skeleton") true := ⟨by decide, rfl, RX8, TX8, 6, tyX8, rfl, by decide, w_198, inX8, tyX8_ok, nmX8, rfl, by decide +kernel, by decide⟩
theorem pfX8_19 : PF RX8 19 7 1 2 (.object "BoneSteps$Clips") true := ⟨by decide, rfl, RX8, TX8, 6, tyX8, rfl, by decide, w_199, inX8, tyX8_ok, nmX8, rfl, by decide +kernel, by decide⟩
theorem pfX8_26 : PF RX8 26 7 2 2 (.object "BoneSteps$Packing") true := ⟨by decide, rfl, RX8, TX8, 6, tyX8, rfl, by decide, w_200, inX8, tyX8_ok, nmX8, rfl, by decide +kernel, by decide⟩
theorem pfX8_33 : PF RX8 33 7 3 2 (.object "BoneSteps$Graph") true := ⟨by decide, rfl, RX8, TX8, 6, tyX8, rfl, by decide, w_201, inX8, tyX8_ok, nmX8, rfl, by decide +kernel, by decide⟩
theorem pfX8_39 : PF RX8 39 7 4 2 (.array (.object "BoneSteps$Sheet")) true := ⟨by decide, rfl, RX8, TX8, 6, tyX8, rfl, by decide, w_202, inX8, tyX8_ok, nmX8, rfl, by decide +kernel, by decide⟩
theorem pfX8_43 : PF RX8 43 7 5 0 .int false := ⟨by decide, rfl, RX8, TX8, 6, tyX8, rfl, by decide, w_203, inX8, tyX8_ok, nmX8, rfl, by decide +kernel, by decide⟩
theorem pfX8_93 : PF RX8 93 0 7 0 .int false := ⟨by decide, rfl, RX0, TX0, 14, tyX0, rfl, by decide, w_258, inX0, tyX0_ok, nmX0, rfl, by decide +kernel, by decide⟩
theorem pfX8_106 : PF RX8 106 6 2 0 .int false := ⟨by decide, rfl, RX6, TX6, 5, tyX6, rfl, by decide, w_68, inX6, tyX6_ok, nmX6, rfl, by decide +kernel, by decide⟩
theorem pfX8_147 : PF RX8 147 1 1 0 .int false := ⟨by decide, rfl, RX1, TX1, 2, tyX1, rfl, by decide, w_105, inX1, tyX1_ok, nmX1, rfl, by decide +kernel, by decide⟩
theorem w_114 : (Cond.fieldLink RX8 158 RX2 "width" "I" : Cond) ∈ tb := tb_at 114 (by decide +kernel) (by decide +kernel)
theorem pfX8_158 : PF RX8 158 2 1 0 .int false := ⟨by decide, rfl, RX2, TX2, 2, tyX2, rfl, by decide, w_114, inX2, tyX2_ok, nmX2, rfl, by decide +kernel, by decide⟩
theorem pfX8_198 : PF RX8 198 3 0 0 .int false := ⟨by decide, rfl, RX3, TX3, 9, tyX3, rfl, by decide, w_142, inX3, tyX3_ok, nmX3, rfl, by decide +kernel, by decide⟩
theorem pfX8_233 : PF RX8 233 5 1 0 .boolean false := ⟨by decide, rfl, RX5, TX5, 4, tyX5, rfl, by decide, w_184, inX5, tyX5_ok, nmX5, rfl, by decide +kernel, by decide⟩
theorem pfX0_9 : PF RX0 9 0 0 2 (.object "BoneSteps$Bone") true := ⟨by decide, rfl, RX0, TX0, 14, tyX0, rfl, by decide, w_244, inX0, tyX0_ok, nmX0, rfl, by decide +kernel, by decide⟩
theorem w_246 : (Cond.fieldLink RX0 15 RX0 "parentNumber" "I" : Cond) ∈ tb := tb_at 246 (by decide +kernel) (by decide +kernel)
theorem pfX0_15 : PF RX0 15 0 1 0 .int true := ⟨by decide, rfl, RX0, TX0, 14, tyX0, rfl, by decide, w_246, inX0, tyX0_ok, nmX0, rfl, by decide +kernel, by decide⟩
theorem pfX0_19 : PF RX0 19 0 2 0 .int true := ⟨by decide, rfl, RX0, TX0, 14, tyX0, rfl, by decide, w_248, inX0, tyX0_ok, nmX0, rfl, by decide +kernel, by decide⟩
theorem pfX0_22 : PF RX0 22 0 3 0 .int true := ⟨by decide, rfl, RX0, TX0, 14, tyX0, rfl, by decide, w_250, inX0, tyX0_ok, nmX0, rfl, by decide +kernel, by decide⟩
theorem pfX0_25 : PF RX0 25 0 4 0 .int true := ⟨by decide, rfl, RX0, TX0, 14, tyX0, rfl, by decide, w_252, inX0, tyX0_ok, nmX0, rfl, by decide +kernel, by decide⟩
theorem pfX0_28 : PF RX0 28 0 5 0 .int true := ⟨by decide, rfl, RX0, TX0, 14, tyX0, rfl, by decide, w_254, inX0, tyX0_ok, nmX0, rfl, by decide +kernel, by decide⟩
theorem pfX0_31 : PF RX0 31 0 6 0 .int true := ⟨by decide, rfl, RX0, TX0, 14, tyX0, rfl, by decide, w_256, inX0, tyX0_ok, nmX0, rfl, by decide +kernel, by decide⟩
theorem pfX0_34 : PF RX0 34 0 7 0 .int false := ⟨by decide, rfl, RX0, TX0, 14, tyX0, rfl, by decide, w_257, inX0, tyX0_ok, nmX0, rfl, by decide +kernel, by decide⟩
theorem pfX0_57 : PF RX0 57 0 12 1 .long false := ⟨by decide, rfl, RX0, TX0, 14, tyX0, rfl, by decide, w_266, inX0, tyX0_ok, nmX0, rfl, by decide +kernel, by decide⟩
theorem pfX0_61 : PF RX0 61 0 8 1 .long false := ⟨by decide, rfl, RX0, TX0, 14, tyX0, rfl, by decide, w_260, inX0, tyX0_ok, nmX0, rfl, by decide +kernel, by decide⟩
theorem pfX0_64 : PF RX0 64 0 13 1 .long false := ⟨by decide, rfl, RX0, TX0, 14, tyX0, rfl, by decide, w_269, inX0, tyX0_ok, nmX0, rfl, by decide +kernel, by decide⟩
theorem pfX0_67 : PF RX0 67 0 9 1 .long false := ⟨by decide, rfl, RX0, TX0, 14, tyX0, rfl, by decide, w_261, inX0, tyX0_ok, nmX0, rfl, by decide +kernel, by decide⟩
theorem pfX0_72 : PF RX0 72 0 10 1 .long false := ⟨by decide, rfl, RX0, TX0, 14, tyX0, rfl, by decide, w_262, inX0, tyX0_ok, nmX0, rfl, by decide +kernel, by decide⟩
theorem pfX0_75 : PF RX0 75 0 11 1 .long false := ⟨by decide, rfl, RX0, TX0, 14, tyX0, rfl, by decide, w_263, inX0, tyX0_ok, nmX0, rfl, by decide +kernel, by decide⟩
theorem w_99 : (Cond.fieldLink RX1 11 RX1 "frames" "[[I" : Cond) ∈ tb := tb_at 99 (by decide +kernel) (by decide +kernel)
theorem pfX1_11 : PF RX1 11 1 0 2 (.array (.array .int)) true := ⟨by decide, rfl, RX1, TX1, 2, tyX1, rfl, by decide, w_99, inX1, tyX1_ok, nmX1, rfl, by decide +kernel, by decide⟩
theorem pfX2_11 : PF RX2 11 2 0 2 (.array (.object "BoneSteps$Clip")) true := ⟨by decide, rfl, RX2, TX2, 2, tyX2, rfl, by decide, w_112, inX2, tyX2_ok, nmX2, rfl, by decide +kernel, by decide⟩
theorem pfX3_9 : PF RX3 9 3 0 0 .int false := ⟨by decide, rfl, RX3, TX3, 9, tyX3, rfl, by decide, w_141, inX3, tyX3_ok, nmX3, rfl, by decide +kernel, by decide⟩
theorem pfX3_15 : PF RX3 15 3 1 0 .int false := ⟨by decide, rfl, RX3, TX3, 9, tyX3, rfl, by decide, w_143, inX3, tyX3_ok, nmX3, rfl, by decide +kernel, by decide⟩
theorem pfX3_18 : PF RX3 18 3 2 2 (.array .int) true := ⟨by decide, rfl, RX3, TX3, 9, tyX3, rfl, by decide, w_145, inX3, tyX3_ok, nmX3, rfl, by decide +kernel, by decide⟩
theorem pfX3_22 : PF RX3 22 3 4 2 (.array .int) true := ⟨by decide, rfl, RX3, TX3, 9, tyX3, rfl, by decide, w_149, inX3, tyX3_ok, nmX3, rfl, by decide +kernel, by decide⟩
theorem pfX3_25 : PF RX3 25 3 6 2 (.array .int) true := ⟨by decide, rfl, RX3, TX3, 9, tyX3, rfl, by decide, w_151, inX3, tyX3_ok, nmX3, rfl, by decide +kernel, by decide⟩
theorem pfX3_28 : PF RX3 28 3 7 2 (.array .int) true := ⟨by decide, rfl, RX3, TX3, 9, tyX3, rfl, by decide, w_152, inX3, tyX3_ok, nmX3, rfl, by decide +kernel, by decide⟩
theorem pfX3_31 : PF RX3 31 3 8 2 (.array .boolean) true := ⟨by decide, rfl, RX3, TX3, 9, tyX3, rfl, by decide, w_153, inX3, tyX3_ok, nmX3, rfl, by decide +kernel, by decide⟩
theorem pfX3_57 : PF RX3 57 3 5 0 .int false := ⟨by decide, rfl, RX3, TX3, 9, tyX3, rfl, by decide, w_150, inX3, tyX3_ok, nmX3, rfl, by decide +kernel, by decide⟩
theorem w_147 : (Cond.fieldLink RX3 82 RX3 "pathSize" "I" : Cond) ∈ tb := tb_at 147 (by decide +kernel) (by decide +kernel)
theorem pfX3_82 : PF RX3 82 3 3 0 .int false := ⟨by decide, rfl, RX3, TX3, 9, tyX3, rfl, by decide, w_147, inX3, tyX3_ok, nmX3, rfl, by decide +kernel, by decide⟩
theorem pfX4_9 : PF RX4 9 4 0 2 (.array .int) true := ⟨by decide, rfl, RX4, TX4, 2, tyX4, rfl, by decide, w_126, inX4, tyX4_ok, nmX4, rfl, by decide +kernel, by decide⟩
theorem pfX4_15 : PF RX4 15 4 1 0 .int false := ⟨by decide, rfl, RX4, TX4, 2, tyX4, rfl, by decide, w_128, inX4, tyX4_ok, nmX4, rfl, by decide +kernel, by decide⟩
theorem pfX4_19 : PF RX4 19 1 1 0 .int false := ⟨by decide, rfl, RX1, TX1, 2, tyX1, rfl, by decide, w_103, inX1, tyX1_ok, nmX1, rfl, by decide +kernel, by decide⟩
theorem pfX5_9 : PF RX5 9 5 0 2 (.array .int) true := ⟨by decide, rfl, RX5, TX5, 4, tyX5, rfl, by decide, w_181, inX5, tyX5_ok, nmX5, rfl, by decide +kernel, by decide⟩
theorem pfX5_15 : PF RX5 15 5 1 0 .boolean false := ⟨by decide, rfl, RX5, TX5, 4, tyX5, rfl, by decide, w_183, inX5, tyX5_ok, nmX5, rfl, by decide +kernel, by decide⟩
theorem pfX5_25 : PF RX5 25 5 2 0 .int false := ⟨by decide, rfl, RX5, TX5, 4, tyX5, rfl, by decide, w_185, inX5, tyX5_ok, nmX5, rfl, by decide +kernel, by decide⟩
theorem pfX5_29 : PF RX5 29 5 3 0 .int false := ⟨by decide, rfl, RX5, TX5, 4, tyX5, rfl, by decide, w_187, inX5, tyX5_ok, nmX5, rfl, by decide +kernel, by decide⟩
theorem pfX6_11 : PF RX6 11 6 0 2 (.array (.object "BoneSteps$Bone")) true := ⟨by decide, rfl, RX6, TX6, 5, tyX6, rfl, by decide, w_61, inX6, tyX6_ok, nmX6, rfl, by decide +kernel, by decide⟩
theorem pfX6_17 : PF RX6 17 6 2 0 .int false := ⟨by decide, rfl, RX6, TX6, 5, tyX6, rfl, by decide, w_67, inX6, tyX6_ok, nmX6, rfl, by decide +kernel, by decide⟩
theorem pfX6_21 : PF RX6 21 6 1 0 .int false := ⟨by decide, rfl, RX6, TX6, 5, tyX6, rfl, by decide, w_64, inX6, tyX6_ok, nmX6, rfl, by decide +kernel, by decide⟩
theorem pfX6_28 : PF RX6 28 6 3 1 .long false := ⟨by decide, rfl, RX6, TX6, 5, tyX6, rfl, by decide, w_69, inX6, tyX6_ok, nmX6, rfl, by decide +kernel, by decide⟩
theorem pfX6_32 : PF RX6 32 6 4 1 .long false := ⟨by decide, rfl, RX6, TX6, 5, tyX6, rfl, by decide, w_71, inX6, tyX6_ok, nmX6, rfl, by decide +kernel, by decide⟩
theorem pfX6_51 : PF RX6 51 0 7 0 .int false := ⟨by decide, rfl, RX0, TX0, 14, tyX0, rfl, by decide, w_259, inX0, tyX0_ok, nmX0, rfl, by decide +kernel, by decide⟩
theorem pfX9_7 : PF RX9 7 8 0 2 (.array .int) true := ⟨by decide, rfl, RX9, TX9, 35, tyX9, rfl, by decide, w_694, inX9, tyX9_ok, nmX9, rfl, by decide +kernel, by decide⟩
theorem pfX9_13 : PF RX9 13 8 1 2 (.array .int) true := ⟨by decide, rfl, RX9, TX9, 35, tyX9, rfl, by decide, w_695, inX9, tyX9_ok, nmX9, rfl, by decide +kernel, by decide⟩
theorem pfX9_16 : PF RX9 16 8 3 2 (.array .int) true := ⟨by decide, rfl, RX9, TX9, 35, tyX9, rfl, by decide, w_697, inX9, tyX9_ok, nmX9, rfl, by decide +kernel, by decide⟩
theorem pfX9_19 : PF RX9 19 8 4 2 (.array .int) true := ⟨by decide, rfl, RX9, TX9, 35, tyX9, rfl, by decide, w_698, inX9, tyX9_ok, nmX9, rfl, by decide +kernel, by decide⟩
theorem pfX9_22 : PF RX9 22 8 5 2 (.array .int) true := ⟨by decide, rfl, RX9, TX9, 35, tyX9, rfl, by decide, w_699, inX9, tyX9_ok, nmX9, rfl, by decide +kernel, by decide⟩
theorem pfX9_25 : PF RX9 25 8 6 2 (.array .int) true := ⟨by decide, rfl, RX9, TX9, 35, tyX9, rfl, by decide, w_700, inX9, tyX9_ok, nmX9, rfl, by decide +kernel, by decide⟩
theorem pfX9_28 : PF RX9 28 8 7 2 (.array .int) true := ⟨by decide, rfl, RX9, TX9, 35, tyX9, rfl, by decide, w_701, inX9, tyX9_ok, nmX9, rfl, by decide +kernel, by decide⟩
theorem pfX9_31 : PF RX9 31 8 8 2 (.array .int) true := ⟨by decide, rfl, RX9, TX9, 35, tyX9, rfl, by decide, w_702, inX9, tyX9_ok, nmX9, rfl, by decide +kernel, by decide⟩
theorem pfX9_34 : PF RX9 34 8 11 0 .int false := ⟨by decide, rfl, RX9, TX9, 35, tyX9, rfl, by decide, w_705, inX9, tyX9_ok, nmX9, rfl, by decide +kernel, by decide⟩
theorem pfX9_38 : PF RX9 38 8 12 2 (.array .long) true := ⟨by decide, rfl, RX9, TX9, 35, tyX9, rfl, by decide, w_706, inX9, tyX9_ok, nmX9, rfl, by decide +kernel, by decide⟩
theorem pfX9_42 : PF RX9 42 8 13 2 (.array .long) true := ⟨by decide, rfl, RX9, TX9, 35, tyX9, rfl, by decide, w_707, inX9, tyX9_ok, nmX9, rfl, by decide +kernel, by decide⟩
theorem pfX9_45 : PF RX9 45 8 14 2 (.array .long) true := ⟨by decide, rfl, RX9, TX9, 35, tyX9, rfl, by decide, w_708, inX9, tyX9_ok, nmX9, rfl, by decide +kernel, by decide⟩
theorem pfX9_48 : PF RX9 48 8 15 2 (.array .long) true := ⟨by decide, rfl, RX9, TX9, 35, tyX9, rfl, by decide, w_709, inX9, tyX9_ok, nmX9, rfl, by decide +kernel, by decide⟩
theorem pfX9_51 : PF RX9 51 8 18 2 (.array .int) true := ⟨by decide, rfl, RX9, TX9, 35, tyX9, rfl, by decide, w_712, inX9, tyX9_ok, nmX9, rfl, by decide +kernel, by decide⟩
theorem pfX9_54 : PF RX9 54 8 19 2 (.array .int) true := ⟨by decide, rfl, RX9, TX9, 35, tyX9, rfl, by decide, w_713, inX9, tyX9_ok, nmX9, rfl, by decide +kernel, by decide⟩
theorem pfX9_57 : PF RX9 57 8 21 2 (.array .int) true := ⟨by decide, rfl, RX9, TX9, 35, tyX9, rfl, by decide, w_715, inX9, tyX9_ok, nmX9, rfl, by decide +kernel, by decide⟩
theorem pfX9_60 : PF RX9 60 8 22 0 .int false := ⟨by decide, rfl, RX9, TX9, 35, tyX9, rfl, by decide, w_716, inX9, tyX9_ok, nmX9, rfl, by decide +kernel, by decide⟩
theorem pfX9_63 : PF RX9 63 8 23 2 (.array .int) true := ⟨by decide, rfl, RX9, TX9, 35, tyX9, rfl, by decide, w_717, inX9, tyX9_ok, nmX9, rfl, by decide +kernel, by decide⟩
theorem pfX9_66 : PF RX9 66 8 24 2 (.array .boolean) true := ⟨by decide, rfl, RX9, TX9, 35, tyX9, rfl, by decide, w_718, inX9, tyX9_ok, nmX9, rfl, by decide +kernel, by decide⟩
theorem pfX9_70 : PF RX9 70 8 25 2 (.array .int) true := ⟨by decide, rfl, RX9, TX9, 35, tyX9, rfl, by decide, w_719, inX9, tyX9_ok, nmX9, rfl, by decide +kernel, by decide⟩
theorem pfX9_73 : PF RX9 73 8 26 2 (.array .boolean) true := ⟨by decide, rfl, RX9, TX9, 35, tyX9, rfl, by decide, w_720, inX9, tyX9_ok, nmX9, rfl, by decide +kernel, by decide⟩
theorem pfX9_76 : PF RX9 76 8 27 0 .int false := ⟨by decide, rfl, RX9, TX9, 35, tyX9, rfl, by decide, w_721, inX9, tyX9_ok, nmX9, rfl, by decide +kernel, by decide⟩
theorem pfX9_79 : PF RX9 79 8 29 2 (.array .int) true := ⟨by decide, rfl, RX9, TX9, 35, tyX9, rfl, by decide, w_723, inX9, tyX9_ok, nmX9, rfl, by decide +kernel, by decide⟩
theorem pfX9_82 : PF RX9 82 8 30 2 (.array .int) true := ⟨by decide, rfl, RX9, TX9, 35, tyX9, rfl, by decide, w_724, inX9, tyX9_ok, nmX9, rfl, by decide +kernel, by decide⟩
theorem pfX9_85 : PF RX9 85 8 31 2 (.array .int) true := ⟨by decide, rfl, RX9, TX9, 35, tyX9, rfl, by decide, w_725, inX9, tyX9_ok, nmX9, rfl, by decide +kernel, by decide⟩
theorem pfX9_88 : PF RX9 88 8 32 2 (.array .int) true := ⟨by decide, rfl, RX9, TX9, 35, tyX9, rfl, by decide, w_726, inX9, tyX9_ok, nmX9, rfl, by decide +kernel, by decide⟩
theorem pfX9_91 : PF RX9 91 8 33 2 (.array .int) true := ⟨by decide, rfl, RX9, TX9, 35, tyX9, rfl, by decide, w_727, inX9, tyX9_ok, nmX9, rfl, by decide +kernel, by decide⟩
theorem pfX9_111 : PF RX9 111 8 2 0 .int false := ⟨by decide, rfl, RX9, TX9, 35, tyX9, rfl, by decide, w_696, inX9, tyX9_ok, nmX9, rfl, by decide +kernel, by decide⟩
theorem pfX9_140 : PF RX9 140 8 9 1 .long false := ⟨by decide, rfl, RX9, TX9, 35, tyX9, rfl, by decide, w_703, inX9, tyX9_ok, nmX9, rfl, by decide +kernel, by decide⟩
theorem pfX9_144 : PF RX9 144 8 10 1 .long false := ⟨by decide, rfl, RX9, TX9, 35, tyX9, rfl, by decide, w_704, inX9, tyX9_ok, nmX9, rfl, by decide +kernel, by decide⟩
theorem pfX9_150 : PF RX9 150 8 16 1 .long false := ⟨by decide, rfl, RX9, TX9, 35, tyX9, rfl, by decide, w_710, inX9, tyX9_ok, nmX9, rfl, by decide +kernel, by decide⟩
theorem pfX9_153 : PF RX9 153 8 17 1 .long false := ⟨by decide, rfl, RX9, TX9, 35, tyX9, rfl, by decide, w_711, inX9, tyX9_ok, nmX9, rfl, by decide +kernel, by decide⟩
theorem pfX9_199 : PF RX9 199 8 20 0 .int false := ⟨by decide, rfl, RX9, TX9, 35, tyX9, rfl, by decide, w_714, inX9, tyX9_ok, nmX9, rfl, by decide +kernel, by decide⟩
theorem pfX9_225 : PF RX9 225 8 28 0 .int false := ⟨by decide, rfl, RX9, TX9, 35, tyX9, rfl, by decide, w_722, inX9, tyX9_ok, nmX9, rfl, by decide +kernel, by decide⟩
theorem pfX9_228 : PF RX9 228 8 34 0 .int false := ⟨by decide, rfl, RX9, TX9, 35, tyX9, rfl, by decide, w_728, inX9, tyX9_ok, nmX9, rfl, by decide +kernel, by decide⟩
theorem w_496 : (Cond.constant RX8 178 (2147483647 : Int32) : Cond) ∈ tb := tb_at 496 (by decide +kernel) (by decide +kernel)
theorem ctX8_178 : Cond.constant RX8 178 (2147483647 : Int32) ∈ tb := w_496
theorem w_640 : (Cond.constant RX8 245 (-2147483648 : Int32) : Cond) ∈ tb := tb_at 640 (by decide +kernel) (by decide +kernel)
theorem ctX8_245 : Cond.constant RX8 245 (-2147483648 : Int32) ∈ tb := w_640
theorem w_228 : (Cond.constantLong RX8 52 (100 : Int64) : Cond) ∈ tb := tb_at 228 (by decide +kernel) (by decide +kernel)
theorem ctX8_52 : Cond.constantLong RX8 52 (100 : Int64) ∈ tb := w_228
theorem w_408 : (Cond.constantLong RX8 138 (20 : Int64) : Cond) ∈ tb := tb_at 408 (by decide +kernel) (by decide +kernel)
theorem ctX8_138 : Cond.constantLong RX8 138 (20 : Int64) ∈ tb := w_408
theorem w_456 : (Cond.constantLong RX8 168 (1023 : Int64) : Cond) ∈ tb := tb_at 456 (by decide +kernel) (by decide +kernel)
theorem ctX8_168 : Cond.constantLong RX8 168 (1023 : Int64) ∈ tb := w_456
theorem w_506 : (Cond.constantLong RX8 183 (18 : Int64) : Cond) ∈ tb := tb_at 506 (by decide +kernel) (by decide +kernel)
theorem ctX8_183 : Cond.constantLong RX8 183 (18 : Int64) ∈ tb := w_506
theorem w_675 : (Cond.constantLong RX8 273 (17 : Int64) : Cond) ∈ tb := tb_at 675 (by decide +kernel) (by decide +kernel)
theorem ctX8_273 : Cond.constantLong RX8 273 (17 : Int64) ∈ tb := w_675
theorem w_676 : (Cond.constantLong RX8 275 (31 : Int64) : Cond) ∈ tb := tb_at 676 (by decide +kernel) (by decide +kernel)
theorem ctX8_275 : Cond.constantLong RX8 275 (31 : Int64) ∈ tb := w_676
theorem w_233 : (Cond.constantLong RX8 285 (35 : Int64) : Cond) ∈ tb := tb_at 233 (by decide +kernel) (by decide +kernel)
theorem ctX8_285 : Cond.constantLong RX8 285 (35 : Int64) ∈ tb := w_233
theorem w_348 : (Cond.constantLong RX8 287 (-1000000000000 : Int64) : Cond) ∈ tb := tb_at 348 (by decide +kernel) (by decide +kernel)
theorem ctX8_287 : Cond.constantLong RX8 287 (-1000000000000 : Int64) ∈ tb := w_348
theorem w_349 : (Cond.constantLong RX8 289 (1000000000000 : Int64) : Cond) ∈ tb := tb_at 349 (by decide +kernel) (by decide +kernel)
theorem ctX8_289 : Cond.constantLong RX8 289 (1000000000000 : Int64) ∈ tb := w_349
theorem w_609 : (Cond.constantLong RX8 291 (2 : Int64) : Cond) ∈ tb := tb_at 609 (by decide +kernel) (by decide +kernel)
theorem ctX8_291 : Cond.constantLong RX8 291 (2 : Int64) ∈ tb := w_609
theorem w_361 : (Cond.constantLong RX8 293 (-9223372036854775808 : Int64) : Cond) ∈ tb := tb_at 361 (by decide +kernel) (by decide +kernel)
theorem ctX8_293 : Cond.constantLong RX8 293 (-9223372036854775808 : Int64) ∈ tb := w_361
theorem w_605 : (Cond.constantLong RX8 295 (3 : Int64) : Cond) ∈ tb := tb_at 605 (by decide +kernel) (by decide +kernel)
theorem ctX8_295 : Cond.constantLong RX8 295 (3 : Int64) ∈ tb := w_605
theorem w_307 : (Cond.constantLong RX0 70 (1160290625 : Int64) : Cond) ∈ tb := tb_at 307 (by decide +kernel) (by decide +kernel)
theorem ctX0_70 : Cond.constantLong RX0 70 (1160290625 : Int64) ∈ tb := w_307
theorem w_319 : (Cond.constantLong RX0 84 (65 : Int64) : Cond) ∈ tb := tb_at 319 (by decide +kernel) (by decide +kernel)
theorem ctX0_84 : Cond.constantLong RX0 84 (65 : Int64) ∈ tb := w_319
theorem w_425 : (Cond.constantLong RX2 18 (5 : Int64) : Cond) ∈ tb := tb_at 425 (by decide +kernel) (by decide +kernel)
theorem ctX2_18 : Cond.constantLong RX2 18 (5 : Int64) ∈ tb := w_425
theorem w_687 : (Cond.constantLong RX2 45 (31 : Int64) : Cond) ∈ tb := tb_at 687 (by decide +kernel) (by decide +kernel)
theorem ctX2_45 : Cond.constantLong RX2 45 (31 : Int64) ∈ tb := w_687
theorem w_573 : (Cond.constant RX3 71 (2147483647 : Int32) : Cond) ∈ tb := tb_at 573 (by decide +kernel) (by decide +kernel)
theorem ctX3_71 : Cond.constant RX3 71 (2147483647 : Int32) ∈ tb := w_573
theorem w_401 : (Cond.constantLong RX6 86 (9223372036854775807 : Int64) : Cond) ∈ tb := tb_at 401 (by decide +kernel) (by decide +kernel)
theorem ctX6_86 : Cond.constantLong RX6 86 (9223372036854775807 : Int64) ∈ tb := w_401
theorem w_682 : (Cond.constantLong RX6 100 (31 : Int64) : Cond) ∈ tb := tb_at 682 (by decide +kernel) (by decide +kernel)
theorem ctX6_100 : Cond.constantLong RX6 100 (31 : Int64) ∈ tb := w_682
theorem w_1058 : (Cond.constantLong RL 27 (4294967295 : Int64) : Cond) ∈ tb := tb_at 1058 (by decide +kernel) (by decide +kernel)
theorem ctL_27 : Cond.constantLong RL 27 (4294967295 : Int64) ∈ tb := w_1058
theorem w_1030 : (Cond.constant RX9 245 (-2147483648 : Int32) : Cond) ∈ tb := tb_at 1030 (by decide +kernel) (by decide +kernel)
theorem ctX9_245 : Cond.constant RX9 245 (-2147483648 : Int32) ∈ tb := w_1030
theorem w_864 : (Cond.constantLong RX9 94 (-9223372036854775808 : Int64) : Cond) ∈ tb := tb_at 864 (by decide +kernel) (by decide +kernel)
theorem ctX9_94 : Cond.constantLong RX9 94 (-9223372036854775808 : Int64) ∈ tb := w_864
theorem w_855 : (Cond.constantLong RX9 118 (-1000000000000 : Int64) : Cond) ∈ tb := tb_at 855 (by decide +kernel) (by decide +kernel)
theorem ctX9_118 : Cond.constantLong RX9 118 (-1000000000000 : Int64) ∈ tb := w_855
theorem w_856 : (Cond.constantLong RX9 120 (1000000000000 : Int64) : Cond) ∈ tb := tb_at 856 (by decide +kernel) (by decide +kernel)
theorem ctX9_120 : Cond.constantLong RX9 120 (1000000000000 : Int64) ∈ tb := w_856
theorem w_805 : (Cond.constantLong RX9 122 (-1 : Int64) : Cond) ∈ tb := tb_at 805 (by decide +kernel) (by decide +kernel)
theorem ctX9_122 : Cond.constantLong RX9 122 (-1 : Int64) ∈ tb := w_805
theorem w_809 : (Cond.constantLong RX9 124 (100 : Int64) : Cond) ∈ tb := tb_at 809 (by decide +kernel) (by decide +kernel)
theorem ctX9_124 : Cond.constantLong RX9 124 (100 : Int64) ∈ tb := w_809
theorem w_810 : (Cond.constantLong RX9 126 (35 : Int64) : Cond) ∈ tb := tb_at 810 (by decide +kernel) (by decide +kernel)
theorem ctX9_126 : Cond.constantLong RX9 126 (35 : Int64) ∈ tb := w_810
theorem w_842 : (Cond.constantLong RX9 136 (1160290625 : Int64) : Cond) ∈ tb := tb_at 842 (by decide +kernel) (by decide +kernel)
theorem ctX9_136 : Cond.constantLong RX9 136 (1160290625 : Int64) ∈ tb := w_842
theorem w_843 : (Cond.constantLong RX9 138 (65 : Int64) : Cond) ∈ tb := tb_at 843 (by decide +kernel) (by decide +kernel)
theorem ctX9_138 : Cond.constantLong RX9 138 (65 : Int64) ∈ tb := w_843
theorem w_885 : (Cond.constantLong RX9 174 (20 : Int64) : Cond) ∈ tb := tb_at 885 (by decide +kernel) (by decide +kernel)
theorem ctX9_174 : Cond.constantLong RX9 174 (20 : Int64) ∈ tb := w_885
theorem w_893 : (Cond.constantLong RX9 176 (5 : Int64) : Cond) ∈ tb := tb_at 893 (by decide +kernel) (by decide +kernel)
theorem ctX9_176 : Cond.constantLong RX9 176 (5 : Int64) ∈ tb := w_893
theorem w_917 : (Cond.constantLong RX9 190 (1023 : Int64) : Cond) ∈ tb := tb_at 917 (by decide +kernel) (by decide +kernel)
theorem ctX9_190 : Cond.constantLong RX9 190 (1023 : Int64) ∈ tb := w_917
theorem w_948 : (Cond.constantLong RX9 206 (18 : Int64) : Cond) ∈ tb := tb_at 948 (by decide +kernel) (by decide +kernel)
theorem ctX9_206 : Cond.constantLong RX9 206 (18 : Int64) ∈ tb := w_948
theorem w_1008 : (Cond.constantLong RX9 231 (3 : Int64) : Cond) ∈ tb := tb_at 1008 (by decide +kernel) (by decide +kernel)
theorem ctX9_231 : Cond.constantLong RX9 231 (3 : Int64) ∈ tb := w_1008
theorem w_1009 : (Cond.constantLong RX9 236 (2 : Int64) : Cond) ∈ tb := tb_at 1009 (by decide +kernel) (by decide +kernel)
theorem ctX9_236 : Cond.constantLong RX9 236 (2 : Int64) ∈ tb := w_1009
theorem w_1055 : (Cond.constantLong RX9 249 (17 : Int64) : Cond) ∈ tb := tb_at 1055 (by decide +kernel) (by decide +kernel)
theorem ctX9_249 : Cond.constantLong RX9 249 (17 : Int64) ∈ tb := w_1055
theorem w_1056 : (Cond.constantLong RX9 251 (31 : Int64) : Cond) ∈ tb := tb_at 1056 (by decide +kernel) (by decide +kernel)
theorem ctX9_251 : Cond.constantLong RX9 251 (31 : Int64) ∈ tb := w_1056
theorem w_50 : (Cond.methodLink RX8 3 objectInit : Cond) ∈ tb := tb_at 50 (by decide +kernel) (by decide +kernel)
theorem koX8_3 : Cond.methodLink RX8 3 objectInit ∈ tb := w_50
theorem w_51 : (Cond.instanceMethod objectInit : Cond) ∈ tb := tb_at 51 (by decide +kernel) (by decide +kernel)
theorem w_52 : (Cond.code objectInit ⟨#[0xb1]⟩ 1 none : Cond) ∈ tb := tb_at 52 (by decide +kernel) (by decide +kernel)
theorem w_33 : (Cond.initialized RX6 : Cond) ∈ tb := tb_at 33 (by decide +kernel) (by decide +kernel)
theorem w_57 : (Cond.code yX6_init cX6_init 1 none : Cond) ∈ tb := tb_at 57 (by decide +kernel) (by decide +kernel)
theorem lbX6_init : LkB yX6_init mX6_init 0 := ⟨w_33, w_57, by decide +kernel⟩
theorem w_56 : (Cond.instanceMethod yX6_init : Cond) ∈ tb := tb_at 56 (by decide +kernel) (by decide +kernel)
theorem kX8_11 : LkIN RX8 11 yX6_init mX6_init 0 := ⟨lbX6_init, ⟨"BoneSteps", by decide +kernel⟩, w_56⟩
theorem w_34 : (Cond.initialized RX2 : Cond) ∈ tb := tb_at 34 (by decide +kernel) (by decide +kernel)
theorem w_88 : (Cond.code yX2_init cX2_init 2 none : Cond) ∈ tb := tb_at 88 (by decide +kernel) (by decide +kernel)
theorem lbX2_init : LkB yX2_init mX2_init 0 := ⟨w_34, w_88, by decide +kernel⟩
theorem w_86 : (Cond.methodLink RX8 18 yX2_init : Cond) ∈ tb := tb_at 86 (by decide +kernel) (by decide +kernel)
theorem w_87 : (Cond.instanceMethod yX2_init : Cond) ∈ tb := tb_at 87 (by decide +kernel) (by decide +kernel)
theorem kX8_18 : LkI RX8 18 yX2_init mX2_init 0 := ⟨lbX2_init, w_86, w_87⟩
theorem w_36 : (Cond.initialized RX4 : Cond) ∈ tb := tb_at 36 (by decide +kernel) (by decide +kernel)
theorem w_124 : (Cond.code yX4_init cX4_init 1 none : Cond) ∈ tb := tb_at 124 (by decide +kernel) (by decide +kernel)
theorem lbX4_init : LkB yX4_init mX4_init 0 := ⟨w_36, w_124, by decide +kernel⟩
theorem w_123 : (Cond.instanceMethod yX4_init : Cond) ∈ tb := tb_at 123 (by decide +kernel) (by decide +kernel)
theorem kX8_25 : LkIN RX8 25 yX4_init mX4_init 0 := ⟨lbX4_init, ⟨"BoneSteps", by decide +kernel⟩, w_123⟩
theorem w_37 : (Cond.initialized RX3 : Cond) ∈ tb := tb_at 37 (by decide +kernel) (by decide +kernel)
theorem w_139 : (Cond.code yX3_init cX3_init 1 none : Cond) ∈ tb := tb_at 139 (by decide +kernel) (by decide +kernel)
theorem lbX3_init : LkB yX3_init mX3_init 0 := ⟨w_37, w_139, by decide +kernel⟩
theorem w_138 : (Cond.instanceMethod yX3_init : Cond) ∈ tb := tb_at 138 (by decide +kernel) (by decide +kernel)
theorem kX8_32 : LkIN RX8 32 yX3_init mX3_init 0 := ⟨lbX3_init, ⟨"BoneSteps", by decide +kernel⟩, w_138⟩
theorem w_38 : (Cond.initialized RX5 : Cond) ∈ tb := tb_at 38 (by decide +kernel) (by decide +kernel)
theorem w_179 : (Cond.code yX5_init cX5_init 1 none : Cond) ∈ tb := tb_at 179 (by decide +kernel) (by decide +kernel)
theorem lbX5_init : LkB yX5_init mX5_init 0 := ⟨w_38, w_179, by decide +kernel⟩
theorem w_178 : (Cond.instanceMethod yX5_init : Cond) ∈ tb := tb_at 178 (by decide +kernel) (by decide +kernel)
theorem kX8_47 : LkIN RX8 47 yX5_init mX5_init 0 := ⟨lbX5_init, ⟨"BoneSteps", by decide +kernel⟩, w_178⟩
theorem w_40 : (Cond.initialized RX0 : Cond) ∈ tb := tb_at 40 (by decide +kernel) (by decide +kernel)
theorem w_242 : (Cond.code yX0_init cX0_init 6 none : Cond) ∈ tb := tb_at 242 (by decide +kernel) (by decide +kernel)
theorem lbX0_init : LkB yX0_init mX0_init 5 := ⟨w_40, w_242, by decide +kernel⟩
theorem w_240 : (Cond.methodLink RX8 74 yX0_init : Cond) ∈ tb := tb_at 240 (by decide +kernel) (by decide +kernel)
theorem w_241 : (Cond.instanceMethod yX0_init : Cond) ∈ tb := tb_at 241 (by decide +kernel) (by decide +kernel)
theorem kX8_74 : LkI RX8 74 yX0_init mX0_init 5 := ⟨lbX0_init, w_240, w_241⟩
theorem w_32 : (Cond.initialized RX8 : Cond) ∈ tb := tb_at 32 (by decide +kernel) (by decide +kernel)
theorem w_227 : (Cond.code yX8_isIn cX8_isIn 6 (some .boolean) : Cond) ∈ tb := tb_at 227 (by decide +kernel) (by decide +kernel)
theorem lbX8_isIn : LkB yX8_isIn mX8_isIn 3 := ⟨w_32, w_227, by decide +kernel⟩
theorem w_229 : (Cond.methodLink RX8 54 yX8_isIn : Cond) ∈ tb := tb_at 229 (by decide +kernel) (by decide +kernel)
theorem w_226 : (Cond.static yX8_isIn : Cond) ∈ tb := tb_at 226 (by decide +kernel) (by decide +kernel)
theorem kX8_54 : LkS RX8 54 yX8_isIn mX8_isIn 3 := ⟨lbX8_isIn, w_229, w_226⟩
theorem w_232 : (Cond.code yX8_isTurn cX8_isTurn 1 (some .boolean) : Cond) ∈ tb := tb_at 232 (by decide +kernel) (by decide +kernel)
theorem lbX8_isTurn : LkB yX8_isTurn mX8_isTurn 1 := ⟨w_32, w_232, by decide +kernel⟩
theorem w_230 : (Cond.methodLink RX8 58 yX8_isTurn : Cond) ∈ tb := tb_at 230 (by decide +kernel) (by decide +kernel)
theorem w_231 : (Cond.static yX8_isTurn : Cond) ∈ tb := tb_at 231 (by decide +kernel) (by decide +kernel)
theorem kX8_58 : LkS RX8 58 yX8_isTurn mX8_isTurn 1 := ⟨lbX8_isTurn, w_230, w_231⟩
theorem w_347 : (Cond.code yX8_isPlace cX8_isPlace 4 (some .boolean) : Cond) ∈ tb := tb_at 347 (by decide +kernel) (by decide +kernel)
theorem lbX8_isPlace : LkB yX8_isPlace mX8_isPlace 2 := ⟨w_32, w_347, by decide +kernel⟩
theorem w_345 : (Cond.methodLink RX8 102 yX8_isPlace : Cond) ∈ tb := tb_at 345 (by decide +kernel) (by decide +kernel)
theorem w_346 : (Cond.static yX8_isPlace : Cond) ∈ tb := tb_at 346 (by decide +kernel) (by decide +kernel)
theorem kX8_102 : LkS RX8 102 yX8_isPlace mX8_isPlace 2 := ⟨lbX8_isPlace, w_345, w_346⟩
theorem w_360 : (Cond.code yX8_asLong cX8_asLong 1 (some .long) : Cond) ∈ tb := tb_at 360 (by decide +kernel) (by decide +kernel)
theorem lbX8_asLong : LkB yX8_asLong mX8_asLong 1 := ⟨w_32, w_360, by decide +kernel⟩
theorem w_358 : (Cond.methodLink RX8 113 yX8_asLong : Cond) ∈ tb := tb_at 358 (by decide +kernel) (by decide +kernel)
theorem w_359 : (Cond.static yX8_asLong : Cond) ∈ tb := tb_at 359 (by decide +kernel) (by decide +kernel)
theorem kX8_113 : LkS RX8 113 yX8_asLong mX8_asLong 1 := ⟨lbX8_asLong, w_358, w_359⟩
theorem w_608 : (Cond.code yX8_isForm cX8_isForm 1 (some .boolean) : Cond) ∈ tb := tb_at 608 (by decide +kernel) (by decide +kernel)
theorem lbX8_isForm : LkB yX8_isForm mX8_isForm 1 := ⟨w_32, w_608, by decide +kernel⟩
theorem w_606 : (Cond.methodLink RX8 222 yX8_isForm : Cond) ∈ tb := tb_at 606 (by decide +kernel) (by decide +kernel)
theorem w_607 : (Cond.static yX8_isForm : Cond) ∈ tb := tb_at 607 (by decide +kernel) (by decide +kernel)
theorem kX8_222 : LkS RX8 222 yX8_isForm mX8_isForm 1 := ⟨lbX8_isForm, w_606, w_607⟩
theorem w_649 : (Cond.methodLink RX8 256 arraycopyName : Cond) ∈ tb := tb_at 649 (by decide +kernel) (by decide +kernel)
theorem koX8_256 : Cond.methodLink RX8 256 arraycopyName ∈ tb := w_649
theorem w_532 : (Cond.static arraycopyName : Cond) ∈ tb := tb_at 532 (by decide +kernel) (by decide +kernel)
theorem w_43 : (Cond.initialized RJ10 : Cond) ∈ tb := tb_at 43 (by decide +kernel) (by decide +kernel)
theorem w_533 : (Cond.native arraycopyName : Cond) ∈ tb := tb_at 533 (by decide +kernel) (by decide +kernel)
theorem sy_copy : Cond.native arraycopyName ∈ tb ∧ Cond.static arraycopyName ∈ tb ∧ Cond.initialized "java/lang/System" ∈ tb := ⟨w_533, w_532, w_43⟩
theorem w_224 : (Cond.code yX6_find cX6_find 2 (some (.object "BoneSteps$Bone")) : Cond) ∈ tb := tb_at 224 (by decide +kernel) (by decide +kernel)
theorem lbX6_find : LkB yX6_find mX6_find 1 := ⟨w_33, w_224, by decide +kernel⟩
theorem w_221 : (Cond.methodLink RX8 48 yX6_find : Cond) ∈ tb := tb_at 221 (by decide +kernel) (by decide +kernel)
theorem w_222 : (Cond.instanceMethod yX6_find : Cond) ∈ tb := tb_at 222 (by decide +kernel) (by decide +kernel)
theorem w_223 : (Cond.selects RX6 yX6_find yX6_find : Cond) ∈ tb := tb_at 223 (by decide +kernel) (by decide +kernel)
theorem kX8_48 : LkV RX8 48 yX6_find mX6_find 1 6 := ⟨lbX6_find, w_221, w_222, w_223, ⟨_, rfl, rfl⟩, by decide⟩
theorem w_237 : (Cond.code yX2_total cX2_total 3 (some .int) : Cond) ∈ tb := tb_at 237 (by decide +kernel) (by decide +kernel)
theorem lbX2_total : LkB yX2_total mX2_total 0 := ⟨w_34, w_237, by decide +kernel⟩
theorem w_234 : (Cond.methodLink RX8 67 yX2_total : Cond) ∈ tb := tb_at 234 (by decide +kernel) (by decide +kernel)
theorem w_235 : (Cond.instanceMethod yX2_total : Cond) ∈ tb := tb_at 235 (by decide +kernel) (by decide +kernel)
theorem w_236 : (Cond.selects RX2 yX2_total yX2_total : Cond) ∈ tb := tb_at 236 (by decide +kernel) (by decide +kernel)
theorem kX8_67 : LkV RX8 67 yX2_total mX2_total 0 2 := ⟨lbX2_total, w_234, w_235, w_236, ⟨_, rfl, rfl⟩, by decide⟩
theorem w_302 : (Cond.code yX6_grow cX6_grow 2 (some .int) : Cond) ∈ tb := tb_at 302 (by decide +kernel) (by decide +kernel)
theorem lbX6_grow : LkB yX6_grow mX6_grow 1 := ⟨w_33, w_302, by decide +kernel⟩
theorem w_299 : (Cond.methodLink RX8 77 yX6_grow : Cond) ∈ tb := tb_at 299 (by decide +kernel) (by decide +kernel)
theorem w_300 : (Cond.instanceMethod yX6_grow : Cond) ∈ tb := tb_at 300 (by decide +kernel) (by decide +kernel)
theorem w_301 : (Cond.selects RX6 yX6_grow yX6_grow : Cond) ∈ tb := tb_at 301 (by decide +kernel) (by decide +kernel)
theorem kX8_77 : LkV RX8 77 yX6_grow mX6_grow 1 6 := ⟨lbX6_grow, w_299, w_300, w_301, ⟨_, rfl, rfl⟩, by decide⟩
theorem w_331 : (Cond.code yX0_allows cX0_allows 3 (some .boolean) : Cond) ∈ tb := tb_at 331 (by decide +kernel) (by decide +kernel)
theorem lbX0_allows : LkB yX0_allows mX0_allows 1 := ⟨w_40, w_331, by decide +kernel⟩
theorem w_328 : (Cond.methodLink RX8 96 yX0_allows : Cond) ∈ tb := tb_at 328 (by decide +kernel) (by decide +kernel)
theorem w_329 : (Cond.instanceMethod yX0_allows : Cond) ∈ tb := tb_at 329 (by decide +kernel) (by decide +kernel)
theorem w_330 : (Cond.selects RX0 yX0_allows yX0_allows : Cond) ∈ tb := tb_at 330 (by decide +kernel) (by decide +kernel)
theorem kX8_96 : LkV RX8 96 yX0_allows mX0_allows 1 0 := ⟨lbX0_allows, w_328, w_329, w_330, ⟨_, rfl, rfl⟩, by decide⟩
theorem w_335 : (Cond.code yX6_settle cX6_settle 6 none : Cond) ∈ tb := tb_at 335 (by decide +kernel) (by decide +kernel)
theorem lbX6_settle : LkB yX6_settle mX6_settle 0 := ⟨w_33, w_335, by decide +kernel⟩
theorem w_332 : (Cond.methodLink RX8 99 yX6_settle : Cond) ∈ tb := tb_at 332 (by decide +kernel) (by decide +kernel)
theorem w_333 : (Cond.instanceMethod yX6_settle : Cond) ∈ tb := tb_at 333 (by decide +kernel) (by decide +kernel)
theorem w_334 : (Cond.selects RX6 yX6_settle yX6_settle : Cond) ∈ tb := tb_at 334 (by decide +kernel) (by decide +kernel)
theorem kX8_99 : LkV RX8 99 yX6_settle mX6_settle 0 6 := ⟨lbX6_settle, w_332, w_333, w_334, ⟨_, rfl, rfl⟩, by decide⟩
theorem w_353 : (Cond.code yX6_moveRoot cX6_moveRoot 5 none : Cond) ∈ tb := tb_at 353 (by decide +kernel) (by decide +kernel)
theorem lbX6_moveRoot : LkB yX6_moveRoot mX6_moveRoot 2 := ⟨w_33, w_353, by decide +kernel⟩
theorem w_350 : (Cond.methodLink RX8 109 yX6_moveRoot : Cond) ∈ tb := tb_at 350 (by decide +kernel) (by decide +kernel)
theorem w_351 : (Cond.instanceMethod yX6_moveRoot : Cond) ∈ tb := tb_at 351 (by decide +kernel) (by decide +kernel)
theorem w_352 : (Cond.selects RX6 yX6_moveRoot yX6_moveRoot : Cond) ∈ tb := tb_at 352 (by decide +kernel) (by decide +kernel)
theorem kX8_109 : LkV RX8 109 yX6_moveRoot mX6_moveRoot 2 6 := ⟨lbX6_moveRoot, w_350, w_351, w_352, ⟨_, rfl, rfl⟩, by decide⟩
theorem w_369 : (Cond.code yX0_farFrom cX0_farFrom 5 (some .long) : Cond) ∈ tb := tb_at 369 (by decide +kernel) (by decide +kernel)
theorem lbX0_farFrom : LkB yX0_farFrom mX0_farFrom 2 := ⟨w_40, w_369, by decide +kernel⟩
theorem w_366 : (Cond.methodLink RX8 130 yX0_farFrom : Cond) ∈ tb := tb_at 366 (by decide +kernel) (by decide +kernel)
theorem w_367 : (Cond.instanceMethod yX0_farFrom : Cond) ∈ tb := tb_at 367 (by decide +kernel) (by decide +kernel)
theorem w_368 : (Cond.selects RX0 yX0_farFrom yX0_farFrom : Cond) ∈ tb := tb_at 368 (by decide +kernel) (by decide +kernel)
theorem kX8_130 : LkV RX8 130 yX0_farFrom mX0_farFrom 2 0 := ⟨lbX0_farFrom, w_366, w_367, w_368, ⟨_, rfl, rfl⟩, by decide⟩
theorem w_387 : (Cond.code yX6_reachByTwo cX6_reachByTwo 12 none : Cond) ∈ tb := tb_at 387 (by decide +kernel) (by decide +kernel)
theorem lbX6_reachByTwo : LkB yX6_reachByTwo mX6_reachByTwo 3 := ⟨w_33, w_387, by decide +kernel⟩
theorem w_384 : (Cond.methodLink RX8 134 yX6_reachByTwo : Cond) ∈ tb := tb_at 384 (by decide +kernel) (by decide +kernel)
theorem w_385 : (Cond.instanceMethod yX6_reachByTwo : Cond) ∈ tb := tb_at 385 (by decide +kernel) (by decide +kernel)
theorem w_386 : (Cond.selects RX6 yX6_reachByTwo yX6_reachByTwo : Cond) ∈ tb := tb_at 386 (by decide +kernel) (by decide +kernel)
theorem kX8_134 : LkV RX8 134 yX6_reachByTwo mX6_reachByTwo 3 6 := ⟨lbX6_reachByTwo, w_384, w_385, w_386, ⟨_, rfl, rfl⟩, by decide⟩
theorem w_412 : (Cond.code yX6_reachByRounds cX6_reachByRounds 9 none : Cond) ∈ tb := tb_at 412 (by decide +kernel) (by decide +kernel)
theorem lbX6_reachByRounds : LkB yX6_reachByRounds mX6_reachByRounds 4 := ⟨w_33, w_412, by decide +kernel⟩
theorem w_409 : (Cond.methodLink RX8 140 yX6_reachByRounds : Cond) ∈ tb := tb_at 409 (by decide +kernel) (by decide +kernel)
theorem w_410 : (Cond.instanceMethod yX6_reachByRounds : Cond) ∈ tb := tb_at 410 (by decide +kernel) (by decide +kernel)
theorem w_411 : (Cond.selects RX6 yX6_reachByRounds yX6_reachByRounds : Cond) ∈ tb := tb_at 411 (by decide +kernel) (by decide +kernel)
theorem kX8_140 : LkV RX8 140 yX6_reachByRounds mX6_reachByRounds 4 6 := ⟨lbX6_reachByRounds, w_409, w_410, w_411, ⟨_, rfl, rfl⟩, by decide⟩
theorem w_424 : (Cond.code yX2_find cX2_find 2 (some (.object "BoneSteps$Clip")) : Cond) ∈ tb := tb_at 424 (by decide +kernel) (by decide +kernel)
theorem lbX2_find : LkB yX2_find mX2_find 1 := ⟨w_34, w_424, by decide +kernel⟩
theorem w_421 : (Cond.methodLink RX8 144 yX2_find : Cond) ∈ tb := tb_at 421 (by decide +kernel) (by decide +kernel)
theorem w_422 : (Cond.instanceMethod yX2_find : Cond) ∈ tb := tb_at 422 (by decide +kernel) (by decide +kernel)
theorem w_423 : (Cond.selects RX2 yX2_find yX2_find : Cond) ∈ tb := tb_at 423 (by decide +kernel) (by decide +kernel)
theorem kX8_144 : LkV RX8 144 yX2_find mX2_find 1 2 := ⟨lbX2_find, w_421, w_422, w_423, ⟨_, rfl, rfl⟩, by decide⟩
theorem w_430 : (Cond.code yX6_tellTurns cX6_tellTurns 3 none : Cond) ∈ tb := tb_at 430 (by decide +kernel) (by decide +kernel)
theorem lbX6_tellTurns : LkB yX6_tellTurns mX6_tellTurns 1 := ⟨w_33, w_430, by decide +kernel⟩
theorem w_427 : (Cond.methodLink RX8 154 yX6_tellTurns : Cond) ∈ tb := tb_at 427 (by decide +kernel) (by decide +kernel)
theorem w_428 : (Cond.instanceMethod yX6_tellTurns : Cond) ∈ tb := tb_at 428 (by decide +kernel) (by decide +kernel)
theorem w_429 : (Cond.selects RX6 yX6_tellTurns yX6_tellTurns : Cond) ∈ tb := tb_at 429 (by decide +kernel) (by decide +kernel)
theorem kX8_154 : LkV RX8 154 yX6_tellTurns mX6_tellTurns 1 6 := ⟨lbX6_tellTurns, w_427, w_428, w_429, ⟨_, rfl, rfl⟩, by decide⟩
theorem w_442 : (Cond.code yX2_findFrame cX2_findFrame 3 (some (.array .int)) : Cond) ∈ tb := tb_at 442 (by decide +kernel) (by decide +kernel)
theorem lbX2_findFrame : LkB yX2_findFrame mX2_findFrame 2 := ⟨w_34, w_442, by decide +kernel⟩
theorem w_439 : (Cond.methodLink RX8 161 yX2_findFrame : Cond) ∈ tb := tb_at 439 (by decide +kernel) (by decide +kernel)
theorem w_440 : (Cond.instanceMethod yX2_findFrame : Cond) ∈ tb := tb_at 440 (by decide +kernel) (by decide +kernel)
theorem w_441 : (Cond.selects RX2 yX2_findFrame yX2_findFrame : Cond) ∈ tb := tb_at 441 (by decide +kernel) (by decide +kernel)
theorem kX8_161 : LkV RX8 161 yX2_findFrame mX2_findFrame 2 2 := ⟨lbX2_findFrame, w_439, w_440, w_441, ⟨_, rfl, rfl⟩, by decide⟩
theorem w_446 : (Cond.code yX6_takeTurns cX6_takeTurns 3 none : Cond) ∈ tb := tb_at 446 (by decide +kernel) (by decide +kernel)
theorem lbX6_takeTurns : LkB yX6_takeTurns mX6_takeTurns 1 := ⟨w_33, w_446, by decide +kernel⟩
theorem w_443 : (Cond.methodLink RX8 165 yX6_takeTurns : Cond) ∈ tb := tb_at 443 (by decide +kernel) (by decide +kernel)
theorem w_444 : (Cond.instanceMethod yX6_takeTurns : Cond) ∈ tb := tb_at 444 (by decide +kernel) (by decide +kernel)
theorem w_445 : (Cond.selects RX6 yX6_takeTurns yX6_takeTurns : Cond) ∈ tb := tb_at 445 (by decide +kernel) (by decide +kernel)
theorem kX8_165 : LkV RX8 165 yX6_takeTurns mX6_takeTurns 1 6 := ⟨lbX6_takeTurns, w_443, w_444, w_445, ⟨_, rfl, rfl⟩, by decide⟩
theorem w_460 : (Cond.code yX6_blendWith cX6_blendWith 5 none : Cond) ∈ tb := tb_at 460 (by decide +kernel) (by decide +kernel)
theorem lbX6_blendWith : LkB yX6_blendWith mX6_blendWith 3 := ⟨w_33, w_460, by decide +kernel⟩
theorem w_457 : (Cond.methodLink RX8 170 yX6_blendWith : Cond) ∈ tb := tb_at 457 (by decide +kernel) (by decide +kernel)
theorem w_458 : (Cond.instanceMethod yX6_blendWith : Cond) ∈ tb := tb_at 458 (by decide +kernel) (by decide +kernel)
theorem w_459 : (Cond.selects RX6 yX6_blendWith yX6_blendWith : Cond) ∈ tb := tb_at 459 (by decide +kernel) (by decide +kernel)
theorem kX8_170 : LkV RX8 170 yX6_blendWith mX6_blendWith 3 6 := ⟨lbX6_blendWith, w_457, w_458, w_459, ⟨_, rfl, rfl⟩, by decide⟩
theorem w_485 : (Cond.code yX6_addDifference cX6_addDifference 6 (some .int) : Cond) ∈ tb := tb_at 485 (by decide +kernel) (by decide +kernel)
theorem lbX6_addDifference : LkB yX6_addDifference mX6_addDifference 2 := ⟨w_33, w_485, by decide +kernel⟩
theorem w_482 : (Cond.methodLink RX8 174 yX6_addDifference : Cond) ∈ tb := tb_at 482 (by decide +kernel) (by decide +kernel)
theorem w_483 : (Cond.instanceMethod yX6_addDifference : Cond) ∈ tb := tb_at 483 (by decide +kernel) (by decide +kernel)
theorem w_484 : (Cond.selects RX6 yX6_addDifference yX6_addDifference : Cond) ∈ tb := tb_at 484 (by decide +kernel) (by decide +kernel)
theorem kX8_174 : LkV RX8 174 yX6_addDifference mX6_addDifference 2 6 := ⟨lbX6_addDifference, w_482, w_483, w_484, ⟨_, rfl, rfl⟩, by decide⟩
theorem w_500 : (Cond.code yX2_likeness cX2_likeness 6 (some .int) : Cond) ∈ tb := tb_at 500 (by decide +kernel) (by decide +kernel)
theorem lbX2_likeness : LkB yX2_likeness mX2_likeness 3 := ⟨w_34, w_500, by decide +kernel⟩
theorem w_497 : (Cond.methodLink RX8 179 yX2_likeness : Cond) ∈ tb := tb_at 497 (by decide +kernel) (by decide +kernel)
theorem w_498 : (Cond.instanceMethod yX2_likeness : Cond) ∈ tb := tb_at 498 (by decide +kernel) (by decide +kernel)
theorem w_499 : (Cond.selects RX2 yX2_likeness yX2_likeness : Cond) ∈ tb := tb_at 499 (by decide +kernel) (by decide +kernel)
theorem kX8_179 : LkV RX8 179 yX2_likeness mX2_likeness 3 2 := ⟨lbX2_likeness, w_497, w_498, w_499, ⟨_, rfl, rfl⟩, by decide⟩
theorem w_510 : (Cond.code yX4_findKeys cX4_findKeys 6 none : Cond) ∈ tb := tb_at 510 (by decide +kernel) (by decide +kernel)
theorem lbX4_findKeys : LkB yX4_findKeys mX4_findKeys 3 := ⟨w_36, w_510, by decide +kernel⟩
theorem w_507 : (Cond.methodLink RX8 185 yX4_findKeys : Cond) ∈ tb := tb_at 507 (by decide +kernel) (by decide +kernel)
theorem w_508 : (Cond.instanceMethod yX4_findKeys : Cond) ∈ tb := tb_at 508 (by decide +kernel) (by decide +kernel)
theorem w_509 : (Cond.selects RX4 yX4_findKeys yX4_findKeys : Cond) ∈ tb := tb_at 509 (by decide +kernel) (by decide +kernel)
theorem kX8_185 : LkV RX8 185 yX4_findKeys mX4_findKeys 3 4 := ⟨lbX4_findKeys, w_507, w_508, w_509, ⟨_, rfl, rfl⟩, by decide⟩
theorem w_530 : (Cond.code yX4_keepKeys cX4_keepKeys 3 none : Cond) ∈ tb := tb_at 530 (by decide +kernel) (by decide +kernel)
theorem lbX4_keepKeys : LkB yX4_keepKeys mX4_keepKeys 1 := ⟨w_36, w_530, by decide +kernel⟩
theorem w_527 : (Cond.methodLink RX8 194 yX4_keepKeys : Cond) ∈ tb := tb_at 527 (by decide +kernel) (by decide +kernel)
theorem w_528 : (Cond.instanceMethod yX4_keepKeys : Cond) ∈ tb := tb_at 528 (by decide +kernel) (by decide +kernel)
theorem w_529 : (Cond.selects RX4 yX4_keepKeys yX4_keepKeys : Cond) ∈ tb := tb_at 529 (by decide +kernel) (by decide +kernel)
theorem kX8_194 : LkV RX8 194 yX4_keepKeys mX4_keepKeys 1 4 := ⟨lbX4_keepKeys, w_527, w_528, w_529, ⟨_, rfl, rfl⟩, by decide⟩
theorem w_545 : (Cond.code yX3_lastJoined cX3_lastJoined 5 (some .int) : Cond) ∈ tb := tb_at 545 (by decide +kernel) (by decide +kernel)
theorem lbX3_lastJoined : LkB yX3_lastJoined mX3_lastJoined 2 := ⟨w_37, w_545, by decide +kernel⟩
theorem w_542 : (Cond.methodLink RX8 201 yX3_lastJoined : Cond) ∈ tb := tb_at 542 (by decide +kernel) (by decide +kernel)
theorem w_543 : (Cond.instanceMethod yX3_lastJoined : Cond) ∈ tb := tb_at 543 (by decide +kernel) (by decide +kernel)
theorem w_544 : (Cond.selects RX3 yX3_lastJoined yX3_lastJoined : Cond) ∈ tb := tb_at 544 (by decide +kernel) (by decide +kernel)
theorem kX8_201 : LkV RX8 201 yX3_lastJoined mX3_lastJoined 2 3 := ⟨lbX3_lastJoined, w_542, w_543, w_544, ⟨_, rfl, rfl⟩, by decide⟩
theorem w_568 : (Cond.code yX3_findWalk cX3_findWalk 6 none : Cond) ∈ tb := tb_at 568 (by decide +kernel) (by decide +kernel)
theorem lbX3_findWalk : LkB yX3_findWalk mX3_findWalk 3 := ⟨w_37, w_568, by decide +kernel⟩
theorem w_565 : (Cond.methodLink RX8 205 yX3_findWalk : Cond) ∈ tb := tb_at 565 (by decide +kernel) (by decide +kernel)
theorem w_566 : (Cond.instanceMethod yX3_findWalk : Cond) ∈ tb := tb_at 566 (by decide +kernel) (by decide +kernel)
theorem w_567 : (Cond.selects RX3 yX3_findWalk yX3_findWalk : Cond) ∈ tb := tb_at 567 (by decide +kernel) (by decide +kernel)
theorem kX8_205 : LkV RX8 205 yX3_findWalk mX3_findWalk 3 3 := ⟨lbX3_findWalk, w_565, w_566, w_567, ⟨_, rfl, rfl⟩, by decide⟩
theorem w_604 : (Cond.code yX8_findSheet cX8_findSheet 2 (some (.object "BoneSteps$Sheet")) : Cond) ∈ tb := tb_at 604 (by decide +kernel) (by decide +kernel)
theorem lbX8_findSheet : LkB yX8_findSheet mX8_findSheet 1 := ⟨w_32, w_604, by decide +kernel⟩
theorem w_601 : (Cond.methodLink RX8 218 yX8_findSheet : Cond) ∈ tb := tb_at 601 (by decide +kernel) (by decide +kernel)
theorem w_603 : (Cond.instanceMethod yX8_findSheet : Cond) ∈ tb := tb_at 603 (by decide +kernel) (by decide +kernel)
theorem w_9 : (Cond.selects RX8 yX8_findSheet yX8_findSheet : Cond) ∈ tb := tb_at 9 (by decide +kernel) (by decide +kernel)
theorem kX8_218 : LkV RX8 218 yX8_findSheet mX8_findSheet 1 7 := ⟨lbX8_findSheet, w_601, w_603, w_9, ⟨_, rfl, rfl⟩, by decide⟩
theorem w_613 : (Cond.code yX8_found cX8_found 2 (some .int) : Cond) ∈ tb := tb_at 613 (by decide +kernel) (by decide +kernel)
theorem lbX8_found : LkB yX8_found mX8_found 1 := ⟨w_32, w_613, by decide +kernel⟩
theorem w_610 : (Cond.methodLink RX8 225 yX8_found : Cond) ∈ tb := tb_at 610 (by decide +kernel) (by decide +kernel)
theorem w_612 : (Cond.instanceMethod yX8_found : Cond) ∈ tb := tb_at 612 (by decide +kernel) (by decide +kernel)
theorem w_10 : (Cond.selects RX8 yX8_found yX8_found : Cond) ∈ tb := tb_at 10 (by decide +kernel) (by decide +kernel)
theorem kX8_225 : LkV RX8 225 yX8_found mX8_found 1 7 := ⟨lbX8_found, w_610, w_612, w_10, ⟨_, rfl, rfl⟩, by decide⟩
theorem w_617 : (Cond.code yX5_begin cX5_begin 3 none : Cond) ∈ tb := tb_at 617 (by decide +kernel) (by decide +kernel)
theorem lbX5_begin : LkB yX5_begin mX5_begin 2 := ⟨w_38, w_617, by decide +kernel⟩
theorem w_614 : (Cond.methodLink RX8 229 yX5_begin : Cond) ∈ tb := tb_at 614 (by decide +kernel) (by decide +kernel)
theorem w_615 : (Cond.instanceMethod yX5_begin : Cond) ∈ tb := tb_at 615 (by decide +kernel) (by decide +kernel)
theorem w_616 : (Cond.selects RX5 yX5_begin yX5_begin : Cond) ∈ tb := tb_at 616 (by decide +kernel) (by decide +kernel)
theorem kX8_229 : LkV RX8 229 yX5_begin mX5_begin 2 5 := ⟨lbX5_begin, w_614, w_615, w_616, ⟨_, rfl, rfl⟩, by decide⟩
theorem w_630 : (Cond.code yX5_wrongItem cX5_wrongItem 3 (some .int) : Cond) ∈ tb := tb_at 630 (by decide +kernel) (by decide +kernel)
theorem lbX5_wrongItem : LkB yX5_wrongItem mX5_wrongItem 2 := ⟨w_38, w_630, by decide +kernel⟩
theorem w_627 : (Cond.methodLink RX8 238 yX5_wrongItem : Cond) ∈ tb := tb_at 627 (by decide +kernel) (by decide +kernel)
theorem w_628 : (Cond.instanceMethod yX5_wrongItem : Cond) ∈ tb := tb_at 628 (by decide +kernel) (by decide +kernel)
theorem w_629 : (Cond.selects RX5 yX5_wrongItem yX5_wrongItem : Cond) ∈ tb := tb_at 629 (by decide +kernel) (by decide +kernel)
theorem kX8_238 : LkV RX8 238 yX5_wrongItem mX5_wrongItem 2 5 := ⟨lbX5_wrongItem, w_627, w_628, w_629, ⟨_, rfl, rfl⟩, by decide⟩
theorem w_635 : (Cond.code yX5_store cX5_store 3 none : Cond) ∈ tb := tb_at 635 (by decide +kernel) (by decide +kernel)
theorem lbX5_store : LkB yX5_store mX5_store 2 := ⟨w_38, w_635, by decide +kernel⟩
theorem w_632 : (Cond.methodLink RX8 242 yX5_store : Cond) ∈ tb := tb_at 632 (by decide +kernel) (by decide +kernel)
theorem w_633 : (Cond.instanceMethod yX5_store : Cond) ∈ tb := tb_at 633 (by decide +kernel) (by decide +kernel)
theorem w_634 : (Cond.selects RX5 yX5_store yX5_store : Cond) ∈ tb := tb_at 634 (by decide +kernel) (by decide +kernel)
theorem kX8_242 : LkV RX8 242 yX5_store mX5_store 2 5 := ⟨lbX5_store, w_632, w_633, w_634, ⟨_, rfl, rfl⟩, by decide⟩
theorem w_648 : (Cond.code yX5_holds cX5_holds 3 (some .boolean) : Cond) ∈ tb := tb_at 648 (by decide +kernel) (by decide +kernel)
theorem lbX5_holds : LkB yX5_holds mX5_holds 2 := ⟨w_38, w_648, by decide +kernel⟩
theorem w_645 : (Cond.methodLink RX8 252 yX5_holds : Cond) ∈ tb := tb_at 645 (by decide +kernel) (by decide +kernel)
theorem w_646 : (Cond.instanceMethod yX5_holds : Cond) ∈ tb := tb_at 646 (by decide +kernel) (by decide +kernel)
theorem w_647 : (Cond.selects RX5 yX5_holds yX5_holds : Cond) ∈ tb := tb_at 647 (by decide +kernel) (by decide +kernel)
theorem kX8_252 : LkV RX8 252 yX5_holds mX5_holds 2 5 := ⟨lbX5_holds, w_645, w_646, w_647, ⟨_, rfl, rfl⟩, by decide⟩
theorem w_657 : (Cond.code yX5_wrongPose cX5_wrongPose 3 (some .int) : Cond) ∈ tb := tb_at 657 (by decide +kernel) (by decide +kernel)
theorem lbX5_wrongPose : LkB yX5_wrongPose mX5_wrongPose 2 := ⟨w_38, w_657, by decide +kernel⟩
theorem w_654 : (Cond.methodLink RX8 262 yX5_wrongPose : Cond) ∈ tb := tb_at 654 (by decide +kernel) (by decide +kernel)
theorem w_655 : (Cond.instanceMethod yX5_wrongPose : Cond) ∈ tb := tb_at 655 (by decide +kernel) (by decide +kernel)
theorem w_656 : (Cond.selects RX5 yX5_wrongPose yX5_wrongPose : Cond) ∈ tb := tb_at 656 (by decide +kernel) (by decide +kernel)
theorem kX8_262 : LkV RX8 262 yX5_wrongPose mX5_wrongPose 2 5 := ⟨lbX5_wrongPose, w_654, w_655, w_656, ⟨_, rfl, rfl⟩, by decide⟩
theorem w_662 : (Cond.code yX6_takeItems cX6_takeItems 5 (some .int) : Cond) ∈ tb := tb_at 662 (by decide +kernel) (by decide +kernel)
theorem lbX6_takeItems : LkB yX6_takeItems mX6_takeItems 2 := ⟨w_33, w_662, by decide +kernel⟩
theorem w_659 : (Cond.methodLink RX8 265 yX6_takeItems : Cond) ∈ tb := tb_at 659 (by decide +kernel) (by decide +kernel)
theorem w_660 : (Cond.instanceMethod yX6_takeItems : Cond) ∈ tb := tb_at 660 (by decide +kernel) (by decide +kernel)
theorem w_661 : (Cond.selects RX6 yX6_takeItems yX6_takeItems : Cond) ∈ tb := tb_at 661 (by decide +kernel) (by decide +kernel)
theorem kX8_265 : LkV RX8 265 yX6_takeItems mX6_takeItems 2 6 := ⟨lbX6_takeItems, w_659, w_660, w_661, ⟨_, rfl, rfl⟩, by decide⟩
theorem w_670 : (Cond.code yX8_count cX8_count 2 (some .int) : Cond) ∈ tb := tb_at 670 (by decide +kernel) (by decide +kernel)
theorem lbX8_count : LkB yX8_count mX8_count 1 := ⟨w_32, w_670, by decide +kernel⟩
theorem w_677 : (Cond.methodLink RX8 277 yX8_count : Cond) ∈ tb := tb_at 677 (by decide +kernel) (by decide +kernel)
theorem w_668 : (Cond.instanceMethod yX8_count : Cond) ∈ tb := tb_at 668 (by decide +kernel) (by decide +kernel)
theorem w_669 : (Cond.selects RX8 yX8_count yX8_count : Cond) ∈ tb := tb_at 669 (by decide +kernel) (by decide +kernel)
theorem kX8_277 : LkV RX8 277 yX8_count mX8_count 1 7 := ⟨lbX8_count, w_677, w_668, w_669, ⟨_, rfl, rfl⟩, by decide⟩
theorem w_681 : (Cond.code yX6_digestOn cX6_digestOn 6 (some .long) : Cond) ∈ tb := tb_at 681 (by decide +kernel) (by decide +kernel)
theorem lbX6_digestOn : LkB yX6_digestOn mX6_digestOn 1 := ⟨w_33, w_681, by decide +kernel⟩
theorem w_678 : (Cond.methodLink RX8 280 yX6_digestOn : Cond) ∈ tb := tb_at 678 (by decide +kernel) (by decide +kernel)
theorem w_679 : (Cond.instanceMethod yX6_digestOn : Cond) ∈ tb := tb_at 679 (by decide +kernel) (by decide +kernel)
theorem w_680 : (Cond.selects RX6 yX6_digestOn yX6_digestOn : Cond) ∈ tb := tb_at 680 (by decide +kernel) (by decide +kernel)
theorem kX8_280 : LkV RX8 280 yX6_digestOn mX6_digestOn 1 6 := ⟨lbX6_digestOn, w_678, w_679, w_680, ⟨_, rfl, rfl⟩, by decide⟩
theorem w_686 : (Cond.code yX2_digestOn cX2_digestOn 8 (some .long) : Cond) ∈ tb := tb_at 686 (by decide +kernel) (by decide +kernel)
theorem lbX2_digestOn : LkB yX2_digestOn mX2_digestOn 1 := ⟨w_34, w_686, by decide +kernel⟩
theorem w_683 : (Cond.methodLink RX8 284 yX2_digestOn : Cond) ∈ tb := tb_at 683 (by decide +kernel) (by decide +kernel)
theorem w_684 : (Cond.instanceMethod yX2_digestOn : Cond) ∈ tb := tb_at 684 (by decide +kernel) (by decide +kernel)
theorem w_685 : (Cond.selects RX2 yX2_digestOn yX2_digestOn : Cond) ∈ tb := tb_at 685 (by decide +kernel) (by decide +kernel)
theorem kX8_284 : LkV RX8 284 yX2_digestOn mX2_digestOn 1 2 := ⟨lbX2_digestOn, w_683, w_684, w_685, ⟨_, rfl, rfl⟩, by decide⟩
theorem w_243 : (Cond.methodLink RX0 3 objectInit : Cond) ∈ tb := tb_at 243 (by decide +kernel) (by decide +kernel)
theorem koX0_3 : Cond.methodLink RX0 3 objectInit ∈ tb := w_243
theorem w_41 : (Cond.initialized RX7 : Cond) ∈ tb := tb_at 41 (by decide +kernel) (by decide +kernel)
theorem w_477 : (Cond.code yX7_distance cX7_distance 3 (some .int) : Cond) ∈ tb := tb_at 477 (by decide +kernel) (by decide +kernel)
theorem lbX7_distance : LkB yX7_distance mX7_distance 2 := ⟨w_41, w_477, by decide +kernel⟩
theorem w_475 : (Cond.methodLink RX0 41 yX7_distance : Cond) ∈ tb := tb_at 475 (by decide +kernel) (by decide +kernel)
theorem w_476 : (Cond.static yX7_distance : Cond) ∈ tb := tb_at 476 (by decide +kernel) (by decide +kernel)
theorem kX0_41 : LkS RX0 41 yX7_distance mX7_distance 2 := ⟨lbX7_distance, w_475, w_476⟩
theorem w_467 : (Cond.code yX7_shortWay cX7_shortWay 3 (some .int) : Cond) ∈ tb := tb_at 467 (by decide +kernel) (by decide +kernel)
theorem lbX7_shortWay : LkB yX7_shortWay mX7_shortWay 2 := ⟨w_41, w_467, by decide +kernel⟩
theorem w_465 : (Cond.methodLink RX0 47 yX7_shortWay : Cond) ∈ tb := tb_at 465 (by decide +kernel) (by decide +kernel)
theorem w_466 : (Cond.static yX7_shortWay : Cond) ∈ tb := tb_at 466 (by decide +kernel) (by decide +kernel)
theorem kX0_47 : LkS RX0 47 yX7_shortWay mX7_shortWay 2 := ⟨lbX7_shortWay, w_465, w_466⟩
theorem w_470 : (Cond.code yX7_normal cX7_normal 1 (some .int) : Cond) ∈ tb := tb_at 470 (by decide +kernel) (by decide +kernel)
theorem lbX7_normal : LkB yX7_normal mX7_normal 1 := ⟨w_41, w_470, by decide +kernel⟩
theorem w_468 : (Cond.methodLink RX0 50 yX7_normal : Cond) ∈ tb := tb_at 468 (by decide +kernel) (by decide +kernel)
theorem w_469 : (Cond.static yX7_normal : Cond) ∈ tb := tb_at 469 (by decide +kernel) (by decide +kernel)
theorem kX0_50 : LkS RX0 50 yX7_normal mX7_normal 1 := ⟨lbX7_normal, w_468, w_469⟩
theorem w_310 : (Cond.code yX7_cosine cX7_cosine 1 (some .int) : Cond) ∈ tb := tb_at 310 (by decide +kernel) (by decide +kernel)
theorem lbX7_cosine : LkB yX7_cosine mX7_cosine 1 := ⟨w_41, w_310, by decide +kernel⟩
theorem w_308 : (Cond.methodLink RX0 78 yX7_cosine : Cond) ∈ tb := tb_at 308 (by decide +kernel) (by decide +kernel)
theorem w_309 : (Cond.static yX7_cosine : Cond) ∈ tb := tb_at 309 (by decide +kernel) (by decide +kernel)
theorem kX0_78 : LkS RX0 78 yX7_cosine mX7_cosine 1 := ⟨lbX7_cosine, w_308, w_309⟩
theorem w_318 : (Cond.code yX7_sine cX7_sine 1 (some .int) : Cond) ∈ tb := tb_at 318 (by decide +kernel) (by decide +kernel)
theorem lbX7_sine : LkB yX7_sine mX7_sine 1 := ⟨w_41, w_318, by decide +kernel⟩
theorem w_316 : (Cond.methodLink RX0 81 yX7_sine : Cond) ∈ tb := tb_at 316 (by decide +kernel) (by decide +kernel)
theorem w_317 : (Cond.static yX7_sine : Cond) ∈ tb := tb_at 317 (by decide +kernel) (by decide +kernel)
theorem kX0_81 : LkS RX0 81 yX7_sine mX7_sine 1 := ⟨lbX7_sine, w_316, w_317⟩
theorem w_370 : (Cond.methodLink RX0 86 Lib.MathLoose.abs_long.x : Cond) ∈ tb := tb_at 370 (by decide +kernel) (by decide +kernel)
theorem koX0_86 : Cond.methodLink RX0 86 Lib.MathLoose.abs_long.x ∈ tb := w_370
theorem w_371 : (Cond.static Lib.MathLoose.abs_long.x : Cond) ∈ tb := tb_at 371 (by decide +kernel) (by decide +kernel)
theorem w_42 : (Cond.initialized RJ9 : Cond) ∈ tb := tb_at 42 (by decide +kernel) (by decide +kernel)
theorem w_372 : (Cond.code Lib.MathLoose.abs_long.x Lib.MathLoose.abs_long.code 2 (some .long) : Cond) ∈ tb := tb_at 372 (by decide +kernel) (by decide +kernel)
theorem sy_abs : Cond.static Lib.MathLoose.abs_long.x ∈ tb ∧ Cond.initialized "java/lang/Math" ∈ tb ∧ Cond.code Lib.MathLoose.abs_long.x Lib.MathLoose.abs_long.code 2 (some .long) ∈ tb := ⟨w_371, w_42, w_372⟩
theorem w_373 : (Cond.methodLink RX0 92 Lib.MathLoose.max_long.x : Cond) ∈ tb := tb_at 373 (by decide +kernel) (by decide +kernel)
theorem koX0_92 : Cond.methodLink RX0 92 Lib.MathLoose.max_long.x ∈ tb := w_373
theorem w_374 : (Cond.static Lib.MathLoose.max_long.x : Cond) ∈ tb := tb_at 374 (by decide +kernel) (by decide +kernel)
theorem w_375 : (Cond.code Lib.MathLoose.max_long.x Lib.MathLoose.max_long.code 4 (some .long) : Cond) ∈ tb := tb_at 375 (by decide +kernel) (by decide +kernel)
theorem sy_max : Cond.static Lib.MathLoose.max_long.x ∈ tb ∧ Cond.initialized "java/lang/Math" ∈ tb ∧ Cond.code Lib.MathLoose.max_long.x Lib.MathLoose.max_long.code 4 (some .long) ∈ tb := ⟨w_374, w_42, w_375⟩
theorem w_400 : (Cond.methodLink RX0 37 yX0_allows : Cond) ∈ tb := tb_at 400 (by decide +kernel) (by decide +kernel)
theorem kX0_37 : LkV RX0 37 yX0_allows mX0_allows 1 0 := ⟨lbX0_allows, w_400, w_329, w_330, ⟨_, rfl, rfl⟩, by decide⟩
theorem w_474 : (Cond.code yX0_intoLimits cX0_intoLimits 2 (some .int) : Cond) ∈ tb := tb_at 474 (by decide +kernel) (by decide +kernel)
theorem lbX0_intoLimits : LkB yX0_intoLimits mX0_intoLimits 1 := ⟨w_40, w_474, by decide +kernel⟩
theorem w_471 : (Cond.methodLink RX0 54 yX0_intoLimits : Cond) ∈ tb := tb_at 471 (by decide +kernel) (by decide +kernel)
theorem w_472 : (Cond.instanceMethod yX0_intoLimits : Cond) ∈ tb := tb_at 472 (by decide +kernel) (by decide +kernel)
theorem w_473 : (Cond.selects RX0 yX0_intoLimits yX0_intoLimits : Cond) ∈ tb := tb_at 473 (by decide +kernel) (by decide +kernel)
theorem kX0_54 : LkV RX0 54 yX0_intoLimits mX0_intoLimits 1 0 := ⟨lbX0_intoLimits, w_471, w_472, w_473, ⟨_, rfl, rfl⟩, by decide⟩
theorem w_399 : (Cond.code yX0_farTurned cX0_farTurned 16 (some .long) : Cond) ∈ tb := tb_at 399 (by decide +kernel) (by decide +kernel)
theorem lbX0_farTurned : LkB yX0_farTurned mX0_farTurned 5 := ⟨w_40, w_399, by decide +kernel⟩
theorem w_396 : (Cond.methodLink RX0 96 yX0_farTurned : Cond) ∈ tb := tb_at 396 (by decide +kernel) (by decide +kernel)
theorem w_398 : (Cond.instanceMethod yX0_farTurned : Cond) ∈ tb := tb_at 398 (by decide +kernel) (by decide +kernel)
theorem w_1 : (Cond.selects RX0 yX0_farTurned yX0_farTurned : Cond) ∈ tb := tb_at 1 (by decide +kernel) (by decide +kernel)
theorem kX0_96 : LkV RX0 96 yX0_farTurned mX0_farTurned 5 0 := ⟨lbX0_farTurned, w_396, w_398, w_1, ⟨_, rfl, rfl⟩, by decide⟩
theorem w_96 : (Cond.methodLink RX1 3 objectInit : Cond) ∈ tb := tb_at 96 (by decide +kernel) (by decide +kernel)
theorem koX1_3 : Cond.methodLink RX1 3 objectInit ∈ tb := w_96
theorem w_89 : (Cond.methodLink RX2 3 objectInit : Cond) ∈ tb := tb_at 89 (by decide +kernel) (by decide +kernel)
theorem koX2_3 : Cond.methodLink RX2 3 objectInit ∈ tb := w_89
theorem w_35 : (Cond.initialized RX1 : Cond) ∈ tb := tb_at 35 (by decide +kernel) (by decide +kernel)
theorem w_95 : (Cond.code yX1_init cX1_init 1 none : Cond) ∈ tb := tb_at 95 (by decide +kernel) (by decide +kernel)
theorem lbX1_init : LkB yX1_init mX1_init 0 := ⟨w_35, w_95, by decide +kernel⟩
theorem w_94 : (Cond.instanceMethod yX1_init : Cond) ∈ tb := tb_at 94 (by decide +kernel) (by decide +kernel)
theorem kX2_17 : LkIN RX2 17 yX1_init mX1_init 0 := ⟨lbX1_init, ⟨"BoneSteps", by decide +kernel⟩, w_94⟩
theorem kX2_20 : LkSN RX2 20 yX8_isIn mX8_isIn 3 := ⟨lbX8_isIn, ⟨"BoneSteps", by decide +kernel⟩, w_226⟩
theorem w_501 : (Cond.methodLink RX2 39 yX7_distance : Cond) ∈ tb := tb_at 501 (by decide +kernel) (by decide +kernel)
theorem kX2_39 : LkS RX2 39 yX7_distance mX7_distance 2 := ⟨lbX7_distance, w_501, w_476⟩
theorem w_555 : (Cond.methodLink RX2 32 yX2_findFrame : Cond) ∈ tb := tb_at 555 (by decide +kernel) (by decide +kernel)
theorem kX2_32 : LkV RX2 32 yX2_findFrame mX2_findFrame 2 2 := ⟨lbX2_findFrame, w_555, w_440, w_441, ⟨_, rfl, rfl⟩, by decide⟩
theorem w_140 : (Cond.methodLink RX3 3 objectInit : Cond) ∈ tb := tb_at 140 (by decide +kernel) (by decide +kernel)
theorem koX3_3 : Cond.methodLink RX3 3 objectInit ∈ tb := w_140
theorem w_44 : (Cond.initialized RJ7 : Cond) ∈ tb := tb_at 44 (by decide +kernel) (by decide +kernel)
theorem w_576 : (Cond.code yJ7_fill_53178 cJ7_fill_53178 4 none : Cond) ∈ tb := tb_at 576 (by decide +kernel) (by decide +kernel)
theorem lbJ7_fill_53178 : LkB yJ7_fill_53178 mJ7_fill_53178 2 := ⟨w_44, w_576, by decide +kernel⟩
theorem w_574 : (Cond.methodLink RX3 72 yJ7_fill_53178 : Cond) ∈ tb := tb_at 574 (by decide +kernel) (by decide +kernel)
theorem w_575 : (Cond.static yJ7_fill_53178 : Cond) ∈ tb := tb_at 575 (by decide +kernel) (by decide +kernel)
theorem kX3_72 : LkS RX3 72 yJ7_fill_53178 mJ7_fill_53178 2 := ⟨lbJ7_fill_53178, w_574, w_575⟩
theorem w_546 : (Cond.methodLink RX3 35 yX2_findFrame : Cond) ∈ tb := tb_at 546 (by decide +kernel) (by decide +kernel)
theorem kX3_35 : LkV RX3 35 yX2_findFrame mX2_findFrame 2 2 := ⟨lbX2_findFrame, w_546, w_440, w_441, ⟨_, rfl, rfl⟩, by decide⟩
theorem w_550 : (Cond.code yX3_isJoined cX3_isJoined 6 (some .boolean) : Cond) ∈ tb := tb_at 550 (by decide +kernel) (by decide +kernel)
theorem lbX3_isJoined : LkB yX3_isJoined mX3_isJoined 3 := ⟨w_37, w_550, by decide +kernel⟩
theorem w_547 : (Cond.methodLink RX3 41 yX3_isJoined : Cond) ∈ tb := tb_at 547 (by decide +kernel) (by decide +kernel)
theorem w_549 : (Cond.instanceMethod yX3_isJoined : Cond) ∈ tb := tb_at 549 (by decide +kernel) (by decide +kernel)
theorem w_3 : (Cond.selects RX3 yX3_isJoined yX3_isJoined : Cond) ∈ tb := tb_at 3 (by decide +kernel) (by decide +kernel)
theorem kX3_41 : LkV RX3 41 yX3_isJoined mX3_isJoined 3 3 := ⟨lbX3_isJoined, w_547, w_549, w_3, ⟨_, rfl, rfl⟩, by decide⟩
theorem w_554 : (Cond.code yX2_findSlot cX2_findSlot 2 (some (.array .int)) : Cond) ∈ tb := tb_at 554 (by decide +kernel) (by decide +kernel)
theorem lbX2_findSlot : LkB yX2_findSlot mX2_findSlot 1 := ⟨w_34, w_554, by decide +kernel⟩
theorem w_551 : (Cond.methodLink RX3 45 yX2_findSlot : Cond) ∈ tb := tb_at 551 (by decide +kernel) (by decide +kernel)
theorem w_552 : (Cond.instanceMethod yX2_findSlot : Cond) ∈ tb := tb_at 552 (by decide +kernel) (by decide +kernel)
theorem w_553 : (Cond.selects RX2 yX2_findSlot yX2_findSlot : Cond) ∈ tb := tb_at 553 (by decide +kernel) (by decide +kernel)
theorem kX3_45 : LkV RX3 45 yX2_findSlot mX2_findSlot 1 2 := ⟨lbX2_findSlot, w_551, w_552, w_553, ⟨_, rfl, rfl⟩, by decide⟩
theorem w_556 : (Cond.methodLink RX3 49 yX2_likeness : Cond) ∈ tb := tb_at 556 (by decide +kernel) (by decide +kernel)
theorem kX3_49 : LkV RX3 49 yX2_likeness mX2_likeness 3 2 := ⟨lbX2_likeness, w_556, w_498, w_499, ⟨_, rfl, rfl⟩, by decide⟩
theorem w_572 : (Cond.code yX3_begin cX3_begin 4 none : Cond) ∈ tb := tb_at 572 (by decide +kernel) (by decide +kernel)
theorem lbX3_begin : LkB yX3_begin mX3_begin 2 := ⟨w_37, w_572, by decide +kernel⟩
theorem w_569 : (Cond.methodLink RX3 53 yX3_begin : Cond) ∈ tb := tb_at 569 (by decide +kernel) (by decide +kernel)
theorem w_571 : (Cond.instanceMethod yX3_begin : Cond) ∈ tb := tb_at 571 (by decide +kernel) (by decide +kernel)
theorem w_4 : (Cond.selects RX3 yX3_begin yX3_begin : Cond) ∈ tb := tb_at 4 (by decide +kernel) (by decide +kernel)
theorem kX3_53 : LkV RX3 53 yX3_begin mX3_begin 2 3 := ⟨lbX3_begin, w_569, w_571, w_4, ⟨_, rfl, rfl⟩, by decide⟩
theorem w_580 : (Cond.code yX3_nearestOpen cX3_nearestOpen 5 (some .int) : Cond) ∈ tb := tb_at 580 (by decide +kernel) (by decide +kernel)
theorem lbX3_nearestOpen : LkB yX3_nearestOpen mX3_nearestOpen 0 := ⟨w_37, w_580, by decide +kernel⟩
theorem w_577 : (Cond.methodLink RX3 60 yX3_nearestOpen : Cond) ∈ tb := tb_at 577 (by decide +kernel) (by decide +kernel)
theorem w_579 : (Cond.instanceMethod yX3_nearestOpen : Cond) ∈ tb := tb_at 579 (by decide +kernel) (by decide +kernel)
theorem w_5 : (Cond.selects RX3 yX3_nearestOpen yX3_nearestOpen : Cond) ∈ tb := tb_at 5 (by decide +kernel) (by decide +kernel)
theorem kX3_60 : LkV RX3 60 yX3_nearestOpen mX3_nearestOpen 0 3 := ⟨lbX3_nearestOpen, w_577, w_579, w_5, ⟨_, rfl, rfl⟩, by decide⟩
theorem w_584 : (Cond.code yX3_reachFrom cX3_reachFrom 7 none : Cond) ∈ tb := tb_at 584 (by decide +kernel) (by decide +kernel)
theorem lbX3_reachFrom : LkB yX3_reachFrom mX3_reachFrom 2 := ⟨w_37, w_584, by decide +kernel⟩
theorem w_581 : (Cond.methodLink RX3 64 yX3_reachFrom : Cond) ∈ tb := tb_at 581 (by decide +kernel) (by decide +kernel)
theorem w_583 : (Cond.instanceMethod yX3_reachFrom : Cond) ∈ tb := tb_at 583 (by decide +kernel) (by decide +kernel)
theorem w_6 : (Cond.selects RX3 yX3_reachFrom yX3_reachFrom : Cond) ∈ tb := tb_at 6 (by decide +kernel) (by decide +kernel)
theorem kX3_64 : LkV RX3 64 yX3_reachFrom mX3_reachFrom 2 3 := ⟨lbX3_reachFrom, w_581, w_583, w_6, ⟨_, rfl, rfl⟩, by decide⟩
theorem w_592 : (Cond.code yX3_keepPath cX3_keepPath 5 none : Cond) ∈ tb := tb_at 592 (by decide +kernel) (by decide +kernel)
theorem lbX3_keepPath : LkB yX3_keepPath mX3_keepPath 2 := ⟨w_37, w_592, by decide +kernel⟩
theorem w_589 : (Cond.methodLink RX3 67 yX3_keepPath : Cond) ∈ tb := tb_at 589 (by decide +kernel) (by decide +kernel)
theorem w_591 : (Cond.instanceMethod yX3_keepPath : Cond) ∈ tb := tb_at 591 (by decide +kernel) (by decide +kernel)
theorem w_8 : (Cond.selects RX3 yX3_keepPath yX3_keepPath : Cond) ∈ tb := tb_at 8 (by decide +kernel) (by decide +kernel)
theorem kX3_67 : LkV RX3 67 yX3_keepPath mX3_keepPath 2 3 := ⟨lbX3_keepPath, w_589, w_591, w_8, ⟨_, rfl, rfl⟩, by decide⟩
theorem w_588 : (Cond.code yX3_wayCost cX3_wayCost 7 (some .int) : Cond) ∈ tb := tb_at 588 (by decide +kernel) (by decide +kernel)
theorem lbX3_wayCost : LkB yX3_wayCost mX3_wayCost 3 := ⟨w_37, w_588, by decide +kernel⟩
theorem w_585 : (Cond.methodLink RX3 78 yX3_wayCost : Cond) ∈ tb := tb_at 585 (by decide +kernel) (by decide +kernel)
theorem w_587 : (Cond.instanceMethod yX3_wayCost : Cond) ∈ tb := tb_at 587 (by decide +kernel) (by decide +kernel)
theorem w_7 : (Cond.selects RX3 yX3_wayCost yX3_wayCost : Cond) ∈ tb := tb_at 7 (by decide +kernel) (by decide +kernel)
theorem kX3_78 : LkV RX3 78 yX3_wayCost mX3_wayCost 3 3 := ⟨lbX3_wayCost, w_585, w_587, w_7, ⟨_, rfl, rfl⟩, by decide⟩
theorem w_125 : (Cond.methodLink RX4 3 objectInit : Cond) ∈ tb := tb_at 125 (by decide +kernel) (by decide +kernel)
theorem koX4_3 : Cond.methodLink RX4 3 objectInit ∈ tb := w_125
theorem w_513 : (Cond.code yX4_nextKey cX4_nextKey 5 (some .int) : Cond) ∈ tb := tb_at 513 (by decide +kernel) (by decide +kernel)
theorem lbX4_nextKey : LkB yX4_nextKey mX4_nextKey 4 := ⟨w_36, w_513, by decide +kernel⟩
theorem w_511 : (Cond.methodLink RX4 22 yX4_nextKey : Cond) ∈ tb := tb_at 511 (by decide +kernel) (by decide +kernel)
theorem w_512 : (Cond.static yX4_nextKey : Cond) ∈ tb := tb_at 512 (by decide +kernel) (by decide +kernel)
theorem kX4_22 : LkS RX4 22 yX4_nextKey mX4_nextKey 4 := ⟨lbX4_nextKey, w_511, w_512⟩
theorem w_516 : (Cond.code yX4_spans cX4_spans 9 (some .boolean) : Cond) ∈ tb := tb_at 516 (by decide +kernel) (by decide +kernel)
theorem lbX4_spans : LkB yX4_spans mX4_spans 5 := ⟨w_36, w_516, by decide +kernel⟩
theorem w_514 : (Cond.methodLink RX4 26 yX4_spans : Cond) ∈ tb := tb_at 514 (by decide +kernel) (by decide +kernel)
theorem w_515 : (Cond.static yX4_spans : Cond) ∈ tb := tb_at 515 (by decide +kernel) (by decide +kernel)
theorem kX4_26 : LkS RX4 26 yX4_spans mX4_spans 5 := ⟨lbX4_spans, w_514, w_515⟩
theorem w_518 : (Cond.methodLink RX4 47 yX7_distance : Cond) ∈ tb := tb_at 518 (by decide +kernel) (by decide +kernel)
theorem kX4_47 : LkS RX4 47 yX7_distance mX7_distance 2 := ⟨lbX7_distance, w_518, w_476⟩
theorem w_531 : (Cond.methodLink RX4 53 arraycopyName : Cond) ∈ tb := tb_at 531 (by decide +kernel) (by decide +kernel)
theorem koX4_53 : Cond.methodLink RX4 53 arraycopyName ∈ tb := w_531
theorem w_464 : (Cond.code yX0_blended cX0_blended 4 (some .int) : Cond) ∈ tb := tb_at 464 (by decide +kernel) (by decide +kernel)
theorem lbX0_blended : LkB yX0_blended mX0_blended 3 := ⟨w_40, w_464, by decide +kernel⟩
theorem w_517 : (Cond.methodLink RX4 41 yX0_blended : Cond) ∈ tb := tb_at 517 (by decide +kernel) (by decide +kernel)
theorem w_462 : (Cond.instanceMethod yX0_blended : Cond) ∈ tb := tb_at 462 (by decide +kernel) (by decide +kernel)
theorem w_463 : (Cond.selects RX0 yX0_blended yX0_blended : Cond) ∈ tb := tb_at 463 (by decide +kernel) (by decide +kernel)
theorem kX4_41 : LkV RX4 41 yX0_blended mX0_blended 3 0 := ⟨lbX0_blended, w_517, w_462, w_463, ⟨_, rfl, rfl⟩, by decide⟩
theorem w_180 : (Cond.methodLink RX5 3 objectInit : Cond) ∈ tb := tb_at 180 (by decide +kernel) (by decide +kernel)
theorem koX5_3 : Cond.methodLink RX5 3 objectInit ∈ tb := w_180
theorem w_618 : (Cond.methodLink RX5 19 yJ7_fill_53178 : Cond) ∈ tb := tb_at 618 (by decide +kernel) (by decide +kernel)
theorem kX5_19 : LkS RX5 19 yJ7_fill_53178 mJ7_fill_53178 2 := ⟨lbJ7_fill_53178, w_618, w_575⟩
theorem kX5_32 : LkSN RX5 32 yX8_isIn mX8_isIn 3 := ⟨lbX8_isIn, ⟨"BoneSteps", by decide +kernel⟩, w_226⟩
theorem w_658 : (Cond.methodLink RX5 36 yX5_holds : Cond) ∈ tb := tb_at 658 (by decide +kernel) (by decide +kernel)
theorem kX5_36 : LkV RX5 36 yX5_holds mX5_holds 2 5 := ⟨lbX5_holds, w_658, w_646, w_647, ⟨_, rfl, rfl⟩, by decide⟩
theorem w_58 : (Cond.methodLink RX6 3 objectInit : Cond) ∈ tb := tb_at 58 (by decide +kernel) (by decide +kernel)
theorem koX6_3 : Cond.methodLink RX6 3 objectInit ∈ tb := w_58
theorem kX6_24 : LkSN RX6 24 yX8_isIn mX8_isIn 3 := ⟨lbX8_isIn, ⟨"BoneSteps", by decide +kernel⟩, w_226⟩
theorem w_486 : (Cond.methodLink RX6 61 yX7_shortWay : Cond) ∈ tb := tb_at 486 (by decide +kernel) (by decide +kernel)
theorem kX6_61 : LkS RX6 61 yX7_shortWay mX7_shortWay 2 := ⟨lbX7_shortWay, w_486, w_466⟩
theorem w_487 : (Cond.methodLink RX6 67 yX7_normal : Cond) ∈ tb := tb_at 487 (by decide +kernel) (by decide +kernel)
theorem kX6_67 : LkS RX6 67 yX7_normal mX7_normal 1 := ⟨lbX7_normal, w_487, w_469⟩
theorem w_306 : (Cond.code yX0_place cX0_place 11 none : Cond) ∈ tb := tb_at 306 (by decide +kernel) (by decide +kernel)
theorem lbX0_place : LkB yX0_place mX0_place 2 := ⟨w_40, w_306, by decide +kernel⟩
theorem w_303 : (Cond.methodLink RX6 35 yX0_place : Cond) ∈ tb := tb_at 303 (by decide +kernel) (by decide +kernel)
theorem w_304 : (Cond.instanceMethod yX0_place : Cond) ∈ tb := tb_at 304 (by decide +kernel) (by decide +kernel)
theorem w_305 : (Cond.selects RX0 yX0_place yX0_place : Cond) ∈ tb := tb_at 305 (by decide +kernel) (by decide +kernel)
theorem kX6_35 : LkV RX6 35 yX0_place mX0_place 2 0 := ⟨lbX0_place, w_303, w_304, w_305, ⟨_, rfl, rfl⟩, by decide⟩
theorem w_340 : (Cond.code yX6_place cX6_place 2 none : Cond) ∈ tb := tb_at 340 (by decide +kernel) (by decide +kernel)
theorem lbX6_place : LkB yX6_place mX6_place 0 := ⟨w_33, w_340, by decide +kernel⟩
theorem w_337 : (Cond.methodLink RX6 39 yX6_place : Cond) ∈ tb := tb_at 337 (by decide +kernel) (by decide +kernel)
theorem w_339 : (Cond.instanceMethod yX6_place : Cond) ∈ tb := tb_at 339 (by decide +kernel) (by decide +kernel)
theorem w_0 : (Cond.selects RX6 yX6_place yX6_place : Cond) ∈ tb := tb_at 0 (by decide +kernel) (by decide +kernel)
theorem kX6_39 : LkV RX6 39 yX6_place mX6_place 0 6 := ⟨lbX6_place, w_337, w_339, w_0, ⟨_, rfl, rfl⟩, by decide⟩
theorem w_336 : (Cond.methodLink RX6 41 yX6_find : Cond) ∈ tb := tb_at 336 (by decide +kernel) (by decide +kernel)
theorem kX6_41 : LkV RX6 41 yX6_find mX6_find 1 6 := ⟨lbX6_find, w_336, w_222, w_223, ⟨_, rfl, rfl⟩, by decide⟩
theorem w_447 : (Cond.methodLink RX6 54 yX6_settle : Cond) ∈ tb := tb_at 447 (by decide +kernel) (by decide +kernel)
theorem kX6_54 : LkV RX6 54 yX6_settle mX6_settle 0 6 := ⟨lbX6_settle, w_447, w_333, w_334, ⟨_, rfl, rfl⟩, by decide⟩
theorem w_461 : (Cond.methodLink RX6 57 yX0_blended : Cond) ∈ tb := tb_at 461 (by decide +kernel) (by decide +kernel)
theorem kX6_57 : LkV RX6 57 yX0_blended mX0_blended 3 0 := ⟨lbX0_blended, w_461, w_462, w_463, ⟨_, rfl, rfl⟩, by decide⟩
theorem w_491 : (Cond.code yX0_takeTurn cX0_takeTurn 2 (some .int) : Cond) ∈ tb := tb_at 491 (by decide +kernel) (by decide +kernel)
theorem lbX0_takeTurn : LkB yX0_takeTurn mX0_takeTurn 1 := ⟨w_40, w_491, by decide +kernel⟩
theorem w_488 : (Cond.methodLink RX6 71 yX0_takeTurn : Cond) ∈ tb := tb_at 488 (by decide +kernel) (by decide +kernel)
theorem w_489 : (Cond.instanceMethod yX0_takeTurn : Cond) ∈ tb := tb_at 489 (by decide +kernel) (by decide +kernel)
theorem w_490 : (Cond.selects RX0 yX0_takeTurn yX0_takeTurn : Cond) ∈ tb := tb_at 490 (by decide +kernel) (by decide +kernel)
theorem kX6_71 : LkV RX6 71 yX0_takeTurn mX0_takeTurn 1 0 := ⟨lbX0_takeTurn, w_488, w_489, w_490, ⟨_, rfl, rfl⟩, by decide⟩
theorem w_391 : (Cond.code yX0_leastTurn cX0_leastTurn 1 (some .int) : Cond) ∈ tb := tb_at 391 (by decide +kernel) (by decide +kernel)
theorem lbX0_leastTurn : LkB yX0_leastTurn mX0_leastTurn 0 := ⟨w_40, w_391, by decide +kernel⟩
theorem w_388 : (Cond.methodLink RX6 78 yX0_leastTurn : Cond) ∈ tb := tb_at 388 (by decide +kernel) (by decide +kernel)
theorem w_389 : (Cond.instanceMethod yX0_leastTurn : Cond) ∈ tb := tb_at 389 (by decide +kernel) (by decide +kernel)
theorem w_390 : (Cond.selects RX0 yX0_leastTurn yX0_leastTurn : Cond) ∈ tb := tb_at 390 (by decide +kernel) (by decide +kernel)
theorem kX6_78 : LkV RX6 78 yX0_leastTurn mX0_leastTurn 0 0 := ⟨lbX0_leastTurn, w_388, w_389, w_390, ⟨_, rfl, rfl⟩, by decide⟩
theorem w_395 : (Cond.code yX0_nearestTurn cX0_nearestTurn 23 (some .int) : Cond) ∈ tb := tb_at 395 (by decide +kernel) (by decide +kernel)
theorem lbX0_nearestTurn : LkB yX0_nearestTurn mX0_nearestTurn 4 := ⟨w_40, w_395, by decide +kernel⟩
theorem w_392 : (Cond.methodLink RX6 82 yX0_nearestTurn : Cond) ∈ tb := tb_at 392 (by decide +kernel) (by decide +kernel)
theorem w_393 : (Cond.instanceMethod yX0_nearestTurn : Cond) ∈ tb := tb_at 393 (by decide +kernel) (by decide +kernel)
theorem w_394 : (Cond.selects RX0 yX0_nearestTurn yX0_nearestTurn : Cond) ∈ tb := tb_at 394 (by decide +kernel) (by decide +kernel)
theorem kX6_82 : LkV RX6 82 yX0_nearestTurn mX0_nearestTurn 4 0 := ⟨lbX0_nearestTurn, w_392, w_393, w_394, ⟨_, rfl, rfl⟩, by decide⟩
theorem w_402 : (Cond.methodLink RX6 88 yX0_allows : Cond) ∈ tb := tb_at 402 (by decide +kernel) (by decide +kernel)
theorem kX6_88 : LkV RX6 88 yX0_allows mX0_allows 1 0 := ⟨lbX0_allows, w_402, w_329, w_330, ⟨_, rfl, rfl⟩, by decide⟩
theorem w_403 : (Cond.methodLink RX6 92 yX0_farFrom : Cond) ∈ tb := tb_at 403 (by decide +kernel) (by decide +kernel)
theorem kX6_92 : LkV RX6 92 yX0_farFrom mX0_farFrom 2 0 := ⟨lbX0_farFrom, w_403, w_367, w_368, ⟨_, rfl, rfl⟩, by decide⟩
theorem w_416 : (Cond.code yX6_reachByRound cX6_reachByRound 9 (some .boolean) : Cond) ∈ tb := tb_at 416 (by decide +kernel) (by decide +kernel)
theorem lbX6_reachByRound : LkB yX6_reachByRound mX6_reachByRound 3 := ⟨w_33, w_416, by decide +kernel⟩
theorem w_413 : (Cond.methodLink RX6 96 yX6_reachByRound : Cond) ∈ tb := tb_at 413 (by decide +kernel) (by decide +kernel)
theorem w_415 : (Cond.instanceMethod yX6_reachByRound : Cond) ∈ tb := tb_at 415 (by decide +kernel) (by decide +kernel)
theorem w_2 : (Cond.selects RX6 yX6_reachByRound yX6_reachByRound : Cond) ∈ tb := tb_at 2 (by decide +kernel) (by decide +kernel)
theorem kX6_96 : LkV RX6 96 yX6_reachByRound mX6_reachByRound 3 6 := ⟨lbX6_reachByRound, w_413, w_415, w_2, ⟨_, rfl, rfl⟩, by decide⟩
theorem w_315 : (Cond.code yJ9_floorMod_7cf53 cJ9_floorMod_7cf53 3 (some .int) : Cond) ∈ tb := tb_at 315 (by decide +kernel) (by decide +kernel)
theorem lbJ9_floorMod_7cf53 : LkB yJ9_floorMod_7cf53 mJ9_floorMod_7cf53 2 := ⟨w_42, w_315, by decide +kernel⟩
theorem w_313 : (Cond.methodLink RX7 9 yJ9_floorMod_7cf53 : Cond) ∈ tb := tb_at 313 (by decide +kernel) (by decide +kernel)
theorem w_314 : (Cond.static yJ9_floorMod_7cf53 : Cond) ∈ tb := tb_at 314 (by decide +kernel) (by decide +kernel)
theorem kX7_9 : LkS RX7 9 yJ9_floorMod_7cf53 mJ9_floorMod_7cf53 2 := ⟨lbJ9_floorMod_7cf53, w_313, w_314⟩
theorem w_49 : (Cond.code yX8_init cX8_init 2 none : Cond) ∈ tb := tb_at 49 (by decide +kernel) (by decide +kernel)
theorem lbX8_init : LkB yX8_init mX8_init 0 := ⟨w_32, w_49, by decide +kernel⟩
theorem w_47 : (Cond.methodLink RL 9 yX8_init : Cond) ∈ tb := tb_at 47 (by decide +kernel) (by decide +kernel)
theorem w_48 : (Cond.instanceMethod yX8_init : Cond) ∈ tb := tb_at 48 (by decide +kernel) (by decide +kernel)
theorem kL_9 : LkI RL 9 yX8_init mX8_init 0 := ⟨lbX8_init, w_47, w_48⟩
theorem w_39 : (Cond.initialized RX9 : Cond) ∈ tb := tb_at 39 (by decide +kernel) (by decide +kernel)
theorem w_692 : (Cond.code yX9_init cX9_init 2 none : Cond) ∈ tb := tb_at 692 (by decide +kernel) (by decide +kernel)
theorem lbX9_init : LkB yX9_init mX9_init 0 := ⟨w_39, w_692, by decide +kernel⟩
theorem w_690 : (Cond.methodLink RL 12 yX9_init : Cond) ∈ tb := tb_at 690 (by decide +kernel) (by decide +kernel)
theorem w_691 : (Cond.instanceMethod yX9_init : Cond) ∈ tb := tb_at 691 (by decide +kernel) (by decide +kernel)
theorem kL_12 : LkI RL 12 yX9_init mX9_init 0 := ⟨lbX9_init, w_690, w_691⟩
theorem w_220 : (Cond.code yX8_bone cX8_bone 6 (some .int) : Cond) ∈ tb := tb_at 220 (by decide +kernel) (by decide +kernel)
theorem lbX8_bone : LkB yX8_bone mX8_bone 4 := ⟨w_32, w_220, by decide +kernel⟩
theorem w_217 : (Cond.methodLink RL 13 yX8_bone : Cond) ∈ tb := tb_at 217 (by decide +kernel) (by decide +kernel)
theorem w_218 : (Cond.instanceMethod yX8_bone : Cond) ∈ tb := tb_at 218 (by decide +kernel) (by decide +kernel)
theorem w_219 : (Cond.selects RX8 yX8_bone yX8_bone : Cond) ∈ tb := tb_at 219 (by decide +kernel) (by decide +kernel)
theorem kL_13 : LkV RL 13 yX8_bone mX8_bone 4 7 := ⟨lbX8_bone, w_217, w_218, w_219, ⟨_, rfl, rfl⟩, by decide⟩
theorem w_804 : (Cond.code yX9_bone cX9_bone 6 (some .int) : Cond) ∈ tb := tb_at 804 (by decide +kernel) (by decide +kernel)
theorem lbX9_bone : LkB yX9_bone mX9_bone 4 := ⟨w_39, w_804, by decide +kernel⟩
theorem w_801 : (Cond.methodLink RL 17 yX9_bone : Cond) ∈ tb := tb_at 801 (by decide +kernel) (by decide +kernel)
theorem w_802 : (Cond.instanceMethod yX9_bone : Cond) ∈ tb := tb_at 802 (by decide +kernel) (by decide +kernel)
theorem w_803 : (Cond.selects RX9 yX9_bone yX9_bone : Cond) ∈ tb := tb_at 803 (by decide +kernel) (by decide +kernel)
theorem kL_17 : LkV RL 17 yX9_bone mX9_bone 4 8 := ⟨lbX9_bone, w_801, w_802, w_803, ⟨_, rfl, rfl⟩, by decide⟩
theorem w_323 : (Cond.code yX8_about cX8_about 4 (some .int) : Cond) ∈ tb := tb_at 323 (by decide +kernel) (by decide +kernel)
theorem lbX8_about : LkB yX8_about mX8_about 2 := ⟨w_32, w_323, by decide +kernel⟩
theorem w_320 : (Cond.methodLink RL 18 yX8_about : Cond) ∈ tb := tb_at 320 (by decide +kernel) (by decide +kernel)
theorem w_321 : (Cond.instanceMethod yX8_about : Cond) ∈ tb := tb_at 321 (by decide +kernel) (by decide +kernel)
theorem w_322 : (Cond.selects RX8 yX8_about yX8_about : Cond) ∈ tb := tb_at 322 (by decide +kernel) (by decide +kernel)
theorem kL_18 : LkV RL 18 yX8_about mX8_about 2 7 := ⟨lbX8_about, w_320, w_321, w_322, ⟨_, rfl, rfl⟩, by decide⟩
theorem w_818 : (Cond.code yX9_about cX9_about 3 (some .int) : Cond) ∈ tb := tb_at 818 (by decide +kernel) (by decide +kernel)
theorem lbX9_about : LkB yX9_about mX9_about 2 := ⟨w_39, w_818, by decide +kernel⟩
theorem w_815 : (Cond.methodLink RL 22 yX9_about : Cond) ∈ tb := tb_at 815 (by decide +kernel) (by decide +kernel)
theorem w_816 : (Cond.instanceMethod yX9_about : Cond) ∈ tb := tb_at 816 (by decide +kernel) (by decide +kernel)
theorem w_817 : (Cond.selects RX9 yX9_about yX9_about : Cond) ∈ tb := tb_at 817 (by decide +kernel) (by decide +kernel)
theorem kL_22 : LkV RL 22 yX9_about mX9_about 2 8 := ⟨lbX9_about, w_815, w_816, w_817, ⟨_, rfl, rfl⟩, by decide⟩
theorem w_327 : (Cond.code yX8_turn cX8_turn 5 (some .int) : Cond) ∈ tb := tb_at 327 (by decide +kernel) (by decide +kernel)
theorem lbX8_turn : LkB yX8_turn mX8_turn 2 := ⟨w_32, w_327, by decide +kernel⟩
theorem w_324 : (Cond.methodLink RL 23 yX8_turn : Cond) ∈ tb := tb_at 324 (by decide +kernel) (by decide +kernel)
theorem w_325 : (Cond.instanceMethod yX8_turn : Cond) ∈ tb := tb_at 325 (by decide +kernel) (by decide +kernel)
theorem w_326 : (Cond.selects RX8 yX8_turn yX8_turn : Cond) ∈ tb := tb_at 326 (by decide +kernel) (by decide +kernel)
theorem kL_23 : LkV RL 23 yX8_turn mX8_turn 2 7 := ⟨lbX8_turn, w_324, w_325, w_326, ⟨_, rfl, rfl⟩, by decide⟩
theorem w_826 : (Cond.code yX9_turn cX9_turn 4 (some .int) : Cond) ∈ tb := tb_at 826 (by decide +kernel) (by decide +kernel)
theorem lbX9_turn : LkB yX9_turn mX9_turn 2 := ⟨w_39, w_826, by decide +kernel⟩
theorem w_823 : (Cond.methodLink RL 26 yX9_turn : Cond) ∈ tb := tb_at 823 (by decide +kernel) (by decide +kernel)
theorem w_824 : (Cond.instanceMethod yX9_turn : Cond) ∈ tb := tb_at 824 (by decide +kernel) (by decide +kernel)
theorem w_825 : (Cond.selects RX9 yX9_turn yX9_turn : Cond) ∈ tb := tb_at 825 (by decide +kernel) (by decide +kernel)
theorem kL_26 : LkV RL 26 yX9_turn mX9_turn 2 8 := ⟨lbX9_turn, w_823, w_824, w_825, ⟨_, rfl, rfl⟩, by decide⟩
theorem w_344 : (Cond.code yX8_root cX8_root 5 (some .int) : Cond) ∈ tb := tb_at 344 (by decide +kernel) (by decide +kernel)
theorem lbX8_root : LkB yX8_root mX8_root 2 := ⟨w_32, w_344, by decide +kernel⟩
theorem w_341 : (Cond.methodLink RL 29 yX8_root : Cond) ∈ tb := tb_at 341 (by decide +kernel) (by decide +kernel)
theorem w_342 : (Cond.instanceMethod yX8_root : Cond) ∈ tb := tb_at 342 (by decide +kernel) (by decide +kernel)
theorem w_343 : (Cond.selects RX8 yX8_root yX8_root : Cond) ∈ tb := tb_at 343 (by decide +kernel) (by decide +kernel)
theorem kL_29 : LkV RL 29 yX8_root mX8_root 2 7 := ⟨lbX8_root, w_341, w_342, w_343, ⟨_, rfl, rfl⟩, by decide⟩
theorem w_851 : (Cond.code yX9_root cX9_root 5 (some .int) : Cond) ∈ tb := tb_at 851 (by decide +kernel) (by decide +kernel)
theorem lbX9_root : LkB yX9_root mX9_root 2 := ⟨w_39, w_851, by decide +kernel⟩
theorem w_848 : (Cond.methodLink RL 33 yX9_root : Cond) ∈ tb := tb_at 848 (by decide +kernel) (by decide +kernel)
theorem w_849 : (Cond.instanceMethod yX9_root : Cond) ∈ tb := tb_at 849 (by decide +kernel) (by decide +kernel)
theorem w_850 : (Cond.selects RX9 yX9_root yX9_root : Cond) ∈ tb := tb_at 850 (by decide +kernel) (by decide +kernel)
theorem kL_33 : LkV RL 33 yX9_root mX9_root 2 8 := ⟨lbX9_root, w_848, w_849, w_850, ⟨_, rfl, rfl⟩, by decide⟩
theorem w_357 : (Cond.code yX8_end cX8_end 4 (some .long) : Cond) ∈ tb := tb_at 357 (by decide +kernel) (by decide +kernel)
theorem lbX8_end : LkB yX8_end mX8_end 2 := ⟨w_32, w_357, by decide +kernel⟩
theorem w_354 : (Cond.methodLink RL 34 yX8_end : Cond) ∈ tb := tb_at 354 (by decide +kernel) (by decide +kernel)
theorem w_355 : (Cond.instanceMethod yX8_end : Cond) ∈ tb := tb_at 355 (by decide +kernel) (by decide +kernel)
theorem w_356 : (Cond.selects RX8 yX8_end yX8_end : Cond) ∈ tb := tb_at 356 (by decide +kernel) (by decide +kernel)
theorem kL_34 : LkV RL 34 yX8_end mX8_end 2 7 := ⟨lbX8_end, w_354, w_355, w_356, ⟨_, rfl, rfl⟩, by decide⟩
theorem w_860 : (Cond.code yX9_end cX9_end 3 (some .long) : Cond) ∈ tb := tb_at 860 (by decide +kernel) (by decide +kernel)
theorem lbX9_end : LkB yX9_end mX9_end 2 := ⟨w_39, w_860, by decide +kernel⟩
theorem w_857 : (Cond.methodLink RL 38 yX9_end : Cond) ∈ tb := tb_at 857 (by decide +kernel) (by decide +kernel)
theorem w_858 : (Cond.instanceMethod yX9_end : Cond) ∈ tb := tb_at 858 (by decide +kernel) (by decide +kernel)
theorem w_859 : (Cond.selects RX9 yX9_end yX9_end : Cond) ∈ tb := tb_at 859 (by decide +kernel) (by decide +kernel)
theorem kL_38 : LkV RL 38 yX9_end mX9_end 2 8 := ⟨lbX9_end, w_857, w_858, w_859, ⟨_, rfl, rfl⟩, by decide⟩
theorem w_365 : (Cond.code yX8_far cX8_far 7 (some .long) : Cond) ∈ tb := tb_at 365 (by decide +kernel) (by decide +kernel)
theorem lbX8_far : LkB yX8_far mX8_far 3 := ⟨w_32, w_365, by decide +kernel⟩
theorem w_362 : (Cond.methodLink RL 39 yX8_far : Cond) ∈ tb := tb_at 362 (by decide +kernel) (by decide +kernel)
theorem w_363 : (Cond.instanceMethod yX8_far : Cond) ∈ tb := tb_at 363 (by decide +kernel) (by decide +kernel)
theorem w_364 : (Cond.selects RX8 yX8_far yX8_far : Cond) ∈ tb := tb_at 364 (by decide +kernel) (by decide +kernel)
theorem kL_39 : LkV RL 39 yX8_far mX8_far 3 7 := ⟨lbX8_far, w_362, w_363, w_364, ⟨_, rfl, rfl⟩, by decide⟩
theorem w_868 : (Cond.code yX9_far cX9_far 6 (some .long) : Cond) ∈ tb := tb_at 868 (by decide +kernel) (by decide +kernel)
theorem lbX9_far : LkB yX9_far mX9_far 3 := ⟨w_39, w_868, by decide +kernel⟩
theorem w_865 : (Cond.methodLink RL 43 yX9_far : Cond) ∈ tb := tb_at 865 (by decide +kernel) (by decide +kernel)
theorem w_866 : (Cond.instanceMethod yX9_far : Cond) ∈ tb := tb_at 866 (by decide +kernel) (by decide +kernel)
theorem w_867 : (Cond.selects RX9 yX9_far yX9_far : Cond) ∈ tb := tb_at 867 (by decide +kernel) (by decide +kernel)
theorem kL_43 : LkV RL 43 yX9_far mX9_far 3 8 := ⟨lbX9_far, w_865, w_866, w_867, ⟨_, rfl, rfl⟩, by decide⟩
theorem w_379 : (Cond.code yX8_lock cX8_lock 3 (some .int) : Cond) ∈ tb := tb_at 379 (by decide +kernel) (by decide +kernel)
theorem lbX8_lock : LkB yX8_lock mX8_lock 1 := ⟨w_32, w_379, by decide +kernel⟩
theorem w_376 : (Cond.methodLink RL 44 yX8_lock : Cond) ∈ tb := tb_at 376 (by decide +kernel) (by decide +kernel)
theorem w_377 : (Cond.instanceMethod yX8_lock : Cond) ∈ tb := tb_at 377 (by decide +kernel) (by decide +kernel)
theorem w_378 : (Cond.selects RX8 yX8_lock yX8_lock : Cond) ∈ tb := tb_at 378 (by decide +kernel) (by decide +kernel)
theorem kL_44 : LkV RL 44 yX8_lock mX8_lock 1 7 := ⟨lbX8_lock, w_376, w_377, w_378, ⟨_, rfl, rfl⟩, by decide⟩
theorem w_876 : (Cond.code yX9_lock cX9_lock 3 (some .int) : Cond) ∈ tb := tb_at 876 (by decide +kernel) (by decide +kernel)
theorem lbX9_lock : LkB yX9_lock mX9_lock 1 := ⟨w_39, w_876, by decide +kernel⟩
theorem w_873 : (Cond.methodLink RL 48 yX9_lock : Cond) ∈ tb := tb_at 873 (by decide +kernel) (by decide +kernel)
theorem w_874 : (Cond.instanceMethod yX9_lock : Cond) ∈ tb := tb_at 874 (by decide +kernel) (by decide +kernel)
theorem w_875 : (Cond.selects RX9 yX9_lock yX9_lock : Cond) ∈ tb := tb_at 875 (by decide +kernel) (by decide +kernel)
theorem kL_48 : LkV RL 48 yX9_lock mX9_lock 1 8 := ⟨lbX9_lock, w_873, w_874, w_875, ⟨_, rfl, rfl⟩, by decide⟩
theorem w_383 : (Cond.code yX8_two cX8_two 7 (some .long) : Cond) ∈ tb := tb_at 383 (by decide +kernel) (by decide +kernel)
theorem lbX8_two : LkB yX8_two mX8_two 3 := ⟨w_32, w_383, by decide +kernel⟩
theorem w_380 : (Cond.methodLink RL 49 yX8_two : Cond) ∈ tb := tb_at 380 (by decide +kernel) (by decide +kernel)
theorem w_381 : (Cond.instanceMethod yX8_two : Cond) ∈ tb := tb_at 381 (by decide +kernel) (by decide +kernel)
theorem w_382 : (Cond.selects RX8 yX8_two yX8_two : Cond) ∈ tb := tb_at 382 (by decide +kernel) (by decide +kernel)
theorem kL_49 : LkV RL 49 yX8_two mX8_two 3 7 := ⟨lbX8_two, w_380, w_381, w_382, ⟨_, rfl, rfl⟩, by decide⟩
theorem w_880 : (Cond.code yX9_two cX9_two 15 (some .long) : Cond) ∈ tb := tb_at 880 (by decide +kernel) (by decide +kernel)
theorem lbX9_two : LkB yX9_two mX9_two 3 := ⟨w_39, w_880, by decide +kernel⟩
theorem w_877 : (Cond.methodLink RL 52 yX9_two : Cond) ∈ tb := tb_at 877 (by decide +kernel) (by decide +kernel)
theorem w_878 : (Cond.instanceMethod yX9_two : Cond) ∈ tb := tb_at 878 (by decide +kernel) (by decide +kernel)
theorem w_879 : (Cond.selects RX9 yX9_two yX9_two : Cond) ∈ tb := tb_at 879 (by decide +kernel) (by decide +kernel)
theorem kL_52 : LkV RL 52 yX9_two mX9_two 3 8 := ⟨lbX9_two, w_877, w_878, w_879, ⟨_, rfl, rfl⟩, by decide⟩
theorem w_407 : (Cond.code yX8_rounds cX8_rounds 8 (some .long) : Cond) ∈ tb := tb_at 407 (by decide +kernel) (by decide +kernel)
theorem lbX8_rounds : LkB yX8_rounds mX8_rounds 4 := ⟨w_32, w_407, by decide +kernel⟩
theorem w_404 : (Cond.methodLink RL 53 yX8_rounds : Cond) ∈ tb := tb_at 404 (by decide +kernel) (by decide +kernel)
theorem w_405 : (Cond.instanceMethod yX8_rounds : Cond) ∈ tb := tb_at 405 (by decide +kernel) (by decide +kernel)
theorem w_406 : (Cond.selects RX8 yX8_rounds yX8_rounds : Cond) ∈ tb := tb_at 406 (by decide +kernel) (by decide +kernel)
theorem kL_53 : LkV RL 53 yX8_rounds mX8_rounds 4 7 := ⟨lbX8_rounds, w_404, w_405, w_406, ⟨_, rfl, rfl⟩, by decide⟩
theorem w_884 : (Cond.code yX9_rounds cX9_rounds 15 (some .long) : Cond) ∈ tb := tb_at 884 (by decide +kernel) (by decide +kernel)
theorem lbX9_rounds : LkB yX9_rounds mX9_rounds 4 := ⟨w_39, w_884, by decide +kernel⟩
theorem w_881 : (Cond.methodLink RL 57 yX9_rounds : Cond) ∈ tb := tb_at 881 (by decide +kernel) (by decide +kernel)
theorem w_882 : (Cond.instanceMethod yX9_rounds : Cond) ∈ tb := tb_at 882 (by decide +kernel) (by decide +kernel)
theorem w_883 : (Cond.selects RX9 yX9_rounds yX9_rounds : Cond) ∈ tb := tb_at 883 (by decide +kernel) (by decide +kernel)
theorem kL_57 : LkV RL 57 yX9_rounds mX9_rounds 4 8 := ⟨lbX9_rounds, w_881, w_882, w_883, ⟨_, rfl, rfl⟩, by decide⟩
theorem w_420 : (Cond.code yX8_frame cX8_frame 3 (some .int) : Cond) ∈ tb := tb_at 420 (by decide +kernel) (by decide +kernel)
theorem lbX8_frame : LkB yX8_frame mX8_frame 1 := ⟨w_32, w_420, by decide +kernel⟩
theorem w_417 : (Cond.methodLink RL 58 yX8_frame : Cond) ∈ tb := tb_at 417 (by decide +kernel) (by decide +kernel)
theorem w_418 : (Cond.instanceMethod yX8_frame : Cond) ∈ tb := tb_at 418 (by decide +kernel) (by decide +kernel)
theorem w_419 : (Cond.selects RX8 yX8_frame yX8_frame : Cond) ∈ tb := tb_at 419 (by decide +kernel) (by decide +kernel)
theorem kL_58 : LkV RL 58 yX8_frame mX8_frame 1 7 := ⟨lbX8_frame, w_417, w_418, w_419, ⟨_, rfl, rfl⟩, by decide⟩
theorem w_889 : (Cond.code yX9_frame cX9_frame 3 (some .int) : Cond) ∈ tb := tb_at 889 (by decide +kernel) (by decide +kernel)
theorem lbX9_frame : LkB yX9_frame mX9_frame 1 := ⟨w_39, w_889, by decide +kernel⟩
theorem w_886 : (Cond.methodLink RL 61 yX9_frame : Cond) ∈ tb := tb_at 886 (by decide +kernel) (by decide +kernel)
theorem w_887 : (Cond.instanceMethod yX9_frame : Cond) ∈ tb := tb_at 887 (by decide +kernel) (by decide +kernel)
theorem w_888 : (Cond.selects RX9 yX9_frame yX9_frame : Cond) ∈ tb := tb_at 888 (by decide +kernel) (by decide +kernel)
theorem kL_61 : LkV RL 61 yX9_frame mX9_frame 1 8 := ⟨lbX9_frame, w_886, w_887, w_888, ⟨_, rfl, rfl⟩, by decide⟩
theorem w_434 : (Cond.code yX8_clear cX8_clear 4 (some .int) : Cond) ∈ tb := tb_at 434 (by decide +kernel) (by decide +kernel)
theorem lbX8_clear : LkB yX8_clear mX8_clear 1 := ⟨w_32, w_434, by decide +kernel⟩
theorem w_431 : (Cond.methodLink RL 62 yX8_clear : Cond) ∈ tb := tb_at 431 (by decide +kernel) (by decide +kernel)
theorem w_432 : (Cond.instanceMethod yX8_clear : Cond) ∈ tb := tb_at 432 (by decide +kernel) (by decide +kernel)
theorem w_433 : (Cond.selects RX8 yX8_clear yX8_clear : Cond) ∈ tb := tb_at 433 (by decide +kernel) (by decide +kernel)
theorem kL_62 : LkV RL 62 yX8_clear mX8_clear 1 7 := ⟨lbX8_clear, w_431, w_432, w_433, ⟨_, rfl, rfl⟩, by decide⟩
theorem w_900 : (Cond.code yX9_clear cX9_clear 3 (some .int) : Cond) ∈ tb := tb_at 900 (by decide +kernel) (by decide +kernel)
theorem lbX9_clear : LkB yX9_clear mX9_clear 1 := ⟨w_39, w_900, by decide +kernel⟩
theorem w_897 : (Cond.methodLink RL 65 yX9_clear : Cond) ∈ tb := tb_at 897 (by decide +kernel) (by decide +kernel)
theorem w_898 : (Cond.instanceMethod yX9_clear : Cond) ∈ tb := tb_at 898 (by decide +kernel) (by decide +kernel)
theorem w_899 : (Cond.selects RX9 yX9_clear yX9_clear : Cond) ∈ tb := tb_at 899 (by decide +kernel) (by decide +kernel)
theorem kL_65 : LkV RL 65 yX9_clear mX9_clear 1 8 := ⟨lbX9_clear, w_897, w_898, w_899, ⟨_, rfl, rfl⟩, by decide⟩
theorem w_438 : (Cond.code yX8_show cX8_show 4 (some .int) : Cond) ∈ tb := tb_at 438 (by decide +kernel) (by decide +kernel)
theorem lbX8_show : LkB yX8_show mX8_show 2 := ⟨w_32, w_438, by decide +kernel⟩
theorem w_435 : (Cond.methodLink RL 66 yX8_show : Cond) ∈ tb := tb_at 435 (by decide +kernel) (by decide +kernel)
theorem w_436 : (Cond.instanceMethod yX8_show : Cond) ∈ tb := tb_at 436 (by decide +kernel) (by decide +kernel)
theorem w_437 : (Cond.selects RX8 yX8_show yX8_show : Cond) ∈ tb := tb_at 437 (by decide +kernel) (by decide +kernel)
theorem kL_66 : LkV RL 66 yX8_show mX8_show 2 7 := ⟨lbX8_show, w_435, w_436, w_437, ⟨_, rfl, rfl⟩, by decide⟩
theorem w_904 : (Cond.code yX9_show cX9_show 4 (some .int) : Cond) ∈ tb := tb_at 904 (by decide +kernel) (by decide +kernel)
theorem lbX9_show : LkB yX9_show mX9_show 2 := ⟨w_39, w_904, by decide +kernel⟩
theorem w_901 : (Cond.methodLink RL 69 yX9_show : Cond) ∈ tb := tb_at 901 (by decide +kernel) (by decide +kernel)
theorem w_902 : (Cond.instanceMethod yX9_show : Cond) ∈ tb := tb_at 902 (by decide +kernel) (by decide +kernel)
theorem w_903 : (Cond.selects RX9 yX9_show yX9_show : Cond) ∈ tb := tb_at 903 (by decide +kernel) (by decide +kernel)
theorem kL_69 : LkV RL 69 yX9_show mX9_show 2 8 := ⟨lbX9_show, w_901, w_902, w_903, ⟨_, rfl, rfl⟩, by decide⟩
theorem w_451 : (Cond.code yX8_at cX8_at 5 (some .int) : Cond) ∈ tb := tb_at 451 (by decide +kernel) (by decide +kernel)
theorem lbX8_at : LkB yX8_at mX8_at 3 := ⟨w_32, w_451, by decide +kernel⟩
theorem w_448 : (Cond.methodLink RL 70 yX8_at : Cond) ∈ tb := tb_at 448 (by decide +kernel) (by decide +kernel)
theorem w_449 : (Cond.instanceMethod yX8_at : Cond) ∈ tb := tb_at 449 (by decide +kernel) (by decide +kernel)
theorem w_450 : (Cond.selects RX8 yX8_at yX8_at : Cond) ∈ tb := tb_at 450 (by decide +kernel) (by decide +kernel)
theorem kL_70 : LkV RL 70 yX8_at mX8_at 3 7 := ⟨lbX8_at, w_448, w_449, w_450, ⟨_, rfl, rfl⟩, by decide⟩
theorem w_912 : (Cond.code yX9_at cX9_at 4 (some .int) : Cond) ∈ tb := tb_at 912 (by decide +kernel) (by decide +kernel)
theorem lbX9_at : LkB yX9_at mX9_at 3 := ⟨w_39, w_912, by decide +kernel⟩
theorem w_909 : (Cond.methodLink RL 74 yX9_at : Cond) ∈ tb := tb_at 909 (by decide +kernel) (by decide +kernel)
theorem w_910 : (Cond.instanceMethod yX9_at : Cond) ∈ tb := tb_at 910 (by decide +kernel) (by decide +kernel)
theorem w_911 : (Cond.selects RX9 yX9_at yX9_at : Cond) ∈ tb := tb_at 911 (by decide +kernel) (by decide +kernel)
theorem kL_74 : LkV RL 74 yX9_at mX9_at 3 8 := ⟨lbX9_at, w_909, w_910, w_911, ⟨_, rfl, rfl⟩, by decide⟩
theorem w_455 : (Cond.code yX8_blend cX8_blend 6 (some .int) : Cond) ∈ tb := tb_at 455 (by decide +kernel) (by decide +kernel)
theorem lbX8_blend : LkB yX8_blend mX8_blend 4 := ⟨w_32, w_455, by decide +kernel⟩
theorem w_452 : (Cond.methodLink RL 75 yX8_blend : Cond) ∈ tb := tb_at 452 (by decide +kernel) (by decide +kernel)
theorem w_453 : (Cond.instanceMethod yX8_blend : Cond) ∈ tb := tb_at 453 (by decide +kernel) (by decide +kernel)
theorem w_454 : (Cond.selects RX8 yX8_blend yX8_blend : Cond) ∈ tb := tb_at 454 (by decide +kernel) (by decide +kernel)
theorem kL_75 : LkV RL 75 yX8_blend mX8_blend 4 7 := ⟨lbX8_blend, w_452, w_453, w_454, ⟨_, rfl, rfl⟩, by decide⟩
theorem w_916 : (Cond.code yX9_blend cX9_blend 6 (some .int) : Cond) ∈ tb := tb_at 916 (by decide +kernel) (by decide +kernel)
theorem lbX9_blend : LkB yX9_blend mX9_blend 4 := ⟨w_39, w_916, by decide +kernel⟩
theorem w_913 : (Cond.methodLink RL 78 yX9_blend : Cond) ∈ tb := tb_at 913 (by decide +kernel) (by decide +kernel)
theorem w_914 : (Cond.instanceMethod yX9_blend : Cond) ∈ tb := tb_at 914 (by decide +kernel) (by decide +kernel)
theorem w_915 : (Cond.selects RX9 yX9_blend yX9_blend : Cond) ∈ tb := tb_at 915 (by decide +kernel) (by decide +kernel)
theorem kL_78 : LkV RL 78 yX9_blend mX9_blend 4 8 := ⟨lbX9_blend, w_913, w_914, w_915, ⟨_, rfl, rfl⟩, by decide⟩
theorem w_481 : (Cond.code yX8_add cX8_add 6 (some .int) : Cond) ∈ tb := tb_at 481 (by decide +kernel) (by decide +kernel)
theorem lbX8_add : LkB yX8_add mX8_add 3 := ⟨w_32, w_481, by decide +kernel⟩
theorem w_478 : (Cond.methodLink RL 79 yX8_add : Cond) ∈ tb := tb_at 478 (by decide +kernel) (by decide +kernel)
theorem w_479 : (Cond.instanceMethod yX8_add : Cond) ∈ tb := tb_at 479 (by decide +kernel) (by decide +kernel)
theorem w_480 : (Cond.selects RX8 yX8_add yX8_add : Cond) ∈ tb := tb_at 480 (by decide +kernel) (by decide +kernel)
theorem kL_79 : LkV RL 79 yX8_add mX8_add 3 7 := ⟨lbX8_add, w_478, w_479, w_480, ⟨_, rfl, rfl⟩, by decide⟩
theorem w_935 : (Cond.code yX9_add cX9_add 7 (some .int) : Cond) ∈ tb := tb_at 935 (by decide +kernel) (by decide +kernel)
theorem lbX9_add : LkB yX9_add mX9_add 3 := ⟨w_39, w_935, by decide +kernel⟩
theorem w_932 : (Cond.methodLink RL 82 yX9_add : Cond) ∈ tb := tb_at 932 (by decide +kernel) (by decide +kernel)
theorem w_933 : (Cond.instanceMethod yX9_add : Cond) ∈ tb := tb_at 933 (by decide +kernel) (by decide +kernel)
theorem w_934 : (Cond.selects RX9 yX9_add yX9_add : Cond) ∈ tb := tb_at 934 (by decide +kernel) (by decide +kernel)
theorem kL_82 : LkV RL 82 yX9_add mX9_add 3 8 := ⟨lbX9_add, w_932, w_933, w_934, ⟨_, rfl, rfl⟩, by decide⟩
theorem w_495 : (Cond.code yX8_like cX8_like 7 (some .int) : Cond) ∈ tb := tb_at 495 (by decide +kernel) (by decide +kernel)
theorem lbX8_like : LkB yX8_like mX8_like 4 := ⟨w_32, w_495, by decide +kernel⟩
theorem w_492 : (Cond.methodLink RL 83 yX8_like : Cond) ∈ tb := tb_at 492 (by decide +kernel) (by decide +kernel)
theorem w_493 : (Cond.instanceMethod yX8_like : Cond) ∈ tb := tb_at 493 (by decide +kernel) (by decide +kernel)
theorem w_494 : (Cond.selects RX8 yX8_like yX8_like : Cond) ∈ tb := tb_at 494 (by decide +kernel) (by decide +kernel)
theorem kL_83 : LkV RL 83 yX8_like mX8_like 4 7 := ⟨lbX8_like, w_492, w_493, w_494, ⟨_, rfl, rfl⟩, by decide⟩
theorem w_939 : (Cond.code yX9_like cX9_like 5 (some .int) : Cond) ∈ tb := tb_at 939 (by decide +kernel) (by decide +kernel)
theorem lbX9_like : LkB yX9_like mX9_like 4 := ⟨w_39, w_939, by decide +kernel⟩
theorem w_936 : (Cond.methodLink RL 86 yX9_like : Cond) ∈ tb := tb_at 936 (by decide +kernel) (by decide +kernel)
theorem w_937 : (Cond.instanceMethod yX9_like : Cond) ∈ tb := tb_at 937 (by decide +kernel) (by decide +kernel)
theorem w_938 : (Cond.selects RX9 yX9_like yX9_like : Cond) ∈ tb := tb_at 938 (by decide +kernel) (by decide +kernel)
theorem kL_86 : LkV RL 86 yX9_like mX9_like 4 8 := ⟨lbX9_like, w_936, w_937, w_938, ⟨_, rfl, rfl⟩, by decide⟩
theorem w_505 : (Cond.code yX8_pack cX8_pack 4 (some .int) : Cond) ∈ tb := tb_at 505 (by decide +kernel) (by decide +kernel)
theorem lbX8_pack : LkB yX8_pack mX8_pack 2 := ⟨w_32, w_505, by decide +kernel⟩
theorem w_502 : (Cond.methodLink RL 87 yX8_pack : Cond) ∈ tb := tb_at 502 (by decide +kernel) (by decide +kernel)
theorem w_503 : (Cond.instanceMethod yX8_pack : Cond) ∈ tb := tb_at 503 (by decide +kernel) (by decide +kernel)
theorem w_504 : (Cond.selects RX8 yX8_pack yX8_pack : Cond) ∈ tb := tb_at 504 (by decide +kernel) (by decide +kernel)
theorem kL_87 : LkV RL 87 yX8_pack mX8_pack 2 7 := ⟨lbX8_pack, w_502, w_503, w_504, ⟨_, rfl, rfl⟩, by decide⟩
theorem w_947 : (Cond.code yX9_pack cX9_pack 3 (some .int) : Cond) ∈ tb := tb_at 947 (by decide +kernel) (by decide +kernel)
theorem lbX9_pack : LkB yX9_pack mX9_pack 2 := ⟨w_39, w_947, by decide +kernel⟩
theorem w_944 : (Cond.methodLink RL 90 yX9_pack : Cond) ∈ tb := tb_at 944 (by decide +kernel) (by decide +kernel)
theorem w_945 : (Cond.instanceMethod yX9_pack : Cond) ∈ tb := tb_at 945 (by decide +kernel) (by decide +kernel)
theorem w_946 : (Cond.selects RX9 yX9_pack yX9_pack : Cond) ∈ tb := tb_at 946 (by decide +kernel) (by decide +kernel)
theorem kL_90 : LkV RL 90 yX9_pack mX9_pack 2 8 := ⟨lbX9_pack, w_944, w_945, w_946, ⟨_, rfl, rfl⟩, by decide⟩
theorem w_522 : (Cond.code yX8_key cX8_key 2 (some .int) : Cond) ∈ tb := tb_at 522 (by decide +kernel) (by decide +kernel)
theorem lbX8_key : LkB yX8_key mX8_key 1 := ⟨w_32, w_522, by decide +kernel⟩
theorem w_519 : (Cond.methodLink RL 91 yX8_key : Cond) ∈ tb := tb_at 519 (by decide +kernel) (by decide +kernel)
theorem w_520 : (Cond.instanceMethod yX8_key : Cond) ∈ tb := tb_at 520 (by decide +kernel) (by decide +kernel)
theorem w_521 : (Cond.selects RX8 yX8_key yX8_key : Cond) ∈ tb := tb_at 521 (by decide +kernel) (by decide +kernel)
theorem kL_91 : LkV RL 91 yX8_key mX8_key 1 7 := ⟨lbX8_key, w_519, w_520, w_521, ⟨_, rfl, rfl⟩, by decide⟩
theorem w_960 : (Cond.code yX9_key cX9_key 2 (some .int) : Cond) ∈ tb := tb_at 960 (by decide +kernel) (by decide +kernel)
theorem lbX9_key : LkB yX9_key mX9_key 1 := ⟨w_39, w_960, by decide +kernel⟩
theorem w_957 : (Cond.methodLink RL 94 yX9_key : Cond) ∈ tb := tb_at 957 (by decide +kernel) (by decide +kernel)
theorem w_958 : (Cond.instanceMethod yX9_key : Cond) ∈ tb := tb_at 958 (by decide +kernel) (by decide +kernel)
theorem w_959 : (Cond.selects RX9 yX9_key yX9_key : Cond) ∈ tb := tb_at 959 (by decide +kernel) (by decide +kernel)
theorem kL_94 : LkV RL 94 yX9_key mX9_key 1 8 := ⟨lbX9_key, w_957, w_958, w_959, ⟨_, rfl, rfl⟩, by decide⟩
theorem w_526 : (Cond.code yX8_thin cX8_thin 5 (some .int) : Cond) ∈ tb := tb_at 526 (by decide +kernel) (by decide +kernel)
theorem lbX8_thin : LkB yX8_thin mX8_thin 2 := ⟨w_32, w_526, by decide +kernel⟩
theorem w_523 : (Cond.methodLink RL 95 yX8_thin : Cond) ∈ tb := tb_at 523 (by decide +kernel) (by decide +kernel)
theorem w_524 : (Cond.instanceMethod yX8_thin : Cond) ∈ tb := tb_at 524 (by decide +kernel) (by decide +kernel)
theorem w_525 : (Cond.selects RX8 yX8_thin yX8_thin : Cond) ∈ tb := tb_at 525 (by decide +kernel) (by decide +kernel)
theorem kL_95 : LkV RL 95 yX8_thin mX8_thin 2 7 := ⟨lbX8_thin, w_523, w_524, w_525, ⟨_, rfl, rfl⟩, by decide⟩
theorem w_964 : (Cond.code yX9_thin cX9_thin 6 (some .int) : Cond) ∈ tb := tb_at 964 (by decide +kernel) (by decide +kernel)
theorem lbX9_thin : LkB yX9_thin mX9_thin 2 := ⟨w_39, w_964, by decide +kernel⟩
theorem w_961 : (Cond.methodLink RL 98 yX9_thin : Cond) ∈ tb := tb_at 961 (by decide +kernel) (by decide +kernel)
theorem w_962 : (Cond.instanceMethod yX9_thin : Cond) ∈ tb := tb_at 962 (by decide +kernel) (by decide +kernel)
theorem w_963 : (Cond.selects RX9 yX9_thin yX9_thin : Cond) ∈ tb := tb_at 963 (by decide +kernel) (by decide +kernel)
theorem kL_98 : LkV RL 98 yX9_thin mX9_thin 2 8 := ⟨lbX9_thin, w_961, w_962, w_963, ⟨_, rfl, rfl⟩, by decide⟩
theorem w_537 : (Cond.code yX8_join cX8_join 3 (some .int) : Cond) ∈ tb := tb_at 537 (by decide +kernel) (by decide +kernel)
theorem lbX8_join : LkB yX8_join mX8_join 1 := ⟨w_32, w_537, by decide +kernel⟩
theorem w_534 : (Cond.methodLink RL 99 yX8_join : Cond) ∈ tb := tb_at 534 (by decide +kernel) (by decide +kernel)
theorem w_535 : (Cond.instanceMethod yX8_join : Cond) ∈ tb := tb_at 535 (by decide +kernel) (by decide +kernel)
theorem w_536 : (Cond.selects RX8 yX8_join yX8_join : Cond) ∈ tb := tb_at 536 (by decide +kernel) (by decide +kernel)
theorem kL_99 : LkV RL 99 yX8_join mX8_join 1 7 := ⟨lbX8_join, w_534, w_535, w_536, ⟨_, rfl, rfl⟩, by decide⟩
theorem w_968 : (Cond.code yX9_join cX9_join 3 (some .int) : Cond) ∈ tb := tb_at 968 (by decide +kernel) (by decide +kernel)
theorem lbX9_join : LkB yX9_join mX9_join 1 := ⟨w_39, w_968, by decide +kernel⟩
theorem w_965 : (Cond.methodLink RL 102 yX9_join : Cond) ∈ tb := tb_at 965 (by decide +kernel) (by decide +kernel)
theorem w_966 : (Cond.instanceMethod yX9_join : Cond) ∈ tb := tb_at 966 (by decide +kernel) (by decide +kernel)
theorem w_967 : (Cond.selects RX9 yX9_join yX9_join : Cond) ∈ tb := tb_at 967 (by decide +kernel) (by decide +kernel)
theorem kL_102 : LkV RL 102 yX9_join mX9_join 1 8 := ⟨lbX9_join, w_965, w_966, w_967, ⟨_, rfl, rfl⟩, by decide⟩
theorem w_541 : (Cond.code yX8_live cX8_live 3 (some .int) : Cond) ∈ tb := tb_at 541 (by decide +kernel) (by decide +kernel)
theorem lbX8_live : LkB yX8_live mX8_live 0 := ⟨w_32, w_541, by decide +kernel⟩
theorem w_538 : (Cond.methodLink RL 103 yX8_live : Cond) ∈ tb := tb_at 538 (by decide +kernel) (by decide +kernel)
theorem w_539 : (Cond.instanceMethod yX8_live : Cond) ∈ tb := tb_at 539 (by decide +kernel) (by decide +kernel)
theorem w_540 : (Cond.selects RX8 yX8_live yX8_live : Cond) ∈ tb := tb_at 540 (by decide +kernel) (by decide +kernel)
theorem kL_103 : LkV RL 103 yX8_live mX8_live 0 7 := ⟨lbX8_live, w_538, w_539, w_540, ⟨_, rfl, rfl⟩, by decide⟩
theorem w_972 : (Cond.code yX9_live cX9_live 1 (some .int) : Cond) ∈ tb := tb_at 972 (by decide +kernel) (by decide +kernel)
theorem lbX9_live : LkB yX9_live mX9_live 0 := ⟨w_39, w_972, by decide +kernel⟩
theorem w_969 : (Cond.methodLink RL 107 yX9_live : Cond) ∈ tb := tb_at 969 (by decide +kernel) (by decide +kernel)
theorem w_970 : (Cond.instanceMethod yX9_live : Cond) ∈ tb := tb_at 970 (by decide +kernel) (by decide +kernel)
theorem w_971 : (Cond.selects RX9 yX9_live yX9_live : Cond) ∈ tb := tb_at 971 (by decide +kernel) (by decide +kernel)
theorem kL_107 : LkV RL 107 yX9_live mX9_live 0 8 := ⟨lbX9_live, w_969, w_970, w_971, ⟨_, rfl, rfl⟩, by decide⟩
theorem w_560 : (Cond.code yX8_isLive cX8_isLive 3 (some .int) : Cond) ∈ tb := tb_at 560 (by decide +kernel) (by decide +kernel)
theorem lbX8_isLive : LkB yX8_isLive mX8_isLive 2 := ⟨w_32, w_560, by decide +kernel⟩
theorem w_557 : (Cond.methodLink RL 108 yX8_isLive : Cond) ∈ tb := tb_at 557 (by decide +kernel) (by decide +kernel)
theorem w_558 : (Cond.instanceMethod yX8_isLive : Cond) ∈ tb := tb_at 558 (by decide +kernel) (by decide +kernel)
theorem w_559 : (Cond.selects RX8 yX8_isLive yX8_isLive : Cond) ∈ tb := tb_at 559 (by decide +kernel) (by decide +kernel)
theorem kL_108 : LkV RL 108 yX8_isLive mX8_isLive 2 7 := ⟨lbX8_isLive, w_557, w_558, w_559, ⟨_, rfl, rfl⟩, by decide⟩
theorem w_988 : (Cond.code yX9_isLive cX9_isLive 4 (some .int) : Cond) ∈ tb := tb_at 988 (by decide +kernel) (by decide +kernel)
theorem lbX9_isLive : LkB yX9_isLive mX9_isLive 2 := ⟨w_39, w_988, by decide +kernel⟩
theorem w_985 : (Cond.methodLink RL 111 yX9_isLive : Cond) ∈ tb := tb_at 985 (by decide +kernel) (by decide +kernel)
theorem w_986 : (Cond.instanceMethod yX9_isLive : Cond) ∈ tb := tb_at 986 (by decide +kernel) (by decide +kernel)
theorem w_987 : (Cond.selects RX9 yX9_isLive yX9_isLive : Cond) ∈ tb := tb_at 987 (by decide +kernel) (by decide +kernel)
theorem kL_111 : LkV RL 111 yX9_isLive mX9_isLive 2 8 := ⟨lbX9_isLive, w_985, w_986, w_987, ⟨_, rfl, rfl⟩, by decide⟩
theorem w_564 : (Cond.code yX8_walk cX8_walk 5 (some .int) : Cond) ∈ tb := tb_at 564 (by decide +kernel) (by decide +kernel)
theorem lbX8_walk : LkB yX8_walk mX8_walk 4 := ⟨w_32, w_564, by decide +kernel⟩
theorem w_561 : (Cond.methodLink RL 112 yX8_walk : Cond) ∈ tb := tb_at 561 (by decide +kernel) (by decide +kernel)
theorem w_562 : (Cond.instanceMethod yX8_walk : Cond) ∈ tb := tb_at 562 (by decide +kernel) (by decide +kernel)
theorem w_563 : (Cond.selects RX8 yX8_walk yX8_walk : Cond) ∈ tb := tb_at 563 (by decide +kernel) (by decide +kernel)
theorem kL_112 : LkV RL 112 yX8_walk mX8_walk 4 7 := ⟨lbX8_walk, w_561, w_562, w_563, ⟨_, rfl, rfl⟩, by decide⟩
theorem w_992 : (Cond.code yX9_walk cX9_walk 8 (some .int) : Cond) ∈ tb := tb_at 992 (by decide +kernel) (by decide +kernel)
theorem lbX9_walk : LkB yX9_walk mX9_walk 4 := ⟨w_39, w_992, by decide +kernel⟩
theorem w_989 : (Cond.methodLink RL 115 yX9_walk : Cond) ∈ tb := tb_at 989 (by decide +kernel) (by decide +kernel)
theorem w_990 : (Cond.instanceMethod yX9_walk : Cond) ∈ tb := tb_at 990 (by decide +kernel) (by decide +kernel)
theorem w_991 : (Cond.selects RX9 yX9_walk yX9_walk : Cond) ∈ tb := tb_at 991 (by decide +kernel) (by decide +kernel)
theorem kL_115 : LkV RL 115 yX9_walk mX9_walk 4 8 := ⟨lbX9_walk, w_989, w_990, w_991, ⟨_, rfl, rfl⟩, by decide⟩
theorem w_596 : (Cond.code yX8_step cX8_step 2 (some .int) : Cond) ∈ tb := tb_at 596 (by decide +kernel) (by decide +kernel)
theorem lbX8_step : LkB yX8_step mX8_step 1 := ⟨w_32, w_596, by decide +kernel⟩
theorem w_593 : (Cond.methodLink RL 116 yX8_step : Cond) ∈ tb := tb_at 593 (by decide +kernel) (by decide +kernel)
theorem w_594 : (Cond.instanceMethod yX8_step : Cond) ∈ tb := tb_at 594 (by decide +kernel) (by decide +kernel)
theorem w_595 : (Cond.selects RX8 yX8_step yX8_step : Cond) ∈ tb := tb_at 595 (by decide +kernel) (by decide +kernel)
theorem kL_116 : LkV RL 116 yX8_step mX8_step 1 7 := ⟨lbX8_step, w_593, w_594, w_595, ⟨_, rfl, rfl⟩, by decide⟩
theorem w_1000 : (Cond.code yX9_step cX9_step 2 (some .int) : Cond) ∈ tb := tb_at 1000 (by decide +kernel) (by decide +kernel)
theorem lbX9_step : LkB yX9_step mX9_step 1 := ⟨w_39, w_1000, by decide +kernel⟩
theorem w_997 : (Cond.methodLink RL 119 yX9_step : Cond) ∈ tb := tb_at 997 (by decide +kernel) (by decide +kernel)
theorem w_998 : (Cond.instanceMethod yX9_step : Cond) ∈ tb := tb_at 998 (by decide +kernel) (by decide +kernel)
theorem w_999 : (Cond.selects RX9 yX9_step yX9_step : Cond) ∈ tb := tb_at 999 (by decide +kernel) (by decide +kernel)
theorem kL_119 : LkV RL 119 yX9_step mX9_step 1 8 := ⟨lbX9_step, w_997, w_998, w_999, ⟨_, rfl, rfl⟩, by decide⟩
theorem w_600 : (Cond.code yX8_sheet cX8_sheet 5 (some .int) : Cond) ∈ tb := tb_at 600 (by decide +kernel) (by decide +kernel)
theorem lbX8_sheet : LkB yX8_sheet mX8_sheet 3 := ⟨w_32, w_600, by decide +kernel⟩
theorem w_597 : (Cond.methodLink RL 120 yX8_sheet : Cond) ∈ tb := tb_at 597 (by decide +kernel) (by decide +kernel)
theorem w_598 : (Cond.instanceMethod yX8_sheet : Cond) ∈ tb := tb_at 598 (by decide +kernel) (by decide +kernel)
theorem w_599 : (Cond.selects RX8 yX8_sheet yX8_sheet : Cond) ∈ tb := tb_at 599 (by decide +kernel) (by decide +kernel)
theorem kL_120 : LkV RL 120 yX8_sheet mX8_sheet 3 7 := ⟨lbX8_sheet, w_597, w_598, w_599, ⟨_, rfl, rfl⟩, by decide⟩
theorem w_1004 : (Cond.code yX9_sheet cX9_sheet 5 (some .int) : Cond) ∈ tb := tb_at 1004 (by decide +kernel) (by decide +kernel)
theorem lbX9_sheet : LkB yX9_sheet mX9_sheet 3 := ⟨w_39, w_1004, by decide +kernel⟩
theorem w_1001 : (Cond.methodLink RL 123 yX9_sheet : Cond) ∈ tb := tb_at 1001 (by decide +kernel) (by decide +kernel)
theorem w_1002 : (Cond.instanceMethod yX9_sheet : Cond) ∈ tb := tb_at 1002 (by decide +kernel) (by decide +kernel)
theorem w_1003 : (Cond.selects RX9 yX9_sheet yX9_sheet : Cond) ∈ tb := tb_at 1003 (by decide +kernel) (by decide +kernel)
theorem kL_123 : LkV RL 123 yX9_sheet mX9_sheet 3 8 := ⟨lbX9_sheet, w_1001, w_1002, w_1003, ⟨_, rfl, rfl⟩, by decide⟩
theorem w_622 : (Cond.code yX8_lose cX8_lose 3 (some .int) : Cond) ∈ tb := tb_at 622 (by decide +kernel) (by decide +kernel)
theorem lbX8_lose : LkB yX8_lose mX8_lose 1 := ⟨w_32, w_622, by decide +kernel⟩
theorem w_619 : (Cond.methodLink RL 124 yX8_lose : Cond) ∈ tb := tb_at 619 (by decide +kernel) (by decide +kernel)
theorem w_620 : (Cond.instanceMethod yX8_lose : Cond) ∈ tb := tb_at 620 (by decide +kernel) (by decide +kernel)
theorem w_621 : (Cond.selects RX8 yX8_lose yX8_lose : Cond) ∈ tb := tb_at 621 (by decide +kernel) (by decide +kernel)
theorem kL_124 : LkV RL 124 yX8_lose mX8_lose 1 7 := ⟨lbX8_lose, w_619, w_620, w_621, ⟨_, rfl, rfl⟩, by decide⟩
theorem w_1017 : (Cond.code yX9_lose cX9_lose 2 (some .int) : Cond) ∈ tb := tb_at 1017 (by decide +kernel) (by decide +kernel)
theorem lbX9_lose : LkB yX9_lose mX9_lose 1 := ⟨w_39, w_1017, by decide +kernel⟩
theorem w_1014 : (Cond.methodLink RL 127 yX9_lose : Cond) ∈ tb := tb_at 1014 (by decide +kernel) (by decide +kernel)
theorem w_1015 : (Cond.instanceMethod yX9_lose : Cond) ∈ tb := tb_at 1015 (by decide +kernel) (by decide +kernel)
theorem w_1016 : (Cond.selects RX9 yX9_lose yX9_lose : Cond) ∈ tb := tb_at 1016 (by decide +kernel) (by decide +kernel)
theorem kL_127 : LkV RL 127 yX9_lose mX9_lose 1 8 := ⟨lbX9_lose, w_1014, w_1015, w_1016, ⟨_, rfl, rfl⟩, by decide⟩
theorem w_626 : (Cond.code yX8_put cX8_put 7 (some .int) : Cond) ∈ tb := tb_at 626 (by decide +kernel) (by decide +kernel)
theorem lbX8_put : LkB yX8_put mX8_put 4 := ⟨w_32, w_626, by decide +kernel⟩
theorem w_623 : (Cond.methodLink RL 128 yX8_put : Cond) ∈ tb := tb_at 623 (by decide +kernel) (by decide +kernel)
theorem w_624 : (Cond.instanceMethod yX8_put : Cond) ∈ tb := tb_at 624 (by decide +kernel) (by decide +kernel)
theorem w_625 : (Cond.selects RX8 yX8_put yX8_put : Cond) ∈ tb := tb_at 625 (by decide +kernel) (by decide +kernel)
theorem kL_128 : LkV RL 128 yX8_put mX8_put 4 7 := ⟨lbX8_put, w_623, w_624, w_625, ⟨_, rfl, rfl⟩, by decide⟩
theorem w_1021 : (Cond.code yX9_put cX9_put 6 (some .int) : Cond) ∈ tb := tb_at 1021 (by decide +kernel) (by decide +kernel)
theorem lbX9_put : LkB yX9_put mX9_put 4 := ⟨w_39, w_1021, by decide +kernel⟩
theorem w_1018 : (Cond.methodLink RL 131 yX9_put : Cond) ∈ tb := tb_at 1018 (by decide +kernel) (by decide +kernel)
theorem w_1019 : (Cond.instanceMethod yX9_put : Cond) ∈ tb := tb_at 1019 (by decide +kernel) (by decide +kernel)
theorem w_1020 : (Cond.selects RX9 yX9_put yX9_put : Cond) ∈ tb := tb_at 1020 (by decide +kernel) (by decide +kernel)
theorem kL_131 : LkV RL 131 yX9_put mX9_put 4 8 := ⟨lbX9_put, w_1018, w_1019, w_1020, ⟨_, rfl, rfl⟩, by decide⟩
theorem w_639 : (Cond.code yX8_get cX8_get 6 (some .int) : Cond) ∈ tb := tb_at 639 (by decide +kernel) (by decide +kernel)
theorem lbX8_get : LkB yX8_get mX8_get 3 := ⟨w_32, w_639, by decide +kernel⟩
theorem w_636 : (Cond.methodLink RL 132 yX8_get : Cond) ∈ tb := tb_at 636 (by decide +kernel) (by decide +kernel)
theorem w_637 : (Cond.instanceMethod yX8_get : Cond) ∈ tb := tb_at 637 (by decide +kernel) (by decide +kernel)
theorem w_638 : (Cond.selects RX8 yX8_get yX8_get : Cond) ∈ tb := tb_at 638 (by decide +kernel) (by decide +kernel)
theorem kL_132 : LkV RL 132 yX8_get mX8_get 3 7 := ⟨lbX8_get, w_636, w_637, w_638, ⟨_, rfl, rfl⟩, by decide⟩
theorem w_1029 : (Cond.code yX9_get cX9_get 4 (some .int) : Cond) ∈ tb := tb_at 1029 (by decide +kernel) (by decide +kernel)
theorem lbX9_get : LkB yX9_get mX9_get 3 := ⟨w_39, w_1029, by decide +kernel⟩
theorem w_1026 : (Cond.methodLink RL 135 yX9_get : Cond) ∈ tb := tb_at 1026 (by decide +kernel) (by decide +kernel)
theorem w_1027 : (Cond.instanceMethod yX9_get : Cond) ∈ tb := tb_at 1027 (by decide +kernel) (by decide +kernel)
theorem w_1028 : (Cond.selects RX9 yX9_get yX9_get : Cond) ∈ tb := tb_at 1028 (by decide +kernel) (by decide +kernel)
theorem kL_135 : LkV RL 135 yX9_get mX9_get 3 8 := ⟨lbX9_get, w_1026, w_1027, w_1028, ⟨_, rfl, rfl⟩, by decide⟩
theorem w_644 : (Cond.code yX8_copy cX8_copy 8 (some .int) : Cond) ∈ tb := tb_at 644 (by decide +kernel) (by decide +kernel)
theorem lbX8_copy : LkB yX8_copy mX8_copy 5 := ⟨w_32, w_644, by decide +kernel⟩
theorem w_641 : (Cond.methodLink RL 136 yX8_copy : Cond) ∈ tb := tb_at 641 (by decide +kernel) (by decide +kernel)
theorem w_642 : (Cond.instanceMethod yX8_copy : Cond) ∈ tb := tb_at 642 (by decide +kernel) (by decide +kernel)
theorem w_643 : (Cond.selects RX8 yX8_copy yX8_copy : Cond) ∈ tb := tb_at 643 (by decide +kernel) (by decide +kernel)
theorem kL_136 : LkV RL 136 yX8_copy mX8_copy 5 7 := ⟨lbX8_copy, w_641, w_642, w_643, ⟨_, rfl, rfl⟩, by decide⟩
theorem w_1034 : (Cond.code yX9_copy cX9_copy 7 (some .int) : Cond) ∈ tb := tb_at 1034 (by decide +kernel) (by decide +kernel)
theorem lbX9_copy : LkB yX9_copy mX9_copy 5 := ⟨w_39, w_1034, by decide +kernel⟩
theorem w_1031 : (Cond.methodLink RL 140 yX9_copy : Cond) ∈ tb := tb_at 1031 (by decide +kernel) (by decide +kernel)
theorem w_1032 : (Cond.instanceMethod yX9_copy : Cond) ∈ tb := tb_at 1032 (by decide +kernel) (by decide +kernel)
theorem w_1033 : (Cond.selects RX9 yX9_copy yX9_copy : Cond) ∈ tb := tb_at 1033 (by decide +kernel) (by decide +kernel)
theorem kL_140 : LkV RL 140 yX9_copy mX9_copy 5 8 := ⟨lbX9_copy, w_1031, w_1032, w_1033, ⟨_, rfl, rfl⟩, by decide⟩
theorem w_653 : (Cond.code yX8_pose cX8_pose 5 (some .int) : Cond) ∈ tb := tb_at 653 (by decide +kernel) (by decide +kernel)
theorem lbX8_pose : LkB yX8_pose mX8_pose 2 := ⟨w_32, w_653, by decide +kernel⟩
theorem w_650 : (Cond.methodLink RL 141 yX8_pose : Cond) ∈ tb := tb_at 650 (by decide +kernel) (by decide +kernel)
theorem w_651 : (Cond.instanceMethod yX8_pose : Cond) ∈ tb := tb_at 651 (by decide +kernel) (by decide +kernel)
theorem w_652 : (Cond.selects RX8 yX8_pose yX8_pose : Cond) ∈ tb := tb_at 652 (by decide +kernel) (by decide +kernel)
theorem kL_141 : LkV RL 141 yX8_pose mX8_pose 2 7 := ⟨lbX8_pose, w_650, w_651, w_652, ⟨_, rfl, rfl⟩, by decide⟩
theorem w_1038 : (Cond.code yX9_pose cX9_pose 7 (some .int) : Cond) ∈ tb := tb_at 1038 (by decide +kernel) (by decide +kernel)
theorem lbX9_pose : LkB yX9_pose mX9_pose 2 := ⟨w_39, w_1038, by decide +kernel⟩
theorem w_1035 : (Cond.methodLink RL 144 yX9_pose : Cond) ∈ tb := tb_at 1035 (by decide +kernel) (by decide +kernel)
theorem w_1036 : (Cond.instanceMethod yX9_pose : Cond) ∈ tb := tb_at 1036 (by decide +kernel) (by decide +kernel)
theorem w_1037 : (Cond.selects RX9 yX9_pose yX9_pose : Cond) ∈ tb := tb_at 1037 (by decide +kernel) (by decide +kernel)
theorem kL_144 : LkV RL 144 yX9_pose mX9_pose 2 8 := ⟨lbX9_pose, w_1035, w_1036, w_1037, ⟨_, rfl, rfl⟩, by decide⟩
theorem w_666 : (Cond.code yX8_write cX8_write 6 (some .int) : Cond) ∈ tb := tb_at 666 (by decide +kernel) (by decide +kernel)
theorem lbX8_write : LkB yX8_write mX8_write 2 := ⟨w_32, w_666, by decide +kernel⟩
theorem w_663 : (Cond.methodLink RL 145 yX8_write : Cond) ∈ tb := tb_at 663 (by decide +kernel) (by decide +kernel)
theorem w_664 : (Cond.instanceMethod yX8_write : Cond) ∈ tb := tb_at 664 (by decide +kernel) (by decide +kernel)
theorem w_665 : (Cond.selects RX8 yX8_write yX8_write : Cond) ∈ tb := tb_at 665 (by decide +kernel) (by decide +kernel)
theorem kL_145 : LkV RL 145 yX8_write mX8_write 2 7 := ⟨lbX8_write, w_663, w_664, w_665, ⟨_, rfl, rfl⟩, by decide⟩
theorem w_1046 : (Cond.code yX9_write cX9_write 5 (some .int) : Cond) ∈ tb := tb_at 1046 (by decide +kernel) (by decide +kernel)
theorem lbX9_write : LkB yX9_write mX9_write 2 := ⟨w_39, w_1046, by decide +kernel⟩
theorem w_1043 : (Cond.methodLink RL 148 yX9_write : Cond) ∈ tb := tb_at 1043 (by decide +kernel) (by decide +kernel)
theorem w_1044 : (Cond.instanceMethod yX9_write : Cond) ∈ tb := tb_at 1044 (by decide +kernel) (by decide +kernel)
theorem w_1045 : (Cond.selects RX9 yX9_write yX9_write : Cond) ∈ tb := tb_at 1045 (by decide +kernel) (by decide +kernel)
theorem kL_148 : LkV RL 148 yX9_write mX9_write 2 8 := ⟨lbX9_write, w_1043, w_1044, w_1045, ⟨_, rfl, rfl⟩, by decide⟩
theorem w_667 : (Cond.methodLink RL 149 yX8_count : Cond) ∈ tb := tb_at 667 (by decide +kernel) (by decide +kernel)
theorem kL_149 : LkV RL 149 yX8_count mX8_count 1 7 := ⟨lbX8_count, w_667, w_668, w_669, ⟨_, rfl, rfl⟩, by decide⟩
theorem w_1050 : (Cond.code yX9_count cX9_count 2 (some .int) : Cond) ∈ tb := tb_at 1050 (by decide +kernel) (by decide +kernel)
theorem lbX9_count : LkB yX9_count mX9_count 1 := ⟨w_39, w_1050, by decide +kernel⟩
theorem w_1047 : (Cond.methodLink RL 152 yX9_count : Cond) ∈ tb := tb_at 1047 (by decide +kernel) (by decide +kernel)
theorem w_1048 : (Cond.instanceMethod yX9_count : Cond) ∈ tb := tb_at 1048 (by decide +kernel) (by decide +kernel)
theorem w_1049 : (Cond.selects RX9 yX9_count yX9_count : Cond) ∈ tb := tb_at 1049 (by decide +kernel) (by decide +kernel)
theorem kL_152 : LkV RL 152 yX9_count mX9_count 1 8 := ⟨lbX9_count, w_1047, w_1048, w_1049, ⟨_, rfl, rfl⟩, by decide⟩
theorem w_674 : (Cond.code yX8_digest cX8_digest 4 (some .long) : Cond) ∈ tb := tb_at 674 (by decide +kernel) (by decide +kernel)
theorem lbX8_digest : LkB yX8_digest mX8_digest 0 := ⟨w_32, w_674, by decide +kernel⟩
theorem w_671 : (Cond.methodLink RL 153 yX8_digest : Cond) ∈ tb := tb_at 671 (by decide +kernel) (by decide +kernel)
theorem w_672 : (Cond.instanceMethod yX8_digest : Cond) ∈ tb := tb_at 672 (by decide +kernel) (by decide +kernel)
theorem w_673 : (Cond.selects RX8 yX8_digest yX8_digest : Cond) ∈ tb := tb_at 673 (by decide +kernel) (by decide +kernel)
theorem kL_153 : LkV RL 153 yX8_digest mX8_digest 0 7 := ⟨lbX8_digest, w_671, w_672, w_673, ⟨_, rfl, rfl⟩, by decide⟩
theorem w_1054 : (Cond.code yX9_digest cX9_digest 6 (some .long) : Cond) ∈ tb := tb_at 1054 (by decide +kernel) (by decide +kernel)
theorem lbX9_digest : LkB yX9_digest mX9_digest 0 := ⟨w_39, w_1054, by decide +kernel⟩
theorem w_1051 : (Cond.methodLink RL 157 yX9_digest : Cond) ∈ tb := tb_at 1051 (by decide +kernel) (by decide +kernel)
theorem w_1052 : (Cond.instanceMethod yX9_digest : Cond) ∈ tb := tb_at 1052 (by decide +kernel) (by decide +kernel)
theorem w_1053 : (Cond.selects RX9 yX9_digest yX9_digest : Cond) ∈ tb := tb_at 1053 (by decide +kernel) (by decide +kernel)
theorem kL_157 : LkV RL 157 yX9_digest mX9_digest 0 8 := ⟨lbX9_digest, w_1051, w_1052, w_1053, ⟨_, rfl, rfl⟩, by decide⟩
theorem w_693 : (Cond.methodLink RX9 1 objectInit : Cond) ∈ tb := tb_at 693 (by decide +kernel) (by decide +kernel)
theorem koX9_1 : Cond.methodLink RX9 1 objectInit ∈ tb := w_693
theorem w_833 : (Cond.code yX9_round cX9_round 2 (some .int) : Cond) ∈ tb := tb_at 833 (by decide +kernel) (by decide +kernel)
theorem lbX9_round : LkB yX9_round mX9_round 1 := ⟨w_39, w_833, by decide +kernel⟩
theorem w_831 : (Cond.methodLink RX9 96 yX9_round : Cond) ∈ tb := tb_at 831 (by decide +kernel) (by decide +kernel)
theorem w_832 : (Cond.static yX9_round : Cond) ∈ tb := tb_at 832 (by decide +kernel) (by decide +kernel)
theorem kX9_96 : LkS RX9 96 yX9_round mX9_round 1 := ⟨lbX9_round, w_831, w_832⟩
theorem w_924 : (Cond.code yX9_shortWay cX9_shortWay 3 (some .int) : Cond) ∈ tb := tb_at 924 (by decide +kernel) (by decide +kernel)
theorem lbX9_shortWay : LkB yX9_shortWay mX9_shortWay 2 := ⟨w_39, w_924, by decide +kernel⟩
theorem w_922 : (Cond.methodLink RX9 104 yX9_shortWay : Cond) ∈ tb := tb_at 922 (by decide +kernel) (by decide +kernel)
theorem w_923 : (Cond.static yX9_shortWay : Cond) ∈ tb := tb_at 923 (by decide +kernel) (by decide +kernel)
theorem kX9_104 : LkS RX9 104 yX9_shortWay mX9_shortWay 2 := ⟨lbX9_shortWay, w_922, w_923⟩
theorem w_931 : (Cond.code yX9_amount cX9_amount 1 (some .int) : Cond) ∈ tb := tb_at 931 (by decide +kernel) (by decide +kernel)
theorem lbX9_amount : LkB yX9_amount mX9_amount 1 := ⟨w_39, w_931, by decide +kernel⟩
theorem w_929 : (Cond.methodLink RX9 108 yX9_amount : Cond) ∈ tb := tb_at 929 (by decide +kernel) (by decide +kernel)
theorem w_930 : (Cond.static yX9_amount : Cond) ∈ tb := tb_at 930 (by decide +kernel) (by decide +kernel)
theorem kX9_108 : LkS RX9 108 yX9_amount mX9_amount 1 := ⟨lbX9_amount, w_929, w_930⟩
theorem w_808 : (Cond.code yX9_in cX9_in 6 (some .boolean) : Cond) ∈ tb := tb_at 808 (by decide +kernel) (by decide +kernel)
theorem lbX9_in : LkB yX9_in mX9_in 3 := ⟨w_39, w_808, by decide +kernel⟩
theorem w_806 : (Cond.methodLink RX9 114 yX9_in : Cond) ∈ tb := tb_at 806 (by decide +kernel) (by decide +kernel)
theorem w_807 : (Cond.static yX9_in : Cond) ∈ tb := tb_at 807 (by decide +kernel) (by decide +kernel)
theorem kX9_114 : LkS RX9 114 yX9_in mX9_in 3 := ⟨lbX9_in, w_806, w_807⟩
theorem w_854 : (Cond.code yX9_isPlace cX9_isPlace 4 (some .boolean) : Cond) ∈ tb := tb_at 854 (by decide +kernel) (by decide +kernel)
theorem lbX9_isPlace : LkB yX9_isPlace mX9_isPlace 2 := ⟨w_39, w_854, by decide +kernel⟩
theorem w_852 : (Cond.methodLink RX9 162 yX9_isPlace : Cond) ∈ tb := tb_at 852 (by decide +kernel) (by decide +kernel)
theorem w_853 : (Cond.static yX9_isPlace : Cond) ∈ tb := tb_at 853 (by decide +kernel) (by decide +kernel)
theorem kX9_162 : LkS RX9 162 yX9_isPlace mX9_isPlace 2 := ⟨lbX9_isPlace, w_852, w_853⟩
theorem w_863 : (Cond.code yX9_no cX9_no 1 (some .long) : Cond) ∈ tb := tb_at 863 (by decide +kernel) (by decide +kernel)
theorem lbX9_no : LkB yX9_no mX9_no 1 := ⟨w_39, w_863, by decide +kernel⟩
theorem w_861 : (Cond.methodLink RX9 166 yX9_no : Cond) ∈ tb := tb_at 861 (by decide +kernel) (by decide +kernel)
theorem w_862 : (Cond.static yX9_no : Cond) ∈ tb := tb_at 862 (by decide +kernel) (by decide +kernel)
theorem kX9_166 : LkS RX9 166 yX9_no mX9_no 1 := ⟨lbX9_no, w_861, w_862⟩
theorem w_892 : (Cond.code yX9_isClip cX9_isClip 1 (some .boolean) : Cond) ∈ tb := tb_at 892 (by decide +kernel) (by decide +kernel)
theorem lbX9_isClip : LkB yX9_isClip mX9_isClip 1 := ⟨w_39, w_892, by decide +kernel⟩
theorem w_890 : (Cond.methodLink RX9 178 yX9_isClip : Cond) ∈ tb := tb_at 890 (by decide +kernel) (by decide +kernel)
theorem w_891 : (Cond.static yX9_isClip : Cond) ∈ tb := tb_at 891 (by decide +kernel) (by decide +kernel)
theorem kX9_178 : LkS RX9 178 yX9_isClip mX9_isClip 1 := ⟨lbX9_isClip, w_890, w_891⟩
theorem w_896 : (Cond.code yX9_spot cX9_spot 2 (some .int) : Cond) ∈ tb := tb_at 896 (by decide +kernel) (by decide +kernel)
theorem lbX9_spot : LkB yX9_spot mX9_spot 2 := ⟨w_39, w_896, by decide +kernel⟩
theorem w_894 : (Cond.methodLink RX9 181 yX9_spot : Cond) ∈ tb := tb_at 894 (by decide +kernel) (by decide +kernel)
theorem w_895 : (Cond.static yX9_spot : Cond) ∈ tb := tb_at 895 (by decide +kernel) (by decide +kernel)
theorem kX9_181 : LkS RX9 181 yX9_spot mX9_spot 2 := ⟨lbX9_spot, w_894, w_895⟩
theorem w_1007 : (Cond.code yX9_isSheet cX9_isSheet 1 (some .boolean) : Cond) ∈ tb := tb_at 1007 (by decide +kernel) (by decide +kernel)
theorem lbX9_isSheet : LkB yX9_isSheet mX9_isSheet 1 := ⟨w_39, w_1007, by decide +kernel⟩
theorem w_1005 : (Cond.methodLink RX9 233 yX9_isSheet : Cond) ∈ tb := tb_at 1005 (by decide +kernel) (by decide +kernel)
theorem w_1006 : (Cond.static yX9_isSheet : Cond) ∈ tb := tb_at 1006 (by decide +kernel) (by decide +kernel)
theorem kX9_233 : LkS RX9 233 yX9_isSheet mX9_isSheet 1 := ⟨lbX9_isSheet, w_1005, w_1006⟩
theorem w_830 : (Cond.code yX9_isWithin cX9_isWithin 3 (some .boolean) : Cond) ∈ tb := tb_at 830 (by decide +kernel) (by decide +kernel)
theorem lbX9_isWithin : LkB yX9_isWithin mX9_isWithin 2 := ⟨w_39, w_830, by decide +kernel⟩
theorem w_827 : (Cond.methodLink RX9 100 yX9_isWithin : Cond) ∈ tb := tb_at 827 (by decide +kernel) (by decide +kernel)
theorem w_829 : (Cond.instanceMethod yX9_isWithin : Cond) ∈ tb := tb_at 829 (by decide +kernel) (by decide +kernel)
theorem w_13 : (Cond.selects RX9 yX9_isWithin yX9_isWithin : Cond) ∈ tb := tb_at 13 (by decide +kernel) (by decide +kernel)
theorem kX9_100 : LkV RX9 100 yX9_isWithin mX9_isWithin 2 8 := ⟨lbX9_isWithin, w_827, w_829, w_13, ⟨_, rfl, rfl⟩, by decide⟩
theorem w_814 : (Cond.code yX9_frames cX9_frames 3 (some .int) : Cond) ∈ tb := tb_at 814 (by decide +kernel) (by decide +kernel)
theorem lbX9_frames : LkB yX9_frames mX9_frames 0 := ⟨w_39, w_814, by decide +kernel⟩
theorem w_811 : (Cond.methodLink RX9 128 yX9_frames : Cond) ∈ tb := tb_at 811 (by decide +kernel) (by decide +kernel)
theorem w_813 : (Cond.instanceMethod yX9_frames : Cond) ∈ tb := tb_at 813 (by decide +kernel) (by decide +kernel)
theorem w_11 : (Cond.selects RX9 yX9_frames yX9_frames : Cond) ∈ tb := tb_at 11 (by decide +kernel) (by decide +kernel)
theorem kX9_128 : LkV RX9 128 yX9_frames mX9_frames 0 8 := ⟨lbX9_frames, w_811, w_813, w_11, ⟨_, rfl, rfl⟩, by decide⟩
theorem w_822 : (Cond.code yX9_isBone cX9_isBone 2 (some .boolean) : Cond) ∈ tb := tb_at 822 (by decide +kernel) (by decide +kernel)
theorem lbX9_isBone : LkB yX9_isBone mX9_isBone 1 := ⟨w_39, w_822, by decide +kernel⟩
theorem w_819 : (Cond.methodLink RX9 132 yX9_isBone : Cond) ∈ tb := tb_at 819 (by decide +kernel) (by decide +kernel)
theorem w_821 : (Cond.instanceMethod yX9_isBone : Cond) ∈ tb := tb_at 821 (by decide +kernel) (by decide +kernel)
theorem w_12 : (Cond.selects RX9 yX9_isBone yX9_isBone : Cond) ∈ tb := tb_at 12 (by decide +kernel) (by decide +kernel)
theorem kX9_132 : LkV RX9 132 yX9_isBone mX9_isBone 1 8 := ⟨lbX9_isBone, w_819, w_821, w_12, ⟨_, rfl, rfl⟩, by decide⟩
theorem w_841 : (Cond.code yX9_place cX9_place 11 none : Cond) ∈ tb := tb_at 841 (by decide +kernel) (by decide +kernel)
theorem lbX9_place : LkB yX9_place mX9_place 0 := ⟨w_39, w_841, by decide +kernel⟩
theorem w_838 : (Cond.methodLink RX9 147 yX9_place : Cond) ∈ tb := tb_at 838 (by decide +kernel) (by decide +kernel)
theorem w_840 : (Cond.instanceMethod yX9_place : Cond) ∈ tb := tb_at 840 (by decide +kernel) (by decide +kernel)
theorem w_15 : (Cond.selects RX9 yX9_place yX9_place : Cond) ∈ tb := tb_at 15 (by decide +kernel) (by decide +kernel)
theorem kX9_147 : LkV RX9 147 yX9_place mX9_place 0 8 := ⟨lbX9_place, w_838, w_840, w_15, ⟨_, rfl, rfl⟩, by decide⟩
theorem w_837 : (Cond.code yX9_hold cX9_hold 1 none : Cond) ∈ tb := tb_at 837 (by decide +kernel) (by decide +kernel)
theorem lbX9_hold : LkB yX9_hold mX9_hold 0 := ⟨w_39, w_837, by decide +kernel⟩
theorem w_834 : (Cond.methodLink RX9 156 yX9_hold : Cond) ∈ tb := tb_at 834 (by decide +kernel) (by decide +kernel)
theorem w_836 : (Cond.instanceMethod yX9_hold : Cond) ∈ tb := tb_at 836 (by decide +kernel) (by decide +kernel)
theorem w_14 : (Cond.selects RX9 yX9_hold yX9_hold : Cond) ∈ tb := tb_at 14 (by decide +kernel) (by decide +kernel)
theorem kX9_156 : LkV RX9 156 yX9_hold mX9_hold 0 8 := ⟨lbX9_hold, w_834, w_836, w_14, ⟨_, rfl, rfl⟩, by decide⟩
theorem w_847 : (Cond.code yX9_settle cX9_settle 1 none : Cond) ∈ tb := tb_at 847 (by decide +kernel) (by decide +kernel)
theorem lbX9_settle : LkB yX9_settle mX9_settle 0 := ⟨w_39, w_847, by decide +kernel⟩
theorem w_844 : (Cond.methodLink RX9 159 yX9_settle : Cond) ∈ tb := tb_at 844 (by decide +kernel) (by decide +kernel)
theorem w_846 : (Cond.instanceMethod yX9_settle : Cond) ∈ tb := tb_at 846 (by decide +kernel) (by decide +kernel)
theorem w_16 : (Cond.selects RX9 yX9_settle yX9_settle : Cond) ∈ tb := tb_at 16 (by decide +kernel) (by decide +kernel)
theorem kX9_159 : LkV RX9 159 yX9_settle mX9_settle 0 8 := ⟨lbX9_settle, w_844, w_846, w_16, ⟨_, rfl, rfl⟩, by decide⟩
theorem w_872 : (Cond.code yX9_farOf cX9_farOf 10 (some .long) : Cond) ∈ tb := tb_at 872 (by decide +kernel) (by decide +kernel)
theorem lbX9_farOf : LkB yX9_farOf mX9_farOf 3 := ⟨w_39, w_872, by decide +kernel⟩
theorem w_869 : (Cond.methodLink RX9 170 yX9_farOf : Cond) ∈ tb := tb_at 869 (by decide +kernel) (by decide +kernel)
theorem w_871 : (Cond.instanceMethod yX9_farOf : Cond) ∈ tb := tb_at 871 (by decide +kernel) (by decide +kernel)
theorem w_17 : (Cond.selects RX9 yX9_farOf yX9_farOf : Cond) ∈ tb := tb_at 17 (by decide +kernel) (by decide +kernel)
theorem kX9_170 : LkV RX9 170 yX9_farOf mX9_farOf 3 8 := ⟨lbX9_farOf, w_869, w_871, w_17, ⟨_, rfl, rfl⟩, by decide⟩
theorem w_908 : (Cond.code yX9_isFrame cX9_isFrame 3 (some .boolean) : Cond) ∈ tb := tb_at 908 (by decide +kernel) (by decide +kernel)
theorem lbX9_isFrame : LkB yX9_isFrame mX9_isFrame 2 := ⟨w_39, w_908, by decide +kernel⟩
theorem w_905 : (Cond.methodLink RX9 184 yX9_isFrame : Cond) ∈ tb := tb_at 905 (by decide +kernel) (by decide +kernel)
theorem w_907 : (Cond.instanceMethod yX9_isFrame : Cond) ∈ tb := tb_at 907 (by decide +kernel) (by decide +kernel)
theorem w_18 : (Cond.selects RX9 yX9_isFrame yX9_isFrame : Cond) ∈ tb := tb_at 18 (by decide +kernel) (by decide +kernel)
theorem kX9_184 : LkV RX9 184 yX9_isFrame mX9_isFrame 2 8 := ⟨lbX9_isFrame, w_905, w_907, w_18, ⟨_, rfl, rfl⟩, by decide⟩
theorem w_928 : (Cond.code yX9_intoLimits cX9_intoLimits 4 (some .int) : Cond) ∈ tb := tb_at 928 (by decide +kernel) (by decide +kernel)
theorem lbX9_intoLimits : LkB yX9_intoLimits mX9_intoLimits 2 := ⟨w_39, w_928, by decide +kernel⟩
theorem w_925 : (Cond.methodLink RX9 187 yX9_intoLimits : Cond) ∈ tb := tb_at 925 (by decide +kernel) (by decide +kernel)
theorem w_927 : (Cond.instanceMethod yX9_intoLimits : Cond) ∈ tb := tb_at 927 (by decide +kernel) (by decide +kernel)
theorem w_20 : (Cond.selects RX9 yX9_intoLimits yX9_intoLimits : Cond) ∈ tb := tb_at 20 (by decide +kernel) (by decide +kernel)
theorem kX9_187 : LkV RX9 187 yX9_intoLimits mX9_intoLimits 2 8 := ⟨lbX9_intoLimits, w_925, w_927, w_20, ⟨_, rfl, rfl⟩, by decide⟩
theorem w_921 : (Cond.code yX9_blended cX9_blended 5 (some .int) : Cond) ∈ tb := tb_at 921 (by decide +kernel) (by decide +kernel)
theorem lbX9_blended : LkB yX9_blended mX9_blended 4 := ⟨w_39, w_921, by decide +kernel⟩
theorem w_918 : (Cond.methodLink RX9 192 yX9_blended : Cond) ∈ tb := tb_at 918 (by decide +kernel) (by decide +kernel)
theorem w_920 : (Cond.instanceMethod yX9_blended : Cond) ∈ tb := tb_at 920 (by decide +kernel) (by decide +kernel)
theorem w_19 : (Cond.selects RX9 yX9_blended yX9_blended : Cond) ∈ tb := tb_at 19 (by decide +kernel) (by decide +kernel)
theorem kX9_192 : LkV RX9 192 yX9_blended mX9_blended 4 8 := ⟨lbX9_blended, w_918, w_920, w_19, ⟨_, rfl, rfl⟩, by decide⟩
theorem w_943 : (Cond.code yX9_likeness cX9_likeness 5 (some .int) : Cond) ∈ tb := tb_at 943 (by decide +kernel) (by decide +kernel)
theorem lbX9_likeness : LkB yX9_likeness mX9_likeness 2 := ⟨w_39, w_943, by decide +kernel⟩
theorem w_940 : (Cond.methodLink RX9 196 yX9_likeness : Cond) ∈ tb := tb_at 940 (by decide +kernel) (by decide +kernel)
theorem w_942 : (Cond.instanceMethod yX9_likeness : Cond) ∈ tb := tb_at 942 (by decide +kernel) (by decide +kernel)
theorem w_21 : (Cond.selects RX9 yX9_likeness yX9_likeness : Cond) ∈ tb := tb_at 21 (by decide +kernel) (by decide +kernel)
theorem kX9_196 : LkV RX9 196 yX9_likeness mX9_likeness 2 8 := ⟨lbX9_likeness, w_940, w_942, w_21, ⟨_, rfl, rfl⟩, by decide⟩
theorem w_956 : (Cond.code yX9_holds cX9_holds 9 (some .boolean) : Cond) ∈ tb := tb_at 956 (by decide +kernel) (by decide +kernel)
theorem lbX9_holds : LkB yX9_holds mX9_holds 4 := ⟨w_39, w_956, by decide +kernel⟩
theorem w_953 : (Cond.methodLink RX9 202 yX9_holds : Cond) ∈ tb := tb_at 953 (by decide +kernel) (by decide +kernel)
theorem w_955 : (Cond.instanceMethod yX9_holds : Cond) ∈ tb := tb_at 955 (by decide +kernel) (by decide +kernel)
theorem w_23 : (Cond.selects RX9 yX9_holds yX9_holds : Cond) ∈ tb := tb_at 23 (by decide +kernel) (by decide +kernel)
theorem kX9_202 : LkV RX9 202 yX9_holds mX9_holds 4 8 := ⟨lbX9_holds, w_953, w_955, w_23, ⟨_, rfl, rfl⟩, by decide⟩
theorem w_952 : (Cond.code yX9_findKeys cX9_findKeys 6 none : Cond) ∈ tb := tb_at 952 (by decide +kernel) (by decide +kernel)
theorem lbX9_findKeys : LkB yX9_findKeys mX9_findKeys 2 := ⟨w_39, w_952, by decide +kernel⟩
theorem w_949 : (Cond.methodLink RX9 208 yX9_findKeys : Cond) ∈ tb := tb_at 949 (by decide +kernel) (by decide +kernel)
theorem w_951 : (Cond.instanceMethod yX9_findKeys : Cond) ∈ tb := tb_at 951 (by decide +kernel) (by decide +kernel)
theorem w_22 : (Cond.selects RX9 yX9_findKeys yX9_findKeys : Cond) ∈ tb := tb_at 22 (by decide +kernel) (by decide +kernel)
theorem kX9_208 : LkV RX9 208 yX9_findKeys mX9_findKeys 2 8 := ⟨lbX9_findKeys, w_949, w_951, w_22, ⟨_, rfl, rfl⟩, by decide⟩
theorem w_984 : (Cond.code yX9_isNode cX9_isNode 2 (some .boolean) : Cond) ∈ tb := tb_at 984 (by decide +kernel) (by decide +kernel)
theorem lbX9_isNode : LkB yX9_isNode mX9_isNode 1 := ⟨w_39, w_984, by decide +kernel⟩
theorem w_981 : (Cond.methodLink RX9 212 yX9_isNode : Cond) ∈ tb := tb_at 981 (by decide +kernel) (by decide +kernel)
theorem w_983 : (Cond.instanceMethod yX9_isNode : Cond) ∈ tb := tb_at 983 (by decide +kernel) (by decide +kernel)
theorem w_26 : (Cond.selects RX9 yX9_isNode yX9_isNode : Cond) ∈ tb := tb_at 26 (by decide +kernel) (by decide +kernel)
theorem kX9_212 : LkV RX9 212 yX9_isNode mX9_isNode 1 8 := ⟨lbX9_isNode, w_981, w_983, w_26, ⟨_, rfl, rfl⟩, by decide⟩
theorem w_980 : (Cond.code yX9_findCosts cX9_findCosts 5 none : Cond) ∈ tb := tb_at 980 (by decide +kernel) (by decide +kernel)
theorem lbX9_findCosts : LkB yX9_findCosts mX9_findCosts 0 := ⟨w_39, w_980, by decide +kernel⟩
theorem w_977 : (Cond.methodLink RX9 215 yX9_findCosts : Cond) ∈ tb := tb_at 977 (by decide +kernel) (by decide +kernel)
theorem w_979 : (Cond.instanceMethod yX9_findCosts : Cond) ∈ tb := tb_at 979 (by decide +kernel) (by decide +kernel)
theorem w_25 : (Cond.selects RX9 yX9_findCosts yX9_findCosts : Cond) ∈ tb := tb_at 25 (by decide +kernel) (by decide +kernel)
theorem kX9_215 : LkV RX9 215 yX9_findCosts mX9_findCosts 0 8 := ⟨lbX9_findCosts, w_977, w_979, w_25, ⟨_, rfl, rfl⟩, by decide⟩
theorem w_976 : (Cond.code yX9_findLive cX9_findLive 6 (some .int) : Cond) ∈ tb := tb_at 976 (by decide +kernel) (by decide +kernel)
theorem lbX9_findLive : LkB yX9_findLive mX9_findLive 0 := ⟨w_39, w_976, by decide +kernel⟩
theorem w_973 : (Cond.methodLink RX9 218 yX9_findLive : Cond) ∈ tb := tb_at 973 (by decide +kernel) (by decide +kernel)
theorem w_975 : (Cond.instanceMethod yX9_findLive : Cond) ∈ tb := tb_at 975 (by decide +kernel) (by decide +kernel)
theorem w_24 : (Cond.selects RX9 yX9_findLive yX9_findLive : Cond) ∈ tb := tb_at 24 (by decide +kernel) (by decide +kernel)
theorem kX9_218 : LkV RX9 218 yX9_findLive mX9_findLive 0 8 := ⟨lbX9_findLive, w_973, w_975, w_24, ⟨_, rfl, rfl⟩, by decide⟩
theorem w_996 : (Cond.code yX9_findDistances cX9_findDistances 5 none : Cond) ∈ tb := tb_at 996 (by decide +kernel) (by decide +kernel)
theorem lbX9_findDistances : LkB yX9_findDistances mX9_findDistances 1 := ⟨w_39, w_996, by decide +kernel⟩
theorem w_993 : (Cond.methodLink RX9 221 yX9_findDistances : Cond) ∈ tb := tb_at 993 (by decide +kernel) (by decide +kernel)
theorem w_995 : (Cond.instanceMethod yX9_findDistances : Cond) ∈ tb := tb_at 995 (by decide +kernel) (by decide +kernel)
theorem w_27 : (Cond.selects RX9 yX9_findDistances yX9_findDistances : Cond) ∈ tb := tb_at 27 (by decide +kernel) (by decide +kernel)
theorem kX9_221 : LkV RX9 221 yX9_findDistances mX9_findDistances 1 8 := ⟨lbX9_findDistances, w_993, w_995, w_27, ⟨_, rfl, rfl⟩, by decide⟩
theorem w_1013 : (Cond.code yX9_met cX9_met 2 (some .int) : Cond) ∈ tb := tb_at 1013 (by decide +kernel) (by decide +kernel)
theorem lbX9_met : LkB yX9_met mX9_met 1 := ⟨w_39, w_1013, by decide +kernel⟩
theorem w_1010 : (Cond.methodLink RX9 238 yX9_met : Cond) ∈ tb := tb_at 1010 (by decide +kernel) (by decide +kernel)
theorem w_1012 : (Cond.instanceMethod yX9_met : Cond) ∈ tb := tb_at 1012 (by decide +kernel) (by decide +kernel)
theorem w_28 : (Cond.selects RX9 yX9_met yX9_met : Cond) ∈ tb := tb_at 28 (by decide +kernel) (by decide +kernel)
theorem kX9_238 : LkV RX9 238 yX9_met mX9_met 1 8 := ⟨lbX9_met, w_1010, w_1012, w_28, ⟨_, rfl, rfl⟩, by decide⟩
theorem w_1025 : (Cond.code yX9_lacks cX9_lacks 4 (some .int) : Cond) ∈ tb := tb_at 1025 (by decide +kernel) (by decide +kernel)
theorem lbX9_lacks : LkB yX9_lacks mX9_lacks 3 := ⟨w_39, w_1025, by decide +kernel⟩
theorem w_1022 : (Cond.methodLink RX9 241 yX9_lacks : Cond) ∈ tb := tb_at 1022 (by decide +kernel) (by decide +kernel)
theorem w_1024 : (Cond.instanceMethod yX9_lacks : Cond) ∈ tb := tb_at 1024 (by decide +kernel) (by decide +kernel)
theorem w_29 : (Cond.selects RX9 yX9_lacks yX9_lacks : Cond) ∈ tb := tb_at 29 (by decide +kernel) (by decide +kernel)
theorem kX9_241 : LkV RX9 241 yX9_lacks mX9_lacks 3 8 := ⟨lbX9_lacks, w_1022, w_1024, w_29, ⟨_, rfl, rfl⟩, by decide⟩
theorem w_1042 : (Cond.code yX9_lacksRow cX9_lacksRow 3 (some .int) : Cond) ∈ tb := tb_at 1042 (by decide +kernel) (by decide +kernel)
theorem lbX9_lacksRow : LkB yX9_lacksRow mX9_lacksRow 2 := ⟨w_39, w_1042, by decide +kernel⟩
theorem w_1039 : (Cond.methodLink RX9 246 yX9_lacksRow : Cond) ∈ tb := tb_at 1039 (by decide +kernel) (by decide +kernel)
theorem w_1041 : (Cond.instanceMethod yX9_lacksRow : Cond) ∈ tb := tb_at 1041 (by decide +kernel) (by decide +kernel)
theorem w_30 : (Cond.selects RX9 yX9_lacksRow yX9_lacksRow : Cond) ∈ tb := tb_at 30 (by decide +kernel) (by decide +kernel)
theorem kX9_246 : LkV RX9 246 yX9_lacksRow mX9_lacksRow 2 8 := ⟨lbX9_lacksRow, w_1039, w_1041, w_30, ⟨_, rfl, rfl⟩, by decide⟩
theorem w_1057 : (Cond.methodLink RX9 253 yX9_count : Cond) ∈ tb := tb_at 1057 (by decide +kernel) (by decide +kernel)
theorem kX9_253 : LkV RX9 253 yX9_count mX9_count 1 8 := ⟨lbX9_count, w_1057, w_1048, w_1049, ⟨_, rfl, rfl⟩, by decide⟩
