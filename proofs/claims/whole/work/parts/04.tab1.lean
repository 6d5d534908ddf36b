/-! the mini-machine's static tables: classes, methods, links; each row with its words of lw_tbl -/
def mTB : List Cond := lw_tbl.filter goodWord
theorem mTB_mem {w : Cond} (i : Nat) (h : lw_tbl[i]? = some w) (hg : goodWord w = true) : w ∈ mTB := List.mem_filter.mpr ⟨List.mem_of_getElem? h, hg⟩
theorem mTB_good {w : Cond} (h : w ∈ mTB) : goodWord w = true := (List.mem_filter.mp h).2
theorem mTB_tbl {w : Cond} (h : w ∈ mTB) : w ∈ lw_tbl := (List.mem_filter.mp h).1
def mCl : List vw_C := [(RX0, TX0, 2), (RX1, TX1, 3), (RX2, TX2, 10), (RX3, TX3, 2), (RX4, TX4, 8), (RX5, TX5, 14), (RX6, TX6, 6), (RX7, TX7, 17)]
def mNm : List String := [RX0, RX1, RX2, RX3, RX4, RX5, RX6, RX7, RJ6, RJ9, RJ7]
abbrev mM : Type := MethodName × ByteArray × Nat × Option FieldType × Nat × Bool × Nat × Nat × Nat
def mTab_0 : List mM := [(yX0_farWithout, cX0_farWithout, 5, (some .int), 0, false, 4, 2, 50), (yX0_hopWithout, cX0_hopWithout, 5, (some .int), 0, false, 4, 2, 50), (yX0_hitNodes, cX0_hitNodes, 6, (some .int), 0, false, 3, 3, 70), (yX0_isHit, cX0_isHit, 8, (some .boolean), 0, false, 4, 2, 43), (yX0_waysOver, cX0_waysOver, 5, (some .int), 0, false, 2, 4, 95), (yX0_delay, cX0_delay, 7, (some .int), 0, false, 4, 3, 70), (yX0_stepsUpTo, cX0_stepsUpTo, 7, (some .int), 0, false, 4, 2, 43), (yX0_longestDelay, cX0_longestDelay, 6, (some .int), 0, false, 3, 4, 96), (yX0_circling, cX0_circling, 7, (some .int), 0, false, 4, 2, 50), (yX0_comesToAnEnd, cX0_comesToAnEnd, 5, (some .boolean), 0, false, 2, 0, 0), (yX0_worstDetour, cX0_worstDetour, 10, (some .int), 0, false, 3, 3, 74), (yX1_leastCut, cX1_leastCut, 5, (some .int), 1, false, 3, 4, 96), (yX1_findWay, cX1_findWay, 6, (some .boolean), 1, false, 3, 3, 71), (yX1_spread, cX1_spread, 6, (some .int), 1, false, 3, 2, 46), (yX1_isFree, cX1_isFree, 5, (some .boolean), 1, false, 3, 1, 22), (yX1_direction, cX1_direction, 3, (some .int), 1, true, 3, 0, 0), (yX1_useWay, cX1_useWay, 8, none, 1, false, 3, 1, 22), (yX2_clear, cX2_clear, 3, none, 2, false, 1, 1, 23), (yX2_isNode, cX2_isNode, 2, (some .boolean), 2, false, 1, 0, 0), (yX2_areTwo, cX2_areTwo, 3, (some .boolean), 2, false, 2, 1, 21), (yX2_isLink, cX2_isLink, 2, (some .boolean), 2, false, 1, 0, 0), (yX2_add, cX2_add, 5, (some .int), 2, false, 3, 0, 0), (yX2_setCost, cX2_setCost, 3, none, 2, false, 2, 0, 0), (yX2_linkAt, cX2_linkAt, 3, (some .int), 2, false, 2, 0, 0), (yX2_costAt, cX2_costAt, 4, (some .int), 2, false, 2, 1, 22), (yX2_costsTogether, cX2_costsTogether, 3, (some .int), 2, false, 0, 0, 0), (yX2_farthestFrom, cX2_farthestFrom, 4, (some .int), 2, false, 1, 1, 21), (yX2_hop, cX2_hop, 3, (some .int), 2, false, 2, 1, 21), (yX2_nodeOfWay, cX2_nodeOfWay, 6, (some .int), 2, false, 3, 2, 43), (yX2_isWayWithin, cX2_isWayWithin, 6, (some .boolean), 2, false, 3, 2, 43), (yX2_settle, cX2_settle, 3, none, 2, false, 0, 2, 50), (yX2_measure, cX2_measure, 7, none, 2, false, 3, 1, 24), (yX2_shorten, cX2_shorten, 5, (some .boolean), 2, false, 2, 0, 0), (yX2_hopBy, cX2_hopBy, 6, (some .int), 2, false, 3, 0, 0), (yX3_set, cX3_set, 3, none, 3, false, 2, 0, 0), (yX3_isAtNode, cX3_isAtNode, 2, (some .boolean), 3, false, 1, 0, 0), (yX3_takes, cX3_takes, 3, (some .boolean), 3, false, 2, 1, 21), (yX3_brokenLinks, cX3_brokenLinks, 4, (some .int), 3, false, 1, 2, 43), (yX4_travel, cX4_travel, 8, none, 4, false, 5, 5, 120), (yX4_stop, cX4_stop, 2, (some .int), 4, false, 1, 0, 0)]
def mTab_1 : List mM := [(yX4_begin, cX4_begin, 4, none, 4, false, 3, 0, 0), (yX4_isBlocked, cX4_isBlocked, 4, (some .boolean), 4, false, 2, 1, 22), (yX4_go, cX4_go, 3, none, 4, false, 2, 2, 45), (yX4_turnAside, cX4_turnAside, 4, none, 4, false, 2, 4, 97), (yX4_goUpTo, cX4_goUpTo, 5, none, 4, false, 2, 3, 73), (yX5_aim, cX5_aim, 7, (some .boolean), 5, false, 3, 2, 43), (yX5_forgetOnes, cX5_forgetOnes, 1, none, 5, false, 0, 0, 0), (yX5_judge, cX5_judge, 7, none, 5, false, 3, 0, 0), (yX5_onesThatAre, cX5_onesThatAre, 2, (some .int), 5, false, 1, 0, 0), (yX5_bestOther, cX5_bestOther, 6, (some .int), 5, false, 1, 2, 45), (yX5_isBestOther, cX5_isBestOther, 4, (some .boolean), 5, false, 2, 3, 70), (yX5_reachedOfItself, cX5_reachedOfItself, 6, (some .int), 5, false, 1, 1, 21), (yX5_reachedBy, cX5_reachedBy, 10, (some .int), 5, false, 2, 1, 21), (yX5_reach, cX5_reach, 4, (some .int), 5, false, 1, 2, 50), (yX5_coming, cX5_coming, 7, (some .int), 5, false, 1, 1, 21), (yX5_nearestOf, cX5_nearestOf, 6, (some .int), 5, false, 2, 1, 21), (yX5_findBridge, cX5_findBridge, 8, (some .boolean), 5, false, 3, 2, 45), (yX5_choose, cX5_choose, 5, (some .int), 5, false, 1, 3, 73), (yX5_firstTowards, cX5_firstTowards, 4, (some .int), 5, false, 2, 2, 50), (yX6_nodes, cX6_nodes, 3, (some .int), 6, false, 1, 2, 45), (yX6_link, cX6_link, 4, (some .int), 6, false, 3, 2, 43), (yX6_cost, cX6_cost, 4, (some .int), 6, false, 2, 1, 22), (yX6_groups, cX6_groups, 4, (some .int), 6, false, 2, 1, 21), (yX6_down, cX6_down, 3, (some .boolean), 6, false, 2, 2, 43), (yX6_of, cX6_of, 3, (some .int), 6, false, 2, 5, 119), (yX6_between, cX6_between, 3, (some .int), 6, false, 2, 1, 22), (yX6_far, cX6_far, 3, (some .int), 6, false, 2, 3, 72), (yX6_next, cX6_next, 3, (some .int), 6, false, 2, 3, 72), (yX6_ones, cX6_ones, 4, (some .int), 6, false, 3, 3, 72), (yX6_alternate, cX6_alternate, 3, (some .int), 6, false, 2, 3, 72), (yX6_space, cX6_space, 4, (some .int), 6, false, 3, 3, 73), (yX6_tunnel, cX6_tunnel, 6, (some .int), 6, false, 3, 3, 73), (yX6_repair, cX6_repair, 3, (some .int), 6, false, 2, 4, 97), (yX6_send, cX6_send, 4, (some .int), 6, false, 3, 6, 147), (yX6_trace, cX6_trace, 4, (some .int), 6, false, 3, 6, 147), (yX6_behind, cX6_behind, 4, (some .int), 6, false, 3, 3, 74), (yX6_nextBehind, cX6_nextBehind, 4, (some .int), 6, false, 3, 3, 74), (yX6_hit, cX6_hit, 3, (some .int), 6, false, 2, 4, 95), (yX6_holds, cX6_holds, 4, (some .int), 6, false, 3, 5, 121), (yX6_round, cX6_round, 4, (some .int), 6, false, 3, 3, 76)]
def mTab_2 : List mM := [(yX6_covered, cX6_covered, 4, (some .int), 6, false, 1, 7, 171), (yX6_cut, cX6_cut, 3, (some .int), 6, false, 2, 5, 120), (yX6_spare, cX6_spare, 3, (some .int), 6, false, 2, 4, 103), (yX6_centre, cX6_centre, 5, (some .int), 6, false, 0, 3, 72), (yX6_count, cX6_count, 2, (some .int), 6, false, 1, 3, 66), (yX6_isCost, cX6_isCost, 1, (some .boolean), 6, true, 1, 0, 0), (yX6_orNone, cX6_orNone, 1, (some .int), 6, true, 1, 0, 0), (yX6_has, cX6_has, 2, (some .boolean), 6, true, 2, 0, 0), (yX6_canBeDown, cX6_canBeDown, 3, (some .boolean), 6, false, 2, 1, 21), (yX6_canSend, cX6_canSend, 3, (some .boolean), 6, false, 2, 2, 43), (yX6_sendersOfKind, cX6_sendersOfKind, 5, (some .int), 6, false, 2, 5, 118), (yX6_isOfKind, cX6_isOfKind, 2, (some .boolean), 6, false, 1, 4, 97), (yX6_safeSenders, cX6_safeSenders, 5, (some .int), 6, false, 1, 6, 147), (yX7_thrown, cX7_thrown, 1, (some .int), 7, false, 0, 0, 0), (yX7_within, cX7_within, 3, (some .boolean), 7, true, 3, 0, 0), (yX7_isNode, cX7_isNode, 2, (some .boolean), 7, false, 1, 0, 0), (yX7_isLink, cX7_isLink, 2, (some .boolean), 7, false, 1, 0, 0), (yX7_isPair, cX7_isPair, 3, (some .boolean), 7, false, 2, 1, 21), (yX7_linkOf, cX7_linkOf, 5, (some .int), 7, false, 2, 0, 0), (yX7_nodes, cX7_nodes, 3, (some .int), 7, false, 1, 1, 22), (yX7_link, cX7_link, 4, (some .int), 7, false, 3, 2, 43), (yX7_cost, cX7_cost, 4, (some .int), 7, false, 2, 1, 22), (yX7_groups, cX7_groups, 4, (some .int), 7, false, 2, 1, 22), (yX7_down, cX7_down, 4, (some .boolean), 7, false, 2, 1, 22), (yX7_isDown, cX7_isDown, 4, (some .boolean), 7, false, 3, 0, 0), (yX7_at, cX7_at, 3, (some .int), 7, true, 3, 0, 0), (yX7_farOf, cX7_farOf, 3, (some .int), 7, false, 2, 1, 22), (yX7_laysFar, cX7_laysFar, 8, none, 7, false, 2, 1, 22), (yX7_lays, cX7_lays, 1, none, 7, false, 0, 2, 49), (yX7_nextOf, cX7_nextOf, 9, (some .int), 7, false, 4, 1, 24), (yX7_isOn, cX7_isOn, 7, (some .boolean), 7, false, 3, 2, 52), (yX7_of, cX7_of, 3, (some .int), 7, false, 2, 4, 102), (yX7_betweenOf, cX7_betweenOf, 5, (some .int), 7, false, 1, 3, 78), (yX7_between, cX7_between, 3, (some .int), 7, false, 2, 2, 43), (yX7_orNone, cX7_orNone, 1, (some .int), 7, true, 1, 0, 0), (yX7_far, cX7_far, 3, (some .int), 7, false, 2, 3, 69), (yX7_next, cX7_next, 3, (some .int), 7, false, 2, 3, 69), (yX7_way, cX7_way, 7, (some .int), 7, false, 3, 3, 69), (yX7_sum, cX7_sum, 2, (some .int), 7, true, 2, 0, 0), (yX7_isSo, cX7_isSo, 6, (some .boolean), 7, false, 5, 2, 44)]
def mTab_3 : List mM := [(yX7_onesOf, cX7_onesOf, 7, (some .int), 7, false, 3, 3, 69), (yX7_worth, cX7_worth, 6, (some .int), 7, false, 3, 4, 95), (yX7_alternateOf, cX7_alternateOf, 6, (some .int), 7, false, 2, 5, 120), (yX7_isWithNext, cX7_isWithNext, 3, (some .boolean), 7, false, 2, 2, 52), (yX7_ones, cX7_ones, 4, (some .int), 7, false, 3, 4, 95), (yX7_alternate, cX7_alternate, 3, (some .int), 7, false, 2, 6, 145), (yX7_reachedBy, cX7_reachedBy, 9, (some .int), 7, false, 3, 2, 52), (yX7_reach, cX7_reach, 6, (some .int), 7, false, 2, 3, 80), (yX7_coming, cX7_coming, 7, (some .int), 7, false, 2, 2, 52), (yX7_space, cX7_space, 4, (some .int), 7, false, 3, 4, 105), (yX7_meeting, cX7_meeting, 6, (some .int), 7, false, 2, 4, 105), (yX7_bridge, cX7_bridge, 12, (some .int), 7, false, 2, 4, 105), (yX7_tunnel, cX7_tunnel, 5, (some .int), 7, false, 3, 5, 136), (yX7_repairOf, cX7_repairOf, 3, (some .int), 7, false, 2, 6, 145), (yX7_repair, cX7_repair, 3, (some .int), 7, false, 2, 7, 167), (yX7_moves, cX7_moves, 5, none, 7, false, 3, 1, 24), (yX7_lowestBy, cX7_lowestBy, 7, (some .int), 7, false, 3, 3, 80), (yX7_tunnels, cX7_tunnels, 5, none, 7, false, 4, 4, 106), (yX7_repairs, cX7_repairs, 6, none, 7, false, 3, 7, 167), (yX7_sends, cX7_sends, 6, (some .int), 7, false, 4, 8, 192), (yX7_canSend, cX7_canSend, 3, (some .boolean), 7, false, 2, 2, 43), (yX7_send, cX7_send, 5, (some .int), 7, false, 3, 9, 217), (yX7_trace, cX7_trace, 5, (some .int), 7, false, 3, 9, 217), (yX7_laysBoth, cX7_laysBoth, 2, none, 7, false, 1, 3, 69), (yX7_behind, cX7_behind, 4, (some .int), 7, false, 3, 4, 90), (yX7_nextBehind, cX7_nextBehind, 4, (some .int), 7, false, 3, 4, 90), (yX7_hitBy, cX7_hitBy, 5, (some .int), 7, false, 2, 3, 78), (yX7_hit, cX7_hit, 3, (some .int), 7, false, 2, 4, 102), (yX7_waitOf, cX7_waitOf, 9, (some .int), 7, false, 3, 4, 102), (yX7_holds, cX7_holds, 7, (some .int), 7, false, 3, 5, 130), (yX7_round, cX7_round, 8, (some .int), 7, false, 3, 4, 90), (yX7_isSafe, cX7_isSafe, 5, (some .boolean), 7, false, 2, 9, 217), (yX7_counts, cX7_counts, 5, (some .boolean), 7, false, 3, 10, 241), (yX7_covered, cX7_covered, 5, (some .int), 7, false, 1, 11, 265), (yX7_cut, cX7_cut, 7, (some .int), 7, false, 2, 2, 43), (yX7_spare, cX7_spare, 5, (some .int), 7, false, 2, 3, 69), (yX7_centre, cX7_centre, 6, (some .int), 7, false, 0, 3, 69), (yX7_count, cX7_count, 4, (some .int), 7, false, 1, 1, 23), (yJ6_bitCount_0f7a4, cJ6_bitCount_0f7a4, 1, (some .int), 8, true, 1, 0, 0), (yJ7_fill_53178, cJ7_fill_53178, 4, none, 10, true, 2, 0, 0)]
def mTab : List mM := mTab_0 ++ (mTab_1 ++ (mTab_2 ++ (mTab_3)))
theorem mt_X0_farWithout : mTab[0]? = some (yX0_farWithout, cX0_farWithout, 5, (some .int), 0, false, 4, 2, 50) := rfl
theorem mt_X0_hopWithout : mTab[1]? = some (yX0_hopWithout, cX0_hopWithout, 5, (some .int), 0, false, 4, 2, 50) := rfl
theorem mt_X0_hitNodes : mTab[2]? = some (yX0_hitNodes, cX0_hitNodes, 6, (some .int), 0, false, 3, 3, 70) := rfl
theorem mt_X0_isHit : mTab[3]? = some (yX0_isHit, cX0_isHit, 8, (some .boolean), 0, false, 4, 2, 43) := rfl
theorem mt_X0_waysOver : mTab[4]? = some (yX0_waysOver, cX0_waysOver, 5, (some .int), 0, false, 2, 4, 95) := rfl
theorem mt_X0_delay : mTab[5]? = some (yX0_delay, cX0_delay, 7, (some .int), 0, false, 4, 3, 70) := rfl
theorem mt_X0_stepsUpTo : mTab[6]? = some (yX0_stepsUpTo, cX0_stepsUpTo, 7, (some .int), 0, false, 4, 2, 43) := rfl
theorem mt_X0_longestDelay : mTab[7]? = some (yX0_longestDelay, cX0_longestDelay, 6, (some .int), 0, false, 3, 4, 96) := rfl
theorem mt_X0_circling : mTab[8]? = some (yX0_circling, cX0_circling, 7, (some .int), 0, false, 4, 2, 50) := rfl
theorem mt_X0_comesToAnEnd : mTab[9]? = some (yX0_comesToAnEnd, cX0_comesToAnEnd, 5, (some .boolean), 0, false, 2, 0, 0) := rfl
theorem mt_X0_worstDetour : mTab[10]? = some (yX0_worstDetour, cX0_worstDetour, 10, (some .int), 0, false, 3, 3, 74) := rfl
theorem mt_X1_leastCut : mTab[11]? = some (yX1_leastCut, cX1_leastCut, 5, (some .int), 1, false, 3, 4, 96) := rfl
theorem mt_X1_findWay : mTab[12]? = some (yX1_findWay, cX1_findWay, 6, (some .boolean), 1, false, 3, 3, 71) := rfl
theorem mt_X1_spread : mTab[13]? = some (yX1_spread, cX1_spread, 6, (some .int), 1, false, 3, 2, 46) := rfl
theorem mt_X1_isFree : mTab[14]? = some (yX1_isFree, cX1_isFree, 5, (some .boolean), 1, false, 3, 1, 22) := rfl
theorem mt_X1_direction : mTab[15]? = some (yX1_direction, cX1_direction, 3, (some .int), 1, true, 3, 0, 0) := rfl
theorem mt_X1_useWay : mTab[16]? = some (yX1_useWay, cX1_useWay, 8, none, 1, false, 3, 1, 22) := rfl
theorem mt_X2_clear : mTab[17]? = some (yX2_clear, cX2_clear, 3, none, 2, false, 1, 1, 23) := rfl
theorem mt_X2_isNode : mTab[18]? = some (yX2_isNode, cX2_isNode, 2, (some .boolean), 2, false, 1, 0, 0) := rfl
theorem mt_X2_areTwo : mTab[19]? = some (yX2_areTwo, cX2_areTwo, 3, (some .boolean), 2, false, 2, 1, 21) := rfl
theorem mt_X2_isLink : mTab[20]? = some (yX2_isLink, cX2_isLink, 2, (some .boolean), 2, false, 1, 0, 0) := rfl
theorem mt_X2_add : mTab[21]? = some (yX2_add, cX2_add, 5, (some .int), 2, false, 3, 0, 0) := rfl
theorem mt_X2_setCost : mTab[22]? = some (yX2_setCost, cX2_setCost, 3, none, 2, false, 2, 0, 0) := rfl
theorem mt_X2_linkAt : mTab[23]? = some (yX2_linkAt, cX2_linkAt, 3, (some .int), 2, false, 2, 0, 0) := rfl
theorem mt_X2_costAt : mTab[24]? = some (yX2_costAt, cX2_costAt, 4, (some .int), 2, false, 2, 1, 22) := rfl
theorem mt_X2_costsTogether : mTab[25]? = some (yX2_costsTogether, cX2_costsTogether, 3, (some .int), 2, false, 0, 0, 0) := rfl
theorem mt_X2_farthestFrom : mTab[26]? = some (yX2_farthestFrom, cX2_farthestFrom, 4, (some .int), 2, false, 1, 1, 21) := rfl
theorem mt_X2_hop : mTab[27]? = some (yX2_hop, cX2_hop, 3, (some .int), 2, false, 2, 1, 21) := rfl
theorem mt_X2_nodeOfWay : mTab[28]? = some (yX2_nodeOfWay, cX2_nodeOfWay, 6, (some .int), 2, false, 3, 2, 43) := rfl
theorem mt_X2_isWayWithin : mTab[29]? = some (yX2_isWayWithin, cX2_isWayWithin, 6, (some .boolean), 2, false, 3, 2, 43) := rfl
theorem mt_X2_settle : mTab[30]? = some (yX2_settle, cX2_settle, 3, none, 2, false, 0, 2, 50) := rfl
theorem mt_X2_measure : mTab[31]? = some (yX2_measure, cX2_measure, 7, none, 2, false, 3, 1, 24) := rfl
theorem mt_X2_shorten : mTab[32]? = some (yX2_shorten, cX2_shorten, 5, (some .boolean), 2, false, 2, 0, 0) := rfl
theorem mt_X2_hopBy : mTab[33]? = some (yX2_hopBy, cX2_hopBy, 6, (some .int), 2, false, 3, 0, 0) := rfl
theorem mt_X3_set : mTab[34]? = some (yX3_set, cX3_set, 3, none, 3, false, 2, 0, 0) := rfl
theorem mt_X3_isAtNode : mTab[35]? = some (yX3_isAtNode, cX3_isAtNode, 2, (some .boolean), 3, false, 1, 0, 0) := rfl
theorem mt_X3_takes : mTab[36]? = some (yX3_takes, cX3_takes, 3, (some .boolean), 3, false, 2, 1, 21) := rfl
theorem mt_X3_brokenLinks : mTab[37]? = some (yX3_brokenLinks, cX3_brokenLinks, 4, (some .int), 3, false, 1, 2, 43) := rfl
theorem mt_X4_travel : mTab[38]? = some (yX4_travel, cX4_travel, 8, none, 4, false, 5, 5, 120) := rfl
theorem mt_X4_stop : mTab[39]? = some (yX4_stop, cX4_stop, 2, (some .int), 4, false, 1, 0, 0) := rfl
theorem mt_X4_begin : mTab[40]? = some (yX4_begin, cX4_begin, 4, none, 4, false, 3, 0, 0) := rfl
theorem mt_X4_isBlocked : mTab[41]? = some (yX4_isBlocked, cX4_isBlocked, 4, (some .boolean), 4, false, 2, 1, 22) := rfl
theorem mt_X4_go : mTab[42]? = some (yX4_go, cX4_go, 3, none, 4, false, 2, 2, 45) := rfl
theorem mt_X4_turnAside : mTab[43]? = some (yX4_turnAside, cX4_turnAside, 4, none, 4, false, 2, 4, 97) := rfl
theorem mt_X4_goUpTo : mTab[44]? = some (yX4_goUpTo, cX4_goUpTo, 5, none, 4, false, 2, 3, 73) := rfl
theorem mt_X5_aim : mTab[45]? = some (yX5_aim, cX5_aim, 7, (some .boolean), 5, false, 3, 2, 43) := rfl
theorem mt_X5_forgetOnes : mTab[46]? = some (yX5_forgetOnes, cX5_forgetOnes, 1, none, 5, false, 0, 0, 0) := rfl
theorem mt_X5_judge : mTab[47]? = some (yX5_judge, cX5_judge, 7, none, 5, false, 3, 0, 0) := rfl
theorem mt_X5_onesThatAre : mTab[48]? = some (yX5_onesThatAre, cX5_onesThatAre, 2, (some .int), 5, false, 1, 0, 0) := rfl
theorem mt_X5_bestOther : mTab[49]? = some (yX5_bestOther, cX5_bestOther, 6, (some .int), 5, false, 1, 2, 45) := rfl
theorem mt_X5_isBestOther : mTab[50]? = some (yX5_isBestOther, cX5_isBestOther, 4, (some .boolean), 5, false, 2, 3, 70) := rfl
theorem mt_X5_reachedOfItself : mTab[51]? = some (yX5_reachedOfItself, cX5_reachedOfItself, 6, (some .int), 5, false, 1, 1, 21) := rfl
theorem mt_X5_reachedBy : mTab[52]? = some (yX5_reachedBy, cX5_reachedBy, 10, (some .int), 5, false, 2, 1, 21) := rfl
theorem mt_X5_reach : mTab[53]? = some (yX5_reach, cX5_reach, 4, (some .int), 5, false, 1, 2, 50) := rfl
theorem mt_X5_coming : mTab[54]? = some (yX5_coming, cX5_coming, 7, (some .int), 5, false, 1, 1, 21) := rfl
theorem mt_X5_nearestOf : mTab[55]? = some (yX5_nearestOf, cX5_nearestOf, 6, (some .int), 5, false, 2, 1, 21) := rfl
theorem mt_X5_findBridge : mTab[56]? = some (yX5_findBridge, cX5_findBridge, 8, (some .boolean), 5, false, 3, 2, 45) := rfl
theorem mt_X5_choose : mTab[57]? = some (yX5_choose, cX5_choose, 5, (some .int), 5, false, 1, 3, 73) := rfl
theorem mt_X5_firstTowards : mTab[58]? = some (yX5_firstTowards, cX5_firstTowards, 4, (some .int), 5, false, 2, 2, 50) := rfl
theorem mt_X6_nodes : mTab[59]? = some (yX6_nodes, cX6_nodes, 3, (some .int), 6, false, 1, 2, 45) := rfl
theorem mt_X6_link : mTab[60]? = some (yX6_link, cX6_link, 4, (some .int), 6, false, 3, 2, 43) := rfl
theorem mt_X6_cost : mTab[61]? = some (yX6_cost, cX6_cost, 4, (some .int), 6, false, 2, 1, 22) := rfl
theorem mt_X6_groups : mTab[62]? = some (yX6_groups, cX6_groups, 4, (some .int), 6, false, 2, 1, 21) := rfl
theorem mt_X6_down : mTab[63]? = some (yX6_down, cX6_down, 3, (some .boolean), 6, false, 2, 2, 43) := rfl
theorem mt_X6_of : mTab[64]? = some (yX6_of, cX6_of, 3, (some .int), 6, false, 2, 5, 119) := rfl
theorem mt_X6_between : mTab[65]? = some (yX6_between, cX6_between, 3, (some .int), 6, false, 2, 1, 22) := rfl
theorem mt_X6_far : mTab[66]? = some (yX6_far, cX6_far, 3, (some .int), 6, false, 2, 3, 72) := rfl
theorem mt_X6_next : mTab[67]? = some (yX6_next, cX6_next, 3, (some .int), 6, false, 2, 3, 72) := rfl
theorem mt_X6_ones : mTab[68]? = some (yX6_ones, cX6_ones, 4, (some .int), 6, false, 3, 3, 72) := rfl
theorem mt_X6_alternate : mTab[69]? = some (yX6_alternate, cX6_alternate, 3, (some .int), 6, false, 2, 3, 72) := rfl
theorem mt_X6_space : mTab[70]? = some (yX6_space, cX6_space, 4, (some .int), 6, false, 3, 3, 73) := rfl
theorem mt_X6_tunnel : mTab[71]? = some (yX6_tunnel, cX6_tunnel, 6, (some .int), 6, false, 3, 3, 73) := rfl
theorem mt_X6_repair : mTab[72]? = some (yX6_repair, cX6_repair, 3, (some .int), 6, false, 2, 4, 97) := rfl
theorem mt_X6_send : mTab[73]? = some (yX6_send, cX6_send, 4, (some .int), 6, false, 3, 6, 147) := rfl
theorem mt_X6_trace : mTab[74]? = some (yX6_trace, cX6_trace, 4, (some .int), 6, false, 3, 6, 147) := rfl
theorem mt_X6_behind : mTab[75]? = some (yX6_behind, cX6_behind, 4, (some .int), 6, false, 3, 3, 74) := rfl
theorem mt_X6_nextBehind : mTab[76]? = some (yX6_nextBehind, cX6_nextBehind, 4, (some .int), 6, false, 3, 3, 74) := rfl
theorem mt_X6_hit : mTab[77]? = some (yX6_hit, cX6_hit, 3, (some .int), 6, false, 2, 4, 95) := rfl
theorem mt_X6_holds : mTab[78]? = some (yX6_holds, cX6_holds, 4, (some .int), 6, false, 3, 5, 121) := rfl
theorem mt_X6_round : mTab[79]? = some (yX6_round, cX6_round, 4, (some .int), 6, false, 3, 3, 76) := rfl
theorem mt_X6_covered : mTab[80]? = some (yX6_covered, cX6_covered, 4, (some .int), 6, false, 1, 7, 171) := rfl
theorem mt_X6_cut : mTab[81]? = some (yX6_cut, cX6_cut, 3, (some .int), 6, false, 2, 5, 120) := rfl
theorem mt_X6_spare : mTab[82]? = some (yX6_spare, cX6_spare, 3, (some .int), 6, false, 2, 4, 103) := rfl
theorem mt_X6_centre : mTab[83]? = some (yX6_centre, cX6_centre, 5, (some .int), 6, false, 0, 3, 72) := rfl
theorem mt_X6_count : mTab[84]? = some (yX6_count, cX6_count, 2, (some .int), 6, false, 1, 3, 66) := rfl
theorem mt_X6_isCost : mTab[85]? = some (yX6_isCost, cX6_isCost, 1, (some .boolean), 6, true, 1, 0, 0) := rfl
theorem mt_X6_orNone : mTab[86]? = some (yX6_orNone, cX6_orNone, 1, (some .int), 6, true, 1, 0, 0) := rfl
theorem mt_X6_has : mTab[87]? = some (yX6_has, cX6_has, 2, (some .boolean), 6, true, 2, 0, 0) := rfl
theorem mt_X6_canBeDown : mTab[88]? = some (yX6_canBeDown, cX6_canBeDown, 3, (some .boolean), 6, false, 2, 1, 21) := rfl
theorem mt_X6_canSend : mTab[89]? = some (yX6_canSend, cX6_canSend, 3, (some .boolean), 6, false, 2, 2, 43) := rfl
theorem mt_X6_sendersOfKind : mTab[90]? = some (yX6_sendersOfKind, cX6_sendersOfKind, 5, (some .int), 6, false, 2, 5, 118) := rfl
theorem mt_X6_isOfKind : mTab[91]? = some (yX6_isOfKind, cX6_isOfKind, 2, (some .boolean), 6, false, 1, 4, 97) := rfl
theorem mt_X6_safeSenders : mTab[92]? = some (yX6_safeSenders, cX6_safeSenders, 5, (some .int), 6, false, 1, 6, 147) := rfl
theorem mt_X7_thrown : mTab[93]? = some (yX7_thrown, cX7_thrown, 1, (some .int), 7, false, 0, 0, 0) := rfl
theorem mt_X7_within : mTab[94]? = some (yX7_within, cX7_within, 3, (some .boolean), 7, true, 3, 0, 0) := rfl
theorem mt_X7_isNode : mTab[95]? = some (yX7_isNode, cX7_isNode, 2, (some .boolean), 7, false, 1, 0, 0) := rfl
theorem mt_X7_isLink : mTab[96]? = some (yX7_isLink, cX7_isLink, 2, (some .boolean), 7, false, 1, 0, 0) := rfl
theorem mt_X7_isPair : mTab[97]? = some (yX7_isPair, cX7_isPair, 3, (some .boolean), 7, false, 2, 1, 21) := rfl
theorem mt_X7_linkOf : mTab[98]? = some (yX7_linkOf, cX7_linkOf, 5, (some .int), 7, false, 2, 0, 0) := rfl
theorem mt_X7_nodes : mTab[99]? = some (yX7_nodes, cX7_nodes, 3, (some .int), 7, false, 1, 1, 22) := rfl
theorem mt_X7_link : mTab[100]? = some (yX7_link, cX7_link, 4, (some .int), 7, false, 3, 2, 43) := rfl
theorem mt_X7_cost : mTab[101]? = some (yX7_cost, cX7_cost, 4, (some .int), 7, false, 2, 1, 22) := rfl
theorem mt_X7_groups : mTab[102]? = some (yX7_groups, cX7_groups, 4, (some .int), 7, false, 2, 1, 22) := rfl
theorem mt_X7_down : mTab[103]? = some (yX7_down, cX7_down, 4, (some .boolean), 7, false, 2, 1, 22) := rfl
theorem mt_X7_isDown : mTab[104]? = some (yX7_isDown, cX7_isDown, 4, (some .boolean), 7, false, 3, 0, 0) := rfl
theorem mt_X7_at : mTab[105]? = some (yX7_at, cX7_at, 3, (some .int), 7, true, 3, 0, 0) := rfl
theorem mt_X7_farOf : mTab[106]? = some (yX7_farOf, cX7_farOf, 3, (some .int), 7, false, 2, 1, 22) := rfl
theorem mt_X7_laysFar : mTab[107]? = some (yX7_laysFar, cX7_laysFar, 8, none, 7, false, 2, 1, 22) := rfl
theorem mt_X7_lays : mTab[108]? = some (yX7_lays, cX7_lays, 1, none, 7, false, 0, 2, 49) := rfl
theorem mt_X7_nextOf : mTab[109]? = some (yX7_nextOf, cX7_nextOf, 9, (some .int), 7, false, 4, 1, 24) := rfl
theorem mt_X7_isOn : mTab[110]? = some (yX7_isOn, cX7_isOn, 7, (some .boolean), 7, false, 3, 2, 52) := rfl
theorem mt_X7_of : mTab[111]? = some (yX7_of, cX7_of, 3, (some .int), 7, false, 2, 4, 102) := rfl
theorem mt_X7_betweenOf : mTab[112]? = some (yX7_betweenOf, cX7_betweenOf, 5, (some .int), 7, false, 1, 3, 78) := rfl
theorem mt_X7_between : mTab[113]? = some (yX7_between, cX7_between, 3, (some .int), 7, false, 2, 2, 43) := rfl
theorem mt_X7_orNone : mTab[114]? = some (yX7_orNone, cX7_orNone, 1, (some .int), 7, true, 1, 0, 0) := rfl
theorem mt_X7_far : mTab[115]? = some (yX7_far, cX7_far, 3, (some .int), 7, false, 2, 3, 69) := rfl
theorem mt_X7_next : mTab[116]? = some (yX7_next, cX7_next, 3, (some .int), 7, false, 2, 3, 69) := rfl
theorem mt_X7_way : mTab[117]? = some (yX7_way, cX7_way, 7, (some .int), 7, false, 3, 3, 69) := rfl
theorem mt_X7_sum : mTab[118]? = some (yX7_sum, cX7_sum, 2, (some .int), 7, true, 2, 0, 0) := rfl
theorem mt_X7_isSo : mTab[119]? = some (yX7_isSo, cX7_isSo, 6, (some .boolean), 7, false, 5, 2, 44) := rfl
theorem mt_X7_onesOf : mTab[120]? = some (yX7_onesOf, cX7_onesOf, 7, (some .int), 7, false, 3, 3, 69) := rfl
theorem mt_X7_worth : mTab[121]? = some (yX7_worth, cX7_worth, 6, (some .int), 7, false, 3, 4, 95) := rfl
theorem mt_X7_alternateOf : mTab[122]? = some (yX7_alternateOf, cX7_alternateOf, 6, (some .int), 7, false, 2, 5, 120) := rfl
theorem mt_X7_isWithNext : mTab[123]? = some (yX7_isWithNext, cX7_isWithNext, 3, (some .boolean), 7, false, 2, 2, 52) := rfl
theorem mt_X7_ones : mTab[124]? = some (yX7_ones, cX7_ones, 4, (some .int), 7, false, 3, 4, 95) := rfl
theorem mt_X7_alternate : mTab[125]? = some (yX7_alternate, cX7_alternate, 3, (some .int), 7, false, 2, 6, 145) := rfl
theorem mt_X7_reachedBy : mTab[126]? = some (yX7_reachedBy, cX7_reachedBy, 9, (some .int), 7, false, 3, 2, 52) := rfl
theorem mt_X7_reach : mTab[127]? = some (yX7_reach, cX7_reach, 6, (some .int), 7, false, 2, 3, 80) := rfl
theorem mt_X7_coming : mTab[128]? = some (yX7_coming, cX7_coming, 7, (some .int), 7, false, 2, 2, 52) := rfl
theorem mt_X7_space : mTab[129]? = some (yX7_space, cX7_space, 4, (some .int), 7, false, 3, 4, 105) := rfl
theorem mt_X7_meeting : mTab[130]? = some (yX7_meeting, cX7_meeting, 6, (some .int), 7, false, 2, 4, 105) := rfl
theorem mt_X7_bridge : mTab[131]? = some (yX7_bridge, cX7_bridge, 12, (some .int), 7, false, 2, 4, 105) := rfl
theorem mt_X7_tunnel : mTab[132]? = some (yX7_tunnel, cX7_tunnel, 5, (some .int), 7, false, 3, 5, 136) := rfl
theorem mt_X7_repairOf : mTab[133]? = some (yX7_repairOf, cX7_repairOf, 3, (some .int), 7, false, 2, 6, 145) := rfl
theorem mt_X7_repair : mTab[134]? = some (yX7_repair, cX7_repair, 3, (some .int), 7, false, 2, 7, 167) := rfl
theorem mt_X7_moves : mTab[135]? = some (yX7_moves, cX7_moves, 5, none, 7, false, 3, 1, 24) := rfl
theorem mt_X7_lowestBy : mTab[136]? = some (yX7_lowestBy, cX7_lowestBy, 7, (some .int), 7, false, 3, 3, 80) := rfl
theorem mt_X7_tunnels : mTab[137]? = some (yX7_tunnels, cX7_tunnels, 5, none, 7, false, 4, 4, 106) := rfl
theorem mt_X7_repairs : mTab[138]? = some (yX7_repairs, cX7_repairs, 6, none, 7, false, 3, 7, 167) := rfl
theorem mt_X7_sends : mTab[139]? = some (yX7_sends, cX7_sends, 6, (some .int), 7, false, 4, 8, 192) := rfl
theorem mt_X7_canSend : mTab[140]? = some (yX7_canSend, cX7_canSend, 3, (some .boolean), 7, false, 2, 2, 43) := rfl
theorem mt_X7_send : mTab[141]? = some (yX7_send, cX7_send, 5, (some .int), 7, false, 3, 9, 217) := rfl
theorem mt_X7_trace : mTab[142]? = some (yX7_trace, cX7_trace, 5, (some .int), 7, false, 3, 9, 217) := rfl
theorem mt_X7_laysBoth : mTab[143]? = some (yX7_laysBoth, cX7_laysBoth, 2, none, 7, false, 1, 3, 69) := rfl
theorem mt_X7_behind : mTab[144]? = some (yX7_behind, cX7_behind, 4, (some .int), 7, false, 3, 4, 90) := rfl
theorem mt_X7_nextBehind : mTab[145]? = some (yX7_nextBehind, cX7_nextBehind, 4, (some .int), 7, false, 3, 4, 90) := rfl
theorem mt_X7_hitBy : mTab[146]? = some (yX7_hitBy, cX7_hitBy, 5, (some .int), 7, false, 2, 3, 78) := rfl
theorem mt_X7_hit : mTab[147]? = some (yX7_hit, cX7_hit, 3, (some .int), 7, false, 2, 4, 102) := rfl
theorem mt_X7_waitOf : mTab[148]? = some (yX7_waitOf, cX7_waitOf, 9, (some .int), 7, false, 3, 4, 102) := rfl
theorem mt_X7_holds : mTab[149]? = some (yX7_holds, cX7_holds, 7, (some .int), 7, false, 3, 5, 130) := rfl
theorem mt_X7_round : mTab[150]? = some (yX7_round, cX7_round, 8, (some .int), 7, false, 3, 4, 90) := rfl
theorem mt_X7_isSafe : mTab[151]? = some (yX7_isSafe, cX7_isSafe, 5, (some .boolean), 7, false, 2, 9, 217) := rfl
theorem mt_X7_counts : mTab[152]? = some (yX7_counts, cX7_counts, 5, (some .boolean), 7, false, 3, 10, 241) := rfl
theorem mt_X7_covered : mTab[153]? = some (yX7_covered, cX7_covered, 5, (some .int), 7, false, 1, 11, 265) := rfl
theorem mt_X7_cut : mTab[154]? = some (yX7_cut, cX7_cut, 7, (some .int), 7, false, 2, 2, 43) := rfl
theorem mt_X7_spare : mTab[155]? = some (yX7_spare, cX7_spare, 5, (some .int), 7, false, 2, 3, 69) := rfl
theorem mt_X7_centre : mTab[156]? = some (yX7_centre, cX7_centre, 6, (some .int), 7, false, 0, 3, 69) := rfl
theorem mt_X7_count : mTab[157]? = some (yX7_count, cX7_count, 4, (some .int), 7, false, 1, 1, 23) := rfl
theorem mt_J6_bitCount_0f7a4 : mTab[158]? = some (yJ6_bitCount_0f7a4, cJ6_bitCount_0f7a4, 1, (some .int), 8, true, 1, 0, 0) := rfl
theorem mt_J7_fill_53178 : mTab[159]? = some (yJ7_fill_53178, cJ7_fill_53178, 4, none, 10, true, 2, 0, 0) := rfl
def mClok (q : vw_C) : Prop := (∀ w ∈ u_ws q.1 q.2.1 q.2.2, w ∈ mTB) ∧ ∃ ty0 : Nat → FieldType, (∀ k, k < q.2.2 → parseFieldDescriptor (q.2.1 k).2.2.1 = some (ty0 k)) ∧ ∀ a, a < q.2.2 → ∀ b, b < q.2.2 → a ≠ b → (q.2.1 a).2.1 ≠ (q.2.1 b).2.1
theorem mlay_X0_0 : u_lay RX0 TX0 0 ∈ mTB := (mTB_mem 256 (by decide +kernel) rfl)
theorem mlay_X0_1 : u_lay RX0 TX0 1 ∈ mTB := (mTB_mem 258 (by decide +kernel) rfl)
theorem mcl_X0 : mClok (RX0, TX0, 2) := ⟨fun w hw => by
  obtain ⟨j, hj, rfl⟩ := List.mem_map.mp hw
  have hj := List.mem_range.mp hj
  match j, hj with
  | 0, _ => exact mlay_X0_0
  | 1, _ => exact mlay_X0_1
  | n + 2, h => exact absurd h (by simp), tyX0, tyX0_ok, nmX0⟩
theorem mlay_X1_0 : u_lay RX1 TX1 0 ∈ mTB := (mTB_mem 270 (by decide +kernel) rfl)
theorem mlay_X1_1 : u_lay RX1 TX1 1 ∈ mTB := (mTB_mem 272 (by decide +kernel) rfl)
theorem mlay_X1_2 : u_lay RX1 TX1 2 ∈ mTB := (mTB_mem 274 (by decide +kernel) rfl)
theorem mcl_X1 : mClok (RX1, TX1, 3) := ⟨fun w hw => by
  obtain ⟨j, hj, rfl⟩ := List.mem_map.mp hw
  have hj := List.mem_range.mp hj
  match j, hj with
  | 0, _ => exact mlay_X1_0
  | 1, _ => exact mlay_X1_1
  | 2, _ => exact mlay_X1_2
  | n + 3, h => exact absurd h (by simp), tyX1, tyX1_ok, nmX1⟩
theorem mlay_X2_0 : u_lay RX2 TX2 0 ∈ mTB := (mTB_mem 123 (by decide +kernel) rfl)
theorem mlay_X2_1 : u_lay RX2 TX2 1 ∈ mTB := (mTB_mem 125 (by decide +kernel) rfl)
theorem mlay_X2_2 : u_lay RX2 TX2 2 ∈ mTB := (mTB_mem 127 (by decide +kernel) rfl)
theorem mlay_X2_3 : u_lay RX2 TX2 3 ∈ mTB := (mTB_mem 129 (by decide +kernel) rfl)
theorem mlay_X2_4 : u_lay RX2 TX2 4 ∈ mTB := (mTB_mem 131 (by decide +kernel) rfl)
theorem mlay_X2_5 : u_lay RX2 TX2 5 ∈ mTB := (mTB_mem 133 (by decide +kernel) rfl)
theorem mlay_X2_6 : u_lay RX2 TX2 6 ∈ mTB := (mTB_mem 135 (by decide +kernel) rfl)
theorem mlay_X2_7 : u_lay RX2 TX2 7 ∈ mTB := (mTB_mem 137 (by decide +kernel) rfl)
theorem mlay_X2_8 : u_lay RX2 TX2 8 ∈ mTB := (mTB_mem 139 (by decide +kernel) rfl)
theorem mlay_X2_9 : u_lay RX2 TX2 9 ∈ mTB := (mTB_mem 141 (by decide +kernel) rfl)
theorem mcl_X2 : mClok (RX2, TX2, 10) := ⟨fun w hw => by
  obtain ⟨j, hj, rfl⟩ := List.mem_map.mp hw
  have hj := List.mem_range.mp hj
  match j, hj with
  | 0, _ => exact mlay_X2_0
  | 1, _ => exact mlay_X2_1
  | 2, _ => exact mlay_X2_2
  | 3, _ => exact mlay_X2_3
  | 4, _ => exact mlay_X2_4
  | 5, _ => exact mlay_X2_5
  | 6, _ => exact mlay_X2_6
  | 7, _ => exact mlay_X2_7
  | 8, _ => exact mlay_X2_8
  | 9, _ => exact mlay_X2_9
  | n + 10, h => exact absurd h (by simp), tyX2, tyX2_ok, nmX2⟩
theorem mlay_X3_0 : u_lay RX3 TX3 0 ∈ mTB := (mTB_mem 155 (by decide +kernel) rfl)
theorem mlay_X3_1 : u_lay RX3 TX3 1 ∈ mTB := (mTB_mem 157 (by decide +kernel) rfl)
theorem mcl_X3 : mClok (RX3, TX3, 2) := ⟨fun w hw => by
  obtain ⟨j, hj, rfl⟩ := List.mem_map.mp hw
  have hj := List.mem_range.mp hj
  match j, hj with
  | 0, _ => exact mlay_X3_0
  | 1, _ => exact mlay_X3_1
  | n + 2, h => exact absurd h (by simp), tyX3, tyX3_ok, nmX3⟩
theorem mlay_X4_0 : u_lay RX4 TX4 0 ∈ mTB := (mTB_mem 231 (by decide +kernel) rfl)
theorem mlay_X4_1 : u_lay RX4 TX4 1 ∈ mTB := (mTB_mem 233 (by decide +kernel) rfl)
theorem mlay_X4_2 : u_lay RX4 TX4 2 ∈ mTB := (mTB_mem 235 (by decide +kernel) rfl)
theorem mlay_X4_3 : u_lay RX4 TX4 3 ∈ mTB := (mTB_mem 237 (by decide +kernel) rfl)
theorem mlay_X4_4 : u_lay RX4 TX4 4 ∈ mTB := (mTB_mem 239 (by decide +kernel) rfl)
theorem mlay_X4_5 : u_lay RX4 TX4 5 ∈ mTB := (mTB_mem 241 (by decide +kernel) rfl)
theorem mlay_X4_6 : u_lay RX4 TX4 6 ∈ mTB := (mTB_mem 243 (by decide +kernel) rfl)
theorem mlay_X4_7 : u_lay RX4 TX4 7 ∈ mTB := (mTB_mem 245 (by decide +kernel) rfl)
theorem mcl_X4 : mClok (RX4, TX4, 8) := ⟨fun w hw => by
  obtain ⟨j, hj, rfl⟩ := List.mem_map.mp hw
  have hj := List.mem_range.mp hj
  match j, hj with
  | 0, _ => exact mlay_X4_0
  | 1, _ => exact mlay_X4_1
  | 2, _ => exact mlay_X4_2
  | 3, _ => exact mlay_X4_3
  | 4, _ => exact mlay_X4_4
  | 5, _ => exact mlay_X4_5
  | 6, _ => exact mlay_X4_6
  | 7, _ => exact mlay_X4_7
  | n + 8, h => exact absurd h (by simp), tyX4, tyX4_ok, nmX4⟩
theorem mlay_X5_0 : u_lay RX5 TX5 0 ∈ mTB := (mTB_mem 184 (by decide +kernel) rfl)
theorem mlay_X5_1 : u_lay RX5 TX5 1 ∈ mTB := (mTB_mem 186 (by decide +kernel) rfl)
theorem mlay_X5_2 : u_lay RX5 TX5 2 ∈ mTB := (mTB_mem 188 (by decide +kernel) rfl)
theorem mlay_X5_3 : u_lay RX5 TX5 3 ∈ mTB := (mTB_mem 190 (by decide +kernel) rfl)
theorem mlay_X5_4 : u_lay RX5 TX5 4 ∈ mTB := (mTB_mem 192 (by decide +kernel) rfl)
theorem mlay_X5_5 : u_lay RX5 TX5 5 ∈ mTB := (mTB_mem 194 (by decide +kernel) rfl)
theorem mlay_X5_6 : u_lay RX5 TX5 6 ∈ mTB := (mTB_mem 196 (by decide +kernel) rfl)
theorem mlay_X5_7 : u_lay RX5 TX5 7 ∈ mTB := (mTB_mem 198 (by decide +kernel) rfl)
theorem mlay_X5_8 : u_lay RX5 TX5 8 ∈ mTB := (mTB_mem 200 (by decide +kernel) rfl)
theorem mlay_X5_9 : u_lay RX5 TX5 9 ∈ mTB := (mTB_mem 202 (by decide +kernel) rfl)
theorem mlay_X5_10 : u_lay RX5 TX5 10 ∈ mTB := (mTB_mem 204 (by decide +kernel) rfl)
theorem mlay_X5_11 : u_lay RX5 TX5 11 ∈ mTB := (mTB_mem 206 (by decide +kernel) rfl)
theorem mlay_X5_12 : u_lay RX5 TX5 12 ∈ mTB := (mTB_mem 208 (by decide +kernel) rfl)
theorem mlay_X5_13 : u_lay RX5 TX5 13 ∈ mTB := (mTB_mem 210 (by decide +kernel) rfl)
theorem mcl_X5 : mClok (RX5, TX5, 14) := ⟨fun w hw => by
  obtain ⟨j, hj, rfl⟩ := List.mem_map.mp hw
  have hj := List.mem_range.mp hj
  match j, hj with
  | 0, _ => exact mlay_X5_0
  | 1, _ => exact mlay_X5_1
  | 2, _ => exact mlay_X5_2
  | 3, _ => exact mlay_X5_3
  | 4, _ => exact mlay_X5_4
  | 5, _ => exact mlay_X5_5
  | 6, _ => exact mlay_X5_6
  | 7, _ => exact mlay_X5_7
  | 8, _ => exact mlay_X5_8
  | 9, _ => exact mlay_X5_9
  | 10, _ => exact mlay_X5_10
  | 11, _ => exact mlay_X5_11
  | 12, _ => exact mlay_X5_12
  | 13, _ => exact mlay_X5_13
  | n + 14, h => exact absurd h (by simp), tyX5, tyX5_ok, nmX5⟩
theorem mlay_X6_0 : u_lay RX6 TX6 0 ∈ mTB := (mTB_mem 283 (by decide +kernel) rfl)
theorem mlay_X6_1 : u_lay RX6 TX6 1 ∈ mTB := (mTB_mem 285 (by decide +kernel) rfl)
theorem mlay_X6_2 : u_lay RX6 TX6 2 ∈ mTB := (mTB_mem 287 (by decide +kernel) rfl)
theorem mlay_X6_3 : u_lay RX6 TX6 3 ∈ mTB := (mTB_mem 289 (by decide +kernel) rfl)
theorem mlay_X6_4 : u_lay RX6 TX6 4 ∈ mTB := (mTB_mem 291 (by decide +kernel) rfl)
theorem mlay_X6_5 : u_lay RX6 TX6 5 ∈ mTB := (mTB_mem 293 (by decide +kernel) rfl)
theorem mcl_X6 : mClok (RX6, TX6, 6) := ⟨fun w hw => by
  obtain ⟨j, hj, rfl⟩ := List.mem_map.mp hw
  have hj := List.mem_range.mp hj
  match j, hj with
  | 0, _ => exact mlay_X6_0
  | 1, _ => exact mlay_X6_1
  | 2, _ => exact mlay_X6_2
  | 3, _ => exact mlay_X6_3
  | 4, _ => exact mlay_X6_4
  | 5, _ => exact mlay_X6_5
  | n + 6, h => exact absurd h (by simp), tyX6, tyX6_ok, nmX6⟩
theorem mlay_X7_0 : u_lay RX7 TX7 0 ∈ mTB := (mTB_mem 799 (by decide +kernel) rfl)
theorem mlay_X7_1 : u_lay RX7 TX7 1 ∈ mTB := (mTB_mem 801 (by decide +kernel) rfl)
theorem mlay_X7_2 : u_lay RX7 TX7 2 ∈ mTB := (mTB_mem 803 (by decide +kernel) rfl)
theorem mlay_X7_3 : u_lay RX7 TX7 3 ∈ mTB := (mTB_mem 805 (by decide +kernel) rfl)
theorem mlay_X7_4 : u_lay RX7 TX7 4 ∈ mTB := (mTB_mem 807 (by decide +kernel) rfl)
theorem mlay_X7_5 : u_lay RX7 TX7 5 ∈ mTB := (mTB_mem 809 (by decide +kernel) rfl)
theorem mlay_X7_6 : u_lay RX7 TX7 6 ∈ mTB := (mTB_mem 811 (by decide +kernel) rfl)
theorem mlay_X7_7 : u_lay RX7 TX7 7 ∈ mTB := (mTB_mem 813 (by decide +kernel) rfl)
theorem mlay_X7_8 : u_lay RX7 TX7 8 ∈ mTB := (mTB_mem 815 (by decide +kernel) rfl)
theorem mlay_X7_9 : u_lay RX7 TX7 9 ∈ mTB := (mTB_mem 817 (by decide +kernel) rfl)
theorem mlay_X7_10 : u_lay RX7 TX7 10 ∈ mTB := (mTB_mem 819 (by decide +kernel) rfl)
theorem mlay_X7_11 : u_lay RX7 TX7 11 ∈ mTB := (mTB_mem 821 (by decide +kernel) rfl)
theorem mlay_X7_12 : u_lay RX7 TX7 12 ∈ mTB := (mTB_mem 823 (by decide +kernel) rfl)
theorem mlay_X7_13 : u_lay RX7 TX7 13 ∈ mTB := (mTB_mem 825 (by decide +kernel) rfl)
theorem mlay_X7_14 : u_lay RX7 TX7 14 ∈ mTB := (mTB_mem 827 (by decide +kernel) rfl)
theorem mlay_X7_15 : u_lay RX7 TX7 15 ∈ mTB := (mTB_mem 829 (by decide +kernel) rfl)
theorem mlay_X7_16 : u_lay RX7 TX7 16 ∈ mTB := (mTB_mem 831 (by decide +kernel) rfl)
theorem mcl_X7 : mClok (RX7, TX7, 17) := ⟨fun w hw => by
  obtain ⟨j, hj, rfl⟩ := List.mem_map.mp hw
  have hj := List.mem_range.mp hj
  match j, hj with
  | 0, _ => exact mlay_X7_0
  | 1, _ => exact mlay_X7_1
  | 2, _ => exact mlay_X7_2
  | 3, _ => exact mlay_X7_3
  | 4, _ => exact mlay_X7_4
  | 5, _ => exact mlay_X7_5
  | 6, _ => exact mlay_X7_6
  | 7, _ => exact mlay_X7_7
  | 8, _ => exact mlay_X7_8
  | 9, _ => exact mlay_X7_9
  | 10, _ => exact mlay_X7_10
  | 11, _ => exact mlay_X7_11
  | 12, _ => exact mlay_X7_12
  | 13, _ => exact mlay_X7_13
  | 14, _ => exact mlay_X7_14
  | 15, _ => exact mlay_X7_15
  | 16, _ => exact mlay_X7_16
  | n + 17, h => exact absurd h (by simp), tyX7, tyX7_ok, nmX7⟩
theorem mCl_ok : ∀ q ∈ mCl, mClok q := List.forall_mem_cons.mpr ⟨mcl_X0, List.forall_mem_cons.mpr ⟨mcl_X1, List.forall_mem_cons.mpr ⟨mcl_X2, List.forall_mem_cons.mpr ⟨mcl_X3, List.forall_mem_cons.mpr ⟨mcl_X4, List.forall_mem_cons.mpr ⟨mcl_X5, List.forall_mem_cons.mpr ⟨mcl_X6, List.forall_mem_cons.mpr ⟨mcl_X7, fun _ h => absurd h List.not_mem_nil⟩⟩⟩⟩⟩⟩⟩⟩
abbrev mFt : Type := (Nat × Nat) × (Nat × Nat × Nat)
def mF : List mFt := [((0, 9), (0, 0, 0)), ((0, 15), (0, 1, 0)), ((0, 28), (2, 0, 1)), ((0, 73), (2, 6, 0)), ((1, 9), (1, 0, 0)), ((1, 15), (1, 1, 0)), ((1, 18), (1, 2, 0)), ((1, 35), (2, 0, 1)), ((1, 55), (2, 2, 0)), ((2, 9), (2, 2, 0)), ((2, 15), (2, 3, 0)), ((2, 18), (2, 4, 0)), ((2, 21), (2, 5, 0)), ((2, 26), (2, 6, 0)), ((2, 29), (2, 7, 0)), ((2, 32), (2, 8, 0)), ((2, 39), (2, 0, 1)), ((2, 43), (2, 1, 1)), ((2, 52), (2, 9, 2)), ((3, 9), (3, 0, 1)), ((3, 15), (3, 1, 1)), ((3, 18), (2, 2, 0)), ((3, 24), (2, 3, 0)), ((3, 27), (2, 5, 0)), ((3, 34), (2, 1, 1)), ((4, 9), (4, 7, 0)), ((4, 19), (4, 0, 1)), ((4, 23), (4, 4, 1)), ((4, 26), (4, 5, 1)), ((4, 35), (4, 3, 1)), ((4, 50), (4, 1, 1)), ((4, 53), (4, 2, 1)), ((4, 56), (4, 6, 1)), ((4, 79), (5, 11, 1)), ((4, 85), (5, 13, 1)), ((5, 18), (5, 0, 1)), ((5, 24), (5, 1, 1)), ((5, 27), (5, 2, 1)), ((5, 30), (5, 3, 1)), ((5, 33), (2, 4, 0)), ((5, 37), (5, 4, 1)), ((5, 43), (2, 0, 1)), ((5, 46), (2, 6, 0)), ((5, 51), (5, 5, 1)), ((5, 58), (5, 6, 1)), ((5, 61), (5, 7, 1)), ((5, 64), (5, 8, 1)), ((5, 67), (5, 9, 1)), ((5, 70), (5, 10, 1)), ((5, 73), (2, 5, 0)), ((5, 98), (5, 12, 1)), ((5, 101), (5, 13, 1)), ((5, 104), (5, 11, 1)), ((6, 10), (6, 0, 0)), ((6, 19), (6, 1, 0)), ((6, 26), (6, 2, 0)), ((6, 33), (6, 3, 0)), ((6, 40), (6, 4, 0)), ((6, 47), (6, 5, 0)), ((6, 51), (2, 1, 1)), ((6, 82), (2, 4, 0)), ((6, 89), (2, 5, 0)), ((6, 95), (2, 2, 0)), ((6, 98), (2, 3, 0)), ((6, 115), (2, 6, 0)), ((6, 158), (5, 12, 1)), ((6, 161), (5, 13, 1)), ((6, 177), (4, 0, 1)), ((6, 180), (4, 1, 1)), ((6, 183), (4, 3, 1)), ((6, 186), (4, 2, 1)), ((6, 212), (2, 0, 1)), ((6, 231), (3, 0, 1)), ((6, 234), (3, 1, 1)), ((7, 7), (7, 1, 1)), ((7, 13), (7, 3, 0)), ((7, 17), (7, 4, 0)), ((7, 20), (7, 5, 0)), ((7, 23), (7, 6, 0)), ((7, 26), (7, 9, 0)), ((7, 29), (7, 16, 0)), ((7, 32), (7, 0, 1)), ((7, 35), (7, 2, 1)), ((7, 46), (7, 7, 1)), ((7, 49), (7, 8, 1)), ((7, 134), (7, 10, 1)), ((7, 137), (7, 13, 1)), ((7, 140), (7, 12, 1)), ((7, 143), (7, 15, 1)), ((7, 146), (7, 11, 1)), ((7, 156), (7, 14, 1))]
def mFok (q : mFt) : Prop := ∃ (R C : String) (T : u_T) (N : Nat), mNm[q.1.1]? = some R ∧ mCl[q.2.1]? = some (C, T, N) ∧ q.2.2.1 < N ∧ Cond.fieldLink R q.1.2 (T q.2.2.1).1 (T q.2.2.1).2.1 (T q.2.2.1).2.2.1 ∈ mTB ∧ (q.2.2.2 = 1 → (T q.2.2.1).2.2.2 = false ∧ parseFieldDescriptor (T q.2.2.1).2.2.1 = some .int) ∧ (q.2.2.2 = 2 → (T q.2.2.1).2.2.2 = false ∧ parseFieldDescriptor (T q.2.2.1).2.2.1 = some .boolean)
theorem mf_0_9 : mFok ((0, 9), (0, 0, 0)) := ⟨RX0, RX0, TX0, 2, rfl, rfl, by decide, (mTB_mem 254 (by decide +kernel) rfl), (fun h => absurd h (by decide)), (fun h => absurd h (by decide))⟩
theorem mf_0_15 : mFok ((0, 15), (0, 1, 0)) := ⟨RX0, RX0, TX0, 2, rfl, rfl, by decide, (mTB_mem 255 (by decide +kernel) rfl), (fun h => absurd h (by decide)), (fun h => absurd h (by decide))⟩
theorem mf_0_28 : mFok ((0, 28), (2, 0, 1)) := ⟨RX0, RX2, TX2, 10, rfl, rfl, by decide, (mTB_mem 97 (by decide +kernel) rfl), (fun _ => ⟨rfl, by decide +kernel⟩), (fun h => absurd h (by decide))⟩
theorem mf_0_73 : mFok ((0, 73), (2, 6, 0)) := ⟨RX0, RX2, TX2, 10, rfl, rfl, by decide, (mTB_mem 119 (by decide +kernel) rfl), (fun h => absurd h (by decide)), (fun h => absurd h (by decide))⟩
theorem mf_1_9 : mFok ((1, 9), (1, 0, 0)) := ⟨RX1, RX1, TX1, 3, rfl, rfl, by decide, (mTB_mem 267 (by decide +kernel) rfl), (fun h => absurd h (by decide)), (fun h => absurd h (by decide))⟩
theorem mf_1_15 : mFok ((1, 15), (1, 1, 0)) := ⟨RX1, RX1, TX1, 3, rfl, rfl, by decide, (mTB_mem 268 (by decide +kernel) rfl), (fun h => absurd h (by decide)), (fun h => absurd h (by decide))⟩
theorem mf_1_18 : mFok ((1, 18), (1, 2, 0)) := ⟨RX1, RX1, TX1, 3, rfl, rfl, by decide, (mTB_mem 269 (by decide +kernel) rfl), (fun h => absurd h (by decide)), (fun h => absurd h (by decide))⟩
theorem mf_1_35 : mFok ((1, 35), (2, 0, 1)) := ⟨RX1, RX2, TX2, 10, rfl, rfl, by decide, (mTB_mem 96 (by decide +kernel) rfl), (fun _ => ⟨rfl, by decide +kernel⟩), (fun h => absurd h (by decide))⟩
theorem mf_1_55 : mFok ((1, 55), (2, 2, 0)) := ⟨RX1, RX2, TX2, 10, rfl, rfl, by decide, (mTB_mem 104 (by decide +kernel) rfl), (fun h => absurd h (by decide)), (fun h => absurd h (by decide))⟩
theorem mf_2_9 : mFok ((2, 9), (2, 2, 0)) := ⟨RX2, RX2, TX2, 10, rfl, rfl, by decide, (mTB_mem 102 (by decide +kernel) rfl), (fun h => absurd h (by decide)), (fun h => absurd h (by decide))⟩
theorem mf_2_15 : mFok ((2, 15), (2, 3, 0)) := ⟨RX2, RX2, TX2, 10, rfl, rfl, by decide, (mTB_mem 106 (by decide +kernel) rfl), (fun h => absurd h (by decide)), (fun h => absurd h (by decide))⟩
theorem mf_2_18 : mFok ((2, 18), (2, 4, 0)) := ⟨RX2, RX2, TX2, 10, rfl, rfl, by decide, (mTB_mem 109 (by decide +kernel) rfl), (fun h => absurd h (by decide)), (fun h => absurd h (by decide))⟩
theorem mf_2_21 : mFok ((2, 21), (2, 5, 0)) := ⟨RX2, RX2, TX2, 10, rfl, rfl, by decide, (mTB_mem 112 (by decide +kernel) rfl), (fun h => absurd h (by decide)), (fun h => absurd h (by decide))⟩
theorem mf_2_26 : mFok ((2, 26), (2, 6, 0)) := ⟨RX2, RX2, TX2, 10, rfl, rfl, by decide, (mTB_mem 116 (by decide +kernel) rfl), (fun h => absurd h (by decide)), (fun h => absurd h (by decide))⟩
theorem mf_2_29 : mFok ((2, 29), (2, 7, 0)) := ⟨RX2, RX2, TX2, 10, rfl, rfl, by decide, (mTB_mem 120 (by decide +kernel) rfl), (fun h => absurd h (by decide)), (fun h => absurd h (by decide))⟩
theorem mf_2_32 : mFok ((2, 32), (2, 8, 0)) := ⟨RX2, RX2, TX2, 10, rfl, rfl, by decide, (mTB_mem 121 (by decide +kernel) rfl), (fun h => absurd h (by decide)), (fun h => absurd h (by decide))⟩
theorem mf_2_39 : mFok ((2, 39), (2, 0, 1)) := ⟨RX2, RX2, TX2, 10, rfl, rfl, by decide, (mTB_mem 94 (by decide +kernel) rfl), (fun _ => ⟨rfl, by decide +kernel⟩), (fun h => absurd h (by decide))⟩
theorem mf_2_43 : mFok ((2, 43), (2, 1, 1)) := ⟨RX2, RX2, TX2, 10, rfl, rfl, by decide, (mTB_mem 99 (by decide +kernel) rfl), (fun _ => ⟨rfl, by decide +kernel⟩), (fun h => absurd h (by decide))⟩
theorem mf_2_52 : mFok ((2, 52), (2, 9, 2)) := ⟨RX2, RX2, TX2, 10, rfl, rfl, by decide, (mTB_mem 122 (by decide +kernel) rfl), (fun h => absurd h (by decide)), (fun _ => ⟨rfl, by decide +kernel⟩)⟩
theorem mf_3_9 : mFok ((3, 9), (3, 0, 1)) := ⟨RX3, RX3, TX3, 2, rfl, rfl, by decide, (mTB_mem 151 (by decide +kernel) rfl), (fun _ => ⟨rfl, by decide +kernel⟩), (fun h => absurd h (by decide))⟩
theorem mf_3_15 : mFok ((3, 15), (3, 1, 1)) := ⟨RX3, RX3, TX3, 2, rfl, rfl, by decide, (mTB_mem 153 (by decide +kernel) rfl), (fun _ => ⟨rfl, by decide +kernel⟩), (fun h => absurd h (by decide))⟩
theorem mf_3_18 : mFok ((3, 18), (2, 2, 0)) := ⟨RX3, RX2, TX2, 10, rfl, rfl, by decide, (mTB_mem 103 (by decide +kernel) rfl), (fun h => absurd h (by decide)), (fun h => absurd h (by decide))⟩
theorem mf_3_24 : mFok ((3, 24), (2, 3, 0)) := ⟨RX3, RX2, TX2, 10, rfl, rfl, by decide, (mTB_mem 107 (by decide +kernel) rfl), (fun h => absurd h (by decide)), (fun h => absurd h (by decide))⟩
theorem mf_3_27 : mFok ((3, 27), (2, 5, 0)) := ⟨RX3, RX2, TX2, 10, rfl, rfl, by decide, (mTB_mem 113 (by decide +kernel) rfl), (fun h => absurd h (by decide)), (fun h => absurd h (by decide))⟩
theorem mf_3_34 : mFok ((3, 34), (2, 1, 1)) := ⟨RX3, RX2, TX2, 10, rfl, rfl, by decide, (mTB_mem 101 (by decide +kernel) rfl), (fun _ => ⟨rfl, by decide +kernel⟩), (fun h => absurd h (by decide))⟩
theorem mf_4_9 : mFok ((4, 9), (4, 7, 0)) := ⟨RX4, RX4, TX4, 8, rfl, rfl, by decide, (mTB_mem 230 (by decide +kernel) rfl), (fun h => absurd h (by decide)), (fun h => absurd h (by decide))⟩
theorem mf_4_19 : mFok ((4, 19), (4, 0, 1)) := ⟨RX4, RX4, TX4, 8, rfl, rfl, by decide, (mTB_mem 219 (by decide +kernel) rfl), (fun _ => ⟨rfl, by decide +kernel⟩), (fun h => absurd h (by decide))⟩
theorem mf_4_23 : mFok ((4, 23), (4, 4, 1)) := ⟨RX4, RX4, TX4, 8, rfl, rfl, by decide, (mTB_mem 227 (by decide +kernel) rfl), (fun _ => ⟨rfl, by decide +kernel⟩), (fun h => absurd h (by decide))⟩
theorem mf_4_26 : mFok ((4, 26), (4, 5, 1)) := ⟨RX4, RX4, TX4, 8, rfl, rfl, by decide, (mTB_mem 228 (by decide +kernel) rfl), (fun _ => ⟨rfl, by decide +kernel⟩), (fun h => absurd h (by decide))⟩
theorem mf_4_35 : mFok ((4, 35), (4, 3, 1)) := ⟨RX4, RX4, TX4, 8, rfl, rfl, by decide, (mTB_mem 225 (by decide +kernel) rfl), (fun _ => ⟨rfl, by decide +kernel⟩), (fun h => absurd h (by decide))⟩
theorem mf_4_50 : mFok ((4, 50), (4, 1, 1)) := ⟨RX4, RX4, TX4, 8, rfl, rfl, by decide, (mTB_mem 221 (by decide +kernel) rfl), (fun _ => ⟨rfl, by decide +kernel⟩), (fun h => absurd h (by decide))⟩
theorem mf_4_53 : mFok ((4, 53), (4, 2, 1)) := ⟨RX4, RX4, TX4, 8, rfl, rfl, by decide, (mTB_mem 223 (by decide +kernel) rfl), (fun _ => ⟨rfl, by decide +kernel⟩), (fun h => absurd h (by decide))⟩
theorem mf_4_56 : mFok ((4, 56), (4, 6, 1)) := ⟨RX4, RX4, TX4, 8, rfl, rfl, by decide, (mTB_mem 229 (by decide +kernel) rfl), (fun _ => ⟨rfl, by decide +kernel⟩), (fun h => absurd h (by decide))⟩
theorem mf_4_79 : mFok ((4, 79), (5, 11, 1)) := ⟨RX4, RX5, TX5, 14, rfl, rfl, by decide, (mTB_mem 177 (by decide +kernel) rfl), (fun _ => ⟨rfl, by decide +kernel⟩), (fun h => absurd h (by decide))⟩
theorem mf_4_85 : mFok ((4, 85), (5, 13, 1)) := ⟨RX4, RX5, TX5, 14, rfl, rfl, by decide, (mTB_mem 181 (by decide +kernel) rfl), (fun _ => ⟨rfl, by decide +kernel⟩), (fun h => absurd h (by decide))⟩
theorem mf_5_18 : mFok ((5, 18), (5, 0, 1)) := ⟨RX5, RX5, TX5, 14, rfl, rfl, by decide, (mTB_mem 166 (by decide +kernel) rfl), (fun _ => ⟨rfl, by decide +kernel⟩), (fun h => absurd h (by decide))⟩
theorem mf_5_24 : mFok ((5, 24), (5, 1, 1)) := ⟨RX5, RX5, TX5, 14, rfl, rfl, by decide, (mTB_mem 167 (by decide +kernel) rfl), (fun _ => ⟨rfl, by decide +kernel⟩), (fun h => absurd h (by decide))⟩
theorem mf_5_27 : mFok ((5, 27), (5, 2, 1)) := ⟨RX5, RX5, TX5, 14, rfl, rfl, by decide, (mTB_mem 168 (by decide +kernel) rfl), (fun _ => ⟨rfl, by decide +kernel⟩), (fun h => absurd h (by decide))⟩
theorem mf_5_30 : mFok ((5, 30), (5, 3, 1)) := ⟨RX5, RX5, TX5, 14, rfl, rfl, by decide, (mTB_mem 169 (by decide +kernel) rfl), (fun _ => ⟨rfl, by decide +kernel⟩), (fun h => absurd h (by decide))⟩
theorem mf_5_33 : mFok ((5, 33), (2, 4, 0)) := ⟨RX5, RX2, TX2, 10, rfl, rfl, by decide, (mTB_mem 110 (by decide +kernel) rfl), (fun h => absurd h (by decide)), (fun h => absurd h (by decide))⟩
theorem mf_5_37 : mFok ((5, 37), (5, 4, 1)) := ⟨RX5, RX5, TX5, 14, rfl, rfl, by decide, (mTB_mem 170 (by decide +kernel) rfl), (fun _ => ⟨rfl, by decide +kernel⟩), (fun h => absurd h (by decide))⟩
theorem mf_5_43 : mFok ((5, 43), (2, 0, 1)) := ⟨RX5, RX2, TX2, 10, rfl, rfl, by decide, (mTB_mem 95 (by decide +kernel) rfl), (fun _ => ⟨rfl, by decide +kernel⟩), (fun h => absurd h (by decide))⟩
theorem mf_5_46 : mFok ((5, 46), (2, 6, 0)) := ⟨RX5, RX2, TX2, 10, rfl, rfl, by decide, (mTB_mem 117 (by decide +kernel) rfl), (fun h => absurd h (by decide)), (fun h => absurd h (by decide))⟩
theorem mf_5_51 : mFok ((5, 51), (5, 5, 1)) := ⟨RX5, RX5, TX5, 14, rfl, rfl, by decide, (mTB_mem 171 (by decide +kernel) rfl), (fun _ => ⟨rfl, by decide +kernel⟩), (fun h => absurd h (by decide))⟩
theorem mf_5_58 : mFok ((5, 58), (5, 6, 1)) := ⟨RX5, RX5, TX5, 14, rfl, rfl, by decide, (mTB_mem 172 (by decide +kernel) rfl), (fun _ => ⟨rfl, by decide +kernel⟩), (fun h => absurd h (by decide))⟩
theorem mf_5_61 : mFok ((5, 61), (5, 7, 1)) := ⟨RX5, RX5, TX5, 14, rfl, rfl, by decide, (mTB_mem 173 (by decide +kernel) rfl), (fun _ => ⟨rfl, by decide +kernel⟩), (fun h => absurd h (by decide))⟩
theorem mf_5_64 : mFok ((5, 64), (5, 8, 1)) := ⟨RX5, RX5, TX5, 14, rfl, rfl, by decide, (mTB_mem 174 (by decide +kernel) rfl), (fun _ => ⟨rfl, by decide +kernel⟩), (fun h => absurd h (by decide))⟩
theorem mf_5_67 : mFok ((5, 67), (5, 9, 1)) := ⟨RX5, RX5, TX5, 14, rfl, rfl, by decide, (mTB_mem 175 (by decide +kernel) rfl), (fun _ => ⟨rfl, by decide +kernel⟩), (fun h => absurd h (by decide))⟩
theorem mf_5_70 : mFok ((5, 70), (5, 10, 1)) := ⟨RX5, RX5, TX5, 14, rfl, rfl, by decide, (mTB_mem 176 (by decide +kernel) rfl), (fun _ => ⟨rfl, by decide +kernel⟩), (fun h => absurd h (by decide))⟩
theorem mf_5_73 : mFok ((5, 73), (2, 5, 0)) := ⟨RX5, RX2, TX2, 10, rfl, rfl, by decide, (mTB_mem 114 (by decide +kernel) rfl), (fun h => absurd h (by decide)), (fun h => absurd h (by decide))⟩
theorem mf_5_98 : mFok ((5, 98), (5, 12, 1)) := ⟨RX5, RX5, TX5, 14, rfl, rfl, by decide, (mTB_mem 179 (by decide +kernel) rfl), (fun _ => ⟨rfl, by decide +kernel⟩), (fun h => absurd h (by decide))⟩
theorem mf_5_101 : mFok ((5, 101), (5, 13, 1)) := ⟨RX5, RX5, TX5, 14, rfl, rfl, by decide, (mTB_mem 182 (by decide +kernel) rfl), (fun _ => ⟨rfl, by decide +kernel⟩), (fun h => absurd h (by decide))⟩
theorem mf_5_104 : mFok ((5, 104), (5, 11, 1)) := ⟨RX5, RX5, TX5, 14, rfl, rfl, by decide, (mTB_mem 178 (by decide +kernel) rfl), (fun _ => ⟨rfl, by decide +kernel⟩), (fun h => absurd h (by decide))⟩
theorem mf_6_10 : mFok ((6, 10), (6, 0, 0)) := ⟨RX6, RX6, TX6, 6, rfl, rfl, by decide, (mTB_mem 277 (by decide +kernel) rfl), (fun h => absurd h (by decide)), (fun h => absurd h (by decide))⟩
theorem mf_6_19 : mFok ((6, 19), (6, 1, 0)) := ⟨RX6, RX6, TX6, 6, rfl, rfl, by decide, (mTB_mem 278 (by decide +kernel) rfl), (fun h => absurd h (by decide)), (fun h => absurd h (by decide))⟩
theorem mf_6_26 : mFok ((6, 26), (6, 2, 0)) := ⟨RX6, RX6, TX6, 6, rfl, rfl, by decide, (mTB_mem 279 (by decide +kernel) rfl), (fun h => absurd h (by decide)), (fun h => absurd h (by decide))⟩
theorem mf_6_33 : mFok ((6, 33), (6, 3, 0)) := ⟨RX6, RX6, TX6, 6, rfl, rfl, by decide, (mTB_mem 280 (by decide +kernel) rfl), (fun h => absurd h (by decide)), (fun h => absurd h (by decide))⟩
theorem mf_6_40 : mFok ((6, 40), (6, 4, 0)) := ⟨RX6, RX6, TX6, 6, rfl, rfl, by decide, (mTB_mem 281 (by decide +kernel) rfl), (fun h => absurd h (by decide)), (fun h => absurd h (by decide))⟩
theorem mf_6_47 : mFok ((6, 47), (6, 5, 0)) := ⟨RX6, RX6, TX6, 6, rfl, rfl, by decide, (mTB_mem 282 (by decide +kernel) rfl), (fun h => absurd h (by decide)), (fun h => absurd h (by decide))⟩
theorem mf_6_51 : mFok ((6, 51), (2, 1, 1)) := ⟨RX6, RX2, TX2, 10, rfl, rfl, by decide, (mTB_mem 100 (by decide +kernel) rfl), (fun _ => ⟨rfl, by decide +kernel⟩), (fun h => absurd h (by decide))⟩
theorem mf_6_82 : mFok ((6, 82), (2, 4, 0)) := ⟨RX6, RX2, TX2, 10, rfl, rfl, by decide, (mTB_mem 111 (by decide +kernel) rfl), (fun h => absurd h (by decide)), (fun h => absurd h (by decide))⟩
theorem mf_6_89 : mFok ((6, 89), (2, 5, 0)) := ⟨RX6, RX2, TX2, 10, rfl, rfl, by decide, (mTB_mem 115 (by decide +kernel) rfl), (fun h => absurd h (by decide)), (fun h => absurd h (by decide))⟩
theorem mf_6_95 : mFok ((6, 95), (2, 2, 0)) := ⟨RX6, RX2, TX2, 10, rfl, rfl, by decide, (mTB_mem 105 (by decide +kernel) rfl), (fun h => absurd h (by decide)), (fun h => absurd h (by decide))⟩
theorem mf_6_98 : mFok ((6, 98), (2, 3, 0)) := ⟨RX6, RX2, TX2, 10, rfl, rfl, by decide, (mTB_mem 108 (by decide +kernel) rfl), (fun h => absurd h (by decide)), (fun h => absurd h (by decide))⟩
theorem mf_6_115 : mFok ((6, 115), (2, 6, 0)) := ⟨RX6, RX2, TX2, 10, rfl, rfl, by decide, (mTB_mem 118 (by decide +kernel) rfl), (fun h => absurd h (by decide)), (fun h => absurd h (by decide))⟩
theorem mf_6_158 : mFok ((6, 158), (5, 12, 1)) := ⟨RX6, RX5, TX5, 14, rfl, rfl, by decide, (mTB_mem 180 (by decide +kernel) rfl), (fun _ => ⟨rfl, by decide +kernel⟩), (fun h => absurd h (by decide))⟩
theorem mf_6_161 : mFok ((6, 161), (5, 13, 1)) := ⟨RX6, RX5, TX5, 14, rfl, rfl, by decide, (mTB_mem 183 (by decide +kernel) rfl), (fun _ => ⟨rfl, by decide +kernel⟩), (fun h => absurd h (by decide))⟩
theorem mf_6_177 : mFok ((6, 177), (4, 0, 1)) := ⟨RX6, RX4, TX4, 8, rfl, rfl, by decide, (mTB_mem 220 (by decide +kernel) rfl), (fun _ => ⟨rfl, by decide +kernel⟩), (fun h => absurd h (by decide))⟩
theorem mf_6_180 : mFok ((6, 180), (4, 1, 1)) := ⟨RX6, RX4, TX4, 8, rfl, rfl, by decide, (mTB_mem 222 (by decide +kernel) rfl), (fun _ => ⟨rfl, by decide +kernel⟩), (fun h => absurd h (by decide))⟩
theorem mf_6_183 : mFok ((6, 183), (4, 3, 1)) := ⟨RX6, RX4, TX4, 8, rfl, rfl, by decide, (mTB_mem 226 (by decide +kernel) rfl), (fun _ => ⟨rfl, by decide +kernel⟩), (fun h => absurd h (by decide))⟩
theorem mf_6_186 : mFok ((6, 186), (4, 2, 1)) := ⟨RX6, RX4, TX4, 8, rfl, rfl, by decide, (mTB_mem 224 (by decide +kernel) rfl), (fun _ => ⟨rfl, by decide +kernel⟩), (fun h => absurd h (by decide))⟩
theorem mf_6_212 : mFok ((6, 212), (2, 0, 1)) := ⟨RX6, RX2, TX2, 10, rfl, rfl, by decide, (mTB_mem 98 (by decide +kernel) rfl), (fun _ => ⟨rfl, by decide +kernel⟩), (fun h => absurd h (by decide))⟩
theorem mf_6_231 : mFok ((6, 231), (3, 0, 1)) := ⟨RX6, RX3, TX3, 2, rfl, rfl, by decide, (mTB_mem 152 (by decide +kernel) rfl), (fun _ => ⟨rfl, by decide +kernel⟩), (fun h => absurd h (by decide))⟩
theorem mf_6_234 : mFok ((6, 234), (3, 1, 1)) := ⟨RX6, RX3, TX3, 2, rfl, rfl, by decide, (mTB_mem 154 (by decide +kernel) rfl), (fun _ => ⟨rfl, by decide +kernel⟩), (fun h => absurd h (by decide))⟩
theorem mf_7_7 : mFok ((7, 7), (7, 1, 1)) := ⟨RX7, RX7, TX7, 17, rfl, rfl, by decide, (mTB_mem 783 (by decide +kernel) rfl), (fun _ => ⟨rfl, by decide +kernel⟩), (fun h => absurd h (by decide))⟩
theorem mf_7_13 : mFok ((7, 13), (7, 3, 0)) := ⟨RX7, RX7, TX7, 17, rfl, rfl, by decide, (mTB_mem 785 (by decide +kernel) rfl), (fun h => absurd h (by decide)), (fun h => absurd h (by decide))⟩
theorem mf_7_17 : mFok ((7, 17), (7, 4, 0)) := ⟨RX7, RX7, TX7, 17, rfl, rfl, by decide, (mTB_mem 786 (by decide +kernel) rfl), (fun h => absurd h (by decide)), (fun h => absurd h (by decide))⟩
theorem mf_7_20 : mFok ((7, 20), (7, 5, 0)) := ⟨RX7, RX7, TX7, 17, rfl, rfl, by decide, (mTB_mem 787 (by decide +kernel) rfl), (fun h => absurd h (by decide)), (fun h => absurd h (by decide))⟩
theorem mf_7_23 : mFok ((7, 23), (7, 6, 0)) := ⟨RX7, RX7, TX7, 17, rfl, rfl, by decide, (mTB_mem 788 (by decide +kernel) rfl), (fun h => absurd h (by decide)), (fun h => absurd h (by decide))⟩
theorem mf_7_26 : mFok ((7, 26), (7, 9, 0)) := ⟨RX7, RX7, TX7, 17, rfl, rfl, by decide, (mTB_mem 791 (by decide +kernel) rfl), (fun h => absurd h (by decide)), (fun h => absurd h (by decide))⟩
theorem mf_7_29 : mFok ((7, 29), (7, 16, 0)) := ⟨RX7, RX7, TX7, 17, rfl, rfl, by decide, (mTB_mem 798 (by decide +kernel) rfl), (fun h => absurd h (by decide)), (fun h => absurd h (by decide))⟩
theorem mf_7_32 : mFok ((7, 32), (7, 0, 1)) := ⟨RX7, RX7, TX7, 17, rfl, rfl, by decide, (mTB_mem 782 (by decide +kernel) rfl), (fun _ => ⟨rfl, by decide +kernel⟩), (fun h => absurd h (by decide))⟩
theorem mf_7_35 : mFok ((7, 35), (7, 2, 1)) := ⟨RX7, RX7, TX7, 17, rfl, rfl, by decide, (mTB_mem 784 (by decide +kernel) rfl), (fun _ => ⟨rfl, by decide +kernel⟩), (fun h => absurd h (by decide))⟩
theorem mf_7_46 : mFok ((7, 46), (7, 7, 1)) := ⟨RX7, RX7, TX7, 17, rfl, rfl, by decide, (mTB_mem 789 (by decide +kernel) rfl), (fun _ => ⟨rfl, by decide +kernel⟩), (fun h => absurd h (by decide))⟩
theorem mf_7_49 : mFok ((7, 49), (7, 8, 1)) := ⟨RX7, RX7, TX7, 17, rfl, rfl, by decide, (mTB_mem 790 (by decide +kernel) rfl), (fun _ => ⟨rfl, by decide +kernel⟩), (fun h => absurd h (by decide))⟩
theorem mf_7_134 : mFok ((7, 134), (7, 10, 1)) := ⟨RX7, RX7, TX7, 17, rfl, rfl, by decide, (mTB_mem 792 (by decide +kernel) rfl), (fun _ => ⟨rfl, by decide +kernel⟩), (fun h => absurd h (by decide))⟩
theorem mf_7_137 : mFok ((7, 137), (7, 13, 1)) := ⟨RX7, RX7, TX7, 17, rfl, rfl, by decide, (mTB_mem 795 (by decide +kernel) rfl), (fun _ => ⟨rfl, by decide +kernel⟩), (fun h => absurd h (by decide))⟩
theorem mf_7_140 : mFok ((7, 140), (7, 12, 1)) := ⟨RX7, RX7, TX7, 17, rfl, rfl, by decide, (mTB_mem 794 (by decide +kernel) rfl), (fun _ => ⟨rfl, by decide +kernel⟩), (fun h => absurd h (by decide))⟩
theorem mf_7_143 : mFok ((7, 143), (7, 15, 1)) := ⟨RX7, RX7, TX7, 17, rfl, rfl, by decide, (mTB_mem 797 (by decide +kernel) rfl), (fun _ => ⟨rfl, by decide +kernel⟩), (fun h => absurd h (by decide))⟩
theorem mf_7_146 : mFok ((7, 146), (7, 11, 1)) := ⟨RX7, RX7, TX7, 17, rfl, rfl, by decide, (mTB_mem 793 (by decide +kernel) rfl), (fun _ => ⟨rfl, by decide +kernel⟩), (fun h => absurd h (by decide))⟩
theorem mf_7_156 : mFok ((7, 156), (7, 14, 1)) := ⟨RX7, RX7, TX7, 17, rfl, rfl, by decide, (mTB_mem 796 (by decide +kernel) rfl), (fun _ => ⟨rfl, by decide +kernel⟩), (fun h => absurd h (by decide))⟩
theorem mF_ok : ∀ q ∈ mF, mFok q := List.forall_mem_cons.mpr ⟨mf_0_9, List.forall_mem_cons.mpr ⟨mf_0_15, List.forall_mem_cons.mpr ⟨mf_0_28, List.forall_mem_cons.mpr ⟨mf_0_73, List.forall_mem_cons.mpr ⟨mf_1_9, List.forall_mem_cons.mpr ⟨mf_1_15, List.forall_mem_cons.mpr ⟨mf_1_18, List.forall_mem_cons.mpr ⟨mf_1_35, List.forall_mem_cons.mpr ⟨mf_1_55, List.forall_mem_cons.mpr ⟨mf_2_9, List.forall_mem_cons.mpr ⟨mf_2_15, List.forall_mem_cons.mpr ⟨mf_2_18, List.forall_mem_cons.mpr ⟨mf_2_21, List.forall_mem_cons.mpr ⟨mf_2_26, List.forall_mem_cons.mpr ⟨mf_2_29, List.forall_mem_cons.mpr ⟨mf_2_32, List.forall_mem_cons.mpr ⟨mf_2_39, List.forall_mem_cons.mpr ⟨mf_2_43, List.forall_mem_cons.mpr ⟨mf_2_52, List.forall_mem_cons.mpr ⟨mf_3_9, List.forall_mem_cons.mpr ⟨mf_3_15, List.forall_mem_cons.mpr ⟨mf_3_18, List.forall_mem_cons.mpr ⟨mf_3_24, List.forall_mem_cons.mpr ⟨mf_3_27, List.forall_mem_cons.mpr ⟨mf_3_34, List.forall_mem_cons.mpr ⟨mf_4_9, List.forall_mem_cons.mpr ⟨mf_4_19, List.forall_mem_cons.mpr ⟨mf_4_23, List.forall_mem_cons.mpr ⟨mf_4_26, List.forall_mem_cons.mpr ⟨mf_4_35, List.forall_mem_cons.mpr ⟨mf_4_50, List.forall_mem_cons.mpr ⟨mf_4_53, List.forall_mem_cons.mpr ⟨mf_4_56, List.forall_mem_cons.mpr ⟨mf_4_79, List.forall_mem_cons.mpr ⟨mf_4_85, List.forall_mem_cons.mpr ⟨mf_5_18, List.forall_mem_cons.mpr ⟨mf_5_24, List.forall_mem_cons.mpr ⟨mf_5_27, List.forall_mem_cons.mpr ⟨mf_5_30, List.forall_mem_cons.mpr ⟨mf_5_33, List.forall_mem_cons.mpr ⟨mf_5_37, List.forall_mem_cons.mpr ⟨mf_5_43, List.forall_mem_cons.mpr ⟨mf_5_46, List.forall_mem_cons.mpr ⟨mf_5_51, List.forall_mem_cons.mpr ⟨mf_5_58, List.forall_mem_cons.mpr ⟨mf_5_61, List.forall_mem_cons.mpr ⟨mf_5_64, List.forall_mem_cons.mpr ⟨mf_5_67, List.forall_mem_cons.mpr ⟨mf_5_70, List.forall_mem_cons.mpr ⟨mf_5_73, List.forall_mem_cons.mpr ⟨mf_5_98, List.forall_mem_cons.mpr ⟨mf_5_101, List.forall_mem_cons.mpr ⟨mf_5_104, List.forall_mem_cons.mpr ⟨mf_6_10, List.forall_mem_cons.mpr ⟨mf_6_19, List.forall_mem_cons.mpr ⟨mf_6_26, List.forall_mem_cons.mpr ⟨mf_6_33, List.forall_mem_cons.mpr ⟨mf_6_40, List.forall_mem_cons.mpr ⟨mf_6_47, List.forall_mem_cons.mpr ⟨mf_6_51, List.forall_mem_cons.mpr ⟨mf_6_82, List.forall_mem_cons.mpr ⟨mf_6_89, List.forall_mem_cons.mpr ⟨mf_6_95, List.forall_mem_cons.mpr ⟨mf_6_98, List.forall_mem_cons.mpr ⟨mf_6_115, List.forall_mem_cons.mpr ⟨mf_6_158, List.forall_mem_cons.mpr ⟨mf_6_161, List.forall_mem_cons.mpr ⟨mf_6_177, List.forall_mem_cons.mpr ⟨mf_6_180, List.forall_mem_cons.mpr ⟨mf_6_183, List.forall_mem_cons.mpr ⟨mf_6_186, List.forall_mem_cons.mpr ⟨mf_6_212, List.forall_mem_cons.mpr ⟨mf_6_231, List.forall_mem_cons.mpr ⟨mf_6_234, List.forall_mem_cons.mpr ⟨mf_7_7, List.forall_mem_cons.mpr ⟨mf_7_13, List.forall_mem_cons.mpr ⟨mf_7_17, List.forall_mem_cons.mpr ⟨mf_7_20, List.forall_mem_cons.mpr ⟨mf_7_23, List.forall_mem_cons.mpr ⟨mf_7_26, List.forall_mem_cons.mpr ⟨mf_7_29, List.forall_mem_cons.mpr ⟨mf_7_32, List.forall_mem_cons.mpr ⟨mf_7_35, List.forall_mem_cons.mpr ⟨mf_7_46, List.forall_mem_cons.mpr ⟨mf_7_49, List.forall_mem_cons.mpr ⟨mf_7_134, List.forall_mem_cons.mpr ⟨mf_7_137, List.forall_mem_cons.mpr ⟨mf_7_140, List.forall_mem_cons.mpr ⟨mf_7_143, List.forall_mem_cons.mpr ⟨mf_7_146, List.forall_mem_cons.mpr ⟨mf_7_156, fun _ h => absurd h List.not_mem_nil⟩⟩⟩⟩⟩⟩⟩⟩⟩⟩⟩⟩⟩⟩⟩⟩⟩⟩⟩⟩⟩⟩⟩⟩⟩⟩⟩⟩⟩⟩⟩⟩⟩⟩⟩⟩⟩⟩⟩⟩⟩⟩⟩⟩⟩⟩⟩⟩⟩⟩⟩⟩⟩⟩⟩⟩⟩⟩⟩⟩⟩⟩⟩⟩⟩⟩⟩⟩⟩⟩⟩⟩⟩⟩⟩⟩⟩⟩⟩⟩⟩⟩⟩⟩⟩⟩⟩⟩⟩⟩⟩
abbrev mCt : Type := (Nat × Nat) × Int32
def mC : List mCt := [((0, 77), 1000000), ((2, 64), 1000000), ((5, 50), 1000000), ((6, 227), 1000000), ((7, 67), 1000000), ((7, 105), 100000), ((7, 106), 50000), ((8, 265), 1431655765), ((8, 266), 858993459), ((8, 267), 252645135)]
def mCok (q : mCt) : Prop := ∃ R : String, mNm[q.1.1]? = some R ∧ Cond.constant R q.1.2 q.2 ∈ mTB
theorem mc_0_77 : mCok ((0, 77), 1000000) := ⟨RX0, rfl, (mTB_mem 683 (by decide +kernel) rfl)⟩
theorem mc_2_64 : mCok ((2, 64), 1000000) := ⟨RX2, rfl, (mTB_mem 372 (by decide +kernel) rfl)⟩
theorem mc_5_50 : mCok ((5, 50), 1000000) := ⟨RX5, rfl, (mTB_mem 435 (by decide +kernel) rfl)⟩
theorem mc_6_227 : mCok ((6, 227), 1000000) := ⟨RX6, rfl, (mTB_mem 415 (by decide +kernel) rfl)⟩
theorem mc_7_67 : mCok ((7, 67), 1000000) := ⟨RX7, rfl, (mTB_mem 900 (by decide +kernel) rfl)⟩
theorem mc_7_105 : mCok ((7, 105), 100000) := ⟨RX7, rfl, (mTB_mem 963 (by decide +kernel) rfl)⟩
theorem mc_7_106 : mCok ((7, 106), 50000) := ⟨RX7, rfl, (mTB_mem 964 (by decide +kernel) rfl)⟩
theorem mc_8_265 : mCok ((8, 265), 1431655765) := ⟨RJ6, rfl, (mTB_mem 401 (by decide +kernel) rfl)⟩
theorem mc_8_266 : mCok ((8, 266), 858993459) := ⟨RJ6, rfl, (mTB_mem 402 (by decide +kernel) rfl)⟩
theorem mc_8_267 : mCok ((8, 267), 252645135) := ⟨RJ6, rfl, (mTB_mem 403 (by decide +kernel) rfl)⟩
theorem mC_ok : ∀ q ∈ mC, mCok q := List.forall_mem_cons.mpr ⟨mc_0_77, List.forall_mem_cons.mpr ⟨mc_2_64, List.forall_mem_cons.mpr ⟨mc_5_50, List.forall_mem_cons.mpr ⟨mc_6_227, List.forall_mem_cons.mpr ⟨mc_7_67, List.forall_mem_cons.mpr ⟨mc_7_105, List.forall_mem_cons.mpr ⟨mc_7_106, List.forall_mem_cons.mpr ⟨mc_8_265, List.forall_mem_cons.mpr ⟨mc_8_266, List.forall_mem_cons.mpr ⟨mc_8_267, fun _ h => absurd h List.not_mem_nil⟩⟩⟩⟩⟩⟩⟩⟩⟩⟩
