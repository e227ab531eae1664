set_option maxRecDepth 100000 in
theorem kX0_init : px_chk mX0_init = true := by decide +kernel
set_option maxRecDepth 100000 in
theorem kX0_add : px_chk mX0_add = true := by decide +kernel
set_option maxRecDepth 100000 in
theorem kX0_size : px_chk mX0_size = true := by decide +kernel
set_option maxRecDepth 100000 in
theorem kX0_clear : px_chk mX0_clear = true := by decide +kernel
set_option maxRecDepth 100000 in
theorem kX0_fill : px_chk mX0_fill = true := by decide +kernel
set_option maxRecDepth 100000 in
theorem kX0_runs : px_chk mX0_runs = true := by decide +kernel
set_option maxRecDepth 100000 in
theorem kX1_init : px_chk mX1_init = true := by decide +kernel
set_option maxRecDepth 100000 in
theorem kX1_add : px_chk mX1_add = true := by decide +kernel
set_option maxRecDepth 100000 in
theorem kX1_size : px_chk mX1_size = true := by decide +kernel
set_option maxRecDepth 100000 in
theorem kX1_clear : px_chk mX1_clear = true := by decide +kernel
set_option maxRecDepth 100000 in
theorem kX1_opAt : px_chk mX1_opAt = true := by decide +kernel
set_option maxRecDepth 100000 in
theorem kX1_number : px_chk mX1_number = true := by decide +kernel
set_option maxRecDepth 100000 in
theorem kX2_init : px_chk mX2_init = true := by decide +kernel
set_option maxRecDepth 100000 in
theorem kX2_relate : px_chk mX2_relate = true := by decide +kernel
set_option maxRecDepth 100000 in
theorem kX2_pairBehind : px_chk mX2_pairBehind = true := by decide +kernel
set_option maxRecDepth 100000 in
theorem kX2_reach : px_chk mX2_reach = true := by decide +kernel
set_option maxRecDepth 100000 in
theorem kX2_tellRow : px_chk mX2_tellRow = true := by decide +kernel
set_option maxRecDepth 100000 in
theorem kX2_eventOfRow : px_chk mX2_eventOfRow = true := by decide +kernel
set_option maxRecDepth 100000 in
theorem kX3_init : px_chk mX3_init = true := by decide +kernel
set_option maxRecDepth 100000 in
theorem kX3_clear : px_chk mX3_clear = true := by decide +kernel
set_option maxRecDepth 100000 in
theorem kX3_size : px_chk mX3_size = true := by decide +kernel
set_option maxRecDepth 100000 in
theorem kX3_add : px_chk mX3_add = true := by decide +kernel
set_option maxRecDepth 100000 in
theorem kX3_lead : px_chk mX3_lead = true := by decide +kernel
set_option maxRecDepth 100000 in
theorem kX3_least : px_chk mX3_least = true := by decide +kernel
set_option maxRecDepth 100000 in
theorem kX3_refine : px_chk mX3_refine = true := by decide +kernel
set_option maxRecDepth 100000 in
theorem kX3_groupLike : px_chk mX3_groupLike = true := by decide +kernel
set_option maxRecDepth 100000 in
theorem kX3_alike : px_chk mX3_alike = true := by decide +kernel
set_option maxRecDepth 100000 in
theorem kX3_groupBehind : px_chk mX3_groupBehind = true := by decide +kernel
set_option maxRecDepth 100000 in
theorem kX3_numbered : px_chk mX3_numbered = true := by decide +kernel
set_option maxRecDepth 100000 in
theorem kX4_init : px_chk mX4_init = true := by decide +kernel
set_option maxRecDepth 100000 in
theorem kX4_begin : px_chk mX4_begin = true := by decide +kernel
set_option maxRecDepth 100000 in
theorem kX4_breaks : px_chk mX4_breaks = true := by decide +kernel
set_option maxRecDepth 100000 in
theorem kX4_runOnce : px_chk mX4_runOnce = true := by decide +kernel
set_option maxRecDepth 100000 in
theorem kX4_perform : px_chk mX4_perform = true := by decide +kernel
set_option maxRecDepth 100000 in
theorem kX4_moveObjects : px_chk mX4_moveObjects = true := by decide +kernel
set_option maxRecDepth 100000 in
theorem kX4_drawNumber : px_chk mX4_drawNumber = true := by decide +kernel
set_option maxRecDepth 100000 in
theorem kX4_drawFromBag : px_chk mX4_drawFromBag = true := by decide +kernel
set_option maxRecDepth 100000 in
theorem kX4_putIntoBag : px_chk mX4_putIntoBag = true := by decide +kernel
set_option maxRecDepth 100000 in
theorem kX4_make : px_chk mX4_make = true := by decide +kernel
set_option maxRecDepth 100000 in
theorem kX4_makeFrom : px_chk mX4_makeFrom = true := by decide +kernel
set_option maxRecDepth 100000 in
theorem kX4_call : px_chk mX4_call = true := by decide +kernel
set_option maxRecDepth 100000 in
theorem kX4_isWatched : px_chk mX4_isWatched = true := by decide +kernel
set_option maxRecDepth 100000 in
theorem kX4_takeEvent : px_chk mX4_takeEvent = true := by decide +kernel
set_option maxRecDepth 100000 in
theorem kX4_endRun : px_chk mX4_endRun = true := by decide +kernel
set_option maxRecDepth 100000 in
theorem kX5_init : px_chk mX5_init = true := by decide +kernel
set_option maxRecDepth 100000 in
theorem kX5_explore : px_chk mX5_explore = true := by decide +kernel
set_option maxRecDepth 100000 in
theorem kX5_expand : px_chk mX5_expand = true := by decide +kernel
set_option maxRecDepth 100000 in
theorem kX5_moveObjects : px_chk mX5_moveObjects = true := by decide +kernel
set_option maxRecDepth 100000 in
theorem kX5_go : px_chk mX5_go = true := by decide +kernel
set_option maxRecDepth 100000 in
theorem kX5_makeFrom : px_chk mX5_makeFrom = true := by decide +kernel
set_option maxRecDepth 100000 in
theorem kX5_make : px_chk mX5_make = true := by decide +kernel
set_option maxRecDepth 100000 in
theorem kX5_canBeChosen : px_chk mX5_canBeChosen = true := by decide +kernel
set_option maxRecDepth 100000 in
theorem kX5_call : px_chk mX5_call = true := by decide +kernel
set_option maxRecDepth 100000 in
theorem kX5_takeEvent : px_chk mX5_takeEvent = true := by decide +kernel
set_option maxRecDepth 100000 in
theorem kX5_get : px_chk mX5_get = true := by decide +kernel
set_option maxRecDepth 100000 in
theorem kX5_endRun : px_chk mX5_endRun = true := by decide +kernel
set_option maxRecDepth 100000 in
theorem kX6_init : px_chk mX6_init = true := by decide +kernel
set_option maxRecDepth 100000 in
theorem kX6_leads : px_chk mX6_leads = true := by decide +kernel
set_option maxRecDepth 100000 in
theorem kX6_isEnd : px_chk mX6_isEnd = true := by decide +kernel
set_option maxRecDepth 100000 in
theorem kX7_init : px_chk mX7_init = true := by decide +kernel
set_option maxRecDepth 100000 in
theorem kX7_becomeNothing : px_chk mX7_becomeNothing = true := by decide +kernel
set_option maxRecDepth 100000 in
theorem kX7_becomeEmpty : px_chk mX7_becomeEmpty = true := by decide +kernel
set_option maxRecDepth 100000 in
theorem kX7_becomePlace : px_chk mX7_becomePlace = true := by decide +kernel
set_option maxRecDepth 100000 in
theorem kX7_become : px_chk mX7_become = true := by decide +kernel
set_option maxRecDepth 100000 in
theorem kX7_join : px_chk mX7_join = true := by decide +kernel
set_option maxRecDepth 100000 in
theorem kX7_append : px_chk mX7_append = true := by decide +kernel
set_option maxRecDepth 100000 in
theorem kX7_endsAt : px_chk mX7_endsAt = true := by decide +kernel
set_option maxRecDepth 100000 in
theorem kX7_endsIn : px_chk mX7_endsIn = true := by decide +kernel
set_option maxRecDepth 100000 in
theorem kX8_init : px_chk mX8_init = true := by decide +kernel
set_option maxRecDepth 100000 in
theorem kX8_parse : px_chk mX8_parse = true := by decide +kernel
set_option maxRecDepth 100000 in
theorem kX8_take : px_chk mX8_take = true := by decide +kernel
set_option maxRecDepth 100000 in
theorem kX8_takeOpening : px_chk mX8_takeOpening = true := by decide +kernel
set_option maxRecDepth 100000 in
theorem kX8_takeClosing : px_chk mX8_takeClosing = true := by decide +kernel
set_option maxRecDepth 100000 in
theorem kX8_takeOwnerMark : px_chk mX8_takeOwnerMark = true := by decide +kernel
set_option maxRecDepth 100000 in
theorem kX8_takeRepeat : px_chk mX8_takeRepeat = true := by decide +kernel
set_option maxRecDepth 100000 in
theorem kX8_takePlace : px_chk mX8_takePlace = true := by decide +kernel
set_option maxRecDepth 100000 in
theorem kX8_beginAlt : px_chk mX8_beginAlt = true := by decide +kernel
set_option maxRecDepth 100000 in
theorem kX8_endPiece : px_chk mX8_endPiece = true := by decide +kernel
set_option maxRecDepth 100000 in
theorem kX8_link : px_chk mX8_link = true := by decide +kernel
set_option maxRecDepth 100000 in
theorem kX8_fill : px_chk mX8_fill = true := by decide +kernel
set_option maxRecDepth 100000 in
theorem kX8_sortPlaces : px_chk mX8_sortPlaces = true := by decide +kernel
set_option maxRecDepth 100000 in
theorem kX8_reachFrom : px_chk mX8_reachFrom = true := by decide +kernel
set_option maxRecDepth 100000 in
theorem kX8_setOf : px_chk mX8_setOf = true := by decide +kernel
set_option maxRecDepth 100000 in
theorem kX9_init : px_chk mX9_init = true := by decide +kernel
set_option maxRecDepth 100000 in
theorem kX9_begin : px_chk mX9_begin = true := by decide +kernel
set_option maxRecDepth 100000 in
theorem kX9_size : px_chk mX9_size = true := by decide +kernel
set_option maxRecDepth 100000 in
theorem kX9_shapeAt : px_chk mX9_shapeAt = true := by decide +kernel
set_option maxRecDepth 100000 in
theorem kX9_indexOf : px_chk mX9_indexOf = true := by decide +kernel
set_option maxRecDepth 100000 in
theorem kX9_insert : px_chk mX9_insert = true := by decide +kernel
set_option maxRecDepth 100000 in
theorem kX9_follow : px_chk mX9_follow = true := by decide +kernel
set_option maxRecDepth 100000 in
theorem kX9_markBreak : px_chk mX9_markBreak = true := by decide +kernel
set_option maxRecDepth 100000 in
theorem kX9_findWay : px_chk mX9_findWay = true := by decide +kernel
set_option maxRecDepth 100000 in
theorem kX9_wayPlace : px_chk mX9_wayPlace = true := by decide +kernel
set_option maxRecDepth 100000 in
theorem kX9_nearestBreak : px_chk mX9_nearestBreak = true := by decide +kernel
set_option maxRecDepth 100000 in
theorem kX9_markLeading : px_chk mX9_markLeading = true := by decide +kernel
set_option maxRecDepth 100000 in
theorem kX9_leadsOn : px_chk mX9_leadsOn = true := by decide +kernel
set_option maxRecDepth 100000 in
theorem kX9_levelEnd : px_chk mX9_levelEnd = true := by decide +kernel
set_option maxRecDepth 100000 in
theorem kX9_leastPlaceBehind : px_chk mX9_leastPlaceBehind = true := by decide +kernel
set_option maxRecDepth 100000 in
theorem kX9_markOnWay : px_chk mX9_markOnWay = true := by decide +kernel
set_option maxRecDepth 100000 in
theorem kX9_holder : px_chk mX9_holder = true := by decide +kernel
set_option maxRecDepth 100000 in
theorem kX9_hold : px_chk mX9_hold = true := by decide +kernel
set_option maxRecDepth 100000 in
theorem kX9_inBag : px_chk mX9_inBag = true := by decide +kernel
set_option maxRecDepth 100000 in
theorem kX9_isBagEmpty : px_chk mX9_isBagEmpty = true := by decide +kernel
set_option maxRecDepth 100000 in
theorem kX9_putIntoBag : px_chk mX9_putIntoBag = true := by decide +kernel
set_option maxRecDepth 100000 in
theorem kX9_emptyBag : px_chk mX9_emptyBag = true := by decide +kernel
set_option maxRecDepth 100000 in
theorem kX9_has : px_chk mX9_has = true := by decide +kernel
set_option maxRecDepth 100000 in
theorem kX9_bring : px_chk mX9_bring = true := by decide +kernel
set_option maxRecDepth 100000 in
theorem kX9_stateOf : px_chk mX9_stateOf = true := by decide +kernel
set_option maxRecDepth 100000 in
theorem kX9_enter : px_chk mX9_enter = true := by decide +kernel
set_option maxRecDepth 100000 in
theorem kX9_placeOf : px_chk mX9_placeOf = true := by decide +kernel
set_option maxRecDepth 100000 in
theorem kX9_moveTo : px_chk mX9_moveTo = true := by decide +kernel
set_option maxRecDepth 100000 in
theorem kX10_init : px_chk mX10_init = true := by decide +kernel
set_option maxRecDepth 100000 in
theorem kX10_addObject : px_chk mX10_addObject = true := by decide +kernel
set_option maxRecDepth 100000 in
theorem kX10_addCall : px_chk mX10_addCall = true := by decide +kernel
set_option maxRecDepth 100000 in
theorem kX10_addLast : px_chk mX10_addLast = true := by decide +kernel
set_option maxRecDepth 100000 in
theorem kX10_objects : px_chk mX10_objects = true := by decide +kernel
set_option maxRecDepth 100000 in
theorem kX10_firsts : px_chk mX10_firsts = true := by decide +kernel
set_option maxRecDepth 100000 in
theorem kX10_lasts : px_chk mX10_lasts = true := by decide +kernel
set_option maxRecDepth 100000 in
theorem kX10_pairs : px_chk mX10_pairs = true := by decide +kernel
set_option maxRecDepth 100000 in
theorem kX10_clear : px_chk mX10_clear = true := by decide +kernel
set_option maxRecDepth 100000 in
theorem kX11_init : px_chk mX11_init = true := by decide +kernel
set_option maxRecDepth 100000 in
theorem kX11_feed : px_chk mX11_feed = true := by decide +kernel
set_option maxRecDepth 100000 in
theorem kX11_cut : px_chk mX11_cut = true := by decide +kernel
set_option maxRecDepth 100000 in
theorem kX11_read : px_chk mX11_read = true := by decide +kernel
set_option maxRecDepth 100000 in
theorem kX11_states : px_chk mX11_states = true := by decide +kernel
set_option maxRecDepth 100000 in
theorem kX11_next : px_chk mX11_next = true := by decide +kernel
set_option maxRecDepth 100000 in
theorem kX11_ends : px_chk mX11_ends = true := by decide +kernel
set_option maxRecDepth 100000 in
theorem kX11_sees : px_chk mX11_sees = true := by decide +kernel
set_option maxRecDepth 100000 in
theorem kX11_compare : px_chk mX11_compare = true := by decide +kernel
set_option maxRecDepth 100000 in
theorem kX11_witness : px_chk mX11_witness = true := by decide +kernel
set_option maxRecDepth 100000 in
theorem kX11_step : px_chk mX11_step = true := by decide +kernel
set_option maxRecDepth 100000 in
theorem kX11_plain : px_chk mX11_plain = true := by decide +kernel
set_option maxRecDepth 100000 in
theorem kX11_infer : px_chk mX11_infer = true := by decide +kernel
set_option maxRecDepth 100000 in
theorem kX11_op : px_chk mX11_op = true := by decide +kernel
set_option maxRecDepth 100000 in
theorem kX11_wipe : px_chk mX11_wipe = true := by decide +kernel
set_option maxRecDepth 100000 in
theorem kX11_judge : px_chk mX11_judge = true := by decide +kernel
set_option maxRecDepth 100000 in
theorem kX11_shapes : px_chk mX11_shapes = true := by decide +kernel
set_option maxRecDepth 100000 in
theorem kX11_way : px_chk mX11_way = true := by decide +kernel
set_option maxRecDepth 100000 in
theorem kX11_draw : px_chk mX11_draw = true := by decide +kernel
set_option maxRecDepth 100000 in
theorem kX11_counted : px_chk mX11_counted = true := by decide +kernel
set_option maxRecDepth 100000 in
theorem kX11_forget : px_chk mX11_forget = true := by decide +kernel
set_option maxRecDepth 100000 in
theorem kX11_told : px_chk mX11_told = true := by decide +kernel
set_option maxRecDepth 100000 in
theorem kX11_below : px_chk mX11_below = true := by decide +kernel
set_option maxRecDepth 100000 in
theorem kX11_isText : px_chk mX11_isText = true := by decide +kernel
set_option maxRecDepth 100000 in
theorem kX11_append : px_chk mX11_append = true := by decide +kernel
set_option maxRecDepth 100000 in
theorem kX11_machineOf : px_chk mX11_machineOf = true := by decide +kernel
set_option maxRecDepth 100000 in
theorem kX11_keep : px_chk mX11_keep = true := by decide +kernel
set_option maxRecDepth 100000 in
theorem kX11_fits : px_chk mX11_fits = true := by decide +kernel
set_option maxRecDepth 100000 in
theorem kX12_init : px_chk mX12_init = true := by decide +kernel
set_option maxRecDepth 100000 in
theorem kX12_in : px_chk mX12_in = true := by decide +kernel
set_option maxRecDepth 100000 in
theorem kX12_isText : px_chk mX12_isText = true := by decide +kernel
set_option maxRecDepth 100000 in
theorem kX12_feed : px_chk mX12_feed = true := by decide +kernel
set_option maxRecDepth 100000 in
theorem kX12_cut : px_chk mX12_cut = true := by decide +kernel
set_option maxRecDepth 100000 in
theorem kX12_nothing : px_chk mX12_nothing = true := by decide +kernel
set_option maxRecDepth 100000 in
theorem kX12_copy : px_chk mX12_copy = true := by decide +kernel
set_option maxRecDepth 100000 in
theorem kX12_lead : px_chk mX12_lead = true := by decide +kernel
set_option maxRecDepth 100000 in
theorem kX12_join : px_chk mX12_join = true := by decide +kernel
set_option maxRecDepth 100000 in
theorem kX12_takePiece : px_chk mX12_takePiece = true := by decide +kernel
set_option maxRecDepth 100000 in
theorem kX12_takeSequence : px_chk mX12_takeSequence = true := by decide +kernel
set_option maxRecDepth 100000 in
theorem kX12_openLevel : px_chk mX12_openLevel = true := by decide +kernel
set_option maxRecDepth 100000 in
theorem kX12_atom : px_chk mX12_atom = true := by decide +kernel
set_option maxRecDepth 100000 in
theorem kX12_parse : px_chk mX12_parse = true := by decide +kernel
set_option maxRecDepth 100000 in
theorem kX12_findSet : px_chk mX12_findSet = true := by decide +kernel
set_option maxRecDepth 100000 in
theorem kX12_isTaken : px_chk mX12_isTaken = true := by decide +kernel
set_option maxRecDepth 100000 in
theorem kX12_makeSets : px_chk mX12_makeSets = true := by decide +kernel
set_option maxRecDepth 100000 in
theorem kX12_partAt : px_chk mX12_partAt = true := by decide +kernel
set_option maxRecDepth 100000 in
theorem kX12_isLike : px_chk mX12_isLike = true := by decide +kernel
set_option maxRecDepth 100000 in
theorem kX12_partStates : px_chk mX12_partStates = true := by decide +kernel
set_option maxRecDepth 100000 in
theorem kX12_makeMachine : px_chk mX12_makeMachine = true := by decide +kernel
set_option maxRecDepth 100000 in
theorem kX12_read : px_chk mX12_read = true := by decide +kernel
set_option maxRecDepth 100000 in
theorem kX12_isMachine : px_chk mX12_isMachine = true := by decide +kernel
set_option maxRecDepth 100000 in
theorem kX12_isState : px_chk mX12_isState = true := by decide +kernel
set_option maxRecDepth 100000 in
theorem kX12_states : px_chk mX12_states = true := by decide +kernel
set_option maxRecDepth 100000 in
theorem kX12_lead_ : px_chk mX12_lead_ = true := by decide +kernel
set_option maxRecDepth 100000 in
theorem kX12_next : px_chk mX12_next = true := by decide +kernel
set_option maxRecDepth 100000 in
theorem kX12_ends : px_chk mX12_ends = true := by decide +kernel
set_option maxRecDepth 100000 in
theorem kX12_seesOwners : px_chk mX12_seesOwners = true := by decide +kernel
set_option maxRecDepth 100000 in
theorem kX12_sees : px_chk mX12_sees = true := by decide +kernel
set_option maxRecDepth 100000 in
theorem kX12_led : px_chk mX12_led = true := by decide +kernel
set_option maxRecDepth 100000 in
theorem kX12_isRow : px_chk mX12_isRow = true := by decide +kernel
set_option maxRecDepth 100000 in
theorem kX12_compare : px_chk mX12_compare = true := by decide +kernel
set_option maxRecDepth 100000 in
theorem kX12_tell : px_chk mX12_tell = true := by decide +kernel
set_option maxRecDepth 100000 in
theorem kX12_witness : px_chk mX12_witness = true := by decide +kernel
set_option maxRecDepth 100000 in
theorem kX12_step : px_chk mX12_step = true := by decide +kernel
set_option maxRecDepth 100000 in
theorem kX12_stepsOf : px_chk mX12_stepsOf = true := by decide +kernel
set_option maxRecDepth 100000 in
theorem kX12_plain : px_chk mX12_plain = true := by decide +kernel
set_option maxRecDepth 100000 in
theorem kX12_behind : px_chk mX12_behind = true := by decide +kernel
set_option maxRecDepth 100000 in
theorem kX12_infer : px_chk mX12_infer = true := by decide +kernel
set_option maxRecDepth 100000 in
theorem kX12_isVariable : px_chk mX12_isVariable = true := by decide +kernel
set_option maxRecDepth 100000 in
theorem kX12_isOp : px_chk mX12_isOp = true := by decide +kernel
set_option maxRecDepth 100000 in
theorem kX12_op : px_chk mX12_op = true := by decide +kernel
set_option maxRecDepth 100000 in
theorem kX12_wipe : px_chk mX12_wipe = true := by decide +kernel
set_option maxRecDepth 100000 in
theorem kX12_load : px_chk mX12_load = true := by decide +kernel
set_option maxRecDepth 100000 in
theorem kX12_note : px_chk mX12_note = true := by decide +kernel
set_option maxRecDepth 100000 in
theorem kX12_take : px_chk mX12_take = true := by decide +kernel
set_option maxRecDepth 100000 in
theorem kX12_has : px_chk mX12_has = true := by decide +kernel
set_option maxRecDepth 100000 in
theorem kX12_isNone : px_chk mX12_isNone = true := by decide +kernel
set_option maxRecDepth 100000 in
theorem kX12_breaksAtEnd : px_chk mX12_breaksAtEnd = true := by decide +kernel
set_option maxRecDepth 100000 in
theorem kX12_make : px_chk mX12_make = true := by decide +kernel
set_option maxRecDepth 100000 in
theorem kX12_event : px_chk mX12_event = true := by decide +kernel
set_option maxRecDepth 100000 in
theorem kX12_act : px_chk mX12_act = true := by decide +kernel
set_option maxRecDepth 100000 in
theorem kX12_get : px_chk mX12_get = true := by decide +kernel
set_option maxRecDepth 100000 in
theorem kX12_placeOf : px_chk mX12_placeOf = true := by decide +kernel
set_option maxRecDepth 100000 in
theorem kX12_isBefore : px_chk mX12_isBefore = true := by decide +kernel
set_option maxRecDepth 100000 in
theorem kX12_order : px_chk mX12_order = true := by decide +kernel
set_option maxRecDepth 100000 in
theorem kX12_judge : px_chk mX12_judge = true := by decide +kernel
set_option maxRecDepth 100000 in
theorem kX12_shapes : px_chk mX12_shapes = true := by decide +kernel
set_option maxRecDepth 100000 in
theorem kX12_way : px_chk mX12_way = true := by decide +kernel
set_option maxRecDepth 100000 in
theorem kX12_drawNext : px_chk mX12_drawNext = true := by decide +kernel
set_option maxRecDepth 100000 in
theorem kX12_create : px_chk mX12_create = true := by decide +kernel
set_option maxRecDepth 100000 in
theorem kX12_happens : px_chk mX12_happens = true := by decide +kernel
set_option maxRecDepth 100000 in
theorem kX12_called : px_chk mX12_called = true := by decide +kernel
set_option maxRecDepth 100000 in
theorem kX12_end : px_chk mX12_end = true := by decide +kernel
set_option maxRecDepth 100000 in
theorem kX12_putInBag : px_chk mX12_putInBag = true := by decide +kernel
set_option maxRecDepth 100000 in
theorem kX12_go : px_chk mX12_go = true := by decide +kernel
set_option maxRecDepth 100000 in
theorem kX12_draw : px_chk mX12_draw = true := by decide +kernel
set_option maxRecDepth 100000 in
theorem kX12_counted : px_chk mX12_counted = true := by decide +kernel
set_option maxRecDepth 100000 in
theorem kX12_forget : px_chk mX12_forget = true := by decide +kernel
set_option maxRecDepth 100000 in
theorem kX12_told : px_chk mX12_told = true := by decide +kernel
set_option maxRecDepth 100000 in
theorem kJ9_min_7cf53 : px_chk mJ9_min_7cf53 = true := by decide +kernel
set_option maxRecDepth 100000 in
theorem kJ7_rangeCheck_23922 : px_chk mJ7_rangeCheck_23922 = true := by decide +kernel
set_option maxRecDepth 100000 in
theorem kJ7_fill_d0a16 : px_chk mJ7_fill_d0a16 = true := by decide +kernel
set_option maxRecDepth 100000 in
theorem kJ7_fill_53178 : px_chk mJ7_fill_53178 = true := by decide +kernel
set_option maxRecDepth 100000 in
theorem kJ7_fill_fda19 : px_chk mJ7_fill_fda19 = true := by decide +kernel
