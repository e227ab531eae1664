set_option maxRecDepth 100000 in
theorem kX7_init_0 : ((mX7_init.2.2.2.2.2.2.2.drop (40 * 0)).take 40).all (px_chkI mX7_init.1 mX7_init.2.2.1 mX7_init.2.1) = true := by decide +kernel
set_option maxRecDepth 100000 in
theorem kX7_init : px_chk mX7_init := px_chk_of 1 rfl (by decide +kernel) (by decide +kernel) (fun j hj => by
  match j, hj with
  | 0, _ => exact kX7_init_0
  | j + 1, h => omega)
set_option maxRecDepth 100000 in
theorem kX7_becomeNothing_0 : ((mX7_becomeNothing.2.2.2.2.2.2.2.drop (40 * 0)).take 40).all (px_chkI mX7_becomeNothing.1 mX7_becomeNothing.2.2.1 mX7_becomeNothing.2.1) = true := by decide +kernel
set_option maxRecDepth 100000 in
theorem kX7_becomeNothing : px_chk mX7_becomeNothing := px_chk_of 1 rfl (by decide +kernel) (by decide +kernel) (fun j hj => by
  match j, hj with
  | 0, _ => exact kX7_becomeNothing_0
  | j + 1, h => omega)
set_option maxRecDepth 100000 in
theorem kX7_becomeEmpty_0 : ((mX7_becomeEmpty.2.2.2.2.2.2.2.drop (40 * 0)).take 40).all (px_chkI mX7_becomeEmpty.1 mX7_becomeEmpty.2.2.1 mX7_becomeEmpty.2.1) = true := by decide +kernel
set_option maxRecDepth 100000 in
theorem kX7_becomeEmpty : px_chk mX7_becomeEmpty := px_chk_of 1 rfl (by decide +kernel) (by decide +kernel) (fun j hj => by
  match j, hj with
  | 0, _ => exact kX7_becomeEmpty_0
  | j + 1, h => omega)
set_option maxRecDepth 100000 in
theorem kX7_becomePlace_0 : ((mX7_becomePlace.2.2.2.2.2.2.2.drop (40 * 0)).take 40).all (px_chkI mX7_becomePlace.1 mX7_becomePlace.2.2.1 mX7_becomePlace.2.1) = true := by decide +kernel
set_option maxRecDepth 100000 in
theorem kX7_becomePlace : px_chk mX7_becomePlace := px_chk_of 1 rfl (by decide +kernel) (by decide +kernel) (fun j hj => by
  match j, hj with
  | 0, _ => exact kX7_becomePlace_0
  | j + 1, h => omega)
set_option maxRecDepth 100000 in
theorem kX7_become_0 : ((mX7_become.2.2.2.2.2.2.2.drop (40 * 0)).take 40).all (px_chkI mX7_become.1 mX7_become.2.2.1 mX7_become.2.1) = true := by decide +kernel
set_option maxRecDepth 100000 in
theorem kX7_become : px_chk mX7_become := px_chk_of 1 rfl (by decide +kernel) (by decide +kernel) (fun j hj => by
  match j, hj with
  | 0, _ => exact kX7_become_0
  | j + 1, h => omega)
set_option maxRecDepth 100000 in
theorem kX7_join_0 : ((mX7_join.2.2.2.2.2.2.2.drop (40 * 0)).take 40).all (px_chkI mX7_join.1 mX7_join.2.2.1 mX7_join.2.1) = true := by decide +kernel
set_option maxRecDepth 100000 in
theorem kX7_join : px_chk mX7_join := px_chk_of 1 rfl (by decide +kernel) (by decide +kernel) (fun j hj => by
  match j, hj with
  | 0, _ => exact kX7_join_0
  | j + 1, h => omega)
set_option maxRecDepth 100000 in
theorem kX7_append_0 : ((mX7_append.2.2.2.2.2.2.2.drop (40 * 0)).take 40).all (px_chkI mX7_append.1 mX7_append.2.2.1 mX7_append.2.1) = true := by decide +kernel
set_option maxRecDepth 100000 in
theorem kX7_append_1 : ((mX7_append.2.2.2.2.2.2.2.drop (40 * 1)).take 40).all (px_chkI mX7_append.1 mX7_append.2.2.1 mX7_append.2.1) = true := by decide +kernel
set_option maxRecDepth 100000 in
theorem kX7_append : px_chk mX7_append := px_chk_of 2 rfl (by decide +kernel) (by decide +kernel) (fun j hj => by
  match j, hj with
  | 0, _ => exact kX7_append_0
  | 1, _ => exact kX7_append_1
  | j + 2, h => omega)
set_option maxRecDepth 100000 in
theorem kX7_endsAt_0 : ((mX7_endsAt.2.2.2.2.2.2.2.drop (40 * 0)).take 40).all (px_chkI mX7_endsAt.1 mX7_endsAt.2.2.1 mX7_endsAt.2.1) = true := by decide +kernel
set_option maxRecDepth 100000 in
theorem kX7_endsAt : px_chk mX7_endsAt := px_chk_of 1 rfl (by decide +kernel) (by decide +kernel) (fun j hj => by
  match j, hj with
  | 0, _ => exact kX7_endsAt_0
  | j + 1, h => omega)
set_option maxRecDepth 100000 in
theorem kX7_endsIn_0 : ((mX7_endsIn.2.2.2.2.2.2.2.drop (40 * 0)).take 40).all (px_chkI mX7_endsIn.1 mX7_endsIn.2.2.1 mX7_endsIn.2.1) = true := by decide +kernel
set_option maxRecDepth 100000 in
theorem kX7_endsIn : px_chk mX7_endsIn := px_chk_of 1 rfl (by decide +kernel) (by decide +kernel) (fun j hj => by
  match j, hj with
  | 0, _ => exact kX7_endsIn_0
  | j + 1, h => omega)
set_option maxRecDepth 100000 in
theorem kX8_init_0 : ((mX8_init.2.2.2.2.2.2.2.drop (40 * 0)).take 40).all (px_chkI mX8_init.1 mX8_init.2.2.1 mX8_init.2.1) = true := by decide +kernel
set_option maxRecDepth 100000 in
theorem kX8_init_1 : ((mX8_init.2.2.2.2.2.2.2.drop (40 * 1)).take 40).all (px_chkI mX8_init.1 mX8_init.2.2.1 mX8_init.2.1) = true := by decide +kernel
set_option maxRecDepth 100000 in
theorem kX8_init : px_chk mX8_init := px_chk_of 2 rfl (by decide +kernel) (by decide +kernel) (fun j hj => by
  match j, hj with
  | 0, _ => exact kX8_init_0
  | 1, _ => exact kX8_init_1
  | j + 2, h => omega)
set_option maxRecDepth 100000 in
theorem kX8_parse_0 : ((mX8_parse.2.2.2.2.2.2.2.drop (40 * 0)).take 40).all (px_chkI mX8_parse.1 mX8_parse.2.2.1 mX8_parse.2.1) = true := by decide +kernel
set_option maxRecDepth 100000 in
theorem kX8_parse_1 : ((mX8_parse.2.2.2.2.2.2.2.drop (40 * 1)).take 40).all (px_chkI mX8_parse.1 mX8_parse.2.2.1 mX8_parse.2.1) = true := by decide +kernel
set_option maxRecDepth 100000 in
theorem kX8_parse : px_chk mX8_parse := px_chk_of 2 rfl (by decide +kernel) (by decide +kernel) (fun j hj => by
  match j, hj with
  | 0, _ => exact kX8_parse_0
  | 1, _ => exact kX8_parse_1
  | j + 2, h => omega)
set_option maxRecDepth 100000 in
theorem kX8_take_0 : ((mX8_take.2.2.2.2.2.2.2.drop (40 * 0)).take 40).all (px_chkI mX8_take.1 mX8_take.2.2.1 mX8_take.2.1) = true := by decide +kernel
set_option maxRecDepth 100000 in
theorem kX8_take_1 : ((mX8_take.2.2.2.2.2.2.2.drop (40 * 1)).take 40).all (px_chkI mX8_take.1 mX8_take.2.2.1 mX8_take.2.1) = true := by decide +kernel
set_option maxRecDepth 100000 in
theorem kX8_take : px_chk mX8_take := px_chk_of 2 rfl (by decide +kernel) (by decide +kernel) (fun j hj => by
  match j, hj with
  | 0, _ => exact kX8_take_0
  | 1, _ => exact kX8_take_1
  | j + 2, h => omega)
set_option maxRecDepth 100000 in
theorem kX8_takeOpening_0 : ((mX8_takeOpening.2.2.2.2.2.2.2.drop (40 * 0)).take 40).all (px_chkI mX8_takeOpening.1 mX8_takeOpening.2.2.1 mX8_takeOpening.2.1) = true := by decide +kernel
set_option maxRecDepth 100000 in
theorem kX8_takeOpening : px_chk mX8_takeOpening := px_chk_of 1 rfl (by decide +kernel) (by decide +kernel) (fun j hj => by
  match j, hj with
  | 0, _ => exact kX8_takeOpening_0
  | j + 1, h => omega)
set_option maxRecDepth 100000 in
theorem kX8_takeClosing_0 : ((mX8_takeClosing.2.2.2.2.2.2.2.drop (40 * 0)).take 40).all (px_chkI mX8_takeClosing.1 mX8_takeClosing.2.2.1 mX8_takeClosing.2.1) = true := by decide +kernel
set_option maxRecDepth 100000 in
theorem kX8_takeClosing : px_chk mX8_takeClosing := px_chk_of 1 rfl (by decide +kernel) (by decide +kernel) (fun j hj => by
  match j, hj with
  | 0, _ => exact kX8_takeClosing_0
  | j + 1, h => omega)
set_option maxRecDepth 100000 in
theorem kX8_takeOwnerMark_0 : ((mX8_takeOwnerMark.2.2.2.2.2.2.2.drop (40 * 0)).take 40).all (px_chkI mX8_takeOwnerMark.1 mX8_takeOwnerMark.2.2.1 mX8_takeOwnerMark.2.1) = true := by decide +kernel
set_option maxRecDepth 100000 in
theorem kX8_takeOwnerMark : px_chk mX8_takeOwnerMark := px_chk_of 1 rfl (by decide +kernel) (by decide +kernel) (fun j hj => by
  match j, hj with
  | 0, _ => exact kX8_takeOwnerMark_0
  | j + 1, h => omega)
set_option maxRecDepth 100000 in
theorem kX8_takeRepeat_0 : ((mX8_takeRepeat.2.2.2.2.2.2.2.drop (40 * 0)).take 40).all (px_chkI mX8_takeRepeat.1 mX8_takeRepeat.2.2.1 mX8_takeRepeat.2.1) = true := by decide +kernel
set_option maxRecDepth 100000 in
theorem kX8_takeRepeat : px_chk mX8_takeRepeat := px_chk_of 1 rfl (by decide +kernel) (by decide +kernel) (fun j hj => by
  match j, hj with
  | 0, _ => exact kX8_takeRepeat_0
  | j + 1, h => omega)
set_option maxRecDepth 100000 in
theorem kX8_takePlace_0 : ((mX8_takePlace.2.2.2.2.2.2.2.drop (40 * 0)).take 40).all (px_chkI mX8_takePlace.1 mX8_takePlace.2.2.1 mX8_takePlace.2.1) = true := by decide +kernel
set_option maxRecDepth 100000 in
theorem kX8_takePlace_1 : ((mX8_takePlace.2.2.2.2.2.2.2.drop (40 * 1)).take 40).all (px_chkI mX8_takePlace.1 mX8_takePlace.2.2.1 mX8_takePlace.2.1) = true := by decide +kernel
set_option maxRecDepth 100000 in
theorem kX8_takePlace : px_chk mX8_takePlace := px_chk_of 2 rfl (by decide +kernel) (by decide +kernel) (fun j hj => by
  match j, hj with
  | 0, _ => exact kX8_takePlace_0
  | 1, _ => exact kX8_takePlace_1
  | j + 2, h => omega)
set_option maxRecDepth 100000 in
theorem kX8_beginAlt_0 : ((mX8_beginAlt.2.2.2.2.2.2.2.drop (40 * 0)).take 40).all (px_chkI mX8_beginAlt.1 mX8_beginAlt.2.2.1 mX8_beginAlt.2.1) = true := by decide +kernel
set_option maxRecDepth 100000 in
theorem kX8_beginAlt : px_chk mX8_beginAlt := px_chk_of 1 rfl (by decide +kernel) (by decide +kernel) (fun j hj => by
  match j, hj with
  | 0, _ => exact kX8_beginAlt_0
  | j + 1, h => omega)
set_option maxRecDepth 100000 in
theorem kX8_endPiece_0 : ((mX8_endPiece.2.2.2.2.2.2.2.drop (40 * 0)).take 40).all (px_chkI mX8_endPiece.1 mX8_endPiece.2.2.1 mX8_endPiece.2.1) = true := by decide +kernel
set_option maxRecDepth 100000 in
theorem kX8_endPiece : px_chk mX8_endPiece := px_chk_of 1 rfl (by decide +kernel) (by decide +kernel) (fun j hj => by
  match j, hj with
  | 0, _ => exact kX8_endPiece_0
  | j + 1, h => omega)
set_option maxRecDepth 100000 in
theorem kX8_link_0 : ((mX8_link.2.2.2.2.2.2.2.drop (40 * 0)).take 40).all (px_chkI mX8_link.1 mX8_link.2.2.1 mX8_link.2.1) = true := by decide +kernel
set_option maxRecDepth 100000 in
theorem kX8_link : px_chk mX8_link := px_chk_of 1 rfl (by decide +kernel) (by decide +kernel) (fun j hj => by
  match j, hj with
  | 0, _ => exact kX8_link_0
  | j + 1, h => omega)
set_option maxRecDepth 100000 in
theorem kX8_fill_0 : ((mX8_fill.2.2.2.2.2.2.2.drop (40 * 0)).take 40).all (px_chkI mX8_fill.1 mX8_fill.2.2.1 mX8_fill.2.1) = true := by decide +kernel
set_option maxRecDepth 100000 in
theorem kX8_fill_1 : ((mX8_fill.2.2.2.2.2.2.2.drop (40 * 1)).take 40).all (px_chkI mX8_fill.1 mX8_fill.2.2.1 mX8_fill.2.1) = true := by decide +kernel
set_option maxRecDepth 100000 in
theorem kX8_fill : px_chk mX8_fill := px_chk_of 2 rfl (by decide +kernel) (by decide +kernel) (fun j hj => by
  match j, hj with
  | 0, _ => exact kX8_fill_0
  | 1, _ => exact kX8_fill_1
  | j + 2, h => omega)
set_option maxRecDepth 100000 in
theorem kX8_sortPlaces_0 : ((mX8_sortPlaces.2.2.2.2.2.2.2.drop (40 * 0)).take 40).all (px_chkI mX8_sortPlaces.1 mX8_sortPlaces.2.2.1 mX8_sortPlaces.2.1) = true := by decide +kernel
set_option maxRecDepth 100000 in
theorem kX8_sortPlaces_1 : ((mX8_sortPlaces.2.2.2.2.2.2.2.drop (40 * 1)).take 40).all (px_chkI mX8_sortPlaces.1 mX8_sortPlaces.2.2.1 mX8_sortPlaces.2.1) = true := by decide +kernel
set_option maxRecDepth 100000 in
theorem kX8_sortPlaces : px_chk mX8_sortPlaces := px_chk_of 2 rfl (by decide +kernel) (by decide +kernel) (fun j hj => by
  match j, hj with
  | 0, _ => exact kX8_sortPlaces_0
  | 1, _ => exact kX8_sortPlaces_1
  | j + 2, h => omega)
set_option maxRecDepth 100000 in
theorem kX8_reachFrom_0 : ((mX8_reachFrom.2.2.2.2.2.2.2.drop (40 * 0)).take 40).all (px_chkI mX8_reachFrom.1 mX8_reachFrom.2.2.1 mX8_reachFrom.2.1) = true := by decide +kernel
set_option maxRecDepth 100000 in
theorem kX8_reachFrom_1 : ((mX8_reachFrom.2.2.2.2.2.2.2.drop (40 * 1)).take 40).all (px_chkI mX8_reachFrom.1 mX8_reachFrom.2.2.1 mX8_reachFrom.2.1) = true := by decide +kernel
set_option maxRecDepth 100000 in
theorem kX8_reachFrom : px_chk mX8_reachFrom := px_chk_of 2 rfl (by decide +kernel) (by decide +kernel) (fun j hj => by
  match j, hj with
  | 0, _ => exact kX8_reachFrom_0
  | 1, _ => exact kX8_reachFrom_1
  | j + 2, h => omega)
set_option maxRecDepth 100000 in
theorem kX8_setOf_0 : ((mX8_setOf.2.2.2.2.2.2.2.drop (40 * 0)).take 40).all (px_chkI mX8_setOf.1 mX8_setOf.2.2.1 mX8_setOf.2.1) = true := by decide +kernel
set_option maxRecDepth 100000 in
theorem kX8_setOf_1 : ((mX8_setOf.2.2.2.2.2.2.2.drop (40 * 1)).take 40).all (px_chkI mX8_setOf.1 mX8_setOf.2.2.1 mX8_setOf.2.1) = true := by decide +kernel
set_option maxRecDepth 100000 in
theorem kX8_setOf : px_chk mX8_setOf := px_chk_of 2 rfl (by decide +kernel) (by decide +kernel) (fun j hj => by
  match j, hj with
  | 0, _ => exact kX8_setOf_0
  | 1, _ => exact kX8_setOf_1
  | j + 2, h => omega)
set_option maxRecDepth 100000 in
theorem kX9_init_0 : ((mX9_init.2.2.2.2.2.2.2.drop (40 * 0)).take 40).all (px_chkI mX9_init.1 mX9_init.2.2.1 mX9_init.2.1) = true := by decide +kernel
set_option maxRecDepth 100000 in
theorem kX9_init : px_chk mX9_init := px_chk_of 1 rfl (by decide +kernel) (by decide +kernel) (fun j hj => by
  match j, hj with
  | 0, _ => exact kX9_init_0
  | j + 1, h => omega)
set_option maxRecDepth 100000 in
theorem kX9_begin_0 : ((mX9_begin.2.2.2.2.2.2.2.drop (40 * 0)).take 40).all (px_chkI mX9_begin.1 mX9_begin.2.2.1 mX9_begin.2.1) = true := by decide +kernel
set_option maxRecDepth 100000 in
theorem kX9_begin : px_chk mX9_begin := px_chk_of 1 rfl (by decide +kernel) (by decide +kernel) (fun j hj => by
  match j, hj with
  | 0, _ => exact kX9_begin_0
  | j + 1, h => omega)
set_option maxRecDepth 100000 in
theorem kX9_size_0 : ((mX9_size.2.2.2.2.2.2.2.drop (40 * 0)).take 40).all (px_chkI mX9_size.1 mX9_size.2.2.1 mX9_size.2.1) = true := by decide +kernel
set_option maxRecDepth 100000 in
theorem kX9_size : px_chk mX9_size := px_chk_of 1 rfl (by decide +kernel) (by decide +kernel) (fun j hj => by
  match j, hj with
  | 0, _ => exact kX9_size_0
  | j + 1, h => omega)
set_option maxRecDepth 100000 in
theorem kX9_shapeAt_0 : ((mX9_shapeAt.2.2.2.2.2.2.2.drop (40 * 0)).take 40).all (px_chkI mX9_shapeAt.1 mX9_shapeAt.2.2.1 mX9_shapeAt.2.1) = true := by decide +kernel
set_option maxRecDepth 100000 in
theorem kX9_shapeAt : px_chk mX9_shapeAt := px_chk_of 1 rfl (by decide +kernel) (by decide +kernel) (fun j hj => by
  match j, hj with
  | 0, _ => exact kX9_shapeAt_0
  | j + 1, h => omega)
set_option maxRecDepth 100000 in
theorem kX9_indexOf_0 : ((mX9_indexOf.2.2.2.2.2.2.2.drop (40 * 0)).take 40).all (px_chkI mX9_indexOf.1 mX9_indexOf.2.2.1 mX9_indexOf.2.1) = true := by decide +kernel
set_option maxRecDepth 100000 in
theorem kX9_indexOf_1 : ((mX9_indexOf.2.2.2.2.2.2.2.drop (40 * 1)).take 40).all (px_chkI mX9_indexOf.1 mX9_indexOf.2.2.1 mX9_indexOf.2.1) = true := by decide +kernel
set_option maxRecDepth 100000 in
theorem kX9_indexOf : px_chk mX9_indexOf := px_chk_of 2 rfl (by decide +kernel) (by decide +kernel) (fun j hj => by
  match j, hj with
  | 0, _ => exact kX9_indexOf_0
  | 1, _ => exact kX9_indexOf_1
  | j + 2, h => omega)
set_option maxRecDepth 100000 in
theorem kX9_insert_0 : ((mX9_insert.2.2.2.2.2.2.2.drop (40 * 0)).take 40).all (px_chkI mX9_insert.1 mX9_insert.2.2.1 mX9_insert.2.1) = true := by decide +kernel
set_option maxRecDepth 100000 in
theorem kX9_insert_1 : ((mX9_insert.2.2.2.2.2.2.2.drop (40 * 1)).take 40).all (px_chkI mX9_insert.1 mX9_insert.2.2.1 mX9_insert.2.1) = true := by decide +kernel
set_option maxRecDepth 100000 in
theorem kX9_insert : px_chk mX9_insert := px_chk_of 2 rfl (by decide +kernel) (by decide +kernel) (fun j hj => by
  match j, hj with
  | 0, _ => exact kX9_insert_0
  | 1, _ => exact kX9_insert_1
  | j + 2, h => omega)
set_option maxRecDepth 100000 in
theorem kX9_follow_0 : ((mX9_follow.2.2.2.2.2.2.2.drop (40 * 0)).take 40).all (px_chkI mX9_follow.1 mX9_follow.2.2.1 mX9_follow.2.1) = true := by decide +kernel
set_option maxRecDepth 100000 in
theorem kX9_follow : px_chk mX9_follow := px_chk_of 1 rfl (by decide +kernel) (by decide +kernel) (fun j hj => by
  match j, hj with
  | 0, _ => exact kX9_follow_0
  | j + 1, h => omega)
set_option maxRecDepth 100000 in
theorem kX9_markBreak_0 : ((mX9_markBreak.2.2.2.2.2.2.2.drop (40 * 0)).take 40).all (px_chkI mX9_markBreak.1 mX9_markBreak.2.2.1 mX9_markBreak.2.1) = true := by decide +kernel
set_option maxRecDepth 100000 in
theorem kX9_markBreak : px_chk mX9_markBreak := px_chk_of 1 rfl (by decide +kernel) (by decide +kernel) (fun j hj => by
  match j, hj with
  | 0, _ => exact kX9_markBreak_0
  | j + 1, h => omega)
set_option maxRecDepth 100000 in
theorem kX9_findWay_0 : ((mX9_findWay.2.2.2.2.2.2.2.drop (40 * 0)).take 40).all (px_chkI mX9_findWay.1 mX9_findWay.2.2.1 mX9_findWay.2.1) = true := by decide +kernel
set_option maxRecDepth 100000 in
theorem kX9_findWay_1 : ((mX9_findWay.2.2.2.2.2.2.2.drop (40 * 1)).take 40).all (px_chkI mX9_findWay.1 mX9_findWay.2.2.1 mX9_findWay.2.1) = true := by decide +kernel
set_option maxRecDepth 100000 in
theorem kX9_findWay : px_chk mX9_findWay := px_chk_of 2 rfl (by decide +kernel) (by decide +kernel) (fun j hj => by
  match j, hj with
  | 0, _ => exact kX9_findWay_0
  | 1, _ => exact kX9_findWay_1
  | j + 2, h => omega)
set_option maxRecDepth 100000 in
theorem kX9_wayPlace_0 : ((mX9_wayPlace.2.2.2.2.2.2.2.drop (40 * 0)).take 40).all (px_chkI mX9_wayPlace.1 mX9_wayPlace.2.2.1 mX9_wayPlace.2.1) = true := by decide +kernel
set_option maxRecDepth 100000 in
theorem kX9_wayPlace : px_chk mX9_wayPlace := px_chk_of 1 rfl (by decide +kernel) (by decide +kernel) (fun j hj => by
  match j, hj with
  | 0, _ => exact kX9_wayPlace_0
  | j + 1, h => omega)
set_option maxRecDepth 100000 in
theorem kX9_nearestBreak_0 : ((mX9_nearestBreak.2.2.2.2.2.2.2.drop (40 * 0)).take 40).all (px_chkI mX9_nearestBreak.1 mX9_nearestBreak.2.2.1 mX9_nearestBreak.2.1) = true := by decide +kernel
set_option maxRecDepth 100000 in
theorem kX9_nearestBreak : px_chk mX9_nearestBreak := px_chk_of 1 rfl (by decide +kernel) (by decide +kernel) (fun j hj => by
  match j, hj with
  | 0, _ => exact kX9_nearestBreak_0
  | j + 1, h => omega)
set_option maxRecDepth 100000 in
theorem kX9_markLeading_0 : ((mX9_markLeading.2.2.2.2.2.2.2.drop (40 * 0)).take 40).all (px_chkI mX9_markLeading.1 mX9_markLeading.2.2.1 mX9_markLeading.2.1) = true := by decide +kernel
set_option maxRecDepth 100000 in
theorem kX9_markLeading_1 : ((mX9_markLeading.2.2.2.2.2.2.2.drop (40 * 1)).take 40).all (px_chkI mX9_markLeading.1 mX9_markLeading.2.2.1 mX9_markLeading.2.1) = true := by decide +kernel
set_option maxRecDepth 100000 in
theorem kX9_markLeading : px_chk mX9_markLeading := px_chk_of 2 rfl (by decide +kernel) (by decide +kernel) (fun j hj => by
  match j, hj with
  | 0, _ => exact kX9_markLeading_0
  | 1, _ => exact kX9_markLeading_1
  | j + 2, h => omega)
set_option maxRecDepth 100000 in
theorem kX9_leadsOn_0 : ((mX9_leadsOn.2.2.2.2.2.2.2.drop (40 * 0)).take 40).all (px_chkI mX9_leadsOn.1 mX9_leadsOn.2.2.1 mX9_leadsOn.2.1) = true := by decide +kernel
set_option maxRecDepth 100000 in
theorem kX9_leadsOn : px_chk mX9_leadsOn := px_chk_of 1 rfl (by decide +kernel) (by decide +kernel) (fun j hj => by
  match j, hj with
  | 0, _ => exact kX9_leadsOn_0
  | j + 1, h => omega)
set_option maxRecDepth 100000 in
theorem kX9_levelEnd_0 : ((mX9_levelEnd.2.2.2.2.2.2.2.drop (40 * 0)).take 40).all (px_chkI mX9_levelEnd.1 mX9_levelEnd.2.2.1 mX9_levelEnd.2.1) = true := by decide +kernel
set_option maxRecDepth 100000 in
theorem kX9_levelEnd : px_chk mX9_levelEnd := px_chk_of 1 rfl (by decide +kernel) (by decide +kernel) (fun j hj => by
  match j, hj with
  | 0, _ => exact kX9_levelEnd_0
  | j + 1, h => omega)
set_option maxRecDepth 100000 in
theorem kX9_leastPlaceBehind_0 : ((mX9_leastPlaceBehind.2.2.2.2.2.2.2.drop (40 * 0)).take 40).all (px_chkI mX9_leastPlaceBehind.1 mX9_leastPlaceBehind.2.2.1 mX9_leastPlaceBehind.2.1) = true := by decide +kernel
set_option maxRecDepth 100000 in
theorem kX9_leastPlaceBehind_1 : ((mX9_leastPlaceBehind.2.2.2.2.2.2.2.drop (40 * 1)).take 40).all (px_chkI mX9_leastPlaceBehind.1 mX9_leastPlaceBehind.2.2.1 mX9_leastPlaceBehind.2.1) = true := by decide +kernel
set_option maxRecDepth 100000 in
theorem kX9_leastPlaceBehind : px_chk mX9_leastPlaceBehind := px_chk_of 2 rfl (by decide +kernel) (by decide +kernel) (fun j hj => by
  match j, hj with
  | 0, _ => exact kX9_leastPlaceBehind_0
  | 1, _ => exact kX9_leastPlaceBehind_1
  | j + 2, h => omega)
set_option maxRecDepth 100000 in
theorem kX9_markOnWay_0 : ((mX9_markOnWay.2.2.2.2.2.2.2.drop (40 * 0)).take 40).all (px_chkI mX9_markOnWay.1 mX9_markOnWay.2.2.1 mX9_markOnWay.2.1) = true := by decide +kernel
set_option maxRecDepth 100000 in
theorem kX9_markOnWay_1 : ((mX9_markOnWay.2.2.2.2.2.2.2.drop (40 * 1)).take 40).all (px_chkI mX9_markOnWay.1 mX9_markOnWay.2.2.1 mX9_markOnWay.2.1) = true := by decide +kernel
set_option maxRecDepth 100000 in
theorem kX9_markOnWay : px_chk mX9_markOnWay := px_chk_of 2 rfl (by decide +kernel) (by decide +kernel) (fun j hj => by
  match j, hj with
  | 0, _ => exact kX9_markOnWay_0
  | 1, _ => exact kX9_markOnWay_1
  | j + 2, h => omega)
set_option maxRecDepth 100000 in
theorem kX9_holder_0 : ((mX9_holder.2.2.2.2.2.2.2.drop (40 * 0)).take 40).all (px_chkI mX9_holder.1 mX9_holder.2.2.1 mX9_holder.2.1) = true := by decide +kernel
set_option maxRecDepth 100000 in
theorem kX9_holder : px_chk mX9_holder := px_chk_of 1 rfl (by decide +kernel) (by decide +kernel) (fun j hj => by
  match j, hj with
  | 0, _ => exact kX9_holder_0
  | j + 1, h => omega)
set_option maxRecDepth 100000 in
theorem kX9_hold_0 : ((mX9_hold.2.2.2.2.2.2.2.drop (40 * 0)).take 40).all (px_chkI mX9_hold.1 mX9_hold.2.2.1 mX9_hold.2.1) = true := by decide +kernel
set_option maxRecDepth 100000 in
theorem kX9_hold : px_chk mX9_hold := px_chk_of 1 rfl (by decide +kernel) (by decide +kernel) (fun j hj => by
  match j, hj with
  | 0, _ => exact kX9_hold_0
  | j + 1, h => omega)
set_option maxRecDepth 100000 in
theorem kX9_inBag_0 : ((mX9_inBag.2.2.2.2.2.2.2.drop (40 * 0)).take 40).all (px_chkI mX9_inBag.1 mX9_inBag.2.2.1 mX9_inBag.2.1) = true := by decide +kernel
set_option maxRecDepth 100000 in
theorem kX9_inBag : px_chk mX9_inBag := px_chk_of 1 rfl (by decide +kernel) (by decide +kernel) (fun j hj => by
  match j, hj with
  | 0, _ => exact kX9_inBag_0
  | j + 1, h => omega)
set_option maxRecDepth 100000 in
theorem kX9_isBagEmpty_0 : ((mX9_isBagEmpty.2.2.2.2.2.2.2.drop (40 * 0)).take 40).all (px_chkI mX9_isBagEmpty.1 mX9_isBagEmpty.2.2.1 mX9_isBagEmpty.2.1) = true := by decide +kernel
set_option maxRecDepth 100000 in
theorem kX9_isBagEmpty : px_chk mX9_isBagEmpty := px_chk_of 1 rfl (by decide +kernel) (by decide +kernel) (fun j hj => by
  match j, hj with
  | 0, _ => exact kX9_isBagEmpty_0
  | j + 1, h => omega)
set_option maxRecDepth 100000 in
theorem kX9_putIntoBag_0 : ((mX9_putIntoBag.2.2.2.2.2.2.2.drop (40 * 0)).take 40).all (px_chkI mX9_putIntoBag.1 mX9_putIntoBag.2.2.1 mX9_putIntoBag.2.1) = true := by decide +kernel
set_option maxRecDepth 100000 in
theorem kX9_putIntoBag : px_chk mX9_putIntoBag := px_chk_of 1 rfl (by decide +kernel) (by decide +kernel) (fun j hj => by
  match j, hj with
  | 0, _ => exact kX9_putIntoBag_0
  | j + 1, h => omega)
set_option maxRecDepth 100000 in
theorem kX9_emptyBag_0 : ((mX9_emptyBag.2.2.2.2.2.2.2.drop (40 * 0)).take 40).all (px_chkI mX9_emptyBag.1 mX9_emptyBag.2.2.1 mX9_emptyBag.2.1) = true := by decide +kernel
set_option maxRecDepth 100000 in
theorem kX9_emptyBag : px_chk mX9_emptyBag := px_chk_of 1 rfl (by decide +kernel) (by decide +kernel) (fun j hj => by
  match j, hj with
  | 0, _ => exact kX9_emptyBag_0
  | j + 1, h => omega)
set_option maxRecDepth 100000 in
theorem kX9_has_0 : ((mX9_has.2.2.2.2.2.2.2.drop (40 * 0)).take 40).all (px_chkI mX9_has.1 mX9_has.2.2.1 mX9_has.2.1) = true := by decide +kernel
set_option maxRecDepth 100000 in
theorem kX9_has : px_chk mX9_has := px_chk_of 1 rfl (by decide +kernel) (by decide +kernel) (fun j hj => by
  match j, hj with
  | 0, _ => exact kX9_has_0
  | j + 1, h => omega)
set_option maxRecDepth 100000 in
theorem kX9_bring_0 : ((mX9_bring.2.2.2.2.2.2.2.drop (40 * 0)).take 40).all (px_chkI mX9_bring.1 mX9_bring.2.2.1 mX9_bring.2.1) = true := by decide +kernel
set_option maxRecDepth 100000 in
theorem kX9_bring : px_chk mX9_bring := px_chk_of 1 rfl (by decide +kernel) (by decide +kernel) (fun j hj => by
  match j, hj with
  | 0, _ => exact kX9_bring_0
  | j + 1, h => omega)
set_option maxRecDepth 100000 in
theorem kX9_stateOf_0 : ((mX9_stateOf.2.2.2.2.2.2.2.drop (40 * 0)).take 40).all (px_chkI mX9_stateOf.1 mX9_stateOf.2.2.1 mX9_stateOf.2.1) = true := by decide +kernel
set_option maxRecDepth 100000 in
theorem kX9_stateOf : px_chk mX9_stateOf := px_chk_of 1 rfl (by decide +kernel) (by decide +kernel) (fun j hj => by
  match j, hj with
  | 0, _ => exact kX9_stateOf_0
  | j + 1, h => omega)
set_option maxRecDepth 100000 in
theorem kX9_enter_0 : ((mX9_enter.2.2.2.2.2.2.2.drop (40 * 0)).take 40).all (px_chkI mX9_enter.1 mX9_enter.2.2.1 mX9_enter.2.1) = true := by decide +kernel
set_option maxRecDepth 100000 in
theorem kX9_enter : px_chk mX9_enter := px_chk_of 1 rfl (by decide +kernel) (by decide +kernel) (fun j hj => by
  match j, hj with
  | 0, _ => exact kX9_enter_0
  | j + 1, h => omega)
set_option maxRecDepth 100000 in
theorem kX9_placeOf_0 : ((mX9_placeOf.2.2.2.2.2.2.2.drop (40 * 0)).take 40).all (px_chkI mX9_placeOf.1 mX9_placeOf.2.2.1 mX9_placeOf.2.1) = true := by decide +kernel
set_option maxRecDepth 100000 in
theorem kX9_placeOf : px_chk mX9_placeOf := px_chk_of 1 rfl (by decide +kernel) (by decide +kernel) (fun j hj => by
  match j, hj with
  | 0, _ => exact kX9_placeOf_0
  | j + 1, h => omega)
set_option maxRecDepth 100000 in
theorem kX9_moveTo_0 : ((mX9_moveTo.2.2.2.2.2.2.2.drop (40 * 0)).take 40).all (px_chkI mX9_moveTo.1 mX9_moveTo.2.2.1 mX9_moveTo.2.1) = true := by decide +kernel
set_option maxRecDepth 100000 in
theorem kX9_moveTo : px_chk mX9_moveTo := px_chk_of 1 rfl (by decide +kernel) (by decide +kernel) (fun j hj => by
  match j, hj with
  | 0, _ => exact kX9_moveTo_0
  | j + 1, h => omega)
set_option maxRecDepth 100000 in
theorem kX10_init_0 : ((mX10_init.2.2.2.2.2.2.2.drop (40 * 0)).take 40).all (px_chkI mX10_init.1 mX10_init.2.2.1 mX10_init.2.1) = true := by decide +kernel
set_option maxRecDepth 100000 in
theorem kX10_init : px_chk mX10_init := px_chk_of 1 rfl (by decide +kernel) (by decide +kernel) (fun j hj => by
  match j, hj with
  | 0, _ => exact kX10_init_0
  | j + 1, h => omega)
set_option maxRecDepth 100000 in
theorem kX10_addObject_0 : ((mX10_addObject.2.2.2.2.2.2.2.drop (40 * 0)).take 40).all (px_chkI mX10_addObject.1 mX10_addObject.2.2.1 mX10_addObject.2.1) = true := by decide +kernel
set_option maxRecDepth 100000 in
theorem kX10_addObject : px_chk mX10_addObject := px_chk_of 1 rfl (by decide +kernel) (by decide +kernel) (fun j hj => by
  match j, hj with
  | 0, _ => exact kX10_addObject_0
  | j + 1, h => omega)
set_option maxRecDepth 100000 in
theorem kX10_addCall_0 : ((mX10_addCall.2.2.2.2.2.2.2.drop (40 * 0)).take 40).all (px_chkI mX10_addCall.1 mX10_addCall.2.2.1 mX10_addCall.2.1) = true := by decide +kernel
set_option maxRecDepth 100000 in
theorem kX10_addCall : px_chk mX10_addCall := px_chk_of 1 rfl (by decide +kernel) (by decide +kernel) (fun j hj => by
  match j, hj with
  | 0, _ => exact kX10_addCall_0
  | j + 1, h => omega)
set_option maxRecDepth 100000 in
theorem kX10_addLast_0 : ((mX10_addLast.2.2.2.2.2.2.2.drop (40 * 0)).take 40).all (px_chkI mX10_addLast.1 mX10_addLast.2.2.1 mX10_addLast.2.1) = true := by decide +kernel
set_option maxRecDepth 100000 in
theorem kX10_addLast : px_chk mX10_addLast := px_chk_of 1 rfl (by decide +kernel) (by decide +kernel) (fun j hj => by
  match j, hj with
  | 0, _ => exact kX10_addLast_0
  | j + 1, h => omega)
set_option maxRecDepth 100000 in
theorem kX10_objects_0 : ((mX10_objects.2.2.2.2.2.2.2.drop (40 * 0)).take 40).all (px_chkI mX10_objects.1 mX10_objects.2.2.1 mX10_objects.2.1) = true := by decide +kernel
set_option maxRecDepth 100000 in
theorem kX10_objects : px_chk mX10_objects := px_chk_of 1 rfl (by decide +kernel) (by decide +kernel) (fun j hj => by
  match j, hj with
  | 0, _ => exact kX10_objects_0
  | j + 1, h => omega)
set_option maxRecDepth 100000 in
theorem kX10_firsts_0 : ((mX10_firsts.2.2.2.2.2.2.2.drop (40 * 0)).take 40).all (px_chkI mX10_firsts.1 mX10_firsts.2.2.1 mX10_firsts.2.1) = true := by decide +kernel
set_option maxRecDepth 100000 in
theorem kX10_firsts : px_chk mX10_firsts := px_chk_of 1 rfl (by decide +kernel) (by decide +kernel) (fun j hj => by
  match j, hj with
  | 0, _ => exact kX10_firsts_0
  | j + 1, h => omega)
set_option maxRecDepth 100000 in
theorem kX10_lasts_0 : ((mX10_lasts.2.2.2.2.2.2.2.drop (40 * 0)).take 40).all (px_chkI mX10_lasts.1 mX10_lasts.2.2.1 mX10_lasts.2.1) = true := by decide +kernel
set_option maxRecDepth 100000 in
theorem kX10_lasts : px_chk mX10_lasts := px_chk_of 1 rfl (by decide +kernel) (by decide +kernel) (fun j hj => by
  match j, hj with
  | 0, _ => exact kX10_lasts_0
  | j + 1, h => omega)
set_option maxRecDepth 100000 in
theorem kX10_pairs_0 : ((mX10_pairs.2.2.2.2.2.2.2.drop (40 * 0)).take 40).all (px_chkI mX10_pairs.1 mX10_pairs.2.2.1 mX10_pairs.2.1) = true := by decide +kernel
set_option maxRecDepth 100000 in
theorem kX10_pairs : px_chk mX10_pairs := px_chk_of 1 rfl (by decide +kernel) (by decide +kernel) (fun j hj => by
  match j, hj with
  | 0, _ => exact kX10_pairs_0
  | j + 1, h => omega)
set_option maxRecDepth 100000 in
theorem kX10_clear_0 : ((mX10_clear.2.2.2.2.2.2.2.drop (40 * 0)).take 40).all (px_chkI mX10_clear.1 mX10_clear.2.2.1 mX10_clear.2.1) = true := by decide +kernel
set_option maxRecDepth 100000 in
theorem kX10_clear : px_chk mX10_clear := px_chk_of 1 rfl (by decide +kernel) (by decide +kernel) (fun j hj => by
  match j, hj with
  | 0, _ => exact kX10_clear_0
  | j + 1, h => omega)
set_option maxRecDepth 100000 in
theorem kX11_init_0 : ((mX11_init.2.2.2.2.2.2.2.drop (40 * 0)).take 40).all (px_chkI mX11_init.1 mX11_init.2.2.1 mX11_init.2.1) = true := by decide +kernel
set_option maxRecDepth 100000 in
theorem kX11_init_1 : ((mX11_init.2.2.2.2.2.2.2.drop (40 * 1)).take 40).all (px_chkI mX11_init.1 mX11_init.2.2.1 mX11_init.2.1) = true := by decide +kernel
set_option maxRecDepth 100000 in
theorem kX11_init : px_chk mX11_init := px_chk_of 2 rfl (by decide +kernel) (by decide +kernel) (fun j hj => by
  match j, hj with
  | 0, _ => exact kX11_init_0
  | 1, _ => exact kX11_init_1
  | j + 2, h => omega)
set_option maxRecDepth 100000 in
theorem kX11_feed_0 : ((mX11_feed.2.2.2.2.2.2.2.drop (40 * 0)).take 40).all (px_chkI mX11_feed.1 mX11_feed.2.2.1 mX11_feed.2.1) = true := by decide +kernel
set_option maxRecDepth 100000 in
theorem kX11_feed : px_chk mX11_feed := px_chk_of 1 rfl (by decide +kernel) (by decide +kernel) (fun j hj => by
  match j, hj with
  | 0, _ => exact kX11_feed_0
  | j + 1, h => omega)
set_option maxRecDepth 100000 in
theorem kX11_cut_0 : ((mX11_cut.2.2.2.2.2.2.2.drop (40 * 0)).take 40).all (px_chkI mX11_cut.1 mX11_cut.2.2.1 mX11_cut.2.1) = true := by decide +kernel
set_option maxRecDepth 100000 in
theorem kX11_cut : px_chk mX11_cut := px_chk_of 1 rfl (by decide +kernel) (by decide +kernel) (fun j hj => by
  match j, hj with
  | 0, _ => exact kX11_cut_0
  | j + 1, h => omega)
set_option maxRecDepth 100000 in
theorem kX11_read_0 : ((mX11_read.2.2.2.2.2.2.2.drop (40 * 0)).take 40).all (px_chkI mX11_read.1 mX11_read.2.2.1 mX11_read.2.1) = true := by decide +kernel
set_option maxRecDepth 100000 in
theorem kX11_read : px_chk mX11_read := px_chk_of 1 rfl (by decide +kernel) (by decide +kernel) (fun j hj => by
  match j, hj with
  | 0, _ => exact kX11_read_0
  | j + 1, h => omega)
set_option maxRecDepth 100000 in
theorem kX11_states_0 : ((mX11_states.2.2.2.2.2.2.2.drop (40 * 0)).take 40).all (px_chkI mX11_states.1 mX11_states.2.2.1 mX11_states.2.1) = true := by decide +kernel
set_option maxRecDepth 100000 in
theorem kX11_states : px_chk mX11_states := px_chk_of 1 rfl (by decide +kernel) (by decide +kernel) (fun j hj => by
  match j, hj with
  | 0, _ => exact kX11_states_0
  | j + 1, h => omega)
set_option maxRecDepth 100000 in
theorem kX11_next_0 : ((mX11_next.2.2.2.2.2.2.2.drop (40 * 0)).take 40).all (px_chkI mX11_next.1 mX11_next.2.2.1 mX11_next.2.1) = true := by decide +kernel
set_option maxRecDepth 100000 in
theorem kX11_next : px_chk mX11_next := px_chk_of 1 rfl (by decide +kernel) (by decide +kernel) (fun j hj => by
  match j, hj with
  | 0, _ => exact kX11_next_0
  | j + 1, h => omega)
set_option maxRecDepth 100000 in
theorem kX11_ends_0 : ((mX11_ends.2.2.2.2.2.2.2.drop (40 * 0)).take 40).all (px_chkI mX11_ends.1 mX11_ends.2.2.1 mX11_ends.2.1) = true := by decide +kernel
set_option maxRecDepth 100000 in
theorem kX11_ends : px_chk mX11_ends := px_chk_of 1 rfl (by decide +kernel) (by decide +kernel) (fun j hj => by
  match j, hj with
  | 0, _ => exact kX11_ends_0
  | j + 1, h => omega)
set_option maxRecDepth 100000 in
theorem kX11_sees_0 : ((mX11_sees.2.2.2.2.2.2.2.drop (40 * 0)).take 40).all (px_chkI mX11_sees.1 mX11_sees.2.2.1 mX11_sees.2.1) = true := by decide +kernel
set_option maxRecDepth 100000 in
theorem kX11_sees : px_chk mX11_sees := px_chk_of 1 rfl (by decide +kernel) (by decide +kernel) (fun j hj => by
  match j, hj with
  | 0, _ => exact kX11_sees_0
  | j + 1, h => omega)
set_option maxRecDepth 100000 in
theorem kX11_compare_0 : ((mX11_compare.2.2.2.2.2.2.2.drop (40 * 0)).take 40).all (px_chkI mX11_compare.1 mX11_compare.2.2.1 mX11_compare.2.1) = true := by decide +kernel
set_option maxRecDepth 100000 in
theorem kX11_compare : px_chk mX11_compare := px_chk_of 1 rfl (by decide +kernel) (by decide +kernel) (fun j hj => by
  match j, hj with
  | 0, _ => exact kX11_compare_0
  | j + 1, h => omega)
set_option maxRecDepth 100000 in
theorem kX11_witness_0 : ((mX11_witness.2.2.2.2.2.2.2.drop (40 * 0)).take 40).all (px_chkI mX11_witness.1 mX11_witness.2.2.1 mX11_witness.2.1) = true := by decide +kernel
set_option maxRecDepth 100000 in
theorem kX11_witness : px_chk mX11_witness := px_chk_of 1 rfl (by decide +kernel) (by decide +kernel) (fun j hj => by
  match j, hj with
  | 0, _ => exact kX11_witness_0
  | j + 1, h => omega)
set_option maxRecDepth 100000 in
theorem kX11_step_0 : ((mX11_step.2.2.2.2.2.2.2.drop (40 * 0)).take 40).all (px_chkI mX11_step.1 mX11_step.2.2.1 mX11_step.2.1) = true := by decide +kernel
set_option maxRecDepth 100000 in
theorem kX11_step : px_chk mX11_step := px_chk_of 1 rfl (by decide +kernel) (by decide +kernel) (fun j hj => by
  match j, hj with
  | 0, _ => exact kX11_step_0
  | j + 1, h => omega)
set_option maxRecDepth 100000 in
theorem kX11_plain_0 : ((mX11_plain.2.2.2.2.2.2.2.drop (40 * 0)).take 40).all (px_chkI mX11_plain.1 mX11_plain.2.2.1 mX11_plain.2.1) = true := by decide +kernel
set_option maxRecDepth 100000 in
theorem kX11_plain : px_chk mX11_plain := px_chk_of 1 rfl (by decide +kernel) (by decide +kernel) (fun j hj => by
  match j, hj with
  | 0, _ => exact kX11_plain_0
  | j + 1, h => omega)
set_option maxRecDepth 100000 in
theorem kX11_infer_0 : ((mX11_infer.2.2.2.2.2.2.2.drop (40 * 0)).take 40).all (px_chkI mX11_infer.1 mX11_infer.2.2.1 mX11_infer.2.1) = true := by decide +kernel
set_option maxRecDepth 100000 in
theorem kX11_infer : px_chk mX11_infer := px_chk_of 1 rfl (by decide +kernel) (by decide +kernel) (fun j hj => by
  match j, hj with
  | 0, _ => exact kX11_infer_0
  | j + 1, h => omega)
set_option maxRecDepth 100000 in
theorem kX11_op_0 : ((mX11_op.2.2.2.2.2.2.2.drop (40 * 0)).take 40).all (px_chkI mX11_op.1 mX11_op.2.2.1 mX11_op.2.1) = true := by decide +kernel
set_option maxRecDepth 100000 in
theorem kX11_op : px_chk mX11_op := px_chk_of 1 rfl (by decide +kernel) (by decide +kernel) (fun j hj => by
  match j, hj with
  | 0, _ => exact kX11_op_0
  | j + 1, h => omega)
set_option maxRecDepth 100000 in
theorem kX11_wipe_0 : ((mX11_wipe.2.2.2.2.2.2.2.drop (40 * 0)).take 40).all (px_chkI mX11_wipe.1 mX11_wipe.2.2.1 mX11_wipe.2.1) = true := by decide +kernel
set_option maxRecDepth 100000 in
theorem kX11_wipe : px_chk mX11_wipe := px_chk_of 1 rfl (by decide +kernel) (by decide +kernel) (fun j hj => by
  match j, hj with
  | 0, _ => exact kX11_wipe_0
  | j + 1, h => omega)
set_option maxRecDepth 100000 in
theorem kX11_judge_0 : ((mX11_judge.2.2.2.2.2.2.2.drop (40 * 0)).take 40).all (px_chkI mX11_judge.1 mX11_judge.2.2.1 mX11_judge.2.1) = true := by decide +kernel
set_option maxRecDepth 100000 in
theorem kX11_judge_1 : ((mX11_judge.2.2.2.2.2.2.2.drop (40 * 1)).take 40).all (px_chkI mX11_judge.1 mX11_judge.2.2.1 mX11_judge.2.1) = true := by decide +kernel
set_option maxRecDepth 100000 in
theorem kX11_judge : px_chk mX11_judge := px_chk_of 2 rfl (by decide +kernel) (by decide +kernel) (fun j hj => by
  match j, hj with
  | 0, _ => exact kX11_judge_0
  | 1, _ => exact kX11_judge_1
  | j + 2, h => omega)
set_option maxRecDepth 100000 in
theorem kX11_shapes_0 : ((mX11_shapes.2.2.2.2.2.2.2.drop (40 * 0)).take 40).all (px_chkI mX11_shapes.1 mX11_shapes.2.2.1 mX11_shapes.2.1) = true := by decide +kernel
set_option maxRecDepth 100000 in
theorem kX11_shapes : px_chk mX11_shapes := px_chk_of 1 rfl (by decide +kernel) (by decide +kernel) (fun j hj => by
  match j, hj with
  | 0, _ => exact kX11_shapes_0
  | j + 1, h => omega)
set_option maxRecDepth 100000 in
theorem kX11_way_0 : ((mX11_way.2.2.2.2.2.2.2.drop (40 * 0)).take 40).all (px_chkI mX11_way.1 mX11_way.2.2.1 mX11_way.2.1) = true := by decide +kernel
set_option maxRecDepth 100000 in
theorem kX11_way : px_chk mX11_way := px_chk_of 1 rfl (by decide +kernel) (by decide +kernel) (fun j hj => by
  match j, hj with
  | 0, _ => exact kX11_way_0
  | j + 1, h => omega)
set_option maxRecDepth 100000 in
theorem kX11_draw_0 : ((mX11_draw.2.2.2.2.2.2.2.drop (40 * 0)).take 40).all (px_chkI mX11_draw.1 mX11_draw.2.2.1 mX11_draw.2.1) = true := by decide +kernel
set_option maxRecDepth 100000 in
theorem kX11_draw_1 : ((mX11_draw.2.2.2.2.2.2.2.drop (40 * 1)).take 40).all (px_chkI mX11_draw.1 mX11_draw.2.2.1 mX11_draw.2.1) = true := by decide +kernel
set_option maxRecDepth 100000 in
theorem kX11_draw : px_chk mX11_draw := px_chk_of 2 rfl (by decide +kernel) (by decide +kernel) (fun j hj => by
  match j, hj with
  | 0, _ => exact kX11_draw_0
  | 1, _ => exact kX11_draw_1
  | j + 2, h => omega)
set_option maxRecDepth 100000 in
theorem kX11_counted_0 : ((mX11_counted.2.2.2.2.2.2.2.drop (40 * 0)).take 40).all (px_chkI mX11_counted.1 mX11_counted.2.2.1 mX11_counted.2.1) = true := by decide +kernel
set_option maxRecDepth 100000 in
theorem kX11_counted_1 : ((mX11_counted.2.2.2.2.2.2.2.drop (40 * 1)).take 40).all (px_chkI mX11_counted.1 mX11_counted.2.2.1 mX11_counted.2.1) = true := by decide +kernel
set_option maxRecDepth 100000 in
theorem kX11_counted : px_chk mX11_counted := px_chk_of 2 rfl (by decide +kernel) (by decide +kernel) (fun j hj => by
  match j, hj with
  | 0, _ => exact kX11_counted_0
  | 1, _ => exact kX11_counted_1
  | j + 2, h => omega)
set_option maxRecDepth 100000 in
theorem kX11_forget_0 : ((mX11_forget.2.2.2.2.2.2.2.drop (40 * 0)).take 40).all (px_chkI mX11_forget.1 mX11_forget.2.2.1 mX11_forget.2.1) = true := by decide +kernel
set_option maxRecDepth 100000 in
theorem kX11_forget : px_chk mX11_forget := px_chk_of 1 rfl (by decide +kernel) (by decide +kernel) (fun j hj => by
  match j, hj with
  | 0, _ => exact kX11_forget_0
  | j + 1, h => omega)
set_option maxRecDepth 100000 in
theorem kX11_told_0 : ((mX11_told.2.2.2.2.2.2.2.drop (40 * 0)).take 40).all (px_chkI mX11_told.1 mX11_told.2.2.1 mX11_told.2.1) = true := by decide +kernel
set_option maxRecDepth 100000 in
theorem kX11_told_1 : ((mX11_told.2.2.2.2.2.2.2.drop (40 * 1)).take 40).all (px_chkI mX11_told.1 mX11_told.2.2.1 mX11_told.2.1) = true := by decide +kernel
set_option maxRecDepth 100000 in
theorem kX11_told : px_chk mX11_told := px_chk_of 2 rfl (by decide +kernel) (by decide +kernel) (fun j hj => by
  match j, hj with
  | 0, _ => exact kX11_told_0
  | 1, _ => exact kX11_told_1
  | j + 2, h => omega)
set_option maxRecDepth 100000 in
theorem kX11_below_0 : ((mX11_below.2.2.2.2.2.2.2.drop (40 * 0)).take 40).all (px_chkI mX11_below.1 mX11_below.2.2.1 mX11_below.2.1) = true := by decide +kernel
set_option maxRecDepth 100000 in
theorem kX11_below : px_chk mX11_below := px_chk_of 1 rfl (by decide +kernel) (by decide +kernel) (fun j hj => by
  match j, hj with
  | 0, _ => exact kX11_below_0
  | j + 1, h => omega)
set_option maxRecDepth 100000 in
theorem kX11_isText_0 : ((mX11_isText.2.2.2.2.2.2.2.drop (40 * 0)).take 40).all (px_chkI mX11_isText.1 mX11_isText.2.2.1 mX11_isText.2.1) = true := by decide +kernel
set_option maxRecDepth 100000 in
theorem kX11_isText : px_chk mX11_isText := px_chk_of 1 rfl (by decide +kernel) (by decide +kernel) (fun j hj => by
  match j, hj with
  | 0, _ => exact kX11_isText_0
  | j + 1, h => omega)
set_option maxRecDepth 100000 in
theorem kX11_append_0 : ((mX11_append.2.2.2.2.2.2.2.drop (40 * 0)).take 40).all (px_chkI mX11_append.1 mX11_append.2.2.1 mX11_append.2.1) = true := by decide +kernel
set_option maxRecDepth 100000 in
theorem kX11_append : px_chk mX11_append := px_chk_of 1 rfl (by decide +kernel) (by decide +kernel) (fun j hj => by
  match j, hj with
  | 0, _ => exact kX11_append_0
  | j + 1, h => omega)
set_option maxRecDepth 100000 in
theorem kX11_machineOf_0 : ((mX11_machineOf.2.2.2.2.2.2.2.drop (40 * 0)).take 40).all (px_chkI mX11_machineOf.1 mX11_machineOf.2.2.1 mX11_machineOf.2.1) = true := by decide +kernel
set_option maxRecDepth 100000 in
theorem kX11_machineOf : px_chk mX11_machineOf := px_chk_of 1 rfl (by decide +kernel) (by decide +kernel) (fun j hj => by
  match j, hj with
  | 0, _ => exact kX11_machineOf_0
  | j + 1, h => omega)
set_option maxRecDepth 100000 in
theorem kX11_keep_0 : ((mX11_keep.2.2.2.2.2.2.2.drop (40 * 0)).take 40).all (px_chkI mX11_keep.1 mX11_keep.2.2.1 mX11_keep.2.1) = true := by decide +kernel
set_option maxRecDepth 100000 in
theorem kX11_keep : px_chk mX11_keep := px_chk_of 1 rfl (by decide +kernel) (by decide +kernel) (fun j hj => by
  match j, hj with
  | 0, _ => exact kX11_keep_0
  | j + 1, h => omega)
set_option maxRecDepth 100000 in
theorem kX11_fits_0 : ((mX11_fits.2.2.2.2.2.2.2.drop (40 * 0)).take 40).all (px_chkI mX11_fits.1 mX11_fits.2.2.1 mX11_fits.2.1) = true := by decide +kernel
set_option maxRecDepth 100000 in
theorem kX11_fits_1 : ((mX11_fits.2.2.2.2.2.2.2.drop (40 * 1)).take 40).all (px_chkI mX11_fits.1 mX11_fits.2.2.1 mX11_fits.2.1) = true := by decide +kernel
set_option maxRecDepth 100000 in
theorem kX11_fits : px_chk mX11_fits := px_chk_of 2 rfl (by decide +kernel) (by decide +kernel) (fun j hj => by
  match j, hj with
  | 0, _ => exact kX11_fits_0
  | 1, _ => exact kX11_fits_1
  | j + 2, h => omega)
