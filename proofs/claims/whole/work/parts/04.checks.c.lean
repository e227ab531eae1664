set_option maxRecDepth 100000 in
theorem kX12_init_0 : ((mX12_init.2.2.2.2.2.2.2.drop (40 * 0)).take 40).all (px_chkI mX12_init.1 mX12_init.2.2.1 mX12_init.2.1) = true := by decide +kernel
set_option maxRecDepth 100000 in
theorem kX12_init_1 : ((mX12_init.2.2.2.2.2.2.2.drop (40 * 1)).take 40).all (px_chkI mX12_init.1 mX12_init.2.2.1 mX12_init.2.1) = true := by decide +kernel
set_option maxRecDepth 100000 in
theorem kX12_init_2 : ((mX12_init.2.2.2.2.2.2.2.drop (40 * 2)).take 40).all (px_chkI mX12_init.1 mX12_init.2.2.1 mX12_init.2.1) = true := by decide +kernel
set_option maxRecDepth 100000 in
theorem kX12_init_3 : ((mX12_init.2.2.2.2.2.2.2.drop (40 * 3)).take 40).all (px_chkI mX12_init.1 mX12_init.2.2.1 mX12_init.2.1) = true := by decide +kernel
set_option maxRecDepth 100000 in
theorem kX12_init_4 : ((mX12_init.2.2.2.2.2.2.2.drop (40 * 4)).take 40).all (px_chkI mX12_init.1 mX12_init.2.2.1 mX12_init.2.1) = true := by decide +kernel
set_option maxRecDepth 100000 in
theorem kX12_init_5 : ((mX12_init.2.2.2.2.2.2.2.drop (40 * 5)).take 40).all (px_chkI mX12_init.1 mX12_init.2.2.1 mX12_init.2.1) = true := by decide +kernel
set_option maxRecDepth 100000 in
theorem kX12_init : px_chk mX12_init := px_chk_of 6 rfl (by decide +kernel) (by decide +kernel) (fun j hj => by
  match j, hj with
  | 0, _ => exact kX12_init_0
  | 1, _ => exact kX12_init_1
  | 2, _ => exact kX12_init_2
  | 3, _ => exact kX12_init_3
  | 4, _ => exact kX12_init_4
  | 5, _ => exact kX12_init_5
  | j + 6, h => omega)
set_option maxRecDepth 100000 in
theorem kX12_in_0 : ((mX12_in.2.2.2.2.2.2.2.drop (40 * 0)).take 40).all (px_chkI mX12_in.1 mX12_in.2.2.1 mX12_in.2.1) = true := by decide +kernel
set_option maxRecDepth 100000 in
theorem kX12_in : px_chk mX12_in := px_chk_of 1 rfl (by decide +kernel) (by decide +kernel) (fun j hj => by
  match j, hj with
  | 0, _ => exact kX12_in_0
  | j + 1, h => omega)
set_option maxRecDepth 100000 in
theorem kX12_isText_0 : ((mX12_isText.2.2.2.2.2.2.2.drop (40 * 0)).take 40).all (px_chkI mX12_isText.1 mX12_isText.2.2.1 mX12_isText.2.1) = true := by decide +kernel
set_option maxRecDepth 100000 in
theorem kX12_isText : px_chk mX12_isText := px_chk_of 1 rfl (by decide +kernel) (by decide +kernel) (fun j hj => by
  match j, hj with
  | 0, _ => exact kX12_isText_0
  | j + 1, h => omega)
set_option maxRecDepth 100000 in
theorem kX12_feed_0 : ((mX12_feed.2.2.2.2.2.2.2.drop (40 * 0)).take 40).all (px_chkI mX12_feed.1 mX12_feed.2.2.1 mX12_feed.2.1) = true := by decide +kernel
set_option maxRecDepth 100000 in
theorem kX12_feed_1 : ((mX12_feed.2.2.2.2.2.2.2.drop (40 * 1)).take 40).all (px_chkI mX12_feed.1 mX12_feed.2.2.1 mX12_feed.2.1) = true := by decide +kernel
set_option maxRecDepth 100000 in
theorem kX12_feed : px_chk mX12_feed := px_chk_of 2 rfl (by decide +kernel) (by decide +kernel) (fun j hj => by
  match j, hj with
  | 0, _ => exact kX12_feed_0
  | 1, _ => exact kX12_feed_1
  | j + 2, h => omega)
set_option maxRecDepth 100000 in
theorem kX12_cut_0 : ((mX12_cut.2.2.2.2.2.2.2.drop (40 * 0)).take 40).all (px_chkI mX12_cut.1 mX12_cut.2.2.1 mX12_cut.2.1) = true := by decide +kernel
set_option maxRecDepth 100000 in
theorem kX12_cut : px_chk mX12_cut := px_chk_of 1 rfl (by decide +kernel) (by decide +kernel) (fun j hj => by
  match j, hj with
  | 0, _ => exact kX12_cut_0
  | j + 1, h => omega)
set_option maxRecDepth 100000 in
theorem kX12_nothing_0 : ((mX12_nothing.2.2.2.2.2.2.2.drop (40 * 0)).take 40).all (px_chkI mX12_nothing.1 mX12_nothing.2.2.1 mX12_nothing.2.1) = true := by decide +kernel
set_option maxRecDepth 100000 in
theorem kX12_nothing : px_chk mX12_nothing := px_chk_of 1 rfl (by decide +kernel) (by decide +kernel) (fun j hj => by
  match j, hj with
  | 0, _ => exact kX12_nothing_0
  | j + 1, h => omega)
set_option maxRecDepth 100000 in
theorem kX12_copy_0 : ((mX12_copy.2.2.2.2.2.2.2.drop (40 * 0)).take 40).all (px_chkI mX12_copy.1 mX12_copy.2.2.1 mX12_copy.2.1) = true := by decide +kernel
set_option maxRecDepth 100000 in
theorem kX12_copy_1 : ((mX12_copy.2.2.2.2.2.2.2.drop (40 * 1)).take 40).all (px_chkI mX12_copy.1 mX12_copy.2.2.1 mX12_copy.2.1) = true := by decide +kernel
set_option maxRecDepth 100000 in
theorem kX12_copy : px_chk mX12_copy := px_chk_of 2 rfl (by decide +kernel) (by decide +kernel) (fun j hj => by
  match j, hj with
  | 0, _ => exact kX12_copy_0
  | 1, _ => exact kX12_copy_1
  | j + 2, h => omega)
set_option maxRecDepth 100000 in
theorem kX12_lead_0 : ((mX12_lead.2.2.2.2.2.2.2.drop (40 * 0)).take 40).all (px_chkI mX12_lead.1 mX12_lead.2.2.1 mX12_lead.2.1) = true := by decide +kernel
set_option maxRecDepth 100000 in
theorem kX12_lead_1 : ((mX12_lead.2.2.2.2.2.2.2.drop (40 * 1)).take 40).all (px_chkI mX12_lead.1 mX12_lead.2.2.1 mX12_lead.2.1) = true := by decide +kernel
set_option maxRecDepth 100000 in
theorem kX12_lead : px_chk mX12_lead := px_chk_of 2 rfl (by decide +kernel) (by decide +kernel) (fun j hj => by
  match j, hj with
  | 0, _ => exact kX12_lead_0
  | 1, _ => exact kX12_lead_1
  | j + 2, h => omega)
set_option maxRecDepth 100000 in
theorem kX12_join_0 : ((mX12_join.2.2.2.2.2.2.2.drop (40 * 0)).take 40).all (px_chkI mX12_join.1 mX12_join.2.2.1 mX12_join.2.1) = true := by decide +kernel
set_option maxRecDepth 100000 in
theorem kX12_join_1 : ((mX12_join.2.2.2.2.2.2.2.drop (40 * 1)).take 40).all (px_chkI mX12_join.1 mX12_join.2.2.1 mX12_join.2.1) = true := by decide +kernel
set_option maxRecDepth 100000 in
theorem kX12_join_2 : ((mX12_join.2.2.2.2.2.2.2.drop (40 * 2)).take 40).all (px_chkI mX12_join.1 mX12_join.2.2.1 mX12_join.2.1) = true := by decide +kernel
set_option maxRecDepth 100000 in
theorem kX12_join : px_chk mX12_join := px_chk_of 3 rfl (by decide +kernel) (by decide +kernel) (fun j hj => by
  match j, hj with
  | 0, _ => exact kX12_join_0
  | 1, _ => exact kX12_join_1
  | 2, _ => exact kX12_join_2
  | j + 3, h => omega)
set_option maxRecDepth 100000 in
theorem kX12_takePiece_0 : ((mX12_takePiece.2.2.2.2.2.2.2.drop (40 * 0)).take 40).all (px_chkI mX12_takePiece.1 mX12_takePiece.2.2.1 mX12_takePiece.2.1) = true := by decide +kernel
set_option maxRecDepth 100000 in
theorem kX12_takePiece : px_chk mX12_takePiece := px_chk_of 1 rfl (by decide +kernel) (by decide +kernel) (fun j hj => by
  match j, hj with
  | 0, _ => exact kX12_takePiece_0
  | j + 1, h => omega)
set_option maxRecDepth 100000 in
theorem kX12_takeSequence_0 : ((mX12_takeSequence.2.2.2.2.2.2.2.drop (40 * 0)).take 40).all (px_chkI mX12_takeSequence.1 mX12_takeSequence.2.2.1 mX12_takeSequence.2.1) = true := by decide +kernel
set_option maxRecDepth 100000 in
theorem kX12_takeSequence_1 : ((mX12_takeSequence.2.2.2.2.2.2.2.drop (40 * 1)).take 40).all (px_chkI mX12_takeSequence.1 mX12_takeSequence.2.2.1 mX12_takeSequence.2.1) = true := by decide +kernel
set_option maxRecDepth 100000 in
theorem kX12_takeSequence_2 : ((mX12_takeSequence.2.2.2.2.2.2.2.drop (40 * 2)).take 40).all (px_chkI mX12_takeSequence.1 mX12_takeSequence.2.2.1 mX12_takeSequence.2.1) = true := by decide +kernel
set_option maxRecDepth 100000 in
theorem kX12_takeSequence : px_chk mX12_takeSequence := px_chk_of 3 rfl (by decide +kernel) (by decide +kernel) (fun j hj => by
  match j, hj with
  | 0, _ => exact kX12_takeSequence_0
  | 1, _ => exact kX12_takeSequence_1
  | 2, _ => exact kX12_takeSequence_2
  | j + 3, h => omega)
set_option maxRecDepth 100000 in
theorem kX12_openLevel_0 : ((mX12_openLevel.2.2.2.2.2.2.2.drop (40 * 0)).take 40).all (px_chkI mX12_openLevel.1 mX12_openLevel.2.2.1 mX12_openLevel.2.1) = true := by decide +kernel
set_option maxRecDepth 100000 in
theorem kX12_openLevel : px_chk mX12_openLevel := px_chk_of 1 rfl (by decide +kernel) (by decide +kernel) (fun j hj => by
  match j, hj with
  | 0, _ => exact kX12_openLevel_0
  | j + 1, h => omega)
set_option maxRecDepth 100000 in
theorem kX12_atom_0 : ((mX12_atom.2.2.2.2.2.2.2.drop (40 * 0)).take 40).all (px_chkI mX12_atom.1 mX12_atom.2.2.1 mX12_atom.2.1) = true := by decide +kernel
set_option maxRecDepth 100000 in
theorem kX12_atom_1 : ((mX12_atom.2.2.2.2.2.2.2.drop (40 * 1)).take 40).all (px_chkI mX12_atom.1 mX12_atom.2.2.1 mX12_atom.2.1) = true := by decide +kernel
set_option maxRecDepth 100000 in
theorem kX12_atom : px_chk mX12_atom := px_chk_of 2 rfl (by decide +kernel) (by decide +kernel) (fun j hj => by
  match j, hj with
  | 0, _ => exact kX12_atom_0
  | 1, _ => exact kX12_atom_1
  | j + 2, h => omega)
set_option maxRecDepth 100000 in
theorem kX12_parse_0 : ((mX12_parse.2.2.2.2.2.2.2.drop (40 * 0)).take 40).all (px_chkI mX12_parse.1 mX12_parse.2.2.1 mX12_parse.2.1) = true := by decide +kernel
set_option maxRecDepth 100000 in
theorem kX12_parse_1 : ((mX12_parse.2.2.2.2.2.2.2.drop (40 * 1)).take 40).all (px_chkI mX12_parse.1 mX12_parse.2.2.1 mX12_parse.2.1) = true := by decide +kernel
set_option maxRecDepth 100000 in
theorem kX12_parse_2 : ((mX12_parse.2.2.2.2.2.2.2.drop (40 * 2)).take 40).all (px_chkI mX12_parse.1 mX12_parse.2.2.1 mX12_parse.2.1) = true := by decide +kernel
set_option maxRecDepth 100000 in
theorem kX12_parse_3 : ((mX12_parse.2.2.2.2.2.2.2.drop (40 * 3)).take 40).all (px_chkI mX12_parse.1 mX12_parse.2.2.1 mX12_parse.2.1) = true := by decide +kernel
set_option maxRecDepth 100000 in
theorem kX12_parse_4 : ((mX12_parse.2.2.2.2.2.2.2.drop (40 * 4)).take 40).all (px_chkI mX12_parse.1 mX12_parse.2.2.1 mX12_parse.2.1) = true := by decide +kernel
set_option maxRecDepth 100000 in
theorem kX12_parse : px_chk mX12_parse := px_chk_of 5 rfl (by decide +kernel) (by decide +kernel) (fun j hj => by
  match j, hj with
  | 0, _ => exact kX12_parse_0
  | 1, _ => exact kX12_parse_1
  | 2, _ => exact kX12_parse_2
  | 3, _ => exact kX12_parse_3
  | 4, _ => exact kX12_parse_4
  | j + 5, h => omega)
set_option maxRecDepth 100000 in
theorem kX12_findSet_0 : ((mX12_findSet.2.2.2.2.2.2.2.drop (40 * 0)).take 40).all (px_chkI mX12_findSet.1 mX12_findSet.2.2.1 mX12_findSet.2.1) = true := by decide +kernel
set_option maxRecDepth 100000 in
theorem kX12_findSet_1 : ((mX12_findSet.2.2.2.2.2.2.2.drop (40 * 1)).take 40).all (px_chkI mX12_findSet.1 mX12_findSet.2.2.1 mX12_findSet.2.1) = true := by decide +kernel
set_option maxRecDepth 100000 in
theorem kX12_findSet : px_chk mX12_findSet := px_chk_of 2 rfl (by decide +kernel) (by decide +kernel) (fun j hj => by
  match j, hj with
  | 0, _ => exact kX12_findSet_0
  | 1, _ => exact kX12_findSet_1
  | j + 2, h => omega)
set_option maxRecDepth 100000 in
theorem kX12_isTaken_0 : ((mX12_isTaken.2.2.2.2.2.2.2.drop (40 * 0)).take 40).all (px_chkI mX12_isTaken.1 mX12_isTaken.2.2.1 mX12_isTaken.2.1) = true := by decide +kernel
set_option maxRecDepth 100000 in
theorem kX12_isTaken : px_chk mX12_isTaken := px_chk_of 1 rfl (by decide +kernel) (by decide +kernel) (fun j hj => by
  match j, hj with
  | 0, _ => exact kX12_isTaken_0
  | j + 1, h => omega)
set_option maxRecDepth 100000 in
theorem kX12_makeSets_0 : ((mX12_makeSets.2.2.2.2.2.2.2.drop (40 * 0)).take 40).all (px_chkI mX12_makeSets.1 mX12_makeSets.2.2.1 mX12_makeSets.2.1) = true := by decide +kernel
set_option maxRecDepth 100000 in
theorem kX12_makeSets_1 : ((mX12_makeSets.2.2.2.2.2.2.2.drop (40 * 1)).take 40).all (px_chkI mX12_makeSets.1 mX12_makeSets.2.2.1 mX12_makeSets.2.1) = true := by decide +kernel
set_option maxRecDepth 100000 in
theorem kX12_makeSets_2 : ((mX12_makeSets.2.2.2.2.2.2.2.drop (40 * 2)).take 40).all (px_chkI mX12_makeSets.1 mX12_makeSets.2.2.1 mX12_makeSets.2.1) = true := by decide +kernel
set_option maxRecDepth 100000 in
theorem kX12_makeSets_3 : ((mX12_makeSets.2.2.2.2.2.2.2.drop (40 * 3)).take 40).all (px_chkI mX12_makeSets.1 mX12_makeSets.2.2.1 mX12_makeSets.2.1) = true := by decide +kernel
set_option maxRecDepth 100000 in
theorem kX12_makeSets_4 : ((mX12_makeSets.2.2.2.2.2.2.2.drop (40 * 4)).take 40).all (px_chkI mX12_makeSets.1 mX12_makeSets.2.2.1 mX12_makeSets.2.1) = true := by decide +kernel
set_option maxRecDepth 100000 in
theorem kX12_makeSets_5 : ((mX12_makeSets.2.2.2.2.2.2.2.drop (40 * 5)).take 40).all (px_chkI mX12_makeSets.1 mX12_makeSets.2.2.1 mX12_makeSets.2.1) = true := by decide +kernel
set_option maxRecDepth 100000 in
theorem kX12_makeSets : px_chk mX12_makeSets := px_chk_of 6 rfl (by decide +kernel) (by decide +kernel) (fun j hj => by
  match j, hj with
  | 0, _ => exact kX12_makeSets_0
  | 1, _ => exact kX12_makeSets_1
  | 2, _ => exact kX12_makeSets_2
  | 3, _ => exact kX12_makeSets_3
  | 4, _ => exact kX12_makeSets_4
  | 5, _ => exact kX12_makeSets_5
  | j + 6, h => omega)
set_option maxRecDepth 100000 in
theorem kX12_partAt_0 : ((mX12_partAt.2.2.2.2.2.2.2.drop (40 * 0)).take 40).all (px_chkI mX12_partAt.1 mX12_partAt.2.2.1 mX12_partAt.2.1) = true := by decide +kernel
set_option maxRecDepth 100000 in
theorem kX12_partAt : px_chk mX12_partAt := px_chk_of 1 rfl (by decide +kernel) (by decide +kernel) (fun j hj => by
  match j, hj with
  | 0, _ => exact kX12_partAt_0
  | j + 1, h => omega)
set_option maxRecDepth 100000 in
theorem kX12_isLike_0 : ((mX12_isLike.2.2.2.2.2.2.2.drop (40 * 0)).take 40).all (px_chkI mX12_isLike.1 mX12_isLike.2.2.1 mX12_isLike.2.1) = true := by decide +kernel
set_option maxRecDepth 100000 in
theorem kX12_isLike : px_chk mX12_isLike := px_chk_of 1 rfl (by decide +kernel) (by decide +kernel) (fun j hj => by
  match j, hj with
  | 0, _ => exact kX12_isLike_0
  | j + 1, h => omega)
set_option maxRecDepth 100000 in
theorem kX12_partStates_0 : ((mX12_partStates.2.2.2.2.2.2.2.drop (40 * 0)).take 40).all (px_chkI mX12_partStates.1 mX12_partStates.2.2.1 mX12_partStates.2.1) = true := by decide +kernel
set_option maxRecDepth 100000 in
theorem kX12_partStates_1 : ((mX12_partStates.2.2.2.2.2.2.2.drop (40 * 1)).take 40).all (px_chkI mX12_partStates.1 mX12_partStates.2.2.1 mX12_partStates.2.1) = true := by decide +kernel
set_option maxRecDepth 100000 in
theorem kX12_partStates_2 : ((mX12_partStates.2.2.2.2.2.2.2.drop (40 * 2)).take 40).all (px_chkI mX12_partStates.1 mX12_partStates.2.2.1 mX12_partStates.2.1) = true := by decide +kernel
set_option maxRecDepth 100000 in
theorem kX12_partStates : px_chk mX12_partStates := px_chk_of 3 rfl (by decide +kernel) (by decide +kernel) (fun j hj => by
  match j, hj with
  | 0, _ => exact kX12_partStates_0
  | 1, _ => exact kX12_partStates_1
  | 2, _ => exact kX12_partStates_2
  | j + 3, h => omega)
set_option maxRecDepth 100000 in
theorem kX12_makeMachine_0 : ((mX12_makeMachine.2.2.2.2.2.2.2.drop (40 * 0)).take 40).all (px_chkI mX12_makeMachine.1 mX12_makeMachine.2.2.1 mX12_makeMachine.2.1) = true := by decide +kernel
set_option maxRecDepth 100000 in
theorem kX12_makeMachine_1 : ((mX12_makeMachine.2.2.2.2.2.2.2.drop (40 * 1)).take 40).all (px_chkI mX12_makeMachine.1 mX12_makeMachine.2.2.1 mX12_makeMachine.2.1) = true := by decide +kernel
set_option maxRecDepth 100000 in
theorem kX12_makeMachine_2 : ((mX12_makeMachine.2.2.2.2.2.2.2.drop (40 * 2)).take 40).all (px_chkI mX12_makeMachine.1 mX12_makeMachine.2.2.1 mX12_makeMachine.2.1) = true := by decide +kernel
set_option maxRecDepth 100000 in
theorem kX12_makeMachine_3 : ((mX12_makeMachine.2.2.2.2.2.2.2.drop (40 * 3)).take 40).all (px_chkI mX12_makeMachine.1 mX12_makeMachine.2.2.1 mX12_makeMachine.2.1) = true := by decide +kernel
set_option maxRecDepth 100000 in
theorem kX12_makeMachine_4 : ((mX12_makeMachine.2.2.2.2.2.2.2.drop (40 * 4)).take 40).all (px_chkI mX12_makeMachine.1 mX12_makeMachine.2.2.1 mX12_makeMachine.2.1) = true := by decide +kernel
set_option maxRecDepth 100000 in
theorem kX12_makeMachine : px_chk mX12_makeMachine := px_chk_of 5 rfl (by decide +kernel) (by decide +kernel) (fun j hj => by
  match j, hj with
  | 0, _ => exact kX12_makeMachine_0
  | 1, _ => exact kX12_makeMachine_1
  | 2, _ => exact kX12_makeMachine_2
  | 3, _ => exact kX12_makeMachine_3
  | 4, _ => exact kX12_makeMachine_4
  | j + 5, h => omega)
set_option maxRecDepth 100000 in
theorem kX12_read_0 : ((mX12_read.2.2.2.2.2.2.2.drop (40 * 0)).take 40).all (px_chkI mX12_read.1 mX12_read.2.2.1 mX12_read.2.1) = true := by decide +kernel
set_option maxRecDepth 100000 in
theorem kX12_read : px_chk mX12_read := px_chk_of 1 rfl (by decide +kernel) (by decide +kernel) (fun j hj => by
  match j, hj with
  | 0, _ => exact kX12_read_0
  | j + 1, h => omega)
set_option maxRecDepth 100000 in
theorem kX12_isMachine_0 : ((mX12_isMachine.2.2.2.2.2.2.2.drop (40 * 0)).take 40).all (px_chkI mX12_isMachine.1 mX12_isMachine.2.2.1 mX12_isMachine.2.1) = true := by decide +kernel
set_option maxRecDepth 100000 in
theorem kX12_isMachine : px_chk mX12_isMachine := px_chk_of 1 rfl (by decide +kernel) (by decide +kernel) (fun j hj => by
  match j, hj with
  | 0, _ => exact kX12_isMachine_0
  | j + 1, h => omega)
set_option maxRecDepth 100000 in
theorem kX12_isState_0 : ((mX12_isState.2.2.2.2.2.2.2.drop (40 * 0)).take 40).all (px_chkI mX12_isState.1 mX12_isState.2.2.1 mX12_isState.2.1) = true := by decide +kernel
set_option maxRecDepth 100000 in
theorem kX12_isState : px_chk mX12_isState := px_chk_of 1 rfl (by decide +kernel) (by decide +kernel) (fun j hj => by
  match j, hj with
  | 0, _ => exact kX12_isState_0
  | j + 1, h => omega)
set_option maxRecDepth 100000 in
theorem kX12_states_0 : ((mX12_states.2.2.2.2.2.2.2.drop (40 * 0)).take 40).all (px_chkI mX12_states.1 mX12_states.2.2.1 mX12_states.2.1) = true := by decide +kernel
set_option maxRecDepth 100000 in
theorem kX12_states : px_chk mX12_states := px_chk_of 1 rfl (by decide +kernel) (by decide +kernel) (fun j hj => by
  match j, hj with
  | 0, _ => exact kX12_states_0
  | j + 1, h => omega)
set_option maxRecDepth 100000 in
theorem kX12_lead__0 : ((mX12_lead_.2.2.2.2.2.2.2.drop (40 * 0)).take 40).all (px_chkI mX12_lead_.1 mX12_lead_.2.2.1 mX12_lead_.2.1) = true := by decide +kernel
set_option maxRecDepth 100000 in
theorem kX12_lead_ : px_chk mX12_lead_ := px_chk_of 1 rfl (by decide +kernel) (by decide +kernel) (fun j hj => by
  match j, hj with
  | 0, _ => exact kX12_lead__0
  | j + 1, h => omega)
set_option maxRecDepth 100000 in
theorem kX12_next_0 : ((mX12_next.2.2.2.2.2.2.2.drop (40 * 0)).take 40).all (px_chkI mX12_next.1 mX12_next.2.2.1 mX12_next.2.1) = true := by decide +kernel
set_option maxRecDepth 100000 in
theorem kX12_next : px_chk mX12_next := px_chk_of 1 rfl (by decide +kernel) (by decide +kernel) (fun j hj => by
  match j, hj with
  | 0, _ => exact kX12_next_0
  | j + 1, h => omega)
set_option maxRecDepth 100000 in
theorem kX12_ends_0 : ((mX12_ends.2.2.2.2.2.2.2.drop (40 * 0)).take 40).all (px_chkI mX12_ends.1 mX12_ends.2.2.1 mX12_ends.2.1) = true := by decide +kernel
set_option maxRecDepth 100000 in
theorem kX12_ends : px_chk mX12_ends := px_chk_of 1 rfl (by decide +kernel) (by decide +kernel) (fun j hj => by
  match j, hj with
  | 0, _ => exact kX12_ends_0
  | j + 1, h => omega)
set_option maxRecDepth 100000 in
theorem kX12_seesOwners_0 : ((mX12_seesOwners.2.2.2.2.2.2.2.drop (40 * 0)).take 40).all (px_chkI mX12_seesOwners.1 mX12_seesOwners.2.2.1 mX12_seesOwners.2.1) = true := by decide +kernel
set_option maxRecDepth 100000 in
theorem kX12_seesOwners : px_chk mX12_seesOwners := px_chk_of 1 rfl (by decide +kernel) (by decide +kernel) (fun j hj => by
  match j, hj with
  | 0, _ => exact kX12_seesOwners_0
  | j + 1, h => omega)
set_option maxRecDepth 100000 in
theorem kX12_sees_0 : ((mX12_sees.2.2.2.2.2.2.2.drop (40 * 0)).take 40).all (px_chkI mX12_sees.1 mX12_sees.2.2.1 mX12_sees.2.1) = true := by decide +kernel
set_option maxRecDepth 100000 in
theorem kX12_sees : px_chk mX12_sees := px_chk_of 1 rfl (by decide +kernel) (by decide +kernel) (fun j hj => by
  match j, hj with
  | 0, _ => exact kX12_sees_0
  | j + 1, h => omega)
set_option maxRecDepth 100000 in
theorem kX12_led_0 : ((mX12_led.2.2.2.2.2.2.2.drop (40 * 0)).take 40).all (px_chkI mX12_led.1 mX12_led.2.2.1 mX12_led.2.1) = true := by decide +kernel
set_option maxRecDepth 100000 in
theorem kX12_led : px_chk mX12_led := px_chk_of 1 rfl (by decide +kernel) (by decide +kernel) (fun j hj => by
  match j, hj with
  | 0, _ => exact kX12_led_0
  | j + 1, h => omega)
set_option maxRecDepth 100000 in
theorem kX12_isRow_0 : ((mX12_isRow.2.2.2.2.2.2.2.drop (40 * 0)).take 40).all (px_chkI mX12_isRow.1 mX12_isRow.2.2.1 mX12_isRow.2.1) = true := by decide +kernel
set_option maxRecDepth 100000 in
theorem kX12_isRow : px_chk mX12_isRow := px_chk_of 1 rfl (by decide +kernel) (by decide +kernel) (fun j hj => by
  match j, hj with
  | 0, _ => exact kX12_isRow_0
  | j + 1, h => omega)
set_option maxRecDepth 100000 in
theorem kX12_compare_0 : ((mX12_compare.2.2.2.2.2.2.2.drop (40 * 0)).take 40).all (px_chkI mX12_compare.1 mX12_compare.2.2.1 mX12_compare.2.1) = true := by decide +kernel
set_option maxRecDepth 100000 in
theorem kX12_compare_1 : ((mX12_compare.2.2.2.2.2.2.2.drop (40 * 1)).take 40).all (px_chkI mX12_compare.1 mX12_compare.2.2.1 mX12_compare.2.1) = true := by decide +kernel
set_option maxRecDepth 100000 in
theorem kX12_compare_2 : ((mX12_compare.2.2.2.2.2.2.2.drop (40 * 2)).take 40).all (px_chkI mX12_compare.1 mX12_compare.2.2.1 mX12_compare.2.1) = true := by decide +kernel
set_option maxRecDepth 100000 in
theorem kX12_compare_3 : ((mX12_compare.2.2.2.2.2.2.2.drop (40 * 3)).take 40).all (px_chkI mX12_compare.1 mX12_compare.2.2.1 mX12_compare.2.1) = true := by decide +kernel
set_option maxRecDepth 100000 in
theorem kX12_compare_4 : ((mX12_compare.2.2.2.2.2.2.2.drop (40 * 4)).take 40).all (px_chkI mX12_compare.1 mX12_compare.2.2.1 mX12_compare.2.1) = true := by decide +kernel
set_option maxRecDepth 100000 in
theorem kX12_compare : px_chk mX12_compare := px_chk_of 5 rfl (by decide +kernel) (by decide +kernel) (fun j hj => by
  match j, hj with
  | 0, _ => exact kX12_compare_0
  | 1, _ => exact kX12_compare_1
  | 2, _ => exact kX12_compare_2
  | 3, _ => exact kX12_compare_3
  | 4, _ => exact kX12_compare_4
  | j + 5, h => omega)
set_option maxRecDepth 100000 in
theorem kX12_tell_0 : ((mX12_tell.2.2.2.2.2.2.2.drop (40 * 0)).take 40).all (px_chkI mX12_tell.1 mX12_tell.2.2.1 mX12_tell.2.1) = true := by decide +kernel
set_option maxRecDepth 100000 in
theorem kX12_tell : px_chk mX12_tell := px_chk_of 1 rfl (by decide +kernel) (by decide +kernel) (fun j hj => by
  match j, hj with
  | 0, _ => exact kX12_tell_0
  | j + 1, h => omega)
set_option maxRecDepth 100000 in
theorem kX12_witness_0 : ((mX12_witness.2.2.2.2.2.2.2.drop (40 * 0)).take 40).all (px_chkI mX12_witness.1 mX12_witness.2.2.1 mX12_witness.2.1) = true := by decide +kernel
set_option maxRecDepth 100000 in
theorem kX12_witness : px_chk mX12_witness := px_chk_of 1 rfl (by decide +kernel) (by decide +kernel) (fun j hj => by
  match j, hj with
  | 0, _ => exact kX12_witness_0
  | j + 1, h => omega)
set_option maxRecDepth 100000 in
theorem kX12_step_0 : ((mX12_step.2.2.2.2.2.2.2.drop (40 * 0)).take 40).all (px_chkI mX12_step.1 mX12_step.2.2.1 mX12_step.2.1) = true := by decide +kernel
set_option maxRecDepth 100000 in
theorem kX12_step_1 : ((mX12_step.2.2.2.2.2.2.2.drop (40 * 1)).take 40).all (px_chkI mX12_step.1 mX12_step.2.2.1 mX12_step.2.1) = true := by decide +kernel
set_option maxRecDepth 100000 in
theorem kX12_step : px_chk mX12_step := px_chk_of 2 rfl (by decide +kernel) (by decide +kernel) (fun j hj => by
  match j, hj with
  | 0, _ => exact kX12_step_0
  | 1, _ => exact kX12_step_1
  | j + 2, h => omega)
set_option maxRecDepth 100000 in
theorem kX12_stepsOf_0 : ((mX12_stepsOf.2.2.2.2.2.2.2.drop (40 * 0)).take 40).all (px_chkI mX12_stepsOf.1 mX12_stepsOf.2.2.1 mX12_stepsOf.2.1) = true := by decide +kernel
set_option maxRecDepth 100000 in
theorem kX12_stepsOf : px_chk mX12_stepsOf := px_chk_of 1 rfl (by decide +kernel) (by decide +kernel) (fun j hj => by
  match j, hj with
  | 0, _ => exact kX12_stepsOf_0
  | j + 1, h => omega)
set_option maxRecDepth 100000 in
theorem kX12_plain_0 : ((mX12_plain.2.2.2.2.2.2.2.drop (40 * 0)).take 40).all (px_chkI mX12_plain.1 mX12_plain.2.2.1 mX12_plain.2.1) = true := by decide +kernel
set_option maxRecDepth 100000 in
theorem kX12_plain : px_chk mX12_plain := px_chk_of 1 rfl (by decide +kernel) (by decide +kernel) (fun j hj => by
  match j, hj with
  | 0, _ => exact kX12_plain_0
  | j + 1, h => omega)
set_option maxRecDepth 100000 in
theorem kX12_behind_0 : ((mX12_behind.2.2.2.2.2.2.2.drop (40 * 0)).take 40).all (px_chkI mX12_behind.1 mX12_behind.2.2.1 mX12_behind.2.1) = true := by decide +kernel
set_option maxRecDepth 100000 in
theorem kX12_behind_1 : ((mX12_behind.2.2.2.2.2.2.2.drop (40 * 1)).take 40).all (px_chkI mX12_behind.1 mX12_behind.2.2.1 mX12_behind.2.1) = true := by decide +kernel
set_option maxRecDepth 100000 in
theorem kX12_behind_2 : ((mX12_behind.2.2.2.2.2.2.2.drop (40 * 2)).take 40).all (px_chkI mX12_behind.1 mX12_behind.2.2.1 mX12_behind.2.1) = true := by decide +kernel
set_option maxRecDepth 100000 in
theorem kX12_behind : px_chk mX12_behind := px_chk_of 3 rfl (by decide +kernel) (by decide +kernel) (fun j hj => by
  match j, hj with
  | 0, _ => exact kX12_behind_0
  | 1, _ => exact kX12_behind_1
  | 2, _ => exact kX12_behind_2
  | j + 3, h => omega)
set_option maxRecDepth 100000 in
theorem kX12_infer_0 : ((mX12_infer.2.2.2.2.2.2.2.drop (40 * 0)).take 40).all (px_chkI mX12_infer.1 mX12_infer.2.2.1 mX12_infer.2.1) = true := by decide +kernel
set_option maxRecDepth 100000 in
theorem kX12_infer_1 : ((mX12_infer.2.2.2.2.2.2.2.drop (40 * 1)).take 40).all (px_chkI mX12_infer.1 mX12_infer.2.2.1 mX12_infer.2.1) = true := by decide +kernel
set_option maxRecDepth 100000 in
theorem kX12_infer : px_chk mX12_infer := px_chk_of 2 rfl (by decide +kernel) (by decide +kernel) (fun j hj => by
  match j, hj with
  | 0, _ => exact kX12_infer_0
  | 1, _ => exact kX12_infer_1
  | j + 2, h => omega)
set_option maxRecDepth 100000 in
theorem kX12_isVariable_0 : ((mX12_isVariable.2.2.2.2.2.2.2.drop (40 * 0)).take 40).all (px_chkI mX12_isVariable.1 mX12_isVariable.2.2.1 mX12_isVariable.2.1) = true := by decide +kernel
set_option maxRecDepth 100000 in
theorem kX12_isVariable : px_chk mX12_isVariable := px_chk_of 1 rfl (by decide +kernel) (by decide +kernel) (fun j hj => by
  match j, hj with
  | 0, _ => exact kX12_isVariable_0
  | j + 1, h => omega)
set_option maxRecDepth 100000 in
theorem kX12_isOp_0 : ((mX12_isOp.2.2.2.2.2.2.2.drop (40 * 0)).take 40).all (px_chkI mX12_isOp.1 mX12_isOp.2.2.1 mX12_isOp.2.1) = true := by decide +kernel
set_option maxRecDepth 100000 in
theorem kX12_isOp_1 : ((mX12_isOp.2.2.2.2.2.2.2.drop (40 * 1)).take 40).all (px_chkI mX12_isOp.1 mX12_isOp.2.2.1 mX12_isOp.2.1) = true := by decide +kernel
set_option maxRecDepth 100000 in
theorem kX12_isOp_2 : ((mX12_isOp.2.2.2.2.2.2.2.drop (40 * 2)).take 40).all (px_chkI mX12_isOp.1 mX12_isOp.2.2.1 mX12_isOp.2.1) = true := by decide +kernel
set_option maxRecDepth 100000 in
theorem kX12_isOp : px_chk mX12_isOp := px_chk_of 3 rfl (by decide +kernel) (by decide +kernel) (fun j hj => by
  match j, hj with
  | 0, _ => exact kX12_isOp_0
  | 1, _ => exact kX12_isOp_1
  | 2, _ => exact kX12_isOp_2
  | j + 3, h => omega)
set_option maxRecDepth 100000 in
theorem kX12_op_0 : ((mX12_op.2.2.2.2.2.2.2.drop (40 * 0)).take 40).all (px_chkI mX12_op.1 mX12_op.2.2.1 mX12_op.2.1) = true := by decide +kernel
set_option maxRecDepth 100000 in
theorem kX12_op_1 : ((mX12_op.2.2.2.2.2.2.2.drop (40 * 1)).take 40).all (px_chkI mX12_op.1 mX12_op.2.2.1 mX12_op.2.1) = true := by decide +kernel
set_option maxRecDepth 100000 in
theorem kX12_op : px_chk mX12_op := px_chk_of 2 rfl (by decide +kernel) (by decide +kernel) (fun j hj => by
  match j, hj with
  | 0, _ => exact kX12_op_0
  | 1, _ => exact kX12_op_1
  | j + 2, h => omega)
set_option maxRecDepth 100000 in
theorem kX12_wipe_0 : ((mX12_wipe.2.2.2.2.2.2.2.drop (40 * 0)).take 40).all (px_chkI mX12_wipe.1 mX12_wipe.2.2.1 mX12_wipe.2.1) = true := by decide +kernel
set_option maxRecDepth 100000 in
theorem kX12_wipe : px_chk mX12_wipe := px_chk_of 1 rfl (by decide +kernel) (by decide +kernel) (fun j hj => by
  match j, hj with
  | 0, _ => exact kX12_wipe_0
  | j + 1, h => omega)
