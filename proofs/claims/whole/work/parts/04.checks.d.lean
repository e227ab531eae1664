set_option maxRecDepth 100000 in
theorem kX12_load_0 : ((mX12_load.2.2.2.2.2.2.2.drop (40 * 0)).take 40).all (px_chkI mX12_load.1 mX12_load.2.2.1 mX12_load.2.1) = true := by decide +kernel
set_option maxRecDepth 100000 in
theorem kX12_load_1 : ((mX12_load.2.2.2.2.2.2.2.drop (40 * 1)).take 40).all (px_chkI mX12_load.1 mX12_load.2.2.1 mX12_load.2.1) = true := by decide +kernel
set_option maxRecDepth 100000 in
theorem kX12_load : px_chk mX12_load := px_chk_of 2 rfl (by decide +kernel) (by decide +kernel) (fun j hj => by
  match j, hj with
  | 0, _ => exact kX12_load_0
  | 1, _ => exact kX12_load_1
  | j + 2, h => omega)
set_option maxRecDepth 100000 in
theorem kX12_note_0 : ((mX12_note.2.2.2.2.2.2.2.drop (40 * 0)).take 40).all (px_chkI mX12_note.1 mX12_note.2.2.1 mX12_note.2.1) = true := by decide +kernel
set_option maxRecDepth 100000 in
theorem kX12_note_1 : ((mX12_note.2.2.2.2.2.2.2.drop (40 * 1)).take 40).all (px_chkI mX12_note.1 mX12_note.2.2.1 mX12_note.2.1) = true := by decide +kernel
set_option maxRecDepth 100000 in
theorem kX12_note_2 : ((mX12_note.2.2.2.2.2.2.2.drop (40 * 2)).take 40).all (px_chkI mX12_note.1 mX12_note.2.2.1 mX12_note.2.1) = true := by decide +kernel
set_option maxRecDepth 100000 in
theorem kX12_note_3 : ((mX12_note.2.2.2.2.2.2.2.drop (40 * 3)).take 40).all (px_chkI mX12_note.1 mX12_note.2.2.1 mX12_note.2.1) = true := by decide +kernel
set_option maxRecDepth 100000 in
theorem kX12_note : px_chk mX12_note := px_chk_of 4 rfl (by decide +kernel) (by decide +kernel) (fun j hj => by
  match j, hj with
  | 0, _ => exact kX12_note_0
  | 1, _ => exact kX12_note_1
  | 2, _ => exact kX12_note_2
  | 3, _ => exact kX12_note_3
  | j + 4, h => omega)
set_option maxRecDepth 100000 in
theorem kX12_take_0 : ((mX12_take.2.2.2.2.2.2.2.drop (40 * 0)).take 40).all (px_chkI mX12_take.1 mX12_take.2.2.1 mX12_take.2.1) = true := by decide +kernel
set_option maxRecDepth 100000 in
theorem kX12_take : px_chk mX12_take := px_chk_of 1 rfl (by decide +kernel) (by decide +kernel) (fun j hj => by
  match j, hj with
  | 0, _ => exact kX12_take_0
  | j + 1, h => omega)
set_option maxRecDepth 100000 in
theorem kX12_has_0 : ((mX12_has.2.2.2.2.2.2.2.drop (40 * 0)).take 40).all (px_chkI mX12_has.1 mX12_has.2.2.1 mX12_has.2.1) = true := by decide +kernel
set_option maxRecDepth 100000 in
theorem kX12_has : px_chk mX12_has := px_chk_of 1 rfl (by decide +kernel) (by decide +kernel) (fun j hj => by
  match j, hj with
  | 0, _ => exact kX12_has_0
  | j + 1, h => omega)
set_option maxRecDepth 100000 in
theorem kX12_isNone_0 : ((mX12_isNone.2.2.2.2.2.2.2.drop (40 * 0)).take 40).all (px_chkI mX12_isNone.1 mX12_isNone.2.2.1 mX12_isNone.2.1) = true := by decide +kernel
set_option maxRecDepth 100000 in
theorem kX12_isNone : px_chk mX12_isNone := px_chk_of 1 rfl (by decide +kernel) (by decide +kernel) (fun j hj => by
  match j, hj with
  | 0, _ => exact kX12_isNone_0
  | j + 1, h => omega)
set_option maxRecDepth 100000 in
theorem kX12_breaksAtEnd_0 : ((mX12_breaksAtEnd.2.2.2.2.2.2.2.drop (40 * 0)).take 40).all (px_chkI mX12_breaksAtEnd.1 mX12_breaksAtEnd.2.2.1 mX12_breaksAtEnd.2.1) = true := by decide +kernel
set_option maxRecDepth 100000 in
theorem kX12_breaksAtEnd : px_chk mX12_breaksAtEnd := px_chk_of 1 rfl (by decide +kernel) (by decide +kernel) (fun j hj => by
  match j, hj with
  | 0, _ => exact kX12_breaksAtEnd_0
  | j + 1, h => omega)
set_option maxRecDepth 100000 in
theorem kX12_make_0 : ((mX12_make.2.2.2.2.2.2.2.drop (40 * 0)).take 40).all (px_chkI mX12_make.1 mX12_make.2.2.1 mX12_make.2.1) = true := by decide +kernel
set_option maxRecDepth 100000 in
theorem kX12_make_1 : ((mX12_make.2.2.2.2.2.2.2.drop (40 * 1)).take 40).all (px_chkI mX12_make.1 mX12_make.2.2.1 mX12_make.2.1) = true := by decide +kernel
set_option maxRecDepth 100000 in
theorem kX12_make : px_chk mX12_make := px_chk_of 2 rfl (by decide +kernel) (by decide +kernel) (fun j hj => by
  match j, hj with
  | 0, _ => exact kX12_make_0
  | 1, _ => exact kX12_make_1
  | j + 2, h => omega)
set_option maxRecDepth 100000 in
theorem kX12_event_0 : ((mX12_event.2.2.2.2.2.2.2.drop (40 * 0)).take 40).all (px_chkI mX12_event.1 mX12_event.2.2.1 mX12_event.2.1) = true := by decide +kernel
set_option maxRecDepth 100000 in
theorem kX12_event : px_chk mX12_event := px_chk_of 1 rfl (by decide +kernel) (by decide +kernel) (fun j hj => by
  match j, hj with
  | 0, _ => exact kX12_event_0
  | j + 1, h => omega)
