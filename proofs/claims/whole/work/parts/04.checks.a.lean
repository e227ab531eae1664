set_option maxRecDepth 100000 in
theorem kX0_init_0 : ((mX0_init.2.2.2.2.2.2.2.drop (40 * 0)).take 40).all (px_chkI mX0_init.1 mX0_init.2.2.1 mX0_init.2.1) = true := by decide +kernel
set_option maxRecDepth 100000 in
theorem kX0_init : px_chk mX0_init := px_chk_of 1 rfl (by decide +kernel) (by decide +kernel) (fun j hj => by
  match j, hj with
  | 0, _ => exact kX0_init_0
  | j + 1, h => omega)
set_option maxRecDepth 100000 in
theorem kX0_add_0 : ((mX0_add.2.2.2.2.2.2.2.drop (40 * 0)).take 40).all (px_chkI mX0_add.1 mX0_add.2.2.1 mX0_add.2.1) = true := by decide +kernel
set_option maxRecDepth 100000 in
theorem kX0_add_1 : ((mX0_add.2.2.2.2.2.2.2.drop (40 * 1)).take 40).all (px_chkI mX0_add.1 mX0_add.2.2.1 mX0_add.2.1) = true := by decide +kernel
set_option maxRecDepth 100000 in
theorem kX0_add : px_chk mX0_add := px_chk_of 2 rfl (by decide +kernel) (by decide +kernel) (fun j hj => by
  match j, hj with
  | 0, _ => exact kX0_add_0
  | 1, _ => exact kX0_add_1
  | j + 2, h => omega)
set_option maxRecDepth 100000 in
theorem kX0_size_0 : ((mX0_size.2.2.2.2.2.2.2.drop (40 * 0)).take 40).all (px_chkI mX0_size.1 mX0_size.2.2.1 mX0_size.2.1) = true := by decide +kernel
set_option maxRecDepth 100000 in
theorem kX0_size : px_chk mX0_size := px_chk_of 1 rfl (by decide +kernel) (by decide +kernel) (fun j hj => by
  match j, hj with
  | 0, _ => exact kX0_size_0
  | j + 1, h => omega)
set_option maxRecDepth 100000 in
theorem kX0_clear_0 : ((mX0_clear.2.2.2.2.2.2.2.drop (40 * 0)).take 40).all (px_chkI mX0_clear.1 mX0_clear.2.2.1 mX0_clear.2.1) = true := by decide +kernel
set_option maxRecDepth 100000 in
theorem kX0_clear : px_chk mX0_clear := px_chk_of 1 rfl (by decide +kernel) (by decide +kernel) (fun j hj => by
  match j, hj with
  | 0, _ => exact kX0_clear_0
  | j + 1, h => omega)
set_option maxRecDepth 100000 in
theorem kX0_fill_0 : ((mX0_fill.2.2.2.2.2.2.2.drop (40 * 0)).take 40).all (px_chkI mX0_fill.1 mX0_fill.2.2.1 mX0_fill.2.1) = true := by decide +kernel
set_option maxRecDepth 100000 in
theorem kX0_fill_1 : ((mX0_fill.2.2.2.2.2.2.2.drop (40 * 1)).take 40).all (px_chkI mX0_fill.1 mX0_fill.2.2.1 mX0_fill.2.1) = true := by decide +kernel
set_option maxRecDepth 100000 in
theorem kX0_fill : px_chk mX0_fill := px_chk_of 2 rfl (by decide +kernel) (by decide +kernel) (fun j hj => by
  match j, hj with
  | 0, _ => exact kX0_fill_0
  | 1, _ => exact kX0_fill_1
  | j + 2, h => omega)
set_option maxRecDepth 100000 in
theorem kX0_runs_0 : ((mX0_runs.2.2.2.2.2.2.2.drop (40 * 0)).take 40).all (px_chkI mX0_runs.1 mX0_runs.2.2.1 mX0_runs.2.1) = true := by decide +kernel
set_option maxRecDepth 100000 in
theorem kX0_runs_1 : ((mX0_runs.2.2.2.2.2.2.2.drop (40 * 1)).take 40).all (px_chkI mX0_runs.1 mX0_runs.2.2.1 mX0_runs.2.1) = true := by decide +kernel
set_option maxRecDepth 100000 in
theorem kX0_runs : px_chk mX0_runs := px_chk_of 2 rfl (by decide +kernel) (by decide +kernel) (fun j hj => by
  match j, hj with
  | 0, _ => exact kX0_runs_0
  | 1, _ => exact kX0_runs_1
  | j + 2, h => omega)
set_option maxRecDepth 100000 in
theorem kX1_init_0 : ((mX1_init.2.2.2.2.2.2.2.drop (40 * 0)).take 40).all (px_chkI mX1_init.1 mX1_init.2.2.1 mX1_init.2.1) = true := by decide +kernel
set_option maxRecDepth 100000 in
theorem kX1_init : px_chk mX1_init := px_chk_of 1 rfl (by decide +kernel) (by decide +kernel) (fun j hj => by
  match j, hj with
  | 0, _ => exact kX1_init_0
  | j + 1, h => omega)
set_option maxRecDepth 100000 in
theorem kX1_add_0 : ((mX1_add.2.2.2.2.2.2.2.drop (40 * 0)).take 40).all (px_chkI mX1_add.1 mX1_add.2.2.1 mX1_add.2.1) = true := by decide +kernel
set_option maxRecDepth 100000 in
theorem kX1_add_1 : ((mX1_add.2.2.2.2.2.2.2.drop (40 * 1)).take 40).all (px_chkI mX1_add.1 mX1_add.2.2.1 mX1_add.2.1) = true := by decide +kernel
set_option maxRecDepth 100000 in
theorem kX1_add : px_chk mX1_add := px_chk_of 2 rfl (by decide +kernel) (by decide +kernel) (fun j hj => by
  match j, hj with
  | 0, _ => exact kX1_add_0
  | 1, _ => exact kX1_add_1
  | j + 2, h => omega)
set_option maxRecDepth 100000 in
theorem kX1_size_0 : ((mX1_size.2.2.2.2.2.2.2.drop (40 * 0)).take 40).all (px_chkI mX1_size.1 mX1_size.2.2.1 mX1_size.2.1) = true := by decide +kernel
set_option maxRecDepth 100000 in
theorem kX1_size : px_chk mX1_size := px_chk_of 1 rfl (by decide +kernel) (by decide +kernel) (fun j hj => by
  match j, hj with
  | 0, _ => exact kX1_size_0
  | j + 1, h => omega)
set_option maxRecDepth 100000 in
theorem kX1_clear_0 : ((mX1_clear.2.2.2.2.2.2.2.drop (40 * 0)).take 40).all (px_chkI mX1_clear.1 mX1_clear.2.2.1 mX1_clear.2.1) = true := by decide +kernel
set_option maxRecDepth 100000 in
theorem kX1_clear : px_chk mX1_clear := px_chk_of 1 rfl (by decide +kernel) (by decide +kernel) (fun j hj => by
  match j, hj with
  | 0, _ => exact kX1_clear_0
  | j + 1, h => omega)
set_option maxRecDepth 100000 in
theorem kX1_opAt_0 : ((mX1_opAt.2.2.2.2.2.2.2.drop (40 * 0)).take 40).all (px_chkI mX1_opAt.1 mX1_opAt.2.2.1 mX1_opAt.2.1) = true := by decide +kernel
set_option maxRecDepth 100000 in
theorem kX1_opAt : px_chk mX1_opAt := px_chk_of 1 rfl (by decide +kernel) (by decide +kernel) (fun j hj => by
  match j, hj with
  | 0, _ => exact kX1_opAt_0
  | j + 1, h => omega)
set_option maxRecDepth 100000 in
theorem kX1_number_0 : ((mX1_number.2.2.2.2.2.2.2.drop (40 * 0)).take 40).all (px_chkI mX1_number.1 mX1_number.2.2.1 mX1_number.2.1) = true := by decide +kernel
set_option maxRecDepth 100000 in
theorem kX1_number : px_chk mX1_number := px_chk_of 1 rfl (by decide +kernel) (by decide +kernel) (fun j hj => by
  match j, hj with
  | 0, _ => exact kX1_number_0
  | j + 1, h => omega)
set_option maxRecDepth 100000 in
theorem kX2_init_0 : ((mX2_init.2.2.2.2.2.2.2.drop (40 * 0)).take 40).all (px_chkI mX2_init.1 mX2_init.2.2.1 mX2_init.2.1) = true := by decide +kernel
set_option maxRecDepth 100000 in
theorem kX2_init : px_chk mX2_init := px_chk_of 1 rfl (by decide +kernel) (by decide +kernel) (fun j hj => by
  match j, hj with
  | 0, _ => exact kX2_init_0
  | j + 1, h => omega)
set_option maxRecDepth 100000 in
theorem kX2_relate_0 : ((mX2_relate.2.2.2.2.2.2.2.drop (40 * 0)).take 40).all (px_chkI mX2_relate.1 mX2_relate.2.2.1 mX2_relate.2.1) = true := by decide +kernel
set_option maxRecDepth 100000 in
theorem kX2_relate_1 : ((mX2_relate.2.2.2.2.2.2.2.drop (40 * 1)).take 40).all (px_chkI mX2_relate.1 mX2_relate.2.2.1 mX2_relate.2.1) = true := by decide +kernel
set_option maxRecDepth 100000 in
theorem kX2_relate_2 : ((mX2_relate.2.2.2.2.2.2.2.drop (40 * 2)).take 40).all (px_chkI mX2_relate.1 mX2_relate.2.2.1 mX2_relate.2.1) = true := by decide +kernel
set_option maxRecDepth 100000 in
theorem kX2_relate_3 : ((mX2_relate.2.2.2.2.2.2.2.drop (40 * 3)).take 40).all (px_chkI mX2_relate.1 mX2_relate.2.2.1 mX2_relate.2.1) = true := by decide +kernel
set_option maxRecDepth 100000 in
theorem kX2_relate : px_chk mX2_relate := px_chk_of 4 rfl (by decide +kernel) (by decide +kernel) (fun j hj => by
  match j, hj with
  | 0, _ => exact kX2_relate_0
  | 1, _ => exact kX2_relate_1
  | 2, _ => exact kX2_relate_2
  | 3, _ => exact kX2_relate_3
  | j + 4, h => omega)
set_option maxRecDepth 100000 in
theorem kX2_pairBehind_0 : ((mX2_pairBehind.2.2.2.2.2.2.2.drop (40 * 0)).take 40).all (px_chkI mX2_pairBehind.1 mX2_pairBehind.2.2.1 mX2_pairBehind.2.1) = true := by decide +kernel
set_option maxRecDepth 100000 in
theorem kX2_pairBehind : px_chk mX2_pairBehind := px_chk_of 1 rfl (by decide +kernel) (by decide +kernel) (fun j hj => by
  match j, hj with
  | 0, _ => exact kX2_pairBehind_0
  | j + 1, h => omega)
set_option maxRecDepth 100000 in
theorem kX2_reach_0 : ((mX2_reach.2.2.2.2.2.2.2.drop (40 * 0)).take 40).all (px_chkI mX2_reach.1 mX2_reach.2.2.1 mX2_reach.2.1) = true := by decide +kernel
set_option maxRecDepth 100000 in
theorem kX2_reach : px_chk mX2_reach := px_chk_of 1 rfl (by decide +kernel) (by decide +kernel) (fun j hj => by
  match j, hj with
  | 0, _ => exact kX2_reach_0
  | j + 1, h => omega)
set_option maxRecDepth 100000 in
theorem kX2_tellRow_0 : ((mX2_tellRow.2.2.2.2.2.2.2.drop (40 * 0)).take 40).all (px_chkI mX2_tellRow.1 mX2_tellRow.2.2.1 mX2_tellRow.2.1) = true := by decide +kernel
set_option maxRecDepth 100000 in
theorem kX2_tellRow_1 : ((mX2_tellRow.2.2.2.2.2.2.2.drop (40 * 1)).take 40).all (px_chkI mX2_tellRow.1 mX2_tellRow.2.2.1 mX2_tellRow.2.1) = true := by decide +kernel
set_option maxRecDepth 100000 in
theorem kX2_tellRow : px_chk mX2_tellRow := px_chk_of 2 rfl (by decide +kernel) (by decide +kernel) (fun j hj => by
  match j, hj with
  | 0, _ => exact kX2_tellRow_0
  | 1, _ => exact kX2_tellRow_1
  | j + 2, h => omega)
set_option maxRecDepth 100000 in
theorem kX2_eventOfRow_0 : ((mX2_eventOfRow.2.2.2.2.2.2.2.drop (40 * 0)).take 40).all (px_chkI mX2_eventOfRow.1 mX2_eventOfRow.2.2.1 mX2_eventOfRow.2.1) = true := by decide +kernel
set_option maxRecDepth 100000 in
theorem kX2_eventOfRow : px_chk mX2_eventOfRow := px_chk_of 1 rfl (by decide +kernel) (by decide +kernel) (fun j hj => by
  match j, hj with
  | 0, _ => exact kX2_eventOfRow_0
  | j + 1, h => omega)
set_option maxRecDepth 100000 in
theorem kX3_init_0 : ((mX3_init.2.2.2.2.2.2.2.drop (40 * 0)).take 40).all (px_chkI mX3_init.1 mX3_init.2.2.1 mX3_init.2.1) = true := by decide +kernel
set_option maxRecDepth 100000 in
theorem kX3_init : px_chk mX3_init := px_chk_of 1 rfl (by decide +kernel) (by decide +kernel) (fun j hj => by
  match j, hj with
  | 0, _ => exact kX3_init_0
  | j + 1, h => omega)
set_option maxRecDepth 100000 in
theorem kX3_clear_0 : ((mX3_clear.2.2.2.2.2.2.2.drop (40 * 0)).take 40).all (px_chkI mX3_clear.1 mX3_clear.2.2.1 mX3_clear.2.1) = true := by decide +kernel
set_option maxRecDepth 100000 in
theorem kX3_clear : px_chk mX3_clear := px_chk_of 1 rfl (by decide +kernel) (by decide +kernel) (fun j hj => by
  match j, hj with
  | 0, _ => exact kX3_clear_0
  | j + 1, h => omega)
set_option maxRecDepth 100000 in
theorem kX3_size_0 : ((mX3_size.2.2.2.2.2.2.2.drop (40 * 0)).take 40).all (px_chkI mX3_size.1 mX3_size.2.2.1 mX3_size.2.1) = true := by decide +kernel
set_option maxRecDepth 100000 in
theorem kX3_size : px_chk mX3_size := px_chk_of 1 rfl (by decide +kernel) (by decide +kernel) (fun j hj => by
  match j, hj with
  | 0, _ => exact kX3_size_0
  | j + 1, h => omega)
set_option maxRecDepth 100000 in
theorem kX3_add_0 : ((mX3_add.2.2.2.2.2.2.2.drop (40 * 0)).take 40).all (px_chkI mX3_add.1 mX3_add.2.2.1 mX3_add.2.1) = true := by decide +kernel
set_option maxRecDepth 100000 in
theorem kX3_add : px_chk mX3_add := px_chk_of 1 rfl (by decide +kernel) (by decide +kernel) (fun j hj => by
  match j, hj with
  | 0, _ => exact kX3_add_0
  | j + 1, h => omega)
set_option maxRecDepth 100000 in
theorem kX3_lead_0 : ((mX3_lead.2.2.2.2.2.2.2.drop (40 * 0)).take 40).all (px_chkI mX3_lead.1 mX3_lead.2.2.1 mX3_lead.2.1) = true := by decide +kernel
set_option maxRecDepth 100000 in
theorem kX3_lead : px_chk mX3_lead := px_chk_of 1 rfl (by decide +kernel) (by decide +kernel) (fun j hj => by
  match j, hj with
  | 0, _ => exact kX3_lead_0
  | j + 1, h => omega)
set_option maxRecDepth 100000 in
theorem kX3_least_0 : ((mX3_least.2.2.2.2.2.2.2.drop (40 * 0)).take 40).all (px_chkI mX3_least.1 mX3_least.2.2.1 mX3_least.2.1) = true := by decide +kernel
set_option maxRecDepth 100000 in
theorem kX3_least : px_chk mX3_least := px_chk_of 1 rfl (by decide +kernel) (by decide +kernel) (fun j hj => by
  match j, hj with
  | 0, _ => exact kX3_least_0
  | j + 1, h => omega)
set_option maxRecDepth 100000 in
theorem kX3_refine_0 : ((mX3_refine.2.2.2.2.2.2.2.drop (40 * 0)).take 40).all (px_chkI mX3_refine.1 mX3_refine.2.2.1 mX3_refine.2.1) = true := by decide +kernel
set_option maxRecDepth 100000 in
theorem kX3_refine_1 : ((mX3_refine.2.2.2.2.2.2.2.drop (40 * 1)).take 40).all (px_chkI mX3_refine.1 mX3_refine.2.2.1 mX3_refine.2.1) = true := by decide +kernel
set_option maxRecDepth 100000 in
theorem kX3_refine : px_chk mX3_refine := px_chk_of 2 rfl (by decide +kernel) (by decide +kernel) (fun j hj => by
  match j, hj with
  | 0, _ => exact kX3_refine_0
  | 1, _ => exact kX3_refine_1
  | j + 2, h => omega)
set_option maxRecDepth 100000 in
theorem kX3_groupLike_0 : ((mX3_groupLike.2.2.2.2.2.2.2.drop (40 * 0)).take 40).all (px_chkI mX3_groupLike.1 mX3_groupLike.2.2.1 mX3_groupLike.2.1) = true := by decide +kernel
set_option maxRecDepth 100000 in
theorem kX3_groupLike : px_chk mX3_groupLike := px_chk_of 1 rfl (by decide +kernel) (by decide +kernel) (fun j hj => by
  match j, hj with
  | 0, _ => exact kX3_groupLike_0
  | j + 1, h => omega)
set_option maxRecDepth 100000 in
theorem kX3_alike_0 : ((mX3_alike.2.2.2.2.2.2.2.drop (40 * 0)).take 40).all (px_chkI mX3_alike.1 mX3_alike.2.2.1 mX3_alike.2.1) = true := by decide +kernel
set_option maxRecDepth 100000 in
theorem kX3_alike : px_chk mX3_alike := px_chk_of 1 rfl (by decide +kernel) (by decide +kernel) (fun j hj => by
  match j, hj with
  | 0, _ => exact kX3_alike_0
  | j + 1, h => omega)
set_option maxRecDepth 100000 in
theorem kX3_groupBehind_0 : ((mX3_groupBehind.2.2.2.2.2.2.2.drop (40 * 0)).take 40).all (px_chkI mX3_groupBehind.1 mX3_groupBehind.2.2.1 mX3_groupBehind.2.1) = true := by decide +kernel
set_option maxRecDepth 100000 in
theorem kX3_groupBehind : px_chk mX3_groupBehind := px_chk_of 1 rfl (by decide +kernel) (by decide +kernel) (fun j hj => by
  match j, hj with
  | 0, _ => exact kX3_groupBehind_0
  | j + 1, h => omega)
set_option maxRecDepth 100000 in
theorem kX3_numbered_0 : ((mX3_numbered.2.2.2.2.2.2.2.drop (40 * 0)).take 40).all (px_chkI mX3_numbered.1 mX3_numbered.2.2.1 mX3_numbered.2.1) = true := by decide +kernel
set_option maxRecDepth 100000 in
theorem kX3_numbered_1 : ((mX3_numbered.2.2.2.2.2.2.2.drop (40 * 1)).take 40).all (px_chkI mX3_numbered.1 mX3_numbered.2.2.1 mX3_numbered.2.1) = true := by decide +kernel
set_option maxRecDepth 100000 in
theorem kX3_numbered_2 : ((mX3_numbered.2.2.2.2.2.2.2.drop (40 * 2)).take 40).all (px_chkI mX3_numbered.1 mX3_numbered.2.2.1 mX3_numbered.2.1) = true := by decide +kernel
set_option maxRecDepth 100000 in
theorem kX3_numbered : px_chk mX3_numbered := px_chk_of 3 rfl (by decide +kernel) (by decide +kernel) (fun j hj => by
  match j, hj with
  | 0, _ => exact kX3_numbered_0
  | 1, _ => exact kX3_numbered_1
  | 2, _ => exact kX3_numbered_2
  | j + 3, h => omega)
set_option maxRecDepth 100000 in
theorem kX4_init_0 : ((mX4_init.2.2.2.2.2.2.2.drop (40 * 0)).take 40).all (px_chkI mX4_init.1 mX4_init.2.2.1 mX4_init.2.1) = true := by decide +kernel
set_option maxRecDepth 100000 in
theorem kX4_init : px_chk mX4_init := px_chk_of 1 rfl (by decide +kernel) (by decide +kernel) (fun j hj => by
  match j, hj with
  | 0, _ => exact kX4_init_0
  | j + 1, h => omega)
set_option maxRecDepth 100000 in
theorem kX4_begin_0 : ((mX4_begin.2.2.2.2.2.2.2.drop (40 * 0)).take 40).all (px_chkI mX4_begin.1 mX4_begin.2.2.1 mX4_begin.2.1) = true := by decide +kernel
set_option maxRecDepth 100000 in
theorem kX4_begin : px_chk mX4_begin := px_chk_of 1 rfl (by decide +kernel) (by decide +kernel) (fun j hj => by
  match j, hj with
  | 0, _ => exact kX4_begin_0
  | j + 1, h => omega)
set_option maxRecDepth 100000 in
theorem kX4_breaks_0 : ((mX4_breaks.2.2.2.2.2.2.2.drop (40 * 0)).take 40).all (px_chkI mX4_breaks.1 mX4_breaks.2.2.1 mX4_breaks.2.1) = true := by decide +kernel
set_option maxRecDepth 100000 in
theorem kX4_breaks : px_chk mX4_breaks := px_chk_of 1 rfl (by decide +kernel) (by decide +kernel) (fun j hj => by
  match j, hj with
  | 0, _ => exact kX4_breaks_0
  | j + 1, h => omega)
set_option maxRecDepth 100000 in
theorem kX4_runOnce_0 : ((mX4_runOnce.2.2.2.2.2.2.2.drop (40 * 0)).take 40).all (px_chkI mX4_runOnce.1 mX4_runOnce.2.2.1 mX4_runOnce.2.1) = true := by decide +kernel
set_option maxRecDepth 100000 in
theorem kX4_runOnce : px_chk mX4_runOnce := px_chk_of 1 rfl (by decide +kernel) (by decide +kernel) (fun j hj => by
  match j, hj with
  | 0, _ => exact kX4_runOnce_0
  | j + 1, h => omega)
set_option maxRecDepth 100000 in
theorem kX4_perform_0 : ((mX4_perform.2.2.2.2.2.2.2.drop (40 * 0)).take 40).all (px_chkI mX4_perform.1 mX4_perform.2.2.1 mX4_perform.2.1) = true := by decide +kernel
set_option maxRecDepth 100000 in
theorem kX4_perform_1 : ((mX4_perform.2.2.2.2.2.2.2.drop (40 * 1)).take 40).all (px_chkI mX4_perform.1 mX4_perform.2.2.1 mX4_perform.2.1) = true := by decide +kernel
set_option maxRecDepth 100000 in
theorem kX4_perform_2 : ((mX4_perform.2.2.2.2.2.2.2.drop (40 * 2)).take 40).all (px_chkI mX4_perform.1 mX4_perform.2.2.1 mX4_perform.2.1) = true := by decide +kernel
set_option maxRecDepth 100000 in
theorem kX4_perform : px_chk mX4_perform := px_chk_of 3 rfl (by decide +kernel) (by decide +kernel) (fun j hj => by
  match j, hj with
  | 0, _ => exact kX4_perform_0
  | 1, _ => exact kX4_perform_1
  | 2, _ => exact kX4_perform_2
  | j + 3, h => omega)
set_option maxRecDepth 100000 in
theorem kX4_moveObjects_0 : ((mX4_moveObjects.2.2.2.2.2.2.2.drop (40 * 0)).take 40).all (px_chkI mX4_moveObjects.1 mX4_moveObjects.2.2.1 mX4_moveObjects.2.1) = true := by decide +kernel
set_option maxRecDepth 100000 in
theorem kX4_moveObjects : px_chk mX4_moveObjects := px_chk_of 1 rfl (by decide +kernel) (by decide +kernel) (fun j hj => by
  match j, hj with
  | 0, _ => exact kX4_moveObjects_0
  | j + 1, h => omega)
set_option maxRecDepth 100000 in
theorem kX4_drawNumber_0 : ((mX4_drawNumber.2.2.2.2.2.2.2.drop (40 * 0)).take 40).all (px_chkI mX4_drawNumber.1 mX4_drawNumber.2.2.1 mX4_drawNumber.2.1) = true := by decide +kernel
set_option maxRecDepth 100000 in
theorem kX4_drawNumber : px_chk mX4_drawNumber := px_chk_of 1 rfl (by decide +kernel) (by decide +kernel) (fun j hj => by
  match j, hj with
  | 0, _ => exact kX4_drawNumber_0
  | j + 1, h => omega)
set_option maxRecDepth 100000 in
theorem kX4_drawFromBag_0 : ((mX4_drawFromBag.2.2.2.2.2.2.2.drop (40 * 0)).take 40).all (px_chkI mX4_drawFromBag.1 mX4_drawFromBag.2.2.1 mX4_drawFromBag.2.1) = true := by decide +kernel
set_option maxRecDepth 100000 in
theorem kX4_drawFromBag : px_chk mX4_drawFromBag := px_chk_of 1 rfl (by decide +kernel) (by decide +kernel) (fun j hj => by
  match j, hj with
  | 0, _ => exact kX4_drawFromBag_0
  | j + 1, h => omega)
set_option maxRecDepth 100000 in
theorem kX4_putIntoBag_0 : ((mX4_putIntoBag.2.2.2.2.2.2.2.drop (40 * 0)).take 40).all (px_chkI mX4_putIntoBag.1 mX4_putIntoBag.2.2.1 mX4_putIntoBag.2.1) = true := by decide +kernel
set_option maxRecDepth 100000 in
theorem kX4_putIntoBag : px_chk mX4_putIntoBag := px_chk_of 1 rfl (by decide +kernel) (by decide +kernel) (fun j hj => by
  match j, hj with
  | 0, _ => exact kX4_putIntoBag_0
  | j + 1, h => omega)
set_option maxRecDepth 100000 in
theorem kX4_make_0 : ((mX4_make.2.2.2.2.2.2.2.drop (40 * 0)).take 40).all (px_chkI mX4_make.1 mX4_make.2.2.1 mX4_make.2.1) = true := by decide +kernel
set_option maxRecDepth 100000 in
theorem kX4_make_1 : ((mX4_make.2.2.2.2.2.2.2.drop (40 * 1)).take 40).all (px_chkI mX4_make.1 mX4_make.2.2.1 mX4_make.2.1) = true := by decide +kernel
set_option maxRecDepth 100000 in
theorem kX4_make : px_chk mX4_make := px_chk_of 2 rfl (by decide +kernel) (by decide +kernel) (fun j hj => by
  match j, hj with
  | 0, _ => exact kX4_make_0
  | 1, _ => exact kX4_make_1
  | j + 2, h => omega)
set_option maxRecDepth 100000 in
theorem kX4_makeFrom_0 : ((mX4_makeFrom.2.2.2.2.2.2.2.drop (40 * 0)).take 40).all (px_chkI mX4_makeFrom.1 mX4_makeFrom.2.2.1 mX4_makeFrom.2.1) = true := by decide +kernel
set_option maxRecDepth 100000 in
theorem kX4_makeFrom : px_chk mX4_makeFrom := px_chk_of 1 rfl (by decide +kernel) (by decide +kernel) (fun j hj => by
  match j, hj with
  | 0, _ => exact kX4_makeFrom_0
  | j + 1, h => omega)
set_option maxRecDepth 100000 in
theorem kX4_call_0 : ((mX4_call.2.2.2.2.2.2.2.drop (40 * 0)).take 40).all (px_chkI mX4_call.1 mX4_call.2.2.1 mX4_call.2.1) = true := by decide +kernel
set_option maxRecDepth 100000 in
theorem kX4_call_1 : ((mX4_call.2.2.2.2.2.2.2.drop (40 * 1)).take 40).all (px_chkI mX4_call.1 mX4_call.2.2.1 mX4_call.2.1) = true := by decide +kernel
set_option maxRecDepth 100000 in
theorem kX4_call : px_chk mX4_call := px_chk_of 2 rfl (by decide +kernel) (by decide +kernel) (fun j hj => by
  match j, hj with
  | 0, _ => exact kX4_call_0
  | 1, _ => exact kX4_call_1
  | j + 2, h => omega)
set_option maxRecDepth 100000 in
theorem kX4_isWatched_0 : ((mX4_isWatched.2.2.2.2.2.2.2.drop (40 * 0)).take 40).all (px_chkI mX4_isWatched.1 mX4_isWatched.2.2.1 mX4_isWatched.2.1) = true := by decide +kernel
set_option maxRecDepth 100000 in
theorem kX4_isWatched : px_chk mX4_isWatched := px_chk_of 1 rfl (by decide +kernel) (by decide +kernel) (fun j hj => by
  match j, hj with
  | 0, _ => exact kX4_isWatched_0
  | j + 1, h => omega)
set_option maxRecDepth 100000 in
theorem kX4_takeEvent_0 : ((mX4_takeEvent.2.2.2.2.2.2.2.drop (40 * 0)).take 40).all (px_chkI mX4_takeEvent.1 mX4_takeEvent.2.2.1 mX4_takeEvent.2.1) = true := by decide +kernel
set_option maxRecDepth 100000 in
theorem kX4_takeEvent : px_chk mX4_takeEvent := px_chk_of 1 rfl (by decide +kernel) (by decide +kernel) (fun j hj => by
  match j, hj with
  | 0, _ => exact kX4_takeEvent_0
  | j + 1, h => omega)
set_option maxRecDepth 100000 in
theorem kX4_endRun_0 : ((mX4_endRun.2.2.2.2.2.2.2.drop (40 * 0)).take 40).all (px_chkI mX4_endRun.1 mX4_endRun.2.2.1 mX4_endRun.2.1) = true := by decide +kernel
set_option maxRecDepth 100000 in
theorem kX4_endRun_1 : ((mX4_endRun.2.2.2.2.2.2.2.drop (40 * 1)).take 40).all (px_chkI mX4_endRun.1 mX4_endRun.2.2.1 mX4_endRun.2.1) = true := by decide +kernel
set_option maxRecDepth 100000 in
theorem kX4_endRun : px_chk mX4_endRun := px_chk_of 2 rfl (by decide +kernel) (by decide +kernel) (fun j hj => by
  match j, hj with
  | 0, _ => exact kX4_endRun_0
  | 1, _ => exact kX4_endRun_1
  | j + 2, h => omega)
set_option maxRecDepth 100000 in
theorem kX5_init_0 : ((mX5_init.2.2.2.2.2.2.2.drop (40 * 0)).take 40).all (px_chkI mX5_init.1 mX5_init.2.2.1 mX5_init.2.1) = true := by decide +kernel
set_option maxRecDepth 100000 in
theorem kX5_init : px_chk mX5_init := px_chk_of 1 rfl (by decide +kernel) (by decide +kernel) (fun j hj => by
  match j, hj with
  | 0, _ => exact kX5_init_0
  | j + 1, h => omega)
set_option maxRecDepth 100000 in
theorem kX5_explore_0 : ((mX5_explore.2.2.2.2.2.2.2.drop (40 * 0)).take 40).all (px_chkI mX5_explore.1 mX5_explore.2.2.1 mX5_explore.2.1) = true := by decide +kernel
set_option maxRecDepth 100000 in
theorem kX5_explore_1 : ((mX5_explore.2.2.2.2.2.2.2.drop (40 * 1)).take 40).all (px_chkI mX5_explore.1 mX5_explore.2.2.1 mX5_explore.2.1) = true := by decide +kernel
set_option maxRecDepth 100000 in
theorem kX5_explore : px_chk mX5_explore := px_chk_of 2 rfl (by decide +kernel) (by decide +kernel) (fun j hj => by
  match j, hj with
  | 0, _ => exact kX5_explore_0
  | 1, _ => exact kX5_explore_1
  | j + 2, h => omega)
set_option maxRecDepth 100000 in
theorem kX5_expand_0 : ((mX5_expand.2.2.2.2.2.2.2.drop (40 * 0)).take 40).all (px_chkI mX5_expand.1 mX5_expand.2.2.1 mX5_expand.2.1) = true := by decide +kernel
set_option maxRecDepth 100000 in
theorem kX5_expand_1 : ((mX5_expand.2.2.2.2.2.2.2.drop (40 * 1)).take 40).all (px_chkI mX5_expand.1 mX5_expand.2.2.1 mX5_expand.2.1) = true := by decide +kernel
set_option maxRecDepth 100000 in
theorem kX5_expand_2 : ((mX5_expand.2.2.2.2.2.2.2.drop (40 * 2)).take 40).all (px_chkI mX5_expand.1 mX5_expand.2.2.1 mX5_expand.2.1) = true := by decide +kernel
set_option maxRecDepth 100000 in
theorem kX5_expand : px_chk mX5_expand := px_chk_of 3 rfl (by decide +kernel) (by decide +kernel) (fun j hj => by
  match j, hj with
  | 0, _ => exact kX5_expand_0
  | 1, _ => exact kX5_expand_1
  | 2, _ => exact kX5_expand_2
  | j + 3, h => omega)
set_option maxRecDepth 100000 in
theorem kX5_moveObjects_0 : ((mX5_moveObjects.2.2.2.2.2.2.2.drop (40 * 0)).take 40).all (px_chkI mX5_moveObjects.1 mX5_moveObjects.2.2.1 mX5_moveObjects.2.1) = true := by decide +kernel
set_option maxRecDepth 100000 in
theorem kX5_moveObjects : px_chk mX5_moveObjects := px_chk_of 1 rfl (by decide +kernel) (by decide +kernel) (fun j hj => by
  match j, hj with
  | 0, _ => exact kX5_moveObjects_0
  | j + 1, h => omega)
set_option maxRecDepth 100000 in
theorem kX5_go_0 : ((mX5_go.2.2.2.2.2.2.2.drop (40 * 0)).take 40).all (px_chkI mX5_go.1 mX5_go.2.2.1 mX5_go.2.1) = true := by decide +kernel
set_option maxRecDepth 100000 in
theorem kX5_go : px_chk mX5_go := px_chk_of 1 rfl (by decide +kernel) (by decide +kernel) (fun j hj => by
  match j, hj with
  | 0, _ => exact kX5_go_0
  | j + 1, h => omega)
set_option maxRecDepth 100000 in
theorem kX5_makeFrom_0 : ((mX5_makeFrom.2.2.2.2.2.2.2.drop (40 * 0)).take 40).all (px_chkI mX5_makeFrom.1 mX5_makeFrom.2.2.1 mX5_makeFrom.2.1) = true := by decide +kernel
set_option maxRecDepth 100000 in
theorem kX5_makeFrom : px_chk mX5_makeFrom := px_chk_of 1 rfl (by decide +kernel) (by decide +kernel) (fun j hj => by
  match j, hj with
  | 0, _ => exact kX5_makeFrom_0
  | j + 1, h => omega)
set_option maxRecDepth 100000 in
theorem kX5_make_0 : ((mX5_make.2.2.2.2.2.2.2.drop (40 * 0)).take 40).all (px_chkI mX5_make.1 mX5_make.2.2.1 mX5_make.2.1) = true := by decide +kernel
set_option maxRecDepth 100000 in
theorem kX5_make_1 : ((mX5_make.2.2.2.2.2.2.2.drop (40 * 1)).take 40).all (px_chkI mX5_make.1 mX5_make.2.2.1 mX5_make.2.1) = true := by decide +kernel
set_option maxRecDepth 100000 in
theorem kX5_make : px_chk mX5_make := px_chk_of 2 rfl (by decide +kernel) (by decide +kernel) (fun j hj => by
  match j, hj with
  | 0, _ => exact kX5_make_0
  | 1, _ => exact kX5_make_1
  | j + 2, h => omega)
set_option maxRecDepth 100000 in
theorem kX5_canBeChosen_0 : ((mX5_canBeChosen.2.2.2.2.2.2.2.drop (40 * 0)).take 40).all (px_chkI mX5_canBeChosen.1 mX5_canBeChosen.2.2.1 mX5_canBeChosen.2.1) = true := by decide +kernel
set_option maxRecDepth 100000 in
theorem kX5_canBeChosen : px_chk mX5_canBeChosen := px_chk_of 1 rfl (by decide +kernel) (by decide +kernel) (fun j hj => by
  match j, hj with
  | 0, _ => exact kX5_canBeChosen_0
  | j + 1, h => omega)
set_option maxRecDepth 100000 in
theorem kX5_call_0 : ((mX5_call.2.2.2.2.2.2.2.drop (40 * 0)).take 40).all (px_chkI mX5_call.1 mX5_call.2.2.1 mX5_call.2.1) = true := by decide +kernel
set_option maxRecDepth 100000 in
theorem kX5_call_1 : ((mX5_call.2.2.2.2.2.2.2.drop (40 * 1)).take 40).all (px_chkI mX5_call.1 mX5_call.2.2.1 mX5_call.2.1) = true := by decide +kernel
set_option maxRecDepth 100000 in
theorem kX5_call : px_chk mX5_call := px_chk_of 2 rfl (by decide +kernel) (by decide +kernel) (fun j hj => by
  match j, hj with
  | 0, _ => exact kX5_call_0
  | 1, _ => exact kX5_call_1
  | j + 2, h => omega)
set_option maxRecDepth 100000 in
theorem kX5_takeEvent_0 : ((mX5_takeEvent.2.2.2.2.2.2.2.drop (40 * 0)).take 40).all (px_chkI mX5_takeEvent.1 mX5_takeEvent.2.2.1 mX5_takeEvent.2.1) = true := by decide +kernel
set_option maxRecDepth 100000 in
theorem kX5_takeEvent : px_chk mX5_takeEvent := px_chk_of 1 rfl (by decide +kernel) (by decide +kernel) (fun j hj => by
  match j, hj with
  | 0, _ => exact kX5_takeEvent_0
  | j + 1, h => omega)
set_option maxRecDepth 100000 in
theorem kX5_get_0 : ((mX5_get.2.2.2.2.2.2.2.drop (40 * 0)).take 40).all (px_chkI mX5_get.1 mX5_get.2.2.1 mX5_get.2.1) = true := by decide +kernel
set_option maxRecDepth 100000 in
theorem kX5_get : px_chk mX5_get := px_chk_of 1 rfl (by decide +kernel) (by decide +kernel) (fun j hj => by
  match j, hj with
  | 0, _ => exact kX5_get_0
  | j + 1, h => omega)
set_option maxRecDepth 100000 in
theorem kX5_endRun_0 : ((mX5_endRun.2.2.2.2.2.2.2.drop (40 * 0)).take 40).all (px_chkI mX5_endRun.1 mX5_endRun.2.2.1 mX5_endRun.2.1) = true := by decide +kernel
set_option maxRecDepth 100000 in
theorem kX5_endRun : px_chk mX5_endRun := px_chk_of 1 rfl (by decide +kernel) (by decide +kernel) (fun j hj => by
  match j, hj with
  | 0, _ => exact kX5_endRun_0
  | j + 1, h => omega)
set_option maxRecDepth 100000 in
theorem kX6_init_0 : ((mX6_init.2.2.2.2.2.2.2.drop (40 * 0)).take 40).all (px_chkI mX6_init.1 mX6_init.2.2.1 mX6_init.2.1) = true := by decide +kernel
set_option maxRecDepth 100000 in
theorem kX6_init_1 : ((mX6_init.2.2.2.2.2.2.2.drop (40 * 1)).take 40).all (px_chkI mX6_init.1 mX6_init.2.2.1 mX6_init.2.1) = true := by decide +kernel
set_option maxRecDepth 100000 in
theorem kX6_init : px_chk mX6_init := px_chk_of 2 rfl (by decide +kernel) (by decide +kernel) (fun j hj => by
  match j, hj with
  | 0, _ => exact kX6_init_0
  | 1, _ => exact kX6_init_1
  | j + 2, h => omega)
set_option maxRecDepth 100000 in
theorem kX6_leads_0 : ((mX6_leads.2.2.2.2.2.2.2.drop (40 * 0)).take 40).all (px_chkI mX6_leads.1 mX6_leads.2.2.1 mX6_leads.2.1) = true := by decide +kernel
set_option maxRecDepth 100000 in
theorem kX6_leads : px_chk mX6_leads := px_chk_of 1 rfl (by decide +kernel) (by decide +kernel) (fun j hj => by
  match j, hj with
  | 0, _ => exact kX6_leads_0
  | j + 1, h => omega)
set_option maxRecDepth 100000 in
theorem kX6_isEnd_0 : ((mX6_isEnd.2.2.2.2.2.2.2.drop (40 * 0)).take 40).all (px_chkI mX6_isEnd.1 mX6_isEnd.2.2.1 mX6_isEnd.2.1) = true := by decide +kernel
set_option maxRecDepth 100000 in
theorem kX6_isEnd : px_chk mX6_isEnd := px_chk_of 1 rfl (by decide +kernel) (by decide +kernel) (fun j hj => by
  match j, hj with
  | 0, _ => exact kX6_isEnd_0
  | j + 1, h => omega)
