set_option maxRecDepth 100000 in
theorem kX12_get_0 : ((mX12_get.2.2.2.2.2.2.2.drop (40 * 0)).take 40).all (px_chkI mX12_get.1 mX12_get.2.2.1 mX12_get.2.1) = true := by decide +kernel
set_option maxRecDepth 100000 in
theorem kX12_get_1 : ((mX12_get.2.2.2.2.2.2.2.drop (40 * 1)).take 40).all (px_chkI mX12_get.1 mX12_get.2.2.1 mX12_get.2.1) = true := by decide +kernel
set_option maxRecDepth 100000 in
theorem kX12_get_2 : ((mX12_get.2.2.2.2.2.2.2.drop (40 * 2)).take 40).all (px_chkI mX12_get.1 mX12_get.2.2.1 mX12_get.2.1) = true := by decide +kernel
set_option maxRecDepth 100000 in
theorem kX12_get : px_chk mX12_get := px_chk_of 3 rfl (by decide +kernel) (by decide +kernel) (fun j hj => by
  match j, hj with
  | 0, _ => exact kX12_get_0
  | 1, _ => exact kX12_get_1
  | 2, _ => exact kX12_get_2
  | j + 3, h => omega)
set_option maxRecDepth 100000 in
theorem kX12_placeOf_0 : ((mX12_placeOf.2.2.2.2.2.2.2.drop (40 * 0)).take 40).all (px_chkI mX12_placeOf.1 mX12_placeOf.2.2.1 mX12_placeOf.2.1) = true := by decide +kernel
set_option maxRecDepth 100000 in
theorem kX12_placeOf : px_chk mX12_placeOf := px_chk_of 1 rfl (by decide +kernel) (by decide +kernel) (fun j hj => by
  match j, hj with
  | 0, _ => exact kX12_placeOf_0
  | j + 1, h => omega)
set_option maxRecDepth 100000 in
theorem kX12_isBefore_0 : ((mX12_isBefore.2.2.2.2.2.2.2.drop (40 * 0)).take 40).all (px_chkI mX12_isBefore.1 mX12_isBefore.2.2.1 mX12_isBefore.2.1) = true := by decide +kernel
set_option maxRecDepth 100000 in
theorem kX12_isBefore : px_chk mX12_isBefore := px_chk_of 1 rfl (by decide +kernel) (by decide +kernel) (fun j hj => by
  match j, hj with
  | 0, _ => exact kX12_isBefore_0
  | j + 1, h => omega)
set_option maxRecDepth 100000 in
theorem kX12_order_0 : ((mX12_order.2.2.2.2.2.2.2.drop (40 * 0)).take 40).all (px_chkI mX12_order.1 mX12_order.2.2.1 mX12_order.2.1) = true := by decide +kernel
set_option maxRecDepth 100000 in
theorem kX12_order_1 : ((mX12_order.2.2.2.2.2.2.2.drop (40 * 1)).take 40).all (px_chkI mX12_order.1 mX12_order.2.2.1 mX12_order.2.1) = true := by decide +kernel
set_option maxRecDepth 100000 in
theorem kX12_order_2 : ((mX12_order.2.2.2.2.2.2.2.drop (40 * 2)).take 40).all (px_chkI mX12_order.1 mX12_order.2.2.1 mX12_order.2.1) = true := by decide +kernel
set_option maxRecDepth 100000 in
theorem kX12_order : px_chk mX12_order := px_chk_of 3 rfl (by decide +kernel) (by decide +kernel) (fun j hj => by
  match j, hj with
  | 0, _ => exact kX12_order_0
  | 1, _ => exact kX12_order_1
  | 2, _ => exact kX12_order_2
  | j + 3, h => omega)
set_option maxRecDepth 100000 in
theorem kX12_judge_0 : ((mX12_judge.2.2.2.2.2.2.2.drop (40 * 0)).take 40).all (px_chkI mX12_judge.1 mX12_judge.2.2.1 mX12_judge.2.1) = true := by decide +kernel
set_option maxRecDepth 100000 in
theorem kX12_judge_1 : ((mX12_judge.2.2.2.2.2.2.2.drop (40 * 1)).take 40).all (px_chkI mX12_judge.1 mX12_judge.2.2.1 mX12_judge.2.1) = true := by decide +kernel
set_option maxRecDepth 100000 in
theorem kX12_judge_2 : ((mX12_judge.2.2.2.2.2.2.2.drop (40 * 2)).take 40).all (px_chkI mX12_judge.1 mX12_judge.2.2.1 mX12_judge.2.1) = true := by decide +kernel
set_option maxRecDepth 100000 in
theorem kX12_judge_3 : ((mX12_judge.2.2.2.2.2.2.2.drop (40 * 3)).take 40).all (px_chkI mX12_judge.1 mX12_judge.2.2.1 mX12_judge.2.1) = true := by decide +kernel
set_option maxRecDepth 100000 in
theorem kX12_judge_4 : ((mX12_judge.2.2.2.2.2.2.2.drop (40 * 4)).take 40).all (px_chkI mX12_judge.1 mX12_judge.2.2.1 mX12_judge.2.1) = true := by decide +kernel
set_option maxRecDepth 100000 in
theorem kX12_judge : px_chk mX12_judge := px_chk_of 5 rfl (by decide +kernel) (by decide +kernel) (fun j hj => by
  match j, hj with
  | 0, _ => exact kX12_judge_0
  | 1, _ => exact kX12_judge_1
  | 2, _ => exact kX12_judge_2
  | 3, _ => exact kX12_judge_3
  | 4, _ => exact kX12_judge_4
  | j + 5, h => omega)
set_option maxRecDepth 100000 in
theorem kX12_shapes_0 : ((mX12_shapes.2.2.2.2.2.2.2.drop (40 * 0)).take 40).all (px_chkI mX12_shapes.1 mX12_shapes.2.2.1 mX12_shapes.2.1) = true := by decide +kernel
set_option maxRecDepth 100000 in
theorem kX12_shapes : px_chk mX12_shapes := px_chk_of 1 rfl (by decide +kernel) (by decide +kernel) (fun j hj => by
  match j, hj with
  | 0, _ => exact kX12_shapes_0
  | j + 1, h => omega)
set_option maxRecDepth 100000 in
theorem kX12_way_0 : ((mX12_way.2.2.2.2.2.2.2.drop (40 * 0)).take 40).all (px_chkI mX12_way.1 mX12_way.2.2.1 mX12_way.2.1) = true := by decide +kernel
set_option maxRecDepth 100000 in
theorem kX12_way : px_chk mX12_way := px_chk_of 1 rfl (by decide +kernel) (by decide +kernel) (fun j hj => by
  match j, hj with
  | 0, _ => exact kX12_way_0
  | j + 1, h => omega)
set_option maxRecDepth 100000 in
theorem kX12_drawNext_0 : ((mX12_drawNext.2.2.2.2.2.2.2.drop (40 * 0)).take 40).all (px_chkI mX12_drawNext.1 mX12_drawNext.2.2.1 mX12_drawNext.2.1) = true := by decide +kernel
set_option maxRecDepth 100000 in
theorem kX12_drawNext : px_chk mX12_drawNext := px_chk_of 1 rfl (by decide +kernel) (by decide +kernel) (fun j hj => by
  match j, hj with
  | 0, _ => exact kX12_drawNext_0
  | j + 1, h => omega)
set_option maxRecDepth 100000 in
theorem kX12_create_0 : ((mX12_create.2.2.2.2.2.2.2.drop (40 * 0)).take 40).all (px_chkI mX12_create.1 mX12_create.2.2.1 mX12_create.2.1) = true := by decide +kernel
set_option maxRecDepth 100000 in
theorem kX12_create_1 : ((mX12_create.2.2.2.2.2.2.2.drop (40 * 1)).take 40).all (px_chkI mX12_create.1 mX12_create.2.2.1 mX12_create.2.1) = true := by decide +kernel
set_option maxRecDepth 100000 in
theorem kX12_create : px_chk mX12_create := px_chk_of 2 rfl (by decide +kernel) (by decide +kernel) (fun j hj => by
  match j, hj with
  | 0, _ => exact kX12_create_0
  | 1, _ => exact kX12_create_1
  | j + 2, h => omega)
set_option maxRecDepth 100000 in
theorem kX12_happens_0 : ((mX12_happens.2.2.2.2.2.2.2.drop (40 * 0)).take 40).all (px_chkI mX12_happens.1 mX12_happens.2.2.1 mX12_happens.2.1) = true := by decide +kernel
set_option maxRecDepth 100000 in
theorem kX12_happens : px_chk mX12_happens := px_chk_of 1 rfl (by decide +kernel) (by decide +kernel) (fun j hj => by
  match j, hj with
  | 0, _ => exact kX12_happens_0
  | j + 1, h => omega)
set_option maxRecDepth 100000 in
theorem kX12_called_0 : ((mX12_called.2.2.2.2.2.2.2.drop (40 * 0)).take 40).all (px_chkI mX12_called.1 mX12_called.2.2.1 mX12_called.2.1) = true := by decide +kernel
set_option maxRecDepth 100000 in
theorem kX12_called_1 : ((mX12_called.2.2.2.2.2.2.2.drop (40 * 1)).take 40).all (px_chkI mX12_called.1 mX12_called.2.2.1 mX12_called.2.1) = true := by decide +kernel
set_option maxRecDepth 100000 in
theorem kX12_called : px_chk mX12_called := px_chk_of 2 rfl (by decide +kernel) (by decide +kernel) (fun j hj => by
  match j, hj with
  | 0, _ => exact kX12_called_0
  | 1, _ => exact kX12_called_1
  | j + 2, h => omega)
set_option maxRecDepth 100000 in
theorem kX12_end_0 : ((mX12_end.2.2.2.2.2.2.2.drop (40 * 0)).take 40).all (px_chkI mX12_end.1 mX12_end.2.2.1 mX12_end.2.1) = true := by decide +kernel
set_option maxRecDepth 100000 in
theorem kX12_end_1 : ((mX12_end.2.2.2.2.2.2.2.drop (40 * 1)).take 40).all (px_chkI mX12_end.1 mX12_end.2.2.1 mX12_end.2.1) = true := by decide +kernel
set_option maxRecDepth 100000 in
theorem kX12_end : px_chk mX12_end := px_chk_of 2 rfl (by decide +kernel) (by decide +kernel) (fun j hj => by
  match j, hj with
  | 0, _ => exact kX12_end_0
  | 1, _ => exact kX12_end_1
  | j + 2, h => omega)
set_option maxRecDepth 100000 in
theorem kX12_putInBag_0 : ((mX12_putInBag.2.2.2.2.2.2.2.drop (40 * 0)).take 40).all (px_chkI mX12_putInBag.1 mX12_putInBag.2.2.1 mX12_putInBag.2.1) = true := by decide +kernel
set_option maxRecDepth 100000 in
theorem kX12_putInBag_1 : ((mX12_putInBag.2.2.2.2.2.2.2.drop (40 * 1)).take 40).all (px_chkI mX12_putInBag.1 mX12_putInBag.2.2.1 mX12_putInBag.2.1) = true := by decide +kernel
set_option maxRecDepth 100000 in
theorem kX12_putInBag : px_chk mX12_putInBag := px_chk_of 2 rfl (by decide +kernel) (by decide +kernel) (fun j hj => by
  match j, hj with
  | 0, _ => exact kX12_putInBag_0
  | 1, _ => exact kX12_putInBag_1
  | j + 2, h => omega)
set_option maxRecDepth 100000 in
theorem kX12_go_0 : ((mX12_go.2.2.2.2.2.2.2.drop (40 * 0)).take 40).all (px_chkI mX12_go.1 mX12_go.2.2.1 mX12_go.2.1) = true := by decide +kernel
set_option maxRecDepth 100000 in
theorem kX12_go_1 : ((mX12_go.2.2.2.2.2.2.2.drop (40 * 1)).take 40).all (px_chkI mX12_go.1 mX12_go.2.2.1 mX12_go.2.1) = true := by decide +kernel
set_option maxRecDepth 100000 in
theorem kX12_go_2 : ((mX12_go.2.2.2.2.2.2.2.drop (40 * 2)).take 40).all (px_chkI mX12_go.1 mX12_go.2.2.1 mX12_go.2.1) = true := by decide +kernel
set_option maxRecDepth 100000 in
theorem kX12_go_3 : ((mX12_go.2.2.2.2.2.2.2.drop (40 * 3)).take 40).all (px_chkI mX12_go.1 mX12_go.2.2.1 mX12_go.2.1) = true := by decide +kernel
set_option maxRecDepth 100000 in
theorem kX12_go : px_chk mX12_go := px_chk_of 4 rfl (by decide +kernel) (by decide +kernel) (fun j hj => by
  match j, hj with
  | 0, _ => exact kX12_go_0
  | 1, _ => exact kX12_go_1
  | 2, _ => exact kX12_go_2
  | 3, _ => exact kX12_go_3
  | j + 4, h => omega)
set_option maxRecDepth 100000 in
theorem kX12_draw_0 : ((mX12_draw.2.2.2.2.2.2.2.drop (40 * 0)).take 40).all (px_chkI mX12_draw.1 mX12_draw.2.2.1 mX12_draw.2.1) = true := by decide +kernel
set_option maxRecDepth 100000 in
theorem kX12_draw_1 : ((mX12_draw.2.2.2.2.2.2.2.drop (40 * 1)).take 40).all (px_chkI mX12_draw.1 mX12_draw.2.2.1 mX12_draw.2.1) = true := by decide +kernel
set_option maxRecDepth 100000 in
theorem kX12_draw_2 : ((mX12_draw.2.2.2.2.2.2.2.drop (40 * 2)).take 40).all (px_chkI mX12_draw.1 mX12_draw.2.2.1 mX12_draw.2.1) = true := by decide +kernel
set_option maxRecDepth 100000 in
theorem kX12_draw : px_chk mX12_draw := px_chk_of 3 rfl (by decide +kernel) (by decide +kernel) (fun j hj => by
  match j, hj with
  | 0, _ => exact kX12_draw_0
  | 1, _ => exact kX12_draw_1
  | 2, _ => exact kX12_draw_2
  | j + 3, h => omega)
set_option maxRecDepth 100000 in
theorem kX12_counted_0 : ((mX12_counted.2.2.2.2.2.2.2.drop (40 * 0)).take 40).all (px_chkI mX12_counted.1 mX12_counted.2.2.1 mX12_counted.2.1) = true := by decide +kernel
set_option maxRecDepth 100000 in
theorem kX12_counted_1 : ((mX12_counted.2.2.2.2.2.2.2.drop (40 * 1)).take 40).all (px_chkI mX12_counted.1 mX12_counted.2.2.1 mX12_counted.2.1) = true := by decide +kernel
set_option maxRecDepth 100000 in
theorem kX12_counted : px_chk mX12_counted := px_chk_of 2 rfl (by decide +kernel) (by decide +kernel) (fun j hj => by
  match j, hj with
  | 0, _ => exact kX12_counted_0
  | 1, _ => exact kX12_counted_1
  | j + 2, h => omega)
set_option maxRecDepth 100000 in
theorem kX12_forget_0 : ((mX12_forget.2.2.2.2.2.2.2.drop (40 * 0)).take 40).all (px_chkI mX12_forget.1 mX12_forget.2.2.1 mX12_forget.2.1) = true := by decide +kernel
set_option maxRecDepth 100000 in
theorem kX12_forget_1 : ((mX12_forget.2.2.2.2.2.2.2.drop (40 * 1)).take 40).all (px_chkI mX12_forget.1 mX12_forget.2.2.1 mX12_forget.2.1) = true := by decide +kernel
set_option maxRecDepth 100000 in
theorem kX12_forget : px_chk mX12_forget := px_chk_of 2 rfl (by decide +kernel) (by decide +kernel) (fun j hj => by
  match j, hj with
  | 0, _ => exact kX12_forget_0
  | 1, _ => exact kX12_forget_1
  | j + 2, h => omega)
set_option maxRecDepth 100000 in
theorem kX12_told_0 : ((mX12_told.2.2.2.2.2.2.2.drop (40 * 0)).take 40).all (px_chkI mX12_told.1 mX12_told.2.2.1 mX12_told.2.1) = true := by decide +kernel
set_option maxRecDepth 100000 in
theorem kX12_told : px_chk mX12_told := px_chk_of 1 rfl (by decide +kernel) (by decide +kernel) (fun j hj => by
  match j, hj with
  | 0, _ => exact kX12_told_0
  | j + 1, h => omega)
