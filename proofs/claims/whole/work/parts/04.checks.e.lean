set_option maxRecDepth 100000 in
theorem kX12_act_0 : ((mX12_act.2.2.2.2.2.2.2.drop (40 * 0)).take 40).all (px_chkI mX12_act.1 mX12_act.2.2.1 mX12_act.2.1) = true := by decide +kernel
set_option maxRecDepth 100000 in
theorem kX12_act_1 : ((mX12_act.2.2.2.2.2.2.2.drop (40 * 1)).take 40).all (px_chkI mX12_act.1 mX12_act.2.2.1 mX12_act.2.1) = true := by decide +kernel
set_option maxRecDepth 100000 in
theorem kX12_act_2 : ((mX12_act.2.2.2.2.2.2.2.drop (40 * 2)).take 40).all (px_chkI mX12_act.1 mX12_act.2.2.1 mX12_act.2.1) = true := by decide +kernel
set_option maxRecDepth 100000 in
theorem kX12_act_3 : ((mX12_act.2.2.2.2.2.2.2.drop (40 * 3)).take 40).all (px_chkI mX12_act.1 mX12_act.2.2.1 mX12_act.2.1) = true := by decide +kernel
set_option maxRecDepth 100000 in
theorem kX12_act_4 : ((mX12_act.2.2.2.2.2.2.2.drop (40 * 4)).take 40).all (px_chkI mX12_act.1 mX12_act.2.2.1 mX12_act.2.1) = true := by decide +kernel
set_option maxRecDepth 100000 in
theorem kX12_act_5 : ((mX12_act.2.2.2.2.2.2.2.drop (40 * 5)).take 40).all (px_chkI mX12_act.1 mX12_act.2.2.1 mX12_act.2.1) = true := by decide +kernel
set_option maxRecDepth 100000 in
theorem kX12_act_6 : ((mX12_act.2.2.2.2.2.2.2.drop (40 * 6)).take 40).all (px_chkI mX12_act.1 mX12_act.2.2.1 mX12_act.2.1) = true := by decide +kernel
set_option maxRecDepth 100000 in
theorem kX12_act_7 : ((mX12_act.2.2.2.2.2.2.2.drop (40 * 7)).take 40).all (px_chkI mX12_act.1 mX12_act.2.2.1 mX12_act.2.1) = true := by decide +kernel
set_option maxRecDepth 100000 in
theorem kX12_act_8 : ((mX12_act.2.2.2.2.2.2.2.drop (40 * 8)).take 40).all (px_chkI mX12_act.1 mX12_act.2.2.1 mX12_act.2.1) = true := by decide +kernel
set_option maxRecDepth 100000 in
theorem kX12_act_9 : ((mX12_act.2.2.2.2.2.2.2.drop (40 * 9)).take 40).all (px_chkI mX12_act.1 mX12_act.2.2.1 mX12_act.2.1) = true := by decide +kernel
set_option maxRecDepth 100000 in
theorem kX12_act : px_chk mX12_act := px_chk_of 10 rfl (by decide +kernel) (by decide +kernel) (fun j hj => by
  match j, hj with
  | 0, _ => exact kX12_act_0
  | 1, _ => exact kX12_act_1
  | 2, _ => exact kX12_act_2
  | 3, _ => exact kX12_act_3
  | 4, _ => exact kX12_act_4
  | 5, _ => exact kX12_act_5
  | 6, _ => exact kX12_act_6
  | 7, _ => exact kX12_act_7
  | 8, _ => exact kX12_act_8
  | 9, _ => exact kX12_act_9
  | j + 10, h => omega)
