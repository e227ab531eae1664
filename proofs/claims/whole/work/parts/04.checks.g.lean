set_option maxRecDepth 100000 in
theorem kJ7_rangeCheck_23922_0 : ((mJ7_rangeCheck_23922.2.2.2.2.2.2.2.drop (40 * 0)).take 40).all (px_chkI mJ7_rangeCheck_23922.1 mJ7_rangeCheck_23922.2.2.1 mJ7_rangeCheck_23922.2.1) = true := by decide +kernel
set_option maxRecDepth 100000 in
theorem kJ7_rangeCheck_23922 : px_chk mJ7_rangeCheck_23922 := px_chk_of 1 rfl (by decide +kernel) (by decide +kernel) (fun j hj => by
  match j, hj with
  | 0, _ => exact kJ7_rangeCheck_23922_0
  | j + 1, h => omega)
set_option maxRecDepth 100000 in
theorem kJ7_fill_d0a16_0 : ((mJ7_fill_d0a16.2.2.2.2.2.2.2.drop (40 * 0)).take 40).all (px_chkI mJ7_fill_d0a16.1 mJ7_fill_d0a16.2.2.1 mJ7_fill_d0a16.2.1) = true := by decide +kernel
set_option maxRecDepth 100000 in
theorem kJ7_fill_d0a16 : px_chk mJ7_fill_d0a16 := px_chk_of 1 rfl (by decide +kernel) (by decide +kernel) (fun j hj => by
  match j, hj with
  | 0, _ => exact kJ7_fill_d0a16_0
  | j + 1, h => omega)
set_option maxRecDepth 100000 in
theorem kJ7_fill_53178_0 : ((mJ7_fill_53178.2.2.2.2.2.2.2.drop (40 * 0)).take 40).all (px_chkI mJ7_fill_53178.1 mJ7_fill_53178.2.2.1 mJ7_fill_53178.2.1) = true := by decide +kernel
set_option maxRecDepth 100000 in
theorem kJ7_fill_53178 : px_chk mJ7_fill_53178 := px_chk_of 1 rfl (by decide +kernel) (by decide +kernel) (fun j hj => by
  match j, hj with
  | 0, _ => exact kJ7_fill_53178_0
  | j + 1, h => omega)
set_option maxRecDepth 100000 in
theorem kJ7_fill_fda19_0 : ((mJ7_fill_fda19.2.2.2.2.2.2.2.drop (40 * 0)).take 40).all (px_chkI mJ7_fill_fda19.1 mJ7_fill_fda19.2.2.1 mJ7_fill_fda19.2.1) = true := by decide +kernel
set_option maxRecDepth 100000 in
theorem kJ7_fill_fda19 : px_chk mJ7_fill_fda19 := px_chk_of 1 rfl (by decide +kernel) (by decide +kernel) (fun j hj => by
  match j, hj with
  | 0, _ => exact kJ7_fill_fda19_0
  | j + 1, h => omega)
set_option maxRecDepth 100000 in
theorem kJ7_copyOf_59c91_0 : ((mJ7_copyOf_59c91.2.2.2.2.2.2.2.drop (40 * 0)).take 40).all (px_chkI mJ7_copyOf_59c91.1 mJ7_copyOf_59c91.2.2.1 mJ7_copyOf_59c91.2.1) = true := by decide +kernel
set_option maxRecDepth 100000 in
theorem kJ7_copyOf_59c91 : px_chk mJ7_copyOf_59c91 := px_chk_of 1 rfl (by decide +kernel) (by decide +kernel) (fun j hj => by
  match j, hj with
  | 0, _ => exact kJ7_copyOf_59c91_0
  | j + 1, h => omega)
