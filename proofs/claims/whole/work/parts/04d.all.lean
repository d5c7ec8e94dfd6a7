theorem am_all_10 : (List.range 12).all (fun k => am_all (120 + k)) = true := by decide +kernel
theorem am_all_11 : (List.range 12).all (fun k => am_all (132 + k)) = true := by decide +kernel
