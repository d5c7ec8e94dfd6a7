theorem am_all_6 : (List.range 12).all (fun k => am_all (72 + k)) = true := by decide +kernel
theorem am_all_7 : (List.range 12).all (fun k => am_all (84 + k)) = true := by decide +kernel
