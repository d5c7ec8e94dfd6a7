theorem am_all_0 : (List.range 12).all (fun k => am_all (0 + k)) = true := by decide +kernel
theorem am_all_1 : (List.range 12).all (fun k => am_all (12 + k)) = true := by decide +kernel
theorem am_all_2 : (List.range 12).all (fun k => am_all (24 + k)) = true := by decide +kernel
theorem am_all_3 : (List.range 12).all (fun k => am_all (36 + k)) = true := by decide +kernel
theorem am_all_4 : (List.range 12).all (fun k => am_all (48 + k)) = true := by decide +kernel
theorem am_all_5 : (List.range 12).all (fun k => am_all (60 + k)) = true := by decide +kernel
