theorem am_all_8 : (List.range 12).all (fun k => am_all (96 + k)) = true := by decide +kernel
theorem am_all_9 : (List.range 12).all (fun k => am_all (108 + k)) = true := by decide +kernel
