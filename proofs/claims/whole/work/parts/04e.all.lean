theorem am_all_12 : (List.range 12).all (fun k => am_all (144 + k)) = true := by decide +kernel
theorem am_all_13 : (List.range 12).all (fun k => am_all (156 + k)) = true := by decide +kernel
theorem am_all_14 : (List.range 5).all (fun k => am_all (168 + k)) = true := by decide +kernel
