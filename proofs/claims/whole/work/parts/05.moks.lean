theorem am_moks_0 : (List.range 30).all (fun k => am_mok (0 + k)) = true := by decide +kernel
theorem am_moks_1 : (List.range 30).all (fun k => am_mok (30 + k)) = true := by decide +kernel
theorem am_moks_2 : (List.range 30).all (fun k => am_mok (60 + k)) = true := by decide +kernel
theorem am_moks_3 : (List.range 30).all (fun k => am_mok (90 + k)) = true := by decide +kernel
theorem am_moks_4 : (List.range 30).all (fun k => am_mok (120 + k)) = true := by decide +kernel
theorem am_moks_5 : (List.range 23).all (fun k => am_mok (150 + k)) = true := by decide +kernel
theorem am_coks : (List.range 13).all am_cok = true := by decide +kernel
