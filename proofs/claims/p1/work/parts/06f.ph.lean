theorem ph_1 : eg_req (eg_run [] (eg_rep (.float 0) 1) 9999 23 20000 9999 12 20 600002 7302232 0 (eg_pg 9999) [(0, .float 1)] [] 0 eg_h0) 9 23 eg_ls23 [] eg_hn23 eg_h23 = true := by decide +kernel
theorem ph_2 : eg_req (eg_run [] (eg_rep (.float 0) 2) 9999 23 20000 9999 12 20 600002 7302232 0 (eg_pg 9999) [(0, .float 1)] [] 0 eg_h0) 9 23 eg_ls23 [] eg_hn23 eg_h23 = true := by decide +kernel
theorem ph_3 : eg_req (eg_run [] (eg_rep (.float 0) 3) 9999 23 20000 9999 12 20 600002 7302232 0 (eg_pg 9999) [(0, .float 1)] [] 0 eg_h0) 9 23 eg_ls23 [] eg_hn23 eg_h23 = true := by decide +kernel
theorem ph_4 : eg_req (eg_run [] (eg_rep (.float 0) 4) 9999 23 20000 9999 12 20 600002 7302232 0 (eg_pg 9999) [(0, .float 1)] [] 0 eg_h0) 9 23 eg_ls23 [] eg_hn23 eg_h23 = true := by decide +kernel
theorem ph_5 : eg_req (eg_run [] (eg_rep (.float 0) 5) 9999 23 20000 9999 12 20 600002 7302232 0 (eg_pg 9999) [(0, .float 1)] [] 0 eg_h0) 9 23 eg_ls23 [] eg_hn23 eg_h23 = true := by decide +kernel
theorem ph_6 : eg_req (eg_run [] (eg_rep (.float 0) 6) 9999 23 20000 9999 12 20 600002 7302232 0 (eg_pg 9999) [(0, .float 1)] [] 0 eg_h0) 9 23 eg_ls23 [] eg_hn23 eg_h23 = true := by decide +kernel
