set_option maxRecDepth 200000 in
theorem zd_175_0 : ((zt_L_asks.drop 0).take 40).all (zdc 175) = true := by decide +kernel
set_option maxRecDepth 200000 in
theorem zd_175_1 : ((zt_L_asks.drop 40).take 40).all (zdc 175) = true := by decide +kernel
set_option maxRecDepth 200000 in
theorem zd_175_2 : ((zt_L_asks.drop 80).take 40).all (zdc 175) = true := by decide +kernel
set_option maxRecDepth 200000 in
theorem zd_175_3 : ((zt_L_asks.drop 120).take 40).all (zdc 175) = true := by decide +kernel
set_option maxRecDepth 200000 in
theorem zd_175_4 : ((zt_L_asks.drop 160).take 40).all (zdc 175) = true := by decide +kernel
set_option maxRecDepth 200000 in
theorem zd_175 : zt_L_asks.all (zdc 175) = true := zall_0 (zall_st (j := 0) zd_175_0 (zall_st (j := 40) zd_175_1 (zall_st (j := 80) zd_175_2 (zall_st (j := 120) zd_175_3 (zall_st (j := 160) zd_175_4 (zall_nil (by decide +kernel : (zt_L_asks.drop 200) = [])))))))
set_option maxRecDepth 200000 in
theorem zw_175 : zt_L_asks.all (zwc 175) = true := by decide +kernel
set_option maxRecDepth 200000 in
theorem zm_175 : zmc 175 = true := by decide +kernel
set_option maxRecDepth 200000 in
theorem zk_175 : zcw 175 ∈ lw_tbl := List.mem_of_getElem? (i := 887) rfl
set_option maxRecDepth 200000 in
theorem zd_176_0 : ((zt_L_changes.drop 0).take 40).all (zdc 176) = true := by decide +kernel
set_option maxRecDepth 200000 in
theorem zd_176_1 : ((zt_L_changes.drop 40).take 40).all (zdc 176) = true := by decide +kernel
set_option maxRecDepth 200000 in
theorem zd_176_2 : ((zt_L_changes.drop 80).take 40).all (zdc 176) = true := by decide +kernel
set_option maxRecDepth 200000 in
theorem zd_176_3 : ((zt_L_changes.drop 120).take 40).all (zdc 176) = true := by decide +kernel
set_option maxRecDepth 200000 in
theorem zd_176 : zt_L_changes.all (zdc 176) = true := zall_0 (zall_st (j := 0) zd_176_0 (zall_st (j := 40) zd_176_1 (zall_st (j := 80) zd_176_2 (zall_st (j := 120) zd_176_3 (zall_nil (by decide +kernel : (zt_L_changes.drop 160) = []))))))
set_option maxRecDepth 200000 in
theorem zw_176 : zt_L_changes.all (zwc 176) = true := by decide +kernel
set_option maxRecDepth 200000 in
theorem zm_176 : zmc 176 = true := by decide +kernel
set_option maxRecDepth 200000 in
theorem zk_176 : zcw 176 ∈ lw_tbl := List.mem_of_getElem? (i := 1359) rfl
set_option maxRecDepth 200000 in
theorem zd_177_0 : ((zt_L_thrown.drop 0).take 40).all (zdc 177) = true := by decide +kernel
set_option maxRecDepth 200000 in
theorem zd_177_1 : ((zt_L_thrown.drop 40).take 40).all (zdc 177) = true := by decide +kernel
set_option maxRecDepth 200000 in
theorem zd_177_2 : ((zt_L_thrown.drop 80).take 40).all (zdc 177) = true := by decide +kernel
set_option maxRecDepth 200000 in
theorem zd_177_3 : ((zt_L_thrown.drop 120).take 40).all (zdc 177) = true := by decide +kernel
set_option maxRecDepth 200000 in
theorem zd_177_4 : ((zt_L_thrown.drop 160).take 40).all (zdc 177) = true := by decide +kernel
set_option maxRecDepth 200000 in
theorem zd_177_5 : ((zt_L_thrown.drop 200).take 40).all (zdc 177) = true := by decide +kernel
set_option maxRecDepth 200000 in
theorem zd_177_6 : ((zt_L_thrown.drop 240).take 40).all (zdc 177) = true := by decide +kernel
set_option maxRecDepth 200000 in
theorem zd_177_7 : ((zt_L_thrown.drop 280).take 40).all (zdc 177) = true := by decide +kernel
set_option maxRecDepth 200000 in
theorem zd_177_8 : ((zt_L_thrown.drop 320).take 40).all (zdc 177) = true := by decide +kernel
set_option maxRecDepth 200000 in
theorem zd_177_9 : ((zt_L_thrown.drop 360).take 40).all (zdc 177) = true := by decide +kernel
set_option maxRecDepth 200000 in
theorem zd_177_10 : ((zt_L_thrown.drop 400).take 40).all (zdc 177) = true := by decide +kernel
set_option maxRecDepth 200000 in
theorem zd_177_11 : ((zt_L_thrown.drop 440).take 40).all (zdc 177) = true := by decide +kernel
set_option maxRecDepth 200000 in
theorem zd_177 : zt_L_thrown.all (zdc 177) = true := zall_0 (zall_st (j := 0) zd_177_0 (zall_st (j := 40) zd_177_1 (zall_st (j := 80) zd_177_2 (zall_st (j := 120) zd_177_3 (zall_st (j := 160) zd_177_4 (zall_st (j := 200) zd_177_5 (zall_st (j := 240) zd_177_6 (zall_st (j := 280) zd_177_7 (zall_st (j := 320) zd_177_8 (zall_st (j := 360) zd_177_9 (zall_st (j := 400) zd_177_10 (zall_st (j := 440) zd_177_11 (zall_nil (by decide +kernel : (zt_L_thrown.drop 480) = []))))))))))))))
set_option maxRecDepth 200000 in
theorem zw_177 : zt_L_thrown.all (zwc 177) = true := by decide +kernel
set_option maxRecDepth 200000 in
theorem zm_177 : zmc 177 = true := by decide +kernel
set_option maxRecDepth 200000 in
theorem zk_177 : zcw 177 ∈ lw_tbl := List.mem_of_getElem? (i := 1383) rfl
set_option maxRecDepth 200000 in
theorem zd_178_0 : ((zt_L_law.drop 0).take 40).all (zdc 178) = true := by decide +kernel
set_option maxRecDepth 200000 in
theorem zd_178_1 : ((zt_L_law.drop 40).take 40).all (zdc 178) = true := by decide +kernel
set_option maxRecDepth 200000 in
theorem zd_178_2 : ((zt_L_law.drop 80).take 40).all (zdc 178) = true := by decide +kernel
set_option maxRecDepth 200000 in
theorem zd_178_3 : ((zt_L_law.drop 120).take 40).all (zdc 178) = true := by decide +kernel
set_option maxRecDepth 200000 in
theorem zd_178_4 : ((zt_L_law.drop 160).take 40).all (zdc 178) = true := by decide +kernel
set_option maxRecDepth 200000 in
theorem zd_178_5 : ((zt_L_law.drop 200).take 40).all (zdc 178) = true := by decide +kernel
set_option maxRecDepth 200000 in
theorem zd_178_6 : ((zt_L_law.drop 240).take 40).all (zdc 178) = true := by decide +kernel
set_option maxRecDepth 200000 in
theorem zd_178_7 : ((zt_L_law.drop 280).take 40).all (zdc 178) = true := by decide +kernel
set_option maxRecDepth 200000 in
theorem zd_178_8 : ((zt_L_law.drop 320).take 40).all (zdc 178) = true := by decide +kernel
set_option maxRecDepth 200000 in
theorem zd_178_9 : ((zt_L_law.drop 360).take 40).all (zdc 178) = true := by decide +kernel
set_option maxRecDepth 200000 in
theorem zd_178_10 : ((zt_L_law.drop 400).take 40).all (zdc 178) = true := by decide +kernel
set_option maxRecDepth 200000 in
theorem zd_178 : zt_L_law.all (zdc 178) = true := zall_0 (zall_st (j := 0) zd_178_0 (zall_st (j := 40) zd_178_1 (zall_st (j := 80) zd_178_2 (zall_st (j := 120) zd_178_3 (zall_st (j := 160) zd_178_4 (zall_st (j := 200) zd_178_5 (zall_st (j := 240) zd_178_6 (zall_st (j := 280) zd_178_7 (zall_st (j := 320) zd_178_8 (zall_st (j := 360) zd_178_9 (zall_st (j := 400) zd_178_10 (zall_nil (by decide +kernel : (zt_L_law.drop 440) = [])))))))))))))
set_option maxRecDepth 200000 in
theorem zw_178 : zt_L_law.all (zwc 178) = true := by decide +kernel
