set_option maxRecDepth 200000 in
theorem zd_0 : zt_X0_init.all (zdc 0) = true := by decide +kernel
set_option maxRecDepth 200000 in
theorem zw_0 : zt_X0_init.all (zwc 0) = true := by decide +kernel
set_option maxRecDepth 200000 in
theorem zm_0 : zmc 0 = true := by decide +kernel
set_option maxRecDepth 200000 in
theorem zk_0 : zcw 0 ∈ lw_tbl := List.mem_of_getElem? (i := 176) rfl
set_option maxRecDepth 200000 in
theorem zd_1 : zt_X0_other.all (zdc 1) = true := by decide +kernel
set_option maxRecDepth 200000 in
theorem zw_1 : zt_X0_other.all (zwc 1) = true := by decide +kernel
set_option maxRecDepth 200000 in
theorem zm_1 : zmc 1 = true := by decide +kernel
set_option maxRecDepth 200000 in
theorem zk_1 : zcw 1 ∈ lw_tbl := List.mem_of_getElem? (i := 984) rfl
set_option maxRecDepth 200000 in
theorem zd_2 : zt_X0_reachedFrom.all (zdc 2) = true := by decide +kernel
set_option maxRecDepth 200000 in
theorem zw_2 : zt_X0_reachedFrom.all (zwc 2) = true := by decide +kernel
set_option maxRecDepth 200000 in
theorem zm_2 : zmc 2 = true := by decide +kernel
set_option maxRecDepth 200000 in
theorem zk_2 : zcw 2 ∈ lw_tbl := List.mem_of_getElem? (i := 962) rfl
set_option maxRecDepth 200000 in
theorem zd_3_0 : ((zt_X0_neighbours.drop 0).take 40).all (zdc 3) = true := by decide +kernel
set_option maxRecDepth 200000 in
theorem zd_3_1 : ((zt_X0_neighbours.drop 40).take 40).all (zdc 3) = true := by decide +kernel
set_option maxRecDepth 200000 in
theorem zd_3 : zt_X0_neighbours.all (zdc 3) = true := zall_0 (zall_st (j := 0) zd_3_0 (zall_st (j := 40) zd_3_1 (zall_nil (by decide +kernel : (zt_X0_neighbours.drop 80) = []))))
set_option maxRecDepth 200000 in
theorem zw_3 : zt_X0_neighbours.all (zwc 3) = true := by decide +kernel
set_option maxRecDepth 200000 in
theorem zm_3 : zmc 3 = true := by decide +kernel
set_option maxRecDepth 200000 in
theorem zk_3 : zcw 3 ∈ lw_tbl := List.mem_of_getElem? (i := 966) rfl
set_option maxRecDepth 200000 in
theorem zd_4 : zt_X0_connect.all (zdc 4) = true := by decide +kernel
set_option maxRecDepth 200000 in
theorem zw_4 : zt_X0_connect.all (zwc 4) = true := by decide +kernel
set_option maxRecDepth 200000 in
theorem zm_4 : zmc 4 = true := by decide +kernel
set_option maxRecDepth 200000 in
theorem zk_4 : zcw 4 ∈ lw_tbl := List.mem_of_getElem? (i := 1031) rfl
set_option maxRecDepth 200000 in
theorem zd_5 : zt_X0_groupsByWalking.all (zdc 5) = true := by decide +kernel
set_option maxRecDepth 200000 in
theorem zw_5 : zt_X0_groupsByWalking.all (zwc 5) = true := by decide +kernel
set_option maxRecDepth 200000 in
theorem zm_5 : zmc 5 = true := by decide +kernel
set_option maxRecDepth 200000 in
theorem zk_5 : zcw 5 ∈ lw_tbl := List.mem_of_getElem? (i := 955) rfl
set_option maxRecDepth 200000 in
theorem zd_6 : zt_X0_dependOn.all (zdc 6) = true := by decide +kernel
set_option maxRecDepth 200000 in
theorem zw_6 : zt_X0_dependOn.all (zwc 6) = true := by decide +kernel
set_option maxRecDepth 200000 in
theorem zm_6 : zmc 6 = true := by decide +kernel
set_option maxRecDepth 200000 in
theorem zk_6 : zcw 6 ∈ lw_tbl := List.mem_of_getElem? (i := 1356) rfl
set_option maxRecDepth 200000 in
theorem zd_7 : zt_X0_bridgesByNumbering.all (zdc 7) = true := by decide +kernel
set_option maxRecDepth 200000 in
theorem zw_7 : zt_X0_bridgesByNumbering.all (zwc 7) = true := by decide +kernel
set_option maxRecDepth 200000 in
theorem zm_7 : zmc 7 = true := by decide +kernel
set_option maxRecDepth 200000 in
theorem zk_7 : zcw 7 ∈ lw_tbl := List.mem_of_getElem? (i := 975) rfl
set_option maxRecDepth 200000 in
theorem zd_8_0 : ((zt_X0_walk.drop 0).take 40).all (zdc 8) = true := by decide +kernel
set_option maxRecDepth 200000 in
theorem zd_8_1 : ((zt_X0_walk.drop 40).take 40).all (zdc 8) = true := by decide +kernel
set_option maxRecDepth 200000 in
theorem zd_8_2 : ((zt_X0_walk.drop 80).take 40).all (zdc 8) = true := by decide +kernel
set_option maxRecDepth 200000 in
theorem zd_8 : zt_X0_walk.all (zdc 8) = true := zall_0 (zall_st (j := 0) zd_8_0 (zall_st (j := 40) zd_8_1 (zall_st (j := 80) zd_8_2 (zall_nil (by decide +kernel : (zt_X0_walk.drop 120) = [])))))
set_option maxRecDepth 200000 in
theorem zw_8 : zt_X0_walk.all (zwc 8) = true := by decide +kernel
set_option maxRecDepth 200000 in
theorem zm_8 : zmc 8 = true := by decide +kernel
set_option maxRecDepth 200000 in
theorem zk_8 : zcw 8 ∈ lw_tbl := List.mem_of_getElem? (i := 981) rfl
set_option maxRecDepth 200000 in
theorem zd_9 : zt_X0_widthByGoingOn.all (zdc 9) = true := by decide +kernel
set_option maxRecDepth 200000 in
theorem zw_9 : zt_X0_widthByGoingOn.all (zwc 9) = true := by decide +kernel
set_option maxRecDepth 200000 in
theorem zm_9 : zmc 9 = true := by decide +kernel
set_option maxRecDepth 200000 in
theorem zk_9 : zcw 9 ∈ lw_tbl := List.mem_of_getElem? (i := 1480) rfl
set_option maxRecDepth 200000 in
theorem zd_10 : zt_X0_mostWidelyReached.all (zdc 10) = true := by decide +kernel
set_option maxRecDepth 200000 in
theorem zw_10 : zt_X0_mostWidelyReached.all (zwc 10) = true := by decide +kernel
set_option maxRecDepth 200000 in
theorem zm_10 : zmc 10 = true := by decide +kernel
set_option maxRecDepth 200000 in
theorem zk_10 : zcw 10 ∈ lw_tbl := List.mem_of_getElem? (i := 1484) rfl
set_option maxRecDepth 200000 in
theorem zd_11 : zt_X0_widenFrom.all (zdc 11) = true := by decide +kernel
set_option maxRecDepth 200000 in
theorem zw_11 : zt_X0_widenFrom.all (zwc 11) = true := by decide +kernel
set_option maxRecDepth 200000 in
theorem zm_11 : zmc 11 = true := by decide +kernel
set_option maxRecDepth 200000 in
theorem zk_11 : zcw 11 ∈ lw_tbl := List.mem_of_getElem? (i := 1488) rfl
set_option maxRecDepth 200000 in
theorem zd_12 : zt_X0_widthByTrying.all (zdc 12) = true := by decide +kernel
set_option maxRecDepth 200000 in
theorem zw_12 : zt_X0_widthByTrying.all (zwc 12) = true := by decide +kernel
set_option maxRecDepth 200000 in
theorem zm_12 : zmc 12 = true := by decide +kernel
set_option maxRecDepth 200000 in
theorem zk_12 : zcw 12 ∈ lw_tbl := List.mem_of_getElem? (i := 1500) rfl
set_option maxRecDepth 200000 in
theorem zd_13_0 : ((zt_X0_search.drop 0).take 40).all (zdc 13) = true := by decide +kernel
set_option maxRecDepth 200000 in
theorem zd_13_1 : ((zt_X0_search.drop 40).take 40).all (zdc 13) = true := by decide +kernel
set_option maxRecDepth 200000 in
theorem zd_13_2 : ((zt_X0_search.drop 80).take 40).all (zdc 13) = true := by decide +kernel
set_option maxRecDepth 200000 in
theorem zd_13 : zt_X0_search.all (zdc 13) = true := zall_0 (zall_st (j := 0) zd_13_0 (zall_st (j := 40) zd_13_1 (zall_st (j := 80) zd_13_2 (zall_nil (by decide +kernel : (zt_X0_search.drop 120) = [])))))
set_option maxRecDepth 200000 in
theorem zw_13 : zt_X0_search.all (zwc 13) = true := by decide +kernel
set_option maxRecDepth 200000 in
theorem zm_13 : zmc 13 = true := by decide +kernel
set_option maxRecDepth 200000 in
theorem zk_13 : zcw 13 ∈ lw_tbl := List.mem_of_getElem? (i := 1036) rfl
set_option maxRecDepth 200000 in
theorem zd_14_0 : ((zt_X0_arrive.drop 0).take 40).all (zdc 14) = true := by decide +kernel
set_option maxRecDepth 200000 in
theorem zd_14_1 : ((zt_X0_arrive.drop 40).take 40).all (zdc 14) = true := by decide +kernel
set_option maxRecDepth 200000 in
theorem zd_14 : zt_X0_arrive.all (zdc 14) = true := zall_0 (zall_st (j := 0) zd_14_0 (zall_st (j := 40) zd_14_1 (zall_nil (by decide +kernel : (zt_X0_arrive.drop 80) = []))))
set_option maxRecDepth 200000 in
theorem zw_14 : zt_X0_arrive.all (zwc 14) = true := by decide +kernel
set_option maxRecDepth 200000 in
theorem zm_14 : zmc 14 = true := by decide +kernel
set_option maxRecDepth 200000 in
theorem zk_14 : zcw 14 ∈ lw_tbl := List.mem_of_getElem? (i := 1040) rfl
set_option maxRecDepth 200000 in
theorem zd_15 : zt_X0_passUntilNothingIsNew.all (zdc 15) = true := by decide +kernel
set_option maxRecDepth 200000 in
theorem zw_15 : zt_X0_passUntilNothingIsNew.all (zwc 15) = true := by decide +kernel
set_option maxRecDepth 200000 in
theorem zm_15 : zmc 15 = true := by decide +kernel
set_option maxRecDepth 200000 in
theorem zk_15 : zcw 15 ∈ lw_tbl := List.mem_of_getElem? (i := 1416) rfl
set_option maxRecDepth 200000 in
theorem zd_16_0 : ((zt_X0_passReachesNew.drop 0).take 40).all (zdc 16) = true := by decide +kernel
set_option maxRecDepth 200000 in
theorem zd_16_1 : ((zt_X0_passReachesNew.drop 40).take 40).all (zdc 16) = true := by decide +kernel
set_option maxRecDepth 200000 in
theorem zd_16 : zt_X0_passReachesNew.all (zdc 16) = true := zall_0 (zall_st (j := 0) zd_16_0 (zall_st (j := 40) zd_16_1 (zall_nil (by decide +kernel : (zt_X0_passReachesNew.drop 80) = []))))
set_option maxRecDepth 200000 in
theorem zw_16 : zt_X0_passReachesNew.all (zwc 16) = true := by decide +kernel
set_option maxRecDepth 200000 in
theorem zm_16 : zmc 16 = true := by decide +kernel
set_option maxRecDepth 200000 in
theorem zk_16 : zcw 16 ∈ lw_tbl := List.mem_of_getElem? (i := 1420) rfl
set_option maxRecDepth 200000 in
theorem zd_17 : zt_X0_carriesNew.all (zdc 17) = true := by decide +kernel
set_option maxRecDepth 200000 in
theorem zw_17 : zt_X0_carriesNew.all (zwc 17) = true := by decide +kernel
set_option maxRecDepth 200000 in
theorem zm_17 : zmc 17 = true := by decide +kernel
set_option maxRecDepth 200000 in
theorem zk_17 : zcw 17 ∈ lw_tbl := List.mem_of_getElem? (i := 1424) rfl
set_option maxRecDepth 200000 in
theorem zd_18 : zt_X0_fewestLeftIn.all (zdc 18) = true := by decide +kernel
set_option maxRecDepth 200000 in
theorem zw_18 : zt_X0_fewestLeftIn.all (zwc 18) = true := by decide +kernel
set_option maxRecDepth 200000 in
theorem zm_18 : zmc 18 = true := by decide +kernel
set_option maxRecDepth 200000 in
theorem zk_18 : zcw 18 ∈ lw_tbl := List.mem_of_getElem? (i := 1428) rfl
set_option maxRecDepth 200000 in
theorem zd_19 : zt_X1_init.all (zdc 19) = true := by decide +kernel
set_option maxRecDepth 200000 in
theorem zw_19 : zt_X1_init.all (zwc 19) = true := by decide +kernel
set_option maxRecDepth 200000 in
theorem zm_19 : zmc 19 = true := by decide +kernel
set_option maxRecDepth 200000 in
theorem zk_19 : zcw 19 ∈ lw_tbl := List.mem_of_getElem? (i := 156) rfl
set_option maxRecDepth 200000 in
theorem zd_20 : zt_X1_keep.all (zdc 20) = true := by decide +kernel
set_option maxRecDepth 200000 in
theorem zw_20 : zt_X1_keep.all (zwc 20) = true := by decide +kernel
set_option maxRecDepth 200000 in
theorem zm_20 : zmc 20 = true := by decide +kernel
set_option maxRecDepth 200000 in
theorem zk_20 : zcw 20 ∈ lw_tbl := List.mem_of_getElem? (i := 521) rfl
set_option maxRecDepth 200000 in
theorem zd_21 : zt_X1_takeBack.all (zdc 21) = true := by decide +kernel
set_option maxRecDepth 200000 in
theorem zw_21 : zt_X1_takeBack.all (zwc 21) = true := by decide +kernel
set_option maxRecDepth 200000 in
theorem zm_21 : zmc 21 = true := by decide +kernel
set_option maxRecDepth 200000 in
theorem zk_21 : zcw 21 ∈ lw_tbl := List.mem_of_getElem? (i := 870) rfl
set_option maxRecDepth 200000 in
theorem zd_22 : zt_X2_init.all (zdc 22) = true := by decide +kernel
set_option maxRecDepth 200000 in
theorem zw_22 : zt_X2_init.all (zwc 22) = true := by decide +kernel
set_option maxRecDepth 200000 in
theorem zm_22 : zmc 22 = true := by decide +kernel
set_option maxRecDepth 200000 in
theorem zk_22 : zcw 22 ∈ lw_tbl := List.mem_of_getElem? (i := 221) rfl
