set_option maxRecDepth 200000 in
theorem zd_23 : zt_X2_isFull.all (zdc 23) = true := by decide +kernel
set_option maxRecDepth 200000 in
theorem zw_23 : zt_X2_isFull.all (zwc 23) = true := by decide +kernel
set_option maxRecDepth 200000 in
theorem zm_23 : zmc 23 = true := by decide +kernel
set_option maxRecDepth 200000 in
theorem zk_23 : zcw 23 ∈ lw_tbl := List.mem_of_getElem? (i := 701) rfl
set_option maxRecDepth 200000 in
theorem zd_24 : zt_X2_append.all (zdc 24) = true := by decide +kernel
set_option maxRecDepth 200000 in
theorem zw_24 : zt_X2_append.all (zwc 24) = true := by decide +kernel
set_option maxRecDepth 200000 in
theorem zm_24 : zmc 24 = true := by decide +kernel
set_option maxRecDepth 200000 in
theorem zk_24 : zcw 24 ∈ lw_tbl := List.mem_of_getElem? (i := 706) rfl
set_option maxRecDepth 200000 in
theorem zd_25 : zt_X2_empty.all (zdc 25) = true := by decide +kernel
set_option maxRecDepth 200000 in
theorem zw_25 : zt_X2_empty.all (zwc 25) = true := by decide +kernel
set_option maxRecDepth 200000 in
theorem zm_25 : zmc 25 = true := by decide +kernel
set_option maxRecDepth 200000 in
theorem zk_25 : zcw 25 ∈ lw_tbl := List.mem_of_getElem? (i := 824) rfl
set_option maxRecDepth 200000 in
theorem zd_26 : zt_X2_argument.all (zdc 26) = true := by decide +kernel
set_option maxRecDepth 200000 in
theorem zw_26 : zt_X2_argument.all (zwc 26) = true := by decide +kernel
set_option maxRecDepth 200000 in
theorem zm_26 : zmc 26 = true := by decide +kernel
set_option maxRecDepth 200000 in
theorem zk_26 : zcw 26 ∈ lw_tbl := List.mem_of_getElem? (i := 833) rfl
set_option maxRecDepth 200000 in
theorem zd_27 : zt_X2_wordOf.all (zdc 27) = true := by decide +kernel
set_option maxRecDepth 200000 in
theorem zw_27 : zt_X2_wordOf.all (zwc 27) = true := by decide +kernel
set_option maxRecDepth 200000 in
theorem zm_27 : zmc 27 = true := by decide +kernel
set_option maxRecDepth 200000 in
theorem zk_27 : zcw 27 ∈ lw_tbl := List.mem_of_getElem? (i := 728) rfl
set_option maxRecDepth 200000 in
theorem zd_28 : zt_X2_formOf.all (zdc 28) = true := by decide +kernel
set_option maxRecDepth 200000 in
theorem zw_28 : zt_X2_formOf.all (zwc 28) = true := by decide +kernel
set_option maxRecDepth 200000 in
theorem zm_28 : zmc 28 = true := by decide +kernel
set_option maxRecDepth 200000 in
theorem zk_28 : zcw 28 ∈ lw_tbl := List.mem_of_getElem? (i := 794) rfl
set_option maxRecDepth 200000 in
theorem zd_29 : zt_X2_read.all (zdc 29) = true := by decide +kernel
set_option maxRecDepth 200000 in
theorem zw_29 : zt_X2_read.all (zwc 29) = true := by decide +kernel
set_option maxRecDepth 200000 in
theorem zm_29 : zmc 29 = true := by decide +kernel
set_option maxRecDepth 200000 in
theorem zk_29 : zcw 29 ∈ lw_tbl := List.mem_of_getElem? (i := 717) rfl
set_option maxRecDepth 200000 in
theorem zd_30 : zt_X2_isNext.all (zdc 30) = true := by decide +kernel
set_option maxRecDepth 200000 in
theorem zw_30 : zt_X2_isNext.all (zwc 30) = true := by decide +kernel
set_option maxRecDepth 200000 in
theorem zm_30 : zmc 30 = true := by decide +kernel
set_option maxRecDepth 200000 in
theorem zk_30 : zcw 30 ∈ lw_tbl := List.mem_of_getElem? (i := 808) rfl
set_option maxRecDepth 200000 in
theorem zd_31 : zt_X2_skip.all (zdc 31) = true := by decide +kernel
set_option maxRecDepth 200000 in
theorem zw_31 : zt_X2_skip.all (zwc 31) = true := by decide +kernel
set_option maxRecDepth 200000 in
theorem zm_31 : zmc 31 = true := by decide +kernel
set_option maxRecDepth 200000 in
theorem zk_31 : zcw 31 ∈ lw_tbl := List.mem_of_getElem? (i := 804) rfl
set_option maxRecDepth 200000 in
theorem zd_32 : zt_X2_readCommand.all (zdc 32) = true := by decide +kernel
set_option maxRecDepth 200000 in
theorem zw_32 : zt_X2_readCommand.all (zwc 32) = true := by decide +kernel
set_option maxRecDepth 200000 in
theorem zm_32 : zmc 32 = true := by decide +kernel
set_option maxRecDepth 200000 in
theorem zk_32 : zcw 32 ∈ lw_tbl := List.mem_of_getElem? (i := 721) rfl
set_option maxRecDepth 200000 in
theorem zd_33 : zt_X2_readWord.all (zdc 33) = true := by decide +kernel
set_option maxRecDepth 200000 in
theorem zw_33 : zt_X2_readWord.all (zwc 33) = true := by decide +kernel
set_option maxRecDepth 200000 in
theorem zm_33 : zmc 33 = true := by decide +kernel
set_option maxRecDepth 200000 in
theorem zk_33 : zcw 33 ∈ lw_tbl := List.mem_of_getElem? (i := 725) rfl
set_option maxRecDepth 200000 in
theorem zd_34 : zt_X2_lengthInCommon.all (zdc 34) = true := by decide +kernel
set_option maxRecDepth 200000 in
theorem zw_34 : zt_X2_lengthInCommon.all (zwc 34) = true := by decide +kernel
set_option maxRecDepth 200000 in
theorem zm_34 : zmc 34 = true := by decide +kernel
set_option maxRecDepth 200000 in
theorem zk_34 : zcw 34 ∈ lw_tbl := List.mem_of_getElem? (i := 740) rfl
set_option maxRecDepth 200000 in
theorem zd_35 : zt_X2_readPart.all (zdc 35) = true := by decide +kernel
set_option maxRecDepth 200000 in
theorem zw_35 : zt_X2_readPart.all (zwc 35) = true := by decide +kernel
set_option maxRecDepth 200000 in
theorem zm_35 : zmc 35 = true := by decide +kernel
set_option maxRecDepth 200000 in
theorem zk_35 : zcw 35 ∈ lw_tbl := List.mem_of_getElem? (i := 812) rfl
set_option maxRecDepth 200000 in
theorem zd_36 : zt_X2_readNumber.all (zdc 36) = true := by decide +kernel
set_option maxRecDepth 200000 in
theorem zw_36 : zt_X2_readNumber.all (zwc 36) = true := by decide +kernel
set_option maxRecDepth 200000 in
theorem zm_36 : zmc 36 = true := by decide +kernel
set_option maxRecDepth 200000 in
theorem zk_36 : zcw 36 ∈ lw_tbl := List.mem_of_getElem? (i := 816) rfl
set_option maxRecDepth 200000 in
theorem zd_37 : zt_X2_readSet.all (zdc 37) = true := by decide +kernel
set_option maxRecDepth 200000 in
theorem zw_37 : zt_X2_readSet.all (zwc 37) = true := by decide +kernel
set_option maxRecDepth 200000 in
theorem zm_37 : zmc 37 = true := by decide +kernel
set_option maxRecDepth 200000 in
theorem zk_37 : zcw 37 ∈ lw_tbl := List.mem_of_getElem? (i := 820) rfl
set_option maxRecDepth 200000 in
theorem zd_38 : zt_X3_init.all (zdc 38) = true := by decide +kernel
set_option maxRecDepth 200000 in
theorem zw_38 : zt_X3_init.all (zwc 38) = true := by decide +kernel
set_option maxRecDepth 200000 in
theorem zm_38 : zmc 38 = true := by decide +kernel
set_option maxRecDepth 200000 in
theorem zk_38 : zcw 38 ∈ lw_tbl := List.mem_of_getElem? (i := 77) rfl
set_option maxRecDepth 200000 in
theorem zd_39_0 : ((zt_X3_copyFrom.drop 0).take 40).all (zdc 39) = true := by decide +kernel
set_option maxRecDepth 200000 in
theorem zd_39_1 : ((zt_X3_copyFrom.drop 40).take 40).all (zdc 39) = true := by decide +kernel
set_option maxRecDepth 200000 in
theorem zd_39_2 : ((zt_X3_copyFrom.drop 80).take 40).all (zdc 39) = true := by decide +kernel
set_option maxRecDepth 200000 in
theorem zd_39 : zt_X3_copyFrom.all (zdc 39) = true := zall_0 (zall_st (j := 0) zd_39_0 (zall_st (j := 40) zd_39_1 (zall_st (j := 80) zd_39_2 (zall_nil (by decide +kernel : (zt_X3_copyFrom.drop 120) = [])))))
set_option maxRecDepth 200000 in
theorem zw_39 : zt_X3_copyFrom.all (zwc 39) = true := by decide +kernel
set_option maxRecDepth 200000 in
theorem zm_39 : zmc 39 = true := by decide +kernel
set_option maxRecDepth 200000 in
theorem zk_39 : zcw 39 ∈ lw_tbl := List.mem_of_getElem? (i := 340) rfl
set_option maxRecDepth 200000 in
theorem zd_40 : zt_X3_hasTank.all (zdc 40) = true := by decide +kernel
set_option maxRecDepth 200000 in
theorem zw_40 : zt_X3_hasTank.all (zwc 40) = true := by decide +kernel
set_option maxRecDepth 200000 in
theorem zm_40 : zmc 40 = true := by decide +kernel
set_option maxRecDepth 200000 in
theorem zk_40 : zcw 40 ∈ lw_tbl := List.mem_of_getElem? (i := 378) rfl
set_option maxRecDepth 200000 in
theorem zd_41 : zt_X3_hasPipe.all (zdc 41) = true := by decide +kernel
set_option maxRecDepth 200000 in
theorem zw_41 : zt_X3_hasPipe.all (zwc 41) = true := by decide +kernel
set_option maxRecDepth 200000 in
theorem zm_41 : zmc 41 = true := by decide +kernel
set_option maxRecDepth 200000 in
theorem zk_41 : zcw 41 ∈ lw_tbl := List.mem_of_getElem? (i := 394) rfl
set_option maxRecDepth 200000 in
theorem zd_42 : zt_X3_refusalOf.all (zdc 42) = true := by decide +kernel
set_option maxRecDepth 200000 in
theorem zw_42 : zt_X3_refusalOf.all (zwc 42) = true := by decide +kernel
set_option maxRecDepth 200000 in
theorem zm_42 : zmc 42 = true := by decide +kernel
set_option maxRecDepth 200000 in
theorem zk_42 : zcw 42 ∈ lw_tbl := List.mem_of_getElem? (i := 363) rfl
set_option maxRecDepth 200000 in
theorem zd_43 : zt_X3_isWithin.all (zdc 43) = true := by decide +kernel
set_option maxRecDepth 200000 in
theorem zw_43 : zt_X3_isWithin.all (zwc 43) = true := by decide +kernel
set_option maxRecDepth 200000 in
theorem zm_43 : zmc 43 = true := by decide +kernel
set_option maxRecDepth 200000 in
theorem zk_43 : zcw 43 ∈ lw_tbl := List.mem_of_getElem? (i := 370) rfl
set_option maxRecDepth 200000 in
theorem zd_44 : zt_X3_refusalOfTank.all (zdc 44) = true := by decide +kernel
set_option maxRecDepth 200000 in
theorem zw_44 : zt_X3_refusalOfTank.all (zwc 44) = true := by decide +kernel
set_option maxRecDepth 200000 in
theorem zm_44 : zmc 44 = true := by decide +kernel
set_option maxRecDepth 200000 in
theorem zk_44 : zcw 44 ∈ lw_tbl := List.mem_of_getElem? (i := 367) rfl
set_option maxRecDepth 200000 in
theorem zd_45 : zt_X3_refusalOfPipe.all (zdc 45) = true := by decide +kernel
set_option maxRecDepth 200000 in
theorem zw_45 : zt_X3_refusalOfPipe.all (zwc 45) = true := by decide +kernel
set_option maxRecDepth 200000 in
theorem zm_45 : zmc 45 = true := by decide +kernel
set_option maxRecDepth 200000 in
theorem zk_45 : zcw 45 ∈ lw_tbl := List.mem_of_getElem? (i := 374) rfl
set_option maxRecDepth 200000 in
theorem zd_46 : zt_X3_refusalOfPouring.all (zdc 46) = true := by decide +kernel
set_option maxRecDepth 200000 in
theorem zw_46 : zt_X3_refusalOfPouring.all (zwc 46) = true := by decide +kernel
set_option maxRecDepth 200000 in
theorem zm_46 : zmc 46 = true := by decide +kernel
set_option maxRecDepth 200000 in
theorem zk_46 : zcw 46 ∈ lw_tbl := List.mem_of_getElem? (i := 382) rfl
set_option maxRecDepth 200000 in
theorem zd_47 : zt_X3_refusalOfDrawing.all (zdc 47) = true := by decide +kernel
set_option maxRecDepth 200000 in
theorem zw_47 : zt_X3_refusalOfDrawing.all (zwc 47) = true := by decide +kernel
set_option maxRecDepth 200000 in
theorem zm_47 : zmc 47 = true := by decide +kernel
set_option maxRecDepth 200000 in
theorem zk_47 : zcw 47 ∈ lw_tbl := List.mem_of_getElem? (i := 386) rfl
set_option maxRecDepth 200000 in
theorem zd_48 : zt_X3_refusalForPipe.all (zdc 48) = true := by decide +kernel
set_option maxRecDepth 200000 in
theorem zw_48 : zt_X3_refusalForPipe.all (zwc 48) = true := by decide +kernel
set_option maxRecDepth 200000 in
theorem zm_48 : zmc 48 = true := by decide +kernel
set_option maxRecDepth 200000 in
theorem zk_48 : zcw 48 ∈ lw_tbl := List.mem_of_getElem? (i := 390) rfl
set_option maxRecDepth 200000 in
theorem zd_49 : zt_X3_perform.all (zdc 49) = true := by decide +kernel
set_option maxRecDepth 200000 in
theorem zw_49 : zt_X3_perform.all (zwc 49) = true := by decide +kernel
set_option maxRecDepth 200000 in
theorem zm_49 : zmc 49 = true := by decide +kernel
set_option maxRecDepth 200000 in
theorem zk_49 : zcw 49 ∈ lw_tbl := List.mem_of_getElem? (i := 529) rfl
set_option maxRecDepth 200000 in
theorem zd_50 : zt_X3_newTank.all (zdc 50) = true := by decide +kernel
set_option maxRecDepth 200000 in
theorem zw_50 : zt_X3_newTank.all (zwc 50) = true := by decide +kernel
set_option maxRecDepth 200000 in
theorem zm_50 : zmc 50 = true := by decide +kernel
set_option maxRecDepth 200000 in
theorem zk_50 : zcw 50 ∈ lw_tbl := List.mem_of_getElem? (i := 533) rfl
set_option maxRecDepth 200000 in
theorem zd_51 : zt_X3_newPipe.all (zdc 51) = true := by decide +kernel
set_option maxRecDepth 200000 in
theorem zw_51 : zt_X3_newPipe.all (zwc 51) = true := by decide +kernel
set_option maxRecDepth 200000 in
theorem zm_51 : zmc 51 = true := by decide +kernel
set_option maxRecDepth 200000 in
theorem zk_51 : zcw 51 ∈ lw_tbl := List.mem_of_getElem? (i := 537) rfl
set_option maxRecDepth 200000 in
theorem zd_52 : zt_X3_pourInto.all (zdc 52) = true := by decide +kernel
set_option maxRecDepth 200000 in
theorem zw_52 : zt_X3_pourInto.all (zwc 52) = true := by decide +kernel
set_option maxRecDepth 200000 in
theorem zm_52 : zmc 52 = true := by decide +kernel
set_option maxRecDepth 200000 in
theorem zk_52 : zcw 52 ∈ lw_tbl := List.mem_of_getElem? (i := 541) rfl
set_option maxRecDepth 200000 in
theorem zd_53 : zt_X3_drawFrom.all (zdc 53) = true := by decide +kernel
set_option maxRecDepth 200000 in
theorem zw_53 : zt_X3_drawFrom.all (zwc 53) = true := by decide +kernel
set_option maxRecDepth 200000 in
theorem zm_53 : zmc 53 = true := by decide +kernel
set_option maxRecDepth 200000 in
theorem zk_53 : zcw 53 ∈ lw_tbl := List.mem_of_getElem? (i := 545) rfl
set_option maxRecDepth 200000 in
theorem zd_54 : zt_X3_put.all (zdc 54) = true := by decide +kernel
set_option maxRecDepth 200000 in
theorem zw_54 : zt_X3_put.all (zwc 54) = true := by decide +kernel
set_option maxRecDepth 200000 in
theorem zm_54 : zmc 54 = true := by decide +kernel
set_option maxRecDepth 200000 in
theorem zk_54 : zcw 54 ∈ lw_tbl := List.mem_of_getElem? (i := 548) rfl
set_option maxRecDepth 200000 in
theorem zd_55 : zt_X3_passMinutes.all (zdc 55) = true := by decide +kernel
set_option maxRecDepth 200000 in
theorem zw_55 : zt_X3_passMinutes.all (zwc 55) = true := by decide +kernel
set_option maxRecDepth 200000 in
theorem zm_55 : zmc 55 = true := by decide +kernel
set_option maxRecDepth 200000 in
theorem zk_55 : zcw 55 ∈ lw_tbl := List.mem_of_getElem? (i := 552) rfl
set_option maxRecDepth 200000 in
theorem zd_56 : zt_X3_passMinute.all (zdc 56) = true := by decide +kernel
set_option maxRecDepth 200000 in
theorem zw_56 : zt_X3_passMinute.all (zwc 56) = true := by decide +kernel
set_option maxRecDepth 200000 in
theorem zm_56 : zmc 56 = true := by decide +kernel
set_option maxRecDepth 200000 in
theorem zk_56 : zcw 56 ∈ lw_tbl := List.mem_of_getElem? (i := 556) rfl
