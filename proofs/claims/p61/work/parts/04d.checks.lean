set_option maxRecDepth 200000 in
theorem zd_57_0 : ((zt_X3_let.drop 0).take 40).all (zdc 57) = true := by decide +kernel
set_option maxRecDepth 200000 in
theorem zd_57_1 : ((zt_X3_let.drop 40).take 40).all (zdc 57) = true := by decide +kernel
set_option maxRecDepth 200000 in
theorem zd_57_2 : ((zt_X3_let.drop 80).take 40).all (zdc 57) = true := by decide +kernel
set_option maxRecDepth 200000 in
theorem zd_57 : zt_X3_let.all (zdc 57) = true := zall_0 (zall_st (j := 0) zd_57_0 (zall_st (j := 40) zd_57_1 (zall_st (j := 80) zd_57_2 (zall_nil (by decide +kernel : (zt_X3_let.drop 120) = [])))))
set_option maxRecDepth 200000 in
theorem zw_57 : zt_X3_let.all (zwc 57) = true := by decide +kernel
set_option maxRecDepth 200000 in
theorem zm_57 : zmc 57 = true := by decide +kernel
set_option maxRecDepth 200000 in
theorem zk_57 : zcw 57 ∈ lw_tbl := List.mem_of_getElem? (i := 572) rfl
set_option maxRecDepth 200000 in
theorem zd_58 : zt_X3_letsThrough.all (zdc 58) = true := by decide +kernel
set_option maxRecDepth 200000 in
theorem zw_58 : zt_X3_letsThrough.all (zwc 58) = true := by decide +kernel
set_option maxRecDepth 200000 in
theorem zm_58 : zmc 58 = true := by decide +kernel
set_option maxRecDepth 200000 in
theorem zk_58 : zcw 58 ∈ lw_tbl := List.mem_of_getElem? (i := 564) rfl
set_option maxRecDepth 200000 in
theorem zd_59_0 : ((zt_X3_litresToFlow.drop 0).take 40).all (zdc 59) = true := by decide +kernel
set_option maxRecDepth 200000 in
theorem zd_59_1 : ((zt_X3_litresToFlow.drop 40).take 40).all (zdc 59) = true := by decide +kernel
set_option maxRecDepth 200000 in
theorem zd_59 : zt_X3_litresToFlow.all (zdc 59) = true := zall_0 (zall_st (j := 0) zd_59_0 (zall_st (j := 40) zd_59_1 (zall_nil (by decide +kernel : (zt_X3_litresToFlow.drop 80) = []))))
set_option maxRecDepth 200000 in
theorem zw_59 : zt_X3_litresToFlow.all (zwc 59) = true := by decide +kernel
set_option maxRecDepth 200000 in
theorem zm_59 : zmc 59 = true := by decide +kernel
set_option maxRecDepth 200000 in
theorem zk_59 : zcw 59 ∈ lw_tbl := List.mem_of_getElem? (i := 560) rfl
set_option maxRecDepth 200000 in
theorem zd_60 : zt_X3_isTankBefore.all (zdc 60) = true := by decide +kernel
set_option maxRecDepth 200000 in
theorem zw_60 : zt_X3_isTankBefore.all (zwc 60) = true := by decide +kernel
set_option maxRecDepth 200000 in
theorem zm_60 : zmc 60 = true := by decide +kernel
set_option maxRecDepth 200000 in
theorem zk_60 : zcw 60 ∈ lw_tbl := List.mem_of_getElem? (i := 1015) rfl
set_option maxRecDepth 200000 in
theorem zd_61 : zt_X3_isPipeBefore.all (zdc 61) = true := by decide +kernel
set_option maxRecDepth 200000 in
theorem zw_61 : zt_X3_isPipeBefore.all (zwc 61) = true := by decide +kernel
set_option maxRecDepth 200000 in
theorem zm_61 : zmc 61 = true := by decide +kernel
set_option maxRecDepth 200000 in
theorem zk_61 : zcw 61 ∈ lw_tbl := List.mem_of_getElem? (i := 1338) rfl
set_option maxRecDepth 200000 in
theorem zd_62 : zt_X3_contentOfAll.all (zdc 62) = true := by decide +kernel
set_option maxRecDepth 200000 in
theorem zw_62 : zt_X3_contentOfAll.all (zwc 62) = true := by decide +kernel
set_option maxRecDepth 200000 in
theorem zm_62 : zmc 62 = true := by decide +kernel
set_option maxRecDepth 200000 in
theorem zk_62 : zcw 62 ∈ lw_tbl := List.mem_of_getElem? (i := 920) rfl
set_option maxRecDepth 200000 in
theorem zd_63 : zt_X3_tankNumber.all (zdc 63) = true := by decide +kernel
set_option maxRecDepth 200000 in
theorem zw_63 : zt_X3_tankNumber.all (zwc 63) = true := by decide +kernel
set_option maxRecDepth 200000 in
theorem zm_63 : zmc 63 = true := by decide +kernel
set_option maxRecDepth 200000 in
theorem zk_63 : zcw 63 ∈ lw_tbl := List.mem_of_getElem? (i := 935) rfl
set_option maxRecDepth 200000 in
theorem zd_64 : zt_X3_pipeNumber.all (zdc 64) = true := by decide +kernel
set_option maxRecDepth 200000 in
theorem zw_64 : zt_X3_pipeNumber.all (zwc 64) = true := by decide +kernel
set_option maxRecDepth 200000 in
theorem zm_64 : zmc 64 = true := by decide +kernel
set_option maxRecDepth 200000 in
theorem zk_64 : zcw 64 ∈ lw_tbl := List.mem_of_getElem? (i := 941) rfl
set_option maxRecDepth 200000 in
theorem zd_65 : zt_X4_init.all (zdc 65) = true := by decide +kernel
set_option maxRecDepth 200000 in
theorem zw_65 : zt_X4_init.all (zwc 65) = true := by decide +kernel
set_option maxRecDepth 200000 in
theorem zm_65 : zmc 65 = true := by decide +kernel
set_option maxRecDepth 200000 in
theorem zk_65 : zcw 65 ∈ lw_tbl := List.mem_of_getElem? (i := 69) rfl
set_option maxRecDepth 200000 in
theorem zd_66 : zt_X4_addTank.all (zdc 66) = true := by decide +kernel
set_option maxRecDepth 200000 in
theorem zw_66 : zt_X4_addTank.all (zwc 66) = true := by decide +kernel
set_option maxRecDepth 200000 in
theorem zm_66 : zmc 66 = true := by decide +kernel
set_option maxRecDepth 200000 in
theorem zk_66 : zcw 66 ∈ lw_tbl := List.mem_of_getElem? (i := 355) rfl
set_option maxRecDepth 200000 in
theorem zd_67 : zt_X4_addPipe.all (zdc 67) = true := by decide +kernel
set_option maxRecDepth 200000 in
theorem zw_67 : zt_X4_addPipe.all (zwc 67) = true := by decide +kernel
set_option maxRecDepth 200000 in
theorem zm_67 : zmc 67 = true := by decide +kernel
set_option maxRecDepth 200000 in
theorem zk_67 : zcw 67 ∈ lw_tbl := List.mem_of_getElem? (i := 606) rfl
set_option maxRecDepth 200000 in
theorem zd_68 : zt_X4_pour.all (zdc 68) = true := by decide +kernel
set_option maxRecDepth 200000 in
theorem zw_68 : zt_X4_pour.all (zwc 68) = true := by decide +kernel
set_option maxRecDepth 200000 in
theorem zm_68 : zmc 68 = true := by decide +kernel
set_option maxRecDepth 200000 in
theorem zk_68 : zcw 68 ∈ lw_tbl := List.mem_of_getElem? (i := 614) rfl
set_option maxRecDepth 200000 in
theorem zd_69 : zt_X4_draw.all (zdc 69) = true := by decide +kernel
set_option maxRecDepth 200000 in
theorem zw_69 : zt_X4_draw.all (zwc 69) = true := by decide +kernel
set_option maxRecDepth 200000 in
theorem zm_69 : zmc 69 = true := by decide +kernel
set_option maxRecDepth 200000 in
theorem zk_69 : zcw 69 ∈ lw_tbl := List.mem_of_getElem? (i := 621) rfl
set_option maxRecDepth 200000 in
theorem zd_70 : zt_X4_setValve.all (zdc 70) = true := by decide +kernel
set_option maxRecDepth 200000 in
theorem zw_70 : zt_X4_setValve.all (zwc 70) = true := by decide +kernel
set_option maxRecDepth 200000 in
theorem zm_70 : zmc 70 = true := by decide +kernel
set_option maxRecDepth 200000 in
theorem zk_70 : zcw 70 ∈ lw_tbl := List.mem_of_getElem? (i := 628) rfl
set_option maxRecDepth 200000 in
theorem zd_71 : zt_X4_setLeak.all (zdc 71) = true := by decide +kernel
set_option maxRecDepth 200000 in
theorem zw_71 : zt_X4_setLeak.all (zwc 71) = true := by decide +kernel
set_option maxRecDepth 200000 in
theorem zm_71 : zmc 71 = true := by decide +kernel
set_option maxRecDepth 200000 in
theorem zk_71 : zcw 71 ∈ lw_tbl := List.mem_of_getElem? (i := 635) rfl
set_option maxRecDepth 200000 in
theorem zd_72 : zt_X4_cleanFilter.all (zdc 72) = true := by decide +kernel
set_option maxRecDepth 200000 in
theorem zw_72 : zt_X4_cleanFilter.all (zwc 72) = true := by decide +kernel
set_option maxRecDepth 200000 in
theorem zm_72 : zmc 72 = true := by decide +kernel
set_option maxRecDepth 200000 in
theorem zk_72 : zcw 72 ∈ lw_tbl := List.mem_of_getElem? (i := 1366) rfl
set_option maxRecDepth 200000 in
theorem zd_73 : zt_X4_advance.all (zdc 73) = true := by decide +kernel
set_option maxRecDepth 200000 in
theorem zw_73 : zt_X4_advance.all (zwc 73) = true := by decide +kernel
set_option maxRecDepth 200000 in
theorem zm_73 : zmc 73 = true := by decide +kernel
set_option maxRecDepth 200000 in
theorem zk_73 : zcw 73 ∈ lw_tbl := List.mem_of_getElem? (i := 642) rfl
set_option maxRecDepth 200000 in
theorem zd_74 : zt_X4_change.all (zdc 74) = true := by decide +kernel
set_option maxRecDepth 200000 in
theorem zw_74 : zt_X4_change.all (zwc 74) = true := by decide +kernel
set_option maxRecDepth 200000 in
theorem zm_74 : zmc 74 = true := by decide +kernel
set_option maxRecDepth 200000 in
theorem zk_74 : zcw 74 ∈ lw_tbl := List.mem_of_getElem? (i := 359) rfl
set_option maxRecDepth 200000 in
theorem zd_75 : zt_X4_throwFor.all (zdc 75) = true := by decide +kernel
set_option maxRecDepth 200000 in
theorem zw_75 : zt_X4_throwFor.all (zwc 75) = true := by decide +kernel
set_option maxRecDepth 200000 in
theorem zm_75 : zmc 75 = true := by decide +kernel
set_option maxRecDepth 200000 in
theorem zk_75 : zcw 75 ∈ lw_tbl := List.mem_of_getElem? (i := 397) rfl
set_option maxRecDepth 200000 in
theorem zd_76 : zt_X4_needTank.all (zdc 76) = true := by decide +kernel
set_option maxRecDepth 200000 in
theorem zw_76 : zt_X4_needTank.all (zwc 76) = true := by decide +kernel
set_option maxRecDepth 200000 in
theorem zm_76 : zmc 76 = true := by decide +kernel
set_option maxRecDepth 200000 in
theorem zk_76 : zcw 76 ∈ lw_tbl := List.mem_of_getElem? (i := 653) rfl
set_option maxRecDepth 200000 in
theorem zd_77 : zt_X4_needPipe.all (zdc 77) = true := by decide +kernel
set_option maxRecDepth 200000 in
theorem zw_77 : zt_X4_needPipe.all (zwc 77) = true := by decide +kernel
set_option maxRecDepth 200000 in
theorem zm_77 : zmc 77 = true := by decide +kernel
set_option maxRecDepth 200000 in
theorem zk_77 : zcw 77 ∈ lw_tbl := List.mem_of_getElem? (i := 673) rfl
set_option maxRecDepth 200000 in
theorem zd_78 : zt_X4_tankCount.all (zdc 78) = true := by decide +kernel
set_option maxRecDepth 200000 in
theorem zw_78 : zt_X4_tankCount.all (zwc 78) = true := by decide +kernel
set_option maxRecDepth 200000 in
theorem zm_78 : zmc 78 = true := by decide +kernel
set_option maxRecDepth 200000 in
theorem zk_78 : zcw 78 ∈ lw_tbl := List.mem_of_getElem? (i := 316) rfl
set_option maxRecDepth 200000 in
theorem zd_79 : zt_X4_capacity.all (zdc 79) = true := by decide +kernel
set_option maxRecDepth 200000 in
theorem zw_79 : zt_X4_capacity.all (zwc 79) = true := by decide +kernel
set_option maxRecDepth 200000 in
theorem zm_79 : zmc 79 = true := by decide +kernel
set_option maxRecDepth 200000 in
theorem zk_79 : zcw 79 ∈ lw_tbl := List.mem_of_getElem? (i := 1390) rfl
set_option maxRecDepth 200000 in
theorem zd_80 : zt_X4_content.all (zdc 80) = true := by decide +kernel
set_option maxRecDepth 200000 in
theorem zw_80 : zt_X4_content.all (zwc 80) = true := by decide +kernel
set_option maxRecDepth 200000 in
theorem zm_80 : zmc 80 = true := by decide +kernel
set_option maxRecDepth 200000 in
theorem zk_80 : zcw 80 ∈ lw_tbl := List.mem_of_getElem? (i := 649) rfl
set_option maxRecDepth 200000 in
theorem zd_81 : zt_X4_impurities.all (zdc 81) = true := by decide +kernel
set_option maxRecDepth 200000 in
theorem zw_81 : zt_X4_impurities.all (zwc 81) = true := by decide +kernel
set_option maxRecDepth 200000 in
theorem zm_81 : zmc 81 = true := by decide +kernel
set_option maxRecDepth 200000 in
theorem zk_81 : zcw 81 ∈ lw_tbl := List.mem_of_getElem? (i := 662) rfl
set_option maxRecDepth 200000 in
theorem zd_82 : zt_X4_hasImpurity.all (zdc 82) = true := by decide +kernel
set_option maxRecDepth 200000 in
theorem zw_82 : zt_X4_hasImpurity.all (zwc 82) = true := by decide +kernel
set_option maxRecDepth 200000 in
theorem zm_82 : zmc 82 = true := by decide +kernel
set_option maxRecDepth 200000 in
theorem zk_82 : zcw 82 ∈ lw_tbl := List.mem_of_getElem? (i := 1397) rfl
set_option maxRecDepth 200000 in
theorem zd_83 : zt_X4_tankByContent.all (zdc 83) = true := by decide +kernel
set_option maxRecDepth 200000 in
theorem zw_83 : zt_X4_tankByContent.all (zwc 83) = true := by decide +kernel
set_option maxRecDepth 200000 in
theorem zm_83 : zmc 83 = true := by decide +kernel
set_option maxRecDepth 200000 in
theorem zk_83 : zcw 83 ∈ lw_tbl := List.mem_of_getElem? (i := 1007) rfl
set_option maxRecDepth 200000 in
theorem zd_84 : zt_X4_tanksBefore.all (zdc 84) = true := by decide +kernel
set_option maxRecDepth 200000 in
theorem zw_84 : zt_X4_tanksBefore.all (zwc 84) = true := by decide +kernel
set_option maxRecDepth 200000 in
theorem zm_84 : zmc 84 = true := by decide +kernel
set_option maxRecDepth 200000 in
theorem zk_84 : zcw 84 ∈ lw_tbl := List.mem_of_getElem? (i := 1011) rfl
set_option maxRecDepth 200000 in
theorem zd_85 : zt_X4_fillShare.all (zdc 85) = true := by decide +kernel
set_option maxRecDepth 200000 in
theorem zw_85 : zt_X4_fillShare.all (zwc 85) = true := by decide +kernel
set_option maxRecDepth 200000 in
theorem zm_85 : zmc 85 = true := by decide +kernel
set_option maxRecDepth 200000 in
theorem zk_85 : zcw 85 ∈ lw_tbl := List.mem_of_getElem? (i := 996) rfl
set_option maxRecDepth 200000 in
theorem zd_86 : zt_X4_fillShareBits.all (zdc 86) = true := by decide +kernel
set_option maxRecDepth 200000 in
theorem zw_86 : zt_X4_fillShareBits.all (zwc 86) = true := by decide +kernel
set_option maxRecDepth 200000 in
theorem zm_86 : zmc 86 = true := by decide +kernel
set_option maxRecDepth 200000 in
theorem zk_86 : zcw 86 ∈ lw_tbl := List.mem_of_getElem? (i := 992) rfl
set_option maxRecDepth 200000 in
theorem zd_87 : zt_X4_pipeCount.all (zdc 87) = true := by decide +kernel
set_option maxRecDepth 200000 in
theorem zw_87 : zt_X4_pipeCount.all (zwc 87) = true := by decide +kernel
set_option maxRecDepth 200000 in
theorem zm_87 : zmc 87 = true := by decide +kernel
set_option maxRecDepth 200000 in
theorem zk_87 : zcw 87 ∈ lw_tbl := List.mem_of_getElem? (i := 320) rfl
set_option maxRecDepth 200000 in
theorem zd_88 : zt_X4_firstOf.all (zdc 88) = true := by decide +kernel
set_option maxRecDepth 200000 in
theorem zw_88 : zt_X4_firstOf.all (zwc 88) = true := by decide +kernel
set_option maxRecDepth 200000 in
theorem zm_88 : zmc 88 = true := by decide +kernel
set_option maxRecDepth 200000 in
theorem zk_88 : zcw 88 ∈ lw_tbl := List.mem_of_getElem? (i := 1440) rfl
set_option maxRecDepth 200000 in
theorem zd_89 : zt_X4_secondOf.all (zdc 89) = true := by decide +kernel
set_option maxRecDepth 200000 in
theorem zw_89 : zt_X4_secondOf.all (zwc 89) = true := by decide +kernel
set_option maxRecDepth 200000 in
theorem zm_89 : zmc 89 = true := by decide +kernel
set_option maxRecDepth 200000 in
theorem zk_89 : zcw 89 ∈ lw_tbl := List.mem_of_getElem? (i := 1447) rfl
set_option maxRecDepth 200000 in
theorem zd_90 : zt_X4_valve.all (zdc 90) = true := by decide +kernel
set_option maxRecDepth 200000 in
theorem zw_90 : zt_X4_valve.all (zwc 90) = true := by decide +kernel
set_option maxRecDepth 200000 in
theorem zm_90 : zmc 90 = true := by decide +kernel
set_option maxRecDepth 200000 in
theorem zk_90 : zcw 90 ∈ lw_tbl := List.mem_of_getElem? (i := 669) rfl
set_option maxRecDepth 200000 in
theorem zd_91 : zt_X4_leak.all (zdc 91) = true := by decide +kernel
set_option maxRecDepth 200000 in
theorem zw_91 : zt_X4_leak.all (zwc 91) = true := by decide +kernel
set_option maxRecDepth 200000 in
theorem zm_91 : zmc 91 = true := by decide +kernel
set_option maxRecDepth 200000 in
theorem zk_91 : zcw 91 ∈ lw_tbl := List.mem_of_getElem? (i := 682) rfl
set_option maxRecDepth 200000 in
theorem zd_92 : zt_X4_mesh.all (zdc 92) = true := by decide +kernel
set_option maxRecDepth 200000 in
theorem zw_92 : zt_X4_mesh.all (zwc 92) = true := by decide +kernel
set_option maxRecDepth 200000 in
theorem zm_92 : zmc 92 = true := by decide +kernel
set_option maxRecDepth 200000 in
theorem zk_92 : zcw 92 ∈ lw_tbl := List.mem_of_getElem? (i := 1345) rfl
set_option maxRecDepth 200000 in
theorem zd_93 : zt_X4_dirt.all (zdc 93) = true := by decide +kernel
set_option maxRecDepth 200000 in
theorem zw_93 : zt_X4_dirt.all (zwc 93) = true := by decide +kernel
set_option maxRecDepth 200000 in
theorem zm_93 : zmc 93 = true := by decide +kernel
set_option maxRecDepth 200000 in
theorem zk_93 : zcw 93 ∈ lw_tbl := List.mem_of_getElem? (i := 1454) rfl
set_option maxRecDepth 200000 in
theorem zd_94 : zt_X4_isOpen.all (zdc 94) = true := by decide +kernel
set_option maxRecDepth 200000 in
theorem zw_94 : zt_X4_isOpen.all (zwc 94) = true := by decide +kernel
set_option maxRecDepth 200000 in
theorem zm_94 : zmc 94 = true := by decide +kernel
set_option maxRecDepth 200000 in
theorem zk_94 : zcw 94 ∈ lw_tbl := List.mem_of_getElem? (i := 1461) rfl
set_option maxRecDepth 200000 in
theorem zd_95 : zt_X4_flow.all (zdc 95) = true := by decide +kernel
set_option maxRecDepth 200000 in
theorem zw_95 : zt_X4_flow.all (zwc 95) = true := by decide +kernel
set_option maxRecDepth 200000 in
theorem zm_95 : zmc 95 = true := by decide +kernel
set_option maxRecDepth 200000 in
theorem zk_95 : zcw 95 ∈ lw_tbl := List.mem_of_getElem? (i := 1322) rfl
set_option maxRecDepth 200000 in
theorem zd_96 : zt_X4_litresThrough.all (zdc 96) = true := by decide +kernel
set_option maxRecDepth 200000 in
theorem zw_96 : zt_X4_litresThrough.all (zwc 96) = true := by decide +kernel
set_option maxRecDepth 200000 in
theorem zm_96 : zmc 96 = true := by decide +kernel
set_option maxRecDepth 200000 in
theorem zk_96 : zcw 96 ∈ lw_tbl := List.mem_of_getElem? (i := 689) rfl
set_option maxRecDepth 200000 in
theorem zd_97 : zt_X4_pipeByDirt.all (zdc 97) = true := by decide +kernel
set_option maxRecDepth 200000 in
theorem zw_97 : zt_X4_pipeByDirt.all (zwc 97) = true := by decide +kernel
set_option maxRecDepth 200000 in
theorem zm_97 : zmc 97 = true := by decide +kernel
set_option maxRecDepth 200000 in
theorem zk_97 : zcw 97 ∈ lw_tbl := List.mem_of_getElem? (i := 1330) rfl
set_option maxRecDepth 200000 in
theorem zd_98 : zt_X4_pipesBefore.all (zdc 98) = true := by decide +kernel
set_option maxRecDepth 200000 in
theorem zw_98 : zt_X4_pipesBefore.all (zwc 98) = true := by decide +kernel
set_option maxRecDepth 200000 in
theorem zm_98 : zmc 98 = true := by decide +kernel
set_option maxRecDepth 200000 in
theorem zk_98 : zcw 98 ∈ lw_tbl := List.mem_of_getElem? (i := 1334) rfl
set_option maxRecDepth 200000 in
theorem zd_99 : zt_X4_areConnected.all (zdc 99) = true := by decide +kernel
set_option maxRecDepth 200000 in
theorem zw_99 : zt_X4_areConnected.all (zwc 99) = true := by decide +kernel
set_option maxRecDepth 200000 in
theorem zm_99 : zmc 99 = true := by decide +kernel
set_option maxRecDepth 200000 in
theorem zk_99 : zcw 99 ∈ lw_tbl := List.mem_of_getElem? (i := 1405) rfl
set_option maxRecDepth 200000 in
theorem zd_100 : zt_X4_groupCount.all (zdc 100) = true := by decide +kernel
set_option maxRecDepth 200000 in
theorem zw_100 : zt_X4_groupCount.all (zwc 100) = true := by decide +kernel
set_option maxRecDepth 200000 in
theorem zm_100 : zmc 100 = true := by decide +kernel
set_option maxRecDepth 200000 in
theorem zk_100 : zcw 100 ∈ lw_tbl := List.mem_of_getElem? (i := 951) rfl
set_option maxRecDepth 200000 in
theorem zd_101 : zt_X4_isBridge.all (zdc 101) = true := by decide +kernel
set_option maxRecDepth 200000 in
theorem zw_101 : zt_X4_isBridge.all (zwc 101) = true := by decide +kernel
set_option maxRecDepth 200000 in
theorem zm_101 : zmc 101 = true := by decide +kernel
set_option maxRecDepth 200000 in
theorem zk_101 : zcw 101 ∈ lw_tbl := List.mem_of_getElem? (i := 1469) rfl
set_option maxRecDepth 200000 in
theorem zd_102 : zt_X4_bridgeCount.all (zdc 102) = true := by decide +kernel
set_option maxRecDepth 200000 in
theorem zw_102 : zt_X4_bridgeCount.all (zwc 102) = true := by decide +kernel
set_option maxRecDepth 200000 in
theorem zm_102 : zmc 102 = true := by decide +kernel
set_option maxRecDepth 200000 in
theorem zk_102 : zcw 102 ∈ lw_tbl := List.mem_of_getElem? (i := 971) rfl
set_option maxRecDepth 200000 in
theorem zd_103 : zt_X4_width.all (zdc 103) = true := by decide +kernel
set_option maxRecDepth 200000 in
theorem zw_103 : zt_X4_width.all (zwc 103) = true := by decide +kernel
set_option maxRecDepth 200000 in
theorem zm_103 : zmc 103 = true := by decide +kernel
set_option maxRecDepth 200000 in
theorem zk_103 : zcw 103 ∈ lw_tbl := List.mem_of_getElem? (i := 1476) rfl
set_option maxRecDepth 200000 in
theorem zd_104 : zt_X4_widthBySettings.all (zdc 104) = true := by decide +kernel
set_option maxRecDepth 200000 in
theorem zw_104 : zt_X4_widthBySettings.all (zwc 104) = true := by decide +kernel
set_option maxRecDepth 200000 in
theorem zm_104 : zmc 104 = true := by decide +kernel
set_option maxRecDepth 200000 in
theorem zk_104 : zcw 104 ∈ lw_tbl := List.mem_of_getElem? (i := 1496) rfl
set_option maxRecDepth 200000 in
theorem zd_105 : zt_X4_cleanest.all (zdc 105) = true := by decide +kernel
set_option maxRecDepth 200000 in
theorem zw_105 : zt_X4_cleanest.all (zwc 105) = true := by decide +kernel
set_option maxRecDepth 200000 in
theorem zm_105 : zmc 105 = true := by decide +kernel
set_option maxRecDepth 200000 in
theorem zk_105 : zcw 105 ∈ lw_tbl := List.mem_of_getElem? (i := 1023) rfl
set_option maxRecDepth 200000 in
theorem zd_106 : zt_X4_cleanestByPasses.all (zdc 106) = true := by decide +kernel
set_option maxRecDepth 200000 in
theorem zw_106 : zt_X4_cleanestByPasses.all (zwc 106) = true := by decide +kernel
set_option maxRecDepth 200000 in
theorem zm_106 : zmc 106 = true := by decide +kernel
set_option maxRecDepth 200000 in
theorem zk_106 : zcw 106 ∈ lw_tbl := List.mem_of_getElem? (i := 1412) rfl
set_option maxRecDepth 200000 in
theorem zd_107 : zt_X4_needConnection.all (zdc 107) = true := by decide +kernel
set_option maxRecDepth 200000 in
theorem zw_107 : zt_X4_needConnection.all (zwc 107) = true := by decide +kernel
set_option maxRecDepth 200000 in
theorem zm_107 : zmc 107 = true := by decide +kernel
set_option maxRecDepth 200000 in
theorem zk_107 : zcw 107 ∈ lw_tbl := List.mem_of_getElem? (i := 1027) rfl
set_option maxRecDepth 200000 in
theorem zd_108 : zt_X4_time.all (zdc 108) = true := by decide +kernel
set_option maxRecDepth 200000 in
theorem zw_108 : zt_X4_time.all (zwc 108) = true := by decide +kernel
set_option maxRecDepth 200000 in
theorem zm_108 : zmc 108 = true := by decide +kernel
set_option maxRecDepth 200000 in
theorem zk_108 : zcw 108 ∈ lw_tbl := List.mem_of_getElem? (i := 324) rfl
set_option maxRecDepth 200000 in
theorem zd_109 : zt_X4_pouredTotal.all (zdc 109) = true := by decide +kernel
set_option maxRecDepth 200000 in
theorem zw_109 : zt_X4_pouredTotal.all (zwc 109) = true := by decide +kernel
set_option maxRecDepth 200000 in
theorem zm_109 : zmc 109 = true := by decide +kernel
set_option maxRecDepth 200000 in
theorem zk_109 : zcw 109 ∈ lw_tbl := List.mem_of_getElem? (i := 328) rfl
set_option maxRecDepth 200000 in
theorem zd_110 : zt_X4_drawnTotal.all (zdc 110) = true := by decide +kernel
set_option maxRecDepth 200000 in
theorem zw_110 : zt_X4_drawnTotal.all (zwc 110) = true := by decide +kernel
set_option maxRecDepth 200000 in
theorem zm_110 : zmc 110 = true := by decide +kernel
set_option maxRecDepth 200000 in
theorem zk_110 : zcw 110 ∈ lw_tbl := List.mem_of_getElem? (i := 947) rfl
set_option maxRecDepth 200000 in
theorem zd_111 : zt_X4_spilledTotal.all (zdc 111) = true := by decide +kernel
set_option maxRecDepth 200000 in
theorem zw_111 : zt_X4_spilledTotal.all (zwc 111) = true := by decide +kernel
set_option maxRecDepth 200000 in
theorem zm_111 : zmc 111 = true := by decide +kernel
set_option maxRecDepth 200000 in
theorem zk_111 : zcw 111 ∈ lw_tbl := List.mem_of_getElem? (i := 332) rfl
set_option maxRecDepth 200000 in
theorem zd_112 : zt_X4_meanContent.all (zdc 112) = true := by decide +kernel
set_option maxRecDepth 200000 in
theorem zw_112 : zt_X4_meanContent.all (zwc 112) = true := by decide +kernel
set_option maxRecDepth 200000 in
theorem zm_112 : zmc 112 = true := by decide +kernel
set_option maxRecDepth 200000 in
theorem zk_112 : zcw 112 ∈ lw_tbl := List.mem_of_getElem? (i := 913) rfl
set_option maxRecDepth 200000 in
theorem zd_113 : zt_X4_meanContentBits.all (zdc 113) = true := by decide +kernel
set_option maxRecDepth 200000 in
theorem zw_113 : zt_X4_meanContentBits.all (zwc 113) = true := by decide +kernel
set_option maxRecDepth 200000 in
theorem zm_113 : zmc 113 = true := by decide +kernel
set_option maxRecDepth 200000 in
theorem zk_113 : zcw 113 ∈ lw_tbl := List.mem_of_getElem? (i := 909) rfl
set_option maxRecDepth 200000 in
theorem zd_114 : zt_X4_fingerprint.all (zdc 114) = true := by decide +kernel
set_option maxRecDepth 200000 in
theorem zw_114 : zt_X4_fingerprint.all (zwc 114) = true := by decide +kernel
set_option maxRecDepth 200000 in
theorem zm_114 : zmc 114 = true := by decide +kernel
set_option maxRecDepth 200000 in
theorem zk_114 : zcw 114 ∈ lw_tbl := List.mem_of_getElem? (i := 930) rfl
