set_option maxRecDepth 200000 in
theorem zd_115 : zt_X4_renderTank.all (zdc 115) = true := by decide +kernel
set_option maxRecDepth 200000 in
theorem zw_115 : zt_X4_renderTank.all (zwc 115) = true := by decide +kernel
set_option maxRecDepth 200000 in
theorem zm_115 : zmc 115 = true := by decide +kernel
set_option maxRecDepth 200000 in
theorem zk_115 : zcw 115 ∈ lw_tbl := List.mem_of_getElem? (i := 1048) rfl
set_option maxRecDepth 200000 in
theorem zd_116 : zt_X4_appendLetters.all (zdc 116) = true := by decide +kernel
set_option maxRecDepth 200000 in
theorem zw_116 : zt_X4_appendLetters.all (zwc 116) = true := by decide +kernel
set_option maxRecDepth 200000 in
theorem zm_116 : zmc 116 = true := by decide +kernel
set_option maxRecDepth 200000 in
theorem zk_116 : zcw 116 ∈ lw_tbl := List.mem_of_getElem? (i := 1295) rfl
set_option maxRecDepth 200000 in
theorem zd_117_0 : ((zt_X4_renderPipe.drop 0).take 40).all (zdc 117) = true := by decide +kernel
set_option maxRecDepth 200000 in
theorem zd_117_1 : ((zt_X4_renderPipe.drop 40).take 40).all (zdc 117) = true := by decide +kernel
set_option maxRecDepth 200000 in
theorem zd_117 : zt_X4_renderPipe.all (zdc 117) = true := zall_0 (zall_st (j := 0) zd_117_0 (zall_st (j := 40) zd_117_1 (zall_nil (by decide +kernel : (zt_X4_renderPipe.drop 80) = []))))
set_option maxRecDepth 200000 in
theorem zw_117 : zt_X4_renderPipe.all (zwc 117) = true := by decide +kernel
set_option maxRecDepth 200000 in
theorem zm_117 : zmc 117 = true := by decide +kernel
set_option maxRecDepth 200000 in
theorem zk_117 : zcw 117 ∈ lw_tbl := List.mem_of_getElem? (i := 1352) rfl
set_option maxRecDepth 200000 in
theorem zd_118 : zt_X4_outputAt.all (zdc 118) = true := by decide +kernel
set_option maxRecDepth 200000 in
theorem zw_118 : zt_X4_outputAt.all (zwc 118) = true := by decide +kernel
set_option maxRecDepth 200000 in
theorem zm_118 : zmc 118 = true := by decide +kernel
set_option maxRecDepth 200000 in
theorem zk_118 : zcw 118 ∈ lw_tbl := List.mem_of_getElem? (i := 1304) rfl
set_option maxRecDepth 200000 in
theorem zd_119 : zt_X4_type.all (zdc 119) = true := by decide +kernel
set_option maxRecDepth 200000 in
theorem zw_119 : zt_X4_type.all (zwc 119) = true := by decide +kernel
set_option maxRecDepth 200000 in
theorem zm_119 : zmc 119 = true := by decide +kernel
set_option maxRecDepth 200000 in
theorem zk_119 : zcw 119 ∈ lw_tbl := List.mem_of_getElem? (i := 696) rfl
set_option maxRecDepth 200000 in
theorem zd_120 : zt_X4_runScript.all (zdc 120) = true := by decide +kernel
set_option maxRecDepth 200000 in
theorem zw_120 : zt_X4_runScript.all (zwc 120) = true := by decide +kernel
set_option maxRecDepth 200000 in
theorem zm_120 : zmc 120 = true := by decide +kernel
set_option maxRecDepth 200000 in
theorem zk_120 : zcw 120 ∈ lw_tbl := List.mem_of_getElem? (i := 713) rfl
set_option maxRecDepth 200000 in
theorem zd_121 : zt_X4_performed.all (zdc 121) = true := by decide +kernel
set_option maxRecDepth 200000 in
theorem zw_121 : zt_X4_performed.all (zwc 121) = true := by decide +kernel
set_option maxRecDepth 200000 in
theorem zm_121 : zmc 121 = true := by decide +kernel
set_option maxRecDepth 200000 in
theorem zk_121 : zcw 121 ∈ lw_tbl := List.mem_of_getElem? (i := 829) rfl
set_option maxRecDepth 200000 in
theorem zd_122 : zt_X4_errorPosition.all (zdc 122) = true := by decide +kernel
set_option maxRecDepth 200000 in
theorem zw_122 : zt_X4_errorPosition.all (zwc 122) = true := by decide +kernel
set_option maxRecDepth 200000 in
theorem zm_122 : zmc 122 = true := by decide +kernel
set_option maxRecDepth 200000 in
theorem zk_122 : zcw 122 ∈ lw_tbl := List.mem_of_getElem? (i := 842) rfl
set_option maxRecDepth 200000 in
theorem zd_123 : zt_X4_failedCommand.all (zdc 123) = true := by decide +kernel
set_option maxRecDepth 200000 in
theorem zw_123 : zt_X4_failedCommand.all (zwc 123) = true := by decide +kernel
set_option maxRecDepth 200000 in
theorem zm_123 : zmc 123 = true := by decide +kernel
set_option maxRecDepth 200000 in
theorem zk_123 : zcw 123 ∈ lw_tbl := List.mem_of_getElem? (i := 1509) rfl
set_option maxRecDepth 200000 in
theorem zd_124 : zt_X4_undo.all (zdc 124) = true := by decide +kernel
set_option maxRecDepth 200000 in
theorem zw_124 : zt_X4_undo.all (zwc 124) = true := by decide +kernel
set_option maxRecDepth 200000 in
theorem zm_124 : zmc 124 = true := by decide +kernel
set_option maxRecDepth 200000 in
theorem zk_124 : zcw 124 ∈ lw_tbl := List.mem_of_getElem? (i := 865) rfl
set_option maxRecDepth 200000 in
theorem zd_125 : zt_X4_save.all (zdc 125) = true := by decide +kernel
set_option maxRecDepth 200000 in
theorem zw_125 : zt_X4_save.all (zwc 125) = true := by decide +kernel
set_option maxRecDepth 200000 in
theorem zm_125 : zmc 125 = true := by decide +kernel
set_option maxRecDepth 200000 in
theorem zk_125 : zcw 125 ∈ lw_tbl := List.mem_of_getElem? (i := 336) rfl
set_option maxRecDepth 200000 in
theorem zd_126 : zt_X4_restore.all (zdc 126) = true := by decide +kernel
set_option maxRecDepth 200000 in
theorem zw_126 : zt_X4_restore.all (zwc 126) = true := by decide +kernel
set_option maxRecDepth 200000 in
theorem zm_126 : zmc 126 = true := by decide +kernel
set_option maxRecDepth 200000 in
theorem zk_126 : zcw 126 ∈ lw_tbl := List.mem_of_getElem? (i := 877) rfl
set_option maxRecDepth 200000 in
theorem zd_127 : zt_X4_contains.all (zdc 127) = true := by decide +kernel
set_option maxRecDepth 200000 in
theorem zw_127 : zt_X4_contains.all (zwc 127) = true := by decide +kernel
set_option maxRecDepth 200000 in
theorem zm_127 : zmc 127 = true := by decide +kernel
set_option maxRecDepth 200000 in
theorem zk_127 : zcw 127 ∈ lw_tbl := List.mem_of_getElem? (i := 958) rfl
set_option maxRecDepth 200000 in
theorem zd_128 : zt_X4_bitsOfFloat.all (zdc 128) = true := by decide +kernel
set_option maxRecDepth 200000 in
theorem zw_128 : zt_X4_bitsOfFloat.all (zwc 128) = true := by decide +kernel
set_option maxRecDepth 200000 in
theorem zm_128 : zmc 128 = true := by decide +kernel
set_option maxRecDepth 200000 in
theorem zk_128 : zcw 128 ∈ lw_tbl := List.mem_of_getElem? (i := 999) rfl
set_option maxRecDepth 200000 in
theorem zd_129 : zt_X4_bitsOfDouble.all (zdc 129) = true := by decide +kernel
set_option maxRecDepth 200000 in
theorem zw_129 : zt_X4_bitsOfDouble.all (zwc 129) = true := by decide +kernel
set_option maxRecDepth 200000 in
theorem zm_129 : zmc 129 = true := by decide +kernel
set_option maxRecDepth 200000 in
theorem zk_129 : zcw 129 ∈ lw_tbl := List.mem_of_getElem? (i := 923) rfl
set_option maxRecDepth 200000 in
theorem zd_130 : zt_L_at.all (zdc 130) = true := by decide +kernel
set_option maxRecDepth 200000 in
theorem zw_130 : zt_L_at.all (zwc 130) = true := by decide +kernel
set_option maxRecDepth 200000 in
theorem zm_130 : zmc 130 = true := by decide +kernel
set_option maxRecDepth 200000 in
theorem zk_130 : zcw 130 ∈ lw_tbl := List.mem_of_getElem? (i := 346) rfl
set_option maxRecDepth 200000 in
theorem zd_131 : zt_L_some.all (zdc 131) = true := by decide +kernel
set_option maxRecDepth 200000 in
theorem zw_131 : zt_L_some.all (zwc 131) = true := by decide +kernel
set_option maxRecDepth 200000 in
theorem zm_131 : zmc 131 = true := by decide +kernel
set_option maxRecDepth 200000 in
theorem zk_131 : zcw 131 ∈ lw_tbl := List.mem_of_getElem? (i := 884) rfl
set_option maxRecDepth 200000 in
theorem zd_132 : zt_L_addTank.all (zdc 132) = true := by decide +kernel
set_option maxRecDepth 200000 in
theorem zw_132 : zt_L_addTank.all (zwc 132) = true := by decide +kernel
set_option maxRecDepth 200000 in
theorem zm_132 : zmc 132 = true := by decide +kernel
set_option maxRecDepth 200000 in
theorem zk_132 : zcw 132 ∈ lw_tbl := List.mem_of_getElem? (i := 349) rfl
set_option maxRecDepth 200000 in
theorem zd_133 : zt_L_addPipe.all (zdc 133) = true := by decide +kernel
set_option maxRecDepth 200000 in
theorem zw_133 : zt_L_addPipe.all (zwc 133) = true := by decide +kernel
set_option maxRecDepth 200000 in
theorem zm_133 : zmc 133 = true := by decide +kernel
set_option maxRecDepth 200000 in
theorem zk_133 : zcw 133 ∈ lw_tbl := List.mem_of_getElem? (i := 581) rfl
set_option maxRecDepth 200000 in
theorem zd_134 : zt_L_pour.all (zdc 134) = true := by decide +kernel
set_option maxRecDepth 200000 in
theorem zw_134 : zt_L_pour.all (zwc 134) = true := by decide +kernel
set_option maxRecDepth 200000 in
theorem zm_134 : zmc 134 = true := by decide +kernel
set_option maxRecDepth 200000 in
theorem zk_134 : zcw 134 ∈ lw_tbl := List.mem_of_getElem? (i := 609) rfl
set_option maxRecDepth 200000 in
theorem zd_135 : zt_L_draw.all (zdc 135) = true := by decide +kernel
set_option maxRecDepth 200000 in
theorem zw_135 : zt_L_draw.all (zwc 135) = true := by decide +kernel
set_option maxRecDepth 200000 in
theorem zm_135 : zmc 135 = true := by decide +kernel
set_option maxRecDepth 200000 in
theorem zk_135 : zcw 135 ∈ lw_tbl := List.mem_of_getElem? (i := 617) rfl
set_option maxRecDepth 200000 in
theorem zd_136 : zt_L_setValve.all (zdc 136) = true := by decide +kernel
set_option maxRecDepth 200000 in
theorem zw_136 : zt_L_setValve.all (zwc 136) = true := by decide +kernel
set_option maxRecDepth 200000 in
theorem zm_136 : zmc 136 = true := by decide +kernel
set_option maxRecDepth 200000 in
theorem zk_136 : zcw 136 ∈ lw_tbl := List.mem_of_getElem? (i := 624) rfl
set_option maxRecDepth 200000 in
theorem zd_137 : zt_L_setLeak.all (zdc 137) = true := by decide +kernel
set_option maxRecDepth 200000 in
theorem zw_137 : zt_L_setLeak.all (zwc 137) = true := by decide +kernel
set_option maxRecDepth 200000 in
theorem zm_137 : zmc 137 = true := by decide +kernel
set_option maxRecDepth 200000 in
theorem zk_137 : zcw 137 ∈ lw_tbl := List.mem_of_getElem? (i := 631) rfl
set_option maxRecDepth 200000 in
theorem zd_138 : zt_L_cleanFilter.all (zdc 138) = true := by decide +kernel
set_option maxRecDepth 200000 in
theorem zw_138 : zt_L_cleanFilter.all (zwc 138) = true := by decide +kernel
set_option maxRecDepth 200000 in
theorem zm_138 : zmc 138 = true := by decide +kernel
set_option maxRecDepth 200000 in
theorem zk_138 : zcw 138 ∈ lw_tbl := List.mem_of_getElem? (i := 1362) rfl
set_option maxRecDepth 200000 in
theorem zd_139 : zt_L_advance.all (zdc 139) = true := by decide +kernel
set_option maxRecDepth 200000 in
theorem zw_139 : zt_L_advance.all (zwc 139) = true := by decide +kernel
set_option maxRecDepth 200000 in
theorem zm_139 : zmc 139 = true := by decide +kernel
set_option maxRecDepth 200000 in
theorem zk_139 : zcw 139 ∈ lw_tbl := List.mem_of_getElem? (i := 638) rfl
set_option maxRecDepth 200000 in
theorem zd_140 : zt_L_capacity.all (zdc 140) = true := by decide +kernel
set_option maxRecDepth 200000 in
theorem zw_140 : zt_L_capacity.all (zwc 140) = true := by decide +kernel
set_option maxRecDepth 200000 in
theorem zm_140 : zmc 140 = true := by decide +kernel
set_option maxRecDepth 200000 in
theorem zk_140 : zcw 140 ∈ lw_tbl := List.mem_of_getElem? (i := 1386) rfl
set_option maxRecDepth 200000 in
theorem zd_141 : zt_L_content.all (zdc 141) = true := by decide +kernel
set_option maxRecDepth 200000 in
theorem zw_141 : zt_L_content.all (zwc 141) = true := by decide +kernel
set_option maxRecDepth 200000 in
theorem zm_141 : zmc 141 = true := by decide +kernel
set_option maxRecDepth 200000 in
theorem zk_141 : zcw 141 ∈ lw_tbl := List.mem_of_getElem? (i := 645) rfl
set_option maxRecDepth 200000 in
theorem zd_142 : zt_L_impurities.all (zdc 142) = true := by decide +kernel
set_option maxRecDepth 200000 in
theorem zw_142 : zt_L_impurities.all (zwc 142) = true := by decide +kernel
set_option maxRecDepth 200000 in
theorem zm_142 : zmc 142 = true := by decide +kernel
set_option maxRecDepth 200000 in
theorem zk_142 : zcw 142 ∈ lw_tbl := List.mem_of_getElem? (i := 658) rfl
set_option maxRecDepth 200000 in
theorem zd_143 : zt_L_has.all (zdc 143) = true := by decide +kernel
set_option maxRecDepth 200000 in
theorem zw_143 : zt_L_has.all (zwc 143) = true := by decide +kernel
set_option maxRecDepth 200000 in
theorem zm_143 : zmc 143 = true := by decide +kernel
set_option maxRecDepth 200000 in
theorem zk_143 : zcw 143 ∈ lw_tbl := List.mem_of_getElem? (i := 1393) rfl
set_option maxRecDepth 200000 in
theorem zd_144 : zt_L_byContent.all (zdc 144) = true := by decide +kernel
set_option maxRecDepth 200000 in
theorem zw_144 : zt_L_byContent.all (zwc 144) = true := by decide +kernel
set_option maxRecDepth 200000 in
theorem zm_144 : zmc 144 = true := by decide +kernel
set_option maxRecDepth 200000 in
theorem zk_144 : zcw 144 ∈ lw_tbl := List.mem_of_getElem? (i := 1003) rfl
set_option maxRecDepth 200000 in
theorem zd_145 : zt_L_fillShare.all (zdc 145) = true := by decide +kernel
set_option maxRecDepth 200000 in
theorem zw_145 : zt_L_fillShare.all (zwc 145) = true := by decide +kernel
set_option maxRecDepth 200000 in
theorem zm_145 : zmc 145 = true := by decide +kernel
set_option maxRecDepth 200000 in
theorem zk_145 : zcw 145 ∈ lw_tbl := List.mem_of_getElem? (i := 1431) rfl
set_option maxRecDepth 200000 in
theorem zd_146 : zt_L_fillBits.all (zdc 146) = true := by decide +kernel
set_option maxRecDepth 200000 in
theorem zw_146 : zt_L_fillBits.all (zwc 146) = true := by decide +kernel
set_option maxRecDepth 200000 in
theorem zm_146 : zmc 146 = true := by decide +kernel
set_option maxRecDepth 200000 in
theorem zk_146 : zcw 146 ∈ lw_tbl := List.mem_of_getElem? (i := 988) rfl
set_option maxRecDepth 200000 in
theorem zd_147 : zt_L_firstOf.all (zdc 147) = true := by decide +kernel
set_option maxRecDepth 200000 in
theorem zw_147 : zt_L_firstOf.all (zwc 147) = true := by decide +kernel
set_option maxRecDepth 200000 in
theorem zm_147 : zmc 147 = true := by decide +kernel
set_option maxRecDepth 200000 in
theorem zk_147 : zcw 147 ∈ lw_tbl := List.mem_of_getElem? (i := 1436) rfl
set_option maxRecDepth 200000 in
theorem zd_148 : zt_L_secondOf.all (zdc 148) = true := by decide +kernel
set_option maxRecDepth 200000 in
theorem zw_148 : zt_L_secondOf.all (zwc 148) = true := by decide +kernel
set_option maxRecDepth 200000 in
theorem zm_148 : zmc 148 = true := by decide +kernel
set_option maxRecDepth 200000 in
theorem zk_148 : zcw 148 ∈ lw_tbl := List.mem_of_getElem? (i := 1443) rfl
set_option maxRecDepth 200000 in
theorem zd_149 : zt_L_valve.all (zdc 149) = true := by decide +kernel
set_option maxRecDepth 200000 in
theorem zw_149 : zt_L_valve.all (zwc 149) = true := by decide +kernel
set_option maxRecDepth 200000 in
theorem zm_149 : zmc 149 = true := by decide +kernel
set_option maxRecDepth 200000 in
theorem zk_149 : zcw 149 ∈ lw_tbl := List.mem_of_getElem? (i := 665) rfl
set_option maxRecDepth 200000 in
theorem zd_150 : zt_L_leak.all (zdc 150) = true := by decide +kernel
set_option maxRecDepth 200000 in
theorem zw_150 : zt_L_leak.all (zwc 150) = true := by decide +kernel
set_option maxRecDepth 200000 in
theorem zm_150 : zmc 150 = true := by decide +kernel
set_option maxRecDepth 200000 in
theorem zk_150 : zcw 150 ∈ lw_tbl := List.mem_of_getElem? (i := 678) rfl
set_option maxRecDepth 200000 in
theorem zd_151 : zt_L_mesh.all (zdc 151) = true := by decide +kernel
set_option maxRecDepth 200000 in
theorem zw_151 : zt_L_mesh.all (zwc 151) = true := by decide +kernel
set_option maxRecDepth 200000 in
theorem zm_151 : zmc 151 = true := by decide +kernel
set_option maxRecDepth 200000 in
theorem zk_151 : zcw 151 ∈ lw_tbl := List.mem_of_getElem? (i := 1341) rfl
set_option maxRecDepth 200000 in
theorem zd_152 : zt_L_dirt.all (zdc 152) = true := by decide +kernel
set_option maxRecDepth 200000 in
theorem zw_152 : zt_L_dirt.all (zwc 152) = true := by decide +kernel
set_option maxRecDepth 200000 in
theorem zm_152 : zmc 152 = true := by decide +kernel
set_option maxRecDepth 200000 in
theorem zk_152 : zcw 152 ∈ lw_tbl := List.mem_of_getElem? (i := 1450) rfl
set_option maxRecDepth 200000 in
theorem zd_153 : zt_L_isOpen.all (zdc 153) = true := by decide +kernel
set_option maxRecDepth 200000 in
theorem zw_153 : zt_L_isOpen.all (zwc 153) = true := by decide +kernel
set_option maxRecDepth 200000 in
theorem zm_153 : zmc 153 = true := by decide +kernel
set_option maxRecDepth 200000 in
theorem zk_153 : zcw 153 ∈ lw_tbl := List.mem_of_getElem? (i := 1457) rfl
set_option maxRecDepth 200000 in
theorem zd_154 : zt_L_flow.all (zdc 154) = true := by decide +kernel
set_option maxRecDepth 200000 in
theorem zw_154 : zt_L_flow.all (zwc 154) = true := by decide +kernel
set_option maxRecDepth 200000 in
theorem zm_154 : zmc 154 = true := by decide +kernel
set_option maxRecDepth 200000 in
theorem zk_154 : zcw 154 ∈ lw_tbl := List.mem_of_getElem? (i := 1318) rfl
set_option maxRecDepth 200000 in
theorem zd_155 : zt_L_litres.all (zdc 155) = true := by decide +kernel
set_option maxRecDepth 200000 in
theorem zw_155 : zt_L_litres.all (zwc 155) = true := by decide +kernel
set_option maxRecDepth 200000 in
theorem zm_155 : zmc 155 = true := by decide +kernel
set_option maxRecDepth 200000 in
theorem zk_155 : zcw 155 ∈ lw_tbl := List.mem_of_getElem? (i := 685) rfl
set_option maxRecDepth 200000 in
theorem zd_156 : zt_L_byDirt.all (zdc 156) = true := by decide +kernel
set_option maxRecDepth 200000 in
theorem zw_156 : zt_L_byDirt.all (zwc 156) = true := by decide +kernel
set_option maxRecDepth 200000 in
theorem zm_156 : zmc 156 = true := by decide +kernel
set_option maxRecDepth 200000 in
theorem zk_156 : zcw 156 ∈ lw_tbl := List.mem_of_getElem? (i := 1326) rfl
set_option maxRecDepth 200000 in
theorem zd_157 : zt_L_connected.all (zdc 157) = true := by decide +kernel
set_option maxRecDepth 200000 in
theorem zw_157 : zt_L_connected.all (zwc 157) = true := by decide +kernel
set_option maxRecDepth 200000 in
theorem zm_157 : zmc 157 = true := by decide +kernel
set_option maxRecDepth 200000 in
theorem zk_157 : zcw 157 ∈ lw_tbl := List.mem_of_getElem? (i := 1401) rfl
set_option maxRecDepth 200000 in
theorem zd_158 : zt_L_isBridge.all (zdc 158) = true := by decide +kernel
set_option maxRecDepth 200000 in
theorem zw_158 : zt_L_isBridge.all (zwc 158) = true := by decide +kernel
set_option maxRecDepth 200000 in
theorem zm_158 : zmc 158 = true := by decide +kernel
set_option maxRecDepth 200000 in
theorem zk_158 : zcw 158 ∈ lw_tbl := List.mem_of_getElem? (i := 1465) rfl
set_option maxRecDepth 200000 in
theorem zd_159 : zt_L_width.all (zdc 159) = true := by decide +kernel
set_option maxRecDepth 200000 in
theorem zw_159 : zt_L_width.all (zwc 159) = true := by decide +kernel
set_option maxRecDepth 200000 in
theorem zm_159 : zmc 159 = true := by decide +kernel
set_option maxRecDepth 200000 in
theorem zk_159 : zcw 159 ∈ lw_tbl := List.mem_of_getElem? (i := 1472) rfl
set_option maxRecDepth 200000 in
theorem zd_160 : zt_L_bySettings.all (zdc 160) = true := by decide +kernel
set_option maxRecDepth 200000 in
theorem zw_160 : zt_L_bySettings.all (zwc 160) = true := by decide +kernel
set_option maxRecDepth 200000 in
theorem zm_160 : zmc 160 = true := by decide +kernel
set_option maxRecDepth 200000 in
theorem zk_160 : zcw 160 ∈ lw_tbl := List.mem_of_getElem? (i := 1492) rfl
set_option maxRecDepth 200000 in
theorem zd_161 : zt_L_cleanest.all (zdc 161) = true := by decide +kernel
set_option maxRecDepth 200000 in
theorem zw_161 : zt_L_cleanest.all (zwc 161) = true := by decide +kernel
set_option maxRecDepth 200000 in
theorem zm_161 : zmc 161 = true := by decide +kernel
set_option maxRecDepth 200000 in
theorem zk_161 : zcw 161 ∈ lw_tbl := List.mem_of_getElem? (i := 1019) rfl
set_option maxRecDepth 200000 in
theorem zd_162 : zt_L_byPasses.all (zdc 162) = true := by decide +kernel
set_option maxRecDepth 200000 in
theorem zw_162 : zt_L_byPasses.all (zwc 162) = true := by decide +kernel
set_option maxRecDepth 200000 in
theorem zm_162 : zmc 162 = true := by decide +kernel
set_option maxRecDepth 200000 in
theorem zk_162 : zcw 162 ∈ lw_tbl := List.mem_of_getElem? (i := 1408) rfl
set_option maxRecDepth 200000 in
theorem zd_163 : zt_L_meanBits.all (zdc 163) = true := by decide +kernel
set_option maxRecDepth 200000 in
theorem zw_163 : zt_L_meanBits.all (zwc 163) = true := by decide +kernel
set_option maxRecDepth 200000 in
theorem zm_163 : zmc 163 = true := by decide +kernel
set_option maxRecDepth 200000 in
theorem zk_163 : zcw 163 ∈ lw_tbl := List.mem_of_getElem? (i := 891) rfl
set_option maxRecDepth 200000 in
theorem zd_164 : zt_L_renderTank.all (zdc 164) = true := by decide +kernel
set_option maxRecDepth 200000 in
theorem zw_164 : zt_L_renderTank.all (zwc 164) = true := by decide +kernel
set_option maxRecDepth 200000 in
theorem zm_164 : zmc 164 = true := by decide +kernel
set_option maxRecDepth 200000 in
theorem zk_164 : zcw 164 ∈ lw_tbl := List.mem_of_getElem? (i := 1044) rfl
set_option maxRecDepth 200000 in
theorem zd_165 : zt_L_renderPipe.all (zdc 165) = true := by decide +kernel
set_option maxRecDepth 200000 in
theorem zw_165 : zt_L_renderPipe.all (zwc 165) = true := by decide +kernel
set_option maxRecDepth 200000 in
theorem zm_165 : zmc 165 = true := by decide +kernel
set_option maxRecDepth 200000 in
theorem zk_165 : zcw 165 ∈ lw_tbl := List.mem_of_getElem? (i := 1348) rfl
set_option maxRecDepth 200000 in
theorem zd_166 : zt_L_outputAt.all (zdc 166) = true := by decide +kernel
set_option maxRecDepth 200000 in
theorem zw_166 : zt_L_outputAt.all (zwc 166) = true := by decide +kernel
set_option maxRecDepth 200000 in
theorem zm_166 : zmc 166 = true := by decide +kernel
set_option maxRecDepth 200000 in
theorem zk_166 : zcw 166 ∈ lw_tbl := List.mem_of_getElem? (i := 1300) rfl
set_option maxRecDepth 200000 in
theorem zd_167 : zt_L_type.all (zdc 167) = true := by decide +kernel
set_option maxRecDepth 200000 in
theorem zw_167 : zt_L_type.all (zwc 167) = true := by decide +kernel
set_option maxRecDepth 200000 in
theorem zm_167 : zmc 167 = true := by decide +kernel
set_option maxRecDepth 200000 in
theorem zk_167 : zcw 167 ∈ lw_tbl := List.mem_of_getElem? (i := 692) rfl
set_option maxRecDepth 200000 in
theorem zd_168 : zt_L_run.all (zdc 168) = true := by decide +kernel
set_option maxRecDepth 200000 in
theorem zw_168 : zt_L_run.all (zwc 168) = true := by decide +kernel
set_option maxRecDepth 200000 in
theorem zm_168 : zmc 168 = true := by decide +kernel
set_option maxRecDepth 200000 in
theorem zk_168 : zcw 168 ∈ lw_tbl := List.mem_of_getElem? (i := 709) rfl
set_option maxRecDepth 200000 in
theorem zd_169 : zt_L_errorPosition.all (zdc 169) = true := by decide +kernel
set_option maxRecDepth 200000 in
theorem zw_169 : zt_L_errorPosition.all (zwc 169) = true := by decide +kernel
set_option maxRecDepth 200000 in
theorem zm_169 : zmc 169 = true := by decide +kernel
set_option maxRecDepth 200000 in
theorem zk_169 : zcw 169 ∈ lw_tbl := List.mem_of_getElem? (i := 837) rfl
set_option maxRecDepth 200000 in
theorem zd_170 : zt_L_failedCommand.all (zdc 170) = true := by decide +kernel
set_option maxRecDepth 200000 in
theorem zw_170 : zt_L_failedCommand.all (zwc 170) = true := by decide +kernel
set_option maxRecDepth 200000 in
theorem zm_170 : zmc 170 = true := by decide +kernel
set_option maxRecDepth 200000 in
theorem zk_170 : zcw 170 ∈ lw_tbl := List.mem_of_getElem? (i := 1505) rfl
set_option maxRecDepth 200000 in
theorem zd_171 : zt_L_undo.all (zdc 171) = true := by decide +kernel
set_option maxRecDepth 200000 in
theorem zw_171 : zt_L_undo.all (zwc 171) = true := by decide +kernel
set_option maxRecDepth 200000 in
theorem zm_171 : zmc 171 = true := by decide +kernel
set_option maxRecDepth 200000 in
theorem zk_171 : zcw 171 ∈ lw_tbl := List.mem_of_getElem? (i := 861) rfl
set_option maxRecDepth 200000 in
theorem zd_172 : zt_L_restore.all (zdc 172) = true := by decide +kernel
set_option maxRecDepth 200000 in
theorem zw_172 : zt_L_restore.all (zwc 172) = true := by decide +kernel
set_option maxRecDepth 200000 in
theorem zm_172 : zmc 172 = true := by decide +kernel
set_option maxRecDepth 200000 in
theorem zk_172 : zcw 172 ∈ lw_tbl := List.mem_of_getElem? (i := 873) rfl
set_option maxRecDepth 200000 in
theorem zd_173 : zt_L_runs.all (zdc 173) = true := by decide +kernel
set_option maxRecDepth 200000 in
theorem zw_173 : zt_L_runs.all (zwc 173) = true := by decide +kernel
set_option maxRecDepth 200000 in
theorem zm_173 : zmc 173 = true := by decide +kernel
set_option maxRecDepth 200000 in
theorem zk_173 : zcw 173 ∈ lw_tbl := List.mem_of_getElem? (i := 1378) rfl
set_option maxRecDepth 200000 in
theorem zd_174_0 : ((zt_L_makes.drop 0).take 40).all (zdc 174) = true := by decide +kernel
set_option maxRecDepth 200000 in
theorem zd_174_1 : ((zt_L_makes.drop 40).take 40).all (zdc 174) = true := by decide +kernel
set_option maxRecDepth 200000 in
theorem zd_174_2 : ((zt_L_makes.drop 80).take 40).all (zdc 174) = true := by decide +kernel
set_option maxRecDepth 200000 in
theorem zd_174_3 : ((zt_L_makes.drop 120).take 40).all (zdc 174) = true := by decide +kernel
set_option maxRecDepth 200000 in
theorem zd_174_4 : ((zt_L_makes.drop 160).take 40).all (zdc 174) = true := by decide +kernel
set_option maxRecDepth 200000 in
theorem zd_174 : zt_L_makes.all (zdc 174) = true := zall_0 (zall_st (j := 0) zd_174_0 (zall_st (j := 40) zd_174_1 (zall_st (j := 80) zd_174_2 (zall_st (j := 120) zd_174_3 (zall_st (j := 160) zd_174_4 (zall_nil (by decide +kernel : (zt_L_makes.drop 200) = [])))))))
set_option maxRecDepth 200000 in
theorem zw_174 : zt_L_makes.all (zwc 174) = true := by decide +kernel
set_option maxRecDepth 200000 in
theorem zm_174 : zmc 174 = true := by decide +kernel
set_option maxRecDepth 200000 in
theorem zk_174 : zcw 174 ∈ lw_tbl := List.mem_of_getElem? (i := 881) rfl
