set_option maxRecDepth 1000000 in
set_option maxHeartbeats 0 in
theorem lm_k100 : lm_ck (lm_e100, lm_r100) := ⟨rfl, by decide +kernel, by decide +kernel, by decide +kernel⟩
set_option maxRecDepth 1000000 in
set_option maxHeartbeats 0 in
theorem lm_k101 : lm_ck (lm_e101, lm_r101) := ⟨rfl, by decide +kernel, by decide +kernel, by decide +kernel⟩
set_option maxRecDepth 1000000 in
set_option maxHeartbeats 0 in
theorem lm_k102 : lm_ck (lm_e102, lm_r102) := ⟨rfl, by decide +kernel, by decide +kernel, by decide +kernel⟩
set_option maxRecDepth 1000000 in
set_option maxHeartbeats 0 in
theorem lm_k103 : lm_ck (lm_e103, lm_r103) := ⟨rfl, by decide +kernel, by decide +kernel, by decide +kernel⟩
set_option maxRecDepth 1000000 in
set_option maxHeartbeats 0 in
theorem lm_k104 : lm_ck (lm_e104, lm_r104) := ⟨rfl, by decide +kernel, by decide +kernel, by decide +kernel⟩
set_option maxRecDepth 1000000 in
set_option maxHeartbeats 0 in
theorem lm_k105 : lm_ck (lm_e105, lm_r105) := ⟨rfl, by decide +kernel, by decide +kernel, by decide +kernel⟩
set_option maxRecDepth 1000000 in
set_option maxHeartbeats 0 in
theorem lm_k106 : lm_ck (lm_e106, lm_r106) := ⟨rfl, by decide +kernel, by decide +kernel, by decide +kernel⟩
set_option maxRecDepth 1000000 in
set_option maxHeartbeats 0 in
theorem lm_k107 : lm_ck (lm_e107, lm_r107) := ⟨rfl, by decide +kernel, by decide +kernel, by decide +kernel⟩
set_option maxRecDepth 1000000 in
set_option maxHeartbeats 0 in
theorem lm_k108 : lm_ck (lm_e108, lm_r108) := ⟨rfl, by decide +kernel, by decide +kernel, by decide +kernel⟩
set_option maxRecDepth 1000000 in
set_option maxHeartbeats 0 in
theorem lm_k109 : lm_ck (lm_e109, lm_r109) := ⟨rfl, by decide +kernel, by decide +kernel, by decide +kernel⟩
set_option maxRecDepth 1000000 in
set_option maxHeartbeats 0 in
theorem lm_k110 : lm_ck (lm_e110, lm_r110) := ⟨rfl, by decide +kernel, by decide +kernel, by decide +kernel⟩
set_option maxRecDepth 1000000 in
set_option maxHeartbeats 0 in
theorem lm_k111 : lm_ck (lm_e111, lm_r111) := ⟨rfl, by decide +kernel, by decide +kernel, by decide +kernel⟩
set_option maxRecDepth 1000000 in
set_option maxHeartbeats 0 in
theorem lm_k112 : lm_ck (lm_e112, lm_r112) := ⟨rfl, by decide +kernel, by decide +kernel, by decide +kernel⟩
set_option maxRecDepth 1000000 in
set_option maxHeartbeats 0 in
theorem lm_k113 : lm_ck (lm_e113, lm_r113) := ⟨rfl, by decide +kernel, by decide +kernel, by decide +kernel⟩
set_option maxRecDepth 1000000 in
set_option maxHeartbeats 0 in
theorem lm_k114 : lm_ck (lm_e114, lm_r114) := ⟨rfl, by decide +kernel, by decide +kernel, by decide +kernel⟩
set_option maxRecDepth 1000000 in
set_option maxHeartbeats 0 in
theorem lm_k115 : lm_ck (lm_e115, lm_r115) := ⟨rfl, by decide +kernel, by decide +kernel, by decide +kernel⟩
set_option maxRecDepth 1000000 in
set_option maxHeartbeats 0 in
theorem lm_k116 : lm_ck (lm_e116, lm_r116) := ⟨rfl, by decide +kernel, by decide +kernel, by decide +kernel⟩
set_option maxRecDepth 1000000 in
set_option maxHeartbeats 0 in
theorem lm_k117 : lm_ck (lm_e117, lm_r117) := ⟨rfl, by decide +kernel, by decide +kernel, by decide +kernel⟩
set_option maxRecDepth 1000000 in
set_option maxHeartbeats 0 in
theorem lm_k118 : lm_ck (lm_e118, lm_r118) := ⟨rfl, by decide +kernel, by decide +kernel, by decide +kernel⟩
set_option maxRecDepth 1000000 in
set_option maxHeartbeats 0 in
theorem lm_k119 : lm_ck (lm_e119, lm_r119) := ⟨rfl, by decide +kernel, by decide +kernel, by decide +kernel⟩
set_option maxRecDepth 1000000 in
set_option maxHeartbeats 0 in
theorem lm_k120 : lm_ck (lm_e120, lm_r120) := ⟨rfl, by decide +kernel, by decide +kernel, by decide +kernel⟩
set_option maxRecDepth 1000000 in
set_option maxHeartbeats 0 in
theorem lm_k121 : lm_ck (lm_e121, lm_r121) := ⟨rfl, by decide +kernel, by decide +kernel, by decide +kernel⟩
set_option maxRecDepth 1000000 in
set_option maxHeartbeats 0 in
theorem lm_k122 : lm_ck (lm_e122, lm_r122) := ⟨rfl, by decide +kernel, by decide +kernel, by decide +kernel⟩
set_option maxRecDepth 1000000 in
set_option maxHeartbeats 0 in
theorem lm_k123 : lm_ck (lm_e123, lm_r123) := ⟨rfl, by decide +kernel, by decide +kernel, by decide +kernel⟩
set_option maxRecDepth 1000000 in
set_option maxHeartbeats 0 in
theorem lm_k124 : lm_ck (lm_e124, lm_r124) := ⟨rfl, by decide +kernel, by decide +kernel, by decide +kernel⟩
set_option maxRecDepth 1000000 in
set_option maxHeartbeats 0 in
theorem lm_k125 : lm_ck (lm_e125, lm_r125) := ⟨rfl, by decide +kernel, by decide +kernel, by decide +kernel⟩
set_option maxRecDepth 1000000 in
set_option maxHeartbeats 0 in
theorem lm_k126 : lm_ck (lm_e126, lm_r126) := ⟨rfl, by decide +kernel, by decide +kernel, by decide +kernel⟩
set_option maxRecDepth 1000000 in
set_option maxHeartbeats 0 in
theorem lm_k127 : lm_ck (lm_e127, lm_r127) := ⟨rfl, by decide +kernel, by decide +kernel, by decide +kernel⟩
set_option maxRecDepth 1000000 in
set_option maxHeartbeats 0 in
theorem lm_k128 : lm_ck (lm_e128, lm_r128) := ⟨rfl, by decide +kernel, by decide +kernel, by decide +kernel⟩
set_option maxRecDepth 1000000 in
set_option maxHeartbeats 0 in
theorem lm_k129 : lm_ck (lm_e129, lm_r129) := ⟨rfl, by decide +kernel, by decide +kernel, by decide +kernel⟩
set_option maxRecDepth 1000000 in
set_option maxHeartbeats 0 in
theorem lm_k130 : lm_ck (lm_e130, lm_r130) := ⟨rfl, by decide +kernel, by decide +kernel, by decide +kernel⟩
set_option maxRecDepth 1000000 in
set_option maxHeartbeats 0 in
theorem lm_k131 : lm_ck (lm_e131, lm_r131) := ⟨rfl, by decide +kernel, by decide +kernel, by decide +kernel⟩
set_option maxRecDepth 1000000 in
set_option maxHeartbeats 0 in
theorem lm_k132 : lm_ck (lm_e132, lm_r132) := ⟨rfl, by decide +kernel, by decide +kernel, by decide +kernel⟩
set_option maxRecDepth 1000000 in
set_option maxHeartbeats 0 in
theorem lm_k133 : lm_ck (lm_e133, lm_r133) := ⟨rfl, by decide +kernel, by decide +kernel, by decide +kernel⟩
set_option maxRecDepth 1000000 in
set_option maxHeartbeats 0 in
theorem lm_k134 : lm_ck (lm_e134, lm_r134) := ⟨rfl, by decide +kernel, by decide +kernel, by decide +kernel⟩
set_option maxRecDepth 1000000 in
set_option maxHeartbeats 0 in
theorem lm_k135 : lm_ck (lm_e135, lm_r135) := ⟨rfl, by decide +kernel, by decide +kernel, by decide +kernel⟩
set_option maxRecDepth 1000000 in
set_option maxHeartbeats 0 in
theorem lm_k136 : lm_ck (lm_e136, lm_r136) := ⟨rfl, by decide +kernel, by decide +kernel, by decide +kernel⟩
set_option maxRecDepth 1000000 in
set_option maxHeartbeats 0 in
theorem lm_k137 : lm_ck (lm_e137, lm_r137) := ⟨rfl, by decide +kernel, by decide +kernel, by decide +kernel⟩
set_option maxRecDepth 1000000 in
set_option maxHeartbeats 0 in
theorem lm_k138 : lm_ck (lm_e138, lm_r138) := ⟨rfl, by decide +kernel, by decide +kernel, by decide +kernel⟩
set_option maxRecDepth 1000000 in
set_option maxHeartbeats 0 in
theorem lm_k139 : lm_ck (lm_e139, lm_r139) := ⟨rfl, by decide +kernel, by decide +kernel, by decide +kernel⟩
set_option maxRecDepth 1000000 in
set_option maxHeartbeats 0 in
theorem lm_k140 : lm_ck (lm_e140, lm_r140) := ⟨rfl, by decide +kernel, by decide +kernel, by decide +kernel⟩
set_option maxRecDepth 1000000 in
set_option maxHeartbeats 0 in
theorem lm_k141 : lm_ck (lm_e141, lm_r141) := ⟨rfl, by decide +kernel, by decide +kernel, by decide +kernel⟩
set_option maxRecDepth 1000000 in
set_option maxHeartbeats 0 in
theorem lm_k142 : lm_ck (lm_e142, lm_r142) := ⟨rfl, by decide +kernel, by decide +kernel, by decide +kernel⟩
set_option maxRecDepth 1000000 in
set_option maxHeartbeats 0 in
theorem lm_k143 : lm_ck (lm_e143, lm_r143) := ⟨rfl, by decide +kernel, by decide +kernel, by decide +kernel⟩
set_option maxRecDepth 1000000 in
set_option maxHeartbeats 0 in
theorem lm_k144 : lm_ck (lm_e144, lm_r144) := ⟨rfl, by decide +kernel, by decide +kernel, by decide +kernel⟩
set_option maxRecDepth 1000000 in
set_option maxHeartbeats 0 in
theorem lm_k145 : lm_ck (lm_e145, lm_r145) := ⟨rfl, by decide +kernel, by decide +kernel, by decide +kernel⟩
set_option maxRecDepth 1000000 in
set_option maxHeartbeats 0 in
theorem lm_k146 : lm_ck (lm_e146, lm_r146) := ⟨rfl, by decide +kernel, by decide +kernel, by decide +kernel⟩
set_option maxRecDepth 1000000 in
set_option maxHeartbeats 0 in
theorem lm_k147 : lm_ck (lm_e147, lm_r147) := ⟨rfl, by decide +kernel, by decide +kernel, by decide +kernel⟩
set_option maxRecDepth 1000000 in
set_option maxHeartbeats 0 in
theorem lm_k148 : lm_ck (lm_e148, lm_r148) := ⟨rfl, by decide +kernel, by decide +kernel, by decide +kernel⟩
set_option maxRecDepth 1000000 in
set_option maxHeartbeats 0 in
theorem lm_k149 : lm_ck (lm_e149, lm_r149) := ⟨rfl, by decide +kernel, by decide +kernel, by decide +kernel⟩
set_option maxRecDepth 1000000 in
set_option maxHeartbeats 0 in
theorem lm_k150 : lm_ck (lm_e150, lm_r150) := ⟨rfl, by decide +kernel, by decide +kernel, by decide +kernel⟩
set_option maxRecDepth 1000000 in
set_option maxHeartbeats 0 in
theorem lm_k151 : lm_ck (lm_e151, lm_r151) := ⟨rfl, by decide +kernel, by decide +kernel, by decide +kernel⟩
set_option maxRecDepth 1000000 in
set_option maxHeartbeats 0 in
theorem lm_k152 : lm_ck (lm_e152, lm_r152) := ⟨rfl, by decide +kernel, by decide +kernel, by decide +kernel⟩
set_option maxRecDepth 1000000 in
set_option maxHeartbeats 0 in
theorem lm_k153 : lm_ck (lm_e153, lm_r153) := ⟨rfl, by decide +kernel, by decide +kernel, by decide +kernel⟩
set_option maxRecDepth 1000000 in
set_option maxHeartbeats 0 in
theorem lm_k154 : lm_ck (lm_e154, lm_r154) := ⟨rfl, by decide +kernel, by decide +kernel, by decide +kernel⟩
set_option maxRecDepth 1000000 in
set_option maxHeartbeats 0 in
theorem lm_k155 : lm_ck (lm_e155, lm_r155) := ⟨rfl, by decide +kernel, by decide +kernel, by decide +kernel⟩
set_option maxRecDepth 1000000 in
set_option maxHeartbeats 0 in
theorem lm_k156 : lm_ck (lm_e156, lm_r156) := ⟨rfl, by decide +kernel, by decide +kernel, by decide +kernel⟩
set_option maxRecDepth 1000000 in
set_option maxHeartbeats 0 in
theorem lm_k157 : lm_ck (lm_e157, lm_r157) := ⟨rfl, by decide +kernel, by decide +kernel, by decide +kernel⟩
set_option maxRecDepth 1000000 in
set_option maxHeartbeats 0 in
theorem lm_k158 : lm_ck (lm_e158, lm_r158) := ⟨rfl, by decide +kernel, by decide +kernel, by decide +kernel⟩
set_option maxRecDepth 1000000 in
set_option maxHeartbeats 0 in
theorem lm_k159 : lm_ck (lm_e159, lm_r159) := ⟨rfl, by decide +kernel, by decide +kernel, by decide +kernel⟩
set_option maxRecDepth 1000000 in
set_option maxHeartbeats 0 in
theorem lm_k160 : lm_ck (lm_e160, lm_r160) := ⟨rfl, by decide +kernel, by decide +kernel, by decide +kernel⟩
set_option maxRecDepth 1000000 in
set_option maxHeartbeats 0 in
theorem lm_k161 : lm_ck (lm_e161, lm_r161) := ⟨rfl, by decide +kernel, by decide +kernel, by decide +kernel⟩
set_option maxRecDepth 1000000 in
set_option maxHeartbeats 0 in
theorem lm_k162 : lm_ck (lm_e162, lm_r162) := ⟨rfl, by decide +kernel, by decide +kernel, by decide +kernel⟩
set_option maxRecDepth 1000000 in
set_option maxHeartbeats 0 in
theorem lm_k163 : lm_ck (lm_e163, lm_r163) := ⟨rfl, by decide +kernel, by decide +kernel, by decide +kernel⟩
set_option maxRecDepth 1000000 in
set_option maxHeartbeats 0 in
theorem lm_k164 : lm_ck (lm_e164, lm_r164) := ⟨rfl, by decide +kernel, by decide +kernel, by decide +kernel⟩
set_option maxRecDepth 1000000 in
set_option maxHeartbeats 0 in
theorem lm_k165 : lm_ck (lm_e165, lm_r165) := ⟨rfl, by decide +kernel, by decide +kernel, by decide +kernel⟩
set_option maxRecDepth 1000000 in
set_option maxHeartbeats 0 in
theorem lm_k166 : lm_ck (lm_e166, lm_r166) := ⟨rfl, by decide +kernel, by decide +kernel, by decide +kernel⟩
set_option maxRecDepth 1000000 in
set_option maxHeartbeats 0 in
theorem lm_k167 : lm_ck (lm_e167, lm_r167) := ⟨rfl, by decide +kernel, by decide +kernel, by decide +kernel⟩
set_option maxRecDepth 1000000 in
set_option maxHeartbeats 0 in
theorem lm_k168 : lm_ck (lm_e168, lm_r168) := ⟨rfl, by decide +kernel, by decide +kernel, by decide +kernel⟩
set_option maxRecDepth 1000000 in
set_option maxHeartbeats 0 in
theorem lm_k169 : lm_ck (lm_e169, lm_r169) := ⟨rfl, by decide +kernel, by decide +kernel, by decide +kernel⟩
set_option maxRecDepth 1000000 in
set_option maxHeartbeats 0 in
theorem lm_k170 : lm_ck (lm_e170, lm_r170) := ⟨rfl, by decide +kernel, by decide +kernel, by decide +kernel⟩
set_option maxRecDepth 1000000 in
set_option maxHeartbeats 0 in
theorem lm_k171 : lm_ck (lm_e171, lm_r171) := ⟨rfl, by decide +kernel, by decide +kernel, by decide +kernel⟩
set_option maxRecDepth 1000000 in
set_option maxHeartbeats 0 in
theorem lm_k172 : lm_ck (lm_e172, lm_r172) := ⟨rfl, by decide +kernel, by decide +kernel, by decide +kernel⟩
set_option maxRecDepth 1000000 in
set_option maxHeartbeats 0 in
theorem lm_k173 : lm_ck (lm_e173, lm_r173) := ⟨rfl, by decide +kernel, by decide +kernel, by decide +kernel⟩
set_option maxRecDepth 1000000 in
set_option maxHeartbeats 0 in
theorem lm_k174 : lm_ck (lm_e174, lm_r174) := ⟨rfl, by decide +kernel, by decide +kernel, by decide +kernel⟩
set_option maxRecDepth 1000000 in
set_option maxHeartbeats 0 in
theorem lm_k175 : lm_ck (lm_e175, lm_r175) := ⟨rfl, by decide +kernel, by decide +kernel, by decide +kernel⟩
set_option maxRecDepth 1000000 in
set_option maxHeartbeats 0 in
theorem lm_k176 : lm_ck (lm_e176, lm_r176) := ⟨rfl, by decide +kernel, by decide +kernel, by decide +kernel⟩
set_option maxRecDepth 1000000 in
set_option maxHeartbeats 0 in
theorem lm_k177 : lm_ck (lm_e177, lm_r177) := ⟨rfl, by decide +kernel, by decide +kernel, by decide +kernel⟩
set_option maxRecDepth 1000000 in
set_option maxHeartbeats 0 in
theorem lm_k178 : lm_ck (lm_e178, lm_r178) := ⟨rfl, by decide +kernel, by decide +kernel, by decide +kernel⟩
set_option maxRecDepth 1000000 in
set_option maxHeartbeats 0 in
theorem lm_k179 : lm_ck (lm_e179, lm_r179) := ⟨rfl, by decide +kernel, by decide +kernel, by decide +kernel⟩
set_option maxRecDepth 1000000 in
set_option maxHeartbeats 0 in
theorem lm_k180 : lm_ck (lm_e180, lm_r180) := ⟨rfl, by decide +kernel, by decide +kernel, by decide +kernel⟩
set_option maxRecDepth 1000000 in
set_option maxHeartbeats 0 in
theorem lm_k181 : lm_ck (lm_e181, lm_r181) := ⟨rfl, by decide +kernel, by decide +kernel, by decide +kernel⟩
set_option maxRecDepth 1000000 in
set_option maxHeartbeats 0 in
theorem lm_k182 : lm_ck (lm_e182, lm_r182) := ⟨rfl, by decide +kernel, by decide +kernel, by decide +kernel⟩
set_option maxRecDepth 1000000 in
set_option maxHeartbeats 0 in
theorem lm_k183 : lm_ck (lm_e183, lm_r183) := ⟨rfl, by decide +kernel, by decide +kernel, by decide +kernel⟩
set_option maxRecDepth 1000000 in
set_option maxHeartbeats 0 in
theorem lm_k184 : lm_ck (lm_e184, lm_r184) := ⟨rfl, by decide +kernel, by decide +kernel, by decide +kernel⟩
set_option maxRecDepth 1000000 in
set_option maxHeartbeats 0 in
theorem lm_k185 : lm_ck (lm_e185, lm_r185) := ⟨rfl, by decide +kernel, by decide +kernel, by decide +kernel⟩
set_option maxRecDepth 1000000 in
set_option maxHeartbeats 0 in
theorem lm_k186 : lm_ck (lm_e186, lm_r186) := ⟨rfl, by decide +kernel, by decide +kernel, by decide +kernel⟩
set_option maxRecDepth 1000000 in
set_option maxHeartbeats 0 in
theorem lm_k187 : lm_ck (lm_e187, lm_r187) := ⟨rfl, by decide +kernel, by decide +kernel, by decide +kernel⟩
set_option maxRecDepth 1000000 in
set_option maxHeartbeats 0 in
theorem lm_k188 : lm_ck (lm_e188, lm_r188) := ⟨rfl, by decide +kernel, by decide +kernel, by decide +kernel⟩
set_option maxRecDepth 1000000 in
set_option maxHeartbeats 0 in
theorem lm_k189 : lm_ck (lm_e189, lm_r189) := ⟨rfl, by decide +kernel, by decide +kernel, by decide +kernel⟩
