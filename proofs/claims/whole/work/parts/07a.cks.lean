/-! printed by wip/whole/gen07.py: the tables are as they must be -/
set_option maxRecDepth 1000000 in
set_option maxHeartbeats 0 in
theorem lm_k0 : lm_ck (lm_e0, lm_r0) := ⟨rfl, by decide +kernel, by decide +kernel, by decide +kernel⟩
set_option maxRecDepth 1000000 in
set_option maxHeartbeats 0 in
theorem lm_k1 : lm_ck (lm_e1, lm_r1) := ⟨rfl, by decide +kernel, by decide +kernel, by decide +kernel⟩
set_option maxRecDepth 1000000 in
set_option maxHeartbeats 0 in
theorem lm_k2 : lm_ck (lm_e2, lm_r2) := ⟨rfl, by decide +kernel, by decide +kernel, by decide +kernel⟩
set_option maxRecDepth 1000000 in
set_option maxHeartbeats 0 in
theorem lm_k3 : lm_ck (lm_e3, lm_r3) := ⟨rfl, by decide +kernel, by decide +kernel, by decide +kernel⟩
set_option maxRecDepth 1000000 in
set_option maxHeartbeats 0 in
theorem lm_k4 : lm_ck (lm_e4, lm_r4) := ⟨rfl, by decide +kernel, by decide +kernel, by decide +kernel⟩
set_option maxRecDepth 1000000 in
set_option maxHeartbeats 0 in
theorem lm_k5 : lm_ck (lm_e5, lm_r5) := ⟨rfl, by decide +kernel, by decide +kernel, by decide +kernel⟩
set_option maxRecDepth 1000000 in
set_option maxHeartbeats 0 in
theorem lm_k6 : lm_ck (lm_e6, lm_r6) := ⟨rfl, by decide +kernel, by decide +kernel, by decide +kernel⟩
set_option maxRecDepth 1000000 in
set_option maxHeartbeats 0 in
theorem lm_k7 : lm_ck (lm_e7, lm_r7) := ⟨rfl, by decide +kernel, by decide +kernel, by decide +kernel⟩
set_option maxRecDepth 1000000 in
set_option maxHeartbeats 0 in
theorem lm_k8 : lm_ck (lm_e8, lm_r8) := ⟨rfl, by decide +kernel, by decide +kernel, by decide +kernel⟩
set_option maxRecDepth 1000000 in
set_option maxHeartbeats 0 in
theorem lm_k9 : lm_ck (lm_e9, lm_r9) := ⟨rfl, by decide +kernel, by decide +kernel, by decide +kernel⟩
set_option maxRecDepth 1000000 in
set_option maxHeartbeats 0 in
theorem lm_k10 : lm_ck (lm_e10, lm_r10) := ⟨rfl, by decide +kernel, by decide +kernel, by decide +kernel⟩
set_option maxRecDepth 1000000 in
set_option maxHeartbeats 0 in
theorem lm_k11 : lm_ck (lm_e11, lm_r11) := ⟨rfl, by decide +kernel, by decide +kernel, by decide +kernel⟩
set_option maxRecDepth 1000000 in
set_option maxHeartbeats 0 in
theorem lm_k12 : lm_ck (lm_e12, lm_r12) := ⟨rfl, by decide +kernel, by decide +kernel, by decide +kernel⟩
set_option maxRecDepth 1000000 in
set_option maxHeartbeats 0 in
theorem lm_k13 : lm_ck (lm_e13, lm_r13) := ⟨rfl, by decide +kernel, by decide +kernel, by decide +kernel⟩
set_option maxRecDepth 1000000 in
set_option maxHeartbeats 0 in
theorem lm_k14 : lm_ck (lm_e14, lm_r14) := ⟨rfl, by decide +kernel, by decide +kernel, by decide +kernel⟩
set_option maxRecDepth 1000000 in
set_option maxHeartbeats 0 in
theorem lm_k15 : lm_ck (lm_e15, lm_r15) := ⟨rfl, by decide +kernel, by decide +kernel, by decide +kernel⟩
set_option maxRecDepth 1000000 in
set_option maxHeartbeats 0 in
theorem lm_k16 : lm_ck (lm_e16, lm_r16) := ⟨rfl, by decide +kernel, by decide +kernel, by decide +kernel⟩
set_option maxRecDepth 1000000 in
set_option maxHeartbeats 0 in
theorem lm_k17 : lm_ck (lm_e17, lm_r17) := ⟨rfl, by decide +kernel, by decide +kernel, by decide +kernel⟩
set_option maxRecDepth 1000000 in
set_option maxHeartbeats 0 in
theorem lm_k18 : lm_ck (lm_e18, lm_r18) := ⟨rfl, by decide +kernel, by decide +kernel, by decide +kernel⟩
set_option maxRecDepth 1000000 in
set_option maxHeartbeats 0 in
theorem lm_k19 : lm_ck (lm_e19, lm_r19) := ⟨rfl, by decide +kernel, by decide +kernel, by decide +kernel⟩
set_option maxRecDepth 1000000 in
set_option maxHeartbeats 0 in
theorem lm_k20 : lm_ck (lm_e20, lm_r20) := ⟨rfl, by decide +kernel, by decide +kernel, by decide +kernel⟩
set_option maxRecDepth 1000000 in
set_option maxHeartbeats 0 in
theorem lm_k21 : lm_ck (lm_e21, lm_r21) := ⟨rfl, by decide +kernel, by decide +kernel, by decide +kernel⟩
set_option maxRecDepth 1000000 in
set_option maxHeartbeats 0 in
theorem lm_k22 : lm_ck (lm_e22, lm_r22) := ⟨rfl, by decide +kernel, by decide +kernel, by decide +kernel⟩
set_option maxRecDepth 1000000 in
set_option maxHeartbeats 0 in
theorem lm_k23 : lm_ck (lm_e23, lm_r23) := ⟨rfl, by decide +kernel, by decide +kernel, by decide +kernel⟩
set_option maxRecDepth 1000000 in
set_option maxHeartbeats 0 in
theorem lm_k24 : lm_ck (lm_e24, lm_r24) := ⟨rfl, by decide +kernel, by decide +kernel, by decide +kernel⟩
set_option maxRecDepth 1000000 in
set_option maxHeartbeats 0 in
theorem lm_k25 : lm_ck (lm_e25, lm_r25) := ⟨rfl, by decide +kernel, by decide +kernel, by decide +kernel⟩
set_option maxRecDepth 1000000 in
set_option maxHeartbeats 0 in
theorem lm_k26 : lm_ck (lm_e26, lm_r26) := ⟨rfl, by decide +kernel, by decide +kernel, by decide +kernel⟩
set_option maxRecDepth 1000000 in
set_option maxHeartbeats 0 in
theorem lm_k27 : lm_ck (lm_e27, lm_r27) := ⟨rfl, by decide +kernel, by decide +kernel, by decide +kernel⟩
set_option maxRecDepth 1000000 in
set_option maxHeartbeats 0 in
theorem lm_k28 : lm_ck (lm_e28, lm_r28) := ⟨rfl, by decide +kernel, by decide +kernel, by decide +kernel⟩
set_option maxRecDepth 1000000 in
set_option maxHeartbeats 0 in
theorem lm_k29 : lm_ck (lm_e29, lm_r29) := ⟨rfl, by decide +kernel, by decide +kernel, by decide +kernel⟩
set_option maxRecDepth 1000000 in
set_option maxHeartbeats 0 in
theorem lm_k30 : lm_ck (lm_e30, lm_r30) := ⟨rfl, by decide +kernel, by decide +kernel, by decide +kernel⟩
set_option maxRecDepth 1000000 in
set_option maxHeartbeats 0 in
theorem lm_k31 : lm_ck (lm_e31, lm_r31) := ⟨rfl, by decide +kernel, by decide +kernel, by decide +kernel⟩
set_option maxRecDepth 1000000 in
set_option maxHeartbeats 0 in
theorem lm_k32 : lm_ck (lm_e32, lm_r32) := ⟨rfl, by decide +kernel, by decide +kernel, by decide +kernel⟩
set_option maxRecDepth 1000000 in
set_option maxHeartbeats 0 in
theorem lm_k33 : lm_ck (lm_e33, lm_r33) := ⟨rfl, by decide +kernel, by decide +kernel, by decide +kernel⟩
set_option maxRecDepth 1000000 in
set_option maxHeartbeats 0 in
theorem lm_k34 : lm_ck (lm_e34, lm_r34) := ⟨rfl, by decide +kernel, by decide +kernel, by decide +kernel⟩
set_option maxRecDepth 1000000 in
set_option maxHeartbeats 0 in
theorem lm_k35 : lm_ck (lm_e35, lm_r35) := ⟨rfl, by decide +kernel, by decide +kernel, by decide +kernel⟩
set_option maxRecDepth 1000000 in
set_option maxHeartbeats 0 in
theorem lm_k36 : lm_ck (lm_e36, lm_r36) := ⟨rfl, by decide +kernel, by decide +kernel, by decide +kernel⟩
set_option maxRecDepth 1000000 in
set_option maxHeartbeats 0 in
theorem lm_k37 : lm_ck (lm_e37, lm_r37) := ⟨rfl, by decide +kernel, by decide +kernel, by decide +kernel⟩
set_option maxRecDepth 1000000 in
set_option maxHeartbeats 0 in
theorem lm_k38 : lm_ck (lm_e38, lm_r38) := ⟨rfl, by decide +kernel, by decide +kernel, by decide +kernel⟩
set_option maxRecDepth 1000000 in
set_option maxHeartbeats 0 in
theorem lm_k39 : lm_ck (lm_e39, lm_r39) := ⟨rfl, by decide +kernel, by decide +kernel, by decide +kernel⟩
set_option maxRecDepth 1000000 in
set_option maxHeartbeats 0 in
theorem lm_k40 : lm_ck (lm_e40, lm_r40) := ⟨rfl, by decide +kernel, by decide +kernel, by decide +kernel⟩
set_option maxRecDepth 1000000 in
set_option maxHeartbeats 0 in
theorem lm_k41 : lm_ck (lm_e41, lm_r41) := ⟨rfl, by decide +kernel, by decide +kernel, by decide +kernel⟩
set_option maxRecDepth 1000000 in
set_option maxHeartbeats 0 in
theorem lm_k42 : lm_ck (lm_e42, lm_r42) := ⟨rfl, by decide +kernel, by decide +kernel, by decide +kernel⟩
set_option maxRecDepth 1000000 in
set_option maxHeartbeats 0 in
theorem lm_k43 : lm_ck (lm_e43, lm_r43) := ⟨rfl, by decide +kernel, by decide +kernel, by decide +kernel⟩
set_option maxRecDepth 1000000 in
set_option maxHeartbeats 0 in
theorem lm_k44 : lm_ck (lm_e44, lm_r44) := ⟨rfl, by decide +kernel, by decide +kernel, by decide +kernel⟩
set_option maxRecDepth 1000000 in
set_option maxHeartbeats 0 in
theorem lm_k45 : lm_ck (lm_e45, lm_r45) := ⟨rfl, by decide +kernel, by decide +kernel, by decide +kernel⟩
set_option maxRecDepth 1000000 in
set_option maxHeartbeats 0 in
theorem lm_k46 : lm_ck (lm_e46, lm_r46) := ⟨rfl, by decide +kernel, by decide +kernel, by decide +kernel⟩
set_option maxRecDepth 1000000 in
set_option maxHeartbeats 0 in
theorem lm_k47 : lm_ck (lm_e47, lm_r47) := ⟨rfl, by decide +kernel, by decide +kernel, by decide +kernel⟩
set_option maxRecDepth 1000000 in
set_option maxHeartbeats 0 in
theorem lm_k48 : lm_ck (lm_e48, lm_r48) := ⟨rfl, by decide +kernel, by decide +kernel, by decide +kernel⟩
set_option maxRecDepth 1000000 in
set_option maxHeartbeats 0 in
theorem lm_k49 : lm_ck (lm_e49, lm_r49) := ⟨rfl, by decide +kernel, by decide +kernel, by decide +kernel⟩
set_option maxRecDepth 1000000 in
set_option maxHeartbeats 0 in
theorem lm_k50 : lm_ck (lm_e50, lm_r50) := ⟨rfl, by decide +kernel, by decide +kernel, by decide +kernel⟩
set_option maxRecDepth 1000000 in
set_option maxHeartbeats 0 in
theorem lm_k51 : lm_ck (lm_e51, lm_r51) := ⟨rfl, by decide +kernel, by decide +kernel, by decide +kernel⟩
set_option maxRecDepth 1000000 in
set_option maxHeartbeats 0 in
theorem lm_k52 : lm_ck (lm_e52, lm_r52) := ⟨rfl, by decide +kernel, by decide +kernel, by decide +kernel⟩
set_option maxRecDepth 1000000 in
set_option maxHeartbeats 0 in
theorem lm_k53 : lm_ck (lm_e53, lm_r53) := ⟨rfl, by decide +kernel, by decide +kernel, by decide +kernel⟩
set_option maxRecDepth 1000000 in
set_option maxHeartbeats 0 in
theorem lm_k54 : lm_ck (lm_e54, lm_r54) := ⟨rfl, by decide +kernel, by decide +kernel, by decide +kernel⟩
set_option maxRecDepth 1000000 in
set_option maxHeartbeats 0 in
theorem lm_k55 : lm_ck (lm_e55, lm_r55) := ⟨rfl, by decide +kernel, by decide +kernel, by decide +kernel⟩
set_option maxRecDepth 1000000 in
set_option maxHeartbeats 0 in
theorem lm_k56 : lm_ck (lm_e56, lm_r56) := ⟨rfl, by decide +kernel, by decide +kernel, by decide +kernel⟩
set_option maxRecDepth 1000000 in
set_option maxHeartbeats 0 in
theorem lm_k57 : lm_ck (lm_e57, lm_r57) := ⟨rfl, by decide +kernel, by decide +kernel, by decide +kernel⟩
set_option maxRecDepth 1000000 in
set_option maxHeartbeats 0 in
theorem lm_k58 : lm_ck (lm_e58, lm_r58) := ⟨rfl, by decide +kernel, by decide +kernel, by decide +kernel⟩
set_option maxRecDepth 1000000 in
set_option maxHeartbeats 0 in
theorem lm_k59 : lm_ck (lm_e59, lm_r59) := ⟨rfl, by decide +kernel, by decide +kernel, by decide +kernel⟩
set_option maxRecDepth 1000000 in
set_option maxHeartbeats 0 in
theorem lm_k60 : lm_ck (lm_e60, lm_r60) := ⟨rfl, by decide +kernel, by decide +kernel, by decide +kernel⟩
set_option maxRecDepth 1000000 in
set_option maxHeartbeats 0 in
theorem lm_k61 : lm_ck (lm_e61, lm_r61) := ⟨rfl, by decide +kernel, by decide +kernel, by decide +kernel⟩
set_option maxRecDepth 1000000 in
set_option maxHeartbeats 0 in
theorem lm_k62 : lm_ck (lm_e62, lm_r62) := ⟨rfl, by decide +kernel, by decide +kernel, by decide +kernel⟩
set_option maxRecDepth 1000000 in
set_option maxHeartbeats 0 in
theorem lm_k63 : lm_ck (lm_e63, lm_r63) := ⟨rfl, by decide +kernel, by decide +kernel, by decide +kernel⟩
set_option maxRecDepth 1000000 in
set_option maxHeartbeats 0 in
theorem lm_k64 : lm_ck (lm_e64, lm_r64) := ⟨rfl, by decide +kernel, by decide +kernel, by decide +kernel⟩
set_option maxRecDepth 1000000 in
set_option maxHeartbeats 0 in
theorem lm_k65 : lm_ck (lm_e65, lm_r65) := ⟨rfl, by decide +kernel, by decide +kernel, by decide +kernel⟩
set_option maxRecDepth 1000000 in
set_option maxHeartbeats 0 in
theorem lm_k66 : lm_ck (lm_e66, lm_r66) := ⟨rfl, by decide +kernel, by decide +kernel, by decide +kernel⟩
set_option maxRecDepth 1000000 in
set_option maxHeartbeats 0 in
theorem lm_k67 : lm_ck (lm_e67, lm_r67) := ⟨rfl, by decide +kernel, by decide +kernel, by decide +kernel⟩
set_option maxRecDepth 1000000 in
set_option maxHeartbeats 0 in
theorem lm_k68 : lm_ck (lm_e68, lm_r68) := ⟨rfl, by decide +kernel, by decide +kernel, by decide +kernel⟩
set_option maxRecDepth 1000000 in
set_option maxHeartbeats 0 in
theorem lm_k69 : lm_ck (lm_e69, lm_r69) := ⟨rfl, by decide +kernel, by decide +kernel, by decide +kernel⟩
set_option maxRecDepth 1000000 in
set_option maxHeartbeats 0 in
theorem lm_k70 : lm_ck (lm_e70, lm_r70) := ⟨rfl, by decide +kernel, by decide +kernel, by decide +kernel⟩
set_option maxRecDepth 1000000 in
set_option maxHeartbeats 0 in
theorem lm_k71 : lm_ck (lm_e71, lm_r71) := ⟨rfl, by decide +kernel, by decide +kernel, by decide +kernel⟩
set_option maxRecDepth 1000000 in
set_option maxHeartbeats 0 in
theorem lm_k72 : lm_ck (lm_e72, lm_r72) := ⟨rfl, by decide +kernel, by decide +kernel, by decide +kernel⟩
set_option maxRecDepth 1000000 in
set_option maxHeartbeats 0 in
theorem lm_k73 : lm_ck (lm_e73, lm_r73) := ⟨rfl, by decide +kernel, by decide +kernel, by decide +kernel⟩
set_option maxRecDepth 1000000 in
set_option maxHeartbeats 0 in
theorem lm_k74 : lm_ck (lm_e74, lm_r74) := ⟨rfl, by decide +kernel, by decide +kernel, by decide +kernel⟩
set_option maxRecDepth 1000000 in
set_option maxHeartbeats 0 in
theorem lm_k75 : lm_ck (lm_e75, lm_r75) := ⟨rfl, by decide +kernel, by decide +kernel, by decide +kernel⟩
set_option maxRecDepth 1000000 in
set_option maxHeartbeats 0 in
theorem lm_k76 : lm_ck (lm_e76, lm_r76) := ⟨rfl, by decide +kernel, by decide +kernel, by decide +kernel⟩
set_option maxRecDepth 1000000 in
set_option maxHeartbeats 0 in
theorem lm_k77 : lm_ck (lm_e77, lm_r77) := ⟨rfl, by decide +kernel, by decide +kernel, by decide +kernel⟩
set_option maxRecDepth 1000000 in
set_option maxHeartbeats 0 in
theorem lm_k78 : lm_ck (lm_e78, lm_r78) := ⟨rfl, by decide +kernel, by decide +kernel, by decide +kernel⟩
set_option maxRecDepth 1000000 in
set_option maxHeartbeats 0 in
theorem lm_k79 : lm_ck (lm_e79, lm_r79) := ⟨rfl, by decide +kernel, by decide +kernel, by decide +kernel⟩
set_option maxRecDepth 1000000 in
set_option maxHeartbeats 0 in
theorem lm_k80 : lm_ck (lm_e80, lm_r80) := ⟨rfl, by decide +kernel, by decide +kernel, by decide +kernel⟩
set_option maxRecDepth 1000000 in
set_option maxHeartbeats 0 in
theorem lm_k81 : lm_ck (lm_e81, lm_r81) := ⟨rfl, by decide +kernel, by decide +kernel, by decide +kernel⟩
set_option maxRecDepth 1000000 in
set_option maxHeartbeats 0 in
theorem lm_k82 : lm_ck (lm_e82, lm_r82) := ⟨rfl, by decide +kernel, by decide +kernel, by decide +kernel⟩
set_option maxRecDepth 1000000 in
set_option maxHeartbeats 0 in
theorem lm_k83 : lm_ck (lm_e83, lm_r83) := ⟨rfl, by decide +kernel, by decide +kernel, by decide +kernel⟩
set_option maxRecDepth 1000000 in
set_option maxHeartbeats 0 in
theorem lm_k84 : lm_ck (lm_e84, lm_r84) := ⟨rfl, by decide +kernel, by decide +kernel, by decide +kernel⟩
set_option maxRecDepth 1000000 in
set_option maxHeartbeats 0 in
theorem lm_k85 : lm_ck (lm_e85, lm_r85) := ⟨rfl, by decide +kernel, by decide +kernel, by decide +kernel⟩
set_option maxRecDepth 1000000 in
set_option maxHeartbeats 0 in
theorem lm_k86 : lm_ck (lm_e86, lm_r86) := ⟨rfl, by decide +kernel, by decide +kernel, by decide +kernel⟩
set_option maxRecDepth 1000000 in
set_option maxHeartbeats 0 in
theorem lm_k87 : lm_ck (lm_e87, lm_r87) := ⟨rfl, by decide +kernel, by decide +kernel, by decide +kernel⟩
set_option maxRecDepth 1000000 in
set_option maxHeartbeats 0 in
theorem lm_k88 : lm_ck (lm_e88, lm_r88) := ⟨rfl, by decide +kernel, by decide +kernel, by decide +kernel⟩
set_option maxRecDepth 1000000 in
set_option maxHeartbeats 0 in
theorem lm_k89 : lm_ck (lm_e89, lm_r89) := ⟨rfl, by decide +kernel, by decide +kernel, by decide +kernel⟩
set_option maxRecDepth 1000000 in
set_option maxHeartbeats 0 in
theorem lm_k90 : lm_ck (lm_e90, lm_r90) := ⟨rfl, by decide +kernel, by decide +kernel, by decide +kernel⟩
set_option maxRecDepth 1000000 in
set_option maxHeartbeats 0 in
theorem lm_k91 : lm_ck (lm_e91, lm_r91) := ⟨rfl, by decide +kernel, by decide +kernel, by decide +kernel⟩
set_option maxRecDepth 1000000 in
set_option maxHeartbeats 0 in
theorem lm_k92 : lm_ck (lm_e92, lm_r92) := ⟨rfl, by decide +kernel, by decide +kernel, by decide +kernel⟩
set_option maxRecDepth 1000000 in
set_option maxHeartbeats 0 in
theorem lm_k93 : lm_ck (lm_e93, lm_r93) := ⟨rfl, by decide +kernel, by decide +kernel, by decide +kernel⟩
set_option maxRecDepth 1000000 in
set_option maxHeartbeats 0 in
theorem lm_k94 : lm_ck (lm_e94, lm_r94) := ⟨rfl, by decide +kernel, by decide +kernel, by decide +kernel⟩
set_option maxRecDepth 1000000 in
set_option maxHeartbeats 0 in
theorem lm_k95 : lm_ck (lm_e95, lm_r95) := ⟨rfl, by decide +kernel, by decide +kernel, by decide +kernel⟩
set_option maxRecDepth 1000000 in
set_option maxHeartbeats 0 in
theorem lm_k96 : lm_ck (lm_e96, lm_r96) := ⟨rfl, by decide +kernel, by decide +kernel, by decide +kernel⟩
set_option maxRecDepth 1000000 in
set_option maxHeartbeats 0 in
theorem lm_k97 : lm_ck (lm_e97, lm_r97) := ⟨rfl, by decide +kernel, by decide +kernel, by decide +kernel⟩
set_option maxRecDepth 1000000 in
set_option maxHeartbeats 0 in
theorem lm_k98 : lm_ck (lm_e98, lm_r98) := ⟨rfl, by decide +kernel, by decide +kernel, by decide +kernel⟩
set_option maxRecDepth 1000000 in
set_option maxHeartbeats 0 in
theorem lm_k99 : lm_ck (lm_e99, lm_r99) := ⟨rfl, by decide +kernel, by decide +kernel, by decide +kernel⟩
