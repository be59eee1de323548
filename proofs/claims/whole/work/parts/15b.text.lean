/-! ===== texts: length, charAt: the JDK's own methods, walked ===== -/
theorem dJ0_length_8abf5_0 : decode cJ0_length_8abf5 0 = .ok (.aload_n 0, 1) := by decide +kernel
theorem dJ0_length_8abf5_1 : decode cJ0_length_8abf5 1 = .ok (.getfield 9, 3) := by decide +kernel
theorem dJ0_length_8abf5_4 : decode cJ0_length_8abf5 4 = .ok (.arraylength, 1) := by decide +kernel
theorem dJ0_length_8abf5_5 : decode cJ0_length_8abf5 5 = .ok (.aload_n 0, 1) := by decide +kernel
theorem dJ0_length_8abf5_6 : decode cJ0_length_8abf5 6 = .ok (.invokevirtual 335, 3) := by decide +kernel
theorem dJ0_length_8abf5_9 : decode cJ0_length_8abf5 9 = .ok (.ishr, 1) := by decide +kernel
theorem dJ0_length_8abf5_10 : decode cJ0_length_8abf5 10 = .ok (.ireturn, 1) := by decide +kernel
theorem dJ0_charAt_5068e_0 : decode cJ0_charAt_5068e 0 = .ok (.aload_n 0, 1) := by decide +kernel
theorem dJ0_charAt_5068e_1 : decode cJ0_charAt_5068e 1 = .ok (.invokevirtual 492, 3) := by decide +kernel
theorem dJ0_charAt_5068e_4 : decode cJ0_charAt_5068e 4 = .ok (.ifCond .eq 12, 3) := by decide +kernel
theorem dJ0_charAt_5068e_7 : decode cJ0_charAt_5068e 7 = .ok (.aload_n 0, 1) := by decide +kernel
theorem dJ0_charAt_5068e_8 : decode cJ0_charAt_5068e 8 = .ok (.getfield 9, 3) := by decide +kernel
theorem dJ0_charAt_5068e_11 : decode cJ0_charAt_5068e 11 = .ok (.iload_n 1, 1) := by decide +kernel
theorem dJ0_charAt_5068e_12 : decode cJ0_charAt_5068e 12 = .ok (.invokestatic 495, 3) := by decide +kernel
theorem dJ0_charAt_5068e_15 : decode cJ0_charAt_5068e 15 = .ok (.ireturn, 1) := by decide +kernel
theorem dJ0_charAt_5068e_16 : decode cJ0_charAt_5068e 16 = .ok (.aload_n 0, 1) := by decide +kernel
theorem dJ0_charAt_5068e_17 : decode cJ0_charAt_5068e 17 = .ok (.getfield 9, 3) := by decide +kernel
theorem dJ0_charAt_5068e_20 : decode cJ0_charAt_5068e 20 = .ok (.iload_n 1, 1) := by decide +kernel
theorem dJ0_charAt_5068e_21 : decode cJ0_charAt_5068e 21 = .ok (.invokestatic 498, 3) := by decide +kernel
theorem dJ0_charAt_5068e_24 : decode cJ0_charAt_5068e 24 = .ok (.ireturn, 1) := by decide +kernel
theorem dJ0_coder_7d493_0 : decode cJ0_coder_7d493 0 = .ok (.getstatic 38, 3) := by decide +kernel
theorem dJ0_coder_7d493_3 : decode cJ0_coder_7d493 3 = .ok (.ifCond .eq 10, 3) := by decide +kernel
theorem dJ0_coder_7d493_6 : decode cJ0_coder_7d493 6 = .ok (.aload_n 0, 1) := by decide +kernel
theorem dJ0_coder_7d493_7 : decode cJ0_coder_7d493 7 = .ok (.getfield 15, 3) := by decide +kernel
theorem dJ0_coder_7d493_10 : decode cJ0_coder_7d493 10 = .ok (.goto 4, 3) := by decide +kernel
theorem dJ0_coder_7d493_13 : decode cJ0_coder_7d493 13 = .ok (.iconst 1, 1) := by decide +kernel
theorem dJ0_coder_7d493_14 : decode cJ0_coder_7d493 14 = .ok (.ireturn, 1) := by decide +kernel
theorem dJ0_isLatin1_aae02_0 : decode cJ0_isLatin1_aae02 0 = .ok (.getstatic 38, 3) := by decide +kernel
theorem dJ0_isLatin1_aae02_3 : decode cJ0_isLatin1_aae02 3 = .ok (.ifCond .eq 14, 3) := by decide +kernel
theorem dJ0_isLatin1_aae02_6 : decode cJ0_isLatin1_aae02 6 = .ok (.aload_n 0, 1) := by decide +kernel
theorem dJ0_isLatin1_aae02_7 : decode cJ0_isLatin1_aae02 7 = .ok (.getfield 15, 3) := by decide +kernel
theorem dJ0_isLatin1_aae02_10 : decode cJ0_isLatin1_aae02 10 = .ok (.ifCond .ne 7, 3) := by decide +kernel
theorem dJ0_isLatin1_aae02_13 : decode cJ0_isLatin1_aae02 13 = .ok (.iconst 1, 1) := by decide +kernel
theorem dJ0_isLatin1_aae02_14 : decode cJ0_isLatin1_aae02 14 = .ok (.goto 4, 3) := by decide +kernel
theorem dJ0_isLatin1_aae02_17 : decode cJ0_isLatin1_aae02 17 = .ok (.iconst 0, 1) := by decide +kernel
theorem dJ0_isLatin1_aae02_18 : decode cJ0_isLatin1_aae02 18 = .ok (.ireturn, 1) := by decide +kernel
theorem dJ0_checkIndex_df160_0 : decode cJ0_checkIndex_df160 0 = .ok (.iload_n 0, 1) := by decide +kernel
theorem dJ0_checkIndex_df160_1 : decode cJ0_checkIndex_df160 1 = .ok (.iload_n 1, 1) := by decide +kernel
theorem dJ0_checkIndex_df160_2 : decode cJ0_checkIndex_df160 2 = .ok (.getstatic 1053, 3) := by decide +kernel
theorem dJ0_checkIndex_df160_5 : decode cJ0_checkIndex_df160 5 = .ok (.invokestatic 1059, 3) := by decide +kernel
theorem dJ0_checkIndex_df160_8 : decode cJ0_checkIndex_df160 8 = .ok (.pop, 1) := by decide +kernel
theorem dJ0_checkIndex_df160_9 : decode cJ0_checkIndex_df160 9 = .ok (.return_, 1) := by decide +kernel
theorem dJ1_charAt_3b067_0 : decode cJ1_charAt_3b067 0 = .ok (.iload_n 1, 1) := by decide +kernel
theorem dJ1_charAt_3b067_1 : decode cJ1_charAt_3b067 1 = .ok (.aload_n 0, 1) := by decide +kernel
theorem dJ1_charAt_3b067_2 : decode cJ1_charAt_3b067 2 = .ok (.arraylength, 1) := by decide +kernel
theorem dJ1_charAt_3b067_3 : decode cJ1_charAt_3b067 3 = .ok (.invokestatic 9, 3) := by decide +kernel
theorem dJ1_charAt_3b067_6 : decode cJ1_charAt_3b067 6 = .ok (.aload_n 0, 1) := by decide +kernel
theorem dJ1_charAt_3b067_7 : decode cJ1_charAt_3b067 7 = .ok (.iload_n 1, 1) := by decide +kernel
theorem dJ1_charAt_3b067_8 : decode cJ1_charAt_3b067 8 = .ok (.baload, 1) := by decide +kernel
theorem dJ1_charAt_3b067_9 : decode cJ1_charAt_3b067 9 = .ok (.sipush 255, 3) := by decide +kernel
theorem dJ1_charAt_3b067_12 : decode cJ1_charAt_3b067 12 = .ok (.iand, 1) := by decide +kernel
theorem dJ1_charAt_3b067_13 : decode cJ1_charAt_3b067 13 = .ok (.i2c, 1) := by decide +kernel
theorem dJ1_charAt_3b067_14 : decode cJ1_charAt_3b067 14 = .ok (.ireturn, 1) := by decide +kernel
theorem dJ3_checkIndex_8e157_0 : decode cJ3_checkIndex_8e157 0 = .ok (.iload_n 0, 1) := by decide +kernel
theorem dJ3_checkIndex_8e157_1 : decode cJ3_checkIndex_8e157 1 = .ok (.ifCond .lt 8, 3) := by decide +kernel
theorem dJ3_checkIndex_8e157_4 : decode cJ3_checkIndex_8e157 4 = .ok (.iload_n 0, 1) := by decide +kernel
theorem dJ3_checkIndex_8e157_5 : decode cJ3_checkIndex_8e157 5 = .ok (.iload_n 1, 1) := by decide +kernel
theorem dJ3_checkIndex_8e157_6 : decode cJ3_checkIndex_8e157 6 = .ok (.if_icmp .lt 10, 3) := by decide +kernel
theorem dJ3_checkIndex_8e157_9 : decode cJ3_checkIndex_8e157 9 = .ok (.aload_n 2, 1) := by decide +kernel
theorem dJ3_checkIndex_8e157_10 : decode cJ3_checkIndex_8e157 10 = .ok (.iload_n 0, 1) := by decide +kernel
theorem dJ3_checkIndex_8e157_11 : decode cJ3_checkIndex_8e157 11 = .ok (.iload_n 1, 1) := by decide +kernel
theorem dJ3_checkIndex_8e157_12 : decode cJ3_checkIndex_8e157 12 = .ok (.invokestatic 95, 3) := by decide +kernel
theorem dJ3_checkIndex_8e157_15 : decode cJ3_checkIndex_8e157 15 = .ok (.athrow, 1) := by decide +kernel
theorem dJ3_checkIndex_8e157_16 : decode cJ3_checkIndex_8e157 16 = .ok (.iload_n 0, 1) := by decide +kernel
theorem dJ3_checkIndex_8e157_17 : decode cJ3_checkIndex_8e157 17 = .ok (.ireturn, 1) := by decide +kernel
theorem lm_js0 : lm_wd 701 (.fieldLink "java/lang/String" 38 "java/lang/String" "COMPACT_STRINGS" "Z") = true := by decide +kernel
theorem lm_js1 : lm_wd 1854 (.fieldLink "java/lang/String" 15 "java/lang/String" "coder" "B") = true := by decide +kernel
theorem lm_js2 : lm_wd 1853 (.fieldLink "java/lang/String" 9 "java/lang/String" "value" "[B") = true := by decide +kernel
theorem lm_js3 : lm_wd 717 (.fieldLink "java/lang/String" 1053 "jdk/internal/util/Preconditions" "SIOOBE_FORMATTER" "Ljava/util/function/BiFunction;") = true := by decide +kernel
theorem lm_ji0 : lm_wd 93 (.initialized "java/lang/String") = true := by decide +kernel
theorem lm_ji1 : lm_wd 94 (.initialized "java/lang/StringLatin1") = true := by decide +kernel
theorem lm_ji3 : lm_wd 95 (.initialized "jdk/internal/util/Preconditions") = true := by decide +kernel
theorem lm_jl_coder : lm_wd 697 (.methodLink "java/lang/String" 335 yJ0_coder_7d493) = true := by decide +kernel
theorem lm_jn_coder : lm_wd 698 (.instanceMethod yJ0_coder_7d493) = true := by decide +kernel
theorem lm_jt_coder : lm_wd 699 (.selects "java/lang/String" yJ0_coder_7d493 yJ0_coder_7d493) = true := by decide +kernel
theorem lm_jc_coder : lm_wd 700 (.code yJ0_coder_7d493 cJ0_coder_7d493 1 (some .byte)) = true := by decide +kernel
theorem lm_jn_len : lm_wd 694 (.instanceMethod yJ0_length_8abf5) = true := by decide +kernel
theorem lm_jt_len : lm_wd 695 (.selects "java/lang/String" yJ0_length_8abf5 yJ0_length_8abf5) = true := by decide +kernel
theorem lm_jc_len : lm_wd 696 (.code yJ0_length_8abf5 cJ0_length_8abf5 1 (some .int)) = true := by decide +kernel
theorem lm_jn_ch : lm_wd 704 (.instanceMethod yJ0_charAt_5068e) = true := by decide +kernel
theorem lm_jt_ch : lm_wd 705 (.selects "java/lang/String" yJ0_charAt_5068e yJ0_charAt_5068e) = true := by decide +kernel
theorem lm_jc_ch : lm_wd 706 (.code yJ0_charAt_5068e cJ0_charAt_5068e 2 (some .char)) = true := by decide +kernel
theorem lm_jl_la : lm_wd 707 (.methodLink "java/lang/String" 492 yJ0_isLatin1_aae02) = true := by decide +kernel
theorem lm_jn_la : lm_wd 708 (.instanceMethod yJ0_isLatin1_aae02) = true := by decide +kernel
theorem lm_jt_la : lm_wd 709 (.selects "java/lang/String" yJ0_isLatin1_aae02 yJ0_isLatin1_aae02) = true := by decide +kernel
theorem lm_jc_la : lm_wd 710 (.code yJ0_isLatin1_aae02 cJ0_isLatin1_aae02 1 (some .boolean)) = true := by decide +kernel
theorem lm_jl_lc : lm_wd 711 (.methodLink "java/lang/String" 495 yJ1_charAt_3b067) = true := by decide +kernel
theorem lm_jn_lc : lm_wd 712 (.static yJ1_charAt_3b067) = true := by decide +kernel
theorem lm_jc_lc : lm_wd 713 (.code yJ1_charAt_3b067 cJ1_charAt_3b067 2 (some .char)) = true := by decide +kernel
theorem lm_jl_ci : lm_wd 714 (.methodLink "java/lang/StringLatin1" 9 yJ0_checkIndex_df160) = true := by decide +kernel
theorem lm_jn_ci : lm_wd 715 (.static yJ0_checkIndex_df160) = true := by decide +kernel
theorem lm_jc_ci : lm_wd 716 (.code yJ0_checkIndex_df160 cJ0_checkIndex_df160 2 none) = true := by decide +kernel
theorem lm_jl_pc : lm_wd 719 (.methodLink "java/lang/String" 1059 yJ3_checkIndex_8e157) = true := by decide +kernel
theorem lm_jn_pc : lm_wd 720 (.static yJ3_checkIndex_8e157) = true := by decide +kernel
theorem lm_jc_pc : lm_wd 721 (.code yJ3_checkIndex_8e157 cJ3_checkIndex_8e157 3 (some .int)) = true := by decide +kernel
theorem lm_chars : ∀ t ∈ lm_str, ∀ v ∈ t, ((v &&& 255).toUInt32 % 65536).toInt32 = v ∧ narrow .char (.int v) = .int v := by decide +kernel
theorem lm_lens : ∀ t ∈ lm_str, t.length < 100 := by decide +kernel
def lm_rJ (k : Nat) : Room := { frames := k, cells := 0, slots := 0, locals := 60 * k }
def lm_PJ (s0 : State) (U : State) : Prop := s0.WarmedH U.vm ∧ s0.heap.size ≤ U.heap.size ∧ ∀ q, q < s0.heap.size → U.heap[q]? = s0.heap[q]?
def lm_QJ : Array Value → State → Outcome → State → Prop := fun _ st o t => o = .returned none ∧ t.heap = st.heap
theorem lm_getD_mem {l : List Int32} {k : Nat} (h : k < l.length) : l.getD k 0 ∈ l := by simp [List.getD, h]
section LMX
variable {l : Launch} {s0 : State} {args0 : Array Value} {ad adV : Nat → Nat} {D : va_G} {tc : Nat → ClassId} {X : lm_X} {i d z : Nat} {p : Program} {e : Env} {R : Room} {s : State} {m : MethodId} {args : Array Value} {below : List Frame} {meth : Method} {cd : Code} {H : Heap} {locs : List Loc} {c k pc : Nat} {Z : State → Prop} {L : lm_L} {S : List Value} {σ : lm_S} {ls : Array Slot}
theorem lm_jB (hV : lm_V l s0 args0 ad adV D tc X) (hW : s0.WarmedH s.vm) {own : String} {idx wl wi wc n kf ml : Nat} {y : MethodName} {bytes : ByteArray} {rt : Option FieldType} (hl : lm_wd wl (.methodLink own idx y) = true) (hc : lm_wd wc (.code y bytes ml rt) = true) (hi : lm_wd wi (.initialized y.cls) = true)
    (hd : y.cls ≠ "java/lang/invoke/MethodHandle" ∧ y.cls ≠ "java/lang/invoke/VarHandle" ∧ (parseMethodDescriptor y.desc).map (fun d => d.parameters.length) = some n) (hm : ml ≤ 30) (hR : kf + 1 ≤ R.frames ∧ 60 * kf + 60 ≤ R.locals) : CallB R s args own idx y bytes ml rt [.code y bytes ml rt] (lm_rJ kf) 0 0 n := by
  refine ⟨rfl, rfl, hR.1, by show 8 + (ml + 11) + 60 * kf ≤ R.locals; omega, fun w hw a' U hWU => ?_, List.mem_cons_self, lm_word hV hW hc args, lm_word hV hW hi args, ⟨hd.1, hd.2.1⟩, fun sig h => ?_, lm_word hV hW hl args⟩
  · obtain rfl := List.mem_singleton.mp hw
    exact lm_word hV (State.WarmedH.trans hW hWU) hc a'
  · have h2 := hd.2.2
    rw [h] at h2
    exact (Option.some.inj h2).symm
theorem lm_jblind {as : List Value} : FrameBlind (va_Pc as (lm_PJ s0)) := fun _ _ _ _ h => h
theorem lm_jpre {as : List Value} (hw : s0.WarmedH s.vm) (h1 : s0.heap.size ≤ H.size) (h2 : ∀ q, q < s0.heap.size → H[q]? = s0.heap[q]?) : ∀ U : State, U.heap = H → s.WarmedH U.vm → va_Pc as (lm_PJ s0) as.toArray U := fun U hU hWU => ⟨rfl, State.WarmedH.trans hw hWU, by rw [hU]; exact h1, by rw [hU]; exact h2⟩
set_option maxHeartbeats 4000000 in
theorem lm_j_coder (hV : lm_V l s0 args0 ad adV D tc X) {j : Nat} (hj : j < lm_str.length) : Met l yJ0_coder_7d493 [.code yJ0_coder_7d493 cJ0_coder_7d493 1 (some .byte)] (lm_rJ 0) (va_Pc [.ref (ad (lm_sp + j))] (lm_PJ s0)) (QcRead 0) 0 0 (fun _ => False) := by
  refine Met.ofW (cc := cJ0_coder_7d493) (maxL := 1) (ret := some .byte) (by decide) rfl ?_
  intro p e s m args below meth c s₁ B hml hv
  obtain ⟨rfl, hw, h1, h2⟩ := hv
  have hx := B.exec
  have hb := B.bytes
  have hr := B.returns
  have hown : s.vm.findClass "java/lang/String" = some m.cls := findClass_of_methodNamed B.named
  have hlk := B.notSynchronized
  have hS : va_S (lm_A s0) s.heap s.heap [] := va_S.rf
  have hZ := va_Z.kept (va_Z.moved hw.alike hV.2.2.2.1.2.1) (fun a ha _ => h2 a ha)
  have hF := va_OF.kept (va_OF.moved hw.alike (hV.2.2.2.1.1 j hj).2.1) (fun a ha _ => h2 a ha)
  rw [lg_entry_eq]
  have hl := lv_entry ([.ref (ad (lm_sp + j))]) (n := 1) (Nat.le_of_ble_eq_true rfl)
  generalize (lg_sl ([.ref (ad (lm_sp + j))]) ++ List.replicate (1 - (lg_sl ([.ref (ad (lm_sp + j))])).length) Slot.unset).toArray = ls at hl ⊢
  have hl : lv_has ls 1 [(0, .ref (ad (lm_sp + j)))] := hl
  refine va_gets hx hb hZ hS hown (lm_word hV hw lm_js0 _) (fun _ h => h) dJ0_coder_7d493_0 ?_
  refine lv_if_eq (tgt := 13) hx hb dJ0_coder_7d493_3 (by decide) (fun q => absurd q (by decide)) (fun _ => ?_)
  refine lv_aload_n hx hb dJ0_coder_7d493_6 rfl (lv_at hl 0 rfl) ?_
  refine vk_getf hx hb hF hS hown (lm_word hV hw lm_js1 _) (fun _ h => h) dJ0_coder_7d493_7 ?_
  refine lv_goto (tgt := 14) hx hb dJ0_coder_7d493_10 (by decide) ?_
  exact W.zret (ty := .byte) hx hb hr rfl (fun t ht _ => ⟨rfl, ht⟩) (fun q hq => by cases hq) dJ0_coder_7d493_14 hlk
set_option maxHeartbeats 4000000 in
theorem lm_j_latin (hV : lm_V l s0 args0 ad adV D tc X) {j : Nat} (hj : j < lm_str.length) : Met l yJ0_isLatin1_aae02 [.code yJ0_isLatin1_aae02 cJ0_isLatin1_aae02 1 (some .boolean)] (lm_rJ 0) (va_Pc [.ref (ad (lm_sp + j))] (lm_PJ s0)) (QcRead 1) 0 0 (fun _ => False) := by
  refine Met.ofW (cc := cJ0_isLatin1_aae02) (maxL := 1) (ret := some .boolean) (by decide) rfl ?_
  intro p e s m args below meth c s₁ B hml hv
  obtain ⟨rfl, hw, h1, h2⟩ := hv
  have hx := B.exec
  have hb := B.bytes
  have hr := B.returns
  have hown : s.vm.findClass "java/lang/String" = some m.cls := findClass_of_methodNamed B.named
  have hlk := B.notSynchronized
  have hS : va_S (lm_A s0) s.heap s.heap [] := va_S.rf
  have hZ := va_Z.kept (va_Z.moved hw.alike hV.2.2.2.1.2.1) (fun a ha _ => h2 a ha)
  have hF := va_OF.kept (va_OF.moved hw.alike (hV.2.2.2.1.1 j hj).2.1) (fun a ha _ => h2 a ha)
  rw [lg_entry_eq]
  have hl := lv_entry ([.ref (ad (lm_sp + j))]) (n := 1) (Nat.le_of_ble_eq_true rfl)
  generalize (lg_sl ([.ref (ad (lm_sp + j))]) ++ List.replicate (1 - (lg_sl ([.ref (ad (lm_sp + j))])).length) Slot.unset).toArray = ls at hl ⊢
  have hl : lv_has ls 1 [(0, .ref (ad (lm_sp + j)))] := hl
  refine va_gets hx hb hZ hS hown (lm_word hV hw lm_js0 _) (fun _ h => h) dJ0_isLatin1_aae02_0 ?_
  refine lv_if_eq (tgt := 17) hx hb dJ0_isLatin1_aae02_3 (by decide) (fun q => absurd q (by decide)) (fun _ => ?_)
  refine lv_aload_n hx hb dJ0_isLatin1_aae02_6 rfl (lv_at hl 0 rfl) ?_
  refine vk_getf hx hb hF hS hown (lm_word hV hw lm_js1 _) (fun _ h => h) dJ0_isLatin1_aae02_7 ?_
  refine lv_if_ne (tgt := 17) hx hb dJ0_isLatin1_aae02_10 (by decide) (fun q => absurd rfl q) (fun _ => ?_)
  refine lv_iconst (v := 1) hx hb dJ0_isLatin1_aae02_13 (by decide) ?_
  refine lv_goto (tgt := 18) hx hb dJ0_isLatin1_aae02_14 (by decide) ?_
  exact W.zret (ty := .boolean) hx hb hr rfl (fun t ht _ => ⟨rfl, ht⟩) (fun q hq => by cases hq) dJ0_isLatin1_aae02_18 hlk
set_option maxHeartbeats 4000000 in
theorem lm_j_pci {x n : Int32} (h0 : ¬ x < 0) (hn : x < n) {v : Value} (hv : v.category = 1) : Met l yJ3_checkIndex_8e157 [.code yJ3_checkIndex_8e157 cJ3_checkIndex_8e157 3 (some .int)] (lm_rJ 0) (va_Pc [.int x, .int n, v] (lm_PJ s0)) (QcRead x) 0 0 (fun _ => False) := by
  refine Met.ofW (cc := cJ3_checkIndex_8e157) (maxL := 3) (ret := some .int) (by decide) rfl ?_
  intro p e s m args below meth c s₁ B hml hv9
  obtain ⟨rfl, hw, h1, h2⟩ := hv9
  have hx := B.exec
  have hb := B.bytes
  have hr := B.returns
  have hlk := B.notSynchronized
  rw [lg_entry_eq]
  have hl := lv_entry ([.int x, .int n, v]) (n := 3) (by cases v <;> first | exact Nat.le_of_ble_eq_true rfl | (simp [Value.category] at hv))
  generalize (lg_sl ([.int x, .int n, v]) ++ List.replicate (3 - (lg_sl ([.int x, .int n, v])).length) Slot.unset).toArray = ls at hl ⊢
  have hl2 : lv_has ls 3 [(0, .int x), (1, .int n), (2, v)] := hl
  refine lv_iload_n hx hb dJ3_checkIndex_8e157_0 rfl (lv_at hl2 0 rfl) ?_
  refine lv_if_lt (tgt := 9) hx hb dJ3_checkIndex_8e157_1 (by decide) (fun q => absurd q h0) (fun _ => ?_)
  refine lv_iload_n hx hb dJ3_checkIndex_8e157_4 rfl (lv_at hl2 0 rfl) ?_
  refine lv_iload_n hx hb dJ3_checkIndex_8e157_5 rfl (lv_at hl2 1 rfl) ?_
  refine lv_icmp_lt (tgt := 16) hx hb dJ3_checkIndex_8e157_6 (by decide) (fun _ => ?_) (fun q => absurd hn q)
  refine lv_iload_n hx hb dJ3_checkIndex_8e157_16 rfl (lv_at hl2 0 rfl) ?_
  exact W.iret hx hb hr (fun t ht _ => ⟨rfl, ht⟩) (fun q hq => by cases hq) dJ3_checkIndex_8e157_17 hlk
set_option maxHeartbeats 4000000 in
theorem lm_j_ci (hV : lm_V l s0 args0 ad adV D tc X) {x n : Int32} (h0 : ¬ x < 0) (hn : x < n) : Met l yJ0_checkIndex_df160 [.code yJ0_checkIndex_df160 cJ0_checkIndex_df160 2 none] (lm_rJ 1) (va_Pc [.int x, .int n] (lm_PJ s0)) lm_QJ 0 0 (fun _ => False) := by
  refine Met.ofW (cc := cJ0_checkIndex_df160) (maxL := 2) (ret := none) (by decide) rfl ?_
  intro p e s m args below meth c s₁ B hml hv9
  obtain ⟨rfl, hw, h1, h2⟩ := hv9
  have hx := B.exec
  have hb := B.bytes
  have hr := B.returns
  have hown : s.vm.findClass "java/lang/String" = some m.cls := findClass_of_methodNamed B.named
  have hlk := B.notSynchronized
  have hS : va_S (lm_A s0) s.heap s.heap [] := va_S.rf
  have hZq := va_Zq.kept (va_Zq.moved hw.alike hV.2.2.2.1.2.2) (fun a ha _ => h2 a ha)
  rw [lg_entry_eq]
  have hl := lv_entry ([.int x, .int n]) (n := 2) (Nat.le_of_ble_eq_true rfl)
  generalize (lg_sl ([.int x, .int n]) ++ List.replicate (2 - (lg_sl ([.int x, .int n])).length) Slot.unset).toArray = ls at hl ⊢
  have hl : lv_has ls 2 [(0, .int x), (1, .int n)] := hl
  refine lv_iload_n hx hb dJ0_checkIndex_df160_0 rfl (lv_at hl 0 rfl) ?_
  refine lv_iload_n hx hb dJ0_checkIndex_df160_1 rfl (lv_at hl 1 rfl) ?_
  have key : ∀ v : Value, v.category = 1 → va_Z "jdk/internal/util/Preconditions" "SIOOBE_FORMATTER" "Ljava/util/function/BiFunction;" v (lm_A s0) s s.heap → W p l e (lm_rJ 1) s m ([.int x, .int n] : List Value).toArray below meth c s.heap [] 0 0 (MQ below lm_QJ ([.int x, .int n] : List Value).toArray s 0 0 (fun _ => False)) (F0 m 2 ls [.int n, .int x]) := by
    intro v hv hZ
    refine va_gets hx hb hZ hS hown (lm_word hV hw lm_js3 _) (fun _ h => h) dJ0_checkIndex_df160_2 ?_
    refine W.callR (W.runS (As := [.int x, .int n, v]) (rest := []) (Ts := []) ⟨hx, hb, hml, hown, fun _ h => by cases h⟩ (lm_j_pci (s0 := s0) h0 hn hv) ⟨lm_jB (n := 3) hV hw lm_jl_pc lm_jc_pc lm_ji3 (by decide +kernel) (by decide) ⟨by decide, by decide⟩, lm_word hV hw lm_jn_pc _⟩ ⟨lm_jblind, lm_jpre hw h1 h2⟩ rfl rfl hl.1 rfl (lv_room (by decide)) dJ0_checkIndex_df160_5 ⟨by decide, by decide⟩) ?_
    refine lv_pop hx hb dJ0_checkIndex_df160_8 rfl ?_
    exact W.vret hx hb hr (fun t ht _ => ⟨rfl, ht⟩) (fun q hq => by cases hq) dJ0_checkIndex_df160_9 hlk
  rcases hZq with h | ⟨t, h⟩
  · exact key _ rfl h
  · exact key _ rfl h
set_option maxHeartbeats 4000000 in
theorem lm_j_lc (hV : lm_V l s0 args0 ad adV D tc X) {j : Nat} (hj : j < lm_str.length) {x : Int32} (hin : vp_in x (lm_str.getD j []).length) : Met l yJ1_charAt_3b067 [.code yJ1_charAt_3b067 cJ1_charAt_3b067 2 (some .char)] (lm_rJ 2) (va_Pc [.ref (adV j), .int x] (lm_PJ s0)) (QcRead ((lm_str.getD j []).getD x.toNatClampNeg 0)) 0 0 (fun _ => False) := by
  refine Met.ofW (cc := cJ1_charAt_3b067) (maxL := 2) (ret := some .char) (by decide) rfl ?_
  intro p e s m args below meth c s₁ B hml hv9
  obtain ⟨rfl, hw, h1, h2⟩ := hv9
  have hx := B.exec
  have hb := B.bytes
  have hr := B.returns
  have hown : s.vm.findClass "java/lang/StringLatin1" = some m.cls := findClass_of_methodNamed B.named
  have hlk := B.notSynchronized
  have hS : va_S (lm_A s0) s.heap s.heap [] := va_S.rf
  have hT := va_T.kept (va_T.moved hw.alike (hV.2.2.2.1.1 j hj).2.2.2) (fun a ha _ => h2 a ha)
  have hmem : lm_str.getD j [] ∈ lm_str := by simp [List.getD, hj]
  have hlen := lm_lens _ hmem
  obtain ⟨jx, hjx, hxe⟩ := vp_in_of hin (by omega)
  have h0 : ¬ x < 0 := fun q => hin (Or.inl q)
  have hlt : x < Int32.ofNat (lm_str.getD j []).length := by rw [hxe]; exact nI_lt hjx (by omega)
  have hcl : x.toNatClampNeg < (lm_str.getD j []).length := Nat.not_le.mp (fun q => hin (Or.inr q))
  have hch := lm_chars _ hmem ((lm_str.getD j []).getD x.toNatClampNeg 0) (lm_getD_mem hcl)
  rw [lg_entry_eq]
  have hl := lv_entry ([.ref (adV j), .int x]) (n := 2) (Nat.le_of_ble_eq_true rfl)
  generalize (lg_sl ([.ref (adV j), .int x]) ++ List.replicate (2 - (lg_sl ([.ref (adV j), .int x])).length) Slot.unset).toArray = ls at hl ⊢
  have hl : lv_has ls 2 [(0, .ref (adV j)), (1, .int x)] := hl
  refine lv_iload_n hx hb dJ1_charAt_3b067_0 rfl (lv_at hl 1 rfl) ?_
  refine lv_aload_n hx hb dJ1_charAt_3b067_1 rfl (lv_at hl 0 rfl) ?_
  refine va_tlen hx hb hT hS rfl dJ1_charAt_3b067_2 ?_
  refine W.callX (W.runS (As := [.int x, .int (Int32.ofNat (lm_str.getD j []).length)]) (rest := []) (Ts := []) ⟨hx, hb, hml, hown, fun _ h => by cases h⟩ (lm_j_ci hV h0 hlt) ⟨lm_jB (n := 2) hV hw lm_jl_ci lm_jc_ci lm_ji0 (by decide +kernel) (by decide) ⟨by decide, by decide⟩, lm_word hV hw lm_jn_ci _⟩ ⟨lm_jblind, lm_jpre hw h1 h2⟩ rfl rfl hl.1 rfl (lv_room (by decide)) dJ1_charAt_3b067_3 ⟨by decide, by decide⟩) (fun q hq => hq.elim) (fun v st₀ t hst hq => ?_)
  obtain ⟨hq1, hq2⟩ := hq
  cases hq1
  rw [hq2, hst]
  refine lv_aload_n hx hb dJ1_charAt_3b067_6 rfl (lv_at hl 0 rfl) ?_
  refine lv_iload_n hx hb dJ1_charAt_3b067_7 rfl (lv_at hl 1 rfl) ?_
  refine va_tb hx hb hT hS hin rfl dJ1_charAt_3b067_8 ?_
  refine lv_sipush (v := 255) hx hb dJ1_charAt_3b067_9 (by decide) ?_
  refine lv_iand hx hb dJ1_charAt_3b067_12 ?_
  refine lv_i2c hx hb dJ1_charAt_3b067_13 hch.1 ?_
  exact W.zret (ty := .char) hx hb hr hch.2 (fun t ht _ => ⟨rfl, ht⟩) (fun q hq => by cases hq) dJ1_charAt_3b067_14 hlk
set_option maxHeartbeats 4000000 in
theorem lm_j_len (hV : lm_V l s0 args0 ad adV D tc X) {j : Nat} (hj : j < lm_str.length) : Met l yJ0_length_8abf5 [.code yJ0_length_8abf5 cJ0_length_8abf5 1 (some .int)] (lm_rJ 1) (va_Pc [.ref (ad (lm_sp + j))] (lm_PJ s0)) (QcRead (Int32.ofNat (lm_str.getD j []).length)) 0 0 (fun _ => False) := by
  refine Met.ofW (cc := cJ0_length_8abf5) (maxL := 1) (ret := some .int) (by decide) rfl ?_
  intro p e s m args below meth c s₁ B hml hv
  obtain ⟨rfl, hw, h1, h2⟩ := hv
  have hx := B.exec
  have hb := B.bytes
  have hr := B.returns
  have hown : s.vm.findClass "java/lang/String" = some m.cls := findClass_of_methodNamed B.named
  have hlk := B.notSynchronized
  have hS : va_S (lm_A s0) s.heap s.heap [] := va_S.rf
  have hO := va_O.kept (va_O.moved hw.alike (hV.2.2.2.1.1 j hj).1) (fun a ha _ => h2 a ha)
  have hF := va_OF.kept (va_OF.moved hw.alike (hV.2.2.2.1.1 j hj).2.2.1) (fun a ha _ => h2 a ha)
  have hT := va_T.kept (va_T.moved hw.alike (hV.2.2.2.1.1 j hj).2.2.2) (fun a ha _ => h2 a ha)
  rw [lg_entry_eq]
  have hl := lv_entry ([.ref (ad (lm_sp + j))]) (n := 1) (Nat.le_of_ble_eq_true rfl)
  generalize (lg_sl ([.ref (ad (lm_sp + j))]) ++ List.replicate (1 - (lg_sl ([.ref (ad (lm_sp + j))])).length) Slot.unset).toArray = ls at hl ⊢
  have hl : lv_has ls 1 [(0, .ref (ad (lm_sp + j)))] := hl
  refine lv_aload_n hx hb dJ0_length_8abf5_0 rfl (lv_at hl 0 rfl) ?_
  refine vk_getf hx hb hF hS hown (lm_word hV hw lm_js2 _) (fun _ h => h) dJ0_length_8abf5_1 ?_
  refine va_tlen hx hb hT hS rfl dJ0_length_8abf5_4 ?_
  refine lv_aload_n hx hb dJ0_length_8abf5_5 rfl (lv_at hl 0 rfl) ?_
  obtain ⟨cell, g1, g2, g3, g4⟩ := hO
  refine W.callR (W.runV (C := "java/lang/String") (As := []) (rest := [.int (Int32.ofNat (lm_str.getD j []).length)]) (Ts := []) ⟨hx, hb, hml, hown, fun _ h => by cases h⟩ (lm_j_coder hV hj) ⟨lm_jB (n := 0) hV hw lm_jl_coder lm_jc_coder lm_ji0 (by decide +kernel) (by decide) ⟨by decide, by decide⟩, lm_word hV hw lm_jn_coder _, lm_word hV hw lm_jt_coder _⟩ ⟨lm_jblind, ⟨cell, g1, g2, g3⟩, lm_jpre hw h1 h2⟩ rfl rfl hl.1 rfl (lv_room (Nat.le_of_ble_eq_true rfl)) dJ0_length_8abf5_6 ⟨by decide, by decide⟩) ?_
  refine lv_ishr hx hb dJ0_length_8abf5_9 ?_
  rw [show (0 : Int32) &&& 31 = 0 from rfl, show Int32.ofNat (lm_str.getD j []).length >>> (0 : Int32) = Int32.ofNat (lm_str.getD j []).length from sb_shr0 _]
  exact W.iret hx hb hr (fun t ht _ => ⟨rfl, ht⟩) (fun q hq => by cases hq) dJ0_length_8abf5_10 hlk
set_option maxHeartbeats 4000000 in
theorem lm_j_ch (hV : lm_V l s0 args0 ad adV D tc X) {j : Nat} (hj : j < lm_str.length) {x : Int32} (hin : vp_in x (lm_str.getD j []).length) : Met l yJ0_charAt_5068e [.code yJ0_charAt_5068e cJ0_charAt_5068e 2 (some .char)] (lm_rJ 3) (va_Pc [.ref (ad (lm_sp + j)), .int x] (lm_PJ s0)) (QcRead ((lm_str.getD j []).getD x.toNatClampNeg 0)) 0 0 (fun _ => False) := by
  refine Met.ofW (cc := cJ0_charAt_5068e) (maxL := 2) (ret := some .char) (by decide) rfl ?_
  intro p e s m args below meth c s₁ B hml hv
  obtain ⟨rfl, hw, h1, h2⟩ := hv
  have hx := B.exec
  have hb := B.bytes
  have hr := B.returns
  have hown : s.vm.findClass "java/lang/String" = some m.cls := findClass_of_methodNamed B.named
  have hlk := B.notSynchronized
  have hS : va_S (lm_A s0) s.heap s.heap [] := va_S.rf
  have hO := va_O.kept (va_O.moved hw.alike (hV.2.2.2.1.1 j hj).1) (fun a ha _ => h2 a ha)
  have hF := va_OF.kept (va_OF.moved hw.alike (hV.2.2.2.1.1 j hj).2.2.1) (fun a ha _ => h2 a ha)
  have hmem : lm_str.getD j [] ∈ lm_str := by simp [List.getD, hj]
  have hcl : x.toNatClampNeg < (lm_str.getD j []).length := Nat.not_le.mp (fun q => hin (Or.inr q))
  have hch := lm_chars _ hmem ((lm_str.getD j []).getD x.toNatClampNeg 0) (lm_getD_mem hcl)
  rw [lg_entry_eq]
  have hl := lv_entry ([.ref (ad (lm_sp + j)), .int x]) (n := 2) (Nat.le_of_ble_eq_true rfl)
  generalize (lg_sl ([.ref (ad (lm_sp + j)), .int x]) ++ List.replicate (2 - (lg_sl ([.ref (ad (lm_sp + j)), .int x])).length) Slot.unset).toArray = ls at hl ⊢
  have hl : lv_has ls 2 [(0, .ref (ad (lm_sp + j))), (1, .int x)] := hl
  refine lv_aload_n hx hb dJ0_charAt_5068e_0 rfl (lv_at hl 0 rfl) ?_
  obtain ⟨cell, g1, g2, g3, g4⟩ := hO
  refine W.callR (W.runV (C := "java/lang/String") (As := []) (rest := []) (Ts := []) ⟨hx, hb, hml, hown, fun _ h => by cases h⟩ (lm_j_latin hV hj) ⟨lm_jB (n := 0) hV hw lm_jl_la lm_jc_la lm_ji0 (by decide +kernel) (by decide) ⟨by decide, by decide⟩, lm_word hV hw lm_jn_la _, lm_word hV hw lm_jt_la _⟩ ⟨lm_jblind, ⟨cell, g1, g2, g3⟩, lm_jpre hw h1 h2⟩ rfl rfl hl.1 rfl (lv_room (by decide)) dJ0_charAt_5068e_1 ⟨by decide, by decide⟩) ?_
  refine W.eq (g2 := F0 m 4 ls [.int 1]) rfl ?_
  refine lv_if_eq (tgt := 16) hx hb dJ0_charAt_5068e_4 (by decide) (fun q => absurd q (by decide)) (fun _ => ?_)
  refine lv_aload_n hx hb dJ0_charAt_5068e_7 rfl (lv_at hl 0 rfl) ?_
  refine vk_getf hx hb hF hS hown (lm_word hV hw lm_js2 _) (fun _ h => h) dJ0_charAt_5068e_8 ?_
  refine lv_iload_n hx hb dJ0_charAt_5068e_11 rfl (lv_at hl 1 rfl) ?_
  refine W.callR (W.runS (As := [.ref (adV j), .int x]) (rest := []) (Ts := []) ⟨hx, hb, hml, hown, fun _ h => by cases h⟩ (lm_j_lc hV hj hin) ⟨lm_jB (n := 2) hV hw lm_jl_lc lm_jc_lc lm_ji1 (by decide +kernel) (by decide) ⟨by decide, by decide⟩, lm_word hV hw lm_jn_lc _⟩ ⟨lm_jblind, lm_jpre hw h1 h2⟩ rfl rfl hl.1 rfl (lv_room (by decide)) dJ0_charAt_5068e_12 ⟨by decide, by decide⟩) ?_
  exact W.zret (ty := .char) hx hb hr hch.2 (fun t ht _ => ⟨rfl, ht⟩) (fun q hq => by cases hq) dJ0_charAt_5068e_15 hlk
set_option maxHeartbeats 4000000 in
theorem lm_bi_v (hC : lm_C l s0 args0 ad adV D tc X i d z p R s m meth cd) {idx y w : Nat} (hd : decode (lm_cc i) pc = .ok (.invokevirtual idx, 3)) (hk : lm_bok (lm_y i).cls idx y w 0 = true) {g : Prop} {pc' : Nat} {L' : lm_L} {S' : List Value} {σ' : lm_S} (h : lm_bi y pc L S σ = some (g, pc', L', S', σ')) (hg : g) (hgd : (S.map fun v => v.category).sum ≤ 8) (hc : c ≤ lm_mc i) (hkm : k ≤ lm_ms i)
    (hP : va_P D vwCl (lm_re ad tc σ) H) (hn : σ.2.2.2 ≤ lm_N0) (hS : va_S (fun q => s0.heap.size ≤ q) s.heap H locs) (hL : lm_LS ad L ls (lm_ml i))
    (kk : lm_K s0 ad D tc i p l e R s m args below meth cd c k Z pc' L' S' σ') : W p l e R s m args below meth cd H locs c k Z (F0 m pc ls (S.map (lm_v ad))) := by
  obtain ⟨hV, hi, hx, hb, hret, hml, hown, hnm, hlk, hW, hz1, hz2, hz3, ht1, ht2, hf1, hf2, hc1, hc2⟩ := hC
  have hgd2 := lm_rest (ad := ad) hgd
  have hH1 : s0.heap.size ≤ H.size := Nat.le_trans hz1 hS.1
  have hH2 : ∀ q, q < s0.heap.size → H[q]? = s0.heap[q]? := fun q hq => by
    rw [hS.2.1 q (Nat.lt_of_lt_of_le hq hz1) (Nat.not_le.mpr hq)]
    exact hz2 q hq
  match y, h, hk with
  | 5, h, hk =>
    simp only [lm_bi] at h
    simp only [lm_bok, Bool.and_eq_true] at hk
    split at h
    · rename_i a r _hh
      split at h
      · rename_i hsp
        split at h
        · rename_i t ht
          cases h
          have hj := (List.getElem?_eq_some_iff.mp ht).1
          have hO := va_O.kept (va_O.moved hW.alike (hV.2.2.2.1.1 _ hj).1) (fun a ha _ => hH2 a ha)
          have hM := lm_j_len hV hj
          rw [Nat.add_sub_cancel' hsp] at hO hM
          obtain ⟨cell, g1, g2, g3, g4⟩ := hO
          have hte : lm_str.getD (a - lm_sp) [] = t := by rw [List.getD_eq_getElem?_getD, ht]; rfl
          rw [hte] at hM
          simp only [List.map_cons, List.sum_cons] at hgd2
          exact W.callR (W.runV (C := "java/lang/String") (As := []) (Ts := []) ⟨hx, hb, hml, hown, fun _ h => by cases h⟩ hM ⟨lm_jB (n := 0) hV hW hk.2 lm_jc_len lm_ji0 (by decide +kernel) (by decide) ⟨by omega, by omega⟩, lm_word hV hW lm_jn_len _, lm_word hV hW lm_jt_len _⟩ ⟨lm_jblind, ⟨cell, g1, g2, g3⟩, lm_jpre hW hH1 hH2⟩ rfl rfl hL.2.1 rfl (lv_room (by omega)) hd ⟨by omega, by omega⟩) (kk H locs ls hP hn hS hL)
        · cases h
      · cases h
    · cases h
  | 6, h, hk =>
    simp only [lm_bi] at h
    simp only [lm_bok, Bool.and_eq_true] at hk
    split at h
    · rename_i jx a r _hh
      split at h
      · rename_i hsp
        split at h
        · rename_i t ht
          cases h
          have hj := (List.getElem?_eq_some_iff.mp ht).1
          have hO := va_O.kept (va_O.moved hW.alike (hV.2.2.2.1.1 _ hj).1) (fun a ha _ => hH2 a ha)
          have hte : lm_str.getD (a - lm_sp) [] = t := by rw [List.getD_eq_getElem?_getD, ht]; rfl
          have hM := lm_j_ch hV hj (by rw [hte]; exact hg)
          rw [Nat.add_sub_cancel' hsp] at hO hM
          obtain ⟨cell, g1, g2, g3, g4⟩ := hO
          rw [hte] at hM
          simp only [List.map_cons, List.sum_cons] at hgd2
          exact W.callR (W.runV (C := "java/lang/String") (As := [.int _]) (Ts := []) ⟨hx, hb, hml, hown, fun _ h => by cases h⟩ hM ⟨lm_jB (n := 1) hV hW hk.2 lm_jc_ch lm_ji0 (by decide +kernel) (by decide) ⟨by omega, by omega⟩, lm_word hV hW lm_jn_ch _, lm_word hV hW lm_jt_ch _⟩ ⟨lm_jblind, ⟨cell, g1, g2, g3⟩, lm_jpre hW hH1 hH2⟩ rfl rfl hL.2.1 rfl (lv_room (by omega)) hd ⟨by omega, by omega⟩) (kk H locs ls hP hn hS hL)
        · cases h
      · cases h
    · cases h
  | 0, h, hk => cases h
  | 1, h, hk => simp [lm_bok] at hk
  | 2, h, hk => simp [lm_bok] at hk
  | 3, h, hk => simp [lm_bok] at hk
  | 4, h, hk => simp [lm_bok] at hk
  | 7, h, hk => simp [lm_bok] at hk
  | y + 8, h, hk => cases h
end LMX
