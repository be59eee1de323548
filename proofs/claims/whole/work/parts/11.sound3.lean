/-! ===== constants of the pool, stack, switches, texts' arrays ===== -/
section LMT
variable {l : Launch} {s0 : State} {args0 : Array Value} {ad adV : Nat → Nat} {D : va_G} {tc : Nat → ClassId} {X : lm_X} {i d z : Nat} {p : Program} {e : Env} {R : Room} {s : State} {m : MethodId} {args : Array Value} {below : List Frame} {meth : Method} {cd : Code} {H : Heap} {locs : List Loc} {c k pc : Nat} {Z : State → Prop} {L : lm_L} {S : List Value} {σ : lm_S} {ls : Array Slot}
set_option maxHeartbeats 4000000 in
theorem lm_st_ldc (hC : lm_C l s0 args0 ad adV D tc X i d z p R s m meth cd) {idx x y w : Nat} (hr : lm_row i pc = some (pc, .ldc idx, x, y, w)) {g : Prop} {pc' : Nat} {L' : lm_L} {S' : List Value} {σ' : lm_S} (h : lm_st X (pc, .ldc idx, x, y, w) L S σ = some (g, pc', L', S', σ')) (hg : g)
    (hP : va_P D vwCl (lm_re ad tc σ) H) (hn : σ.2.2.2 ≤ lm_N0) (hS : va_S (fun q => s0.heap.size ≤ q) s.heap H locs) (hL : lm_LS ad L ls (lm_ml i))
    (kk : lm_K s0 ad D tc i p l e R s m args below meth cd c k Z pc' L' S' σ') : W p l e R s m args below meth cd H locs c k Z (F0 m pc ls (S.map (lm_v ad))) := by
  obtain ⟨hV, hi, hx, hb, hret, hml, hown, hnm, hlk, hW, hz1, hz2, hz3, ht1, ht2, hf1, hf2, hc1, hc2⟩ := hC
  obtain ⟨hk, -⟩ := lm_rok_at hi hr
  simp only [lm_rok, Bool.and_eq_true] at hk
  obtain ⟨hd, hk⟩ := hk
  have hK : va_K D vwCl (lm_tys tc) s := va_K.moved hW.alike hV.2.2.1
  simp only [lm_st] at h
  split at h
  · rename_i hy
    rw [if_pos hy] at hk
    cases h
    exact lv_ldc hx hb hown (lm_word hV hW hk args) (of_decide_eq_true hd) (kk H locs ls hP hn hS hL)
  · rename_i hy
    rw [if_neg hy] at hk
    simp only [Bool.and_eq_true, decide_eq_true_eq] at hk
    split at h
    · cases h
      have hZ := hV.2.2.2.2.1 _ _ _ hk.2 (List.mem_of_getElem? hk.1.1)
      rw [Nat.add_sub_cancel' hk.1.2] at hZ
      exact va_ldcS hx hb hown (vk_R.warm hW hZ) (of_decide_eq_true hd) (kk H locs ls hP hn hS hL)
    · cases h
set_option maxHeartbeats 4000000 in
theorem lm_st_ldcw (hC : lm_C l s0 args0 ad adV D tc X i d z p R s m meth cd) {idx x y w : Nat} (hr : lm_row i pc = some (pc, .ldc_w idx, x, y, w)) {g : Prop} {pc' : Nat} {L' : lm_L} {S' : List Value} {σ' : lm_S} (h : lm_st X (pc, .ldc_w idx, x, y, w) L S σ = some (g, pc', L', S', σ')) (hg : g)
    (hP : va_P D vwCl (lm_re ad tc σ) H) (hn : σ.2.2.2 ≤ lm_N0) (hS : va_S (fun q => s0.heap.size ≤ q) s.heap H locs) (hL : lm_LS ad L ls (lm_ml i))
    (kk : lm_K s0 ad D tc i p l e R s m args below meth cd c k Z pc' L' S' σ') : W p l e R s m args below meth cd H locs c k Z (F0 m pc ls (S.map (lm_v ad))) := by
  obtain ⟨hV, hi, hx, hb, hret, hml, hown, hnm, hlk, hW, hz1, hz2, hz3, ht1, ht2, hf1, hf2, hc1, hc2⟩ := hC
  obtain ⟨hk, -⟩ := lm_rok_at hi hr
  simp only [lm_rok, Bool.and_eq_true] at hk
  obtain ⟨hd, hk⟩ := hk
  have hK : va_K D vwCl (lm_tys tc) s := va_K.moved hW.alike hV.2.2.1
  simp only [lm_st] at h
  split at h
  · rename_i hy
    rw [if_pos hy] at hk
    cases h
    exact lv_ldcw hx hb hown (lm_word hV hW hk args) (of_decide_eq_true hd) (kk H locs ls hP hn hS hL)
  · rename_i hy
    rw [if_neg hy] at hk
    simp only [Bool.and_eq_true, decide_eq_true_eq] at hk
    split at h
    · cases h
      have hZ := hV.2.2.2.2.1 _ _ _ hk.2 (List.mem_of_getElem? hk.1.1)
      rw [Nat.add_sub_cancel' hk.1.2] at hZ
      have hZ2 := vk_R.warm hW hZ
      intro T hT XX
      obtain ⟨t, a1, b1⟩ := kk H locs ls hP hn hS hL T hT XX
      exact ⟨t, XX.ldcStringW hx hown hZ2.1 hZ2.2 (g := F0 m pc ls (S.map (lm_v ad))) rfl (by rw [hb]; exact of_decide_eq_true hd) t a1, b1⟩
    · cases h
set_option maxHeartbeats 4000000 in
theorem lm_st_dup (hC : lm_C l s0 args0 ad adV D tc X i d z p R s m meth cd) { x y w : Nat} (hr : lm_row i pc = some (pc, .dup, x, y, w)) {g : Prop} {pc' : Nat} {L' : lm_L} {S' : List Value} {σ' : lm_S} (h : lm_st X (pc, .dup, x, y, w) L S σ = some (g, pc', L', S', σ')) (hg : g)
    (hP : va_P D vwCl (lm_re ad tc σ) H) (hn : σ.2.2.2 ≤ lm_N0) (hS : va_S (fun q => s0.heap.size ≤ q) s.heap H locs) (hL : lm_LS ad L ls (lm_ml i))
    (kk : lm_K s0 ad D tc i p l e R s m args below meth cd c k Z pc' L' S' σ') : W p l e R s m args below meth cd H locs c k Z (F0 m pc ls (S.map (lm_v ad))) := by
  obtain ⟨hV, hi, hx, hb, hret, hml, hown, hnm, hlk, hW, hz1, hz2, hz3, ht1, ht2, hf1, hf2, hc1, hc2⟩ := hC
  obtain ⟨hk, -⟩ := lm_rok_at hi hr
  simp only [lm_rok, Bool.and_eq_true] at hk
  obtain ⟨hd, hk⟩ := hk
  have hK : va_K D vwCl (lm_tys tc) s := va_K.moved hW.alike hV.2.2.1
  simp only [lm_st] at h
  split at h
  · split at h
    · rename_i hc
      cases h
      exact lv_dup hx hb (of_decide_eq_true hd) (by rw [lm_v_cat]; exact hc) (kk H locs ls hP hn hS hL)
    · cases h
  · cases h
set_option maxHeartbeats 4000000 in
theorem lm_st_dup2 (hC : lm_C l s0 args0 ad adV D tc X i d z p R s m meth cd) { x y w : Nat} (hr : lm_row i pc = some (pc, .dup2, x, y, w)) {g : Prop} {pc' : Nat} {L' : lm_L} {S' : List Value} {σ' : lm_S} (h : lm_st X (pc, .dup2, x, y, w) L S σ = some (g, pc', L', S', σ')) (hg : g)
    (hP : va_P D vwCl (lm_re ad tc σ) H) (hn : σ.2.2.2 ≤ lm_N0) (hS : va_S (fun q => s0.heap.size ≤ q) s.heap H locs) (hL : lm_LS ad L ls (lm_ml i))
    (kk : lm_K s0 ad D tc i p l e R s m args below meth cd c k Z pc' L' S' σ') : W p l e R s m args below meth cd H locs c k Z (F0 m pc ls (S.map (lm_v ad))) := by
  obtain ⟨hV, hi, hx, hb, hret, hml, hown, hnm, hlk, hW, hz1, hz2, hz3, ht1, ht2, hf1, hf2, hc1, hc2⟩ := hC
  obtain ⟨hk, -⟩ := lm_rok_at hi hr
  simp only [lm_rok, Bool.and_eq_true] at hk
  obtain ⟨hd, hk⟩ := hk
  have hK : va_K D vwCl (lm_tys tc) s := va_K.moved hW.alike hV.2.2.1
  simp only [lm_st] at h
  split at h
  · split at h
    · rename_i hc
      cases h
      exact lv_dup2_11 hx hb (of_decide_eq_true hd) (by rw [lm_v_cat]; exact hc.1) (by rw [lm_v_cat]; exact hc.2) (kk H locs ls hP hn hS hL)
    · cases h
  · cases h
set_option maxHeartbeats 4000000 in
theorem lm_st_pop (hC : lm_C l s0 args0 ad adV D tc X i d z p R s m meth cd) { x y w : Nat} (hr : lm_row i pc = some (pc, .pop, x, y, w)) {g : Prop} {pc' : Nat} {L' : lm_L} {S' : List Value} {σ' : lm_S} (h : lm_st X (pc, .pop, x, y, w) L S σ = some (g, pc', L', S', σ')) (hg : g)
    (hP : va_P D vwCl (lm_re ad tc σ) H) (hn : σ.2.2.2 ≤ lm_N0) (hS : va_S (fun q => s0.heap.size ≤ q) s.heap H locs) (hL : lm_LS ad L ls (lm_ml i))
    (kk : lm_K s0 ad D tc i p l e R s m args below meth cd c k Z pc' L' S' σ') : W p l e R s m args below meth cd H locs c k Z (F0 m pc ls (S.map (lm_v ad))) := by
  obtain ⟨hV, hi, hx, hb, hret, hml, hown, hnm, hlk, hW, hz1, hz2, hz3, ht1, ht2, hf1, hf2, hc1, hc2⟩ := hC
  obtain ⟨hk, -⟩ := lm_rok_at hi hr
  simp only [lm_rok, Bool.and_eq_true] at hk
  obtain ⟨hd, hk⟩ := hk
  have hK : va_K D vwCl (lm_tys tc) s := va_K.moved hW.alike hV.2.2.1
  simp only [lm_st] at h
  split at h
  · split at h
    · rename_i hc
      cases h
      exact lv_pop hx hb (of_decide_eq_true hd) (by rw [lm_v_cat]; exact hc) (kk H locs ls hP hn hS hL)
    · cases h
  · cases h
set_option maxHeartbeats 4000000 in
theorem lm_st_tsw (hC : lm_C l s0 args0 ad adV D tc X i d z p R s m meth cd) {df lo hi9 : Int} {offs : Array Int} {x y w : Nat} (hr : lm_row i pc = some (pc, .tableswitch df lo hi9 offs, x, y, w)) {g : Prop} {pc' : Nat} {L' : lm_L} {S' : List Value} {σ' : lm_S} (h : lm_st X (pc, .tableswitch df lo hi9 offs, x, y, w) L S σ = some (g, pc', L', S', σ')) (hg : g)
    (hP : va_P D vwCl (lm_re ad tc σ) H) (hn : σ.2.2.2 ≤ lm_N0) (hS : va_S (fun q => s0.heap.size ≤ q) s.heap H locs) (hL : lm_LS ad L ls (lm_ml i))
    (kk : lm_K s0 ad D tc i p l e R s m args below meth cd c k Z pc' L' S' σ') : W p l e R s m args below meth cd H locs c k Z (F0 m pc ls (S.map (lm_v ad))) := by
  obtain ⟨hV, hi, hx, hb, hret, hml, hown, hnm, hlk, hW, hz1, hz2, hz3, ht1, ht2, hf1, hf2, hc1, hc2⟩ := hC
  obtain ⟨hk, -⟩ := lm_rok_at hi hr
  simp only [lm_rok, Bool.and_eq_true] at hk
  obtain ⟨hd, hk⟩ := hk
  have hK : va_K D vwCl (lm_tys tc) s := va_K.moved hW.alike hV.2.2.1
  simp only [lm_dec, Bool.and_eq_true] at hd
  have hd1 := hd.1.1
  have hdec0 : ∃ n, decode (lm_cc i) pc = .ok (.tableswitch df lo hi9 offs, n) := by
    split at hd1
    · rename_i j n heq
      exact ⟨n, by rw [show lm_cc i = (lm_me i).2.1 from rfl, heq, of_decide_eq_true hd1]⟩
    · cases hd1
  obtain ⟨n, hdec⟩ := hdec0
  simp only [lm_st] at h
  split at h
  · split at h
    · rename_i hcond
      cases h
      exact lv_tableOut hx hb hdec hcond (Int.toNat_of_nonneg (of_decide_eq_true hd.1.2)).symm (kk H locs ls hP hn hS hL)
    · rename_i hcond
      split at h
      · rename_i off hoff
        cases h
        have hpos : 0 ≤ (pc : Int) + off := of_decide_eq_true (List.all_eq_true.mp hd.2 off (by
          have := Array.getElem?_toList (xs := offs) ▸ hoff
          exact List.mem_of_getElem? this))
        exact lv_tableIn hx hb hdec (fun q => hcond (Or.inl q)) (fun q => hcond (Or.inr q)) hoff (Int.toNat_of_nonneg hpos).symm (kk H locs ls hP hn hS hL)
      · cases h
  · cases h
theorem lm_lsw_nn {pc : Nat} {v df : Int} : ∀ (ps : List (Int × Int)), 0 ≤ (pc : Int) + df → (ps.all (fun o => decide (0 ≤ (pc : Int) + o.2))) = true → 0 ≤ (pc : Int) + Op.lookupswitch.offset ps df v
  | [], h, _ => h
  | (a, b) :: r, h, h2 => by
    simp only [List.all_cons, Bool.and_eq_true, decide_eq_true_eq] at h2
    have ih := lm_lsw_nn (v := v) r h h2.2
    unfold Op.lookupswitch.offset
    split
    · exact h2.1
    · exact ih
set_option maxHeartbeats 4000000 in
theorem lm_st_lsw (hC : lm_C l s0 args0 ad adV D tc X i d z p R s m meth cd) {df : Int} {ps : Array (Int × Int)} {x y w : Nat} (hr : lm_row i pc = some (pc, .lookupswitch df ps, x, y, w)) {g : Prop} {pc' : Nat} {L' : lm_L} {S' : List Value} {σ' : lm_S} (h : lm_st X (pc, .lookupswitch df ps, x, y, w) L S σ = some (g, pc', L', S', σ')) (hg : g)
    (hP : va_P D vwCl (lm_re ad tc σ) H) (hn : σ.2.2.2 ≤ lm_N0) (hS : va_S (fun q => s0.heap.size ≤ q) s.heap H locs) (hL : lm_LS ad L ls (lm_ml i))
    (kk : lm_K s0 ad D tc i p l e R s m args below meth cd c k Z pc' L' S' σ') : W p l e R s m args below meth cd H locs c k Z (F0 m pc ls (S.map (lm_v ad))) := by
  obtain ⟨hV, hi, hx, hb, hret, hml, hown, hnm, hlk, hW, hz1, hz2, hz3, ht1, ht2, hf1, hf2, hc1, hc2⟩ := hC
  obtain ⟨hk, -⟩ := lm_rok_at hi hr
  simp only [lm_rok, Bool.and_eq_true] at hk
  obtain ⟨hd, hk⟩ := hk
  have hK : va_K D vwCl (lm_tys tc) s := va_K.moved hW.alike hV.2.2.1
  simp only [lm_dec, Bool.and_eq_true] at hd
  have hd1 := hd.1.1.1
  have hdec0 : ∃ n, decode (lm_cc i) pc = .ok (.lookupswitch df ps, n) := by
    split at hd1
    · rename_i j n heq
      exact ⟨n, by rw [show lm_cc i = (lm_me i).2.1 from rfl, heq, of_decide_eq_true hd1]⟩
    · cases hd1
  obtain ⟨n, hdec⟩ := hdec0
  simp only [lm_st] at h
  split at h
  · cases h
    exact lv_lookup hx hb hdec hd.2 rfl (Int.toNat_of_nonneg (lm_lsw_nn _ (of_decide_eq_true hd.1.1.2) hd.1.2)).symm (kk H locs ls hP hn hS hL)
  · cases h
set_option maxHeartbeats 4000000 in
theorem lm_st_aast (hC : lm_C l s0 args0 ad adV D tc X i d z p R s m meth cd) { x y w : Nat} (hr : lm_row i pc = some (pc, .aastore, x, y, w)) {g : Prop} {pc' : Nat} {L' : lm_L} {S' : List Value} {σ' : lm_S} (h : lm_st X (pc, .aastore, x, y, w) L S σ = some (g, pc', L', S', σ')) (hg : g)
    (hP : va_P D vwCl (lm_re ad tc σ) H) (hn : σ.2.2.2 ≤ lm_N0) (hS : va_S (fun q => s0.heap.size ≤ q) s.heap H locs) (hL : lm_LS ad L ls (lm_ml i))
    (kk : lm_K s0 ad D tc i p l e R s m args below meth cd c k Z pc' L' S' σ') : W p l e R s m args below meth cd H locs c k Z (F0 m pc ls (S.map (lm_v ad))) := by
  obtain ⟨hV, hi, hx, hb, hret, hml, hown, hnm, hlk, hW, hz1, hz2, hz3, ht1, ht2, hf1, hf2, hc1, hc2⟩ := hC
  obtain ⟨hk, -⟩ := lm_rok_at hi hr
  simp only [lm_rok, Bool.and_eq_true] at hk
  obtain ⟨hd, hk⟩ := hk
  have hK : va_K D vwCl (lm_tys tc) s := va_K.moved hW.alike hV.2.2.1
  have hD := lm_D hV hn
  simp only [lm_st] at h
  split at h
  · rename_i v j a r
    split at h
    · rename_i hv
      split at h
      · rename_i n ho
        cases h
        obtain ⟨ha, zz, hsh⟩ := lm_ar_spec ho
        have hO := va_O.moved hW.alike (hV.2.2.2.1.1 (v - lm_sp) hv.2).1
        simp only [Nat.add_sub_cancel' hv.1] at hO
        obtain ⟨cell, q1, q2, q3, q4⟩ := hO
        have hq1 : H[ad v]? = some cell := by
          have hlt : ad v < s0.heap.size := (Array.getElem?_eq_some_iff.mp q1).1
          rw [hS.2.1 _ (Nat.lt_of_lt_of_le hlt hz1) q4, hz2 _ hlt]
          exact q1
        have hAny : va_Any "java/lang/String" s H (ad v) := by
          obtain ⟨kC, hkC, -⟩ := Vm.findClass_spec q3
          refine ⟨cell, hq1, q2, ⟨kC, hkC⟩, fun comp hc => ?_⟩
          cases Option.some.inj (hc.symm.trans q3)
          exact va_asg _ _
        refine va_astqM hx hb hK hP hD hS a 4 (by rw [lm_re_at ha, lm_cell_q hsh]) rfl hAny hg (of_decide_eq_true hd) (fun H1 locs1 hP1 _ hS1 => kk H1 locs1 ls (lm_P_set ha rfl hP1 ?_ (fun b hb => lm_cell_ext rfl (by simp [lm_wp, hb]) rfl)) hn hS1 hL)
        rw [lm_cell_q hsh]
        have hf : (fun j1 => Option.map ad (lm_wp σ.2.1 a j.toNatClampNeg (some v) a j1)) = va_up (fun j1 => Option.map ad (σ.2.1 a j1)) j.toNatClampNeg (some (ad v)) := by
          funext j1
          by_cases hj : j1 = j.toNatClampNeg <;> simp [lm_wp, va_up, hj]
        simp only [hf]
      · cases h
    · cases h
  · cases h
end LMT
