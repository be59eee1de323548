/-! ===== the JDK's own methods ===== -/
theorem lm_wi : lm_wd 87 (.initialized "java/lang/Math") = true := by decide +kernel
theorem lm_wmax : lm_wd 522 (.static Lib.Math.max.name) = true := by decide +kernel
theorem lm_wmaxc : lm_wd 523 (.code Lib.Math.max.name Lib.Math.max.code 2 (some .int)) = true := by decide +kernel
theorem lm_wmin : lm_wd 560 (.static Lib.Math.min.name) = true := by decide +kernel
theorem lm_wminc : lm_wd 561 (.code Lib.Math.min.name Lib.Math.min.code 2 (some .int)) = true := by decide +kernel
theorem lm_wabs : lm_wd 411 (.static Lib.Math.abs.name) = true := by decide +kernel
theorem lm_wabsc : lm_wd 412 (.code Lib.Math.abs.name Lib.Math.abs.code 1 (some .int)) = true := by decide +kernel
theorem lm_wcps : lm_wd 476 (.static arraycopyName) = true := by decide +kernel
theorem lm_wcpn : lm_wd 477 (.native arraycopyName) = true := by decide +kernel
theorem lm_wsys : lm_wd 97 (.initialized "java/lang/System") = true := by decide +kernel
theorem lm_woi : lm_wd 106 (.instanceMethod objectInit) = true := by decide +kernel
theorem lm_woc : lm_wd 107 (.code objectInit ⟨#[0xb1]⟩ 1 none) = true := by decide +kernel
section LMJ
variable {l : Launch} {s0 : State} {args0 : Array Value} {ad adV : Nat → Nat} {D : va_G} {tc : Nat → ClassId} {X : lm_X} {i d z : Nat} {p : Program} {e : Env} {R : Room} {s : State} {m : MethodId} {args : Array Value} {below : List Frame} {meth : Method} {cd : Code} {H : Heap} {locs : List Loc} {c k pc : Nat} {Z : State → Prop} {L : lm_L} {S : List Value} {σ : lm_S} {ls : Array Slot}
theorem lm_rest {r : List Value} {n : Nat} (h : (r.map fun v => v.category).sum ≤ n) : ((r.map (lm_v ad)).map fun v => v.category).sum ≤ n := by
  have : (r.map (lm_v ad)).map (fun v => v.category) = r.map (fun v => v.category) := by
    rw [List.map_map]
    exact List.map_congr_left (fun v _ => lm_v_cat ad v)
  rw [this]; exact h
set_option maxHeartbeats 4000000 in
/-- max, min, abs, arraycopy: static calls -/
theorem lm_bi_s (hC : lm_C l s0 args0 ad adV D tc X i d z p R s m meth cd) {idx y w : Nat} (hd : decode (lm_cc i) pc = .ok (.invokestatic idx, 3)) (hk : lm_bok (lm_y i).cls idx y w 1 = true) {g : Prop} {pc' : Nat} {L' : lm_L} {S' : List Value} {σ' : lm_S} (h : lm_bi y pc L S σ = some (g, pc', L', S', σ')) (hg : g) (hgd : (S.map fun v => v.category).sum ≤ 8) (hc : c ≤ lm_mc i) (hkm : k ≤ lm_ms i)
    (hP : va_P D vwCl (lm_re ad tc σ) H) (hn : σ.2.2.2 ≤ lm_N0) (hS : va_S (fun q => s0.heap.size ≤ q) s.heap H locs) (hL : lm_LS ad L ls (lm_ml i))
    (kk : lm_K s0 ad D tc i p l e R s m args below meth cd c k Z pc' L' S' σ') : W p l e R s m args below meth cd H locs c k Z (F0 m pc ls (S.map (lm_v ad))) := by
  obtain ⟨hV, hi, hx, hb, hret, hml, hown, hnm, hlk, hW, hz1, hz2, hz3, ht1, ht2, hf1, hf2, hc1, hc2⟩ := hC
  have hsz : cd.maxLocals = ls.size := by rw [hml, hL.2.1]
  have hK : va_K D vwCl (lm_tys tc) s := va_K.moved hW.alike hV.2.2.1
  have hD := lm_D hV hn
  have hgd2 := lm_rest (ad := ad) hgd
  match y, h, hk with
  | 1, h, hk =>
    simp only [lm_bi] at h
    simp only [lm_bok, Bool.and_eq_true] at hk
    split at h
    · cases h
      simp only [List.map_cons, List.sum_cons] at hgd2
      exact va_mmax hx hb hsz hown (lm_word hV hW hk.2 args) (lm_word hV hW lm_wmax args) (lm_word hV hW lm_wi args) (lm_word hV hW lm_wmaxc args) (by omega) (by omega) (by omega) (by omega) hd (kk H locs ls hP hn hS hL)
    · cases h
  | 2, h, hk =>
    simp only [lm_bi] at h
    simp only [lm_bok, Bool.and_eq_true] at hk
    split at h
    · cases h
      simp only [List.map_cons, List.sum_cons] at hgd2
      exact va_mmin hx hb hsz hown (lm_word hV hW hk.2 args) (lm_word hV hW lm_wmin args) (lm_word hV hW lm_wi args) (lm_word hV hW lm_wminc args) (by omega) (by omega) (by omega) (by omega) hd (kk H locs ls hP hn hS hL)
    · cases h
  | 3, h, hk =>
    simp only [lm_bi] at h
    simp only [lm_bok, Bool.and_eq_true] at hk
    split at h
    · cases h
      simp only [List.map_cons, List.sum_cons] at hgd2
      exact va_mabs hx hb hsz hown (lm_word hV hW hk.2 args) (lm_word hV hW lm_wabs args) (lm_word hV hW lm_wi args) (lm_word hV hW lm_wabsc args) (by omega) (by omega) (by omega) (by omega) hd (kk H locs ls hP hn hS hL)
    · cases h
  | 4, h, hk =>
    simp only [lm_bi] at h
    simp only [lm_bok, Bool.and_eq_true] at hk
    split at h
    · rename_i n dp a sp b r
      split at h
      · rename_i na nb ho1 ho2
        cases h
        obtain ⟨ha, zz, hsh⟩ := lm_ar_spec ho1
        obtain ⟨hb', zz', hsh'⟩ := lm_ar_spec ho2
        simp only [List.map_cons, List.sum_cons] at hgd2
        have hnf : nativeFrameWords "java/lang/System" "arraycopy" 5 + 11 ≤ 500 := by decide
        exact va_copyi (ty := .int) hx hb hsz hown (lm_word hV hW hk.2 args) (lm_word hV hW lm_wcpn args) (lm_word hV hW lm_wcps args) (lm_word hV hW lm_wsys args) hK hP hD hS _ _ 0 0 ((lm_re_at hb').trans (by rw [lm_cell_i hsh' (by decide)])) ((lm_re_at ha).trans (by rw [lm_cell_i hsh (by decide)])) rfl rfl rfl hg.1 hg.2.1 hg.2.2.1 hg.2.2.2.1 hg.2.2.2.2 (fun _ _ => rfl) (by omega) (by omega) hd (fun H1 locs1 hP1 _ hS1 => kk H1 locs1 ls (lm_P_set ha rfl hP1 ((lm_cell_i hsh (by decide)).trans (by simp [lm_wa])) (fun b hb => lm_cell_ext (by simp [lm_wa, hb]) rfl rfl)) hn hS1 hL)
      · cases h
    · cases h
  | 0, h, hk => cases h
  | 5, h, hk => simp [lm_bok] at hk
  | 6, h, hk => simp [lm_bok] at hk
  | 7, h, hk => simp [lm_bok] at hk
  | y + 8, h, hk => cases h
set_option maxHeartbeats 4000000 in
/-- Object's constructor -/
theorem lm_bi_o (hC : lm_C l s0 args0 ad adV D tc X i d z p R s m meth cd) {idx y w : Nat} (hd : decode (lm_cc i) pc = .ok (.invokespecial idx, 3)) (hk : lm_bok (lm_y i).cls idx y w 2 = true) {g : Prop} {pc' : Nat} {L' : lm_L} {S' : List Value} {σ' : lm_S} (h : lm_bi y pc L S σ = some (g, pc', L', S', σ')) (hgd : (S.map fun v => v.category).sum ≤ 8)
    (hP : va_P D vwCl (lm_re ad tc σ) H) (hn : σ.2.2.2 ≤ lm_N0) (hS : va_S (fun q => s0.heap.size ≤ q) s.heap H locs) (hL : lm_LS ad L ls (lm_ml i))
    (kk : lm_K s0 ad D tc i p l e R s m args below meth cd c k Z pc' L' S' σ') : W p l e R s m args below meth cd H locs c k Z (F0 m pc ls (S.map (lm_v ad))) := by
  obtain ⟨hV, hi, hx, hb, hret, hml, hown, hnm, hlk, hW, hz1, hz2, hz3, ht1, ht2, hf1, hf2, hc1, hc2⟩ := hC
  have hsz : cd.maxLocals = ls.size := by rw [hml, hL.2.1]
  have hgd2 := lm_rest (ad := ad) hgd
  match y, h, hk with
  | 7, h, hk =>
    simp only [lm_bi] at h
    simp only [lm_bok, Bool.and_eq_true] at hk
    split at h
    · cases h
      simp only [List.map_cons, List.sum_cons] at hgd2
      refine W.objInit hx hb hown (lm_word hV hW hk.2 args) (lm_word hV hW lm_woi args) (lm_word hV hW lm_woc args) (g := F0 m pc ls (_ :: _)) rfl hsz.symm rfl hd (by omega) ?_ (kk H locs ls hP hn hS hL)
      show 2 * 0 + _ + 12 ≤ R.locals
      omega
    · cases h
  | 0, h, hk => cases h
  | 1, h, hk => simp [lm_bok] at hk
  | 2, h, hk => simp [lm_bok] at hk
  | 3, h, hk => simp [lm_bok] at hk
  | 4, h, hk => simp [lm_bok] at hk
  | 5, h, hk => simp [lm_bok] at hk
  | 6, h, hk => simp [lm_bok] at hk
  | y + 8, h, hk => cases h
end LMJ
