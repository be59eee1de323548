/-! ===== the heap's instructions ===== -/
def lm_kn : List (List Nat) := [[2, 2, 0, 2, 0, 2], [0, 2, 2, 2, 2, 2, 0, 2, 2, 0, 2, 0, 2, 2], [2, 2], [2, 0, 2, 0, 1, 0, 0, 0, 0, 0, 0, 0], [2, 2], [2, 2, 0, 2, 2, 2, 2, 2, 2, 2, 2, 2, 0, 0], [2, 2, 2, 2, 0, 0, 0], [2, 2, 2, 2, 2, 2, 2, 2, 1, 2, 2], [2, 2, 2, 2, 0, 2, 2, 2, 2, 2, 2, 2, 2, 2, 2, 2, 2, 2, 0, 0, 0, 0, 0, 0, 0, 0, 0, 0, 1, 2, 2, 2, 2, 2, 2, 2, 0, 0, 0, 2, 2, 0, 0, 2, 2, 2, 2, 2, 2, 2, 2, 0, 2, 0, 1, 0, 0, 2, 2, 2, 2, 2, 2]]
def lm_ty : Nat → Nat → FieldType
  | 0 => tyX0
  | 1 => tyX1
  | 2 => tyX2
  | 3 => tyX3
  | 4 => tyX4
  | 5 => tyX5
  | 6 => tyX6
  | 7 => tyX7
  | _ => tyX8
def lm_isR : FieldType → Bool
  | .object _ => true
  | .array _ => true
  | _ => false
def lm_tyok (t : Nat) (ty : FieldType) : Bool := match t with
  | 0 => decide (ty = .int)
  | 1 => decide (ty = .boolean)
  | 2 => lm_isR ty
  | _ => false
theorem lm_SH_ok : ∀ q ∈ lm_SH, q.1 = 0 → lm_kn[q.2.1]? = some q.2.2 ∧ q.2.1 < 9 := by decide +kernel
theorem lm_kn_len : ∀ x, x < 9 → ∀ q ∈ vwCl[x]?, (lm_kn.getD x []).length = q.2.2 := by decide +kernel
set_option maxRecDepth 100000 in
theorem lm_kn_ty : ∀ x, x < 9 → ∀ k, k < (lm_kn.getD x []).length → lm_tyok ((lm_kn.getD x []).getD k 3) (lm_ty x k) = true := by decide +kernel
theorem lm_cls_ty {x : Nat} {C : String} {T : u_T} {N : Nat} (h : vwCl[x]? = some (C, T, N)) : (∀ k, k < N → parseFieldDescriptor (T k).2.2.1 = some (lm_ty x k)) ∧ ∀ a, a < N → ∀ b, b < N → a ≠ b → (T a).2.1 ≠ (T b).2.1 := by
  have hx : x < 9 := (List.getElem?_eq_some_iff.mp h).1
  match x, hx, h with
  | 0, _, h => cases h; exact ⟨tyX0_ok, nmX0⟩
  | 1, _, h => cases h; exact ⟨tyX1_ok, nmX1⟩
  | 2, _, h => cases h; exact ⟨tyX2_ok, nmX2⟩
  | 3, _, h => cases h; exact ⟨tyX3_ok, nmX3⟩
  | 4, _, h => cases h; exact ⟨tyX4_ok, nmX4⟩
  | 5, _, h => cases h; exact ⟨tyX5_ok, nmX5⟩
  | 6, _, h => cases h; exact ⟨tyX6_ok, nmX6⟩
  | 7, _, h => cases h; exact ⟨tyX7_ok, nmX7⟩
  | 8, _, h => cases h; exact ⟨tyX8_ok, nmX8⟩
set_option maxRecDepth 100000 in
theorem lm_lays : ∀ q ∈ vwCl, ∀ w ∈ u_ws q.1 q.2.1 q.2.2, w ∈ lw_tbl ∧ goodWord w = true := by decide +kernel
theorem lm_inst : ∀ q ∈ vwCl, Cond.instantiable q.1 q.2.2 ∈ lw_tbl ∧ goodWord (Cond.instantiable q.1 q.2.2) = true ∧ Cond.initialized q.1 ∈ lw_tbl ∧ goodWord (Cond.initialized q.1) = true := by decide +kernel
theorem lm_SH_t : ∀ q ∈ lm_SH, q.1 < 6 := by decide +kernel
section LMH
variable {l : Launch} {s0 : State} {args0 : Array Value} {ad adV : Nat → Nat} {D : va_G} {tc : Nat → ClassId} {X : lm_X} {i d z : Nat} {p : Program} {e : Env} {R : Room} {s : State} {m : MethodId} {args : Array Value} {below : List Frame} {meth : Method} {cd : Code} {H : Heap} {locs : List Loc} {c k pc : Nat} {Z : State → Prop} {L : lm_L} {S : List Value} {σ : lm_S} {ls : Array Slot}
theorem lm_wmem {l : Launch} {s0 : State} {args0 : Array Value} {ad adV : Nat → Nat} {D : va_G} {tc : Nat → ClassId} {X : lm_X} (hV : lm_V l s0 args0 ad adV D tc X) {U : State} (hW : s0.WarmedH U.vm) {w : Cond} (h : w ∈ lw_tbl ∧ goodWord w = true) (a' : Array Value) : w.before a' U = true := word_at hW (good_of_word h.2) (hV.1 w h.1)
theorem lm_fok_spec {own nm : String} {idx x y w : Nat} {put : Bool} (h : lm_fok own idx x y w nm put = true) : ∃ C T N, vwCl[x]? = some (C, T, N) ∧ y < N ∧ lm_wd w (.fieldLink own idx (T y).1 (T y).2.1 (T y).2.2.1) = true ∧ (put = true → (T y).2.2.2 = false ∨ (nm = "<init>" ∧ (T y).1 = own)) := by
  unfold lm_fok at h
  split at h
  · rename_i C T N heq
    simp only [Bool.and_eq_true, decide_eq_true_eq, Bool.or_eq_true, Bool.not_eq_true'] at h
    refine ⟨C, T, N, heq, h.1.1, h.1.2, fun hp => ?_⟩
    rcases h.2 with (h2 | h2) | h2
    · rw [hp] at h2; cases h2
    · exact Or.inl h2
    · exact Or.inr h2
  · cases h
theorem lm_kd_of {a x t y : Nat} {ks : List Nat} (h : lm_SH[a]? = some (0, x, ks)) (ht : ks[y]? = some t) : lm_tyok t (lm_ty x y) = true ∧ x < 9 ∧ lm_kn[x]? = some ks := by
  obtain ⟨h1, h2⟩ := lm_SH_ok _ (List.mem_of_getElem? h) rfl
  simp only at h1 h2
  have h3 : lm_kn.getD x [] = ks := by simp [List.getD, h1]
  have h4 : y < ks.length := (List.getElem?_eq_some_iff.mp ht).1
  have h5 := lm_kn_ty x h2 y (by rw [h3]; exact h4)
  rw [h3] at h5
  have h6 : ks.getD y 3 = t := by simp [List.getD, ht]
  rw [h6] at h5
  exact ⟨h5, h2, h1⟩
set_option maxHeartbeats 4000000 in
theorem lm_st_get (hC : lm_C l s0 args0 ad adV D tc X i d z p R s m meth cd) {idx x y w : Nat} (hr : lm_row i pc = some (pc, .getfield idx, x, y, w)) {g : Prop} {pc' : Nat} {L' : lm_L} {S' : List Value} {σ' : lm_S} (h : lm_st X (pc, .getfield idx, x, y, w) L S σ = some (g, pc', L', S', σ'))
    (hP : va_P D vwCl (lm_re ad tc σ) H) (hn : σ.2.2.2 ≤ lm_N0) (hS : va_S (fun q => s0.heap.size ≤ q) s.heap H locs) (hL : lm_LS ad L ls (lm_ml i))
    (kk : lm_K s0 ad D tc i p l e R s m args below meth cd c k Z pc' L' S' σ') : W p l e R s m args below meth cd H locs c k Z (F0 m pc ls (S.map (lm_v ad))) := by
  obtain ⟨hV, hi, hx, hb, hret, hml, hown, hnm, hlk, hW, hz1, hz2, hz3, ht1, ht2, hf1, hf2, hc1, hc2⟩ := hC
  obtain ⟨hk, -⟩ := lm_rok_at hi hr
  simp only [lm_rok, Bool.and_eq_true] at hk
  obtain ⟨hd, hk⟩ := hk
  obtain ⟨C, T, N, hc, hy, hlink, -⟩ := lm_fok_spec hk
  have hts : ∀ w ∈ u_ws C T N, w.before args s = true := fun w hw => lm_wmem hV hW (lm_lays _ (List.mem_of_getElem? hc) w hw) args
  have hK : va_K D vwCl (lm_tys tc) s := va_K.moved hW.alike hV.2.2.1
  simp only [lm_st] at h
  split at h
  · rename_i a r
    have key : ∀ (t : Nat) (v : Value), lm_ob σ a x y = some t → v = (if t = 2 then va_rf ((σ.2.1 a y).map ad) else .int (σ.1 a y)) → W p l e R s m args below meth cd H locs c k Z (F0 m (pc + 3) ls (v :: r.map (lm_v ad))) → W p l e R s m args below meth cd H locs c k Z (F0 m pc ls ((Value.ref a :: r).map (lm_v ad))) := by
      intro t v ho hv kw
      obtain ⟨ha, ks, hsh, hkt⟩ := lm_ob_spec ho
      refine va_get (D := D) (ci := x) (v := v) (C := C) (T := T) (N := N) hx hb hts (fun _ h => h) hown hK hP a (by rw [lm_re_at ha, lm_cell_o hsh]) hc y hy (lm_word hV hW hlink args) (fun _ h => h) ?_ (of_decide_eq_true hd) kw
      rw [lm_sl_at hkt, hv]
    split at h
    · rename_i ho
      cases h
      exact key 0 _ ho rfl (kk H locs ls hP hn hS hL)
    · rename_i ho
      cases h
      exact key 1 _ ho rfl (kk H locs ls hP hn hS hL)
    · rename_i ho
      cases h
      have kw := kk H locs ls hP hn hS hL
      refine key 2 (lm_v ad (va_rf (σ.2.1 a y))) ho ?_ kw
      cases σ.2.1 a y <;> rfl
    · cases h
  · cases h
set_option maxHeartbeats 4000000 in
theorem lm_st_put (hC : lm_C l s0 args0 ad adV D tc X i d z p R s m meth cd) {idx x y w : Nat} (hr : lm_row i pc = some (pc, .putfield idx, x, y, w)) {g : Prop} {pc' : Nat} {L' : lm_L} {S' : List Value} {σ' : lm_S} (h : lm_st X (pc, .putfield idx, x, y, w) L S σ = some (g, pc', L', S', σ')) (hg : g)
    (hP : va_P D vwCl (lm_re ad tc σ) H) (hn : σ.2.2.2 ≤ lm_N0) (hS : va_S (fun q => s0.heap.size ≤ q) s.heap H locs) (hL : lm_LS ad L ls (lm_ml i))
    (kk : lm_K s0 ad D tc i p l e R s m args below meth cd c k Z pc' L' S' σ') : W p l e R s m args below meth cd H locs c k Z (F0 m pc ls (S.map (lm_v ad))) := by
  obtain ⟨hV, hi, hx, hb, hret, hml, hown, hnm, hlk, hW, hz1, hz2, hz3, ht1, ht2, hf1, hf2, hc1, hc2⟩ := hC
  obtain ⟨hk, -⟩ := lm_rok_at hi hr
  simp only [lm_rok, Bool.and_eq_true] at hk
  obtain ⟨hd, hk⟩ := hk
  have hK : va_K D vwCl (lm_tys tc) s := va_K.moved hW.alike hV.2.2.1
  have hD := lm_D hV hn
  obtain ⟨C, T, N, hc, hy, hlink, hfin⟩ := lm_fok_spec hk
  have hts : ∀ w ∈ u_ws C T N, w.before args s = true := fun w hw => lm_wmem hV hW (lm_lays _ (List.mem_of_getElem? hc) w hw) args
  obtain ⟨hty, hnmT⟩ := lm_cls_ty hc
  have key : ∀ (a t : Nat) (v : Value) (r : List Value) (σ2 : lm_S), lm_ob σ a x y = some t → narrow (lm_ty x y) (lm_v ad v) = lm_v ad v → fits (lm_ty x y) (lm_v ad v) = true → σ2.2.2.2 = σ.2.2.2 → (∀ ks, ks[y]? = some t → lm_sl ad σ2 a ks = (lm_sl ad σ a ks).set y (lm_v ad v)) → (∀ b, b ≠ a → lm_cell ad tc σ2 b = lm_cell ad tc σ b) → lm_K s0 ad D tc i p l e R s m args below meth cd c k Z (pc + 3) L r σ2 → W p l e R s m args below meth cd H locs c k Z (F0 m pc ls ((v :: Value.ref a :: r).map (lm_v ad))) := by
    intro a t v r σ2 ho hna hfi hn2 hset hoth kw
    obtain ⟨ha, ks, hsh, hkt⟩ := lm_ob_spec ho
    have hlen : y < (lm_sl ad σ a ks).length := by rw [lm_sl_len]; exact (List.getElem?_eq_some_iff.mp hkt).1
    have fin : ∀ (H1 : Heap) (locs1 : List Loc), va_P D vwCl ((lm_re ad tc σ).set a (ad a, .inr (x, (lm_sl ad σ a ks).set y (lm_v ad v)))) H1 → va_D (fun q => s0.heap.size ≤ q) ((lm_re ad tc σ).set a (ad a, .inr (x, (lm_sl ad σ a ks).set y (lm_v ad v)))) → va_S (fun q => s0.heap.size ≤ q) s.heap H1 locs1 → W p l e R s m args below meth cd H1 locs1 c k Z (F0 m (pc + 3) ls (r.map (lm_v ad))) := fun H1 locs1 hP1 _ hS1 =>
      kw H1 locs1 ls (lm_P_set ha hn2 hP1 (by rw [lm_cell_o hsh, hset ks hkt]) hoth) (by rw [hn2]; exact hn) hS1 hL
    rcases hfin rfl with hf | ⟨hf1, hf2⟩
    · exact va_put (D := D) (ci := x) (v := lm_v ad v) (ty := lm_ty x y) (C := C) (T := T) (N := N) hx hb hts (fun _ h => h) (lm_ty x) hty hnmT hown hK hP hD hS a (by rw [lm_re_at ha, lm_cell_o hsh]) hc y hy (lm_word hV hW hlink args) (fun _ h => h) hf (hty y hy) hna hfi hlen (of_decide_eq_true hd) fin
    · have hfT : (T y).2.2.2 = true ∨ (T y).2.2.2 = false := by cases (T y).2.2.2 <;> simp
      rcases hfT with hfT | hfT
      · exact va_putF (D := D) (ci := x) (v := lm_v ad v) (ty := lm_ty x y) (C := C) (T := T) (N := N) hx hb hts (fun _ h => h) (lm_ty x) hty hnmT hown hK hP hD hS a (by rw [lm_re_at ha, lm_cell_o hsh]) hc y hy (lm_word hV hW hlink args) (fun _ h => h) hfT (hnm hf1) hf2 (hty y hy) hna hfi hlen (of_decide_eq_true hd) fin
      · exact va_put (D := D) (ci := x) (v := lm_v ad v) (ty := lm_ty x y) (C := C) (T := T) (N := N) hx hb hts (fun _ h => h) (lm_ty x) hty hnmT hown hK hP hD hS a (by rw [lm_re_at ha, lm_cell_o hsh]) hc y hy (lm_word hV hW hlink args) (fun _ h => h) hfT (hty y hy) hna hfi hlen (of_decide_eq_true hd) fin
  simp only [lm_st] at h
  split at h
  · rename_i v a r
    split at h
    · rename_i ho
      cases h
      obtain ⟨ha, ks, hsh, hkt⟩ := lm_ob_spec ho
      have hq := of_decide_eq_true (lm_kd_of hsh hkt).1
      exact key a 0 (.int v) _ (lm_wr σ.1 a y v, σ.2) ho (by rw [hq]; rfl) (by rw [hq]; rfl) rfl (fun ks hks => lm_sl_wr hks (by decide)) (fun b hb => lm_cell_ext (by simp [lm_wr, hb]) rfl rfl) kk
    · rename_i ho
      cases h
      obtain ⟨ha, ks, hsh, hkt⟩ := lm_ob_spec ho
      have hq := of_decide_eq_true (lm_kd_of hsh hkt).1
      exact key a 1 (.int v) _ (lm_wr σ.1 a y v, σ.2) ho (by rw [hq]; rcases hg with rfl | rfl <;> rfl) (by rw [hq]; rcases hg with rfl | rfl <;> rfl) rfl (fun ks hks => lm_sl_wr hks (by decide)) (fun b hb => lm_cell_ext (by simp [lm_wr, hb]) rfl rfl) kk
    · cases h
  · rename_i v a r
    split at h
    · rename_i ho
      cases h
      obtain ⟨ha, ks, hsh, hkt⟩ := lm_ob_spec ho
      have hq : lm_isR (lm_ty x y) = true := (lm_kd_of hsh hkt).1
      have hq2 : narrow (lm_ty x y) (Value.ref (ad v)) = .ref (ad v) ∧ fits (lm_ty x y) (Value.ref (ad v)) = true := by
        cases hqt : lm_ty x y <;> rw [hqt] at hq <;> first | (exact ⟨rfl, rfl⟩) | (cases hq)
      exact key a 2 (.ref v) _ (σ.1, lm_wp σ.2.1 a y (some v), σ.2.2) ho hq2.1 hq2.2 rfl (fun ks hks => lm_sl_wp hks) (fun b hb => lm_cell_ext rfl (by simp [lm_wp, hb]) rfl) kk
    · cases h
  · cases h
set_option maxHeartbeats 4000000 in
theorem lm_st_iald (hC : lm_C l s0 args0 ad adV D tc X i d z p R s m meth cd) { x y w : Nat} (hr : lm_row i pc = some (pc, .iaload, x, y, w)) {g : Prop} {pc' : Nat} {L' : lm_L} {S' : List Value} {σ' : lm_S} (h : lm_st X (pc, .iaload, x, y, w) L S σ = some (g, pc', L', S', σ')) (hg : g)
    (hP : va_P D vwCl (lm_re ad tc σ) H) (hn : σ.2.2.2 ≤ lm_N0) (hS : va_S (fun q => s0.heap.size ≤ q) s.heap H locs) (hL : lm_LS ad L ls (lm_ml i))
    (kk : lm_K s0 ad D tc i p l e R s m args below meth cd c k Z pc' L' S' σ') : W p l e R s m args below meth cd H locs c k Z (F0 m pc ls (S.map (lm_v ad))) := by
  obtain ⟨hV, hi, hx, hb, hret, hml, hown, hnm, hlk, hW, hz1, hz2, hz3, ht1, ht2, hf1, hf2, hc1, hc2⟩ := hC
  obtain ⟨hk, -⟩ := lm_rok_at hi hr
  simp only [lm_rok, Bool.and_eq_true] at hk
  obtain ⟨hd, hk⟩ := hk
  have hK : va_K D vwCl (lm_tys tc) s := va_K.moved hW.alike hV.2.2.1
  simp only [lm_st] at h
  split at h
  · rename_i j a r
    split at h
    · rename_i ha
      cases h
      have hX := va_X.moved hW.alike hV.2.2.2.2.2.1
      rw [ha]
      refine va_sld (H0 := s.heap) (A := fun q => s0.heap.size ≤ q) hx hb (va_X.kept hX (hz2 _ hV.2.2.2.2.2.2.1)) (Nat.lt_of_lt_of_le hV.2.2.2.2.2.2.1 hz1) (Nat.not_le.mpr hV.2.2.2.2.2.2.1) hS hg (of_decide_eq_true hd) (kk H locs ls hP hn hS hL)
    · split at h
      · rename_i n ho
        cases h
        obtain ⟨ha, zz, hsh⟩ := lm_ar_spec ho
        exact va_iald hx hb hK hP a 0 (by rw [lm_re_at ha, lm_cell_i hsh (by decide)]) rfl hg (of_decide_eq_true hd) (kk H locs ls hP hn hS hL)
      · cases h
  · cases h
set_option maxHeartbeats 4000000 in
theorem lm_st_bald (hC : lm_C l s0 args0 ad adV D tc X i d z p R s m meth cd) { x y w : Nat} (hr : lm_row i pc = some (pc, .baload, x, y, w)) {g : Prop} {pc' : Nat} {L' : lm_L} {S' : List Value} {σ' : lm_S} (h : lm_st X (pc, .baload, x, y, w) L S σ = some (g, pc', L', S', σ')) (hg : g)
    (hP : va_P D vwCl (lm_re ad tc σ) H) (hn : σ.2.2.2 ≤ lm_N0) (hS : va_S (fun q => s0.heap.size ≤ q) s.heap H locs) (hL : lm_LS ad L ls (lm_ml i))
    (kk : lm_K s0 ad D tc i p l e R s m args below meth cd c k Z pc' L' S' σ') : W p l e R s m args below meth cd H locs c k Z (F0 m pc ls (S.map (lm_v ad))) := by
  obtain ⟨hV, hi, hx, hb, hret, hml, hown, hnm, hlk, hW, hz1, hz2, hz3, ht1, ht2, hf1, hf2, hc1, hc2⟩ := hC
  obtain ⟨hk, -⟩ := lm_rok_at hi hr
  simp only [lm_rok, Bool.and_eq_true] at hk
  obtain ⟨hd, hk⟩ := hk
  have hK : va_K D vwCl (lm_tys tc) s := va_K.moved hW.alike hV.2.2.1
  simp only [lm_st] at h
  split at h
  · rename_i j a r
    split at h
    · rename_i n ho
      cases h
      obtain ⟨ha, zz, hsh⟩ := lm_ar_spec ho
      exact va_bald hx hb hK hP a 1 (by rw [lm_re_at ha, lm_cell_i hsh (by decide)]) rfl hg (of_decide_eq_true hd) (kk H locs ls hP hn hS hL)
    · rename_i n ho
      cases h
      obtain ⟨ha, zz, hsh⟩ := lm_ar_spec ho
      exact va_zald hx hb hK hP a 2 (by rw [lm_re_at ha, lm_cell_i hsh (by decide)]) rfl hg (of_decide_eq_true hd) (kk H locs ls hP hn hS hL)
    · cases h
  · cases h
set_option maxHeartbeats 4000000 in
theorem lm_st_lald (hC : lm_C l s0 args0 ad adV D tc X i d z p R s m meth cd) { x y w : Nat} (hr : lm_row i pc = some (pc, .laload, x, y, w)) {g : Prop} {pc' : Nat} {L' : lm_L} {S' : List Value} {σ' : lm_S} (h : lm_st X (pc, .laload, x, y, w) L S σ = some (g, pc', L', S', σ')) (hg : g)
    (hP : va_P D vwCl (lm_re ad tc σ) H) (hn : σ.2.2.2 ≤ lm_N0) (hS : va_S (fun q => s0.heap.size ≤ q) s.heap H locs) (hL : lm_LS ad L ls (lm_ml i))
    (kk : lm_K s0 ad D tc i p l e R s m args below meth cd c k Z pc' L' S' σ') : W p l e R s m args below meth cd H locs c k Z (F0 m pc ls (S.map (lm_v ad))) := by
  obtain ⟨hV, hi, hx, hb, hret, hml, hown, hnm, hlk, hW, hz1, hz2, hz3, ht1, ht2, hf1, hf2, hc1, hc2⟩ := hC
  obtain ⟨hk, -⟩ := lm_rok_at hi hr
  simp only [lm_rok, Bool.and_eq_true] at hk
  obtain ⟨hd, hk⟩ := hk
  have hK : va_K D vwCl (lm_tys tc) s := va_K.moved hW.alike hV.2.2.1
  simp only [lm_st] at h
  split at h
  · rename_i j a r
    split at h
    · rename_i n ho
      cases h
      obtain ⟨ha, zz, hsh⟩ := lm_ar_spec ho
      exact va_lald hx hb hK hP a 3 (by rw [lm_re_at ha, lm_cell_l hsh]) rfl hg (of_decide_eq_true hd) (kk H locs ls hP hn hS hL)
    · cases h
  · cases h
set_option maxHeartbeats 4000000 in
theorem lm_st_aald (hC : lm_C l s0 args0 ad adV D tc X i d z p R s m meth cd) { x y w : Nat} (hr : lm_row i pc = some (pc, .aaload, x, y, w)) {g : Prop} {pc' : Nat} {L' : lm_L} {S' : List Value} {σ' : lm_S} (h : lm_st X (pc, .aaload, x, y, w) L S σ = some (g, pc', L', S', σ')) (hg : g)
    (hP : va_P D vwCl (lm_re ad tc σ) H) (hn : σ.2.2.2 ≤ lm_N0) (hS : va_S (fun q => s0.heap.size ≤ q) s.heap H locs) (hL : lm_LS ad L ls (lm_ml i))
    (kk : lm_K s0 ad D tc i p l e R s m args below meth cd c k Z pc' L' S' σ') : W p l e R s m args below meth cd H locs c k Z (F0 m pc ls (S.map (lm_v ad))) := by
  obtain ⟨hV, hi, hx, hb, hret, hml, hown, hnm, hlk, hW, hz1, hz2, hz3, ht1, ht2, hf1, hf2, hc1, hc2⟩ := hC
  obtain ⟨hk, -⟩ := lm_rok_at hi hr
  simp only [lm_rok, Bool.and_eq_true] at hk
  obtain ⟨hd, hk⟩ := hk
  have hK : va_K D vwCl (lm_tys tc) s := va_K.moved hW.alike hV.2.2.1
  simp only [lm_st] at h
  split at h
  · rename_i j a r
    split at h
    · rename_i n ho
      cases h
      obtain ⟨ha, zz, hsh⟩ := lm_ar_spec ho
      have kw := kk H locs ls hP hn hS hL
      refine va_aldq hx hb hK hP a 4 (by rw [lm_re_at ha, lm_cell_q hsh]) rfl hg (of_decide_eq_true hd) ?_
      have hq : va_rf ((σ.2.1 a j.toNatClampNeg).map ad) = lm_v ad (va_rf (σ.2.1 a j.toNatClampNeg)) := by cases σ.2.1 a j.toNatClampNeg <;> rfl
      rw [hq]
      exact kw
    · cases h
  · cases h
set_option maxHeartbeats 4000000 in
theorem lm_st_iast (hC : lm_C l s0 args0 ad adV D tc X i d z p R s m meth cd) { x y w : Nat} (hr : lm_row i pc = some (pc, .iastore, x, y, w)) {g : Prop} {pc' : Nat} {L' : lm_L} {S' : List Value} {σ' : lm_S} (h : lm_st X (pc, .iastore, x, y, w) L S σ = some (g, pc', L', S', σ')) (hg : g)
    (hP : va_P D vwCl (lm_re ad tc σ) H) (hn : σ.2.2.2 ≤ lm_N0) (hS : va_S (fun q => s0.heap.size ≤ q) s.heap H locs) (hL : lm_LS ad L ls (lm_ml i))
    (kk : lm_K s0 ad D tc i p l e R s m args below meth cd c k Z pc' L' S' σ') : W p l e R s m args below meth cd H locs c k Z (F0 m pc ls (S.map (lm_v ad))) := by
  obtain ⟨hV, hi, hx, hb, hret, hml, hown, hnm, hlk, hW, hz1, hz2, hz3, ht1, ht2, hf1, hf2, hc1, hc2⟩ := hC
  obtain ⟨hk, -⟩ := lm_rok_at hi hr
  simp only [lm_rok, Bool.and_eq_true] at hk
  obtain ⟨hd, hk⟩ := hk
  have hK : va_K D vwCl (lm_tys tc) s := va_K.moved hW.alike hV.2.2.1
  have hD := lm_D hV hn
  simp only [lm_st] at h
  split at h
  · rename_i v j a r
    split at h
    · rename_i n ho
      cases h
      obtain ⟨ha, zz, hsh⟩ := lm_ar_spec ho
      exact va_iast hx hb hK hP hD hS a 0 (by rw [lm_re_at ha, lm_cell_i hsh (by decide)]) rfl hg (of_decide_eq_true hd) (fun H1 locs1 hP1 _ hS1 => kk H1 locs1 ls (lm_P_set ha rfl hP1 (by rw [lm_cell_i hsh (by decide)]; simp [lm_wr]) (fun b hb => lm_cell_ext (by simp [lm_wr, hb]) rfl rfl)) hn hS1 hL)
    · cases h
  · cases h
set_option maxHeartbeats 4000000 in
theorem lm_st_bast (hC : lm_C l s0 args0 ad adV D tc X i d z p R s m meth cd) { x y w : Nat} (hr : lm_row i pc = some (pc, .bastore, x, y, w)) {g : Prop} {pc' : Nat} {L' : lm_L} {S' : List Value} {σ' : lm_S} (h : lm_st X (pc, .bastore, x, y, w) L S σ = some (g, pc', L', S', σ')) (hg : g)
    (hP : va_P D vwCl (lm_re ad tc σ) H) (hn : σ.2.2.2 ≤ lm_N0) (hS : va_S (fun q => s0.heap.size ≤ q) s.heap H locs) (hL : lm_LS ad L ls (lm_ml i))
    (kk : lm_K s0 ad D tc i p l e R s m args below meth cd c k Z pc' L' S' σ') : W p l e R s m args below meth cd H locs c k Z (F0 m pc ls (S.map (lm_v ad))) := by
  obtain ⟨hV, hi, hx, hb, hret, hml, hown, hnm, hlk, hW, hz1, hz2, hz3, ht1, ht2, hf1, hf2, hc1, hc2⟩ := hC
  obtain ⟨hk, -⟩ := lm_rok_at hi hr
  simp only [lm_rok, Bool.and_eq_true] at hk
  obtain ⟨hd, hk⟩ := hk
  have hK : va_K D vwCl (lm_tys tc) s := va_K.moved hW.alike hV.2.2.1
  have hD := lm_D hV hn
  simp only [lm_st] at h
  split at h
  · rename_i v j a r
    split at h
    · rename_i n ho
      cases h
      obtain ⟨ha, zz, hsh⟩ := lm_ar_spec ho
      exact va_bast hx hb hK hP hD hS a 1 (by rw [lm_re_at ha, lm_cell_i hsh (by decide)]) rfl hg (of_decide_eq_true hd) (fun H1 locs1 hP1 _ hS1 => kk H1 locs1 ls (lm_P_set ha rfl hP1 (by rw [lm_cell_i hsh (by decide)]; simp [lm_wr]) (fun b hb => lm_cell_ext (by simp [lm_wr, hb]) rfl rfl)) hn hS1 hL)
    · rename_i n ho
      cases h
      obtain ⟨ha, zz, hsh⟩ := lm_ar_spec ho
      exact va_zast hx hb hK hP hD hS a 2 (by rw [lm_re_at ha, lm_cell_i hsh (by decide)]) rfl hg (of_decide_eq_true hd) (fun H1 locs1 hP1 _ hS1 => kk H1 locs1 ls (lm_P_set ha rfl hP1 (by rw [lm_cell_i hsh (by decide)]; simp [lm_wr]) (fun b hb => lm_cell_ext (by simp [lm_wr, hb]) rfl rfl)) hn hS1 hL)
    · cases h
  · cases h
set_option maxHeartbeats 4000000 in
theorem lm_st_last (hC : lm_C l s0 args0 ad adV D tc X i d z p R s m meth cd) { x y w : Nat} (hr : lm_row i pc = some (pc, .lastore, x, y, w)) {g : Prop} {pc' : Nat} {L' : lm_L} {S' : List Value} {σ' : lm_S} (h : lm_st X (pc, .lastore, x, y, w) L S σ = some (g, pc', L', S', σ')) (hg : g)
    (hP : va_P D vwCl (lm_re ad tc σ) H) (hn : σ.2.2.2 ≤ lm_N0) (hS : va_S (fun q => s0.heap.size ≤ q) s.heap H locs) (hL : lm_LS ad L ls (lm_ml i))
    (kk : lm_K s0 ad D tc i p l e R s m args below meth cd c k Z pc' L' S' σ') : W p l e R s m args below meth cd H locs c k Z (F0 m pc ls (S.map (lm_v ad))) := by
  obtain ⟨hV, hi, hx, hb, hret, hml, hown, hnm, hlk, hW, hz1, hz2, hz3, ht1, ht2, hf1, hf2, hc1, hc2⟩ := hC
  obtain ⟨hk, -⟩ := lm_rok_at hi hr
  simp only [lm_rok, Bool.and_eq_true] at hk
  obtain ⟨hd, hk⟩ := hk
  have hK : va_K D vwCl (lm_tys tc) s := va_K.moved hW.alike hV.2.2.1
  have hD := lm_D hV hn
  simp only [lm_st] at h
  split at h
  · rename_i v j a r
    split at h
    · rename_i n ho
      cases h
      obtain ⟨ha, zz, hsh⟩ := lm_ar_spec ho
      exact va_last hx hb hK hP hD hS a 3 (by rw [lm_re_at ha, lm_cell_l hsh]) rfl hg (of_decide_eq_true hd) (fun H1 locs1 hP1 _ hS1 => kk H1 locs1 ls (lm_P_set ha rfl hP1 (by rw [lm_cell_l hsh]; simp [lm_wg]) (fun b hb => lm_cell_ext rfl rfl (by simp [lm_wg, hb]))) hn hS1 hL)
    · cases h
  · cases h
set_option maxHeartbeats 4000000 in
theorem lm_st_alen (hC : lm_C l s0 args0 ad adV D tc X i d z p R s m meth cd) { x y w : Nat} (hr : lm_row i pc = some (pc, .arraylength, x, y, w)) {g : Prop} {pc' : Nat} {L' : lm_L} {S' : List Value} {σ' : lm_S} (h : lm_st X (pc, .arraylength, x, y, w) L S σ = some (g, pc', L', S', σ')) (hg : g)
    (hP : va_P D vwCl (lm_re ad tc σ) H) (hn : σ.2.2.2 ≤ lm_N0) (hS : va_S (fun q => s0.heap.size ≤ q) s.heap H locs) (hL : lm_LS ad L ls (lm_ml i))
    (kk : lm_K s0 ad D tc i p l e R s m args below meth cd c k Z pc' L' S' σ') : W p l e R s m args below meth cd H locs c k Z (F0 m pc ls (S.map (lm_v ad))) := by
  obtain ⟨hV, hi, hx, hb, hret, hml, hown, hnm, hlk, hW, hz1, hz2, hz3, ht1, ht2, hf1, hf2, hc1, hc2⟩ := hC
  obtain ⟨hk, -⟩ := lm_rok_at hi hr
  simp only [lm_rok, Bool.and_eq_true] at hk
  obtain ⟨hd, hk⟩ := hk
  have hK : va_K D vwCl (lm_tys tc) s := va_K.moved hW.alike hV.2.2.1
  simp only [lm_st] at h
  split at h
  · rename_i a r
    split at h
    · rename_i ha
      cases h
      have hX := va_X.moved hW.alike hV.2.2.2.2.2.1
      rw [ha]
      exact va_slen (H0 := s.heap) (A := fun q => s0.heap.size ≤ q) hx hb (va_X.kept hX (hz2 _ hV.2.2.2.2.2.2.1)) (Nat.lt_of_lt_of_le hV.2.2.2.2.2.2.1 hz1) (Nat.not_le.mpr hV.2.2.2.2.2.2.1) hS (of_decide_eq_true hd) (kk H locs ls hP hn hS hL)
    · split at h
      · rename_i t n ho
        cases h
        obtain ⟨ha, zz, hsh⟩ := lm_ar_spec ho
        have ht : t < 5 := by have := lm_SH_t _ (List.mem_of_getElem? hsh); simp only at this; omega
        have kw := kk H locs ls hP hn hS hL
        match t, ht, hsh with
        | 0, _, hsh => exact va_alen (v := Int32.ofNat n) hx hb hK hP a 0 (by rw [lm_re_at ha, lm_cell_i hsh (by decide)]) rfl rfl (of_decide_eq_true hd) kw
        | 1, _, hsh => exact va_alen (v := Int32.ofNat n) hx hb hK hP a 1 (by rw [lm_re_at ha, lm_cell_i hsh (by decide)]) rfl rfl (of_decide_eq_true hd) kw
        | 2, _, hsh => exact va_alen (v := Int32.ofNat n) hx hb hK hP a 2 (by rw [lm_re_at ha, lm_cell_i hsh (by decide)]) rfl rfl (of_decide_eq_true hd) kw
        | 3, _, hsh => exact va_alen (v := Int32.ofNat n) hx hb hK hP a 3 (by rw [lm_re_at ha, lm_cell_l hsh]) rfl rfl (of_decide_eq_true hd) kw
        | 4, _, hsh => exact va_alen (v := Int32.ofNat n) hx hb hK hP a 4 (by rw [lm_re_at ha, lm_cell_q hsh]) rfl rfl (of_decide_eq_true hd) kw
      · cases h
  · cases h
end LMH
