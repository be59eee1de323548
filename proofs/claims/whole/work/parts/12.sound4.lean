/-! ===== branches, what is made, the JDK's own ===== -/
section LMB
variable {l : Launch} {s0 : State} {args0 : Array Value} {ad adV : Nat → Nat} {D : va_G} {tc : Nat → ClassId} {X : lm_X} {i d z : Nat} {p : Program} {e : Env} {R : Room} {s : State} {m : MethodId} {args : Array Value} {below : List Frame} {meth : Method} {cd : Code} {H : Heap} {locs : List Loc} {c k pc : Nat} {Z : State → Prop} {L : lm_L} {S : List Value} {σ : lm_S} {ls : Array Slot}
theorem lm_sized {g : JFrame} (kk : H.size ≤ s.heap.size + c → W p l e R s m args below meth cd H locs c k Z g) : W p l e R s m args below meth cd H locs c k Z g := fun T hT XX => kk (by rw [← hT]; exact XX.heapSize) T hT XX
theorem lm_cells {g : JFrame} (kk : c ≤ R.cells → k ≤ R.slots → W p l e R s m args below meth cd H locs c k Z g) (h1 : c ≤ R.cells) (h2 : k ≤ R.slots) : W p l e R s m args below meth cd H locs c k Z g := kk h1 h2
set_option maxHeartbeats 4000000 in
theorem lm_br_sound (hC : lm_C l s0 args0 ad adV D tc X i d z p R s m meth cd) {ins : Instr} {x y w : Nat} (hr : lm_row i pc = some (pc, ins, x, y, w)) {b : Prop} {t : Nat} {S' : List Value} (h : lm_br (pc, ins, x, y, w) S = some (b, t, S'))
    (hP : va_P D vwCl (lm_re ad tc σ) H) (hn : σ.2.2.2 ≤ lm_N0) (hS : va_S (fun q => s0.heap.size ≤ q) s.heap H locs) (hL : lm_LS ad L ls (lm_ml i))
    (kt : b → lm_K s0 ad D tc i p l e R s m args below meth cd c k Z t L S' σ) (kf : ¬ b → lm_K s0 ad D tc i p l e R s m args below meth cd c k Z (pc + 3) L S' σ) : W p l e R s m args below meth cd H locs c k Z (F0 m pc ls (S.map (lm_v ad))) := by
  obtain ⟨hV, hi, hx, hb, hret, hml, hown, hnm, hlk, hW, hz1, hz2, hz3, ht1, ht2, hf1, hf2, hc1, hc2⟩ := hC
  obtain ⟨hk, -⟩ := lm_rok_at hi hr
  simp only [lm_rok, Bool.and_eq_true] at hk
  obtain ⟨hd, hk⟩ := hk
  cases ins <;> simp only [lm_br] at h <;> first
    | (cases h; done)
    | skip
  case ifCond cnd o =>
    split at h
    · cases h
      have hd := of_decide_eq_true hd
      have ht := of_decide_eq_true hk
      cases cnd
      · exact lv_if_eq hx hb hd ht (fun q => kt q H locs ls hP hn hS hL) (fun q => kf q H locs ls hP hn hS hL)
      · exact lv_if_ne hx hb hd ht (fun q => kt q H locs ls hP hn hS hL) (fun q => kf (fun qq => qq q) H locs ls hP hn hS hL)
      · exact lv_if_lt hx hb hd ht (fun q => kt q H locs ls hP hn hS hL) (fun q => kf q H locs ls hP hn hS hL)
      · exact lv_if_ge hx hb hd ht (fun q => kt q H locs ls hP hn hS hL) (fun q => kf q H locs ls hP hn hS hL)
      · exact lv_if_gt hx hb hd ht (fun q => kt q H locs ls hP hn hS hL) (fun q => kf q H locs ls hP hn hS hL)
      · exact lv_if_le hx hb hd ht (fun q => kt q H locs ls hP hn hS hL) (fun q => kf q H locs ls hP hn hS hL)
    · cases h
  case if_icmp cnd o =>
    split at h
    · cases h
      have hd := of_decide_eq_true hd
      have ht := of_decide_eq_true hk
      cases cnd
      · exact lv_icmp_eq hx hb hd ht (fun q => kt q H locs ls hP hn hS hL) (fun q => kf q H locs ls hP hn hS hL)
      · exact lv_icmp_ne hx hb hd ht (fun q => kt q H locs ls hP hn hS hL) (fun q => kf (fun qq => qq q) H locs ls hP hn hS hL)
      · exact lv_icmp_lt hx hb hd ht (fun q => kt q H locs ls hP hn hS hL) (fun q => kf q H locs ls hP hn hS hL)
      · exact lv_icmp_ge hx hb hd ht (fun q => kt q H locs ls hP hn hS hL) (fun q => kf q H locs ls hP hn hS hL)
      · exact lv_icmp_gt hx hb hd ht (fun q => kt q H locs ls hP hn hS hL) (fun q => kf q H locs ls hP hn hS hL)
      · exact lv_icmp_le hx hb hd ht (fun q => kt q H locs ls hP hn hS hL) (fun q => kf q H locs ls hP hn hS hL)
    · cases h
/-- a new cell lies just behind the others -/
theorem lm_fresh (hV : lm_V l s0 args0 ad adV D tc X) (hn : σ.2.2.2 < lm_N0) {q : Nat} {E : va_E} {H1 : Heap} (hP1 : va_P D vwCl (lm_re ad tc σ ++ [(q, E)]) H1) (hD1 : va_D (fun q => s0.heap.size ≤ q) (lm_re ad tc σ ++ [(q, E)])) (hsz : H1.size ≤ s0.heap.size + σ.2.2.2 + 1) : q = ad σ.2.2.2 := by
  have hlen : (lm_re ad tc σ).length = σ.2.2.2 := by simp [lm_re]
  have h1 : (lm_re ad tc σ ++ [(q, E)])[σ.2.2.2]? = some (q, E) := by
    rw [List.getElem?_append_right (by rw [hlen]; exact Nat.le_refl _), hlen, Nat.sub_self]; rfl
  have h2 : q < H1.size := (hP1 _ _ h1).lt
  have h3 : s0.heap.size ≤ q := hD1.2 _ _ h1
  rw [hV.2.1 _ (Nat.le_of_lt hn)]
  rcases Nat.lt_or_ge q (s0.heap.size + σ.2.2.2) with h4 | h4
  · have h5 : q - s0.heap.size < σ.2.2.2 := by omega
    have h6 : (lm_re ad tc σ ++ [(q, E)])[q - s0.heap.size]? = some (ad (q - s0.heap.size), lm_cell ad tc σ (q - s0.heap.size)) := by
      rw [List.getElem?_append_left (by rw [hlen]; exact h5), lm_re_at h5]
    have h7 := hD1.1 _ _ _ _ h1 h6 (by simp only; rw [hV.2.1 _ (by omega)]; omega)
    omega
  · omega
theorem lm_P_push {q : Nat} {E : va_E} {H1 : Heap} (hP1 : va_P D vwCl (lm_re ad tc σ ++ [(q, E)]) H1) (hq : q = ad σ.2.2.2) (hE : lm_cell ad tc (lm_0 σ) σ.2.2.2 = E) : va_P D vwCl (lm_re ad tc (lm_0 σ)) H1 := by
  have hlen : (lm_re ad tc σ).length = σ.2.2.2 := by simp [lm_re]
  intro k9 x hk
  obtain ⟨h1, rfl⟩ := lm_re_of hk
  have h1' : k9 < σ.2.2.2 + 1 := h1
  by_cases hkn : k9 = σ.2.2.2
  · subst hkn
    refine hP1 σ.2.2.2 _ ?_
    rw [List.getElem?_append_right (by rw [hlen]; exact Nat.le_refl _), hlen, Nat.sub_self, hE, ← hq]; rfl
  · have h2 : k9 < σ.2.2.2 := by omega
    refine hP1 k9 _ ?_
    rw [List.getElem?_append_left (by rw [hlen]; exact h2), lm_re_at h2, lm_cell_ext (σ' := lm_0 σ) (σ := σ) (by simp [lm_0, hkn]) (by simp [lm_0, hkn]) (by simp [lm_0, hkn])]
end LMB
