/-! ===== what is made ===== -/
theorem lm_words2 : Cond.arrayClass .int ∈ lw_tbl ∧ Cond.arrayClass .byte ∈ lw_tbl ∧ Cond.arrayClass .boolean ∈ lw_tbl ∧ Cond.arrayClass .long ∈ lw_tbl := by decide +kernel
section LMA
variable {l : Launch} {s0 : State} {args0 : Array Value} {ad adV : Nat → Nat} {D : va_G} {tc : Nat → ClassId} {X : lm_X} {i d z : Nat} {p : Program} {e : Env} {R : Room} {s : State} {m : MethodId} {args : Array Value} {below : List Frame} {meth : Method} {cd : Code} {H : Heap} {locs : List Loc} {c k pc : Nat} {Z : State → Prop} {L : lm_L} {S : List Value} {σ : lm_S} {ls : Array Slot}
theorem lm_vpV {fs : List Value} {j : Nat} {v : Value} (h : fs[j]? = some v) : vp_V fs j = v := by simp [vp_V, List.getD, h]
theorem lm_cell_0i {t n : Nat} {zz : List Nat} (h : lm_SH[σ.2.2.2]? = some (t + 1, n, zz)) (ht : t < 3) : lm_cell ad tc (lm_0 σ) σ.2.2.2 = .inl (tc t, n, .inl (fun _ => 0)) := by
  rw [lm_cell_i h ht]; simp [lm_0]
theorem lm_cell_0l {n : Nat} {zz : List Nat} (h : lm_SH[σ.2.2.2]? = some (3 + 1, n, zz)) : lm_cell ad tc (lm_0 σ) σ.2.2.2 = .inl (tc 3, n, .inr (.inl (fun _ => 0))) := by
  rw [lm_cell_l h]; simp [lm_0]
theorem lm_cell_0q {n : Nat} {zz : List Nat} (h : lm_SH[σ.2.2.2]? = some (4 + 1, n, zz)) : lm_cell ad tc (lm_0 σ) σ.2.2.2 = .inl (tc 4, n, .inr (.inr (.inr (.inr (fun _ => none))))) := by
  rw [lm_cell_q h]; simp [lm_0]
theorem lm_clamp {n : Int32} {N : Nat} (h : n = Int32.ofNat N) (hN : N < 100000) : ¬ n < 0 ∧ n.toNatClampNeg = N := by
  subst h
  exact ⟨nI_pos (n := N) (by omega), nI_clamp (n := N) (by omega)⟩
/-- behind a new cell -/
theorem lm_al_k (hC : lm_C l s0 args0 ad adV D tc X i d z p R s m meth cd) (hn : σ.2.2.2 < lm_N0) (hzc : σ.2.2.2 = z + c) {pc' N q : Nat} {r : List Value} {E : va_E} {H1 : Heap} (hL : lm_LS ad L ls (lm_ml i)) (hP1 : va_P D vwCl (lm_re ad tc σ ++ [(q, E)]) H1) (hD1 : va_D (fun q => s0.heap.size ≤ q) (lm_re ad tc σ ++ [(q, E)])) (hS1 : va_S (fun q => s0.heap.size ≤ q) s.heap H1 locs) (hE : lm_cell ad tc (lm_0 σ) σ.2.2.2 = E)
    (kk : lm_K s0 ad D tc i p l e R s m args below meth cd (c + 1) (k + N) Z pc' L (.ref σ.2.2.2 :: r) (lm_0 σ)) : W p l e R s m args below meth cd H1 locs (c + 1) (k + N) Z (F0 m pc' ls (.ref q :: r.map (lm_v ad))) := by
  obtain ⟨hV, hi, hx, hb, hret, hml, hown, hnm, hlk, hW, hz1, hz2, hz3, ht1, ht2, hf1, hf2, hc1, hc2⟩ := hC
  refine lm_sized fun hsz => ?_
  have hs : s.heap.size = s0.heap.size + z := by
    have h1 := hz3 (by omega)
    rw [hV.2.1 z (by omega)] at h1
    exact h1
  have hq := lm_fresh hV hn hP1 hD1 (by omega)
  subst hq
  exact kk H1 locs ls (lm_P_push hP1 rfl hE) (by show σ.2.2.2 + 1 ≤ lm_N0; omega) hS1 hL
set_option maxHeartbeats 4000000 in
theorem lm_al_sound (hC : lm_C l s0 args0 ad adV D tc X i d z p R s m meth cd) {ins : Instr} {x y w : Nat} (hr : lm_row i pc = some (pc, ins, x, y, w)) {N pc' : Nat} {S' : List Value} {σ' : lm_S} (h : lm_al (pc, ins, x, y, w) S σ = some (N, pc', S', σ'))
    (hn : σ.2.2.2 < lm_N0) (hzc : σ.2.2.2 = z + c) (hcc : c + 1 ≤ lm_mc i) (hkk : k + N ≤ lm_ms i)
    (hP : va_P D vwCl (lm_re ad tc σ) H) (hS : va_S (fun q => s0.heap.size ≤ q) s.heap H locs) (hL : lm_LS ad L ls (lm_ml i))
    (kk : lm_K s0 ad D tc i p l e R s m args below meth cd (c + 1) (k + N) Z pc' L S' σ') : W p l e R s m args below meth cd H locs c k Z (F0 m pc ls (S.map (lm_v ad))) := by
  have hC0 := hC
  obtain ⟨hV, hi, hx, hb, hret, hml, hown, hnm, hlk, hW, hz1, hz2, hz3, ht1, ht2, hf1, hf2, hc1, hc2⟩ := hC
  obtain ⟨hk, -⟩ := lm_rok_at hi hr
  simp only [lm_rok, Bool.and_eq_true] at hk
  obtain ⟨hd, hk⟩ := hk
  have hK : va_K D vwCl (lm_tys tc) s := va_K.moved hW.alike hV.2.2.1
  have hD := lm_D hV (Nat.le_of_lt hn)
  have hA : ∀ q : Nat, s.heap.size ≤ q → s0.heap.size ≤ q := fun q h => Nat.le_trans hz1 h
  cases ins <;> simp only [lm_al] at h <;> first
    | (cases h; done)
    | skip
  case new idx =>
    split at h
    · rename_i hy
      simp only at hk
      rw [if_pos hy] at hk
      split at h
      · rename_i ci ks hsh
        split at h
        · rename_i hcx
          subst hcx
          cases h
          split at hk
          · rename_i C T N9 hc
            have hN9 : ks.length = N9 := by
              obtain ⟨g1, g2⟩ := lm_SH_ok _ (List.mem_of_getElem? hsh) rfl
              have g3 := lm_kn_len ci g2 _ hc
              simp only at g1 g3
              rw [← g3]; simp [List.getD, g1]
            subst hN9
            have hts : ∀ w ∈ u_ws C T ks.length, w.before args s = true := fun w hw => lm_wmem hV hW (lm_lays _ (List.mem_of_getElem? hc) w hw) args
            have hin := lm_inst _ (List.mem_of_getElem? hc)
            refine va_new (ci := ci) (fs := lm_sl ad (lm_0 σ) σ.2.2.2 ks) (C := C) (T := T) (N := ks.length) hx hb hts (fun _ h => h) (lm_ty ci) (lm_cls_ty hc).1 hown (lm_word hV hW hk args) (lm_wmem hV hW ⟨hin.1, hin.2.1⟩ args) (lm_wmem hV hW ⟨hin.2.2.1, hin.2.2.2⟩ args) hK hP hD hS hA hc ?_ (by omega) (by omega) (of_decide_eq_true hd) (fun q H1 hP1 hD1 hS1 => lm_al_k hC0 hn hzc hL hP1 hD1 hS1 (lm_cell_o hsh) kk)
            intro j hj
            have hj2 : ks[j]? = some (ks[j]) := List.getElem?_eq_getElem hj
            rw [lm_vpV (lm_sl_at hj2)]
            have hty := (lm_kd_of hsh hj2).1
            generalize hkj : ks[j] = t at hty
            match t, hty with
            | 0, hty => rw [of_decide_eq_true hty]; simp [lm_0]; rfl
            | 1, hty => rw [of_decide_eq_true hty]; simp [lm_0]; rfl
            | 2, hty =>
              have hty : lm_isR (lm_ty ci j) = true := hty
              cases hq : lm_ty ci j <;> rw [hq] at hty <;> first | (simp [lm_0, va_rf]; rfl) | (cases hty)
          · cases hk
        · cases h
      · cases h
    · cases h
  case newarray t =>
    split at h
    · split at h
      · rename_i kq len zz hsh
        split at h
        · rename_i hcnd
          cases h
          obtain ⟨hq1, hq2⟩ := lm_clamp hcnd.1 hcnd.2.1
          have hnum := hcnd.2.1
          cases t <;> simp only [lm_aty] at hcnd <;> first
            | (exfalso; simp at hcnd; done)
            | skip
          case int =>
            obtain rfl : 0 = kq := Option.some.inj hcnd.2.2
            refine va_newa (atype := .int) (ty := .int) (a0 := (N, .inl (fun _ => 0))) hx hb (lm_wmem hV hW ⟨lm_words2.1, rfl⟩ args) rfl hK hP hD hS hA (fun _ => rfl) hq1 hq2 (by show N * 4 ≤ _; omega) (by omega) (by omega) (of_decide_eq_true hd) (fun q cA H1 hK1 hP1 hD1 hS1 => lm_al_k hC0 hn hzc hL hP1 hD1 hS1 ?_ kk)
            have e1 : s.vm.findClass _ = some cA := (hK1.2 5 _ rfl).2
            have e2 : s.vm.findClass _ = some (tc 0) := (hK.2 0 _ rfl).2
            cases Option.some.inj (e1.symm.trans e2)
            exact lm_cell_0i hsh (by decide)
          case byte =>
            obtain rfl : 1 = kq := Option.some.inj hcnd.2.2
            refine va_newa (atype := .byte) (ty := .byte) (a0 := (N, .inl (fun _ => 0))) hx hb (lm_wmem hV hW ⟨lm_words2.2.1, rfl⟩ args) rfl hK hP hD hS hA (fun _ => rfl) hq1 hq2 (by show N * 1 ≤ _; omega) (by omega) (by omega) (of_decide_eq_true hd) (fun q cA H1 hK1 hP1 hD1 hS1 => lm_al_k hC0 hn hzc hL hP1 hD1 hS1 ?_ kk)
            have e1 : s.vm.findClass _ = some cA := (hK1.2 5 _ rfl).2
            have e2 : s.vm.findClass _ = some (tc 1) := (hK.2 1 _ rfl).2
            cases Option.some.inj (e1.symm.trans e2)
            exact lm_cell_0i hsh (by decide)
          case boolean =>
            obtain rfl : 2 = kq := Option.some.inj hcnd.2.2
            refine va_newa (atype := .boolean) (ty := .boolean) (a0 := (N, .inl (fun _ => 0))) hx hb (lm_wmem hV hW ⟨lm_words2.2.2.1, rfl⟩ args) rfl hK hP hD hS hA (fun _ => rfl) hq1 hq2 (by show N * 1 ≤ _; omega) (by omega) (by omega) (of_decide_eq_true hd) (fun q cA H1 hK1 hP1 hD1 hS1 => lm_al_k hC0 hn hzc hL hP1 hD1 hS1 ?_ kk)
            have e1 : s.vm.findClass _ = some cA := (hK1.2 5 _ rfl).2
            have e2 : s.vm.findClass _ = some (tc 2) := (hK.2 2 _ rfl).2
            cases Option.some.inj (e1.symm.trans e2)
            exact lm_cell_0i hsh (by decide)
          case long =>
            obtain rfl : 3 = kq := Option.some.inj hcnd.2.2
            refine va_newa (atype := .long) (ty := .long) (a0 := (N, .inr (.inl (fun _ => 0)))) hx hb (lm_wmem hV hW ⟨lm_words2.2.2.2, rfl⟩ args) rfl hK hP hD hS hA (fun _ => rfl) hq1 hq2 (by show N * 8 ≤ _; omega) (by omega) (by omega) (of_decide_eq_true hd) (fun q cA H1 hK1 hP1 hD1 hS1 => lm_al_k hC0 hn hzc hL hP1 hD1 hS1 ?_ kk)
            have e1 : s.vm.findClass _ = some cA := (hK1.2 5 _ rfl).2
            have e2 : s.vm.findClass _ = some (tc 3) := (hK.2 3 _ rfl).2
            cases Option.some.inj (e1.symm.trans e2)
            exact lm_cell_0l hsh
        · cases h
      · cases h
    · cases h
  case anewarray idx =>
    split at h
    · split at h
      · rename_i len zz hsh
        split at h
        · rename_i hcnd
          cases h
          obtain ⟨hq1, hq2⟩ := lm_clamp hcnd.1 hcnd.2
          have hnum := hcnd.2
          refine va_newq (C := "java/lang/String") hx hb hown (lm_word hV hW hk args) (va_AO.moved hW.alike hV.2.2.2.2.2.2.2.2.2.2.1) hK hP hD hS hA hq1 hq2 (by omega) (by omega) (by omega) (of_decide_eq_true hd) (fun q cA H1 hK1 hP1 hD1 hS1 => lm_al_k hC0 hn hzc hL hP1 hD1 hS1 ?_ kk)
          obtain ⟨kA, comp, g1, g2, g3, g4⟩ := (hK1.2 5 _ rfl).2
          obtain ⟨kA2, comp2, g5, g6, g7, g8⟩ := (hK.2 4 _ rfl).2
          cases Option.some.inj (g4.symm.trans g8)
          exact lm_cell_0q hsh
        · cases h
      · cases h
    · cases h
end LMA
