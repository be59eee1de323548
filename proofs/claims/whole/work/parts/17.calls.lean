/-! ===== calls ===== -/
def lm_IH (l : Launch) (s0 : State) (args0 : Array Value) (ad adV : Nat → Nat) (D : va_G) (tc : Nat → ClassId) (X : lm_X) (f : Nat) : Prop := ∀ {d i z c k pc : Nat} {L : lm_L} {S : List Value} {σ : lm_S} {Q : lm_O → lm_S → Prop}, lm_ev X f d i z c k pc L S σ Q → ∀ {p : Program} {e : Env} {R : Room} {s : State} {m : MethodId} {args : Array Value} {below : List Frame} {meth : Method} {cd : Code} {Z : State → Prop} {H : Heap} {locs : List Loc} {ls : Array Slot}, lm_C l s0 args0 ad adV D tc X i d z p R s m meth cd →
    (∀ (v : Option Value) (σ' : lm_S) (H' : Heap) (locs' : List Loc) (pc' : Nat) (ls' : Array Slot), Q (.inl v) σ' → va_P D vwCl (lm_re ad tc σ') H' → σ'.2.2.2 ≤ lm_N0 → va_S (lm_A s0) s.heap H' locs' → lm_retok i v pc' → W p l e R s m args below meth cd H' locs' (lm_mc i) (lm_ms i) Z (F0 m pc' ls' (v.toList.map (lm_v ad)))) →
    (∀ (ex : Nat) (σ' : lm_S) (H' : Heap) (locs' : List Loc) (pc' : Nat) (ls' : Array Slot) (rest' : List Value) (q : Addr) (ce : Cell), Q (.inr ex) σ' → ex < 2 → lm_hh i = [] → va_P D vwCl (lm_re ad tc σ') H' → σ'.2.2.2 ≤ lm_N0 → va_S (lm_A s0) s.heap H' locs' → H'[q]? = some ce → ce.vm = .none → s.vm.findClass (lm_xn ex) = some ce.cls → vx_W p l e R s m args below meth cd H' locs' (lm_mc i) (lm_ms i) Z (F0 m pc' ls' rest') q) →
    (∀ (ex : Nat) (σ' : lm_S) (H' : Heap) (locs' : List Loc) (pc' : Nat) (L' : lm_L) (ls' : Array Slot) (idx w c' k' : Nat), lm_row i pc' = some (pc', .new idx, ex, 1, w) → Q (.inr ex) σ' → ex < 2 → va_P D vwCl (lm_re ad tc σ') H' → σ'.2.2.2 = lm_N0 → va_S (lm_A s0) s.heap H' locs' → lm_LS ad L' ls' (lm_ml i) → c' + 1 ≤ lm_mc i → k' + 6 ≤ lm_ms i → W p l e R s m args below meth cd H' locs' c' k' Z (F0 m pc' ls' [])) →
    va_P D vwCl (lm_re ad tc σ) H → σ.2.2.2 ≤ lm_N0 → va_S (lm_A s0) s.heap H locs → lm_LS ad L ls (lm_ml i) → c ≤ lm_mc i → k ≤ lm_ms i → W p l e R s m args below meth cd H locs c k Z (F0 m pc ls (S.map (lm_v ad)))
def lm_hs (hh : List (Nat × Nat × Nat × Nat)) : Bool := match hh with
  | [] => true
  | [(_, _, _, t)] => decide (t = 18) || decide (t = 13)
  | [(a, b, _, t), (a', b', _, t')] => decide (a = a') && decide (b = b') && decide (t = 18) && decide (t' = 13)
  | _ => false
theorem lm_hhok : ∀ e ∈ lm_el, lm_hs e.2.2.2.2.1 = true ∧ (e.2.2.2.2.1 ≠ [] → e.1.cls = "HummedTunesLaw") := by decide +kernel
theorem lm_hw : (Cond.classLink "HummedTunesLaw" 18 "java/util/NoSuchElementException" ∈ lw_tbl ∧ goodWord (Cond.classLink "HummedTunesLaw" 18 "java/util/NoSuchElementException") = true) ∧ (Cond.classLink "HummedTunesLaw" 13 "java/lang/IllegalArgumentException" ∈ lw_tbl ∧ goodWord (Cond.classLink "HummedTunesLaw" 13 "java/lang/IllegalArgumentException") = true) := by decide +kernel
theorem lm_me_in {j : Nat} (h : j < 273) : lm_me j ∈ lm_el := by
  have h1 : j < lm_el.length := by have : lm_el.length = 273 := by decide +kernel
                                   omega
  refine List.mem_of_getElem? (i := j) ?_
  simp [lm_me, List.getD, h1]
section LMC
variable {l : Launch} {s0 : State} {args0 : Array Value} {ad adV : Nat → Nat} {D : va_G} {tc : Nat → ClassId} {X : lm_X} {i d z : Nat} {p : Program} {e : Env} {R : Room} {s : State} {m : MethodId} {args : Array Value} {below : List Frame} {meth : Method} {cd : Code} {H : Heap} {locs : List Loc} {c k pc : Nat} {Z : State → Prop} {L : lm_L} {S : List Value} {σ : lm_S} {ls : Array Slot}
theorem lm_blind {as : List Value} : FrameBlind (va_Pc (as.map (lm_v ad)) (lm_Pw s0 ad D tc σ)) := fun _ _ _ _ h => h
/-- a callee's contract out of the meaning of its body -/
theorem lm_met {f : Nat} (hV : lm_V l s0 args0 ad adV D tc X) (ih : lm_IH l s0 args0 ad adV D tc X f) {j : Nat} {as : List Value} {Q : lm_O → lm_S → Prop} (hj : j < 272) (hev : lm_ev X f d j σ.2.2.2 0 0 0 (lm_en j as) [] σ Q) (hlen : (lm_ls as).length ≤ lm_ml j) :
    vx_Met l (lm_y j) [lm_cw (lm_me j)] (lm_rm j d) (va_Pc (as.map (lm_v ad)) (lm_Pw s0 ad D tc σ)) (lm_Qc s0 ad D tc Q) (lm_XC s0 ad D tc Q) (lm_mc j) (lm_ms j) (lm_A s0) := by
  obtain ⟨k1, k2, k3, k4⟩ := lm_cks j hj
  have hpl : plainName (lm_y j).cls = true := by
    simp only [lm_mok, Bool.and_eq_true] at k3
    exact k3.1.1.1.1.1.1.1.1
  by_cases hh : lm_hh j = []
  · have hcw : lm_cw (lm_me j) = .code (lm_y j) (lm_cc j) (lm_ml j) (lm_rt j) := by
      unfold lm_cw; rw [if_pos (show (lm_me j).2.2.2.2.1 = [] from hh)]; rfl
    refine vx_ofW (cc := lm_cc j) (maxL := lm_ml j) (ret := lm_rt j) (ws' := []) hpl (by rw [hcw]) ?_
    intro p e s m args below meth cd s₁ B hml hex hv
    obtain ⟨rfl, hw, h1, h2, h3, h4, h5⟩ := hv
    have hC : lm_C l s0 args0 ad adV D tc X j d σ.2.2.2 p (lm_rm j d) s m meth cd := ⟨hV, by omega, B.exec, B.bytes, B.returns, hml, findClass_of_methodNamed B.named, fun h => (name_of_methodNamed B.named B.method).1.trans h, B.notSynchronized, hw, h1, h2, h5, fun _ _ => hex, fun h => absurd hh h, Nat.le_refl _, Nat.le_refl _, rfl, rfl⟩
    rw [lg_entry_eq]
    exact ih hev hC (fun v σ' H' locs' pc' ls' hQ hP hn hS hv => vx_ret (lm_ret_sound hC hQ hP hn hS hv))
      (fun ex σ' H' locs' pc' ls' rest' q ce hQ hex2 _ hP hn hS hcell hvm hcl => vx_out (E := lm_xn ex) (fun x hx => (hex x hx).elim) B.notSynchronized hcell hvm hcl (fun t ht _ => ⟨(σ', ex), ⟨hQ, hex2⟩, ⟨rfl, by rw [ht]; exact hP, hn⟩, hS.F ht⟩) hS.2.2 (Nat.le_refl _) (Nat.le_refl _))
      (fun ex σ' H' locs' pc' L' ls' idx w c' k' hr hQ hex2 hP hn hS hL hc hk => lm_th_sound hC hr hQ hex2 hP hn hS hL hc hk)
      h3 h4 va_S.rf (lm_LS_entry hlen) (Nat.zero_le _) (Nat.zero_le _)
  · have hcw : lm_cw (lm_me j) = .codeWith (lm_y j) (lm_cc j) (lm_ml j) (lm_rt j) (lm_hh j) := by
      unfold lm_cw; rw [if_neg (show ¬ (lm_me j).2.2.2.2.1 = [] from hh)]; rfl
    refine vx_ofWH (cc := lm_cc j) (maxL := lm_ml j) (ret := lm_rt j) (hh := lm_hh j) (ws' := []) hpl (by rw [hcw]) ?_
    intro p e s m args below meth cd s₁ B hml hv
    obtain ⟨rfl, hw, h1, h2, h3, h4, h5⟩ := hv
    have htab : cd.exceptionTable.toList = tableOf (lm_hh j) := vx_table (x := lm_y j) B (by
      have := atoms_spec (ws := [lm_cw (lm_me j)]) B.pre _ List.mem_cons_self
      rw [hcw] at this
      exact this)
    have hC : lm_C l s0 args0 ad adV D tc X j d σ.2.2.2 p (lm_rm j d) s m meth cd := ⟨hV, by omega, B.exec, B.bytes, B.returns, hml, findClass_of_methodNamed B.named, fun h => (name_of_methodNamed B.named B.method).1.trans h, B.notSynchronized, hw, h1, h2, h5, fun _ h => absurd h hh, fun _ => htab, Nat.le_refl _, Nat.le_refl _, rfl, rfl⟩
    rw [lg_entry_eq]
    exact ih hev hC (fun v σ' H' locs' pc' ls' hQ hP hn hS hv => vx_ret (lm_ret_sound hC hQ hP hn hS hv))
      (fun ex σ' H' locs' pc' ls' rest' q ce hQ hex2 h9 => absurd h9 hh)
      (fun ex σ' H' locs' pc' L' ls' idx w c' k' hr hQ hex2 hP hn hS hL hc hk => lm_th_sound hC hr hQ hex2 hP hn hS hL hc hk)
      h3 h4 va_S.rf (lm_LS_entry hlen) (Nat.zero_le _) (Nat.zero_le _)
/-- .. of one that doesn't throw -/
theorem lm_metC {f : Nat} (hV : lm_V l s0 args0 ad adV D tc X) (ih : lm_IH l s0 args0 ad adV D tc X f) {j : Nat} {as : List Value} {Q : lm_O → lm_S → Prop} (hj : j < 272) (hev : lm_ev X f d j σ.2.2.2 0 0 0 (lm_en j as) [] σ Q) (hlen : (lm_ls as).length ≤ lm_ml j) (hno : ∀ ex σ', ¬ Q (.inr ex) σ') (hh : lm_hh j = []) :
    Met l (lm_y j) [lm_cw (lm_me j)] (lm_rm j d) (va_Pc (as.map (lm_v ad)) (lm_Pw s0 ad D tc σ)) (lm_Qc s0 ad D tc Q) (lm_mc j) (lm_ms j) (lm_A s0) := by
  obtain ⟨k1, k2, k3, k4⟩ := lm_cks j hj
  have hpl : plainName (lm_y j).cls = true := by
    simp only [lm_mok, Bool.and_eq_true] at k3
    exact k3.1.1.1.1.1.1.1.1
  have hcw : lm_cw (lm_me j) = .code (lm_y j) (lm_cc j) (lm_ml j) (lm_rt j) := by
    unfold lm_cw; rw [if_pos (show (lm_me j).2.2.2.2.1 = [] from hh)]; rfl
  have hcode : ∀ (p : Program) (e : Env) (s : State) (m : MethodId) (args : Array Value) (below : List Frame) (meth : Method) (cd : Code) (s₁ : State), BodyLoose p l (lm_y j) (headSpec [lm_cw (lm_me j)] (lm_rm j d)) (lm_cc j) (lm_ml j) (lm_rt j) e s m args below meth cd s₁ → ∀ x ∈ cd.exceptionTable.toList, False := by
    intro p e s m args below meth cd s₁ B
    obtain ⟨meth9, c9, g1, g2, -, -, -, -, g7, -⟩ := Cond.code_spec B.named (show (Cond.code (lm_y j) (lm_cc j) (lm_ml j) (lm_rt j)).before args s = true from by
      have := atoms_spec (ws := [lm_cw (lm_me j)]) B.pre _ List.mem_cons_self
      rw [hcw] at this
      exact this)
    cases Option.some.inj (g1.symm.trans B.method)
    cases Option.some.inj (g2.symm.trans (Stand.of_body B).code)
    intro x hx
    rw [Array.isEmpty_iff.mp g7] at hx
    cases hx
  refine Met.ofW (cc := lm_cc j) (maxL := lm_ml j) (ret := lm_rt j) (ws' := []) hpl (by rw [hcw]) ?_
  intro p e s m args below meth cd s₁ B hml hv
  have hex := hcode _ _ _ _ _ _ _ _ _ B
  obtain ⟨rfl, hw, h1, h2, h3, h4, h5⟩ := hv
  have hC : lm_C l s0 args0 ad adV D tc X j d σ.2.2.2 p (lm_rm j d) s m meth cd := ⟨hV, by omega, B.exec, B.bytes, B.returns, hml, findClass_of_methodNamed B.named, fun h => (name_of_methodNamed B.named B.method).1.trans h, B.notSynchronized, hw, h1, h2, h5, fun _ _ => hex, fun h => absurd hh h, Nat.le_refl _, Nat.le_refl _, rfl, rfl⟩
  rw [lg_entry_eq]
  exact ih hev hC (fun v σ' H' locs' pc' ls' hQ hP hn hS hv => lm_ret_sound hC hQ hP hn hS hv)
    (fun ex σ' H' locs' pc' ls' rest' q ce hQ => absurd hQ (hno ex σ'))
    (fun ex σ' H' locs' pc' L' ls' idx w c' k' hr hQ => absurd hQ (hno ex σ'))
    h3 h4 va_S.rf (lm_LS_entry hlen) (Nat.zero_le _) (Nat.zero_le _)
/-- the world that a callee begins in -/
theorem lm_pre (hC : lm_C l s0 args0 ad adV D tc X i d z p R s m meth cd) (hP : va_P D vwCl (lm_re ad tc σ) H) (hn : σ.2.2.2 ≤ lm_N0) (hS : va_S (lm_A s0) s.heap H locs) (hsz : H.size ≤ s.heap.size + c) (hzc : σ.2.2.2 = lm_N0 ∨ σ.2.2.2 = z + c) {U : State} (hU : U.heap = H) (hWU : s.WarmedH U.vm) : lm_Pw s0 ad D tc σ U := by
  obtain ⟨hV, hi, hx, hb, hret, hml, hown, hnm, hlk, hW, hz1, hz2, hz3, ht1, ht2, hf1, hf2, hc1, hc2⟩ := hC
  refine ⟨State.WarmedH.trans hW hWU, by rw [hU]; exact Nat.le_trans hz1 hS.1, fun q hq => ?_, by rw [hU]; exact hP, hn, fun hlt => ?_⟩
  · rw [hU, hS.2.1 q (Nat.lt_of_lt_of_le hq hz1) (Nat.not_le.mpr hq)]
    exact hz2 q hq
  · rcases hzc with h | h
    · omega
    · have h1 := hz3 (by omega)
      rw [hV.2.1 z (by omega)] at h1
      rw [hU, hV.2.1 _ hn]
      have h2 : s0.heap.size + σ.2.2.2 ≤ H.size := by
        rcases Nat.eq_zero_or_pos σ.2.2.2 with h3 | h3
        · have := hS.1; omega
        · have h4 := (hP (σ.2.2.2 - 1) _ (lm_re_at (by omega))).lt
          simp only at h4
          rw [hV.2.1 _ (by omega)] at h4
          omega
      omega
end LMC
