/-! ===== THE MAIN THEOREM: what the light machine means, the machine does ===== -/
set_option maxHeartbeats 4000000 in
theorem lm_main {l : Launch} {s0 : State} {args0 : Array Value} {ad adV : Nat → Nat} {D : va_G} {tc : Nat → ClassId} {X : lm_X} : ∀ f : Nat, lm_IH l s0 args0 ad adV D tc X f := by
  intro f
  induction f with
  | zero =>
    intro d i z c k pc L S σ Q h
    exact h.elim
  | succ f ih =>
    intro d i z c k pc L S σ Q h p e R s m args below meth cd Z H locs ls hC hret hthr hth hP hn hS hL hc hk
    have hi : i < 273 := hC.2.1
    have hR1 : R.cells = lm_mc i := hC.2.2.2.2.2.2.2.2.2.2.2.2.2.2.2.2.2.1
    simp only [lm_ev] at h
    split at h
    · exact h.elim
    · rename_i r hr
      have hpc := (lm_rok_at hi hr).2
      split at h
      · rename_i g pc' L' S' σ' hst
        exact lm_st_sound hC hr hst h.1 h.2.1 hc hk hP hn hS hL (fun H locs ls hP hn hS hL => ih h.2.2 hC hret hthr hth hP hn hS hL hc hk)
      · split at h
        · rename_i b t S' hbr
          obtain ⟨pc0, ins, x, y, w⟩ := r
          simp only at hpc
          subst hpc
          exact lm_br_sound hC hr hbr hP hn hS hL (fun hb H locs ls hP hn hS hL => ih (h.1 hb) hC hret hthr hth hP hn hS hL hc hk) (fun hb H locs ls hP hn hS hL => ih (h.2 hb) hC hret hthr hth hP hn hS hL hc hk)
        · split at h
          · rename_i N pc' S' σ' hal
            obtain ⟨pc0, ins, x, y, w⟩ := r
            simp only at hpc
            subst hpc
            exact lm_al_sound hC hr hal h.1 h.2.1 h.2.2.1 h.2.2.2.1 hP hS hL (fun H locs ls hP hn hS hL => ih h.2.2.2.2 hC hret hthr hth hP hn hS hL h.2.2.1 h.2.2.2.1)
          · split at h
            · rename_i j as rest hca
              split at h
              · exact h.elim
              · rename_i d' 
                obtain ⟨h1, h2, h3, h4, h5, h6, h7⟩ := h
                refine lm_ca_sound hC ih hr hca h1 h2 h3 h4 h5 h6 h7 (fun hkd ex σ' hq => by obtain ⟨σ2, -, hq⟩ := hq; exact hq.1 hkd) hP hn hS hL (fun v σ' hv hq H1 locs1 ls1 hP1 hn1 hS1 hL1 => by obtain ⟨σ2, hrq, hq⟩ := hq; exact ih hq hC hret hthr hth (lm_rq_P hrq hP1) (by rw [hrq.2.1]; exact hn1) hS1 hL1 h2 h3) ?_
                intro ex σ' H1 locs1 q ce hq hex hP1 hn1 hS1 hcell hvm hcl
                obtain ⟨σ2, hrq, -, hq⟩ := hq
                have hP1 := lm_rq_P hrq hP1
                have hn1 : σ2.2.2.2 ≤ lm_N0 := by rw [hrq.2.1]; exact hn1
                split at hq
                · rename_i pc' n hha
                  exact lm_catch hC hha hex hq.1 hq.2.1 hcell hvm hcl hP1 hn1 hS1 hL (fun H2 locs2 ls2 hP2 hn2 hS2 hL2 => ih hq.2.2 hC hret hthr hth hP2 hn2 hS2 hL2 h2 h3)
                · exact vx_widen h2 h3 (hthr ex σ2 H1 locs1 pc ls _ q ce hq.2 hex hq.1 hP1 hn1 hS1 hcell hvm hcl)
            · split at h
              · rename_i g v hrn
                refine W.widen h.2.1 h.2.2.1 ?_
                obtain ⟨pc0, ins, x, y, w⟩ := r
                simp only at hpc
                subst hpc
                have hk9 := (lm_rok_at hi hr).1
                simp only [lm_rok, Bool.and_eq_true] at hk9
                have hd := hk9.1
                unfold lm_rn at hrn
                split at hrn
                · rename_i hins
                  simp only at hins
                  subst hins
                  split at hrn
                  · split at hrn
                    · rename_i x9 hrt
                      cases hrn
                      exact hret _ σ H locs _ ls h.2.2.2 hP hn hS (Or.inr ⟨_, rfl, Or.inl hrt, of_decide_eq_true hd⟩)
                    · rename_i x9 hrt
                      cases hrn
                      exact hret _ σ H locs _ ls h.2.2.2 hP hn hS (Or.inr ⟨_, rfl, Or.inr ⟨hrt, h.1⟩, of_decide_eq_true hd⟩)
                    · cases hrn
                  · cases hrn
                · rename_i hins
                  simp only at hins
                  subst hins
                  split at hrn
                  · split at hrn
                    · rename_i hrt
                      cases hrn
                      exact hret _ σ H locs _ ls h.2.2.2 hP hn hS (Or.inl ⟨hrt, rfl, of_decide_eq_true hd⟩)
                    · cases hrn
                  · cases hrn
                · cases hrn
              · split at h
                · rename_i ex hth9
                  obtain ⟨h1, h2, h3, h4, h5, rfl, h7⟩ := h
                  obtain ⟨pc0, ins, x, y, w⟩ := r
                  simp only at hpc
                  subst hpc
                  unfold lm_th at hth9
                  cases ins <;> simp only at hth9 <;> first
                    | (cases hth9; done)
                    | skip
                  case new idx =>
                    split at hth9
                    · rename_i hy
                      subst hy
                      cases hth9
                      exact hth _ σ H locs _ L ls _ w c k hr h7 h3 hP h1 hS hL h4 h5
                    · cases hth9
                · exact h.elim
