/-! ===== THE LIGHT MACHINE IS SOUND ===== -/
section LMM
variable {l : Launch} {s0 : State} {args0 : Array Value} {ad adV : Nat → Nat} {D : va_G} {tc : Nat → ClassId} {X : lm_X} {i d z : Nat} {p : Program} {e : Env} {R : Room} {s : State} {m : MethodId} {args : Array Value} {below : List Frame} {meth : Method} {cd : Code} {H : Heap} {locs : List Loc} {c k pc : Nat} {Z : State → Prop} {L : lm_L} {S : List Value} {σ : lm_S} {ls : Array Slot}
/-- one instruction that goes on to one next -/
theorem lm_st_sound (hC : lm_C l s0 args0 ad adV D tc X i d z p R s m meth cd) {r : lm_R} (hr : lm_row i pc = some r) {g : Prop} {pc' : Nat} {L' : lm_L} {S' : List Value} {σ' : lm_S} (h : lm_st X r L S σ = some (g, pc', L', S', σ')) (hg : g) (hgd : lm_gd r S) (hc : c ≤ lm_mc i) (hkm : k ≤ lm_ms i)
    (hP : va_P D vwCl (lm_re ad tc σ) H) (hn : σ.2.2.2 ≤ lm_N0) (hS : va_S (fun q => s0.heap.size ≤ q) s.heap H locs) (hL : lm_LS ad L ls (lm_ml i))
    (kk : lm_K s0 ad D tc i p l e R s m args below meth cd c k Z pc' L' S' σ') : W p l e R s m args below meth cd H locs c k Z (F0 m pc ls (S.map (lm_v ad))) := by
  obtain ⟨pc0, ins, x, y, w⟩ := r
  have h0 : pc0 = pc := (lm_rok_at hC.2.1 hr).2
  subst h0
  by_cases hcase : (∀ idx, ins ≠ .ldc idx) ∧ (∀ idx, ins ≠ .ldc_w idx) ∧ (∀ idx, ins ≠ .getfield idx) ∧ (∀ idx, ins ≠ .putfield idx) ∧ (∀ idx, ins ≠ .invokestatic idx) ∧ (∀ idx, ins ≠ .invokevirtual idx) ∧ (∀ idx, ins ≠ .invokespecial idx) ∧ ins ≠ .iaload ∧ ins ≠ .baload ∧ ins ≠ .laload ∧ ins ≠ .aaload ∧ ins ≠ .iastore ∧ ins ≠ .bastore ∧ ins ≠ .lastore ∧ ins ≠ .aastore ∧ ins ≠ .arraylength ∧ ins ≠ .dup ∧ ins ≠ .dup2 ∧ ins ≠ .pop ∧ (∀ a b c d, ins ≠ .tableswitch a b c d) ∧ (∀ a b, ins ≠ .lookupswitch a b)
  · exact lm_st_a hC hr h hg hP hn hS hL kk hcase
  · have hk := (lm_rok_at hC.2.1 hr).1
    simp only [lm_rok, Bool.and_eq_true] at hk
    obtain ⟨hd, hk⟩ := hk
    have hcok : ∀ {idx st : Nat}, lm_cok (lm_me i).1.cls idx x y w st = true → lm_bi y pc0 L S σ = some (g, pc', L', S', σ') → lm_bok (lm_me i).1.cls idx y w st = true := by
      intro idx st h1 h2
      unfold lm_cok at h1
      by_cases e0 : y = 0
      · subst e0; cases h2
      · rw [if_neg e0] at h1
        by_cases e8 : y = 8
        · subst e8; cases h2
        · rw [if_neg e8] at h1
          by_cases e9 : y = 9
          · subst e9; cases h2
          · rw [if_neg e9] at h1; exact h1
    cases ins <;> first
      | (exact lm_st_ldc hC hr h hg hP hn hS hL kk)
      | (exact lm_st_ldcw hC hr h hg hP hn hS hL kk)
      | (exact lm_st_get hC hr h hP hn hS hL kk)
      | (exact lm_st_put hC hr h hg hP hn hS hL kk)
      | (exact lm_st_iald hC hr h hg hP hn hS hL kk)
      | (exact lm_st_bald hC hr h hg hP hn hS hL kk)
      | (exact lm_st_lald hC hr h hg hP hn hS hL kk)
      | (exact lm_st_aald hC hr h hg hP hn hS hL kk)
      | (exact lm_st_iast hC hr h hg hP hn hS hL kk)
      | (exact lm_st_bast hC hr h hg hP hn hS hL kk)
      | (exact lm_st_last hC hr h hg hP hn hS hL kk)
      | (exact lm_st_aast hC hr h hg hP hn hS hL kk)
      | (exact lm_st_alen hC hr h hg hP hn hS hL kk)
      | (exact lm_st_dup hC hr h hg hP hn hS hL kk)
      | (exact lm_st_dup2 hC hr h hg hP hn hS hL kk)
      | (exact lm_st_pop hC hr h hg hP hn hS hL kk)
      | (exact lm_st_tsw hC hr h hg hP hn hS hL kk)
      | (exact lm_st_lsw hC hr h hg hP hn hS hL kk)
      | (exact lm_bi_s hC (of_decide_eq_true hd) (hcok hk h) h hg hgd hc hkm hP hn hS hL kk)
      | (exact lm_bi_v hC (of_decide_eq_true hd) (hcok hk h) h hg hgd hc hkm hP hn hS hL kk)
      | (exact lm_bi_o hC (of_decide_eq_true hd) (hcok hk h) h hgd hP hn hS hL kk)
      | (exfalso; apply hcase; simp; done)
end LMM
