/-! ===== behind a call; the main theorem ===== -/
section LMZ
variable {l : Launch} {s0 : State} {args0 : Array Value} {ad adV : Nat → Nat} {D : va_G} {tc : Nat → ClassId} {X : lm_X} {i d z : Nat} {p : Program} {e : Env} {R : Room} {s : State} {m : MethodId} {args : Array Value} {below : List Frame} {meth : Method} {cd : Code} {H : Heap} {locs : List Loc} {c k pc : Nat} {Z : State → Prop} {L : lm_L} {S : List Value} {σ : lm_S} {ls : Array Slot}
theorem lm_run_k {mc ms : Nat} {st0 rest : List Value} {a : Array Value} {Q : lm_O → lm_S → Prop} (hr : vx_Run p l e R s m args below meth cd H locs c k mc ms (F0 m pc ls st0) rest (lm_Qc s0 ad D tc Q a) (lm_XC s0 ad D tc Q) (lm_A s0)) (hS : va_S (lm_A s0) s.heap H locs)
    (kk : ∀ (v : Option Value) (σ' : lm_S) (H1 : Heap) (locs1 : List Loc), (v = none ∨ ∃ x : Int32, v = some (.int x)) → Q (.inl v) σ' → va_P D vwCl (lm_re ad tc σ') H1 → σ'.2.2.2 ≤ lm_N0 → va_S (lm_A s0) s.heap H1 locs1 → W p l e R s m args below meth cd H1 locs1 (c + mc) (k + ms) Z (F0 m (pc + 3) ls (v.toList ++ rest)))
    (kx : ∀ (ex : Nat) (σ' : lm_S) (H1 : Heap) (locs1 : List Loc) (q : Addr) (ce : Cell), Q (.inr ex) σ' → ex < 2 → va_P D vwCl (lm_re ad tc σ') H1 → σ'.2.2.2 ≤ lm_N0 → va_S (lm_A s0) s.heap H1 locs1 → H1[q]? = some ce → ce.vm = .none → s.vm.findClass (lm_xn ex) = some ce.cls → vx_W p l e R s m args below meth cd H1 locs1 (c + mc) (k + ms) Z (F0 m pc ls rest) q) : W p l e R s m args below meth cd H locs c k Z (F0 m pc ls st0) := by
  intro T hT XX
  rcases hr T hT XX with ⟨v, st₀, t, T', L, h0, X', hL, e1, e2, ⟨⟨v', σ', hv, hvt, hq, hb⟩, hF⟩, st⟩ | ⟨q, st₀, t, T', L, E, ce, h0, X', hL, e1, e2, ⟨u, hp, hb, hF⟩, hce, hcv, hcl, st⟩
  · cases hv
    obtain ⟨k1, k2, k3⟩ := vx_keep h0 e1 hS (fun _ _ h => h) (fun _ h => h) hL hF
    obtain ⟨t2, a1, b1⟩ := kk v σ' T'.heap (locs ++ L) hvt hq (by rw [e1]; exact hb.1) hb.2 k3 T' rfl X'
    exact ⟨t2, st t2 a1, b1⟩
  · obtain ⟨k1, k2, k3⟩ := vx_keep h0 e1 hS (fun _ _ h => h) (fun _ h => h) hL hF
    obtain ⟨rfl, hb2⟩ := hb
    obtain ⟨t2, a1, b1⟩ := kx u.2 u.1 T'.heap (locs ++ L) q ce hp.1 hp.2 (by rw [e1]; exact hb2.1) hb2.2 k3 (by rw [e1]; exact hce) hcv hcl T' rfl X'
    exact ⟨t2, st.trans a1, b1⟩
theorem lm_run_c {mc ms : Nat} {st0 rest : List Value} {a : Array Value} {Q : lm_O → lm_S → Prop} (hr : va_Run p l e R s m args below meth cd H locs c k mc ms (F0 m pc ls st0) rest (lm_Qc s0 ad D tc Q a) (lm_A s0)) (hS : va_S (lm_A s0) s.heap H locs)
    (kk : ∀ (v : Option Value) (σ' : lm_S) (H1 : Heap) (locs1 : List Loc), (v = none ∨ ∃ x : Int32, v = some (.int x)) → Q (.inl v) σ' → va_P D vwCl (lm_re ad tc σ') H1 → σ'.2.2.2 ≤ lm_N0 → va_S (lm_A s0) s.heap H1 locs1 → W p l e R s m args below meth cd H1 locs1 (c + mc) (k + ms) Z (F0 m (pc + 3) ls (v.toList ++ rest))) : W p l e R s m args below meth cd H locs c k Z (F0 m pc ls st0) := by
  intro T hT XX
  obtain ⟨v, st₀, t, T', L, h0, X', hL, e1, e2, ⟨⟨v', σ', hv, hvt, hq, hb⟩, hF⟩, st⟩ := hr T hT XX
  cases hv
  obtain ⟨k1, k2, k3⟩ := vx_keep h0 e1 hS (fun _ _ h => h) (fun _ h => h) hL hF
  obtain ⟨t2, a1, b1⟩ := kk v σ' T'.heap (locs ++ L) hvt hq (by rw [e1]; exact hb.1) hb.2 k3 T' rfl X'
  exact ⟨t2, st t2 a1, b1⟩
/-- the handler takes what is thrown -/
theorem lm_catch (hC : lm_C l s0 args0 ad adV D tc X i d z p R s m meth cd) {ex pc' n : Nat} (hha : lm_ha i pc ex = some (pc', n)) (hex : ex < 2) (hnl : lm_nl L n = true) (hnL : n < L.length) {rest : List Value} {q : Addr} {ce : Cell} (hcell : H[q]? = some ce) (hvm : ce.vm = .none) (hcl : s.vm.findClass (lm_xn ex) = some ce.cls)
    (hP : va_P D vwCl (lm_re ad tc σ) H) (hn : σ.2.2.2 ≤ lm_N0) (hS : va_S (lm_A s0) s.heap H locs) (hL : lm_LS ad L ls (lm_ml i)) (kk : lm_K s0 ad D tc i p l e R s m args below meth cd c k Z pc' (L.set n none) [] σ) : vx_W p l e R s m args below meth cd H locs c k Z (F0 m pc ls rest) q := by
  have hC0 := hC
  obtain ⟨hV, hi, hx, hb, hret, hml, hown, hnm, hlk, hW, hz1, hz2, hz3, ht1, ht2, hf1, hf2, hc1, hc2⟩ := hC
  unfold lm_ha at hha
  split at hha
  · rename_i h hfind
    have hmem := List.mem_of_find?_eq_some hfind
    have hprop := List.find?_some hfind
    simp only [Bool.and_eq_true, decide_eq_true_eq] at hprop
    have hne : lm_hh i ≠ [] := fun q => by rw [q] at hmem; cases hmem
    have htab := ht2 hne
    obtain ⟨hsh, hcls⟩ := lm_hhok _ (lm_me_in hi)
    have hcls := hcls hne
    have hown' : s.vm.findClass "HummedTunesLaw" = some m.cls := by rw [← hcls]; exact hown
    -- behind the handler's store
    have hW2 : W p l e R s m args below meth cd H locs c k Z (F0 m h.2.2.1 ls [.ref q]) := by
      split at hha
      · rename_i pc9 kq x9 y9 w9 hrow
        cases hha
        obtain ⟨hk, hpc⟩ := lm_rok_at hi hrow
        simp only at hpc
        subst hpc
        simp only [lm_rok, Bool.and_eq_true] at hk
        exact lv_astore_n hx hb (of_decide_eq_true hk.1) rfl hL.has (by rw [← hL.1]; exact hnL) rfl (fun ls' h' => kk H locs ls' hP hn hS (hL.drop hnL hnl h'))
      · rename_i pc9 kq x9 y9 w9 hrow
        cases hha
        obtain ⟨hk, hpc⟩ := lm_rok_at hi hrow
        simp only at hpc
        subst hpc
        simp only [lm_rok, Bool.and_eq_true] at hk
        exact lv_astore hx hb (of_decide_eq_true hk.1) hL.has (by rw [← hL.1]; exact hnL) rfl (fun ls' h' => kk H locs ls' hP hn hS (hL.drop hnL hnl h'))
      · cases hha
    have hcov : covers (⟨h.1, h.2.1, h.2.2.1, h.2.2.2⟩ : ExceptionTableEntry) pc = true := by
      simp [covers, hprop.1.1, hprop.1.2]
    have hNc : va_Nc "java/lang/IllegalArgumentException" "java/util/NoSuchElementException" s := va_Nc.moved hW.alike hV.2.2.2.2.2.2.2.2.2.2.2
    have hca : (Cond.castable (lm_xn ex) (lm_xn ex)).before args s = true := by
      match ex, hex with
      | 0, _ => exact va_Nw.use rfl (va_Nw.warmC hW (va_Nw.of rfl (hV.1 _ lm_xc.1)))
      | 1, _ => exact va_Nw.use rfl (va_Nw.warmC hW (va_Nw.of rfl (hV.1 _ lm_xc.2.1)))
    have hlk2 : (Cond.classLink "HummedTunesLaw" h.2.2.2 (lm_xn ex)).before args s = true := by
      rw [hprop.2]
      match ex, hex with
      | 0, _ => exact lm_wmem hV hW lm_hw.1 args
      | 1, _ => exact lm_wmem hV hW lm_hw.2 args
    have hh0 : h.2.2.2 ≠ 0 := by rw [hprop.2]; split <;> decide
    have hsh' : lm_hs (lm_hh i) = true := hsh
    revert hfind hmem htab hsh'
    generalize lm_hh i = hl
    intro hfind hmem htab hsh'
    match hl, hsh', hfind, hmem, htab with
    | [h1], _, hfind, hmem, htab =>
      obtain rfl := List.mem_singleton.mp hmem
      exact vx_catch (own := "HummedTunesLaw") (name := lm_xn ex) (E := lm_xn ex) hown' [] ⟨h.1, h.2.1, h.2.2.1, h.2.2.2⟩ [] htab (fun z hz => by cases hz) hcov hh0 hlk2 hca hcell hvm hcl hW2
    | [h1, h2], hsh', hfind, hmem, htab =>
      obtain ⟨a1, b1, c1, t1⟩ := h1
      obtain ⟨a2, b2, c2, t2⟩ := h2
      simp only [lm_hs, Bool.and_eq_true, decide_eq_true_eq] at hsh'
      obtain ⟨⟨⟨rfl, rfl⟩, rfl⟩, rfl⟩ := hsh'
      rcases List.mem_cons.mp hmem with rfl | hmem
      · exact vx_catch (own := "HummedTunesLaw") (name := lm_xn ex) (E := lm_xn ex) hown' [] ⟨a1, b1, c1, 18⟩ [⟨a1, b1, c2, 13⟩] htab (fun z hz => by cases hz) hcov hh0 hlk2 hca hcell hvm hcl hW2
      · obtain rfl := List.mem_singleton.mp hmem
        have hex1 : ex = 1 := by
          match ex, hex with
          | 0, _ => exact absurd hprop.2 (show ¬ (13 = 18) by decide)
          | 1, _ => rfl
        subst hex1
        exact vx_catch (own := "HummedTunesLaw") (name := lm_xn 1) (E := lm_xn 1) hown' [⟨a1, b1, c1, 18⟩] ⟨a1, b1, c2, 13⟩ [] htab (fun z hz => Or.inr (by obtain rfl := List.mem_singleton.mp hz; exact ⟨show (18 : Nat) ≠ 0 by decide, _, lm_wmem hV hW lm_hw.1 args, hNc⟩)) hcov hh0 hlk2 hca hcell hvm hcl hW2
  · cases hha
end LMZ
