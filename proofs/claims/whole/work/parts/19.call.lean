/-! ===== the call's row ===== -/
theorem lm_key (d a : Nat) (h : a ≤ 30) : 8 + (a + 11) + (60 * d + 1000) ≤ 60 * (d + 1) + 1000 := by omega
theorem lm_rv_0 {j : Nat} {as : List Value} {σ : lm_S} (hk : lm_kd j = 0) (h : lm_rv j as σ = true) : ∃ a as' ks, as = .ref a :: as' ∧ a < σ.2.2.2 ∧ lm_SH[a]? = some (0, lm_cil.getD j 99, ks) := by
  unfold lm_rv at h
  rw [hk] at h
  simp only at h
  split at h
  · rename_i a as'
    simp only [Bool.and_eq_true, decide_eq_true_eq] at h
    obtain ⟨ha, hsh⟩ := h
    split at hsh
    · rename_i ci ks hsh2
      rw [of_decide_eq_true hsh] at hsh2
      exact ⟨a, as', ks, rfl, ha, hsh2⟩
    · cases hsh
  · cases h
theorem lm_rv_2 {j : Nat} {as : List Value} {σ : lm_S} (hk : lm_kd j = 2) (h : lm_rv j as σ = true) : ∃ a as', as = .ref a :: as' := by
  unfold lm_rv at h
  rw [hk] at h
  simp only at h
  split at h
  · exact ⟨_, _, rfl⟩
  · cases h
section LMY
variable {l : Launch} {s0 : State} {args0 : Array Value} {ad adV : Nat → Nat} {D : va_G} {tc : Nat → ClassId} {X : lm_X} {i d z : Nat} {p : Program} {e : Env} {R : Room} {s : State} {m : MethodId} {args : Array Value} {below : List Frame} {meth : Method} {cd : Code} {H : Heap} {locs : List Loc} {c k pc : Nat} {Z : State → Prop} {L : lm_L} {S : List Value} {σ : lm_S} {ls : Array Slot}
/-- the callee's words -/
theorem lm_callB (hC : lm_C l s0 args0 ad adV D tc X i (d + 1) z p R s m meth cd) {j idx w : Nat} (hj : j < 272) (hh : lm_hh j = []) (hl : lm_wd w (.methodLink (lm_y i).cls idx (lm_y j)) = true) : CallB R s args (lm_y i).cls idx (lm_y j) (lm_cc j) (lm_ml j) (lm_rt j) [lm_cw (lm_me j)] (lm_rm j d) (lm_mc j) (lm_ms j) (lm_na j) := by
  obtain ⟨hV, hi, hx, hb, hret, hml, hown, hnm, hlk, hW, hz1, hz2, hz3, ht1, ht2, hf1, hf2, hc1, hc2⟩ := hC
  have key := lm_key d
  obtain ⟨k1, k2, k3, k4⟩ := lm_cks j hj
  have hcw : lm_cw (lm_me j) = .code (lm_y j) (lm_cc j) (lm_ml j) (lm_rt j) := by
    unfold lm_cw; rw [if_pos (show (lm_me j).2.2.2.2.1 = [] from hh)]; rfl
  have hcm : lm_cw (lm_me j) ∈ lw_tbl := List.mem_of_getElem? k1
  simp only [lm_mok, Bool.and_eq_true, decide_eq_true_eq] at k3
  obtain ⟨⟨⟨⟨⟨⟨⟨⟨q1, q2⟩, q3⟩, q4⟩, q5⟩, q6⟩, q7⟩, q8⟩, q9⟩ := k3
  refine ⟨rfl, rfl, by show d + 20 + 1 ≤ R.frames; omega, ?_, ?_, by rw [hcw]; exact List.mem_cons_self, ?_, lm_word hV hW q7 args, ⟨q2, q3⟩, fun sig h => ?_, lm_word hV hW hl args⟩
  · show 8 + (lm_ml j + 11) + (60 * d + 1000) ≤ R.locals
    exact Nat.le_trans (key _ q5) hf2
  · intro w9 hw9 a' U hWU
    obtain rfl := List.mem_singleton.mp hw9
    exact lm_wmem hV (State.WarmedH.trans hW hWU) ⟨hcm, k2⟩ a'
  · rw [← hcw]; exact lm_wmem hV hW ⟨hcm, k2⟩ args
  · have h2 : (parseMethodDescriptor (lm_y j).desc).map (fun d => d.parameters.length) = some (lm_na j) := q4
    rw [h] at h2
    exact (Option.some.inj h2).symm
theorem lm_split {n : Nat} (h : n ≤ S.length) : S.map (lm_v ad) = (((S.take n).reverse.map (lm_v ad)).reverse) ++ (S.drop n).map (lm_v ad) := by
  rw [← List.map_reverse, List.reverse_reverse, ← List.map_append, List.take_append_drop]
theorem lm_rev_head {n : Nat} (h : n + 1 ≤ S.length) : ∃ v, (S.take (n + 1)).reverse = v :: (S.take n).reverse ∧ S[n]? = some v := by
  have hlt : n < S.length := by omega
  refine ⟨S[n], ?_, List.getElem?_eq_getElem hlt⟩
  rw [List.take_succ, List.getElem?_eq_getElem hlt]
  simp
set_option maxHeartbeats 4000000 in
theorem lm_ca_sound {f : Nat} (hC : lm_C l s0 args0 ad adV D tc X i (d + 1) z p R s m meth cd) (ih : lm_IH l s0 args0 ad adV D tc X f) {r : lm_R} (hr : lm_row i pc = some r) {j : Nat} {as rest : List Value} (hca : lm_ca r S = some (j, as, rest)) {Q : lm_O → lm_S → Prop}
    (hzc : σ.2.2.2 = lm_N0 ∨ σ.2.2.2 = z + c) (hcm : c + lm_mc j ≤ lm_mc i) (hkm : k + lm_ms j ≤ lm_ms i) (hrs : (rest.map fun v => v.category).sum ≤ 8) (hlen : (lm_ls as).length ≤ lm_ml j) (hrv : lm_rv j as σ = true) (hev : lm_ev X f d j σ.2.2.2 0 0 0 (lm_en j as) [] σ Q) (hctor : lm_kd j = 2 → ∀ ex σ', ¬ Q (.inr ex) σ')
    (hP : va_P D vwCl (lm_re ad tc σ) H) (hn : σ.2.2.2 ≤ lm_N0) (hS : va_S (lm_A s0) s.heap H locs) (hL : lm_LS ad L ls (lm_ml i))
    (kk : ∀ (v : Option Value) (σ' : lm_S), (v = none ∨ ∃ x : Int32, v = some (.int x)) → Q (.inl v) σ' → lm_K s0 ad D tc i p l e R s m args below meth cd (c + lm_mc j) (k + lm_ms j) Z (pc + 3) L (v.toList ++ rest) σ')
    (kx : ∀ (ex : Nat) (σ' : lm_S) (H1 : Heap) (locs1 : List Loc) (q : Addr) (ce : Cell), Q (.inr ex) σ' → ex < 2 → va_P D vwCl (lm_re ad tc σ') H1 → σ'.2.2.2 ≤ lm_N0 → va_S (lm_A s0) s.heap H1 locs1 → H1[q]? = some ce → ce.vm = .none → s.vm.findClass (lm_xn ex) = some ce.cls → vx_W p l e R s m args below meth cd H1 locs1 (c + lm_mc j) (k + lm_ms j) Z (F0 m pc ls (rest.map (lm_v ad))) q) : W p l e R s m args below meth cd H locs c k Z (F0 m pc ls (S.map (lm_v ad))) := by
  refine lm_sized fun hsz => ?_
  have hC0 := hC
  obtain ⟨hV, hi, hx, hb, hret, hml, hown, hnm, hlk, hW, hz1, hz2, hz3, ht1, ht2, hf1, hf2, hc1, hc2⟩ := hC
  obtain ⟨hk, hpc⟩ := lm_rok_at hi hr
  obtain ⟨pc0, ins, x, y, w⟩ := r
  simp only at hpc
  subst hpc
  simp only [lm_rok, Bool.and_eq_true] at hk
  obtain ⟨hd, hk⟩ := hk
  have hsize : ls.size = lm_ml i := hL.2.1
  have hfix : CallFix p m cd (lm_cc i) (lm_ml i) s args [] (lm_y i).cls := ⟨hx, hb, hml, hown, fun _ h => by cases h⟩
  have hK : va_K D vwCl (lm_tys tc) s := va_K.moved hW.alike hV.2.2.1
  have kk2 : ∀ (v : Option Value) (σ' : lm_S) (H1 : Heap) (locs1 : List Loc), (v = none ∨ ∃ x : Int32, v = some (.int x)) → Q (.inl v) σ' → va_P D vwCl (lm_re ad tc σ') H1 → σ'.2.2.2 ≤ lm_N0 → va_S (lm_A s0) s.heap H1 locs1 → W p l e R s m args below meth cd H1 locs1 (c + lm_mc j) (k + lm_ms j) Z (F0 m (pc0 + 3) ls (v.toList ++ rest.map (lm_v ad))) := by
    intro v σ' H1 locs1 hv hq hP1 hn1 hS1
    have h := kk v σ' hv hq H1 locs1 ls hP1 hn1 hS1 hL
    rw [List.map_append] at h
    rcases hv with rfl | ⟨x9, rfl⟩ <;> exact h
  have hrs2 := lm_rest (ad := ad) hrs
  have key := lm_key d
  cases ins <;> simp only [lm_ca] at hca <;> first
    | (cases hca; done)
    | skip
  case invokestatic idx =>
    split at hca
    · rename_i hcond
      cases hca
      simp only [lm_cok] at hk
      rw [if_pos hcond.1] at hk
      simp only [Bool.and_eq_true, decide_eq_true_eq] at hk
      have hj : j < 272 := by have h := hk.1.1; have : lm_el.length = 273 := by decide +kernel
                              omega
      have hM := lm_met (d := d) hV ih hj hev hlen
      have hst : (Cond.static (lm_y j)).before args s = true := by
        obtain ⟨k1, k2, k3, k4⟩ := lm_cks j hj
        simp only [lm_mok, Bool.and_eq_true] at k3
        have h9 := k3.2
        rw [show (lm_me j).2.2.2.2.2.1 = 1 from hk.1.2] at h9
        exact lm_word hV hW h9 args
      have hlen2 : ((S.take (lm_na j)).reverse.map (lm_v ad)).length = lm_na j := by simp; omega
      rw [lm_split hcond.2]
      by_cases hh : lm_hh j = []
      · exact lm_run_k (vx_runS (rest := (S.drop (lm_na j)).map (lm_v ad)) hfix hM ⟨lm_callB hC0 hj hh hk.2, hst⟩ ⟨lm_blind, fun U hU hWU => ⟨rfl, lm_pre hC0 hP hn hS hsz hzc hU hWU⟩⟩ rfl hlen2 hsize rfl (lv_room hrs2) (of_decide_eq_true hd) ⟨by omega, by omega⟩) hS kk2 kx
      · have hcw : lm_cw (lm_me j) = .codeWith (lm_y j) (lm_cc j) (lm_ml j) (lm_rt j) (lm_hh j) := by
          unfold lm_cw; rw [if_neg (show ¬ (lm_me j).2.2.2.2.1 = [] from hh)]; rfl
        obtain ⟨k1, k2, k3, k4⟩ := lm_cks j hj
        have hcm2 : lm_cw (lm_me j) ∈ lw_tbl := List.mem_of_getElem? k1
        simp only [lm_mok, Bool.and_eq_true, decide_eq_true_eq] at k3
        obtain ⟨⟨⟨⟨⟨⟨⟨⟨q1, q2⟩, q3⟩, q4⟩, q5⟩, q6⟩, q7⟩, q8⟩, q9⟩ := k3
        have cw : vx_CSW R s args (lm_y i).cls idx (lm_y j) (lm_cc j) (lm_ml j) (lm_rt j) (lm_hh j) [lm_cw (lm_me j)] (lm_rm j d) (lm_mc j) (lm_ms j) (lm_na j) := by
          refine ⟨⟨rfl, rfl, by show d + 20 + 1 ≤ R.frames; omega, ?_, ?_, by rw [hcw]; exact List.mem_cons_self⟩, ?_, lm_word hV hW q7 args, ⟨q2, q3⟩, fun sig h => ?_, lm_word hV hW hk.2 args, hst⟩
          · show 8 + (lm_ml j + 11) + (60 * d + 1000) ≤ R.locals
            exact Nat.le_trans (key _ q5) hf2
          · intro w9 hw9 a' U hWU
            obtain rfl := List.mem_singleton.mp hw9
            exact lm_wmem hV (State.WarmedH.trans hW hWU) ⟨hcm2, k2⟩ a'
          · rw [← hcw]; exact lm_wmem hV hW ⟨hcm2, k2⟩ args
          · have h2 : (parseMethodDescriptor (lm_y j).desc).map (fun d => d.parameters.length) = some (lm_na j) := q4
            rw [h] at h2
            exact (Option.some.inj h2).symm
        exact lm_run_k (vx_runSX (rest := (S.drop (lm_na j)).map (lm_v ad)) hfix hM cw ⟨lm_blind, fun U hU hWU => ⟨rfl, lm_pre hC0 hP hn hS hsz hzc hU hWU⟩⟩ rfl hlen2 hsize rfl (lv_room hrs2) (of_decide_eq_true hd) ⟨by omega, by omega⟩) hS kk2 kx
    · cases hca
  case invokevirtual idx =>
    split at hca
    · rename_i hcond
      cases hca
      simp only [lm_cok] at hk
      rw [if_pos hcond.1] at hk
      simp only [Bool.and_eq_true, decide_eq_true_eq] at hk
      have hj : j < 272 := by have h := hk.1.1; have : lm_el.length = 273 := by decide +kernel
                              omega
      have hM := lm_met (d := d) hV ih hj hev hlen
      obtain ⟨k1, k2, k3, k4⟩ := lm_cks j hj
      simp only [lm_mok, Bool.and_eq_true] at k3
      have h9 := k3.2
      rw [show (lm_me j).2.2.2.2.2.1 = 0 from hk.1.2] at h9
      simp only [Bool.and_eq_true] at h9
      have hh : lm_hh j = [] := by
        have h8 := k3.1.2
        simp only [Bool.or_eq_true, decide_eq_true_eq] at h8
        rcases h8 with h8 | h8
        · exact h8
        · exact absurd (h8.symm.trans hk.1.2) (by decide)
      obtain ⟨v, hv1, hv2⟩ := lm_rev_head (S := S) hcond.2
      rw [hv1] at hM hrv
      obtain ⟨a, as', ks, heq, ha, hsh2⟩ := lm_rv_0 hk.1.2 hrv
      obtain ⟨rfl, -⟩ := List.cons.inj heq
      have hcl := lm_cil_ok j hj hk.1.2
      obtain ⟨qc, hqc, hqn⟩ := Option.map_eq_some_iff.mp hcl
      have hrec := va_recv hK hP hqc (a := ad a) (q0 := a) (by rw [lm_re_at ha, lm_cell_o hsh2])
      rw [hqn] at hrec
      have hlen2 : ((S.take (lm_na j)).reverse.map (lm_v ad)).length = lm_na j := by simp; omega
      have hstk : S.map (lm_v ad) = ((S.take (lm_na j)).reverse.map (lm_v ad)).reverse ++ Value.ref (ad a) :: (S.drop (lm_na j + 1)).map (lm_v ad) := by
        rw [lm_split hcond.2, hv1]
        simp [lm_v]
      rw [hstk]
      exact lm_run_k (vx_runV (rest := (S.drop (lm_na j + 1)).map (lm_v ad)) hfix hM ⟨lm_callB hC0 hj hh hk.2, lm_word hV hW h9.1 args, lm_word hV hW h9.2 args⟩ ⟨lm_blind, hrec, fun U hU hWU => ⟨rfl, lm_pre hC0 hP hn hS hsz hzc hU hWU⟩⟩ rfl hlen2 hsize rfl (lv_room hrs2) (of_decide_eq_true hd) ⟨by omega, by omega⟩) hS kk2 kx
    · cases hca
  case invokespecial idx =>
    split at hca
    · rename_i hcond
      cases hca
      obtain ⟨v, hv1, hv2⟩ := lm_rev_head (S := S) hcond.2
      have common : ∀ (hj : j < 272) (hkd : lm_kd j = 2), lm_hh j = [] ∧ (Cond.instanceMethod (lm_y j)).before args s = true ∧ (lm_y j).name = "<init>" ∧ lm_rt j = none ∧ ∃ a, v = .ref a := by
        intro hj hkd
        obtain ⟨k1, k2, k3, k4⟩ := lm_cks j hj
        simp only [lm_mok, Bool.and_eq_true] at k3
        have h9 := k3.2
        rw [show (lm_me j).2.2.2.2.2.1 = 2 from hkd] at h9
        simp only [Bool.and_eq_true, decide_eq_true_eq] at h9
        have hh : lm_hh j = [] := by
          have h8 := k3.1.2
          simp only [Bool.or_eq_true, decide_eq_true_eq] at h8
          rcases h8 with h8 | h8
          · exact h8
          · exact absurd (h8.symm.trans hkd) (by decide)
        refine ⟨hh, lm_word hV hW h9.1.1 args, h9.1.2, h9.2, ?_⟩
        rw [hv1] at hrv
        obtain ⟨a, as', heq⟩ := lm_rv_2 hkd hrv
        exact ⟨a, (List.cons.inj heq).1⟩
      have hlen2 : ((S.take (lm_na j)).reverse.map (lm_v ad)).length = lm_na j := by simp; omega
      simp only [lm_cok] at hk
      by_cases hy0 : y = 0
      · rw [if_pos hy0] at hk
        simp only [Bool.and_eq_true, decide_eq_true_eq] at hk
        have hj : j < 272 := by have h := hk.1.1; have : lm_el.length = 273 := by decide +kernel
                                omega
        obtain ⟨hh, hin, hnm9, hrt, a, rfl⟩ := common hj hk.1.2
        have hM := lm_metC (d := d) hV ih hj hev hlen (hctor hk.1.2) hh
        rw [hv1] at hM
        have hcb := lm_callB (args := args) hC0 hj hh hk.2
        rw [hrt] at hcb
        have hstk : S.map (lm_v ad) = ((S.take (lm_na j)).reverse.map (lm_v ad)).reverse ++ Value.ref (ad a) :: (S.drop (lm_na j + 1)).map (lm_v ad) := by
          rw [lm_split hcond.2, hv1]
          simp [lm_v]
        rw [hstk]
        exact lm_run_c (va_runI (rest := (S.drop (lm_na j + 1)).map (lm_v ad)) hfix hM ⟨hcb, hnm9, hin⟩ ⟨lm_blind, fun U hU hWU => ⟨rfl, lm_pre hC0 hP hn hS hsz hzc hU hWU⟩⟩ rfl hlen2 hsize rfl (lv_room hrs2) (of_decide_eq_true hd) ⟨by omega, by omega⟩) hS kk2
      · rw [if_neg hy0] at hk
        have hy8 : y = 8 := by rcases hcond.1 with h | h; exact absurd h hy0; exact h
        rw [if_pos hy8] at hk
        simp only [Bool.and_eq_true, decide_eq_true_eq] at hk
        have hj : j < 272 := by have h := hk.1.1.1; have : lm_el.length = 273 := by decide +kernel
                                omega
        obtain ⟨hh, hin, hnm9, hrt, a, rfl⟩ := common hj hk.1.2
        have hM := lm_metC (d := d) hV ih hj hev hlen (hctor hk.1.2) hh
        rw [hv1] at hM
        have hcw : lm_cw (lm_me j) = .code (lm_y j) (lm_cc j) (lm_ml j) (lm_rt j) := by
          unfold lm_cw; rw [if_pos (show (lm_me j).2.2.2.2.1 = [] from hh)]; rfl
        obtain ⟨k1, k2, k3, k4⟩ := lm_cks j hj
        have hcm2 : lm_cw (lm_me j) ∈ lw_tbl := List.mem_of_getElem? k1
        simp only [lm_mok, Bool.and_eq_true, decide_eq_true_eq] at k3
        obtain ⟨⟨⟨⟨⟨⟨⟨⟨q1, q2⟩, q3⟩, q4⟩, q5⟩, q6⟩, q7⟩, q8⟩, q9⟩ := k3
        have hnest : va_Nw (.methodLinkNest (lm_y i).cls idx (lm_y j) "HummedTunes") s := va_Nw.warmM hW (va_Nw.of rfl (hV.1 _ (List.mem_of_getElem? hk.2)))
        have hcn : va_CN R s args (lm_y i).cls idx (lm_y j) "HummedTunes" (lm_cc j) (lm_ml j) none [lm_cw (lm_me j)] (lm_rm j d) (lm_mc j) (lm_ms j) (lm_na j) := by
          rw [← hrt]
          refine va_cnB (Ts := [lm_cw (lm_me j)]) (ws' := []) (lm_na j) (fun w9 hw9 => ?_) (fun w9 hw9 => ⟨hw9, ?_⟩) (by rw [hcw]) rfl rfl hnest (lm_word hV hW q7 args) ⟨q2, q3, q4⟩ ⟨by show d + 20 + 1 ≤ R.frames; omega, Nat.le_trans (key _ q5) hf2⟩
          · obtain rfl := List.mem_singleton.mp hw9
            exact lm_wmem hV hW ⟨hcm2, k2⟩ args
          · obtain rfl := List.mem_singleton.mp hw9
            exact good_of_word k2
        have hstk : S.map (lm_v ad) = ((S.take (lm_na j)).reverse.map (lm_v ad)).reverse ++ Value.ref (ad a) :: (S.drop (lm_na j + 1)).map (lm_v ad) := by
          rw [lm_split hcond.2, hv1]
          simp [lm_v]
        rw [hstk]
        exact lm_run_c (va_runIN (rest := (S.drop (lm_na j + 1)).map (lm_v ad)) hfix hM ⟨hcn, hnm9, hin⟩ ⟨lm_blind, fun U hU hWU => ⟨rfl, lm_pre hC0 hP hn hS hsz hzc hU hWU⟩⟩ rfl hlen2 hsize rfl (lv_room hrs2) (of_decide_eq_true hd) ⟨by omega, by omega⟩) hS kk2
    · cases hca
end LMY
