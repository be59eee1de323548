/-! ===== contracts: reading, the model's small ones ===== -/
set_option maxRecDepth 10000 in
theorem m_wrong {X : lm_X} {d v : Nat} {M : Nat → Nat → Int32} {G : Nat → Nat → Int64} {Q : lm_O → lm_S → Prop} {x : Int32} (h25 : M 64 25 = 0) (hQ : Q (.inl none) (lm_T (lm_wr (lm_wr M 64 25 x) 64 26 (M 64 23)) v G)) : lm_Q X d 154 [.ref 64, .int x] (lm_T M v G) Q := by
  show lm_G X d 154 106 0 0 0 [some (.ref 64), some (.int x)] [] (lm_T M v G) Q
  refine lm_G_sg 2 (pc' := 4) (L' := [some (.ref 64), some (.int x)]) (S' := [.int (M 64 25)]) (σ' := lm_T M v G) rfl trivial ?_
  rw [show M 64 25 = 0 from h25]
  refine lm_G_br (b := 0 = 0) (t := 8) (S' := []) rfl (fun hc => ?_) (fun hc => absurd rfl hc)
  refine lm_G_sg 7 (pc' := 21) (L' := [some (.ref 64), some (.int x)]) (S' := []) (σ' := lm_T (lm_wr (lm_wr M 64 25 x) 64 26 (M 64 23)) v G) rfl ⟨trivial, trivial, trivial, trivial, trivial⟩ ?_
  exact lm_G_re rfl trivial (Nat.zero_le _) (Nat.zero_le _) hQ
set_option maxRecDepth 10000 in
theorem m_wrongB {X : lm_X} {d v : Nat} {M : Nat → Nat → Int32} {G : Nat → Nat → Int64} {Q : lm_O → lm_S → Prop} {x : Int32} (hb : ¬ M 64 25 = 0) (hQ : Q (.inl none) (lm_T M v G)) : lm_Q X d 154 [.ref 64, .int x] (lm_T M v G) Q := by
  show lm_G X d 154 106 0 0 0 [some (.ref 64), some (.int x)] [] (lm_T M v G) Q
  refine lm_G_sg 2 (pc' := 4) (L' := [some (.ref 64), some (.int x)]) (S' := [.int (M 64 25)]) (σ' := lm_T M v G) rfl trivial ?_
  refine lm_G_br (b := (M 64 25) = 0) (t := 8) (S' := []) rfl (fun hc => absurd hc hb) (fun hc => ?_)
  exact lm_G_re rfl trivial (Nat.zero_le _) (Nat.zero_le _) hQ
theorem tk_1 {T : Tx} {p : Nat} : tkS T p = 1 ↔ knS T p = 1 := by
  unfold tkS
  by_cases h : knS T p = 3
  · rw [if_pos h]
    split <;> omega
  · rw [if_neg h]
theorem tk_2 {T : Tx} {p : Nat} : tkS T p = 2 ↔ knS T p = 2 := by
  unfold tkS
  by_cases h : knS T p = 3
  · rw [if_pos h]
    split <;> omega
  · rw [if_neg h]
theorem tk_0 {T : Tx} {p : Nat} : tkS T p = 0 ↔ knS T p = 0 := by
  unfold tkS
  by_cases h : knS T p = 3
  · rw [if_pos h]
    split <;> omega
  · rw [if_neg h]
theorem tk_3 {T : Tx} {p c : Nat} (hc : mkS c = true) : isSg T p c = (decide (tkS T p = 3) && decide (tB T (stS' T p) = c)) := by
  unfold isSg tkS
  by_cases h : knS T p = 3
  · rw [if_pos h, decide_eq_true h]
    by_cases e : tB T (stS' T p) = c
    · rw [e, hc]
      rfl
    · rw [decide_eq_false e, Bool.and_false, Bool.and_false]
  · rw [if_neg h]
theorem tk_le {T : Tx} {p : Nat} : tkS T p ≤ 4 := by
  have := kn_le (T := T) (p := p)
  unfold tkS
  split
  · split <;> omega
  · omega
set_option maxRecDepth 10000 in
theorem m_is0 {X : lm_X} {d v : Nat} {M : Nat → Nat → Int32} {G : Nat → Nat → Int64} {Q : lm_O → lm_S → Prop} {T : Tx} {p : Nat} (hT : okT T) (hp : p ≤ tN T) (hg : GM M T p) (hQ : Q (.inl (some (.int (b2i (isWd T p w0))))) (lm_T M v G)) : lm_Q X d 155 [.ref 64, .ref 1000] (lm_T M v G) Q := by
  have hn := hT.1
  have kl := kn_le (T := T) (p := p)
  obtain ⟨el1, el2, el3⟩ := en_le hp
  obtain ⟨⟨hr, h21, h23, h24, h19, h22⟩, h25⟩ := hg
  show lm_G X d 155 106 0 0 0 [some (.ref 64), some (.ref 1000), none, none] [] (lm_T M v G) Q
  have tl := tk_le (T := T) (p := p)
  refine lm_G_sg 2 (pc' := 4) (L' := [some (.ref 64), some (.ref 1000), none, none]) (S' := [.int (M 64 25)]) (σ' := lm_T M v G) rfl trivial ?_
  rw [show M 64 25 = 0 from h25]
  refine lm_G_br (b := ¬ 0 = 0) (t := 35) (S' := []) rfl (fun hc => absurd rfl hc) (fun hc => ?_)
  refine lm_G_sg 2 (pc' := 11) (L' := [some (.ref 64), some (.ref 1000), none, none]) (S' := [.int (M 64 21)]) (σ' := lm_T M v G) rfl trivial ?_
  rw [show M 64 21 = nI (tkS T p) from h21]
  refine lm_G_sg 1 (pc' := 12) (L' := [some (.ref 64), some (.ref 1000), none, none]) (S' := [.int 1, .int (nI (tkS T p))]) (σ' := lm_T M v G) rfl trivial ?_
  refine lm_G_br (b := ¬ (nI (tkS T p)) = 1) (t := 35) (S' := []) rfl (fun h1 => ?_) (fun h1 => ?_)
  ·
    have k3 : ¬ knS T p = 1 := fun w => h1 (by rw [tk_1.mpr w]; rfl)
    rw [show isWd T p w0 = false from by unfold isWd; rw [decide_eq_false k3]; rfl] at hQ
    refine lm_G_sg 5 (pc' := 40) (L' := [some (.ref 64), some (.ref 1000), some (.int 0), some (.int 0)]) (S' := [.int 0]) (σ' := lm_T M v G) rfl trivial ?_
    refine lm_G_br (b := 0 = 0) (t := 82) (S' := []) rfl (fun h2 => ?_) (fun h2 => absurd rfl h2)
    refine lm_G_sg 1 (pc' := 83) (L' := [some (.ref 64), some (.ref 1000), some (.int 0), some (.int 0)]) (S' := [.int 0]) (σ' := lm_T M v G) rfl trivial ?_
    exact lm_G_re rfl (by decide) (Nat.zero_le _) (Nat.zero_le _) hQ
  ·
    have k3 : knS T p = 1 := tk_1.mp ((nI_eq (b := 1) (by omega) (by omega)).mp (Classical.not_not.mp h1))
    refine lm_G_sg 4 (pc' := 23) (L' := [some (.ref 64), some (.ref 1000), none, none]) (S' := [.int (M 64 24), .int (Int32.ofNat 6)]) (σ' := lm_T M v G) rfl ⟨trivial, (Nat.le_of_ble_eq_true rfl), trivial⟩ ?_
    rw [show M 64 24 = nI (enS T p) from h24]
    refine lm_G_sg 2 (pc' := 27) (L' := [some (.ref 64), some (.ref 1000), none, none]) (S' := [.int (M 64 23), .int (nI (enS T p)), .int (Int32.ofNat 6)]) (σ' := lm_T M v G) rfl trivial ?_
    rw [show M 64 23 = nI (stS' T p) from h23]
    refine lm_G_sg 1 (pc' := 28) (L' := [some (.ref 64), some (.ref 1000), none, none]) (S' := [.int ((nI (enS T p)) - (nI (stS' T p))), .int (Int32.ofNat 6)]) (σ' := lm_T M v G) rfl trivial ?_
    rw [show (nI (enS T p)) - (nI (stS' T p)) = nI (lnS T p) from nI_sub (by omega)]
    have ll : lnS T p ≤ 700 := by unfold lnS; omega
    refine lm_G_br (b := ¬ (Int32.ofNat 6) = (nI (lnS T p))) (t := 35) (S' := []) rfl (fun h2 => ?_) (fun h2 => ?_)
    ·
      have l3 : ¬ lnS T p = w0.length := fun w => h2 (by rw [w]; rfl)
      rw [show isWd T p w0 = false from by unfold isWd; rw [decide_eq_false l3, Bool.false_and, Bool.and_false]] at hQ
      refine lm_G_sg 5 (pc' := 40) (L' := [some (.ref 64), some (.ref 1000), some (.int 0), some (.int 0)]) (S' := [.int 0]) (σ' := lm_T M v G) rfl trivial ?_
      refine lm_G_br (b := 0 = 0) (t := 82) (S' := []) rfl (fun h3 => ?_) (fun h3 => absurd rfl h3)
      refine lm_G_sg 1 (pc' := 83) (L' := [some (.ref 64), some (.ref 1000), some (.int 0), some (.int 0)]) (S' := [.int 0]) (σ' := lm_T M v G) rfl trivial ?_
      exact lm_G_re rfl (by decide) (Nat.zero_le _) (Nat.zero_le _) hQ
    ·
      have l3 : lnS T p = 6 := ((nI_eq (a := 6) (by omega) (by omega)).mp (Classical.not_not.mp h2)).symm
      have le3 : enS T p - stS' T p = 6 := l3
      refine lm_G_sg 5 (pc' := 39) (L' := [some (.ref 64), some (.ref 1000), some (.int 1), some (.int 0)]) (S' := []) (σ' := lm_T M v G) rfl trivial ?_
      suffices hx : lm_G X d 155 106 0 0 39 [some (.ref 64), some (.ref 1000), some (.int (b2i (alB (fun i => decide (tB T (stS' T p + i) = w0.getD i 0)) 0))), some (.int 0)] [] (lm_T M v G) Q from hx
      refine lm_ind (α := Unit) (St := fun (j : Nat) zz => lm_G X d 155 106 0 0 39 [some (.ref 64), some (.ref 1000), some (.int (b2i (alB (fun i => decide (tB T (stS' T p + i) = w0.getD i 0)) j))), some (.int (nI j))] [] (lm_T M v G) Q) (Inv := fun (j : Nat) zz => True) (6) (fun j zz hj hI ih => ?_) (fun zz hI => ?_) (0) () (by omega) ?_
      ·
        replace hI : True := hI
        replace ih : ∀ (_ : True), lm_G X d 155 106 0 0 39 [some (.ref 64), some (.ref 1000), some (.int (b2i (alB (fun i => decide (tB T (stS' T p + i) = w0.getD i 0)) (j + 1)))), some (.int (nI (j + 1)))] [] (lm_T M v G) Q := fun q => ih () q
        show lm_G X d 155 106 0 0 39 [some (.ref 64), some (.ref 1000), some (.int (b2i (alB (fun i => decide (tB T (stS' T p + i) = w0.getD i 0)) j))), some (.int (nI j))] [] (lm_T M v G) Q
        have hbb := hT.2 (stS' T p + j) (by omega)
        obtain ⟨v1, v2⟩ := w0_ok j hj
        refine lm_G_sg 1 (pc' := 40) (L' := [some (.ref 64), some (.ref 1000), some (.int (b2i (alB (fun i => decide (tB T (stS' T p + i) = w0.getD i 0)) j))), some (.int (nI j))]) (S' := [.int (b2i (alB (fun i => decide (tB T (stS' T p + i) = w0.getD i 0)) j))]) (σ' := lm_T M v G) rfl trivial ?_
        refine lm_G_br (b := (b2i (alB (fun i => decide (tB T (stS' T p + i) = w0.getD i 0)) j)) = 0) (t := 82) (S' := []) rfl (fun h4 => ?_) (fun h4 => ?_)
        ·
          have e5 : alB (fun i => decide (tB T (stS' T p + i) = w0.getD i 0)) 6 = false := by
            refine Bool.eq_false_iff.mpr (fun w => ?_)
            have := b2i_0 h4
            rw [al_t.mpr (fun k hk => al_t.mp w k (by omega))] at this
            cases this
          rw [show isWd T p w0 = false from by unfold isWd; rw [show w0.length = 6 from rfl, e5, Bool.and_false, Bool.and_false]] at hQ
          rw [b2i_0 h4]
          refine lm_G_sg 1 (pc' := 83) (L' := [some (.ref 64), some (.ref 1000), some (.int (b2i false)), some (.int (nI j))]) (S' := [.int (b2i false)]) (σ' := lm_T M v G) rfl trivial ?_
          exact lm_G_re rfl (b2i_01 _) (Nat.zero_le _) (Nat.zero_le _) hQ
        ·
          have e4 := b2i_1 h4
          refine lm_G_sg 3 (pc' := 48) (L' := [some (.ref 64), some (.ref 1000), some (.int (b2i (alB (fun i => decide (tB T (stS' T p + i) = w0.getD i 0)) j))), some (.int (nI j))]) (S' := [.int (Int32.ofNat 6), .int (nI j)]) (σ' := lm_T M v G) rfl ⟨trivial, (Nat.le_of_ble_eq_true rfl), trivial⟩ ?_
          refine lm_G_br (b := (Int32.ofNat 6) ≤ (nI j)) (t := 82) (S' := []) rfl (fun hc => absurd hc (nI_ge (b := 6) hj (by omega))) (fun hc => ?_)
          refine lm_G_sg 3 (pc' := 56) (L' := [some (.ref 64), some (.ref 1000), some (.int (b2i (alB (fun i => decide (tB T (stS' T p + i) = w0.getD i 0)) j))), some (.int (nI j))]) (S' := [.int ((lm_wz 0).getD (nI j).toNatClampNeg 0)]) (σ' := lm_T M v G) rfl ⟨(show vp_in _ 6 from vp_in_nI (by omega) (by omega)), (Nat.le_of_ble_eq_true rfl), trivial⟩ ?_
          rw [nI_clamp (n := j) (by omega), v1]
          refine lm_G_sg 4 (pc' := 64) (L' := [some (.ref 64), some (.ref 1000), some (.int (b2i (alB (fun i => decide (tB T (stS' T p + i) = w0.getD i 0)) j))), some (.int (nI j))]) (S' := [.int (M 64 23), .ref 80, .int (nI (w0.getD j 0))]) (σ' := lm_T M v G) rfl trivial ?_
          rw [show M 64 23 = nI (stS' T p) from h23]
          refine lm_G_sg 2 (pc' := 66) (L' := [some (.ref 64), some (.ref 1000), some (.int (b2i (alB (fun i => decide (tB T (stS' T p + i) = w0.getD i 0)) j))), some (.int (nI j))]) (S' := [.int ((nI (stS' T p)) + (nI j)), .ref 80, .int (nI (w0.getD j 0))]) (σ' := lm_T M v G) rfl trivial ?_
          rw [show (nI (stS' T p)) + (nI j) = nI ((stS' T p) + j) from nI_add (stS' T p) j]
          refine lm_G_sg 1 (pc' := 67) (L' := [some (.ref 64), some (.ref 1000), some (.int (b2i (alB (fun i => decide (tB T (stS' T p + i) = w0.getD i 0)) j))), some (.int (nI j))]) (S' := [.int (M 80 (nI ((stS' T p) + j)).toNatClampNeg), .int (nI (w0.getD j 0))]) (σ' := lm_T M v G) rfl ⟨(vp_in_nI (by omega) (by omega)), trivial, trivial⟩ ?_
          rw [show (nI ((stS' T p) + j)).toNatClampNeg = ((stS' T p) + j) from nI_clamp (by omega)]
          rw [show M 80 ((stS' T p) + j) = nI (tB T ((stS' T p) + j)) from hr.2 ((stS' T p) + j) (by omega)]
          refine lm_G_br (b := ¬ (nI (w0.getD j 0)) = (nI (tB T ((stS' T p) + j)))) (t := 74) (S' := []) rfl (fun h5 => ?_) (fun h5 => ?_)
          ·
            refine lm_G_sg 3 (pc' := 79) (L' := [some (.ref 64), some (.ref 1000), some (.int 0), some (.int ((nI j) + 1))]) (S' := []) (σ' := lm_T M v G) rfl trivial ?_
            rw [nI_1]
            refine lm_G_sg 1 (pc' := 39) (L' := [some (.ref 64), some (.ref 1000), some (.int 0), some (.int (nI (j + 1)))]) (S' := []) (σ' := lm_T M v G) rfl trivial ?_
            have e5 : alB (fun i => decide (tB T (stS' T p + i) = w0.getD i 0)) (j + 1) = false := by
              simp only [alB]
              rw [decide_eq_false (fun w => h5 (by rw [w])), Bool.and_false]
            rw [e5] at ih
            exact ih  trivial
          ·
            refine lm_G_sg 4 (pc' := 79) (L' := [some (.ref 64), some (.ref 1000), some (.int 1), some (.int ((nI j) + 1))]) (S' := []) (σ' := lm_T M v G) rfl trivial ?_
            rw [nI_1]
            refine lm_G_sg 1 (pc' := 39) (L' := [some (.ref 64), some (.ref 1000), some (.int 1), some (.int (nI (j + 1)))]) (S' := []) (σ' := lm_T M v G) rfl trivial ?_
            have e5 : alB (fun i => decide (tB T (stS' T p + i) = w0.getD i 0)) (j + 1) = true := by
              simp only [alB]
              rw [e4, decide_eq_true ((nI_eq (by omega) (by omega)).mp (Classical.not_not.mp h5)).symm]
              rfl
            rw [e5] at ih
            exact ih  trivial
      ·
        replace hI : True := hI
        show lm_G X d 155 106 0 0 39 [some (.ref 64), some (.ref 1000), some (.int (b2i (alB (fun i => decide (tB T (stS' T p + i) = w0.getD i 0)) 6))), some (.int (nI 6))] [] (lm_T M v G) Q
        have ew : isWd T p w0 = alB (fun i => decide (tB T (stS' T p + i) = w0.getD i 0)) 6 := by
          unfold isWd
          rw [show w0.length = 6 from rfl, decide_eq_true k3, decide_eq_true l3]
          rfl
        rw [ew] at hQ
        refine lm_G_sg 1 (pc' := 40) (L' := [some (.ref 64), some (.ref 1000), some (.int (b2i (alB (fun i => decide (tB T (stS' T p + i) = w0.getD i 0)) 6))), some (.int (nI 6))]) (S' := [.int (b2i (alB (fun i => decide (tB T (stS' T p + i) = w0.getD i 0)) 6))]) (σ' := lm_T M v G) rfl trivial ?_
        refine lm_G_br (b := (b2i (alB (fun i => decide (tB T (stS' T p + i) = w0.getD i 0)) 6)) = 0) (t := 82) (S' := []) rfl (fun h4 => ?_) (fun h4 => ?_)
        ·
          refine lm_G_sg 1 (pc' := 83) (L' := [some (.ref 64), some (.ref 1000), some (.int (b2i (alB (fun i => decide (tB T (stS' T p + i) = w0.getD i 0)) 6))), some (.int (nI 6))]) (S' := [.int (b2i (alB (fun i => decide (tB T (stS' T p + i) = w0.getD i 0)) 6))]) (σ' := lm_T M v G) rfl trivial ?_
          exact lm_G_re rfl (b2i_01 _) (Nat.zero_le _) (Nat.zero_le _) hQ
        ·
          refine lm_G_sg 3 (pc' := 48) (L' := [some (.ref 64), some (.ref 1000), some (.int (b2i (alB (fun i => decide (tB T (stS' T p + i) = w0.getD i 0)) 6))), some (.int (nI 6))]) (S' := [.int (Int32.ofNat 6), .int (nI 6)]) (σ' := lm_T M v G) rfl ⟨trivial, (Nat.le_of_ble_eq_true rfl), trivial⟩ ?_
          refine lm_G_br (b := (Int32.ofNat 6) ≤ (nI 6)) (t := 82) (S' := []) rfl (fun hc => ?_) (fun hc => absurd (nI_le (a := 6) (Nat.le_refl _) (by omega)) hc)
          refine lm_G_sg 1 (pc' := 83) (L' := [some (.ref 64), some (.ref 1000), some (.int (b2i (alB (fun i => decide (tB T (stS' T p + i) = w0.getD i 0)) 6))), some (.int (nI 6))]) (S' := [.int (b2i (alB (fun i => decide (tB T (stS' T p + i) = w0.getD i 0)) 6))]) (σ' := lm_T M v G) rfl trivial ?_
          exact lm_G_re rfl (b2i_01 _) (Nat.zero_le _) (Nat.zero_le _) hQ
      ·
        trivial
set_option maxRecDepth 10000 in
theorem m_is1 {X : lm_X} {d v : Nat} {M : Nat → Nat → Int32} {G : Nat → Nat → Int64} {Q : lm_O → lm_S → Prop} {T : Tx} {p : Nat} (hT : okT T) (hp : p ≤ tN T) (hg : GM M T p) (hQ : Q (.inl (some (.int (b2i (isWd T p w1))))) (lm_T M v G)) : lm_Q X d 155 [.ref 64, .ref 1001] (lm_T M v G) Q := by
  have hn := hT.1
  have kl := kn_le (T := T) (p := p)
  obtain ⟨el1, el2, el3⟩ := en_le hp
  obtain ⟨⟨hr, h21, h23, h24, h19, h22⟩, h25⟩ := hg
  show lm_G X d 155 106 0 0 0 [some (.ref 64), some (.ref 1001), none, none] [] (lm_T M v G) Q
  have tl := tk_le (T := T) (p := p)
  refine lm_G_sg 2 (pc' := 4) (L' := [some (.ref 64), some (.ref 1001), none, none]) (S' := [.int (M 64 25)]) (σ' := lm_T M v G) rfl trivial ?_
  rw [show M 64 25 = 0 from h25]
  refine lm_G_br (b := ¬ 0 = 0) (t := 35) (S' := []) rfl (fun hc => absurd rfl hc) (fun hc => ?_)
  refine lm_G_sg 2 (pc' := 11) (L' := [some (.ref 64), some (.ref 1001), none, none]) (S' := [.int (M 64 21)]) (σ' := lm_T M v G) rfl trivial ?_
  rw [show M 64 21 = nI (tkS T p) from h21]
  refine lm_G_sg 1 (pc' := 12) (L' := [some (.ref 64), some (.ref 1001), none, none]) (S' := [.int 1, .int (nI (tkS T p))]) (σ' := lm_T M v G) rfl trivial ?_
  refine lm_G_br (b := ¬ (nI (tkS T p)) = 1) (t := 35) (S' := []) rfl (fun h1 => ?_) (fun h1 => ?_)
  ·
    have k3 : ¬ knS T p = 1 := fun w => h1 (by rw [tk_1.mpr w]; rfl)
    rw [show isWd T p w1 = false from by unfold isWd; rw [decide_eq_false k3]; rfl] at hQ
    refine lm_G_sg 5 (pc' := 40) (L' := [some (.ref 64), some (.ref 1001), some (.int 0), some (.int 0)]) (S' := [.int 0]) (σ' := lm_T M v G) rfl trivial ?_
    refine lm_G_br (b := 0 = 0) (t := 82) (S' := []) rfl (fun h2 => ?_) (fun h2 => absurd rfl h2)
    refine lm_G_sg 1 (pc' := 83) (L' := [some (.ref 64), some (.ref 1001), some (.int 0), some (.int 0)]) (S' := [.int 0]) (σ' := lm_T M v G) rfl trivial ?_
    exact lm_G_re rfl (by decide) (Nat.zero_le _) (Nat.zero_le _) hQ
  ·
    have k3 : knS T p = 1 := tk_1.mp ((nI_eq (b := 1) (by omega) (by omega)).mp (Classical.not_not.mp h1))
    refine lm_G_sg 4 (pc' := 23) (L' := [some (.ref 64), some (.ref 1001), none, none]) (S' := [.int (M 64 24), .int (Int32.ofNat 8)]) (σ' := lm_T M v G) rfl ⟨trivial, (Nat.le_of_ble_eq_true rfl), trivial⟩ ?_
    rw [show M 64 24 = nI (enS T p) from h24]
    refine lm_G_sg 2 (pc' := 27) (L' := [some (.ref 64), some (.ref 1001), none, none]) (S' := [.int (M 64 23), .int (nI (enS T p)), .int (Int32.ofNat 8)]) (σ' := lm_T M v G) rfl trivial ?_
    rw [show M 64 23 = nI (stS' T p) from h23]
    refine lm_G_sg 1 (pc' := 28) (L' := [some (.ref 64), some (.ref 1001), none, none]) (S' := [.int ((nI (enS T p)) - (nI (stS' T p))), .int (Int32.ofNat 8)]) (σ' := lm_T M v G) rfl trivial ?_
    rw [show (nI (enS T p)) - (nI (stS' T p)) = nI (lnS T p) from nI_sub (by omega)]
    have ll : lnS T p ≤ 700 := by unfold lnS; omega
    refine lm_G_br (b := ¬ (Int32.ofNat 8) = (nI (lnS T p))) (t := 35) (S' := []) rfl (fun h2 => ?_) (fun h2 => ?_)
    ·
      have l3 : ¬ lnS T p = w1.length := fun w => h2 (by rw [w]; rfl)
      rw [show isWd T p w1 = false from by unfold isWd; rw [decide_eq_false l3, Bool.false_and, Bool.and_false]] at hQ
      refine lm_G_sg 5 (pc' := 40) (L' := [some (.ref 64), some (.ref 1001), some (.int 0), some (.int 0)]) (S' := [.int 0]) (σ' := lm_T M v G) rfl trivial ?_
      refine lm_G_br (b := 0 = 0) (t := 82) (S' := []) rfl (fun h3 => ?_) (fun h3 => absurd rfl h3)
      refine lm_G_sg 1 (pc' := 83) (L' := [some (.ref 64), some (.ref 1001), some (.int 0), some (.int 0)]) (S' := [.int 0]) (σ' := lm_T M v G) rfl trivial ?_
      exact lm_G_re rfl (by decide) (Nat.zero_le _) (Nat.zero_le _) hQ
    ·
      have l3 : lnS T p = 8 := ((nI_eq (a := 8) (by omega) (by omega)).mp (Classical.not_not.mp h2)).symm
      have le3 : enS T p - stS' T p = 8 := l3
      refine lm_G_sg 5 (pc' := 39) (L' := [some (.ref 64), some (.ref 1001), some (.int 1), some (.int 0)]) (S' := []) (σ' := lm_T M v G) rfl trivial ?_
      suffices hx : lm_G X d 155 106 0 0 39 [some (.ref 64), some (.ref 1001), some (.int (b2i (alB (fun i => decide (tB T (stS' T p + i) = w1.getD i 0)) 0))), some (.int 0)] [] (lm_T M v G) Q from hx
      refine lm_ind (α := Unit) (St := fun (j : Nat) zz => lm_G X d 155 106 0 0 39 [some (.ref 64), some (.ref 1001), some (.int (b2i (alB (fun i => decide (tB T (stS' T p + i) = w1.getD i 0)) j))), some (.int (nI j))] [] (lm_T M v G) Q) (Inv := fun (j : Nat) zz => True) (8) (fun j zz hj hI ih => ?_) (fun zz hI => ?_) (0) () (by omega) ?_
      ·
        replace hI : True := hI
        replace ih : ∀ (_ : True), lm_G X d 155 106 0 0 39 [some (.ref 64), some (.ref 1001), some (.int (b2i (alB (fun i => decide (tB T (stS' T p + i) = w1.getD i 0)) (j + 1)))), some (.int (nI (j + 1)))] [] (lm_T M v G) Q := fun q => ih () q
        show lm_G X d 155 106 0 0 39 [some (.ref 64), some (.ref 1001), some (.int (b2i (alB (fun i => decide (tB T (stS' T p + i) = w1.getD i 0)) j))), some (.int (nI j))] [] (lm_T M v G) Q
        have hbb := hT.2 (stS' T p + j) (by omega)
        obtain ⟨v1, v2⟩ := w1_ok j hj
        refine lm_G_sg 1 (pc' := 40) (L' := [some (.ref 64), some (.ref 1001), some (.int (b2i (alB (fun i => decide (tB T (stS' T p + i) = w1.getD i 0)) j))), some (.int (nI j))]) (S' := [.int (b2i (alB (fun i => decide (tB T (stS' T p + i) = w1.getD i 0)) j))]) (σ' := lm_T M v G) rfl trivial ?_
        refine lm_G_br (b := (b2i (alB (fun i => decide (tB T (stS' T p + i) = w1.getD i 0)) j)) = 0) (t := 82) (S' := []) rfl (fun h4 => ?_) (fun h4 => ?_)
        ·
          have e5 : alB (fun i => decide (tB T (stS' T p + i) = w1.getD i 0)) 8 = false := by
            refine Bool.eq_false_iff.mpr (fun w => ?_)
            have := b2i_0 h4
            rw [al_t.mpr (fun k hk => al_t.mp w k (by omega))] at this
            cases this
          rw [show isWd T p w1 = false from by unfold isWd; rw [show w1.length = 8 from rfl, e5, Bool.and_false, Bool.and_false]] at hQ
          rw [b2i_0 h4]
          refine lm_G_sg 1 (pc' := 83) (L' := [some (.ref 64), some (.ref 1001), some (.int (b2i false)), some (.int (nI j))]) (S' := [.int (b2i false)]) (σ' := lm_T M v G) rfl trivial ?_
          exact lm_G_re rfl (b2i_01 _) (Nat.zero_le _) (Nat.zero_le _) hQ
        ·
          have e4 := b2i_1 h4
          refine lm_G_sg 3 (pc' := 48) (L' := [some (.ref 64), some (.ref 1001), some (.int (b2i (alB (fun i => decide (tB T (stS' T p + i) = w1.getD i 0)) j))), some (.int (nI j))]) (S' := [.int (Int32.ofNat 8), .int (nI j)]) (σ' := lm_T M v G) rfl ⟨trivial, (Nat.le_of_ble_eq_true rfl), trivial⟩ ?_
          refine lm_G_br (b := (Int32.ofNat 8) ≤ (nI j)) (t := 82) (S' := []) rfl (fun hc => absurd hc (nI_ge (b := 8) hj (by omega))) (fun hc => ?_)
          refine lm_G_sg 3 (pc' := 56) (L' := [some (.ref 64), some (.ref 1001), some (.int (b2i (alB (fun i => decide (tB T (stS' T p + i) = w1.getD i 0)) j))), some (.int (nI j))]) (S' := [.int ((lm_wz 1).getD (nI j).toNatClampNeg 0)]) (σ' := lm_T M v G) rfl ⟨(show vp_in _ 8 from vp_in_nI (by omega) (by omega)), (Nat.le_of_ble_eq_true rfl), trivial⟩ ?_
          rw [nI_clamp (n := j) (by omega), v1]
          refine lm_G_sg 4 (pc' := 64) (L' := [some (.ref 64), some (.ref 1001), some (.int (b2i (alB (fun i => decide (tB T (stS' T p + i) = w1.getD i 0)) j))), some (.int (nI j))]) (S' := [.int (M 64 23), .ref 80, .int (nI (w1.getD j 0))]) (σ' := lm_T M v G) rfl trivial ?_
          rw [show M 64 23 = nI (stS' T p) from h23]
          refine lm_G_sg 2 (pc' := 66) (L' := [some (.ref 64), some (.ref 1001), some (.int (b2i (alB (fun i => decide (tB T (stS' T p + i) = w1.getD i 0)) j))), some (.int (nI j))]) (S' := [.int ((nI (stS' T p)) + (nI j)), .ref 80, .int (nI (w1.getD j 0))]) (σ' := lm_T M v G) rfl trivial ?_
          rw [show (nI (stS' T p)) + (nI j) = nI ((stS' T p) + j) from nI_add (stS' T p) j]
          refine lm_G_sg 1 (pc' := 67) (L' := [some (.ref 64), some (.ref 1001), some (.int (b2i (alB (fun i => decide (tB T (stS' T p + i) = w1.getD i 0)) j))), some (.int (nI j))]) (S' := [.int (M 80 (nI ((stS' T p) + j)).toNatClampNeg), .int (nI (w1.getD j 0))]) (σ' := lm_T M v G) rfl ⟨(vp_in_nI (by omega) (by omega)), trivial, trivial⟩ ?_
          rw [show (nI ((stS' T p) + j)).toNatClampNeg = ((stS' T p) + j) from nI_clamp (by omega)]
          rw [show M 80 ((stS' T p) + j) = nI (tB T ((stS' T p) + j)) from hr.2 ((stS' T p) + j) (by omega)]
          refine lm_G_br (b := ¬ (nI (w1.getD j 0)) = (nI (tB T ((stS' T p) + j)))) (t := 74) (S' := []) rfl (fun h5 => ?_) (fun h5 => ?_)
          ·
            refine lm_G_sg 3 (pc' := 79) (L' := [some (.ref 64), some (.ref 1001), some (.int 0), some (.int ((nI j) + 1))]) (S' := []) (σ' := lm_T M v G) rfl trivial ?_
            rw [nI_1]
            refine lm_G_sg 1 (pc' := 39) (L' := [some (.ref 64), some (.ref 1001), some (.int 0), some (.int (nI (j + 1)))]) (S' := []) (σ' := lm_T M v G) rfl trivial ?_
            have e5 : alB (fun i => decide (tB T (stS' T p + i) = w1.getD i 0)) (j + 1) = false := by
              simp only [alB]
              rw [decide_eq_false (fun w => h5 (by rw [w])), Bool.and_false]
            rw [e5] at ih
            exact ih  trivial
          ·
            refine lm_G_sg 4 (pc' := 79) (L' := [some (.ref 64), some (.ref 1001), some (.int 1), some (.int ((nI j) + 1))]) (S' := []) (σ' := lm_T M v G) rfl trivial ?_
            rw [nI_1]
            refine lm_G_sg 1 (pc' := 39) (L' := [some (.ref 64), some (.ref 1001), some (.int 1), some (.int (nI (j + 1)))]) (S' := []) (σ' := lm_T M v G) rfl trivial ?_
            have e5 : alB (fun i => decide (tB T (stS' T p + i) = w1.getD i 0)) (j + 1) = true := by
              simp only [alB]
              rw [e4, decide_eq_true ((nI_eq (by omega) (by omega)).mp (Classical.not_not.mp h5)).symm]
              rfl
            rw [e5] at ih
            exact ih  trivial
      ·
        replace hI : True := hI
        show lm_G X d 155 106 0 0 39 [some (.ref 64), some (.ref 1001), some (.int (b2i (alB (fun i => decide (tB T (stS' T p + i) = w1.getD i 0)) 8))), some (.int (nI 8))] [] (lm_T M v G) Q
        have ew : isWd T p w1 = alB (fun i => decide (tB T (stS' T p + i) = w1.getD i 0)) 8 := by
          unfold isWd
          rw [show w1.length = 8 from rfl, decide_eq_true k3, decide_eq_true l3]
          rfl
        rw [ew] at hQ
        refine lm_G_sg 1 (pc' := 40) (L' := [some (.ref 64), some (.ref 1001), some (.int (b2i (alB (fun i => decide (tB T (stS' T p + i) = w1.getD i 0)) 8))), some (.int (nI 8))]) (S' := [.int (b2i (alB (fun i => decide (tB T (stS' T p + i) = w1.getD i 0)) 8))]) (σ' := lm_T M v G) rfl trivial ?_
        refine lm_G_br (b := (b2i (alB (fun i => decide (tB T (stS' T p + i) = w1.getD i 0)) 8)) = 0) (t := 82) (S' := []) rfl (fun h4 => ?_) (fun h4 => ?_)
        ·
          refine lm_G_sg 1 (pc' := 83) (L' := [some (.ref 64), some (.ref 1001), some (.int (b2i (alB (fun i => decide (tB T (stS' T p + i) = w1.getD i 0)) 8))), some (.int (nI 8))]) (S' := [.int (b2i (alB (fun i => decide (tB T (stS' T p + i) = w1.getD i 0)) 8))]) (σ' := lm_T M v G) rfl trivial ?_
          exact lm_G_re rfl (b2i_01 _) (Nat.zero_le _) (Nat.zero_le _) hQ
        ·
          refine lm_G_sg 3 (pc' := 48) (L' := [some (.ref 64), some (.ref 1001), some (.int (b2i (alB (fun i => decide (tB T (stS' T p + i) = w1.getD i 0)) 8))), some (.int (nI 8))]) (S' := [.int (Int32.ofNat 8), .int (nI 8)]) (σ' := lm_T M v G) rfl ⟨trivial, (Nat.le_of_ble_eq_true rfl), trivial⟩ ?_
          refine lm_G_br (b := (Int32.ofNat 8) ≤ (nI 8)) (t := 82) (S' := []) rfl (fun hc => ?_) (fun hc => absurd (nI_le (a := 8) (Nat.le_refl _) (by omega)) hc)
          refine lm_G_sg 1 (pc' := 83) (L' := [some (.ref 64), some (.ref 1001), some (.int (b2i (alB (fun i => decide (tB T (stS' T p + i) = w1.getD i 0)) 8))), some (.int (nI 8))]) (S' := [.int (b2i (alB (fun i => decide (tB T (stS' T p + i) = w1.getD i 0)) 8))]) (σ' := lm_T M v G) rfl trivial ?_
          exact lm_G_re rfl (b2i_01 _) (Nat.zero_le _) (Nat.zero_le _) hQ
      ·
        trivial
set_option maxRecDepth 10000 in
theorem m_is2 {X : lm_X} {d v : Nat} {M : Nat → Nat → Int32} {G : Nat → Nat → Int64} {Q : lm_O → lm_S → Prop} {T : Tx} {p : Nat} (hT : okT T) (hp : p ≤ tN T) (hg : GM M T p) (hQ : Q (.inl (some (.int (b2i (isWd T p w2))))) (lm_T M v G)) : lm_Q X d 155 [.ref 64, .ref 1002] (lm_T M v G) Q := by
  have hn := hT.1
  have kl := kn_le (T := T) (p := p)
  obtain ⟨el1, el2, el3⟩ := en_le hp
  obtain ⟨⟨hr, h21, h23, h24, h19, h22⟩, h25⟩ := hg
  show lm_G X d 155 106 0 0 0 [some (.ref 64), some (.ref 1002), none, none] [] (lm_T M v G) Q
  have tl := tk_le (T := T) (p := p)
  refine lm_G_sg 2 (pc' := 4) (L' := [some (.ref 64), some (.ref 1002), none, none]) (S' := [.int (M 64 25)]) (σ' := lm_T M v G) rfl trivial ?_
  rw [show M 64 25 = 0 from h25]
  refine lm_G_br (b := ¬ 0 = 0) (t := 35) (S' := []) rfl (fun hc => absurd rfl hc) (fun hc => ?_)
  refine lm_G_sg 2 (pc' := 11) (L' := [some (.ref 64), some (.ref 1002), none, none]) (S' := [.int (M 64 21)]) (σ' := lm_T M v G) rfl trivial ?_
  rw [show M 64 21 = nI (tkS T p) from h21]
  refine lm_G_sg 1 (pc' := 12) (L' := [some (.ref 64), some (.ref 1002), none, none]) (S' := [.int 1, .int (nI (tkS T p))]) (σ' := lm_T M v G) rfl trivial ?_
  refine lm_G_br (b := ¬ (nI (tkS T p)) = 1) (t := 35) (S' := []) rfl (fun h1 => ?_) (fun h1 => ?_)
  ·
    have k3 : ¬ knS T p = 1 := fun w => h1 (by rw [tk_1.mpr w]; rfl)
    rw [show isWd T p w2 = false from by unfold isWd; rw [decide_eq_false k3]; rfl] at hQ
    refine lm_G_sg 5 (pc' := 40) (L' := [some (.ref 64), some (.ref 1002), some (.int 0), some (.int 0)]) (S' := [.int 0]) (σ' := lm_T M v G) rfl trivial ?_
    refine lm_G_br (b := 0 = 0) (t := 82) (S' := []) rfl (fun h2 => ?_) (fun h2 => absurd rfl h2)
    refine lm_G_sg 1 (pc' := 83) (L' := [some (.ref 64), some (.ref 1002), some (.int 0), some (.int 0)]) (S' := [.int 0]) (σ' := lm_T M v G) rfl trivial ?_
    exact lm_G_re rfl (by decide) (Nat.zero_le _) (Nat.zero_le _) hQ
  ·
    have k3 : knS T p = 1 := tk_1.mp ((nI_eq (b := 1) (by omega) (by omega)).mp (Classical.not_not.mp h1))
    refine lm_G_sg 4 (pc' := 23) (L' := [some (.ref 64), some (.ref 1002), none, none]) (S' := [.int (M 64 24), .int (Int32.ofNat 4)]) (σ' := lm_T M v G) rfl ⟨trivial, (Nat.le_of_ble_eq_true rfl), trivial⟩ ?_
    rw [show M 64 24 = nI (enS T p) from h24]
    refine lm_G_sg 2 (pc' := 27) (L' := [some (.ref 64), some (.ref 1002), none, none]) (S' := [.int (M 64 23), .int (nI (enS T p)), .int (Int32.ofNat 4)]) (σ' := lm_T M v G) rfl trivial ?_
    rw [show M 64 23 = nI (stS' T p) from h23]
    refine lm_G_sg 1 (pc' := 28) (L' := [some (.ref 64), some (.ref 1002), none, none]) (S' := [.int ((nI (enS T p)) - (nI (stS' T p))), .int (Int32.ofNat 4)]) (σ' := lm_T M v G) rfl trivial ?_
    rw [show (nI (enS T p)) - (nI (stS' T p)) = nI (lnS T p) from nI_sub (by omega)]
    have ll : lnS T p ≤ 700 := by unfold lnS; omega
    refine lm_G_br (b := ¬ (Int32.ofNat 4) = (nI (lnS T p))) (t := 35) (S' := []) rfl (fun h2 => ?_) (fun h2 => ?_)
    ·
      have l3 : ¬ lnS T p = w2.length := fun w => h2 (by rw [w]; rfl)
      rw [show isWd T p w2 = false from by unfold isWd; rw [decide_eq_false l3, Bool.false_and, Bool.and_false]] at hQ
      refine lm_G_sg 5 (pc' := 40) (L' := [some (.ref 64), some (.ref 1002), some (.int 0), some (.int 0)]) (S' := [.int 0]) (σ' := lm_T M v G) rfl trivial ?_
      refine lm_G_br (b := 0 = 0) (t := 82) (S' := []) rfl (fun h3 => ?_) (fun h3 => absurd rfl h3)
      refine lm_G_sg 1 (pc' := 83) (L' := [some (.ref 64), some (.ref 1002), some (.int 0), some (.int 0)]) (S' := [.int 0]) (σ' := lm_T M v G) rfl trivial ?_
      exact lm_G_re rfl (by decide) (Nat.zero_le _) (Nat.zero_le _) hQ
    ·
      have l3 : lnS T p = 4 := ((nI_eq (a := 4) (by omega) (by omega)).mp (Classical.not_not.mp h2)).symm
      have le3 : enS T p - stS' T p = 4 := l3
      refine lm_G_sg 5 (pc' := 39) (L' := [some (.ref 64), some (.ref 1002), some (.int 1), some (.int 0)]) (S' := []) (σ' := lm_T M v G) rfl trivial ?_
      suffices hx : lm_G X d 155 106 0 0 39 [some (.ref 64), some (.ref 1002), some (.int (b2i (alB (fun i => decide (tB T (stS' T p + i) = w2.getD i 0)) 0))), some (.int 0)] [] (lm_T M v G) Q from hx
      refine lm_ind (α := Unit) (St := fun (j : Nat) zz => lm_G X d 155 106 0 0 39 [some (.ref 64), some (.ref 1002), some (.int (b2i (alB (fun i => decide (tB T (stS' T p + i) = w2.getD i 0)) j))), some (.int (nI j))] [] (lm_T M v G) Q) (Inv := fun (j : Nat) zz => True) (4) (fun j zz hj hI ih => ?_) (fun zz hI => ?_) (0) () (by omega) ?_
      ·
        replace hI : True := hI
        replace ih : ∀ (_ : True), lm_G X d 155 106 0 0 39 [some (.ref 64), some (.ref 1002), some (.int (b2i (alB (fun i => decide (tB T (stS' T p + i) = w2.getD i 0)) (j + 1)))), some (.int (nI (j + 1)))] [] (lm_T M v G) Q := fun q => ih () q
        show lm_G X d 155 106 0 0 39 [some (.ref 64), some (.ref 1002), some (.int (b2i (alB (fun i => decide (tB T (stS' T p + i) = w2.getD i 0)) j))), some (.int (nI j))] [] (lm_T M v G) Q
        have hbb := hT.2 (stS' T p + j) (by omega)
        obtain ⟨v1, v2⟩ := w2_ok j hj
        refine lm_G_sg 1 (pc' := 40) (L' := [some (.ref 64), some (.ref 1002), some (.int (b2i (alB (fun i => decide (tB T (stS' T p + i) = w2.getD i 0)) j))), some (.int (nI j))]) (S' := [.int (b2i (alB (fun i => decide (tB T (stS' T p + i) = w2.getD i 0)) j))]) (σ' := lm_T M v G) rfl trivial ?_
        refine lm_G_br (b := (b2i (alB (fun i => decide (tB T (stS' T p + i) = w2.getD i 0)) j)) = 0) (t := 82) (S' := []) rfl (fun h4 => ?_) (fun h4 => ?_)
        ·
          have e5 : alB (fun i => decide (tB T (stS' T p + i) = w2.getD i 0)) 4 = false := by
            refine Bool.eq_false_iff.mpr (fun w => ?_)
            have := b2i_0 h4
            rw [al_t.mpr (fun k hk => al_t.mp w k (by omega))] at this
            cases this
          rw [show isWd T p w2 = false from by unfold isWd; rw [show w2.length = 4 from rfl, e5, Bool.and_false, Bool.and_false]] at hQ
          rw [b2i_0 h4]
          refine lm_G_sg 1 (pc' := 83) (L' := [some (.ref 64), some (.ref 1002), some (.int (b2i false)), some (.int (nI j))]) (S' := [.int (b2i false)]) (σ' := lm_T M v G) rfl trivial ?_
          exact lm_G_re rfl (b2i_01 _) (Nat.zero_le _) (Nat.zero_le _) hQ
        ·
          have e4 := b2i_1 h4
          refine lm_G_sg 3 (pc' := 48) (L' := [some (.ref 64), some (.ref 1002), some (.int (b2i (alB (fun i => decide (tB T (stS' T p + i) = w2.getD i 0)) j))), some (.int (nI j))]) (S' := [.int (Int32.ofNat 4), .int (nI j)]) (σ' := lm_T M v G) rfl ⟨trivial, (Nat.le_of_ble_eq_true rfl), trivial⟩ ?_
          refine lm_G_br (b := (Int32.ofNat 4) ≤ (nI j)) (t := 82) (S' := []) rfl (fun hc => absurd hc (nI_ge (b := 4) hj (by omega))) (fun hc => ?_)
          refine lm_G_sg 3 (pc' := 56) (L' := [some (.ref 64), some (.ref 1002), some (.int (b2i (alB (fun i => decide (tB T (stS' T p + i) = w2.getD i 0)) j))), some (.int (nI j))]) (S' := [.int ((lm_wz 2).getD (nI j).toNatClampNeg 0)]) (σ' := lm_T M v G) rfl ⟨(show vp_in _ 4 from vp_in_nI (by omega) (by omega)), (Nat.le_of_ble_eq_true rfl), trivial⟩ ?_
          rw [nI_clamp (n := j) (by omega), v1]
          refine lm_G_sg 4 (pc' := 64) (L' := [some (.ref 64), some (.ref 1002), some (.int (b2i (alB (fun i => decide (tB T (stS' T p + i) = w2.getD i 0)) j))), some (.int (nI j))]) (S' := [.int (M 64 23), .ref 80, .int (nI (w2.getD j 0))]) (σ' := lm_T M v G) rfl trivial ?_
          rw [show M 64 23 = nI (stS' T p) from h23]
          refine lm_G_sg 2 (pc' := 66) (L' := [some (.ref 64), some (.ref 1002), some (.int (b2i (alB (fun i => decide (tB T (stS' T p + i) = w2.getD i 0)) j))), some (.int (nI j))]) (S' := [.int ((nI (stS' T p)) + (nI j)), .ref 80, .int (nI (w2.getD j 0))]) (σ' := lm_T M v G) rfl trivial ?_
          rw [show (nI (stS' T p)) + (nI j) = nI ((stS' T p) + j) from nI_add (stS' T p) j]
          refine lm_G_sg 1 (pc' := 67) (L' := [some (.ref 64), some (.ref 1002), some (.int (b2i (alB (fun i => decide (tB T (stS' T p + i) = w2.getD i 0)) j))), some (.int (nI j))]) (S' := [.int (M 80 (nI ((stS' T p) + j)).toNatClampNeg), .int (nI (w2.getD j 0))]) (σ' := lm_T M v G) rfl ⟨(vp_in_nI (by omega) (by omega)), trivial, trivial⟩ ?_
          rw [show (nI ((stS' T p) + j)).toNatClampNeg = ((stS' T p) + j) from nI_clamp (by omega)]
          rw [show M 80 ((stS' T p) + j) = nI (tB T ((stS' T p) + j)) from hr.2 ((stS' T p) + j) (by omega)]
          refine lm_G_br (b := ¬ (nI (w2.getD j 0)) = (nI (tB T ((stS' T p) + j)))) (t := 74) (S' := []) rfl (fun h5 => ?_) (fun h5 => ?_)
          ·
            refine lm_G_sg 3 (pc' := 79) (L' := [some (.ref 64), some (.ref 1002), some (.int 0), some (.int ((nI j) + 1))]) (S' := []) (σ' := lm_T M v G) rfl trivial ?_
            rw [nI_1]
            refine lm_G_sg 1 (pc' := 39) (L' := [some (.ref 64), some (.ref 1002), some (.int 0), some (.int (nI (j + 1)))]) (S' := []) (σ' := lm_T M v G) rfl trivial ?_
            have e5 : alB (fun i => decide (tB T (stS' T p + i) = w2.getD i 0)) (j + 1) = false := by
              simp only [alB]
              rw [decide_eq_false (fun w => h5 (by rw [w])), Bool.and_false]
            rw [e5] at ih
            exact ih  trivial
          ·
            refine lm_G_sg 4 (pc' := 79) (L' := [some (.ref 64), some (.ref 1002), some (.int 1), some (.int ((nI j) + 1))]) (S' := []) (σ' := lm_T M v G) rfl trivial ?_
            rw [nI_1]
            refine lm_G_sg 1 (pc' := 39) (L' := [some (.ref 64), some (.ref 1002), some (.int 1), some (.int (nI (j + 1)))]) (S' := []) (σ' := lm_T M v G) rfl trivial ?_
            have e5 : alB (fun i => decide (tB T (stS' T p + i) = w2.getD i 0)) (j + 1) = true := by
              simp only [alB]
              rw [e4, decide_eq_true ((nI_eq (by omega) (by omega)).mp (Classical.not_not.mp h5)).symm]
              rfl
            rw [e5] at ih
            exact ih  trivial
      ·
        replace hI : True := hI
        show lm_G X d 155 106 0 0 39 [some (.ref 64), some (.ref 1002), some (.int (b2i (alB (fun i => decide (tB T (stS' T p + i) = w2.getD i 0)) 4))), some (.int (nI 4))] [] (lm_T M v G) Q
        have ew : isWd T p w2 = alB (fun i => decide (tB T (stS' T p + i) = w2.getD i 0)) 4 := by
          unfold isWd
          rw [show w2.length = 4 from rfl, decide_eq_true k3, decide_eq_true l3]
          rfl
        rw [ew] at hQ
        refine lm_G_sg 1 (pc' := 40) (L' := [some (.ref 64), some (.ref 1002), some (.int (b2i (alB (fun i => decide (tB T (stS' T p + i) = w2.getD i 0)) 4))), some (.int (nI 4))]) (S' := [.int (b2i (alB (fun i => decide (tB T (stS' T p + i) = w2.getD i 0)) 4))]) (σ' := lm_T M v G) rfl trivial ?_
        refine lm_G_br (b := (b2i (alB (fun i => decide (tB T (stS' T p + i) = w2.getD i 0)) 4)) = 0) (t := 82) (S' := []) rfl (fun h4 => ?_) (fun h4 => ?_)
        ·
          refine lm_G_sg 1 (pc' := 83) (L' := [some (.ref 64), some (.ref 1002), some (.int (b2i (alB (fun i => decide (tB T (stS' T p + i) = w2.getD i 0)) 4))), some (.int (nI 4))]) (S' := [.int (b2i (alB (fun i => decide (tB T (stS' T p + i) = w2.getD i 0)) 4))]) (σ' := lm_T M v G) rfl trivial ?_
          exact lm_G_re rfl (b2i_01 _) (Nat.zero_le _) (Nat.zero_le _) hQ
        ·
          refine lm_G_sg 3 (pc' := 48) (L' := [some (.ref 64), some (.ref 1002), some (.int (b2i (alB (fun i => decide (tB T (stS' T p + i) = w2.getD i 0)) 4))), some (.int (nI 4))]) (S' := [.int (Int32.ofNat 4), .int (nI 4)]) (σ' := lm_T M v G) rfl ⟨trivial, (Nat.le_of_ble_eq_true rfl), trivial⟩ ?_
          refine lm_G_br (b := (Int32.ofNat 4) ≤ (nI 4)) (t := 82) (S' := []) rfl (fun hc => ?_) (fun hc => absurd (nI_le (a := 4) (Nat.le_refl _) (by omega)) hc)
          refine lm_G_sg 1 (pc' := 83) (L' := [some (.ref 64), some (.ref 1002), some (.int (b2i (alB (fun i => decide (tB T (stS' T p + i) = w2.getD i 0)) 4))), some (.int (nI 4))]) (S' := [.int (b2i (alB (fun i => decide (tB T (stS' T p + i) = w2.getD i 0)) 4))]) (σ' := lm_T M v G) rfl trivial ?_
          exact lm_G_re rfl (b2i_01 _) (Nat.zero_le _) (Nat.zero_le _) hQ
      ·
        trivial
set_option maxRecDepth 10000 in
theorem m_isB2 {X : lm_X} {d v : Nat} {M : Nat → Nat → Int32} {G : Nat → Nat → Int64} {Q : lm_O → lm_S → Prop} (hb : ¬ M 64 25 = 0) (hQ : Q (.inl (some (.int 0))) (lm_T M v G)) : lm_Q X d 155 [.ref 64, .ref 1002] (lm_T M v G) Q := by
  show lm_G X d 155 106 0 0 0 [some (.ref 64), some (.ref 1002), none, none] [] (lm_T M v G) Q
  refine lm_G_sg 2 (pc' := 4) (L' := [some (.ref 64), some (.ref 1002), none, none]) (S' := [.int (M 64 25)]) (σ' := lm_T M v G) rfl trivial ?_
  refine lm_G_br (b := ¬ (M 64 25) = 0) (t := 35) (S' := []) rfl (fun hc => ?_) (fun hc => absurd (Classical.not_not.mp hc) hb)
  refine lm_G_sg 5 (pc' := 40) (L' := [some (.ref 64), some (.ref 1002), some (.int 0), some (.int 0)]) (S' := [.int 0]) (σ' := lm_T M v G) rfl trivial ?_
  refine lm_G_br (b := 0 = 0) (t := 82) (S' := []) rfl (fun hc => ?_) (fun hc => absurd rfl hc)
  refine lm_G_sg 1 (pc' := 83) (L' := [some (.ref 64), some (.ref 1002), some (.int 0), some (.int 0)]) (S' := [.int 0]) (σ' := lm_T M v G) rfl trivial ?_
  exact lm_G_re rfl (by decide) (Nat.zero_le _) (Nat.zero_le _) hQ
set_option maxRecDepth 10000 in
theorem m_is3 {X : lm_X} {d v : Nat} {M : Nat → Nat → Int32} {G : Nat → Nat → Int64} {Q : lm_O → lm_S → Prop} {T : Tx} {p : Nat} (hT : okT T) (hp : p ≤ tN T) (hg : GM M T p) (hQ : Q (.inl (some (.int (b2i (isWd T p w3))))) (lm_T M v G)) : lm_Q X d 155 [.ref 64, .ref 1003] (lm_T M v G) Q := by
  have hn := hT.1
  have kl := kn_le (T := T) (p := p)
  obtain ⟨el1, el2, el3⟩ := en_le hp
  obtain ⟨⟨hr, h21, h23, h24, h19, h22⟩, h25⟩ := hg
  show lm_G X d 155 106 0 0 0 [some (.ref 64), some (.ref 1003), none, none] [] (lm_T M v G) Q
  have tl := tk_le (T := T) (p := p)
  refine lm_G_sg 2 (pc' := 4) (L' := [some (.ref 64), some (.ref 1003), none, none]) (S' := [.int (M 64 25)]) (σ' := lm_T M v G) rfl trivial ?_
  rw [show M 64 25 = 0 from h25]
  refine lm_G_br (b := ¬ 0 = 0) (t := 35) (S' := []) rfl (fun hc => absurd rfl hc) (fun hc => ?_)
  refine lm_G_sg 2 (pc' := 11) (L' := [some (.ref 64), some (.ref 1003), none, none]) (S' := [.int (M 64 21)]) (σ' := lm_T M v G) rfl trivial ?_
  rw [show M 64 21 = nI (tkS T p) from h21]
  refine lm_G_sg 1 (pc' := 12) (L' := [some (.ref 64), some (.ref 1003), none, none]) (S' := [.int 1, .int (nI (tkS T p))]) (σ' := lm_T M v G) rfl trivial ?_
  refine lm_G_br (b := ¬ (nI (tkS T p)) = 1) (t := 35) (S' := []) rfl (fun h1 => ?_) (fun h1 => ?_)
  ·
    have k3 : ¬ knS T p = 1 := fun w => h1 (by rw [tk_1.mpr w]; rfl)
    rw [show isWd T p w3 = false from by unfold isWd; rw [decide_eq_false k3]; rfl] at hQ
    refine lm_G_sg 5 (pc' := 40) (L' := [some (.ref 64), some (.ref 1003), some (.int 0), some (.int 0)]) (S' := [.int 0]) (σ' := lm_T M v G) rfl trivial ?_
    refine lm_G_br (b := 0 = 0) (t := 82) (S' := []) rfl (fun h2 => ?_) (fun h2 => absurd rfl h2)
    refine lm_G_sg 1 (pc' := 83) (L' := [some (.ref 64), some (.ref 1003), some (.int 0), some (.int 0)]) (S' := [.int 0]) (σ' := lm_T M v G) rfl trivial ?_
    exact lm_G_re rfl (by decide) (Nat.zero_le _) (Nat.zero_le _) hQ
  ·
    have k3 : knS T p = 1 := tk_1.mp ((nI_eq (b := 1) (by omega) (by omega)).mp (Classical.not_not.mp h1))
    refine lm_G_sg 4 (pc' := 23) (L' := [some (.ref 64), some (.ref 1003), none, none]) (S' := [.int (M 64 24), .int (Int32.ofNat 2)]) (σ' := lm_T M v G) rfl ⟨trivial, (Nat.le_of_ble_eq_true rfl), trivial⟩ ?_
    rw [show M 64 24 = nI (enS T p) from h24]
    refine lm_G_sg 2 (pc' := 27) (L' := [some (.ref 64), some (.ref 1003), none, none]) (S' := [.int (M 64 23), .int (nI (enS T p)), .int (Int32.ofNat 2)]) (σ' := lm_T M v G) rfl trivial ?_
    rw [show M 64 23 = nI (stS' T p) from h23]
    refine lm_G_sg 1 (pc' := 28) (L' := [some (.ref 64), some (.ref 1003), none, none]) (S' := [.int ((nI (enS T p)) - (nI (stS' T p))), .int (Int32.ofNat 2)]) (σ' := lm_T M v G) rfl trivial ?_
    rw [show (nI (enS T p)) - (nI (stS' T p)) = nI (lnS T p) from nI_sub (by omega)]
    have ll : lnS T p ≤ 700 := by unfold lnS; omega
    refine lm_G_br (b := ¬ (Int32.ofNat 2) = (nI (lnS T p))) (t := 35) (S' := []) rfl (fun h2 => ?_) (fun h2 => ?_)
    ·
      have l3 : ¬ lnS T p = w3.length := fun w => h2 (by rw [w]; rfl)
      rw [show isWd T p w3 = false from by unfold isWd; rw [decide_eq_false l3, Bool.false_and, Bool.and_false]] at hQ
      refine lm_G_sg 5 (pc' := 40) (L' := [some (.ref 64), some (.ref 1003), some (.int 0), some (.int 0)]) (S' := [.int 0]) (σ' := lm_T M v G) rfl trivial ?_
      refine lm_G_br (b := 0 = 0) (t := 82) (S' := []) rfl (fun h3 => ?_) (fun h3 => absurd rfl h3)
      refine lm_G_sg 1 (pc' := 83) (L' := [some (.ref 64), some (.ref 1003), some (.int 0), some (.int 0)]) (S' := [.int 0]) (σ' := lm_T M v G) rfl trivial ?_
      exact lm_G_re rfl (by decide) (Nat.zero_le _) (Nat.zero_le _) hQ
    ·
      have l3 : lnS T p = 2 := ((nI_eq (a := 2) (by omega) (by omega)).mp (Classical.not_not.mp h2)).symm
      have le3 : enS T p - stS' T p = 2 := l3
      refine lm_G_sg 5 (pc' := 39) (L' := [some (.ref 64), some (.ref 1003), some (.int 1), some (.int 0)]) (S' := []) (σ' := lm_T M v G) rfl trivial ?_
      suffices hx : lm_G X d 155 106 0 0 39 [some (.ref 64), some (.ref 1003), some (.int (b2i (alB (fun i => decide (tB T (stS' T p + i) = w3.getD i 0)) 0))), some (.int 0)] [] (lm_T M v G) Q from hx
      refine lm_ind (α := Unit) (St := fun (j : Nat) zz => lm_G X d 155 106 0 0 39 [some (.ref 64), some (.ref 1003), some (.int (b2i (alB (fun i => decide (tB T (stS' T p + i) = w3.getD i 0)) j))), some (.int (nI j))] [] (lm_T M v G) Q) (Inv := fun (j : Nat) zz => True) (2) (fun j zz hj hI ih => ?_) (fun zz hI => ?_) (0) () (by omega) ?_
      ·
        replace hI : True := hI
        replace ih : ∀ (_ : True), lm_G X d 155 106 0 0 39 [some (.ref 64), some (.ref 1003), some (.int (b2i (alB (fun i => decide (tB T (stS' T p + i) = w3.getD i 0)) (j + 1)))), some (.int (nI (j + 1)))] [] (lm_T M v G) Q := fun q => ih () q
        show lm_G X d 155 106 0 0 39 [some (.ref 64), some (.ref 1003), some (.int (b2i (alB (fun i => decide (tB T (stS' T p + i) = w3.getD i 0)) j))), some (.int (nI j))] [] (lm_T M v G) Q
        have hbb := hT.2 (stS' T p + j) (by omega)
        obtain ⟨v1, v2⟩ := w3_ok j hj
        refine lm_G_sg 1 (pc' := 40) (L' := [some (.ref 64), some (.ref 1003), some (.int (b2i (alB (fun i => decide (tB T (stS' T p + i) = w3.getD i 0)) j))), some (.int (nI j))]) (S' := [.int (b2i (alB (fun i => decide (tB T (stS' T p + i) = w3.getD i 0)) j))]) (σ' := lm_T M v G) rfl trivial ?_
        refine lm_G_br (b := (b2i (alB (fun i => decide (tB T (stS' T p + i) = w3.getD i 0)) j)) = 0) (t := 82) (S' := []) rfl (fun h4 => ?_) (fun h4 => ?_)
        ·
          have e5 : alB (fun i => decide (tB T (stS' T p + i) = w3.getD i 0)) 2 = false := by
            refine Bool.eq_false_iff.mpr (fun w => ?_)
            have := b2i_0 h4
            rw [al_t.mpr (fun k hk => al_t.mp w k (by omega))] at this
            cases this
          rw [show isWd T p w3 = false from by unfold isWd; rw [show w3.length = 2 from rfl, e5, Bool.and_false, Bool.and_false]] at hQ
          rw [b2i_0 h4]
          refine lm_G_sg 1 (pc' := 83) (L' := [some (.ref 64), some (.ref 1003), some (.int (b2i false)), some (.int (nI j))]) (S' := [.int (b2i false)]) (σ' := lm_T M v G) rfl trivial ?_
          exact lm_G_re rfl (b2i_01 _) (Nat.zero_le _) (Nat.zero_le _) hQ
        ·
          have e4 := b2i_1 h4
          refine lm_G_sg 3 (pc' := 48) (L' := [some (.ref 64), some (.ref 1003), some (.int (b2i (alB (fun i => decide (tB T (stS' T p + i) = w3.getD i 0)) j))), some (.int (nI j))]) (S' := [.int (Int32.ofNat 2), .int (nI j)]) (σ' := lm_T M v G) rfl ⟨trivial, (Nat.le_of_ble_eq_true rfl), trivial⟩ ?_
          refine lm_G_br (b := (Int32.ofNat 2) ≤ (nI j)) (t := 82) (S' := []) rfl (fun hc => absurd hc (nI_ge (b := 2) hj (by omega))) (fun hc => ?_)
          refine lm_G_sg 3 (pc' := 56) (L' := [some (.ref 64), some (.ref 1003), some (.int (b2i (alB (fun i => decide (tB T (stS' T p + i) = w3.getD i 0)) j))), some (.int (nI j))]) (S' := [.int ((lm_wz 3).getD (nI j).toNatClampNeg 0)]) (σ' := lm_T M v G) rfl ⟨(show vp_in _ 2 from vp_in_nI (by omega) (by omega)), (Nat.le_of_ble_eq_true rfl), trivial⟩ ?_
          rw [nI_clamp (n := j) (by omega), v1]
          refine lm_G_sg 4 (pc' := 64) (L' := [some (.ref 64), some (.ref 1003), some (.int (b2i (alB (fun i => decide (tB T (stS' T p + i) = w3.getD i 0)) j))), some (.int (nI j))]) (S' := [.int (M 64 23), .ref 80, .int (nI (w3.getD j 0))]) (σ' := lm_T M v G) rfl trivial ?_
          rw [show M 64 23 = nI (stS' T p) from h23]
          refine lm_G_sg 2 (pc' := 66) (L' := [some (.ref 64), some (.ref 1003), some (.int (b2i (alB (fun i => decide (tB T (stS' T p + i) = w3.getD i 0)) j))), some (.int (nI j))]) (S' := [.int ((nI (stS' T p)) + (nI j)), .ref 80, .int (nI (w3.getD j 0))]) (σ' := lm_T M v G) rfl trivial ?_
          rw [show (nI (stS' T p)) + (nI j) = nI ((stS' T p) + j) from nI_add (stS' T p) j]
          refine lm_G_sg 1 (pc' := 67) (L' := [some (.ref 64), some (.ref 1003), some (.int (b2i (alB (fun i => decide (tB T (stS' T p + i) = w3.getD i 0)) j))), some (.int (nI j))]) (S' := [.int (M 80 (nI ((stS' T p) + j)).toNatClampNeg), .int (nI (w3.getD j 0))]) (σ' := lm_T M v G) rfl ⟨(vp_in_nI (by omega) (by omega)), trivial, trivial⟩ ?_
          rw [show (nI ((stS' T p) + j)).toNatClampNeg = ((stS' T p) + j) from nI_clamp (by omega)]
          rw [show M 80 ((stS' T p) + j) = nI (tB T ((stS' T p) + j)) from hr.2 ((stS' T p) + j) (by omega)]
          refine lm_G_br (b := ¬ (nI (w3.getD j 0)) = (nI (tB T ((stS' T p) + j)))) (t := 74) (S' := []) rfl (fun h5 => ?_) (fun h5 => ?_)
          ·
            refine lm_G_sg 3 (pc' := 79) (L' := [some (.ref 64), some (.ref 1003), some (.int 0), some (.int ((nI j) + 1))]) (S' := []) (σ' := lm_T M v G) rfl trivial ?_
            rw [nI_1]
            refine lm_G_sg 1 (pc' := 39) (L' := [some (.ref 64), some (.ref 1003), some (.int 0), some (.int (nI (j + 1)))]) (S' := []) (σ' := lm_T M v G) rfl trivial ?_
            have e5 : alB (fun i => decide (tB T (stS' T p + i) = w3.getD i 0)) (j + 1) = false := by
              simp only [alB]
              rw [decide_eq_false (fun w => h5 (by rw [w])), Bool.and_false]
            rw [e5] at ih
            exact ih  trivial
          ·
            refine lm_G_sg 4 (pc' := 79) (L' := [some (.ref 64), some (.ref 1003), some (.int 1), some (.int ((nI j) + 1))]) (S' := []) (σ' := lm_T M v G) rfl trivial ?_
            rw [nI_1]
            refine lm_G_sg 1 (pc' := 39) (L' := [some (.ref 64), some (.ref 1003), some (.int 1), some (.int (nI (j + 1)))]) (S' := []) (σ' := lm_T M v G) rfl trivial ?_
            have e5 : alB (fun i => decide (tB T (stS' T p + i) = w3.getD i 0)) (j + 1) = true := by
              simp only [alB]
              rw [e4, decide_eq_true ((nI_eq (by omega) (by omega)).mp (Classical.not_not.mp h5)).symm]
              rfl
            rw [e5] at ih
            exact ih  trivial
      ·
        replace hI : True := hI
        show lm_G X d 155 106 0 0 39 [some (.ref 64), some (.ref 1003), some (.int (b2i (alB (fun i => decide (tB T (stS' T p + i) = w3.getD i 0)) 2))), some (.int (nI 2))] [] (lm_T M v G) Q
        have ew : isWd T p w3 = alB (fun i => decide (tB T (stS' T p + i) = w3.getD i 0)) 2 := by
          unfold isWd
          rw [show w3.length = 2 from rfl, decide_eq_true k3, decide_eq_true l3]
          rfl
        rw [ew] at hQ
        refine lm_G_sg 1 (pc' := 40) (L' := [some (.ref 64), some (.ref 1003), some (.int (b2i (alB (fun i => decide (tB T (stS' T p + i) = w3.getD i 0)) 2))), some (.int (nI 2))]) (S' := [.int (b2i (alB (fun i => decide (tB T (stS' T p + i) = w3.getD i 0)) 2))]) (σ' := lm_T M v G) rfl trivial ?_
        refine lm_G_br (b := (b2i (alB (fun i => decide (tB T (stS' T p + i) = w3.getD i 0)) 2)) = 0) (t := 82) (S' := []) rfl (fun h4 => ?_) (fun h4 => ?_)
        ·
          refine lm_G_sg 1 (pc' := 83) (L' := [some (.ref 64), some (.ref 1003), some (.int (b2i (alB (fun i => decide (tB T (stS' T p + i) = w3.getD i 0)) 2))), some (.int (nI 2))]) (S' := [.int (b2i (alB (fun i => decide (tB T (stS' T p + i) = w3.getD i 0)) 2))]) (σ' := lm_T M v G) rfl trivial ?_
          exact lm_G_re rfl (b2i_01 _) (Nat.zero_le _) (Nat.zero_le _) hQ
        ·
          refine lm_G_sg 3 (pc' := 48) (L' := [some (.ref 64), some (.ref 1003), some (.int (b2i (alB (fun i => decide (tB T (stS' T p + i) = w3.getD i 0)) 2))), some (.int (nI 2))]) (S' := [.int (Int32.ofNat 2), .int (nI 2)]) (σ' := lm_T M v G) rfl ⟨trivial, (Nat.le_of_ble_eq_true rfl), trivial⟩ ?_
          refine lm_G_br (b := (Int32.ofNat 2) ≤ (nI 2)) (t := 82) (S' := []) rfl (fun hc => ?_) (fun hc => absurd (nI_le (a := 2) (Nat.le_refl _) (by omega)) hc)
          refine lm_G_sg 1 (pc' := 83) (L' := [some (.ref 64), some (.ref 1003), some (.int (b2i (alB (fun i => decide (tB T (stS' T p + i) = w3.getD i 0)) 2))), some (.int (nI 2))]) (S' := [.int (b2i (alB (fun i => decide (tB T (stS' T p + i) = w3.getD i 0)) 2))]) (σ' := lm_T M v G) rfl trivial ?_
          exact lm_G_re rfl (b2i_01 _) (Nat.zero_le _) (Nat.zero_le _) hQ
      ·
        trivial
set_option maxRecDepth 10000 in
theorem m_isB3 {X : lm_X} {d v : Nat} {M : Nat → Nat → Int32} {G : Nat → Nat → Int64} {Q : lm_O → lm_S → Prop} (hb : ¬ M 64 25 = 0) (hQ : Q (.inl (some (.int 0))) (lm_T M v G)) : lm_Q X d 155 [.ref 64, .ref 1003] (lm_T M v G) Q := by
  show lm_G X d 155 106 0 0 0 [some (.ref 64), some (.ref 1003), none, none] [] (lm_T M v G) Q
  refine lm_G_sg 2 (pc' := 4) (L' := [some (.ref 64), some (.ref 1003), none, none]) (S' := [.int (M 64 25)]) (σ' := lm_T M v G) rfl trivial ?_
  refine lm_G_br (b := ¬ (M 64 25) = 0) (t := 35) (S' := []) rfl (fun hc => ?_) (fun hc => absurd (Classical.not_not.mp hc) hb)
  refine lm_G_sg 5 (pc' := 40) (L' := [some (.ref 64), some (.ref 1003), some (.int 0), some (.int 0)]) (S' := [.int 0]) (σ' := lm_T M v G) rfl trivial ?_
  refine lm_G_br (b := 0 = 0) (t := 82) (S' := []) rfl (fun hc => ?_) (fun hc => absurd rfl hc)
  refine lm_G_sg 1 (pc' := 83) (L' := [some (.ref 64), some (.ref 1003), some (.int 0), some (.int 0)]) (S' := [.int 0]) (σ' := lm_T M v G) rfl trivial ?_
  exact lm_G_re rfl (by decide) (Nat.zero_le _) (Nat.zero_le _) hQ
set_option maxRecDepth 10000 in
theorem m_is4 {X : lm_X} {d v : Nat} {M : Nat → Nat → Int32} {G : Nat → Nat → Int64} {Q : lm_O → lm_S → Prop} {T : Tx} {p : Nat} (hT : okT T) (hp : p ≤ tN T) (hg : GM M T p) (hQ : Q (.inl (some (.int (b2i (isWd T p w4))))) (lm_T M v G)) : lm_Q X d 155 [.ref 64, .ref 1004] (lm_T M v G) Q := by
  have hn := hT.1
  have kl := kn_le (T := T) (p := p)
  obtain ⟨el1, el2, el3⟩ := en_le hp
  obtain ⟨⟨hr, h21, h23, h24, h19, h22⟩, h25⟩ := hg
  show lm_G X d 155 106 0 0 0 [some (.ref 64), some (.ref 1004), none, none] [] (lm_T M v G) Q
  have tl := tk_le (T := T) (p := p)
  refine lm_G_sg 2 (pc' := 4) (L' := [some (.ref 64), some (.ref 1004), none, none]) (S' := [.int (M 64 25)]) (σ' := lm_T M v G) rfl trivial ?_
  rw [show M 64 25 = 0 from h25]
  refine lm_G_br (b := ¬ 0 = 0) (t := 35) (S' := []) rfl (fun hc => absurd rfl hc) (fun hc => ?_)
  refine lm_G_sg 2 (pc' := 11) (L' := [some (.ref 64), some (.ref 1004), none, none]) (S' := [.int (M 64 21)]) (σ' := lm_T M v G) rfl trivial ?_
  rw [show M 64 21 = nI (tkS T p) from h21]
  refine lm_G_sg 1 (pc' := 12) (L' := [some (.ref 64), some (.ref 1004), none, none]) (S' := [.int 1, .int (nI (tkS T p))]) (σ' := lm_T M v G) rfl trivial ?_
  refine lm_G_br (b := ¬ (nI (tkS T p)) = 1) (t := 35) (S' := []) rfl (fun h1 => ?_) (fun h1 => ?_)
  ·
    have k3 : ¬ knS T p = 1 := fun w => h1 (by rw [tk_1.mpr w]; rfl)
    rw [show isWd T p w4 = false from by unfold isWd; rw [decide_eq_false k3]; rfl] at hQ
    refine lm_G_sg 5 (pc' := 40) (L' := [some (.ref 64), some (.ref 1004), some (.int 0), some (.int 0)]) (S' := [.int 0]) (σ' := lm_T M v G) rfl trivial ?_
    refine lm_G_br (b := 0 = 0) (t := 82) (S' := []) rfl (fun h2 => ?_) (fun h2 => absurd rfl h2)
    refine lm_G_sg 1 (pc' := 83) (L' := [some (.ref 64), some (.ref 1004), some (.int 0), some (.int 0)]) (S' := [.int 0]) (σ' := lm_T M v G) rfl trivial ?_
    exact lm_G_re rfl (by decide) (Nat.zero_le _) (Nat.zero_le _) hQ
  ·
    have k3 : knS T p = 1 := tk_1.mp ((nI_eq (b := 1) (by omega) (by omega)).mp (Classical.not_not.mp h1))
    refine lm_G_sg 4 (pc' := 23) (L' := [some (.ref 64), some (.ref 1004), none, none]) (S' := [.int (M 64 24), .int (Int32.ofNat 7)]) (σ' := lm_T M v G) rfl ⟨trivial, (Nat.le_of_ble_eq_true rfl), trivial⟩ ?_
    rw [show M 64 24 = nI (enS T p) from h24]
    refine lm_G_sg 2 (pc' := 27) (L' := [some (.ref 64), some (.ref 1004), none, none]) (S' := [.int (M 64 23), .int (nI (enS T p)), .int (Int32.ofNat 7)]) (σ' := lm_T M v G) rfl trivial ?_
    rw [show M 64 23 = nI (stS' T p) from h23]
    refine lm_G_sg 1 (pc' := 28) (L' := [some (.ref 64), some (.ref 1004), none, none]) (S' := [.int ((nI (enS T p)) - (nI (stS' T p))), .int (Int32.ofNat 7)]) (σ' := lm_T M v G) rfl trivial ?_
    rw [show (nI (enS T p)) - (nI (stS' T p)) = nI (lnS T p) from nI_sub (by omega)]
    have ll : lnS T p ≤ 700 := by unfold lnS; omega
    refine lm_G_br (b := ¬ (Int32.ofNat 7) = (nI (lnS T p))) (t := 35) (S' := []) rfl (fun h2 => ?_) (fun h2 => ?_)
    ·
      have l3 : ¬ lnS T p = w4.length := fun w => h2 (by rw [w]; rfl)
      rw [show isWd T p w4 = false from by unfold isWd; rw [decide_eq_false l3, Bool.false_and, Bool.and_false]] at hQ
      refine lm_G_sg 5 (pc' := 40) (L' := [some (.ref 64), some (.ref 1004), some (.int 0), some (.int 0)]) (S' := [.int 0]) (σ' := lm_T M v G) rfl trivial ?_
      refine lm_G_br (b := 0 = 0) (t := 82) (S' := []) rfl (fun h3 => ?_) (fun h3 => absurd rfl h3)
      refine lm_G_sg 1 (pc' := 83) (L' := [some (.ref 64), some (.ref 1004), some (.int 0), some (.int 0)]) (S' := [.int 0]) (σ' := lm_T M v G) rfl trivial ?_
      exact lm_G_re rfl (by decide) (Nat.zero_le _) (Nat.zero_le _) hQ
    ·
      have l3 : lnS T p = 7 := ((nI_eq (a := 7) (by omega) (by omega)).mp (Classical.not_not.mp h2)).symm
      have le3 : enS T p - stS' T p = 7 := l3
      refine lm_G_sg 5 (pc' := 39) (L' := [some (.ref 64), some (.ref 1004), some (.int 1), some (.int 0)]) (S' := []) (σ' := lm_T M v G) rfl trivial ?_
      suffices hx : lm_G X d 155 106 0 0 39 [some (.ref 64), some (.ref 1004), some (.int (b2i (alB (fun i => decide (tB T (stS' T p + i) = w4.getD i 0)) 0))), some (.int 0)] [] (lm_T M v G) Q from hx
      refine lm_ind (α := Unit) (St := fun (j : Nat) zz => lm_G X d 155 106 0 0 39 [some (.ref 64), some (.ref 1004), some (.int (b2i (alB (fun i => decide (tB T (stS' T p + i) = w4.getD i 0)) j))), some (.int (nI j))] [] (lm_T M v G) Q) (Inv := fun (j : Nat) zz => True) (7) (fun j zz hj hI ih => ?_) (fun zz hI => ?_) (0) () (by omega) ?_
      ·
        replace hI : True := hI
        replace ih : ∀ (_ : True), lm_G X d 155 106 0 0 39 [some (.ref 64), some (.ref 1004), some (.int (b2i (alB (fun i => decide (tB T (stS' T p + i) = w4.getD i 0)) (j + 1)))), some (.int (nI (j + 1)))] [] (lm_T M v G) Q := fun q => ih () q
        show lm_G X d 155 106 0 0 39 [some (.ref 64), some (.ref 1004), some (.int (b2i (alB (fun i => decide (tB T (stS' T p + i) = w4.getD i 0)) j))), some (.int (nI j))] [] (lm_T M v G) Q
        have hbb := hT.2 (stS' T p + j) (by omega)
        obtain ⟨v1, v2⟩ := w4_ok j hj
        refine lm_G_sg 1 (pc' := 40) (L' := [some (.ref 64), some (.ref 1004), some (.int (b2i (alB (fun i => decide (tB T (stS' T p + i) = w4.getD i 0)) j))), some (.int (nI j))]) (S' := [.int (b2i (alB (fun i => decide (tB T (stS' T p + i) = w4.getD i 0)) j))]) (σ' := lm_T M v G) rfl trivial ?_
        refine lm_G_br (b := (b2i (alB (fun i => decide (tB T (stS' T p + i) = w4.getD i 0)) j)) = 0) (t := 82) (S' := []) rfl (fun h4 => ?_) (fun h4 => ?_)
        ·
          have e5 : alB (fun i => decide (tB T (stS' T p + i) = w4.getD i 0)) 7 = false := by
            refine Bool.eq_false_iff.mpr (fun w => ?_)
            have := b2i_0 h4
            rw [al_t.mpr (fun k hk => al_t.mp w k (by omega))] at this
            cases this
          rw [show isWd T p w4 = false from by unfold isWd; rw [show w4.length = 7 from rfl, e5, Bool.and_false, Bool.and_false]] at hQ
          rw [b2i_0 h4]
          refine lm_G_sg 1 (pc' := 83) (L' := [some (.ref 64), some (.ref 1004), some (.int (b2i false)), some (.int (nI j))]) (S' := [.int (b2i false)]) (σ' := lm_T M v G) rfl trivial ?_
          exact lm_G_re rfl (b2i_01 _) (Nat.zero_le _) (Nat.zero_le _) hQ
        ·
          have e4 := b2i_1 h4
          refine lm_G_sg 3 (pc' := 48) (L' := [some (.ref 64), some (.ref 1004), some (.int (b2i (alB (fun i => decide (tB T (stS' T p + i) = w4.getD i 0)) j))), some (.int (nI j))]) (S' := [.int (Int32.ofNat 7), .int (nI j)]) (σ' := lm_T M v G) rfl ⟨trivial, (Nat.le_of_ble_eq_true rfl), trivial⟩ ?_
          refine lm_G_br (b := (Int32.ofNat 7) ≤ (nI j)) (t := 82) (S' := []) rfl (fun hc => absurd hc (nI_ge (b := 7) hj (by omega))) (fun hc => ?_)
          refine lm_G_sg 3 (pc' := 56) (L' := [some (.ref 64), some (.ref 1004), some (.int (b2i (alB (fun i => decide (tB T (stS' T p + i) = w4.getD i 0)) j))), some (.int (nI j))]) (S' := [.int ((lm_wz 4).getD (nI j).toNatClampNeg 0)]) (σ' := lm_T M v G) rfl ⟨(show vp_in _ 7 from vp_in_nI (by omega) (by omega)), (Nat.le_of_ble_eq_true rfl), trivial⟩ ?_
          rw [nI_clamp (n := j) (by omega), v1]
          refine lm_G_sg 4 (pc' := 64) (L' := [some (.ref 64), some (.ref 1004), some (.int (b2i (alB (fun i => decide (tB T (stS' T p + i) = w4.getD i 0)) j))), some (.int (nI j))]) (S' := [.int (M 64 23), .ref 80, .int (nI (w4.getD j 0))]) (σ' := lm_T M v G) rfl trivial ?_
          rw [show M 64 23 = nI (stS' T p) from h23]
          refine lm_G_sg 2 (pc' := 66) (L' := [some (.ref 64), some (.ref 1004), some (.int (b2i (alB (fun i => decide (tB T (stS' T p + i) = w4.getD i 0)) j))), some (.int (nI j))]) (S' := [.int ((nI (stS' T p)) + (nI j)), .ref 80, .int (nI (w4.getD j 0))]) (σ' := lm_T M v G) rfl trivial ?_
          rw [show (nI (stS' T p)) + (nI j) = nI ((stS' T p) + j) from nI_add (stS' T p) j]
          refine lm_G_sg 1 (pc' := 67) (L' := [some (.ref 64), some (.ref 1004), some (.int (b2i (alB (fun i => decide (tB T (stS' T p + i) = w4.getD i 0)) j))), some (.int (nI j))]) (S' := [.int (M 80 (nI ((stS' T p) + j)).toNatClampNeg), .int (nI (w4.getD j 0))]) (σ' := lm_T M v G) rfl ⟨(vp_in_nI (by omega) (by omega)), trivial, trivial⟩ ?_
          rw [show (nI ((stS' T p) + j)).toNatClampNeg = ((stS' T p) + j) from nI_clamp (by omega)]
          rw [show M 80 ((stS' T p) + j) = nI (tB T ((stS' T p) + j)) from hr.2 ((stS' T p) + j) (by omega)]
          refine lm_G_br (b := ¬ (nI (w4.getD j 0)) = (nI (tB T ((stS' T p) + j)))) (t := 74) (S' := []) rfl (fun h5 => ?_) (fun h5 => ?_)
          ·
            refine lm_G_sg 3 (pc' := 79) (L' := [some (.ref 64), some (.ref 1004), some (.int 0), some (.int ((nI j) + 1))]) (S' := []) (σ' := lm_T M v G) rfl trivial ?_
            rw [nI_1]
            refine lm_G_sg 1 (pc' := 39) (L' := [some (.ref 64), some (.ref 1004), some (.int 0), some (.int (nI (j + 1)))]) (S' := []) (σ' := lm_T M v G) rfl trivial ?_
            have e5 : alB (fun i => decide (tB T (stS' T p + i) = w4.getD i 0)) (j + 1) = false := by
              simp only [alB]
              rw [decide_eq_false (fun w => h5 (by rw [w])), Bool.and_false]
            rw [e5] at ih
            exact ih  trivial
          ·
            refine lm_G_sg 4 (pc' := 79) (L' := [some (.ref 64), some (.ref 1004), some (.int 1), some (.int ((nI j) + 1))]) (S' := []) (σ' := lm_T M v G) rfl trivial ?_
            rw [nI_1]
            refine lm_G_sg 1 (pc' := 39) (L' := [some (.ref 64), some (.ref 1004), some (.int 1), some (.int (nI (j + 1)))]) (S' := []) (σ' := lm_T M v G) rfl trivial ?_
            have e5 : alB (fun i => decide (tB T (stS' T p + i) = w4.getD i 0)) (j + 1) = true := by
              simp only [alB]
              rw [e4, decide_eq_true ((nI_eq (by omega) (by omega)).mp (Classical.not_not.mp h5)).symm]
              rfl
            rw [e5] at ih
            exact ih  trivial
      ·
        replace hI : True := hI
        show lm_G X d 155 106 0 0 39 [some (.ref 64), some (.ref 1004), some (.int (b2i (alB (fun i => decide (tB T (stS' T p + i) = w4.getD i 0)) 7))), some (.int (nI 7))] [] (lm_T M v G) Q
        have ew : isWd T p w4 = alB (fun i => decide (tB T (stS' T p + i) = w4.getD i 0)) 7 := by
          unfold isWd
          rw [show w4.length = 7 from rfl, decide_eq_true k3, decide_eq_true l3]
          rfl
        rw [ew] at hQ
        refine lm_G_sg 1 (pc' := 40) (L' := [some (.ref 64), some (.ref 1004), some (.int (b2i (alB (fun i => decide (tB T (stS' T p + i) = w4.getD i 0)) 7))), some (.int (nI 7))]) (S' := [.int (b2i (alB (fun i => decide (tB T (stS' T p + i) = w4.getD i 0)) 7))]) (σ' := lm_T M v G) rfl trivial ?_
        refine lm_G_br (b := (b2i (alB (fun i => decide (tB T (stS' T p + i) = w4.getD i 0)) 7)) = 0) (t := 82) (S' := []) rfl (fun h4 => ?_) (fun h4 => ?_)
        ·
          refine lm_G_sg 1 (pc' := 83) (L' := [some (.ref 64), some (.ref 1004), some (.int (b2i (alB (fun i => decide (tB T (stS' T p + i) = w4.getD i 0)) 7))), some (.int (nI 7))]) (S' := [.int (b2i (alB (fun i => decide (tB T (stS' T p + i) = w4.getD i 0)) 7))]) (σ' := lm_T M v G) rfl trivial ?_
          exact lm_G_re rfl (b2i_01 _) (Nat.zero_le _) (Nat.zero_le _) hQ
        ·
          refine lm_G_sg 3 (pc' := 48) (L' := [some (.ref 64), some (.ref 1004), some (.int (b2i (alB (fun i => decide (tB T (stS' T p + i) = w4.getD i 0)) 7))), some (.int (nI 7))]) (S' := [.int (Int32.ofNat 7), .int (nI 7)]) (σ' := lm_T M v G) rfl ⟨trivial, (Nat.le_of_ble_eq_true rfl), trivial⟩ ?_
          refine lm_G_br (b := (Int32.ofNat 7) ≤ (nI 7)) (t := 82) (S' := []) rfl (fun hc => ?_) (fun hc => absurd (nI_le (a := 7) (Nat.le_refl _) (by omega)) hc)
          refine lm_G_sg 1 (pc' := 83) (L' := [some (.ref 64), some (.ref 1004), some (.int (b2i (alB (fun i => decide (tB T (stS' T p + i) = w4.getD i 0)) 7))), some (.int (nI 7))]) (S' := [.int (b2i (alB (fun i => decide (tB T (stS' T p + i) = w4.getD i 0)) 7))]) (σ' := lm_T M v G) rfl trivial ?_
          exact lm_G_re rfl (b2i_01 _) (Nat.zero_le _) (Nat.zero_le _) hQ
      ·
        trivial
set_option maxRecDepth 10000 in
theorem m_is5 {X : lm_X} {d v : Nat} {M : Nat → Nat → Int32} {G : Nat → Nat → Int64} {Q : lm_O → lm_S → Prop} {T : Tx} {p : Nat} (hT : okT T) (hp : p ≤ tN T) (hg : GM M T p) (hQ : Q (.inl (some (.int (b2i (isWd T p w5))))) (lm_T M v G)) : lm_Q X d 155 [.ref 64, .ref 1005] (lm_T M v G) Q := by
  have hn := hT.1
  have kl := kn_le (T := T) (p := p)
  obtain ⟨el1, el2, el3⟩ := en_le hp
  obtain ⟨⟨hr, h21, h23, h24, h19, h22⟩, h25⟩ := hg
  show lm_G X d 155 106 0 0 0 [some (.ref 64), some (.ref 1005), none, none] [] (lm_T M v G) Q
  have tl := tk_le (T := T) (p := p)
  refine lm_G_sg 2 (pc' := 4) (L' := [some (.ref 64), some (.ref 1005), none, none]) (S' := [.int (M 64 25)]) (σ' := lm_T M v G) rfl trivial ?_
  rw [show M 64 25 = 0 from h25]
  refine lm_G_br (b := ¬ 0 = 0) (t := 35) (S' := []) rfl (fun hc => absurd rfl hc) (fun hc => ?_)
  refine lm_G_sg 2 (pc' := 11) (L' := [some (.ref 64), some (.ref 1005), none, none]) (S' := [.int (M 64 21)]) (σ' := lm_T M v G) rfl trivial ?_
  rw [show M 64 21 = nI (tkS T p) from h21]
  refine lm_G_sg 1 (pc' := 12) (L' := [some (.ref 64), some (.ref 1005), none, none]) (S' := [.int 1, .int (nI (tkS T p))]) (σ' := lm_T M v G) rfl trivial ?_
  refine lm_G_br (b := ¬ (nI (tkS T p)) = 1) (t := 35) (S' := []) rfl (fun h1 => ?_) (fun h1 => ?_)
  ·
    have k3 : ¬ knS T p = 1 := fun w => h1 (by rw [tk_1.mpr w]; rfl)
    rw [show isWd T p w5 = false from by unfold isWd; rw [decide_eq_false k3]; rfl] at hQ
    refine lm_G_sg 5 (pc' := 40) (L' := [some (.ref 64), some (.ref 1005), some (.int 0), some (.int 0)]) (S' := [.int 0]) (σ' := lm_T M v G) rfl trivial ?_
    refine lm_G_br (b := 0 = 0) (t := 82) (S' := []) rfl (fun h2 => ?_) (fun h2 => absurd rfl h2)
    refine lm_G_sg 1 (pc' := 83) (L' := [some (.ref 64), some (.ref 1005), some (.int 0), some (.int 0)]) (S' := [.int 0]) (σ' := lm_T M v G) rfl trivial ?_
    exact lm_G_re rfl (by decide) (Nat.zero_le _) (Nat.zero_le _) hQ
  ·
    have k3 : knS T p = 1 := tk_1.mp ((nI_eq (b := 1) (by omega) (by omega)).mp (Classical.not_not.mp h1))
    refine lm_G_sg 4 (pc' := 23) (L' := [some (.ref 64), some (.ref 1005), none, none]) (S' := [.int (M 64 24), .int (Int32.ofNat 5)]) (σ' := lm_T M v G) rfl ⟨trivial, (Nat.le_of_ble_eq_true rfl), trivial⟩ ?_
    rw [show M 64 24 = nI (enS T p) from h24]
    refine lm_G_sg 2 (pc' := 27) (L' := [some (.ref 64), some (.ref 1005), none, none]) (S' := [.int (M 64 23), .int (nI (enS T p)), .int (Int32.ofNat 5)]) (σ' := lm_T M v G) rfl trivial ?_
    rw [show M 64 23 = nI (stS' T p) from h23]
    refine lm_G_sg 1 (pc' := 28) (L' := [some (.ref 64), some (.ref 1005), none, none]) (S' := [.int ((nI (enS T p)) - (nI (stS' T p))), .int (Int32.ofNat 5)]) (σ' := lm_T M v G) rfl trivial ?_
    rw [show (nI (enS T p)) - (nI (stS' T p)) = nI (lnS T p) from nI_sub (by omega)]
    have ll : lnS T p ≤ 700 := by unfold lnS; omega
    refine lm_G_br (b := ¬ (Int32.ofNat 5) = (nI (lnS T p))) (t := 35) (S' := []) rfl (fun h2 => ?_) (fun h2 => ?_)
    ·
      have l3 : ¬ lnS T p = w5.length := fun w => h2 (by rw [w]; rfl)
      rw [show isWd T p w5 = false from by unfold isWd; rw [decide_eq_false l3, Bool.false_and, Bool.and_false]] at hQ
      refine lm_G_sg 5 (pc' := 40) (L' := [some (.ref 64), some (.ref 1005), some (.int 0), some (.int 0)]) (S' := [.int 0]) (σ' := lm_T M v G) rfl trivial ?_
      refine lm_G_br (b := 0 = 0) (t := 82) (S' := []) rfl (fun h3 => ?_) (fun h3 => absurd rfl h3)
      refine lm_G_sg 1 (pc' := 83) (L' := [some (.ref 64), some (.ref 1005), some (.int 0), some (.int 0)]) (S' := [.int 0]) (σ' := lm_T M v G) rfl trivial ?_
      exact lm_G_re rfl (by decide) (Nat.zero_le _) (Nat.zero_le _) hQ
    ·
      have l3 : lnS T p = 5 := ((nI_eq (a := 5) (by omega) (by omega)).mp (Classical.not_not.mp h2)).symm
      have le3 : enS T p - stS' T p = 5 := l3
      refine lm_G_sg 5 (pc' := 39) (L' := [some (.ref 64), some (.ref 1005), some (.int 1), some (.int 0)]) (S' := []) (σ' := lm_T M v G) rfl trivial ?_
      suffices hx : lm_G X d 155 106 0 0 39 [some (.ref 64), some (.ref 1005), some (.int (b2i (alB (fun i => decide (tB T (stS' T p + i) = w5.getD i 0)) 0))), some (.int 0)] [] (lm_T M v G) Q from hx
      refine lm_ind (α := Unit) (St := fun (j : Nat) zz => lm_G X d 155 106 0 0 39 [some (.ref 64), some (.ref 1005), some (.int (b2i (alB (fun i => decide (tB T (stS' T p + i) = w5.getD i 0)) j))), some (.int (nI j))] [] (lm_T M v G) Q) (Inv := fun (j : Nat) zz => True) (5) (fun j zz hj hI ih => ?_) (fun zz hI => ?_) (0) () (by omega) ?_
      ·
        replace hI : True := hI
        replace ih : ∀ (_ : True), lm_G X d 155 106 0 0 39 [some (.ref 64), some (.ref 1005), some (.int (b2i (alB (fun i => decide (tB T (stS' T p + i) = w5.getD i 0)) (j + 1)))), some (.int (nI (j + 1)))] [] (lm_T M v G) Q := fun q => ih () q
        show lm_G X d 155 106 0 0 39 [some (.ref 64), some (.ref 1005), some (.int (b2i (alB (fun i => decide (tB T (stS' T p + i) = w5.getD i 0)) j))), some (.int (nI j))] [] (lm_T M v G) Q
        have hbb := hT.2 (stS' T p + j) (by omega)
        obtain ⟨v1, v2⟩ := w5_ok j hj
        refine lm_G_sg 1 (pc' := 40) (L' := [some (.ref 64), some (.ref 1005), some (.int (b2i (alB (fun i => decide (tB T (stS' T p + i) = w5.getD i 0)) j))), some (.int (nI j))]) (S' := [.int (b2i (alB (fun i => decide (tB T (stS' T p + i) = w5.getD i 0)) j))]) (σ' := lm_T M v G) rfl trivial ?_
        refine lm_G_br (b := (b2i (alB (fun i => decide (tB T (stS' T p + i) = w5.getD i 0)) j)) = 0) (t := 82) (S' := []) rfl (fun h4 => ?_) (fun h4 => ?_)
        ·
          have e5 : alB (fun i => decide (tB T (stS' T p + i) = w5.getD i 0)) 5 = false := by
            refine Bool.eq_false_iff.mpr (fun w => ?_)
            have := b2i_0 h4
            rw [al_t.mpr (fun k hk => al_t.mp w k (by omega))] at this
            cases this
          rw [show isWd T p w5 = false from by unfold isWd; rw [show w5.length = 5 from rfl, e5, Bool.and_false, Bool.and_false]] at hQ
          rw [b2i_0 h4]
          refine lm_G_sg 1 (pc' := 83) (L' := [some (.ref 64), some (.ref 1005), some (.int (b2i false)), some (.int (nI j))]) (S' := [.int (b2i false)]) (σ' := lm_T M v G) rfl trivial ?_
          exact lm_G_re rfl (b2i_01 _) (Nat.zero_le _) (Nat.zero_le _) hQ
        ·
          have e4 := b2i_1 h4
          refine lm_G_sg 3 (pc' := 48) (L' := [some (.ref 64), some (.ref 1005), some (.int (b2i (alB (fun i => decide (tB T (stS' T p + i) = w5.getD i 0)) j))), some (.int (nI j))]) (S' := [.int (Int32.ofNat 5), .int (nI j)]) (σ' := lm_T M v G) rfl ⟨trivial, (Nat.le_of_ble_eq_true rfl), trivial⟩ ?_
          refine lm_G_br (b := (Int32.ofNat 5) ≤ (nI j)) (t := 82) (S' := []) rfl (fun hc => absurd hc (nI_ge (b := 5) hj (by omega))) (fun hc => ?_)
          refine lm_G_sg 3 (pc' := 56) (L' := [some (.ref 64), some (.ref 1005), some (.int (b2i (alB (fun i => decide (tB T (stS' T p + i) = w5.getD i 0)) j))), some (.int (nI j))]) (S' := [.int ((lm_wz 5).getD (nI j).toNatClampNeg 0)]) (σ' := lm_T M v G) rfl ⟨(show vp_in _ 5 from vp_in_nI (by omega) (by omega)), (Nat.le_of_ble_eq_true rfl), trivial⟩ ?_
          rw [nI_clamp (n := j) (by omega), v1]
          refine lm_G_sg 4 (pc' := 64) (L' := [some (.ref 64), some (.ref 1005), some (.int (b2i (alB (fun i => decide (tB T (stS' T p + i) = w5.getD i 0)) j))), some (.int (nI j))]) (S' := [.int (M 64 23), .ref 80, .int (nI (w5.getD j 0))]) (σ' := lm_T M v G) rfl trivial ?_
          rw [show M 64 23 = nI (stS' T p) from h23]
          refine lm_G_sg 2 (pc' := 66) (L' := [some (.ref 64), some (.ref 1005), some (.int (b2i (alB (fun i => decide (tB T (stS' T p + i) = w5.getD i 0)) j))), some (.int (nI j))]) (S' := [.int ((nI (stS' T p)) + (nI j)), .ref 80, .int (nI (w5.getD j 0))]) (σ' := lm_T M v G) rfl trivial ?_
          rw [show (nI (stS' T p)) + (nI j) = nI ((stS' T p) + j) from nI_add (stS' T p) j]
          refine lm_G_sg 1 (pc' := 67) (L' := [some (.ref 64), some (.ref 1005), some (.int (b2i (alB (fun i => decide (tB T (stS' T p + i) = w5.getD i 0)) j))), some (.int (nI j))]) (S' := [.int (M 80 (nI ((stS' T p) + j)).toNatClampNeg), .int (nI (w5.getD j 0))]) (σ' := lm_T M v G) rfl ⟨(vp_in_nI (by omega) (by omega)), trivial, trivial⟩ ?_
          rw [show (nI ((stS' T p) + j)).toNatClampNeg = ((stS' T p) + j) from nI_clamp (by omega)]
          rw [show M 80 ((stS' T p) + j) = nI (tB T ((stS' T p) + j)) from hr.2 ((stS' T p) + j) (by omega)]
          refine lm_G_br (b := ¬ (nI (w5.getD j 0)) = (nI (tB T ((stS' T p) + j)))) (t := 74) (S' := []) rfl (fun h5 => ?_) (fun h5 => ?_)
          ·
            refine lm_G_sg 3 (pc' := 79) (L' := [some (.ref 64), some (.ref 1005), some (.int 0), some (.int ((nI j) + 1))]) (S' := []) (σ' := lm_T M v G) rfl trivial ?_
            rw [nI_1]
            refine lm_G_sg 1 (pc' := 39) (L' := [some (.ref 64), some (.ref 1005), some (.int 0), some (.int (nI (j + 1)))]) (S' := []) (σ' := lm_T M v G) rfl trivial ?_
            have e5 : alB (fun i => decide (tB T (stS' T p + i) = w5.getD i 0)) (j + 1) = false := by
              simp only [alB]
              rw [decide_eq_false (fun w => h5 (by rw [w])), Bool.and_false]
            rw [e5] at ih
            exact ih  trivial
          ·
            refine lm_G_sg 4 (pc' := 79) (L' := [some (.ref 64), some (.ref 1005), some (.int 1), some (.int ((nI j) + 1))]) (S' := []) (σ' := lm_T M v G) rfl trivial ?_
            rw [nI_1]
            refine lm_G_sg 1 (pc' := 39) (L' := [some (.ref 64), some (.ref 1005), some (.int 1), some (.int (nI (j + 1)))]) (S' := []) (σ' := lm_T M v G) rfl trivial ?_
            have e5 : alB (fun i => decide (tB T (stS' T p + i) = w5.getD i 0)) (j + 1) = true := by
              simp only [alB]
              rw [e4, decide_eq_true ((nI_eq (by omega) (by omega)).mp (Classical.not_not.mp h5)).symm]
              rfl
            rw [e5] at ih
            exact ih  trivial
      ·
        replace hI : True := hI
        show lm_G X d 155 106 0 0 39 [some (.ref 64), some (.ref 1005), some (.int (b2i (alB (fun i => decide (tB T (stS' T p + i) = w5.getD i 0)) 5))), some (.int (nI 5))] [] (lm_T M v G) Q
        have ew : isWd T p w5 = alB (fun i => decide (tB T (stS' T p + i) = w5.getD i 0)) 5 := by
          unfold isWd
          rw [show w5.length = 5 from rfl, decide_eq_true k3, decide_eq_true l3]
          rfl
        rw [ew] at hQ
        refine lm_G_sg 1 (pc' := 40) (L' := [some (.ref 64), some (.ref 1005), some (.int (b2i (alB (fun i => decide (tB T (stS' T p + i) = w5.getD i 0)) 5))), some (.int (nI 5))]) (S' := [.int (b2i (alB (fun i => decide (tB T (stS' T p + i) = w5.getD i 0)) 5))]) (σ' := lm_T M v G) rfl trivial ?_
        refine lm_G_br (b := (b2i (alB (fun i => decide (tB T (stS' T p + i) = w5.getD i 0)) 5)) = 0) (t := 82) (S' := []) rfl (fun h4 => ?_) (fun h4 => ?_)
        ·
          refine lm_G_sg 1 (pc' := 83) (L' := [some (.ref 64), some (.ref 1005), some (.int (b2i (alB (fun i => decide (tB T (stS' T p + i) = w5.getD i 0)) 5))), some (.int (nI 5))]) (S' := [.int (b2i (alB (fun i => decide (tB T (stS' T p + i) = w5.getD i 0)) 5))]) (σ' := lm_T M v G) rfl trivial ?_
          exact lm_G_re rfl (b2i_01 _) (Nat.zero_le _) (Nat.zero_le _) hQ
        ·
          refine lm_G_sg 3 (pc' := 48) (L' := [some (.ref 64), some (.ref 1005), some (.int (b2i (alB (fun i => decide (tB T (stS' T p + i) = w5.getD i 0)) 5))), some (.int (nI 5))]) (S' := [.int (Int32.ofNat 5), .int (nI 5)]) (σ' := lm_T M v G) rfl ⟨trivial, (Nat.le_of_ble_eq_true rfl), trivial⟩ ?_
          refine lm_G_br (b := (Int32.ofNat 5) ≤ (nI 5)) (t := 82) (S' := []) rfl (fun hc => ?_) (fun hc => absurd (nI_le (a := 5) (Nat.le_refl _) (by omega)) hc)
          refine lm_G_sg 1 (pc' := 83) (L' := [some (.ref 64), some (.ref 1005), some (.int (b2i (alB (fun i => decide (tB T (stS' T p + i) = w5.getD i 0)) 5))), some (.int (nI 5))]) (S' := [.int (b2i (alB (fun i => decide (tB T (stS' T p + i) = w5.getD i 0)) 5))]) (σ' := lm_T M v G) rfl trivial ?_
          exact lm_G_re rfl (b2i_01 _) (Nat.zero_le _) (Nat.zero_le _) hQ
      ·
        trivial
set_option maxRecDepth 10000 in
theorem m_is6 {X : lm_X} {d v : Nat} {M : Nat → Nat → Int32} {G : Nat → Nat → Int64} {Q : lm_O → lm_S → Prop} {T : Tx} {p : Nat} (hT : okT T) (hp : p ≤ tN T) (hg : GM M T p) (hQ : Q (.inl (some (.int (b2i (isWd T p w6))))) (lm_T M v G)) : lm_Q X d 155 [.ref 64, .ref 1006] (lm_T M v G) Q := by
  have hn := hT.1
  have kl := kn_le (T := T) (p := p)
  obtain ⟨el1, el2, el3⟩ := en_le hp
  obtain ⟨⟨hr, h21, h23, h24, h19, h22⟩, h25⟩ := hg
  show lm_G X d 155 106 0 0 0 [some (.ref 64), some (.ref 1006), none, none] [] (lm_T M v G) Q
  have tl := tk_le (T := T) (p := p)
  refine lm_G_sg 2 (pc' := 4) (L' := [some (.ref 64), some (.ref 1006), none, none]) (S' := [.int (M 64 25)]) (σ' := lm_T M v G) rfl trivial ?_
  rw [show M 64 25 = 0 from h25]
  refine lm_G_br (b := ¬ 0 = 0) (t := 35) (S' := []) rfl (fun hc => absurd rfl hc) (fun hc => ?_)
  refine lm_G_sg 2 (pc' := 11) (L' := [some (.ref 64), some (.ref 1006), none, none]) (S' := [.int (M 64 21)]) (σ' := lm_T M v G) rfl trivial ?_
  rw [show M 64 21 = nI (tkS T p) from h21]
  refine lm_G_sg 1 (pc' := 12) (L' := [some (.ref 64), some (.ref 1006), none, none]) (S' := [.int 1, .int (nI (tkS T p))]) (σ' := lm_T M v G) rfl trivial ?_
  refine lm_G_br (b := ¬ (nI (tkS T p)) = 1) (t := 35) (S' := []) rfl (fun h1 => ?_) (fun h1 => ?_)
  ·
    have k3 : ¬ knS T p = 1 := fun w => h1 (by rw [tk_1.mpr w]; rfl)
    rw [show isWd T p w6 = false from by unfold isWd; rw [decide_eq_false k3]; rfl] at hQ
    refine lm_G_sg 5 (pc' := 40) (L' := [some (.ref 64), some (.ref 1006), some (.int 0), some (.int 0)]) (S' := [.int 0]) (σ' := lm_T M v G) rfl trivial ?_
    refine lm_G_br (b := 0 = 0) (t := 82) (S' := []) rfl (fun h2 => ?_) (fun h2 => absurd rfl h2)
    refine lm_G_sg 1 (pc' := 83) (L' := [some (.ref 64), some (.ref 1006), some (.int 0), some (.int 0)]) (S' := [.int 0]) (σ' := lm_T M v G) rfl trivial ?_
    exact lm_G_re rfl (by decide) (Nat.zero_le _) (Nat.zero_le _) hQ
  ·
    have k3 : knS T p = 1 := tk_1.mp ((nI_eq (b := 1) (by omega) (by omega)).mp (Classical.not_not.mp h1))
    refine lm_G_sg 4 (pc' := 23) (L' := [some (.ref 64), some (.ref 1006), none, none]) (S' := [.int (M 64 24), .int (Int32.ofNat 6)]) (σ' := lm_T M v G) rfl ⟨trivial, (Nat.le_of_ble_eq_true rfl), trivial⟩ ?_
    rw [show M 64 24 = nI (enS T p) from h24]
    refine lm_G_sg 2 (pc' := 27) (L' := [some (.ref 64), some (.ref 1006), none, none]) (S' := [.int (M 64 23), .int (nI (enS T p)), .int (Int32.ofNat 6)]) (σ' := lm_T M v G) rfl trivial ?_
    rw [show M 64 23 = nI (stS' T p) from h23]
    refine lm_G_sg 1 (pc' := 28) (L' := [some (.ref 64), some (.ref 1006), none, none]) (S' := [.int ((nI (enS T p)) - (nI (stS' T p))), .int (Int32.ofNat 6)]) (σ' := lm_T M v G) rfl trivial ?_
    rw [show (nI (enS T p)) - (nI (stS' T p)) = nI (lnS T p) from nI_sub (by omega)]
    have ll : lnS T p ≤ 700 := by unfold lnS; omega
    refine lm_G_br (b := ¬ (Int32.ofNat 6) = (nI (lnS T p))) (t := 35) (S' := []) rfl (fun h2 => ?_) (fun h2 => ?_)
    ·
      have l3 : ¬ lnS T p = w6.length := fun w => h2 (by rw [w]; rfl)
      rw [show isWd T p w6 = false from by unfold isWd; rw [decide_eq_false l3, Bool.false_and, Bool.and_false]] at hQ
      refine lm_G_sg 5 (pc' := 40) (L' := [some (.ref 64), some (.ref 1006), some (.int 0), some (.int 0)]) (S' := [.int 0]) (σ' := lm_T M v G) rfl trivial ?_
      refine lm_G_br (b := 0 = 0) (t := 82) (S' := []) rfl (fun h3 => ?_) (fun h3 => absurd rfl h3)
      refine lm_G_sg 1 (pc' := 83) (L' := [some (.ref 64), some (.ref 1006), some (.int 0), some (.int 0)]) (S' := [.int 0]) (σ' := lm_T M v G) rfl trivial ?_
      exact lm_G_re rfl (by decide) (Nat.zero_le _) (Nat.zero_le _) hQ
    ·
      have l3 : lnS T p = 6 := ((nI_eq (a := 6) (by omega) (by omega)).mp (Classical.not_not.mp h2)).symm
      have le3 : enS T p - stS' T p = 6 := l3
      refine lm_G_sg 5 (pc' := 39) (L' := [some (.ref 64), some (.ref 1006), some (.int 1), some (.int 0)]) (S' := []) (σ' := lm_T M v G) rfl trivial ?_
      suffices hx : lm_G X d 155 106 0 0 39 [some (.ref 64), some (.ref 1006), some (.int (b2i (alB (fun i => decide (tB T (stS' T p + i) = w6.getD i 0)) 0))), some (.int 0)] [] (lm_T M v G) Q from hx
      refine lm_ind (α := Unit) (St := fun (j : Nat) zz => lm_G X d 155 106 0 0 39 [some (.ref 64), some (.ref 1006), some (.int (b2i (alB (fun i => decide (tB T (stS' T p + i) = w6.getD i 0)) j))), some (.int (nI j))] [] (lm_T M v G) Q) (Inv := fun (j : Nat) zz => True) (6) (fun j zz hj hI ih => ?_) (fun zz hI => ?_) (0) () (by omega) ?_
      ·
        replace hI : True := hI
        replace ih : ∀ (_ : True), lm_G X d 155 106 0 0 39 [some (.ref 64), some (.ref 1006), some (.int (b2i (alB (fun i => decide (tB T (stS' T p + i) = w6.getD i 0)) (j + 1)))), some (.int (nI (j + 1)))] [] (lm_T M v G) Q := fun q => ih () q
        show lm_G X d 155 106 0 0 39 [some (.ref 64), some (.ref 1006), some (.int (b2i (alB (fun i => decide (tB T (stS' T p + i) = w6.getD i 0)) j))), some (.int (nI j))] [] (lm_T M v G) Q
        have hbb := hT.2 (stS' T p + j) (by omega)
        obtain ⟨v1, v2⟩ := w6_ok j hj
        refine lm_G_sg 1 (pc' := 40) (L' := [some (.ref 64), some (.ref 1006), some (.int (b2i (alB (fun i => decide (tB T (stS' T p + i) = w6.getD i 0)) j))), some (.int (nI j))]) (S' := [.int (b2i (alB (fun i => decide (tB T (stS' T p + i) = w6.getD i 0)) j))]) (σ' := lm_T M v G) rfl trivial ?_
        refine lm_G_br (b := (b2i (alB (fun i => decide (tB T (stS' T p + i) = w6.getD i 0)) j)) = 0) (t := 82) (S' := []) rfl (fun h4 => ?_) (fun h4 => ?_)
        ·
          have e5 : alB (fun i => decide (tB T (stS' T p + i) = w6.getD i 0)) 6 = false := by
            refine Bool.eq_false_iff.mpr (fun w => ?_)
            have := b2i_0 h4
            rw [al_t.mpr (fun k hk => al_t.mp w k (by omega))] at this
            cases this
          rw [show isWd T p w6 = false from by unfold isWd; rw [show w6.length = 6 from rfl, e5, Bool.and_false, Bool.and_false]] at hQ
          rw [b2i_0 h4]
          refine lm_G_sg 1 (pc' := 83) (L' := [some (.ref 64), some (.ref 1006), some (.int (b2i false)), some (.int (nI j))]) (S' := [.int (b2i false)]) (σ' := lm_T M v G) rfl trivial ?_
          exact lm_G_re rfl (b2i_01 _) (Nat.zero_le _) (Nat.zero_le _) hQ
        ·
          have e4 := b2i_1 h4
          refine lm_G_sg 3 (pc' := 48) (L' := [some (.ref 64), some (.ref 1006), some (.int (b2i (alB (fun i => decide (tB T (stS' T p + i) = w6.getD i 0)) j))), some (.int (nI j))]) (S' := [.int (Int32.ofNat 6), .int (nI j)]) (σ' := lm_T M v G) rfl ⟨trivial, (Nat.le_of_ble_eq_true rfl), trivial⟩ ?_
          refine lm_G_br (b := (Int32.ofNat 6) ≤ (nI j)) (t := 82) (S' := []) rfl (fun hc => absurd hc (nI_ge (b := 6) hj (by omega))) (fun hc => ?_)
          refine lm_G_sg 3 (pc' := 56) (L' := [some (.ref 64), some (.ref 1006), some (.int (b2i (alB (fun i => decide (tB T (stS' T p + i) = w6.getD i 0)) j))), some (.int (nI j))]) (S' := [.int ((lm_wz 6).getD (nI j).toNatClampNeg 0)]) (σ' := lm_T M v G) rfl ⟨(show vp_in _ 6 from vp_in_nI (by omega) (by omega)), (Nat.le_of_ble_eq_true rfl), trivial⟩ ?_
          rw [nI_clamp (n := j) (by omega), v1]
          refine lm_G_sg 4 (pc' := 64) (L' := [some (.ref 64), some (.ref 1006), some (.int (b2i (alB (fun i => decide (tB T (stS' T p + i) = w6.getD i 0)) j))), some (.int (nI j))]) (S' := [.int (M 64 23), .ref 80, .int (nI (w6.getD j 0))]) (σ' := lm_T M v G) rfl trivial ?_
          rw [show M 64 23 = nI (stS' T p) from h23]
          refine lm_G_sg 2 (pc' := 66) (L' := [some (.ref 64), some (.ref 1006), some (.int (b2i (alB (fun i => decide (tB T (stS' T p + i) = w6.getD i 0)) j))), some (.int (nI j))]) (S' := [.int ((nI (stS' T p)) + (nI j)), .ref 80, .int (nI (w6.getD j 0))]) (σ' := lm_T M v G) rfl trivial ?_
          rw [show (nI (stS' T p)) + (nI j) = nI ((stS' T p) + j) from nI_add (stS' T p) j]
          refine lm_G_sg 1 (pc' := 67) (L' := [some (.ref 64), some (.ref 1006), some (.int (b2i (alB (fun i => decide (tB T (stS' T p + i) = w6.getD i 0)) j))), some (.int (nI j))]) (S' := [.int (M 80 (nI ((stS' T p) + j)).toNatClampNeg), .int (nI (w6.getD j 0))]) (σ' := lm_T M v G) rfl ⟨(vp_in_nI (by omega) (by omega)), trivial, trivial⟩ ?_
          rw [show (nI ((stS' T p) + j)).toNatClampNeg = ((stS' T p) + j) from nI_clamp (by omega)]
          rw [show M 80 ((stS' T p) + j) = nI (tB T ((stS' T p) + j)) from hr.2 ((stS' T p) + j) (by omega)]
          refine lm_G_br (b := ¬ (nI (w6.getD j 0)) = (nI (tB T ((stS' T p) + j)))) (t := 74) (S' := []) rfl (fun h5 => ?_) (fun h5 => ?_)
          ·
            refine lm_G_sg 3 (pc' := 79) (L' := [some (.ref 64), some (.ref 1006), some (.int 0), some (.int ((nI j) + 1))]) (S' := []) (σ' := lm_T M v G) rfl trivial ?_
            rw [nI_1]
            refine lm_G_sg 1 (pc' := 39) (L' := [some (.ref 64), some (.ref 1006), some (.int 0), some (.int (nI (j + 1)))]) (S' := []) (σ' := lm_T M v G) rfl trivial ?_
            have e5 : alB (fun i => decide (tB T (stS' T p + i) = w6.getD i 0)) (j + 1) = false := by
              simp only [alB]
              rw [decide_eq_false (fun w => h5 (by rw [w])), Bool.and_false]
            rw [e5] at ih
            exact ih  trivial
          ·
            refine lm_G_sg 4 (pc' := 79) (L' := [some (.ref 64), some (.ref 1006), some (.int 1), some (.int ((nI j) + 1))]) (S' := []) (σ' := lm_T M v G) rfl trivial ?_
            rw [nI_1]
            refine lm_G_sg 1 (pc' := 39) (L' := [some (.ref 64), some (.ref 1006), some (.int 1), some (.int (nI (j + 1)))]) (S' := []) (σ' := lm_T M v G) rfl trivial ?_
            have e5 : alB (fun i => decide (tB T (stS' T p + i) = w6.getD i 0)) (j + 1) = true := by
              simp only [alB]
              rw [e4, decide_eq_true ((nI_eq (by omega) (by omega)).mp (Classical.not_not.mp h5)).symm]
              rfl
            rw [e5] at ih
            exact ih  trivial
      ·
        replace hI : True := hI
        show lm_G X d 155 106 0 0 39 [some (.ref 64), some (.ref 1006), some (.int (b2i (alB (fun i => decide (tB T (stS' T p + i) = w6.getD i 0)) 6))), some (.int (nI 6))] [] (lm_T M v G) Q
        have ew : isWd T p w6 = alB (fun i => decide (tB T (stS' T p + i) = w6.getD i 0)) 6 := by
          unfold isWd
          rw [show w6.length = 6 from rfl, decide_eq_true k3, decide_eq_true l3]
          rfl
        rw [ew] at hQ
        refine lm_G_sg 1 (pc' := 40) (L' := [some (.ref 64), some (.ref 1006), some (.int (b2i (alB (fun i => decide (tB T (stS' T p + i) = w6.getD i 0)) 6))), some (.int (nI 6))]) (S' := [.int (b2i (alB (fun i => decide (tB T (stS' T p + i) = w6.getD i 0)) 6))]) (σ' := lm_T M v G) rfl trivial ?_
        refine lm_G_br (b := (b2i (alB (fun i => decide (tB T (stS' T p + i) = w6.getD i 0)) 6)) = 0) (t := 82) (S' := []) rfl (fun h4 => ?_) (fun h4 => ?_)
        ·
          refine lm_G_sg 1 (pc' := 83) (L' := [some (.ref 64), some (.ref 1006), some (.int (b2i (alB (fun i => decide (tB T (stS' T p + i) = w6.getD i 0)) 6))), some (.int (nI 6))]) (S' := [.int (b2i (alB (fun i => decide (tB T (stS' T p + i) = w6.getD i 0)) 6))]) (σ' := lm_T M v G) rfl trivial ?_
          exact lm_G_re rfl (b2i_01 _) (Nat.zero_le _) (Nat.zero_le _) hQ
        ·
          refine lm_G_sg 3 (pc' := 48) (L' := [some (.ref 64), some (.ref 1006), some (.int (b2i (alB (fun i => decide (tB T (stS' T p + i) = w6.getD i 0)) 6))), some (.int (nI 6))]) (S' := [.int (Int32.ofNat 6), .int (nI 6)]) (σ' := lm_T M v G) rfl ⟨trivial, (Nat.le_of_ble_eq_true rfl), trivial⟩ ?_
          refine lm_G_br (b := (Int32.ofNat 6) ≤ (nI 6)) (t := 82) (S' := []) rfl (fun hc => ?_) (fun hc => absurd (nI_le (a := 6) (Nat.le_refl _) (by omega)) hc)
          refine lm_G_sg 1 (pc' := 83) (L' := [some (.ref 64), some (.ref 1006), some (.int (b2i (alB (fun i => decide (tB T (stS' T p + i) = w6.getD i 0)) 6))), some (.int (nI 6))]) (S' := [.int (b2i (alB (fun i => decide (tB T (stS' T p + i) = w6.getD i 0)) 6))]) (σ' := lm_T M v G) rfl trivial ?_
          exact lm_G_re rfl (b2i_01 _) (Nat.zero_le _) (Nat.zero_le _) hQ
      ·
        trivial
set_option maxRecDepth 10000 in
theorem m_is7 {X : lm_X} {d v : Nat} {M : Nat → Nat → Int32} {G : Nat → Nat → Int64} {Q : lm_O → lm_S → Prop} {T : Tx} {p : Nat} (hT : okT T) (hp : p ≤ tN T) (hg : GM M T p) (hQ : Q (.inl (some (.int (b2i (isWd T p w7))))) (lm_T M v G)) : lm_Q X d 155 [.ref 64, .ref 1007] (lm_T M v G) Q := by
  have hn := hT.1
  have kl := kn_le (T := T) (p := p)
  obtain ⟨el1, el2, el3⟩ := en_le hp
  obtain ⟨⟨hr, h21, h23, h24, h19, h22⟩, h25⟩ := hg
  show lm_G X d 155 106 0 0 0 [some (.ref 64), some (.ref 1007), none, none] [] (lm_T M v G) Q
  have tl := tk_le (T := T) (p := p)
  refine lm_G_sg 2 (pc' := 4) (L' := [some (.ref 64), some (.ref 1007), none, none]) (S' := [.int (M 64 25)]) (σ' := lm_T M v G) rfl trivial ?_
  rw [show M 64 25 = 0 from h25]
  refine lm_G_br (b := ¬ 0 = 0) (t := 35) (S' := []) rfl (fun hc => absurd rfl hc) (fun hc => ?_)
  refine lm_G_sg 2 (pc' := 11) (L' := [some (.ref 64), some (.ref 1007), none, none]) (S' := [.int (M 64 21)]) (σ' := lm_T M v G) rfl trivial ?_
  rw [show M 64 21 = nI (tkS T p) from h21]
  refine lm_G_sg 1 (pc' := 12) (L' := [some (.ref 64), some (.ref 1007), none, none]) (S' := [.int 1, .int (nI (tkS T p))]) (σ' := lm_T M v G) rfl trivial ?_
  refine lm_G_br (b := ¬ (nI (tkS T p)) = 1) (t := 35) (S' := []) rfl (fun h1 => ?_) (fun h1 => ?_)
  ·
    have k3 : ¬ knS T p = 1 := fun w => h1 (by rw [tk_1.mpr w]; rfl)
    rw [show isWd T p w7 = false from by unfold isWd; rw [decide_eq_false k3]; rfl] at hQ
    refine lm_G_sg 5 (pc' := 40) (L' := [some (.ref 64), some (.ref 1007), some (.int 0), some (.int 0)]) (S' := [.int 0]) (σ' := lm_T M v G) rfl trivial ?_
    refine lm_G_br (b := 0 = 0) (t := 82) (S' := []) rfl (fun h2 => ?_) (fun h2 => absurd rfl h2)
    refine lm_G_sg 1 (pc' := 83) (L' := [some (.ref 64), some (.ref 1007), some (.int 0), some (.int 0)]) (S' := [.int 0]) (σ' := lm_T M v G) rfl trivial ?_
    exact lm_G_re rfl (by decide) (Nat.zero_le _) (Nat.zero_le _) hQ
  ·
    have k3 : knS T p = 1 := tk_1.mp ((nI_eq (b := 1) (by omega) (by omega)).mp (Classical.not_not.mp h1))
    refine lm_G_sg 4 (pc' := 23) (L' := [some (.ref 64), some (.ref 1007), none, none]) (S' := [.int (M 64 24), .int (Int32.ofNat 3)]) (σ' := lm_T M v G) rfl ⟨trivial, (Nat.le_of_ble_eq_true rfl), trivial⟩ ?_
    rw [show M 64 24 = nI (enS T p) from h24]
    refine lm_G_sg 2 (pc' := 27) (L' := [some (.ref 64), some (.ref 1007), none, none]) (S' := [.int (M 64 23), .int (nI (enS T p)), .int (Int32.ofNat 3)]) (σ' := lm_T M v G) rfl trivial ?_
    rw [show M 64 23 = nI (stS' T p) from h23]
    refine lm_G_sg 1 (pc' := 28) (L' := [some (.ref 64), some (.ref 1007), none, none]) (S' := [.int ((nI (enS T p)) - (nI (stS' T p))), .int (Int32.ofNat 3)]) (σ' := lm_T M v G) rfl trivial ?_
    rw [show (nI (enS T p)) - (nI (stS' T p)) = nI (lnS T p) from nI_sub (by omega)]
    have ll : lnS T p ≤ 700 := by unfold lnS; omega
    refine lm_G_br (b := ¬ (Int32.ofNat 3) = (nI (lnS T p))) (t := 35) (S' := []) rfl (fun h2 => ?_) (fun h2 => ?_)
    ·
      have l3 : ¬ lnS T p = w7.length := fun w => h2 (by rw [w]; rfl)
      rw [show isWd T p w7 = false from by unfold isWd; rw [decide_eq_false l3, Bool.false_and, Bool.and_false]] at hQ
      refine lm_G_sg 5 (pc' := 40) (L' := [some (.ref 64), some (.ref 1007), some (.int 0), some (.int 0)]) (S' := [.int 0]) (σ' := lm_T M v G) rfl trivial ?_
      refine lm_G_br (b := 0 = 0) (t := 82) (S' := []) rfl (fun h3 => ?_) (fun h3 => absurd rfl h3)
      refine lm_G_sg 1 (pc' := 83) (L' := [some (.ref 64), some (.ref 1007), some (.int 0), some (.int 0)]) (S' := [.int 0]) (σ' := lm_T M v G) rfl trivial ?_
      exact lm_G_re rfl (by decide) (Nat.zero_le _) (Nat.zero_le _) hQ
    ·
      have l3 : lnS T p = 3 := ((nI_eq (a := 3) (by omega) (by omega)).mp (Classical.not_not.mp h2)).symm
      have le3 : enS T p - stS' T p = 3 := l3
      refine lm_G_sg 5 (pc' := 39) (L' := [some (.ref 64), some (.ref 1007), some (.int 1), some (.int 0)]) (S' := []) (σ' := lm_T M v G) rfl trivial ?_
      suffices hx : lm_G X d 155 106 0 0 39 [some (.ref 64), some (.ref 1007), some (.int (b2i (alB (fun i => decide (tB T (stS' T p + i) = w7.getD i 0)) 0))), some (.int 0)] [] (lm_T M v G) Q from hx
      refine lm_ind (α := Unit) (St := fun (j : Nat) zz => lm_G X d 155 106 0 0 39 [some (.ref 64), some (.ref 1007), some (.int (b2i (alB (fun i => decide (tB T (stS' T p + i) = w7.getD i 0)) j))), some (.int (nI j))] [] (lm_T M v G) Q) (Inv := fun (j : Nat) zz => True) (3) (fun j zz hj hI ih => ?_) (fun zz hI => ?_) (0) () (by omega) ?_
      ·
        replace hI : True := hI
        replace ih : ∀ (_ : True), lm_G X d 155 106 0 0 39 [some (.ref 64), some (.ref 1007), some (.int (b2i (alB (fun i => decide (tB T (stS' T p + i) = w7.getD i 0)) (j + 1)))), some (.int (nI (j + 1)))] [] (lm_T M v G) Q := fun q => ih () q
        show lm_G X d 155 106 0 0 39 [some (.ref 64), some (.ref 1007), some (.int (b2i (alB (fun i => decide (tB T (stS' T p + i) = w7.getD i 0)) j))), some (.int (nI j))] [] (lm_T M v G) Q
        have hbb := hT.2 (stS' T p + j) (by omega)
        obtain ⟨v1, v2⟩ := w7_ok j hj
        refine lm_G_sg 1 (pc' := 40) (L' := [some (.ref 64), some (.ref 1007), some (.int (b2i (alB (fun i => decide (tB T (stS' T p + i) = w7.getD i 0)) j))), some (.int (nI j))]) (S' := [.int (b2i (alB (fun i => decide (tB T (stS' T p + i) = w7.getD i 0)) j))]) (σ' := lm_T M v G) rfl trivial ?_
        refine lm_G_br (b := (b2i (alB (fun i => decide (tB T (stS' T p + i) = w7.getD i 0)) j)) = 0) (t := 82) (S' := []) rfl (fun h4 => ?_) (fun h4 => ?_)
        ·
          have e5 : alB (fun i => decide (tB T (stS' T p + i) = w7.getD i 0)) 3 = false := by
            refine Bool.eq_false_iff.mpr (fun w => ?_)
            have := b2i_0 h4
            rw [al_t.mpr (fun k hk => al_t.mp w k (by omega))] at this
            cases this
          rw [show isWd T p w7 = false from by unfold isWd; rw [show w7.length = 3 from rfl, e5, Bool.and_false, Bool.and_false]] at hQ
          rw [b2i_0 h4]
          refine lm_G_sg 1 (pc' := 83) (L' := [some (.ref 64), some (.ref 1007), some (.int (b2i false)), some (.int (nI j))]) (S' := [.int (b2i false)]) (σ' := lm_T M v G) rfl trivial ?_
          exact lm_G_re rfl (b2i_01 _) (Nat.zero_le _) (Nat.zero_le _) hQ
        ·
          have e4 := b2i_1 h4
          refine lm_G_sg 3 (pc' := 48) (L' := [some (.ref 64), some (.ref 1007), some (.int (b2i (alB (fun i => decide (tB T (stS' T p + i) = w7.getD i 0)) j))), some (.int (nI j))]) (S' := [.int (Int32.ofNat 3), .int (nI j)]) (σ' := lm_T M v G) rfl ⟨trivial, (Nat.le_of_ble_eq_true rfl), trivial⟩ ?_
          refine lm_G_br (b := (Int32.ofNat 3) ≤ (nI j)) (t := 82) (S' := []) rfl (fun hc => absurd hc (nI_ge (b := 3) hj (by omega))) (fun hc => ?_)
          refine lm_G_sg 3 (pc' := 56) (L' := [some (.ref 64), some (.ref 1007), some (.int (b2i (alB (fun i => decide (tB T (stS' T p + i) = w7.getD i 0)) j))), some (.int (nI j))]) (S' := [.int ((lm_wz 7).getD (nI j).toNatClampNeg 0)]) (σ' := lm_T M v G) rfl ⟨(show vp_in _ 3 from vp_in_nI (by omega) (by omega)), (Nat.le_of_ble_eq_true rfl), trivial⟩ ?_
          rw [nI_clamp (n := j) (by omega), v1]
          refine lm_G_sg 4 (pc' := 64) (L' := [some (.ref 64), some (.ref 1007), some (.int (b2i (alB (fun i => decide (tB T (stS' T p + i) = w7.getD i 0)) j))), some (.int (nI j))]) (S' := [.int (M 64 23), .ref 80, .int (nI (w7.getD j 0))]) (σ' := lm_T M v G) rfl trivial ?_
          rw [show M 64 23 = nI (stS' T p) from h23]
          refine lm_G_sg 2 (pc' := 66) (L' := [some (.ref 64), some (.ref 1007), some (.int (b2i (alB (fun i => decide (tB T (stS' T p + i) = w7.getD i 0)) j))), some (.int (nI j))]) (S' := [.int ((nI (stS' T p)) + (nI j)), .ref 80, .int (nI (w7.getD j 0))]) (σ' := lm_T M v G) rfl trivial ?_
          rw [show (nI (stS' T p)) + (nI j) = nI ((stS' T p) + j) from nI_add (stS' T p) j]
          refine lm_G_sg 1 (pc' := 67) (L' := [some (.ref 64), some (.ref 1007), some (.int (b2i (alB (fun i => decide (tB T (stS' T p + i) = w7.getD i 0)) j))), some (.int (nI j))]) (S' := [.int (M 80 (nI ((stS' T p) + j)).toNatClampNeg), .int (nI (w7.getD j 0))]) (σ' := lm_T M v G) rfl ⟨(vp_in_nI (by omega) (by omega)), trivial, trivial⟩ ?_
          rw [show (nI ((stS' T p) + j)).toNatClampNeg = ((stS' T p) + j) from nI_clamp (by omega)]
          rw [show M 80 ((stS' T p) + j) = nI (tB T ((stS' T p) + j)) from hr.2 ((stS' T p) + j) (by omega)]
          refine lm_G_br (b := ¬ (nI (w7.getD j 0)) = (nI (tB T ((stS' T p) + j)))) (t := 74) (S' := []) rfl (fun h5 => ?_) (fun h5 => ?_)
          ·
            refine lm_G_sg 3 (pc' := 79) (L' := [some (.ref 64), some (.ref 1007), some (.int 0), some (.int ((nI j) + 1))]) (S' := []) (σ' := lm_T M v G) rfl trivial ?_
            rw [nI_1]
            refine lm_G_sg 1 (pc' := 39) (L' := [some (.ref 64), some (.ref 1007), some (.int 0), some (.int (nI (j + 1)))]) (S' := []) (σ' := lm_T M v G) rfl trivial ?_
            have e5 : alB (fun i => decide (tB T (stS' T p + i) = w7.getD i 0)) (j + 1) = false := by
              simp only [alB]
              rw [decide_eq_false (fun w => h5 (by rw [w])), Bool.and_false]
            rw [e5] at ih
            exact ih  trivial
          ·
            refine lm_G_sg 4 (pc' := 79) (L' := [some (.ref 64), some (.ref 1007), some (.int 1), some (.int ((nI j) + 1))]) (S' := []) (σ' := lm_T M v G) rfl trivial ?_
            rw [nI_1]
            refine lm_G_sg 1 (pc' := 39) (L' := [some (.ref 64), some (.ref 1007), some (.int 1), some (.int (nI (j + 1)))]) (S' := []) (σ' := lm_T M v G) rfl trivial ?_
            have e5 : alB (fun i => decide (tB T (stS' T p + i) = w7.getD i 0)) (j + 1) = true := by
              simp only [alB]
              rw [e4, decide_eq_true ((nI_eq (by omega) (by omega)).mp (Classical.not_not.mp h5)).symm]
              rfl
            rw [e5] at ih
            exact ih  trivial
      ·
        replace hI : True := hI
        show lm_G X d 155 106 0 0 39 [some (.ref 64), some (.ref 1007), some (.int (b2i (alB (fun i => decide (tB T (stS' T p + i) = w7.getD i 0)) 3))), some (.int (nI 3))] [] (lm_T M v G) Q
        have ew : isWd T p w7 = alB (fun i => decide (tB T (stS' T p + i) = w7.getD i 0)) 3 := by
          unfold isWd
          rw [show w7.length = 3 from rfl, decide_eq_true k3, decide_eq_true l3]
          rfl
        rw [ew] at hQ
        refine lm_G_sg 1 (pc' := 40) (L' := [some (.ref 64), some (.ref 1007), some (.int (b2i (alB (fun i => decide (tB T (stS' T p + i) = w7.getD i 0)) 3))), some (.int (nI 3))]) (S' := [.int (b2i (alB (fun i => decide (tB T (stS' T p + i) = w7.getD i 0)) 3))]) (σ' := lm_T M v G) rfl trivial ?_
        refine lm_G_br (b := (b2i (alB (fun i => decide (tB T (stS' T p + i) = w7.getD i 0)) 3)) = 0) (t := 82) (S' := []) rfl (fun h4 => ?_) (fun h4 => ?_)
        ·
          refine lm_G_sg 1 (pc' := 83) (L' := [some (.ref 64), some (.ref 1007), some (.int (b2i (alB (fun i => decide (tB T (stS' T p + i) = w7.getD i 0)) 3))), some (.int (nI 3))]) (S' := [.int (b2i (alB (fun i => decide (tB T (stS' T p + i) = w7.getD i 0)) 3))]) (σ' := lm_T M v G) rfl trivial ?_
          exact lm_G_re rfl (b2i_01 _) (Nat.zero_le _) (Nat.zero_le _) hQ
        ·
          refine lm_G_sg 3 (pc' := 48) (L' := [some (.ref 64), some (.ref 1007), some (.int (b2i (alB (fun i => decide (tB T (stS' T p + i) = w7.getD i 0)) 3))), some (.int (nI 3))]) (S' := [.int (Int32.ofNat 3), .int (nI 3)]) (σ' := lm_T M v G) rfl ⟨trivial, (Nat.le_of_ble_eq_true rfl), trivial⟩ ?_
          refine lm_G_br (b := (Int32.ofNat 3) ≤ (nI 3)) (t := 82) (S' := []) rfl (fun hc => ?_) (fun hc => absurd (nI_le (a := 3) (Nat.le_refl _) (by omega)) hc)
          refine lm_G_sg 1 (pc' := 83) (L' := [some (.ref 64), some (.ref 1007), some (.int (b2i (alB (fun i => decide (tB T (stS' T p + i) = w7.getD i 0)) 3))), some (.int (nI 3))]) (S' := [.int (b2i (alB (fun i => decide (tB T (stS' T p + i) = w7.getD i 0)) 3))]) (σ' := lm_T M v G) rfl trivial ?_
          exact lm_G_re rfl (b2i_01 _) (Nat.zero_le _) (Nat.zero_le _) hQ
      ·
        trivial
set_option maxRecDepth 10000 in
theorem m_is8 {X : lm_X} {d v : Nat} {M : Nat → Nat → Int32} {G : Nat → Nat → Int64} {Q : lm_O → lm_S → Prop} {T : Tx} {p : Nat} (hT : okT T) (hp : p ≤ tN T) (hg : GM M T p) (hQ : Q (.inl (some (.int (b2i (isWd T p w8))))) (lm_T M v G)) : lm_Q X d 155 [.ref 64, .ref 1008] (lm_T M v G) Q := by
  have hn := hT.1
  have kl := kn_le (T := T) (p := p)
  obtain ⟨el1, el2, el3⟩ := en_le hp
  obtain ⟨⟨hr, h21, h23, h24, h19, h22⟩, h25⟩ := hg
  show lm_G X d 155 106 0 0 0 [some (.ref 64), some (.ref 1008), none, none] [] (lm_T M v G) Q
  have tl := tk_le (T := T) (p := p)
  refine lm_G_sg 2 (pc' := 4) (L' := [some (.ref 64), some (.ref 1008), none, none]) (S' := [.int (M 64 25)]) (σ' := lm_T M v G) rfl trivial ?_
  rw [show M 64 25 = 0 from h25]
  refine lm_G_br (b := ¬ 0 = 0) (t := 35) (S' := []) rfl (fun hc => absurd rfl hc) (fun hc => ?_)
  refine lm_G_sg 2 (pc' := 11) (L' := [some (.ref 64), some (.ref 1008), none, none]) (S' := [.int (M 64 21)]) (σ' := lm_T M v G) rfl trivial ?_
  rw [show M 64 21 = nI (tkS T p) from h21]
  refine lm_G_sg 1 (pc' := 12) (L' := [some (.ref 64), some (.ref 1008), none, none]) (S' := [.int 1, .int (nI (tkS T p))]) (σ' := lm_T M v G) rfl trivial ?_
  refine lm_G_br (b := ¬ (nI (tkS T p)) = 1) (t := 35) (S' := []) rfl (fun h1 => ?_) (fun h1 => ?_)
  ·
    have k3 : ¬ knS T p = 1 := fun w => h1 (by rw [tk_1.mpr w]; rfl)
    rw [show isWd T p w8 = false from by unfold isWd; rw [decide_eq_false k3]; rfl] at hQ
    refine lm_G_sg 5 (pc' := 40) (L' := [some (.ref 64), some (.ref 1008), some (.int 0), some (.int 0)]) (S' := [.int 0]) (σ' := lm_T M v G) rfl trivial ?_
    refine lm_G_br (b := 0 = 0) (t := 82) (S' := []) rfl (fun h2 => ?_) (fun h2 => absurd rfl h2)
    refine lm_G_sg 1 (pc' := 83) (L' := [some (.ref 64), some (.ref 1008), some (.int 0), some (.int 0)]) (S' := [.int 0]) (σ' := lm_T M v G) rfl trivial ?_
    exact lm_G_re rfl (by decide) (Nat.zero_le _) (Nat.zero_le _) hQ
  ·
    have k3 : knS T p = 1 := tk_1.mp ((nI_eq (b := 1) (by omega) (by omega)).mp (Classical.not_not.mp h1))
    refine lm_G_sg 4 (pc' := 23) (L' := [some (.ref 64), some (.ref 1008), none, none]) (S' := [.int (M 64 24), .int (Int32.ofNat 4)]) (σ' := lm_T M v G) rfl ⟨trivial, (Nat.le_of_ble_eq_true rfl), trivial⟩ ?_
    rw [show M 64 24 = nI (enS T p) from h24]
    refine lm_G_sg 2 (pc' := 27) (L' := [some (.ref 64), some (.ref 1008), none, none]) (S' := [.int (M 64 23), .int (nI (enS T p)), .int (Int32.ofNat 4)]) (σ' := lm_T M v G) rfl trivial ?_
    rw [show M 64 23 = nI (stS' T p) from h23]
    refine lm_G_sg 1 (pc' := 28) (L' := [some (.ref 64), some (.ref 1008), none, none]) (S' := [.int ((nI (enS T p)) - (nI (stS' T p))), .int (Int32.ofNat 4)]) (σ' := lm_T M v G) rfl trivial ?_
    rw [show (nI (enS T p)) - (nI (stS' T p)) = nI (lnS T p) from nI_sub (by omega)]
    have ll : lnS T p ≤ 700 := by unfold lnS; omega
    refine lm_G_br (b := ¬ (Int32.ofNat 4) = (nI (lnS T p))) (t := 35) (S' := []) rfl (fun h2 => ?_) (fun h2 => ?_)
    ·
      have l3 : ¬ lnS T p = w8.length := fun w => h2 (by rw [w]; rfl)
      rw [show isWd T p w8 = false from by unfold isWd; rw [decide_eq_false l3, Bool.false_and, Bool.and_false]] at hQ
      refine lm_G_sg 5 (pc' := 40) (L' := [some (.ref 64), some (.ref 1008), some (.int 0), some (.int 0)]) (S' := [.int 0]) (σ' := lm_T M v G) rfl trivial ?_
      refine lm_G_br (b := 0 = 0) (t := 82) (S' := []) rfl (fun h3 => ?_) (fun h3 => absurd rfl h3)
      refine lm_G_sg 1 (pc' := 83) (L' := [some (.ref 64), some (.ref 1008), some (.int 0), some (.int 0)]) (S' := [.int 0]) (σ' := lm_T M v G) rfl trivial ?_
      exact lm_G_re rfl (by decide) (Nat.zero_le _) (Nat.zero_le _) hQ
    ·
      have l3 : lnS T p = 4 := ((nI_eq (a := 4) (by omega) (by omega)).mp (Classical.not_not.mp h2)).symm
      have le3 : enS T p - stS' T p = 4 := l3
      refine lm_G_sg 5 (pc' := 39) (L' := [some (.ref 64), some (.ref 1008), some (.int 1), some (.int 0)]) (S' := []) (σ' := lm_T M v G) rfl trivial ?_
      suffices hx : lm_G X d 155 106 0 0 39 [some (.ref 64), some (.ref 1008), some (.int (b2i (alB (fun i => decide (tB T (stS' T p + i) = w8.getD i 0)) 0))), some (.int 0)] [] (lm_T M v G) Q from hx
      refine lm_ind (α := Unit) (St := fun (j : Nat) zz => lm_G X d 155 106 0 0 39 [some (.ref 64), some (.ref 1008), some (.int (b2i (alB (fun i => decide (tB T (stS' T p + i) = w8.getD i 0)) j))), some (.int (nI j))] [] (lm_T M v G) Q) (Inv := fun (j : Nat) zz => True) (4) (fun j zz hj hI ih => ?_) (fun zz hI => ?_) (0) () (by omega) ?_
      ·
        replace hI : True := hI
        replace ih : ∀ (_ : True), lm_G X d 155 106 0 0 39 [some (.ref 64), some (.ref 1008), some (.int (b2i (alB (fun i => decide (tB T (stS' T p + i) = w8.getD i 0)) (j + 1)))), some (.int (nI (j + 1)))] [] (lm_T M v G) Q := fun q => ih () q
        show lm_G X d 155 106 0 0 39 [some (.ref 64), some (.ref 1008), some (.int (b2i (alB (fun i => decide (tB T (stS' T p + i) = w8.getD i 0)) j))), some (.int (nI j))] [] (lm_T M v G) Q
        have hbb := hT.2 (stS' T p + j) (by omega)
        obtain ⟨v1, v2⟩ := w8_ok j hj
        refine lm_G_sg 1 (pc' := 40) (L' := [some (.ref 64), some (.ref 1008), some (.int (b2i (alB (fun i => decide (tB T (stS' T p + i) = w8.getD i 0)) j))), some (.int (nI j))]) (S' := [.int (b2i (alB (fun i => decide (tB T (stS' T p + i) = w8.getD i 0)) j))]) (σ' := lm_T M v G) rfl trivial ?_
        refine lm_G_br (b := (b2i (alB (fun i => decide (tB T (stS' T p + i) = w8.getD i 0)) j)) = 0) (t := 82) (S' := []) rfl (fun h4 => ?_) (fun h4 => ?_)
        ·
          have e5 : alB (fun i => decide (tB T (stS' T p + i) = w8.getD i 0)) 4 = false := by
            refine Bool.eq_false_iff.mpr (fun w => ?_)
            have := b2i_0 h4
            rw [al_t.mpr (fun k hk => al_t.mp w k (by omega))] at this
            cases this
          rw [show isWd T p w8 = false from by unfold isWd; rw [show w8.length = 4 from rfl, e5, Bool.and_false, Bool.and_false]] at hQ
          rw [b2i_0 h4]
          refine lm_G_sg 1 (pc' := 83) (L' := [some (.ref 64), some (.ref 1008), some (.int (b2i false)), some (.int (nI j))]) (S' := [.int (b2i false)]) (σ' := lm_T M v G) rfl trivial ?_
          exact lm_G_re rfl (b2i_01 _) (Nat.zero_le _) (Nat.zero_le _) hQ
        ·
          have e4 := b2i_1 h4
          refine lm_G_sg 3 (pc' := 48) (L' := [some (.ref 64), some (.ref 1008), some (.int (b2i (alB (fun i => decide (tB T (stS' T p + i) = w8.getD i 0)) j))), some (.int (nI j))]) (S' := [.int (Int32.ofNat 4), .int (nI j)]) (σ' := lm_T M v G) rfl ⟨trivial, (Nat.le_of_ble_eq_true rfl), trivial⟩ ?_
          refine lm_G_br (b := (Int32.ofNat 4) ≤ (nI j)) (t := 82) (S' := []) rfl (fun hc => absurd hc (nI_ge (b := 4) hj (by omega))) (fun hc => ?_)
          refine lm_G_sg 3 (pc' := 56) (L' := [some (.ref 64), some (.ref 1008), some (.int (b2i (alB (fun i => decide (tB T (stS' T p + i) = w8.getD i 0)) j))), some (.int (nI j))]) (S' := [.int ((lm_wz 8).getD (nI j).toNatClampNeg 0)]) (σ' := lm_T M v G) rfl ⟨(show vp_in _ 4 from vp_in_nI (by omega) (by omega)), (Nat.le_of_ble_eq_true rfl), trivial⟩ ?_
          rw [nI_clamp (n := j) (by omega), v1]
          refine lm_G_sg 4 (pc' := 64) (L' := [some (.ref 64), some (.ref 1008), some (.int (b2i (alB (fun i => decide (tB T (stS' T p + i) = w8.getD i 0)) j))), some (.int (nI j))]) (S' := [.int (M 64 23), .ref 80, .int (nI (w8.getD j 0))]) (σ' := lm_T M v G) rfl trivial ?_
          rw [show M 64 23 = nI (stS' T p) from h23]
          refine lm_G_sg 2 (pc' := 66) (L' := [some (.ref 64), some (.ref 1008), some (.int (b2i (alB (fun i => decide (tB T (stS' T p + i) = w8.getD i 0)) j))), some (.int (nI j))]) (S' := [.int ((nI (stS' T p)) + (nI j)), .ref 80, .int (nI (w8.getD j 0))]) (σ' := lm_T M v G) rfl trivial ?_
          rw [show (nI (stS' T p)) + (nI j) = nI ((stS' T p) + j) from nI_add (stS' T p) j]
          refine lm_G_sg 1 (pc' := 67) (L' := [some (.ref 64), some (.ref 1008), some (.int (b2i (alB (fun i => decide (tB T (stS' T p + i) = w8.getD i 0)) j))), some (.int (nI j))]) (S' := [.int (M 80 (nI ((stS' T p) + j)).toNatClampNeg), .int (nI (w8.getD j 0))]) (σ' := lm_T M v G) rfl ⟨(vp_in_nI (by omega) (by omega)), trivial, trivial⟩ ?_
          rw [show (nI ((stS' T p) + j)).toNatClampNeg = ((stS' T p) + j) from nI_clamp (by omega)]
          rw [show M 80 ((stS' T p) + j) = nI (tB T ((stS' T p) + j)) from hr.2 ((stS' T p) + j) (by omega)]
          refine lm_G_br (b := ¬ (nI (w8.getD j 0)) = (nI (tB T ((stS' T p) + j)))) (t := 74) (S' := []) rfl (fun h5 => ?_) (fun h5 => ?_)
          ·
            refine lm_G_sg 3 (pc' := 79) (L' := [some (.ref 64), some (.ref 1008), some (.int 0), some (.int ((nI j) + 1))]) (S' := []) (σ' := lm_T M v G) rfl trivial ?_
            rw [nI_1]
            refine lm_G_sg 1 (pc' := 39) (L' := [some (.ref 64), some (.ref 1008), some (.int 0), some (.int (nI (j + 1)))]) (S' := []) (σ' := lm_T M v G) rfl trivial ?_
            have e5 : alB (fun i => decide (tB T (stS' T p + i) = w8.getD i 0)) (j + 1) = false := by
              simp only [alB]
              rw [decide_eq_false (fun w => h5 (by rw [w])), Bool.and_false]
            rw [e5] at ih
            exact ih  trivial
          ·
            refine lm_G_sg 4 (pc' := 79) (L' := [some (.ref 64), some (.ref 1008), some (.int 1), some (.int ((nI j) + 1))]) (S' := []) (σ' := lm_T M v G) rfl trivial ?_
            rw [nI_1]
            refine lm_G_sg 1 (pc' := 39) (L' := [some (.ref 64), some (.ref 1008), some (.int 1), some (.int (nI (j + 1)))]) (S' := []) (σ' := lm_T M v G) rfl trivial ?_
            have e5 : alB (fun i => decide (tB T (stS' T p + i) = w8.getD i 0)) (j + 1) = true := by
              simp only [alB]
              rw [e4, decide_eq_true ((nI_eq (by omega) (by omega)).mp (Classical.not_not.mp h5)).symm]
              rfl
            rw [e5] at ih
            exact ih  trivial
      ·
        replace hI : True := hI
        show lm_G X d 155 106 0 0 39 [some (.ref 64), some (.ref 1008), some (.int (b2i (alB (fun i => decide (tB T (stS' T p + i) = w8.getD i 0)) 4))), some (.int (nI 4))] [] (lm_T M v G) Q
        have ew : isWd T p w8 = alB (fun i => decide (tB T (stS' T p + i) = w8.getD i 0)) 4 := by
          unfold isWd
          rw [show w8.length = 4 from rfl, decide_eq_true k3, decide_eq_true l3]
          rfl
        rw [ew] at hQ
        refine lm_G_sg 1 (pc' := 40) (L' := [some (.ref 64), some (.ref 1008), some (.int (b2i (alB (fun i => decide (tB T (stS' T p + i) = w8.getD i 0)) 4))), some (.int (nI 4))]) (S' := [.int (b2i (alB (fun i => decide (tB T (stS' T p + i) = w8.getD i 0)) 4))]) (σ' := lm_T M v G) rfl trivial ?_
        refine lm_G_br (b := (b2i (alB (fun i => decide (tB T (stS' T p + i) = w8.getD i 0)) 4)) = 0) (t := 82) (S' := []) rfl (fun h4 => ?_) (fun h4 => ?_)
        ·
          refine lm_G_sg 1 (pc' := 83) (L' := [some (.ref 64), some (.ref 1008), some (.int (b2i (alB (fun i => decide (tB T (stS' T p + i) = w8.getD i 0)) 4))), some (.int (nI 4))]) (S' := [.int (b2i (alB (fun i => decide (tB T (stS' T p + i) = w8.getD i 0)) 4))]) (σ' := lm_T M v G) rfl trivial ?_
          exact lm_G_re rfl (b2i_01 _) (Nat.zero_le _) (Nat.zero_le _) hQ
        ·
          refine lm_G_sg 3 (pc' := 48) (L' := [some (.ref 64), some (.ref 1008), some (.int (b2i (alB (fun i => decide (tB T (stS' T p + i) = w8.getD i 0)) 4))), some (.int (nI 4))]) (S' := [.int (Int32.ofNat 4), .int (nI 4)]) (σ' := lm_T M v G) rfl ⟨trivial, (Nat.le_of_ble_eq_true rfl), trivial⟩ ?_
          refine lm_G_br (b := (Int32.ofNat 4) ≤ (nI 4)) (t := 82) (S' := []) rfl (fun hc => ?_) (fun hc => absurd (nI_le (a := 4) (Nat.le_refl _) (by omega)) hc)
          refine lm_G_sg 1 (pc' := 83) (L' := [some (.ref 64), some (.ref 1008), some (.int (b2i (alB (fun i => decide (tB T (stS' T p + i) = w8.getD i 0)) 4))), some (.int (nI 4))]) (S' := [.int (b2i (alB (fun i => decide (tB T (stS' T p + i) = w8.getD i 0)) 4))]) (σ' := lm_T M v G) rfl trivial ?_
          exact lm_G_re rfl (b2i_01 _) (Nat.zero_le _) (Nat.zero_le _) hQ
      ·
        trivial
set_option maxRecDepth 10000 in
theorem m_is9 {X : lm_X} {d v : Nat} {M : Nat → Nat → Int32} {G : Nat → Nat → Int64} {Q : lm_O → lm_S → Prop} {T : Tx} {p : Nat} (hT : okT T) (hp : p ≤ tN T) (hg : GM M T p) (hQ : Q (.inl (some (.int (b2i (isWd T p w9))))) (lm_T M v G)) : lm_Q X d 155 [.ref 64, .ref 1009] (lm_T M v G) Q := by
  have hn := hT.1
  have kl := kn_le (T := T) (p := p)
  obtain ⟨el1, el2, el3⟩ := en_le hp
  obtain ⟨⟨hr, h21, h23, h24, h19, h22⟩, h25⟩ := hg
  show lm_G X d 155 106 0 0 0 [some (.ref 64), some (.ref 1009), none, none] [] (lm_T M v G) Q
  have tl := tk_le (T := T) (p := p)
  refine lm_G_sg 2 (pc' := 4) (L' := [some (.ref 64), some (.ref 1009), none, none]) (S' := [.int (M 64 25)]) (σ' := lm_T M v G) rfl trivial ?_
  rw [show M 64 25 = 0 from h25]
  refine lm_G_br (b := ¬ 0 = 0) (t := 35) (S' := []) rfl (fun hc => absurd rfl hc) (fun hc => ?_)
  refine lm_G_sg 2 (pc' := 11) (L' := [some (.ref 64), some (.ref 1009), none, none]) (S' := [.int (M 64 21)]) (σ' := lm_T M v G) rfl trivial ?_
  rw [show M 64 21 = nI (tkS T p) from h21]
  refine lm_G_sg 1 (pc' := 12) (L' := [some (.ref 64), some (.ref 1009), none, none]) (S' := [.int 1, .int (nI (tkS T p))]) (σ' := lm_T M v G) rfl trivial ?_
  refine lm_G_br (b := ¬ (nI (tkS T p)) = 1) (t := 35) (S' := []) rfl (fun h1 => ?_) (fun h1 => ?_)
  ·
    have k3 : ¬ knS T p = 1 := fun w => h1 (by rw [tk_1.mpr w]; rfl)
    rw [show isWd T p w9 = false from by unfold isWd; rw [decide_eq_false k3]; rfl] at hQ
    refine lm_G_sg 5 (pc' := 40) (L' := [some (.ref 64), some (.ref 1009), some (.int 0), some (.int 0)]) (S' := [.int 0]) (σ' := lm_T M v G) rfl trivial ?_
    refine lm_G_br (b := 0 = 0) (t := 82) (S' := []) rfl (fun h2 => ?_) (fun h2 => absurd rfl h2)
    refine lm_G_sg 1 (pc' := 83) (L' := [some (.ref 64), some (.ref 1009), some (.int 0), some (.int 0)]) (S' := [.int 0]) (σ' := lm_T M v G) rfl trivial ?_
    exact lm_G_re rfl (by decide) (Nat.zero_le _) (Nat.zero_le _) hQ
  ·
    have k3 : knS T p = 1 := tk_1.mp ((nI_eq (b := 1) (by omega) (by omega)).mp (Classical.not_not.mp h1))
    refine lm_G_sg 4 (pc' := 23) (L' := [some (.ref 64), some (.ref 1009), none, none]) (S' := [.int (M 64 24), .int (Int32.ofNat 5)]) (σ' := lm_T M v G) rfl ⟨trivial, (Nat.le_of_ble_eq_true rfl), trivial⟩ ?_
    rw [show M 64 24 = nI (enS T p) from h24]
    refine lm_G_sg 2 (pc' := 27) (L' := [some (.ref 64), some (.ref 1009), none, none]) (S' := [.int (M 64 23), .int (nI (enS T p)), .int (Int32.ofNat 5)]) (σ' := lm_T M v G) rfl trivial ?_
    rw [show M 64 23 = nI (stS' T p) from h23]
    refine lm_G_sg 1 (pc' := 28) (L' := [some (.ref 64), some (.ref 1009), none, none]) (S' := [.int ((nI (enS T p)) - (nI (stS' T p))), .int (Int32.ofNat 5)]) (σ' := lm_T M v G) rfl trivial ?_
    rw [show (nI (enS T p)) - (nI (stS' T p)) = nI (lnS T p) from nI_sub (by omega)]
    have ll : lnS T p ≤ 700 := by unfold lnS; omega
    refine lm_G_br (b := ¬ (Int32.ofNat 5) = (nI (lnS T p))) (t := 35) (S' := []) rfl (fun h2 => ?_) (fun h2 => ?_)
    ·
      have l3 : ¬ lnS T p = w9.length := fun w => h2 (by rw [w]; rfl)
      rw [show isWd T p w9 = false from by unfold isWd; rw [decide_eq_false l3, Bool.false_and, Bool.and_false]] at hQ
      refine lm_G_sg 5 (pc' := 40) (L' := [some (.ref 64), some (.ref 1009), some (.int 0), some (.int 0)]) (S' := [.int 0]) (σ' := lm_T M v G) rfl trivial ?_
      refine lm_G_br (b := 0 = 0) (t := 82) (S' := []) rfl (fun h3 => ?_) (fun h3 => absurd rfl h3)
      refine lm_G_sg 1 (pc' := 83) (L' := [some (.ref 64), some (.ref 1009), some (.int 0), some (.int 0)]) (S' := [.int 0]) (σ' := lm_T M v G) rfl trivial ?_
      exact lm_G_re rfl (by decide) (Nat.zero_le _) (Nat.zero_le _) hQ
    ·
      have l3 : lnS T p = 5 := ((nI_eq (a := 5) (by omega) (by omega)).mp (Classical.not_not.mp h2)).symm
      have le3 : enS T p - stS' T p = 5 := l3
      refine lm_G_sg 5 (pc' := 39) (L' := [some (.ref 64), some (.ref 1009), some (.int 1), some (.int 0)]) (S' := []) (σ' := lm_T M v G) rfl trivial ?_
      suffices hx : lm_G X d 155 106 0 0 39 [some (.ref 64), some (.ref 1009), some (.int (b2i (alB (fun i => decide (tB T (stS' T p + i) = w9.getD i 0)) 0))), some (.int 0)] [] (lm_T M v G) Q from hx
      refine lm_ind (α := Unit) (St := fun (j : Nat) zz => lm_G X d 155 106 0 0 39 [some (.ref 64), some (.ref 1009), some (.int (b2i (alB (fun i => decide (tB T (stS' T p + i) = w9.getD i 0)) j))), some (.int (nI j))] [] (lm_T M v G) Q) (Inv := fun (j : Nat) zz => True) (5) (fun j zz hj hI ih => ?_) (fun zz hI => ?_) (0) () (by omega) ?_
      ·
        replace hI : True := hI
        replace ih : ∀ (_ : True), lm_G X d 155 106 0 0 39 [some (.ref 64), some (.ref 1009), some (.int (b2i (alB (fun i => decide (tB T (stS' T p + i) = w9.getD i 0)) (j + 1)))), some (.int (nI (j + 1)))] [] (lm_T M v G) Q := fun q => ih () q
        show lm_G X d 155 106 0 0 39 [some (.ref 64), some (.ref 1009), some (.int (b2i (alB (fun i => decide (tB T (stS' T p + i) = w9.getD i 0)) j))), some (.int (nI j))] [] (lm_T M v G) Q
        have hbb := hT.2 (stS' T p + j) (by omega)
        obtain ⟨v1, v2⟩ := w9_ok j hj
        refine lm_G_sg 1 (pc' := 40) (L' := [some (.ref 64), some (.ref 1009), some (.int (b2i (alB (fun i => decide (tB T (stS' T p + i) = w9.getD i 0)) j))), some (.int (nI j))]) (S' := [.int (b2i (alB (fun i => decide (tB T (stS' T p + i) = w9.getD i 0)) j))]) (σ' := lm_T M v G) rfl trivial ?_
        refine lm_G_br (b := (b2i (alB (fun i => decide (tB T (stS' T p + i) = w9.getD i 0)) j)) = 0) (t := 82) (S' := []) rfl (fun h4 => ?_) (fun h4 => ?_)
        ·
          have e5 : alB (fun i => decide (tB T (stS' T p + i) = w9.getD i 0)) 5 = false := by
            refine Bool.eq_false_iff.mpr (fun w => ?_)
            have := b2i_0 h4
            rw [al_t.mpr (fun k hk => al_t.mp w k (by omega))] at this
            cases this
          rw [show isWd T p w9 = false from by unfold isWd; rw [show w9.length = 5 from rfl, e5, Bool.and_false, Bool.and_false]] at hQ
          rw [b2i_0 h4]
          refine lm_G_sg 1 (pc' := 83) (L' := [some (.ref 64), some (.ref 1009), some (.int (b2i false)), some (.int (nI j))]) (S' := [.int (b2i false)]) (σ' := lm_T M v G) rfl trivial ?_
          exact lm_G_re rfl (b2i_01 _) (Nat.zero_le _) (Nat.zero_le _) hQ
        ·
          have e4 := b2i_1 h4
          refine lm_G_sg 3 (pc' := 48) (L' := [some (.ref 64), some (.ref 1009), some (.int (b2i (alB (fun i => decide (tB T (stS' T p + i) = w9.getD i 0)) j))), some (.int (nI j))]) (S' := [.int (Int32.ofNat 5), .int (nI j)]) (σ' := lm_T M v G) rfl ⟨trivial, (Nat.le_of_ble_eq_true rfl), trivial⟩ ?_
          refine lm_G_br (b := (Int32.ofNat 5) ≤ (nI j)) (t := 82) (S' := []) rfl (fun hc => absurd hc (nI_ge (b := 5) hj (by omega))) (fun hc => ?_)
          refine lm_G_sg 3 (pc' := 56) (L' := [some (.ref 64), some (.ref 1009), some (.int (b2i (alB (fun i => decide (tB T (stS' T p + i) = w9.getD i 0)) j))), some (.int (nI j))]) (S' := [.int ((lm_wz 9).getD (nI j).toNatClampNeg 0)]) (σ' := lm_T M v G) rfl ⟨(show vp_in _ 5 from vp_in_nI (by omega) (by omega)), (Nat.le_of_ble_eq_true rfl), trivial⟩ ?_
          rw [nI_clamp (n := j) (by omega), v1]
          refine lm_G_sg 4 (pc' := 64) (L' := [some (.ref 64), some (.ref 1009), some (.int (b2i (alB (fun i => decide (tB T (stS' T p + i) = w9.getD i 0)) j))), some (.int (nI j))]) (S' := [.int (M 64 23), .ref 80, .int (nI (w9.getD j 0))]) (σ' := lm_T M v G) rfl trivial ?_
          rw [show M 64 23 = nI (stS' T p) from h23]
          refine lm_G_sg 2 (pc' := 66) (L' := [some (.ref 64), some (.ref 1009), some (.int (b2i (alB (fun i => decide (tB T (stS' T p + i) = w9.getD i 0)) j))), some (.int (nI j))]) (S' := [.int ((nI (stS' T p)) + (nI j)), .ref 80, .int (nI (w9.getD j 0))]) (σ' := lm_T M v G) rfl trivial ?_
          rw [show (nI (stS' T p)) + (nI j) = nI ((stS' T p) + j) from nI_add (stS' T p) j]
          refine lm_G_sg 1 (pc' := 67) (L' := [some (.ref 64), some (.ref 1009), some (.int (b2i (alB (fun i => decide (tB T (stS' T p + i) = w9.getD i 0)) j))), some (.int (nI j))]) (S' := [.int (M 80 (nI ((stS' T p) + j)).toNatClampNeg), .int (nI (w9.getD j 0))]) (σ' := lm_T M v G) rfl ⟨(vp_in_nI (by omega) (by omega)), trivial, trivial⟩ ?_
          rw [show (nI ((stS' T p) + j)).toNatClampNeg = ((stS' T p) + j) from nI_clamp (by omega)]
          rw [show M 80 ((stS' T p) + j) = nI (tB T ((stS' T p) + j)) from hr.2 ((stS' T p) + j) (by omega)]
          refine lm_G_br (b := ¬ (nI (w9.getD j 0)) = (nI (tB T ((stS' T p) + j)))) (t := 74) (S' := []) rfl (fun h5 => ?_) (fun h5 => ?_)
          ·
            refine lm_G_sg 3 (pc' := 79) (L' := [some (.ref 64), some (.ref 1009), some (.int 0), some (.int ((nI j) + 1))]) (S' := []) (σ' := lm_T M v G) rfl trivial ?_
            rw [nI_1]
            refine lm_G_sg 1 (pc' := 39) (L' := [some (.ref 64), some (.ref 1009), some (.int 0), some (.int (nI (j + 1)))]) (S' := []) (σ' := lm_T M v G) rfl trivial ?_
            have e5 : alB (fun i => decide (tB T (stS' T p + i) = w9.getD i 0)) (j + 1) = false := by
              simp only [alB]
              rw [decide_eq_false (fun w => h5 (by rw [w])), Bool.and_false]
            rw [e5] at ih
            exact ih  trivial
          ·
            refine lm_G_sg 4 (pc' := 79) (L' := [some (.ref 64), some (.ref 1009), some (.int 1), some (.int ((nI j) + 1))]) (S' := []) (σ' := lm_T M v G) rfl trivial ?_
            rw [nI_1]
            refine lm_G_sg 1 (pc' := 39) (L' := [some (.ref 64), some (.ref 1009), some (.int 1), some (.int (nI (j + 1)))]) (S' := []) (σ' := lm_T M v G) rfl trivial ?_
            have e5 : alB (fun i => decide (tB T (stS' T p + i) = w9.getD i 0)) (j + 1) = true := by
              simp only [alB]
              rw [e4, decide_eq_true ((nI_eq (by omega) (by omega)).mp (Classical.not_not.mp h5)).symm]
              rfl
            rw [e5] at ih
            exact ih  trivial
      ·
        replace hI : True := hI
        show lm_G X d 155 106 0 0 39 [some (.ref 64), some (.ref 1009), some (.int (b2i (alB (fun i => decide (tB T (stS' T p + i) = w9.getD i 0)) 5))), some (.int (nI 5))] [] (lm_T M v G) Q
        have ew : isWd T p w9 = alB (fun i => decide (tB T (stS' T p + i) = w9.getD i 0)) 5 := by
          unfold isWd
          rw [show w9.length = 5 from rfl, decide_eq_true k3, decide_eq_true l3]
          rfl
        rw [ew] at hQ
        refine lm_G_sg 1 (pc' := 40) (L' := [some (.ref 64), some (.ref 1009), some (.int (b2i (alB (fun i => decide (tB T (stS' T p + i) = w9.getD i 0)) 5))), some (.int (nI 5))]) (S' := [.int (b2i (alB (fun i => decide (tB T (stS' T p + i) = w9.getD i 0)) 5))]) (σ' := lm_T M v G) rfl trivial ?_
        refine lm_G_br (b := (b2i (alB (fun i => decide (tB T (stS' T p + i) = w9.getD i 0)) 5)) = 0) (t := 82) (S' := []) rfl (fun h4 => ?_) (fun h4 => ?_)
        ·
          refine lm_G_sg 1 (pc' := 83) (L' := [some (.ref 64), some (.ref 1009), some (.int (b2i (alB (fun i => decide (tB T (stS' T p + i) = w9.getD i 0)) 5))), some (.int (nI 5))]) (S' := [.int (b2i (alB (fun i => decide (tB T (stS' T p + i) = w9.getD i 0)) 5))]) (σ' := lm_T M v G) rfl trivial ?_
          exact lm_G_re rfl (b2i_01 _) (Nat.zero_le _) (Nat.zero_le _) hQ
        ·
          refine lm_G_sg 3 (pc' := 48) (L' := [some (.ref 64), some (.ref 1009), some (.int (b2i (alB (fun i => decide (tB T (stS' T p + i) = w9.getD i 0)) 5))), some (.int (nI 5))]) (S' := [.int (Int32.ofNat 5), .int (nI 5)]) (σ' := lm_T M v G) rfl ⟨trivial, (Nat.le_of_ble_eq_true rfl), trivial⟩ ?_
          refine lm_G_br (b := (Int32.ofNat 5) ≤ (nI 5)) (t := 82) (S' := []) rfl (fun hc => ?_) (fun hc => absurd (nI_le (a := 5) (Nat.le_refl _) (by omega)) hc)
          refine lm_G_sg 1 (pc' := 83) (L' := [some (.ref 64), some (.ref 1009), some (.int (b2i (alB (fun i => decide (tB T (stS' T p + i) = w9.getD i 0)) 5))), some (.int (nI 5))]) (S' := [.int (b2i (alB (fun i => decide (tB T (stS' T p + i) = w9.getD i 0)) 5))]) (σ' := lm_T M v G) rfl trivial ?_
          exact lm_G_re rfl (b2i_01 _) (Nat.zero_le _) (Nat.zero_le _) hQ
      ·
        trivial
set_option maxRecDepth 10000 in
theorem m_is10 {X : lm_X} {d v : Nat} {M : Nat → Nat → Int32} {G : Nat → Nat → Int64} {Q : lm_O → lm_S → Prop} {T : Tx} {p : Nat} (hT : okT T) (hp : p ≤ tN T) (hg : GM M T p) (hQ : Q (.inl (some (.int (b2i (isWd T p w10))))) (lm_T M v G)) : lm_Q X d 155 [.ref 64, .ref 1010] (lm_T M v G) Q := by
  have hn := hT.1
  have kl := kn_le (T := T) (p := p)
  obtain ⟨el1, el2, el3⟩ := en_le hp
  obtain ⟨⟨hr, h21, h23, h24, h19, h22⟩, h25⟩ := hg
  show lm_G X d 155 106 0 0 0 [some (.ref 64), some (.ref 1010), none, none] [] (lm_T M v G) Q
  have tl := tk_le (T := T) (p := p)
  refine lm_G_sg 2 (pc' := 4) (L' := [some (.ref 64), some (.ref 1010), none, none]) (S' := [.int (M 64 25)]) (σ' := lm_T M v G) rfl trivial ?_
  rw [show M 64 25 = 0 from h25]
  refine lm_G_br (b := ¬ 0 = 0) (t := 35) (S' := []) rfl (fun hc => absurd rfl hc) (fun hc => ?_)
  refine lm_G_sg 2 (pc' := 11) (L' := [some (.ref 64), some (.ref 1010), none, none]) (S' := [.int (M 64 21)]) (σ' := lm_T M v G) rfl trivial ?_
  rw [show M 64 21 = nI (tkS T p) from h21]
  refine lm_G_sg 1 (pc' := 12) (L' := [some (.ref 64), some (.ref 1010), none, none]) (S' := [.int 1, .int (nI (tkS T p))]) (σ' := lm_T M v G) rfl trivial ?_
  refine lm_G_br (b := ¬ (nI (tkS T p)) = 1) (t := 35) (S' := []) rfl (fun h1 => ?_) (fun h1 => ?_)
  ·
    have k3 : ¬ knS T p = 1 := fun w => h1 (by rw [tk_1.mpr w]; rfl)
    rw [show isWd T p w10 = false from by unfold isWd; rw [decide_eq_false k3]; rfl] at hQ
    refine lm_G_sg 5 (pc' := 40) (L' := [some (.ref 64), some (.ref 1010), some (.int 0), some (.int 0)]) (S' := [.int 0]) (σ' := lm_T M v G) rfl trivial ?_
    refine lm_G_br (b := 0 = 0) (t := 82) (S' := []) rfl (fun h2 => ?_) (fun h2 => absurd rfl h2)
    refine lm_G_sg 1 (pc' := 83) (L' := [some (.ref 64), some (.ref 1010), some (.int 0), some (.int 0)]) (S' := [.int 0]) (σ' := lm_T M v G) rfl trivial ?_
    exact lm_G_re rfl (by decide) (Nat.zero_le _) (Nat.zero_le _) hQ
  ·
    have k3 : knS T p = 1 := tk_1.mp ((nI_eq (b := 1) (by omega) (by omega)).mp (Classical.not_not.mp h1))
    refine lm_G_sg 4 (pc' := 23) (L' := [some (.ref 64), some (.ref 1010), none, none]) (S' := [.int (M 64 24), .int (Int32.ofNat 4)]) (σ' := lm_T M v G) rfl ⟨trivial, (Nat.le_of_ble_eq_true rfl), trivial⟩ ?_
    rw [show M 64 24 = nI (enS T p) from h24]
    refine lm_G_sg 2 (pc' := 27) (L' := [some (.ref 64), some (.ref 1010), none, none]) (S' := [.int (M 64 23), .int (nI (enS T p)), .int (Int32.ofNat 4)]) (σ' := lm_T M v G) rfl trivial ?_
    rw [show M 64 23 = nI (stS' T p) from h23]
    refine lm_G_sg 1 (pc' := 28) (L' := [some (.ref 64), some (.ref 1010), none, none]) (S' := [.int ((nI (enS T p)) - (nI (stS' T p))), .int (Int32.ofNat 4)]) (σ' := lm_T M v G) rfl trivial ?_
    rw [show (nI (enS T p)) - (nI (stS' T p)) = nI (lnS T p) from nI_sub (by omega)]
    have ll : lnS T p ≤ 700 := by unfold lnS; omega
    refine lm_G_br (b := ¬ (Int32.ofNat 4) = (nI (lnS T p))) (t := 35) (S' := []) rfl (fun h2 => ?_) (fun h2 => ?_)
    ·
      have l3 : ¬ lnS T p = w10.length := fun w => h2 (by rw [w]; rfl)
      rw [show isWd T p w10 = false from by unfold isWd; rw [decide_eq_false l3, Bool.false_and, Bool.and_false]] at hQ
      refine lm_G_sg 5 (pc' := 40) (L' := [some (.ref 64), some (.ref 1010), some (.int 0), some (.int 0)]) (S' := [.int 0]) (σ' := lm_T M v G) rfl trivial ?_
      refine lm_G_br (b := 0 = 0) (t := 82) (S' := []) rfl (fun h3 => ?_) (fun h3 => absurd rfl h3)
      refine lm_G_sg 1 (pc' := 83) (L' := [some (.ref 64), some (.ref 1010), some (.int 0), some (.int 0)]) (S' := [.int 0]) (σ' := lm_T M v G) rfl trivial ?_
      exact lm_G_re rfl (by decide) (Nat.zero_le _) (Nat.zero_le _) hQ
    ·
      have l3 : lnS T p = 4 := ((nI_eq (a := 4) (by omega) (by omega)).mp (Classical.not_not.mp h2)).symm
      have le3 : enS T p - stS' T p = 4 := l3
      refine lm_G_sg 5 (pc' := 39) (L' := [some (.ref 64), some (.ref 1010), some (.int 1), some (.int 0)]) (S' := []) (σ' := lm_T M v G) rfl trivial ?_
      suffices hx : lm_G X d 155 106 0 0 39 [some (.ref 64), some (.ref 1010), some (.int (b2i (alB (fun i => decide (tB T (stS' T p + i) = w10.getD i 0)) 0))), some (.int 0)] [] (lm_T M v G) Q from hx
      refine lm_ind (α := Unit) (St := fun (j : Nat) zz => lm_G X d 155 106 0 0 39 [some (.ref 64), some (.ref 1010), some (.int (b2i (alB (fun i => decide (tB T (stS' T p + i) = w10.getD i 0)) j))), some (.int (nI j))] [] (lm_T M v G) Q) (Inv := fun (j : Nat) zz => True) (4) (fun j zz hj hI ih => ?_) (fun zz hI => ?_) (0) () (by omega) ?_
      ·
        replace hI : True := hI
        replace ih : ∀ (_ : True), lm_G X d 155 106 0 0 39 [some (.ref 64), some (.ref 1010), some (.int (b2i (alB (fun i => decide (tB T (stS' T p + i) = w10.getD i 0)) (j + 1)))), some (.int (nI (j + 1)))] [] (lm_T M v G) Q := fun q => ih () q
        show lm_G X d 155 106 0 0 39 [some (.ref 64), some (.ref 1010), some (.int (b2i (alB (fun i => decide (tB T (stS' T p + i) = w10.getD i 0)) j))), some (.int (nI j))] [] (lm_T M v G) Q
        have hbb := hT.2 (stS' T p + j) (by omega)
        obtain ⟨v1, v2⟩ := w10_ok j hj
        refine lm_G_sg 1 (pc' := 40) (L' := [some (.ref 64), some (.ref 1010), some (.int (b2i (alB (fun i => decide (tB T (stS' T p + i) = w10.getD i 0)) j))), some (.int (nI j))]) (S' := [.int (b2i (alB (fun i => decide (tB T (stS' T p + i) = w10.getD i 0)) j))]) (σ' := lm_T M v G) rfl trivial ?_
        refine lm_G_br (b := (b2i (alB (fun i => decide (tB T (stS' T p + i) = w10.getD i 0)) j)) = 0) (t := 82) (S' := []) rfl (fun h4 => ?_) (fun h4 => ?_)
        ·
          have e5 : alB (fun i => decide (tB T (stS' T p + i) = w10.getD i 0)) 4 = false := by
            refine Bool.eq_false_iff.mpr (fun w => ?_)
            have := b2i_0 h4
            rw [al_t.mpr (fun k hk => al_t.mp w k (by omega))] at this
            cases this
          rw [show isWd T p w10 = false from by unfold isWd; rw [show w10.length = 4 from rfl, e5, Bool.and_false, Bool.and_false]] at hQ
          rw [b2i_0 h4]
          refine lm_G_sg 1 (pc' := 83) (L' := [some (.ref 64), some (.ref 1010), some (.int (b2i false)), some (.int (nI j))]) (S' := [.int (b2i false)]) (σ' := lm_T M v G) rfl trivial ?_
          exact lm_G_re rfl (b2i_01 _) (Nat.zero_le _) (Nat.zero_le _) hQ
        ·
          have e4 := b2i_1 h4
          refine lm_G_sg 3 (pc' := 48) (L' := [some (.ref 64), some (.ref 1010), some (.int (b2i (alB (fun i => decide (tB T (stS' T p + i) = w10.getD i 0)) j))), some (.int (nI j))]) (S' := [.int (Int32.ofNat 4), .int (nI j)]) (σ' := lm_T M v G) rfl ⟨trivial, (Nat.le_of_ble_eq_true rfl), trivial⟩ ?_
          refine lm_G_br (b := (Int32.ofNat 4) ≤ (nI j)) (t := 82) (S' := []) rfl (fun hc => absurd hc (nI_ge (b := 4) hj (by omega))) (fun hc => ?_)
          refine lm_G_sg 3 (pc' := 56) (L' := [some (.ref 64), some (.ref 1010), some (.int (b2i (alB (fun i => decide (tB T (stS' T p + i) = w10.getD i 0)) j))), some (.int (nI j))]) (S' := [.int ((lm_wz 10).getD (nI j).toNatClampNeg 0)]) (σ' := lm_T M v G) rfl ⟨(show vp_in _ 4 from vp_in_nI (by omega) (by omega)), (Nat.le_of_ble_eq_true rfl), trivial⟩ ?_
          rw [nI_clamp (n := j) (by omega), v1]
          refine lm_G_sg 4 (pc' := 64) (L' := [some (.ref 64), some (.ref 1010), some (.int (b2i (alB (fun i => decide (tB T (stS' T p + i) = w10.getD i 0)) j))), some (.int (nI j))]) (S' := [.int (M 64 23), .ref 80, .int (nI (w10.getD j 0))]) (σ' := lm_T M v G) rfl trivial ?_
          rw [show M 64 23 = nI (stS' T p) from h23]
          refine lm_G_sg 2 (pc' := 66) (L' := [some (.ref 64), some (.ref 1010), some (.int (b2i (alB (fun i => decide (tB T (stS' T p + i) = w10.getD i 0)) j))), some (.int (nI j))]) (S' := [.int ((nI (stS' T p)) + (nI j)), .ref 80, .int (nI (w10.getD j 0))]) (σ' := lm_T M v G) rfl trivial ?_
          rw [show (nI (stS' T p)) + (nI j) = nI ((stS' T p) + j) from nI_add (stS' T p) j]
          refine lm_G_sg 1 (pc' := 67) (L' := [some (.ref 64), some (.ref 1010), some (.int (b2i (alB (fun i => decide (tB T (stS' T p + i) = w10.getD i 0)) j))), some (.int (nI j))]) (S' := [.int (M 80 (nI ((stS' T p) + j)).toNatClampNeg), .int (nI (w10.getD j 0))]) (σ' := lm_T M v G) rfl ⟨(vp_in_nI (by omega) (by omega)), trivial, trivial⟩ ?_
          rw [show (nI ((stS' T p) + j)).toNatClampNeg = ((stS' T p) + j) from nI_clamp (by omega)]
          rw [show M 80 ((stS' T p) + j) = nI (tB T ((stS' T p) + j)) from hr.2 ((stS' T p) + j) (by omega)]
          refine lm_G_br (b := ¬ (nI (w10.getD j 0)) = (nI (tB T ((stS' T p) + j)))) (t := 74) (S' := []) rfl (fun h5 => ?_) (fun h5 => ?_)
          ·
            refine lm_G_sg 3 (pc' := 79) (L' := [some (.ref 64), some (.ref 1010), some (.int 0), some (.int ((nI j) + 1))]) (S' := []) (σ' := lm_T M v G) rfl trivial ?_
            rw [nI_1]
            refine lm_G_sg 1 (pc' := 39) (L' := [some (.ref 64), some (.ref 1010), some (.int 0), some (.int (nI (j + 1)))]) (S' := []) (σ' := lm_T M v G) rfl trivial ?_
            have e5 : alB (fun i => decide (tB T (stS' T p + i) = w10.getD i 0)) (j + 1) = false := by
              simp only [alB]
              rw [decide_eq_false (fun w => h5 (by rw [w])), Bool.and_false]
            rw [e5] at ih
            exact ih  trivial
          ·
            refine lm_G_sg 4 (pc' := 79) (L' := [some (.ref 64), some (.ref 1010), some (.int 1), some (.int ((nI j) + 1))]) (S' := []) (σ' := lm_T M v G) rfl trivial ?_
            rw [nI_1]
            refine lm_G_sg 1 (pc' := 39) (L' := [some (.ref 64), some (.ref 1010), some (.int 1), some (.int (nI (j + 1)))]) (S' := []) (σ' := lm_T M v G) rfl trivial ?_
            have e5 : alB (fun i => decide (tB T (stS' T p + i) = w10.getD i 0)) (j + 1) = true := by
              simp only [alB]
              rw [e4, decide_eq_true ((nI_eq (by omega) (by omega)).mp (Classical.not_not.mp h5)).symm]
              rfl
            rw [e5] at ih
            exact ih  trivial
      ·
        replace hI : True := hI
        show lm_G X d 155 106 0 0 39 [some (.ref 64), some (.ref 1010), some (.int (b2i (alB (fun i => decide (tB T (stS' T p + i) = w10.getD i 0)) 4))), some (.int (nI 4))] [] (lm_T M v G) Q
        have ew : isWd T p w10 = alB (fun i => decide (tB T (stS' T p + i) = w10.getD i 0)) 4 := by
          unfold isWd
          rw [show w10.length = 4 from rfl, decide_eq_true k3, decide_eq_true l3]
          rfl
        rw [ew] at hQ
        refine lm_G_sg 1 (pc' := 40) (L' := [some (.ref 64), some (.ref 1010), some (.int (b2i (alB (fun i => decide (tB T (stS' T p + i) = w10.getD i 0)) 4))), some (.int (nI 4))]) (S' := [.int (b2i (alB (fun i => decide (tB T (stS' T p + i) = w10.getD i 0)) 4))]) (σ' := lm_T M v G) rfl trivial ?_
        refine lm_G_br (b := (b2i (alB (fun i => decide (tB T (stS' T p + i) = w10.getD i 0)) 4)) = 0) (t := 82) (S' := []) rfl (fun h4 => ?_) (fun h4 => ?_)
        ·
          refine lm_G_sg 1 (pc' := 83) (L' := [some (.ref 64), some (.ref 1010), some (.int (b2i (alB (fun i => decide (tB T (stS' T p + i) = w10.getD i 0)) 4))), some (.int (nI 4))]) (S' := [.int (b2i (alB (fun i => decide (tB T (stS' T p + i) = w10.getD i 0)) 4))]) (σ' := lm_T M v G) rfl trivial ?_
          exact lm_G_re rfl (b2i_01 _) (Nat.zero_le _) (Nat.zero_le _) hQ
        ·
          refine lm_G_sg 3 (pc' := 48) (L' := [some (.ref 64), some (.ref 1010), some (.int (b2i (alB (fun i => decide (tB T (stS' T p + i) = w10.getD i 0)) 4))), some (.int (nI 4))]) (S' := [.int (Int32.ofNat 4), .int (nI 4)]) (σ' := lm_T M v G) rfl ⟨trivial, (Nat.le_of_ble_eq_true rfl), trivial⟩ ?_
          refine lm_G_br (b := (Int32.ofNat 4) ≤ (nI 4)) (t := 82) (S' := []) rfl (fun hc => ?_) (fun hc => absurd (nI_le (a := 4) (Nat.le_refl _) (by omega)) hc)
          refine lm_G_sg 1 (pc' := 83) (L' := [some (.ref 64), some (.ref 1010), some (.int (b2i (alB (fun i => decide (tB T (stS' T p + i) = w10.getD i 0)) 4))), some (.int (nI 4))]) (S' := [.int (b2i (alB (fun i => decide (tB T (stS' T p + i) = w10.getD i 0)) 4))]) (σ' := lm_T M v G) rfl trivial ?_
          exact lm_G_re rfl (b2i_01 _) (Nat.zero_le _) (Nat.zero_le _) hQ
      ·
        trivial
set_option maxRecDepth 10000 in
theorem m_is11 {X : lm_X} {d v : Nat} {M : Nat → Nat → Int32} {G : Nat → Nat → Int64} {Q : lm_O → lm_S → Prop} {T : Tx} {p : Nat} (hT : okT T) (hp : p ≤ tN T) (hg : GM M T p) (hQ : Q (.inl (some (.int (b2i (isWd T p w11))))) (lm_T M v G)) : lm_Q X d 155 [.ref 64, .ref 1011] (lm_T M v G) Q := by
  have hn := hT.1
  have kl := kn_le (T := T) (p := p)
  obtain ⟨el1, el2, el3⟩ := en_le hp
  obtain ⟨⟨hr, h21, h23, h24, h19, h22⟩, h25⟩ := hg
  show lm_G X d 155 106 0 0 0 [some (.ref 64), some (.ref 1011), none, none] [] (lm_T M v G) Q
  have tl := tk_le (T := T) (p := p)
  refine lm_G_sg 2 (pc' := 4) (L' := [some (.ref 64), some (.ref 1011), none, none]) (S' := [.int (M 64 25)]) (σ' := lm_T M v G) rfl trivial ?_
  rw [show M 64 25 = 0 from h25]
  refine lm_G_br (b := ¬ 0 = 0) (t := 35) (S' := []) rfl (fun hc => absurd rfl hc) (fun hc => ?_)
  refine lm_G_sg 2 (pc' := 11) (L' := [some (.ref 64), some (.ref 1011), none, none]) (S' := [.int (M 64 21)]) (σ' := lm_T M v G) rfl trivial ?_
  rw [show M 64 21 = nI (tkS T p) from h21]
  refine lm_G_sg 1 (pc' := 12) (L' := [some (.ref 64), some (.ref 1011), none, none]) (S' := [.int 1, .int (nI (tkS T p))]) (σ' := lm_T M v G) rfl trivial ?_
  refine lm_G_br (b := ¬ (nI (tkS T p)) = 1) (t := 35) (S' := []) rfl (fun h1 => ?_) (fun h1 => ?_)
  ·
    have k3 : ¬ knS T p = 1 := fun w => h1 (by rw [tk_1.mpr w]; rfl)
    rw [show isWd T p w11 = false from by unfold isWd; rw [decide_eq_false k3]; rfl] at hQ
    refine lm_G_sg 5 (pc' := 40) (L' := [some (.ref 64), some (.ref 1011), some (.int 0), some (.int 0)]) (S' := [.int 0]) (σ' := lm_T M v G) rfl trivial ?_
    refine lm_G_br (b := 0 = 0) (t := 82) (S' := []) rfl (fun h2 => ?_) (fun h2 => absurd rfl h2)
    refine lm_G_sg 1 (pc' := 83) (L' := [some (.ref 64), some (.ref 1011), some (.int 0), some (.int 0)]) (S' := [.int 0]) (σ' := lm_T M v G) rfl trivial ?_
    exact lm_G_re rfl (by decide) (Nat.zero_le _) (Nat.zero_le _) hQ
  ·
    have k3 : knS T p = 1 := tk_1.mp ((nI_eq (b := 1) (by omega) (by omega)).mp (Classical.not_not.mp h1))
    refine lm_G_sg 4 (pc' := 23) (L' := [some (.ref 64), some (.ref 1011), none, none]) (S' := [.int (M 64 24), .int (Int32.ofNat 6)]) (σ' := lm_T M v G) rfl ⟨trivial, (Nat.le_of_ble_eq_true rfl), trivial⟩ ?_
    rw [show M 64 24 = nI (enS T p) from h24]
    refine lm_G_sg 2 (pc' := 27) (L' := [some (.ref 64), some (.ref 1011), none, none]) (S' := [.int (M 64 23), .int (nI (enS T p)), .int (Int32.ofNat 6)]) (σ' := lm_T M v G) rfl trivial ?_
    rw [show M 64 23 = nI (stS' T p) from h23]
    refine lm_G_sg 1 (pc' := 28) (L' := [some (.ref 64), some (.ref 1011), none, none]) (S' := [.int ((nI (enS T p)) - (nI (stS' T p))), .int (Int32.ofNat 6)]) (σ' := lm_T M v G) rfl trivial ?_
    rw [show (nI (enS T p)) - (nI (stS' T p)) = nI (lnS T p) from nI_sub (by omega)]
    have ll : lnS T p ≤ 700 := by unfold lnS; omega
    refine lm_G_br (b := ¬ (Int32.ofNat 6) = (nI (lnS T p))) (t := 35) (S' := []) rfl (fun h2 => ?_) (fun h2 => ?_)
    ·
      have l3 : ¬ lnS T p = w11.length := fun w => h2 (by rw [w]; rfl)
      rw [show isWd T p w11 = false from by unfold isWd; rw [decide_eq_false l3, Bool.false_and, Bool.and_false]] at hQ
      refine lm_G_sg 5 (pc' := 40) (L' := [some (.ref 64), some (.ref 1011), some (.int 0), some (.int 0)]) (S' := [.int 0]) (σ' := lm_T M v G) rfl trivial ?_
      refine lm_G_br (b := 0 = 0) (t := 82) (S' := []) rfl (fun h3 => ?_) (fun h3 => absurd rfl h3)
      refine lm_G_sg 1 (pc' := 83) (L' := [some (.ref 64), some (.ref 1011), some (.int 0), some (.int 0)]) (S' := [.int 0]) (σ' := lm_T M v G) rfl trivial ?_
      exact lm_G_re rfl (by decide) (Nat.zero_le _) (Nat.zero_le _) hQ
    ·
      have l3 : lnS T p = 6 := ((nI_eq (a := 6) (by omega) (by omega)).mp (Classical.not_not.mp h2)).symm
      have le3 : enS T p - stS' T p = 6 := l3
      refine lm_G_sg 5 (pc' := 39) (L' := [some (.ref 64), some (.ref 1011), some (.int 1), some (.int 0)]) (S' := []) (σ' := lm_T M v G) rfl trivial ?_
      suffices hx : lm_G X d 155 106 0 0 39 [some (.ref 64), some (.ref 1011), some (.int (b2i (alB (fun i => decide (tB T (stS' T p + i) = w11.getD i 0)) 0))), some (.int 0)] [] (lm_T M v G) Q from hx
      refine lm_ind (α := Unit) (St := fun (j : Nat) zz => lm_G X d 155 106 0 0 39 [some (.ref 64), some (.ref 1011), some (.int (b2i (alB (fun i => decide (tB T (stS' T p + i) = w11.getD i 0)) j))), some (.int (nI j))] [] (lm_T M v G) Q) (Inv := fun (j : Nat) zz => True) (6) (fun j zz hj hI ih => ?_) (fun zz hI => ?_) (0) () (by omega) ?_
      ·
        replace hI : True := hI
        replace ih : ∀ (_ : True), lm_G X d 155 106 0 0 39 [some (.ref 64), some (.ref 1011), some (.int (b2i (alB (fun i => decide (tB T (stS' T p + i) = w11.getD i 0)) (j + 1)))), some (.int (nI (j + 1)))] [] (lm_T M v G) Q := fun q => ih () q
        show lm_G X d 155 106 0 0 39 [some (.ref 64), some (.ref 1011), some (.int (b2i (alB (fun i => decide (tB T (stS' T p + i) = w11.getD i 0)) j))), some (.int (nI j))] [] (lm_T M v G) Q
        have hbb := hT.2 (stS' T p + j) (by omega)
        obtain ⟨v1, v2⟩ := w11_ok j hj
        refine lm_G_sg 1 (pc' := 40) (L' := [some (.ref 64), some (.ref 1011), some (.int (b2i (alB (fun i => decide (tB T (stS' T p + i) = w11.getD i 0)) j))), some (.int (nI j))]) (S' := [.int (b2i (alB (fun i => decide (tB T (stS' T p + i) = w11.getD i 0)) j))]) (σ' := lm_T M v G) rfl trivial ?_
        refine lm_G_br (b := (b2i (alB (fun i => decide (tB T (stS' T p + i) = w11.getD i 0)) j)) = 0) (t := 82) (S' := []) rfl (fun h4 => ?_) (fun h4 => ?_)
        ·
          have e5 : alB (fun i => decide (tB T (stS' T p + i) = w11.getD i 0)) 6 = false := by
            refine Bool.eq_false_iff.mpr (fun w => ?_)
            have := b2i_0 h4
            rw [al_t.mpr (fun k hk => al_t.mp w k (by omega))] at this
            cases this
          rw [show isWd T p w11 = false from by unfold isWd; rw [show w11.length = 6 from rfl, e5, Bool.and_false, Bool.and_false]] at hQ
          rw [b2i_0 h4]
          refine lm_G_sg 1 (pc' := 83) (L' := [some (.ref 64), some (.ref 1011), some (.int (b2i false)), some (.int (nI j))]) (S' := [.int (b2i false)]) (σ' := lm_T M v G) rfl trivial ?_
          exact lm_G_re rfl (b2i_01 _) (Nat.zero_le _) (Nat.zero_le _) hQ
        ·
          have e4 := b2i_1 h4
          refine lm_G_sg 3 (pc' := 48) (L' := [some (.ref 64), some (.ref 1011), some (.int (b2i (alB (fun i => decide (tB T (stS' T p + i) = w11.getD i 0)) j))), some (.int (nI j))]) (S' := [.int (Int32.ofNat 6), .int (nI j)]) (σ' := lm_T M v G) rfl ⟨trivial, (Nat.le_of_ble_eq_true rfl), trivial⟩ ?_
          refine lm_G_br (b := (Int32.ofNat 6) ≤ (nI j)) (t := 82) (S' := []) rfl (fun hc => absurd hc (nI_ge (b := 6) hj (by omega))) (fun hc => ?_)
          refine lm_G_sg 3 (pc' := 56) (L' := [some (.ref 64), some (.ref 1011), some (.int (b2i (alB (fun i => decide (tB T (stS' T p + i) = w11.getD i 0)) j))), some (.int (nI j))]) (S' := [.int ((lm_wz 11).getD (nI j).toNatClampNeg 0)]) (σ' := lm_T M v G) rfl ⟨(show vp_in _ 6 from vp_in_nI (by omega) (by omega)), (Nat.le_of_ble_eq_true rfl), trivial⟩ ?_
          rw [nI_clamp (n := j) (by omega), v1]
          refine lm_G_sg 4 (pc' := 64) (L' := [some (.ref 64), some (.ref 1011), some (.int (b2i (alB (fun i => decide (tB T (stS' T p + i) = w11.getD i 0)) j))), some (.int (nI j))]) (S' := [.int (M 64 23), .ref 80, .int (nI (w11.getD j 0))]) (σ' := lm_T M v G) rfl trivial ?_
          rw [show M 64 23 = nI (stS' T p) from h23]
          refine lm_G_sg 2 (pc' := 66) (L' := [some (.ref 64), some (.ref 1011), some (.int (b2i (alB (fun i => decide (tB T (stS' T p + i) = w11.getD i 0)) j))), some (.int (nI j))]) (S' := [.int ((nI (stS' T p)) + (nI j)), .ref 80, .int (nI (w11.getD j 0))]) (σ' := lm_T M v G) rfl trivial ?_
          rw [show (nI (stS' T p)) + (nI j) = nI ((stS' T p) + j) from nI_add (stS' T p) j]
          refine lm_G_sg 1 (pc' := 67) (L' := [some (.ref 64), some (.ref 1011), some (.int (b2i (alB (fun i => decide (tB T (stS' T p + i) = w11.getD i 0)) j))), some (.int (nI j))]) (S' := [.int (M 80 (nI ((stS' T p) + j)).toNatClampNeg), .int (nI (w11.getD j 0))]) (σ' := lm_T M v G) rfl ⟨(vp_in_nI (by omega) (by omega)), trivial, trivial⟩ ?_
          rw [show (nI ((stS' T p) + j)).toNatClampNeg = ((stS' T p) + j) from nI_clamp (by omega)]
          rw [show M 80 ((stS' T p) + j) = nI (tB T ((stS' T p) + j)) from hr.2 ((stS' T p) + j) (by omega)]
          refine lm_G_br (b := ¬ (nI (w11.getD j 0)) = (nI (tB T ((stS' T p) + j)))) (t := 74) (S' := []) rfl (fun h5 => ?_) (fun h5 => ?_)
          ·
            refine lm_G_sg 3 (pc' := 79) (L' := [some (.ref 64), some (.ref 1011), some (.int 0), some (.int ((nI j) + 1))]) (S' := []) (σ' := lm_T M v G) rfl trivial ?_
            rw [nI_1]
            refine lm_G_sg 1 (pc' := 39) (L' := [some (.ref 64), some (.ref 1011), some (.int 0), some (.int (nI (j + 1)))]) (S' := []) (σ' := lm_T M v G) rfl trivial ?_
            have e5 : alB (fun i => decide (tB T (stS' T p + i) = w11.getD i 0)) (j + 1) = false := by
              simp only [alB]
              rw [decide_eq_false (fun w => h5 (by rw [w])), Bool.and_false]
            rw [e5] at ih
            exact ih  trivial
          ·
            refine lm_G_sg 4 (pc' := 79) (L' := [some (.ref 64), some (.ref 1011), some (.int 1), some (.int ((nI j) + 1))]) (S' := []) (σ' := lm_T M v G) rfl trivial ?_
            rw [nI_1]
            refine lm_G_sg 1 (pc' := 39) (L' := [some (.ref 64), some (.ref 1011), some (.int 1), some (.int (nI (j + 1)))]) (S' := []) (σ' := lm_T M v G) rfl trivial ?_
            have e5 : alB (fun i => decide (tB T (stS' T p + i) = w11.getD i 0)) (j + 1) = true := by
              simp only [alB]
              rw [e4, decide_eq_true ((nI_eq (by omega) (by omega)).mp (Classical.not_not.mp h5)).symm]
              rfl
            rw [e5] at ih
            exact ih  trivial
      ·
        replace hI : True := hI
        show lm_G X d 155 106 0 0 39 [some (.ref 64), some (.ref 1011), some (.int (b2i (alB (fun i => decide (tB T (stS' T p + i) = w11.getD i 0)) 6))), some (.int (nI 6))] [] (lm_T M v G) Q
        have ew : isWd T p w11 = alB (fun i => decide (tB T (stS' T p + i) = w11.getD i 0)) 6 := by
          unfold isWd
          rw [show w11.length = 6 from rfl, decide_eq_true k3, decide_eq_true l3]
          rfl
        rw [ew] at hQ
        refine lm_G_sg 1 (pc' := 40) (L' := [some (.ref 64), some (.ref 1011), some (.int (b2i (alB (fun i => decide (tB T (stS' T p + i) = w11.getD i 0)) 6))), some (.int (nI 6))]) (S' := [.int (b2i (alB (fun i => decide (tB T (stS' T p + i) = w11.getD i 0)) 6))]) (σ' := lm_T M v G) rfl trivial ?_
        refine lm_G_br (b := (b2i (alB (fun i => decide (tB T (stS' T p + i) = w11.getD i 0)) 6)) = 0) (t := 82) (S' := []) rfl (fun h4 => ?_) (fun h4 => ?_)
        ·
          refine lm_G_sg 1 (pc' := 83) (L' := [some (.ref 64), some (.ref 1011), some (.int (b2i (alB (fun i => decide (tB T (stS' T p + i) = w11.getD i 0)) 6))), some (.int (nI 6))]) (S' := [.int (b2i (alB (fun i => decide (tB T (stS' T p + i) = w11.getD i 0)) 6))]) (σ' := lm_T M v G) rfl trivial ?_
          exact lm_G_re rfl (b2i_01 _) (Nat.zero_le _) (Nat.zero_le _) hQ
        ·
          refine lm_G_sg 3 (pc' := 48) (L' := [some (.ref 64), some (.ref 1011), some (.int (b2i (alB (fun i => decide (tB T (stS' T p + i) = w11.getD i 0)) 6))), some (.int (nI 6))]) (S' := [.int (Int32.ofNat 6), .int (nI 6)]) (σ' := lm_T M v G) rfl ⟨trivial, (Nat.le_of_ble_eq_true rfl), trivial⟩ ?_
          refine lm_G_br (b := (Int32.ofNat 6) ≤ (nI 6)) (t := 82) (S' := []) rfl (fun hc => ?_) (fun hc => absurd (nI_le (a := 6) (Nat.le_refl _) (by omega)) hc)
          refine lm_G_sg 1 (pc' := 83) (L' := [some (.ref 64), some (.ref 1011), some (.int (b2i (alB (fun i => decide (tB T (stS' T p + i) = w11.getD i 0)) 6))), some (.int (nI 6))]) (S' := [.int (b2i (alB (fun i => decide (tB T (stS' T p + i) = w11.getD i 0)) 6))]) (σ' := lm_T M v G) rfl trivial ?_
          exact lm_G_re rfl (b2i_01 _) (Nat.zero_le _) (Nat.zero_le _) hQ
      ·
        trivial
set_option maxRecDepth 10000 in
theorem m_is12 {X : lm_X} {d v : Nat} {M : Nat → Nat → Int32} {G : Nat → Nat → Int64} {Q : lm_O → lm_S → Prop} {T : Tx} {p : Nat} (hT : okT T) (hp : p ≤ tN T) (hg : GM M T p) (hQ : Q (.inl (some (.int (b2i (isWd T p w12))))) (lm_T M v G)) : lm_Q X d 155 [.ref 64, .ref 1012] (lm_T M v G) Q := by
  have hn := hT.1
  have kl := kn_le (T := T) (p := p)
  obtain ⟨el1, el2, el3⟩ := en_le hp
  obtain ⟨⟨hr, h21, h23, h24, h19, h22⟩, h25⟩ := hg
  show lm_G X d 155 106 0 0 0 [some (.ref 64), some (.ref 1012), none, none] [] (lm_T M v G) Q
  have tl := tk_le (T := T) (p := p)
  refine lm_G_sg 2 (pc' := 4) (L' := [some (.ref 64), some (.ref 1012), none, none]) (S' := [.int (M 64 25)]) (σ' := lm_T M v G) rfl trivial ?_
  rw [show M 64 25 = 0 from h25]
  refine lm_G_br (b := ¬ 0 = 0) (t := 35) (S' := []) rfl (fun hc => absurd rfl hc) (fun hc => ?_)
  refine lm_G_sg 2 (pc' := 11) (L' := [some (.ref 64), some (.ref 1012), none, none]) (S' := [.int (M 64 21)]) (σ' := lm_T M v G) rfl trivial ?_
  rw [show M 64 21 = nI (tkS T p) from h21]
  refine lm_G_sg 1 (pc' := 12) (L' := [some (.ref 64), some (.ref 1012), none, none]) (S' := [.int 1, .int (nI (tkS T p))]) (σ' := lm_T M v G) rfl trivial ?_
  refine lm_G_br (b := ¬ (nI (tkS T p)) = 1) (t := 35) (S' := []) rfl (fun h1 => ?_) (fun h1 => ?_)
  ·
    have k3 : ¬ knS T p = 1 := fun w => h1 (by rw [tk_1.mpr w]; rfl)
    rw [show isWd T p w12 = false from by unfold isWd; rw [decide_eq_false k3]; rfl] at hQ
    refine lm_G_sg 5 (pc' := 40) (L' := [some (.ref 64), some (.ref 1012), some (.int 0), some (.int 0)]) (S' := [.int 0]) (σ' := lm_T M v G) rfl trivial ?_
    refine lm_G_br (b := 0 = 0) (t := 82) (S' := []) rfl (fun h2 => ?_) (fun h2 => absurd rfl h2)
    refine lm_G_sg 1 (pc' := 83) (L' := [some (.ref 64), some (.ref 1012), some (.int 0), some (.int 0)]) (S' := [.int 0]) (σ' := lm_T M v G) rfl trivial ?_
    exact lm_G_re rfl (by decide) (Nat.zero_le _) (Nat.zero_le _) hQ
  ·
    have k3 : knS T p = 1 := tk_1.mp ((nI_eq (b := 1) (by omega) (by omega)).mp (Classical.not_not.mp h1))
    refine lm_G_sg 4 (pc' := 23) (L' := [some (.ref 64), some (.ref 1012), none, none]) (S' := [.int (M 64 24), .int (Int32.ofNat 3)]) (σ' := lm_T M v G) rfl ⟨trivial, (Nat.le_of_ble_eq_true rfl), trivial⟩ ?_
    rw [show M 64 24 = nI (enS T p) from h24]
    refine lm_G_sg 2 (pc' := 27) (L' := [some (.ref 64), some (.ref 1012), none, none]) (S' := [.int (M 64 23), .int (nI (enS T p)), .int (Int32.ofNat 3)]) (σ' := lm_T M v G) rfl trivial ?_
    rw [show M 64 23 = nI (stS' T p) from h23]
    refine lm_G_sg 1 (pc' := 28) (L' := [some (.ref 64), some (.ref 1012), none, none]) (S' := [.int ((nI (enS T p)) - (nI (stS' T p))), .int (Int32.ofNat 3)]) (σ' := lm_T M v G) rfl trivial ?_
    rw [show (nI (enS T p)) - (nI (stS' T p)) = nI (lnS T p) from nI_sub (by omega)]
    have ll : lnS T p ≤ 700 := by unfold lnS; omega
    refine lm_G_br (b := ¬ (Int32.ofNat 3) = (nI (lnS T p))) (t := 35) (S' := []) rfl (fun h2 => ?_) (fun h2 => ?_)
    ·
      have l3 : ¬ lnS T p = w12.length := fun w => h2 (by rw [w]; rfl)
      rw [show isWd T p w12 = false from by unfold isWd; rw [decide_eq_false l3, Bool.false_and, Bool.and_false]] at hQ
      refine lm_G_sg 5 (pc' := 40) (L' := [some (.ref 64), some (.ref 1012), some (.int 0), some (.int 0)]) (S' := [.int 0]) (σ' := lm_T M v G) rfl trivial ?_
      refine lm_G_br (b := 0 = 0) (t := 82) (S' := []) rfl (fun h3 => ?_) (fun h3 => absurd rfl h3)
      refine lm_G_sg 1 (pc' := 83) (L' := [some (.ref 64), some (.ref 1012), some (.int 0), some (.int 0)]) (S' := [.int 0]) (σ' := lm_T M v G) rfl trivial ?_
      exact lm_G_re rfl (by decide) (Nat.zero_le _) (Nat.zero_le _) hQ
    ·
      have l3 : lnS T p = 3 := ((nI_eq (a := 3) (by omega) (by omega)).mp (Classical.not_not.mp h2)).symm
      have le3 : enS T p - stS' T p = 3 := l3
      refine lm_G_sg 5 (pc' := 39) (L' := [some (.ref 64), some (.ref 1012), some (.int 1), some (.int 0)]) (S' := []) (σ' := lm_T M v G) rfl trivial ?_
      suffices hx : lm_G X d 155 106 0 0 39 [some (.ref 64), some (.ref 1012), some (.int (b2i (alB (fun i => decide (tB T (stS' T p + i) = w12.getD i 0)) 0))), some (.int 0)] [] (lm_T M v G) Q from hx
      refine lm_ind (α := Unit) (St := fun (j : Nat) zz => lm_G X d 155 106 0 0 39 [some (.ref 64), some (.ref 1012), some (.int (b2i (alB (fun i => decide (tB T (stS' T p + i) = w12.getD i 0)) j))), some (.int (nI j))] [] (lm_T M v G) Q) (Inv := fun (j : Nat) zz => True) (3) (fun j zz hj hI ih => ?_) (fun zz hI => ?_) (0) () (by omega) ?_
      ·
        replace hI : True := hI
        replace ih : ∀ (_ : True), lm_G X d 155 106 0 0 39 [some (.ref 64), some (.ref 1012), some (.int (b2i (alB (fun i => decide (tB T (stS' T p + i) = w12.getD i 0)) (j + 1)))), some (.int (nI (j + 1)))] [] (lm_T M v G) Q := fun q => ih () q
        show lm_G X d 155 106 0 0 39 [some (.ref 64), some (.ref 1012), some (.int (b2i (alB (fun i => decide (tB T (stS' T p + i) = w12.getD i 0)) j))), some (.int (nI j))] [] (lm_T M v G) Q
        have hbb := hT.2 (stS' T p + j) (by omega)
        obtain ⟨v1, v2⟩ := w12_ok j hj
        refine lm_G_sg 1 (pc' := 40) (L' := [some (.ref 64), some (.ref 1012), some (.int (b2i (alB (fun i => decide (tB T (stS' T p + i) = w12.getD i 0)) j))), some (.int (nI j))]) (S' := [.int (b2i (alB (fun i => decide (tB T (stS' T p + i) = w12.getD i 0)) j))]) (σ' := lm_T M v G) rfl trivial ?_
        refine lm_G_br (b := (b2i (alB (fun i => decide (tB T (stS' T p + i) = w12.getD i 0)) j)) = 0) (t := 82) (S' := []) rfl (fun h4 => ?_) (fun h4 => ?_)
        ·
          have e5 : alB (fun i => decide (tB T (stS' T p + i) = w12.getD i 0)) 3 = false := by
            refine Bool.eq_false_iff.mpr (fun w => ?_)
            have := b2i_0 h4
            rw [al_t.mpr (fun k hk => al_t.mp w k (by omega))] at this
            cases this
          rw [show isWd T p w12 = false from by unfold isWd; rw [show w12.length = 3 from rfl, e5, Bool.and_false, Bool.and_false]] at hQ
          rw [b2i_0 h4]
          refine lm_G_sg 1 (pc' := 83) (L' := [some (.ref 64), some (.ref 1012), some (.int (b2i false)), some (.int (nI j))]) (S' := [.int (b2i false)]) (σ' := lm_T M v G) rfl trivial ?_
          exact lm_G_re rfl (b2i_01 _) (Nat.zero_le _) (Nat.zero_le _) hQ
        ·
          have e4 := b2i_1 h4
          refine lm_G_sg 3 (pc' := 48) (L' := [some (.ref 64), some (.ref 1012), some (.int (b2i (alB (fun i => decide (tB T (stS' T p + i) = w12.getD i 0)) j))), some (.int (nI j))]) (S' := [.int (Int32.ofNat 3), .int (nI j)]) (σ' := lm_T M v G) rfl ⟨trivial, (Nat.le_of_ble_eq_true rfl), trivial⟩ ?_
          refine lm_G_br (b := (Int32.ofNat 3) ≤ (nI j)) (t := 82) (S' := []) rfl (fun hc => absurd hc (nI_ge (b := 3) hj (by omega))) (fun hc => ?_)
          refine lm_G_sg 3 (pc' := 56) (L' := [some (.ref 64), some (.ref 1012), some (.int (b2i (alB (fun i => decide (tB T (stS' T p + i) = w12.getD i 0)) j))), some (.int (nI j))]) (S' := [.int ((lm_wz 12).getD (nI j).toNatClampNeg 0)]) (σ' := lm_T M v G) rfl ⟨(show vp_in _ 3 from vp_in_nI (by omega) (by omega)), (Nat.le_of_ble_eq_true rfl), trivial⟩ ?_
          rw [nI_clamp (n := j) (by omega), v1]
          refine lm_G_sg 4 (pc' := 64) (L' := [some (.ref 64), some (.ref 1012), some (.int (b2i (alB (fun i => decide (tB T (stS' T p + i) = w12.getD i 0)) j))), some (.int (nI j))]) (S' := [.int (M 64 23), .ref 80, .int (nI (w12.getD j 0))]) (σ' := lm_T M v G) rfl trivial ?_
          rw [show M 64 23 = nI (stS' T p) from h23]
          refine lm_G_sg 2 (pc' := 66) (L' := [some (.ref 64), some (.ref 1012), some (.int (b2i (alB (fun i => decide (tB T (stS' T p + i) = w12.getD i 0)) j))), some (.int (nI j))]) (S' := [.int ((nI (stS' T p)) + (nI j)), .ref 80, .int (nI (w12.getD j 0))]) (σ' := lm_T M v G) rfl trivial ?_
          rw [show (nI (stS' T p)) + (nI j) = nI ((stS' T p) + j) from nI_add (stS' T p) j]
          refine lm_G_sg 1 (pc' := 67) (L' := [some (.ref 64), some (.ref 1012), some (.int (b2i (alB (fun i => decide (tB T (stS' T p + i) = w12.getD i 0)) j))), some (.int (nI j))]) (S' := [.int (M 80 (nI ((stS' T p) + j)).toNatClampNeg), .int (nI (w12.getD j 0))]) (σ' := lm_T M v G) rfl ⟨(vp_in_nI (by omega) (by omega)), trivial, trivial⟩ ?_
          rw [show (nI ((stS' T p) + j)).toNatClampNeg = ((stS' T p) + j) from nI_clamp (by omega)]
          rw [show M 80 ((stS' T p) + j) = nI (tB T ((stS' T p) + j)) from hr.2 ((stS' T p) + j) (by omega)]
          refine lm_G_br (b := ¬ (nI (w12.getD j 0)) = (nI (tB T ((stS' T p) + j)))) (t := 74) (S' := []) rfl (fun h5 => ?_) (fun h5 => ?_)
          ·
            refine lm_G_sg 3 (pc' := 79) (L' := [some (.ref 64), some (.ref 1012), some (.int 0), some (.int ((nI j) + 1))]) (S' := []) (σ' := lm_T M v G) rfl trivial ?_
            rw [nI_1]
            refine lm_G_sg 1 (pc' := 39) (L' := [some (.ref 64), some (.ref 1012), some (.int 0), some (.int (nI (j + 1)))]) (S' := []) (σ' := lm_T M v G) rfl trivial ?_
            have e5 : alB (fun i => decide (tB T (stS' T p + i) = w12.getD i 0)) (j + 1) = false := by
              simp only [alB]
              rw [decide_eq_false (fun w => h5 (by rw [w])), Bool.and_false]
            rw [e5] at ih
            exact ih  trivial
          ·
            refine lm_G_sg 4 (pc' := 79) (L' := [some (.ref 64), some (.ref 1012), some (.int 1), some (.int ((nI j) + 1))]) (S' := []) (σ' := lm_T M v G) rfl trivial ?_
            rw [nI_1]
            refine lm_G_sg 1 (pc' := 39) (L' := [some (.ref 64), some (.ref 1012), some (.int 1), some (.int (nI (j + 1)))]) (S' := []) (σ' := lm_T M v G) rfl trivial ?_
            have e5 : alB (fun i => decide (tB T (stS' T p + i) = w12.getD i 0)) (j + 1) = true := by
              simp only [alB]
              rw [e4, decide_eq_true ((nI_eq (by omega) (by omega)).mp (Classical.not_not.mp h5)).symm]
              rfl
            rw [e5] at ih
            exact ih  trivial
      ·
        replace hI : True := hI
        show lm_G X d 155 106 0 0 39 [some (.ref 64), some (.ref 1012), some (.int (b2i (alB (fun i => decide (tB T (stS' T p + i) = w12.getD i 0)) 3))), some (.int (nI 3))] [] (lm_T M v G) Q
        have ew : isWd T p w12 = alB (fun i => decide (tB T (stS' T p + i) = w12.getD i 0)) 3 := by
          unfold isWd
          rw [show w12.length = 3 from rfl, decide_eq_true k3, decide_eq_true l3]
          rfl
        rw [ew] at hQ
        refine lm_G_sg 1 (pc' := 40) (L' := [some (.ref 64), some (.ref 1012), some (.int (b2i (alB (fun i => decide (tB T (stS' T p + i) = w12.getD i 0)) 3))), some (.int (nI 3))]) (S' := [.int (b2i (alB (fun i => decide (tB T (stS' T p + i) = w12.getD i 0)) 3))]) (σ' := lm_T M v G) rfl trivial ?_
        refine lm_G_br (b := (b2i (alB (fun i => decide (tB T (stS' T p + i) = w12.getD i 0)) 3)) = 0) (t := 82) (S' := []) rfl (fun h4 => ?_) (fun h4 => ?_)
        ·
          refine lm_G_sg 1 (pc' := 83) (L' := [some (.ref 64), some (.ref 1012), some (.int (b2i (alB (fun i => decide (tB T (stS' T p + i) = w12.getD i 0)) 3))), some (.int (nI 3))]) (S' := [.int (b2i (alB (fun i => decide (tB T (stS' T p + i) = w12.getD i 0)) 3))]) (σ' := lm_T M v G) rfl trivial ?_
          exact lm_G_re rfl (b2i_01 _) (Nat.zero_le _) (Nat.zero_le _) hQ
        ·
          refine lm_G_sg 3 (pc' := 48) (L' := [some (.ref 64), some (.ref 1012), some (.int (b2i (alB (fun i => decide (tB T (stS' T p + i) = w12.getD i 0)) 3))), some (.int (nI 3))]) (S' := [.int (Int32.ofNat 3), .int (nI 3)]) (σ' := lm_T M v G) rfl ⟨trivial, (Nat.le_of_ble_eq_true rfl), trivial⟩ ?_
          refine lm_G_br (b := (Int32.ofNat 3) ≤ (nI 3)) (t := 82) (S' := []) rfl (fun hc => ?_) (fun hc => absurd (nI_le (a := 3) (Nat.le_refl _) (by omega)) hc)
          refine lm_G_sg 1 (pc' := 83) (L' := [some (.ref 64), some (.ref 1012), some (.int (b2i (alB (fun i => decide (tB T (stS' T p + i) = w12.getD i 0)) 3))), some (.int (nI 3))]) (S' := [.int (b2i (alB (fun i => decide (tB T (stS' T p + i) = w12.getD i 0)) 3))]) (σ' := lm_T M v G) rfl trivial ?_
          exact lm_G_re rfl (b2i_01 _) (Nat.zero_le _) (Nat.zero_le _) hQ
      ·
        trivial
set_option maxRecDepth 10000 in
theorem m_is13 {X : lm_X} {d v : Nat} {M : Nat → Nat → Int32} {G : Nat → Nat → Int64} {Q : lm_O → lm_S → Prop} {T : Tx} {p : Nat} (hT : okT T) (hp : p ≤ tN T) (hg : GM M T p) (hQ : Q (.inl (some (.int (b2i (isWd T p w13))))) (lm_T M v G)) : lm_Q X d 155 [.ref 64, .ref 1013] (lm_T M v G) Q := by
  have hn := hT.1
  have kl := kn_le (T := T) (p := p)
  obtain ⟨el1, el2, el3⟩ := en_le hp
  obtain ⟨⟨hr, h21, h23, h24, h19, h22⟩, h25⟩ := hg
  show lm_G X d 155 106 0 0 0 [some (.ref 64), some (.ref 1013), none, none] [] (lm_T M v G) Q
  have tl := tk_le (T := T) (p := p)
  refine lm_G_sg 2 (pc' := 4) (L' := [some (.ref 64), some (.ref 1013), none, none]) (S' := [.int (M 64 25)]) (σ' := lm_T M v G) rfl trivial ?_
  rw [show M 64 25 = 0 from h25]
  refine lm_G_br (b := ¬ 0 = 0) (t := 35) (S' := []) rfl (fun hc => absurd rfl hc) (fun hc => ?_)
  refine lm_G_sg 2 (pc' := 11) (L' := [some (.ref 64), some (.ref 1013), none, none]) (S' := [.int (M 64 21)]) (σ' := lm_T M v G) rfl trivial ?_
  rw [show M 64 21 = nI (tkS T p) from h21]
  refine lm_G_sg 1 (pc' := 12) (L' := [some (.ref 64), some (.ref 1013), none, none]) (S' := [.int 1, .int (nI (tkS T p))]) (σ' := lm_T M v G) rfl trivial ?_
  refine lm_G_br (b := ¬ (nI (tkS T p)) = 1) (t := 35) (S' := []) rfl (fun h1 => ?_) (fun h1 => ?_)
  ·
    have k3 : ¬ knS T p = 1 := fun w => h1 (by rw [tk_1.mpr w]; rfl)
    rw [show isWd T p w13 = false from by unfold isWd; rw [decide_eq_false k3]; rfl] at hQ
    refine lm_G_sg 5 (pc' := 40) (L' := [some (.ref 64), some (.ref 1013), some (.int 0), some (.int 0)]) (S' := [.int 0]) (σ' := lm_T M v G) rfl trivial ?_
    refine lm_G_br (b := 0 = 0) (t := 82) (S' := []) rfl (fun h2 => ?_) (fun h2 => absurd rfl h2)
    refine lm_G_sg 1 (pc' := 83) (L' := [some (.ref 64), some (.ref 1013), some (.int 0), some (.int 0)]) (S' := [.int 0]) (σ' := lm_T M v G) rfl trivial ?_
    exact lm_G_re rfl (by decide) (Nat.zero_le _) (Nat.zero_le _) hQ
  ·
    have k3 : knS T p = 1 := tk_1.mp ((nI_eq (b := 1) (by omega) (by omega)).mp (Classical.not_not.mp h1))
    refine lm_G_sg 4 (pc' := 23) (L' := [some (.ref 64), some (.ref 1013), none, none]) (S' := [.int (M 64 24), .int (Int32.ofNat 3)]) (σ' := lm_T M v G) rfl ⟨trivial, (Nat.le_of_ble_eq_true rfl), trivial⟩ ?_
    rw [show M 64 24 = nI (enS T p) from h24]
    refine lm_G_sg 2 (pc' := 27) (L' := [some (.ref 64), some (.ref 1013), none, none]) (S' := [.int (M 64 23), .int (nI (enS T p)), .int (Int32.ofNat 3)]) (σ' := lm_T M v G) rfl trivial ?_
    rw [show M 64 23 = nI (stS' T p) from h23]
    refine lm_G_sg 1 (pc' := 28) (L' := [some (.ref 64), some (.ref 1013), none, none]) (S' := [.int ((nI (enS T p)) - (nI (stS' T p))), .int (Int32.ofNat 3)]) (σ' := lm_T M v G) rfl trivial ?_
    rw [show (nI (enS T p)) - (nI (stS' T p)) = nI (lnS T p) from nI_sub (by omega)]
    have ll : lnS T p ≤ 700 := by unfold lnS; omega
    refine lm_G_br (b := ¬ (Int32.ofNat 3) = (nI (lnS T p))) (t := 35) (S' := []) rfl (fun h2 => ?_) (fun h2 => ?_)
    ·
      have l3 : ¬ lnS T p = w13.length := fun w => h2 (by rw [w]; rfl)
      rw [show isWd T p w13 = false from by unfold isWd; rw [decide_eq_false l3, Bool.false_and, Bool.and_false]] at hQ
      refine lm_G_sg 5 (pc' := 40) (L' := [some (.ref 64), some (.ref 1013), some (.int 0), some (.int 0)]) (S' := [.int 0]) (σ' := lm_T M v G) rfl trivial ?_
      refine lm_G_br (b := 0 = 0) (t := 82) (S' := []) rfl (fun h3 => ?_) (fun h3 => absurd rfl h3)
      refine lm_G_sg 1 (pc' := 83) (L' := [some (.ref 64), some (.ref 1013), some (.int 0), some (.int 0)]) (S' := [.int 0]) (σ' := lm_T M v G) rfl trivial ?_
      exact lm_G_re rfl (by decide) (Nat.zero_le _) (Nat.zero_le _) hQ
    ·
      have l3 : lnS T p = 3 := ((nI_eq (a := 3) (by omega) (by omega)).mp (Classical.not_not.mp h2)).symm
      have le3 : enS T p - stS' T p = 3 := l3
      refine lm_G_sg 5 (pc' := 39) (L' := [some (.ref 64), some (.ref 1013), some (.int 1), some (.int 0)]) (S' := []) (σ' := lm_T M v G) rfl trivial ?_
      suffices hx : lm_G X d 155 106 0 0 39 [some (.ref 64), some (.ref 1013), some (.int (b2i (alB (fun i => decide (tB T (stS' T p + i) = w13.getD i 0)) 0))), some (.int 0)] [] (lm_T M v G) Q from hx
      refine lm_ind (α := Unit) (St := fun (j : Nat) zz => lm_G X d 155 106 0 0 39 [some (.ref 64), some (.ref 1013), some (.int (b2i (alB (fun i => decide (tB T (stS' T p + i) = w13.getD i 0)) j))), some (.int (nI j))] [] (lm_T M v G) Q) (Inv := fun (j : Nat) zz => True) (3) (fun j zz hj hI ih => ?_) (fun zz hI => ?_) (0) () (by omega) ?_
      ·
        replace hI : True := hI
        replace ih : ∀ (_ : True), lm_G X d 155 106 0 0 39 [some (.ref 64), some (.ref 1013), some (.int (b2i (alB (fun i => decide (tB T (stS' T p + i) = w13.getD i 0)) (j + 1)))), some (.int (nI (j + 1)))] [] (lm_T M v G) Q := fun q => ih () q
        show lm_G X d 155 106 0 0 39 [some (.ref 64), some (.ref 1013), some (.int (b2i (alB (fun i => decide (tB T (stS' T p + i) = w13.getD i 0)) j))), some (.int (nI j))] [] (lm_T M v G) Q
        have hbb := hT.2 (stS' T p + j) (by omega)
        obtain ⟨v1, v2⟩ := w13_ok j hj
        refine lm_G_sg 1 (pc' := 40) (L' := [some (.ref 64), some (.ref 1013), some (.int (b2i (alB (fun i => decide (tB T (stS' T p + i) = w13.getD i 0)) j))), some (.int (nI j))]) (S' := [.int (b2i (alB (fun i => decide (tB T (stS' T p + i) = w13.getD i 0)) j))]) (σ' := lm_T M v G) rfl trivial ?_
        refine lm_G_br (b := (b2i (alB (fun i => decide (tB T (stS' T p + i) = w13.getD i 0)) j)) = 0) (t := 82) (S' := []) rfl (fun h4 => ?_) (fun h4 => ?_)
        ·
          have e5 : alB (fun i => decide (tB T (stS' T p + i) = w13.getD i 0)) 3 = false := by
            refine Bool.eq_false_iff.mpr (fun w => ?_)
            have := b2i_0 h4
            rw [al_t.mpr (fun k hk => al_t.mp w k (by omega))] at this
            cases this
          rw [show isWd T p w13 = false from by unfold isWd; rw [show w13.length = 3 from rfl, e5, Bool.and_false, Bool.and_false]] at hQ
          rw [b2i_0 h4]
          refine lm_G_sg 1 (pc' := 83) (L' := [some (.ref 64), some (.ref 1013), some (.int (b2i false)), some (.int (nI j))]) (S' := [.int (b2i false)]) (σ' := lm_T M v G) rfl trivial ?_
          exact lm_G_re rfl (b2i_01 _) (Nat.zero_le _) (Nat.zero_le _) hQ
        ·
          have e4 := b2i_1 h4
          refine lm_G_sg 3 (pc' := 48) (L' := [some (.ref 64), some (.ref 1013), some (.int (b2i (alB (fun i => decide (tB T (stS' T p + i) = w13.getD i 0)) j))), some (.int (nI j))]) (S' := [.int (Int32.ofNat 3), .int (nI j)]) (σ' := lm_T M v G) rfl ⟨trivial, (Nat.le_of_ble_eq_true rfl), trivial⟩ ?_
          refine lm_G_br (b := (Int32.ofNat 3) ≤ (nI j)) (t := 82) (S' := []) rfl (fun hc => absurd hc (nI_ge (b := 3) hj (by omega))) (fun hc => ?_)
          refine lm_G_sg 3 (pc' := 56) (L' := [some (.ref 64), some (.ref 1013), some (.int (b2i (alB (fun i => decide (tB T (stS' T p + i) = w13.getD i 0)) j))), some (.int (nI j))]) (S' := [.int ((lm_wz 13).getD (nI j).toNatClampNeg 0)]) (σ' := lm_T M v G) rfl ⟨(show vp_in _ 3 from vp_in_nI (by omega) (by omega)), (Nat.le_of_ble_eq_true rfl), trivial⟩ ?_
          rw [nI_clamp (n := j) (by omega), v1]
          refine lm_G_sg 4 (pc' := 64) (L' := [some (.ref 64), some (.ref 1013), some (.int (b2i (alB (fun i => decide (tB T (stS' T p + i) = w13.getD i 0)) j))), some (.int (nI j))]) (S' := [.int (M 64 23), .ref 80, .int (nI (w13.getD j 0))]) (σ' := lm_T M v G) rfl trivial ?_
          rw [show M 64 23 = nI (stS' T p) from h23]
          refine lm_G_sg 2 (pc' := 66) (L' := [some (.ref 64), some (.ref 1013), some (.int (b2i (alB (fun i => decide (tB T (stS' T p + i) = w13.getD i 0)) j))), some (.int (nI j))]) (S' := [.int ((nI (stS' T p)) + (nI j)), .ref 80, .int (nI (w13.getD j 0))]) (σ' := lm_T M v G) rfl trivial ?_
          rw [show (nI (stS' T p)) + (nI j) = nI ((stS' T p) + j) from nI_add (stS' T p) j]
          refine lm_G_sg 1 (pc' := 67) (L' := [some (.ref 64), some (.ref 1013), some (.int (b2i (alB (fun i => decide (tB T (stS' T p + i) = w13.getD i 0)) j))), some (.int (nI j))]) (S' := [.int (M 80 (nI ((stS' T p) + j)).toNatClampNeg), .int (nI (w13.getD j 0))]) (σ' := lm_T M v G) rfl ⟨(vp_in_nI (by omega) (by omega)), trivial, trivial⟩ ?_
          rw [show (nI ((stS' T p) + j)).toNatClampNeg = ((stS' T p) + j) from nI_clamp (by omega)]
          rw [show M 80 ((stS' T p) + j) = nI (tB T ((stS' T p) + j)) from hr.2 ((stS' T p) + j) (by omega)]
          refine lm_G_br (b := ¬ (nI (w13.getD j 0)) = (nI (tB T ((stS' T p) + j)))) (t := 74) (S' := []) rfl (fun h5 => ?_) (fun h5 => ?_)
          ·
            refine lm_G_sg 3 (pc' := 79) (L' := [some (.ref 64), some (.ref 1013), some (.int 0), some (.int ((nI j) + 1))]) (S' := []) (σ' := lm_T M v G) rfl trivial ?_
            rw [nI_1]
            refine lm_G_sg 1 (pc' := 39) (L' := [some (.ref 64), some (.ref 1013), some (.int 0), some (.int (nI (j + 1)))]) (S' := []) (σ' := lm_T M v G) rfl trivial ?_
            have e5 : alB (fun i => decide (tB T (stS' T p + i) = w13.getD i 0)) (j + 1) = false := by
              simp only [alB]
              rw [decide_eq_false (fun w => h5 (by rw [w])), Bool.and_false]
            rw [e5] at ih
            exact ih  trivial
          ·
            refine lm_G_sg 4 (pc' := 79) (L' := [some (.ref 64), some (.ref 1013), some (.int 1), some (.int ((nI j) + 1))]) (S' := []) (σ' := lm_T M v G) rfl trivial ?_
            rw [nI_1]
            refine lm_G_sg 1 (pc' := 39) (L' := [some (.ref 64), some (.ref 1013), some (.int 1), some (.int (nI (j + 1)))]) (S' := []) (σ' := lm_T M v G) rfl trivial ?_
            have e5 : alB (fun i => decide (tB T (stS' T p + i) = w13.getD i 0)) (j + 1) = true := by
              simp only [alB]
              rw [e4, decide_eq_true ((nI_eq (by omega) (by omega)).mp (Classical.not_not.mp h5)).symm]
              rfl
            rw [e5] at ih
            exact ih  trivial
      ·
        replace hI : True := hI
        show lm_G X d 155 106 0 0 39 [some (.ref 64), some (.ref 1013), some (.int (b2i (alB (fun i => decide (tB T (stS' T p + i) = w13.getD i 0)) 3))), some (.int (nI 3))] [] (lm_T M v G) Q
        have ew : isWd T p w13 = alB (fun i => decide (tB T (stS' T p + i) = w13.getD i 0)) 3 := by
          unfold isWd
          rw [show w13.length = 3 from rfl, decide_eq_true k3, decide_eq_true l3]
          rfl
        rw [ew] at hQ
        refine lm_G_sg 1 (pc' := 40) (L' := [some (.ref 64), some (.ref 1013), some (.int (b2i (alB (fun i => decide (tB T (stS' T p + i) = w13.getD i 0)) 3))), some (.int (nI 3))]) (S' := [.int (b2i (alB (fun i => decide (tB T (stS' T p + i) = w13.getD i 0)) 3))]) (σ' := lm_T M v G) rfl trivial ?_
        refine lm_G_br (b := (b2i (alB (fun i => decide (tB T (stS' T p + i) = w13.getD i 0)) 3)) = 0) (t := 82) (S' := []) rfl (fun h4 => ?_) (fun h4 => ?_)
        ·
          refine lm_G_sg 1 (pc' := 83) (L' := [some (.ref 64), some (.ref 1013), some (.int (b2i (alB (fun i => decide (tB T (stS' T p + i) = w13.getD i 0)) 3))), some (.int (nI 3))]) (S' := [.int (b2i (alB (fun i => decide (tB T (stS' T p + i) = w13.getD i 0)) 3))]) (σ' := lm_T M v G) rfl trivial ?_
          exact lm_G_re rfl (b2i_01 _) (Nat.zero_le _) (Nat.zero_le _) hQ
        ·
          refine lm_G_sg 3 (pc' := 48) (L' := [some (.ref 64), some (.ref 1013), some (.int (b2i (alB (fun i => decide (tB T (stS' T p + i) = w13.getD i 0)) 3))), some (.int (nI 3))]) (S' := [.int (Int32.ofNat 3), .int (nI 3)]) (σ' := lm_T M v G) rfl ⟨trivial, (Nat.le_of_ble_eq_true rfl), trivial⟩ ?_
          refine lm_G_br (b := (Int32.ofNat 3) ≤ (nI 3)) (t := 82) (S' := []) rfl (fun hc => ?_) (fun hc => absurd (nI_le (a := 3) (Nat.le_refl _) (by omega)) hc)
          refine lm_G_sg 1 (pc' := 83) (L' := [some (.ref 64), some (.ref 1013), some (.int (b2i (alB (fun i => decide (tB T (stS' T p + i) = w13.getD i 0)) 3))), some (.int (nI 3))]) (S' := [.int (b2i (alB (fun i => decide (tB T (stS' T p + i) = w13.getD i 0)) 3))]) (σ' := lm_T M v G) rfl trivial ?_
          exact lm_G_re rfl (b2i_01 _) (Nat.zero_le _) (Nat.zero_le _) hQ
      ·
        trivial
set_option maxRecDepth 10000 in
theorem m_isB13 {X : lm_X} {d v : Nat} {M : Nat → Nat → Int32} {G : Nat → Nat → Int64} {Q : lm_O → lm_S → Prop} (hb : ¬ M 64 25 = 0) (hQ : Q (.inl (some (.int 0))) (lm_T M v G)) : lm_Q X d 155 [.ref 64, .ref 1013] (lm_T M v G) Q := by
  show lm_G X d 155 106 0 0 0 [some (.ref 64), some (.ref 1013), none, none] [] (lm_T M v G) Q
  refine lm_G_sg 2 (pc' := 4) (L' := [some (.ref 64), some (.ref 1013), none, none]) (S' := [.int (M 64 25)]) (σ' := lm_T M v G) rfl trivial ?_
  refine lm_G_br (b := ¬ (M 64 25) = 0) (t := 35) (S' := []) rfl (fun hc => ?_) (fun hc => absurd (Classical.not_not.mp hc) hb)
  refine lm_G_sg 5 (pc' := 40) (L' := [some (.ref 64), some (.ref 1013), some (.int 0), some (.int 0)]) (S' := [.int 0]) (σ' := lm_T M v G) rfl trivial ?_
  refine lm_G_br (b := 0 = 0) (t := 82) (S' := []) rfl (fun hc => ?_) (fun hc => absurd rfl hc)
  refine lm_G_sg 1 (pc' := 83) (L' := [some (.ref 64), some (.ref 1013), some (.int 0), some (.int 0)]) (S' := [.int 0]) (σ' := lm_T M v G) rfl trivial ?_
  exact lm_G_re rfl (by decide) (Nat.zero_le _) (Nat.zero_le _) hQ
set_option maxRecDepth 10000 in
theorem m_is14 {X : lm_X} {d v : Nat} {M : Nat → Nat → Int32} {G : Nat → Nat → Int64} {Q : lm_O → lm_S → Prop} {T : Tx} {p : Nat} (hT : okT T) (hp : p ≤ tN T) (hg : GM M T p) (hQ : Q (.inl (some (.int (b2i (isWd T p w14))))) (lm_T M v G)) : lm_Q X d 155 [.ref 64, .ref 1014] (lm_T M v G) Q := by
  have hn := hT.1
  have kl := kn_le (T := T) (p := p)
  obtain ⟨el1, el2, el3⟩ := en_le hp
  obtain ⟨⟨hr, h21, h23, h24, h19, h22⟩, h25⟩ := hg
  show lm_G X d 155 106 0 0 0 [some (.ref 64), some (.ref 1014), none, none] [] (lm_T M v G) Q
  have tl := tk_le (T := T) (p := p)
  refine lm_G_sg 2 (pc' := 4) (L' := [some (.ref 64), some (.ref 1014), none, none]) (S' := [.int (M 64 25)]) (σ' := lm_T M v G) rfl trivial ?_
  rw [show M 64 25 = 0 from h25]
  refine lm_G_br (b := ¬ 0 = 0) (t := 35) (S' := []) rfl (fun hc => absurd rfl hc) (fun hc => ?_)
  refine lm_G_sg 2 (pc' := 11) (L' := [some (.ref 64), some (.ref 1014), none, none]) (S' := [.int (M 64 21)]) (σ' := lm_T M v G) rfl trivial ?_
  rw [show M 64 21 = nI (tkS T p) from h21]
  refine lm_G_sg 1 (pc' := 12) (L' := [some (.ref 64), some (.ref 1014), none, none]) (S' := [.int 1, .int (nI (tkS T p))]) (σ' := lm_T M v G) rfl trivial ?_
  refine lm_G_br (b := ¬ (nI (tkS T p)) = 1) (t := 35) (S' := []) rfl (fun h1 => ?_) (fun h1 => ?_)
  ·
    have k3 : ¬ knS T p = 1 := fun w => h1 (by rw [tk_1.mpr w]; rfl)
    rw [show isWd T p w14 = false from by unfold isWd; rw [decide_eq_false k3]; rfl] at hQ
    refine lm_G_sg 5 (pc' := 40) (L' := [some (.ref 64), some (.ref 1014), some (.int 0), some (.int 0)]) (S' := [.int 0]) (σ' := lm_T M v G) rfl trivial ?_
    refine lm_G_br (b := 0 = 0) (t := 82) (S' := []) rfl (fun h2 => ?_) (fun h2 => absurd rfl h2)
    refine lm_G_sg 1 (pc' := 83) (L' := [some (.ref 64), some (.ref 1014), some (.int 0), some (.int 0)]) (S' := [.int 0]) (σ' := lm_T M v G) rfl trivial ?_
    exact lm_G_re rfl (by decide) (Nat.zero_le _) (Nat.zero_le _) hQ
  ·
    have k3 : knS T p = 1 := tk_1.mp ((nI_eq (b := 1) (by omega) (by omega)).mp (Classical.not_not.mp h1))
    refine lm_G_sg 4 (pc' := 23) (L' := [some (.ref 64), some (.ref 1014), none, none]) (S' := [.int (M 64 24), .int (Int32.ofNat 2)]) (σ' := lm_T M v G) rfl ⟨trivial, (Nat.le_of_ble_eq_true rfl), trivial⟩ ?_
    rw [show M 64 24 = nI (enS T p) from h24]
    refine lm_G_sg 2 (pc' := 27) (L' := [some (.ref 64), some (.ref 1014), none, none]) (S' := [.int (M 64 23), .int (nI (enS T p)), .int (Int32.ofNat 2)]) (σ' := lm_T M v G) rfl trivial ?_
    rw [show M 64 23 = nI (stS' T p) from h23]
    refine lm_G_sg 1 (pc' := 28) (L' := [some (.ref 64), some (.ref 1014), none, none]) (S' := [.int ((nI (enS T p)) - (nI (stS' T p))), .int (Int32.ofNat 2)]) (σ' := lm_T M v G) rfl trivial ?_
    rw [show (nI (enS T p)) - (nI (stS' T p)) = nI (lnS T p) from nI_sub (by omega)]
    have ll : lnS T p ≤ 700 := by unfold lnS; omega
    refine lm_G_br (b := ¬ (Int32.ofNat 2) = (nI (lnS T p))) (t := 35) (S' := []) rfl (fun h2 => ?_) (fun h2 => ?_)
    ·
      have l3 : ¬ lnS T p = w14.length := fun w => h2 (by rw [w]; rfl)
      rw [show isWd T p w14 = false from by unfold isWd; rw [decide_eq_false l3, Bool.false_and, Bool.and_false]] at hQ
      refine lm_G_sg 5 (pc' := 40) (L' := [some (.ref 64), some (.ref 1014), some (.int 0), some (.int 0)]) (S' := [.int 0]) (σ' := lm_T M v G) rfl trivial ?_
      refine lm_G_br (b := 0 = 0) (t := 82) (S' := []) rfl (fun h3 => ?_) (fun h3 => absurd rfl h3)
      refine lm_G_sg 1 (pc' := 83) (L' := [some (.ref 64), some (.ref 1014), some (.int 0), some (.int 0)]) (S' := [.int 0]) (σ' := lm_T M v G) rfl trivial ?_
      exact lm_G_re rfl (by decide) (Nat.zero_le _) (Nat.zero_le _) hQ
    ·
      have l3 : lnS T p = 2 := ((nI_eq (a := 2) (by omega) (by omega)).mp (Classical.not_not.mp h2)).symm
      have le3 : enS T p - stS' T p = 2 := l3
      refine lm_G_sg 5 (pc' := 39) (L' := [some (.ref 64), some (.ref 1014), some (.int 1), some (.int 0)]) (S' := []) (σ' := lm_T M v G) rfl trivial ?_
      suffices hx : lm_G X d 155 106 0 0 39 [some (.ref 64), some (.ref 1014), some (.int (b2i (alB (fun i => decide (tB T (stS' T p + i) = w14.getD i 0)) 0))), some (.int 0)] [] (lm_T M v G) Q from hx
      refine lm_ind (α := Unit) (St := fun (j : Nat) zz => lm_G X d 155 106 0 0 39 [some (.ref 64), some (.ref 1014), some (.int (b2i (alB (fun i => decide (tB T (stS' T p + i) = w14.getD i 0)) j))), some (.int (nI j))] [] (lm_T M v G) Q) (Inv := fun (j : Nat) zz => True) (2) (fun j zz hj hI ih => ?_) (fun zz hI => ?_) (0) () (by omega) ?_
      ·
        replace hI : True := hI
        replace ih : ∀ (_ : True), lm_G X d 155 106 0 0 39 [some (.ref 64), some (.ref 1014), some (.int (b2i (alB (fun i => decide (tB T (stS' T p + i) = w14.getD i 0)) (j + 1)))), some (.int (nI (j + 1)))] [] (lm_T M v G) Q := fun q => ih () q
        show lm_G X d 155 106 0 0 39 [some (.ref 64), some (.ref 1014), some (.int (b2i (alB (fun i => decide (tB T (stS' T p + i) = w14.getD i 0)) j))), some (.int (nI j))] [] (lm_T M v G) Q
        have hbb := hT.2 (stS' T p + j) (by omega)
        obtain ⟨v1, v2⟩ := w14_ok j hj
        refine lm_G_sg 1 (pc' := 40) (L' := [some (.ref 64), some (.ref 1014), some (.int (b2i (alB (fun i => decide (tB T (stS' T p + i) = w14.getD i 0)) j))), some (.int (nI j))]) (S' := [.int (b2i (alB (fun i => decide (tB T (stS' T p + i) = w14.getD i 0)) j))]) (σ' := lm_T M v G) rfl trivial ?_
        refine lm_G_br (b := (b2i (alB (fun i => decide (tB T (stS' T p + i) = w14.getD i 0)) j)) = 0) (t := 82) (S' := []) rfl (fun h4 => ?_) (fun h4 => ?_)
        ·
          have e5 : alB (fun i => decide (tB T (stS' T p + i) = w14.getD i 0)) 2 = false := by
            refine Bool.eq_false_iff.mpr (fun w => ?_)
            have := b2i_0 h4
            rw [al_t.mpr (fun k hk => al_t.mp w k (by omega))] at this
            cases this
          rw [show isWd T p w14 = false from by unfold isWd; rw [show w14.length = 2 from rfl, e5, Bool.and_false, Bool.and_false]] at hQ
          rw [b2i_0 h4]
          refine lm_G_sg 1 (pc' := 83) (L' := [some (.ref 64), some (.ref 1014), some (.int (b2i false)), some (.int (nI j))]) (S' := [.int (b2i false)]) (σ' := lm_T M v G) rfl trivial ?_
          exact lm_G_re rfl (b2i_01 _) (Nat.zero_le _) (Nat.zero_le _) hQ
        ·
          have e4 := b2i_1 h4
          refine lm_G_sg 3 (pc' := 48) (L' := [some (.ref 64), some (.ref 1014), some (.int (b2i (alB (fun i => decide (tB T (stS' T p + i) = w14.getD i 0)) j))), some (.int (nI j))]) (S' := [.int (Int32.ofNat 2), .int (nI j)]) (σ' := lm_T M v G) rfl ⟨trivial, (Nat.le_of_ble_eq_true rfl), trivial⟩ ?_
          refine lm_G_br (b := (Int32.ofNat 2) ≤ (nI j)) (t := 82) (S' := []) rfl (fun hc => absurd hc (nI_ge (b := 2) hj (by omega))) (fun hc => ?_)
          refine lm_G_sg 3 (pc' := 56) (L' := [some (.ref 64), some (.ref 1014), some (.int (b2i (alB (fun i => decide (tB T (stS' T p + i) = w14.getD i 0)) j))), some (.int (nI j))]) (S' := [.int ((lm_wz 14).getD (nI j).toNatClampNeg 0)]) (σ' := lm_T M v G) rfl ⟨(show vp_in _ 2 from vp_in_nI (by omega) (by omega)), (Nat.le_of_ble_eq_true rfl), trivial⟩ ?_
          rw [nI_clamp (n := j) (by omega), v1]
          refine lm_G_sg 4 (pc' := 64) (L' := [some (.ref 64), some (.ref 1014), some (.int (b2i (alB (fun i => decide (tB T (stS' T p + i) = w14.getD i 0)) j))), some (.int (nI j))]) (S' := [.int (M 64 23), .ref 80, .int (nI (w14.getD j 0))]) (σ' := lm_T M v G) rfl trivial ?_
          rw [show M 64 23 = nI (stS' T p) from h23]
          refine lm_G_sg 2 (pc' := 66) (L' := [some (.ref 64), some (.ref 1014), some (.int (b2i (alB (fun i => decide (tB T (stS' T p + i) = w14.getD i 0)) j))), some (.int (nI j))]) (S' := [.int ((nI (stS' T p)) + (nI j)), .ref 80, .int (nI (w14.getD j 0))]) (σ' := lm_T M v G) rfl trivial ?_
          rw [show (nI (stS' T p)) + (nI j) = nI ((stS' T p) + j) from nI_add (stS' T p) j]
          refine lm_G_sg 1 (pc' := 67) (L' := [some (.ref 64), some (.ref 1014), some (.int (b2i (alB (fun i => decide (tB T (stS' T p + i) = w14.getD i 0)) j))), some (.int (nI j))]) (S' := [.int (M 80 (nI ((stS' T p) + j)).toNatClampNeg), .int (nI (w14.getD j 0))]) (σ' := lm_T M v G) rfl ⟨(vp_in_nI (by omega) (by omega)), trivial, trivial⟩ ?_
          rw [show (nI ((stS' T p) + j)).toNatClampNeg = ((stS' T p) + j) from nI_clamp (by omega)]
          rw [show M 80 ((stS' T p) + j) = nI (tB T ((stS' T p) + j)) from hr.2 ((stS' T p) + j) (by omega)]
          refine lm_G_br (b := ¬ (nI (w14.getD j 0)) = (nI (tB T ((stS' T p) + j)))) (t := 74) (S' := []) rfl (fun h5 => ?_) (fun h5 => ?_)
          ·
            refine lm_G_sg 3 (pc' := 79) (L' := [some (.ref 64), some (.ref 1014), some (.int 0), some (.int ((nI j) + 1))]) (S' := []) (σ' := lm_T M v G) rfl trivial ?_
            rw [nI_1]
            refine lm_G_sg 1 (pc' := 39) (L' := [some (.ref 64), some (.ref 1014), some (.int 0), some (.int (nI (j + 1)))]) (S' := []) (σ' := lm_T M v G) rfl trivial ?_
            have e5 : alB (fun i => decide (tB T (stS' T p + i) = w14.getD i 0)) (j + 1) = false := by
              simp only [alB]
              rw [decide_eq_false (fun w => h5 (by rw [w])), Bool.and_false]
            rw [e5] at ih
            exact ih  trivial
          ·
            refine lm_G_sg 4 (pc' := 79) (L' := [some (.ref 64), some (.ref 1014), some (.int 1), some (.int ((nI j) + 1))]) (S' := []) (σ' := lm_T M v G) rfl trivial ?_
            rw [nI_1]
            refine lm_G_sg 1 (pc' := 39) (L' := [some (.ref 64), some (.ref 1014), some (.int 1), some (.int (nI (j + 1)))]) (S' := []) (σ' := lm_T M v G) rfl trivial ?_
            have e5 : alB (fun i => decide (tB T (stS' T p + i) = w14.getD i 0)) (j + 1) = true := by
              simp only [alB]
              rw [e4, decide_eq_true ((nI_eq (by omega) (by omega)).mp (Classical.not_not.mp h5)).symm]
              rfl
            rw [e5] at ih
            exact ih  trivial
      ·
        replace hI : True := hI
        show lm_G X d 155 106 0 0 39 [some (.ref 64), some (.ref 1014), some (.int (b2i (alB (fun i => decide (tB T (stS' T p + i) = w14.getD i 0)) 2))), some (.int (nI 2))] [] (lm_T M v G) Q
        have ew : isWd T p w14 = alB (fun i => decide (tB T (stS' T p + i) = w14.getD i 0)) 2 := by
          unfold isWd
          rw [show w14.length = 2 from rfl, decide_eq_true k3, decide_eq_true l3]
          rfl
        rw [ew] at hQ
        refine lm_G_sg 1 (pc' := 40) (L' := [some (.ref 64), some (.ref 1014), some (.int (b2i (alB (fun i => decide (tB T (stS' T p + i) = w14.getD i 0)) 2))), some (.int (nI 2))]) (S' := [.int (b2i (alB (fun i => decide (tB T (stS' T p + i) = w14.getD i 0)) 2))]) (σ' := lm_T M v G) rfl trivial ?_
        refine lm_G_br (b := (b2i (alB (fun i => decide (tB T (stS' T p + i) = w14.getD i 0)) 2)) = 0) (t := 82) (S' := []) rfl (fun h4 => ?_) (fun h4 => ?_)
        ·
          refine lm_G_sg 1 (pc' := 83) (L' := [some (.ref 64), some (.ref 1014), some (.int (b2i (alB (fun i => decide (tB T (stS' T p + i) = w14.getD i 0)) 2))), some (.int (nI 2))]) (S' := [.int (b2i (alB (fun i => decide (tB T (stS' T p + i) = w14.getD i 0)) 2))]) (σ' := lm_T M v G) rfl trivial ?_
          exact lm_G_re rfl (b2i_01 _) (Nat.zero_le _) (Nat.zero_le _) hQ
        ·
          refine lm_G_sg 3 (pc' := 48) (L' := [some (.ref 64), some (.ref 1014), some (.int (b2i (alB (fun i => decide (tB T (stS' T p + i) = w14.getD i 0)) 2))), some (.int (nI 2))]) (S' := [.int (Int32.ofNat 2), .int (nI 2)]) (σ' := lm_T M v G) rfl ⟨trivial, (Nat.le_of_ble_eq_true rfl), trivial⟩ ?_
          refine lm_G_br (b := (Int32.ofNat 2) ≤ (nI 2)) (t := 82) (S' := []) rfl (fun hc => ?_) (fun hc => absurd (nI_le (a := 2) (Nat.le_refl _) (by omega)) hc)
          refine lm_G_sg 1 (pc' := 83) (L' := [some (.ref 64), some (.ref 1014), some (.int (b2i (alB (fun i => decide (tB T (stS' T p + i) = w14.getD i 0)) 2))), some (.int (nI 2))]) (S' := [.int (b2i (alB (fun i => decide (tB T (stS' T p + i) = w14.getD i 0)) 2))]) (σ' := lm_T M v G) rfl trivial ?_
          exact lm_G_re rfl (b2i_01 _) (Nat.zero_le _) (Nat.zero_le _) hQ
      ·
        trivial
set_option maxRecDepth 10000 in
theorem m_isB14 {X : lm_X} {d v : Nat} {M : Nat → Nat → Int32} {G : Nat → Nat → Int64} {Q : lm_O → lm_S → Prop} (hb : ¬ M 64 25 = 0) (hQ : Q (.inl (some (.int 0))) (lm_T M v G)) : lm_Q X d 155 [.ref 64, .ref 1014] (lm_T M v G) Q := by
  show lm_G X d 155 106 0 0 0 [some (.ref 64), some (.ref 1014), none, none] [] (lm_T M v G) Q
  refine lm_G_sg 2 (pc' := 4) (L' := [some (.ref 64), some (.ref 1014), none, none]) (S' := [.int (M 64 25)]) (σ' := lm_T M v G) rfl trivial ?_
  refine lm_G_br (b := ¬ (M 64 25) = 0) (t := 35) (S' := []) rfl (fun hc => ?_) (fun hc => absurd (Classical.not_not.mp hc) hb)
  refine lm_G_sg 5 (pc' := 40) (L' := [some (.ref 64), some (.ref 1014), some (.int 0), some (.int 0)]) (S' := [.int 0]) (σ' := lm_T M v G) rfl trivial ?_
  refine lm_G_br (b := 0 = 0) (t := 82) (S' := []) rfl (fun hc => ?_) (fun hc => absurd rfl hc)
  refine lm_G_sg 1 (pc' := 83) (L' := [some (.ref 64), some (.ref 1014), some (.int 0), some (.int 0)]) (S' := [.int 0]) (σ' := lm_T M v G) rfl trivial ?_
  exact lm_G_re rfl (by decide) (Nat.zero_le _) (Nat.zero_le _) hQ
set_option maxRecDepth 10000 in
theorem m_is15 {X : lm_X} {d v : Nat} {M : Nat → Nat → Int32} {G : Nat → Nat → Int64} {Q : lm_O → lm_S → Prop} {T : Tx} {p : Nat} (hT : okT T) (hp : p ≤ tN T) (hg : GM M T p) (hQ : Q (.inl (some (.int (b2i (isWd T p w15))))) (lm_T M v G)) : lm_Q X d 155 [.ref 64, .ref 1015] (lm_T M v G) Q := by
  have hn := hT.1
  have kl := kn_le (T := T) (p := p)
  obtain ⟨el1, el2, el3⟩ := en_le hp
  obtain ⟨⟨hr, h21, h23, h24, h19, h22⟩, h25⟩ := hg
  show lm_G X d 155 106 0 0 0 [some (.ref 64), some (.ref 1015), none, none] [] (lm_T M v G) Q
  have tl := tk_le (T := T) (p := p)
  refine lm_G_sg 2 (pc' := 4) (L' := [some (.ref 64), some (.ref 1015), none, none]) (S' := [.int (M 64 25)]) (σ' := lm_T M v G) rfl trivial ?_
  rw [show M 64 25 = 0 from h25]
  refine lm_G_br (b := ¬ 0 = 0) (t := 35) (S' := []) rfl (fun hc => absurd rfl hc) (fun hc => ?_)
  refine lm_G_sg 2 (pc' := 11) (L' := [some (.ref 64), some (.ref 1015), none, none]) (S' := [.int (M 64 21)]) (σ' := lm_T M v G) rfl trivial ?_
  rw [show M 64 21 = nI (tkS T p) from h21]
  refine lm_G_sg 1 (pc' := 12) (L' := [some (.ref 64), some (.ref 1015), none, none]) (S' := [.int 1, .int (nI (tkS T p))]) (σ' := lm_T M v G) rfl trivial ?_
  refine lm_G_br (b := ¬ (nI (tkS T p)) = 1) (t := 35) (S' := []) rfl (fun h1 => ?_) (fun h1 => ?_)
  ·
    have k3 : ¬ knS T p = 1 := fun w => h1 (by rw [tk_1.mpr w]; rfl)
    rw [show isWd T p w15 = false from by unfold isWd; rw [decide_eq_false k3]; rfl] at hQ
    refine lm_G_sg 5 (pc' := 40) (L' := [some (.ref 64), some (.ref 1015), some (.int 0), some (.int 0)]) (S' := [.int 0]) (σ' := lm_T M v G) rfl trivial ?_
    refine lm_G_br (b := 0 = 0) (t := 82) (S' := []) rfl (fun h2 => ?_) (fun h2 => absurd rfl h2)
    refine lm_G_sg 1 (pc' := 83) (L' := [some (.ref 64), some (.ref 1015), some (.int 0), some (.int 0)]) (S' := [.int 0]) (σ' := lm_T M v G) rfl trivial ?_
    exact lm_G_re rfl (by decide) (Nat.zero_le _) (Nat.zero_le _) hQ
  ·
    have k3 : knS T p = 1 := tk_1.mp ((nI_eq (b := 1) (by omega) (by omega)).mp (Classical.not_not.mp h1))
    refine lm_G_sg 4 (pc' := 23) (L' := [some (.ref 64), some (.ref 1015), none, none]) (S' := [.int (M 64 24), .int (Int32.ofNat 3)]) (σ' := lm_T M v G) rfl ⟨trivial, (Nat.le_of_ble_eq_true rfl), trivial⟩ ?_
    rw [show M 64 24 = nI (enS T p) from h24]
    refine lm_G_sg 2 (pc' := 27) (L' := [some (.ref 64), some (.ref 1015), none, none]) (S' := [.int (M 64 23), .int (nI (enS T p)), .int (Int32.ofNat 3)]) (σ' := lm_T M v G) rfl trivial ?_
    rw [show M 64 23 = nI (stS' T p) from h23]
    refine lm_G_sg 1 (pc' := 28) (L' := [some (.ref 64), some (.ref 1015), none, none]) (S' := [.int ((nI (enS T p)) - (nI (stS' T p))), .int (Int32.ofNat 3)]) (σ' := lm_T M v G) rfl trivial ?_
    rw [show (nI (enS T p)) - (nI (stS' T p)) = nI (lnS T p) from nI_sub (by omega)]
    have ll : lnS T p ≤ 700 := by unfold lnS; omega
    refine lm_G_br (b := ¬ (Int32.ofNat 3) = (nI (lnS T p))) (t := 35) (S' := []) rfl (fun h2 => ?_) (fun h2 => ?_)
    ·
      have l3 : ¬ lnS T p = w15.length := fun w => h2 (by rw [w]; rfl)
      rw [show isWd T p w15 = false from by unfold isWd; rw [decide_eq_false l3, Bool.false_and, Bool.and_false]] at hQ
      refine lm_G_sg 5 (pc' := 40) (L' := [some (.ref 64), some (.ref 1015), some (.int 0), some (.int 0)]) (S' := [.int 0]) (σ' := lm_T M v G) rfl trivial ?_
      refine lm_G_br (b := 0 = 0) (t := 82) (S' := []) rfl (fun h3 => ?_) (fun h3 => absurd rfl h3)
      refine lm_G_sg 1 (pc' := 83) (L' := [some (.ref 64), some (.ref 1015), some (.int 0), some (.int 0)]) (S' := [.int 0]) (σ' := lm_T M v G) rfl trivial ?_
      exact lm_G_re rfl (by decide) (Nat.zero_le _) (Nat.zero_le _) hQ
    ·
      have l3 : lnS T p = 3 := ((nI_eq (a := 3) (by omega) (by omega)).mp (Classical.not_not.mp h2)).symm
      have le3 : enS T p - stS' T p = 3 := l3
      refine lm_G_sg 5 (pc' := 39) (L' := [some (.ref 64), some (.ref 1015), some (.int 1), some (.int 0)]) (S' := []) (σ' := lm_T M v G) rfl trivial ?_
      suffices hx : lm_G X d 155 106 0 0 39 [some (.ref 64), some (.ref 1015), some (.int (b2i (alB (fun i => decide (tB T (stS' T p + i) = w15.getD i 0)) 0))), some (.int 0)] [] (lm_T M v G) Q from hx
      refine lm_ind (α := Unit) (St := fun (j : Nat) zz => lm_G X d 155 106 0 0 39 [some (.ref 64), some (.ref 1015), some (.int (b2i (alB (fun i => decide (tB T (stS' T p + i) = w15.getD i 0)) j))), some (.int (nI j))] [] (lm_T M v G) Q) (Inv := fun (j : Nat) zz => True) (3) (fun j zz hj hI ih => ?_) (fun zz hI => ?_) (0) () (by omega) ?_
      ·
        replace hI : True := hI
        replace ih : ∀ (_ : True), lm_G X d 155 106 0 0 39 [some (.ref 64), some (.ref 1015), some (.int (b2i (alB (fun i => decide (tB T (stS' T p + i) = w15.getD i 0)) (j + 1)))), some (.int (nI (j + 1)))] [] (lm_T M v G) Q := fun q => ih () q
        show lm_G X d 155 106 0 0 39 [some (.ref 64), some (.ref 1015), some (.int (b2i (alB (fun i => decide (tB T (stS' T p + i) = w15.getD i 0)) j))), some (.int (nI j))] [] (lm_T M v G) Q
        have hbb := hT.2 (stS' T p + j) (by omega)
        obtain ⟨v1, v2⟩ := w15_ok j hj
        refine lm_G_sg 1 (pc' := 40) (L' := [some (.ref 64), some (.ref 1015), some (.int (b2i (alB (fun i => decide (tB T (stS' T p + i) = w15.getD i 0)) j))), some (.int (nI j))]) (S' := [.int (b2i (alB (fun i => decide (tB T (stS' T p + i) = w15.getD i 0)) j))]) (σ' := lm_T M v G) rfl trivial ?_
        refine lm_G_br (b := (b2i (alB (fun i => decide (tB T (stS' T p + i) = w15.getD i 0)) j)) = 0) (t := 82) (S' := []) rfl (fun h4 => ?_) (fun h4 => ?_)
        ·
          have e5 : alB (fun i => decide (tB T (stS' T p + i) = w15.getD i 0)) 3 = false := by
            refine Bool.eq_false_iff.mpr (fun w => ?_)
            have := b2i_0 h4
            rw [al_t.mpr (fun k hk => al_t.mp w k (by omega))] at this
            cases this
          rw [show isWd T p w15 = false from by unfold isWd; rw [show w15.length = 3 from rfl, e5, Bool.and_false, Bool.and_false]] at hQ
          rw [b2i_0 h4]
          refine lm_G_sg 1 (pc' := 83) (L' := [some (.ref 64), some (.ref 1015), some (.int (b2i false)), some (.int (nI j))]) (S' := [.int (b2i false)]) (σ' := lm_T M v G) rfl trivial ?_
          exact lm_G_re rfl (b2i_01 _) (Nat.zero_le _) (Nat.zero_le _) hQ
        ·
          have e4 := b2i_1 h4
          refine lm_G_sg 3 (pc' := 48) (L' := [some (.ref 64), some (.ref 1015), some (.int (b2i (alB (fun i => decide (tB T (stS' T p + i) = w15.getD i 0)) j))), some (.int (nI j))]) (S' := [.int (Int32.ofNat 3), .int (nI j)]) (σ' := lm_T M v G) rfl ⟨trivial, (Nat.le_of_ble_eq_true rfl), trivial⟩ ?_
          refine lm_G_br (b := (Int32.ofNat 3) ≤ (nI j)) (t := 82) (S' := []) rfl (fun hc => absurd hc (nI_ge (b := 3) hj (by omega))) (fun hc => ?_)
          refine lm_G_sg 3 (pc' := 56) (L' := [some (.ref 64), some (.ref 1015), some (.int (b2i (alB (fun i => decide (tB T (stS' T p + i) = w15.getD i 0)) j))), some (.int (nI j))]) (S' := [.int ((lm_wz 15).getD (nI j).toNatClampNeg 0)]) (σ' := lm_T M v G) rfl ⟨(show vp_in _ 3 from vp_in_nI (by omega) (by omega)), (Nat.le_of_ble_eq_true rfl), trivial⟩ ?_
          rw [nI_clamp (n := j) (by omega), v1]
          refine lm_G_sg 4 (pc' := 64) (L' := [some (.ref 64), some (.ref 1015), some (.int (b2i (alB (fun i => decide (tB T (stS' T p + i) = w15.getD i 0)) j))), some (.int (nI j))]) (S' := [.int (M 64 23), .ref 80, .int (nI (w15.getD j 0))]) (σ' := lm_T M v G) rfl trivial ?_
          rw [show M 64 23 = nI (stS' T p) from h23]
          refine lm_G_sg 2 (pc' := 66) (L' := [some (.ref 64), some (.ref 1015), some (.int (b2i (alB (fun i => decide (tB T (stS' T p + i) = w15.getD i 0)) j))), some (.int (nI j))]) (S' := [.int ((nI (stS' T p)) + (nI j)), .ref 80, .int (nI (w15.getD j 0))]) (σ' := lm_T M v G) rfl trivial ?_
          rw [show (nI (stS' T p)) + (nI j) = nI ((stS' T p) + j) from nI_add (stS' T p) j]
          refine lm_G_sg 1 (pc' := 67) (L' := [some (.ref 64), some (.ref 1015), some (.int (b2i (alB (fun i => decide (tB T (stS' T p + i) = w15.getD i 0)) j))), some (.int (nI j))]) (S' := [.int (M 80 (nI ((stS' T p) + j)).toNatClampNeg), .int (nI (w15.getD j 0))]) (σ' := lm_T M v G) rfl ⟨(vp_in_nI (by omega) (by omega)), trivial, trivial⟩ ?_
          rw [show (nI ((stS' T p) + j)).toNatClampNeg = ((stS' T p) + j) from nI_clamp (by omega)]
          rw [show M 80 ((stS' T p) + j) = nI (tB T ((stS' T p) + j)) from hr.2 ((stS' T p) + j) (by omega)]
          refine lm_G_br (b := ¬ (nI (w15.getD j 0)) = (nI (tB T ((stS' T p) + j)))) (t := 74) (S' := []) rfl (fun h5 => ?_) (fun h5 => ?_)
          ·
            refine lm_G_sg 3 (pc' := 79) (L' := [some (.ref 64), some (.ref 1015), some (.int 0), some (.int ((nI j) + 1))]) (S' := []) (σ' := lm_T M v G) rfl trivial ?_
            rw [nI_1]
            refine lm_G_sg 1 (pc' := 39) (L' := [some (.ref 64), some (.ref 1015), some (.int 0), some (.int (nI (j + 1)))]) (S' := []) (σ' := lm_T M v G) rfl trivial ?_
            have e5 : alB (fun i => decide (tB T (stS' T p + i) = w15.getD i 0)) (j + 1) = false := by
              simp only [alB]
              rw [decide_eq_false (fun w => h5 (by rw [w])), Bool.and_false]
            rw [e5] at ih
            exact ih  trivial
          ·
            refine lm_G_sg 4 (pc' := 79) (L' := [some (.ref 64), some (.ref 1015), some (.int 1), some (.int ((nI j) + 1))]) (S' := []) (σ' := lm_T M v G) rfl trivial ?_
            rw [nI_1]
            refine lm_G_sg 1 (pc' := 39) (L' := [some (.ref 64), some (.ref 1015), some (.int 1), some (.int (nI (j + 1)))]) (S' := []) (σ' := lm_T M v G) rfl trivial ?_
            have e5 : alB (fun i => decide (tB T (stS' T p + i) = w15.getD i 0)) (j + 1) = true := by
              simp only [alB]
              rw [e4, decide_eq_true ((nI_eq (by omega) (by omega)).mp (Classical.not_not.mp h5)).symm]
              rfl
            rw [e5] at ih
            exact ih  trivial
      ·
        replace hI : True := hI
        show lm_G X d 155 106 0 0 39 [some (.ref 64), some (.ref 1015), some (.int (b2i (alB (fun i => decide (tB T (stS' T p + i) = w15.getD i 0)) 3))), some (.int (nI 3))] [] (lm_T M v G) Q
        have ew : isWd T p w15 = alB (fun i => decide (tB T (stS' T p + i) = w15.getD i 0)) 3 := by
          unfold isWd
          rw [show w15.length = 3 from rfl, decide_eq_true k3, decide_eq_true l3]
          rfl
        rw [ew] at hQ
        refine lm_G_sg 1 (pc' := 40) (L' := [some (.ref 64), some (.ref 1015), some (.int (b2i (alB (fun i => decide (tB T (stS' T p + i) = w15.getD i 0)) 3))), some (.int (nI 3))]) (S' := [.int (b2i (alB (fun i => decide (tB T (stS' T p + i) = w15.getD i 0)) 3))]) (σ' := lm_T M v G) rfl trivial ?_
        refine lm_G_br (b := (b2i (alB (fun i => decide (tB T (stS' T p + i) = w15.getD i 0)) 3)) = 0) (t := 82) (S' := []) rfl (fun h4 => ?_) (fun h4 => ?_)
        ·
          refine lm_G_sg 1 (pc' := 83) (L' := [some (.ref 64), some (.ref 1015), some (.int (b2i (alB (fun i => decide (tB T (stS' T p + i) = w15.getD i 0)) 3))), some (.int (nI 3))]) (S' := [.int (b2i (alB (fun i => decide (tB T (stS' T p + i) = w15.getD i 0)) 3))]) (σ' := lm_T M v G) rfl trivial ?_
          exact lm_G_re rfl (b2i_01 _) (Nat.zero_le _) (Nat.zero_le _) hQ
        ·
          refine lm_G_sg 3 (pc' := 48) (L' := [some (.ref 64), some (.ref 1015), some (.int (b2i (alB (fun i => decide (tB T (stS' T p + i) = w15.getD i 0)) 3))), some (.int (nI 3))]) (S' := [.int (Int32.ofNat 3), .int (nI 3)]) (σ' := lm_T M v G) rfl ⟨trivial, (Nat.le_of_ble_eq_true rfl), trivial⟩ ?_
          refine lm_G_br (b := (Int32.ofNat 3) ≤ (nI 3)) (t := 82) (S' := []) rfl (fun hc => ?_) (fun hc => absurd (nI_le (a := 3) (Nat.le_refl _) (by omega)) hc)
          refine lm_G_sg 1 (pc' := 83) (L' := [some (.ref 64), some (.ref 1015), some (.int (b2i (alB (fun i => decide (tB T (stS' T p + i) = w15.getD i 0)) 3))), some (.int (nI 3))]) (S' := [.int (b2i (alB (fun i => decide (tB T (stS' T p + i) = w15.getD i 0)) 3))]) (σ' := lm_T M v G) rfl trivial ?_
          exact lm_G_re rfl (b2i_01 _) (Nat.zero_le _) (Nat.zero_le _) hQ
      ·
        trivial
set_option maxRecDepth 10000 in
theorem m_isB15 {X : lm_X} {d v : Nat} {M : Nat → Nat → Int32} {G : Nat → Nat → Int64} {Q : lm_O → lm_S → Prop} (hb : ¬ M 64 25 = 0) (hQ : Q (.inl (some (.int 0))) (lm_T M v G)) : lm_Q X d 155 [.ref 64, .ref 1015] (lm_T M v G) Q := by
  show lm_G X d 155 106 0 0 0 [some (.ref 64), some (.ref 1015), none, none] [] (lm_T M v G) Q
  refine lm_G_sg 2 (pc' := 4) (L' := [some (.ref 64), some (.ref 1015), none, none]) (S' := [.int (M 64 25)]) (σ' := lm_T M v G) rfl trivial ?_
  refine lm_G_br (b := ¬ (M 64 25) = 0) (t := 35) (S' := []) rfl (fun hc => ?_) (fun hc => absurd (Classical.not_not.mp hc) hb)
  refine lm_G_sg 5 (pc' := 40) (L' := [some (.ref 64), some (.ref 1015), some (.int 0), some (.int 0)]) (S' := [.int 0]) (σ' := lm_T M v G) rfl trivial ?_
  refine lm_G_br (b := 0 = 0) (t := 82) (S' := []) rfl (fun hc => ?_) (fun hc => absurd rfl hc)
  refine lm_G_sg 1 (pc' := 83) (L' := [some (.ref 64), some (.ref 1015), some (.int 0), some (.int 0)]) (S' := [.int 0]) (σ' := lm_T M v G) rfl trivial ?_
  exact lm_G_re rfl (by decide) (Nat.zero_le _) (Nat.zero_le _) hQ
set_option maxRecDepth 10000 in
theorem m_is16 {X : lm_X} {d v : Nat} {M : Nat → Nat → Int32} {G : Nat → Nat → Int64} {Q : lm_O → lm_S → Prop} {T : Tx} {p : Nat} (hT : okT T) (hp : p ≤ tN T) (hg : GM M T p) (hQ : Q (.inl (some (.int (b2i (isWd T p w16))))) (lm_T M v G)) : lm_Q X d 155 [.ref 64, .ref 1016] (lm_T M v G) Q := by
  have hn := hT.1
  have kl := kn_le (T := T) (p := p)
  obtain ⟨el1, el2, el3⟩ := en_le hp
  obtain ⟨⟨hr, h21, h23, h24, h19, h22⟩, h25⟩ := hg
  show lm_G X d 155 106 0 0 0 [some (.ref 64), some (.ref 1016), none, none] [] (lm_T M v G) Q
  have tl := tk_le (T := T) (p := p)
  refine lm_G_sg 2 (pc' := 4) (L' := [some (.ref 64), some (.ref 1016), none, none]) (S' := [.int (M 64 25)]) (σ' := lm_T M v G) rfl trivial ?_
  rw [show M 64 25 = 0 from h25]
  refine lm_G_br (b := ¬ 0 = 0) (t := 35) (S' := []) rfl (fun hc => absurd rfl hc) (fun hc => ?_)
  refine lm_G_sg 2 (pc' := 11) (L' := [some (.ref 64), some (.ref 1016), none, none]) (S' := [.int (M 64 21)]) (σ' := lm_T M v G) rfl trivial ?_
  rw [show M 64 21 = nI (tkS T p) from h21]
  refine lm_G_sg 1 (pc' := 12) (L' := [some (.ref 64), some (.ref 1016), none, none]) (S' := [.int 1, .int (nI (tkS T p))]) (σ' := lm_T M v G) rfl trivial ?_
  refine lm_G_br (b := ¬ (nI (tkS T p)) = 1) (t := 35) (S' := []) rfl (fun h1 => ?_) (fun h1 => ?_)
  ·
    have k3 : ¬ knS T p = 1 := fun w => h1 (by rw [tk_1.mpr w]; rfl)
    rw [show isWd T p w16 = false from by unfold isWd; rw [decide_eq_false k3]; rfl] at hQ
    refine lm_G_sg 5 (pc' := 40) (L' := [some (.ref 64), some (.ref 1016), some (.int 0), some (.int 0)]) (S' := [.int 0]) (σ' := lm_T M v G) rfl trivial ?_
    refine lm_G_br (b := 0 = 0) (t := 82) (S' := []) rfl (fun h2 => ?_) (fun h2 => absurd rfl h2)
    refine lm_G_sg 1 (pc' := 83) (L' := [some (.ref 64), some (.ref 1016), some (.int 0), some (.int 0)]) (S' := [.int 0]) (σ' := lm_T M v G) rfl trivial ?_
    exact lm_G_re rfl (by decide) (Nat.zero_le _) (Nat.zero_le _) hQ
  ·
    have k3 : knS T p = 1 := tk_1.mp ((nI_eq (b := 1) (by omega) (by omega)).mp (Classical.not_not.mp h1))
    refine lm_G_sg 4 (pc' := 23) (L' := [some (.ref 64), some (.ref 1016), none, none]) (S' := [.int (M 64 24), .int (Int32.ofNat 5)]) (σ' := lm_T M v G) rfl ⟨trivial, (Nat.le_of_ble_eq_true rfl), trivial⟩ ?_
    rw [show M 64 24 = nI (enS T p) from h24]
    refine lm_G_sg 2 (pc' := 27) (L' := [some (.ref 64), some (.ref 1016), none, none]) (S' := [.int (M 64 23), .int (nI (enS T p)), .int (Int32.ofNat 5)]) (σ' := lm_T M v G) rfl trivial ?_
    rw [show M 64 23 = nI (stS' T p) from h23]
    refine lm_G_sg 1 (pc' := 28) (L' := [some (.ref 64), some (.ref 1016), none, none]) (S' := [.int ((nI (enS T p)) - (nI (stS' T p))), .int (Int32.ofNat 5)]) (σ' := lm_T M v G) rfl trivial ?_
    rw [show (nI (enS T p)) - (nI (stS' T p)) = nI (lnS T p) from nI_sub (by omega)]
    have ll : lnS T p ≤ 700 := by unfold lnS; omega
    refine lm_G_br (b := ¬ (Int32.ofNat 5) = (nI (lnS T p))) (t := 35) (S' := []) rfl (fun h2 => ?_) (fun h2 => ?_)
    ·
      have l3 : ¬ lnS T p = w16.length := fun w => h2 (by rw [w]; rfl)
      rw [show isWd T p w16 = false from by unfold isWd; rw [decide_eq_false l3, Bool.false_and, Bool.and_false]] at hQ
      refine lm_G_sg 5 (pc' := 40) (L' := [some (.ref 64), some (.ref 1016), some (.int 0), some (.int 0)]) (S' := [.int 0]) (σ' := lm_T M v G) rfl trivial ?_
      refine lm_G_br (b := 0 = 0) (t := 82) (S' := []) rfl (fun h3 => ?_) (fun h3 => absurd rfl h3)
      refine lm_G_sg 1 (pc' := 83) (L' := [some (.ref 64), some (.ref 1016), some (.int 0), some (.int 0)]) (S' := [.int 0]) (σ' := lm_T M v G) rfl trivial ?_
      exact lm_G_re rfl (by decide) (Nat.zero_le _) (Nat.zero_le _) hQ
    ·
      have l3 : lnS T p = 5 := ((nI_eq (a := 5) (by omega) (by omega)).mp (Classical.not_not.mp h2)).symm
      have le3 : enS T p - stS' T p = 5 := l3
      refine lm_G_sg 5 (pc' := 39) (L' := [some (.ref 64), some (.ref 1016), some (.int 1), some (.int 0)]) (S' := []) (σ' := lm_T M v G) rfl trivial ?_
      suffices hx : lm_G X d 155 106 0 0 39 [some (.ref 64), some (.ref 1016), some (.int (b2i (alB (fun i => decide (tB T (stS' T p + i) = w16.getD i 0)) 0))), some (.int 0)] [] (lm_T M v G) Q from hx
      refine lm_ind (α := Unit) (St := fun (j : Nat) zz => lm_G X d 155 106 0 0 39 [some (.ref 64), some (.ref 1016), some (.int (b2i (alB (fun i => decide (tB T (stS' T p + i) = w16.getD i 0)) j))), some (.int (nI j))] [] (lm_T M v G) Q) (Inv := fun (j : Nat) zz => True) (5) (fun j zz hj hI ih => ?_) (fun zz hI => ?_) (0) () (by omega) ?_
      ·
        replace hI : True := hI
        replace ih : ∀ (_ : True), lm_G X d 155 106 0 0 39 [some (.ref 64), some (.ref 1016), some (.int (b2i (alB (fun i => decide (tB T (stS' T p + i) = w16.getD i 0)) (j + 1)))), some (.int (nI (j + 1)))] [] (lm_T M v G) Q := fun q => ih () q
        show lm_G X d 155 106 0 0 39 [some (.ref 64), some (.ref 1016), some (.int (b2i (alB (fun i => decide (tB T (stS' T p + i) = w16.getD i 0)) j))), some (.int (nI j))] [] (lm_T M v G) Q
        have hbb := hT.2 (stS' T p + j) (by omega)
        obtain ⟨v1, v2⟩ := w16_ok j hj
        refine lm_G_sg 1 (pc' := 40) (L' := [some (.ref 64), some (.ref 1016), some (.int (b2i (alB (fun i => decide (tB T (stS' T p + i) = w16.getD i 0)) j))), some (.int (nI j))]) (S' := [.int (b2i (alB (fun i => decide (tB T (stS' T p + i) = w16.getD i 0)) j))]) (σ' := lm_T M v G) rfl trivial ?_
        refine lm_G_br (b := (b2i (alB (fun i => decide (tB T (stS' T p + i) = w16.getD i 0)) j)) = 0) (t := 82) (S' := []) rfl (fun h4 => ?_) (fun h4 => ?_)
        ·
          have e5 : alB (fun i => decide (tB T (stS' T p + i) = w16.getD i 0)) 5 = false := by
            refine Bool.eq_false_iff.mpr (fun w => ?_)
            have := b2i_0 h4
            rw [al_t.mpr (fun k hk => al_t.mp w k (by omega))] at this
            cases this
          rw [show isWd T p w16 = false from by unfold isWd; rw [show w16.length = 5 from rfl, e5, Bool.and_false, Bool.and_false]] at hQ
          rw [b2i_0 h4]
          refine lm_G_sg 1 (pc' := 83) (L' := [some (.ref 64), some (.ref 1016), some (.int (b2i false)), some (.int (nI j))]) (S' := [.int (b2i false)]) (σ' := lm_T M v G) rfl trivial ?_
          exact lm_G_re rfl (b2i_01 _) (Nat.zero_le _) (Nat.zero_le _) hQ
        ·
          have e4 := b2i_1 h4
          refine lm_G_sg 3 (pc' := 48) (L' := [some (.ref 64), some (.ref 1016), some (.int (b2i (alB (fun i => decide (tB T (stS' T p + i) = w16.getD i 0)) j))), some (.int (nI j))]) (S' := [.int (Int32.ofNat 5), .int (nI j)]) (σ' := lm_T M v G) rfl ⟨trivial, (Nat.le_of_ble_eq_true rfl), trivial⟩ ?_
          refine lm_G_br (b := (Int32.ofNat 5) ≤ (nI j)) (t := 82) (S' := []) rfl (fun hc => absurd hc (nI_ge (b := 5) hj (by omega))) (fun hc => ?_)
          refine lm_G_sg 3 (pc' := 56) (L' := [some (.ref 64), some (.ref 1016), some (.int (b2i (alB (fun i => decide (tB T (stS' T p + i) = w16.getD i 0)) j))), some (.int (nI j))]) (S' := [.int ((lm_wz 16).getD (nI j).toNatClampNeg 0)]) (σ' := lm_T M v G) rfl ⟨(show vp_in _ 5 from vp_in_nI (by omega) (by omega)), (Nat.le_of_ble_eq_true rfl), trivial⟩ ?_
          rw [nI_clamp (n := j) (by omega), v1]
          refine lm_G_sg 4 (pc' := 64) (L' := [some (.ref 64), some (.ref 1016), some (.int (b2i (alB (fun i => decide (tB T (stS' T p + i) = w16.getD i 0)) j))), some (.int (nI j))]) (S' := [.int (M 64 23), .ref 80, .int (nI (w16.getD j 0))]) (σ' := lm_T M v G) rfl trivial ?_
          rw [show M 64 23 = nI (stS' T p) from h23]
          refine lm_G_sg 2 (pc' := 66) (L' := [some (.ref 64), some (.ref 1016), some (.int (b2i (alB (fun i => decide (tB T (stS' T p + i) = w16.getD i 0)) j))), some (.int (nI j))]) (S' := [.int ((nI (stS' T p)) + (nI j)), .ref 80, .int (nI (w16.getD j 0))]) (σ' := lm_T M v G) rfl trivial ?_
          rw [show (nI (stS' T p)) + (nI j) = nI ((stS' T p) + j) from nI_add (stS' T p) j]
          refine lm_G_sg 1 (pc' := 67) (L' := [some (.ref 64), some (.ref 1016), some (.int (b2i (alB (fun i => decide (tB T (stS' T p + i) = w16.getD i 0)) j))), some (.int (nI j))]) (S' := [.int (M 80 (nI ((stS' T p) + j)).toNatClampNeg), .int (nI (w16.getD j 0))]) (σ' := lm_T M v G) rfl ⟨(vp_in_nI (by omega) (by omega)), trivial, trivial⟩ ?_
          rw [show (nI ((stS' T p) + j)).toNatClampNeg = ((stS' T p) + j) from nI_clamp (by omega)]
          rw [show M 80 ((stS' T p) + j) = nI (tB T ((stS' T p) + j)) from hr.2 ((stS' T p) + j) (by omega)]
          refine lm_G_br (b := ¬ (nI (w16.getD j 0)) = (nI (tB T ((stS' T p) + j)))) (t := 74) (S' := []) rfl (fun h5 => ?_) (fun h5 => ?_)
          ·
            refine lm_G_sg 3 (pc' := 79) (L' := [some (.ref 64), some (.ref 1016), some (.int 0), some (.int ((nI j) + 1))]) (S' := []) (σ' := lm_T M v G) rfl trivial ?_
            rw [nI_1]
            refine lm_G_sg 1 (pc' := 39) (L' := [some (.ref 64), some (.ref 1016), some (.int 0), some (.int (nI (j + 1)))]) (S' := []) (σ' := lm_T M v G) rfl trivial ?_
            have e5 : alB (fun i => decide (tB T (stS' T p + i) = w16.getD i 0)) (j + 1) = false := by
              simp only [alB]
              rw [decide_eq_false (fun w => h5 (by rw [w])), Bool.and_false]
            rw [e5] at ih
            exact ih  trivial
          ·
            refine lm_G_sg 4 (pc' := 79) (L' := [some (.ref 64), some (.ref 1016), some (.int 1), some (.int ((nI j) + 1))]) (S' := []) (σ' := lm_T M v G) rfl trivial ?_
            rw [nI_1]
            refine lm_G_sg 1 (pc' := 39) (L' := [some (.ref 64), some (.ref 1016), some (.int 1), some (.int (nI (j + 1)))]) (S' := []) (σ' := lm_T M v G) rfl trivial ?_
            have e5 : alB (fun i => decide (tB T (stS' T p + i) = w16.getD i 0)) (j + 1) = true := by
              simp only [alB]
              rw [e4, decide_eq_true ((nI_eq (by omega) (by omega)).mp (Classical.not_not.mp h5)).symm]
              rfl
            rw [e5] at ih
            exact ih  trivial
      ·
        replace hI : True := hI
        show lm_G X d 155 106 0 0 39 [some (.ref 64), some (.ref 1016), some (.int (b2i (alB (fun i => decide (tB T (stS' T p + i) = w16.getD i 0)) 5))), some (.int (nI 5))] [] (lm_T M v G) Q
        have ew : isWd T p w16 = alB (fun i => decide (tB T (stS' T p + i) = w16.getD i 0)) 5 := by
          unfold isWd
          rw [show w16.length = 5 from rfl, decide_eq_true k3, decide_eq_true l3]
          rfl
        rw [ew] at hQ
        refine lm_G_sg 1 (pc' := 40) (L' := [some (.ref 64), some (.ref 1016), some (.int (b2i (alB (fun i => decide (tB T (stS' T p + i) = w16.getD i 0)) 5))), some (.int (nI 5))]) (S' := [.int (b2i (alB (fun i => decide (tB T (stS' T p + i) = w16.getD i 0)) 5))]) (σ' := lm_T M v G) rfl trivial ?_
        refine lm_G_br (b := (b2i (alB (fun i => decide (tB T (stS' T p + i) = w16.getD i 0)) 5)) = 0) (t := 82) (S' := []) rfl (fun h4 => ?_) (fun h4 => ?_)
        ·
          refine lm_G_sg 1 (pc' := 83) (L' := [some (.ref 64), some (.ref 1016), some (.int (b2i (alB (fun i => decide (tB T (stS' T p + i) = w16.getD i 0)) 5))), some (.int (nI 5))]) (S' := [.int (b2i (alB (fun i => decide (tB T (stS' T p + i) = w16.getD i 0)) 5))]) (σ' := lm_T M v G) rfl trivial ?_
          exact lm_G_re rfl (b2i_01 _) (Nat.zero_le _) (Nat.zero_le _) hQ
        ·
          refine lm_G_sg 3 (pc' := 48) (L' := [some (.ref 64), some (.ref 1016), some (.int (b2i (alB (fun i => decide (tB T (stS' T p + i) = w16.getD i 0)) 5))), some (.int (nI 5))]) (S' := [.int (Int32.ofNat 5), .int (nI 5)]) (σ' := lm_T M v G) rfl ⟨trivial, (Nat.le_of_ble_eq_true rfl), trivial⟩ ?_
          refine lm_G_br (b := (Int32.ofNat 5) ≤ (nI 5)) (t := 82) (S' := []) rfl (fun hc => ?_) (fun hc => absurd (nI_le (a := 5) (Nat.le_refl _) (by omega)) hc)
          refine lm_G_sg 1 (pc' := 83) (L' := [some (.ref 64), some (.ref 1016), some (.int (b2i (alB (fun i => decide (tB T (stS' T p + i) = w16.getD i 0)) 5))), some (.int (nI 5))]) (S' := [.int (b2i (alB (fun i => decide (tB T (stS' T p + i) = w16.getD i 0)) 5))]) (σ' := lm_T M v G) rfl trivial ?_
          exact lm_G_re rfl (b2i_01 _) (Nat.zero_le _) (Nat.zero_le _) hQ
      ·
        trivial
set_option maxRecDepth 10000 in
theorem m_isMarked {X : lm_X} {d v : Nat} {M : Nat → Nat → Int32} {G : Nat → Nat → Int64} {Q : lm_O → lm_S → Prop} {T : Tx} {p c : Nat} (hT : okT T) (hp : p ≤ tN T) (hg : GM M T p) (hc : mkS c = true) (hc2 : c < 128) (hQ : Q (.inl (some (.int (b2i (isSg T p c))))) (lm_T M v G)) : lm_Q X d 157 [.ref 64, .int (nI c)] (lm_T M v G) Q := by
  have hn := hT.1
  have kl := kn_le (T := T) (p := p)
  obtain ⟨el1, el2, el3⟩ := en_le hp
  obtain ⟨⟨hr, h21, h23, h24, h19, h22⟩, h25⟩ := hg
  show lm_G X d 157 106 0 0 0 [some (.ref 64), some (.int (nI c))] [] (lm_T M v G) Q
  have tl := tk_le (T := T) (p := p)
  rw [tk_3 hc] at hQ
  refine lm_G_sg 2 (pc' := 4) (L' := [some (.ref 64), some (.int (nI c))]) (S' := [.int (M 64 25)]) (σ' := lm_T M v G) rfl trivial ?_
  rw [show M 64 25 = 0 from h25]
  refine lm_G_br (b := ¬ 0 = 0) (t := 32) (S' := []) rfl (fun hc1 => absurd rfl hc1) (fun hc1 => ?_)
  refine lm_G_sg 2 (pc' := 11) (L' := [some (.ref 64), some (.int (nI c))]) (S' := [.int (M 64 21)]) (σ' := lm_T M v G) rfl trivial ?_
  rw [show M 64 21 = nI (tkS T p) from h21]
  refine lm_G_sg 1 (pc' := 12) (L' := [some (.ref 64), some (.int (nI c))]) (S' := [.int 3, .int (nI (tkS T p))]) (σ' := lm_T M v G) rfl trivial ?_
  refine lm_G_br (b := ¬ (nI (tkS T p)) = 3) (t := 32) (S' := []) rfl (fun h1 => ?_) (fun h1 => ?_)
  ·
    rw [decide_eq_false (fun w => h1 (by rw [w]; rfl))] at hQ
    refine lm_G_sg 1 (pc' := 33) (L' := [some (.ref 64), some (.int (nI c))]) (S' := [.int 0]) (σ' := lm_T M v G) rfl trivial ?_
    exact lm_G_re rfl (by decide) (Nat.zero_le _) (Nat.zero_le _) hQ
  ·
    have t3 : tkS T p = 3 := (nI_eq (b := 3) (by omega) (by omega)).mp (Classical.not_not.mp h1)
    have k3 : knS T p = 3 := by
      unfold tkS at t3
      by_cases w : knS T p = 3
      · exact w
      · rw [if_neg w] at t3; exact t3
    have hl := (el3 (by omega)).2
    have hbb := hT.2 _ hl
    refine lm_G_sg 4 (pc' := 23) (L' := [some (.ref 64), some (.int (nI c))]) (S' := [.int (M 64 23), .ref 80]) (σ' := lm_T M v G) rfl trivial ?_
    rw [show M 64 23 = nI (stS' T p) from h23]
    refine lm_G_sg 1 (pc' := 24) (L' := [some (.ref 64), some (.int (nI c))]) (S' := [.int (M 80 (nI (stS' T p)).toNatClampNeg)]) (σ' := lm_T M v G) rfl ⟨(vp_in_nI (by omega) (by omega)), trivial, trivial⟩ ?_
    rw [show (nI (stS' T p)).toNatClampNeg = (stS' T p) from nI_clamp (by omega)]
    rw [show M 80 (stS' T p) = nI (tB T (stS' T p)) from hr.2 (stS' T p) (by omega)]
    refine lm_G_sg 1 (pc' := 25) (L' := [some (.ref 64), some (.int (nI c))]) (S' := [.int (nI c), .int (nI (tB T (stS' T p)))]) (σ' := lm_T M v G) rfl trivial ?_
    refine lm_G_br (b := ¬ (nI (tB T (stS' T p))) = (nI c)) (t := 32) (S' := []) rfl (fun h2 => ?_) (fun h2 => ?_)
    ·
      rw [decide_eq_false (p := tB T (stS' T p) = c) (fun w => h2 (by rw [w])), Bool.and_false] at hQ
      refine lm_G_sg 1 (pc' := 33) (L' := [some (.ref 64), some (.int (nI c))]) (S' := [.int 0]) (σ' := lm_T M v G) rfl trivial ?_
      exact lm_G_re rfl (by decide) (Nat.zero_le _) (Nat.zero_le _) hQ
    ·
      rw [decide_eq_true t3, decide_eq_true ((nI_eq (by omega) (by omega)).mp (Classical.not_not.mp h2))] at hQ
      refine lm_G_sg 2 (pc' := 33) (L' := [some (.ref 64), some (.int (nI c))]) (S' := [.int 1]) (σ' := lm_T M v G) rfl trivial ?_
      exact lm_G_re rfl (by decide) (Nat.zero_le _) (Nat.zero_le _) hQ
set_option maxRecDepth 10000 in
theorem m_isMarkedB {X : lm_X} {d v : Nat} {M : Nat → Nat → Int32} {G : Nat → Nat → Int64} {Q : lm_O → lm_S → Prop} {c : Nat} (hb : ¬ M 64 25 = 0) (hQ : Q (.inl (some (.int 0))) (lm_T M v G)) : lm_Q X d 157 [.ref 64, .int (nI c)] (lm_T M v G) Q := by
  show lm_G X d 157 106 0 0 0 [some (.ref 64), some (.int (nI c))] [] (lm_T M v G) Q
  refine lm_G_sg 2 (pc' := 4) (L' := [some (.ref 64), some (.int (nI c))]) (S' := [.int (M 64 25)]) (σ' := lm_T M v G) rfl trivial ?_
  refine lm_G_br (b := ¬ (M 64 25) = 0) (t := 32) (S' := []) rfl (fun hc => ?_) (fun hc => absurd (Classical.not_not.mp hc) hb)
  refine lm_G_sg 1 (pc' := 33) (L' := [some (.ref 64), some (.int (nI c))]) (S' := [.int 0]) (σ' := lm_T M v G) rfl trivial ?_
  exact lm_G_re rfl (by decide) (Nat.zero_le _) (Nat.zero_le _) hQ
set_option maxRecDepth 10000 in
theorem m_mark {X : lm_X} {d v : Nat} {M : Nat → Nat → Int32} {G : Nat → Nat → Int64} {Q : lm_O → lm_S → Prop} {T : Tx} {p c : Nat} (hT : okT T) (hp : p ≤ tN T) (hg : GM M T p) (hc : mkS c = true) (hc2 : c < 128) (hQ : (isSg T p c = true → ∀ M1, GM M1 T (enS T p) → FrK M M1 → Q (.inl none) (lm_T M1 v G)) ∧ (isSg T p c = false → ∀ M1, BM M1 1 (stS' T p) → FrP M M1 → Q (.inl none) (lm_T M1 v G))) : lm_Q X (d + 2) 158 [.ref 64, .int (nI c)] (lm_T M v G) Q := by
  show lm_G X (d + 2) 158 106 0 0 0 [some (.ref 64), some (.int (nI c))] [] (lm_T M v G) Q
  have hn := hT.1
  obtain ⟨el1, el2, el3⟩ := en_le hp
  refine lm_G_sg 2 (pc' := 4) (L' := [some (.ref 64), some (.int (nI c))]) (S' := [.int (M 64 25)]) (σ' := lm_T M v G) rfl trivial ?_
  rw [show M 64 25 = 0 from hg.2]
  refine lm_G_br (b := ¬ 0 = 0) (t := 20) (S' := []) rfl (fun h1 => absurd rfl h1) (fun h1 => ?_)
  refine lm_G_sg 2 (pc' := 9) (L' := [some (.ref 64), some (.int (nI c))]) (S' := [.int (nI c), .ref 64]) (σ' := lm_T M v G) rfl trivial ?_
  refine lm_G_ca (j := 157) (as := [.ref 64, .int (nI c)]) (rest := []) rfl (Or.inl rfl) (Nat.le_of_ble_eq_true rfl) (Nat.le_of_ble_eq_true rfl) (Nat.le_of_ble_eq_true rfl) (Nat.le_of_ble_eq_true rfl) rfl ?_
  refine m_isMarked hT hp hg hc hc2 ?_
  show lm_G X (d + 2) 158 106 0 0 12 [some (.ref 64), some (.int (nI c))] [.int (b2i (isSg T p c))] (lm_T M v G) Q
  refine lm_G_br (b := ¬ (b2i (isSg T p c)) = 0) (t := 20) (S' := []) rfl (fun h2 => ?_) (fun h2 => ?_)
  ·
    refine lm_G_sg 2 (pc' := 24) (L' := [some (.ref 64), some (.int (nI c))]) (S' := [.int (M 64 25)]) (σ' := lm_T M v G) rfl trivial ?_
    rw [show M 64 25 = 0 from hg.2]
    refine lm_G_br (b := ¬ 0 = 0) (t := 31) (S' := []) rfl (fun h3 => absurd rfl h3) (fun h3 => ?_)
    refine lm_G_sg 1 (pc' := 28) (L' := [some (.ref 64), some (.int (nI c))]) (S' := [.ref 64]) (σ' := lm_T M v G) rfl trivial ?_
    refine lm_G_ca (j := 153) (as := [.ref 64]) (rest := []) rfl (Or.inl rfl) (Nat.le_of_ble_eq_true rfl) (Nat.le_of_ble_eq_true rfl) (Nat.le_of_ble_eq_true rfl) (Nat.le_of_ble_eq_true rfl) rfl ?_
    refine m_stepOn (p := enS T p) hT hg.1.1 el2 hg.1.2.2.2.2.1 (fun M1 r1 k1 => ?_)
    show lm_G X (d + 2) 158 106 0 0 31 [some (.ref 64), some (.int (nI c))] [] (lm_T M1 v G) Q
    exact lm_G_re rfl trivial (Nat.zero_le _) (Nat.zero_le _) (hQ.1 (b2i_1 h2) _ ⟨r1, (k1.2 25 (by decide) (by decide) (by decide) (by decide) (by decide)).trans hg.2⟩ k1)
  ·
    refine lm_G_sg 2 (pc' := 17) (L' := [some (.ref 64), some (.int (nI c))]) (S' := [.int 1, .ref 64]) (σ' := lm_T M v G) rfl trivial ?_
    refine lm_G_ca (j := 154) (as := [.ref 64, .int 1]) (rest := []) rfl (Or.inl rfl) (Nat.le_of_ble_eq_true rfl) (Nat.le_of_ble_eq_true rfl) (Nat.le_of_ble_eq_true rfl) (Nat.le_of_ble_eq_true rfl) rfl ?_
    refine m_wrong hg.2 ?_
    show lm_G X (d + 2) 158 106 0 0 20 [some (.ref 64), some (.int (nI c))] [] (lm_T (lm_wr (lm_wr M 64 25 1) 64 26 (M 64 23)) v G) Q
    refine lm_G_sg 2 (pc' := 24) (L' := [some (.ref 64), some (.int (nI c))]) (S' := [.int 1]) (σ' := lm_T (lm_wr (lm_wr M 64 25 1) 64 26 (M 64 23)) v G) rfl trivial ?_
    refine lm_G_br (b := ¬ 1 = 0) (t := 31) (S' := []) rfl (fun h3 => ?_) (fun h3 => absurd (Classical.not_not.mp h3) (by decide))
    exact lm_G_re rfl trivial (Nat.zero_le _) (Nat.zero_le _) (hQ.2 (b2i_0 (Classical.not_not.mp h2)) _ ⟨rfl, hg.1.2.2.1⟩ (FrP_w64 (FrP_w64 (FrP_rf _) (by decide)) (by decide)))
set_option maxRecDepth 10000 in
theorem m_markB {X : lm_X} {d v : Nat} {M : Nat → Nat → Int32} {G : Nat → Nat → Int64} {Q : lm_O → lm_S → Prop} {c : Nat} (hb : ¬ M 64 25 = 0) (hQ : Q (.inl none) (lm_T M v G)) : lm_Q X (d + 2) 158 [.ref 64, .int (nI c)] (lm_T M v G) Q := by
  show lm_G X (d + 2) 158 106 0 0 0 [some (.ref 64), some (.int (nI c))] [] (lm_T M v G) Q
  refine lm_G_sg 2 (pc' := 4) (L' := [some (.ref 64), some (.int (nI c))]) (S' := [.int (M 64 25)]) (σ' := lm_T M v G) rfl trivial ?_
  refine lm_G_br (b := ¬ (M 64 25) = 0) (t := 20) (S' := []) rfl (fun hc => ?_) (fun hc => absurd (Classical.not_not.mp hc) hb)
  refine lm_G_sg 2 (pc' := 24) (L' := [some (.ref 64), some (.int (nI c))]) (S' := [.int (M 64 25)]) (σ' := lm_T M v G) rfl trivial ?_
  refine lm_G_br (b := ¬ (M 64 25) = 0) (t := 31) (S' := []) rfl (fun hc => ?_) (fun hc => absurd (Classical.not_not.mp hc) hb)
  exact lm_G_re rfl trivial (Nat.zero_le _) (Nat.zero_le _) hQ
def qN (M : Nat → Fn) (v : Nat) (G : Nat → Nat → Int64) (Q : lm_O → lm_S → Prop) (a : Nat) (r : Nat ⊕ Nat) : Prop := match r with
  | .inl x => Q (.inl (some (.int (nI x)))) (lm_T M v G)
  | .inr f => ∀ M1, BM M1 f a → FrP M M1 → Q (.inl (some (.int 0))) (lm_T M1 v G)
set_option maxRecDepth 10000 in
theorem m_numberNow {X : lm_X} {d v : Nat} {M : Nat → Nat → Int32} {G : Nat → Nat → Int64} {Q : lm_O → lm_S → Prop} {T : Tx} {p lo hi : Nat} (hT : okT T) (hp : p ≤ tN T) (hg : GM M T p) (hlo : lo ≤ 9999) (hhi : hi ≤ 9999) (hQ : qN M v G Q (stS' T p) (rdN T p lo hi)) : lm_Q X (d + 1) 159 [.ref 64, .int (nI lo), .int (nI hi)] (lm_T M v G) Q := by
  have hn := hT.1
  have kl := kn_le (T := T) (p := p)
  obtain ⟨el1, el2, el3⟩ := en_le hp
  obtain ⟨⟨hr, h21, h23, h24, h19, h22⟩, h25⟩ := hg
  show lm_G X (d + 1) 159 106 0 0 0 [some (.ref 64), some (.int (nI lo)), some (.int (nI hi))] [] (lm_T M v G) Q
  have tl := tk_le (T := T) (p := p)
  refine lm_G_sg 2 (pc' := 4) (L' := [some (.ref 64), some (.int (nI lo)), some (.int (nI hi))]) (S' := [.int (M 64 25)]) (σ' := lm_T M v G) rfl trivial ?_
  rw [show M 64 25 = 0 from h25]
  refine lm_G_br (b := 0 = 0) (t := 9) (S' := []) rfl (fun h1 => ?_) (fun h1 => absurd rfl h1)
  refine lm_G_sg 2 (pc' := 13) (L' := [some (.ref 64), some (.int (nI lo)), some (.int (nI hi))]) (S' := [.int (M 64 21)]) (σ' := lm_T M v G) rfl trivial ?_
  rw [show M 64 21 = nI (tkS T p) from h21]
  refine lm_G_sg 1 (pc' := 14) (L' := [some (.ref 64), some (.int (nI lo)), some (.int (nI hi))]) (S' := [.int 2, .int (nI (tkS T p))]) (σ' := lm_T M v G) rfl trivial ?_
  refine lm_G_br (b := (nI (tkS T p)) = 2) (t := 25) (S' := []) rfl (fun h2 => ?_) (fun h2 => ?_)
  rotate_left
  ·
    have k2 : ¬ knS T p = 2 := fun w => h2 (by rw [tk_2.mpr w]; rfl)
    refine lm_G_sg 2 (pc' := 19) (L' := [some (.ref 64), some (.int (nI lo)), some (.int (nI hi))]) (S' := [.int 1, .ref 64]) (σ' := lm_T M v G) rfl trivial ?_
    refine lm_G_ca (j := 154) (as := [.ref 64, .int 1]) (rest := []) rfl (Or.inl rfl) (Nat.le_of_ble_eq_true rfl) (Nat.le_of_ble_eq_true rfl) (Nat.le_of_ble_eq_true rfl) (Nat.le_of_ble_eq_true rfl) rfl ?_
    refine m_wrong h25 ?_
    show lm_G X (d + 1) 159 106 0 0 22 [some (.ref 64), some (.int (nI lo)), some (.int (nI hi))] [] (lm_T (lm_wr (lm_wr M 64 25 1) 64 26 (M 64 23)) v G) Q
    rw [show rdN T p lo hi = .inr 1 from if_neg k2] at hQ
    refine lm_G_sg 3 (pc' := 63) (L' := [some (.ref 64), some (.int (nI lo)), some (.int (nI hi))]) (S' := [.int 1]) (σ' := lm_T (lm_wr (lm_wr M 64 25 1) 64 26 (M 64 23)) v G) rfl trivial ?_
    refine lm_G_br (b := ¬ 1 = 0) (t := 73) (S' := []) rfl (fun h9 => ?_) (fun h9 => absurd (Classical.not_not.mp h9) (by decide))
    refine lm_G_sg 1 (pc' := 74) (L' := [some (.ref 64), some (.int (nI lo)), some (.int (nI hi))]) (S' := [.int 0]) (σ' := lm_T (lm_wr (lm_wr M 64 25 1) 64 26 (M 64 23)) v G) rfl trivial ?_
    exact lm_G_re rfl trivial (Nat.zero_le _) (Nat.zero_le _) (hQ _ ⟨rfl, h23⟩ (FrP_w64 (FrP_w64 (FrP_rf _) (by decide)) (by decide)))
  ·
    have k2 : knS T p = 2 := tk_2.mp ((nI_eq (b := 2) (by omega) (by omega)).mp h2)
    have ll : lnS T p ≤ 700 := by unfold lnS; omega
    refine lm_G_sg 2 (pc' := 29) (L' := [some (.ref 64), some (.int (nI lo)), some (.int (nI hi))]) (S' := [.int (M 64 24)]) (σ' := lm_T M v G) rfl trivial ?_
    rw [show M 64 24 = nI (enS T p) from h24]
    refine lm_G_sg 2 (pc' := 33) (L' := [some (.ref 64), some (.int (nI lo)), some (.int (nI hi))]) (S' := [.int (M 64 23), .int (nI (enS T p))]) (σ' := lm_T M v G) rfl trivial ?_
    rw [show M 64 23 = nI (stS' T p) from h23]
    refine lm_G_sg 1 (pc' := 34) (L' := [some (.ref 64), some (.int (nI lo)), some (.int (nI hi))]) (S' := [.int ((nI (enS T p)) - (nI (stS' T p)))]) (σ' := lm_T M v G) rfl trivial ?_
    rw [show (nI (enS T p)) - (nI (stS' T p)) = nI (lnS T p) from nI_sub (by omega)]
    refine lm_G_sg 1 (pc' := 35) (L' := [some (.ref 64), some (.int (nI lo)), some (.int (nI hi))]) (S' := [.int 4, .int (nI (lnS T p))]) (σ' := lm_T M v G) rfl trivial ?_
    refine lm_G_br (b := 4 < (nI (lnS T p))) (t := 54) (S' := []) rfl (fun h3 => ?_) (fun h3 => ?_)
    ·
      refine lm_G_sg 2 (pc' := 56) (L' := [some (.ref 64), some (.int (nI lo)), some (.int (nI hi))]) (S' := [.int 2, .ref 64]) (σ' := lm_T M v G) rfl trivial ?_
      refine lm_G_ca (j := 154) (as := [.ref 64, .int 2]) (rest := []) rfl (Or.inl rfl) (Nat.le_of_ble_eq_true rfl) (Nat.le_of_ble_eq_true rfl) (Nat.le_of_ble_eq_true rfl) (Nat.le_of_ble_eq_true rfl) rfl ?_
      refine m_wrong h25 ?_
      show lm_G X (d + 1) 159 106 0 0 59 [some (.ref 64), some (.int (nI lo)), some (.int (nI hi))] [] (lm_T (lm_wr (lm_wr M 64 25 2) 64 26 (M 64 23)) v G) Q
      rw [show rdN T p lo hi = .inr 2 from by unfold rdN; rw [if_pos k2, if_neg (fun w => nI_nlt (a := 4) w.1 (by omega) h3)]] at hQ
      refine lm_G_sg 2 (pc' := 63) (L' := [some (.ref 64), some (.int (nI lo)), some (.int (nI hi))]) (S' := [.int 2]) (σ' := lm_T (lm_wr (lm_wr M 64 25 2) 64 26 (M 64 23)) v G) rfl trivial ?_
      refine lm_G_br (b := ¬ 2 = 0) (t := 73) (S' := []) rfl (fun h9 => ?_) (fun h9 => absurd (Classical.not_not.mp h9) (by decide))
      refine lm_G_sg 1 (pc' := 74) (L' := [some (.ref 64), some (.int (nI lo)), some (.int (nI hi))]) (S' := [.int 0]) (σ' := lm_T (lm_wr (lm_wr M 64 25 2) 64 26 (M 64 23)) v G) rfl trivial ?_
      exact lm_G_re rfl trivial (Nat.zero_le _) (Nat.zero_le _) (hQ _ ⟨rfl, h23⟩ (FrP_w64 (FrP_w64 (FrP_rf _) (by decide)) (by decide)))
    ·
      have l4 : lnS T p ≤ 4 := Nat.le_of_not_lt (fun w => h3 (nI_lt (a := 4) w (by omega)))
      have n9 := nu_le k2 l4
      refine lm_G_sg 2 (pc' := 42) (L' := [some (.ref 64), some (.int (nI lo)), some (.int (nI hi))]) (S' := [.int (M 64 22)]) (σ' := lm_T M v G) rfl trivial ?_
      rw [show M 64 22 = nI (nuS T p) from h22 k2 l4]
      refine lm_G_sg 1 (pc' := 43) (L' := [some (.ref 64), some (.int (nI lo)), some (.int (nI hi))]) (S' := [.int (nI lo), .int (nI (nuS T p))]) (σ' := lm_T M v G) rfl trivial ?_
      refine lm_G_br (b := (nI (nuS T p)) < (nI lo)) (t := 54) (S' := []) rfl (fun h4 => ?_) (fun h4 => ?_)
      ·
        refine lm_G_sg 2 (pc' := 56) (L' := [some (.ref 64), some (.int (nI lo)), some (.int (nI hi))]) (S' := [.int 2, .ref 64]) (σ' := lm_T M v G) rfl trivial ?_
        refine lm_G_ca (j := 154) (as := [.ref 64, .int 2]) (rest := []) rfl (Or.inl rfl) (Nat.le_of_ble_eq_true rfl) (Nat.le_of_ble_eq_true rfl) (Nat.le_of_ble_eq_true rfl) (Nat.le_of_ble_eq_true rfl) rfl ?_
        refine m_wrong h25 ?_
        show lm_G X (d + 1) 159 106 0 0 59 [some (.ref 64), some (.int (nI lo)), some (.int (nI hi))] [] (lm_T (lm_wr (lm_wr M 64 25 2) 64 26 (M 64 23)) v G) Q
        rw [show rdN T p lo hi = .inr 2 from by unfold rdN; rw [if_pos k2, if_neg (fun w => nI_nlt w.2.1 (by omega) h4)]] at hQ
        refine lm_G_sg 2 (pc' := 63) (L' := [some (.ref 64), some (.int (nI lo)), some (.int (nI hi))]) (S' := [.int 2]) (σ' := lm_T (lm_wr (lm_wr M 64 25 2) 64 26 (M 64 23)) v G) rfl trivial ?_
        refine lm_G_br (b := ¬ 2 = 0) (t := 73) (S' := []) rfl (fun h9 => ?_) (fun h9 => absurd (Classical.not_not.mp h9) (by decide))
        refine lm_G_sg 1 (pc' := 74) (L' := [some (.ref 64), some (.int (nI lo)), some (.int (nI hi))]) (S' := [.int 0]) (σ' := lm_T (lm_wr (lm_wr M 64 25 2) 64 26 (M 64 23)) v G) rfl trivial ?_
        exact lm_G_re rfl trivial (Nat.zero_le _) (Nat.zero_le _) (hQ _ ⟨rfl, h23⟩ (FrP_w64 (FrP_w64 (FrP_rf _) (by decide)) (by decide)))
      ·
        have l5 : lo ≤ nuS T p := Nat.le_of_not_lt (fun w => h4 (nI_lt w (by omega)))
        refine lm_G_sg 2 (pc' := 50) (L' := [some (.ref 64), some (.int (nI lo)), some (.int (nI hi))]) (S' := [.int (M 64 22)]) (σ' := lm_T M v G) rfl trivial ?_
        rw [show M 64 22 = nI (nuS T p) from h22 k2 l4]
        refine lm_G_sg 1 (pc' := 51) (L' := [some (.ref 64), some (.int (nI lo)), some (.int (nI hi))]) (S' := [.int (nI hi), .int (nI (nuS T p))]) (σ' := lm_T M v G) rfl trivial ?_
        refine lm_G_br (b := (nI (nuS T p)) ≤ (nI hi)) (t := 59) (S' := []) rfl (fun h5 => ?_) (fun h5 => ?_)
        rotate_left
        ·
          refine lm_G_sg 2 (pc' := 56) (L' := [some (.ref 64), some (.int (nI lo)), some (.int (nI hi))]) (S' := [.int 2, .ref 64]) (σ' := lm_T M v G) rfl trivial ?_
          refine lm_G_ca (j := 154) (as := [.ref 64, .int 2]) (rest := []) rfl (Or.inl rfl) (Nat.le_of_ble_eq_true rfl) (Nat.le_of_ble_eq_true rfl) (Nat.le_of_ble_eq_true rfl) (Nat.le_of_ble_eq_true rfl) rfl ?_
          refine m_wrong h25 ?_
          show lm_G X (d + 1) 159 106 0 0 59 [some (.ref 64), some (.int (nI lo)), some (.int (nI hi))] [] (lm_T (lm_wr (lm_wr M 64 25 2) 64 26 (M 64 23)) v G) Q
          rw [show rdN T p lo hi = .inr 2 from by unfold rdN; rw [if_pos k2, if_neg (fun w => h5 (nI_le w.2.2 (by omega)))]] at hQ
          refine lm_G_sg 2 (pc' := 63) (L' := [some (.ref 64), some (.int (nI lo)), some (.int (nI hi))]) (S' := [.int 2]) (σ' := lm_T (lm_wr (lm_wr M 64 25 2) 64 26 (M 64 23)) v G) rfl trivial ?_
          refine lm_G_br (b := ¬ 2 = 0) (t := 73) (S' := []) rfl (fun h9 => ?_) (fun h9 => absurd (Classical.not_not.mp h9) (by decide))
          refine lm_G_sg 1 (pc' := 74) (L' := [some (.ref 64), some (.int (nI lo)), some (.int (nI hi))]) (S' := [.int 0]) (σ' := lm_T (lm_wr (lm_wr M 64 25 2) 64 26 (M 64 23)) v G) rfl trivial ?_
          exact lm_G_re rfl trivial (Nat.zero_le _) (Nat.zero_le _) (hQ _ ⟨rfl, h23⟩ (FrP_w64 (FrP_w64 (FrP_rf _) (by decide)) (by decide)))
        ·
          have l6 : nuS T p ≤ hi := (nI_leI (by omega) (by omega)).mp h5
          rw [show rdN T p lo hi = .inl (nuS T p) from by unfold rdN; rw [if_pos k2, if_pos ⟨l4, l5, l6⟩]] at hQ
          refine lm_G_sg 2 (pc' := 63) (L' := [some (.ref 64), some (.int (nI lo)), some (.int (nI hi))]) (S' := [.int (M 64 25)]) (σ' := lm_T M v G) rfl trivial ?_
          rw [show M 64 25 = 0 from h25]
          refine lm_G_br (b := ¬ 0 = 0) (t := 73) (S' := []) rfl (fun h9 => absurd rfl h9) (fun h9 => ?_)
          refine lm_G_sg 2 (pc' := 70) (L' := [some (.ref 64), some (.int (nI lo)), some (.int (nI hi))]) (S' := [.int (M 64 22)]) (σ' := lm_T M v G) rfl trivial ?_
          rw [show M 64 22 = nI (nuS T p) from h22 k2 l4]
          refine lm_G_sg 1 (pc' := 74) (L' := [some (.ref 64), some (.int (nI lo)), some (.int (nI hi))]) (S' := [.int (nI (nuS T p))]) (σ' := lm_T M v G) rfl trivial ?_
          exact lm_G_re rfl trivial (Nat.zero_le _) (Nat.zero_le _) hQ
set_option maxRecDepth 10000 in
theorem m_numberNowB {X : lm_X} {d v : Nat} {M : Nat → Nat → Int32} {G : Nat → Nat → Int64} {Q : lm_O → lm_S → Prop} {lo hi : Nat} (hb : ¬ M 64 25 = 0) (hQ : Q (.inl (some (.int 0))) (lm_T M v G)) : lm_Q X (d + 1) 159 [.ref 64, .int (nI lo), .int (nI hi)] (lm_T M v G) Q := by
  show lm_G X (d + 1) 159 106 0 0 0 [some (.ref 64), some (.int (nI lo)), some (.int (nI hi))] [] (lm_T M v G) Q
  refine lm_G_sg 2 (pc' := 4) (L' := [some (.ref 64), some (.int (nI lo)), some (.int (nI hi))]) (S' := [.int (M 64 25)]) (σ' := lm_T M v G) rfl trivial ?_
  refine lm_G_br (b := (M 64 25) = 0) (t := 9) (S' := []) rfl (fun hc => absurd hc hb) (fun hc => ?_)
  refine lm_G_sg 1 (pc' := 8) (L' := [some (.ref 64), some (.int (nI lo)), some (.int (nI hi))]) (S' := [.int 0]) (σ' := lm_T M v G) rfl trivial ?_
  exact lm_G_re rfl trivial (Nat.zero_le _) (Nat.zero_le _) hQ
