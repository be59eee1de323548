/-! ===== contracts: the model's sets ===== -/
set_option maxRecDepth 10000 in
theorem m_isPerson {X : lm_X} {d v : Nat} {M : Nat → Nat → Int32} {G : Nat → Nat → Int64} {Q : lm_O → lm_S → Prop} {F : Fa} {s : Sc} {x : Int32} (hF : okF F) (h : RM M F s) (hQ : Q (.inl (some (.int (b2i (isP (fN F) x))))) (lm_T M v G)) : lm_Q X (d + 1) 145 [.ref 64, .int x] (lm_T M v G) Q := by
  have hn := hF.n
  have hm := hF.m
  show lm_G X (d + 1) 145 106 0 0 0 [some (.ref 64), some (.int x)] [] (lm_T M v G) Q
  refine lm_G_sg 7 (pc' := 9) (L' := [some (.ref 64), some (.int x)]) (S' := [.int (M 68 0), .long 0, .long x.toInt64]) (σ' := lm_T M v G) rfl ⟨(lm_inb_ok rfl), trivial, trivial⟩ ?_
  rw [show M 68 0 = nI (fN F) from h.n]
  refine lm_G_sg 3 (pc' := 12) (L' := [some (.ref 64), some (.int x)]) (S' := [.long (((nI (fN F)) - 1).toInt64), .long 0, .long x.toInt64]) (σ' := lm_T M v G) rfl trivial ?_
  refine lm_G_ca (j := 142) (as := [.long x.toInt64, .long 0, .long (((nI (fN F)) - 1).toInt64)]) (rest := []) rfl (Or.inl rfl) (Nat.le_of_ble_eq_true rfl) (Nat.le_of_ble_eq_true rfl) (Nat.le_of_ble_eq_true rfl) (Nat.le_of_ble_eq_true rfl) rfl ?_
  refine c_isIn ?_
  show lm_G X (d + 1) 145 106 0 0 15 [some (.ref 64), some (.int x)] [.int (b2i (inL x.toInt64 0 (nI (fN F) - 1).toInt64))] (lm_T M v G) Q
  rw [inL_P (by omega)]
  exact lm_G_re rfl (b2i_01 _) (Nat.zero_le _) (Nat.zero_le _) hQ
set_option maxRecDepth 10000 in
theorem m_isTune {X : lm_X} {d v : Nat} {M : Nat → Nat → Int32} {G : Nat → Nat → Int64} {Q : lm_O → lm_S → Prop} {F : Fa} {s : Sc} {x : Int32} (hF : okF F) (h : RM M F s) (hQ : Q (.inl (some (.int (b2i (isP (fM F) x))))) (lm_T M v G)) : lm_Q X (d + 1) 146 [.ref 64, .int x] (lm_T M v G) Q := by
  have hn := hF.n
  have hm := hF.m
  show lm_G X (d + 1) 146 106 0 0 0 [some (.ref 64), some (.int x)] [] (lm_T M v G) Q
  refine lm_G_sg 7 (pc' := 9) (L' := [some (.ref 64), some (.int x)]) (S' := [.int (M 68 1), .long 0, .long x.toInt64]) (σ' := lm_T M v G) rfl ⟨(lm_inb_ok rfl), trivial, trivial⟩ ?_
  rw [show M 68 1 = nI (fM F) from h.m]
  refine lm_G_sg 3 (pc' := 12) (L' := [some (.ref 64), some (.int x)]) (S' := [.long (((nI (fM F)) - 1).toInt64), .long 0, .long x.toInt64]) (σ' := lm_T M v G) rfl trivial ?_
  refine lm_G_ca (j := 142) (as := [.long x.toInt64, .long 0, .long (((nI (fM F)) - 1).toInt64)]) (rest := []) rfl (Or.inl rfl) (Nat.le_of_ble_eq_true rfl) (Nat.le_of_ble_eq_true rfl) (Nat.le_of_ble_eq_true rfl) (Nat.le_of_ble_eq_true rfl) rfl ?_
  refine c_isIn ?_
  show lm_G X (d + 1) 146 106 0 0 15 [some (.ref 64), some (.int x)] [.int (b2i (inL x.toInt64 0 (nI (fM F) - 1).toInt64))] (lm_T M v G) Q
  rw [inL_P (by omega)]
  exact lm_G_re rfl (b2i_01 _) (Nat.zero_le _) (Nat.zero_le _) hQ
set_option maxRecDepth 10000 in
theorem m_whoHums {X : lm_X} {d v : Nat} {M : Nat → Nat → Int32} {G : Nat → Nat → Int64} {Q : lm_O → lm_S → Prop} {F : Fa} {s : Sc} {t : Int32} (hF : okF F) (h : RM M F s) (hQ : Q (.inl (some (.int (humS F (sHu s) t)))) (lm_T M v G)) : lm_Q X d 181 [.ref 64, .int t] (lm_T M v G) Q := by
  have hn := hF.n
  have hm := hF.m
  show lm_G X d 181 106 0 0 0 [some (.ref 64), some (.int t), none, none] [] (lm_T M v G) Q
  refine lm_G_sg 4 (pc' := 4) (L' := [some (.ref 64), some (.int t), some (.int 0), some (.int 0)]) (S' := []) (σ' := lm_T M v G) rfl trivial ?_
  refine lm_ind (α := Unit) (St := fun (j : Nat) zz => lm_G X d 181 106 0 0 4 [some (.ref 64), some (.int t), some (.int (msk (fun p => decide (sHu s p = t)) j)), some (.int (nI j))] [] (lm_T M v G) Q) (Inv := fun (j : Nat) zz => True) (fN F) (fun j zz hj hI ih => ?_) (fun zz hI => ?_) (0) () (by omega) ?_
  ·
    replace hI : True := hI
    replace ih : ∀ (_ : True), lm_G X d 181 106 0 0 4 [some (.ref 64), some (.int t), some (.int (msk (fun p => decide (sHu s p = t)) (j + 1))), some (.int (nI (j + 1)))] [] (lm_T M v G) Q := fun q => ih () q
    show lm_G X d 181 106 0 0 4 [some (.ref 64), some (.int t), some (.int (msk (fun p => decide (sHu s p = t)) j)), some (.int (nI j))] [] (lm_T M v G) Q
    refine lm_G_sg 5 (pc' := 11) (L' := [some (.ref 64), some (.int t), some (.int (msk (fun p => decide (sHu s p = t)) j)), some (.int (nI j))]) (S' := [.int (M 68 0), .int (nI j)]) (σ' := lm_T M v G) rfl ⟨(lm_inb_ok rfl), trivial, trivial⟩ ?_
    rw [show M 68 0 = nI (fN F) from h.n]
    refine lm_G_br (b := (nI (fN F)) ≤ (nI j)) (t := 40) (S' := []) rfl (fun hc => absurd hc (nI_ge hj (by omega))) (fun hc => ?_)
    refine lm_G_sg 5 (pc' := 21) (L' := [some (.ref 64), some (.int t), some (.int (msk (fun p => decide (sHu s p = t)) j)), some (.int (nI j))]) (S' := [.int (M 82 (nI j).toNatClampNeg), .int (msk (fun p => decide (sHu s p = t)) j)]) (σ' := lm_T M v G) rfl ⟨(vp_in_nI (by omega) (by omega)), trivial, trivial⟩ ?_
    rw [show (nI j).toNatClampNeg = j from nI_clamp (by omega)]
    rw [show M 82 j = sHu s j from h.hu j (by omega)]
    refine lm_G_sg 1 (pc' := 22) (L' := [some (.ref 64), some (.int t), some (.int (msk (fun p => decide (sHu s p = t)) j)), some (.int (nI j))]) (S' := [.int t, .int (sHu s j), .int (msk (fun p => decide (sHu s p = t)) j)]) (σ' := lm_T M v G) rfl trivial ?_
    refine lm_G_br (b := ¬ (sHu s j) = t) (t := 31) (S' := [.int (msk (fun p => decide (sHu s p = t)) j)]) rfl (fun hc => ?_) (fun hc => ?_)
    ·
      refine lm_G_sg 4 (pc' := 37) (L' := [some (.ref 64), some (.int t), some (.int ((msk (fun p => decide (sHu s p = t)) j) ||| 0)), some (.int ((nI j) + 1))]) (S' := []) (σ' := lm_T M v G) rfl trivial ?_
      rw [nI_1]
      refine lm_G_sg 1 (pc' := 4) (L' := [some (.ref 64), some (.int t), some (.int ((msk (fun p => decide (sHu s p = t)) j) ||| 0)), some (.int (nI (j + 1)))]) (S' := []) (σ' := lm_T M v G) rfl trivial ?_
      rw [or_0, ← msk_f (f := (fun p => decide (sHu s p = t))) (decide_eq_false hc)]
      exact ih  trivial
    ·
      refine lm_G_sg 7 (pc' := 37) (L' := [some (.ref 64), some (.int t), some (.int ((msk (fun p => decide (sHu s p = t)) j) ||| (1 <<< ((nI j) &&& 31)))), some (.int ((nI j) + 1))]) (S' := []) (σ' := lm_T M v G) rfl trivial ?_
      rw [nI_1]
      refine lm_G_sg 1 (pc' := 4) (L' := [some (.ref 64), some (.int t), some (.int ((msk (fun p => decide (sHu s p = t)) j) ||| (1 <<< ((nI j) &&& 31)))), some (.int (nI (j + 1)))]) (S' := []) (σ' := lm_T M v G) rfl trivial ?_
      rw [← msk_t (f := (fun p => decide (sHu s p = t))) (decide_eq_true (Classical.not_not.mp hc))]
      exact ih  trivial
  ·
    replace hI : True := hI
    show lm_G X d 181 106 0 0 4 [some (.ref 64), some (.int t), some (.int (msk (fun p => decide (sHu s p = t)) (fN F))), some (.int (nI (fN F)))] [] (lm_T M v G) Q
    refine lm_G_sg 5 (pc' := 11) (L' := [some (.ref 64), some (.int t), some (.int (msk (fun p => decide (sHu s p = t)) (fN F))), some (.int (nI (fN F)))]) (S' := [.int (M 68 0), .int (nI (fN F))]) (σ' := lm_T M v G) rfl ⟨(lm_inb_ok rfl), trivial, trivial⟩ ?_
    rw [show M 68 0 = nI (fN F) from h.n]
    refine lm_G_br (b := (nI (fN F)) ≤ (nI (fN F))) (t := 40) (S' := []) rfl (fun hc => ?_) (fun hc => absurd (nI_le (Nat.le_refl _) (by omega)) hc)
    refine lm_G_sg 1 (pc' := 41) (L' := [some (.ref 64), some (.int t), some (.int (msk (fun p => decide (sHu s p = t)) (fN F))), some (.int (nI (fN F)))]) (S' := [.int (msk (fun p => decide (sHu s p = t)) (fN F))]) (σ' := lm_T M v G) rfl trivial ?_
    exact lm_G_re rfl trivial (Nat.zero_le _) (Nat.zero_le _) hQ
  ·
    trivial
set_option maxRecDepth 10000 in
theorem m_ownedBy {X : lm_X} {d v : Nat} {M : Nat → Nat → Int32} {G : Nat → Nat → Int64} {Q : lm_O → lm_S → Prop} {F : Fa} {s : Sc} {p : Int32} (hF : okF F) (h : RM M F s) (hQ : Q (.inl (some (.int (ownS F (sOw s) p)))) (lm_T M v G)) : lm_Q X d 183 [.ref 64, .int p] (lm_T M v G) Q := by
  have hn := hF.n
  have hm := hF.m
  show lm_G X d 183 106 0 0 0 [some (.ref 64), some (.int p), none, none] [] (lm_T M v G) Q
  refine lm_G_sg 4 (pc' := 4) (L' := [some (.ref 64), some (.int p), some (.int 0), some (.int 0)]) (S' := []) (σ' := lm_T M v G) rfl trivial ?_
  refine lm_ind (α := Unit) (St := fun (j : Nat) zz => lm_G X d 183 106 0 0 4 [some (.ref 64), some (.int p), some (.int (msk (fun t => decide (sOw s t = p)) j)), some (.int (nI j))] [] (lm_T M v G) Q) (Inv := fun (j : Nat) zz => True) (fM F) (fun j zz hj hI ih => ?_) (fun zz hI => ?_) (0) () (by omega) ?_
  ·
    replace hI : True := hI
    replace ih : ∀ (_ : True), lm_G X d 183 106 0 0 4 [some (.ref 64), some (.int p), some (.int (msk (fun t => decide (sOw s t = p)) (j + 1))), some (.int (nI (j + 1)))] [] (lm_T M v G) Q := fun q => ih () q
    show lm_G X d 183 106 0 0 4 [some (.ref 64), some (.int p), some (.int (msk (fun t => decide (sOw s t = p)) j)), some (.int (nI j))] [] (lm_T M v G) Q
    refine lm_G_sg 5 (pc' := 11) (L' := [some (.ref 64), some (.int p), some (.int (msk (fun t => decide (sOw s t = p)) j)), some (.int (nI j))]) (S' := [.int (M 68 1), .int (nI j)]) (σ' := lm_T M v G) rfl ⟨(lm_inb_ok rfl), trivial, trivial⟩ ?_
    rw [show M 68 1 = nI (fM F) from h.m]
    refine lm_G_br (b := (nI (fM F)) ≤ (nI j)) (t := 40) (S' := []) rfl (fun hc => absurd hc (nI_ge hj (by omega))) (fun hc => ?_)
    refine lm_G_sg 5 (pc' := 21) (L' := [some (.ref 64), some (.int p), some (.int (msk (fun t => decide (sOw s t = p)) j)), some (.int (nI j))]) (S' := [.int (M 81 (nI j).toNatClampNeg), .int (msk (fun t => decide (sOw s t = p)) j)]) (σ' := lm_T M v G) rfl ⟨(vp_in_nI (by omega) (by omega)), trivial, trivial⟩ ?_
    rw [show (nI j).toNatClampNeg = j from nI_clamp (by omega)]
    rw [show M 81 j = sOw s j from h.ow j (by omega)]
    refine lm_G_sg 1 (pc' := 22) (L' := [some (.ref 64), some (.int p), some (.int (msk (fun t => decide (sOw s t = p)) j)), some (.int (nI j))]) (S' := [.int p, .int (sOw s j), .int (msk (fun t => decide (sOw s t = p)) j)]) (σ' := lm_T M v G) rfl trivial ?_
    refine lm_G_br (b := ¬ (sOw s j) = p) (t := 31) (S' := [.int (msk (fun t => decide (sOw s t = p)) j)]) rfl (fun hc => ?_) (fun hc => ?_)
    ·
      refine lm_G_sg 4 (pc' := 37) (L' := [some (.ref 64), some (.int p), some (.int ((msk (fun t => decide (sOw s t = p)) j) ||| 0)), some (.int ((nI j) + 1))]) (S' := []) (σ' := lm_T M v G) rfl trivial ?_
      rw [nI_1]
      refine lm_G_sg 1 (pc' := 4) (L' := [some (.ref 64), some (.int p), some (.int ((msk (fun t => decide (sOw s t = p)) j) ||| 0)), some (.int (nI (j + 1)))]) (S' := []) (σ' := lm_T M v G) rfl trivial ?_
      rw [or_0, ← msk_f (f := (fun t => decide (sOw s t = p))) (decide_eq_false hc)]
      exact ih  trivial
    ·
      refine lm_G_sg 7 (pc' := 37) (L' := [some (.ref 64), some (.int p), some (.int ((msk (fun t => decide (sOw s t = p)) j) ||| (1 <<< ((nI j) &&& 31)))), some (.int ((nI j) + 1))]) (S' := []) (σ' := lm_T M v G) rfl trivial ?_
      rw [nI_1]
      refine lm_G_sg 1 (pc' := 4) (L' := [some (.ref 64), some (.int p), some (.int ((msk (fun t => decide (sOw s t = p)) j) ||| (1 <<< ((nI j) &&& 31)))), some (.int (nI (j + 1)))]) (S' := []) (σ' := lm_T M v G) rfl trivial ?_
      rw [← msk_t (f := (fun t => decide (sOw s t = p))) (decide_eq_true (Classical.not_not.mp hc))]
      exact ih  trivial
  ·
    replace hI : True := hI
    show lm_G X d 183 106 0 0 4 [some (.ref 64), some (.int p), some (.int (msk (fun t => decide (sOw s t = p)) (fM F))), some (.int (nI (fM F)))] [] (lm_T M v G) Q
    refine lm_G_sg 5 (pc' := 11) (L' := [some (.ref 64), some (.int p), some (.int (msk (fun t => decide (sOw s t = p)) (fM F))), some (.int (nI (fM F)))]) (S' := [.int (M 68 1), .int (nI (fM F))]) (σ' := lm_T M v G) rfl ⟨(lm_inb_ok rfl), trivial, trivial⟩ ?_
    rw [show M 68 1 = nI (fM F) from h.m]
    refine lm_G_br (b := (nI (fM F)) ≤ (nI (fM F))) (t := 40) (S' := []) rfl (fun hc => ?_) (fun hc => absurd (nI_le (Nat.le_refl _) (by omega)) hc)
    refine lm_G_sg 1 (pc' := 41) (L' := [some (.ref 64), some (.int p), some (.int (msk (fun t => decide (sOw s t = p)) (fM F))), some (.int (nI (fM F)))]) (S' := [.int (msk (fun t => decide (sOw s t = p)) (fM F))]) (σ' := lm_T M v G) rfl trivial ?_
    exact lm_G_re rfl trivial (Nat.zero_le _) (Nat.zero_le _) hQ
  ·
    trivial
set_option maxRecDepth 10000 in
theorem m_allWhoHum {X : lm_X} {d v : Nat} {M : Nat → Nat → Int32} {G : Nat → Nat → Int64} {Q : lm_O → lm_S → Prop} {F : Fa} {s : Sc} (hF : okF F) (h : RM M F s) (hQ : Q (.inl (some (.int (msk (fun p => decide (sHu s p ≠ -1)) (fN F))))) (lm_T M v G)) : lm_Q X d 182 [.ref 64] (lm_T M v G) Q := by
  have hn := hF.n
  have hm := hF.m
  show lm_G X d 182 106 0 0 0 [some (.ref 64), none, none] [] (lm_T M v G) Q
  refine lm_G_sg 4 (pc' := 4) (L' := [some (.ref 64), some (.int 0), some (.int 0)]) (S' := []) (σ' := lm_T M v G) rfl trivial ?_
  refine lm_ind (α := Unit) (St := fun (j : Nat) zz => lm_G X d 182 106 0 0 4 [some (.ref 64), some (.int (msk (fun p => decide (sHu s p ≠ -1)) j)), some (.int (nI j))] [] (lm_T M v G) Q) (Inv := fun (j : Nat) zz => True) (fN F) (fun j zz hj hI ih => ?_) (fun zz hI => ?_) (0) () (by omega) ?_
  ·
    replace hI : True := hI
    replace ih : ∀ (_ : True), lm_G X d 182 106 0 0 4 [some (.ref 64), some (.int (msk (fun p => decide (sHu s p ≠ -1)) (j + 1))), some (.int (nI (j + 1)))] [] (lm_T M v G) Q := fun q => ih () q
    show lm_G X d 182 106 0 0 4 [some (.ref 64), some (.int (msk (fun p => decide (sHu s p ≠ -1)) j)), some (.int (nI j))] [] (lm_T M v G) Q
    refine lm_G_sg 5 (pc' := 11) (L' := [some (.ref 64), some (.int (msk (fun p => decide (sHu s p ≠ -1)) j)), some (.int (nI j))]) (S' := [.int (M 68 0), .int (nI j)]) (σ' := lm_T M v G) rfl ⟨(lm_inb_ok rfl), trivial, trivial⟩ ?_
    rw [show M 68 0 = nI (fN F) from h.n]
    refine lm_G_br (b := (nI (fN F)) ≤ (nI j)) (t := 40) (S' := []) rfl (fun hc => absurd hc (nI_ge hj (by omega))) (fun hc => ?_)
    refine lm_G_sg 5 (pc' := 21) (L' := [some (.ref 64), some (.int (msk (fun p => decide (sHu s p ≠ -1)) j)), some (.int (nI j))]) (S' := [.int (M 82 (nI j).toNatClampNeg), .int (msk (fun p => decide (sHu s p ≠ -1)) j)]) (σ' := lm_T M v G) rfl ⟨(vp_in_nI (by omega) (by omega)), trivial, trivial⟩ ?_
    rw [show (nI j).toNatClampNeg = j from nI_clamp (by omega)]
    rw [show M 82 j = sHu s j from h.hu j (by omega)]
    refine lm_G_sg 1 (pc' := 22) (L' := [some (.ref 64), some (.int (msk (fun p => decide (sHu s p ≠ -1)) j)), some (.int (nI j))]) (S' := [.int (-1), .int (sHu s j), .int (msk (fun p => decide (sHu s p ≠ -1)) j)]) (σ' := lm_T M v G) rfl trivial ?_
    refine lm_G_br (b := (sHu s j) = (-1)) (t := 31) (S' := [.int (msk (fun p => decide (sHu s p ≠ -1)) j)]) rfl (fun hc => ?_) (fun hc => ?_)
    ·
      refine lm_G_sg 4 (pc' := 37) (L' := [some (.ref 64), some (.int ((msk (fun p => decide (sHu s p ≠ -1)) j) ||| 0)), some (.int ((nI j) + 1))]) (S' := []) (σ' := lm_T M v G) rfl trivial ?_
      rw [nI_1]
      refine lm_G_sg 1 (pc' := 4) (L' := [some (.ref 64), some (.int ((msk (fun p => decide (sHu s p ≠ -1)) j) ||| 0)), some (.int (nI (j + 1)))]) (S' := []) (σ' := lm_T M v G) rfl trivial ?_
      rw [or_0, ← msk_f (f := (fun p => decide (sHu s p ≠ -1))) (decide_eq_false (Classical.not_not.mpr hc))]
      exact ih  trivial
    ·
      refine lm_G_sg 7 (pc' := 37) (L' := [some (.ref 64), some (.int ((msk (fun p => decide (sHu s p ≠ -1)) j) ||| (1 <<< ((nI j) &&& 31)))), some (.int ((nI j) + 1))]) (S' := []) (σ' := lm_T M v G) rfl trivial ?_
      rw [nI_1]
      refine lm_G_sg 1 (pc' := 4) (L' := [some (.ref 64), some (.int ((msk (fun p => decide (sHu s p ≠ -1)) j) ||| (1 <<< ((nI j) &&& 31)))), some (.int (nI (j + 1)))]) (S' := []) (σ' := lm_T M v G) rfl trivial ?_
      rw [← msk_t (f := (fun p => decide (sHu s p ≠ -1))) (decide_eq_true hc)]
      exact ih  trivial
  ·
    replace hI : True := hI
    show lm_G X d 182 106 0 0 4 [some (.ref 64), some (.int (msk (fun p => decide (sHu s p ≠ -1)) (fN F))), some (.int (nI (fN F)))] [] (lm_T M v G) Q
    refine lm_G_sg 5 (pc' := 11) (L' := [some (.ref 64), some (.int (msk (fun p => decide (sHu s p ≠ -1)) (fN F))), some (.int (nI (fN F)))]) (S' := [.int (M 68 0), .int (nI (fN F))]) (σ' := lm_T M v G) rfl ⟨(lm_inb_ok rfl), trivial, trivial⟩ ?_
    rw [show M 68 0 = nI (fN F) from h.n]
    refine lm_G_br (b := (nI (fN F)) ≤ (nI (fN F))) (t := 40) (S' := []) rfl (fun hc => ?_) (fun hc => absurd (nI_le (Nat.le_refl _) (by omega)) hc)
    refine lm_G_sg 1 (pc' := 41) (L' := [some (.ref 64), some (.int (msk (fun p => decide (sHu s p ≠ -1)) (fN F))), some (.int (nI (fN F)))]) (S' := [.int (msk (fun p => decide (sHu s p ≠ -1)) (fN F))]) (σ' := lm_T M v G) rfl trivial ?_
    exact lm_G_re rfl trivial (Nat.zero_le _) (Nat.zero_le _) hQ
  ·
    trivial
def sumS (f : Fn) : Nat → Int32
  | 0 => 0
  | n + 1 => sumS f n + f n
set_option maxRecDepth 10000 in
theorem m_allCows {X : lm_X} {d v : Nat} {M : Nat → Nat → Int32} {G : Nat → Nat → Int64} {Q : lm_O → lm_S → Prop} {F : Fa} {s : Sc} (hF : okF F) (h : RM M F s) (hQ : Q (.inl (some (.int (sumS (sCo s) (fN F))))) (lm_T M v G)) : lm_Q X d 200 [.ref 64] (lm_T M v G) Q := by
  have hn := hF.n
  have hm := hF.m
  show lm_G X d 200 106 0 0 0 [some (.ref 64), none, none] [] (lm_T M v G) Q
  refine lm_G_sg 4 (pc' := 4) (L' := [some (.ref 64), some (.int 0), some (.int 0)]) (S' := []) (σ' := lm_T M v G) rfl trivial ?_
  refine lm_ind (α := Unit) (St := fun (j : Nat) zz => lm_G X d 200 106 0 0 4 [some (.ref 64), some (.int (sumS (sCo s) j)), some (.int (nI j))] [] (lm_T M v G) Q) (Inv := fun (j : Nat) zz => True) (fN F) (fun j zz hj hI ih => ?_) (fun zz hI => ?_) (0) () (by omega) ?_
  ·
    replace hI : True := hI
    replace ih : ∀ (_ : True), lm_G X d 200 106 0 0 4 [some (.ref 64), some (.int (sumS (sCo s) (j + 1))), some (.int (nI (j + 1)))] [] (lm_T M v G) Q := fun q => ih () q
    show lm_G X d 200 106 0 0 4 [some (.ref 64), some (.int (sumS (sCo s) j)), some (.int (nI j))] [] (lm_T M v G) Q
    refine lm_G_sg 5 (pc' := 11) (L' := [some (.ref 64), some (.int (sumS (sCo s) j)), some (.int (nI j))]) (S' := [.int (M 68 0), .int (nI j)]) (σ' := lm_T M v G) rfl ⟨(lm_inb_ok rfl), trivial, trivial⟩ ?_
    rw [show M 68 0 = nI (fN F) from h.n]
    refine lm_G_br (b := (nI (fN F)) ≤ (nI j)) (t := 29) (S' := []) rfl (fun hc => absurd hc (nI_ge hj (by omega))) (fun hc => ?_)
    refine lm_G_sg 5 (pc' := 21) (L' := [some (.ref 64), some (.int (sumS (sCo s) j)), some (.int (nI j))]) (S' := [.int (M 86 (nI j).toNatClampNeg), .int (sumS (sCo s) j)]) (σ' := lm_T M v G) rfl ⟨(vp_in_nI (by omega) (by omega)), trivial, trivial⟩ ?_
    rw [show (nI j).toNatClampNeg = j from nI_clamp (by omega)]
    rw [show M 86 j = sCo s j from h.co j (by omega)]
    refine lm_G_sg 3 (pc' := 26) (L' := [some (.ref 64), some (.int ((sumS (sCo s) j) + (sCo s j))), some (.int ((nI j) + 1))]) (S' := []) (σ' := lm_T M v G) rfl trivial ?_
    rw [nI_1]
    refine lm_G_sg 1 (pc' := 4) (L' := [some (.ref 64), some (.int ((sumS (sCo s) j) + (sCo s j))), some (.int (nI (j + 1)))]) (S' := []) (σ' := lm_T M v G) rfl trivial ?_
    exact ih  trivial
  ·
    replace hI : True := hI
    show lm_G X d 200 106 0 0 4 [some (.ref 64), some (.int (sumS (sCo s) (fN F))), some (.int (nI (fN F)))] [] (lm_T M v G) Q
    refine lm_G_sg 5 (pc' := 11) (L' := [some (.ref 64), some (.int (sumS (sCo s) (fN F))), some (.int (nI (fN F)))]) (S' := [.int (M 68 0), .int (nI (fN F))]) (σ' := lm_T M v G) rfl ⟨(lm_inb_ok rfl), trivial, trivial⟩ ?_
    rw [show M 68 0 = nI (fN F) from h.n]
    refine lm_G_br (b := (nI (fN F)) ≤ (nI (fN F))) (t := 29) (S' := []) rfl (fun hc => ?_) (fun hc => absurd (nI_le (Nat.le_refl _) (by omega)) hc)
    refine lm_G_sg 1 (pc' := 30) (L' := [some (.ref 64), some (.int (sumS (sCo s) (fN F))), some (.int (nI (fN F)))]) (S' := [.int (sumS (sCo s) (fN F))]) (σ' := lm_T M v G) rfl trivial ?_
    exact lm_G_re rfl trivial (Nat.zero_le _) (Nat.zero_le _) hQ
  ·
    trivial
set_option maxRecDepth 10000 in
theorem m_hears {X : lm_X} {d v : Nat} {M : Nat → Nat → Int32} {G : Nat → Nat → Int64} {Q : lm_O → lm_S → Prop} {F : Fa} {s : Sc} {p q : Nat} (hF : okF F) (h : RM M F s) (hp : p < fN F) (hq : q < fN F) (hQ : Q (.inl (some (.int (b2i (heS F (sPl s) p q))))) (lm_T M v G)) : lm_Q X d 179 [.ref 64, .int (nI p), .int (nI q)] (lm_T M v G) Q := by
  have hn := hF.n
  have hm := hF.m
  show lm_G X d 179 106 0 0 0 [some (.ref 64), some (.int (nI p)), some (.int (nI q))] [] (lm_T M v G) Q
  refine lm_G_sg 2 (pc' := 2) (L' := [some (.ref 64), some (.int (nI p)), some (.int (nI q))]) (S' := [.int (nI q), .int (nI p)]) (σ' := lm_T M v G) rfl trivial ?_
  refine lm_G_br (b := (nI p) = (nI q)) (t := 55) (S' := []) rfl (fun hc => ?_) (fun hc => ?_)
  ·
    have e : p = q := (nI_eq (by omega) (by omega)).mp hc
    have e2 : heS F (sPl s) p q = false := by unfold heS; simp [e]
    rw [b2i_f e2] at hQ
    refine lm_G_sg 1 (pc' := 56) (L' := [some (.ref 64), some (.int (nI p)), some (.int (nI q))]) (S' := [.int 0]) (σ' := lm_T M v G) rfl trivial ?_
    exact lm_G_re rfl (Or.inl rfl) (Nat.zero_le _) (Nat.zero_le _) hQ
  ·
    have e : p ≠ q := fun w => hc (by rw [w])
    refine lm_G_sg 4 (pc' := 11) (L' := [some (.ref 64), some (.int (nI p)), some (.int (nI q))]) (S' := [.int (M 85 (nI p).toNatClampNeg)]) (σ' := lm_T M v G) rfl ⟨(vp_in_nI (by omega) (by omega)), trivial, trivial⟩ ?_
    rw [show (nI p).toNatClampNeg = p from nI_clamp (by omega)]
    rw [show M 85 p = sPl s p from h.pl p (by omega)]
    refine lm_G_sg 4 (pc' := 17) (L' := [some (.ref 64), some (.int (nI p)), some (.int (nI q))]) (S' := [.int (M 85 (nI q).toNatClampNeg), .int (sPl s p)]) (σ' := lm_T M v G) rfl ⟨(vp_in_nI (by omega) (by omega)), trivial, trivial⟩ ?_
    rw [show (nI q).toNatClampNeg = q from nI_clamp (by omega)]
    rw [show M 85 q = sPl s q from h.pl q (by omega)]
    refine lm_G_sg 6 (pc' := 27) (L' := [some (.ref 64), some (.int (nI p)), some (.int (nI q))]) (S' := [.int (M 69 (nI p).toNatClampNeg), .int (absI ((sPl s p) - (sPl s q)))]) (σ' := lm_T M v G) rfl ⟨trivial, (Nat.le_of_ble_eq_true rfl), (vp_in_nI (by omega) (by omega)), trivial, trivial⟩ ?_
    rw [show (nI p).toNatClampNeg = p from nI_clamp (by omega)]
    rw [show M 69 p = fWh F p from h.wh p (by omega)]
    refine lm_G_sg 1 (pc' := 28) (L' := [some (.ref 64), some (.int (nI p)), some (.int (nI q))]) (S' := [.int 1, .int (fWh F p), .int (absI ((sPl s p) - (sPl s q)))]) (σ' := lm_T M v G) rfl trivial ?_
    refine lm_G_br (b := ¬ (fWh F p) = 1) (t := 42) (S' := [.int (absI ((sPl s p) - (sPl s q)))]) rfl (fun h2 => ?_) (fun h2 => ?_)
    ·
      refine lm_G_sg 4 (pc' := 48) (L' := [some (.ref 64), some (.int (nI p)), some (.int (nI q))]) (S' := [.int (M 68 2), .int (absI ((sPl s p) - (sPl s q)))]) (σ' := lm_T M v G) rfl ⟨(lm_inb_ok rfl), trivial, trivial⟩ ?_
      rw [show M 68 2 = fE F from h.e]
      refine lm_G_br (b := (fE F) < (absI ((sPl s p) - (sPl s q)))) (t := 55) (S' := []) rfl (fun h3 => ?_) (fun h3 => ?_)
      ·
        have e2 : heS F (sPl s) p q = false := by unfold heS; rw [if_neg h2]; simp [e, h3]
        rw [b2i_f e2] at hQ
        refine lm_G_sg 1 (pc' := 56) (L' := [some (.ref 64), some (.int (nI p)), some (.int (nI q))]) (S' := [.int 0]) (σ' := lm_T M v G) rfl trivial ?_
        exact lm_G_re rfl (Or.inl rfl) (Nat.zero_le _) (Nat.zero_le _) hQ
      ·
        have e2 : heS F (sPl s) p q = true := by unfold heS; rw [if_neg h2]; simp [e, Int32.not_lt.mp h3]
        rw [b2i_t e2] at hQ
        refine lm_G_sg 2 (pc' := 56) (L' := [some (.ref 64), some (.int (nI p)), some (.int (nI q))]) (S' := [.int 1]) (σ' := lm_T M v G) rfl trivial ?_
        exact lm_G_re rfl (Or.inr rfl) (Nat.zero_le _) (Nat.zero_le _) hQ
    ·
      refine lm_G_sg 5 (pc' := 38) (L' := [some (.ref 64), some (.int (nI p)), some (.int (nI q))]) (S' := [.int (M 68 2), .int 2, .int (absI ((sPl s p) - (sPl s q)))]) (σ' := lm_T M v G) rfl ⟨(lm_inb_ok rfl), trivial, trivial⟩ ?_
      rw [show M 68 2 = fE F from h.e]
      refine lm_G_sg 2 (pc' := 48) (L' := [some (.ref 64), some (.int (nI p)), some (.int (nI q))]) (S' := [.int (2 * (fE F)), .int (absI ((sPl s p) - (sPl s q)))]) (σ' := lm_T M v G) rfl trivial ?_
      refine lm_G_br (b := (2 * (fE F)) < (absI ((sPl s p) - (sPl s q)))) (t := 55) (S' := []) rfl (fun h3 => ?_) (fun h3 => ?_)
      ·
        have e2 : heS F (sPl s) p q = false := by unfold heS; rw [if_pos (Classical.not_not.mp h2)]; simp [e, h3]
        rw [b2i_f e2] at hQ
        refine lm_G_sg 1 (pc' := 56) (L' := [some (.ref 64), some (.int (nI p)), some (.int (nI q))]) (S' := [.int 0]) (σ' := lm_T M v G) rfl trivial ?_
        exact lm_G_re rfl (Or.inl rfl) (Nat.zero_le _) (Nat.zero_le _) hQ
      ·
        have e2 : heS F (sPl s) p q = true := by unfold heS; rw [if_pos (Classical.not_not.mp h2)]; simp [e, Int32.not_lt.mp h3]
        rw [b2i_t e2] at hQ
        refine lm_G_sg 2 (pc' := 56) (L' := [some (.ref 64), some (.int (nI p)), some (.int (nI q))]) (S' := [.int 1]) (σ' := lm_T M v G) rfl trivial ?_
        exact lm_G_re rfl (Or.inr rfl) (Nat.zero_le _) (Nat.zero_le _) hQ
theorem b2i_0 {b : Bool} (h : b2i b = 0) : b = false := by cases b <;> simp [b2i] at h ⊢
theorem b2i_1 {b : Bool} (h : ¬ b2i b = 0) : b = true := by cases b <;> simp [b2i] at h ⊢
set_option maxRecDepth 10000 in
theorem m_heardBy {X : lm_X} {d v : Nat} {M : Nat → Nat → Int32} {G : Nat → Nat → Int64} {Q : lm_O → lm_S → Prop} {F : Fa} {s : Sc} {p : Nat} (hF : okF F) (h : RM M F s) (hp : p < fN F) (hQ : Q (.inl (some (.int (heardS F (sPl s) p)))) (lm_T M v G)) : lm_Q X (d + 1) 180 [.ref 64, .int (nI p)] (lm_T M v G) Q := by
  have hn := hF.n
  have hm := hF.m
  show lm_G X (d + 1) 180 106 0 0 0 [some (.ref 64), some (.int (nI p)), none, none] [] (lm_T M v G) Q
  refine lm_G_sg 4 (pc' := 4) (L' := [some (.ref 64), some (.int (nI p)), some (.int 0), some (.int 0)]) (S' := []) (σ' := lm_T M v G) rfl trivial ?_
  refine lm_ind (α := Unit) (St := fun (j : Nat) zz => lm_G X (d + 1) 180 106 0 0 4 [some (.ref 64), some (.int (nI p)), some (.int (msk (fun q => heS F (sPl s) p q) j)), some (.int (nI j))] [] (lm_T M v G) Q) (Inv := fun (j : Nat) zz => True) (fN F) (fun j zz hj hI ih => ?_) (fun zz hI => ?_) (0) () (by omega) ?_
  ·
    replace hI : True := hI
    replace ih : ∀ (_ : True), lm_G X (d + 1) 180 106 0 0 4 [some (.ref 64), some (.int (nI p)), some (.int (msk (fun q => heS F (sPl s) p q) (j + 1))), some (.int (nI (j + 1)))] [] (lm_T M v G) Q := fun q => ih () q
    show lm_G X (d + 1) 180 106 0 0 4 [some (.ref 64), some (.int (nI p)), some (.int (msk (fun q => heS F (sPl s) p q) j)), some (.int (nI j))] [] (lm_T M v G) Q
    refine lm_G_sg 5 (pc' := 11) (L' := [some (.ref 64), some (.int (nI p)), some (.int (msk (fun q => heS F (sPl s) p q) j)), some (.int (nI j))]) (S' := [.int (M 68 0), .int (nI j)]) (σ' := lm_T M v G) rfl ⟨(lm_inb_ok rfl), trivial, trivial⟩ ?_
    rw [show M 68 0 = nI (fN F) from h.n]
    refine lm_G_br (b := (nI (fN F)) ≤ (nI j)) (t := 39) (S' := []) rfl (fun hc => absurd hc (nI_ge hj (by omega))) (fun hc => ?_)
    refine lm_G_sg 4 (pc' := 18) (L' := [some (.ref 64), some (.int (nI p)), some (.int (msk (fun q => heS F (sPl s) p q) j)), some (.int (nI j))]) (S' := [.int (nI j), .int (nI p), .ref 64, .int (msk (fun q => heS F (sPl s) p q) j)]) (σ' := lm_T M v G) rfl trivial ?_
    refine lm_G_ca (j := 179) (as := [.ref 64, .int (nI p), .int (nI j)]) (rest := [.int (msk (fun q => heS F (sPl s) p q) j)]) rfl (Or.inl rfl) (Nat.le_of_ble_eq_true rfl) (Nat.le_of_ble_eq_true rfl) (Nat.le_of_ble_eq_true rfl) (Nat.le_of_ble_eq_true rfl) rfl ?_
    refine m_hears hF h hp hj ?_
    show lm_G X (d + 1) 180 106 0 0 21 [some (.ref 64), some (.int (nI p)), some (.int (msk (fun q => heS F (sPl s) p q) j)), some (.int (nI j))] [.int (b2i (heS F (sPl s) p j)), .int (msk (fun q => heS F (sPl s) p q) j)] (lm_T M v G) Q
    refine lm_G_br (b := (b2i (heS F (sPl s) p j)) = 0) (t := 30) (S' := [.int (msk (fun q => heS F (sPl s) p q) j)]) rfl (fun hc => ?_) (fun hc => ?_)
    ·
      refine lm_G_sg 4 (pc' := 36) (L' := [some (.ref 64), some (.int (nI p)), some (.int ((msk (fun q => heS F (sPl s) p q) j) ||| 0)), some (.int ((nI j) + 1))]) (S' := []) (σ' := lm_T M v G) rfl trivial ?_
      rw [nI_1]
      refine lm_G_sg 1 (pc' := 4) (L' := [some (.ref 64), some (.int (nI p)), some (.int ((msk (fun q => heS F (sPl s) p q) j) ||| 0)), some (.int (nI (j + 1)))]) (S' := []) (σ' := lm_T M v G) rfl trivial ?_
      rw [or_0, ← msk_f (f := (fun q => heS F (sPl s) p q)) (b2i_0 hc)]
      exact ih  trivial
    ·
      refine lm_G_sg 7 (pc' := 36) (L' := [some (.ref 64), some (.int (nI p)), some (.int ((msk (fun q => heS F (sPl s) p q) j) ||| (1 <<< ((nI j) &&& 31)))), some (.int ((nI j) + 1))]) (S' := []) (σ' := lm_T M v G) rfl trivial ?_
      rw [nI_1]
      refine lm_G_sg 1 (pc' := 4) (L' := [some (.ref 64), some (.int (nI p)), some (.int ((msk (fun q => heS F (sPl s) p q) j) ||| (1 <<< ((nI j) &&& 31)))), some (.int (nI (j + 1)))]) (S' := []) (σ' := lm_T M v G) rfl trivial ?_
      rw [← msk_t (f := (fun q => heS F (sPl s) p q)) (b2i_1 hc)]
      exact ih  trivial
  ·
    replace hI : True := hI
    show lm_G X (d + 1) 180 106 0 0 4 [some (.ref 64), some (.int (nI p)), some (.int (msk (fun q => heS F (sPl s) p q) (fN F))), some (.int (nI (fN F)))] [] (lm_T M v G) Q
    refine lm_G_sg 5 (pc' := 11) (L' := [some (.ref 64), some (.int (nI p)), some (.int (msk (fun q => heS F (sPl s) p q) (fN F))), some (.int (nI (fN F)))]) (S' := [.int (M 68 0), .int (nI (fN F))]) (σ' := lm_T M v G) rfl ⟨(lm_inb_ok rfl), trivial, trivial⟩ ?_
    rw [show M 68 0 = nI (fN F) from h.n]
    refine lm_G_br (b := (nI (fN F)) ≤ (nI (fN F))) (t := 39) (S' := []) rfl (fun hc => ?_) (fun hc => absurd (nI_le (Nat.le_refl _) (by omega)) hc)
    refine lm_G_sg 1 (pc' := 40) (L' := [some (.ref 64), some (.int (nI p)), some (.int (msk (fun q => heS F (sPl s) p q) (fN F))), some (.int (nI (fN F)))]) (S' := [.int (msk (fun q => heS F (sPl s) p q) (fN F))]) (σ' := lm_T M v G) rfl trivial ?_
    exact lm_G_re rfl trivial (Nat.zero_le _) (Nat.zero_le _) hQ
  ·
    trivial
theorem m_bits {X : lm_X} {d v : Nat} {M : Nat → Nat → Int32} {G : Nat → Nat → Int64} {Q : lm_O → lm_S → Prop} {x : Int32} (hx : ∃ k, k < 256 ∧ x = nI k) (hQ : Q (.inl (some (.int (cnt x)))) (lm_T M v G)) : lm_Q X d 144 [.int x] (lm_T M v G) Q := by
  obtain ⟨k, hk, e⟩ := hx
  subst e
  rw [cnt_nI hk] at hQ
  exact c_bitsOf hk hQ
theorem hum_lt {F : Fa} (hF : okF F) (hu : Fn) (t : Int32) : ∃ k, k < 256 ∧ humS F hu t = nI k := msk_lt _ _ hF.n
theorem own_lt {F : Fa} (hF : okF F) (ow : Fn) (t : Int32) : ∃ k, k < 256 ∧ ownS F ow t = nI k := msk_lt _ _ (by have := hF.m; omega)
theorem and_lt2 {x : Int32} (hx : ∃ k, k < 256 ∧ x = nI k) (y : Int32) : ∃ k, k < 256 ∧ x &&& y = nI k := by
  obtain ⟨k, hk, e⟩ := hx
  subst e
  exact and_lt hk y
set_option maxRecDepth 10000 in
theorem m_unowned {X : lm_X} {d v : Nat} {M : Nat → Nat → Int32} {G : Nat → Nat → Int64} {Q : lm_O → lm_S → Prop} {F : Fa} {s : Sc} (hF : okF F) (h : RM M F s) (hQ : Q (.inl (some (.int (cnt (ownS F (sOw s) (-1)))))) (lm_T M v G)) : lm_Q X (d + 1) 199 [.ref 64] (lm_T M v G) Q := by
  have hn := hF.n
  have hm := hF.m
  show lm_G X (d + 1) 199 106 0 0 0 [some (.ref 64)] [] (lm_T M v G) Q
  refine lm_G_sg 2 (pc' := 2) (L' := [some (.ref 64)]) (S' := [.int (-1), .ref 64]) (σ' := lm_T M v G) rfl trivial ?_
  refine lm_G_ca (j := 183) (as := [.ref 64, .int (-1)]) (rest := []) rfl (Or.inl rfl) (Nat.le_of_ble_eq_true rfl) (Nat.le_of_ble_eq_true rfl) (Nat.le_of_ble_eq_true rfl) (Nat.le_of_ble_eq_true rfl) rfl ?_
  refine m_ownedBy hF h ?_
  show lm_G X (d + 1) 199 106 0 0 5 [some (.ref 64)] [.int (ownS F (sOw s) (-1))] (lm_T M v G) Q
  refine lm_G_ca (j := 144) (as := [.int (ownS F (sOw s) (-1))]) (rest := []) rfl (Or.inl rfl) (Nat.le_of_ble_eq_true rfl) (Nat.le_of_ble_eq_true rfl) (Nat.le_of_ble_eq_true rfl) (Nat.le_of_ble_eq_true rfl) rfl ?_
  refine m_bits (own_lt hF _ _) ?_
  show lm_G X (d + 1) 199 106 0 0 8 [some (.ref 64)] [.int (cnt (ownS F (sOw s) (-1)))] (lm_T M v G) Q
  exact lm_G_re rfl trivial (Nat.zero_le _) (Nat.zero_le _) hQ
set_option maxRecDepth 10000 in
theorem m_everybody {X : lm_X} {d v : Nat} {M : Nat → Nat → Int32} {G : Nat → Nat → Int64} {Q : lm_O → lm_S → Prop} {F : Fa} {s : Sc} (hF : okF F) (h : RM M F s) (hQ : Q (.inl (some (.int (bit1 (nI (fN F)) - 1)))) (lm_T M v G)) : lm_Q X d 147 [.ref 64] (lm_T M v G) Q := by
  have hn := hF.n
  have hm := hF.m
  show lm_G X d 147 106 0 0 0 [some (.ref 64)] [] (lm_T M v G) Q
  refine lm_G_sg 5 (pc' := 7) (L' := [some (.ref 64)]) (S' := [.int (M 68 0), .int 1]) (σ' := lm_T M v G) rfl ⟨(lm_inb_ok rfl), trivial, trivial⟩ ?_
  rw [show M 68 0 = nI (fN F) from h.n]
  refine lm_G_sg 3 (pc' := 10) (L' := [some (.ref 64)]) (S' := [.int ((1 <<< ((nI (fN F)) &&& 31)) - 1)]) (σ' := lm_T M v G) rfl trivial ?_
  exact lm_G_re rfl trivial (Nat.zero_le _) (Nat.zero_le _) hQ
