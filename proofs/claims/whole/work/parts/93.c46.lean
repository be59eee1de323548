/-! ===== contracts: the model takes over what a text told ===== -/
set_option maxRecDepth 10000 in
theorem m_takeHalf68 {X : lm_X} {d v : Nat} {M : Nat → Nat → Int32} {G : Nat → Nat → Int64} {Q : lm_O → lm_S → Prop} (hQ : ∀ M1, (∀ r, r ≠ 68 → M1 r = M r) → (∀ i, i < 5 → M1 68 i = M 68 (5 + i)) → Q (.inl none) (lm_T M1 v G)) : lm_Q X d 174 [.ref 68] (lm_T M v G) Q := by
  show lm_G X d 174 106 0 0 0 [some (.ref 68), none] [] (lm_T M v G) Q
  refine lm_G_sg 2 (pc' := 2) (L' := [some (.ref 68), some (.int 0)]) (S' := []) (σ' := lm_T M v G) rfl trivial ?_
  refine lm_ind (α := (Nat → Fn)) (St := fun (j : Nat) zz => (fun (M1 : Nat → Fn) => lm_G X d 174 106 0 0 2 [some (.ref 68), some (.int (nI j))] [] (lm_T M1 v G) Q) zz) (Inv := fun (j : Nat) zz => (fun (M1 : Nat → Fn) => (∀ r, r ≠ 68 → M1 r = M r) ∧ (∀ i, i < j → M1 68 i = M 68 (5 + i)) ∧ (∀ i, j ≤ i → M1 68 i = M 68 i)) zz) (5) (fun j zz hj hI ih => ?_) (fun zz hI => ?_) (0) M (by omega) ?_
  ·
    revert ih hI
    revert zz
    intro M1 hI ih
    replace hI : (∀ r, r ≠ 68 → M1 r = M r) ∧ (∀ i, i < j → M1 68 i = M 68 (5 + i)) ∧ (∀ i, j ≤ i → M1 68 i = M 68 i) := hI
    replace ih : ∀ (M1 : Nat → Fn) (_ : (∀ r, r ≠ 68 → M1 r = M r) ∧ (∀ i, i < (j + 1) → M1 68 i = M 68 (5 + i)) ∧ (∀ i, (j + 1) ≤ i → M1 68 i = M 68 i)), lm_G X d 174 106 0 0 2 [some (.ref 68), some (.int (nI (j + 1)))] [] (lm_T M1 v G) Q := fun M1 q => ih M1 q
    show lm_G X d 174 106 0 0 2 [some (.ref 68), some (.int (nI j))] [] (lm_T M1 v G) Q
    obtain ⟨i0, i1, i2⟩ := hI
    refine lm_G_sg 5 (pc' := 7) (L' := [some (.ref 68), some (.int (nI j))]) (S' := [.int (10 / 2), .int (nI j)]) (σ' := lm_T M1 v G) rfl ⟨(by decide), trivial, trivial⟩ ?_
    rw [show (10 : Int32) / 2 = 5 from by decide]
    refine lm_G_br (b := 5 ≤ (nI j)) (t := 27) (S' := []) rfl (fun hc => absurd hc (nI_ge (b := 5) hj (by omega))) (fun hc => ?_)
    refine lm_G_sg 7 (pc' := 17) (L' := [some (.ref 68), some (.int (nI j))]) (S' := [.int (10 / 2), .ref 68, .int (nI j), .ref 68]) (σ' := lm_T M1 v G) rfl ⟨(by decide), trivial, trivial⟩ ?_
    rw [show (10 : Int32) / 2 = 5 from by decide]
    refine lm_G_sg 2 (pc' := 19) (L' := [some (.ref 68), some (.int (nI j))]) (S' := [.int (5 + (nI j)), .ref 68, .int (nI j), .ref 68]) (σ' := lm_T M1 v G) rfl trivial ?_
    rw [show 5 + (nI j) = nI (5 + j) from nI_add 5 j]
    refine lm_G_sg 1 (pc' := 20) (L' := [some (.ref 68), some (.int (nI j))]) (S' := [.int (M1 68 (nI (5 + j)).toNatClampNeg), .int (nI j), .ref 68]) (σ' := lm_T M1 v G) rfl ⟨(vp_in_nI (by omega) (by omega)), trivial, trivial⟩ ?_
    rw [show (nI (5 + j)).toNatClampNeg = (5 + j) from nI_clamp (by omega)]
    rw [show M1 68 (5 + j) = M 68 (5 + j) from i2 (5 + j) (by omega)]
    refine lm_G_sg 1 (pc' := 21) (L' := [some (.ref 68), some (.int (nI j))]) (S' := []) (σ' := lm_T (lm_wr M1 68 ((nI j).toNatClampNeg) (M 68 (5 + j))) v G) rfl ⟨(vp_in_nI (by omega) (by omega)), trivial, trivial⟩ ?_
    rw [show (nI j).toNatClampNeg = j from nI_clamp (by omega)]
    refine lm_G_sg 1 (pc' := 24) (L' := [some (.ref 68), some (.int ((nI j) + 1))]) (S' := []) (σ' := lm_T (lm_wr M1 68 j (M 68 (5 + j))) v G) rfl trivial ?_
    rw [nI_1]
    refine lm_G_sg 1 (pc' := 2) (L' := [some (.ref 68), some (.int (nI (j + 1)))]) (S' := []) (σ' := lm_T (lm_wr M1 68 j (M 68 (5 + j))) v G) rfl trivial ?_
    exact ih _ (⟨fun r h => by rw [wr_row h]; exact i0 r h, fun i hi => by
          show upd (M1 68) j (M 68 (5 + j)) i = _
          by_cases e : i = j
          · rw [e, pk_us]
          · rw [pk_un e]; exact i1 i (by omega), fun i hi => by
          show upd (M1 68) j (M 68 (5 + j)) i = _
          rw [pk_un (by omega)]; exact i2 i (by omega)⟩)
  ·
    revert hI
    revert zz
    intro M1 hI
    replace hI : (∀ r, r ≠ 68 → M1 r = M r) ∧ (∀ i, i < 5 → M1 68 i = M 68 (5 + i)) ∧ (∀ i, 5 ≤ i → M1 68 i = M 68 i) := hI
    show lm_G X d 174 106 0 0 2 [some (.ref 68), some (.int (nI 5))] [] (lm_T M1 v G) Q
    obtain ⟨i0, i1, i2⟩ := hI
    refine lm_G_sg 5 (pc' := 7) (L' := [some (.ref 68), some (.int (nI 5))]) (S' := [.int (10 / 2), .int (nI 5)]) (σ' := lm_T M1 v G) rfl ⟨(by decide), trivial, trivial⟩ ?_
    rw [show (10 : Int32) / 2 = 5 from by decide]
    refine lm_G_br (b := 5 ≤ (nI 5)) (t := 27) (S' := []) rfl (fun hc => ?_) (fun hc => absurd (nI_le (a := 5) (Nat.le_refl _) (by omega)) hc)
    exact lm_G_re rfl trivial (Nat.zero_le _) (Nat.zero_le _) (hQ _ i0 i1)
  ·
    try dsimp only
    exact ⟨fun _ _ => rfl, fun i hi => absurd hi (Nat.not_lt_zero i), fun _ _ => rfl⟩
set_option maxRecDepth 10000 in
theorem m_takeHalf69 {X : lm_X} {d v : Nat} {M : Nat → Nat → Int32} {G : Nat → Nat → Int64} {Q : lm_O → lm_S → Prop} (hQ : ∀ M1, (∀ r, r ≠ 69 → M1 r = M r) → (∀ i, i < 8 → M1 69 i = M 69 (8 + i)) → Q (.inl none) (lm_T M1 v G)) : lm_Q X d 174 [.ref 69] (lm_T M v G) Q := by
  show lm_G X d 174 106 0 0 0 [some (.ref 69), none] [] (lm_T M v G) Q
  refine lm_G_sg 2 (pc' := 2) (L' := [some (.ref 69), some (.int 0)]) (S' := []) (σ' := lm_T M v G) rfl trivial ?_
  refine lm_ind (α := (Nat → Fn)) (St := fun (j : Nat) zz => (fun (M1 : Nat → Fn) => lm_G X d 174 106 0 0 2 [some (.ref 69), some (.int (nI j))] [] (lm_T M1 v G) Q) zz) (Inv := fun (j : Nat) zz => (fun (M1 : Nat → Fn) => (∀ r, r ≠ 69 → M1 r = M r) ∧ (∀ i, i < j → M1 69 i = M 69 (8 + i)) ∧ (∀ i, j ≤ i → M1 69 i = M 69 i)) zz) (8) (fun j zz hj hI ih => ?_) (fun zz hI => ?_) (0) M (by omega) ?_
  ·
    revert ih hI
    revert zz
    intro M1 hI ih
    replace hI : (∀ r, r ≠ 69 → M1 r = M r) ∧ (∀ i, i < j → M1 69 i = M 69 (8 + i)) ∧ (∀ i, j ≤ i → M1 69 i = M 69 i) := hI
    replace ih : ∀ (M1 : Nat → Fn) (_ : (∀ r, r ≠ 69 → M1 r = M r) ∧ (∀ i, i < (j + 1) → M1 69 i = M 69 (8 + i)) ∧ (∀ i, (j + 1) ≤ i → M1 69 i = M 69 i)), lm_G X d 174 106 0 0 2 [some (.ref 69), some (.int (nI (j + 1)))] [] (lm_T M1 v G) Q := fun M1 q => ih M1 q
    show lm_G X d 174 106 0 0 2 [some (.ref 69), some (.int (nI j))] [] (lm_T M1 v G) Q
    obtain ⟨i0, i1, i2⟩ := hI
    refine lm_G_sg 5 (pc' := 7) (L' := [some (.ref 69), some (.int (nI j))]) (S' := [.int (16 / 2), .int (nI j)]) (σ' := lm_T M1 v G) rfl ⟨(by decide), trivial, trivial⟩ ?_
    rw [show (16 : Int32) / 2 = 8 from by decide]
    refine lm_G_br (b := 8 ≤ (nI j)) (t := 27) (S' := []) rfl (fun hc => absurd hc (nI_ge (b := 8) hj (by omega))) (fun hc => ?_)
    refine lm_G_sg 7 (pc' := 17) (L' := [some (.ref 69), some (.int (nI j))]) (S' := [.int (16 / 2), .ref 69, .int (nI j), .ref 69]) (σ' := lm_T M1 v G) rfl ⟨(by decide), trivial, trivial⟩ ?_
    rw [show (16 : Int32) / 2 = 8 from by decide]
    refine lm_G_sg 2 (pc' := 19) (L' := [some (.ref 69), some (.int (nI j))]) (S' := [.int (8 + (nI j)), .ref 69, .int (nI j), .ref 69]) (σ' := lm_T M1 v G) rfl trivial ?_
    rw [show 8 + (nI j) = nI (8 + j) from nI_add 8 j]
    refine lm_G_sg 1 (pc' := 20) (L' := [some (.ref 69), some (.int (nI j))]) (S' := [.int (M1 69 (nI (8 + j)).toNatClampNeg), .int (nI j), .ref 69]) (σ' := lm_T M1 v G) rfl ⟨(vp_in_nI (by omega) (by omega)), trivial, trivial⟩ ?_
    rw [show (nI (8 + j)).toNatClampNeg = (8 + j) from nI_clamp (by omega)]
    rw [show M1 69 (8 + j) = M 69 (8 + j) from i2 (8 + j) (by omega)]
    refine lm_G_sg 1 (pc' := 21) (L' := [some (.ref 69), some (.int (nI j))]) (S' := []) (σ' := lm_T (lm_wr M1 69 ((nI j).toNatClampNeg) (M 69 (8 + j))) v G) rfl ⟨(vp_in_nI (by omega) (by omega)), trivial, trivial⟩ ?_
    rw [show (nI j).toNatClampNeg = j from nI_clamp (by omega)]
    refine lm_G_sg 1 (pc' := 24) (L' := [some (.ref 69), some (.int ((nI j) + 1))]) (S' := []) (σ' := lm_T (lm_wr M1 69 j (M 69 (8 + j))) v G) rfl trivial ?_
    rw [nI_1]
    refine lm_G_sg 1 (pc' := 2) (L' := [some (.ref 69), some (.int (nI (j + 1)))]) (S' := []) (σ' := lm_T (lm_wr M1 69 j (M 69 (8 + j))) v G) rfl trivial ?_
    exact ih _ (⟨fun r h => by rw [wr_row h]; exact i0 r h, fun i hi => by
          show upd (M1 69) j (M 69 (8 + j)) i = _
          by_cases e : i = j
          · rw [e, pk_us]
          · rw [pk_un e]; exact i1 i (by omega), fun i hi => by
          show upd (M1 69) j (M 69 (8 + j)) i = _
          rw [pk_un (by omega)]; exact i2 i (by omega)⟩)
  ·
    revert hI
    revert zz
    intro M1 hI
    replace hI : (∀ r, r ≠ 69 → M1 r = M r) ∧ (∀ i, i < 8 → M1 69 i = M 69 (8 + i)) ∧ (∀ i, 8 ≤ i → M1 69 i = M 69 i) := hI
    show lm_G X d 174 106 0 0 2 [some (.ref 69), some (.int (nI 8))] [] (lm_T M1 v G) Q
    obtain ⟨i0, i1, i2⟩ := hI
    refine lm_G_sg 5 (pc' := 7) (L' := [some (.ref 69), some (.int (nI 8))]) (S' := [.int (16 / 2), .int (nI 8)]) (σ' := lm_T M1 v G) rfl ⟨(by decide), trivial, trivial⟩ ?_
    rw [show (16 : Int32) / 2 = 8 from by decide]
    refine lm_G_br (b := 8 ≤ (nI 8)) (t := 27) (S' := []) rfl (fun hc => ?_) (fun hc => absurd (nI_le (a := 8) (Nat.le_refl _) (by omega)) hc)
    exact lm_G_re rfl trivial (Nat.zero_le _) (Nat.zero_le _) (hQ _ i0 i1)
  ·
    try dsimp only
    exact ⟨fun _ _ => rfl, fun i hi => absurd hi (Nat.not_lt_zero i), fun _ _ => rfl⟩
set_option maxRecDepth 10000 in
theorem m_takeHalf70 {X : lm_X} {d v : Nat} {M : Nat → Nat → Int32} {G : Nat → Nat → Int64} {Q : lm_O → lm_S → Prop} (hQ : ∀ M1, (∀ r, r ≠ 70 → M1 r = M r) → (∀ i, i < 8 → M1 70 i = M 70 (8 + i)) → Q (.inl none) (lm_T M1 v G)) : lm_Q X d 174 [.ref 70] (lm_T M v G) Q := by
  show lm_G X d 174 106 0 0 0 [some (.ref 70), none] [] (lm_T M v G) Q
  refine lm_G_sg 2 (pc' := 2) (L' := [some (.ref 70), some (.int 0)]) (S' := []) (σ' := lm_T M v G) rfl trivial ?_
  refine lm_ind (α := (Nat → Fn)) (St := fun (j : Nat) zz => (fun (M1 : Nat → Fn) => lm_G X d 174 106 0 0 2 [some (.ref 70), some (.int (nI j))] [] (lm_T M1 v G) Q) zz) (Inv := fun (j : Nat) zz => (fun (M1 : Nat → Fn) => (∀ r, r ≠ 70 → M1 r = M r) ∧ (∀ i, i < j → M1 70 i = M 70 (8 + i)) ∧ (∀ i, j ≤ i → M1 70 i = M 70 i)) zz) (8) (fun j zz hj hI ih => ?_) (fun zz hI => ?_) (0) M (by omega) ?_
  ·
    revert ih hI
    revert zz
    intro M1 hI ih
    replace hI : (∀ r, r ≠ 70 → M1 r = M r) ∧ (∀ i, i < j → M1 70 i = M 70 (8 + i)) ∧ (∀ i, j ≤ i → M1 70 i = M 70 i) := hI
    replace ih : ∀ (M1 : Nat → Fn) (_ : (∀ r, r ≠ 70 → M1 r = M r) ∧ (∀ i, i < (j + 1) → M1 70 i = M 70 (8 + i)) ∧ (∀ i, (j + 1) ≤ i → M1 70 i = M 70 i)), lm_G X d 174 106 0 0 2 [some (.ref 70), some (.int (nI (j + 1)))] [] (lm_T M1 v G) Q := fun M1 q => ih M1 q
    show lm_G X d 174 106 0 0 2 [some (.ref 70), some (.int (nI j))] [] (lm_T M1 v G) Q
    obtain ⟨i0, i1, i2⟩ := hI
    refine lm_G_sg 5 (pc' := 7) (L' := [some (.ref 70), some (.int (nI j))]) (S' := [.int (16 / 2), .int (nI j)]) (σ' := lm_T M1 v G) rfl ⟨(by decide), trivial, trivial⟩ ?_
    rw [show (16 : Int32) / 2 = 8 from by decide]
    refine lm_G_br (b := 8 ≤ (nI j)) (t := 27) (S' := []) rfl (fun hc => absurd hc (nI_ge (b := 8) hj (by omega))) (fun hc => ?_)
    refine lm_G_sg 7 (pc' := 17) (L' := [some (.ref 70), some (.int (nI j))]) (S' := [.int (16 / 2), .ref 70, .int (nI j), .ref 70]) (σ' := lm_T M1 v G) rfl ⟨(by decide), trivial, trivial⟩ ?_
    rw [show (16 : Int32) / 2 = 8 from by decide]
    refine lm_G_sg 2 (pc' := 19) (L' := [some (.ref 70), some (.int (nI j))]) (S' := [.int (8 + (nI j)), .ref 70, .int (nI j), .ref 70]) (σ' := lm_T M1 v G) rfl trivial ?_
    rw [show 8 + (nI j) = nI (8 + j) from nI_add 8 j]
    refine lm_G_sg 1 (pc' := 20) (L' := [some (.ref 70), some (.int (nI j))]) (S' := [.int (M1 70 (nI (8 + j)).toNatClampNeg), .int (nI j), .ref 70]) (σ' := lm_T M1 v G) rfl ⟨(vp_in_nI (by omega) (by omega)), trivial, trivial⟩ ?_
    rw [show (nI (8 + j)).toNatClampNeg = (8 + j) from nI_clamp (by omega)]
    rw [show M1 70 (8 + j) = M 70 (8 + j) from i2 (8 + j) (by omega)]
    refine lm_G_sg 1 (pc' := 21) (L' := [some (.ref 70), some (.int (nI j))]) (S' := []) (σ' := lm_T (lm_wr M1 70 ((nI j).toNatClampNeg) (M 70 (8 + j))) v G) rfl ⟨(vp_in_nI (by omega) (by omega)), trivial, trivial⟩ ?_
    rw [show (nI j).toNatClampNeg = j from nI_clamp (by omega)]
    refine lm_G_sg 1 (pc' := 24) (L' := [some (.ref 70), some (.int ((nI j) + 1))]) (S' := []) (σ' := lm_T (lm_wr M1 70 j (M 70 (8 + j))) v G) rfl trivial ?_
    rw [nI_1]
    refine lm_G_sg 1 (pc' := 2) (L' := [some (.ref 70), some (.int (nI (j + 1)))]) (S' := []) (σ' := lm_T (lm_wr M1 70 j (M 70 (8 + j))) v G) rfl trivial ?_
    exact ih _ (⟨fun r h => by rw [wr_row h]; exact i0 r h, fun i hi => by
          show upd (M1 70) j (M 70 (8 + j)) i = _
          by_cases e : i = j
          · rw [e, pk_us]
          · rw [pk_un e]; exact i1 i (by omega), fun i hi => by
          show upd (M1 70) j (M 70 (8 + j)) i = _
          rw [pk_un (by omega)]; exact i2 i (by omega)⟩)
  ·
    revert hI
    revert zz
    intro M1 hI
    replace hI : (∀ r, r ≠ 70 → M1 r = M r) ∧ (∀ i, i < 8 → M1 70 i = M 70 (8 + i)) ∧ (∀ i, 8 ≤ i → M1 70 i = M 70 i) := hI
    show lm_G X d 174 106 0 0 2 [some (.ref 70), some (.int (nI 8))] [] (lm_T M1 v G) Q
    obtain ⟨i0, i1, i2⟩ := hI
    refine lm_G_sg 5 (pc' := 7) (L' := [some (.ref 70), some (.int (nI 8))]) (S' := [.int (16 / 2), .int (nI 8)]) (σ' := lm_T M1 v G) rfl ⟨(by decide), trivial, trivial⟩ ?_
    rw [show (16 : Int32) / 2 = 8 from by decide]
    refine lm_G_br (b := 8 ≤ (nI 8)) (t := 27) (S' := []) rfl (fun hc => ?_) (fun hc => absurd (nI_le (a := 8) (Nat.le_refl _) (by omega)) hc)
    exact lm_G_re rfl trivial (Nat.zero_le _) (Nat.zero_le _) (hQ _ i0 i1)
  ·
    try dsimp only
    exact ⟨fun _ _ => rfl, fun i hi => absurd hi (Nat.not_lt_zero i), fun _ _ => rfl⟩
set_option maxRecDepth 10000 in
theorem m_takeHalf71 {X : lm_X} {d v : Nat} {M : Nat → Nat → Int32} {G : Nat → Nat → Int64} {Q : lm_O → lm_S → Prop} (hQ : ∀ M1, (∀ r, r ≠ 71 → M1 r = M r) → (∀ i, i < 8 → M1 71 i = M 71 (8 + i)) → Q (.inl none) (lm_T M1 v G)) : lm_Q X d 174 [.ref 71] (lm_T M v G) Q := by
  show lm_G X d 174 106 0 0 0 [some (.ref 71), none] [] (lm_T M v G) Q
  refine lm_G_sg 2 (pc' := 2) (L' := [some (.ref 71), some (.int 0)]) (S' := []) (σ' := lm_T M v G) rfl trivial ?_
  refine lm_ind (α := (Nat → Fn)) (St := fun (j : Nat) zz => (fun (M1 : Nat → Fn) => lm_G X d 174 106 0 0 2 [some (.ref 71), some (.int (nI j))] [] (lm_T M1 v G) Q) zz) (Inv := fun (j : Nat) zz => (fun (M1 : Nat → Fn) => (∀ r, r ≠ 71 → M1 r = M r) ∧ (∀ i, i < j → M1 71 i = M 71 (8 + i)) ∧ (∀ i, j ≤ i → M1 71 i = M 71 i)) zz) (8) (fun j zz hj hI ih => ?_) (fun zz hI => ?_) (0) M (by omega) ?_
  ·
    revert ih hI
    revert zz
    intro M1 hI ih
    replace hI : (∀ r, r ≠ 71 → M1 r = M r) ∧ (∀ i, i < j → M1 71 i = M 71 (8 + i)) ∧ (∀ i, j ≤ i → M1 71 i = M 71 i) := hI
    replace ih : ∀ (M1 : Nat → Fn) (_ : (∀ r, r ≠ 71 → M1 r = M r) ∧ (∀ i, i < (j + 1) → M1 71 i = M 71 (8 + i)) ∧ (∀ i, (j + 1) ≤ i → M1 71 i = M 71 i)), lm_G X d 174 106 0 0 2 [some (.ref 71), some (.int (nI (j + 1)))] [] (lm_T M1 v G) Q := fun M1 q => ih M1 q
    show lm_G X d 174 106 0 0 2 [some (.ref 71), some (.int (nI j))] [] (lm_T M1 v G) Q
    obtain ⟨i0, i1, i2⟩ := hI
    refine lm_G_sg 5 (pc' := 7) (L' := [some (.ref 71), some (.int (nI j))]) (S' := [.int (16 / 2), .int (nI j)]) (σ' := lm_T M1 v G) rfl ⟨(by decide), trivial, trivial⟩ ?_
    rw [show (16 : Int32) / 2 = 8 from by decide]
    refine lm_G_br (b := 8 ≤ (nI j)) (t := 27) (S' := []) rfl (fun hc => absurd hc (nI_ge (b := 8) hj (by omega))) (fun hc => ?_)
    refine lm_G_sg 7 (pc' := 17) (L' := [some (.ref 71), some (.int (nI j))]) (S' := [.int (16 / 2), .ref 71, .int (nI j), .ref 71]) (σ' := lm_T M1 v G) rfl ⟨(by decide), trivial, trivial⟩ ?_
    rw [show (16 : Int32) / 2 = 8 from by decide]
    refine lm_G_sg 2 (pc' := 19) (L' := [some (.ref 71), some (.int (nI j))]) (S' := [.int (8 + (nI j)), .ref 71, .int (nI j), .ref 71]) (σ' := lm_T M1 v G) rfl trivial ?_
    rw [show 8 + (nI j) = nI (8 + j) from nI_add 8 j]
    refine lm_G_sg 1 (pc' := 20) (L' := [some (.ref 71), some (.int (nI j))]) (S' := [.int (M1 71 (nI (8 + j)).toNatClampNeg), .int (nI j), .ref 71]) (σ' := lm_T M1 v G) rfl ⟨(vp_in_nI (by omega) (by omega)), trivial, trivial⟩ ?_
    rw [show (nI (8 + j)).toNatClampNeg = (8 + j) from nI_clamp (by omega)]
    rw [show M1 71 (8 + j) = M 71 (8 + j) from i2 (8 + j) (by omega)]
    refine lm_G_sg 1 (pc' := 21) (L' := [some (.ref 71), some (.int (nI j))]) (S' := []) (σ' := lm_T (lm_wr M1 71 ((nI j).toNatClampNeg) (M 71 (8 + j))) v G) rfl ⟨(vp_in_nI (by omega) (by omega)), trivial, trivial⟩ ?_
    rw [show (nI j).toNatClampNeg = j from nI_clamp (by omega)]
    refine lm_G_sg 1 (pc' := 24) (L' := [some (.ref 71), some (.int ((nI j) + 1))]) (S' := []) (σ' := lm_T (lm_wr M1 71 j (M 71 (8 + j))) v G) rfl trivial ?_
    rw [nI_1]
    refine lm_G_sg 1 (pc' := 2) (L' := [some (.ref 71), some (.int (nI (j + 1)))]) (S' := []) (σ' := lm_T (lm_wr M1 71 j (M 71 (8 + j))) v G) rfl trivial ?_
    exact ih _ (⟨fun r h => by rw [wr_row h]; exact i0 r h, fun i hi => by
          show upd (M1 71) j (M 71 (8 + j)) i = _
          by_cases e : i = j
          · rw [e, pk_us]
          · rw [pk_un e]; exact i1 i (by omega), fun i hi => by
          show upd (M1 71) j (M 71 (8 + j)) i = _
          rw [pk_un (by omega)]; exact i2 i (by omega)⟩)
  ·
    revert hI
    revert zz
    intro M1 hI
    replace hI : (∀ r, r ≠ 71 → M1 r = M r) ∧ (∀ i, i < 8 → M1 71 i = M 71 (8 + i)) ∧ (∀ i, 8 ≤ i → M1 71 i = M 71 i) := hI
    show lm_G X d 174 106 0 0 2 [some (.ref 71), some (.int (nI 8))] [] (lm_T M1 v G) Q
    obtain ⟨i0, i1, i2⟩ := hI
    refine lm_G_sg 5 (pc' := 7) (L' := [some (.ref 71), some (.int (nI 8))]) (S' := [.int (16 / 2), .int (nI 8)]) (σ' := lm_T M1 v G) rfl ⟨(by decide), trivial, trivial⟩ ?_
    rw [show (16 : Int32) / 2 = 8 from by decide]
    refine lm_G_br (b := 8 ≤ (nI 8)) (t := 27) (S' := []) rfl (fun hc => ?_) (fun hc => absurd (nI_le (a := 8) (Nat.le_refl _) (by omega)) hc)
    exact lm_G_re rfl trivial (Nat.zero_le _) (Nat.zero_le _) (hQ _ i0 i1)
  ·
    try dsimp only
    exact ⟨fun _ _ => rfl, fun i hi => absurd hi (Nat.not_lt_zero i), fun _ _ => rfl⟩
set_option maxRecDepth 10000 in
theorem m_takeHalf72 {X : lm_X} {d v : Nat} {M : Nat → Nat → Int32} {G : Nat → Nat → Int64} {Q : lm_O → lm_S → Prop} (hQ : ∀ M1, (∀ r, r ≠ 72 → M1 r = M r) → (∀ i, i < 8 → M1 72 i = M 72 (8 + i)) → Q (.inl none) (lm_T M1 v G)) : lm_Q X d 174 [.ref 72] (lm_T M v G) Q := by
  show lm_G X d 174 106 0 0 0 [some (.ref 72), none] [] (lm_T M v G) Q
  refine lm_G_sg 2 (pc' := 2) (L' := [some (.ref 72), some (.int 0)]) (S' := []) (σ' := lm_T M v G) rfl trivial ?_
  refine lm_ind (α := (Nat → Fn)) (St := fun (j : Nat) zz => (fun (M1 : Nat → Fn) => lm_G X d 174 106 0 0 2 [some (.ref 72), some (.int (nI j))] [] (lm_T M1 v G) Q) zz) (Inv := fun (j : Nat) zz => (fun (M1 : Nat → Fn) => (∀ r, r ≠ 72 → M1 r = M r) ∧ (∀ i, i < j → M1 72 i = M 72 (8 + i)) ∧ (∀ i, j ≤ i → M1 72 i = M 72 i)) zz) (8) (fun j zz hj hI ih => ?_) (fun zz hI => ?_) (0) M (by omega) ?_
  ·
    revert ih hI
    revert zz
    intro M1 hI ih
    replace hI : (∀ r, r ≠ 72 → M1 r = M r) ∧ (∀ i, i < j → M1 72 i = M 72 (8 + i)) ∧ (∀ i, j ≤ i → M1 72 i = M 72 i) := hI
    replace ih : ∀ (M1 : Nat → Fn) (_ : (∀ r, r ≠ 72 → M1 r = M r) ∧ (∀ i, i < (j + 1) → M1 72 i = M 72 (8 + i)) ∧ (∀ i, (j + 1) ≤ i → M1 72 i = M 72 i)), lm_G X d 174 106 0 0 2 [some (.ref 72), some (.int (nI (j + 1)))] [] (lm_T M1 v G) Q := fun M1 q => ih M1 q
    show lm_G X d 174 106 0 0 2 [some (.ref 72), some (.int (nI j))] [] (lm_T M1 v G) Q
    obtain ⟨i0, i1, i2⟩ := hI
    refine lm_G_sg 5 (pc' := 7) (L' := [some (.ref 72), some (.int (nI j))]) (S' := [.int (16 / 2), .int (nI j)]) (σ' := lm_T M1 v G) rfl ⟨(by decide), trivial, trivial⟩ ?_
    rw [show (16 : Int32) / 2 = 8 from by decide]
    refine lm_G_br (b := 8 ≤ (nI j)) (t := 27) (S' := []) rfl (fun hc => absurd hc (nI_ge (b := 8) hj (by omega))) (fun hc => ?_)
    refine lm_G_sg 7 (pc' := 17) (L' := [some (.ref 72), some (.int (nI j))]) (S' := [.int (16 / 2), .ref 72, .int (nI j), .ref 72]) (σ' := lm_T M1 v G) rfl ⟨(by decide), trivial, trivial⟩ ?_
    rw [show (16 : Int32) / 2 = 8 from by decide]
    refine lm_G_sg 2 (pc' := 19) (L' := [some (.ref 72), some (.int (nI j))]) (S' := [.int (8 + (nI j)), .ref 72, .int (nI j), .ref 72]) (σ' := lm_T M1 v G) rfl trivial ?_
    rw [show 8 + (nI j) = nI (8 + j) from nI_add 8 j]
    refine lm_G_sg 1 (pc' := 20) (L' := [some (.ref 72), some (.int (nI j))]) (S' := [.int (M1 72 (nI (8 + j)).toNatClampNeg), .int (nI j), .ref 72]) (σ' := lm_T M1 v G) rfl ⟨(vp_in_nI (by omega) (by omega)), trivial, trivial⟩ ?_
    rw [show (nI (8 + j)).toNatClampNeg = (8 + j) from nI_clamp (by omega)]
    rw [show M1 72 (8 + j) = M 72 (8 + j) from i2 (8 + j) (by omega)]
    refine lm_G_sg 1 (pc' := 21) (L' := [some (.ref 72), some (.int (nI j))]) (S' := []) (σ' := lm_T (lm_wr M1 72 ((nI j).toNatClampNeg) (M 72 (8 + j))) v G) rfl ⟨(vp_in_nI (by omega) (by omega)), trivial, trivial⟩ ?_
    rw [show (nI j).toNatClampNeg = j from nI_clamp (by omega)]
    refine lm_G_sg 1 (pc' := 24) (L' := [some (.ref 72), some (.int ((nI j) + 1))]) (S' := []) (σ' := lm_T (lm_wr M1 72 j (M 72 (8 + j))) v G) rfl trivial ?_
    rw [nI_1]
    refine lm_G_sg 1 (pc' := 2) (L' := [some (.ref 72), some (.int (nI (j + 1)))]) (S' := []) (σ' := lm_T (lm_wr M1 72 j (M 72 (8 + j))) v G) rfl trivial ?_
    exact ih _ (⟨fun r h => by rw [wr_row h]; exact i0 r h, fun i hi => by
          show upd (M1 72) j (M 72 (8 + j)) i = _
          by_cases e : i = j
          · rw [e, pk_us]
          · rw [pk_un e]; exact i1 i (by omega), fun i hi => by
          show upd (M1 72) j (M 72 (8 + j)) i = _
          rw [pk_un (by omega)]; exact i2 i (by omega)⟩)
  ·
    revert hI
    revert zz
    intro M1 hI
    replace hI : (∀ r, r ≠ 72 → M1 r = M r) ∧ (∀ i, i < 8 → M1 72 i = M 72 (8 + i)) ∧ (∀ i, 8 ≤ i → M1 72 i = M 72 i) := hI
    show lm_G X d 174 106 0 0 2 [some (.ref 72), some (.int (nI 8))] [] (lm_T M1 v G) Q
    obtain ⟨i0, i1, i2⟩ := hI
    refine lm_G_sg 5 (pc' := 7) (L' := [some (.ref 72), some (.int (nI 8))]) (S' := [.int (16 / 2), .int (nI 8)]) (σ' := lm_T M1 v G) rfl ⟨(by decide), trivial, trivial⟩ ?_
    rw [show (16 : Int32) / 2 = 8 from by decide]
    refine lm_G_br (b := 8 ≤ (nI 8)) (t := 27) (S' := []) rfl (fun hc => ?_) (fun hc => absurd (nI_le (a := 8) (Nat.le_refl _) (by omega)) hc)
    exact lm_G_re rfl trivial (Nat.zero_le _) (Nat.zero_le _) (hQ _ i0 i1)
  ·
    try dsimp only
    exact ⟨fun _ _ => rfl, fun i hi => absurd hi (Nat.not_lt_zero i), fun _ _ => rfl⟩
set_option maxRecDepth 10000 in
theorem m_takeHalf73 {X : lm_X} {d v : Nat} {M : Nat → Nat → Int32} {G : Nat → Nat → Int64} {Q : lm_O → lm_S → Prop} (hQ : ∀ M1, (∀ r, r ≠ 73 → M1 r = M r) → (∀ i, i < 8 → M1 73 i = M 73 (8 + i)) → Q (.inl none) (lm_T M1 v G)) : lm_Q X d 174 [.ref 73] (lm_T M v G) Q := by
  show lm_G X d 174 106 0 0 0 [some (.ref 73), none] [] (lm_T M v G) Q
  refine lm_G_sg 2 (pc' := 2) (L' := [some (.ref 73), some (.int 0)]) (S' := []) (σ' := lm_T M v G) rfl trivial ?_
  refine lm_ind (α := (Nat → Fn)) (St := fun (j : Nat) zz => (fun (M1 : Nat → Fn) => lm_G X d 174 106 0 0 2 [some (.ref 73), some (.int (nI j))] [] (lm_T M1 v G) Q) zz) (Inv := fun (j : Nat) zz => (fun (M1 : Nat → Fn) => (∀ r, r ≠ 73 → M1 r = M r) ∧ (∀ i, i < j → M1 73 i = M 73 (8 + i)) ∧ (∀ i, j ≤ i → M1 73 i = M 73 i)) zz) (8) (fun j zz hj hI ih => ?_) (fun zz hI => ?_) (0) M (by omega) ?_
  ·
    revert ih hI
    revert zz
    intro M1 hI ih
    replace hI : (∀ r, r ≠ 73 → M1 r = M r) ∧ (∀ i, i < j → M1 73 i = M 73 (8 + i)) ∧ (∀ i, j ≤ i → M1 73 i = M 73 i) := hI
    replace ih : ∀ (M1 : Nat → Fn) (_ : (∀ r, r ≠ 73 → M1 r = M r) ∧ (∀ i, i < (j + 1) → M1 73 i = M 73 (8 + i)) ∧ (∀ i, (j + 1) ≤ i → M1 73 i = M 73 i)), lm_G X d 174 106 0 0 2 [some (.ref 73), some (.int (nI (j + 1)))] [] (lm_T M1 v G) Q := fun M1 q => ih M1 q
    show lm_G X d 174 106 0 0 2 [some (.ref 73), some (.int (nI j))] [] (lm_T M1 v G) Q
    obtain ⟨i0, i1, i2⟩ := hI
    refine lm_G_sg 5 (pc' := 7) (L' := [some (.ref 73), some (.int (nI j))]) (S' := [.int (16 / 2), .int (nI j)]) (σ' := lm_T M1 v G) rfl ⟨(by decide), trivial, trivial⟩ ?_
    rw [show (16 : Int32) / 2 = 8 from by decide]
    refine lm_G_br (b := 8 ≤ (nI j)) (t := 27) (S' := []) rfl (fun hc => absurd hc (nI_ge (b := 8) hj (by omega))) (fun hc => ?_)
    refine lm_G_sg 7 (pc' := 17) (L' := [some (.ref 73), some (.int (nI j))]) (S' := [.int (16 / 2), .ref 73, .int (nI j), .ref 73]) (σ' := lm_T M1 v G) rfl ⟨(by decide), trivial, trivial⟩ ?_
    rw [show (16 : Int32) / 2 = 8 from by decide]
    refine lm_G_sg 2 (pc' := 19) (L' := [some (.ref 73), some (.int (nI j))]) (S' := [.int (8 + (nI j)), .ref 73, .int (nI j), .ref 73]) (σ' := lm_T M1 v G) rfl trivial ?_
    rw [show 8 + (nI j) = nI (8 + j) from nI_add 8 j]
    refine lm_G_sg 1 (pc' := 20) (L' := [some (.ref 73), some (.int (nI j))]) (S' := [.int (M1 73 (nI (8 + j)).toNatClampNeg), .int (nI j), .ref 73]) (σ' := lm_T M1 v G) rfl ⟨(vp_in_nI (by omega) (by omega)), trivial, trivial⟩ ?_
    rw [show (nI (8 + j)).toNatClampNeg = (8 + j) from nI_clamp (by omega)]
    rw [show M1 73 (8 + j) = M 73 (8 + j) from i2 (8 + j) (by omega)]
    refine lm_G_sg 1 (pc' := 21) (L' := [some (.ref 73), some (.int (nI j))]) (S' := []) (σ' := lm_T (lm_wr M1 73 ((nI j).toNatClampNeg) (M 73 (8 + j))) v G) rfl ⟨(vp_in_nI (by omega) (by omega)), trivial, trivial⟩ ?_
    rw [show (nI j).toNatClampNeg = j from nI_clamp (by omega)]
    refine lm_G_sg 1 (pc' := 24) (L' := [some (.ref 73), some (.int ((nI j) + 1))]) (S' := []) (σ' := lm_T (lm_wr M1 73 j (M 73 (8 + j))) v G) rfl trivial ?_
    rw [nI_1]
    refine lm_G_sg 1 (pc' := 2) (L' := [some (.ref 73), some (.int (nI (j + 1)))]) (S' := []) (σ' := lm_T (lm_wr M1 73 j (M 73 (8 + j))) v G) rfl trivial ?_
    exact ih _ (⟨fun r h => by rw [wr_row h]; exact i0 r h, fun i hi => by
          show upd (M1 73) j (M 73 (8 + j)) i = _
          by_cases e : i = j
          · rw [e, pk_us]
          · rw [pk_un e]; exact i1 i (by omega), fun i hi => by
          show upd (M1 73) j (M 73 (8 + j)) i = _
          rw [pk_un (by omega)]; exact i2 i (by omega)⟩)
  ·
    revert hI
    revert zz
    intro M1 hI
    replace hI : (∀ r, r ≠ 73 → M1 r = M r) ∧ (∀ i, i < 8 → M1 73 i = M 73 (8 + i)) ∧ (∀ i, 8 ≤ i → M1 73 i = M 73 i) := hI
    show lm_G X d 174 106 0 0 2 [some (.ref 73), some (.int (nI 8))] [] (lm_T M1 v G) Q
    obtain ⟨i0, i1, i2⟩ := hI
    refine lm_G_sg 5 (pc' := 7) (L' := [some (.ref 73), some (.int (nI 8))]) (S' := [.int (16 / 2), .int (nI 8)]) (σ' := lm_T M1 v G) rfl ⟨(by decide), trivial, trivial⟩ ?_
    rw [show (16 : Int32) / 2 = 8 from by decide]
    refine lm_G_br (b := 8 ≤ (nI 8)) (t := 27) (S' := []) rfl (fun hc => ?_) (fun hc => absurd (nI_le (a := 8) (Nat.le_refl _) (by omega)) hc)
    exact lm_G_re rfl trivial (Nat.zero_le _) (Nat.zero_le _) (hQ _ i0 i1)
  ·
    try dsimp only
    exact ⟨fun _ _ => rfl, fun i hi => absurd hi (Nat.not_lt_zero i), fun _ _ => rfl⟩
set_option maxRecDepth 10000 in
theorem m_takeHalf74 {X : lm_X} {d v : Nat} {M : Nat → Nat → Int32} {G : Nat → Nat → Int64} {Q : lm_O → lm_S → Prop} (hQ : ∀ M1, (∀ r, r ≠ 74 → M1 r = M r) → (∀ i, i < 6 → M1 74 i = M 74 (6 + i)) → Q (.inl none) (lm_T M1 v G)) : lm_Q X d 174 [.ref 74] (lm_T M v G) Q := by
  show lm_G X d 174 106 0 0 0 [some (.ref 74), none] [] (lm_T M v G) Q
  refine lm_G_sg 2 (pc' := 2) (L' := [some (.ref 74), some (.int 0)]) (S' := []) (σ' := lm_T M v G) rfl trivial ?_
  refine lm_ind (α := (Nat → Fn)) (St := fun (j : Nat) zz => (fun (M1 : Nat → Fn) => lm_G X d 174 106 0 0 2 [some (.ref 74), some (.int (nI j))] [] (lm_T M1 v G) Q) zz) (Inv := fun (j : Nat) zz => (fun (M1 : Nat → Fn) => (∀ r, r ≠ 74 → M1 r = M r) ∧ (∀ i, i < j → M1 74 i = M 74 (6 + i)) ∧ (∀ i, j ≤ i → M1 74 i = M 74 i)) zz) (6) (fun j zz hj hI ih => ?_) (fun zz hI => ?_) (0) M (by omega) ?_
  ·
    revert ih hI
    revert zz
    intro M1 hI ih
    replace hI : (∀ r, r ≠ 74 → M1 r = M r) ∧ (∀ i, i < j → M1 74 i = M 74 (6 + i)) ∧ (∀ i, j ≤ i → M1 74 i = M 74 i) := hI
    replace ih : ∀ (M1 : Nat → Fn) (_ : (∀ r, r ≠ 74 → M1 r = M r) ∧ (∀ i, i < (j + 1) → M1 74 i = M 74 (6 + i)) ∧ (∀ i, (j + 1) ≤ i → M1 74 i = M 74 i)), lm_G X d 174 106 0 0 2 [some (.ref 74), some (.int (nI (j + 1)))] [] (lm_T M1 v G) Q := fun M1 q => ih M1 q
    show lm_G X d 174 106 0 0 2 [some (.ref 74), some (.int (nI j))] [] (lm_T M1 v G) Q
    obtain ⟨i0, i1, i2⟩ := hI
    refine lm_G_sg 5 (pc' := 7) (L' := [some (.ref 74), some (.int (nI j))]) (S' := [.int (12 / 2), .int (nI j)]) (σ' := lm_T M1 v G) rfl ⟨(by decide), trivial, trivial⟩ ?_
    rw [show (12 : Int32) / 2 = 6 from by decide]
    refine lm_G_br (b := 6 ≤ (nI j)) (t := 27) (S' := []) rfl (fun hc => absurd hc (nI_ge (b := 6) hj (by omega))) (fun hc => ?_)
    refine lm_G_sg 7 (pc' := 17) (L' := [some (.ref 74), some (.int (nI j))]) (S' := [.int (12 / 2), .ref 74, .int (nI j), .ref 74]) (σ' := lm_T M1 v G) rfl ⟨(by decide), trivial, trivial⟩ ?_
    rw [show (12 : Int32) / 2 = 6 from by decide]
    refine lm_G_sg 2 (pc' := 19) (L' := [some (.ref 74), some (.int (nI j))]) (S' := [.int (6 + (nI j)), .ref 74, .int (nI j), .ref 74]) (σ' := lm_T M1 v G) rfl trivial ?_
    rw [show 6 + (nI j) = nI (6 + j) from nI_add 6 j]
    refine lm_G_sg 1 (pc' := 20) (L' := [some (.ref 74), some (.int (nI j))]) (S' := [.int (M1 74 (nI (6 + j)).toNatClampNeg), .int (nI j), .ref 74]) (σ' := lm_T M1 v G) rfl ⟨(vp_in_nI (by omega) (by omega)), trivial, trivial⟩ ?_
    rw [show (nI (6 + j)).toNatClampNeg = (6 + j) from nI_clamp (by omega)]
    rw [show M1 74 (6 + j) = M 74 (6 + j) from i2 (6 + j) (by omega)]
    refine lm_G_sg 1 (pc' := 21) (L' := [some (.ref 74), some (.int (nI j))]) (S' := []) (σ' := lm_T (lm_wr M1 74 ((nI j).toNatClampNeg) (M 74 (6 + j))) v G) rfl ⟨(vp_in_nI (by omega) (by omega)), trivial, trivial⟩ ?_
    rw [show (nI j).toNatClampNeg = j from nI_clamp (by omega)]
    refine lm_G_sg 1 (pc' := 24) (L' := [some (.ref 74), some (.int ((nI j) + 1))]) (S' := []) (σ' := lm_T (lm_wr M1 74 j (M 74 (6 + j))) v G) rfl trivial ?_
    rw [nI_1]
    refine lm_G_sg 1 (pc' := 2) (L' := [some (.ref 74), some (.int (nI (j + 1)))]) (S' := []) (σ' := lm_T (lm_wr M1 74 j (M 74 (6 + j))) v G) rfl trivial ?_
    exact ih _ (⟨fun r h => by rw [wr_row h]; exact i0 r h, fun i hi => by
          show upd (M1 74) j (M 74 (6 + j)) i = _
          by_cases e : i = j
          · rw [e, pk_us]
          · rw [pk_un e]; exact i1 i (by omega), fun i hi => by
          show upd (M1 74) j (M 74 (6 + j)) i = _
          rw [pk_un (by omega)]; exact i2 i (by omega)⟩)
  ·
    revert hI
    revert zz
    intro M1 hI
    replace hI : (∀ r, r ≠ 74 → M1 r = M r) ∧ (∀ i, i < 6 → M1 74 i = M 74 (6 + i)) ∧ (∀ i, 6 ≤ i → M1 74 i = M 74 i) := hI
    show lm_G X d 174 106 0 0 2 [some (.ref 74), some (.int (nI 6))] [] (lm_T M1 v G) Q
    obtain ⟨i0, i1, i2⟩ := hI
    refine lm_G_sg 5 (pc' := 7) (L' := [some (.ref 74), some (.int (nI 6))]) (S' := [.int (12 / 2), .int (nI 6)]) (σ' := lm_T M1 v G) rfl ⟨(by decide), trivial, trivial⟩ ?_
    rw [show (12 : Int32) / 2 = 6 from by decide]
    refine lm_G_br (b := 6 ≤ (nI 6)) (t := 27) (S' := []) rfl (fun hc => ?_) (fun hc => absurd (nI_le (a := 6) (Nat.le_refl _) (by omega)) hc)
    exact lm_G_re rfl trivial (Nat.zero_le _) (Nat.zero_le _) (hQ _ i0 i1)
  ·
    try dsimp only
    exact ⟨fun _ _ => rfl, fun i hi => absurd hi (Nat.not_lt_zero i), fun _ _ => rfl⟩
set_option maxRecDepth 10000 in
theorem m_takeHalf75 {X : lm_X} {d v : Nat} {M : Nat → Nat → Int32} {G : Nat → Nat → Int64} {Q : lm_O → lm_S → Prop} (hQ : ∀ M1, (∀ r, r ≠ 75 → M1 r = M r) → (∀ i, i < 6 → M1 75 i = M 75 (6 + i)) → Q (.inl none) (lm_T M1 v G)) : lm_Q X d 174 [.ref 75] (lm_T M v G) Q := by
  show lm_G X d 174 106 0 0 0 [some (.ref 75), none] [] (lm_T M v G) Q
  refine lm_G_sg 2 (pc' := 2) (L' := [some (.ref 75), some (.int 0)]) (S' := []) (σ' := lm_T M v G) rfl trivial ?_
  refine lm_ind (α := (Nat → Fn)) (St := fun (j : Nat) zz => (fun (M1 : Nat → Fn) => lm_G X d 174 106 0 0 2 [some (.ref 75), some (.int (nI j))] [] (lm_T M1 v G) Q) zz) (Inv := fun (j : Nat) zz => (fun (M1 : Nat → Fn) => (∀ r, r ≠ 75 → M1 r = M r) ∧ (∀ i, i < j → M1 75 i = M 75 (6 + i)) ∧ (∀ i, j ≤ i → M1 75 i = M 75 i)) zz) (6) (fun j zz hj hI ih => ?_) (fun zz hI => ?_) (0) M (by omega) ?_
  ·
    revert ih hI
    revert zz
    intro M1 hI ih
    replace hI : (∀ r, r ≠ 75 → M1 r = M r) ∧ (∀ i, i < j → M1 75 i = M 75 (6 + i)) ∧ (∀ i, j ≤ i → M1 75 i = M 75 i) := hI
    replace ih : ∀ (M1 : Nat → Fn) (_ : (∀ r, r ≠ 75 → M1 r = M r) ∧ (∀ i, i < (j + 1) → M1 75 i = M 75 (6 + i)) ∧ (∀ i, (j + 1) ≤ i → M1 75 i = M 75 i)), lm_G X d 174 106 0 0 2 [some (.ref 75), some (.int (nI (j + 1)))] [] (lm_T M1 v G) Q := fun M1 q => ih M1 q
    show lm_G X d 174 106 0 0 2 [some (.ref 75), some (.int (nI j))] [] (lm_T M1 v G) Q
    obtain ⟨i0, i1, i2⟩ := hI
    refine lm_G_sg 5 (pc' := 7) (L' := [some (.ref 75), some (.int (nI j))]) (S' := [.int (12 / 2), .int (nI j)]) (σ' := lm_T M1 v G) rfl ⟨(by decide), trivial, trivial⟩ ?_
    rw [show (12 : Int32) / 2 = 6 from by decide]
    refine lm_G_br (b := 6 ≤ (nI j)) (t := 27) (S' := []) rfl (fun hc => absurd hc (nI_ge (b := 6) hj (by omega))) (fun hc => ?_)
    refine lm_G_sg 7 (pc' := 17) (L' := [some (.ref 75), some (.int (nI j))]) (S' := [.int (12 / 2), .ref 75, .int (nI j), .ref 75]) (σ' := lm_T M1 v G) rfl ⟨(by decide), trivial, trivial⟩ ?_
    rw [show (12 : Int32) / 2 = 6 from by decide]
    refine lm_G_sg 2 (pc' := 19) (L' := [some (.ref 75), some (.int (nI j))]) (S' := [.int (6 + (nI j)), .ref 75, .int (nI j), .ref 75]) (σ' := lm_T M1 v G) rfl trivial ?_
    rw [show 6 + (nI j) = nI (6 + j) from nI_add 6 j]
    refine lm_G_sg 1 (pc' := 20) (L' := [some (.ref 75), some (.int (nI j))]) (S' := [.int (M1 75 (nI (6 + j)).toNatClampNeg), .int (nI j), .ref 75]) (σ' := lm_T M1 v G) rfl ⟨(vp_in_nI (by omega) (by omega)), trivial, trivial⟩ ?_
    rw [show (nI (6 + j)).toNatClampNeg = (6 + j) from nI_clamp (by omega)]
    rw [show M1 75 (6 + j) = M 75 (6 + j) from i2 (6 + j) (by omega)]
    refine lm_G_sg 1 (pc' := 21) (L' := [some (.ref 75), some (.int (nI j))]) (S' := []) (σ' := lm_T (lm_wr M1 75 ((nI j).toNatClampNeg) (M 75 (6 + j))) v G) rfl ⟨(vp_in_nI (by omega) (by omega)), trivial, trivial⟩ ?_
    rw [show (nI j).toNatClampNeg = j from nI_clamp (by omega)]
    refine lm_G_sg 1 (pc' := 24) (L' := [some (.ref 75), some (.int ((nI j) + 1))]) (S' := []) (σ' := lm_T (lm_wr M1 75 j (M 75 (6 + j))) v G) rfl trivial ?_
    rw [nI_1]
    refine lm_G_sg 1 (pc' := 2) (L' := [some (.ref 75), some (.int (nI (j + 1)))]) (S' := []) (σ' := lm_T (lm_wr M1 75 j (M 75 (6 + j))) v G) rfl trivial ?_
    exact ih _ (⟨fun r h => by rw [wr_row h]; exact i0 r h, fun i hi => by
          show upd (M1 75) j (M 75 (6 + j)) i = _
          by_cases e : i = j
          · rw [e, pk_us]
          · rw [pk_un e]; exact i1 i (by omega), fun i hi => by
          show upd (M1 75) j (M 75 (6 + j)) i = _
          rw [pk_un (by omega)]; exact i2 i (by omega)⟩)
  ·
    revert hI
    revert zz
    intro M1 hI
    replace hI : (∀ r, r ≠ 75 → M1 r = M r) ∧ (∀ i, i < 6 → M1 75 i = M 75 (6 + i)) ∧ (∀ i, 6 ≤ i → M1 75 i = M 75 i) := hI
    show lm_G X d 174 106 0 0 2 [some (.ref 75), some (.int (nI 6))] [] (lm_T M1 v G) Q
    obtain ⟨i0, i1, i2⟩ := hI
    refine lm_G_sg 5 (pc' := 7) (L' := [some (.ref 75), some (.int (nI 6))]) (S' := [.int (12 / 2), .int (nI 6)]) (σ' := lm_T M1 v G) rfl ⟨(by decide), trivial, trivial⟩ ?_
    rw [show (12 : Int32) / 2 = 6 from by decide]
    refine lm_G_br (b := 6 ≤ (nI 6)) (t := 27) (S' := []) rfl (fun hc => ?_) (fun hc => absurd (nI_le (a := 6) (Nat.le_refl _) (by omega)) hc)
    exact lm_G_re rfl trivial (Nat.zero_le _) (Nat.zero_le _) (hQ _ i0 i1)
  ·
    try dsimp only
    exact ⟨fun _ _ => rfl, fun i hi => absurd hi (Nat.not_lt_zero i), fun _ _ => rfl⟩
set_option maxRecDepth 10000 in
theorem m_takeHalf76 {X : lm_X} {d v : Nat} {M : Nat → Nat → Int32} {G : Nat → Nat → Int64} {Q : lm_O → lm_S → Prop} (hQ : ∀ M1, (∀ r, r ≠ 76 → M1 r = M r) → (∀ i, i < 700 → M1 76 i = M 76 (700 + i)) → Q (.inl none) (lm_T M1 v G)) : lm_Q X d 174 [.ref 76] (lm_T M v G) Q := by
  show lm_G X d 174 106 0 0 0 [some (.ref 76), none] [] (lm_T M v G) Q
  refine lm_G_sg 2 (pc' := 2) (L' := [some (.ref 76), some (.int 0)]) (S' := []) (σ' := lm_T M v G) rfl trivial ?_
  refine lm_ind (α := (Nat → Fn)) (St := fun (j : Nat) zz => (fun (M1 : Nat → Fn) => lm_G X d 174 106 0 0 2 [some (.ref 76), some (.int (nI j))] [] (lm_T M1 v G) Q) zz) (Inv := fun (j : Nat) zz => (fun (M1 : Nat → Fn) => (∀ r, r ≠ 76 → M1 r = M r) ∧ (∀ i, i < j → M1 76 i = M 76 (700 + i)) ∧ (∀ i, j ≤ i → M1 76 i = M 76 i)) zz) (700) (fun j zz hj hI ih => ?_) (fun zz hI => ?_) (0) M (by omega) ?_
  ·
    revert ih hI
    revert zz
    intro M1 hI ih
    replace hI : (∀ r, r ≠ 76 → M1 r = M r) ∧ (∀ i, i < j → M1 76 i = M 76 (700 + i)) ∧ (∀ i, j ≤ i → M1 76 i = M 76 i) := hI
    replace ih : ∀ (M1 : Nat → Fn) (_ : (∀ r, r ≠ 76 → M1 r = M r) ∧ (∀ i, i < (j + 1) → M1 76 i = M 76 (700 + i)) ∧ (∀ i, (j + 1) ≤ i → M1 76 i = M 76 i)), lm_G X d 174 106 0 0 2 [some (.ref 76), some (.int (nI (j + 1)))] [] (lm_T M1 v G) Q := fun M1 q => ih M1 q
    show lm_G X d 174 106 0 0 2 [some (.ref 76), some (.int (nI j))] [] (lm_T M1 v G) Q
    obtain ⟨i0, i1, i2⟩ := hI
    refine lm_G_sg 5 (pc' := 7) (L' := [some (.ref 76), some (.int (nI j))]) (S' := [.int (1400 / 2), .int (nI j)]) (σ' := lm_T M1 v G) rfl ⟨(by decide), trivial, trivial⟩ ?_
    rw [show (1400 : Int32) / 2 = 700 from by decide]
    refine lm_G_br (b := 700 ≤ (nI j)) (t := 27) (S' := []) rfl (fun hc => absurd hc (nI_ge (b := 700) hj (by omega))) (fun hc => ?_)
    refine lm_G_sg 7 (pc' := 17) (L' := [some (.ref 76), some (.int (nI j))]) (S' := [.int (1400 / 2), .ref 76, .int (nI j), .ref 76]) (σ' := lm_T M1 v G) rfl ⟨(by decide), trivial, trivial⟩ ?_
    rw [show (1400 : Int32) / 2 = 700 from by decide]
    refine lm_G_sg 2 (pc' := 19) (L' := [some (.ref 76), some (.int (nI j))]) (S' := [.int (700 + (nI j)), .ref 76, .int (nI j), .ref 76]) (σ' := lm_T M1 v G) rfl trivial ?_
    rw [show 700 + (nI j) = nI (700 + j) from nI_add 700 j]
    refine lm_G_sg 1 (pc' := 20) (L' := [some (.ref 76), some (.int (nI j))]) (S' := [.int (M1 76 (nI (700 + j)).toNatClampNeg), .int (nI j), .ref 76]) (σ' := lm_T M1 v G) rfl ⟨(vp_in_nI (by omega) (by omega)), trivial, trivial⟩ ?_
    rw [show (nI (700 + j)).toNatClampNeg = (700 + j) from nI_clamp (by omega)]
    rw [show M1 76 (700 + j) = M 76 (700 + j) from i2 (700 + j) (by omega)]
    refine lm_G_sg 1 (pc' := 21) (L' := [some (.ref 76), some (.int (nI j))]) (S' := []) (σ' := lm_T (lm_wr M1 76 ((nI j).toNatClampNeg) (M 76 (700 + j))) v G) rfl ⟨(vp_in_nI (by omega) (by omega)), trivial, trivial⟩ ?_
    rw [show (nI j).toNatClampNeg = j from nI_clamp (by omega)]
    refine lm_G_sg 1 (pc' := 24) (L' := [some (.ref 76), some (.int ((nI j) + 1))]) (S' := []) (σ' := lm_T (lm_wr M1 76 j (M 76 (700 + j))) v G) rfl trivial ?_
    rw [nI_1]
    refine lm_G_sg 1 (pc' := 2) (L' := [some (.ref 76), some (.int (nI (j + 1)))]) (S' := []) (σ' := lm_T (lm_wr M1 76 j (M 76 (700 + j))) v G) rfl trivial ?_
    exact ih _ (⟨fun r h => by rw [wr_row h]; exact i0 r h, fun i hi => by
          show upd (M1 76) j (M 76 (700 + j)) i = _
          by_cases e : i = j
          · rw [e, pk_us]
          · rw [pk_un e]; exact i1 i (by omega), fun i hi => by
          show upd (M1 76) j (M 76 (700 + j)) i = _
          rw [pk_un (by omega)]; exact i2 i (by omega)⟩)
  ·
    revert hI
    revert zz
    intro M1 hI
    replace hI : (∀ r, r ≠ 76 → M1 r = M r) ∧ (∀ i, i < 700 → M1 76 i = M 76 (700 + i)) ∧ (∀ i, 700 ≤ i → M1 76 i = M 76 i) := hI
    show lm_G X d 174 106 0 0 2 [some (.ref 76), some (.int (nI 700))] [] (lm_T M1 v G) Q
    obtain ⟨i0, i1, i2⟩ := hI
    refine lm_G_sg 5 (pc' := 7) (L' := [some (.ref 76), some (.int (nI 700))]) (S' := [.int (1400 / 2), .int (nI 700)]) (σ' := lm_T M1 v G) rfl ⟨(by decide), trivial, trivial⟩ ?_
    rw [show (1400 : Int32) / 2 = 700 from by decide]
    refine lm_G_br (b := 700 ≤ (nI 700)) (t := 27) (S' := []) rfl (fun hc => ?_) (fun hc => absurd (nI_le (a := 700) (Nat.le_refl _) (by omega)) hc)
    exact lm_G_re rfl trivial (Nat.zero_le _) (Nat.zero_le _) (hQ _ i0 i1)
  ·
    try dsimp only
    exact ⟨fun _ _ => rfl, fun i hi => absurd hi (Nat.not_lt_zero i), fun _ _ => rfl⟩
set_option maxRecDepth 10000 in
theorem m_takeHalf77 {X : lm_X} {d v : Nat} {M : Nat → Nat → Int32} {G : Nat → Nat → Int64} {Q : lm_O → lm_S → Prop} (hQ : ∀ M1, (∀ r, r ≠ 77 → M1 r = M r) → (∀ i, i < 700 → M1 77 i = M 77 (700 + i)) → Q (.inl none) (lm_T M1 v G)) : lm_Q X d 174 [.ref 77] (lm_T M v G) Q := by
  show lm_G X d 174 106 0 0 0 [some (.ref 77), none] [] (lm_T M v G) Q
  refine lm_G_sg 2 (pc' := 2) (L' := [some (.ref 77), some (.int 0)]) (S' := []) (σ' := lm_T M v G) rfl trivial ?_
  refine lm_ind (α := (Nat → Fn)) (St := fun (j : Nat) zz => (fun (M1 : Nat → Fn) => lm_G X d 174 106 0 0 2 [some (.ref 77), some (.int (nI j))] [] (lm_T M1 v G) Q) zz) (Inv := fun (j : Nat) zz => (fun (M1 : Nat → Fn) => (∀ r, r ≠ 77 → M1 r = M r) ∧ (∀ i, i < j → M1 77 i = M 77 (700 + i)) ∧ (∀ i, j ≤ i → M1 77 i = M 77 i)) zz) (700) (fun j zz hj hI ih => ?_) (fun zz hI => ?_) (0) M (by omega) ?_
  ·
    revert ih hI
    revert zz
    intro M1 hI ih
    replace hI : (∀ r, r ≠ 77 → M1 r = M r) ∧ (∀ i, i < j → M1 77 i = M 77 (700 + i)) ∧ (∀ i, j ≤ i → M1 77 i = M 77 i) := hI
    replace ih : ∀ (M1 : Nat → Fn) (_ : (∀ r, r ≠ 77 → M1 r = M r) ∧ (∀ i, i < (j + 1) → M1 77 i = M 77 (700 + i)) ∧ (∀ i, (j + 1) ≤ i → M1 77 i = M 77 i)), lm_G X d 174 106 0 0 2 [some (.ref 77), some (.int (nI (j + 1)))] [] (lm_T M1 v G) Q := fun M1 q => ih M1 q
    show lm_G X d 174 106 0 0 2 [some (.ref 77), some (.int (nI j))] [] (lm_T M1 v G) Q
    obtain ⟨i0, i1, i2⟩ := hI
    refine lm_G_sg 5 (pc' := 7) (L' := [some (.ref 77), some (.int (nI j))]) (S' := [.int (1400 / 2), .int (nI j)]) (σ' := lm_T M1 v G) rfl ⟨(by decide), trivial, trivial⟩ ?_
    rw [show (1400 : Int32) / 2 = 700 from by decide]
    refine lm_G_br (b := 700 ≤ (nI j)) (t := 27) (S' := []) rfl (fun hc => absurd hc (nI_ge (b := 700) hj (by omega))) (fun hc => ?_)
    refine lm_G_sg 7 (pc' := 17) (L' := [some (.ref 77), some (.int (nI j))]) (S' := [.int (1400 / 2), .ref 77, .int (nI j), .ref 77]) (σ' := lm_T M1 v G) rfl ⟨(by decide), trivial, trivial⟩ ?_
    rw [show (1400 : Int32) / 2 = 700 from by decide]
    refine lm_G_sg 2 (pc' := 19) (L' := [some (.ref 77), some (.int (nI j))]) (S' := [.int (700 + (nI j)), .ref 77, .int (nI j), .ref 77]) (σ' := lm_T M1 v G) rfl trivial ?_
    rw [show 700 + (nI j) = nI (700 + j) from nI_add 700 j]
    refine lm_G_sg 1 (pc' := 20) (L' := [some (.ref 77), some (.int (nI j))]) (S' := [.int (M1 77 (nI (700 + j)).toNatClampNeg), .int (nI j), .ref 77]) (σ' := lm_T M1 v G) rfl ⟨(vp_in_nI (by omega) (by omega)), trivial, trivial⟩ ?_
    rw [show (nI (700 + j)).toNatClampNeg = (700 + j) from nI_clamp (by omega)]
    rw [show M1 77 (700 + j) = M 77 (700 + j) from i2 (700 + j) (by omega)]
    refine lm_G_sg 1 (pc' := 21) (L' := [some (.ref 77), some (.int (nI j))]) (S' := []) (σ' := lm_T (lm_wr M1 77 ((nI j).toNatClampNeg) (M 77 (700 + j))) v G) rfl ⟨(vp_in_nI (by omega) (by omega)), trivial, trivial⟩ ?_
    rw [show (nI j).toNatClampNeg = j from nI_clamp (by omega)]
    refine lm_G_sg 1 (pc' := 24) (L' := [some (.ref 77), some (.int ((nI j) + 1))]) (S' := []) (σ' := lm_T (lm_wr M1 77 j (M 77 (700 + j))) v G) rfl trivial ?_
    rw [nI_1]
    refine lm_G_sg 1 (pc' := 2) (L' := [some (.ref 77), some (.int (nI (j + 1)))]) (S' := []) (σ' := lm_T (lm_wr M1 77 j (M 77 (700 + j))) v G) rfl trivial ?_
    exact ih _ (⟨fun r h => by rw [wr_row h]; exact i0 r h, fun i hi => by
          show upd (M1 77) j (M 77 (700 + j)) i = _
          by_cases e : i = j
          · rw [e, pk_us]
          · rw [pk_un e]; exact i1 i (by omega), fun i hi => by
          show upd (M1 77) j (M 77 (700 + j)) i = _
          rw [pk_un (by omega)]; exact i2 i (by omega)⟩)
  ·
    revert hI
    revert zz
    intro M1 hI
    replace hI : (∀ r, r ≠ 77 → M1 r = M r) ∧ (∀ i, i < 700 → M1 77 i = M 77 (700 + i)) ∧ (∀ i, 700 ≤ i → M1 77 i = M 77 i) := hI
    show lm_G X d 174 106 0 0 2 [some (.ref 77), some (.int (nI 700))] [] (lm_T M1 v G) Q
    obtain ⟨i0, i1, i2⟩ := hI
    refine lm_G_sg 5 (pc' := 7) (L' := [some (.ref 77), some (.int (nI 700))]) (S' := [.int (1400 / 2), .int (nI 700)]) (σ' := lm_T M1 v G) rfl ⟨(by decide), trivial, trivial⟩ ?_
    rw [show (1400 : Int32) / 2 = 700 from by decide]
    refine lm_G_br (b := 700 ≤ (nI 700)) (t := 27) (S' := []) rfl (fun hc => ?_) (fun hc => absurd (nI_le (a := 700) (Nat.le_refl _) (by omega)) hc)
    exact lm_G_re rfl trivial (Nat.zero_le _) (Nat.zero_le _) (hQ _ i0 i1)
  ·
    try dsimp only
    exact ⟨fun _ _ => rfl, fun i hi => absurd hi (Nat.not_lt_zero i), fun _ _ => rfl⟩
set_option maxRecDepth 10000 in
theorem m_takeOver {X : lm_X} {d v : Nat} {M : Nat → Nat → Int32} {G : Nat → Nat → Int64} {Q : lm_O → lm_S → Prop} {D : Dr} (hd : DM M D) (hD : okD D) (hQ : ∀ M1, RM M1 (toF D) (toS D) → M1 64 37 = 0 → M1 64 38 = 0 → M1 64 54 = 0 → (∀ k, k ≠ 36 → k ≠ 37 → k ≠ 38 → k ≠ 54 → M1 64 k = M 64 k) → (∀ r, r < 64 ∨ r = 78 ∨ r = 80 ∨ 87 ≤ r → M1 r = M r) → Q (.inl none) (lm_T M1 v G)) : lm_Q X (d + 1) 175 [.ref 64] (lm_T M v G) Q := by
  show lm_G X (d + 1) 175 106 0 0 0 [some (.ref 64), none, none] [] (lm_T M v G) Q
  refine lm_G_sg 2 (pc' := 4) (L' := [some (.ref 64), none, none]) (S' := [.ref 68]) (σ' := lm_T M v G) rfl trivial ?_
  refine lm_G_ca (j := 174) (as := [.ref 68]) (rest := []) rfl (Or.inl rfl) (Nat.le_of_ble_eq_true rfl) (Nat.le_of_ble_eq_true rfl) (Nat.le_of_ble_eq_true rfl) (Nat.le_of_ble_eq_true rfl) rfl ?_
  refine m_takeHalf68 (fun M1 a1 b1 => ?_)
  show lm_G X (d + 1) 175 106 0 0 7 [some (.ref 64), none, none] [] (lm_T M1 v G) Q
  refine lm_G_sg 2 (pc' := 11) (L' := [some (.ref 64), none, none]) (S' := [.ref 69]) (σ' := lm_T M1 v G) rfl trivial ?_
  refine lm_G_ca (j := 174) (as := [.ref 69]) (rest := []) rfl (Or.inl rfl) (Nat.le_of_ble_eq_true rfl) (Nat.le_of_ble_eq_true rfl) (Nat.le_of_ble_eq_true rfl) (Nat.le_of_ble_eq_true rfl) rfl ?_
  refine m_takeHalf69 (fun M2 a2 b2 => ?_)
  show lm_G X (d + 1) 175 106 0 0 14 [some (.ref 64), none, none] [] (lm_T M2 v G) Q
  refine lm_G_sg 2 (pc' := 18) (L' := [some (.ref 64), none, none]) (S' := [.ref 70]) (σ' := lm_T M2 v G) rfl trivial ?_
  refine lm_G_ca (j := 174) (as := [.ref 70]) (rest := []) rfl (Or.inl rfl) (Nat.le_of_ble_eq_true rfl) (Nat.le_of_ble_eq_true rfl) (Nat.le_of_ble_eq_true rfl) (Nat.le_of_ble_eq_true rfl) rfl ?_
  refine m_takeHalf70 (fun M3 a3 b3 => ?_)
  show lm_G X (d + 1) 175 106 0 0 21 [some (.ref 64), none, none] [] (lm_T M3 v G) Q
  refine lm_G_sg 2 (pc' := 25) (L' := [some (.ref 64), none, none]) (S' := [.ref 71]) (σ' := lm_T M3 v G) rfl trivial ?_
  refine lm_G_ca (j := 174) (as := [.ref 71]) (rest := []) rfl (Or.inl rfl) (Nat.le_of_ble_eq_true rfl) (Nat.le_of_ble_eq_true rfl) (Nat.le_of_ble_eq_true rfl) (Nat.le_of_ble_eq_true rfl) rfl ?_
  refine m_takeHalf71 (fun M4 a4 b4 => ?_)
  show lm_G X (d + 1) 175 106 0 0 28 [some (.ref 64), none, none] [] (lm_T M4 v G) Q
  refine lm_G_sg 2 (pc' := 32) (L' := [some (.ref 64), none, none]) (S' := [.ref 72]) (σ' := lm_T M4 v G) rfl trivial ?_
  refine lm_G_ca (j := 174) (as := [.ref 72]) (rest := []) rfl (Or.inl rfl) (Nat.le_of_ble_eq_true rfl) (Nat.le_of_ble_eq_true rfl) (Nat.le_of_ble_eq_true rfl) (Nat.le_of_ble_eq_true rfl) rfl ?_
  refine m_takeHalf72 (fun M5 a5 b5 => ?_)
  show lm_G X (d + 1) 175 106 0 0 35 [some (.ref 64), none, none] [] (lm_T M5 v G) Q
  refine lm_G_sg 2 (pc' := 39) (L' := [some (.ref 64), none, none]) (S' := [.ref 73]) (σ' := lm_T M5 v G) rfl trivial ?_
  refine lm_G_ca (j := 174) (as := [.ref 73]) (rest := []) rfl (Or.inl rfl) (Nat.le_of_ble_eq_true rfl) (Nat.le_of_ble_eq_true rfl) (Nat.le_of_ble_eq_true rfl) (Nat.le_of_ble_eq_true rfl) rfl ?_
  refine m_takeHalf73 (fun M6 a6 b6 => ?_)
  show lm_G X (d + 1) 175 106 0 0 42 [some (.ref 64), none, none] [] (lm_T M6 v G) Q
  refine lm_G_sg 2 (pc' := 46) (L' := [some (.ref 64), none, none]) (S' := [.ref 74]) (σ' := lm_T M6 v G) rfl trivial ?_
  refine lm_G_ca (j := 174) (as := [.ref 74]) (rest := []) rfl (Or.inl rfl) (Nat.le_of_ble_eq_true rfl) (Nat.le_of_ble_eq_true rfl) (Nat.le_of_ble_eq_true rfl) (Nat.le_of_ble_eq_true rfl) rfl ?_
  refine m_takeHalf74 (fun M7 a7 b7 => ?_)
  show lm_G X (d + 1) 175 106 0 0 49 [some (.ref 64), none, none] [] (lm_T M7 v G) Q
  refine lm_G_sg 2 (pc' := 53) (L' := [some (.ref 64), none, none]) (S' := [.ref 75]) (σ' := lm_T M7 v G) rfl trivial ?_
  refine lm_G_ca (j := 174) (as := [.ref 75]) (rest := []) rfl (Or.inl rfl) (Nat.le_of_ble_eq_true rfl) (Nat.le_of_ble_eq_true rfl) (Nat.le_of_ble_eq_true rfl) (Nat.le_of_ble_eq_true rfl) rfl ?_
  refine m_takeHalf75 (fun M8 a8 b8 => ?_)
  show lm_G X (d + 1) 175 106 0 0 56 [some (.ref 64), none, none] [] (lm_T M8 v G) Q
  refine lm_G_sg 2 (pc' := 60) (L' := [some (.ref 64), none, none]) (S' := [.ref 76]) (σ' := lm_T M8 v G) rfl trivial ?_
  refine lm_G_ca (j := 174) (as := [.ref 76]) (rest := []) rfl (Or.inl rfl) (Nat.le_of_ble_eq_true rfl) (Nat.le_of_ble_eq_true rfl) (Nat.le_of_ble_eq_true rfl) (Nat.le_of_ble_eq_true rfl) rfl ?_
  refine m_takeHalf76 (fun M9 a9 b9 => ?_)
  show lm_G X (d + 1) 175 106 0 0 63 [some (.ref 64), none, none] [] (lm_T M9 v G) Q
  refine lm_G_sg 2 (pc' := 67) (L' := [some (.ref 64), none, none]) (S' := [.ref 77]) (σ' := lm_T M9 v G) rfl trivial ?_
  refine lm_G_ca (j := 174) (as := [.ref 77]) (rest := []) rfl (Or.inl rfl) (Nat.le_of_ble_eq_true rfl) (Nat.le_of_ble_eq_true rfl) (Nat.le_of_ble_eq_true rfl) (Nat.le_of_ble_eq_true rfl) rfl ?_
  refine m_takeHalf77 (fun M10 a10 b10 => ?_)
  show lm_G X (d + 1) 175 106 0 0 70 [some (.ref 64), none, none] [] (lm_T M10 v G) Q
  have h68 : ∀ i, i < 5 → M10 68 i = M 68 (5 + i) := fun i hi => by
    rw [a10 68 (by decide), a9 68 (by decide), a8 68 (by decide), a7 68 (by decide), a6 68 (by decide), a5 68 (by decide), a4 68 (by decide), a3 68 (by decide), a2 68 (by decide), b1 i hi]
  have h69 : ∀ i, i < 8 → M10 69 i = M 69 (8 + i) := fun i hi => by
    rw [a10 69 (by decide), a9 69 (by decide), a8 69 (by decide), a7 69 (by decide), a6 69 (by decide), a5 69 (by decide), a4 69 (by decide), a3 69 (by decide), b2 i hi, a1 69 (by decide)]
  have h70 : ∀ i, i < 8 → M10 70 i = M 70 (8 + i) := fun i hi => by
    rw [a10 70 (by decide), a9 70 (by decide), a8 70 (by decide), a7 70 (by decide), a6 70 (by decide), a5 70 (by decide), a4 70 (by decide), b3 i hi, a2 70 (by decide), a1 70 (by decide)]
  have h71 : ∀ i, i < 8 → M10 71 i = M 71 (8 + i) := fun i hi => by
    rw [a10 71 (by decide), a9 71 (by decide), a8 71 (by decide), a7 71 (by decide), a6 71 (by decide), a5 71 (by decide), b4 i hi, a3 71 (by decide), a2 71 (by decide), a1 71 (by decide)]
  have h72 : ∀ i, i < 8 → M10 72 i = M 72 (8 + i) := fun i hi => by
    rw [a10 72 (by decide), a9 72 (by decide), a8 72 (by decide), a7 72 (by decide), a6 72 (by decide), b5 i hi, a4 72 (by decide), a3 72 (by decide), a2 72 (by decide), a1 72 (by decide)]
  have h73 : ∀ i, i < 8 → M10 73 i = M 73 (8 + i) := fun i hi => by
    rw [a10 73 (by decide), a9 73 (by decide), a8 73 (by decide), a7 73 (by decide), b6 i hi, a5 73 (by decide), a4 73 (by decide), a3 73 (by decide), a2 73 (by decide), a1 73 (by decide)]
  have h74 : ∀ i, i < 6 → M10 74 i = M 74 (6 + i) := fun i hi => by
    rw [a10 74 (by decide), a9 74 (by decide), a8 74 (by decide), b7 i hi, a6 74 (by decide), a5 74 (by decide), a4 74 (by decide), a3 74 (by decide), a2 74 (by decide), a1 74 (by decide)]
  have h75 : ∀ i, i < 6 → M10 75 i = M 75 (6 + i) := fun i hi => by
    rw [a10 75 (by decide), a9 75 (by decide), b8 i hi, a7 75 (by decide), a6 75 (by decide), a5 75 (by decide), a4 75 (by decide), a3 75 (by decide), a2 75 (by decide), a1 75 (by decide)]
  have h76 : ∀ i, i < 700 → M10 76 i = M 76 (700 + i) := fun i hi => by
    rw [a10 76 (by decide), b9 i hi, a8 76 (by decide), a7 76 (by decide), a6 76 (by decide), a5 76 (by decide), a4 76 (by decide), a3 76 (by decide), a2 76 (by decide), a1 76 (by decide)]
  have h77 : ∀ i, i < 700 → M10 77 i = M 77 (700 + i) := fun i hi => by
    rw [b10 i hi, a9 77 (by decide), a8 77 (by decide), a7 77 (by decide), a6 77 (by decide), a5 77 (by decide), a4 77 (by decide), a3 77 (by decide), a2 77 (by decide), a1 77 (by decide)]
  have ho : ∀ r, r < 68 ∨ 77 < r → M10 r = M r := fun r hr => by
    rw [a10 r (by omega), a9 r (by omega), a8 r (by omega), a7 r (by omega), a6 r (by omega), a5 r (by omega), a4 r (by omega), a3 r (by omega), a2 r (by omega), a1 r (by omega)]
  clear a10 b10 a9 b9 a8 b8 a7 b7 a6 b6 a5 b5 a4 b4 a3 b3 a2 b2 a1 b1
  obtain ⟨q1, q2, q3, q4, q5, q6, q7, q8, q9, q10, q11, q12⟩ := hd
  have hN := hD.1
  have hM := hD.2.1
  have n0 : M10 68 0 = nI (dNo D) := (h68 0 (by decide)).trans q1
  have n1 : M10 68 1 = nI (dM D) := (h68 1 (by decide)).trans q2
  refine lm_G_sg 5 (pc' := 77) (L' := [some (.ref 64), some (.int 0), none]) (S' := []) (σ' := lm_T (lm_wr M10 64 36 0) v G) rfl ⟨trivial, trivial, trivial⟩ ?_
  have c36 : (lm_wr M10 64 36 0) 64 36 = 0 := rfl
  have c64 : ∀ k, k ≠ 36 → (lm_wr M10 64 36 0) 64 k = M10 64 k := fun k hk => wr_at hk
  have co : ∀ r, r ≠ 64 → (lm_wr M10 64 36 0) r = M10 r := fun r h => wr_row h
  revert c36 c64 co
  generalize lm_wr M10 64 36 0 = N0
  intro c36 c64 co
  refine lm_ind (α := (Nat → Fn)) (St := fun (j : Nat) zz => (fun (A1 : Nat → Fn) => lm_G X (d + 1) 175 106 0 0 77 [some (.ref 64), some (.int (nI j)), none] [] (lm_T A1 v G) Q) zz) (Inv := fun (j : Nat) zz => (fun (A1 : Nat → Fn) => (∀ r, r ≠ 79 → r ≠ 82 → r ≠ 83 → r ≠ 84 → r ≠ 85 → r ≠ 86 → A1 r = N0 r) ∧ (∀ i, i < j → i < dNo D → A1 79 i = dBr D i ∧ A1 85 i = dPl D i ∧ A1 86 i = dCo D i) ∧ (∀ i, i < j → A1 82 i = -1 ∧ A1 83 i = 0 ∧ A1 84 i = 99)) zz) (8) (fun j zz hj hI ih => ?_) (fun zz hI => ?_) (0) N0 (by omega) ?_
  ·
    revert ih hI
    revert zz
    intro A1 hI ih
    replace hI : (∀ r, r ≠ 79 → r ≠ 82 → r ≠ 83 → r ≠ 84 → r ≠ 85 → r ≠ 86 → A1 r = N0 r) ∧ (∀ i, i < j → i < dNo D → A1 79 i = dBr D i ∧ A1 85 i = dPl D i ∧ A1 86 i = dCo D i) ∧ (∀ i, i < j → A1 82 i = -1 ∧ A1 83 i = 0 ∧ A1 84 i = 99) := hI
    replace ih : ∀ (A1 : Nat → Fn) (_ : (∀ r, r ≠ 79 → r ≠ 82 → r ≠ 83 → r ≠ 84 → r ≠ 85 → r ≠ 86 → A1 r = N0 r) ∧ (∀ i, i < (j + 1) → i < dNo D → A1 79 i = dBr D i ∧ A1 85 i = dPl D i ∧ A1 86 i = dCo D i) ∧ (∀ i, i < (j + 1) → A1 82 i = -1 ∧ A1 83 i = 0 ∧ A1 84 i = 99)), lm_G X (d + 1) 175 106 0 0 77 [some (.ref 64), some (.int (nI (j + 1))), none] [] (lm_T A1 v G) Q := fun A1 q => ih A1 q
    show lm_G X (d + 1) 175 106 0 0 77 [some (.ref 64), some (.int (nI j)), none] [] (lm_T A1 v G) Q
    obtain ⟨i0, i1, i2⟩ := hI
    have m : ∀ r, 68 ≤ r → r ≤ 77 → A1 r = M10 r := fun r h1 h2 => (i0 r (by omega) (by omega) (by omega) (by omega) (by omega) (by omega)).trans (co r (by omega))
    have n0_ : A1 68 0 = nI (dNo D) := by rw [m 68 (by decide) (by decide)]; exact n0
    refine lm_G_sg 2 (pc' := 80) (L' := [some (.ref 64), some (.int (nI j)), none]) (S' := [.int 8, .int (nI j)]) (σ' := lm_T A1 v G) rfl trivial ?_
    refine lm_G_br (b := 8 ≤ (nI j)) (t := 187) (S' := []) rfl (fun hc => absurd hc (nI_ge (b := 8) hj (by omega))) (fun hc => ?_)
    refine lm_G_sg 5 (pc' := 90) (L' := [some (.ref 64), some (.int (nI j)), none]) (S' := [.int (A1 68 0), .int (nI j)]) (σ' := lm_T A1 v G) rfl ⟨(lm_inb_ok rfl), trivial, trivial⟩ ?_
    rw [show A1 68 0 = nI (dNo D) from n0_]
    refine lm_G_br (b := (nI (dNo D)) ≤ (nI j)) (t := 97) (S' := []) rfl (fun gp => ?_) (fun gp => ?_)
    ·
      have hp : ¬ j < dNo D := fun w => absurd gp (nI_ge w (by omega))
      refine lm_G_sg 6 (pc' := 105) (L' := [some (.ref 64), some (.int (nI j)), some (.int 0)]) (S' := [.int 0, .int (nI j), .ref 79]) (σ' := lm_T A1 v G) rfl trivial ?_
      refine lm_G_br (b := 0 = 0) (t := 117) (S' := [.int (nI j), .ref 79]) rfl (fun hc => ?_) (fun hc => absurd rfl hc)
      refine lm_G_sg 2 (pc' := 119) (L' := [some (.ref 64), some (.int (nI j)), some (.int 0)]) (S' := []) (σ' := lm_T (lm_wr A1 79 ((nI j).toNatClampNeg) 0) v G) rfl ⟨(vp_in_nI (by omega) (by omega)), trivial, trivial⟩ ?_
      rw [show (nI j).toNatClampNeg = j from nI_clamp (by omega)]
      refine lm_G_sg 5 (pc' := 126) (L' := [some (.ref 64), some (.int (nI j)), some (.int 0)]) (S' := []) (σ' := lm_T (lm_wr (lm_wr A1 79 j 0) 82 ((nI j).toNatClampNeg) (-1)) v G) rfl ⟨(vp_in_nI (by omega) (by omega)), trivial, trivial⟩ ?_
      rw [show (nI j).toNatClampNeg = j from nI_clamp (by omega)]
      refine lm_G_sg 5 (pc' := 133) (L' := [some (.ref 64), some (.int (nI j)), some (.int 0)]) (S' := []) (σ' := lm_T (lm_wr (lm_wr (lm_wr A1 79 j 0) 82 j (-1)) 83 ((nI j).toNatClampNeg) 0) v G) rfl ⟨(vp_in_nI (by omega) (by omega)), trivial, trivial⟩ ?_
      rw [show (nI j).toNatClampNeg = j from nI_clamp (by omega)]
      refine lm_G_sg 5 (pc' := 141) (L' := [some (.ref 64), some (.int (nI j)), some (.int 0)]) (S' := []) (σ' := lm_T (lm_wr (lm_wr (lm_wr (lm_wr A1 79 j 0) 82 j (-1)) 83 j 0) 84 ((nI j).toNatClampNeg) 99) v G) rfl ⟨(vp_in_nI (by omega) (by omega)), trivial, trivial⟩ ?_
      rw [show (nI j).toNatClampNeg = j from nI_clamp (by omega)]
      refine lm_G_sg 4 (pc' := 147) (L' := [some (.ref 64), some (.int (nI j)), some (.int 0)]) (S' := [.int 0, .int (nI j), .ref 85]) (σ' := lm_T (lm_wr (lm_wr (lm_wr (lm_wr A1 79 j 0) 82 j (-1)) 83 j 0) 84 j 99) v G) rfl trivial ?_
      refine lm_G_br (b := 0 = 0) (t := 159) (S' := [.int (nI j), .ref 85]) rfl (fun hc => ?_) (fun hc => absurd rfl hc)
      refine lm_G_sg 2 (pc' := 161) (L' := [some (.ref 64), some (.int (nI j)), some (.int 0)]) (S' := []) (σ' := lm_T (lm_wr (lm_wr (lm_wr (lm_wr (lm_wr A1 79 j 0) 82 j (-1)) 83 j 0) 84 j 99) 85 ((nI j).toNatClampNeg) 0) v G) rfl ⟨(vp_in_nI (by omega) (by omega)), trivial, trivial⟩ ?_
      rw [show (nI j).toNatClampNeg = j from nI_clamp (by omega)]
      refine lm_G_sg 4 (pc' := 167) (L' := [some (.ref 64), some (.int (nI j)), some (.int 0)]) (S' := [.int 0, .int (nI j), .ref 86]) (σ' := lm_T (lm_wr (lm_wr (lm_wr (lm_wr (lm_wr A1 79 j 0) 82 j (-1)) 83 j 0) 84 j 99) 85 j 0) v G) rfl trivial ?_
      refine lm_G_br (b := 0 = 0) (t := 179) (S' := [.int (nI j), .ref 86]) rfl (fun hc => ?_) (fun hc => absurd rfl hc)
      refine lm_G_sg 2 (pc' := 181) (L' := [some (.ref 64), some (.int (nI j)), some (.int 0)]) (S' := []) (σ' := lm_T (lm_wr (lm_wr (lm_wr (lm_wr (lm_wr (lm_wr A1 79 j 0) 82 j (-1)) 83 j 0) 84 j 99) 85 j 0) 86 ((nI j).toNatClampNeg) 0) v G) rfl ⟨(vp_in_nI (by omega) (by omega)), trivial, trivial⟩ ?_
      rw [show (nI j).toNatClampNeg = j from nI_clamp (by omega)]
      refine lm_G_sg 1 (pc' := 184) (L' := [some (.ref 64), some (.int ((nI j) + 1)), some (.int 0)]) (S' := []) (σ' := lm_T (lm_wr (lm_wr (lm_wr (lm_wr (lm_wr (lm_wr A1 79 j 0) 82 j (-1)) 83 j 0) 84 j 99) 85 j 0) 86 j 0) v G) rfl trivial ?_
      rw [nI_1]
      refine lm_G_sg 1 (pc' := 77) (L' := [some (.ref 64), some (.int (nI (j + 1))), some (.int 0)]) (S' := []) (σ' := lm_T (lm_wr (lm_wr (lm_wr (lm_wr (lm_wr (lm_wr A1 79 j 0) 82 j (-1)) 83 j 0) 84 j 99) 85 j 0) 86 j 0) v G) rfl trivial ?_
      refine lm_G_jk (L := [some (.ref 64), some (.int (nI (j + 1))), none]) ⟨rfl, rfl, trivial⟩ ?_
      exact ih _ (⟨fun r z1 z2 z3 z4 z5 z6 => by rw [wr_row z6, wr_row z5, wr_row z4, wr_row z3, wr_row z2, wr_row z1]; exact i0 r z1 z2 z3 z4 z5 z6, fun i hi hi2 => by
            show upd (A1 79) j 0 i = _ ∧ upd (A1 85) j 0 i = _ ∧ upd (A1 86) j 0 i = _
            have e : i ≠ j := fun e => hp (by omega)
            rw [pk_un e, pk_un e, pk_un e]; exact i1 i (by omega) hi2, fun i hi => by
            show upd (A1 82) j (-1) i = -1 ∧ upd (A1 83) j 0 i = 0 ∧ upd (A1 84) j 99 i = 99
            by_cases e : i = j
            · rw [e, pk_us, pk_us, pk_us]; exact ⟨rfl, rfl, rfl⟩
            · rw [pk_un e, pk_un e, pk_un e]; exact i2 i (by omega)⟩)
    ·
      have hp : j < dNo D := Nat.lt_of_not_le (fun w => gp (nI_le w (by omega)))
      have e70 : A1 70 j = dBr D j := by rw [m 70 (by decide) (by decide), h70 j hj]; exact q4 j hp
      have e72 : A1 72 j = dPl D j := by rw [m 72 (by decide) (by decide), h72 j hj]; exact q6 j hp
      have e73 : A1 73 j = dCo D j := by rw [m 73 (by decide) (by decide), h73 j hj]; exact q7 j hp
      refine lm_G_sg 7 (pc' := 105) (L' := [some (.ref 64), some (.int (nI j)), some (.int 1)]) (S' := [.int 1, .int (nI j), .ref 79]) (σ' := lm_T A1 v G) rfl trivial ?_
      refine lm_G_br (b := 1 = 0) (t := 117) (S' := [.int (nI j), .ref 79]) rfl (fun hc => absurd hc (by decide)) (fun hc => ?_)
      refine lm_G_sg 4 (pc' := 114) (L' := [some (.ref 64), some (.int (nI j)), some (.int 1)]) (S' := [.int (A1 70 (nI j).toNatClampNeg), .int (nI j), .ref 79]) (σ' := lm_T A1 v G) rfl ⟨(vp_in_nI (by omega) (by omega)), trivial, trivial⟩ ?_
      rw [show (nI j).toNatClampNeg = j from nI_clamp (by omega)]
      rw [show A1 70 j = dBr D j from e70]
      refine lm_G_sg 2 (pc' := 119) (L' := [some (.ref 64), some (.int (nI j)), some (.int 1)]) (S' := []) (σ' := lm_T (lm_wr A1 79 ((nI j).toNatClampNeg) (dBr D j)) v G) rfl ⟨(vp_in_nI (by omega) (by omega)), trivial, trivial⟩ ?_
      rw [show (nI j).toNatClampNeg = j from nI_clamp (by omega)]
      refine lm_G_sg 5 (pc' := 126) (L' := [some (.ref 64), some (.int (nI j)), some (.int 1)]) (S' := []) (σ' := lm_T (lm_wr (lm_wr A1 79 j (dBr D j)) 82 ((nI j).toNatClampNeg) (-1)) v G) rfl ⟨(vp_in_nI (by omega) (by omega)), trivial, trivial⟩ ?_
      rw [show (nI j).toNatClampNeg = j from nI_clamp (by omega)]
      refine lm_G_sg 5 (pc' := 133) (L' := [some (.ref 64), some (.int (nI j)), some (.int 1)]) (S' := []) (σ' := lm_T (lm_wr (lm_wr (lm_wr A1 79 j (dBr D j)) 82 j (-1)) 83 ((nI j).toNatClampNeg) 0) v G) rfl ⟨(vp_in_nI (by omega) (by omega)), trivial, trivial⟩ ?_
      rw [show (nI j).toNatClampNeg = j from nI_clamp (by omega)]
      refine lm_G_sg 5 (pc' := 141) (L' := [some (.ref 64), some (.int (nI j)), some (.int 1)]) (S' := []) (σ' := lm_T (lm_wr (lm_wr (lm_wr (lm_wr A1 79 j (dBr D j)) 82 j (-1)) 83 j 0) 84 ((nI j).toNatClampNeg) 99) v G) rfl ⟨(vp_in_nI (by omega) (by omega)), trivial, trivial⟩ ?_
      rw [show (nI j).toNatClampNeg = j from nI_clamp (by omega)]
      refine lm_G_sg 4 (pc' := 147) (L' := [some (.ref 64), some (.int (nI j)), some (.int 1)]) (S' := [.int 1, .int (nI j), .ref 85]) (σ' := lm_T (lm_wr (lm_wr (lm_wr (lm_wr A1 79 j (dBr D j)) 82 j (-1)) 83 j 0) 84 j 99) v G) rfl trivial ?_
      refine lm_G_br (b := 1 = 0) (t := 159) (S' := [.int (nI j), .ref 85]) rfl (fun hc => absurd hc (by decide)) (fun hc => ?_)
      refine lm_G_sg 4 (pc' := 156) (L' := [some (.ref 64), some (.int (nI j)), some (.int 1)]) (S' := [.int ((lm_wr (lm_wr (lm_wr (lm_wr A1 79 j (dBr D j)) 82 j (-1)) 83 j 0) 84 j 99) 72 (nI j).toNatClampNeg), .int (nI j), .ref 85]) (σ' := lm_T (lm_wr (lm_wr (lm_wr (lm_wr A1 79 j (dBr D j)) 82 j (-1)) 83 j 0) 84 j 99) v G) rfl ⟨(vp_in_nI (by omega) (by omega)), trivial, trivial⟩ ?_
      rw [show (nI j).toNatClampNeg = j from nI_clamp (by omega)]
      show lm_G X (d + 1) 175 106 0 0 156 [some (.ref 64), some (.int (nI j)), some (.int 1)] [.int (A1 72 j), .int (nI j), .ref 85] (lm_T (lm_wr (lm_wr (lm_wr (lm_wr A1 79 j (dBr D j)) 82 j (-1)) 83 j 0) 84 j 99) v G) Q
      rw [show A1 72 j = dPl D j from e72]
      refine lm_G_sg 2 (pc' := 161) (L' := [some (.ref 64), some (.int (nI j)), some (.int 1)]) (S' := []) (σ' := lm_T (lm_wr (lm_wr (lm_wr (lm_wr (lm_wr A1 79 j (dBr D j)) 82 j (-1)) 83 j 0) 84 j 99) 85 ((nI j).toNatClampNeg) (dPl D j)) v G) rfl ⟨(vp_in_nI (by omega) (by omega)), trivial, trivial⟩ ?_
      rw [show (nI j).toNatClampNeg = j from nI_clamp (by omega)]
      refine lm_G_sg 4 (pc' := 167) (L' := [some (.ref 64), some (.int (nI j)), some (.int 1)]) (S' := [.int 1, .int (nI j), .ref 86]) (σ' := lm_T (lm_wr (lm_wr (lm_wr (lm_wr (lm_wr A1 79 j (dBr D j)) 82 j (-1)) 83 j 0) 84 j 99) 85 j (dPl D j)) v G) rfl trivial ?_
      refine lm_G_br (b := 1 = 0) (t := 179) (S' := [.int (nI j), .ref 86]) rfl (fun hc => absurd hc (by decide)) (fun hc => ?_)
      refine lm_G_sg 4 (pc' := 176) (L' := [some (.ref 64), some (.int (nI j)), some (.int 1)]) (S' := [.int ((lm_wr (lm_wr (lm_wr (lm_wr (lm_wr A1 79 j (dBr D j)) 82 j (-1)) 83 j 0) 84 j 99) 85 j (dPl D j)) 73 (nI j).toNatClampNeg), .int (nI j), .ref 86]) (σ' := lm_T (lm_wr (lm_wr (lm_wr (lm_wr (lm_wr A1 79 j (dBr D j)) 82 j (-1)) 83 j 0) 84 j 99) 85 j (dPl D j)) v G) rfl ⟨(vp_in_nI (by omega) (by omega)), trivial, trivial⟩ ?_
      rw [show (nI j).toNatClampNeg = j from nI_clamp (by omega)]
      show lm_G X (d + 1) 175 106 0 0 176 [some (.ref 64), some (.int (nI j)), some (.int 1)] [.int (A1 73 j), .int (nI j), .ref 86] (lm_T (lm_wr (lm_wr (lm_wr (lm_wr (lm_wr A1 79 j (dBr D j)) 82 j (-1)) 83 j 0) 84 j 99) 85 j (dPl D j)) v G) Q
      rw [show A1 73 j = dCo D j from e73]
      refine lm_G_sg 2 (pc' := 181) (L' := [some (.ref 64), some (.int (nI j)), some (.int 1)]) (S' := []) (σ' := lm_T (lm_wr (lm_wr (lm_wr (lm_wr (lm_wr (lm_wr A1 79 j (dBr D j)) 82 j (-1)) 83 j 0) 84 j 99) 85 j (dPl D j)) 86 ((nI j).toNatClampNeg) (dCo D j)) v G) rfl ⟨(vp_in_nI (by omega) (by omega)), trivial, trivial⟩ ?_
      rw [show (nI j).toNatClampNeg = j from nI_clamp (by omega)]
      refine lm_G_sg 1 (pc' := 184) (L' := [some (.ref 64), some (.int ((nI j) + 1)), some (.int 1)]) (S' := []) (σ' := lm_T (lm_wr (lm_wr (lm_wr (lm_wr (lm_wr (lm_wr A1 79 j (dBr D j)) 82 j (-1)) 83 j 0) 84 j 99) 85 j (dPl D j)) 86 j (dCo D j)) v G) rfl trivial ?_
      rw [nI_1]
      refine lm_G_sg 1 (pc' := 77) (L' := [some (.ref 64), some (.int (nI (j + 1))), some (.int 1)]) (S' := []) (σ' := lm_T (lm_wr (lm_wr (lm_wr (lm_wr (lm_wr (lm_wr A1 79 j (dBr D j)) 82 j (-1)) 83 j 0) 84 j 99) 85 j (dPl D j)) 86 j (dCo D j)) v G) rfl trivial ?_
      refine lm_G_jk (L := [some (.ref 64), some (.int (nI (j + 1))), none]) ⟨rfl, rfl, trivial⟩ ?_
      exact ih _ (⟨fun r z1 z2 z3 z4 z5 z6 => by rw [wr_row z6, wr_row z5, wr_row z4, wr_row z3, wr_row z2, wr_row z1]; exact i0 r z1 z2 z3 z4 z5 z6, fun i hi hi2 => by
            show upd (A1 79) j (dBr D j) i = _ ∧ upd (A1 85) j (dPl D j) i = _ ∧ upd (A1 86) j (dCo D j) i = _
            by_cases e : i = j
            · rw [e, pk_us, pk_us, pk_us]; exact ⟨rfl, rfl, rfl⟩
            · rw [pk_un e, pk_un e, pk_un e]; exact i1 i (by omega) hi2, fun i hi => by
            show upd (A1 82) j (-1) i = -1 ∧ upd (A1 83) j 0 i = 0 ∧ upd (A1 84) j 99 i = 99
            by_cases e : i = j
            · rw [e, pk_us, pk_us, pk_us]; exact ⟨rfl, rfl, rfl⟩
            · rw [pk_un e, pk_un e, pk_un e]; exact i2 i (by omega)⟩)
  ·
    revert hI
    revert zz
    intro A1 hI
    replace hI : (∀ r, r ≠ 79 → r ≠ 82 → r ≠ 83 → r ≠ 84 → r ≠ 85 → r ≠ 86 → A1 r = N0 r) ∧ (∀ i, i < 8 → i < dNo D → A1 79 i = dBr D i ∧ A1 85 i = dPl D i ∧ A1 86 i = dCo D i) ∧ (∀ i, i < 8 → A1 82 i = -1 ∧ A1 83 i = 0 ∧ A1 84 i = 99) := hI
    show lm_G X (d + 1) 175 106 0 0 77 [some (.ref 64), some (.int (nI 8)), none] [] (lm_T A1 v G) Q
    obtain ⟨i0, i1, i2⟩ := hI
    refine lm_G_sg 2 (pc' := 80) (L' := [some (.ref 64), some (.int (nI 8)), none]) (S' := [.int 8, .int (nI 8)]) (σ' := lm_T A1 v G) rfl trivial ?_
    refine lm_G_br (b := 8 ≤ (nI 8)) (t := 187) (S' := []) rfl (fun hc => ?_) (fun hc => absurd (nI_le (a := 8) (Nat.le_refl _) (by omega)) hc)
    refine lm_G_sg 2 (pc' := 189) (L' := [some (.ref 64), some (.int 0), none]) (S' := []) (σ' := lm_T A1 v G) rfl trivial ?_
    refine lm_ind (α := (Nat → Fn)) (St := fun (j : Nat) zz => (fun (A2 : Nat → Fn) => lm_G X (d + 1) 175 106 0 0 189 [some (.ref 64), some (.int (nI j)), none] [] (lm_T A2 v G) Q) zz) (Inv := fun (j : Nat) zz => (fun (A2 : Nat → Fn) => (∀ r, r ≠ 81 → A2 r = A1 r) ∧ (∀ i, i < j → i < dM D → A2 81 i = dOw D i)) zz) (6) (fun j zz hj2 hI2 ih2 => ?_) (fun zz hI2 => ?_) (0) A1 (by omega) ?_
    ·
      revert ih2 hI2
      revert zz
      intro A2 hI2 ih2
      replace hI2 : (∀ r, r ≠ 81 → A2 r = A1 r) ∧ (∀ i, i < j → i < dM D → A2 81 i = dOw D i) := hI2
      replace ih2 : ∀ (A2 : Nat → Fn) (_ : (∀ r, r ≠ 81 → A2 r = A1 r) ∧ (∀ i, i < (j + 1) → i < dM D → A2 81 i = dOw D i)), lm_G X (d + 1) 175 106 0 0 189 [some (.ref 64), some (.int (nI (j + 1))), none] [] (lm_T A2 v G) Q := fun A2 q => ih2 A2 q
      show lm_G X (d + 1) 175 106 0 0 189 [some (.ref 64), some (.int (nI j)), none] [] (lm_T A2 v G) Q
      obtain ⟨k0, k1⟩ := hI2
      have m : ∀ r, 68 ≤ r → r ≤ 77 → A2 r = M10 r := fun r h1 h2 => (k0 r (by omega)).trans ((i0 r (by omega) (by omega) (by omega) (by omega) (by omega) (by omega)).trans (co r (by omega)))
      have n1_ : A2 68 1 = nI (dM D) := by rw [m 68 (by decide) (by decide)]; exact n1
      refine lm_G_sg 2 (pc' := 192) (L' := [some (.ref 64), some (.int (nI j)), none]) (S' := [.int 6, .int (nI j)]) (σ' := lm_T A2 v G) rfl trivial ?_
      refine lm_G_br (b := 6 ≤ (nI j)) (t := 227) (S' := []) rfl (fun hc => absurd hc (nI_ge (b := 6) hj2 (by omega))) (fun hc => ?_)
      refine lm_G_sg 8 (pc' := 207) (L' := [some (.ref 64), some (.int (nI j)), none]) (S' := [.int (A2 68 1), .int (nI j), .int (nI j), .ref 81]) (σ' := lm_T A2 v G) rfl ⟨(lm_inb_ok rfl), trivial, trivial⟩ ?_
      rw [show A2 68 1 = nI (dM D) from n1_]
      refine lm_G_br (b := (nI (dM D)) ≤ (nI j)) (t := 219) (S' := [.int (nI j), .ref 81]) rfl (fun gp => ?_) (fun gp => ?_)
      ·
        have hp : ¬ j < dM D := fun w => absurd gp (nI_ge w (by omega))
        refine lm_G_sg 2 (pc' := 221) (L' := [some (.ref 64), some (.int (nI j)), none]) (S' := []) (σ' := lm_T (lm_wr A2 81 ((nI j).toNatClampNeg) (-1)) v G) rfl ⟨(vp_in_nI (by omega) (by omega)), trivial, trivial⟩ ?_
        rw [show (nI j).toNatClampNeg = j from nI_clamp (by omega)]
        refine lm_G_sg 1 (pc' := 224) (L' := [some (.ref 64), some (.int ((nI j) + 1)), none]) (S' := []) (σ' := lm_T (lm_wr A2 81 j (-1)) v G) rfl trivial ?_
        rw [nI_1]
        refine lm_G_sg 1 (pc' := 189) (L' := [some (.ref 64), some (.int (nI (j + 1))), none]) (S' := []) (σ' := lm_T (lm_wr A2 81 j (-1)) v G) rfl trivial ?_
        exact ih2 _ (⟨fun r h => by rw [wr_row h]; exact k0 r h, fun i hi hi2 => by
              show upd (A2 81) j (-1) i = _
              have e : i ≠ j := fun e => hp (by omega)
              rw [pk_un e]; exact k1 i (by omega) hi2⟩)
      ·
        have hp : j < dM D := Nat.lt_of_not_le (fun w => gp (nI_le w (by omega)))
        have e75 : A2 75 j = dOw D j := by rw [m 75 (by decide) (by decide), h75 j hj2]; exact q10 j hp
        refine lm_G_sg 4 (pc' := 216) (L' := [some (.ref 64), some (.int (nI j)), none]) (S' := [.int (A2 75 (nI j).toNatClampNeg), .int (nI j), .ref 81]) (σ' := lm_T A2 v G) rfl ⟨(vp_in_nI (by omega) (by omega)), trivial, trivial⟩ ?_
        rw [show (nI j).toNatClampNeg = j from nI_clamp (by omega)]
        rw [show A2 75 j = dOw D j from e75]
        refine lm_G_sg 2 (pc' := 221) (L' := [some (.ref 64), some (.int (nI j)), none]) (S' := []) (σ' := lm_T (lm_wr A2 81 ((nI j).toNatClampNeg) (dOw D j)) v G) rfl ⟨(vp_in_nI (by omega) (by omega)), trivial, trivial⟩ ?_
        rw [show (nI j).toNatClampNeg = j from nI_clamp (by omega)]
        refine lm_G_sg 1 (pc' := 224) (L' := [some (.ref 64), some (.int ((nI j) + 1)), none]) (S' := []) (σ' := lm_T (lm_wr A2 81 j (dOw D j)) v G) rfl trivial ?_
        rw [nI_1]
        refine lm_G_sg 1 (pc' := 189) (L' := [some (.ref 64), some (.int (nI (j + 1))), none]) (S' := []) (σ' := lm_T (lm_wr A2 81 j (dOw D j)) v G) rfl trivial ?_
        exact ih2 _ (⟨fun r h => by rw [wr_row h]; exact k0 r h, fun i hi hi2 => by
              show upd (A2 81) j (dOw D j) i = _
              by_cases e : i = j
              · rw [e, pk_us]
              · rw [pk_un e]; exact k1 i (by omega) hi2⟩)
    ·
      revert hI2
      revert zz
      intro A2 hI2
      replace hI2 : (∀ r, r ≠ 81 → A2 r = A1 r) ∧ (∀ i, i < 6 → i < dM D → A2 81 i = dOw D i) := hI2
      show lm_G X (d + 1) 175 106 0 0 189 [some (.ref 64), some (.int (nI 6)), none] [] (lm_T A2 v G) Q
      obtain ⟨k0, k1⟩ := hI2
      have m : ∀ r, 68 ≤ r → r ≤ 77 → A2 r = M10 r := fun r h1 h2 => (k0 r (by omega)).trans ((i0 r (by omega) (by omega) (by omega) (by omega) (by omega) (by omega)).trans (co r (by omega)))
      have r64 : A2 64 = N0 64 := (k0 64 (by decide)).trans (i0 64 (by decide) (by decide) (by decide) (by decide) (by decide) (by decide))
      have hr : RM A2 (toF D) (toS D) := by
        refine ⟨⟨?_, ?_, ?_, ?_, ?_, ?_, ?_, ?_, ?_, ?_⟩, ?_, ?_, ?_, ?_, ?_, ?_, ?_, ?_⟩
        · rw [m 68 (by decide) (by decide)]; exact n0
        · rw [m 68 (by decide) (by decide)]; exact n1
        · rw [m 68 (by decide) (by decide)]; exact (h68 2 (by decide)).trans q3
        · rw [m 68 (by decide) (by decide)]; exact (h68 3 (by decide)).trans q11.1
        · rw [m 68 (by decide) (by decide)]; exact (h68 4 (by decide)).trans q12.1
        · intro i hi
          replace hi : i < dNo D := hi
          rw [m 71 (by decide) (by decide), h71 i (by omega)]; exact q5 i hi
        · intro i hi
          replace hi : i < dNo D := hi
          rw [m 69 (by decide) (by decide), h69 i (by omega)]; exact q8 i hi
        · intro i hi
          replace hi : i < dM D := hi
          rw [m 74 (by decide) (by decide), h74 i (by omega)]; exact q9 i hi
        · intro i hi
          replace hi : i < (dR0 D).length := hi
          rw [m 76 (by decide) (by decide), h76 i (Nat.lt_of_lt_of_le hi hD.2.2.2.2.2.2.2.2.1)]; exact q11.2 i hi
        · intro i hi
          replace hi : i < (dR1 D).length := hi
          rw [m 77 (by decide) (by decide), h77 i (Nat.lt_of_lt_of_le hi hD.2.2.2.2.2.2.2.2.2)]; exact q12.2 i hi
        · rw [r64]; exact c36
        · intro i hi
          replace hi : i < dNo D := hi
          rw [k0 79 (by decide)]; exact (i1 i (by omega) hi).1
        · intro i hi
          replace hi : i < dNo D := hi
          rw [k0 85 (by decide)]; exact (i1 i (by omega) hi).2.1
        · intro i hi
          replace hi : i < dNo D := hi
          rw [k0 86 (by decide)]; exact (i1 i (by omega) hi).2.2
        · intro i hi
          replace hi : i < dNo D := hi
          rw [k0 82 (by decide)]; exact (i2 i (by omega)).1
        · intro i hi
          replace hi : i < dNo D := hi
          rw [k0 83 (by decide)]; exact (i2 i (by omega)).2.1
        · intro i hi
          replace hi : i < dNo D := hi
          rw [k0 84 (by decide)]; exact (i2 i (by omega)).2.2
        · intro i hi
          replace hi : i < dM D := hi
          exact k1 i (by omega) hi
      refine lm_G_sg 2 (pc' := 192) (L' := [some (.ref 64), some (.int (nI 6)), none]) (S' := [.int 6, .int (nI 6)]) (σ' := lm_T A2 v G) rfl trivial ?_
      refine lm_G_br (b := 6 ≤ (nI 6)) (t := 227) (S' := []) rfl (fun hc => ?_) (fun hc => absurd (nI_le (a := 6) (Nat.le_refl _) (by omega)) hc)
      refine lm_G_sg 9 (pc' := 242) (L' := [some (.ref 64), some (.int (nI 6)), none]) (S' := []) (σ' := lm_T (lm_wr (lm_wr (lm_wr A2 64 37 0) 64 38 0) 64 54 0) v G) rfl ⟨trivial, trivial, trivial, trivial, (by decide), trivial, trivial⟩ ?_
      exact lm_G_re rfl trivial (Nat.zero_le _) (Nat.zero_le _) (hQ _ (RM_taken (RM_taken (RM_taken hr 37 (by decide) 0) 38 (by decide) 0) 54 (by decide) 0) rfl rfl rfl (fun k z1 z2 z3 z4 => by rw [wr_at z4, wr_at z3, wr_at z2, r64, c64 k z1, ho 64 (by omega)]) (fun r hr => by rw [wr_row (by omega), wr_row (by omega), wr_row (by omega), k0 r (by omega), i0 r (by omega) (by omega) (by omega) (by omega) (by omega) (by omega), co r (by omega)]; exact ho r (by omega)))
    ·
      try dsimp only
      exact ⟨fun _ _ => rfl, fun i hi => absurd hi (Nat.not_lt_zero i)⟩
  ·
    try dsimp only
    exact ⟨fun _ _ _ _ _ _ _ => rfl, fun i hi => absurd hi (Nat.not_lt_zero i), fun i hi => absurd hi (Nat.not_lt_zero i)⟩
