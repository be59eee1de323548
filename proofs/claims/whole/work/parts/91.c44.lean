/-! ===== contracts: the class takes over what a text told ===== -/
def toF (D : Dr) : Fa := (dNo D, dM D, dE D, dRe D, dWh D, dAi D, dR0 D, dR1 D)
def toS (D : Dr) : Sc := (0, dBr D, dPl D, dCo D, fun _ => -1, fun _ => 0, fun _ => 99, dOw D)
theorem okF_D {D : Dr} (h : okD D) : okF (toF D) := by
  obtain ⟨a1, a2, ⟨x, hx, e⟩, a4, a5, a6, a7, a8, a9, a10⟩ := h
  refine ⟨a1, a2, a7, a8, a9, a10, ?_, ?_⟩
  · show 0 ≤ dE D
    rw [e]; exact nI_pos' (by omega)
  · show dE D ≤ 30
    rw [e]; exact nI_le (b := 30) hx (by omega)
theorem okS_D {D : Dr} (h : okD D) : okS (toF D) (toS D) := ⟨fun _ _ => Or.inl rfl, h.2.2.2.2.2.1, h.2.2.2.2.1⟩
theorem nar_01 {x : Int32} (h : x = 0 ∨ x = 1) : vp_nar .boolean x = x := by
  rcases h with e | e <;> rw [e] <;> rfl
/-- written at j, with all below it -/
theorem wr_nx {f g : Fn} {j : Nat} {x : Int32} (h : ∀ i, i < j → f i = g i) (e : x = g j) : ∀ i, i < j + 1 → upd f j x i = g i := by
  intro i hi
  by_cases w : i = j
  · rw [w, pk_us]; exact e
  · rw [pk_un w]; exact h i (by omega)
set_option maxRecDepth 10000 in
theorem c_copyFacts {X : lm_X} {d v : Nat} {M : Nat → Nat → Int32} {G : Nat → Nat → Int64} {Q : lm_O → lm_S → Prop} {D : Dr} {K : Cd} (hd : DC M D K) (hD : okD D) (hK : K.length ≤ 700) (hQ : ∀ M1, KC M1 (toF D) → Ag (dNo D) (M1 15) (dBr D) → Ag (dNo D) (M1 17) (dPl D) → Ag (dNo D) (M1 18) (dCo D) → Ag (dM D) (M1 21) (dOw D) → (∀ r, r < 14 ∨ 25 ≤ r → M1 r = M r) → Q (.inl none) (lm_T M1 v G)) : lm_Q X d 11 [.ref 14, .ref 3] (lm_T M v G) Q := by
  show lm_G X d 11 106 0 0 0 [some (.ref 14), some (.ref 3), none] [] (lm_T M v G) Q
  refine lm_G_sg 14 (pc' := 26) (L' := [some (.ref 14), some (.ref 3), some (.int 0)]) (S' := []) (σ' := lm_T (lm_wr (lm_wr (lm_wr M 14 0 (M 3 0)) 14 6 (M 3 6)) 14 9 (M 3 9)) v G) rfl ⟨trivial, trivial, trivial, trivial, trivial, trivial, trivial⟩ ?_
  have a0 : (lm_wr (lm_wr (lm_wr M 14 0 (M 3 0)) 14 6 (M 3 6)) 14 9 (M 3 9)) 14 0 = M 3 0 := rfl
  have a6 : (lm_wr (lm_wr (lm_wr M 14 0 (M 3 0)) 14 6 (M 3 6)) 14 9 (M 3 9)) 14 6 = M 3 6 := rfl
  have a9 : (lm_wr (lm_wr (lm_wr M 14 0 (M 3 0)) 14 6 (M 3 6)) 14 9 (M 3 9)) 14 9 = M 3 9 := rfl
  have ao : ∀ r, r ≠ 14 → (lm_wr (lm_wr (lm_wr M 14 0 (M 3 0)) 14 6 (M 3 6)) 14 9 (M 3 9)) r = M r := fun r h => by rw [wr_row h, wr_row h, wr_row h]
  revert a0 a6 a9 ao
  generalize lm_wr (lm_wr (lm_wr M 14 0 (M 3 0)) 14 6 (M 3 6)) 14 9 (M 3 9) = N0
  intro a0 a6 a9 ao
  refine lm_ind (α := (Nat → Fn)) (St := fun (j : Nat) zz => (fun (M1 : Nat → Fn) => lm_G X d 11 106 0 0 26 [some (.ref 14), some (.ref 3), some (.int (nI j))] [] (lm_T M1 v G) Q) zz) (Inv := fun (j : Nat) zz => (fun (M1 : Nat → Fn) => (∀ r, r < 15 ∨ 19 < r → M1 r = N0 r) ∧ (∀ i, i < j → M1 15 i = M 4 i) ∧ (∀ i, i < j → M1 16 i = M 5 i) ∧ (∀ i, i < j → M1 17 i = M 6 i) ∧ (∀ i, i < j → M1 18 i = M 7 i) ∧ (∀ i, i < j → M1 19 i = vp_nar .boolean (M 8 i))) zz) (8) (fun j zz hj hI ih => ?_) (fun zz hI => ?_) (0) N0 (by omega) ?_
  ·
    revert ih hI
    revert zz
    intro M1 hI ih
    replace hI : (∀ r, r < 15 ∨ 19 < r → M1 r = N0 r) ∧ (∀ i, i < j → M1 15 i = M 4 i) ∧ (∀ i, i < j → M1 16 i = M 5 i) ∧ (∀ i, i < j → M1 17 i = M 6 i) ∧ (∀ i, i < j → M1 18 i = M 7 i) ∧ (∀ i, i < j → M1 19 i = vp_nar .boolean (M 8 i)) := hI
    replace ih : ∀ (M1 : Nat → Fn) (_ : (∀ r, r < 15 ∨ 19 < r → M1 r = N0 r) ∧ (∀ i, i < (j + 1) → M1 15 i = M 4 i) ∧ (∀ i, i < (j + 1) → M1 16 i = M 5 i) ∧ (∀ i, i < (j + 1) → M1 17 i = M 6 i) ∧ (∀ i, i < (j + 1) → M1 18 i = M 7 i) ∧ (∀ i, i < (j + 1) → M1 19 i = vp_nar .boolean (M 8 i))), lm_G X d 11 106 0 0 26 [some (.ref 14), some (.ref 3), some (.int (nI (j + 1)))] [] (lm_T M1 v G) Q := fun M1 q => ih M1 q
    show lm_G X d 11 106 0 0 26 [some (.ref 14), some (.ref 3), some (.int (nI j))] [] (lm_T M1 v G) Q
    obtain ⟨i0, i1, i2, i3, i4, i5⟩ := hI
    have m3 : ∀ r, 4 ≤ r → r ≤ 8 → M1 r = M r := fun r h1 h2 => (i0 r (by omega)).trans (ao r (by omega))
    refine lm_G_sg 2 (pc' := 29) (L' := [some (.ref 14), some (.ref 3), some (.int (nI j))]) (S' := [.int 8, .int (nI j)]) (σ' := lm_T M1 v G) rfl trivial ?_
    refine lm_G_br (b := 8 ≤ (nI j)) (t := 98) (S' := []) rfl (fun hc => absurd hc (nI_ge (b := 8) hj (by omega))) (fun hc => ?_)
    refine lm_G_sg 7 (pc' := 43) (L' := [some (.ref 14), some (.ref 3), some (.int (nI j))]) (S' := [.int (M1 4 (nI j).toNatClampNeg), .int (nI j), .ref 15]) (σ' := lm_T M1 v G) rfl ⟨(vp_in_nI (by omega) (by omega)), trivial, trivial⟩ ?_
    rw [show (nI j).toNatClampNeg = j from nI_clamp (by omega)]
    rw [show M1 4 j = M 4 j from (by rw [m3 4 (by decide) (by decide)] : M1 4 j = M 4 j)]
    refine lm_G_sg 1 (pc' := 44) (L' := [some (.ref 14), some (.ref 3), some (.int (nI j))]) (S' := []) (σ' := lm_T (lm_wr M1 15 ((nI j).toNatClampNeg) (M 4 j)) v G) rfl ⟨(vp_in_nI (by omega) (by omega)), trivial, trivial⟩ ?_
    rw [show (nI j).toNatClampNeg = j from nI_clamp (by omega)]
    refine lm_G_sg 7 (pc' := 55) (L' := [some (.ref 14), some (.ref 3), some (.int (nI j))]) (S' := [.int ((lm_wr M1 15 j (M 4 j)) 5 (nI j).toNatClampNeg), .int (nI j), .ref 16]) (σ' := lm_T (lm_wr M1 15 j (M 4 j)) v G) rfl ⟨(vp_in_nI (by omega) (by omega)), trivial, trivial⟩ ?_
    rw [show (nI j).toNatClampNeg = j from nI_clamp (by omega)]
    show lm_G X d 11 106 0 0 55 [some (.ref 14), some (.ref 3), some (.int (nI j))] [.int (M1 5 j), .int (nI j), .ref 16] (lm_T (lm_wr M1 15 j (M 4 j)) v G) Q
    rw [show M1 5 j = M 5 j from (by rw [m3 5 (by decide) (by decide)] : M1 5 j = M 5 j)]
    refine lm_G_sg 1 (pc' := 56) (L' := [some (.ref 14), some (.ref 3), some (.int (nI j))]) (S' := []) (σ' := lm_T (lm_wr (lm_wr M1 15 j (M 4 j)) 16 ((nI j).toNatClampNeg) (M 5 j)) v G) rfl ⟨(vp_in_nI (by omega) (by omega)), trivial, trivial⟩ ?_
    rw [show (nI j).toNatClampNeg = j from nI_clamp (by omega)]
    refine lm_G_sg 7 (pc' := 67) (L' := [some (.ref 14), some (.ref 3), some (.int (nI j))]) (S' := [.int ((lm_wr (lm_wr M1 15 j (M 4 j)) 16 j (M 5 j)) 6 (nI j).toNatClampNeg), .int (nI j), .ref 17]) (σ' := lm_T (lm_wr (lm_wr M1 15 j (M 4 j)) 16 j (M 5 j)) v G) rfl ⟨(vp_in_nI (by omega) (by omega)), trivial, trivial⟩ ?_
    rw [show (nI j).toNatClampNeg = j from nI_clamp (by omega)]
    show lm_G X d 11 106 0 0 67 [some (.ref 14), some (.ref 3), some (.int (nI j))] [.int (M1 6 j), .int (nI j), .ref 17] (lm_T (lm_wr (lm_wr M1 15 j (M 4 j)) 16 j (M 5 j)) v G) Q
    rw [show M1 6 j = M 6 j from (by rw [m3 6 (by decide) (by decide)] : M1 6 j = M 6 j)]
    refine lm_G_sg 1 (pc' := 68) (L' := [some (.ref 14), some (.ref 3), some (.int (nI j))]) (S' := []) (σ' := lm_T (lm_wr (lm_wr (lm_wr M1 15 j (M 4 j)) 16 j (M 5 j)) 17 ((nI j).toNatClampNeg) (M 6 j)) v G) rfl ⟨(vp_in_nI (by omega) (by omega)), trivial, trivial⟩ ?_
    rw [show (nI j).toNatClampNeg = j from nI_clamp (by omega)]
    refine lm_G_sg 7 (pc' := 79) (L' := [some (.ref 14), some (.ref 3), some (.int (nI j))]) (S' := [.int ((lm_wr (lm_wr (lm_wr M1 15 j (M 4 j)) 16 j (M 5 j)) 17 j (M 6 j)) 7 (nI j).toNatClampNeg), .int (nI j), .ref 18]) (σ' := lm_T (lm_wr (lm_wr (lm_wr M1 15 j (M 4 j)) 16 j (M 5 j)) 17 j (M 6 j)) v G) rfl ⟨(vp_in_nI (by omega) (by omega)), trivial, trivial⟩ ?_
    rw [show (nI j).toNatClampNeg = j from nI_clamp (by omega)]
    show lm_G X d 11 106 0 0 79 [some (.ref 14), some (.ref 3), some (.int (nI j))] [.int (M1 7 j), .int (nI j), .ref 18] (lm_T (lm_wr (lm_wr (lm_wr M1 15 j (M 4 j)) 16 j (M 5 j)) 17 j (M 6 j)) v G) Q
    rw [show M1 7 j = M 7 j from (by rw [m3 7 (by decide) (by decide)] : M1 7 j = M 7 j)]
    refine lm_G_sg 1 (pc' := 80) (L' := [some (.ref 14), some (.ref 3), some (.int (nI j))]) (S' := []) (σ' := lm_T (lm_wr (lm_wr (lm_wr (lm_wr M1 15 j (M 4 j)) 16 j (M 5 j)) 17 j (M 6 j)) 18 ((nI j).toNatClampNeg) (M 7 j)) v G) rfl ⟨(vp_in_nI (by omega) (by omega)), trivial, trivial⟩ ?_
    rw [show (nI j).toNatClampNeg = j from nI_clamp (by omega)]
    refine lm_G_sg 7 (pc' := 91) (L' := [some (.ref 14), some (.ref 3), some (.int (nI j))]) (S' := [.int ((lm_wr (lm_wr (lm_wr (lm_wr M1 15 j (M 4 j)) 16 j (M 5 j)) 17 j (M 6 j)) 18 j (M 7 j)) 8 (nI j).toNatClampNeg), .int (nI j), .ref 19]) (σ' := lm_T (lm_wr (lm_wr (lm_wr (lm_wr M1 15 j (M 4 j)) 16 j (M 5 j)) 17 j (M 6 j)) 18 j (M 7 j)) v G) rfl ⟨(vp_in_nI (by omega) (by omega)), trivial, trivial⟩ ?_
    rw [show (nI j).toNatClampNeg = j from nI_clamp (by omega)]
    show lm_G X d 11 106 0 0 91 [some (.ref 14), some (.ref 3), some (.int (nI j))] [.int (M1 8 j), .int (nI j), .ref 19] (lm_T (lm_wr (lm_wr (lm_wr (lm_wr M1 15 j (M 4 j)) 16 j (M 5 j)) 17 j (M 6 j)) 18 j (M 7 j)) v G) Q
    rw [show M1 8 j = M 8 j from (by rw [m3 8 (by decide) (by decide)] : M1 8 j = M 8 j)]
    refine lm_G_sg 1 (pc' := 92) (L' := [some (.ref 14), some (.ref 3), some (.int (nI j))]) (S' := []) (σ' := lm_T (lm_wr (lm_wr (lm_wr (lm_wr (lm_wr M1 15 j (M 4 j)) 16 j (M 5 j)) 17 j (M 6 j)) 18 j (M 7 j)) 19 ((nI j).toNatClampNeg) (vp_nar .boolean (M 8 j))) v G) rfl ⟨(vp_in_nI (by omega) (by omega)), trivial, trivial⟩ ?_
    rw [show (nI j).toNatClampNeg = j from nI_clamp (by omega)]
    refine lm_G_sg 1 (pc' := 95) (L' := [some (.ref 14), some (.ref 3), some (.int ((nI j) + 1))]) (S' := []) (σ' := lm_T (lm_wr (lm_wr (lm_wr (lm_wr (lm_wr M1 15 j (M 4 j)) 16 j (M 5 j)) 17 j (M 6 j)) 18 j (M 7 j)) 19 j (vp_nar .boolean (M 8 j))) v G) rfl trivial ?_
    rw [nI_1]
    refine lm_G_sg 1 (pc' := 26) (L' := [some (.ref 14), some (.ref 3), some (.int (nI (j + 1)))]) (S' := []) (σ' := lm_T (lm_wr (lm_wr (lm_wr (lm_wr (lm_wr M1 15 j (M 4 j)) 16 j (M 5 j)) 17 j (M 6 j)) 18 j (M 7 j)) 19 j (vp_nar .boolean (M 8 j))) v G) rfl trivial ?_
    exact ih _ (⟨fun r h => by rw [wr_row (by omega), wr_row (by omega), wr_row (by omega), wr_row (by omega), wr_row (by omega)]; exact i0 r h, wr_nx i1 rfl, wr_nx i2 rfl, wr_nx i3 rfl, wr_nx i4 rfl, wr_nx i5 rfl⟩)
  ·
    revert hI
    revert zz
    intro M1 hI
    replace hI : (∀ r, r < 15 ∨ 19 < r → M1 r = N0 r) ∧ (∀ i, i < 8 → M1 15 i = M 4 i) ∧ (∀ i, i < 8 → M1 16 i = M 5 i) ∧ (∀ i, i < 8 → M1 17 i = M 6 i) ∧ (∀ i, i < 8 → M1 18 i = M 7 i) ∧ (∀ i, i < 8 → M1 19 i = vp_nar .boolean (M 8 i)) := hI
    show lm_G X d 11 106 0 0 26 [some (.ref 14), some (.ref 3), some (.int (nI 8))] [] (lm_T M1 v G) Q
    obtain ⟨i0, i1, i2, i3, i4, i5⟩ := hI
    refine lm_G_sg 2 (pc' := 29) (L' := [some (.ref 14), some (.ref 3), some (.int (nI 8))]) (S' := [.int 8, .int (nI 8)]) (σ' := lm_T M1 v G) rfl trivial ?_
    refine lm_G_br (b := 8 ≤ (nI 8)) (t := 98) (S' := []) rfl (fun hc => ?_) (fun hc => absurd (nI_le (a := 8) (Nat.le_refl _) (by omega)) hc)
    refine lm_G_sg 2 (pc' := 100) (L' := [some (.ref 14), some (.ref 3), some (.int 0)]) (S' := []) (σ' := lm_T M1 v G) rfl trivial ?_
    refine lm_ind (α := (Nat → Fn)) (St := fun (j : Nat) zz => (fun (M2 : Nat → Fn) => lm_G X d 11 106 0 0 100 [some (.ref 14), some (.ref 3), some (.int (nI j))] [] (lm_T M2 v G) Q) zz) (Inv := fun (j : Nat) zz => (fun (M2 : Nat → Fn) => (∀ r, r ≠ 20 → r ≠ 21 → M2 r = M1 r) ∧ (∀ i, i < j → M2 20 i = M 9 i) ∧ (∀ i, i < j → M2 21 i = M 10 i)) zz) (6) (fun j zz hj2 hI2 ih2 => ?_) (fun zz hI2 => ?_) (0) M1 (by omega) ?_
    ·
      revert ih2 hI2
      revert zz
      intro M2 hI2 ih2
      replace hI2 : (∀ r, r ≠ 20 → r ≠ 21 → M2 r = M1 r) ∧ (∀ i, i < j → M2 20 i = M 9 i) ∧ (∀ i, i < j → M2 21 i = M 10 i) := hI2
      replace ih2 : ∀ (M2 : Nat → Fn) (_ : (∀ r, r ≠ 20 → r ≠ 21 → M2 r = M1 r) ∧ (∀ i, i < (j + 1) → M2 20 i = M 9 i) ∧ (∀ i, i < (j + 1) → M2 21 i = M 10 i)), lm_G X d 11 106 0 0 100 [some (.ref 14), some (.ref 3), some (.int (nI (j + 1)))] [] (lm_T M2 v G) Q := fun M2 q => ih2 M2 q
      show lm_G X d 11 106 0 0 100 [some (.ref 14), some (.ref 3), some (.int (nI j))] [] (lm_T M2 v G) Q
      obtain ⟨k0, k1, k2⟩ := hI2
      have m9 : M2 9 = M 9 := (k0 9 (by decide) (by decide)).trans ((i0 9 (by omega)).trans (ao 9 (by decide)))
      have m10 : M2 10 = M 10 := (k0 10 (by decide) (by decide)).trans ((i0 10 (by omega)).trans (ao 10 (by decide)))
      refine lm_G_sg 2 (pc' := 103) (L' := [some (.ref 14), some (.ref 3), some (.int (nI j))]) (S' := [.int 6, .int (nI j)]) (σ' := lm_T M2 v G) rfl trivial ?_
      refine lm_G_br (b := 6 ≤ (nI j)) (t := 136) (S' := []) rfl (fun hc => absurd hc (nI_ge (b := 6) hj2 (by omega))) (fun hc => ?_)
      refine lm_G_sg 7 (pc' := 117) (L' := [some (.ref 14), some (.ref 3), some (.int (nI j))]) (S' := [.int (M2 9 (nI j).toNatClampNeg), .int (nI j), .ref 20]) (σ' := lm_T M2 v G) rfl ⟨(vp_in_nI (by omega) (by omega)), trivial, trivial⟩ ?_
      rw [show (nI j).toNatClampNeg = j from nI_clamp (by omega)]
      rw [show M2 9 j = M 9 j from (by rw [m9] : M2 9 j = M 9 j)]
      refine lm_G_sg 1 (pc' := 118) (L' := [some (.ref 14), some (.ref 3), some (.int (nI j))]) (S' := []) (σ' := lm_T (lm_wr M2 20 ((nI j).toNatClampNeg) (M 9 j)) v G) rfl ⟨(vp_in_nI (by omega) (by omega)), trivial, trivial⟩ ?_
      rw [show (nI j).toNatClampNeg = j from nI_clamp (by omega)]
      refine lm_G_sg 7 (pc' := 129) (L' := [some (.ref 14), some (.ref 3), some (.int (nI j))]) (S' := [.int ((lm_wr M2 20 j (M 9 j)) 10 (nI j).toNatClampNeg), .int (nI j), .ref 21]) (σ' := lm_T (lm_wr M2 20 j (M 9 j)) v G) rfl ⟨(vp_in_nI (by omega) (by omega)), trivial, trivial⟩ ?_
      rw [show (nI j).toNatClampNeg = j from nI_clamp (by omega)]
      show lm_G X d 11 106 0 0 129 [some (.ref 14), some (.ref 3), some (.int (nI j))] [.int (M2 10 j), .int (nI j), .ref 21] (lm_T (lm_wr M2 20 j (M 9 j)) v G) Q
      rw [show M2 10 j = M 10 j from (by rw [m10] : M2 10 j = M 10 j)]
      refine lm_G_sg 1 (pc' := 130) (L' := [some (.ref 14), some (.ref 3), some (.int (nI j))]) (S' := []) (σ' := lm_T (lm_wr (lm_wr M2 20 j (M 9 j)) 21 ((nI j).toNatClampNeg) (M 10 j)) v G) rfl ⟨(vp_in_nI (by omega) (by omega)), trivial, trivial⟩ ?_
      rw [show (nI j).toNatClampNeg = j from nI_clamp (by omega)]
      refine lm_G_sg 1 (pc' := 133) (L' := [some (.ref 14), some (.ref 3), some (.int ((nI j) + 1))]) (S' := []) (σ' := lm_T (lm_wr (lm_wr M2 20 j (M 9 j)) 21 j (M 10 j)) v G) rfl trivial ?_
      rw [nI_1]
      refine lm_G_sg 1 (pc' := 100) (L' := [some (.ref 14), some (.ref 3), some (.int (nI (j + 1)))]) (S' := []) (σ' := lm_T (lm_wr (lm_wr M2 20 j (M 9 j)) 21 j (M 10 j)) v G) rfl trivial ?_
      exact ih2 _ (⟨fun r h h2 => by rw [wr_row h2, wr_row h]; exact k0 r h h2, wr_nx k1 rfl, wr_nx k2 rfl⟩)
    ·
      revert hI2
      revert zz
      intro M2 hI2
      replace hI2 : (∀ r, r ≠ 20 → r ≠ 21 → M2 r = M1 r) ∧ (∀ i, i < 6 → M2 20 i = M 9 i) ∧ (∀ i, i < 6 → M2 21 i = M 10 i) := hI2
      show lm_G X d 11 106 0 0 100 [some (.ref 14), some (.ref 3), some (.int (nI 6))] [] (lm_T M2 v G) Q
      obtain ⟨k0, k1, k2⟩ := hI2
      have m3 : ∀ r, r < 14 → M2 r = M r := fun r h => (k0 r (by omega) (by omega)).trans ((i0 r (by omega)).trans (ao r (by omega)))
      refine lm_G_sg 2 (pc' := 103) (L' := [some (.ref 14), some (.ref 3), some (.int (nI 6))]) (S' := [.int 6, .int (nI 6)]) (σ' := lm_T M2 v G) rfl trivial ?_
      refine lm_G_br (b := 6 ≤ (nI 6)) (t := 136) (S' := []) rfl (fun hc => ?_) (fun hc => absurd (nI_le (a := 6) (Nat.le_refl _) (by omega)) hc)
      refine lm_G_sg 14 (pc' := 162) (L' := [some (.ref 14), some (.ref 3), some (.int 0)]) (S' := []) (σ' := lm_T (lm_wa (lm_wr M2 14 11 (M2 3 11)) 22 (va_cpy (M2 11) (M2 22) 0 0 700)) v G) rfl ⟨trivial, trivial, ⟨by decide, by decide, by decide, by decide, by decide⟩, (Nat.le_of_ble_eq_true rfl), trivial⟩ ?_
      have b0 : (lm_wa (lm_wr M2 14 11 (M2 3 11)) 22 (va_cpy (M2 11) (M2 22) 0 0 700)) 14 0 = M 3 0 := by show M2 14 0 = _; rw [k0 14 (by decide) (by decide), i0 14 (by omega)]; exact a0
      have b6 : (lm_wa (lm_wr M2 14 11 (M2 3 11)) 22 (va_cpy (M2 11) (M2 22) 0 0 700)) 14 6 = M 3 6 := by show M2 14 6 = _; rw [k0 14 (by decide) (by decide), i0 14 (by omega)]; exact a6
      have b9 : (lm_wa (lm_wr M2 14 11 (M2 3 11)) 22 (va_cpy (M2 11) (M2 22) 0 0 700)) 14 9 = M 3 9 := by show M2 14 9 = _; rw [k0 14 (by decide) (by decide), i0 14 (by omega)]; exact a9
      have b22 : ∀ i, i < 700 → (lm_wa (lm_wr M2 14 11 (M2 3 11)) 22 (va_cpy (M2 11) (M2 22) 0 0 700)) 22 i = M 11 i := fun i hi => by
        rw [wa_same, pk_cpy_in (by omega) (by omega)]
        simp only [Nat.sub_zero, Nat.zero_add]
        show M2 11 i = _
        rw [m3 11 (by decide)]
      have bo : ∀ r, r ≠ 14 → r ≠ 22 → (lm_wa (lm_wr M2 14 11 (M2 3 11)) 22 (va_cpy (M2 11) (M2 22) 0 0 700)) r = M2 r := fun r h h2 => by rw [wa_row h2, wr_row h]
      revert b0 b6 b9 b22 bo
      generalize lm_wa (lm_wr M2 14 11 (M2 3 11)) 22 (va_cpy (M2 11) (M2 22) 0 0 700) = N2
      intro b0 b6 b9 b22 bo
      refine lm_ind (α := (Nat → Fn)) (St := fun (j : Nat) zz => (fun (M3 : Nat → Fn) => lm_G X d 11 106 0 0 162 [some (.ref 14), some (.ref 3), some (.int (nI j))] [] (lm_T M3 v G) Q) zz) (Inv := fun (j : Nat) zz => (fun (M3 : Nat → Fn) => (∀ r, r ≠ 23 → r ≠ 24 → M3 r = N2 r) ∧ (∀ i, i < j → M3 23 i = M 12 i) ∧ (∀ i, i < j → M3 24 i = M 13 i)) zz) (2) (fun j zz hj3 hI3 ih3 => ?_) (fun zz hI3 => ?_) (0) N2 (by omega) ?_
      ·
        revert ih3 hI3
        revert zz
        intro M3 hI3 ih3
        replace hI3 : (∀ r, r ≠ 23 → r ≠ 24 → M3 r = N2 r) ∧ (∀ i, i < j → M3 23 i = M 12 i) ∧ (∀ i, i < j → M3 24 i = M 13 i) := hI3
        replace ih3 : ∀ (M3 : Nat → Fn) (_ : (∀ r, r ≠ 23 → r ≠ 24 → M3 r = N2 r) ∧ (∀ i, i < (j + 1) → M3 23 i = M 12 i) ∧ (∀ i, i < (j + 1) → M3 24 i = M 13 i)), lm_G X d 11 106 0 0 162 [some (.ref 14), some (.ref 3), some (.int (nI (j + 1)))] [] (lm_T M3 v G) Q := fun M3 q => ih3 M3 q
        show lm_G X d 11 106 0 0 162 [some (.ref 14), some (.ref 3), some (.int (nI j))] [] (lm_T M3 v G) Q
        obtain ⟨q0, q1, q2⟩ := hI3
        have m12 : M3 12 = M 12 := (q0 12 (by decide) (by decide)).trans ((bo 12 (by decide) (by decide)).trans (m3 12 (by decide)))
        have m13 : M3 13 = M 13 := (q0 13 (by decide) (by decide)).trans ((bo 13 (by decide) (by decide)).trans (m3 13 (by decide)))
        refine lm_G_sg 2 (pc' := 164) (L' := [some (.ref 14), some (.ref 3), some (.int (nI j))]) (S' := [.int 2, .int (nI j)]) (σ' := lm_T M3 v G) rfl trivial ?_
        refine lm_G_br (b := 2 ≤ (nI j)) (t := 197) (S' := []) rfl (fun hc => absurd hc (nI_ge (b := 2) hj3 (by omega))) (fun hc => ?_)
        refine lm_G_sg 7 (pc' := 178) (L' := [some (.ref 14), some (.ref 3), some (.int (nI j))]) (S' := [.int (M3 12 (nI j).toNatClampNeg), .int (nI j), .ref 23]) (σ' := lm_T M3 v G) rfl ⟨(vp_in_nI (by omega) (by omega)), trivial, trivial⟩ ?_
        rw [show (nI j).toNatClampNeg = j from nI_clamp (by omega)]
        rw [show M3 12 j = M 12 j from (by rw [m12] : M3 12 j = M 12 j)]
        refine lm_G_sg 1 (pc' := 179) (L' := [some (.ref 14), some (.ref 3), some (.int (nI j))]) (S' := []) (σ' := lm_T (lm_wr M3 23 ((nI j).toNatClampNeg) (M 12 j)) v G) rfl ⟨(vp_in_nI (by omega) (by omega)), trivial, trivial⟩ ?_
        rw [show (nI j).toNatClampNeg = j from nI_clamp (by omega)]
        refine lm_G_sg 7 (pc' := 190) (L' := [some (.ref 14), some (.ref 3), some (.int (nI j))]) (S' := [.int ((lm_wr M3 23 j (M 12 j)) 13 (nI j).toNatClampNeg), .int (nI j), .ref 24]) (σ' := lm_T (lm_wr M3 23 j (M 12 j)) v G) rfl ⟨(vp_in_nI (by omega) (by omega)), trivial, trivial⟩ ?_
        rw [show (nI j).toNatClampNeg = j from nI_clamp (by omega)]
        show lm_G X d 11 106 0 0 190 [some (.ref 14), some (.ref 3), some (.int (nI j))] [.int (M3 13 j), .int (nI j), .ref 24] (lm_T (lm_wr M3 23 j (M 12 j)) v G) Q
        rw [show M3 13 j = M 13 j from (by rw [m13] : M3 13 j = M 13 j)]
        refine lm_G_sg 1 (pc' := 191) (L' := [some (.ref 14), some (.ref 3), some (.int (nI j))]) (S' := []) (σ' := lm_T (lm_wr (lm_wr M3 23 j (M 12 j)) 24 ((nI j).toNatClampNeg) (M 13 j)) v G) rfl ⟨(vp_in_nI (by omega) (by omega)), trivial, trivial⟩ ?_
        rw [show (nI j).toNatClampNeg = j from nI_clamp (by omega)]
        refine lm_G_sg 1 (pc' := 194) (L' := [some (.ref 14), some (.ref 3), some (.int ((nI j) + 1))]) (S' := []) (σ' := lm_T (lm_wr (lm_wr M3 23 j (M 12 j)) 24 j (M 13 j)) v G) rfl trivial ?_
        rw [nI_1]
        refine lm_G_sg 1 (pc' := 162) (L' := [some (.ref 14), some (.ref 3), some (.int (nI (j + 1)))]) (S' := []) (σ' := lm_T (lm_wr (lm_wr M3 23 j (M 12 j)) 24 j (M 13 j)) v G) rfl trivial ?_
        exact ih3 _ (⟨fun r h h2 => by rw [wr_row h2, wr_row h]; exact q0 r h h2, wr_nx q1 rfl, wr_nx q2 rfl⟩)
      ·
        revert hI3
        revert zz
        intro M3 hI3
        replace hI3 : (∀ r, r ≠ 23 → r ≠ 24 → M3 r = N2 r) ∧ (∀ i, i < 2 → M3 23 i = M 12 i) ∧ (∀ i, i < 2 → M3 24 i = M 13 i) := hI3
        show lm_G X d 11 106 0 0 162 [some (.ref 14), some (.ref 3), some (.int (nI 2))] [] (lm_T M3 v G) Q
        obtain ⟨q0, q1, q2⟩ := hI3
        refine lm_G_sg 2 (pc' := 164) (L' := [some (.ref 14), some (.ref 3), some (.int (nI 2))]) (S' := [.int 2, .int (nI 2)]) (σ' := lm_T M3 v G) rfl trivial ?_
        refine lm_G_br (b := 2 ≤ (nI 2)) (t := 197) (S' := []) rfl (fun hc => ?_) (fun hc => absurd (nI_le (a := 2) (Nat.le_refl _) (by omega)) hc)
        have g3 : ∀ r, r ≠ 23 → r ≠ 24 → r ≠ 22 → r ≠ 14 → M3 r = M2 r := fun r h1 h2 h3 h4 => (q0 r h1 h2).trans (bo r h4 h3)
        have g1 : ∀ r, 15 ≤ r → r ≤ 19 → M3 r = M1 r := fun r h1 h2 => (g3 r (by omega) (by omega) (by omega) (by omega)).trans (k0 r (by omega) (by omega))
        exact lm_G_re rfl trivial (Nat.zero_le _) (Nat.zero_le _) (hQ _ (by
          obtain ⟨d1, d2, d3, d4, d5, d6, d7, d8, d9, d10, d11, d12, d13, d14⟩ := hd
          obtain ⟨o1, o2, o3, o4, o5, o6⟩ := hD
          have cd_ : ∀ i, i < K.length → M3 22 i = encC (K.getD i (0, 0)) := fun i hi => by
            rw [q0 22 (by decide) (by decide), b22 i (by omega)]
            exact d12.2 i hi
          refine ⟨?_, ?_, ?_, ?_, ?_, ?_, o4, ?_, ?_⟩
          · rw [q0 14 (by decide) (by decide), b0]; exact d1
          · rw [q0 14 (by decide) (by decide), b6]; exact d2
          · rw [q0 14 (by decide) (by decide), b9]; exact d3
          · intro i hi
            replace hi : i < dNo D := hi
            rw [g1 16 (by decide) (by decide), i2 i (by omega)]; exact d6 i hi
          · intro i hi
            replace hi : i < dNo D := hi
            rw [g1 19 (by decide) (by decide), i5 i (by omega), d9 i hi]; exact nar_01 (o4 i hi)
          · intro i hi
            replace hi : i < dM D := hi
            rw [g3 20 (by decide) (by decide) (by decide) (by decide), k1 i (by omega)]; exact d10 i hi
          · obtain ⟨a, e1, e2, e3, e4⟩ := d13
            refine ⟨a, Nat.le_trans e1 hK, ?_, ?_, fun k hk => ?_⟩
            · rw [q1 0 (by decide)]; exact e2
            · rw [q2 0 (by decide)]; exact e3
            · replace hk : k < (dR0 D).length := hk
              rw [cd_ (a + k) (by omega), e4 k hk]; rfl
          · obtain ⟨a, e1, e2, e3, e4⟩ := d14
            refine ⟨a, Nat.le_trans e1 hK, ?_, ?_, fun k hk => ?_⟩
            · rw [q1 1 (by decide)]; exact e2
            · rw [q2 1 (by decide)]; exact e3
            · replace hk : k < (dR1 D).length := hk
              rw [cd_ (a + k) (by omega), e4 k hk]; rfl) (fun i hi => by
          rw [g1 15 (by decide) (by decide), i1 i (by have := hD.1; omega)]; exact hd.2.2.2.2.1 i hi) (fun i hi => by
          rw [g1 17 (by decide) (by decide), i3 i (by have := hD.1; omega)]; exact hd.2.2.2.2.2.2.1 i hi) (fun i hi => by
          rw [g1 18 (by decide) (by decide), i4 i (by have := hD.1; omega)]; exact hd.2.2.2.2.2.2.2.1 i hi) (fun i hi => by
          rw [g3 21 (by decide) (by decide) (by decide) (by decide), k2 i (by have := hD.2.1; omega)]; exact hd.2.2.2.2.2.2.2.2.2.2.1 i hi) (fun r hr => (g3 r (by omega) (by omega) (by omega) (by omega)).trans ((k0 r (by omega) (by omega)).trans ((i0 r (by omega)).trans (ao r (by omega))))))
      ·
        try dsimp only
        exact ⟨fun _ _ _ => rfl, fun i hi => absurd hi (Nat.not_lt_zero i), fun i hi => absurd hi (Nat.not_lt_zero i)⟩
    ·
      try dsimp only
      exact ⟨fun _ _ _ => rfl, fun i hi => absurd hi (Nat.not_lt_zero i), fun i hi => absurd hi (Nat.not_lt_zero i)⟩
  ·
    try dsimp only
    exact ⟨fun _ _ => rfl, fun i hi => absurd hi (Nat.not_lt_zero i), fun i hi => absurd hi (Nat.not_lt_zero i), fun i hi => absurd hi (Nat.not_lt_zero i), fun i hi => absurd hi (Nat.not_lt_zero i), fun i hi => absurd hi (Nat.not_lt_zero i)⟩
set_option maxRecDepth 10000 in
theorem c_begin {X : lm_X} {d v : Nat} {M : Nat → Nat → Int32} {G : Nat → Nat → Int64} {Q : lm_O → lm_S → Prop} {F : Fa} {s : Sc} {br pl co ow : Fn} (hF : okF F) (hk : KC M F) (hs : s = (0, br, pl, co, (fun _ => -1), (fun _ => 0), (fun _ => 99), ow)) (h15 : Ag (fN F) (M 15) (sBr s)) (h17 : Ag (fN F) (M 17) (sPl s)) (h18 : Ag (fN F) (M 18) (sCo s)) (h21 : Ag (fM F) (M 21) (sOw s)) (hQ : ∀ M1, RC 28 M1 F s → M1 28 12 = -1 → (∀ r, r < 28 ∨ 38 ≤ r → M1 r = M r) → Q (.inl none) (lm_T M1 v G)) : lm_Q X (d + 1) 52 [.ref 28] (lm_T M v G) Q := by
  show lm_G X (d + 1) 52 106 0 0 0 [some (.ref 28), none] [] (lm_T M v G) Q
  refine lm_G_sg 11 (pc' := 17) (L' := [some (.ref 28), some (.int 0)]) (S' := []) (σ' := lm_T (lm_wr (lm_wr (lm_wr M 28 2 0) 28 12 (-1)) 28 13 0) v G) rfl ⟨trivial, trivial, trivial, trivial, trivial, trivial, trivial⟩ ?_
  have a2 : (lm_wr (lm_wr (lm_wr M 28 2 0) 28 12 (-1)) 28 13 0) 28 2 = 0 := rfl
  have a12 : (lm_wr (lm_wr (lm_wr M 28 2 0) 28 12 (-1)) 28 13 0) 28 12 = -1 := rfl
  have ao : ∀ r, r ≠ 28 → (lm_wr (lm_wr (lm_wr M 28 2 0) 28 12 (-1)) 28 13 0) r = M r := fun r h => by rw [wr_row h, wr_row h, wr_row h]
  revert a2 a12 ao
  generalize lm_wr (lm_wr (lm_wr M 28 2 0) 28 12 (-1)) 28 13 0 = N0
  intro a2 a12 ao
  refine lm_ind (α := (Nat → Fn)) (St := fun (j : Nat) zz => (fun (M1 : Nat → Fn) => lm_G X (d + 1) 52 106 0 0 17 [some (.ref 28), some (.int (nI j))] [] (lm_T M1 v G) Q) zz) (Inv := fun (j : Nat) zz => (fun (M1 : Nat → Fn) => (∀ r, r < 29 ∨ 34 < r → M1 r = N0 r) ∧ (∀ i, i < j → M1 29 i = M 15 i) ∧ (∀ i, i < j → M1 30 i = M 17 i) ∧ (∀ i, i < j → M1 31 i = M 18 i) ∧ (∀ i, i < j → M1 32 i = (fun _ => -1 : Fn) i) ∧ (∀ i, i < j → M1 33 i = (fun _ => 0 : Fn) i) ∧ (∀ i, i < j → M1 34 i = (fun _ => 99 : Fn) i)) zz) (8) (fun j zz hj hI ih => ?_) (fun zz hI => ?_) (0) N0 (by omega) ?_
  ·
    revert ih hI
    revert zz
    intro M1 hI ih
    replace hI : (∀ r, r < 29 ∨ 34 < r → M1 r = N0 r) ∧ (∀ i, i < j → M1 29 i = M 15 i) ∧ (∀ i, i < j → M1 30 i = M 17 i) ∧ (∀ i, i < j → M1 31 i = M 18 i) ∧ (∀ i, i < j → M1 32 i = (fun _ => -1 : Fn) i) ∧ (∀ i, i < j → M1 33 i = (fun _ => 0 : Fn) i) ∧ (∀ i, i < j → M1 34 i = (fun _ => 99 : Fn) i) := hI
    replace ih : ∀ (M1 : Nat → Fn) (_ : (∀ r, r < 29 ∨ 34 < r → M1 r = N0 r) ∧ (∀ i, i < (j + 1) → M1 29 i = M 15 i) ∧ (∀ i, i < (j + 1) → M1 30 i = M 17 i) ∧ (∀ i, i < (j + 1) → M1 31 i = M 18 i) ∧ (∀ i, i < (j + 1) → M1 32 i = (fun _ => -1 : Fn) i) ∧ (∀ i, i < (j + 1) → M1 33 i = (fun _ => 0 : Fn) i) ∧ (∀ i, i < (j + 1) → M1 34 i = (fun _ => 99 : Fn) i)), lm_G X (d + 1) 52 106 0 0 17 [some (.ref 28), some (.int (nI (j + 1)))] [] (lm_T M1 v G) Q := fun M1 q => ih M1 q
    show lm_G X (d + 1) 52 106 0 0 17 [some (.ref 28), some (.int (nI j))] [] (lm_T M1 v G) Q
    obtain ⟨i0, i1, i2, i3, i4, i5, i6⟩ := hI
    have m3 : ∀ r, 14 ≤ r → r ≤ 21 → M1 r = M r := fun r h1 h2 => (i0 r (by omega)).trans (ao r (by omega))
    refine lm_G_sg 2 (pc' := 20) (L' := [some (.ref 28), some (.int (nI j))]) (S' := [.int 8, .int (nI j)]) (σ' := lm_T M1 v G) rfl trivial ?_
    refine lm_G_br (b := 8 ≤ (nI j)) (t := 96) (S' := []) rfl (fun hc => absurd hc (nI_ge (b := 8) hj (by omega))) (fun hc => ?_)
    refine lm_G_sg 8 (pc' := 37) (L' := [some (.ref 28), some (.int (nI j))]) (S' := [.int (M1 15 (nI j).toNatClampNeg), .int (nI j), .ref 29]) (σ' := lm_T M1 v G) rfl ⟨(vp_in_nI (by omega) (by omega)), trivial, trivial⟩ ?_
    rw [show (nI j).toNatClampNeg = j from nI_clamp (by omega)]
    rw [show M1 15 j = M 15 j from (by rw [m3 15 (by decide) (by decide)] : M1 15 j = M 15 j)]
    refine lm_G_sg 1 (pc' := 38) (L' := [some (.ref 28), some (.int (nI j))]) (S' := []) (σ' := lm_T (lm_wr M1 29 ((nI j).toNatClampNeg) (M 15 j)) v G) rfl ⟨(vp_in_nI (by omega) (by omega)), trivial, trivial⟩ ?_
    rw [show (nI j).toNatClampNeg = j from nI_clamp (by omega)]
    refine lm_G_sg 8 (pc' := 52) (L' := [some (.ref 28), some (.int (nI j))]) (S' := [.int ((lm_wr M1 29 j (M 15 j)) 17 (nI j).toNatClampNeg), .int (nI j), .ref 30]) (σ' := lm_T (lm_wr M1 29 j (M 15 j)) v G) rfl ⟨(vp_in_nI (by omega) (by omega)), trivial, trivial⟩ ?_
    rw [show (nI j).toNatClampNeg = j from nI_clamp (by omega)]
    show lm_G X (d + 1) 52 106 0 0 52 [some (.ref 28), some (.int (nI j))] [.int (M1 17 j), .int (nI j), .ref 30] (lm_T (lm_wr M1 29 j (M 15 j)) v G) Q
    rw [show M1 17 j = M 17 j from (by rw [m3 17 (by decide) (by decide)] : M1 17 j = M 17 j)]
    refine lm_G_sg 1 (pc' := 53) (L' := [some (.ref 28), some (.int (nI j))]) (S' := []) (σ' := lm_T (lm_wr (lm_wr M1 29 j (M 15 j)) 30 ((nI j).toNatClampNeg) (M 17 j)) v G) rfl ⟨(vp_in_nI (by omega) (by omega)), trivial, trivial⟩ ?_
    rw [show (nI j).toNatClampNeg = j from nI_clamp (by omega)]
    refine lm_G_sg 8 (pc' := 67) (L' := [some (.ref 28), some (.int (nI j))]) (S' := [.int ((lm_wr (lm_wr M1 29 j (M 15 j)) 30 j (M 17 j)) 18 (nI j).toNatClampNeg), .int (nI j), .ref 31]) (σ' := lm_T (lm_wr (lm_wr M1 29 j (M 15 j)) 30 j (M 17 j)) v G) rfl ⟨(vp_in_nI (by omega) (by omega)), trivial, trivial⟩ ?_
    rw [show (nI j).toNatClampNeg = j from nI_clamp (by omega)]
    show lm_G X (d + 1) 52 106 0 0 67 [some (.ref 28), some (.int (nI j))] [.int (M1 18 j), .int (nI j), .ref 31] (lm_T (lm_wr (lm_wr M1 29 j (M 15 j)) 30 j (M 17 j)) v G) Q
    rw [show M1 18 j = M 18 j from (by rw [m3 18 (by decide) (by decide)] : M1 18 j = M 18 j)]
    refine lm_G_sg 1 (pc' := 68) (L' := [some (.ref 28), some (.int (nI j))]) (S' := []) (σ' := lm_T (lm_wr (lm_wr (lm_wr M1 29 j (M 15 j)) 30 j (M 17 j)) 31 ((nI j).toNatClampNeg) (M 18 j)) v G) rfl ⟨(vp_in_nI (by omega) (by omega)), trivial, trivial⟩ ?_
    rw [show (nI j).toNatClampNeg = j from nI_clamp (by omega)]
    refine lm_G_sg 5 (pc' := 75) (L' := [some (.ref 28), some (.int (nI j))]) (S' := []) (σ' := lm_T (lm_wr (lm_wr (lm_wr (lm_wr M1 29 j (M 15 j)) 30 j (M 17 j)) 31 j (M 18 j)) 32 ((nI j).toNatClampNeg) (-1)) v G) rfl ⟨(vp_in_nI (by omega) (by omega)), trivial, trivial⟩ ?_
    rw [show (nI j).toNatClampNeg = j from nI_clamp (by omega)]
    refine lm_G_sg 5 (pc' := 82) (L' := [some (.ref 28), some (.int (nI j))]) (S' := []) (σ' := lm_T (lm_wr (lm_wr (lm_wr (lm_wr (lm_wr M1 29 j (M 15 j)) 30 j (M 17 j)) 31 j (M 18 j)) 32 j (-1)) 33 ((nI j).toNatClampNeg) 0) v G) rfl ⟨(vp_in_nI (by omega) (by omega)), trivial, trivial⟩ ?_
    rw [show (nI j).toNatClampNeg = j from nI_clamp (by omega)]
    refine lm_G_sg 5 (pc' := 90) (L' := [some (.ref 28), some (.int (nI j))]) (S' := []) (σ' := lm_T (lm_wr (lm_wr (lm_wr (lm_wr (lm_wr (lm_wr M1 29 j (M 15 j)) 30 j (M 17 j)) 31 j (M 18 j)) 32 j (-1)) 33 j 0) 34 ((nI j).toNatClampNeg) 99) v G) rfl ⟨(vp_in_nI (by omega) (by omega)), trivial, trivial⟩ ?_
    rw [show (nI j).toNatClampNeg = j from nI_clamp (by omega)]
    refine lm_G_sg 1 (pc' := 93) (L' := [some (.ref 28), some (.int ((nI j) + 1))]) (S' := []) (σ' := lm_T (lm_wr (lm_wr (lm_wr (lm_wr (lm_wr (lm_wr M1 29 j (M 15 j)) 30 j (M 17 j)) 31 j (M 18 j)) 32 j (-1)) 33 j 0) 34 j 99) v G) rfl trivial ?_
    rw [nI_1]
    refine lm_G_sg 1 (pc' := 17) (L' := [some (.ref 28), some (.int (nI (j + 1)))]) (S' := []) (σ' := lm_T (lm_wr (lm_wr (lm_wr (lm_wr (lm_wr (lm_wr M1 29 j (M 15 j)) 30 j (M 17 j)) 31 j (M 18 j)) 32 j (-1)) 33 j 0) 34 j 99) v G) rfl trivial ?_
    exact ih _ (⟨fun r h => by rw [wr_row (by omega), wr_row (by omega), wr_row (by omega), wr_row (by omega), wr_row (by omega), wr_row (by omega)]; exact i0 r h, wr_nx i1 rfl, wr_nx i2 rfl, wr_nx i3 rfl, wr_nx i4 rfl, wr_nx i5 rfl, wr_nx i6 rfl⟩)
  ·
    revert hI
    revert zz
    intro M1 hI
    replace hI : (∀ r, r < 29 ∨ 34 < r → M1 r = N0 r) ∧ (∀ i, i < 8 → M1 29 i = M 15 i) ∧ (∀ i, i < 8 → M1 30 i = M 17 i) ∧ (∀ i, i < 8 → M1 31 i = M 18 i) ∧ (∀ i, i < 8 → M1 32 i = (fun _ => -1 : Fn) i) ∧ (∀ i, i < 8 → M1 33 i = (fun _ => 0 : Fn) i) ∧ (∀ i, i < 8 → M1 34 i = (fun _ => 99 : Fn) i) := hI
    show lm_G X (d + 1) 52 106 0 0 17 [some (.ref 28), some (.int (nI 8))] [] (lm_T M1 v G) Q
    obtain ⟨i0, i1, i2, i3, i4, i5, i6⟩ := hI
    refine lm_G_sg 2 (pc' := 20) (L' := [some (.ref 28), some (.int (nI 8))]) (S' := [.int 8, .int (nI 8)]) (σ' := lm_T M1 v G) rfl trivial ?_
    refine lm_G_br (b := 8 ≤ (nI 8)) (t := 96) (S' := []) rfl (fun hc => ?_) (fun hc => absurd (nI_le (a := 8) (Nat.le_refl _) (by omega)) hc)
    refine lm_G_sg 2 (pc' := 98) (L' := [some (.ref 28), some (.int 0)]) (S' := []) (σ' := lm_T M1 v G) rfl trivial ?_
    refine lm_ind (α := (Nat → Fn)) (St := fun (j : Nat) zz => (fun (M2 : Nat → Fn) => lm_G X (d + 1) 52 106 0 0 98 [some (.ref 28), some (.int (nI j))] [] (lm_T M2 v G) Q) zz) (Inv := fun (j : Nat) zz => (fun (M2 : Nat → Fn) => (∀ r, r ≠ 35 → M2 r = M1 r) ∧ (∀ i, i < j → M2 35 i = M 21 i)) zz) (6) (fun j zz hj2 hI2 ih2 => ?_) (fun zz hI2 => ?_) (0) M1 (by omega) ?_
    ·
      revert ih2 hI2
      revert zz
      intro M2 hI2 ih2
      replace hI2 : (∀ r, r ≠ 35 → M2 r = M1 r) ∧ (∀ i, i < j → M2 35 i = M 21 i) := hI2
      replace ih2 : ∀ (M2 : Nat → Fn) (_ : (∀ r, r ≠ 35 → M2 r = M1 r) ∧ (∀ i, i < (j + 1) → M2 35 i = M 21 i)), lm_G X (d + 1) 52 106 0 0 98 [some (.ref 28), some (.int (nI (j + 1)))] [] (lm_T M2 v G) Q := fun M2 q => ih2 M2 q
      show lm_G X (d + 1) 52 106 0 0 98 [some (.ref 28), some (.int (nI j))] [] (lm_T M2 v G) Q
      obtain ⟨k0, k1⟩ := hI2
      have m21 : M2 21 = M 21 := (k0 21 (by decide)).trans ((i0 21 (by omega)).trans (ao 21 (by decide)))
      refine lm_G_sg 2 (pc' := 101) (L' := [some (.ref 28), some (.int (nI j))]) (S' := [.int 6, .int (nI j)]) (σ' := lm_T M2 v G) rfl trivial ?_
      refine lm_G_br (b := 6 ≤ (nI j)) (t := 125) (S' := []) rfl (fun hc => absurd hc (nI_ge (b := 6) hj2 (by omega))) (fun hc => ?_)
      refine lm_G_sg 8 (pc' := 118) (L' := [some (.ref 28), some (.int (nI j))]) (S' := [.int (M2 21 (nI j).toNatClampNeg), .int (nI j), .ref 35]) (σ' := lm_T M2 v G) rfl ⟨(vp_in_nI (by omega) (by omega)), trivial, trivial⟩ ?_
      rw [show (nI j).toNatClampNeg = j from nI_clamp (by omega)]
      rw [show M2 21 j = M 21 j from (by rw [m21] : M2 21 j = M 21 j)]
      refine lm_G_sg 1 (pc' := 119) (L' := [some (.ref 28), some (.int (nI j))]) (S' := []) (σ' := lm_T (lm_wr M2 35 ((nI j).toNatClampNeg) (M 21 j)) v G) rfl ⟨(vp_in_nI (by omega) (by omega)), trivial, trivial⟩ ?_
      rw [show (nI j).toNatClampNeg = j from nI_clamp (by omega)]
      refine lm_G_sg 1 (pc' := 122) (L' := [some (.ref 28), some (.int ((nI j) + 1))]) (S' := []) (σ' := lm_T (lm_wr M2 35 j (M 21 j)) v G) rfl trivial ?_
      rw [nI_1]
      refine lm_G_sg 1 (pc' := 98) (L' := [some (.ref 28), some (.int (nI (j + 1)))]) (S' := []) (σ' := lm_T (lm_wr M2 35 j (M 21 j)) v G) rfl trivial ?_
      exact ih2 _ (⟨fun r h => by rw [wr_row h]; exact k0 r h, wr_nx k1 rfl⟩)
    ·
      revert hI2
      revert zz
      intro M2 hI2
      replace hI2 : (∀ r, r ≠ 35 → M2 r = M1 r) ∧ (∀ i, i < 6 → M2 35 i = M 21 i) := hI2
      show lm_G X (d + 1) 52 106 0 0 98 [some (.ref 28), some (.int (nI 6))] [] (lm_T M2 v G) Q
      obtain ⟨k0, k1⟩ := hI2
      have hN : fN F ≤ 8 := hF.n
      have hM : fM F ≤ 6 := hF.m
      have lo : ∀ r, r < 28 → M2 r = M r := fun r h => (k0 r (by omega)).trans ((i0 r (by omega)).trans (ao r (by omega)))
      have hp : PC 28 M2 F s := by
        refine ⟨KC_of hk (lo 14 (by decide)) (lo 16 (by decide)) (lo 19 (by decide)) (lo 20 (by decide)) (lo 22 (by decide)) (lo 23 (by decide)) (lo 24 (by decide)), ?_, ?_, ?_, ?_, ?_, ?_, ?_, ?_⟩
        · rw [k0 28 (by decide), i0 28 (by omega), hs]; exact a2
        · intro i hi
          show M2 29 i = _
          rw [k0 29 (by decide), i1 i (by omega)]; exact h15 i hi
        · intro i hi
          show M2 30 i = _
          rw [k0 30 (by decide), i2 i (by omega)]; exact h17 i hi
        · intro i hi
          show M2 31 i = _
          rw [k0 31 (by decide), i3 i (by omega)]; exact h18 i hi
        · intro i hi
          show M2 32 i = _
          rw [k0 32 (by decide), i4 i (by omega), hs]
        · intro i hi
          show M2 33 i = _
          rw [k0 33 (by decide), i5 i (by omega), hs]
        · intro i hi
          show M2 34 i = _
          rw [k0 34 (by decide), i6 i (by omega), hs]
        · intro i hi
          show M2 35 i = _
          rw [k1 i (by omega)]; exact h21 i hi
      refine lm_G_sg 2 (pc' := 101) (L' := [some (.ref 28), some (.int (nI 6))]) (S' := [.int 6, .int (nI 6)]) (σ' := lm_T M2 v G) rfl trivial ?_
      refine lm_G_br (b := 6 ≤ (nI 6)) (t := 125) (S' := []) rfl (fun hc => ?_) (fun hc => absurd (nI_le (a := 6) (Nat.le_refl _) (by omega)) hc)
      refine lm_G_sg 1 (pc' := 126) (L' := [some (.ref 28), some (.int (nI 6))]) (S' := [.ref 28]) (σ' := lm_T M2 v G) rfl trivial ?_
      refine lm_G_ca (j := 56) (as := [.ref 28]) (rest := []) rfl (Or.inl rfl) (Nat.le_of_ble_eq_true rfl) (Nat.le_of_ble_eq_true rfl) (Nat.le_of_ble_eq_true rfl) (Nat.le_of_ble_eq_true rfl) rfl ?_
      refine c_findHummers28 hF hp (fun M3 w3 f3 => ?_)
      show lm_G X (d + 1) 52 106 0 0 129 [some (.ref 28), some (.int (nI 6))] [] (lm_T M3 v G) Q
      have fr3 : ∀ r, r ≠ 36 → M3 r = M2 r := fun r h => f3 r (by unfold frO; rw [beq_eq_false_iff_ne]; exact h)
      have hp3 : PC 28 M3 F s := by
        unfold PC
        show KC M3 F ∧ M3 28 2 = _ ∧ Ag _ (M3 29) _ ∧ Ag _ (M3 30) _ ∧ Ag _ (M3 31) _ ∧ Ag _ (M3 32) _ ∧ Ag _ (M3 33) _ ∧ Ag _ (M3 34) _ ∧ Ag _ (M3 35) _
        rw [fr3 28 (by decide), fr3 29 (by decide), fr3 30 (by decide), fr3 31 (by decide), fr3 32 (by decide), fr3 33 (by decide), fr3 34 (by decide), fr3 35 (by decide)]
        exact ⟨KC_of hp.1 (fr3 14 (by decide)) (fr3 16 (by decide)) (fr3 19 (by decide)) (fr3 20 (by decide)) (fr3 22 (by decide)) (fr3 23 (by decide)) (fr3 24 (by decide)), hp.2⟩
      refine lm_G_sg 1 (pc' := 130) (L' := [some (.ref 28), some (.int (nI 6))]) (S' := [.ref 28]) (σ' := lm_T M3 v G) rfl trivial ?_
      refine lm_G_ca (j := 57) (as := [.ref 28]) (rest := []) rfl (Or.inl rfl) (Nat.le_of_ble_eq_true rfl) (Nat.le_of_ble_eq_true rfl) (Nat.le_of_ble_eq_true rfl) (Nat.le_of_ble_eq_true rfl) rfl ?_
      refine c_findHeard28 hF hp3 (fun M4 w4 f4 => ?_)
      show lm_G X (d + 1) 52 106 0 0 133 [some (.ref 28), some (.int (nI 6))] [] (lm_T M4 v G) Q
      have fr4 : ∀ r, r ≠ 37 → M4 r = M3 r := fun r h => f4 r (by unfold frO; rw [beq_eq_false_iff_ne]; exact h)
      have hp4 : PC 28 M4 F s := by
        unfold PC
        show KC M4 F ∧ M4 28 2 = _ ∧ Ag _ (M4 29) _ ∧ Ag _ (M4 30) _ ∧ Ag _ (M4 31) _ ∧ Ag _ (M4 32) _ ∧ Ag _ (M4 33) _ ∧ Ag _ (M4 34) _ ∧ Ag _ (M4 35) _
        rw [fr4 28 (by decide), fr4 29 (by decide), fr4 30 (by decide), fr4 31 (by decide), fr4 32 (by decide), fr4 33 (by decide), fr4 34 (by decide), fr4 35 (by decide)]
        exact ⟨KC_of hp3.1 (fr4 14 (by decide)) (fr4 16 (by decide)) (fr4 19 (by decide)) (fr4 20 (by decide)) (fr4 22 (by decide)) (fr4 23 (by decide)) (fr4 24 (by decide)), hp3.2⟩
      have hr4 : RC 28 M4 F s := PC_RC hp4 (by show Ag _ (M4 36) _; rw [fr4 36 (by decide)]; exact w3) w4
      exact lm_G_re rfl trivial (Nat.zero_le _) (Nat.zero_le _) (hQ _ hr4 (by rw [fr4 28 (by decide), fr3 28 (by decide), k0 28 (by decide), i0 28 (by omega)]; exact a12) (fun r hr => (fr4 r (by omega)).trans ((fr3 r (by omega)).trans ((k0 r (by omega)).trans ((i0 r (by omega)).trans (ao r (by omega)))))))
    ·
      try dsimp only
      exact ⟨fun _ _ => rfl, fun i hi => absurd hi (Nat.not_lt_zero i)⟩
  ·
    try dsimp only
    exact ⟨fun _ _ => rfl, fun i hi => absurd hi (Nat.not_lt_zero i), fun i hi => absurd hi (Nat.not_lt_zero i), fun i hi => absurd hi (Nat.not_lt_zero i), fun i hi => absurd hi (Nat.not_lt_zero i), fun i hi => absurd hi (Nat.not_lt_zero i), fun i hi => absurd hi (Nat.not_lt_zero i)⟩
