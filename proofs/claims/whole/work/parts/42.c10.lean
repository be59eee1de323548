/-! ===== contracts: states in rows ===== -/
set_option maxRecDepth 10000 in
theorem m_pack87 {X : lm_X} {d v : Nat} {M : Nat → Nat → Int32} {G : Nat → Nat → Int64} {Q : lm_O → lm_S → Prop} {F : Fa} {s : Sc} {a : Nat} (hF : okF F) (h : RM M F s) (ha : a + 47 ≤ 1880) (hQ : ∀ M1, SavM (M1 87) a F s → (∀ i, i < a ∨ a + 47 ≤ i → M1 87 i = M 87 i) → Fr (frO 87) M M1 → Q (.inl none) (lm_T M1 v G)) : lm_Q X d 177 [.ref 64, .ref 87, .int (nI a)] (lm_T M v G) Q := by
  have hn := hF.n
  have hm := hF.m
  show lm_G X d 177 106 0 0 0 [some (.ref 64), some (.ref 87), some (.int (nI a)), none, none] [] (lm_T M v G) Q
  refine lm_G_sg 5 (pc' := 7) (L' := [some (.ref 64), some (.ref 87), some (.int (nI a)), none, none]) (S' := []) (σ' := lm_T (lm_wr M 87 ((nI a).toNatClampNeg) (M 64 36)) v G) rfl ⟨(vp_in_nI (by omega) (by omega)), trivial, trivial⟩ ?_
  rw [show (nI a).toNatClampNeg = a from nI_clamp (by omega)]
  refine lm_G_sg 2 (pc' := 9) (L' := [some (.ref 64), some (.ref 87), some (.int (nI a)), some (.int 0), none]) (S' := []) (σ' := lm_T (lm_wr M 87 a (M 64 36)) v G) rfl trivial ?_
  refine lm_ind (α := (Nat → Fn)) (St := fun (j : Nat) zz => (fun (M1 : Nat → Fn) => lm_G X d 177 106 0 0 9 [some (.ref 64), some (.ref 87), some (.int (nI a)), some (.int (nI j)), none] [] (lm_T M1 v G) Q) zz) (Inv := fun (j : Nat) zz => (fun (M1 : Nat → Fn) => M1 87 a = M 64 36 ∧ (∀ t, t < j → M1 87 (a + 1 + t) = M 81 t) ∧ (∀ i, i < a ∨ a + 47 ≤ i → M1 87 i = M 87 i) ∧ Fr (frO 87) M M1) zz) (6) (fun j zz hj hI ih => ?_) (fun zz hI => ?_) (0) (lm_wr M 87 a (M 64 36)) (by omega) ?_
  ·
    revert ih hI
    revert zz
    intro M1 hI ih
    replace hI : M1 87 a = M 64 36 ∧ (∀ t, t < j → M1 87 (a + 1 + t) = M 81 t) ∧ (∀ i, i < a ∨ a + 47 ≤ i → M1 87 i = M 87 i) ∧ Fr (frO 87) M M1 := hI
    replace ih : ∀ (M1 : Nat → Fn) (_ : M1 87 a = M 64 36 ∧ (∀ t, t < (j + 1) → M1 87 (a + 1 + t) = M 81 t) ∧ (∀ i, i < a ∨ a + 47 ≤ i → M1 87 i = M 87 i) ∧ Fr (frO 87) M M1), lm_G X d 177 106 0 0 9 [some (.ref 64), some (.ref 87), some (.int (nI a)), some (.int (nI (j + 1))), none] [] (lm_T M1 v G) Q := fun M1 q => ih M1 q
    show lm_G X d 177 106 0 0 9 [some (.ref 64), some (.ref 87), some (.int (nI a)), some (.int (nI j)), none] [] (lm_T M1 v G) Q
    obtain ⟨i1, i2, i3, i4⟩ := hI
    refine lm_G_sg 2 (pc' := 12) (L' := [some (.ref 64), some (.ref 87), some (.int (nI a)), some (.int (nI j)), none]) (S' := [.int 6, .int (nI j)]) (σ' := lm_T M1 v G) rfl trivial ?_
    refine lm_G_br (b := 6 ≤ (nI j)) (t := 34) (S' := []) rfl (fun hc => absurd hc (nI_ge (b := 6) hj (by omega))) (fun hc => ?_)
    refine lm_G_sg 4 (pc' := 19) (L' := [some (.ref 64), some (.ref 87), some (.int (nI a)), some (.int (nI j)), none]) (S' := [.int ((nI a) + 1), .ref 87]) (σ' := lm_T M1 v G) rfl trivial ?_
    rw [show (nI a) + 1 = nI (a + 1) from nI_add a 1]
    refine lm_G_sg 2 (pc' := 21) (L' := [some (.ref 64), some (.ref 87), some (.int (nI a)), some (.int (nI j)), none]) (S' := [.int ((nI (a + 1)) + (nI j)), .ref 87]) (σ' := lm_T M1 v G) rfl trivial ?_
    rw [show (nI (a + 1)) + (nI j) = nI ((a + 1) + j) from nI_add (a + 1) j]
    refine lm_G_sg 4 (pc' := 27) (L' := [some (.ref 64), some (.ref 87), some (.int (nI a)), some (.int (nI j)), none]) (S' := [.int (M1 81 (nI j).toNatClampNeg), .int (nI ((a + 1) + j)), .ref 87]) (σ' := lm_T M1 v G) rfl ⟨(vp_in_nI (by omega) (by omega)), trivial, trivial⟩ ?_
    rw [show (nI j).toNatClampNeg = j from nI_clamp (by omega)]
    rw [show M1 81 j = M 81 j from congrFun (i4 81 rfl) j]
    refine lm_G_sg 1 (pc' := 28) (L' := [some (.ref 64), some (.ref 87), some (.int (nI a)), some (.int (nI j)), none]) (S' := []) (σ' := lm_T (lm_wr M1 87 ((nI ((a + 1) + j)).toNatClampNeg) (M 81 j)) v G) rfl ⟨(vp_in_nI (by omega) (by omega)), trivial, trivial⟩ ?_
    rw [show (nI ((a + 1) + j)).toNatClampNeg = ((a + 1) + j) from nI_clamp (by omega)]
    refine lm_G_sg 1 (pc' := 31) (L' := [some (.ref 64), some (.ref 87), some (.int (nI a)), some (.int ((nI j) + 1)), none]) (S' := []) (σ' := lm_T (lm_wr M1 87 ((a + 1) + j) (M 81 j)) v G) rfl trivial ?_
    rw [nI_1]
    refine lm_G_sg 1 (pc' := 9) (L' := [some (.ref 64), some (.ref 87), some (.int (nI a)), some (.int (nI (j + 1))), none]) (S' := []) (σ' := lm_T (lm_wr M1 87 ((a + 1) + j) (M 81 j)) v G) rfl trivial ?_
    exact ih _ (⟨by rw [wr_at (by omega)]; exact i1, fun t ht => if e : t = j then (by subst e; exact wr_same) else (by rw [wr_at (by omega)]; exact i2 t (by omega)), fun i hi => by rw [wr_at (by omega)]; exact i3 i hi, Fr_wr i4 rfl⟩)
  ·
    revert hI
    revert zz
    intro M1 hI
    replace hI : M1 87 a = M 64 36 ∧ (∀ t, t < 6 → M1 87 (a + 1 + t) = M 81 t) ∧ (∀ i, i < a ∨ a + 47 ≤ i → M1 87 i = M 87 i) ∧ Fr (frO 87) M M1 := hI
    show lm_G X d 177 106 0 0 9 [some (.ref 64), some (.ref 87), some (.int (nI a)), some (.int (nI 6)), none] [] (lm_T M1 v G) Q
    obtain ⟨i1, i2, i3, i4⟩ := hI
    refine lm_G_sg 2 (pc' := 12) (L' := [some (.ref 64), some (.ref 87), some (.int (nI a)), some (.int (nI 6)), none]) (S' := [.int 6, .int (nI 6)]) (σ' := lm_T M1 v G) rfl trivial ?_
    refine lm_G_br (b := 6 ≤ (nI 6)) (t := 34) (S' := []) rfl (fun hc => ?_) (fun hc => absurd (nI_le (a := 6) (Nat.le_refl _) (by omega)) hc)
    refine lm_G_sg 2 (pc' := 36) (L' := [some (.ref 64), some (.ref 87), some (.int (nI a)), some (.int 0), none]) (S' := []) (σ' := lm_T M1 v G) rfl trivial ?_
    refine lm_ind (α := (Nat → Fn)) (St := fun (j : Nat) zz => (fun (M2 : Nat → Fn) => lm_G X d 177 106 0 0 36 [some (.ref 64), some (.ref 87), some (.int (nI a)), some (.int (nI j)), none] [] (lm_T M2 v G) Q) zz) (Inv := fun (j : Nat) zz => (fun (M2 : Nat → Fn) => M2 87 a = M 64 36 ∧ (∀ t, t < 6 → M2 87 (a + 1 + t) = M 81 t) ∧ (∀ q, q < j → M2 87 (a + 1 + 6 + 5 * q) = M 82 q ∧ M2 87 (a + 1 + 6 + 5 * q + 1) = M 83 q ∧ M2 87 (a + 1 + 6 + 5 * q + 2) = M 84 q ∧ M2 87 (a + 1 + 6 + 5 * q + 3) = M 85 q ∧ M2 87 (a + 1 + 6 + 5 * q + 4) = M 86 q) ∧ (∀ i, i < a ∨ a + 47 ≤ i → M2 87 i = M 87 i) ∧ Fr (frO 87) M M2) zz) (8) (fun j zz hj2 hI2 ih2 => ?_) (fun zz hI2 => ?_) (0) M1 (by omega) ?_
    ·
      revert ih2 hI2
      revert zz
      intro M2 hI2 ih2
      replace hI2 : M2 87 a = M 64 36 ∧ (∀ t, t < 6 → M2 87 (a + 1 + t) = M 81 t) ∧ (∀ q, q < j → M2 87 (a + 1 + 6 + 5 * q) = M 82 q ∧ M2 87 (a + 1 + 6 + 5 * q + 1) = M 83 q ∧ M2 87 (a + 1 + 6 + 5 * q + 2) = M 84 q ∧ M2 87 (a + 1 + 6 + 5 * q + 3) = M 85 q ∧ M2 87 (a + 1 + 6 + 5 * q + 4) = M 86 q) ∧ (∀ i, i < a ∨ a + 47 ≤ i → M2 87 i = M 87 i) ∧ Fr (frO 87) M M2 := hI2
      replace ih2 : ∀ (M2 : Nat → Fn) (_ : M2 87 a = M 64 36 ∧ (∀ t, t < 6 → M2 87 (a + 1 + t) = M 81 t) ∧ (∀ q, q < (j + 1) → M2 87 (a + 1 + 6 + 5 * q) = M 82 q ∧ M2 87 (a + 1 + 6 + 5 * q + 1) = M 83 q ∧ M2 87 (a + 1 + 6 + 5 * q + 2) = M 84 q ∧ M2 87 (a + 1 + 6 + 5 * q + 3) = M 85 q ∧ M2 87 (a + 1 + 6 + 5 * q + 4) = M 86 q) ∧ (∀ i, i < a ∨ a + 47 ≤ i → M2 87 i = M 87 i) ∧ Fr (frO 87) M M2), lm_G X d 177 106 0 0 36 [some (.ref 64), some (.ref 87), some (.int (nI a)), some (.int (nI (j + 1))), none] [] (lm_T M2 v G) Q := fun M2 q => ih2 M2 q
      show lm_G X d 177 106 0 0 36 [some (.ref 64), some (.ref 87), some (.int (nI a)), some (.int (nI j)), none] [] (lm_T M2 v G) Q
      obtain ⟨k1, k2, k3, k4, k5⟩ := hI2
      refine lm_G_sg 2 (pc' := 39) (L' := [some (.ref 64), some (.ref 87), some (.int (nI a)), some (.int (nI j)), none]) (S' := [.int 8, .int (nI j)]) (σ' := lm_T M2 v G) rfl trivial ?_
      refine lm_G_br (b := 8 ≤ (nI j)) (t := 118) (S' := []) rfl (fun hc => absurd hc (nI_ge (b := 8) hj2 (by omega))) (fun hc => ?_)
      refine lm_G_sg 3 (pc' := 45) (L' := [some (.ref 64), some (.ref 87), some (.int (nI a)), some (.int (nI j)), none]) (S' := [.int ((nI a) + 1)]) (σ' := lm_T M2 v G) rfl trivial ?_
      rw [show (nI a) + 1 = nI (a + 1) from nI_add a 1]
      refine lm_G_sg 2 (pc' := 48) (L' := [some (.ref 64), some (.ref 87), some (.int (nI a)), some (.int (nI j)), none]) (S' := [.int ((nI (a + 1)) + 6)]) (σ' := lm_T M2 v G) rfl trivial ?_
      rw [show (nI (a + 1)) + 6 = nI ((a + 1) + 6) from nI_add (a + 1) 6]
      refine lm_G_sg 3 (pc' := 51) (L' := [some (.ref 64), some (.ref 87), some (.int (nI a)), some (.int (nI j)), none]) (S' := [.int (5 * (nI j)), .int (nI ((a + 1) + 6))]) (σ' := lm_T M2 v G) rfl trivial ?_
      rw [show 5 * (nI j) = nI (5 * j) from pk_mul 5 j]
      refine lm_G_sg 1 (pc' := 52) (L' := [some (.ref 64), some (.ref 87), some (.int (nI a)), some (.int (nI j)), none]) (S' := [.int ((nI ((a + 1) + 6)) + (nI (5 * j)))]) (σ' := lm_T M2 v G) rfl trivial ?_
      rw [show (nI ((a + 1) + 6)) + (nI (5 * j)) = nI (((a + 1) + 6) + (5 * j)) from nI_add ((a + 1) + 6) (5 * j)]
      refine lm_G_sg 7 (pc' := 63) (L' := [some (.ref 64), some (.ref 87), some (.int (nI a)), some (.int (nI j)), some (.int (nI (((a + 1) + 6) + (5 * j))))]) (S' := [.int (M2 82 (nI j).toNatClampNeg), .int (nI (((a + 1) + 6) + (5 * j))), .ref 87]) (σ' := lm_T M2 v G) rfl ⟨(vp_in_nI (by omega) (by omega)), trivial, trivial⟩ ?_
      rw [show (nI j).toNatClampNeg = j from nI_clamp (by omega)]
      rw [show M2 82 j = M 82 j from congrFun (k5 82 rfl) j]
      refine lm_G_sg 1 (pc' := 64) (L' := [some (.ref 64), some (.ref 87), some (.int (nI a)), some (.int (nI j)), some (.int (nI (((a + 1) + 6) + (5 * j))))]) (S' := []) (σ' := lm_T (lm_wr M2 87 ((nI (((a + 1) + 6) + (5 * j))).toNatClampNeg) (M 82 j)) v G) rfl ⟨(vp_in_nI (by omega) (by omega)), trivial, trivial⟩ ?_
      rw [show (nI (((a + 1) + 6) + (5 * j))).toNatClampNeg = (((a + 1) + 6) + (5 * j)) from nI_clamp (by omega)]
      refine lm_G_sg 4 (pc' := 69) (L' := [some (.ref 64), some (.ref 87), some (.int (nI a)), some (.int (nI j)), some (.int (nI (((a + 1) + 6) + (5 * j))))]) (S' := [.int ((nI (((a + 1) + 6) + (5 * j))) + 1), .ref 87]) (σ' := lm_T (lm_wr M2 87 (((a + 1) + 6) + (5 * j)) (M 82 j)) v G) rfl trivial ?_
      rw [show (nI (((a + 1) + 6) + (5 * j))) + 1 = nI ((((a + 1) + 6) + (5 * j)) + 1) from nI_add (((a + 1) + 6) + (5 * j)) 1]
      refine lm_G_sg 4 (pc' := 75) (L' := [some (.ref 64), some (.ref 87), some (.int (nI a)), some (.int (nI j)), some (.int (nI (((a + 1) + 6) + (5 * j))))]) (S' := [.int ((lm_wr M2 87 (((a + 1) + 6) + (5 * j)) (M 82 j)) 83 (nI j).toNatClampNeg), .int (nI ((((a + 1) + 6) + (5 * j)) + 1)), .ref 87]) (σ' := lm_T (lm_wr M2 87 (((a + 1) + 6) + (5 * j)) (M 82 j)) v G) rfl ⟨(vp_in_nI (by omega) (by omega)), trivial, trivial⟩ ?_
      rw [show (nI j).toNatClampNeg = j from nI_clamp (by omega)]
      show lm_G X d 177 106 0 0 75 [some (.ref 64), some (.ref 87), some (.int (nI a)), some (.int (nI j)), some (.int (nI (((a + 1) + 6) + (5 * j))))] [.int (M2 83 j), .int (nI ((((a + 1) + 6) + (5 * j)) + 1)), .ref 87] (lm_T (lm_wr M2 87 (((a + 1) + 6) + (5 * j)) (M 82 j)) v G) Q
      rw [show M2 83 j = M 83 j from congrFun (k5 83 rfl) j]
      refine lm_G_sg 1 (pc' := 76) (L' := [some (.ref 64), some (.ref 87), some (.int (nI a)), some (.int (nI j)), some (.int (nI (((a + 1) + 6) + (5 * j))))]) (S' := []) (σ' := lm_T (lm_wr (lm_wr M2 87 (((a + 1) + 6) + (5 * j)) (M 82 j)) 87 ((nI ((((a + 1) + 6) + (5 * j)) + 1)).toNatClampNeg) (M 83 j)) v G) rfl ⟨(vp_in_nI (by omega) (by omega)), trivial, trivial⟩ ?_
      rw [show (nI ((((a + 1) + 6) + (5 * j)) + 1)).toNatClampNeg = ((((a + 1) + 6) + (5 * j)) + 1) from nI_clamp (by omega)]
      refine lm_G_sg 4 (pc' := 81) (L' := [some (.ref 64), some (.ref 87), some (.int (nI a)), some (.int (nI j)), some (.int (nI (((a + 1) + 6) + (5 * j))))]) (S' := [.int ((nI (((a + 1) + 6) + (5 * j))) + 2), .ref 87]) (σ' := lm_T (lm_wr (lm_wr M2 87 (((a + 1) + 6) + (5 * j)) (M 82 j)) 87 ((((a + 1) + 6) + (5 * j)) + 1) (M 83 j)) v G) rfl trivial ?_
      rw [show (nI (((a + 1) + 6) + (5 * j))) + 2 = nI ((((a + 1) + 6) + (5 * j)) + 2) from nI_add (((a + 1) + 6) + (5 * j)) 2]
      refine lm_G_sg 4 (pc' := 87) (L' := [some (.ref 64), some (.ref 87), some (.int (nI a)), some (.int (nI j)), some (.int (nI (((a + 1) + 6) + (5 * j))))]) (S' := [.int ((lm_wr (lm_wr M2 87 (((a + 1) + 6) + (5 * j)) (M 82 j)) 87 ((((a + 1) + 6) + (5 * j)) + 1) (M 83 j)) 84 (nI j).toNatClampNeg), .int (nI ((((a + 1) + 6) + (5 * j)) + 2)), .ref 87]) (σ' := lm_T (lm_wr (lm_wr M2 87 (((a + 1) + 6) + (5 * j)) (M 82 j)) 87 ((((a + 1) + 6) + (5 * j)) + 1) (M 83 j)) v G) rfl ⟨(vp_in_nI (by omega) (by omega)), trivial, trivial⟩ ?_
      rw [show (nI j).toNatClampNeg = j from nI_clamp (by omega)]
      show lm_G X d 177 106 0 0 87 [some (.ref 64), some (.ref 87), some (.int (nI a)), some (.int (nI j)), some (.int (nI (((a + 1) + 6) + (5 * j))))] [.int (M2 84 j), .int (nI ((((a + 1) + 6) + (5 * j)) + 2)), .ref 87] (lm_T (lm_wr (lm_wr M2 87 (((a + 1) + 6) + (5 * j)) (M 82 j)) 87 ((((a + 1) + 6) + (5 * j)) + 1) (M 83 j)) v G) Q
      rw [show M2 84 j = M 84 j from congrFun (k5 84 rfl) j]
      refine lm_G_sg 1 (pc' := 88) (L' := [some (.ref 64), some (.ref 87), some (.int (nI a)), some (.int (nI j)), some (.int (nI (((a + 1) + 6) + (5 * j))))]) (S' := []) (σ' := lm_T (lm_wr (lm_wr (lm_wr M2 87 (((a + 1) + 6) + (5 * j)) (M 82 j)) 87 ((((a + 1) + 6) + (5 * j)) + 1) (M 83 j)) 87 ((nI ((((a + 1) + 6) + (5 * j)) + 2)).toNatClampNeg) (M 84 j)) v G) rfl ⟨(vp_in_nI (by omega) (by omega)), trivial, trivial⟩ ?_
      rw [show (nI ((((a + 1) + 6) + (5 * j)) + 2)).toNatClampNeg = ((((a + 1) + 6) + (5 * j)) + 2) from nI_clamp (by omega)]
      refine lm_G_sg 4 (pc' := 93) (L' := [some (.ref 64), some (.ref 87), some (.int (nI a)), some (.int (nI j)), some (.int (nI (((a + 1) + 6) + (5 * j))))]) (S' := [.int ((nI (((a + 1) + 6) + (5 * j))) + 3), .ref 87]) (σ' := lm_T (lm_wr (lm_wr (lm_wr M2 87 (((a + 1) + 6) + (5 * j)) (M 82 j)) 87 ((((a + 1) + 6) + (5 * j)) + 1) (M 83 j)) 87 ((((a + 1) + 6) + (5 * j)) + 2) (M 84 j)) v G) rfl trivial ?_
      rw [show (nI (((a + 1) + 6) + (5 * j))) + 3 = nI ((((a + 1) + 6) + (5 * j)) + 3) from nI_add (((a + 1) + 6) + (5 * j)) 3]
      refine lm_G_sg 4 (pc' := 99) (L' := [some (.ref 64), some (.ref 87), some (.int (nI a)), some (.int (nI j)), some (.int (nI (((a + 1) + 6) + (5 * j))))]) (S' := [.int ((lm_wr (lm_wr (lm_wr M2 87 (((a + 1) + 6) + (5 * j)) (M 82 j)) 87 ((((a + 1) + 6) + (5 * j)) + 1) (M 83 j)) 87 ((((a + 1) + 6) + (5 * j)) + 2) (M 84 j)) 85 (nI j).toNatClampNeg), .int (nI ((((a + 1) + 6) + (5 * j)) + 3)), .ref 87]) (σ' := lm_T (lm_wr (lm_wr (lm_wr M2 87 (((a + 1) + 6) + (5 * j)) (M 82 j)) 87 ((((a + 1) + 6) + (5 * j)) + 1) (M 83 j)) 87 ((((a + 1) + 6) + (5 * j)) + 2) (M 84 j)) v G) rfl ⟨(vp_in_nI (by omega) (by omega)), trivial, trivial⟩ ?_
      rw [show (nI j).toNatClampNeg = j from nI_clamp (by omega)]
      show lm_G X d 177 106 0 0 99 [some (.ref 64), some (.ref 87), some (.int (nI a)), some (.int (nI j)), some (.int (nI (((a + 1) + 6) + (5 * j))))] [.int (M2 85 j), .int (nI ((((a + 1) + 6) + (5 * j)) + 3)), .ref 87] (lm_T (lm_wr (lm_wr (lm_wr M2 87 (((a + 1) + 6) + (5 * j)) (M 82 j)) 87 ((((a + 1) + 6) + (5 * j)) + 1) (M 83 j)) 87 ((((a + 1) + 6) + (5 * j)) + 2) (M 84 j)) v G) Q
      rw [show M2 85 j = M 85 j from congrFun (k5 85 rfl) j]
      refine lm_G_sg 1 (pc' := 100) (L' := [some (.ref 64), some (.ref 87), some (.int (nI a)), some (.int (nI j)), some (.int (nI (((a + 1) + 6) + (5 * j))))]) (S' := []) (σ' := lm_T (lm_wr (lm_wr (lm_wr (lm_wr M2 87 (((a + 1) + 6) + (5 * j)) (M 82 j)) 87 ((((a + 1) + 6) + (5 * j)) + 1) (M 83 j)) 87 ((((a + 1) + 6) + (5 * j)) + 2) (M 84 j)) 87 ((nI ((((a + 1) + 6) + (5 * j)) + 3)).toNatClampNeg) (M 85 j)) v G) rfl ⟨(vp_in_nI (by omega) (by omega)), trivial, trivial⟩ ?_
      rw [show (nI ((((a + 1) + 6) + (5 * j)) + 3)).toNatClampNeg = ((((a + 1) + 6) + (5 * j)) + 3) from nI_clamp (by omega)]
      refine lm_G_sg 4 (pc' := 105) (L' := [some (.ref 64), some (.ref 87), some (.int (nI a)), some (.int (nI j)), some (.int (nI (((a + 1) + 6) + (5 * j))))]) (S' := [.int ((nI (((a + 1) + 6) + (5 * j))) + 4), .ref 87]) (σ' := lm_T (lm_wr (lm_wr (lm_wr (lm_wr M2 87 (((a + 1) + 6) + (5 * j)) (M 82 j)) 87 ((((a + 1) + 6) + (5 * j)) + 1) (M 83 j)) 87 ((((a + 1) + 6) + (5 * j)) + 2) (M 84 j)) 87 ((((a + 1) + 6) + (5 * j)) + 3) (M 85 j)) v G) rfl trivial ?_
      rw [show (nI (((a + 1) + 6) + (5 * j))) + 4 = nI ((((a + 1) + 6) + (5 * j)) + 4) from nI_add (((a + 1) + 6) + (5 * j)) 4]
      refine lm_G_sg 4 (pc' := 111) (L' := [some (.ref 64), some (.ref 87), some (.int (nI a)), some (.int (nI j)), some (.int (nI (((a + 1) + 6) + (5 * j))))]) (S' := [.int ((lm_wr (lm_wr (lm_wr (lm_wr M2 87 (((a + 1) + 6) + (5 * j)) (M 82 j)) 87 ((((a + 1) + 6) + (5 * j)) + 1) (M 83 j)) 87 ((((a + 1) + 6) + (5 * j)) + 2) (M 84 j)) 87 ((((a + 1) + 6) + (5 * j)) + 3) (M 85 j)) 86 (nI j).toNatClampNeg), .int (nI ((((a + 1) + 6) + (5 * j)) + 4)), .ref 87]) (σ' := lm_T (lm_wr (lm_wr (lm_wr (lm_wr M2 87 (((a + 1) + 6) + (5 * j)) (M 82 j)) 87 ((((a + 1) + 6) + (5 * j)) + 1) (M 83 j)) 87 ((((a + 1) + 6) + (5 * j)) + 2) (M 84 j)) 87 ((((a + 1) + 6) + (5 * j)) + 3) (M 85 j)) v G) rfl ⟨(vp_in_nI (by omega) (by omega)), trivial, trivial⟩ ?_
      rw [show (nI j).toNatClampNeg = j from nI_clamp (by omega)]
      show lm_G X d 177 106 0 0 111 [some (.ref 64), some (.ref 87), some (.int (nI a)), some (.int (nI j)), some (.int (nI (((a + 1) + 6) + (5 * j))))] [.int (M2 86 j), .int (nI ((((a + 1) + 6) + (5 * j)) + 4)), .ref 87] (lm_T (lm_wr (lm_wr (lm_wr (lm_wr M2 87 (((a + 1) + 6) + (5 * j)) (M 82 j)) 87 ((((a + 1) + 6) + (5 * j)) + 1) (M 83 j)) 87 ((((a + 1) + 6) + (5 * j)) + 2) (M 84 j)) 87 ((((a + 1) + 6) + (5 * j)) + 3) (M 85 j)) v G) Q
      rw [show M2 86 j = M 86 j from congrFun (k5 86 rfl) j]
      refine lm_G_sg 1 (pc' := 112) (L' := [some (.ref 64), some (.ref 87), some (.int (nI a)), some (.int (nI j)), some (.int (nI (((a + 1) + 6) + (5 * j))))]) (S' := []) (σ' := lm_T (lm_wr (lm_wr (lm_wr (lm_wr (lm_wr M2 87 (((a + 1) + 6) + (5 * j)) (M 82 j)) 87 ((((a + 1) + 6) + (5 * j)) + 1) (M 83 j)) 87 ((((a + 1) + 6) + (5 * j)) + 2) (M 84 j)) 87 ((((a + 1) + 6) + (5 * j)) + 3) (M 85 j)) 87 ((nI ((((a + 1) + 6) + (5 * j)) + 4)).toNatClampNeg) (M 86 j)) v G) rfl ⟨(vp_in_nI (by omega) (by omega)), trivial, trivial⟩ ?_
      rw [show (nI ((((a + 1) + 6) + (5 * j)) + 4)).toNatClampNeg = ((((a + 1) + 6) + (5 * j)) + 4) from nI_clamp (by omega)]
      refine lm_G_sg 1 (pc' := 115) (L' := [some (.ref 64), some (.ref 87), some (.int (nI a)), some (.int ((nI j) + 1)), some (.int (nI (((a + 1) + 6) + (5 * j))))]) (S' := []) (σ' := lm_T (lm_wr (lm_wr (lm_wr (lm_wr (lm_wr M2 87 (((a + 1) + 6) + (5 * j)) (M 82 j)) 87 ((((a + 1) + 6) + (5 * j)) + 1) (M 83 j)) 87 ((((a + 1) + 6) + (5 * j)) + 2) (M 84 j)) 87 ((((a + 1) + 6) + (5 * j)) + 3) (M 85 j)) 87 ((((a + 1) + 6) + (5 * j)) + 4) (M 86 j)) v G) rfl trivial ?_
      rw [nI_1]
      refine lm_G_sg 1 (pc' := 36) (L' := [some (.ref 64), some (.ref 87), some (.int (nI a)), some (.int (nI (j + 1))), some (.int (nI (((a + 1) + 6) + (5 * j))))]) (S' := []) (σ' := lm_T (lm_wr (lm_wr (lm_wr (lm_wr (lm_wr M2 87 (((a + 1) + 6) + (5 * j)) (M 82 j)) 87 ((((a + 1) + 6) + (5 * j)) + 1) (M 83 j)) 87 ((((a + 1) + 6) + (5 * j)) + 2) (M 84 j)) 87 ((((a + 1) + 6) + (5 * j)) + 3) (M 85 j)) 87 ((((a + 1) + 6) + (5 * j)) + 4) (M 86 j)) v G) rfl trivial ?_
      refine lm_G_jk (L := [some (.ref 64), some (.ref 87), some (.int (nI a)), some (.int (nI (j + 1))), none]) ⟨rfl, rfl, rfl, rfl, trivial⟩ ?_
      exact ih2 _ (⟨by rw [wr_at (by omega), wr_at (by omega), wr_at (by omega), wr_at (by omega), wr_at (by omega)]; exact k1, fun t ht => by rw [wr_at (by omega), wr_at (by omega), wr_at (by omega), wr_at (by omega), wr_at (by omega)]; exact k2 t ht, fun q hq => if e : q = j then (by subst e; exact ⟨by rw [wr_at (by omega), wr_at (by omega), wr_at (by omega), wr_at (by omega), wr_same], by rw [wr_at (by omega), wr_at (by omega), wr_at (by omega), wr_same], by rw [wr_at (by omega), wr_at (by omega), wr_same], by rw [wr_at (by omega), wr_same], by rw [wr_same]⟩) else (by obtain ⟨a1, a2, a3, a4, a5⟩ := k3 q (by omega); exact ⟨by rw [wr_at (by omega), wr_at (by omega), wr_at (by omega), wr_at (by omega), wr_at (by omega)]; exact a1, by rw [wr_at (by omega), wr_at (by omega), wr_at (by omega), wr_at (by omega), wr_at (by omega)]; exact a2, by rw [wr_at (by omega), wr_at (by omega), wr_at (by omega), wr_at (by omega), wr_at (by omega)]; exact a3, by rw [wr_at (by omega), wr_at (by omega), wr_at (by omega), wr_at (by omega), wr_at (by omega)]; exact a4, by rw [wr_at (by omega), wr_at (by omega), wr_at (by omega), wr_at (by omega), wr_at (by omega)]; exact a5⟩), fun i hi => by rw [wr_at (by omega), wr_at (by omega), wr_at (by omega), wr_at (by omega), wr_at (by omega)]; exact k4 i hi, Fr_wr (Fr_wr (Fr_wr (Fr_wr (Fr_wr k5 rfl) rfl) rfl) rfl) rfl⟩)
    ·
      revert hI2
      revert zz
      intro M2 hI2
      replace hI2 : M2 87 a = M 64 36 ∧ (∀ t, t < 6 → M2 87 (a + 1 + t) = M 81 t) ∧ (∀ q, q < 8 → M2 87 (a + 1 + 6 + 5 * q) = M 82 q ∧ M2 87 (a + 1 + 6 + 5 * q + 1) = M 83 q ∧ M2 87 (a + 1 + 6 + 5 * q + 2) = M 84 q ∧ M2 87 (a + 1 + 6 + 5 * q + 3) = M 85 q ∧ M2 87 (a + 1 + 6 + 5 * q + 4) = M 86 q) ∧ (∀ i, i < a ∨ a + 47 ≤ i → M2 87 i = M 87 i) ∧ Fr (frO 87) M M2 := hI2
      show lm_G X d 177 106 0 0 36 [some (.ref 64), some (.ref 87), some (.int (nI a)), some (.int (nI 8)), none] [] (lm_T M2 v G) Q
      obtain ⟨k1, k2, k3, k4, k5⟩ := hI2
      refine lm_G_sg 2 (pc' := 39) (L' := [some (.ref 64), some (.ref 87), some (.int (nI a)), some (.int (nI 8)), none]) (S' := [.int 8, .int (nI 8)]) (σ' := lm_T M2 v G) rfl trivial ?_
      refine lm_G_br (b := 8 ≤ (nI 8)) (t := 118) (S' := []) rfl (fun hc => ?_) (fun hc => absurd (nI_le (a := 8) (Nat.le_refl _) (by omega)) hc)
      exact lm_G_re rfl trivial (Nat.zero_le _) (Nat.zero_le _) (hQ _ ⟨k1.trans h.hr, fun t ht => (k2 t (by omega)).trans (h.ow t ht), fun p hp => by
              obtain ⟨a1, a2, a3, a4, a5⟩ := k3 p (by omega)
              exact ⟨a1.trans (h.hu p hp), a2.trans (h.hd p hp), a3.trans (h.id p hp), a4.trans (h.pl p hp), a5.trans (h.co p hp)⟩⟩ k4 k5)
    ·
      try dsimp only
      exact ⟨i1, i2, fun q hq => by omega, i3, i4⟩
  ·
    try dsimp only
    exact ⟨wr_same, fun t ht => by omega, fun i hi => wr_at (by omega), Fr_wr (Fr_rf _ _) rfl⟩
set_option maxRecDepth 10000 in
theorem m_unpack87 {X : lm_X} {d v : Nat} {M : Nat → Nat → Int32} {G : Nat → Nat → Int64} {Q : lm_O → lm_S → Prop} {F : Fa} {s : Sc} {a : Nat} (hF : okF F) (hk : KM M F) (hb : Ag (fN F) (M 79) (sBr s)) (hv : SavM (M 87) a F s) (ha : a + 47 ≤ 1880) (hQ : ∀ M1, RM M1 F s → FrU M M1 → Q (.inl none) (lm_T M1 v G)) : lm_Q X d 178 [.ref 64, .ref 87, .int (nI a)] (lm_T M v G) Q := by
  have hn := hF.n
  have hm := hF.m
  show lm_G X d 178 106 0 0 0 [some (.ref 64), some (.ref 87), some (.int (nI a)), none, none] [] (lm_T M v G) Q
  refine lm_G_sg 4 (pc' := 4) (L' := [some (.ref 64), some (.ref 87), some (.int (nI a)), none, none]) (S' := [.int (M 87 (nI a).toNatClampNeg), .ref 64]) (σ' := lm_T M v G) rfl ⟨(vp_in_nI (by omega) (by omega)), trivial, trivial⟩ ?_
  rw [show (nI a).toNatClampNeg = a from nI_clamp (by omega)]
  refine lm_G_sg 3 (pc' := 9) (L' := [some (.ref 64), some (.ref 87), some (.int (nI a)), some (.int 0), none]) (S' := []) (σ' := lm_T (lm_wr M 64 36 (M 87 a)) v G) rfl ⟨trivial, trivial, trivial⟩ ?_
  refine lm_ind (α := (Nat → Fn)) (St := fun (j : Nat) zz => (fun (M1 : Nat → Fn) => lm_G X d 178 106 0 0 9 [some (.ref 64), some (.ref 87), some (.int (nI a)), some (.int (nI j)), none] [] (lm_T M1 v G) Q) zz) (Inv := fun (j : Nat) zz => (fun (M1 : Nat → Fn) => Ag j (M1 81) (fun t => M 87 (a + 1 + t)) ∧ M1 64 36 = M 87 a ∧ FrU M M1) zz) (6) (fun j zz hj hI ih => ?_) (fun zz hI => ?_) (0) (lm_wr M 64 36 (M 87 a)) (by omega) ?_
  ·
    revert ih hI
    revert zz
    intro M1 hI ih
    replace hI : Ag j (M1 81) (fun t => M 87 (a + 1 + t)) ∧ M1 64 36 = M 87 a ∧ FrU M M1 := hI
    replace ih : ∀ (M1 : Nat → Fn) (_ : Ag (j + 1) (M1 81) (fun t => M 87 (a + 1 + t)) ∧ M1 64 36 = M 87 a ∧ FrU M M1), lm_G X d 178 106 0 0 9 [some (.ref 64), some (.ref 87), some (.int (nI a)), some (.int (nI (j + 1))), none] [] (lm_T M1 v G) Q := fun M1 q => ih M1 q
    show lm_G X d 178 106 0 0 9 [some (.ref 64), some (.ref 87), some (.int (nI a)), some (.int (nI j)), none] [] (lm_T M1 v G) Q
    obtain ⟨i1, i2, i3⟩ := hI
    refine lm_G_sg 2 (pc' := 12) (L' := [some (.ref 64), some (.ref 87), some (.int (nI a)), some (.int (nI j)), none]) (S' := [.int 6, .int (nI j)]) (σ' := lm_T M1 v G) rfl trivial ?_
    refine lm_G_br (b := 6 ≤ (nI j)) (t := 34) (S' := []) rfl (fun hc => absurd hc (nI_ge (b := 6) hj (by omega))) (fun hc => ?_)
    refine lm_G_sg 7 (pc' := 24) (L' := [some (.ref 64), some (.ref 87), some (.int (nI a)), some (.int (nI j)), none]) (S' := [.int ((nI a) + 1), .ref 87, .int (nI j), .ref 81]) (σ' := lm_T M1 v G) rfl trivial ?_
    rw [show (nI a) + 1 = nI (a + 1) from nI_add a 1]
    refine lm_G_sg 2 (pc' := 26) (L' := [some (.ref 64), some (.ref 87), some (.int (nI a)), some (.int (nI j)), none]) (S' := [.int ((nI (a + 1)) + (nI j)), .ref 87, .int (nI j), .ref 81]) (σ' := lm_T M1 v G) rfl trivial ?_
    rw [show (nI (a + 1)) + (nI j) = nI ((a + 1) + j) from nI_add (a + 1) j]
    refine lm_G_sg 1 (pc' := 27) (L' := [some (.ref 64), some (.ref 87), some (.int (nI a)), some (.int (nI j)), none]) (S' := [.int (M1 87 (nI ((a + 1) + j)).toNatClampNeg), .int (nI j), .ref 81]) (σ' := lm_T M1 v G) rfl ⟨(vp_in_nI (by omega) (by omega)), trivial, trivial⟩ ?_
    rw [show (nI ((a + 1) + j)).toNatClampNeg = ((a + 1) + j) from nI_clamp (by omega)]
    rw [show M1 87 ((a + 1) + j) = M 87 ((a + 1) + j) from congrFun (i3.1 87 rfl) ((a + 1) + j)]
    refine lm_G_sg 1 (pc' := 28) (L' := [some (.ref 64), some (.ref 87), some (.int (nI a)), some (.int (nI j)), none]) (S' := []) (σ' := lm_T (lm_wr M1 81 ((nI j).toNatClampNeg) (M 87 ((a + 1) + j))) v G) rfl ⟨(vp_in_nI (by omega) (by omega)), trivial, trivial⟩ ?_
    rw [show (nI j).toNatClampNeg = j from nI_clamp (by omega)]
    refine lm_G_sg 1 (pc' := 31) (L' := [some (.ref 64), some (.ref 87), some (.int (nI a)), some (.int ((nI j) + 1)), none]) (S' := []) (σ' := lm_T (lm_wr M1 81 j (M 87 ((a + 1) + j))) v G) rfl trivial ?_
    rw [nI_1]
    refine lm_G_sg 1 (pc' := 9) (L' := [some (.ref 64), some (.ref 87), some (.int (nI a)), some (.int (nI (j + 1))), none]) (S' := []) (σ' := lm_T (lm_wr M1 81 j (M 87 ((a + 1) + j))) v G) rfl trivial ?_
    exact ih _ (⟨Ag_nx i1 rfl, i2, Fr_wr i3.1 rfl, i3.2⟩)
  ·
    revert hI
    revert zz
    intro M1 hI
    replace hI : Ag 6 (M1 81) (fun t => M 87 (a + 1 + t)) ∧ M1 64 36 = M 87 a ∧ FrU M M1 := hI
    show lm_G X d 178 106 0 0 9 [some (.ref 64), some (.ref 87), some (.int (nI a)), some (.int (nI 6)), none] [] (lm_T M1 v G) Q
    obtain ⟨i1, i2, i3⟩ := hI
    refine lm_G_sg 2 (pc' := 12) (L' := [some (.ref 64), some (.ref 87), some (.int (nI a)), some (.int (nI 6)), none]) (S' := [.int 6, .int (nI 6)]) (σ' := lm_T M1 v G) rfl trivial ?_
    refine lm_G_br (b := 6 ≤ (nI 6)) (t := 34) (S' := []) rfl (fun hc => ?_) (fun hc => absurd (nI_le (a := 6) (Nat.le_refl _) (by omega)) hc)
    refine lm_G_sg 2 (pc' := 36) (L' := [some (.ref 64), some (.ref 87), some (.int (nI a)), some (.int 0), none]) (S' := []) (σ' := lm_T M1 v G) rfl trivial ?_
    refine lm_ind (α := (Nat → Fn)) (St := fun (j : Nat) zz => (fun (M2 : Nat → Fn) => lm_G X d 178 106 0 0 36 [some (.ref 64), some (.ref 87), some (.int (nI a)), some (.int (nI j)), none] [] (lm_T M2 v G) Q) zz) (Inv := fun (j : Nat) zz => (fun (M2 : Nat → Fn) => Ag 6 (M2 81) (fun t => M 87 (a + 1 + t)) ∧ M2 64 36 = M 87 a ∧ FrU M M2 ∧ Ag j (M2 82) (fun q => M 87 (a + 1 + 6 + 5 * q)) ∧ Ag j (M2 83) (fun q => M 87 (a + 1 + 6 + 5 * q + 1)) ∧ Ag j (M2 84) (fun q => M 87 (a + 1 + 6 + 5 * q + 2)) ∧ Ag j (M2 85) (fun q => M 87 (a + 1 + 6 + 5 * q + 3)) ∧ Ag j (M2 86) (fun q => M 87 (a + 1 + 6 + 5 * q + 4))) zz) (8) (fun j zz hj2 hI2 ih2 => ?_) (fun zz hI2 => ?_) (0) M1 (by omega) ?_
    ·
      revert ih2 hI2
      revert zz
      intro M2 hI2 ih2
      replace hI2 : Ag 6 (M2 81) (fun t => M 87 (a + 1 + t)) ∧ M2 64 36 = M 87 a ∧ FrU M M2 ∧ Ag j (M2 82) (fun q => M 87 (a + 1 + 6 + 5 * q)) ∧ Ag j (M2 83) (fun q => M 87 (a + 1 + 6 + 5 * q + 1)) ∧ Ag j (M2 84) (fun q => M 87 (a + 1 + 6 + 5 * q + 2)) ∧ Ag j (M2 85) (fun q => M 87 (a + 1 + 6 + 5 * q + 3)) ∧ Ag j (M2 86) (fun q => M 87 (a + 1 + 6 + 5 * q + 4)) := hI2
      replace ih2 : ∀ (M2 : Nat → Fn) (_ : Ag 6 (M2 81) (fun t => M 87 (a + 1 + t)) ∧ M2 64 36 = M 87 a ∧ FrU M M2 ∧ Ag (j + 1) (M2 82) (fun q => M 87 (a + 1 + 6 + 5 * q)) ∧ Ag (j + 1) (M2 83) (fun q => M 87 (a + 1 + 6 + 5 * q + 1)) ∧ Ag (j + 1) (M2 84) (fun q => M 87 (a + 1 + 6 + 5 * q + 2)) ∧ Ag (j + 1) (M2 85) (fun q => M 87 (a + 1 + 6 + 5 * q + 3)) ∧ Ag (j + 1) (M2 86) (fun q => M 87 (a + 1 + 6 + 5 * q + 4))), lm_G X d 178 106 0 0 36 [some (.ref 64), some (.ref 87), some (.int (nI a)), some (.int (nI (j + 1))), none] [] (lm_T M2 v G) Q := fun M2 q => ih2 M2 q
      show lm_G X d 178 106 0 0 36 [some (.ref 64), some (.ref 87), some (.int (nI a)), some (.int (nI j)), none] [] (lm_T M2 v G) Q
      obtain ⟨k1, k2, k3, g1, g2, g3, g4, g5⟩ := hI2
      refine lm_G_sg 2 (pc' := 39) (L' := [some (.ref 64), some (.ref 87), some (.int (nI a)), some (.int (nI j)), none]) (S' := [.int 8, .int (nI j)]) (σ' := lm_T M2 v G) rfl trivial ?_
      refine lm_G_br (b := 8 ≤ (nI j)) (t := 118) (S' := []) rfl (fun hc => absurd hc (nI_ge (b := 8) hj2 (by omega))) (fun hc => ?_)
      refine lm_G_sg 3 (pc' := 45) (L' := [some (.ref 64), some (.ref 87), some (.int (nI a)), some (.int (nI j)), none]) (S' := [.int ((nI a) + 1)]) (σ' := lm_T M2 v G) rfl trivial ?_
      rw [show (nI a) + 1 = nI (a + 1) from nI_add a 1]
      refine lm_G_sg 2 (pc' := 48) (L' := [some (.ref 64), some (.ref 87), some (.int (nI a)), some (.int (nI j)), none]) (S' := [.int ((nI (a + 1)) + 6)]) (σ' := lm_T M2 v G) rfl trivial ?_
      rw [show (nI (a + 1)) + 6 = nI ((a + 1) + 6) from nI_add (a + 1) 6]
      refine lm_G_sg 3 (pc' := 51) (L' := [some (.ref 64), some (.ref 87), some (.int (nI a)), some (.int (nI j)), none]) (S' := [.int (5 * (nI j)), .int (nI ((a + 1) + 6))]) (σ' := lm_T M2 v G) rfl trivial ?_
      rw [show 5 * (nI j) = nI (5 * j) from pk_mul 5 j]
      refine lm_G_sg 1 (pc' := 52) (L' := [some (.ref 64), some (.ref 87), some (.int (nI a)), some (.int (nI j)), none]) (S' := [.int ((nI ((a + 1) + 6)) + (nI (5 * j)))]) (σ' := lm_T M2 v G) rfl trivial ?_
      rw [show (nI ((a + 1) + 6)) + (nI (5 * j)) = nI (((a + 1) + 6) + (5 * j)) from nI_add ((a + 1) + 6) (5 * j)]
      refine lm_G_sg 7 (pc' := 63) (L' := [some (.ref 64), some (.ref 87), some (.int (nI a)), some (.int (nI j)), some (.int (nI (((a + 1) + 6) + (5 * j))))]) (S' := [.int (M2 87 (nI (((a + 1) + 6) + (5 * j))).toNatClampNeg), .int (nI j), .ref 82]) (σ' := lm_T M2 v G) rfl ⟨(vp_in_nI (by omega) (by omega)), trivial, trivial⟩ ?_
      rw [show (nI (((a + 1) + 6) + (5 * j))).toNatClampNeg = (((a + 1) + 6) + (5 * j)) from nI_clamp (by omega)]
      rw [show M2 87 (((a + 1) + 6) + (5 * j)) = M 87 (((a + 1) + 6) + (5 * j)) from congrFun (k3.1 87 rfl) (((a + 1) + 6) + (5 * j))]
      refine lm_G_sg 1 (pc' := 64) (L' := [some (.ref 64), some (.ref 87), some (.int (nI a)), some (.int (nI j)), some (.int (nI (((a + 1) + 6) + (5 * j))))]) (S' := []) (σ' := lm_T (lm_wr M2 82 ((nI j).toNatClampNeg) (M 87 (((a + 1) + 6) + (5 * j)))) v G) rfl ⟨(vp_in_nI (by omega) (by omega)), trivial, trivial⟩ ?_
      rw [show (nI j).toNatClampNeg = j from nI_clamp (by omega)]
      refine lm_G_sg 7 (pc' := 74) (L' := [some (.ref 64), some (.ref 87), some (.int (nI a)), some (.int (nI j)), some (.int (nI (((a + 1) + 6) + (5 * j))))]) (S' := [.int ((nI (((a + 1) + 6) + (5 * j))) + 1), .ref 87, .int (nI j), .ref 83]) (σ' := lm_T (lm_wr M2 82 j (M 87 (((a + 1) + 6) + (5 * j)))) v G) rfl trivial ?_
      rw [show (nI (((a + 1) + 6) + (5 * j))) + 1 = nI ((((a + 1) + 6) + (5 * j)) + 1) from nI_add (((a + 1) + 6) + (5 * j)) 1]
      refine lm_G_sg 1 (pc' := 75) (L' := [some (.ref 64), some (.ref 87), some (.int (nI a)), some (.int (nI j)), some (.int (nI (((a + 1) + 6) + (5 * j))))]) (S' := [.int ((lm_wr M2 82 j (M 87 (((a + 1) + 6) + (5 * j)))) 87 (nI ((((a + 1) + 6) + (5 * j)) + 1)).toNatClampNeg), .int (nI j), .ref 83]) (σ' := lm_T (lm_wr M2 82 j (M 87 (((a + 1) + 6) + (5 * j)))) v G) rfl ⟨(vp_in_nI (by omega) (by omega)), trivial, trivial⟩ ?_
      rw [show (nI ((((a + 1) + 6) + (5 * j)) + 1)).toNatClampNeg = ((((a + 1) + 6) + (5 * j)) + 1) from nI_clamp (by omega)]
      show lm_G X d 178 106 0 0 75 [some (.ref 64), some (.ref 87), some (.int (nI a)), some (.int (nI j)), some (.int (nI (((a + 1) + 6) + (5 * j))))] [.int (M2 87 ((((a + 1) + 6) + (5 * j)) + 1)), .int (nI j), .ref 83] (lm_T (lm_wr M2 82 j (M 87 (((a + 1) + 6) + (5 * j)))) v G) Q
      rw [show M2 87 ((((a + 1) + 6) + (5 * j)) + 1) = M 87 ((((a + 1) + 6) + (5 * j)) + 1) from congrFun (k3.1 87 rfl) ((((a + 1) + 6) + (5 * j)) + 1)]
      refine lm_G_sg 1 (pc' := 76) (L' := [some (.ref 64), some (.ref 87), some (.int (nI a)), some (.int (nI j)), some (.int (nI (((a + 1) + 6) + (5 * j))))]) (S' := []) (σ' := lm_T (lm_wr (lm_wr M2 82 j (M 87 (((a + 1) + 6) + (5 * j)))) 83 ((nI j).toNatClampNeg) (M 87 ((((a + 1) + 6) + (5 * j)) + 1))) v G) rfl ⟨(vp_in_nI (by omega) (by omega)), trivial, trivial⟩ ?_
      rw [show (nI j).toNatClampNeg = j from nI_clamp (by omega)]
      refine lm_G_sg 7 (pc' := 86) (L' := [some (.ref 64), some (.ref 87), some (.int (nI a)), some (.int (nI j)), some (.int (nI (((a + 1) + 6) + (5 * j))))]) (S' := [.int ((nI (((a + 1) + 6) + (5 * j))) + 2), .ref 87, .int (nI j), .ref 84]) (σ' := lm_T (lm_wr (lm_wr M2 82 j (M 87 (((a + 1) + 6) + (5 * j)))) 83 j (M 87 ((((a + 1) + 6) + (5 * j)) + 1))) v G) rfl trivial ?_
      rw [show (nI (((a + 1) + 6) + (5 * j))) + 2 = nI ((((a + 1) + 6) + (5 * j)) + 2) from nI_add (((a + 1) + 6) + (5 * j)) 2]
      refine lm_G_sg 1 (pc' := 87) (L' := [some (.ref 64), some (.ref 87), some (.int (nI a)), some (.int (nI j)), some (.int (nI (((a + 1) + 6) + (5 * j))))]) (S' := [.int ((lm_wr (lm_wr M2 82 j (M 87 (((a + 1) + 6) + (5 * j)))) 83 j (M 87 ((((a + 1) + 6) + (5 * j)) + 1))) 87 (nI ((((a + 1) + 6) + (5 * j)) + 2)).toNatClampNeg), .int (nI j), .ref 84]) (σ' := lm_T (lm_wr (lm_wr M2 82 j (M 87 (((a + 1) + 6) + (5 * j)))) 83 j (M 87 ((((a + 1) + 6) + (5 * j)) + 1))) v G) rfl ⟨(vp_in_nI (by omega) (by omega)), trivial, trivial⟩ ?_
      rw [show (nI ((((a + 1) + 6) + (5 * j)) + 2)).toNatClampNeg = ((((a + 1) + 6) + (5 * j)) + 2) from nI_clamp (by omega)]
      show lm_G X d 178 106 0 0 87 [some (.ref 64), some (.ref 87), some (.int (nI a)), some (.int (nI j)), some (.int (nI (((a + 1) + 6) + (5 * j))))] [.int (M2 87 ((((a + 1) + 6) + (5 * j)) + 2)), .int (nI j), .ref 84] (lm_T (lm_wr (lm_wr M2 82 j (M 87 (((a + 1) + 6) + (5 * j)))) 83 j (M 87 ((((a + 1) + 6) + (5 * j)) + 1))) v G) Q
      rw [show M2 87 ((((a + 1) + 6) + (5 * j)) + 2) = M 87 ((((a + 1) + 6) + (5 * j)) + 2) from congrFun (k3.1 87 rfl) ((((a + 1) + 6) + (5 * j)) + 2)]
      refine lm_G_sg 1 (pc' := 88) (L' := [some (.ref 64), some (.ref 87), some (.int (nI a)), some (.int (nI j)), some (.int (nI (((a + 1) + 6) + (5 * j))))]) (S' := []) (σ' := lm_T (lm_wr (lm_wr (lm_wr M2 82 j (M 87 (((a + 1) + 6) + (5 * j)))) 83 j (M 87 ((((a + 1) + 6) + (5 * j)) + 1))) 84 ((nI j).toNatClampNeg) (M 87 ((((a + 1) + 6) + (5 * j)) + 2))) v G) rfl ⟨(vp_in_nI (by omega) (by omega)), trivial, trivial⟩ ?_
      rw [show (nI j).toNatClampNeg = j from nI_clamp (by omega)]
      refine lm_G_sg 7 (pc' := 98) (L' := [some (.ref 64), some (.ref 87), some (.int (nI a)), some (.int (nI j)), some (.int (nI (((a + 1) + 6) + (5 * j))))]) (S' := [.int ((nI (((a + 1) + 6) + (5 * j))) + 3), .ref 87, .int (nI j), .ref 85]) (σ' := lm_T (lm_wr (lm_wr (lm_wr M2 82 j (M 87 (((a + 1) + 6) + (5 * j)))) 83 j (M 87 ((((a + 1) + 6) + (5 * j)) + 1))) 84 j (M 87 ((((a + 1) + 6) + (5 * j)) + 2))) v G) rfl trivial ?_
      rw [show (nI (((a + 1) + 6) + (5 * j))) + 3 = nI ((((a + 1) + 6) + (5 * j)) + 3) from nI_add (((a + 1) + 6) + (5 * j)) 3]
      refine lm_G_sg 1 (pc' := 99) (L' := [some (.ref 64), some (.ref 87), some (.int (nI a)), some (.int (nI j)), some (.int (nI (((a + 1) + 6) + (5 * j))))]) (S' := [.int ((lm_wr (lm_wr (lm_wr M2 82 j (M 87 (((a + 1) + 6) + (5 * j)))) 83 j (M 87 ((((a + 1) + 6) + (5 * j)) + 1))) 84 j (M 87 ((((a + 1) + 6) + (5 * j)) + 2))) 87 (nI ((((a + 1) + 6) + (5 * j)) + 3)).toNatClampNeg), .int (nI j), .ref 85]) (σ' := lm_T (lm_wr (lm_wr (lm_wr M2 82 j (M 87 (((a + 1) + 6) + (5 * j)))) 83 j (M 87 ((((a + 1) + 6) + (5 * j)) + 1))) 84 j (M 87 ((((a + 1) + 6) + (5 * j)) + 2))) v G) rfl ⟨(vp_in_nI (by omega) (by omega)), trivial, trivial⟩ ?_
      rw [show (nI ((((a + 1) + 6) + (5 * j)) + 3)).toNatClampNeg = ((((a + 1) + 6) + (5 * j)) + 3) from nI_clamp (by omega)]
      show lm_G X d 178 106 0 0 99 [some (.ref 64), some (.ref 87), some (.int (nI a)), some (.int (nI j)), some (.int (nI (((a + 1) + 6) + (5 * j))))] [.int (M2 87 ((((a + 1) + 6) + (5 * j)) + 3)), .int (nI j), .ref 85] (lm_T (lm_wr (lm_wr (lm_wr M2 82 j (M 87 (((a + 1) + 6) + (5 * j)))) 83 j (M 87 ((((a + 1) + 6) + (5 * j)) + 1))) 84 j (M 87 ((((a + 1) + 6) + (5 * j)) + 2))) v G) Q
      rw [show M2 87 ((((a + 1) + 6) + (5 * j)) + 3) = M 87 ((((a + 1) + 6) + (5 * j)) + 3) from congrFun (k3.1 87 rfl) ((((a + 1) + 6) + (5 * j)) + 3)]
      refine lm_G_sg 1 (pc' := 100) (L' := [some (.ref 64), some (.ref 87), some (.int (nI a)), some (.int (nI j)), some (.int (nI (((a + 1) + 6) + (5 * j))))]) (S' := []) (σ' := lm_T (lm_wr (lm_wr (lm_wr (lm_wr M2 82 j (M 87 (((a + 1) + 6) + (5 * j)))) 83 j (M 87 ((((a + 1) + 6) + (5 * j)) + 1))) 84 j (M 87 ((((a + 1) + 6) + (5 * j)) + 2))) 85 ((nI j).toNatClampNeg) (M 87 ((((a + 1) + 6) + (5 * j)) + 3))) v G) rfl ⟨(vp_in_nI (by omega) (by omega)), trivial, trivial⟩ ?_
      rw [show (nI j).toNatClampNeg = j from nI_clamp (by omega)]
      refine lm_G_sg 7 (pc' := 110) (L' := [some (.ref 64), some (.ref 87), some (.int (nI a)), some (.int (nI j)), some (.int (nI (((a + 1) + 6) + (5 * j))))]) (S' := [.int ((nI (((a + 1) + 6) + (5 * j))) + 4), .ref 87, .int (nI j), .ref 86]) (σ' := lm_T (lm_wr (lm_wr (lm_wr (lm_wr M2 82 j (M 87 (((a + 1) + 6) + (5 * j)))) 83 j (M 87 ((((a + 1) + 6) + (5 * j)) + 1))) 84 j (M 87 ((((a + 1) + 6) + (5 * j)) + 2))) 85 j (M 87 ((((a + 1) + 6) + (5 * j)) + 3))) v G) rfl trivial ?_
      rw [show (nI (((a + 1) + 6) + (5 * j))) + 4 = nI ((((a + 1) + 6) + (5 * j)) + 4) from nI_add (((a + 1) + 6) + (5 * j)) 4]
      refine lm_G_sg 1 (pc' := 111) (L' := [some (.ref 64), some (.ref 87), some (.int (nI a)), some (.int (nI j)), some (.int (nI (((a + 1) + 6) + (5 * j))))]) (S' := [.int ((lm_wr (lm_wr (lm_wr (lm_wr M2 82 j (M 87 (((a + 1) + 6) + (5 * j)))) 83 j (M 87 ((((a + 1) + 6) + (5 * j)) + 1))) 84 j (M 87 ((((a + 1) + 6) + (5 * j)) + 2))) 85 j (M 87 ((((a + 1) + 6) + (5 * j)) + 3))) 87 (nI ((((a + 1) + 6) + (5 * j)) + 4)).toNatClampNeg), .int (nI j), .ref 86]) (σ' := lm_T (lm_wr (lm_wr (lm_wr (lm_wr M2 82 j (M 87 (((a + 1) + 6) + (5 * j)))) 83 j (M 87 ((((a + 1) + 6) + (5 * j)) + 1))) 84 j (M 87 ((((a + 1) + 6) + (5 * j)) + 2))) 85 j (M 87 ((((a + 1) + 6) + (5 * j)) + 3))) v G) rfl ⟨(vp_in_nI (by omega) (by omega)), trivial, trivial⟩ ?_
      rw [show (nI ((((a + 1) + 6) + (5 * j)) + 4)).toNatClampNeg = ((((a + 1) + 6) + (5 * j)) + 4) from nI_clamp (by omega)]
      show lm_G X d 178 106 0 0 111 [some (.ref 64), some (.ref 87), some (.int (nI a)), some (.int (nI j)), some (.int (nI (((a + 1) + 6) + (5 * j))))] [.int (M2 87 ((((a + 1) + 6) + (5 * j)) + 4)), .int (nI j), .ref 86] (lm_T (lm_wr (lm_wr (lm_wr (lm_wr M2 82 j (M 87 (((a + 1) + 6) + (5 * j)))) 83 j (M 87 ((((a + 1) + 6) + (5 * j)) + 1))) 84 j (M 87 ((((a + 1) + 6) + (5 * j)) + 2))) 85 j (M 87 ((((a + 1) + 6) + (5 * j)) + 3))) v G) Q
      rw [show M2 87 ((((a + 1) + 6) + (5 * j)) + 4) = M 87 ((((a + 1) + 6) + (5 * j)) + 4) from congrFun (k3.1 87 rfl) ((((a + 1) + 6) + (5 * j)) + 4)]
      refine lm_G_sg 1 (pc' := 112) (L' := [some (.ref 64), some (.ref 87), some (.int (nI a)), some (.int (nI j)), some (.int (nI (((a + 1) + 6) + (5 * j))))]) (S' := []) (σ' := lm_T (lm_wr (lm_wr (lm_wr (lm_wr (lm_wr M2 82 j (M 87 (((a + 1) + 6) + (5 * j)))) 83 j (M 87 ((((a + 1) + 6) + (5 * j)) + 1))) 84 j (M 87 ((((a + 1) + 6) + (5 * j)) + 2))) 85 j (M 87 ((((a + 1) + 6) + (5 * j)) + 3))) 86 ((nI j).toNatClampNeg) (M 87 ((((a + 1) + 6) + (5 * j)) + 4))) v G) rfl ⟨(vp_in_nI (by omega) (by omega)), trivial, trivial⟩ ?_
      rw [show (nI j).toNatClampNeg = j from nI_clamp (by omega)]
      refine lm_G_sg 1 (pc' := 115) (L' := [some (.ref 64), some (.ref 87), some (.int (nI a)), some (.int ((nI j) + 1)), some (.int (nI (((a + 1) + 6) + (5 * j))))]) (S' := []) (σ' := lm_T (lm_wr (lm_wr (lm_wr (lm_wr (lm_wr M2 82 j (M 87 (((a + 1) + 6) + (5 * j)))) 83 j (M 87 ((((a + 1) + 6) + (5 * j)) + 1))) 84 j (M 87 ((((a + 1) + 6) + (5 * j)) + 2))) 85 j (M 87 ((((a + 1) + 6) + (5 * j)) + 3))) 86 j (M 87 ((((a + 1) + 6) + (5 * j)) + 4))) v G) rfl trivial ?_
      rw [nI_1]
      refine lm_G_sg 1 (pc' := 36) (L' := [some (.ref 64), some (.ref 87), some (.int (nI a)), some (.int (nI (j + 1))), some (.int (nI (((a + 1) + 6) + (5 * j))))]) (S' := []) (σ' := lm_T (lm_wr (lm_wr (lm_wr (lm_wr (lm_wr M2 82 j (M 87 (((a + 1) + 6) + (5 * j)))) 83 j (M 87 ((((a + 1) + 6) + (5 * j)) + 1))) 84 j (M 87 ((((a + 1) + 6) + (5 * j)) + 2))) 85 j (M 87 ((((a + 1) + 6) + (5 * j)) + 3))) 86 j (M 87 ((((a + 1) + 6) + (5 * j)) + 4))) v G) rfl trivial ?_
      refine lm_G_jk (L := [some (.ref 64), some (.ref 87), some (.int (nI a)), some (.int (nI (j + 1))), none]) ⟨rfl, rfl, rfl, rfl, trivial⟩ ?_
      exact ih2 _ (⟨k1, k2, ⟨Fr_wr (Fr_wr (Fr_wr (Fr_wr (Fr_wr k3.1 rfl) rfl) rfl) rfl) rfl, k3.2⟩, Ag_nx g1 rfl, Ag_nx g2 rfl, Ag_nx g3 rfl, Ag_nx g4 rfl, Ag_nx g5 rfl⟩)
    ·
      revert hI2
      revert zz
      intro M2 hI2
      replace hI2 : Ag 6 (M2 81) (fun t => M 87 (a + 1 + t)) ∧ M2 64 36 = M 87 a ∧ FrU M M2 ∧ Ag 8 (M2 82) (fun q => M 87 (a + 1 + 6 + 5 * q)) ∧ Ag 8 (M2 83) (fun q => M 87 (a + 1 + 6 + 5 * q + 1)) ∧ Ag 8 (M2 84) (fun q => M 87 (a + 1 + 6 + 5 * q + 2)) ∧ Ag 8 (M2 85) (fun q => M 87 (a + 1 + 6 + 5 * q + 3)) ∧ Ag 8 (M2 86) (fun q => M 87 (a + 1 + 6 + 5 * q + 4)) := hI2
      show lm_G X d 178 106 0 0 36 [some (.ref 64), some (.ref 87), some (.int (nI a)), some (.int (nI 8)), none] [] (lm_T M2 v G) Q
      obtain ⟨k1, k2, k3, g1, g2, g3, g4, g5⟩ := hI2
      refine lm_G_sg 2 (pc' := 39) (L' := [some (.ref 64), some (.ref 87), some (.int (nI a)), some (.int (nI 8)), none]) (S' := [.int 8, .int (nI 8)]) (σ' := lm_T M2 v G) rfl trivial ?_
      refine lm_G_br (b := 8 ≤ (nI 8)) (t := 118) (S' := []) rfl (fun hc => ?_) (fun hc => absurd (nI_le (a := 8) (Nat.le_refl _) (by omega)) hc)
      have hR : RM M2 F s := by
        refine ⟨KM_of hk (k3.1 68 rfl) (k3.1 71 rfl) (k3.1 69 rfl) (k3.1 74 rfl) (k3.1 76 rfl) (k3.1 77 rfl), k2.trans hv.1, ?_, ?_, ?_, ?_, ?_, ?_, ?_⟩
        · rw [k3.1 79 rfl]; exact hb
        · exact fun p hp => (g4 p (by omega)).trans (hv.2.2 p hp).2.2.2.1
        · exact fun p hp => (g5 p (by omega)).trans (hv.2.2 p hp).2.2.2.2
        · exact fun p hp => (g1 p (by omega)).trans (hv.2.2 p hp).1
        · exact fun p hp => (g2 p (by omega)).trans (hv.2.2 p hp).2.1
        · exact fun p hp => (g3 p (by omega)).trans (hv.2.2 p hp).2.2.1
        · exact fun t ht => (k1 t (by omega)).trans (hv.2.1 t ht)
      exact lm_G_re rfl trivial (Nat.zero_le _) (Nat.zero_le _) (hQ _ hR k3)
    ·
      try dsimp only
      exact ⟨i1, i2, i3, fun q hq => by omega, fun q hq => by omega, fun q hq => by omega, fun q hq => by omega, fun q hq => by omega⟩
  ·
    try dsimp only
    exact ⟨fun t ht => by omega, wr_same, Fr_wr (Fr_rf _ _) rfl, fun k hk => wr_at hk⟩
set_option maxRecDepth 10000 in
theorem m_pack90 {X : lm_X} {d v : Nat} {M : Nat → Nat → Int32} {G : Nat → Nat → Int64} {Q : lm_O → lm_S → Prop} {F : Fa} {s : Sc} {a : Nat} (hF : okF F) (h : RM M F s) (ha : a + 47 ≤ 47) (hQ : ∀ M1, SavM (M1 90) a F s → (∀ i, i < a ∨ a + 47 ≤ i → M1 90 i = M 90 i) → Fr (frO 90) M M1 → Q (.inl none) (lm_T M1 v G)) : lm_Q X d 177 [.ref 64, .ref 90, .int (nI a)] (lm_T M v G) Q := by
  have hn := hF.n
  have hm := hF.m
  show lm_G X d 177 106 0 0 0 [some (.ref 64), some (.ref 90), some (.int (nI a)), none, none] [] (lm_T M v G) Q
  refine lm_G_sg 5 (pc' := 7) (L' := [some (.ref 64), some (.ref 90), some (.int (nI a)), none, none]) (S' := []) (σ' := lm_T (lm_wr M 90 ((nI a).toNatClampNeg) (M 64 36)) v G) rfl ⟨(vp_in_nI (by omega) (by omega)), trivial, trivial⟩ ?_
  rw [show (nI a).toNatClampNeg = a from nI_clamp (by omega)]
  refine lm_G_sg 2 (pc' := 9) (L' := [some (.ref 64), some (.ref 90), some (.int (nI a)), some (.int 0), none]) (S' := []) (σ' := lm_T (lm_wr M 90 a (M 64 36)) v G) rfl trivial ?_
  refine lm_ind (α := (Nat → Fn)) (St := fun (j : Nat) zz => (fun (M1 : Nat → Fn) => lm_G X d 177 106 0 0 9 [some (.ref 64), some (.ref 90), some (.int (nI a)), some (.int (nI j)), none] [] (lm_T M1 v G) Q) zz) (Inv := fun (j : Nat) zz => (fun (M1 : Nat → Fn) => M1 90 a = M 64 36 ∧ (∀ t, t < j → M1 90 (a + 1 + t) = M 81 t) ∧ (∀ i, i < a ∨ a + 47 ≤ i → M1 90 i = M 90 i) ∧ Fr (frO 90) M M1) zz) (6) (fun j zz hj hI ih => ?_) (fun zz hI => ?_) (0) (lm_wr M 90 a (M 64 36)) (by omega) ?_
  ·
    revert ih hI
    revert zz
    intro M1 hI ih
    replace hI : M1 90 a = M 64 36 ∧ (∀ t, t < j → M1 90 (a + 1 + t) = M 81 t) ∧ (∀ i, i < a ∨ a + 47 ≤ i → M1 90 i = M 90 i) ∧ Fr (frO 90) M M1 := hI
    replace ih : ∀ (M1 : Nat → Fn) (_ : M1 90 a = M 64 36 ∧ (∀ t, t < (j + 1) → M1 90 (a + 1 + t) = M 81 t) ∧ (∀ i, i < a ∨ a + 47 ≤ i → M1 90 i = M 90 i) ∧ Fr (frO 90) M M1), lm_G X d 177 106 0 0 9 [some (.ref 64), some (.ref 90), some (.int (nI a)), some (.int (nI (j + 1))), none] [] (lm_T M1 v G) Q := fun M1 q => ih M1 q
    show lm_G X d 177 106 0 0 9 [some (.ref 64), some (.ref 90), some (.int (nI a)), some (.int (nI j)), none] [] (lm_T M1 v G) Q
    obtain ⟨i1, i2, i3, i4⟩ := hI
    refine lm_G_sg 2 (pc' := 12) (L' := [some (.ref 64), some (.ref 90), some (.int (nI a)), some (.int (nI j)), none]) (S' := [.int 6, .int (nI j)]) (σ' := lm_T M1 v G) rfl trivial ?_
    refine lm_G_br (b := 6 ≤ (nI j)) (t := 34) (S' := []) rfl (fun hc => absurd hc (nI_ge (b := 6) hj (by omega))) (fun hc => ?_)
    refine lm_G_sg 4 (pc' := 19) (L' := [some (.ref 64), some (.ref 90), some (.int (nI a)), some (.int (nI j)), none]) (S' := [.int ((nI a) + 1), .ref 90]) (σ' := lm_T M1 v G) rfl trivial ?_
    rw [show (nI a) + 1 = nI (a + 1) from nI_add a 1]
    refine lm_G_sg 2 (pc' := 21) (L' := [some (.ref 64), some (.ref 90), some (.int (nI a)), some (.int (nI j)), none]) (S' := [.int ((nI (a + 1)) + (nI j)), .ref 90]) (σ' := lm_T M1 v G) rfl trivial ?_
    rw [show (nI (a + 1)) + (nI j) = nI ((a + 1) + j) from nI_add (a + 1) j]
    refine lm_G_sg 4 (pc' := 27) (L' := [some (.ref 64), some (.ref 90), some (.int (nI a)), some (.int (nI j)), none]) (S' := [.int (M1 81 (nI j).toNatClampNeg), .int (nI ((a + 1) + j)), .ref 90]) (σ' := lm_T M1 v G) rfl ⟨(vp_in_nI (by omega) (by omega)), trivial, trivial⟩ ?_
    rw [show (nI j).toNatClampNeg = j from nI_clamp (by omega)]
    rw [show M1 81 j = M 81 j from congrFun (i4 81 rfl) j]
    refine lm_G_sg 1 (pc' := 28) (L' := [some (.ref 64), some (.ref 90), some (.int (nI a)), some (.int (nI j)), none]) (S' := []) (σ' := lm_T (lm_wr M1 90 ((nI ((a + 1) + j)).toNatClampNeg) (M 81 j)) v G) rfl ⟨(vp_in_nI (by omega) (by omega)), trivial, trivial⟩ ?_
    rw [show (nI ((a + 1) + j)).toNatClampNeg = ((a + 1) + j) from nI_clamp (by omega)]
    refine lm_G_sg 1 (pc' := 31) (L' := [some (.ref 64), some (.ref 90), some (.int (nI a)), some (.int ((nI j) + 1)), none]) (S' := []) (σ' := lm_T (lm_wr M1 90 ((a + 1) + j) (M 81 j)) v G) rfl trivial ?_
    rw [nI_1]
    refine lm_G_sg 1 (pc' := 9) (L' := [some (.ref 64), some (.ref 90), some (.int (nI a)), some (.int (nI (j + 1))), none]) (S' := []) (σ' := lm_T (lm_wr M1 90 ((a + 1) + j) (M 81 j)) v G) rfl trivial ?_
    exact ih _ (⟨by rw [wr_at (by omega)]; exact i1, fun t ht => if e : t = j then (by subst e; exact wr_same) else (by rw [wr_at (by omega)]; exact i2 t (by omega)), fun i hi => by rw [wr_at (by omega)]; exact i3 i hi, Fr_wr i4 rfl⟩)
  ·
    revert hI
    revert zz
    intro M1 hI
    replace hI : M1 90 a = M 64 36 ∧ (∀ t, t < 6 → M1 90 (a + 1 + t) = M 81 t) ∧ (∀ i, i < a ∨ a + 47 ≤ i → M1 90 i = M 90 i) ∧ Fr (frO 90) M M1 := hI
    show lm_G X d 177 106 0 0 9 [some (.ref 64), some (.ref 90), some (.int (nI a)), some (.int (nI 6)), none] [] (lm_T M1 v G) Q
    obtain ⟨i1, i2, i3, i4⟩ := hI
    refine lm_G_sg 2 (pc' := 12) (L' := [some (.ref 64), some (.ref 90), some (.int (nI a)), some (.int (nI 6)), none]) (S' := [.int 6, .int (nI 6)]) (σ' := lm_T M1 v G) rfl trivial ?_
    refine lm_G_br (b := 6 ≤ (nI 6)) (t := 34) (S' := []) rfl (fun hc => ?_) (fun hc => absurd (nI_le (a := 6) (Nat.le_refl _) (by omega)) hc)
    refine lm_G_sg 2 (pc' := 36) (L' := [some (.ref 64), some (.ref 90), some (.int (nI a)), some (.int 0), none]) (S' := []) (σ' := lm_T M1 v G) rfl trivial ?_
    refine lm_ind (α := (Nat → Fn)) (St := fun (j : Nat) zz => (fun (M2 : Nat → Fn) => lm_G X d 177 106 0 0 36 [some (.ref 64), some (.ref 90), some (.int (nI a)), some (.int (nI j)), none] [] (lm_T M2 v G) Q) zz) (Inv := fun (j : Nat) zz => (fun (M2 : Nat → Fn) => M2 90 a = M 64 36 ∧ (∀ t, t < 6 → M2 90 (a + 1 + t) = M 81 t) ∧ (∀ q, q < j → M2 90 (a + 1 + 6 + 5 * q) = M 82 q ∧ M2 90 (a + 1 + 6 + 5 * q + 1) = M 83 q ∧ M2 90 (a + 1 + 6 + 5 * q + 2) = M 84 q ∧ M2 90 (a + 1 + 6 + 5 * q + 3) = M 85 q ∧ M2 90 (a + 1 + 6 + 5 * q + 4) = M 86 q) ∧ (∀ i, i < a ∨ a + 47 ≤ i → M2 90 i = M 90 i) ∧ Fr (frO 90) M M2) zz) (8) (fun j zz hj2 hI2 ih2 => ?_) (fun zz hI2 => ?_) (0) M1 (by omega) ?_
    ·
      revert ih2 hI2
      revert zz
      intro M2 hI2 ih2
      replace hI2 : M2 90 a = M 64 36 ∧ (∀ t, t < 6 → M2 90 (a + 1 + t) = M 81 t) ∧ (∀ q, q < j → M2 90 (a + 1 + 6 + 5 * q) = M 82 q ∧ M2 90 (a + 1 + 6 + 5 * q + 1) = M 83 q ∧ M2 90 (a + 1 + 6 + 5 * q + 2) = M 84 q ∧ M2 90 (a + 1 + 6 + 5 * q + 3) = M 85 q ∧ M2 90 (a + 1 + 6 + 5 * q + 4) = M 86 q) ∧ (∀ i, i < a ∨ a + 47 ≤ i → M2 90 i = M 90 i) ∧ Fr (frO 90) M M2 := hI2
      replace ih2 : ∀ (M2 : Nat → Fn) (_ : M2 90 a = M 64 36 ∧ (∀ t, t < 6 → M2 90 (a + 1 + t) = M 81 t) ∧ (∀ q, q < (j + 1) → M2 90 (a + 1 + 6 + 5 * q) = M 82 q ∧ M2 90 (a + 1 + 6 + 5 * q + 1) = M 83 q ∧ M2 90 (a + 1 + 6 + 5 * q + 2) = M 84 q ∧ M2 90 (a + 1 + 6 + 5 * q + 3) = M 85 q ∧ M2 90 (a + 1 + 6 + 5 * q + 4) = M 86 q) ∧ (∀ i, i < a ∨ a + 47 ≤ i → M2 90 i = M 90 i) ∧ Fr (frO 90) M M2), lm_G X d 177 106 0 0 36 [some (.ref 64), some (.ref 90), some (.int (nI a)), some (.int (nI (j + 1))), none] [] (lm_T M2 v G) Q := fun M2 q => ih2 M2 q
      show lm_G X d 177 106 0 0 36 [some (.ref 64), some (.ref 90), some (.int (nI a)), some (.int (nI j)), none] [] (lm_T M2 v G) Q
      obtain ⟨k1, k2, k3, k4, k5⟩ := hI2
      refine lm_G_sg 2 (pc' := 39) (L' := [some (.ref 64), some (.ref 90), some (.int (nI a)), some (.int (nI j)), none]) (S' := [.int 8, .int (nI j)]) (σ' := lm_T M2 v G) rfl trivial ?_
      refine lm_G_br (b := 8 ≤ (nI j)) (t := 118) (S' := []) rfl (fun hc => absurd hc (nI_ge (b := 8) hj2 (by omega))) (fun hc => ?_)
      refine lm_G_sg 3 (pc' := 45) (L' := [some (.ref 64), some (.ref 90), some (.int (nI a)), some (.int (nI j)), none]) (S' := [.int ((nI a) + 1)]) (σ' := lm_T M2 v G) rfl trivial ?_
      rw [show (nI a) + 1 = nI (a + 1) from nI_add a 1]
      refine lm_G_sg 2 (pc' := 48) (L' := [some (.ref 64), some (.ref 90), some (.int (nI a)), some (.int (nI j)), none]) (S' := [.int ((nI (a + 1)) + 6)]) (σ' := lm_T M2 v G) rfl trivial ?_
      rw [show (nI (a + 1)) + 6 = nI ((a + 1) + 6) from nI_add (a + 1) 6]
      refine lm_G_sg 3 (pc' := 51) (L' := [some (.ref 64), some (.ref 90), some (.int (nI a)), some (.int (nI j)), none]) (S' := [.int (5 * (nI j)), .int (nI ((a + 1) + 6))]) (σ' := lm_T M2 v G) rfl trivial ?_
      rw [show 5 * (nI j) = nI (5 * j) from pk_mul 5 j]
      refine lm_G_sg 1 (pc' := 52) (L' := [some (.ref 64), some (.ref 90), some (.int (nI a)), some (.int (nI j)), none]) (S' := [.int ((nI ((a + 1) + 6)) + (nI (5 * j)))]) (σ' := lm_T M2 v G) rfl trivial ?_
      rw [show (nI ((a + 1) + 6)) + (nI (5 * j)) = nI (((a + 1) + 6) + (5 * j)) from nI_add ((a + 1) + 6) (5 * j)]
      refine lm_G_sg 7 (pc' := 63) (L' := [some (.ref 64), some (.ref 90), some (.int (nI a)), some (.int (nI j)), some (.int (nI (((a + 1) + 6) + (5 * j))))]) (S' := [.int (M2 82 (nI j).toNatClampNeg), .int (nI (((a + 1) + 6) + (5 * j))), .ref 90]) (σ' := lm_T M2 v G) rfl ⟨(vp_in_nI (by omega) (by omega)), trivial, trivial⟩ ?_
      rw [show (nI j).toNatClampNeg = j from nI_clamp (by omega)]
      rw [show M2 82 j = M 82 j from congrFun (k5 82 rfl) j]
      refine lm_G_sg 1 (pc' := 64) (L' := [some (.ref 64), some (.ref 90), some (.int (nI a)), some (.int (nI j)), some (.int (nI (((a + 1) + 6) + (5 * j))))]) (S' := []) (σ' := lm_T (lm_wr M2 90 ((nI (((a + 1) + 6) + (5 * j))).toNatClampNeg) (M 82 j)) v G) rfl ⟨(vp_in_nI (by omega) (by omega)), trivial, trivial⟩ ?_
      rw [show (nI (((a + 1) + 6) + (5 * j))).toNatClampNeg = (((a + 1) + 6) + (5 * j)) from nI_clamp (by omega)]
      refine lm_G_sg 4 (pc' := 69) (L' := [some (.ref 64), some (.ref 90), some (.int (nI a)), some (.int (nI j)), some (.int (nI (((a + 1) + 6) + (5 * j))))]) (S' := [.int ((nI (((a + 1) + 6) + (5 * j))) + 1), .ref 90]) (σ' := lm_T (lm_wr M2 90 (((a + 1) + 6) + (5 * j)) (M 82 j)) v G) rfl trivial ?_
      rw [show (nI (((a + 1) + 6) + (5 * j))) + 1 = nI ((((a + 1) + 6) + (5 * j)) + 1) from nI_add (((a + 1) + 6) + (5 * j)) 1]
      refine lm_G_sg 4 (pc' := 75) (L' := [some (.ref 64), some (.ref 90), some (.int (nI a)), some (.int (nI j)), some (.int (nI (((a + 1) + 6) + (5 * j))))]) (S' := [.int ((lm_wr M2 90 (((a + 1) + 6) + (5 * j)) (M 82 j)) 83 (nI j).toNatClampNeg), .int (nI ((((a + 1) + 6) + (5 * j)) + 1)), .ref 90]) (σ' := lm_T (lm_wr M2 90 (((a + 1) + 6) + (5 * j)) (M 82 j)) v G) rfl ⟨(vp_in_nI (by omega) (by omega)), trivial, trivial⟩ ?_
      rw [show (nI j).toNatClampNeg = j from nI_clamp (by omega)]
      show lm_G X d 177 106 0 0 75 [some (.ref 64), some (.ref 90), some (.int (nI a)), some (.int (nI j)), some (.int (nI (((a + 1) + 6) + (5 * j))))] [.int (M2 83 j), .int (nI ((((a + 1) + 6) + (5 * j)) + 1)), .ref 90] (lm_T (lm_wr M2 90 (((a + 1) + 6) + (5 * j)) (M 82 j)) v G) Q
      rw [show M2 83 j = M 83 j from congrFun (k5 83 rfl) j]
      refine lm_G_sg 1 (pc' := 76) (L' := [some (.ref 64), some (.ref 90), some (.int (nI a)), some (.int (nI j)), some (.int (nI (((a + 1) + 6) + (5 * j))))]) (S' := []) (σ' := lm_T (lm_wr (lm_wr M2 90 (((a + 1) + 6) + (5 * j)) (M 82 j)) 90 ((nI ((((a + 1) + 6) + (5 * j)) + 1)).toNatClampNeg) (M 83 j)) v G) rfl ⟨(vp_in_nI (by omega) (by omega)), trivial, trivial⟩ ?_
      rw [show (nI ((((a + 1) + 6) + (5 * j)) + 1)).toNatClampNeg = ((((a + 1) + 6) + (5 * j)) + 1) from nI_clamp (by omega)]
      refine lm_G_sg 4 (pc' := 81) (L' := [some (.ref 64), some (.ref 90), some (.int (nI a)), some (.int (nI j)), some (.int (nI (((a + 1) + 6) + (5 * j))))]) (S' := [.int ((nI (((a + 1) + 6) + (5 * j))) + 2), .ref 90]) (σ' := lm_T (lm_wr (lm_wr M2 90 (((a + 1) + 6) + (5 * j)) (M 82 j)) 90 ((((a + 1) + 6) + (5 * j)) + 1) (M 83 j)) v G) rfl trivial ?_
      rw [show (nI (((a + 1) + 6) + (5 * j))) + 2 = nI ((((a + 1) + 6) + (5 * j)) + 2) from nI_add (((a + 1) + 6) + (5 * j)) 2]
      refine lm_G_sg 4 (pc' := 87) (L' := [some (.ref 64), some (.ref 90), some (.int (nI a)), some (.int (nI j)), some (.int (nI (((a + 1) + 6) + (5 * j))))]) (S' := [.int ((lm_wr (lm_wr M2 90 (((a + 1) + 6) + (5 * j)) (M 82 j)) 90 ((((a + 1) + 6) + (5 * j)) + 1) (M 83 j)) 84 (nI j).toNatClampNeg), .int (nI ((((a + 1) + 6) + (5 * j)) + 2)), .ref 90]) (σ' := lm_T (lm_wr (lm_wr M2 90 (((a + 1) + 6) + (5 * j)) (M 82 j)) 90 ((((a + 1) + 6) + (5 * j)) + 1) (M 83 j)) v G) rfl ⟨(vp_in_nI (by omega) (by omega)), trivial, trivial⟩ ?_
      rw [show (nI j).toNatClampNeg = j from nI_clamp (by omega)]
      show lm_G X d 177 106 0 0 87 [some (.ref 64), some (.ref 90), some (.int (nI a)), some (.int (nI j)), some (.int (nI (((a + 1) + 6) + (5 * j))))] [.int (M2 84 j), .int (nI ((((a + 1) + 6) + (5 * j)) + 2)), .ref 90] (lm_T (lm_wr (lm_wr M2 90 (((a + 1) + 6) + (5 * j)) (M 82 j)) 90 ((((a + 1) + 6) + (5 * j)) + 1) (M 83 j)) v G) Q
      rw [show M2 84 j = M 84 j from congrFun (k5 84 rfl) j]
      refine lm_G_sg 1 (pc' := 88) (L' := [some (.ref 64), some (.ref 90), some (.int (nI a)), some (.int (nI j)), some (.int (nI (((a + 1) + 6) + (5 * j))))]) (S' := []) (σ' := lm_T (lm_wr (lm_wr (lm_wr M2 90 (((a + 1) + 6) + (5 * j)) (M 82 j)) 90 ((((a + 1) + 6) + (5 * j)) + 1) (M 83 j)) 90 ((nI ((((a + 1) + 6) + (5 * j)) + 2)).toNatClampNeg) (M 84 j)) v G) rfl ⟨(vp_in_nI (by omega) (by omega)), trivial, trivial⟩ ?_
      rw [show (nI ((((a + 1) + 6) + (5 * j)) + 2)).toNatClampNeg = ((((a + 1) + 6) + (5 * j)) + 2) from nI_clamp (by omega)]
      refine lm_G_sg 4 (pc' := 93) (L' := [some (.ref 64), some (.ref 90), some (.int (nI a)), some (.int (nI j)), some (.int (nI (((a + 1) + 6) + (5 * j))))]) (S' := [.int ((nI (((a + 1) + 6) + (5 * j))) + 3), .ref 90]) (σ' := lm_T (lm_wr (lm_wr (lm_wr M2 90 (((a + 1) + 6) + (5 * j)) (M 82 j)) 90 ((((a + 1) + 6) + (5 * j)) + 1) (M 83 j)) 90 ((((a + 1) + 6) + (5 * j)) + 2) (M 84 j)) v G) rfl trivial ?_
      rw [show (nI (((a + 1) + 6) + (5 * j))) + 3 = nI ((((a + 1) + 6) + (5 * j)) + 3) from nI_add (((a + 1) + 6) + (5 * j)) 3]
      refine lm_G_sg 4 (pc' := 99) (L' := [some (.ref 64), some (.ref 90), some (.int (nI a)), some (.int (nI j)), some (.int (nI (((a + 1) + 6) + (5 * j))))]) (S' := [.int ((lm_wr (lm_wr (lm_wr M2 90 (((a + 1) + 6) + (5 * j)) (M 82 j)) 90 ((((a + 1) + 6) + (5 * j)) + 1) (M 83 j)) 90 ((((a + 1) + 6) + (5 * j)) + 2) (M 84 j)) 85 (nI j).toNatClampNeg), .int (nI ((((a + 1) + 6) + (5 * j)) + 3)), .ref 90]) (σ' := lm_T (lm_wr (lm_wr (lm_wr M2 90 (((a + 1) + 6) + (5 * j)) (M 82 j)) 90 ((((a + 1) + 6) + (5 * j)) + 1) (M 83 j)) 90 ((((a + 1) + 6) + (5 * j)) + 2) (M 84 j)) v G) rfl ⟨(vp_in_nI (by omega) (by omega)), trivial, trivial⟩ ?_
      rw [show (nI j).toNatClampNeg = j from nI_clamp (by omega)]
      show lm_G X d 177 106 0 0 99 [some (.ref 64), some (.ref 90), some (.int (nI a)), some (.int (nI j)), some (.int (nI (((a + 1) + 6) + (5 * j))))] [.int (M2 85 j), .int (nI ((((a + 1) + 6) + (5 * j)) + 3)), .ref 90] (lm_T (lm_wr (lm_wr (lm_wr M2 90 (((a + 1) + 6) + (5 * j)) (M 82 j)) 90 ((((a + 1) + 6) + (5 * j)) + 1) (M 83 j)) 90 ((((a + 1) + 6) + (5 * j)) + 2) (M 84 j)) v G) Q
      rw [show M2 85 j = M 85 j from congrFun (k5 85 rfl) j]
      refine lm_G_sg 1 (pc' := 100) (L' := [some (.ref 64), some (.ref 90), some (.int (nI a)), some (.int (nI j)), some (.int (nI (((a + 1) + 6) + (5 * j))))]) (S' := []) (σ' := lm_T (lm_wr (lm_wr (lm_wr (lm_wr M2 90 (((a + 1) + 6) + (5 * j)) (M 82 j)) 90 ((((a + 1) + 6) + (5 * j)) + 1) (M 83 j)) 90 ((((a + 1) + 6) + (5 * j)) + 2) (M 84 j)) 90 ((nI ((((a + 1) + 6) + (5 * j)) + 3)).toNatClampNeg) (M 85 j)) v G) rfl ⟨(vp_in_nI (by omega) (by omega)), trivial, trivial⟩ ?_
      rw [show (nI ((((a + 1) + 6) + (5 * j)) + 3)).toNatClampNeg = ((((a + 1) + 6) + (5 * j)) + 3) from nI_clamp (by omega)]
      refine lm_G_sg 4 (pc' := 105) (L' := [some (.ref 64), some (.ref 90), some (.int (nI a)), some (.int (nI j)), some (.int (nI (((a + 1) + 6) + (5 * j))))]) (S' := [.int ((nI (((a + 1) + 6) + (5 * j))) + 4), .ref 90]) (σ' := lm_T (lm_wr (lm_wr (lm_wr (lm_wr M2 90 (((a + 1) + 6) + (5 * j)) (M 82 j)) 90 ((((a + 1) + 6) + (5 * j)) + 1) (M 83 j)) 90 ((((a + 1) + 6) + (5 * j)) + 2) (M 84 j)) 90 ((((a + 1) + 6) + (5 * j)) + 3) (M 85 j)) v G) rfl trivial ?_
      rw [show (nI (((a + 1) + 6) + (5 * j))) + 4 = nI ((((a + 1) + 6) + (5 * j)) + 4) from nI_add (((a + 1) + 6) + (5 * j)) 4]
      refine lm_G_sg 4 (pc' := 111) (L' := [some (.ref 64), some (.ref 90), some (.int (nI a)), some (.int (nI j)), some (.int (nI (((a + 1) + 6) + (5 * j))))]) (S' := [.int ((lm_wr (lm_wr (lm_wr (lm_wr M2 90 (((a + 1) + 6) + (5 * j)) (M 82 j)) 90 ((((a + 1) + 6) + (5 * j)) + 1) (M 83 j)) 90 ((((a + 1) + 6) + (5 * j)) + 2) (M 84 j)) 90 ((((a + 1) + 6) + (5 * j)) + 3) (M 85 j)) 86 (nI j).toNatClampNeg), .int (nI ((((a + 1) + 6) + (5 * j)) + 4)), .ref 90]) (σ' := lm_T (lm_wr (lm_wr (lm_wr (lm_wr M2 90 (((a + 1) + 6) + (5 * j)) (M 82 j)) 90 ((((a + 1) + 6) + (5 * j)) + 1) (M 83 j)) 90 ((((a + 1) + 6) + (5 * j)) + 2) (M 84 j)) 90 ((((a + 1) + 6) + (5 * j)) + 3) (M 85 j)) v G) rfl ⟨(vp_in_nI (by omega) (by omega)), trivial, trivial⟩ ?_
      rw [show (nI j).toNatClampNeg = j from nI_clamp (by omega)]
      show lm_G X d 177 106 0 0 111 [some (.ref 64), some (.ref 90), some (.int (nI a)), some (.int (nI j)), some (.int (nI (((a + 1) + 6) + (5 * j))))] [.int (M2 86 j), .int (nI ((((a + 1) + 6) + (5 * j)) + 4)), .ref 90] (lm_T (lm_wr (lm_wr (lm_wr (lm_wr M2 90 (((a + 1) + 6) + (5 * j)) (M 82 j)) 90 ((((a + 1) + 6) + (5 * j)) + 1) (M 83 j)) 90 ((((a + 1) + 6) + (5 * j)) + 2) (M 84 j)) 90 ((((a + 1) + 6) + (5 * j)) + 3) (M 85 j)) v G) Q
      rw [show M2 86 j = M 86 j from congrFun (k5 86 rfl) j]
      refine lm_G_sg 1 (pc' := 112) (L' := [some (.ref 64), some (.ref 90), some (.int (nI a)), some (.int (nI j)), some (.int (nI (((a + 1) + 6) + (5 * j))))]) (S' := []) (σ' := lm_T (lm_wr (lm_wr (lm_wr (lm_wr (lm_wr M2 90 (((a + 1) + 6) + (5 * j)) (M 82 j)) 90 ((((a + 1) + 6) + (5 * j)) + 1) (M 83 j)) 90 ((((a + 1) + 6) + (5 * j)) + 2) (M 84 j)) 90 ((((a + 1) + 6) + (5 * j)) + 3) (M 85 j)) 90 ((nI ((((a + 1) + 6) + (5 * j)) + 4)).toNatClampNeg) (M 86 j)) v G) rfl ⟨(vp_in_nI (by omega) (by omega)), trivial, trivial⟩ ?_
      rw [show (nI ((((a + 1) + 6) + (5 * j)) + 4)).toNatClampNeg = ((((a + 1) + 6) + (5 * j)) + 4) from nI_clamp (by omega)]
      refine lm_G_sg 1 (pc' := 115) (L' := [some (.ref 64), some (.ref 90), some (.int (nI a)), some (.int ((nI j) + 1)), some (.int (nI (((a + 1) + 6) + (5 * j))))]) (S' := []) (σ' := lm_T (lm_wr (lm_wr (lm_wr (lm_wr (lm_wr M2 90 (((a + 1) + 6) + (5 * j)) (M 82 j)) 90 ((((a + 1) + 6) + (5 * j)) + 1) (M 83 j)) 90 ((((a + 1) + 6) + (5 * j)) + 2) (M 84 j)) 90 ((((a + 1) + 6) + (5 * j)) + 3) (M 85 j)) 90 ((((a + 1) + 6) + (5 * j)) + 4) (M 86 j)) v G) rfl trivial ?_
      rw [nI_1]
      refine lm_G_sg 1 (pc' := 36) (L' := [some (.ref 64), some (.ref 90), some (.int (nI a)), some (.int (nI (j + 1))), some (.int (nI (((a + 1) + 6) + (5 * j))))]) (S' := []) (σ' := lm_T (lm_wr (lm_wr (lm_wr (lm_wr (lm_wr M2 90 (((a + 1) + 6) + (5 * j)) (M 82 j)) 90 ((((a + 1) + 6) + (5 * j)) + 1) (M 83 j)) 90 ((((a + 1) + 6) + (5 * j)) + 2) (M 84 j)) 90 ((((a + 1) + 6) + (5 * j)) + 3) (M 85 j)) 90 ((((a + 1) + 6) + (5 * j)) + 4) (M 86 j)) v G) rfl trivial ?_
      refine lm_G_jk (L := [some (.ref 64), some (.ref 90), some (.int (nI a)), some (.int (nI (j + 1))), none]) ⟨rfl, rfl, rfl, rfl, trivial⟩ ?_
      exact ih2 _ (⟨by rw [wr_at (by omega), wr_at (by omega), wr_at (by omega), wr_at (by omega), wr_at (by omega)]; exact k1, fun t ht => by rw [wr_at (by omega), wr_at (by omega), wr_at (by omega), wr_at (by omega), wr_at (by omega)]; exact k2 t ht, fun q hq => if e : q = j then (by subst e; exact ⟨by rw [wr_at (by omega), wr_at (by omega), wr_at (by omega), wr_at (by omega), wr_same], by rw [wr_at (by omega), wr_at (by omega), wr_at (by omega), wr_same], by rw [wr_at (by omega), wr_at (by omega), wr_same], by rw [wr_at (by omega), wr_same], by rw [wr_same]⟩) else (by obtain ⟨a1, a2, a3, a4, a5⟩ := k3 q (by omega); exact ⟨by rw [wr_at (by omega), wr_at (by omega), wr_at (by omega), wr_at (by omega), wr_at (by omega)]; exact a1, by rw [wr_at (by omega), wr_at (by omega), wr_at (by omega), wr_at (by omega), wr_at (by omega)]; exact a2, by rw [wr_at (by omega), wr_at (by omega), wr_at (by omega), wr_at (by omega), wr_at (by omega)]; exact a3, by rw [wr_at (by omega), wr_at (by omega), wr_at (by omega), wr_at (by omega), wr_at (by omega)]; exact a4, by rw [wr_at (by omega), wr_at (by omega), wr_at (by omega), wr_at (by omega), wr_at (by omega)]; exact a5⟩), fun i hi => by rw [wr_at (by omega), wr_at (by omega), wr_at (by omega), wr_at (by omega), wr_at (by omega)]; exact k4 i hi, Fr_wr (Fr_wr (Fr_wr (Fr_wr (Fr_wr k5 rfl) rfl) rfl) rfl) rfl⟩)
    ·
      revert hI2
      revert zz
      intro M2 hI2
      replace hI2 : M2 90 a = M 64 36 ∧ (∀ t, t < 6 → M2 90 (a + 1 + t) = M 81 t) ∧ (∀ q, q < 8 → M2 90 (a + 1 + 6 + 5 * q) = M 82 q ∧ M2 90 (a + 1 + 6 + 5 * q + 1) = M 83 q ∧ M2 90 (a + 1 + 6 + 5 * q + 2) = M 84 q ∧ M2 90 (a + 1 + 6 + 5 * q + 3) = M 85 q ∧ M2 90 (a + 1 + 6 + 5 * q + 4) = M 86 q) ∧ (∀ i, i < a ∨ a + 47 ≤ i → M2 90 i = M 90 i) ∧ Fr (frO 90) M M2 := hI2
      show lm_G X d 177 106 0 0 36 [some (.ref 64), some (.ref 90), some (.int (nI a)), some (.int (nI 8)), none] [] (lm_T M2 v G) Q
      obtain ⟨k1, k2, k3, k4, k5⟩ := hI2
      refine lm_G_sg 2 (pc' := 39) (L' := [some (.ref 64), some (.ref 90), some (.int (nI a)), some (.int (nI 8)), none]) (S' := [.int 8, .int (nI 8)]) (σ' := lm_T M2 v G) rfl trivial ?_
      refine lm_G_br (b := 8 ≤ (nI 8)) (t := 118) (S' := []) rfl (fun hc => ?_) (fun hc => absurd (nI_le (a := 8) (Nat.le_refl _) (by omega)) hc)
      exact lm_G_re rfl trivial (Nat.zero_le _) (Nat.zero_le _) (hQ _ ⟨k1.trans h.hr, fun t ht => (k2 t (by omega)).trans (h.ow t ht), fun p hp => by
              obtain ⟨a1, a2, a3, a4, a5⟩ := k3 p (by omega)
              exact ⟨a1.trans (h.hu p hp), a2.trans (h.hd p hp), a3.trans (h.id p hp), a4.trans (h.pl p hp), a5.trans (h.co p hp)⟩⟩ k4 k5)
    ·
      try dsimp only
      exact ⟨i1, i2, fun q hq => by omega, i3, i4⟩
  ·
    try dsimp only
    exact ⟨wr_same, fun t ht => by omega, fun i hi => wr_at (by omega), Fr_wr (Fr_rf _ _) rfl⟩
set_option maxRecDepth 10000 in
theorem m_unpack90 {X : lm_X} {d v : Nat} {M : Nat → Nat → Int32} {G : Nat → Nat → Int64} {Q : lm_O → lm_S → Prop} {F : Fa} {s : Sc} {a : Nat} (hF : okF F) (hk : KM M F) (hb : Ag (fN F) (M 79) (sBr s)) (hv : SavM (M 90) a F s) (ha : a + 47 ≤ 47) (hQ : ∀ M1, RM M1 F s → FrU M M1 → Q (.inl none) (lm_T M1 v G)) : lm_Q X d 178 [.ref 64, .ref 90, .int (nI a)] (lm_T M v G) Q := by
  have hn := hF.n
  have hm := hF.m
  show lm_G X d 178 106 0 0 0 [some (.ref 64), some (.ref 90), some (.int (nI a)), none, none] [] (lm_T M v G) Q
  refine lm_G_sg 4 (pc' := 4) (L' := [some (.ref 64), some (.ref 90), some (.int (nI a)), none, none]) (S' := [.int (M 90 (nI a).toNatClampNeg), .ref 64]) (σ' := lm_T M v G) rfl ⟨(vp_in_nI (by omega) (by omega)), trivial, trivial⟩ ?_
  rw [show (nI a).toNatClampNeg = a from nI_clamp (by omega)]
  refine lm_G_sg 3 (pc' := 9) (L' := [some (.ref 64), some (.ref 90), some (.int (nI a)), some (.int 0), none]) (S' := []) (σ' := lm_T (lm_wr M 64 36 (M 90 a)) v G) rfl ⟨trivial, trivial, trivial⟩ ?_
  refine lm_ind (α := (Nat → Fn)) (St := fun (j : Nat) zz => (fun (M1 : Nat → Fn) => lm_G X d 178 106 0 0 9 [some (.ref 64), some (.ref 90), some (.int (nI a)), some (.int (nI j)), none] [] (lm_T M1 v G) Q) zz) (Inv := fun (j : Nat) zz => (fun (M1 : Nat → Fn) => Ag j (M1 81) (fun t => M 90 (a + 1 + t)) ∧ M1 64 36 = M 90 a ∧ FrU M M1) zz) (6) (fun j zz hj hI ih => ?_) (fun zz hI => ?_) (0) (lm_wr M 64 36 (M 90 a)) (by omega) ?_
  ·
    revert ih hI
    revert zz
    intro M1 hI ih
    replace hI : Ag j (M1 81) (fun t => M 90 (a + 1 + t)) ∧ M1 64 36 = M 90 a ∧ FrU M M1 := hI
    replace ih : ∀ (M1 : Nat → Fn) (_ : Ag (j + 1) (M1 81) (fun t => M 90 (a + 1 + t)) ∧ M1 64 36 = M 90 a ∧ FrU M M1), lm_G X d 178 106 0 0 9 [some (.ref 64), some (.ref 90), some (.int (nI a)), some (.int (nI (j + 1))), none] [] (lm_T M1 v G) Q := fun M1 q => ih M1 q
    show lm_G X d 178 106 0 0 9 [some (.ref 64), some (.ref 90), some (.int (nI a)), some (.int (nI j)), none] [] (lm_T M1 v G) Q
    obtain ⟨i1, i2, i3⟩ := hI
    refine lm_G_sg 2 (pc' := 12) (L' := [some (.ref 64), some (.ref 90), some (.int (nI a)), some (.int (nI j)), none]) (S' := [.int 6, .int (nI j)]) (σ' := lm_T M1 v G) rfl trivial ?_
    refine lm_G_br (b := 6 ≤ (nI j)) (t := 34) (S' := []) rfl (fun hc => absurd hc (nI_ge (b := 6) hj (by omega))) (fun hc => ?_)
    refine lm_G_sg 7 (pc' := 24) (L' := [some (.ref 64), some (.ref 90), some (.int (nI a)), some (.int (nI j)), none]) (S' := [.int ((nI a) + 1), .ref 90, .int (nI j), .ref 81]) (σ' := lm_T M1 v G) rfl trivial ?_
    rw [show (nI a) + 1 = nI (a + 1) from nI_add a 1]
    refine lm_G_sg 2 (pc' := 26) (L' := [some (.ref 64), some (.ref 90), some (.int (nI a)), some (.int (nI j)), none]) (S' := [.int ((nI (a + 1)) + (nI j)), .ref 90, .int (nI j), .ref 81]) (σ' := lm_T M1 v G) rfl trivial ?_
    rw [show (nI (a + 1)) + (nI j) = nI ((a + 1) + j) from nI_add (a + 1) j]
    refine lm_G_sg 1 (pc' := 27) (L' := [some (.ref 64), some (.ref 90), some (.int (nI a)), some (.int (nI j)), none]) (S' := [.int (M1 90 (nI ((a + 1) + j)).toNatClampNeg), .int (nI j), .ref 81]) (σ' := lm_T M1 v G) rfl ⟨(vp_in_nI (by omega) (by omega)), trivial, trivial⟩ ?_
    rw [show (nI ((a + 1) + j)).toNatClampNeg = ((a + 1) + j) from nI_clamp (by omega)]
    rw [show M1 90 ((a + 1) + j) = M 90 ((a + 1) + j) from congrFun (i3.1 90 rfl) ((a + 1) + j)]
    refine lm_G_sg 1 (pc' := 28) (L' := [some (.ref 64), some (.ref 90), some (.int (nI a)), some (.int (nI j)), none]) (S' := []) (σ' := lm_T (lm_wr M1 81 ((nI j).toNatClampNeg) (M 90 ((a + 1) + j))) v G) rfl ⟨(vp_in_nI (by omega) (by omega)), trivial, trivial⟩ ?_
    rw [show (nI j).toNatClampNeg = j from nI_clamp (by omega)]
    refine lm_G_sg 1 (pc' := 31) (L' := [some (.ref 64), some (.ref 90), some (.int (nI a)), some (.int ((nI j) + 1)), none]) (S' := []) (σ' := lm_T (lm_wr M1 81 j (M 90 ((a + 1) + j))) v G) rfl trivial ?_
    rw [nI_1]
    refine lm_G_sg 1 (pc' := 9) (L' := [some (.ref 64), some (.ref 90), some (.int (nI a)), some (.int (nI (j + 1))), none]) (S' := []) (σ' := lm_T (lm_wr M1 81 j (M 90 ((a + 1) + j))) v G) rfl trivial ?_
    exact ih _ (⟨Ag_nx i1 rfl, i2, Fr_wr i3.1 rfl, i3.2⟩)
  ·
    revert hI
    revert zz
    intro M1 hI
    replace hI : Ag 6 (M1 81) (fun t => M 90 (a + 1 + t)) ∧ M1 64 36 = M 90 a ∧ FrU M M1 := hI
    show lm_G X d 178 106 0 0 9 [some (.ref 64), some (.ref 90), some (.int (nI a)), some (.int (nI 6)), none] [] (lm_T M1 v G) Q
    obtain ⟨i1, i2, i3⟩ := hI
    refine lm_G_sg 2 (pc' := 12) (L' := [some (.ref 64), some (.ref 90), some (.int (nI a)), some (.int (nI 6)), none]) (S' := [.int 6, .int (nI 6)]) (σ' := lm_T M1 v G) rfl trivial ?_
    refine lm_G_br (b := 6 ≤ (nI 6)) (t := 34) (S' := []) rfl (fun hc => ?_) (fun hc => absurd (nI_le (a := 6) (Nat.le_refl _) (by omega)) hc)
    refine lm_G_sg 2 (pc' := 36) (L' := [some (.ref 64), some (.ref 90), some (.int (nI a)), some (.int 0), none]) (S' := []) (σ' := lm_T M1 v G) rfl trivial ?_
    refine lm_ind (α := (Nat → Fn)) (St := fun (j : Nat) zz => (fun (M2 : Nat → Fn) => lm_G X d 178 106 0 0 36 [some (.ref 64), some (.ref 90), some (.int (nI a)), some (.int (nI j)), none] [] (lm_T M2 v G) Q) zz) (Inv := fun (j : Nat) zz => (fun (M2 : Nat → Fn) => Ag 6 (M2 81) (fun t => M 90 (a + 1 + t)) ∧ M2 64 36 = M 90 a ∧ FrU M M2 ∧ Ag j (M2 82) (fun q => M 90 (a + 1 + 6 + 5 * q)) ∧ Ag j (M2 83) (fun q => M 90 (a + 1 + 6 + 5 * q + 1)) ∧ Ag j (M2 84) (fun q => M 90 (a + 1 + 6 + 5 * q + 2)) ∧ Ag j (M2 85) (fun q => M 90 (a + 1 + 6 + 5 * q + 3)) ∧ Ag j (M2 86) (fun q => M 90 (a + 1 + 6 + 5 * q + 4))) zz) (8) (fun j zz hj2 hI2 ih2 => ?_) (fun zz hI2 => ?_) (0) M1 (by omega) ?_
    ·
      revert ih2 hI2
      revert zz
      intro M2 hI2 ih2
      replace hI2 : Ag 6 (M2 81) (fun t => M 90 (a + 1 + t)) ∧ M2 64 36 = M 90 a ∧ FrU M M2 ∧ Ag j (M2 82) (fun q => M 90 (a + 1 + 6 + 5 * q)) ∧ Ag j (M2 83) (fun q => M 90 (a + 1 + 6 + 5 * q + 1)) ∧ Ag j (M2 84) (fun q => M 90 (a + 1 + 6 + 5 * q + 2)) ∧ Ag j (M2 85) (fun q => M 90 (a + 1 + 6 + 5 * q + 3)) ∧ Ag j (M2 86) (fun q => M 90 (a + 1 + 6 + 5 * q + 4)) := hI2
      replace ih2 : ∀ (M2 : Nat → Fn) (_ : Ag 6 (M2 81) (fun t => M 90 (a + 1 + t)) ∧ M2 64 36 = M 90 a ∧ FrU M M2 ∧ Ag (j + 1) (M2 82) (fun q => M 90 (a + 1 + 6 + 5 * q)) ∧ Ag (j + 1) (M2 83) (fun q => M 90 (a + 1 + 6 + 5 * q + 1)) ∧ Ag (j + 1) (M2 84) (fun q => M 90 (a + 1 + 6 + 5 * q + 2)) ∧ Ag (j + 1) (M2 85) (fun q => M 90 (a + 1 + 6 + 5 * q + 3)) ∧ Ag (j + 1) (M2 86) (fun q => M 90 (a + 1 + 6 + 5 * q + 4))), lm_G X d 178 106 0 0 36 [some (.ref 64), some (.ref 90), some (.int (nI a)), some (.int (nI (j + 1))), none] [] (lm_T M2 v G) Q := fun M2 q => ih2 M2 q
      show lm_G X d 178 106 0 0 36 [some (.ref 64), some (.ref 90), some (.int (nI a)), some (.int (nI j)), none] [] (lm_T M2 v G) Q
      obtain ⟨k1, k2, k3, g1, g2, g3, g4, g5⟩ := hI2
      refine lm_G_sg 2 (pc' := 39) (L' := [some (.ref 64), some (.ref 90), some (.int (nI a)), some (.int (nI j)), none]) (S' := [.int 8, .int (nI j)]) (σ' := lm_T M2 v G) rfl trivial ?_
      refine lm_G_br (b := 8 ≤ (nI j)) (t := 118) (S' := []) rfl (fun hc => absurd hc (nI_ge (b := 8) hj2 (by omega))) (fun hc => ?_)
      refine lm_G_sg 3 (pc' := 45) (L' := [some (.ref 64), some (.ref 90), some (.int (nI a)), some (.int (nI j)), none]) (S' := [.int ((nI a) + 1)]) (σ' := lm_T M2 v G) rfl trivial ?_
      rw [show (nI a) + 1 = nI (a + 1) from nI_add a 1]
      refine lm_G_sg 2 (pc' := 48) (L' := [some (.ref 64), some (.ref 90), some (.int (nI a)), some (.int (nI j)), none]) (S' := [.int ((nI (a + 1)) + 6)]) (σ' := lm_T M2 v G) rfl trivial ?_
      rw [show (nI (a + 1)) + 6 = nI ((a + 1) + 6) from nI_add (a + 1) 6]
      refine lm_G_sg 3 (pc' := 51) (L' := [some (.ref 64), some (.ref 90), some (.int (nI a)), some (.int (nI j)), none]) (S' := [.int (5 * (nI j)), .int (nI ((a + 1) + 6))]) (σ' := lm_T M2 v G) rfl trivial ?_
      rw [show 5 * (nI j) = nI (5 * j) from pk_mul 5 j]
      refine lm_G_sg 1 (pc' := 52) (L' := [some (.ref 64), some (.ref 90), some (.int (nI a)), some (.int (nI j)), none]) (S' := [.int ((nI ((a + 1) + 6)) + (nI (5 * j)))]) (σ' := lm_T M2 v G) rfl trivial ?_
      rw [show (nI ((a + 1) + 6)) + (nI (5 * j)) = nI (((a + 1) + 6) + (5 * j)) from nI_add ((a + 1) + 6) (5 * j)]
      refine lm_G_sg 7 (pc' := 63) (L' := [some (.ref 64), some (.ref 90), some (.int (nI a)), some (.int (nI j)), some (.int (nI (((a + 1) + 6) + (5 * j))))]) (S' := [.int (M2 90 (nI (((a + 1) + 6) + (5 * j))).toNatClampNeg), .int (nI j), .ref 82]) (σ' := lm_T M2 v G) rfl ⟨(vp_in_nI (by omega) (by omega)), trivial, trivial⟩ ?_
      rw [show (nI (((a + 1) + 6) + (5 * j))).toNatClampNeg = (((a + 1) + 6) + (5 * j)) from nI_clamp (by omega)]
      rw [show M2 90 (((a + 1) + 6) + (5 * j)) = M 90 (((a + 1) + 6) + (5 * j)) from congrFun (k3.1 90 rfl) (((a + 1) + 6) + (5 * j))]
      refine lm_G_sg 1 (pc' := 64) (L' := [some (.ref 64), some (.ref 90), some (.int (nI a)), some (.int (nI j)), some (.int (nI (((a + 1) + 6) + (5 * j))))]) (S' := []) (σ' := lm_T (lm_wr M2 82 ((nI j).toNatClampNeg) (M 90 (((a + 1) + 6) + (5 * j)))) v G) rfl ⟨(vp_in_nI (by omega) (by omega)), trivial, trivial⟩ ?_
      rw [show (nI j).toNatClampNeg = j from nI_clamp (by omega)]
      refine lm_G_sg 7 (pc' := 74) (L' := [some (.ref 64), some (.ref 90), some (.int (nI a)), some (.int (nI j)), some (.int (nI (((a + 1) + 6) + (5 * j))))]) (S' := [.int ((nI (((a + 1) + 6) + (5 * j))) + 1), .ref 90, .int (nI j), .ref 83]) (σ' := lm_T (lm_wr M2 82 j (M 90 (((a + 1) + 6) + (5 * j)))) v G) rfl trivial ?_
      rw [show (nI (((a + 1) + 6) + (5 * j))) + 1 = nI ((((a + 1) + 6) + (5 * j)) + 1) from nI_add (((a + 1) + 6) + (5 * j)) 1]
      refine lm_G_sg 1 (pc' := 75) (L' := [some (.ref 64), some (.ref 90), some (.int (nI a)), some (.int (nI j)), some (.int (nI (((a + 1) + 6) + (5 * j))))]) (S' := [.int ((lm_wr M2 82 j (M 90 (((a + 1) + 6) + (5 * j)))) 90 (nI ((((a + 1) + 6) + (5 * j)) + 1)).toNatClampNeg), .int (nI j), .ref 83]) (σ' := lm_T (lm_wr M2 82 j (M 90 (((a + 1) + 6) + (5 * j)))) v G) rfl ⟨(vp_in_nI (by omega) (by omega)), trivial, trivial⟩ ?_
      rw [show (nI ((((a + 1) + 6) + (5 * j)) + 1)).toNatClampNeg = ((((a + 1) + 6) + (5 * j)) + 1) from nI_clamp (by omega)]
      show lm_G X d 178 106 0 0 75 [some (.ref 64), some (.ref 90), some (.int (nI a)), some (.int (nI j)), some (.int (nI (((a + 1) + 6) + (5 * j))))] [.int (M2 90 ((((a + 1) + 6) + (5 * j)) + 1)), .int (nI j), .ref 83] (lm_T (lm_wr M2 82 j (M 90 (((a + 1) + 6) + (5 * j)))) v G) Q
      rw [show M2 90 ((((a + 1) + 6) + (5 * j)) + 1) = M 90 ((((a + 1) + 6) + (5 * j)) + 1) from congrFun (k3.1 90 rfl) ((((a + 1) + 6) + (5 * j)) + 1)]
      refine lm_G_sg 1 (pc' := 76) (L' := [some (.ref 64), some (.ref 90), some (.int (nI a)), some (.int (nI j)), some (.int (nI (((a + 1) + 6) + (5 * j))))]) (S' := []) (σ' := lm_T (lm_wr (lm_wr M2 82 j (M 90 (((a + 1) + 6) + (5 * j)))) 83 ((nI j).toNatClampNeg) (M 90 ((((a + 1) + 6) + (5 * j)) + 1))) v G) rfl ⟨(vp_in_nI (by omega) (by omega)), trivial, trivial⟩ ?_
      rw [show (nI j).toNatClampNeg = j from nI_clamp (by omega)]
      refine lm_G_sg 7 (pc' := 86) (L' := [some (.ref 64), some (.ref 90), some (.int (nI a)), some (.int (nI j)), some (.int (nI (((a + 1) + 6) + (5 * j))))]) (S' := [.int ((nI (((a + 1) + 6) + (5 * j))) + 2), .ref 90, .int (nI j), .ref 84]) (σ' := lm_T (lm_wr (lm_wr M2 82 j (M 90 (((a + 1) + 6) + (5 * j)))) 83 j (M 90 ((((a + 1) + 6) + (5 * j)) + 1))) v G) rfl trivial ?_
      rw [show (nI (((a + 1) + 6) + (5 * j))) + 2 = nI ((((a + 1) + 6) + (5 * j)) + 2) from nI_add (((a + 1) + 6) + (5 * j)) 2]
      refine lm_G_sg 1 (pc' := 87) (L' := [some (.ref 64), some (.ref 90), some (.int (nI a)), some (.int (nI j)), some (.int (nI (((a + 1) + 6) + (5 * j))))]) (S' := [.int ((lm_wr (lm_wr M2 82 j (M 90 (((a + 1) + 6) + (5 * j)))) 83 j (M 90 ((((a + 1) + 6) + (5 * j)) + 1))) 90 (nI ((((a + 1) + 6) + (5 * j)) + 2)).toNatClampNeg), .int (nI j), .ref 84]) (σ' := lm_T (lm_wr (lm_wr M2 82 j (M 90 (((a + 1) + 6) + (5 * j)))) 83 j (M 90 ((((a + 1) + 6) + (5 * j)) + 1))) v G) rfl ⟨(vp_in_nI (by omega) (by omega)), trivial, trivial⟩ ?_
      rw [show (nI ((((a + 1) + 6) + (5 * j)) + 2)).toNatClampNeg = ((((a + 1) + 6) + (5 * j)) + 2) from nI_clamp (by omega)]
      show lm_G X d 178 106 0 0 87 [some (.ref 64), some (.ref 90), some (.int (nI a)), some (.int (nI j)), some (.int (nI (((a + 1) + 6) + (5 * j))))] [.int (M2 90 ((((a + 1) + 6) + (5 * j)) + 2)), .int (nI j), .ref 84] (lm_T (lm_wr (lm_wr M2 82 j (M 90 (((a + 1) + 6) + (5 * j)))) 83 j (M 90 ((((a + 1) + 6) + (5 * j)) + 1))) v G) Q
      rw [show M2 90 ((((a + 1) + 6) + (5 * j)) + 2) = M 90 ((((a + 1) + 6) + (5 * j)) + 2) from congrFun (k3.1 90 rfl) ((((a + 1) + 6) + (5 * j)) + 2)]
      refine lm_G_sg 1 (pc' := 88) (L' := [some (.ref 64), some (.ref 90), some (.int (nI a)), some (.int (nI j)), some (.int (nI (((a + 1) + 6) + (5 * j))))]) (S' := []) (σ' := lm_T (lm_wr (lm_wr (lm_wr M2 82 j (M 90 (((a + 1) + 6) + (5 * j)))) 83 j (M 90 ((((a + 1) + 6) + (5 * j)) + 1))) 84 ((nI j).toNatClampNeg) (M 90 ((((a + 1) + 6) + (5 * j)) + 2))) v G) rfl ⟨(vp_in_nI (by omega) (by omega)), trivial, trivial⟩ ?_
      rw [show (nI j).toNatClampNeg = j from nI_clamp (by omega)]
      refine lm_G_sg 7 (pc' := 98) (L' := [some (.ref 64), some (.ref 90), some (.int (nI a)), some (.int (nI j)), some (.int (nI (((a + 1) + 6) + (5 * j))))]) (S' := [.int ((nI (((a + 1) + 6) + (5 * j))) + 3), .ref 90, .int (nI j), .ref 85]) (σ' := lm_T (lm_wr (lm_wr (lm_wr M2 82 j (M 90 (((a + 1) + 6) + (5 * j)))) 83 j (M 90 ((((a + 1) + 6) + (5 * j)) + 1))) 84 j (M 90 ((((a + 1) + 6) + (5 * j)) + 2))) v G) rfl trivial ?_
      rw [show (nI (((a + 1) + 6) + (5 * j))) + 3 = nI ((((a + 1) + 6) + (5 * j)) + 3) from nI_add (((a + 1) + 6) + (5 * j)) 3]
      refine lm_G_sg 1 (pc' := 99) (L' := [some (.ref 64), some (.ref 90), some (.int (nI a)), some (.int (nI j)), some (.int (nI (((a + 1) + 6) + (5 * j))))]) (S' := [.int ((lm_wr (lm_wr (lm_wr M2 82 j (M 90 (((a + 1) + 6) + (5 * j)))) 83 j (M 90 ((((a + 1) + 6) + (5 * j)) + 1))) 84 j (M 90 ((((a + 1) + 6) + (5 * j)) + 2))) 90 (nI ((((a + 1) + 6) + (5 * j)) + 3)).toNatClampNeg), .int (nI j), .ref 85]) (σ' := lm_T (lm_wr (lm_wr (lm_wr M2 82 j (M 90 (((a + 1) + 6) + (5 * j)))) 83 j (M 90 ((((a + 1) + 6) + (5 * j)) + 1))) 84 j (M 90 ((((a + 1) + 6) + (5 * j)) + 2))) v G) rfl ⟨(vp_in_nI (by omega) (by omega)), trivial, trivial⟩ ?_
      rw [show (nI ((((a + 1) + 6) + (5 * j)) + 3)).toNatClampNeg = ((((a + 1) + 6) + (5 * j)) + 3) from nI_clamp (by omega)]
      show lm_G X d 178 106 0 0 99 [some (.ref 64), some (.ref 90), some (.int (nI a)), some (.int (nI j)), some (.int (nI (((a + 1) + 6) + (5 * j))))] [.int (M2 90 ((((a + 1) + 6) + (5 * j)) + 3)), .int (nI j), .ref 85] (lm_T (lm_wr (lm_wr (lm_wr M2 82 j (M 90 (((a + 1) + 6) + (5 * j)))) 83 j (M 90 ((((a + 1) + 6) + (5 * j)) + 1))) 84 j (M 90 ((((a + 1) + 6) + (5 * j)) + 2))) v G) Q
      rw [show M2 90 ((((a + 1) + 6) + (5 * j)) + 3) = M 90 ((((a + 1) + 6) + (5 * j)) + 3) from congrFun (k3.1 90 rfl) ((((a + 1) + 6) + (5 * j)) + 3)]
      refine lm_G_sg 1 (pc' := 100) (L' := [some (.ref 64), some (.ref 90), some (.int (nI a)), some (.int (nI j)), some (.int (nI (((a + 1) + 6) + (5 * j))))]) (S' := []) (σ' := lm_T (lm_wr (lm_wr (lm_wr (lm_wr M2 82 j (M 90 (((a + 1) + 6) + (5 * j)))) 83 j (M 90 ((((a + 1) + 6) + (5 * j)) + 1))) 84 j (M 90 ((((a + 1) + 6) + (5 * j)) + 2))) 85 ((nI j).toNatClampNeg) (M 90 ((((a + 1) + 6) + (5 * j)) + 3))) v G) rfl ⟨(vp_in_nI (by omega) (by omega)), trivial, trivial⟩ ?_
      rw [show (nI j).toNatClampNeg = j from nI_clamp (by omega)]
      refine lm_G_sg 7 (pc' := 110) (L' := [some (.ref 64), some (.ref 90), some (.int (nI a)), some (.int (nI j)), some (.int (nI (((a + 1) + 6) + (5 * j))))]) (S' := [.int ((nI (((a + 1) + 6) + (5 * j))) + 4), .ref 90, .int (nI j), .ref 86]) (σ' := lm_T (lm_wr (lm_wr (lm_wr (lm_wr M2 82 j (M 90 (((a + 1) + 6) + (5 * j)))) 83 j (M 90 ((((a + 1) + 6) + (5 * j)) + 1))) 84 j (M 90 ((((a + 1) + 6) + (5 * j)) + 2))) 85 j (M 90 ((((a + 1) + 6) + (5 * j)) + 3))) v G) rfl trivial ?_
      rw [show (nI (((a + 1) + 6) + (5 * j))) + 4 = nI ((((a + 1) + 6) + (5 * j)) + 4) from nI_add (((a + 1) + 6) + (5 * j)) 4]
      refine lm_G_sg 1 (pc' := 111) (L' := [some (.ref 64), some (.ref 90), some (.int (nI a)), some (.int (nI j)), some (.int (nI (((a + 1) + 6) + (5 * j))))]) (S' := [.int ((lm_wr (lm_wr (lm_wr (lm_wr M2 82 j (M 90 (((a + 1) + 6) + (5 * j)))) 83 j (M 90 ((((a + 1) + 6) + (5 * j)) + 1))) 84 j (M 90 ((((a + 1) + 6) + (5 * j)) + 2))) 85 j (M 90 ((((a + 1) + 6) + (5 * j)) + 3))) 90 (nI ((((a + 1) + 6) + (5 * j)) + 4)).toNatClampNeg), .int (nI j), .ref 86]) (σ' := lm_T (lm_wr (lm_wr (lm_wr (lm_wr M2 82 j (M 90 (((a + 1) + 6) + (5 * j)))) 83 j (M 90 ((((a + 1) + 6) + (5 * j)) + 1))) 84 j (M 90 ((((a + 1) + 6) + (5 * j)) + 2))) 85 j (M 90 ((((a + 1) + 6) + (5 * j)) + 3))) v G) rfl ⟨(vp_in_nI (by omega) (by omega)), trivial, trivial⟩ ?_
      rw [show (nI ((((a + 1) + 6) + (5 * j)) + 4)).toNatClampNeg = ((((a + 1) + 6) + (5 * j)) + 4) from nI_clamp (by omega)]
      show lm_G X d 178 106 0 0 111 [some (.ref 64), some (.ref 90), some (.int (nI a)), some (.int (nI j)), some (.int (nI (((a + 1) + 6) + (5 * j))))] [.int (M2 90 ((((a + 1) + 6) + (5 * j)) + 4)), .int (nI j), .ref 86] (lm_T (lm_wr (lm_wr (lm_wr (lm_wr M2 82 j (M 90 (((a + 1) + 6) + (5 * j)))) 83 j (M 90 ((((a + 1) + 6) + (5 * j)) + 1))) 84 j (M 90 ((((a + 1) + 6) + (5 * j)) + 2))) 85 j (M 90 ((((a + 1) + 6) + (5 * j)) + 3))) v G) Q
      rw [show M2 90 ((((a + 1) + 6) + (5 * j)) + 4) = M 90 ((((a + 1) + 6) + (5 * j)) + 4) from congrFun (k3.1 90 rfl) ((((a + 1) + 6) + (5 * j)) + 4)]
      refine lm_G_sg 1 (pc' := 112) (L' := [some (.ref 64), some (.ref 90), some (.int (nI a)), some (.int (nI j)), some (.int (nI (((a + 1) + 6) + (5 * j))))]) (S' := []) (σ' := lm_T (lm_wr (lm_wr (lm_wr (lm_wr (lm_wr M2 82 j (M 90 (((a + 1) + 6) + (5 * j)))) 83 j (M 90 ((((a + 1) + 6) + (5 * j)) + 1))) 84 j (M 90 ((((a + 1) + 6) + (5 * j)) + 2))) 85 j (M 90 ((((a + 1) + 6) + (5 * j)) + 3))) 86 ((nI j).toNatClampNeg) (M 90 ((((a + 1) + 6) + (5 * j)) + 4))) v G) rfl ⟨(vp_in_nI (by omega) (by omega)), trivial, trivial⟩ ?_
      rw [show (nI j).toNatClampNeg = j from nI_clamp (by omega)]
      refine lm_G_sg 1 (pc' := 115) (L' := [some (.ref 64), some (.ref 90), some (.int (nI a)), some (.int ((nI j) + 1)), some (.int (nI (((a + 1) + 6) + (5 * j))))]) (S' := []) (σ' := lm_T (lm_wr (lm_wr (lm_wr (lm_wr (lm_wr M2 82 j (M 90 (((a + 1) + 6) + (5 * j)))) 83 j (M 90 ((((a + 1) + 6) + (5 * j)) + 1))) 84 j (M 90 ((((a + 1) + 6) + (5 * j)) + 2))) 85 j (M 90 ((((a + 1) + 6) + (5 * j)) + 3))) 86 j (M 90 ((((a + 1) + 6) + (5 * j)) + 4))) v G) rfl trivial ?_
      rw [nI_1]
      refine lm_G_sg 1 (pc' := 36) (L' := [some (.ref 64), some (.ref 90), some (.int (nI a)), some (.int (nI (j + 1))), some (.int (nI (((a + 1) + 6) + (5 * j))))]) (S' := []) (σ' := lm_T (lm_wr (lm_wr (lm_wr (lm_wr (lm_wr M2 82 j (M 90 (((a + 1) + 6) + (5 * j)))) 83 j (M 90 ((((a + 1) + 6) + (5 * j)) + 1))) 84 j (M 90 ((((a + 1) + 6) + (5 * j)) + 2))) 85 j (M 90 ((((a + 1) + 6) + (5 * j)) + 3))) 86 j (M 90 ((((a + 1) + 6) + (5 * j)) + 4))) v G) rfl trivial ?_
      refine lm_G_jk (L := [some (.ref 64), some (.ref 90), some (.int (nI a)), some (.int (nI (j + 1))), none]) ⟨rfl, rfl, rfl, rfl, trivial⟩ ?_
      exact ih2 _ (⟨k1, k2, ⟨Fr_wr (Fr_wr (Fr_wr (Fr_wr (Fr_wr k3.1 rfl) rfl) rfl) rfl) rfl, k3.2⟩, Ag_nx g1 rfl, Ag_nx g2 rfl, Ag_nx g3 rfl, Ag_nx g4 rfl, Ag_nx g5 rfl⟩)
    ·
      revert hI2
      revert zz
      intro M2 hI2
      replace hI2 : Ag 6 (M2 81) (fun t => M 90 (a + 1 + t)) ∧ M2 64 36 = M 90 a ∧ FrU M M2 ∧ Ag 8 (M2 82) (fun q => M 90 (a + 1 + 6 + 5 * q)) ∧ Ag 8 (M2 83) (fun q => M 90 (a + 1 + 6 + 5 * q + 1)) ∧ Ag 8 (M2 84) (fun q => M 90 (a + 1 + 6 + 5 * q + 2)) ∧ Ag 8 (M2 85) (fun q => M 90 (a + 1 + 6 + 5 * q + 3)) ∧ Ag 8 (M2 86) (fun q => M 90 (a + 1 + 6 + 5 * q + 4)) := hI2
      show lm_G X d 178 106 0 0 36 [some (.ref 64), some (.ref 90), some (.int (nI a)), some (.int (nI 8)), none] [] (lm_T M2 v G) Q
      obtain ⟨k1, k2, k3, g1, g2, g3, g4, g5⟩ := hI2
      refine lm_G_sg 2 (pc' := 39) (L' := [some (.ref 64), some (.ref 90), some (.int (nI a)), some (.int (nI 8)), none]) (S' := [.int 8, .int (nI 8)]) (σ' := lm_T M2 v G) rfl trivial ?_
      refine lm_G_br (b := 8 ≤ (nI 8)) (t := 118) (S' := []) rfl (fun hc => ?_) (fun hc => absurd (nI_le (a := 8) (Nat.le_refl _) (by omega)) hc)
      have hR : RM M2 F s := by
        refine ⟨KM_of hk (k3.1 68 rfl) (k3.1 71 rfl) (k3.1 69 rfl) (k3.1 74 rfl) (k3.1 76 rfl) (k3.1 77 rfl), k2.trans hv.1, ?_, ?_, ?_, ?_, ?_, ?_, ?_⟩
        · rw [k3.1 79 rfl]; exact hb
        · exact fun p hp => (g4 p (by omega)).trans (hv.2.2 p hp).2.2.2.1
        · exact fun p hp => (g5 p (by omega)).trans (hv.2.2 p hp).2.2.2.2
        · exact fun p hp => (g1 p (by omega)).trans (hv.2.2 p hp).1
        · exact fun p hp => (g2 p (by omega)).trans (hv.2.2 p hp).2.1
        · exact fun p hp => (g3 p (by omega)).trans (hv.2.2 p hp).2.2.1
        · exact fun t ht => (k1 t (by omega)).trans (hv.2.1 t ht)
      exact lm_G_re rfl trivial (Nat.zero_le _) (Nat.zero_le _) (hQ _ hR k3)
    ·
      try dsimp only
      exact ⟨i1, i2, i3, fun q hq => by omega, fun q hq => by omega, fun q hq => by omega, fun q hq => by omega, fun q hq => by omega⟩
  ·
    try dsimp only
    exact ⟨fun t ht => by omega, wr_same, Fr_wr (Fr_rf _ _) rfl, fun k hk => wr_at hk⟩
set_option maxRecDepth 10000 in
theorem m_pack95 {X : lm_X} {d v : Nat} {M : Nat → Nat → Int32} {G : Nat → Nat → Int64} {Q : lm_O → lm_S → Prop} {F : Fa} {s : Sc} {a : Nat} (hF : okF F) (h : RM M F s) (ha : a + 47 ≤ 47) (hQ : ∀ M1, SavM (M1 95) a F s → (∀ i, i < a ∨ a + 47 ≤ i → M1 95 i = M 95 i) → Fr (frO 95) M M1 → Q (.inl none) (lm_T M1 v G)) : lm_Q X d 177 [.ref 64, .ref 95, .int (nI a)] (lm_T M v G) Q := by
  have hn := hF.n
  have hm := hF.m
  show lm_G X d 177 106 0 0 0 [some (.ref 64), some (.ref 95), some (.int (nI a)), none, none] [] (lm_T M v G) Q
  refine lm_G_sg 5 (pc' := 7) (L' := [some (.ref 64), some (.ref 95), some (.int (nI a)), none, none]) (S' := []) (σ' := lm_T (lm_wr M 95 ((nI a).toNatClampNeg) (M 64 36)) v G) rfl ⟨(vp_in_nI (by omega) (by omega)), trivial, trivial⟩ ?_
  rw [show (nI a).toNatClampNeg = a from nI_clamp (by omega)]
  refine lm_G_sg 2 (pc' := 9) (L' := [some (.ref 64), some (.ref 95), some (.int (nI a)), some (.int 0), none]) (S' := []) (σ' := lm_T (lm_wr M 95 a (M 64 36)) v G) rfl trivial ?_
  refine lm_ind (α := (Nat → Fn)) (St := fun (j : Nat) zz => (fun (M1 : Nat → Fn) => lm_G X d 177 106 0 0 9 [some (.ref 64), some (.ref 95), some (.int (nI a)), some (.int (nI j)), none] [] (lm_T M1 v G) Q) zz) (Inv := fun (j : Nat) zz => (fun (M1 : Nat → Fn) => M1 95 a = M 64 36 ∧ (∀ t, t < j → M1 95 (a + 1 + t) = M 81 t) ∧ (∀ i, i < a ∨ a + 47 ≤ i → M1 95 i = M 95 i) ∧ Fr (frO 95) M M1) zz) (6) (fun j zz hj hI ih => ?_) (fun zz hI => ?_) (0) (lm_wr M 95 a (M 64 36)) (by omega) ?_
  ·
    revert ih hI
    revert zz
    intro M1 hI ih
    replace hI : M1 95 a = M 64 36 ∧ (∀ t, t < j → M1 95 (a + 1 + t) = M 81 t) ∧ (∀ i, i < a ∨ a + 47 ≤ i → M1 95 i = M 95 i) ∧ Fr (frO 95) M M1 := hI
    replace ih : ∀ (M1 : Nat → Fn) (_ : M1 95 a = M 64 36 ∧ (∀ t, t < (j + 1) → M1 95 (a + 1 + t) = M 81 t) ∧ (∀ i, i < a ∨ a + 47 ≤ i → M1 95 i = M 95 i) ∧ Fr (frO 95) M M1), lm_G X d 177 106 0 0 9 [some (.ref 64), some (.ref 95), some (.int (nI a)), some (.int (nI (j + 1))), none] [] (lm_T M1 v G) Q := fun M1 q => ih M1 q
    show lm_G X d 177 106 0 0 9 [some (.ref 64), some (.ref 95), some (.int (nI a)), some (.int (nI j)), none] [] (lm_T M1 v G) Q
    obtain ⟨i1, i2, i3, i4⟩ := hI
    refine lm_G_sg 2 (pc' := 12) (L' := [some (.ref 64), some (.ref 95), some (.int (nI a)), some (.int (nI j)), none]) (S' := [.int 6, .int (nI j)]) (σ' := lm_T M1 v G) rfl trivial ?_
    refine lm_G_br (b := 6 ≤ (nI j)) (t := 34) (S' := []) rfl (fun hc => absurd hc (nI_ge (b := 6) hj (by omega))) (fun hc => ?_)
    refine lm_G_sg 4 (pc' := 19) (L' := [some (.ref 64), some (.ref 95), some (.int (nI a)), some (.int (nI j)), none]) (S' := [.int ((nI a) + 1), .ref 95]) (σ' := lm_T M1 v G) rfl trivial ?_
    rw [show (nI a) + 1 = nI (a + 1) from nI_add a 1]
    refine lm_G_sg 2 (pc' := 21) (L' := [some (.ref 64), some (.ref 95), some (.int (nI a)), some (.int (nI j)), none]) (S' := [.int ((nI (a + 1)) + (nI j)), .ref 95]) (σ' := lm_T M1 v G) rfl trivial ?_
    rw [show (nI (a + 1)) + (nI j) = nI ((a + 1) + j) from nI_add (a + 1) j]
    refine lm_G_sg 4 (pc' := 27) (L' := [some (.ref 64), some (.ref 95), some (.int (nI a)), some (.int (nI j)), none]) (S' := [.int (M1 81 (nI j).toNatClampNeg), .int (nI ((a + 1) + j)), .ref 95]) (σ' := lm_T M1 v G) rfl ⟨(vp_in_nI (by omega) (by omega)), trivial, trivial⟩ ?_
    rw [show (nI j).toNatClampNeg = j from nI_clamp (by omega)]
    rw [show M1 81 j = M 81 j from congrFun (i4 81 rfl) j]
    refine lm_G_sg 1 (pc' := 28) (L' := [some (.ref 64), some (.ref 95), some (.int (nI a)), some (.int (nI j)), none]) (S' := []) (σ' := lm_T (lm_wr M1 95 ((nI ((a + 1) + j)).toNatClampNeg) (M 81 j)) v G) rfl ⟨(vp_in_nI (by omega) (by omega)), trivial, trivial⟩ ?_
    rw [show (nI ((a + 1) + j)).toNatClampNeg = ((a + 1) + j) from nI_clamp (by omega)]
    refine lm_G_sg 1 (pc' := 31) (L' := [some (.ref 64), some (.ref 95), some (.int (nI a)), some (.int ((nI j) + 1)), none]) (S' := []) (σ' := lm_T (lm_wr M1 95 ((a + 1) + j) (M 81 j)) v G) rfl trivial ?_
    rw [nI_1]
    refine lm_G_sg 1 (pc' := 9) (L' := [some (.ref 64), some (.ref 95), some (.int (nI a)), some (.int (nI (j + 1))), none]) (S' := []) (σ' := lm_T (lm_wr M1 95 ((a + 1) + j) (M 81 j)) v G) rfl trivial ?_
    exact ih _ (⟨by rw [wr_at (by omega)]; exact i1, fun t ht => if e : t = j then (by subst e; exact wr_same) else (by rw [wr_at (by omega)]; exact i2 t (by omega)), fun i hi => by rw [wr_at (by omega)]; exact i3 i hi, Fr_wr i4 rfl⟩)
  ·
    revert hI
    revert zz
    intro M1 hI
    replace hI : M1 95 a = M 64 36 ∧ (∀ t, t < 6 → M1 95 (a + 1 + t) = M 81 t) ∧ (∀ i, i < a ∨ a + 47 ≤ i → M1 95 i = M 95 i) ∧ Fr (frO 95) M M1 := hI
    show lm_G X d 177 106 0 0 9 [some (.ref 64), some (.ref 95), some (.int (nI a)), some (.int (nI 6)), none] [] (lm_T M1 v G) Q
    obtain ⟨i1, i2, i3, i4⟩ := hI
    refine lm_G_sg 2 (pc' := 12) (L' := [some (.ref 64), some (.ref 95), some (.int (nI a)), some (.int (nI 6)), none]) (S' := [.int 6, .int (nI 6)]) (σ' := lm_T M1 v G) rfl trivial ?_
    refine lm_G_br (b := 6 ≤ (nI 6)) (t := 34) (S' := []) rfl (fun hc => ?_) (fun hc => absurd (nI_le (a := 6) (Nat.le_refl _) (by omega)) hc)
    refine lm_G_sg 2 (pc' := 36) (L' := [some (.ref 64), some (.ref 95), some (.int (nI a)), some (.int 0), none]) (S' := []) (σ' := lm_T M1 v G) rfl trivial ?_
    refine lm_ind (α := (Nat → Fn)) (St := fun (j : Nat) zz => (fun (M2 : Nat → Fn) => lm_G X d 177 106 0 0 36 [some (.ref 64), some (.ref 95), some (.int (nI a)), some (.int (nI j)), none] [] (lm_T M2 v G) Q) zz) (Inv := fun (j : Nat) zz => (fun (M2 : Nat → Fn) => M2 95 a = M 64 36 ∧ (∀ t, t < 6 → M2 95 (a + 1 + t) = M 81 t) ∧ (∀ q, q < j → M2 95 (a + 1 + 6 + 5 * q) = M 82 q ∧ M2 95 (a + 1 + 6 + 5 * q + 1) = M 83 q ∧ M2 95 (a + 1 + 6 + 5 * q + 2) = M 84 q ∧ M2 95 (a + 1 + 6 + 5 * q + 3) = M 85 q ∧ M2 95 (a + 1 + 6 + 5 * q + 4) = M 86 q) ∧ (∀ i, i < a ∨ a + 47 ≤ i → M2 95 i = M 95 i) ∧ Fr (frO 95) M M2) zz) (8) (fun j zz hj2 hI2 ih2 => ?_) (fun zz hI2 => ?_) (0) M1 (by omega) ?_
    ·
      revert ih2 hI2
      revert zz
      intro M2 hI2 ih2
      replace hI2 : M2 95 a = M 64 36 ∧ (∀ t, t < 6 → M2 95 (a + 1 + t) = M 81 t) ∧ (∀ q, q < j → M2 95 (a + 1 + 6 + 5 * q) = M 82 q ∧ M2 95 (a + 1 + 6 + 5 * q + 1) = M 83 q ∧ M2 95 (a + 1 + 6 + 5 * q + 2) = M 84 q ∧ M2 95 (a + 1 + 6 + 5 * q + 3) = M 85 q ∧ M2 95 (a + 1 + 6 + 5 * q + 4) = M 86 q) ∧ (∀ i, i < a ∨ a + 47 ≤ i → M2 95 i = M 95 i) ∧ Fr (frO 95) M M2 := hI2
      replace ih2 : ∀ (M2 : Nat → Fn) (_ : M2 95 a = M 64 36 ∧ (∀ t, t < 6 → M2 95 (a + 1 + t) = M 81 t) ∧ (∀ q, q < (j + 1) → M2 95 (a + 1 + 6 + 5 * q) = M 82 q ∧ M2 95 (a + 1 + 6 + 5 * q + 1) = M 83 q ∧ M2 95 (a + 1 + 6 + 5 * q + 2) = M 84 q ∧ M2 95 (a + 1 + 6 + 5 * q + 3) = M 85 q ∧ M2 95 (a + 1 + 6 + 5 * q + 4) = M 86 q) ∧ (∀ i, i < a ∨ a + 47 ≤ i → M2 95 i = M 95 i) ∧ Fr (frO 95) M M2), lm_G X d 177 106 0 0 36 [some (.ref 64), some (.ref 95), some (.int (nI a)), some (.int (nI (j + 1))), none] [] (lm_T M2 v G) Q := fun M2 q => ih2 M2 q
      show lm_G X d 177 106 0 0 36 [some (.ref 64), some (.ref 95), some (.int (nI a)), some (.int (nI j)), none] [] (lm_T M2 v G) Q
      obtain ⟨k1, k2, k3, k4, k5⟩ := hI2
      refine lm_G_sg 2 (pc' := 39) (L' := [some (.ref 64), some (.ref 95), some (.int (nI a)), some (.int (nI j)), none]) (S' := [.int 8, .int (nI j)]) (σ' := lm_T M2 v G) rfl trivial ?_
      refine lm_G_br (b := 8 ≤ (nI j)) (t := 118) (S' := []) rfl (fun hc => absurd hc (nI_ge (b := 8) hj2 (by omega))) (fun hc => ?_)
      refine lm_G_sg 3 (pc' := 45) (L' := [some (.ref 64), some (.ref 95), some (.int (nI a)), some (.int (nI j)), none]) (S' := [.int ((nI a) + 1)]) (σ' := lm_T M2 v G) rfl trivial ?_
      rw [show (nI a) + 1 = nI (a + 1) from nI_add a 1]
      refine lm_G_sg 2 (pc' := 48) (L' := [some (.ref 64), some (.ref 95), some (.int (nI a)), some (.int (nI j)), none]) (S' := [.int ((nI (a + 1)) + 6)]) (σ' := lm_T M2 v G) rfl trivial ?_
      rw [show (nI (a + 1)) + 6 = nI ((a + 1) + 6) from nI_add (a + 1) 6]
      refine lm_G_sg 3 (pc' := 51) (L' := [some (.ref 64), some (.ref 95), some (.int (nI a)), some (.int (nI j)), none]) (S' := [.int (5 * (nI j)), .int (nI ((a + 1) + 6))]) (σ' := lm_T M2 v G) rfl trivial ?_
      rw [show 5 * (nI j) = nI (5 * j) from pk_mul 5 j]
      refine lm_G_sg 1 (pc' := 52) (L' := [some (.ref 64), some (.ref 95), some (.int (nI a)), some (.int (nI j)), none]) (S' := [.int ((nI ((a + 1) + 6)) + (nI (5 * j)))]) (σ' := lm_T M2 v G) rfl trivial ?_
      rw [show (nI ((a + 1) + 6)) + (nI (5 * j)) = nI (((a + 1) + 6) + (5 * j)) from nI_add ((a + 1) + 6) (5 * j)]
      refine lm_G_sg 7 (pc' := 63) (L' := [some (.ref 64), some (.ref 95), some (.int (nI a)), some (.int (nI j)), some (.int (nI (((a + 1) + 6) + (5 * j))))]) (S' := [.int (M2 82 (nI j).toNatClampNeg), .int (nI (((a + 1) + 6) + (5 * j))), .ref 95]) (σ' := lm_T M2 v G) rfl ⟨(vp_in_nI (by omega) (by omega)), trivial, trivial⟩ ?_
      rw [show (nI j).toNatClampNeg = j from nI_clamp (by omega)]
      rw [show M2 82 j = M 82 j from congrFun (k5 82 rfl) j]
      refine lm_G_sg 1 (pc' := 64) (L' := [some (.ref 64), some (.ref 95), some (.int (nI a)), some (.int (nI j)), some (.int (nI (((a + 1) + 6) + (5 * j))))]) (S' := []) (σ' := lm_T (lm_wr M2 95 ((nI (((a + 1) + 6) + (5 * j))).toNatClampNeg) (M 82 j)) v G) rfl ⟨(vp_in_nI (by omega) (by omega)), trivial, trivial⟩ ?_
      rw [show (nI (((a + 1) + 6) + (5 * j))).toNatClampNeg = (((a + 1) + 6) + (5 * j)) from nI_clamp (by omega)]
      refine lm_G_sg 4 (pc' := 69) (L' := [some (.ref 64), some (.ref 95), some (.int (nI a)), some (.int (nI j)), some (.int (nI (((a + 1) + 6) + (5 * j))))]) (S' := [.int ((nI (((a + 1) + 6) + (5 * j))) + 1), .ref 95]) (σ' := lm_T (lm_wr M2 95 (((a + 1) + 6) + (5 * j)) (M 82 j)) v G) rfl trivial ?_
      rw [show (nI (((a + 1) + 6) + (5 * j))) + 1 = nI ((((a + 1) + 6) + (5 * j)) + 1) from nI_add (((a + 1) + 6) + (5 * j)) 1]
      refine lm_G_sg 4 (pc' := 75) (L' := [some (.ref 64), some (.ref 95), some (.int (nI a)), some (.int (nI j)), some (.int (nI (((a + 1) + 6) + (5 * j))))]) (S' := [.int ((lm_wr M2 95 (((a + 1) + 6) + (5 * j)) (M 82 j)) 83 (nI j).toNatClampNeg), .int (nI ((((a + 1) + 6) + (5 * j)) + 1)), .ref 95]) (σ' := lm_T (lm_wr M2 95 (((a + 1) + 6) + (5 * j)) (M 82 j)) v G) rfl ⟨(vp_in_nI (by omega) (by omega)), trivial, trivial⟩ ?_
      rw [show (nI j).toNatClampNeg = j from nI_clamp (by omega)]
      show lm_G X d 177 106 0 0 75 [some (.ref 64), some (.ref 95), some (.int (nI a)), some (.int (nI j)), some (.int (nI (((a + 1) + 6) + (5 * j))))] [.int (M2 83 j), .int (nI ((((a + 1) + 6) + (5 * j)) + 1)), .ref 95] (lm_T (lm_wr M2 95 (((a + 1) + 6) + (5 * j)) (M 82 j)) v G) Q
      rw [show M2 83 j = M 83 j from congrFun (k5 83 rfl) j]
      refine lm_G_sg 1 (pc' := 76) (L' := [some (.ref 64), some (.ref 95), some (.int (nI a)), some (.int (nI j)), some (.int (nI (((a + 1) + 6) + (5 * j))))]) (S' := []) (σ' := lm_T (lm_wr (lm_wr M2 95 (((a + 1) + 6) + (5 * j)) (M 82 j)) 95 ((nI ((((a + 1) + 6) + (5 * j)) + 1)).toNatClampNeg) (M 83 j)) v G) rfl ⟨(vp_in_nI (by omega) (by omega)), trivial, trivial⟩ ?_
      rw [show (nI ((((a + 1) + 6) + (5 * j)) + 1)).toNatClampNeg = ((((a + 1) + 6) + (5 * j)) + 1) from nI_clamp (by omega)]
      refine lm_G_sg 4 (pc' := 81) (L' := [some (.ref 64), some (.ref 95), some (.int (nI a)), some (.int (nI j)), some (.int (nI (((a + 1) + 6) + (5 * j))))]) (S' := [.int ((nI (((a + 1) + 6) + (5 * j))) + 2), .ref 95]) (σ' := lm_T (lm_wr (lm_wr M2 95 (((a + 1) + 6) + (5 * j)) (M 82 j)) 95 ((((a + 1) + 6) + (5 * j)) + 1) (M 83 j)) v G) rfl trivial ?_
      rw [show (nI (((a + 1) + 6) + (5 * j))) + 2 = nI ((((a + 1) + 6) + (5 * j)) + 2) from nI_add (((a + 1) + 6) + (5 * j)) 2]
      refine lm_G_sg 4 (pc' := 87) (L' := [some (.ref 64), some (.ref 95), some (.int (nI a)), some (.int (nI j)), some (.int (nI (((a + 1) + 6) + (5 * j))))]) (S' := [.int ((lm_wr (lm_wr M2 95 (((a + 1) + 6) + (5 * j)) (M 82 j)) 95 ((((a + 1) + 6) + (5 * j)) + 1) (M 83 j)) 84 (nI j).toNatClampNeg), .int (nI ((((a + 1) + 6) + (5 * j)) + 2)), .ref 95]) (σ' := lm_T (lm_wr (lm_wr M2 95 (((a + 1) + 6) + (5 * j)) (M 82 j)) 95 ((((a + 1) + 6) + (5 * j)) + 1) (M 83 j)) v G) rfl ⟨(vp_in_nI (by omega) (by omega)), trivial, trivial⟩ ?_
      rw [show (nI j).toNatClampNeg = j from nI_clamp (by omega)]
      show lm_G X d 177 106 0 0 87 [some (.ref 64), some (.ref 95), some (.int (nI a)), some (.int (nI j)), some (.int (nI (((a + 1) + 6) + (5 * j))))] [.int (M2 84 j), .int (nI ((((a + 1) + 6) + (5 * j)) + 2)), .ref 95] (lm_T (lm_wr (lm_wr M2 95 (((a + 1) + 6) + (5 * j)) (M 82 j)) 95 ((((a + 1) + 6) + (5 * j)) + 1) (M 83 j)) v G) Q
      rw [show M2 84 j = M 84 j from congrFun (k5 84 rfl) j]
      refine lm_G_sg 1 (pc' := 88) (L' := [some (.ref 64), some (.ref 95), some (.int (nI a)), some (.int (nI j)), some (.int (nI (((a + 1) + 6) + (5 * j))))]) (S' := []) (σ' := lm_T (lm_wr (lm_wr (lm_wr M2 95 (((a + 1) + 6) + (5 * j)) (M 82 j)) 95 ((((a + 1) + 6) + (5 * j)) + 1) (M 83 j)) 95 ((nI ((((a + 1) + 6) + (5 * j)) + 2)).toNatClampNeg) (M 84 j)) v G) rfl ⟨(vp_in_nI (by omega) (by omega)), trivial, trivial⟩ ?_
      rw [show (nI ((((a + 1) + 6) + (5 * j)) + 2)).toNatClampNeg = ((((a + 1) + 6) + (5 * j)) + 2) from nI_clamp (by omega)]
      refine lm_G_sg 4 (pc' := 93) (L' := [some (.ref 64), some (.ref 95), some (.int (nI a)), some (.int (nI j)), some (.int (nI (((a + 1) + 6) + (5 * j))))]) (S' := [.int ((nI (((a + 1) + 6) + (5 * j))) + 3), .ref 95]) (σ' := lm_T (lm_wr (lm_wr (lm_wr M2 95 (((a + 1) + 6) + (5 * j)) (M 82 j)) 95 ((((a + 1) + 6) + (5 * j)) + 1) (M 83 j)) 95 ((((a + 1) + 6) + (5 * j)) + 2) (M 84 j)) v G) rfl trivial ?_
      rw [show (nI (((a + 1) + 6) + (5 * j))) + 3 = nI ((((a + 1) + 6) + (5 * j)) + 3) from nI_add (((a + 1) + 6) + (5 * j)) 3]
      refine lm_G_sg 4 (pc' := 99) (L' := [some (.ref 64), some (.ref 95), some (.int (nI a)), some (.int (nI j)), some (.int (nI (((a + 1) + 6) + (5 * j))))]) (S' := [.int ((lm_wr (lm_wr (lm_wr M2 95 (((a + 1) + 6) + (5 * j)) (M 82 j)) 95 ((((a + 1) + 6) + (5 * j)) + 1) (M 83 j)) 95 ((((a + 1) + 6) + (5 * j)) + 2) (M 84 j)) 85 (nI j).toNatClampNeg), .int (nI ((((a + 1) + 6) + (5 * j)) + 3)), .ref 95]) (σ' := lm_T (lm_wr (lm_wr (lm_wr M2 95 (((a + 1) + 6) + (5 * j)) (M 82 j)) 95 ((((a + 1) + 6) + (5 * j)) + 1) (M 83 j)) 95 ((((a + 1) + 6) + (5 * j)) + 2) (M 84 j)) v G) rfl ⟨(vp_in_nI (by omega) (by omega)), trivial, trivial⟩ ?_
      rw [show (nI j).toNatClampNeg = j from nI_clamp (by omega)]
      show lm_G X d 177 106 0 0 99 [some (.ref 64), some (.ref 95), some (.int (nI a)), some (.int (nI j)), some (.int (nI (((a + 1) + 6) + (5 * j))))] [.int (M2 85 j), .int (nI ((((a + 1) + 6) + (5 * j)) + 3)), .ref 95] (lm_T (lm_wr (lm_wr (lm_wr M2 95 (((a + 1) + 6) + (5 * j)) (M 82 j)) 95 ((((a + 1) + 6) + (5 * j)) + 1) (M 83 j)) 95 ((((a + 1) + 6) + (5 * j)) + 2) (M 84 j)) v G) Q
      rw [show M2 85 j = M 85 j from congrFun (k5 85 rfl) j]
      refine lm_G_sg 1 (pc' := 100) (L' := [some (.ref 64), some (.ref 95), some (.int (nI a)), some (.int (nI j)), some (.int (nI (((a + 1) + 6) + (5 * j))))]) (S' := []) (σ' := lm_T (lm_wr (lm_wr (lm_wr (lm_wr M2 95 (((a + 1) + 6) + (5 * j)) (M 82 j)) 95 ((((a + 1) + 6) + (5 * j)) + 1) (M 83 j)) 95 ((((a + 1) + 6) + (5 * j)) + 2) (M 84 j)) 95 ((nI ((((a + 1) + 6) + (5 * j)) + 3)).toNatClampNeg) (M 85 j)) v G) rfl ⟨(vp_in_nI (by omega) (by omega)), trivial, trivial⟩ ?_
      rw [show (nI ((((a + 1) + 6) + (5 * j)) + 3)).toNatClampNeg = ((((a + 1) + 6) + (5 * j)) + 3) from nI_clamp (by omega)]
      refine lm_G_sg 4 (pc' := 105) (L' := [some (.ref 64), some (.ref 95), some (.int (nI a)), some (.int (nI j)), some (.int (nI (((a + 1) + 6) + (5 * j))))]) (S' := [.int ((nI (((a + 1) + 6) + (5 * j))) + 4), .ref 95]) (σ' := lm_T (lm_wr (lm_wr (lm_wr (lm_wr M2 95 (((a + 1) + 6) + (5 * j)) (M 82 j)) 95 ((((a + 1) + 6) + (5 * j)) + 1) (M 83 j)) 95 ((((a + 1) + 6) + (5 * j)) + 2) (M 84 j)) 95 ((((a + 1) + 6) + (5 * j)) + 3) (M 85 j)) v G) rfl trivial ?_
      rw [show (nI (((a + 1) + 6) + (5 * j))) + 4 = nI ((((a + 1) + 6) + (5 * j)) + 4) from nI_add (((a + 1) + 6) + (5 * j)) 4]
      refine lm_G_sg 4 (pc' := 111) (L' := [some (.ref 64), some (.ref 95), some (.int (nI a)), some (.int (nI j)), some (.int (nI (((a + 1) + 6) + (5 * j))))]) (S' := [.int ((lm_wr (lm_wr (lm_wr (lm_wr M2 95 (((a + 1) + 6) + (5 * j)) (M 82 j)) 95 ((((a + 1) + 6) + (5 * j)) + 1) (M 83 j)) 95 ((((a + 1) + 6) + (5 * j)) + 2) (M 84 j)) 95 ((((a + 1) + 6) + (5 * j)) + 3) (M 85 j)) 86 (nI j).toNatClampNeg), .int (nI ((((a + 1) + 6) + (5 * j)) + 4)), .ref 95]) (σ' := lm_T (lm_wr (lm_wr (lm_wr (lm_wr M2 95 (((a + 1) + 6) + (5 * j)) (M 82 j)) 95 ((((a + 1) + 6) + (5 * j)) + 1) (M 83 j)) 95 ((((a + 1) + 6) + (5 * j)) + 2) (M 84 j)) 95 ((((a + 1) + 6) + (5 * j)) + 3) (M 85 j)) v G) rfl ⟨(vp_in_nI (by omega) (by omega)), trivial, trivial⟩ ?_
      rw [show (nI j).toNatClampNeg = j from nI_clamp (by omega)]
      show lm_G X d 177 106 0 0 111 [some (.ref 64), some (.ref 95), some (.int (nI a)), some (.int (nI j)), some (.int (nI (((a + 1) + 6) + (5 * j))))] [.int (M2 86 j), .int (nI ((((a + 1) + 6) + (5 * j)) + 4)), .ref 95] (lm_T (lm_wr (lm_wr (lm_wr (lm_wr M2 95 (((a + 1) + 6) + (5 * j)) (M 82 j)) 95 ((((a + 1) + 6) + (5 * j)) + 1) (M 83 j)) 95 ((((a + 1) + 6) + (5 * j)) + 2) (M 84 j)) 95 ((((a + 1) + 6) + (5 * j)) + 3) (M 85 j)) v G) Q
      rw [show M2 86 j = M 86 j from congrFun (k5 86 rfl) j]
      refine lm_G_sg 1 (pc' := 112) (L' := [some (.ref 64), some (.ref 95), some (.int (nI a)), some (.int (nI j)), some (.int (nI (((a + 1) + 6) + (5 * j))))]) (S' := []) (σ' := lm_T (lm_wr (lm_wr (lm_wr (lm_wr (lm_wr M2 95 (((a + 1) + 6) + (5 * j)) (M 82 j)) 95 ((((a + 1) + 6) + (5 * j)) + 1) (M 83 j)) 95 ((((a + 1) + 6) + (5 * j)) + 2) (M 84 j)) 95 ((((a + 1) + 6) + (5 * j)) + 3) (M 85 j)) 95 ((nI ((((a + 1) + 6) + (5 * j)) + 4)).toNatClampNeg) (M 86 j)) v G) rfl ⟨(vp_in_nI (by omega) (by omega)), trivial, trivial⟩ ?_
      rw [show (nI ((((a + 1) + 6) + (5 * j)) + 4)).toNatClampNeg = ((((a + 1) + 6) + (5 * j)) + 4) from nI_clamp (by omega)]
      refine lm_G_sg 1 (pc' := 115) (L' := [some (.ref 64), some (.ref 95), some (.int (nI a)), some (.int ((nI j) + 1)), some (.int (nI (((a + 1) + 6) + (5 * j))))]) (S' := []) (σ' := lm_T (lm_wr (lm_wr (lm_wr (lm_wr (lm_wr M2 95 (((a + 1) + 6) + (5 * j)) (M 82 j)) 95 ((((a + 1) + 6) + (5 * j)) + 1) (M 83 j)) 95 ((((a + 1) + 6) + (5 * j)) + 2) (M 84 j)) 95 ((((a + 1) + 6) + (5 * j)) + 3) (M 85 j)) 95 ((((a + 1) + 6) + (5 * j)) + 4) (M 86 j)) v G) rfl trivial ?_
      rw [nI_1]
      refine lm_G_sg 1 (pc' := 36) (L' := [some (.ref 64), some (.ref 95), some (.int (nI a)), some (.int (nI (j + 1))), some (.int (nI (((a + 1) + 6) + (5 * j))))]) (S' := []) (σ' := lm_T (lm_wr (lm_wr (lm_wr (lm_wr (lm_wr M2 95 (((a + 1) + 6) + (5 * j)) (M 82 j)) 95 ((((a + 1) + 6) + (5 * j)) + 1) (M 83 j)) 95 ((((a + 1) + 6) + (5 * j)) + 2) (M 84 j)) 95 ((((a + 1) + 6) + (5 * j)) + 3) (M 85 j)) 95 ((((a + 1) + 6) + (5 * j)) + 4) (M 86 j)) v G) rfl trivial ?_
      refine lm_G_jk (L := [some (.ref 64), some (.ref 95), some (.int (nI a)), some (.int (nI (j + 1))), none]) ⟨rfl, rfl, rfl, rfl, trivial⟩ ?_
      exact ih2 _ (⟨by rw [wr_at (by omega), wr_at (by omega), wr_at (by omega), wr_at (by omega), wr_at (by omega)]; exact k1, fun t ht => by rw [wr_at (by omega), wr_at (by omega), wr_at (by omega), wr_at (by omega), wr_at (by omega)]; exact k2 t ht, fun q hq => if e : q = j then (by subst e; exact ⟨by rw [wr_at (by omega), wr_at (by omega), wr_at (by omega), wr_at (by omega), wr_same], by rw [wr_at (by omega), wr_at (by omega), wr_at (by omega), wr_same], by rw [wr_at (by omega), wr_at (by omega), wr_same], by rw [wr_at (by omega), wr_same], by rw [wr_same]⟩) else (by obtain ⟨a1, a2, a3, a4, a5⟩ := k3 q (by omega); exact ⟨by rw [wr_at (by omega), wr_at (by omega), wr_at (by omega), wr_at (by omega), wr_at (by omega)]; exact a1, by rw [wr_at (by omega), wr_at (by omega), wr_at (by omega), wr_at (by omega), wr_at (by omega)]; exact a2, by rw [wr_at (by omega), wr_at (by omega), wr_at (by omega), wr_at (by omega), wr_at (by omega)]; exact a3, by rw [wr_at (by omega), wr_at (by omega), wr_at (by omega), wr_at (by omega), wr_at (by omega)]; exact a4, by rw [wr_at (by omega), wr_at (by omega), wr_at (by omega), wr_at (by omega), wr_at (by omega)]; exact a5⟩), fun i hi => by rw [wr_at (by omega), wr_at (by omega), wr_at (by omega), wr_at (by omega), wr_at (by omega)]; exact k4 i hi, Fr_wr (Fr_wr (Fr_wr (Fr_wr (Fr_wr k5 rfl) rfl) rfl) rfl) rfl⟩)
    ·
      revert hI2
      revert zz
      intro M2 hI2
      replace hI2 : M2 95 a = M 64 36 ∧ (∀ t, t < 6 → M2 95 (a + 1 + t) = M 81 t) ∧ (∀ q, q < 8 → M2 95 (a + 1 + 6 + 5 * q) = M 82 q ∧ M2 95 (a + 1 + 6 + 5 * q + 1) = M 83 q ∧ M2 95 (a + 1 + 6 + 5 * q + 2) = M 84 q ∧ M2 95 (a + 1 + 6 + 5 * q + 3) = M 85 q ∧ M2 95 (a + 1 + 6 + 5 * q + 4) = M 86 q) ∧ (∀ i, i < a ∨ a + 47 ≤ i → M2 95 i = M 95 i) ∧ Fr (frO 95) M M2 := hI2
      show lm_G X d 177 106 0 0 36 [some (.ref 64), some (.ref 95), some (.int (nI a)), some (.int (nI 8)), none] [] (lm_T M2 v G) Q
      obtain ⟨k1, k2, k3, k4, k5⟩ := hI2
      refine lm_G_sg 2 (pc' := 39) (L' := [some (.ref 64), some (.ref 95), some (.int (nI a)), some (.int (nI 8)), none]) (S' := [.int 8, .int (nI 8)]) (σ' := lm_T M2 v G) rfl trivial ?_
      refine lm_G_br (b := 8 ≤ (nI 8)) (t := 118) (S' := []) rfl (fun hc => ?_) (fun hc => absurd (nI_le (a := 8) (Nat.le_refl _) (by omega)) hc)
      exact lm_G_re rfl trivial (Nat.zero_le _) (Nat.zero_le _) (hQ _ ⟨k1.trans h.hr, fun t ht => (k2 t (by omega)).trans (h.ow t ht), fun p hp => by
              obtain ⟨a1, a2, a3, a4, a5⟩ := k3 p (by omega)
              exact ⟨a1.trans (h.hu p hp), a2.trans (h.hd p hp), a3.trans (h.id p hp), a4.trans (h.pl p hp), a5.trans (h.co p hp)⟩⟩ k4 k5)
    ·
      try dsimp only
      exact ⟨i1, i2, fun q hq => by omega, i3, i4⟩
  ·
    try dsimp only
    exact ⟨wr_same, fun t ht => by omega, fun i hi => wr_at (by omega), Fr_wr (Fr_rf _ _) rfl⟩
set_option maxRecDepth 10000 in
theorem m_unpack95 {X : lm_X} {d v : Nat} {M : Nat → Nat → Int32} {G : Nat → Nat → Int64} {Q : lm_O → lm_S → Prop} {F : Fa} {s : Sc} {a : Nat} (hF : okF F) (hk : KM M F) (hb : Ag (fN F) (M 79) (sBr s)) (hv : SavM (M 95) a F s) (ha : a + 47 ≤ 47) (hQ : ∀ M1, RM M1 F s → FrU M M1 → Q (.inl none) (lm_T M1 v G)) : lm_Q X d 178 [.ref 64, .ref 95, .int (nI a)] (lm_T M v G) Q := by
  have hn := hF.n
  have hm := hF.m
  show lm_G X d 178 106 0 0 0 [some (.ref 64), some (.ref 95), some (.int (nI a)), none, none] [] (lm_T M v G) Q
  refine lm_G_sg 4 (pc' := 4) (L' := [some (.ref 64), some (.ref 95), some (.int (nI a)), none, none]) (S' := [.int (M 95 (nI a).toNatClampNeg), .ref 64]) (σ' := lm_T M v G) rfl ⟨(vp_in_nI (by omega) (by omega)), trivial, trivial⟩ ?_
  rw [show (nI a).toNatClampNeg = a from nI_clamp (by omega)]
  refine lm_G_sg 3 (pc' := 9) (L' := [some (.ref 64), some (.ref 95), some (.int (nI a)), some (.int 0), none]) (S' := []) (σ' := lm_T (lm_wr M 64 36 (M 95 a)) v G) rfl ⟨trivial, trivial, trivial⟩ ?_
  refine lm_ind (α := (Nat → Fn)) (St := fun (j : Nat) zz => (fun (M1 : Nat → Fn) => lm_G X d 178 106 0 0 9 [some (.ref 64), some (.ref 95), some (.int (nI a)), some (.int (nI j)), none] [] (lm_T M1 v G) Q) zz) (Inv := fun (j : Nat) zz => (fun (M1 : Nat → Fn) => Ag j (M1 81) (fun t => M 95 (a + 1 + t)) ∧ M1 64 36 = M 95 a ∧ FrU M M1) zz) (6) (fun j zz hj hI ih => ?_) (fun zz hI => ?_) (0) (lm_wr M 64 36 (M 95 a)) (by omega) ?_
  ·
    revert ih hI
    revert zz
    intro M1 hI ih
    replace hI : Ag j (M1 81) (fun t => M 95 (a + 1 + t)) ∧ M1 64 36 = M 95 a ∧ FrU M M1 := hI
    replace ih : ∀ (M1 : Nat → Fn) (_ : Ag (j + 1) (M1 81) (fun t => M 95 (a + 1 + t)) ∧ M1 64 36 = M 95 a ∧ FrU M M1), lm_G X d 178 106 0 0 9 [some (.ref 64), some (.ref 95), some (.int (nI a)), some (.int (nI (j + 1))), none] [] (lm_T M1 v G) Q := fun M1 q => ih M1 q
    show lm_G X d 178 106 0 0 9 [some (.ref 64), some (.ref 95), some (.int (nI a)), some (.int (nI j)), none] [] (lm_T M1 v G) Q
    obtain ⟨i1, i2, i3⟩ := hI
    refine lm_G_sg 2 (pc' := 12) (L' := [some (.ref 64), some (.ref 95), some (.int (nI a)), some (.int (nI j)), none]) (S' := [.int 6, .int (nI j)]) (σ' := lm_T M1 v G) rfl trivial ?_
    refine lm_G_br (b := 6 ≤ (nI j)) (t := 34) (S' := []) rfl (fun hc => absurd hc (nI_ge (b := 6) hj (by omega))) (fun hc => ?_)
    refine lm_G_sg 7 (pc' := 24) (L' := [some (.ref 64), some (.ref 95), some (.int (nI a)), some (.int (nI j)), none]) (S' := [.int ((nI a) + 1), .ref 95, .int (nI j), .ref 81]) (σ' := lm_T M1 v G) rfl trivial ?_
    rw [show (nI a) + 1 = nI (a + 1) from nI_add a 1]
    refine lm_G_sg 2 (pc' := 26) (L' := [some (.ref 64), some (.ref 95), some (.int (nI a)), some (.int (nI j)), none]) (S' := [.int ((nI (a + 1)) + (nI j)), .ref 95, .int (nI j), .ref 81]) (σ' := lm_T M1 v G) rfl trivial ?_
    rw [show (nI (a + 1)) + (nI j) = nI ((a + 1) + j) from nI_add (a + 1) j]
    refine lm_G_sg 1 (pc' := 27) (L' := [some (.ref 64), some (.ref 95), some (.int (nI a)), some (.int (nI j)), none]) (S' := [.int (M1 95 (nI ((a + 1) + j)).toNatClampNeg), .int (nI j), .ref 81]) (σ' := lm_T M1 v G) rfl ⟨(vp_in_nI (by omega) (by omega)), trivial, trivial⟩ ?_
    rw [show (nI ((a + 1) + j)).toNatClampNeg = ((a + 1) + j) from nI_clamp (by omega)]
    rw [show M1 95 ((a + 1) + j) = M 95 ((a + 1) + j) from congrFun (i3.1 95 rfl) ((a + 1) + j)]
    refine lm_G_sg 1 (pc' := 28) (L' := [some (.ref 64), some (.ref 95), some (.int (nI a)), some (.int (nI j)), none]) (S' := []) (σ' := lm_T (lm_wr M1 81 ((nI j).toNatClampNeg) (M 95 ((a + 1) + j))) v G) rfl ⟨(vp_in_nI (by omega) (by omega)), trivial, trivial⟩ ?_
    rw [show (nI j).toNatClampNeg = j from nI_clamp (by omega)]
    refine lm_G_sg 1 (pc' := 31) (L' := [some (.ref 64), some (.ref 95), some (.int (nI a)), some (.int ((nI j) + 1)), none]) (S' := []) (σ' := lm_T (lm_wr M1 81 j (M 95 ((a + 1) + j))) v G) rfl trivial ?_
    rw [nI_1]
    refine lm_G_sg 1 (pc' := 9) (L' := [some (.ref 64), some (.ref 95), some (.int (nI a)), some (.int (nI (j + 1))), none]) (S' := []) (σ' := lm_T (lm_wr M1 81 j (M 95 ((a + 1) + j))) v G) rfl trivial ?_
    exact ih _ (⟨Ag_nx i1 rfl, i2, Fr_wr i3.1 rfl, i3.2⟩)
  ·
    revert hI
    revert zz
    intro M1 hI
    replace hI : Ag 6 (M1 81) (fun t => M 95 (a + 1 + t)) ∧ M1 64 36 = M 95 a ∧ FrU M M1 := hI
    show lm_G X d 178 106 0 0 9 [some (.ref 64), some (.ref 95), some (.int (nI a)), some (.int (nI 6)), none] [] (lm_T M1 v G) Q
    obtain ⟨i1, i2, i3⟩ := hI
    refine lm_G_sg 2 (pc' := 12) (L' := [some (.ref 64), some (.ref 95), some (.int (nI a)), some (.int (nI 6)), none]) (S' := [.int 6, .int (nI 6)]) (σ' := lm_T M1 v G) rfl trivial ?_
    refine lm_G_br (b := 6 ≤ (nI 6)) (t := 34) (S' := []) rfl (fun hc => ?_) (fun hc => absurd (nI_le (a := 6) (Nat.le_refl _) (by omega)) hc)
    refine lm_G_sg 2 (pc' := 36) (L' := [some (.ref 64), some (.ref 95), some (.int (nI a)), some (.int 0), none]) (S' := []) (σ' := lm_T M1 v G) rfl trivial ?_
    refine lm_ind (α := (Nat → Fn)) (St := fun (j : Nat) zz => (fun (M2 : Nat → Fn) => lm_G X d 178 106 0 0 36 [some (.ref 64), some (.ref 95), some (.int (nI a)), some (.int (nI j)), none] [] (lm_T M2 v G) Q) zz) (Inv := fun (j : Nat) zz => (fun (M2 : Nat → Fn) => Ag 6 (M2 81) (fun t => M 95 (a + 1 + t)) ∧ M2 64 36 = M 95 a ∧ FrU M M2 ∧ Ag j (M2 82) (fun q => M 95 (a + 1 + 6 + 5 * q)) ∧ Ag j (M2 83) (fun q => M 95 (a + 1 + 6 + 5 * q + 1)) ∧ Ag j (M2 84) (fun q => M 95 (a + 1 + 6 + 5 * q + 2)) ∧ Ag j (M2 85) (fun q => M 95 (a + 1 + 6 + 5 * q + 3)) ∧ Ag j (M2 86) (fun q => M 95 (a + 1 + 6 + 5 * q + 4))) zz) (8) (fun j zz hj2 hI2 ih2 => ?_) (fun zz hI2 => ?_) (0) M1 (by omega) ?_
    ·
      revert ih2 hI2
      revert zz
      intro M2 hI2 ih2
      replace hI2 : Ag 6 (M2 81) (fun t => M 95 (a + 1 + t)) ∧ M2 64 36 = M 95 a ∧ FrU M M2 ∧ Ag j (M2 82) (fun q => M 95 (a + 1 + 6 + 5 * q)) ∧ Ag j (M2 83) (fun q => M 95 (a + 1 + 6 + 5 * q + 1)) ∧ Ag j (M2 84) (fun q => M 95 (a + 1 + 6 + 5 * q + 2)) ∧ Ag j (M2 85) (fun q => M 95 (a + 1 + 6 + 5 * q + 3)) ∧ Ag j (M2 86) (fun q => M 95 (a + 1 + 6 + 5 * q + 4)) := hI2
      replace ih2 : ∀ (M2 : Nat → Fn) (_ : Ag 6 (M2 81) (fun t => M 95 (a + 1 + t)) ∧ M2 64 36 = M 95 a ∧ FrU M M2 ∧ Ag (j + 1) (M2 82) (fun q => M 95 (a + 1 + 6 + 5 * q)) ∧ Ag (j + 1) (M2 83) (fun q => M 95 (a + 1 + 6 + 5 * q + 1)) ∧ Ag (j + 1) (M2 84) (fun q => M 95 (a + 1 + 6 + 5 * q + 2)) ∧ Ag (j + 1) (M2 85) (fun q => M 95 (a + 1 + 6 + 5 * q + 3)) ∧ Ag (j + 1) (M2 86) (fun q => M 95 (a + 1 + 6 + 5 * q + 4))), lm_G X d 178 106 0 0 36 [some (.ref 64), some (.ref 95), some (.int (nI a)), some (.int (nI (j + 1))), none] [] (lm_T M2 v G) Q := fun M2 q => ih2 M2 q
      show lm_G X d 178 106 0 0 36 [some (.ref 64), some (.ref 95), some (.int (nI a)), some (.int (nI j)), none] [] (lm_T M2 v G) Q
      obtain ⟨k1, k2, k3, g1, g2, g3, g4, g5⟩ := hI2
      refine lm_G_sg 2 (pc' := 39) (L' := [some (.ref 64), some (.ref 95), some (.int (nI a)), some (.int (nI j)), none]) (S' := [.int 8, .int (nI j)]) (σ' := lm_T M2 v G) rfl trivial ?_
      refine lm_G_br (b := 8 ≤ (nI j)) (t := 118) (S' := []) rfl (fun hc => absurd hc (nI_ge (b := 8) hj2 (by omega))) (fun hc => ?_)
      refine lm_G_sg 3 (pc' := 45) (L' := [some (.ref 64), some (.ref 95), some (.int (nI a)), some (.int (nI j)), none]) (S' := [.int ((nI a) + 1)]) (σ' := lm_T M2 v G) rfl trivial ?_
      rw [show (nI a) + 1 = nI (a + 1) from nI_add a 1]
      refine lm_G_sg 2 (pc' := 48) (L' := [some (.ref 64), some (.ref 95), some (.int (nI a)), some (.int (nI j)), none]) (S' := [.int ((nI (a + 1)) + 6)]) (σ' := lm_T M2 v G) rfl trivial ?_
      rw [show (nI (a + 1)) + 6 = nI ((a + 1) + 6) from nI_add (a + 1) 6]
      refine lm_G_sg 3 (pc' := 51) (L' := [some (.ref 64), some (.ref 95), some (.int (nI a)), some (.int (nI j)), none]) (S' := [.int (5 * (nI j)), .int (nI ((a + 1) + 6))]) (σ' := lm_T M2 v G) rfl trivial ?_
      rw [show 5 * (nI j) = nI (5 * j) from pk_mul 5 j]
      refine lm_G_sg 1 (pc' := 52) (L' := [some (.ref 64), some (.ref 95), some (.int (nI a)), some (.int (nI j)), none]) (S' := [.int ((nI ((a + 1) + 6)) + (nI (5 * j)))]) (σ' := lm_T M2 v G) rfl trivial ?_
      rw [show (nI ((a + 1) + 6)) + (nI (5 * j)) = nI (((a + 1) + 6) + (5 * j)) from nI_add ((a + 1) + 6) (5 * j)]
      refine lm_G_sg 7 (pc' := 63) (L' := [some (.ref 64), some (.ref 95), some (.int (nI a)), some (.int (nI j)), some (.int (nI (((a + 1) + 6) + (5 * j))))]) (S' := [.int (M2 95 (nI (((a + 1) + 6) + (5 * j))).toNatClampNeg), .int (nI j), .ref 82]) (σ' := lm_T M2 v G) rfl ⟨(vp_in_nI (by omega) (by omega)), trivial, trivial⟩ ?_
      rw [show (nI (((a + 1) + 6) + (5 * j))).toNatClampNeg = (((a + 1) + 6) + (5 * j)) from nI_clamp (by omega)]
      rw [show M2 95 (((a + 1) + 6) + (5 * j)) = M 95 (((a + 1) + 6) + (5 * j)) from congrFun (k3.1 95 rfl) (((a + 1) + 6) + (5 * j))]
      refine lm_G_sg 1 (pc' := 64) (L' := [some (.ref 64), some (.ref 95), some (.int (nI a)), some (.int (nI j)), some (.int (nI (((a + 1) + 6) + (5 * j))))]) (S' := []) (σ' := lm_T (lm_wr M2 82 ((nI j).toNatClampNeg) (M 95 (((a + 1) + 6) + (5 * j)))) v G) rfl ⟨(vp_in_nI (by omega) (by omega)), trivial, trivial⟩ ?_
      rw [show (nI j).toNatClampNeg = j from nI_clamp (by omega)]
      refine lm_G_sg 7 (pc' := 74) (L' := [some (.ref 64), some (.ref 95), some (.int (nI a)), some (.int (nI j)), some (.int (nI (((a + 1) + 6) + (5 * j))))]) (S' := [.int ((nI (((a + 1) + 6) + (5 * j))) + 1), .ref 95, .int (nI j), .ref 83]) (σ' := lm_T (lm_wr M2 82 j (M 95 (((a + 1) + 6) + (5 * j)))) v G) rfl trivial ?_
      rw [show (nI (((a + 1) + 6) + (5 * j))) + 1 = nI ((((a + 1) + 6) + (5 * j)) + 1) from nI_add (((a + 1) + 6) + (5 * j)) 1]
      refine lm_G_sg 1 (pc' := 75) (L' := [some (.ref 64), some (.ref 95), some (.int (nI a)), some (.int (nI j)), some (.int (nI (((a + 1) + 6) + (5 * j))))]) (S' := [.int ((lm_wr M2 82 j (M 95 (((a + 1) + 6) + (5 * j)))) 95 (nI ((((a + 1) + 6) + (5 * j)) + 1)).toNatClampNeg), .int (nI j), .ref 83]) (σ' := lm_T (lm_wr M2 82 j (M 95 (((a + 1) + 6) + (5 * j)))) v G) rfl ⟨(vp_in_nI (by omega) (by omega)), trivial, trivial⟩ ?_
      rw [show (nI ((((a + 1) + 6) + (5 * j)) + 1)).toNatClampNeg = ((((a + 1) + 6) + (5 * j)) + 1) from nI_clamp (by omega)]
      show lm_G X d 178 106 0 0 75 [some (.ref 64), some (.ref 95), some (.int (nI a)), some (.int (nI j)), some (.int (nI (((a + 1) + 6) + (5 * j))))] [.int (M2 95 ((((a + 1) + 6) + (5 * j)) + 1)), .int (nI j), .ref 83] (lm_T (lm_wr M2 82 j (M 95 (((a + 1) + 6) + (5 * j)))) v G) Q
      rw [show M2 95 ((((a + 1) + 6) + (5 * j)) + 1) = M 95 ((((a + 1) + 6) + (5 * j)) + 1) from congrFun (k3.1 95 rfl) ((((a + 1) + 6) + (5 * j)) + 1)]
      refine lm_G_sg 1 (pc' := 76) (L' := [some (.ref 64), some (.ref 95), some (.int (nI a)), some (.int (nI j)), some (.int (nI (((a + 1) + 6) + (5 * j))))]) (S' := []) (σ' := lm_T (lm_wr (lm_wr M2 82 j (M 95 (((a + 1) + 6) + (5 * j)))) 83 ((nI j).toNatClampNeg) (M 95 ((((a + 1) + 6) + (5 * j)) + 1))) v G) rfl ⟨(vp_in_nI (by omega) (by omega)), trivial, trivial⟩ ?_
      rw [show (nI j).toNatClampNeg = j from nI_clamp (by omega)]
      refine lm_G_sg 7 (pc' := 86) (L' := [some (.ref 64), some (.ref 95), some (.int (nI a)), some (.int (nI j)), some (.int (nI (((a + 1) + 6) + (5 * j))))]) (S' := [.int ((nI (((a + 1) + 6) + (5 * j))) + 2), .ref 95, .int (nI j), .ref 84]) (σ' := lm_T (lm_wr (lm_wr M2 82 j (M 95 (((a + 1) + 6) + (5 * j)))) 83 j (M 95 ((((a + 1) + 6) + (5 * j)) + 1))) v G) rfl trivial ?_
      rw [show (nI (((a + 1) + 6) + (5 * j))) + 2 = nI ((((a + 1) + 6) + (5 * j)) + 2) from nI_add (((a + 1) + 6) + (5 * j)) 2]
      refine lm_G_sg 1 (pc' := 87) (L' := [some (.ref 64), some (.ref 95), some (.int (nI a)), some (.int (nI j)), some (.int (nI (((a + 1) + 6) + (5 * j))))]) (S' := [.int ((lm_wr (lm_wr M2 82 j (M 95 (((a + 1) + 6) + (5 * j)))) 83 j (M 95 ((((a + 1) + 6) + (5 * j)) + 1))) 95 (nI ((((a + 1) + 6) + (5 * j)) + 2)).toNatClampNeg), .int (nI j), .ref 84]) (σ' := lm_T (lm_wr (lm_wr M2 82 j (M 95 (((a + 1) + 6) + (5 * j)))) 83 j (M 95 ((((a + 1) + 6) + (5 * j)) + 1))) v G) rfl ⟨(vp_in_nI (by omega) (by omega)), trivial, trivial⟩ ?_
      rw [show (nI ((((a + 1) + 6) + (5 * j)) + 2)).toNatClampNeg = ((((a + 1) + 6) + (5 * j)) + 2) from nI_clamp (by omega)]
      show lm_G X d 178 106 0 0 87 [some (.ref 64), some (.ref 95), some (.int (nI a)), some (.int (nI j)), some (.int (nI (((a + 1) + 6) + (5 * j))))] [.int (M2 95 ((((a + 1) + 6) + (5 * j)) + 2)), .int (nI j), .ref 84] (lm_T (lm_wr (lm_wr M2 82 j (M 95 (((a + 1) + 6) + (5 * j)))) 83 j (M 95 ((((a + 1) + 6) + (5 * j)) + 1))) v G) Q
      rw [show M2 95 ((((a + 1) + 6) + (5 * j)) + 2) = M 95 ((((a + 1) + 6) + (5 * j)) + 2) from congrFun (k3.1 95 rfl) ((((a + 1) + 6) + (5 * j)) + 2)]
      refine lm_G_sg 1 (pc' := 88) (L' := [some (.ref 64), some (.ref 95), some (.int (nI a)), some (.int (nI j)), some (.int (nI (((a + 1) + 6) + (5 * j))))]) (S' := []) (σ' := lm_T (lm_wr (lm_wr (lm_wr M2 82 j (M 95 (((a + 1) + 6) + (5 * j)))) 83 j (M 95 ((((a + 1) + 6) + (5 * j)) + 1))) 84 ((nI j).toNatClampNeg) (M 95 ((((a + 1) + 6) + (5 * j)) + 2))) v G) rfl ⟨(vp_in_nI (by omega) (by omega)), trivial, trivial⟩ ?_
      rw [show (nI j).toNatClampNeg = j from nI_clamp (by omega)]
      refine lm_G_sg 7 (pc' := 98) (L' := [some (.ref 64), some (.ref 95), some (.int (nI a)), some (.int (nI j)), some (.int (nI (((a + 1) + 6) + (5 * j))))]) (S' := [.int ((nI (((a + 1) + 6) + (5 * j))) + 3), .ref 95, .int (nI j), .ref 85]) (σ' := lm_T (lm_wr (lm_wr (lm_wr M2 82 j (M 95 (((a + 1) + 6) + (5 * j)))) 83 j (M 95 ((((a + 1) + 6) + (5 * j)) + 1))) 84 j (M 95 ((((a + 1) + 6) + (5 * j)) + 2))) v G) rfl trivial ?_
      rw [show (nI (((a + 1) + 6) + (5 * j))) + 3 = nI ((((a + 1) + 6) + (5 * j)) + 3) from nI_add (((a + 1) + 6) + (5 * j)) 3]
      refine lm_G_sg 1 (pc' := 99) (L' := [some (.ref 64), some (.ref 95), some (.int (nI a)), some (.int (nI j)), some (.int (nI (((a + 1) + 6) + (5 * j))))]) (S' := [.int ((lm_wr (lm_wr (lm_wr M2 82 j (M 95 (((a + 1) + 6) + (5 * j)))) 83 j (M 95 ((((a + 1) + 6) + (5 * j)) + 1))) 84 j (M 95 ((((a + 1) + 6) + (5 * j)) + 2))) 95 (nI ((((a + 1) + 6) + (5 * j)) + 3)).toNatClampNeg), .int (nI j), .ref 85]) (σ' := lm_T (lm_wr (lm_wr (lm_wr M2 82 j (M 95 (((a + 1) + 6) + (5 * j)))) 83 j (M 95 ((((a + 1) + 6) + (5 * j)) + 1))) 84 j (M 95 ((((a + 1) + 6) + (5 * j)) + 2))) v G) rfl ⟨(vp_in_nI (by omega) (by omega)), trivial, trivial⟩ ?_
      rw [show (nI ((((a + 1) + 6) + (5 * j)) + 3)).toNatClampNeg = ((((a + 1) + 6) + (5 * j)) + 3) from nI_clamp (by omega)]
      show lm_G X d 178 106 0 0 99 [some (.ref 64), some (.ref 95), some (.int (nI a)), some (.int (nI j)), some (.int (nI (((a + 1) + 6) + (5 * j))))] [.int (M2 95 ((((a + 1) + 6) + (5 * j)) + 3)), .int (nI j), .ref 85] (lm_T (lm_wr (lm_wr (lm_wr M2 82 j (M 95 (((a + 1) + 6) + (5 * j)))) 83 j (M 95 ((((a + 1) + 6) + (5 * j)) + 1))) 84 j (M 95 ((((a + 1) + 6) + (5 * j)) + 2))) v G) Q
      rw [show M2 95 ((((a + 1) + 6) + (5 * j)) + 3) = M 95 ((((a + 1) + 6) + (5 * j)) + 3) from congrFun (k3.1 95 rfl) ((((a + 1) + 6) + (5 * j)) + 3)]
      refine lm_G_sg 1 (pc' := 100) (L' := [some (.ref 64), some (.ref 95), some (.int (nI a)), some (.int (nI j)), some (.int (nI (((a + 1) + 6) + (5 * j))))]) (S' := []) (σ' := lm_T (lm_wr (lm_wr (lm_wr (lm_wr M2 82 j (M 95 (((a + 1) + 6) + (5 * j)))) 83 j (M 95 ((((a + 1) + 6) + (5 * j)) + 1))) 84 j (M 95 ((((a + 1) + 6) + (5 * j)) + 2))) 85 ((nI j).toNatClampNeg) (M 95 ((((a + 1) + 6) + (5 * j)) + 3))) v G) rfl ⟨(vp_in_nI (by omega) (by omega)), trivial, trivial⟩ ?_
      rw [show (nI j).toNatClampNeg = j from nI_clamp (by omega)]
      refine lm_G_sg 7 (pc' := 110) (L' := [some (.ref 64), some (.ref 95), some (.int (nI a)), some (.int (nI j)), some (.int (nI (((a + 1) + 6) + (5 * j))))]) (S' := [.int ((nI (((a + 1) + 6) + (5 * j))) + 4), .ref 95, .int (nI j), .ref 86]) (σ' := lm_T (lm_wr (lm_wr (lm_wr (lm_wr M2 82 j (M 95 (((a + 1) + 6) + (5 * j)))) 83 j (M 95 ((((a + 1) + 6) + (5 * j)) + 1))) 84 j (M 95 ((((a + 1) + 6) + (5 * j)) + 2))) 85 j (M 95 ((((a + 1) + 6) + (5 * j)) + 3))) v G) rfl trivial ?_
      rw [show (nI (((a + 1) + 6) + (5 * j))) + 4 = nI ((((a + 1) + 6) + (5 * j)) + 4) from nI_add (((a + 1) + 6) + (5 * j)) 4]
      refine lm_G_sg 1 (pc' := 111) (L' := [some (.ref 64), some (.ref 95), some (.int (nI a)), some (.int (nI j)), some (.int (nI (((a + 1) + 6) + (5 * j))))]) (S' := [.int ((lm_wr (lm_wr (lm_wr (lm_wr M2 82 j (M 95 (((a + 1) + 6) + (5 * j)))) 83 j (M 95 ((((a + 1) + 6) + (5 * j)) + 1))) 84 j (M 95 ((((a + 1) + 6) + (5 * j)) + 2))) 85 j (M 95 ((((a + 1) + 6) + (5 * j)) + 3))) 95 (nI ((((a + 1) + 6) + (5 * j)) + 4)).toNatClampNeg), .int (nI j), .ref 86]) (σ' := lm_T (lm_wr (lm_wr (lm_wr (lm_wr M2 82 j (M 95 (((a + 1) + 6) + (5 * j)))) 83 j (M 95 ((((a + 1) + 6) + (5 * j)) + 1))) 84 j (M 95 ((((a + 1) + 6) + (5 * j)) + 2))) 85 j (M 95 ((((a + 1) + 6) + (5 * j)) + 3))) v G) rfl ⟨(vp_in_nI (by omega) (by omega)), trivial, trivial⟩ ?_
      rw [show (nI ((((a + 1) + 6) + (5 * j)) + 4)).toNatClampNeg = ((((a + 1) + 6) + (5 * j)) + 4) from nI_clamp (by omega)]
      show lm_G X d 178 106 0 0 111 [some (.ref 64), some (.ref 95), some (.int (nI a)), some (.int (nI j)), some (.int (nI (((a + 1) + 6) + (5 * j))))] [.int (M2 95 ((((a + 1) + 6) + (5 * j)) + 4)), .int (nI j), .ref 86] (lm_T (lm_wr (lm_wr (lm_wr (lm_wr M2 82 j (M 95 (((a + 1) + 6) + (5 * j)))) 83 j (M 95 ((((a + 1) + 6) + (5 * j)) + 1))) 84 j (M 95 ((((a + 1) + 6) + (5 * j)) + 2))) 85 j (M 95 ((((a + 1) + 6) + (5 * j)) + 3))) v G) Q
      rw [show M2 95 ((((a + 1) + 6) + (5 * j)) + 4) = M 95 ((((a + 1) + 6) + (5 * j)) + 4) from congrFun (k3.1 95 rfl) ((((a + 1) + 6) + (5 * j)) + 4)]
      refine lm_G_sg 1 (pc' := 112) (L' := [some (.ref 64), some (.ref 95), some (.int (nI a)), some (.int (nI j)), some (.int (nI (((a + 1) + 6) + (5 * j))))]) (S' := []) (σ' := lm_T (lm_wr (lm_wr (lm_wr (lm_wr (lm_wr M2 82 j (M 95 (((a + 1) + 6) + (5 * j)))) 83 j (M 95 ((((a + 1) + 6) + (5 * j)) + 1))) 84 j (M 95 ((((a + 1) + 6) + (5 * j)) + 2))) 85 j (M 95 ((((a + 1) + 6) + (5 * j)) + 3))) 86 ((nI j).toNatClampNeg) (M 95 ((((a + 1) + 6) + (5 * j)) + 4))) v G) rfl ⟨(vp_in_nI (by omega) (by omega)), trivial, trivial⟩ ?_
      rw [show (nI j).toNatClampNeg = j from nI_clamp (by omega)]
      refine lm_G_sg 1 (pc' := 115) (L' := [some (.ref 64), some (.ref 95), some (.int (nI a)), some (.int ((nI j) + 1)), some (.int (nI (((a + 1) + 6) + (5 * j))))]) (S' := []) (σ' := lm_T (lm_wr (lm_wr (lm_wr (lm_wr (lm_wr M2 82 j (M 95 (((a + 1) + 6) + (5 * j)))) 83 j (M 95 ((((a + 1) + 6) + (5 * j)) + 1))) 84 j (M 95 ((((a + 1) + 6) + (5 * j)) + 2))) 85 j (M 95 ((((a + 1) + 6) + (5 * j)) + 3))) 86 j (M 95 ((((a + 1) + 6) + (5 * j)) + 4))) v G) rfl trivial ?_
      rw [nI_1]
      refine lm_G_sg 1 (pc' := 36) (L' := [some (.ref 64), some (.ref 95), some (.int (nI a)), some (.int (nI (j + 1))), some (.int (nI (((a + 1) + 6) + (5 * j))))]) (S' := []) (σ' := lm_T (lm_wr (lm_wr (lm_wr (lm_wr (lm_wr M2 82 j (M 95 (((a + 1) + 6) + (5 * j)))) 83 j (M 95 ((((a + 1) + 6) + (5 * j)) + 1))) 84 j (M 95 ((((a + 1) + 6) + (5 * j)) + 2))) 85 j (M 95 ((((a + 1) + 6) + (5 * j)) + 3))) 86 j (M 95 ((((a + 1) + 6) + (5 * j)) + 4))) v G) rfl trivial ?_
      refine lm_G_jk (L := [some (.ref 64), some (.ref 95), some (.int (nI a)), some (.int (nI (j + 1))), none]) ⟨rfl, rfl, rfl, rfl, trivial⟩ ?_
      exact ih2 _ (⟨k1, k2, ⟨Fr_wr (Fr_wr (Fr_wr (Fr_wr (Fr_wr k3.1 rfl) rfl) rfl) rfl) rfl, k3.2⟩, Ag_nx g1 rfl, Ag_nx g2 rfl, Ag_nx g3 rfl, Ag_nx g4 rfl, Ag_nx g5 rfl⟩)
    ·
      revert hI2
      revert zz
      intro M2 hI2
      replace hI2 : Ag 6 (M2 81) (fun t => M 95 (a + 1 + t)) ∧ M2 64 36 = M 95 a ∧ FrU M M2 ∧ Ag 8 (M2 82) (fun q => M 95 (a + 1 + 6 + 5 * q)) ∧ Ag 8 (M2 83) (fun q => M 95 (a + 1 + 6 + 5 * q + 1)) ∧ Ag 8 (M2 84) (fun q => M 95 (a + 1 + 6 + 5 * q + 2)) ∧ Ag 8 (M2 85) (fun q => M 95 (a + 1 + 6 + 5 * q + 3)) ∧ Ag 8 (M2 86) (fun q => M 95 (a + 1 + 6 + 5 * q + 4)) := hI2
      show lm_G X d 178 106 0 0 36 [some (.ref 64), some (.ref 95), some (.int (nI a)), some (.int (nI 8)), none] [] (lm_T M2 v G) Q
      obtain ⟨k1, k2, k3, g1, g2, g3, g4, g5⟩ := hI2
      refine lm_G_sg 2 (pc' := 39) (L' := [some (.ref 64), some (.ref 95), some (.int (nI a)), some (.int (nI 8)), none]) (S' := [.int 8, .int (nI 8)]) (σ' := lm_T M2 v G) rfl trivial ?_
      refine lm_G_br (b := 8 ≤ (nI 8)) (t := 118) (S' := []) rfl (fun hc => ?_) (fun hc => absurd (nI_le (a := 8) (Nat.le_refl _) (by omega)) hc)
      have hR : RM M2 F s := by
        refine ⟨KM_of hk (k3.1 68 rfl) (k3.1 71 rfl) (k3.1 69 rfl) (k3.1 74 rfl) (k3.1 76 rfl) (k3.1 77 rfl), k2.trans hv.1, ?_, ?_, ?_, ?_, ?_, ?_, ?_⟩
        · rw [k3.1 79 rfl]; exact hb
        · exact fun p hp => (g4 p (by omega)).trans (hv.2.2 p hp).2.2.2.1
        · exact fun p hp => (g5 p (by omega)).trans (hv.2.2 p hp).2.2.2.2
        · exact fun p hp => (g1 p (by omega)).trans (hv.2.2 p hp).1
        · exact fun p hp => (g2 p (by omega)).trans (hv.2.2 p hp).2.1
        · exact fun p hp => (g3 p (by omega)).trans (hv.2.2 p hp).2.2.1
        · exact fun t ht => (k1 t (by omega)).trans (hv.2.1 t ht)
      exact lm_G_re rfl trivial (Nat.zero_le _) (Nat.zero_le _) (hQ _ hR k3)
    ·
      try dsimp only
      exact ⟨i1, i2, i3, fun q hq => by omega, fun q hq => by omega, fun q hq => by omega, fun q hq => by omega, fun q hq => by omega⟩
  ·
    try dsimp only
    exact ⟨fun t ht => by omega, wr_same, Fr_wr (Fr_rf _ _) rfl, fun k hk => wr_at hk⟩
set_option maxRecDepth 10000 in
theorem m_pack99 {X : lm_X} {d v : Nat} {M : Nat → Nat → Int32} {G : Nat → Nat → Int64} {Q : lm_O → lm_S → Prop} {F : Fa} {s : Sc} {a : Nat} (hF : okF F) (h : RM M F s) (ha : a + 47 ≤ 47) (hQ : ∀ M1, SavM (M1 99) a F s → (∀ i, i < a ∨ a + 47 ≤ i → M1 99 i = M 99 i) → Fr (frO 99) M M1 → Q (.inl none) (lm_T M1 v G)) : lm_Q X d 177 [.ref 64, .ref 99, .int (nI a)] (lm_T M v G) Q := by
  have hn := hF.n
  have hm := hF.m
  show lm_G X d 177 106 0 0 0 [some (.ref 64), some (.ref 99), some (.int (nI a)), none, none] [] (lm_T M v G) Q
  refine lm_G_sg 5 (pc' := 7) (L' := [some (.ref 64), some (.ref 99), some (.int (nI a)), none, none]) (S' := []) (σ' := lm_T (lm_wr M 99 ((nI a).toNatClampNeg) (M 64 36)) v G) rfl ⟨(vp_in_nI (by omega) (by omega)), trivial, trivial⟩ ?_
  rw [show (nI a).toNatClampNeg = a from nI_clamp (by omega)]
  refine lm_G_sg 2 (pc' := 9) (L' := [some (.ref 64), some (.ref 99), some (.int (nI a)), some (.int 0), none]) (S' := []) (σ' := lm_T (lm_wr M 99 a (M 64 36)) v G) rfl trivial ?_
  refine lm_ind (α := (Nat → Fn)) (St := fun (j : Nat) zz => (fun (M1 : Nat → Fn) => lm_G X d 177 106 0 0 9 [some (.ref 64), some (.ref 99), some (.int (nI a)), some (.int (nI j)), none] [] (lm_T M1 v G) Q) zz) (Inv := fun (j : Nat) zz => (fun (M1 : Nat → Fn) => M1 99 a = M 64 36 ∧ (∀ t, t < j → M1 99 (a + 1 + t) = M 81 t) ∧ (∀ i, i < a ∨ a + 47 ≤ i → M1 99 i = M 99 i) ∧ Fr (frO 99) M M1) zz) (6) (fun j zz hj hI ih => ?_) (fun zz hI => ?_) (0) (lm_wr M 99 a (M 64 36)) (by omega) ?_
  ·
    revert ih hI
    revert zz
    intro M1 hI ih
    replace hI : M1 99 a = M 64 36 ∧ (∀ t, t < j → M1 99 (a + 1 + t) = M 81 t) ∧ (∀ i, i < a ∨ a + 47 ≤ i → M1 99 i = M 99 i) ∧ Fr (frO 99) M M1 := hI
    replace ih : ∀ (M1 : Nat → Fn) (_ : M1 99 a = M 64 36 ∧ (∀ t, t < (j + 1) → M1 99 (a + 1 + t) = M 81 t) ∧ (∀ i, i < a ∨ a + 47 ≤ i → M1 99 i = M 99 i) ∧ Fr (frO 99) M M1), lm_G X d 177 106 0 0 9 [some (.ref 64), some (.ref 99), some (.int (nI a)), some (.int (nI (j + 1))), none] [] (lm_T M1 v G) Q := fun M1 q => ih M1 q
    show lm_G X d 177 106 0 0 9 [some (.ref 64), some (.ref 99), some (.int (nI a)), some (.int (nI j)), none] [] (lm_T M1 v G) Q
    obtain ⟨i1, i2, i3, i4⟩ := hI
    refine lm_G_sg 2 (pc' := 12) (L' := [some (.ref 64), some (.ref 99), some (.int (nI a)), some (.int (nI j)), none]) (S' := [.int 6, .int (nI j)]) (σ' := lm_T M1 v G) rfl trivial ?_
    refine lm_G_br (b := 6 ≤ (nI j)) (t := 34) (S' := []) rfl (fun hc => absurd hc (nI_ge (b := 6) hj (by omega))) (fun hc => ?_)
    refine lm_G_sg 4 (pc' := 19) (L' := [some (.ref 64), some (.ref 99), some (.int (nI a)), some (.int (nI j)), none]) (S' := [.int ((nI a) + 1), .ref 99]) (σ' := lm_T M1 v G) rfl trivial ?_
    rw [show (nI a) + 1 = nI (a + 1) from nI_add a 1]
    refine lm_G_sg 2 (pc' := 21) (L' := [some (.ref 64), some (.ref 99), some (.int (nI a)), some (.int (nI j)), none]) (S' := [.int ((nI (a + 1)) + (nI j)), .ref 99]) (σ' := lm_T M1 v G) rfl trivial ?_
    rw [show (nI (a + 1)) + (nI j) = nI ((a + 1) + j) from nI_add (a + 1) j]
    refine lm_G_sg 4 (pc' := 27) (L' := [some (.ref 64), some (.ref 99), some (.int (nI a)), some (.int (nI j)), none]) (S' := [.int (M1 81 (nI j).toNatClampNeg), .int (nI ((a + 1) + j)), .ref 99]) (σ' := lm_T M1 v G) rfl ⟨(vp_in_nI (by omega) (by omega)), trivial, trivial⟩ ?_
    rw [show (nI j).toNatClampNeg = j from nI_clamp (by omega)]
    rw [show M1 81 j = M 81 j from congrFun (i4 81 rfl) j]
    refine lm_G_sg 1 (pc' := 28) (L' := [some (.ref 64), some (.ref 99), some (.int (nI a)), some (.int (nI j)), none]) (S' := []) (σ' := lm_T (lm_wr M1 99 ((nI ((a + 1) + j)).toNatClampNeg) (M 81 j)) v G) rfl ⟨(vp_in_nI (by omega) (by omega)), trivial, trivial⟩ ?_
    rw [show (nI ((a + 1) + j)).toNatClampNeg = ((a + 1) + j) from nI_clamp (by omega)]
    refine lm_G_sg 1 (pc' := 31) (L' := [some (.ref 64), some (.ref 99), some (.int (nI a)), some (.int ((nI j) + 1)), none]) (S' := []) (σ' := lm_T (lm_wr M1 99 ((a + 1) + j) (M 81 j)) v G) rfl trivial ?_
    rw [nI_1]
    refine lm_G_sg 1 (pc' := 9) (L' := [some (.ref 64), some (.ref 99), some (.int (nI a)), some (.int (nI (j + 1))), none]) (S' := []) (σ' := lm_T (lm_wr M1 99 ((a + 1) + j) (M 81 j)) v G) rfl trivial ?_
    exact ih _ (⟨by rw [wr_at (by omega)]; exact i1, fun t ht => if e : t = j then (by subst e; exact wr_same) else (by rw [wr_at (by omega)]; exact i2 t (by omega)), fun i hi => by rw [wr_at (by omega)]; exact i3 i hi, Fr_wr i4 rfl⟩)
  ·
    revert hI
    revert zz
    intro M1 hI
    replace hI : M1 99 a = M 64 36 ∧ (∀ t, t < 6 → M1 99 (a + 1 + t) = M 81 t) ∧ (∀ i, i < a ∨ a + 47 ≤ i → M1 99 i = M 99 i) ∧ Fr (frO 99) M M1 := hI
    show lm_G X d 177 106 0 0 9 [some (.ref 64), some (.ref 99), some (.int (nI a)), some (.int (nI 6)), none] [] (lm_T M1 v G) Q
    obtain ⟨i1, i2, i3, i4⟩ := hI
    refine lm_G_sg 2 (pc' := 12) (L' := [some (.ref 64), some (.ref 99), some (.int (nI a)), some (.int (nI 6)), none]) (S' := [.int 6, .int (nI 6)]) (σ' := lm_T M1 v G) rfl trivial ?_
    refine lm_G_br (b := 6 ≤ (nI 6)) (t := 34) (S' := []) rfl (fun hc => ?_) (fun hc => absurd (nI_le (a := 6) (Nat.le_refl _) (by omega)) hc)
    refine lm_G_sg 2 (pc' := 36) (L' := [some (.ref 64), some (.ref 99), some (.int (nI a)), some (.int 0), none]) (S' := []) (σ' := lm_T M1 v G) rfl trivial ?_
    refine lm_ind (α := (Nat → Fn)) (St := fun (j : Nat) zz => (fun (M2 : Nat → Fn) => lm_G X d 177 106 0 0 36 [some (.ref 64), some (.ref 99), some (.int (nI a)), some (.int (nI j)), none] [] (lm_T M2 v G) Q) zz) (Inv := fun (j : Nat) zz => (fun (M2 : Nat → Fn) => M2 99 a = M 64 36 ∧ (∀ t, t < 6 → M2 99 (a + 1 + t) = M 81 t) ∧ (∀ q, q < j → M2 99 (a + 1 + 6 + 5 * q) = M 82 q ∧ M2 99 (a + 1 + 6 + 5 * q + 1) = M 83 q ∧ M2 99 (a + 1 + 6 + 5 * q + 2) = M 84 q ∧ M2 99 (a + 1 + 6 + 5 * q + 3) = M 85 q ∧ M2 99 (a + 1 + 6 + 5 * q + 4) = M 86 q) ∧ (∀ i, i < a ∨ a + 47 ≤ i → M2 99 i = M 99 i) ∧ Fr (frO 99) M M2) zz) (8) (fun j zz hj2 hI2 ih2 => ?_) (fun zz hI2 => ?_) (0) M1 (by omega) ?_
    ·
      revert ih2 hI2
      revert zz
      intro M2 hI2 ih2
      replace hI2 : M2 99 a = M 64 36 ∧ (∀ t, t < 6 → M2 99 (a + 1 + t) = M 81 t) ∧ (∀ q, q < j → M2 99 (a + 1 + 6 + 5 * q) = M 82 q ∧ M2 99 (a + 1 + 6 + 5 * q + 1) = M 83 q ∧ M2 99 (a + 1 + 6 + 5 * q + 2) = M 84 q ∧ M2 99 (a + 1 + 6 + 5 * q + 3) = M 85 q ∧ M2 99 (a + 1 + 6 + 5 * q + 4) = M 86 q) ∧ (∀ i, i < a ∨ a + 47 ≤ i → M2 99 i = M 99 i) ∧ Fr (frO 99) M M2 := hI2
      replace ih2 : ∀ (M2 : Nat → Fn) (_ : M2 99 a = M 64 36 ∧ (∀ t, t < 6 → M2 99 (a + 1 + t) = M 81 t) ∧ (∀ q, q < (j + 1) → M2 99 (a + 1 + 6 + 5 * q) = M 82 q ∧ M2 99 (a + 1 + 6 + 5 * q + 1) = M 83 q ∧ M2 99 (a + 1 + 6 + 5 * q + 2) = M 84 q ∧ M2 99 (a + 1 + 6 + 5 * q + 3) = M 85 q ∧ M2 99 (a + 1 + 6 + 5 * q + 4) = M 86 q) ∧ (∀ i, i < a ∨ a + 47 ≤ i → M2 99 i = M 99 i) ∧ Fr (frO 99) M M2), lm_G X d 177 106 0 0 36 [some (.ref 64), some (.ref 99), some (.int (nI a)), some (.int (nI (j + 1))), none] [] (lm_T M2 v G) Q := fun M2 q => ih2 M2 q
      show lm_G X d 177 106 0 0 36 [some (.ref 64), some (.ref 99), some (.int (nI a)), some (.int (nI j)), none] [] (lm_T M2 v G) Q
      obtain ⟨k1, k2, k3, k4, k5⟩ := hI2
      refine lm_G_sg 2 (pc' := 39) (L' := [some (.ref 64), some (.ref 99), some (.int (nI a)), some (.int (nI j)), none]) (S' := [.int 8, .int (nI j)]) (σ' := lm_T M2 v G) rfl trivial ?_
      refine lm_G_br (b := 8 ≤ (nI j)) (t := 118) (S' := []) rfl (fun hc => absurd hc (nI_ge (b := 8) hj2 (by omega))) (fun hc => ?_)
      refine lm_G_sg 3 (pc' := 45) (L' := [some (.ref 64), some (.ref 99), some (.int (nI a)), some (.int (nI j)), none]) (S' := [.int ((nI a) + 1)]) (σ' := lm_T M2 v G) rfl trivial ?_
      rw [show (nI a) + 1 = nI (a + 1) from nI_add a 1]
      refine lm_G_sg 2 (pc' := 48) (L' := [some (.ref 64), some (.ref 99), some (.int (nI a)), some (.int (nI j)), none]) (S' := [.int ((nI (a + 1)) + 6)]) (σ' := lm_T M2 v G) rfl trivial ?_
      rw [show (nI (a + 1)) + 6 = nI ((a + 1) + 6) from nI_add (a + 1) 6]
      refine lm_G_sg 3 (pc' := 51) (L' := [some (.ref 64), some (.ref 99), some (.int (nI a)), some (.int (nI j)), none]) (S' := [.int (5 * (nI j)), .int (nI ((a + 1) + 6))]) (σ' := lm_T M2 v G) rfl trivial ?_
      rw [show 5 * (nI j) = nI (5 * j) from pk_mul 5 j]
      refine lm_G_sg 1 (pc' := 52) (L' := [some (.ref 64), some (.ref 99), some (.int (nI a)), some (.int (nI j)), none]) (S' := [.int ((nI ((a + 1) + 6)) + (nI (5 * j)))]) (σ' := lm_T M2 v G) rfl trivial ?_
      rw [show (nI ((a + 1) + 6)) + (nI (5 * j)) = nI (((a + 1) + 6) + (5 * j)) from nI_add ((a + 1) + 6) (5 * j)]
      refine lm_G_sg 7 (pc' := 63) (L' := [some (.ref 64), some (.ref 99), some (.int (nI a)), some (.int (nI j)), some (.int (nI (((a + 1) + 6) + (5 * j))))]) (S' := [.int (M2 82 (nI j).toNatClampNeg), .int (nI (((a + 1) + 6) + (5 * j))), .ref 99]) (σ' := lm_T M2 v G) rfl ⟨(vp_in_nI (by omega) (by omega)), trivial, trivial⟩ ?_
      rw [show (nI j).toNatClampNeg = j from nI_clamp (by omega)]
      rw [show M2 82 j = M 82 j from congrFun (k5 82 rfl) j]
      refine lm_G_sg 1 (pc' := 64) (L' := [some (.ref 64), some (.ref 99), some (.int (nI a)), some (.int (nI j)), some (.int (nI (((a + 1) + 6) + (5 * j))))]) (S' := []) (σ' := lm_T (lm_wr M2 99 ((nI (((a + 1) + 6) + (5 * j))).toNatClampNeg) (M 82 j)) v G) rfl ⟨(vp_in_nI (by omega) (by omega)), trivial, trivial⟩ ?_
      rw [show (nI (((a + 1) + 6) + (5 * j))).toNatClampNeg = (((a + 1) + 6) + (5 * j)) from nI_clamp (by omega)]
      refine lm_G_sg 4 (pc' := 69) (L' := [some (.ref 64), some (.ref 99), some (.int (nI a)), some (.int (nI j)), some (.int (nI (((a + 1) + 6) + (5 * j))))]) (S' := [.int ((nI (((a + 1) + 6) + (5 * j))) + 1), .ref 99]) (σ' := lm_T (lm_wr M2 99 (((a + 1) + 6) + (5 * j)) (M 82 j)) v G) rfl trivial ?_
      rw [show (nI (((a + 1) + 6) + (5 * j))) + 1 = nI ((((a + 1) + 6) + (5 * j)) + 1) from nI_add (((a + 1) + 6) + (5 * j)) 1]
      refine lm_G_sg 4 (pc' := 75) (L' := [some (.ref 64), some (.ref 99), some (.int (nI a)), some (.int (nI j)), some (.int (nI (((a + 1) + 6) + (5 * j))))]) (S' := [.int ((lm_wr M2 99 (((a + 1) + 6) + (5 * j)) (M 82 j)) 83 (nI j).toNatClampNeg), .int (nI ((((a + 1) + 6) + (5 * j)) + 1)), .ref 99]) (σ' := lm_T (lm_wr M2 99 (((a + 1) + 6) + (5 * j)) (M 82 j)) v G) rfl ⟨(vp_in_nI (by omega) (by omega)), trivial, trivial⟩ ?_
      rw [show (nI j).toNatClampNeg = j from nI_clamp (by omega)]
      show lm_G X d 177 106 0 0 75 [some (.ref 64), some (.ref 99), some (.int (nI a)), some (.int (nI j)), some (.int (nI (((a + 1) + 6) + (5 * j))))] [.int (M2 83 j), .int (nI ((((a + 1) + 6) + (5 * j)) + 1)), .ref 99] (lm_T (lm_wr M2 99 (((a + 1) + 6) + (5 * j)) (M 82 j)) v G) Q
      rw [show M2 83 j = M 83 j from congrFun (k5 83 rfl) j]
      refine lm_G_sg 1 (pc' := 76) (L' := [some (.ref 64), some (.ref 99), some (.int (nI a)), some (.int (nI j)), some (.int (nI (((a + 1) + 6) + (5 * j))))]) (S' := []) (σ' := lm_T (lm_wr (lm_wr M2 99 (((a + 1) + 6) + (5 * j)) (M 82 j)) 99 ((nI ((((a + 1) + 6) + (5 * j)) + 1)).toNatClampNeg) (M 83 j)) v G) rfl ⟨(vp_in_nI (by omega) (by omega)), trivial, trivial⟩ ?_
      rw [show (nI ((((a + 1) + 6) + (5 * j)) + 1)).toNatClampNeg = ((((a + 1) + 6) + (5 * j)) + 1) from nI_clamp (by omega)]
      refine lm_G_sg 4 (pc' := 81) (L' := [some (.ref 64), some (.ref 99), some (.int (nI a)), some (.int (nI j)), some (.int (nI (((a + 1) + 6) + (5 * j))))]) (S' := [.int ((nI (((a + 1) + 6) + (5 * j))) + 2), .ref 99]) (σ' := lm_T (lm_wr (lm_wr M2 99 (((a + 1) + 6) + (5 * j)) (M 82 j)) 99 ((((a + 1) + 6) + (5 * j)) + 1) (M 83 j)) v G) rfl trivial ?_
      rw [show (nI (((a + 1) + 6) + (5 * j))) + 2 = nI ((((a + 1) + 6) + (5 * j)) + 2) from nI_add (((a + 1) + 6) + (5 * j)) 2]
      refine lm_G_sg 4 (pc' := 87) (L' := [some (.ref 64), some (.ref 99), some (.int (nI a)), some (.int (nI j)), some (.int (nI (((a + 1) + 6) + (5 * j))))]) (S' := [.int ((lm_wr (lm_wr M2 99 (((a + 1) + 6) + (5 * j)) (M 82 j)) 99 ((((a + 1) + 6) + (5 * j)) + 1) (M 83 j)) 84 (nI j).toNatClampNeg), .int (nI ((((a + 1) + 6) + (5 * j)) + 2)), .ref 99]) (σ' := lm_T (lm_wr (lm_wr M2 99 (((a + 1) + 6) + (5 * j)) (M 82 j)) 99 ((((a + 1) + 6) + (5 * j)) + 1) (M 83 j)) v G) rfl ⟨(vp_in_nI (by omega) (by omega)), trivial, trivial⟩ ?_
      rw [show (nI j).toNatClampNeg = j from nI_clamp (by omega)]
      show lm_G X d 177 106 0 0 87 [some (.ref 64), some (.ref 99), some (.int (nI a)), some (.int (nI j)), some (.int (nI (((a + 1) + 6) + (5 * j))))] [.int (M2 84 j), .int (nI ((((a + 1) + 6) + (5 * j)) + 2)), .ref 99] (lm_T (lm_wr (lm_wr M2 99 (((a + 1) + 6) + (5 * j)) (M 82 j)) 99 ((((a + 1) + 6) + (5 * j)) + 1) (M 83 j)) v G) Q
      rw [show M2 84 j = M 84 j from congrFun (k5 84 rfl) j]
      refine lm_G_sg 1 (pc' := 88) (L' := [some (.ref 64), some (.ref 99), some (.int (nI a)), some (.int (nI j)), some (.int (nI (((a + 1) + 6) + (5 * j))))]) (S' := []) (σ' := lm_T (lm_wr (lm_wr (lm_wr M2 99 (((a + 1) + 6) + (5 * j)) (M 82 j)) 99 ((((a + 1) + 6) + (5 * j)) + 1) (M 83 j)) 99 ((nI ((((a + 1) + 6) + (5 * j)) + 2)).toNatClampNeg) (M 84 j)) v G) rfl ⟨(vp_in_nI (by omega) (by omega)), trivial, trivial⟩ ?_
      rw [show (nI ((((a + 1) + 6) + (5 * j)) + 2)).toNatClampNeg = ((((a + 1) + 6) + (5 * j)) + 2) from nI_clamp (by omega)]
      refine lm_G_sg 4 (pc' := 93) (L' := [some (.ref 64), some (.ref 99), some (.int (nI a)), some (.int (nI j)), some (.int (nI (((a + 1) + 6) + (5 * j))))]) (S' := [.int ((nI (((a + 1) + 6) + (5 * j))) + 3), .ref 99]) (σ' := lm_T (lm_wr (lm_wr (lm_wr M2 99 (((a + 1) + 6) + (5 * j)) (M 82 j)) 99 ((((a + 1) + 6) + (5 * j)) + 1) (M 83 j)) 99 ((((a + 1) + 6) + (5 * j)) + 2) (M 84 j)) v G) rfl trivial ?_
      rw [show (nI (((a + 1) + 6) + (5 * j))) + 3 = nI ((((a + 1) + 6) + (5 * j)) + 3) from nI_add (((a + 1) + 6) + (5 * j)) 3]
      refine lm_G_sg 4 (pc' := 99) (L' := [some (.ref 64), some (.ref 99), some (.int (nI a)), some (.int (nI j)), some (.int (nI (((a + 1) + 6) + (5 * j))))]) (S' := [.int ((lm_wr (lm_wr (lm_wr M2 99 (((a + 1) + 6) + (5 * j)) (M 82 j)) 99 ((((a + 1) + 6) + (5 * j)) + 1) (M 83 j)) 99 ((((a + 1) + 6) + (5 * j)) + 2) (M 84 j)) 85 (nI j).toNatClampNeg), .int (nI ((((a + 1) + 6) + (5 * j)) + 3)), .ref 99]) (σ' := lm_T (lm_wr (lm_wr (lm_wr M2 99 (((a + 1) + 6) + (5 * j)) (M 82 j)) 99 ((((a + 1) + 6) + (5 * j)) + 1) (M 83 j)) 99 ((((a + 1) + 6) + (5 * j)) + 2) (M 84 j)) v G) rfl ⟨(vp_in_nI (by omega) (by omega)), trivial, trivial⟩ ?_
      rw [show (nI j).toNatClampNeg = j from nI_clamp (by omega)]
      show lm_G X d 177 106 0 0 99 [some (.ref 64), some (.ref 99), some (.int (nI a)), some (.int (nI j)), some (.int (nI (((a + 1) + 6) + (5 * j))))] [.int (M2 85 j), .int (nI ((((a + 1) + 6) + (5 * j)) + 3)), .ref 99] (lm_T (lm_wr (lm_wr (lm_wr M2 99 (((a + 1) + 6) + (5 * j)) (M 82 j)) 99 ((((a + 1) + 6) + (5 * j)) + 1) (M 83 j)) 99 ((((a + 1) + 6) + (5 * j)) + 2) (M 84 j)) v G) Q
      rw [show M2 85 j = M 85 j from congrFun (k5 85 rfl) j]
      refine lm_G_sg 1 (pc' := 100) (L' := [some (.ref 64), some (.ref 99), some (.int (nI a)), some (.int (nI j)), some (.int (nI (((a + 1) + 6) + (5 * j))))]) (S' := []) (σ' := lm_T (lm_wr (lm_wr (lm_wr (lm_wr M2 99 (((a + 1) + 6) + (5 * j)) (M 82 j)) 99 ((((a + 1) + 6) + (5 * j)) + 1) (M 83 j)) 99 ((((a + 1) + 6) + (5 * j)) + 2) (M 84 j)) 99 ((nI ((((a + 1) + 6) + (5 * j)) + 3)).toNatClampNeg) (M 85 j)) v G) rfl ⟨(vp_in_nI (by omega) (by omega)), trivial, trivial⟩ ?_
      rw [show (nI ((((a + 1) + 6) + (5 * j)) + 3)).toNatClampNeg = ((((a + 1) + 6) + (5 * j)) + 3) from nI_clamp (by omega)]
      refine lm_G_sg 4 (pc' := 105) (L' := [some (.ref 64), some (.ref 99), some (.int (nI a)), some (.int (nI j)), some (.int (nI (((a + 1) + 6) + (5 * j))))]) (S' := [.int ((nI (((a + 1) + 6) + (5 * j))) + 4), .ref 99]) (σ' := lm_T (lm_wr (lm_wr (lm_wr (lm_wr M2 99 (((a + 1) + 6) + (5 * j)) (M 82 j)) 99 ((((a + 1) + 6) + (5 * j)) + 1) (M 83 j)) 99 ((((a + 1) + 6) + (5 * j)) + 2) (M 84 j)) 99 ((((a + 1) + 6) + (5 * j)) + 3) (M 85 j)) v G) rfl trivial ?_
      rw [show (nI (((a + 1) + 6) + (5 * j))) + 4 = nI ((((a + 1) + 6) + (5 * j)) + 4) from nI_add (((a + 1) + 6) + (5 * j)) 4]
      refine lm_G_sg 4 (pc' := 111) (L' := [some (.ref 64), some (.ref 99), some (.int (nI a)), some (.int (nI j)), some (.int (nI (((a + 1) + 6) + (5 * j))))]) (S' := [.int ((lm_wr (lm_wr (lm_wr (lm_wr M2 99 (((a + 1) + 6) + (5 * j)) (M 82 j)) 99 ((((a + 1) + 6) + (5 * j)) + 1) (M 83 j)) 99 ((((a + 1) + 6) + (5 * j)) + 2) (M 84 j)) 99 ((((a + 1) + 6) + (5 * j)) + 3) (M 85 j)) 86 (nI j).toNatClampNeg), .int (nI ((((a + 1) + 6) + (5 * j)) + 4)), .ref 99]) (σ' := lm_T (lm_wr (lm_wr (lm_wr (lm_wr M2 99 (((a + 1) + 6) + (5 * j)) (M 82 j)) 99 ((((a + 1) + 6) + (5 * j)) + 1) (M 83 j)) 99 ((((a + 1) + 6) + (5 * j)) + 2) (M 84 j)) 99 ((((a + 1) + 6) + (5 * j)) + 3) (M 85 j)) v G) rfl ⟨(vp_in_nI (by omega) (by omega)), trivial, trivial⟩ ?_
      rw [show (nI j).toNatClampNeg = j from nI_clamp (by omega)]
      show lm_G X d 177 106 0 0 111 [some (.ref 64), some (.ref 99), some (.int (nI a)), some (.int (nI j)), some (.int (nI (((a + 1) + 6) + (5 * j))))] [.int (M2 86 j), .int (nI ((((a + 1) + 6) + (5 * j)) + 4)), .ref 99] (lm_T (lm_wr (lm_wr (lm_wr (lm_wr M2 99 (((a + 1) + 6) + (5 * j)) (M 82 j)) 99 ((((a + 1) + 6) + (5 * j)) + 1) (M 83 j)) 99 ((((a + 1) + 6) + (5 * j)) + 2) (M 84 j)) 99 ((((a + 1) + 6) + (5 * j)) + 3) (M 85 j)) v G) Q
      rw [show M2 86 j = M 86 j from congrFun (k5 86 rfl) j]
      refine lm_G_sg 1 (pc' := 112) (L' := [some (.ref 64), some (.ref 99), some (.int (nI a)), some (.int (nI j)), some (.int (nI (((a + 1) + 6) + (5 * j))))]) (S' := []) (σ' := lm_T (lm_wr (lm_wr (lm_wr (lm_wr (lm_wr M2 99 (((a + 1) + 6) + (5 * j)) (M 82 j)) 99 ((((a + 1) + 6) + (5 * j)) + 1) (M 83 j)) 99 ((((a + 1) + 6) + (5 * j)) + 2) (M 84 j)) 99 ((((a + 1) + 6) + (5 * j)) + 3) (M 85 j)) 99 ((nI ((((a + 1) + 6) + (5 * j)) + 4)).toNatClampNeg) (M 86 j)) v G) rfl ⟨(vp_in_nI (by omega) (by omega)), trivial, trivial⟩ ?_
      rw [show (nI ((((a + 1) + 6) + (5 * j)) + 4)).toNatClampNeg = ((((a + 1) + 6) + (5 * j)) + 4) from nI_clamp (by omega)]
      refine lm_G_sg 1 (pc' := 115) (L' := [some (.ref 64), some (.ref 99), some (.int (nI a)), some (.int ((nI j) + 1)), some (.int (nI (((a + 1) + 6) + (5 * j))))]) (S' := []) (σ' := lm_T (lm_wr (lm_wr (lm_wr (lm_wr (lm_wr M2 99 (((a + 1) + 6) + (5 * j)) (M 82 j)) 99 ((((a + 1) + 6) + (5 * j)) + 1) (M 83 j)) 99 ((((a + 1) + 6) + (5 * j)) + 2) (M 84 j)) 99 ((((a + 1) + 6) + (5 * j)) + 3) (M 85 j)) 99 ((((a + 1) + 6) + (5 * j)) + 4) (M 86 j)) v G) rfl trivial ?_
      rw [nI_1]
      refine lm_G_sg 1 (pc' := 36) (L' := [some (.ref 64), some (.ref 99), some (.int (nI a)), some (.int (nI (j + 1))), some (.int (nI (((a + 1) + 6) + (5 * j))))]) (S' := []) (σ' := lm_T (lm_wr (lm_wr (lm_wr (lm_wr (lm_wr M2 99 (((a + 1) + 6) + (5 * j)) (M 82 j)) 99 ((((a + 1) + 6) + (5 * j)) + 1) (M 83 j)) 99 ((((a + 1) + 6) + (5 * j)) + 2) (M 84 j)) 99 ((((a + 1) + 6) + (5 * j)) + 3) (M 85 j)) 99 ((((a + 1) + 6) + (5 * j)) + 4) (M 86 j)) v G) rfl trivial ?_
      refine lm_G_jk (L := [some (.ref 64), some (.ref 99), some (.int (nI a)), some (.int (nI (j + 1))), none]) ⟨rfl, rfl, rfl, rfl, trivial⟩ ?_
      exact ih2 _ (⟨by rw [wr_at (by omega), wr_at (by omega), wr_at (by omega), wr_at (by omega), wr_at (by omega)]; exact k1, fun t ht => by rw [wr_at (by omega), wr_at (by omega), wr_at (by omega), wr_at (by omega), wr_at (by omega)]; exact k2 t ht, fun q hq => if e : q = j then (by subst e; exact ⟨by rw [wr_at (by omega), wr_at (by omega), wr_at (by omega), wr_at (by omega), wr_same], by rw [wr_at (by omega), wr_at (by omega), wr_at (by omega), wr_same], by rw [wr_at (by omega), wr_at (by omega), wr_same], by rw [wr_at (by omega), wr_same], by rw [wr_same]⟩) else (by obtain ⟨a1, a2, a3, a4, a5⟩ := k3 q (by omega); exact ⟨by rw [wr_at (by omega), wr_at (by omega), wr_at (by omega), wr_at (by omega), wr_at (by omega)]; exact a1, by rw [wr_at (by omega), wr_at (by omega), wr_at (by omega), wr_at (by omega), wr_at (by omega)]; exact a2, by rw [wr_at (by omega), wr_at (by omega), wr_at (by omega), wr_at (by omega), wr_at (by omega)]; exact a3, by rw [wr_at (by omega), wr_at (by omega), wr_at (by omega), wr_at (by omega), wr_at (by omega)]; exact a4, by rw [wr_at (by omega), wr_at (by omega), wr_at (by omega), wr_at (by omega), wr_at (by omega)]; exact a5⟩), fun i hi => by rw [wr_at (by omega), wr_at (by omega), wr_at (by omega), wr_at (by omega), wr_at (by omega)]; exact k4 i hi, Fr_wr (Fr_wr (Fr_wr (Fr_wr (Fr_wr k5 rfl) rfl) rfl) rfl) rfl⟩)
    ·
      revert hI2
      revert zz
      intro M2 hI2
      replace hI2 : M2 99 a = M 64 36 ∧ (∀ t, t < 6 → M2 99 (a + 1 + t) = M 81 t) ∧ (∀ q, q < 8 → M2 99 (a + 1 + 6 + 5 * q) = M 82 q ∧ M2 99 (a + 1 + 6 + 5 * q + 1) = M 83 q ∧ M2 99 (a + 1 + 6 + 5 * q + 2) = M 84 q ∧ M2 99 (a + 1 + 6 + 5 * q + 3) = M 85 q ∧ M2 99 (a + 1 + 6 + 5 * q + 4) = M 86 q) ∧ (∀ i, i < a ∨ a + 47 ≤ i → M2 99 i = M 99 i) ∧ Fr (frO 99) M M2 := hI2
      show lm_G X d 177 106 0 0 36 [some (.ref 64), some (.ref 99), some (.int (nI a)), some (.int (nI 8)), none] [] (lm_T M2 v G) Q
      obtain ⟨k1, k2, k3, k4, k5⟩ := hI2
      refine lm_G_sg 2 (pc' := 39) (L' := [some (.ref 64), some (.ref 99), some (.int (nI a)), some (.int (nI 8)), none]) (S' := [.int 8, .int (nI 8)]) (σ' := lm_T M2 v G) rfl trivial ?_
      refine lm_G_br (b := 8 ≤ (nI 8)) (t := 118) (S' := []) rfl (fun hc => ?_) (fun hc => absurd (nI_le (a := 8) (Nat.le_refl _) (by omega)) hc)
      exact lm_G_re rfl trivial (Nat.zero_le _) (Nat.zero_le _) (hQ _ ⟨k1.trans h.hr, fun t ht => (k2 t (by omega)).trans (h.ow t ht), fun p hp => by
              obtain ⟨a1, a2, a3, a4, a5⟩ := k3 p (by omega)
              exact ⟨a1.trans (h.hu p hp), a2.trans (h.hd p hp), a3.trans (h.id p hp), a4.trans (h.pl p hp), a5.trans (h.co p hp)⟩⟩ k4 k5)
    ·
      try dsimp only
      exact ⟨i1, i2, fun q hq => by omega, i3, i4⟩
  ·
    try dsimp only
    exact ⟨wr_same, fun t ht => by omega, fun i hi => wr_at (by omega), Fr_wr (Fr_rf _ _) rfl⟩
set_option maxRecDepth 10000 in
theorem m_unpack99 {X : lm_X} {d v : Nat} {M : Nat → Nat → Int32} {G : Nat → Nat → Int64} {Q : lm_O → lm_S → Prop} {F : Fa} {s : Sc} {a : Nat} (hF : okF F) (hk : KM M F) (hb : Ag (fN F) (M 79) (sBr s)) (hv : SavM (M 99) a F s) (ha : a + 47 ≤ 47) (hQ : ∀ M1, RM M1 F s → FrU M M1 → Q (.inl none) (lm_T M1 v G)) : lm_Q X d 178 [.ref 64, .ref 99, .int (nI a)] (lm_T M v G) Q := by
  have hn := hF.n
  have hm := hF.m
  show lm_G X d 178 106 0 0 0 [some (.ref 64), some (.ref 99), some (.int (nI a)), none, none] [] (lm_T M v G) Q
  refine lm_G_sg 4 (pc' := 4) (L' := [some (.ref 64), some (.ref 99), some (.int (nI a)), none, none]) (S' := [.int (M 99 (nI a).toNatClampNeg), .ref 64]) (σ' := lm_T M v G) rfl ⟨(vp_in_nI (by omega) (by omega)), trivial, trivial⟩ ?_
  rw [show (nI a).toNatClampNeg = a from nI_clamp (by omega)]
  refine lm_G_sg 3 (pc' := 9) (L' := [some (.ref 64), some (.ref 99), some (.int (nI a)), some (.int 0), none]) (S' := []) (σ' := lm_T (lm_wr M 64 36 (M 99 a)) v G) rfl ⟨trivial, trivial, trivial⟩ ?_
  refine lm_ind (α := (Nat → Fn)) (St := fun (j : Nat) zz => (fun (M1 : Nat → Fn) => lm_G X d 178 106 0 0 9 [some (.ref 64), some (.ref 99), some (.int (nI a)), some (.int (nI j)), none] [] (lm_T M1 v G) Q) zz) (Inv := fun (j : Nat) zz => (fun (M1 : Nat → Fn) => Ag j (M1 81) (fun t => M 99 (a + 1 + t)) ∧ M1 64 36 = M 99 a ∧ FrU M M1) zz) (6) (fun j zz hj hI ih => ?_) (fun zz hI => ?_) (0) (lm_wr M 64 36 (M 99 a)) (by omega) ?_
  ·
    revert ih hI
    revert zz
    intro M1 hI ih
    replace hI : Ag j (M1 81) (fun t => M 99 (a + 1 + t)) ∧ M1 64 36 = M 99 a ∧ FrU M M1 := hI
    replace ih : ∀ (M1 : Nat → Fn) (_ : Ag (j + 1) (M1 81) (fun t => M 99 (a + 1 + t)) ∧ M1 64 36 = M 99 a ∧ FrU M M1), lm_G X d 178 106 0 0 9 [some (.ref 64), some (.ref 99), some (.int (nI a)), some (.int (nI (j + 1))), none] [] (lm_T M1 v G) Q := fun M1 q => ih M1 q
    show lm_G X d 178 106 0 0 9 [some (.ref 64), some (.ref 99), some (.int (nI a)), some (.int (nI j)), none] [] (lm_T M1 v G) Q
    obtain ⟨i1, i2, i3⟩ := hI
    refine lm_G_sg 2 (pc' := 12) (L' := [some (.ref 64), some (.ref 99), some (.int (nI a)), some (.int (nI j)), none]) (S' := [.int 6, .int (nI j)]) (σ' := lm_T M1 v G) rfl trivial ?_
    refine lm_G_br (b := 6 ≤ (nI j)) (t := 34) (S' := []) rfl (fun hc => absurd hc (nI_ge (b := 6) hj (by omega))) (fun hc => ?_)
    refine lm_G_sg 7 (pc' := 24) (L' := [some (.ref 64), some (.ref 99), some (.int (nI a)), some (.int (nI j)), none]) (S' := [.int ((nI a) + 1), .ref 99, .int (nI j), .ref 81]) (σ' := lm_T M1 v G) rfl trivial ?_
    rw [show (nI a) + 1 = nI (a + 1) from nI_add a 1]
    refine lm_G_sg 2 (pc' := 26) (L' := [some (.ref 64), some (.ref 99), some (.int (nI a)), some (.int (nI j)), none]) (S' := [.int ((nI (a + 1)) + (nI j)), .ref 99, .int (nI j), .ref 81]) (σ' := lm_T M1 v G) rfl trivial ?_
    rw [show (nI (a + 1)) + (nI j) = nI ((a + 1) + j) from nI_add (a + 1) j]
    refine lm_G_sg 1 (pc' := 27) (L' := [some (.ref 64), some (.ref 99), some (.int (nI a)), some (.int (nI j)), none]) (S' := [.int (M1 99 (nI ((a + 1) + j)).toNatClampNeg), .int (nI j), .ref 81]) (σ' := lm_T M1 v G) rfl ⟨(vp_in_nI (by omega) (by omega)), trivial, trivial⟩ ?_
    rw [show (nI ((a + 1) + j)).toNatClampNeg = ((a + 1) + j) from nI_clamp (by omega)]
    rw [show M1 99 ((a + 1) + j) = M 99 ((a + 1) + j) from congrFun (i3.1 99 rfl) ((a + 1) + j)]
    refine lm_G_sg 1 (pc' := 28) (L' := [some (.ref 64), some (.ref 99), some (.int (nI a)), some (.int (nI j)), none]) (S' := []) (σ' := lm_T (lm_wr M1 81 ((nI j).toNatClampNeg) (M 99 ((a + 1) + j))) v G) rfl ⟨(vp_in_nI (by omega) (by omega)), trivial, trivial⟩ ?_
    rw [show (nI j).toNatClampNeg = j from nI_clamp (by omega)]
    refine lm_G_sg 1 (pc' := 31) (L' := [some (.ref 64), some (.ref 99), some (.int (nI a)), some (.int ((nI j) + 1)), none]) (S' := []) (σ' := lm_T (lm_wr M1 81 j (M 99 ((a + 1) + j))) v G) rfl trivial ?_
    rw [nI_1]
    refine lm_G_sg 1 (pc' := 9) (L' := [some (.ref 64), some (.ref 99), some (.int (nI a)), some (.int (nI (j + 1))), none]) (S' := []) (σ' := lm_T (lm_wr M1 81 j (M 99 ((a + 1) + j))) v G) rfl trivial ?_
    exact ih _ (⟨Ag_nx i1 rfl, i2, Fr_wr i3.1 rfl, i3.2⟩)
  ·
    revert hI
    revert zz
    intro M1 hI
    replace hI : Ag 6 (M1 81) (fun t => M 99 (a + 1 + t)) ∧ M1 64 36 = M 99 a ∧ FrU M M1 := hI
    show lm_G X d 178 106 0 0 9 [some (.ref 64), some (.ref 99), some (.int (nI a)), some (.int (nI 6)), none] [] (lm_T M1 v G) Q
    obtain ⟨i1, i2, i3⟩ := hI
    refine lm_G_sg 2 (pc' := 12) (L' := [some (.ref 64), some (.ref 99), some (.int (nI a)), some (.int (nI 6)), none]) (S' := [.int 6, .int (nI 6)]) (σ' := lm_T M1 v G) rfl trivial ?_
    refine lm_G_br (b := 6 ≤ (nI 6)) (t := 34) (S' := []) rfl (fun hc => ?_) (fun hc => absurd (nI_le (a := 6) (Nat.le_refl _) (by omega)) hc)
    refine lm_G_sg 2 (pc' := 36) (L' := [some (.ref 64), some (.ref 99), some (.int (nI a)), some (.int 0), none]) (S' := []) (σ' := lm_T M1 v G) rfl trivial ?_
    refine lm_ind (α := (Nat → Fn)) (St := fun (j : Nat) zz => (fun (M2 : Nat → Fn) => lm_G X d 178 106 0 0 36 [some (.ref 64), some (.ref 99), some (.int (nI a)), some (.int (nI j)), none] [] (lm_T M2 v G) Q) zz) (Inv := fun (j : Nat) zz => (fun (M2 : Nat → Fn) => Ag 6 (M2 81) (fun t => M 99 (a + 1 + t)) ∧ M2 64 36 = M 99 a ∧ FrU M M2 ∧ Ag j (M2 82) (fun q => M 99 (a + 1 + 6 + 5 * q)) ∧ Ag j (M2 83) (fun q => M 99 (a + 1 + 6 + 5 * q + 1)) ∧ Ag j (M2 84) (fun q => M 99 (a + 1 + 6 + 5 * q + 2)) ∧ Ag j (M2 85) (fun q => M 99 (a + 1 + 6 + 5 * q + 3)) ∧ Ag j (M2 86) (fun q => M 99 (a + 1 + 6 + 5 * q + 4))) zz) (8) (fun j zz hj2 hI2 ih2 => ?_) (fun zz hI2 => ?_) (0) M1 (by omega) ?_
    ·
      revert ih2 hI2
      revert zz
      intro M2 hI2 ih2
      replace hI2 : Ag 6 (M2 81) (fun t => M 99 (a + 1 + t)) ∧ M2 64 36 = M 99 a ∧ FrU M M2 ∧ Ag j (M2 82) (fun q => M 99 (a + 1 + 6 + 5 * q)) ∧ Ag j (M2 83) (fun q => M 99 (a + 1 + 6 + 5 * q + 1)) ∧ Ag j (M2 84) (fun q => M 99 (a + 1 + 6 + 5 * q + 2)) ∧ Ag j (M2 85) (fun q => M 99 (a + 1 + 6 + 5 * q + 3)) ∧ Ag j (M2 86) (fun q => M 99 (a + 1 + 6 + 5 * q + 4)) := hI2
      replace ih2 : ∀ (M2 : Nat → Fn) (_ : Ag 6 (M2 81) (fun t => M 99 (a + 1 + t)) ∧ M2 64 36 = M 99 a ∧ FrU M M2 ∧ Ag (j + 1) (M2 82) (fun q => M 99 (a + 1 + 6 + 5 * q)) ∧ Ag (j + 1) (M2 83) (fun q => M 99 (a + 1 + 6 + 5 * q + 1)) ∧ Ag (j + 1) (M2 84) (fun q => M 99 (a + 1 + 6 + 5 * q + 2)) ∧ Ag (j + 1) (M2 85) (fun q => M 99 (a + 1 + 6 + 5 * q + 3)) ∧ Ag (j + 1) (M2 86) (fun q => M 99 (a + 1 + 6 + 5 * q + 4))), lm_G X d 178 106 0 0 36 [some (.ref 64), some (.ref 99), some (.int (nI a)), some (.int (nI (j + 1))), none] [] (lm_T M2 v G) Q := fun M2 q => ih2 M2 q
      show lm_G X d 178 106 0 0 36 [some (.ref 64), some (.ref 99), some (.int (nI a)), some (.int (nI j)), none] [] (lm_T M2 v G) Q
      obtain ⟨k1, k2, k3, g1, g2, g3, g4, g5⟩ := hI2
      refine lm_G_sg 2 (pc' := 39) (L' := [some (.ref 64), some (.ref 99), some (.int (nI a)), some (.int (nI j)), none]) (S' := [.int 8, .int (nI j)]) (σ' := lm_T M2 v G) rfl trivial ?_
      refine lm_G_br (b := 8 ≤ (nI j)) (t := 118) (S' := []) rfl (fun hc => absurd hc (nI_ge (b := 8) hj2 (by omega))) (fun hc => ?_)
      refine lm_G_sg 3 (pc' := 45) (L' := [some (.ref 64), some (.ref 99), some (.int (nI a)), some (.int (nI j)), none]) (S' := [.int ((nI a) + 1)]) (σ' := lm_T M2 v G) rfl trivial ?_
      rw [show (nI a) + 1 = nI (a + 1) from nI_add a 1]
      refine lm_G_sg 2 (pc' := 48) (L' := [some (.ref 64), some (.ref 99), some (.int (nI a)), some (.int (nI j)), none]) (S' := [.int ((nI (a + 1)) + 6)]) (σ' := lm_T M2 v G) rfl trivial ?_
      rw [show (nI (a + 1)) + 6 = nI ((a + 1) + 6) from nI_add (a + 1) 6]
      refine lm_G_sg 3 (pc' := 51) (L' := [some (.ref 64), some (.ref 99), some (.int (nI a)), some (.int (nI j)), none]) (S' := [.int (5 * (nI j)), .int (nI ((a + 1) + 6))]) (σ' := lm_T M2 v G) rfl trivial ?_
      rw [show 5 * (nI j) = nI (5 * j) from pk_mul 5 j]
      refine lm_G_sg 1 (pc' := 52) (L' := [some (.ref 64), some (.ref 99), some (.int (nI a)), some (.int (nI j)), none]) (S' := [.int ((nI ((a + 1) + 6)) + (nI (5 * j)))]) (σ' := lm_T M2 v G) rfl trivial ?_
      rw [show (nI ((a + 1) + 6)) + (nI (5 * j)) = nI (((a + 1) + 6) + (5 * j)) from nI_add ((a + 1) + 6) (5 * j)]
      refine lm_G_sg 7 (pc' := 63) (L' := [some (.ref 64), some (.ref 99), some (.int (nI a)), some (.int (nI j)), some (.int (nI (((a + 1) + 6) + (5 * j))))]) (S' := [.int (M2 99 (nI (((a + 1) + 6) + (5 * j))).toNatClampNeg), .int (nI j), .ref 82]) (σ' := lm_T M2 v G) rfl ⟨(vp_in_nI (by omega) (by omega)), trivial, trivial⟩ ?_
      rw [show (nI (((a + 1) + 6) + (5 * j))).toNatClampNeg = (((a + 1) + 6) + (5 * j)) from nI_clamp (by omega)]
      rw [show M2 99 (((a + 1) + 6) + (5 * j)) = M 99 (((a + 1) + 6) + (5 * j)) from congrFun (k3.1 99 rfl) (((a + 1) + 6) + (5 * j))]
      refine lm_G_sg 1 (pc' := 64) (L' := [some (.ref 64), some (.ref 99), some (.int (nI a)), some (.int (nI j)), some (.int (nI (((a + 1) + 6) + (5 * j))))]) (S' := []) (σ' := lm_T (lm_wr M2 82 ((nI j).toNatClampNeg) (M 99 (((a + 1) + 6) + (5 * j)))) v G) rfl ⟨(vp_in_nI (by omega) (by omega)), trivial, trivial⟩ ?_
      rw [show (nI j).toNatClampNeg = j from nI_clamp (by omega)]
      refine lm_G_sg 7 (pc' := 74) (L' := [some (.ref 64), some (.ref 99), some (.int (nI a)), some (.int (nI j)), some (.int (nI (((a + 1) + 6) + (5 * j))))]) (S' := [.int ((nI (((a + 1) + 6) + (5 * j))) + 1), .ref 99, .int (nI j), .ref 83]) (σ' := lm_T (lm_wr M2 82 j (M 99 (((a + 1) + 6) + (5 * j)))) v G) rfl trivial ?_
      rw [show (nI (((a + 1) + 6) + (5 * j))) + 1 = nI ((((a + 1) + 6) + (5 * j)) + 1) from nI_add (((a + 1) + 6) + (5 * j)) 1]
      refine lm_G_sg 1 (pc' := 75) (L' := [some (.ref 64), some (.ref 99), some (.int (nI a)), some (.int (nI j)), some (.int (nI (((a + 1) + 6) + (5 * j))))]) (S' := [.int ((lm_wr M2 82 j (M 99 (((a + 1) + 6) + (5 * j)))) 99 (nI ((((a + 1) + 6) + (5 * j)) + 1)).toNatClampNeg), .int (nI j), .ref 83]) (σ' := lm_T (lm_wr M2 82 j (M 99 (((a + 1) + 6) + (5 * j)))) v G) rfl ⟨(vp_in_nI (by omega) (by omega)), trivial, trivial⟩ ?_
      rw [show (nI ((((a + 1) + 6) + (5 * j)) + 1)).toNatClampNeg = ((((a + 1) + 6) + (5 * j)) + 1) from nI_clamp (by omega)]
      show lm_G X d 178 106 0 0 75 [some (.ref 64), some (.ref 99), some (.int (nI a)), some (.int (nI j)), some (.int (nI (((a + 1) + 6) + (5 * j))))] [.int (M2 99 ((((a + 1) + 6) + (5 * j)) + 1)), .int (nI j), .ref 83] (lm_T (lm_wr M2 82 j (M 99 (((a + 1) + 6) + (5 * j)))) v G) Q
      rw [show M2 99 ((((a + 1) + 6) + (5 * j)) + 1) = M 99 ((((a + 1) + 6) + (5 * j)) + 1) from congrFun (k3.1 99 rfl) ((((a + 1) + 6) + (5 * j)) + 1)]
      refine lm_G_sg 1 (pc' := 76) (L' := [some (.ref 64), some (.ref 99), some (.int (nI a)), some (.int (nI j)), some (.int (nI (((a + 1) + 6) + (5 * j))))]) (S' := []) (σ' := lm_T (lm_wr (lm_wr M2 82 j (M 99 (((a + 1) + 6) + (5 * j)))) 83 ((nI j).toNatClampNeg) (M 99 ((((a + 1) + 6) + (5 * j)) + 1))) v G) rfl ⟨(vp_in_nI (by omega) (by omega)), trivial, trivial⟩ ?_
      rw [show (nI j).toNatClampNeg = j from nI_clamp (by omega)]
      refine lm_G_sg 7 (pc' := 86) (L' := [some (.ref 64), some (.ref 99), some (.int (nI a)), some (.int (nI j)), some (.int (nI (((a + 1) + 6) + (5 * j))))]) (S' := [.int ((nI (((a + 1) + 6) + (5 * j))) + 2), .ref 99, .int (nI j), .ref 84]) (σ' := lm_T (lm_wr (lm_wr M2 82 j (M 99 (((a + 1) + 6) + (5 * j)))) 83 j (M 99 ((((a + 1) + 6) + (5 * j)) + 1))) v G) rfl trivial ?_
      rw [show (nI (((a + 1) + 6) + (5 * j))) + 2 = nI ((((a + 1) + 6) + (5 * j)) + 2) from nI_add (((a + 1) + 6) + (5 * j)) 2]
      refine lm_G_sg 1 (pc' := 87) (L' := [some (.ref 64), some (.ref 99), some (.int (nI a)), some (.int (nI j)), some (.int (nI (((a + 1) + 6) + (5 * j))))]) (S' := [.int ((lm_wr (lm_wr M2 82 j (M 99 (((a + 1) + 6) + (5 * j)))) 83 j (M 99 ((((a + 1) + 6) + (5 * j)) + 1))) 99 (nI ((((a + 1) + 6) + (5 * j)) + 2)).toNatClampNeg), .int (nI j), .ref 84]) (σ' := lm_T (lm_wr (lm_wr M2 82 j (M 99 (((a + 1) + 6) + (5 * j)))) 83 j (M 99 ((((a + 1) + 6) + (5 * j)) + 1))) v G) rfl ⟨(vp_in_nI (by omega) (by omega)), trivial, trivial⟩ ?_
      rw [show (nI ((((a + 1) + 6) + (5 * j)) + 2)).toNatClampNeg = ((((a + 1) + 6) + (5 * j)) + 2) from nI_clamp (by omega)]
      show lm_G X d 178 106 0 0 87 [some (.ref 64), some (.ref 99), some (.int (nI a)), some (.int (nI j)), some (.int (nI (((a + 1) + 6) + (5 * j))))] [.int (M2 99 ((((a + 1) + 6) + (5 * j)) + 2)), .int (nI j), .ref 84] (lm_T (lm_wr (lm_wr M2 82 j (M 99 (((a + 1) + 6) + (5 * j)))) 83 j (M 99 ((((a + 1) + 6) + (5 * j)) + 1))) v G) Q
      rw [show M2 99 ((((a + 1) + 6) + (5 * j)) + 2) = M 99 ((((a + 1) + 6) + (5 * j)) + 2) from congrFun (k3.1 99 rfl) ((((a + 1) + 6) + (5 * j)) + 2)]
      refine lm_G_sg 1 (pc' := 88) (L' := [some (.ref 64), some (.ref 99), some (.int (nI a)), some (.int (nI j)), some (.int (nI (((a + 1) + 6) + (5 * j))))]) (S' := []) (σ' := lm_T (lm_wr (lm_wr (lm_wr M2 82 j (M 99 (((a + 1) + 6) + (5 * j)))) 83 j (M 99 ((((a + 1) + 6) + (5 * j)) + 1))) 84 ((nI j).toNatClampNeg) (M 99 ((((a + 1) + 6) + (5 * j)) + 2))) v G) rfl ⟨(vp_in_nI (by omega) (by omega)), trivial, trivial⟩ ?_
      rw [show (nI j).toNatClampNeg = j from nI_clamp (by omega)]
      refine lm_G_sg 7 (pc' := 98) (L' := [some (.ref 64), some (.ref 99), some (.int (nI a)), some (.int (nI j)), some (.int (nI (((a + 1) + 6) + (5 * j))))]) (S' := [.int ((nI (((a + 1) + 6) + (5 * j))) + 3), .ref 99, .int (nI j), .ref 85]) (σ' := lm_T (lm_wr (lm_wr (lm_wr M2 82 j (M 99 (((a + 1) + 6) + (5 * j)))) 83 j (M 99 ((((a + 1) + 6) + (5 * j)) + 1))) 84 j (M 99 ((((a + 1) + 6) + (5 * j)) + 2))) v G) rfl trivial ?_
      rw [show (nI (((a + 1) + 6) + (5 * j))) + 3 = nI ((((a + 1) + 6) + (5 * j)) + 3) from nI_add (((a + 1) + 6) + (5 * j)) 3]
      refine lm_G_sg 1 (pc' := 99) (L' := [some (.ref 64), some (.ref 99), some (.int (nI a)), some (.int (nI j)), some (.int (nI (((a + 1) + 6) + (5 * j))))]) (S' := [.int ((lm_wr (lm_wr (lm_wr M2 82 j (M 99 (((a + 1) + 6) + (5 * j)))) 83 j (M 99 ((((a + 1) + 6) + (5 * j)) + 1))) 84 j (M 99 ((((a + 1) + 6) + (5 * j)) + 2))) 99 (nI ((((a + 1) + 6) + (5 * j)) + 3)).toNatClampNeg), .int (nI j), .ref 85]) (σ' := lm_T (lm_wr (lm_wr (lm_wr M2 82 j (M 99 (((a + 1) + 6) + (5 * j)))) 83 j (M 99 ((((a + 1) + 6) + (5 * j)) + 1))) 84 j (M 99 ((((a + 1) + 6) + (5 * j)) + 2))) v G) rfl ⟨(vp_in_nI (by omega) (by omega)), trivial, trivial⟩ ?_
      rw [show (nI ((((a + 1) + 6) + (5 * j)) + 3)).toNatClampNeg = ((((a + 1) + 6) + (5 * j)) + 3) from nI_clamp (by omega)]
      show lm_G X d 178 106 0 0 99 [some (.ref 64), some (.ref 99), some (.int (nI a)), some (.int (nI j)), some (.int (nI (((a + 1) + 6) + (5 * j))))] [.int (M2 99 ((((a + 1) + 6) + (5 * j)) + 3)), .int (nI j), .ref 85] (lm_T (lm_wr (lm_wr (lm_wr M2 82 j (M 99 (((a + 1) + 6) + (5 * j)))) 83 j (M 99 ((((a + 1) + 6) + (5 * j)) + 1))) 84 j (M 99 ((((a + 1) + 6) + (5 * j)) + 2))) v G) Q
      rw [show M2 99 ((((a + 1) + 6) + (5 * j)) + 3) = M 99 ((((a + 1) + 6) + (5 * j)) + 3) from congrFun (k3.1 99 rfl) ((((a + 1) + 6) + (5 * j)) + 3)]
      refine lm_G_sg 1 (pc' := 100) (L' := [some (.ref 64), some (.ref 99), some (.int (nI a)), some (.int (nI j)), some (.int (nI (((a + 1) + 6) + (5 * j))))]) (S' := []) (σ' := lm_T (lm_wr (lm_wr (lm_wr (lm_wr M2 82 j (M 99 (((a + 1) + 6) + (5 * j)))) 83 j (M 99 ((((a + 1) + 6) + (5 * j)) + 1))) 84 j (M 99 ((((a + 1) + 6) + (5 * j)) + 2))) 85 ((nI j).toNatClampNeg) (M 99 ((((a + 1) + 6) + (5 * j)) + 3))) v G) rfl ⟨(vp_in_nI (by omega) (by omega)), trivial, trivial⟩ ?_
      rw [show (nI j).toNatClampNeg = j from nI_clamp (by omega)]
      refine lm_G_sg 7 (pc' := 110) (L' := [some (.ref 64), some (.ref 99), some (.int (nI a)), some (.int (nI j)), some (.int (nI (((a + 1) + 6) + (5 * j))))]) (S' := [.int ((nI (((a + 1) + 6) + (5 * j))) + 4), .ref 99, .int (nI j), .ref 86]) (σ' := lm_T (lm_wr (lm_wr (lm_wr (lm_wr M2 82 j (M 99 (((a + 1) + 6) + (5 * j)))) 83 j (M 99 ((((a + 1) + 6) + (5 * j)) + 1))) 84 j (M 99 ((((a + 1) + 6) + (5 * j)) + 2))) 85 j (M 99 ((((a + 1) + 6) + (5 * j)) + 3))) v G) rfl trivial ?_
      rw [show (nI (((a + 1) + 6) + (5 * j))) + 4 = nI ((((a + 1) + 6) + (5 * j)) + 4) from nI_add (((a + 1) + 6) + (5 * j)) 4]
      refine lm_G_sg 1 (pc' := 111) (L' := [some (.ref 64), some (.ref 99), some (.int (nI a)), some (.int (nI j)), some (.int (nI (((a + 1) + 6) + (5 * j))))]) (S' := [.int ((lm_wr (lm_wr (lm_wr (lm_wr M2 82 j (M 99 (((a + 1) + 6) + (5 * j)))) 83 j (M 99 ((((a + 1) + 6) + (5 * j)) + 1))) 84 j (M 99 ((((a + 1) + 6) + (5 * j)) + 2))) 85 j (M 99 ((((a + 1) + 6) + (5 * j)) + 3))) 99 (nI ((((a + 1) + 6) + (5 * j)) + 4)).toNatClampNeg), .int (nI j), .ref 86]) (σ' := lm_T (lm_wr (lm_wr (lm_wr (lm_wr M2 82 j (M 99 (((a + 1) + 6) + (5 * j)))) 83 j (M 99 ((((a + 1) + 6) + (5 * j)) + 1))) 84 j (M 99 ((((a + 1) + 6) + (5 * j)) + 2))) 85 j (M 99 ((((a + 1) + 6) + (5 * j)) + 3))) v G) rfl ⟨(vp_in_nI (by omega) (by omega)), trivial, trivial⟩ ?_
      rw [show (nI ((((a + 1) + 6) + (5 * j)) + 4)).toNatClampNeg = ((((a + 1) + 6) + (5 * j)) + 4) from nI_clamp (by omega)]
      show lm_G X d 178 106 0 0 111 [some (.ref 64), some (.ref 99), some (.int (nI a)), some (.int (nI j)), some (.int (nI (((a + 1) + 6) + (5 * j))))] [.int (M2 99 ((((a + 1) + 6) + (5 * j)) + 4)), .int (nI j), .ref 86] (lm_T (lm_wr (lm_wr (lm_wr (lm_wr M2 82 j (M 99 (((a + 1) + 6) + (5 * j)))) 83 j (M 99 ((((a + 1) + 6) + (5 * j)) + 1))) 84 j (M 99 ((((a + 1) + 6) + (5 * j)) + 2))) 85 j (M 99 ((((a + 1) + 6) + (5 * j)) + 3))) v G) Q
      rw [show M2 99 ((((a + 1) + 6) + (5 * j)) + 4) = M 99 ((((a + 1) + 6) + (5 * j)) + 4) from congrFun (k3.1 99 rfl) ((((a + 1) + 6) + (5 * j)) + 4)]
      refine lm_G_sg 1 (pc' := 112) (L' := [some (.ref 64), some (.ref 99), some (.int (nI a)), some (.int (nI j)), some (.int (nI (((a + 1) + 6) + (5 * j))))]) (S' := []) (σ' := lm_T (lm_wr (lm_wr (lm_wr (lm_wr (lm_wr M2 82 j (M 99 (((a + 1) + 6) + (5 * j)))) 83 j (M 99 ((((a + 1) + 6) + (5 * j)) + 1))) 84 j (M 99 ((((a + 1) + 6) + (5 * j)) + 2))) 85 j (M 99 ((((a + 1) + 6) + (5 * j)) + 3))) 86 ((nI j).toNatClampNeg) (M 99 ((((a + 1) + 6) + (5 * j)) + 4))) v G) rfl ⟨(vp_in_nI (by omega) (by omega)), trivial, trivial⟩ ?_
      rw [show (nI j).toNatClampNeg = j from nI_clamp (by omega)]
      refine lm_G_sg 1 (pc' := 115) (L' := [some (.ref 64), some (.ref 99), some (.int (nI a)), some (.int ((nI j) + 1)), some (.int (nI (((a + 1) + 6) + (5 * j))))]) (S' := []) (σ' := lm_T (lm_wr (lm_wr (lm_wr (lm_wr (lm_wr M2 82 j (M 99 (((a + 1) + 6) + (5 * j)))) 83 j (M 99 ((((a + 1) + 6) + (5 * j)) + 1))) 84 j (M 99 ((((a + 1) + 6) + (5 * j)) + 2))) 85 j (M 99 ((((a + 1) + 6) + (5 * j)) + 3))) 86 j (M 99 ((((a + 1) + 6) + (5 * j)) + 4))) v G) rfl trivial ?_
      rw [nI_1]
      refine lm_G_sg 1 (pc' := 36) (L' := [some (.ref 64), some (.ref 99), some (.int (nI a)), some (.int (nI (j + 1))), some (.int (nI (((a + 1) + 6) + (5 * j))))]) (S' := []) (σ' := lm_T (lm_wr (lm_wr (lm_wr (lm_wr (lm_wr M2 82 j (M 99 (((a + 1) + 6) + (5 * j)))) 83 j (M 99 ((((a + 1) + 6) + (5 * j)) + 1))) 84 j (M 99 ((((a + 1) + 6) + (5 * j)) + 2))) 85 j (M 99 ((((a + 1) + 6) + (5 * j)) + 3))) 86 j (M 99 ((((a + 1) + 6) + (5 * j)) + 4))) v G) rfl trivial ?_
      refine lm_G_jk (L := [some (.ref 64), some (.ref 99), some (.int (nI a)), some (.int (nI (j + 1))), none]) ⟨rfl, rfl, rfl, rfl, trivial⟩ ?_
      exact ih2 _ (⟨k1, k2, ⟨Fr_wr (Fr_wr (Fr_wr (Fr_wr (Fr_wr k3.1 rfl) rfl) rfl) rfl) rfl, k3.2⟩, Ag_nx g1 rfl, Ag_nx g2 rfl, Ag_nx g3 rfl, Ag_nx g4 rfl, Ag_nx g5 rfl⟩)
    ·
      revert hI2
      revert zz
      intro M2 hI2
      replace hI2 : Ag 6 (M2 81) (fun t => M 99 (a + 1 + t)) ∧ M2 64 36 = M 99 a ∧ FrU M M2 ∧ Ag 8 (M2 82) (fun q => M 99 (a + 1 + 6 + 5 * q)) ∧ Ag 8 (M2 83) (fun q => M 99 (a + 1 + 6 + 5 * q + 1)) ∧ Ag 8 (M2 84) (fun q => M 99 (a + 1 + 6 + 5 * q + 2)) ∧ Ag 8 (M2 85) (fun q => M 99 (a + 1 + 6 + 5 * q + 3)) ∧ Ag 8 (M2 86) (fun q => M 99 (a + 1 + 6 + 5 * q + 4)) := hI2
      show lm_G X d 178 106 0 0 36 [some (.ref 64), some (.ref 99), some (.int (nI a)), some (.int (nI 8)), none] [] (lm_T M2 v G) Q
      obtain ⟨k1, k2, k3, g1, g2, g3, g4, g5⟩ := hI2
      refine lm_G_sg 2 (pc' := 39) (L' := [some (.ref 64), some (.ref 99), some (.int (nI a)), some (.int (nI 8)), none]) (S' := [.int 8, .int (nI 8)]) (σ' := lm_T M2 v G) rfl trivial ?_
      refine lm_G_br (b := 8 ≤ (nI 8)) (t := 118) (S' := []) rfl (fun hc => ?_) (fun hc => absurd (nI_le (a := 8) (Nat.le_refl _) (by omega)) hc)
      have hR : RM M2 F s := by
        refine ⟨KM_of hk (k3.1 68 rfl) (k3.1 71 rfl) (k3.1 69 rfl) (k3.1 74 rfl) (k3.1 76 rfl) (k3.1 77 rfl), k2.trans hv.1, ?_, ?_, ?_, ?_, ?_, ?_, ?_⟩
        · rw [k3.1 79 rfl]; exact hb
        · exact fun p hp => (g4 p (by omega)).trans (hv.2.2 p hp).2.2.2.1
        · exact fun p hp => (g5 p (by omega)).trans (hv.2.2 p hp).2.2.2.2
        · exact fun p hp => (g1 p (by omega)).trans (hv.2.2 p hp).1
        · exact fun p hp => (g2 p (by omega)).trans (hv.2.2 p hp).2.1
        · exact fun p hp => (g3 p (by omega)).trans (hv.2.2 p hp).2.2.1
        · exact fun t ht => (k1 t (by omega)).trans (hv.2.1 t ht)
      exact lm_G_re rfl trivial (Nat.zero_le _) (Nat.zero_le _) (hQ _ hR k3)
    ·
      try dsimp only
      exact ⟨i1, i2, i3, fun q hq => by omega, fun q hq => by omega, fun q hq => by omega, fun q hq => by omega, fun q hq => by omega⟩
  ·
    try dsimp only
    exact ⟨fun t ht => by omega, wr_same, Fr_wr (Fr_rf _ _) rfl, fun k hk => wr_at hk⟩
set_option maxRecDepth 10000 in
theorem m_copyTo100 {X : lm_X} {d v : Nat} {M : Nat → Nat → Int32} {G : Nat → Nat → Int64} {Q : lm_O → lm_S → Prop} (hQ : ∀ M1, Ag 1880 (M1 100) (M 87) → Fr (frO 100) M M1 → Q (.inl none) (lm_T M1 v G)) : lm_Q X d 241 [.ref 100, .ref 87] (lm_T M v G) Q := by
  show lm_G X d 241 106 0 0 0 [some (.ref 100), some (.ref 87), none] [] (lm_T M v G) Q
  refine lm_G_sg 2 (pc' := 2) (L' := [some (.ref 100), some (.ref 87), some (.int 0)]) (S' := []) (σ' := lm_T M v G) rfl trivial ?_
  refine lm_ind (α := (Nat → Fn)) (St := fun (j : Nat) zz => (fun (M1 : Nat → Fn) => lm_G X d 241 106 0 0 2 [some (.ref 100), some (.ref 87), some (.int (nI j))] [] (lm_T M1 v G) Q) zz) (Inv := fun (j : Nat) zz => (fun (M1 : Nat → Fn) => Ag j (M1 100) (M 87) ∧ Fr (frO 100) M M1) zz) (1880) (fun j zz hj hI ih => ?_) (fun zz hI => ?_) (0) M (by omega) ?_
  ·
    revert ih hI
    revert zz
    intro M1 hI ih
    replace hI : Ag j (M1 100) (M 87) ∧ Fr (frO 100) M M1 := hI
    replace ih : ∀ (M1 : Nat → Fn) (_ : Ag (j + 1) (M1 100) (M 87) ∧ Fr (frO 100) M M1), lm_G X d 241 106 0 0 2 [some (.ref 100), some (.ref 87), some (.int (nI (j + 1)))] [] (lm_T M1 v G) Q := fun M1 q => ih M1 q
    show lm_G X d 241 106 0 0 2 [some (.ref 100), some (.ref 87), some (.int (nI j))] [] (lm_T M1 v G) Q
    obtain ⟨i1, i2⟩ := hI
    refine lm_G_sg 3 (pc' := 5) (L' := [some (.ref 100), some (.ref 87), some (.int (nI j))]) (S' := [.int 1880, .int (nI j)]) (σ' := lm_T M1 v G) rfl trivial ?_
    refine lm_G_br (b := 1880 ≤ (nI j)) (t := 20) (S' := []) rfl (fun hc => absurd hc (nI_ge (b := 1880) hj (by omega))) (fun hc => ?_)
    refine lm_G_sg 5 (pc' := 13) (L' := [some (.ref 100), some (.ref 87), some (.int (nI j))]) (S' := [.int (M1 87 (nI j).toNatClampNeg), .int (nI j), .ref 100]) (σ' := lm_T M1 v G) rfl ⟨(vp_in_nI (by omega) (by omega)), trivial, trivial⟩ ?_
    rw [show (nI j).toNatClampNeg = j from nI_clamp (by omega)]
    rw [show M1 87 j = M 87 j from congrFun (i2 87 rfl) j]
    refine lm_G_sg 1 (pc' := 14) (L' := [some (.ref 100), some (.ref 87), some (.int (nI j))]) (S' := []) (σ' := lm_T (lm_wr M1 100 ((nI j).toNatClampNeg) (M 87 j)) v G) rfl ⟨(vp_in_nI (by omega) (by omega)), trivial, trivial⟩ ?_
    rw [show (nI j).toNatClampNeg = j from nI_clamp (by omega)]
    refine lm_G_sg 1 (pc' := 17) (L' := [some (.ref 100), some (.ref 87), some (.int ((nI j) + 1))]) (S' := []) (σ' := lm_T (lm_wr M1 100 j (M 87 j)) v G) rfl trivial ?_
    rw [nI_1]
    refine lm_G_sg 1 (pc' := 2) (L' := [some (.ref 100), some (.ref 87), some (.int (nI (j + 1)))]) (S' := []) (σ' := lm_T (lm_wr M1 100 j (M 87 j)) v G) rfl trivial ?_
    exact ih _ (⟨Ag_nx i1 rfl, Fr_wr i2 rfl⟩)
  ·
    revert hI
    revert zz
    intro M1 hI
    replace hI : Ag 1880 (M1 100) (M 87) ∧ Fr (frO 100) M M1 := hI
    show lm_G X d 241 106 0 0 2 [some (.ref 100), some (.ref 87), some (.int (nI 1880))] [] (lm_T M1 v G) Q
    obtain ⟨i1, i2⟩ := hI
    refine lm_G_sg 3 (pc' := 5) (L' := [some (.ref 100), some (.ref 87), some (.int (nI 1880))]) (S' := [.int 1880, .int (nI 1880)]) (σ' := lm_T M1 v G) rfl trivial ?_
    refine lm_G_br (b := 1880 ≤ (nI 1880)) (t := 20) (S' := []) rfl (fun hc => ?_) (fun hc => absurd (nI_le (a := 1880) (Nat.le_refl _) (by omega)) hc)
    exact lm_G_re rfl trivial (Nat.zero_le _) (Nat.zero_le _) (hQ _ i1 i2)
  ·
    try dsimp only
    exact ⟨fun t ht => by omega, Fr_rf _ _⟩
set_option maxRecDepth 10000 in
theorem m_copyTo87 {X : lm_X} {d v : Nat} {M : Nat → Nat → Int32} {G : Nat → Nat → Int64} {Q : lm_O → lm_S → Prop} (hQ : ∀ M1, Ag 1880 (M1 87) (M 100) → Fr (frO 87) M M1 → Q (.inl none) (lm_T M1 v G)) : lm_Q X d 241 [.ref 87, .ref 100] (lm_T M v G) Q := by
  show lm_G X d 241 106 0 0 0 [some (.ref 87), some (.ref 100), none] [] (lm_T M v G) Q
  refine lm_G_sg 2 (pc' := 2) (L' := [some (.ref 87), some (.ref 100), some (.int 0)]) (S' := []) (σ' := lm_T M v G) rfl trivial ?_
  refine lm_ind (α := (Nat → Fn)) (St := fun (j : Nat) zz => (fun (M1 : Nat → Fn) => lm_G X d 241 106 0 0 2 [some (.ref 87), some (.ref 100), some (.int (nI j))] [] (lm_T M1 v G) Q) zz) (Inv := fun (j : Nat) zz => (fun (M1 : Nat → Fn) => Ag j (M1 87) (M 100) ∧ Fr (frO 87) M M1) zz) (1880) (fun j zz hj hI ih => ?_) (fun zz hI => ?_) (0) M (by omega) ?_
  ·
    revert ih hI
    revert zz
    intro M1 hI ih
    replace hI : Ag j (M1 87) (M 100) ∧ Fr (frO 87) M M1 := hI
    replace ih : ∀ (M1 : Nat → Fn) (_ : Ag (j + 1) (M1 87) (M 100) ∧ Fr (frO 87) M M1), lm_G X d 241 106 0 0 2 [some (.ref 87), some (.ref 100), some (.int (nI (j + 1)))] [] (lm_T M1 v G) Q := fun M1 q => ih M1 q
    show lm_G X d 241 106 0 0 2 [some (.ref 87), some (.ref 100), some (.int (nI j))] [] (lm_T M1 v G) Q
    obtain ⟨i1, i2⟩ := hI
    refine lm_G_sg 3 (pc' := 5) (L' := [some (.ref 87), some (.ref 100), some (.int (nI j))]) (S' := [.int 1880, .int (nI j)]) (σ' := lm_T M1 v G) rfl trivial ?_
    refine lm_G_br (b := 1880 ≤ (nI j)) (t := 20) (S' := []) rfl (fun hc => absurd hc (nI_ge (b := 1880) hj (by omega))) (fun hc => ?_)
    refine lm_G_sg 5 (pc' := 13) (L' := [some (.ref 87), some (.ref 100), some (.int (nI j))]) (S' := [.int (M1 100 (nI j).toNatClampNeg), .int (nI j), .ref 87]) (σ' := lm_T M1 v G) rfl ⟨(vp_in_nI (by omega) (by omega)), trivial, trivial⟩ ?_
    rw [show (nI j).toNatClampNeg = j from nI_clamp (by omega)]
    rw [show M1 100 j = M 100 j from congrFun (i2 100 rfl) j]
    refine lm_G_sg 1 (pc' := 14) (L' := [some (.ref 87), some (.ref 100), some (.int (nI j))]) (S' := []) (σ' := lm_T (lm_wr M1 87 ((nI j).toNatClampNeg) (M 100 j)) v G) rfl ⟨(vp_in_nI (by omega) (by omega)), trivial, trivial⟩ ?_
    rw [show (nI j).toNatClampNeg = j from nI_clamp (by omega)]
    refine lm_G_sg 1 (pc' := 17) (L' := [some (.ref 87), some (.ref 100), some (.int ((nI j) + 1))]) (S' := []) (σ' := lm_T (lm_wr M1 87 j (M 100 j)) v G) rfl trivial ?_
    rw [nI_1]
    refine lm_G_sg 1 (pc' := 2) (L' := [some (.ref 87), some (.ref 100), some (.int (nI (j + 1)))]) (S' := []) (σ' := lm_T (lm_wr M1 87 j (M 100 j)) v G) rfl trivial ?_
    exact ih _ (⟨Ag_nx i1 rfl, Fr_wr i2 rfl⟩)
  ·
    revert hI
    revert zz
    intro M1 hI
    replace hI : Ag 1880 (M1 87) (M 100) ∧ Fr (frO 87) M M1 := hI
    show lm_G X d 241 106 0 0 2 [some (.ref 87), some (.ref 100), some (.int (nI 1880))] [] (lm_T M1 v G) Q
    obtain ⟨i1, i2⟩ := hI
    refine lm_G_sg 3 (pc' := 5) (L' := [some (.ref 87), some (.ref 100), some (.int (nI 1880))]) (S' := [.int 1880, .int (nI 1880)]) (σ' := lm_T M1 v G) rfl trivial ?_
    refine lm_G_br (b := 1880 ≤ (nI 1880)) (t := 20) (S' := []) rfl (fun hc => ?_) (fun hc => absurd (nI_le (a := 1880) (Nat.le_refl _) (by omega)) hc)
    exact lm_G_re rfl trivial (Nat.zero_le _) (Nat.zero_le _) (hQ _ i1 i2)
  ·
    try dsimp only
    exact ⟨fun t ht => by omega, Fr_rf _ _⟩
set_option maxRecDepth 10000 in
theorem m_copyTo101 {X : lm_X} {d v : Nat} {M : Nat → Nat → Int32} {G : Nat → Nat → Int64} {Q : lm_O → lm_S → Prop} (hQ : ∀ M1, Ag 8 (M1 101) (M 92) → Fr (frO 101) M M1 → Q (.inl none) (lm_T M1 v G)) : lm_Q X d 241 [.ref 101, .ref 92] (lm_T M v G) Q := by
  show lm_G X d 241 106 0 0 0 [some (.ref 101), some (.ref 92), none] [] (lm_T M v G) Q
  refine lm_G_sg 2 (pc' := 2) (L' := [some (.ref 101), some (.ref 92), some (.int 0)]) (S' := []) (σ' := lm_T M v G) rfl trivial ?_
  refine lm_ind (α := (Nat → Fn)) (St := fun (j : Nat) zz => (fun (M1 : Nat → Fn) => lm_G X d 241 106 0 0 2 [some (.ref 101), some (.ref 92), some (.int (nI j))] [] (lm_T M1 v G) Q) zz) (Inv := fun (j : Nat) zz => (fun (M1 : Nat → Fn) => Ag j (M1 101) (M 92) ∧ Fr (frO 101) M M1) zz) (8) (fun j zz hj hI ih => ?_) (fun zz hI => ?_) (0) M (by omega) ?_
  ·
    revert ih hI
    revert zz
    intro M1 hI ih
    replace hI : Ag j (M1 101) (M 92) ∧ Fr (frO 101) M M1 := hI
    replace ih : ∀ (M1 : Nat → Fn) (_ : Ag (j + 1) (M1 101) (M 92) ∧ Fr (frO 101) M M1), lm_G X d 241 106 0 0 2 [some (.ref 101), some (.ref 92), some (.int (nI (j + 1)))] [] (lm_T M1 v G) Q := fun M1 q => ih M1 q
    show lm_G X d 241 106 0 0 2 [some (.ref 101), some (.ref 92), some (.int (nI j))] [] (lm_T M1 v G) Q
    obtain ⟨i1, i2⟩ := hI
    refine lm_G_sg 3 (pc' := 5) (L' := [some (.ref 101), some (.ref 92), some (.int (nI j))]) (S' := [.int 8, .int (nI j)]) (σ' := lm_T M1 v G) rfl trivial ?_
    refine lm_G_br (b := 8 ≤ (nI j)) (t := 20) (S' := []) rfl (fun hc => absurd hc (nI_ge (b := 8) hj (by omega))) (fun hc => ?_)
    refine lm_G_sg 5 (pc' := 13) (L' := [some (.ref 101), some (.ref 92), some (.int (nI j))]) (S' := [.int (M1 92 (nI j).toNatClampNeg), .int (nI j), .ref 101]) (σ' := lm_T M1 v G) rfl ⟨(vp_in_nI (by omega) (by omega)), trivial, trivial⟩ ?_
    rw [show (nI j).toNatClampNeg = j from nI_clamp (by omega)]
    rw [show M1 92 j = M 92 j from congrFun (i2 92 rfl) j]
    refine lm_G_sg 1 (pc' := 14) (L' := [some (.ref 101), some (.ref 92), some (.int (nI j))]) (S' := []) (σ' := lm_T (lm_wr M1 101 ((nI j).toNatClampNeg) (M 92 j)) v G) rfl ⟨(vp_in_nI (by omega) (by omega)), trivial, trivial⟩ ?_
    rw [show (nI j).toNatClampNeg = j from nI_clamp (by omega)]
    refine lm_G_sg 1 (pc' := 17) (L' := [some (.ref 101), some (.ref 92), some (.int ((nI j) + 1))]) (S' := []) (σ' := lm_T (lm_wr M1 101 j (M 92 j)) v G) rfl trivial ?_
    rw [nI_1]
    refine lm_G_sg 1 (pc' := 2) (L' := [some (.ref 101), some (.ref 92), some (.int (nI (j + 1)))]) (S' := []) (σ' := lm_T (lm_wr M1 101 j (M 92 j)) v G) rfl trivial ?_
    exact ih _ (⟨Ag_nx i1 rfl, Fr_wr i2 rfl⟩)
  ·
    revert hI
    revert zz
    intro M1 hI
    replace hI : Ag 8 (M1 101) (M 92) ∧ Fr (frO 101) M M1 := hI
    show lm_G X d 241 106 0 0 2 [some (.ref 101), some (.ref 92), some (.int (nI 8))] [] (lm_T M1 v G) Q
    obtain ⟨i1, i2⟩ := hI
    refine lm_G_sg 3 (pc' := 5) (L' := [some (.ref 101), some (.ref 92), some (.int (nI 8))]) (S' := [.int 8, .int (nI 8)]) (σ' := lm_T M1 v G) rfl trivial ?_
    refine lm_G_br (b := 8 ≤ (nI 8)) (t := 20) (S' := []) rfl (fun hc => ?_) (fun hc => absurd (nI_le (a := 8) (Nat.le_refl _) (by omega)) hc)
    exact lm_G_re rfl trivial (Nat.zero_le _) (Nat.zero_le _) (hQ _ i1 i2)
  ·
    try dsimp only
    exact ⟨fun t ht => by omega, Fr_rf _ _⟩
set_option maxRecDepth 10000 in
theorem m_copyTo92 {X : lm_X} {d v : Nat} {M : Nat → Nat → Int32} {G : Nat → Nat → Int64} {Q : lm_O → lm_S → Prop} (hQ : ∀ M1, Ag 8 (M1 92) (M 101) → Fr (frO 92) M M1 → Q (.inl none) (lm_T M1 v G)) : lm_Q X d 241 [.ref 92, .ref 101] (lm_T M v G) Q := by
  show lm_G X d 241 106 0 0 0 [some (.ref 92), some (.ref 101), none] [] (lm_T M v G) Q
  refine lm_G_sg 2 (pc' := 2) (L' := [some (.ref 92), some (.ref 101), some (.int 0)]) (S' := []) (σ' := lm_T M v G) rfl trivial ?_
  refine lm_ind (α := (Nat → Fn)) (St := fun (j : Nat) zz => (fun (M1 : Nat → Fn) => lm_G X d 241 106 0 0 2 [some (.ref 92), some (.ref 101), some (.int (nI j))] [] (lm_T M1 v G) Q) zz) (Inv := fun (j : Nat) zz => (fun (M1 : Nat → Fn) => Ag j (M1 92) (M 101) ∧ Fr (frO 92) M M1) zz) (8) (fun j zz hj hI ih => ?_) (fun zz hI => ?_) (0) M (by omega) ?_
  ·
    revert ih hI
    revert zz
    intro M1 hI ih
    replace hI : Ag j (M1 92) (M 101) ∧ Fr (frO 92) M M1 := hI
    replace ih : ∀ (M1 : Nat → Fn) (_ : Ag (j + 1) (M1 92) (M 101) ∧ Fr (frO 92) M M1), lm_G X d 241 106 0 0 2 [some (.ref 92), some (.ref 101), some (.int (nI (j + 1)))] [] (lm_T M1 v G) Q := fun M1 q => ih M1 q
    show lm_G X d 241 106 0 0 2 [some (.ref 92), some (.ref 101), some (.int (nI j))] [] (lm_T M1 v G) Q
    obtain ⟨i1, i2⟩ := hI
    refine lm_G_sg 3 (pc' := 5) (L' := [some (.ref 92), some (.ref 101), some (.int (nI j))]) (S' := [.int 8, .int (nI j)]) (σ' := lm_T M1 v G) rfl trivial ?_
    refine lm_G_br (b := 8 ≤ (nI j)) (t := 20) (S' := []) rfl (fun hc => absurd hc (nI_ge (b := 8) hj (by omega))) (fun hc => ?_)
    refine lm_G_sg 5 (pc' := 13) (L' := [some (.ref 92), some (.ref 101), some (.int (nI j))]) (S' := [.int (M1 101 (nI j).toNatClampNeg), .int (nI j), .ref 92]) (σ' := lm_T M1 v G) rfl ⟨(vp_in_nI (by omega) (by omega)), trivial, trivial⟩ ?_
    rw [show (nI j).toNatClampNeg = j from nI_clamp (by omega)]
    rw [show M1 101 j = M 101 j from congrFun (i2 101 rfl) j]
    refine lm_G_sg 1 (pc' := 14) (L' := [some (.ref 92), some (.ref 101), some (.int (nI j))]) (S' := []) (σ' := lm_T (lm_wr M1 92 ((nI j).toNatClampNeg) (M 101 j)) v G) rfl ⟨(vp_in_nI (by omega) (by omega)), trivial, trivial⟩ ?_
    rw [show (nI j).toNatClampNeg = j from nI_clamp (by omega)]
    refine lm_G_sg 1 (pc' := 17) (L' := [some (.ref 92), some (.ref 101), some (.int ((nI j) + 1))]) (S' := []) (σ' := lm_T (lm_wr M1 92 j (M 101 j)) v G) rfl trivial ?_
    rw [nI_1]
    refine lm_G_sg 1 (pc' := 2) (L' := [some (.ref 92), some (.ref 101), some (.int (nI (j + 1)))]) (S' := []) (σ' := lm_T (lm_wr M1 92 j (M 101 j)) v G) rfl trivial ?_
    exact ih _ (⟨Ag_nx i1 rfl, Fr_wr i2 rfl⟩)
  ·
    revert hI
    revert zz
    intro M1 hI
    replace hI : Ag 8 (M1 92) (M 101) ∧ Fr (frO 92) M M1 := hI
    show lm_G X d 241 106 0 0 2 [some (.ref 92), some (.ref 101), some (.int (nI 8))] [] (lm_T M1 v G) Q
    obtain ⟨i1, i2⟩ := hI
    refine lm_G_sg 3 (pc' := 5) (L' := [some (.ref 92), some (.ref 101), some (.int (nI 8))]) (S' := [.int 8, .int (nI 8)]) (σ' := lm_T M1 v G) rfl trivial ?_
    refine lm_G_br (b := 8 ≤ (nI 8)) (t := 20) (S' := []) rfl (fun hc => ?_) (fun hc => absurd (nI_le (a := 8) (Nat.le_refl _) (by omega)) hc)
    exact lm_G_re rfl trivial (Nat.zero_le _) (Nat.zero_le _) (hQ _ i1 i2)
  ·
    try dsimp only
    exact ⟨fun t ht => by omega, Fr_rf _ _⟩
set_option maxRecDepth 10000 in
theorem m_copyTo102 {X : lm_X} {d v : Nat} {M : Nat → Nat → Int32} {G : Nat → Nat → Int64} {Q : lm_O → lm_S → Prop} (hQ : ∀ M1, Ag 8 (M1 102) (M 93) → Fr (frO 102) M M1 → Q (.inl none) (lm_T M1 v G)) : lm_Q X d 241 [.ref 102, .ref 93] (lm_T M v G) Q := by
  show lm_G X d 241 106 0 0 0 [some (.ref 102), some (.ref 93), none] [] (lm_T M v G) Q
  refine lm_G_sg 2 (pc' := 2) (L' := [some (.ref 102), some (.ref 93), some (.int 0)]) (S' := []) (σ' := lm_T M v G) rfl trivial ?_
  refine lm_ind (α := (Nat → Fn)) (St := fun (j : Nat) zz => (fun (M1 : Nat → Fn) => lm_G X d 241 106 0 0 2 [some (.ref 102), some (.ref 93), some (.int (nI j))] [] (lm_T M1 v G) Q) zz) (Inv := fun (j : Nat) zz => (fun (M1 : Nat → Fn) => Ag j (M1 102) (M 93) ∧ Fr (frO 102) M M1) zz) (8) (fun j zz hj hI ih => ?_) (fun zz hI => ?_) (0) M (by omega) ?_
  ·
    revert ih hI
    revert zz
    intro M1 hI ih
    replace hI : Ag j (M1 102) (M 93) ∧ Fr (frO 102) M M1 := hI
    replace ih : ∀ (M1 : Nat → Fn) (_ : Ag (j + 1) (M1 102) (M 93) ∧ Fr (frO 102) M M1), lm_G X d 241 106 0 0 2 [some (.ref 102), some (.ref 93), some (.int (nI (j + 1)))] [] (lm_T M1 v G) Q := fun M1 q => ih M1 q
    show lm_G X d 241 106 0 0 2 [some (.ref 102), some (.ref 93), some (.int (nI j))] [] (lm_T M1 v G) Q
    obtain ⟨i1, i2⟩ := hI
    refine lm_G_sg 3 (pc' := 5) (L' := [some (.ref 102), some (.ref 93), some (.int (nI j))]) (S' := [.int 8, .int (nI j)]) (σ' := lm_T M1 v G) rfl trivial ?_
    refine lm_G_br (b := 8 ≤ (nI j)) (t := 20) (S' := []) rfl (fun hc => absurd hc (nI_ge (b := 8) hj (by omega))) (fun hc => ?_)
    refine lm_G_sg 5 (pc' := 13) (L' := [some (.ref 102), some (.ref 93), some (.int (nI j))]) (S' := [.int (M1 93 (nI j).toNatClampNeg), .int (nI j), .ref 102]) (σ' := lm_T M1 v G) rfl ⟨(vp_in_nI (by omega) (by omega)), trivial, trivial⟩ ?_
    rw [show (nI j).toNatClampNeg = j from nI_clamp (by omega)]
    rw [show M1 93 j = M 93 j from congrFun (i2 93 rfl) j]
    refine lm_G_sg 1 (pc' := 14) (L' := [some (.ref 102), some (.ref 93), some (.int (nI j))]) (S' := []) (σ' := lm_T (lm_wr M1 102 ((nI j).toNatClampNeg) (M 93 j)) v G) rfl ⟨(vp_in_nI (by omega) (by omega)), trivial, trivial⟩ ?_
    rw [show (nI j).toNatClampNeg = j from nI_clamp (by omega)]
    refine lm_G_sg 1 (pc' := 17) (L' := [some (.ref 102), some (.ref 93), some (.int ((nI j) + 1))]) (S' := []) (σ' := lm_T (lm_wr M1 102 j (M 93 j)) v G) rfl trivial ?_
    rw [nI_1]
    refine lm_G_sg 1 (pc' := 2) (L' := [some (.ref 102), some (.ref 93), some (.int (nI (j + 1)))]) (S' := []) (σ' := lm_T (lm_wr M1 102 j (M 93 j)) v G) rfl trivial ?_
    exact ih _ (⟨Ag_nx i1 rfl, Fr_wr i2 rfl⟩)
  ·
    revert hI
    revert zz
    intro M1 hI
    replace hI : Ag 8 (M1 102) (M 93) ∧ Fr (frO 102) M M1 := hI
    show lm_G X d 241 106 0 0 2 [some (.ref 102), some (.ref 93), some (.int (nI 8))] [] (lm_T M1 v G) Q
    obtain ⟨i1, i2⟩ := hI
    refine lm_G_sg 3 (pc' := 5) (L' := [some (.ref 102), some (.ref 93), some (.int (nI 8))]) (S' := [.int 8, .int (nI 8)]) (σ' := lm_T M1 v G) rfl trivial ?_
    refine lm_G_br (b := 8 ≤ (nI 8)) (t := 20) (S' := []) rfl (fun hc => ?_) (fun hc => absurd (nI_le (a := 8) (Nat.le_refl _) (by omega)) hc)
    exact lm_G_re rfl trivial (Nat.zero_le _) (Nat.zero_le _) (hQ _ i1 i2)
  ·
    try dsimp only
    exact ⟨fun t ht => by omega, Fr_rf _ _⟩
set_option maxRecDepth 10000 in
theorem m_copyTo93 {X : lm_X} {d v : Nat} {M : Nat → Nat → Int32} {G : Nat → Nat → Int64} {Q : lm_O → lm_S → Prop} (hQ : ∀ M1, Ag 8 (M1 93) (M 102) → Fr (frO 93) M M1 → Q (.inl none) (lm_T M1 v G)) : lm_Q X d 241 [.ref 93, .ref 102] (lm_T M v G) Q := by
  show lm_G X d 241 106 0 0 0 [some (.ref 93), some (.ref 102), none] [] (lm_T M v G) Q
  refine lm_G_sg 2 (pc' := 2) (L' := [some (.ref 93), some (.ref 102), some (.int 0)]) (S' := []) (σ' := lm_T M v G) rfl trivial ?_
  refine lm_ind (α := (Nat → Fn)) (St := fun (j : Nat) zz => (fun (M1 : Nat → Fn) => lm_G X d 241 106 0 0 2 [some (.ref 93), some (.ref 102), some (.int (nI j))] [] (lm_T M1 v G) Q) zz) (Inv := fun (j : Nat) zz => (fun (M1 : Nat → Fn) => Ag j (M1 93) (M 102) ∧ Fr (frO 93) M M1) zz) (8) (fun j zz hj hI ih => ?_) (fun zz hI => ?_) (0) M (by omega) ?_
  ·
    revert ih hI
    revert zz
    intro M1 hI ih
    replace hI : Ag j (M1 93) (M 102) ∧ Fr (frO 93) M M1 := hI
    replace ih : ∀ (M1 : Nat → Fn) (_ : Ag (j + 1) (M1 93) (M 102) ∧ Fr (frO 93) M M1), lm_G X d 241 106 0 0 2 [some (.ref 93), some (.ref 102), some (.int (nI (j + 1)))] [] (lm_T M1 v G) Q := fun M1 q => ih M1 q
    show lm_G X d 241 106 0 0 2 [some (.ref 93), some (.ref 102), some (.int (nI j))] [] (lm_T M1 v G) Q
    obtain ⟨i1, i2⟩ := hI
    refine lm_G_sg 3 (pc' := 5) (L' := [some (.ref 93), some (.ref 102), some (.int (nI j))]) (S' := [.int 8, .int (nI j)]) (σ' := lm_T M1 v G) rfl trivial ?_
    refine lm_G_br (b := 8 ≤ (nI j)) (t := 20) (S' := []) rfl (fun hc => absurd hc (nI_ge (b := 8) hj (by omega))) (fun hc => ?_)
    refine lm_G_sg 5 (pc' := 13) (L' := [some (.ref 93), some (.ref 102), some (.int (nI j))]) (S' := [.int (M1 102 (nI j).toNatClampNeg), .int (nI j), .ref 93]) (σ' := lm_T M1 v G) rfl ⟨(vp_in_nI (by omega) (by omega)), trivial, trivial⟩ ?_
    rw [show (nI j).toNatClampNeg = j from nI_clamp (by omega)]
    rw [show M1 102 j = M 102 j from congrFun (i2 102 rfl) j]
    refine lm_G_sg 1 (pc' := 14) (L' := [some (.ref 93), some (.ref 102), some (.int (nI j))]) (S' := []) (σ' := lm_T (lm_wr M1 93 ((nI j).toNatClampNeg) (M 102 j)) v G) rfl ⟨(vp_in_nI (by omega) (by omega)), trivial, trivial⟩ ?_
    rw [show (nI j).toNatClampNeg = j from nI_clamp (by omega)]
    refine lm_G_sg 1 (pc' := 17) (L' := [some (.ref 93), some (.ref 102), some (.int ((nI j) + 1))]) (S' := []) (σ' := lm_T (lm_wr M1 93 j (M 102 j)) v G) rfl trivial ?_
    rw [nI_1]
    refine lm_G_sg 1 (pc' := 2) (L' := [some (.ref 93), some (.ref 102), some (.int (nI (j + 1)))]) (S' := []) (σ' := lm_T (lm_wr M1 93 j (M 102 j)) v G) rfl trivial ?_
    exact ih _ (⟨Ag_nx i1 rfl, Fr_wr i2 rfl⟩)
  ·
    revert hI
    revert zz
    intro M1 hI
    replace hI : Ag 8 (M1 93) (M 102) ∧ Fr (frO 93) M M1 := hI
    show lm_G X d 241 106 0 0 2 [some (.ref 93), some (.ref 102), some (.int (nI 8))] [] (lm_T M1 v G) Q
    obtain ⟨i1, i2⟩ := hI
    refine lm_G_sg 3 (pc' := 5) (L' := [some (.ref 93), some (.ref 102), some (.int (nI 8))]) (S' := [.int 8, .int (nI 8)]) (σ' := lm_T M1 v G) rfl trivial ?_
    refine lm_G_br (b := 8 ≤ (nI 8)) (t := 20) (S' := []) rfl (fun hc => ?_) (fun hc => absurd (nI_le (a := 8) (Nat.le_refl _) (by omega)) hc)
    exact lm_G_re rfl trivial (Nat.zero_le _) (Nat.zero_le _) (hQ _ i1 i2)
  ·
    try dsimp only
    exact ⟨fun t ht => by omega, Fr_rf _ _⟩
set_option maxRecDepth 10000 in
theorem m_copyTo103 {X : lm_X} {d v : Nat} {M : Nat → Nat → Int32} {G : Nat → Nat → Int64} {Q : lm_O → lm_S → Prop} (hQ : ∀ M1, Ag 8 (M1 103) (M 94) → Fr (frO 103) M M1 → Q (.inl none) (lm_T M1 v G)) : lm_Q X d 241 [.ref 103, .ref 94] (lm_T M v G) Q := by
  show lm_G X d 241 106 0 0 0 [some (.ref 103), some (.ref 94), none] [] (lm_T M v G) Q
  refine lm_G_sg 2 (pc' := 2) (L' := [some (.ref 103), some (.ref 94), some (.int 0)]) (S' := []) (σ' := lm_T M v G) rfl trivial ?_
  refine lm_ind (α := (Nat → Fn)) (St := fun (j : Nat) zz => (fun (M1 : Nat → Fn) => lm_G X d 241 106 0 0 2 [some (.ref 103), some (.ref 94), some (.int (nI j))] [] (lm_T M1 v G) Q) zz) (Inv := fun (j : Nat) zz => (fun (M1 : Nat → Fn) => Ag j (M1 103) (M 94) ∧ Fr (frO 103) M M1) zz) (8) (fun j zz hj hI ih => ?_) (fun zz hI => ?_) (0) M (by omega) ?_
  ·
    revert ih hI
    revert zz
    intro M1 hI ih
    replace hI : Ag j (M1 103) (M 94) ∧ Fr (frO 103) M M1 := hI
    replace ih : ∀ (M1 : Nat → Fn) (_ : Ag (j + 1) (M1 103) (M 94) ∧ Fr (frO 103) M M1), lm_G X d 241 106 0 0 2 [some (.ref 103), some (.ref 94), some (.int (nI (j + 1)))] [] (lm_T M1 v G) Q := fun M1 q => ih M1 q
    show lm_G X d 241 106 0 0 2 [some (.ref 103), some (.ref 94), some (.int (nI j))] [] (lm_T M1 v G) Q
    obtain ⟨i1, i2⟩ := hI
    refine lm_G_sg 3 (pc' := 5) (L' := [some (.ref 103), some (.ref 94), some (.int (nI j))]) (S' := [.int 8, .int (nI j)]) (σ' := lm_T M1 v G) rfl trivial ?_
    refine lm_G_br (b := 8 ≤ (nI j)) (t := 20) (S' := []) rfl (fun hc => absurd hc (nI_ge (b := 8) hj (by omega))) (fun hc => ?_)
    refine lm_G_sg 5 (pc' := 13) (L' := [some (.ref 103), some (.ref 94), some (.int (nI j))]) (S' := [.int (M1 94 (nI j).toNatClampNeg), .int (nI j), .ref 103]) (σ' := lm_T M1 v G) rfl ⟨(vp_in_nI (by omega) (by omega)), trivial, trivial⟩ ?_
    rw [show (nI j).toNatClampNeg = j from nI_clamp (by omega)]
    rw [show M1 94 j = M 94 j from congrFun (i2 94 rfl) j]
    refine lm_G_sg 1 (pc' := 14) (L' := [some (.ref 103), some (.ref 94), some (.int (nI j))]) (S' := []) (σ' := lm_T (lm_wr M1 103 ((nI j).toNatClampNeg) (M 94 j)) v G) rfl ⟨(vp_in_nI (by omega) (by omega)), trivial, trivial⟩ ?_
    rw [show (nI j).toNatClampNeg = j from nI_clamp (by omega)]
    refine lm_G_sg 1 (pc' := 17) (L' := [some (.ref 103), some (.ref 94), some (.int ((nI j) + 1))]) (S' := []) (σ' := lm_T (lm_wr M1 103 j (M 94 j)) v G) rfl trivial ?_
    rw [nI_1]
    refine lm_G_sg 1 (pc' := 2) (L' := [some (.ref 103), some (.ref 94), some (.int (nI (j + 1)))]) (S' := []) (σ' := lm_T (lm_wr M1 103 j (M 94 j)) v G) rfl trivial ?_
    exact ih _ (⟨Ag_nx i1 rfl, Fr_wr i2 rfl⟩)
  ·
    revert hI
    revert zz
    intro M1 hI
    replace hI : Ag 8 (M1 103) (M 94) ∧ Fr (frO 103) M M1 := hI
    show lm_G X d 241 106 0 0 2 [some (.ref 103), some (.ref 94), some (.int (nI 8))] [] (lm_T M1 v G) Q
    obtain ⟨i1, i2⟩ := hI
    refine lm_G_sg 3 (pc' := 5) (L' := [some (.ref 103), some (.ref 94), some (.int (nI 8))]) (S' := [.int 8, .int (nI 8)]) (σ' := lm_T M1 v G) rfl trivial ?_
    refine lm_G_br (b := 8 ≤ (nI 8)) (t := 20) (S' := []) rfl (fun hc => ?_) (fun hc => absurd (nI_le (a := 8) (Nat.le_refl _) (by omega)) hc)
    exact lm_G_re rfl trivial (Nat.zero_le _) (Nat.zero_le _) (hQ _ i1 i2)
  ·
    try dsimp only
    exact ⟨fun t ht => by omega, Fr_rf _ _⟩
set_option maxRecDepth 10000 in
theorem m_copyTo94 {X : lm_X} {d v : Nat} {M : Nat → Nat → Int32} {G : Nat → Nat → Int64} {Q : lm_O → lm_S → Prop} (hQ : ∀ M1, Ag 8 (M1 94) (M 103) → Fr (frO 94) M M1 → Q (.inl none) (lm_T M1 v G)) : lm_Q X d 241 [.ref 94, .ref 103] (lm_T M v G) Q := by
  show lm_G X d 241 106 0 0 0 [some (.ref 94), some (.ref 103), none] [] (lm_T M v G) Q
  refine lm_G_sg 2 (pc' := 2) (L' := [some (.ref 94), some (.ref 103), some (.int 0)]) (S' := []) (σ' := lm_T M v G) rfl trivial ?_
  refine lm_ind (α := (Nat → Fn)) (St := fun (j : Nat) zz => (fun (M1 : Nat → Fn) => lm_G X d 241 106 0 0 2 [some (.ref 94), some (.ref 103), some (.int (nI j))] [] (lm_T M1 v G) Q) zz) (Inv := fun (j : Nat) zz => (fun (M1 : Nat → Fn) => Ag j (M1 94) (M 103) ∧ Fr (frO 94) M M1) zz) (8) (fun j zz hj hI ih => ?_) (fun zz hI => ?_) (0) M (by omega) ?_
  ·
    revert ih hI
    revert zz
    intro M1 hI ih
    replace hI : Ag j (M1 94) (M 103) ∧ Fr (frO 94) M M1 := hI
    replace ih : ∀ (M1 : Nat → Fn) (_ : Ag (j + 1) (M1 94) (M 103) ∧ Fr (frO 94) M M1), lm_G X d 241 106 0 0 2 [some (.ref 94), some (.ref 103), some (.int (nI (j + 1)))] [] (lm_T M1 v G) Q := fun M1 q => ih M1 q
    show lm_G X d 241 106 0 0 2 [some (.ref 94), some (.ref 103), some (.int (nI j))] [] (lm_T M1 v G) Q
    obtain ⟨i1, i2⟩ := hI
    refine lm_G_sg 3 (pc' := 5) (L' := [some (.ref 94), some (.ref 103), some (.int (nI j))]) (S' := [.int 8, .int (nI j)]) (σ' := lm_T M1 v G) rfl trivial ?_
    refine lm_G_br (b := 8 ≤ (nI j)) (t := 20) (S' := []) rfl (fun hc => absurd hc (nI_ge (b := 8) hj (by omega))) (fun hc => ?_)
    refine lm_G_sg 5 (pc' := 13) (L' := [some (.ref 94), some (.ref 103), some (.int (nI j))]) (S' := [.int (M1 103 (nI j).toNatClampNeg), .int (nI j), .ref 94]) (σ' := lm_T M1 v G) rfl ⟨(vp_in_nI (by omega) (by omega)), trivial, trivial⟩ ?_
    rw [show (nI j).toNatClampNeg = j from nI_clamp (by omega)]
    rw [show M1 103 j = M 103 j from congrFun (i2 103 rfl) j]
    refine lm_G_sg 1 (pc' := 14) (L' := [some (.ref 94), some (.ref 103), some (.int (nI j))]) (S' := []) (σ' := lm_T (lm_wr M1 94 ((nI j).toNatClampNeg) (M 103 j)) v G) rfl ⟨(vp_in_nI (by omega) (by omega)), trivial, trivial⟩ ?_
    rw [show (nI j).toNatClampNeg = j from nI_clamp (by omega)]
    refine lm_G_sg 1 (pc' := 17) (L' := [some (.ref 94), some (.ref 103), some (.int ((nI j) + 1))]) (S' := []) (σ' := lm_T (lm_wr M1 94 j (M 103 j)) v G) rfl trivial ?_
    rw [nI_1]
    refine lm_G_sg 1 (pc' := 2) (L' := [some (.ref 94), some (.ref 103), some (.int (nI (j + 1)))]) (S' := []) (σ' := lm_T (lm_wr M1 94 j (M 103 j)) v G) rfl trivial ?_
    exact ih _ (⟨Ag_nx i1 rfl, Fr_wr i2 rfl⟩)
  ·
    revert hI
    revert zz
    intro M1 hI
    replace hI : Ag 8 (M1 94) (M 103) ∧ Fr (frO 94) M M1 := hI
    show lm_G X d 241 106 0 0 2 [some (.ref 94), some (.ref 103), some (.int (nI 8))] [] (lm_T M1 v G) Q
    obtain ⟨i1, i2⟩ := hI
    refine lm_G_sg 3 (pc' := 5) (L' := [some (.ref 94), some (.ref 103), some (.int (nI 8))]) (S' := [.int 8, .int (nI 8)]) (σ' := lm_T M1 v G) rfl trivial ?_
    refine lm_G_br (b := 8 ≤ (nI 8)) (t := 20) (S' := []) rfl (fun hc => ?_) (fun hc => absurd (nI_le (a := 8) (Nat.le_refl _) (by omega)) hc)
    exact lm_G_re rfl trivial (Nat.zero_le _) (Nat.zero_le _) (hQ _ i1 i2)
  ·
    try dsimp only
    exact ⟨fun t ht => by omega, Fr_rf _ _⟩
set_option maxRecDepth 10000 in
theorem m_copyTo104 {X : lm_X} {d v : Nat} {M : Nat → Nat → Int32} {G : Nat → Nat → Int64} {Q : lm_O → lm_S → Prop} (hQ : ∀ M1, Ag 3 (M1 104) (M 78) → Fr (frO 104) M M1 → Q (.inl none) (lm_T M1 v G)) : lm_Q X d 241 [.ref 104, .ref 78] (lm_T M v G) Q := by
  show lm_G X d 241 106 0 0 0 [some (.ref 104), some (.ref 78), none] [] (lm_T M v G) Q
  refine lm_G_sg 2 (pc' := 2) (L' := [some (.ref 104), some (.ref 78), some (.int 0)]) (S' := []) (σ' := lm_T M v G) rfl trivial ?_
  refine lm_ind (α := (Nat → Fn)) (St := fun (j : Nat) zz => (fun (M1 : Nat → Fn) => lm_G X d 241 106 0 0 2 [some (.ref 104), some (.ref 78), some (.int (nI j))] [] (lm_T M1 v G) Q) zz) (Inv := fun (j : Nat) zz => (fun (M1 : Nat → Fn) => Ag j (M1 104) (M 78) ∧ Fr (frO 104) M M1) zz) (3) (fun j zz hj hI ih => ?_) (fun zz hI => ?_) (0) M (by omega) ?_
  ·
    revert ih hI
    revert zz
    intro M1 hI ih
    replace hI : Ag j (M1 104) (M 78) ∧ Fr (frO 104) M M1 := hI
    replace ih : ∀ (M1 : Nat → Fn) (_ : Ag (j + 1) (M1 104) (M 78) ∧ Fr (frO 104) M M1), lm_G X d 241 106 0 0 2 [some (.ref 104), some (.ref 78), some (.int (nI (j + 1)))] [] (lm_T M1 v G) Q := fun M1 q => ih M1 q
    show lm_G X d 241 106 0 0 2 [some (.ref 104), some (.ref 78), some (.int (nI j))] [] (lm_T M1 v G) Q
    obtain ⟨i1, i2⟩ := hI
    refine lm_G_sg 3 (pc' := 5) (L' := [some (.ref 104), some (.ref 78), some (.int (nI j))]) (S' := [.int 3, .int (nI j)]) (σ' := lm_T M1 v G) rfl trivial ?_
    refine lm_G_br (b := 3 ≤ (nI j)) (t := 20) (S' := []) rfl (fun hc => absurd hc (nI_ge (b := 3) hj (by omega))) (fun hc => ?_)
    refine lm_G_sg 5 (pc' := 13) (L' := [some (.ref 104), some (.ref 78), some (.int (nI j))]) (S' := [.int (M1 78 (nI j).toNatClampNeg), .int (nI j), .ref 104]) (σ' := lm_T M1 v G) rfl ⟨(vp_in_nI (by omega) (by omega)), trivial, trivial⟩ ?_
    rw [show (nI j).toNatClampNeg = j from nI_clamp (by omega)]
    rw [show M1 78 j = M 78 j from congrFun (i2 78 rfl) j]
    refine lm_G_sg 1 (pc' := 14) (L' := [some (.ref 104), some (.ref 78), some (.int (nI j))]) (S' := []) (σ' := lm_T (lm_wr M1 104 ((nI j).toNatClampNeg) (M 78 j)) v G) rfl ⟨(vp_in_nI (by omega) (by omega)), trivial, trivial⟩ ?_
    rw [show (nI j).toNatClampNeg = j from nI_clamp (by omega)]
    refine lm_G_sg 1 (pc' := 17) (L' := [some (.ref 104), some (.ref 78), some (.int ((nI j) + 1))]) (S' := []) (σ' := lm_T (lm_wr M1 104 j (M 78 j)) v G) rfl trivial ?_
    rw [nI_1]
    refine lm_G_sg 1 (pc' := 2) (L' := [some (.ref 104), some (.ref 78), some (.int (nI (j + 1)))]) (S' := []) (σ' := lm_T (lm_wr M1 104 j (M 78 j)) v G) rfl trivial ?_
    exact ih _ (⟨Ag_nx i1 rfl, Fr_wr i2 rfl⟩)
  ·
    revert hI
    revert zz
    intro M1 hI
    replace hI : Ag 3 (M1 104) (M 78) ∧ Fr (frO 104) M M1 := hI
    show lm_G X d 241 106 0 0 2 [some (.ref 104), some (.ref 78), some (.int (nI 3))] [] (lm_T M1 v G) Q
    obtain ⟨i1, i2⟩ := hI
    refine lm_G_sg 3 (pc' := 5) (L' := [some (.ref 104), some (.ref 78), some (.int (nI 3))]) (S' := [.int 3, .int (nI 3)]) (σ' := lm_T M1 v G) rfl trivial ?_
    refine lm_G_br (b := 3 ≤ (nI 3)) (t := 20) (S' := []) rfl (fun hc => ?_) (fun hc => absurd (nI_le (a := 3) (Nat.le_refl _) (by omega)) hc)
    exact lm_G_re rfl trivial (Nat.zero_le _) (Nat.zero_le _) (hQ _ i1 i2)
  ·
    try dsimp only
    exact ⟨fun t ht => by omega, Fr_rf _ _⟩
set_option maxRecDepth 10000 in
theorem m_copyTo78 {X : lm_X} {d v : Nat} {M : Nat → Nat → Int32} {G : Nat → Nat → Int64} {Q : lm_O → lm_S → Prop} (hQ : ∀ M1, Ag 3 (M1 78) (M 104) → Fr (frO 78) M M1 → Q (.inl none) (lm_T M1 v G)) : lm_Q X d 241 [.ref 78, .ref 104] (lm_T M v G) Q := by
  show lm_G X d 241 106 0 0 0 [some (.ref 78), some (.ref 104), none] [] (lm_T M v G) Q
  refine lm_G_sg 2 (pc' := 2) (L' := [some (.ref 78), some (.ref 104), some (.int 0)]) (S' := []) (σ' := lm_T M v G) rfl trivial ?_
  refine lm_ind (α := (Nat → Fn)) (St := fun (j : Nat) zz => (fun (M1 : Nat → Fn) => lm_G X d 241 106 0 0 2 [some (.ref 78), some (.ref 104), some (.int (nI j))] [] (lm_T M1 v G) Q) zz) (Inv := fun (j : Nat) zz => (fun (M1 : Nat → Fn) => Ag j (M1 78) (M 104) ∧ Fr (frO 78) M M1) zz) (3) (fun j zz hj hI ih => ?_) (fun zz hI => ?_) (0) M (by omega) ?_
  ·
    revert ih hI
    revert zz
    intro M1 hI ih
    replace hI : Ag j (M1 78) (M 104) ∧ Fr (frO 78) M M1 := hI
    replace ih : ∀ (M1 : Nat → Fn) (_ : Ag (j + 1) (M1 78) (M 104) ∧ Fr (frO 78) M M1), lm_G X d 241 106 0 0 2 [some (.ref 78), some (.ref 104), some (.int (nI (j + 1)))] [] (lm_T M1 v G) Q := fun M1 q => ih M1 q
    show lm_G X d 241 106 0 0 2 [some (.ref 78), some (.ref 104), some (.int (nI j))] [] (lm_T M1 v G) Q
    obtain ⟨i1, i2⟩ := hI
    refine lm_G_sg 3 (pc' := 5) (L' := [some (.ref 78), some (.ref 104), some (.int (nI j))]) (S' := [.int 3, .int (nI j)]) (σ' := lm_T M1 v G) rfl trivial ?_
    refine lm_G_br (b := 3 ≤ (nI j)) (t := 20) (S' := []) rfl (fun hc => absurd hc (nI_ge (b := 3) hj (by omega))) (fun hc => ?_)
    refine lm_G_sg 5 (pc' := 13) (L' := [some (.ref 78), some (.ref 104), some (.int (nI j))]) (S' := [.int (M1 104 (nI j).toNatClampNeg), .int (nI j), .ref 78]) (σ' := lm_T M1 v G) rfl ⟨(vp_in_nI (by omega) (by omega)), trivial, trivial⟩ ?_
    rw [show (nI j).toNatClampNeg = j from nI_clamp (by omega)]
    rw [show M1 104 j = M 104 j from congrFun (i2 104 rfl) j]
    refine lm_G_sg 1 (pc' := 14) (L' := [some (.ref 78), some (.ref 104), some (.int (nI j))]) (S' := []) (σ' := lm_T (lm_wr M1 78 ((nI j).toNatClampNeg) (M 104 j)) v G) rfl ⟨(vp_in_nI (by omega) (by omega)), trivial, trivial⟩ ?_
    rw [show (nI j).toNatClampNeg = j from nI_clamp (by omega)]
    refine lm_G_sg 1 (pc' := 17) (L' := [some (.ref 78), some (.ref 104), some (.int ((nI j) + 1))]) (S' := []) (σ' := lm_T (lm_wr M1 78 j (M 104 j)) v G) rfl trivial ?_
    rw [nI_1]
    refine lm_G_sg 1 (pc' := 2) (L' := [some (.ref 78), some (.ref 104), some (.int (nI (j + 1)))]) (S' := []) (σ' := lm_T (lm_wr M1 78 j (M 104 j)) v G) rfl trivial ?_
    exact ih _ (⟨Ag_nx i1 rfl, Fr_wr i2 rfl⟩)
  ·
    revert hI
    revert zz
    intro M1 hI
    replace hI : Ag 3 (M1 78) (M 104) ∧ Fr (frO 78) M M1 := hI
    show lm_G X d 241 106 0 0 2 [some (.ref 78), some (.ref 104), some (.int (nI 3))] [] (lm_T M1 v G) Q
    obtain ⟨i1, i2⟩ := hI
    refine lm_G_sg 3 (pc' := 5) (L' := [some (.ref 78), some (.ref 104), some (.int (nI 3))]) (S' := [.int 3, .int (nI 3)]) (σ' := lm_T M1 v G) rfl trivial ?_
    refine lm_G_br (b := 3 ≤ (nI 3)) (t := 20) (S' := []) rfl (fun hc => ?_) (fun hc => absurd (nI_le (a := 3) (Nat.le_refl _) (by omega)) hc)
    exact lm_G_re rfl trivial (Nat.zero_le _) (Nat.zero_le _) (hQ _ i1 i2)
  ·
    try dsimp only
    exact ⟨fun t ht => by omega, Fr_rf _ _⟩
set_option maxRecDepth 10000 in
theorem c_copyFrom {X : lm_X} {d v : Nat} {M : Nat → Nat → Int32} {G : Nat → Nat → Int64} {Q : lm_O → lm_S → Prop} {F : Fa} {s : Sc} (hF : okF F) (h : RC 28 M F s) (hQ : ∀ M1, RC 38 M1 F s → M1 38 12 = M 28 12 → M1 38 13 = 0 → Fr frT M M1 → Q (.inl none) (lm_T M1 v G)) : lm_Q X d 53 [.ref 38, .ref 28] (lm_T M v G) Q := by
  have hn := hF.n
  have hm := hF.m
  show lm_G X d 53 106 0 0 0 [some (.ref 38), some (.ref 28)] [] (lm_T M v G) Q
  refine lm_G_sg 83 (pc' := 156) (L' := [some (.ref 38), some (.ref 28)]) (S' := []) (σ' := lm_T (lm_wa (lm_wa (lm_wa (lm_wa (lm_wa (lm_wa (lm_wa (lm_wa (lm_wa (lm_wr (lm_wr (lm_wr M 38 2 (M 28 2)) 38 12 (M 28 12)) 38 13 0) 39 (va_cpy (M 29) (M 39) 0 0 8)) 40 (va_cpy (M 30) (M 40) 0 0 8)) 41 (va_cpy (M 31) (M 41) 0 0 8)) 42 (va_cpy (M 32) (M 42) 0 0 8)) 43 (va_cpy (M 33) (M 43) 0 0 8)) 44 (va_cpy (M 34) (M 44) 0 0 8)) 45 (va_cpy (M 35) (M 45) 0 0 6)) 46 (va_cpy (M 36) (M 46) 0 0 6)) 47 (va_cpy (M 37) (M 47) 0 0 8)) v G) rfl ⟨trivial, trivial, trivial, trivial, trivial, trivial, ⟨by decide, by decide, by decide, by decide, by decide⟩, (Nat.le_of_ble_eq_true rfl), ⟨by decide, by decide, by decide, by decide, by decide⟩, (Nat.le_of_ble_eq_true rfl), ⟨by decide, by decide, by decide, by decide, by decide⟩, (Nat.le_of_ble_eq_true rfl), ⟨by decide, by decide, by decide, by decide, by decide⟩, (Nat.le_of_ble_eq_true rfl), ⟨by decide, by decide, by decide, by decide, by decide⟩, (Nat.le_of_ble_eq_true rfl), ⟨by decide, by decide, by decide, by decide, by decide⟩, (Nat.le_of_ble_eq_true rfl), ⟨by decide, by decide, by decide, by decide, by decide⟩, (Nat.le_of_ble_eq_true rfl), ⟨by decide, by decide, by decide, by decide, by decide⟩, (Nat.le_of_ble_eq_true rfl), ⟨by decide, by decide, by decide, by decide, by decide⟩, (Nat.le_of_ble_eq_true rfl), trivial⟩ ?_
  have hR : RC 38 (lm_wa (lm_wa (lm_wa (lm_wa (lm_wa (lm_wa (lm_wa (lm_wa (lm_wa (lm_wr (lm_wr (lm_wr M 38 2 (M 28 2)) 38 12 (M 28 12)) 38 13 0) 39 (va_cpy (M 29) (M 39) 0 0 8)) 40 (va_cpy (M 30) (M 40) 0 0 8)) 41 (va_cpy (M 31) (M 41) 0 0 8)) 42 (va_cpy (M 32) (M 42) 0 0 8)) 43 (va_cpy (M 33) (M 43) 0 0 8)) 44 (va_cpy (M 34) (M 44) 0 0 8)) 45 (va_cpy (M 35) (M 45) 0 0 6)) 46 (va_cpy (M 36) (M 46) 0 0 6)) 47 (va_cpy (M 37) (M 47) 0 0 8)) F s := ⟨KC_of h.1 rfl rfl rfl rfl rfl rfl rfl, h.hr, Ag_cp h.br (by omega), Ag_cp h.pl (by omega), Ag_cp h.co (by omega), Ag_cp h.hu (by omega), Ag_cp h.hd (by omega), Ag_cp h.id (by omega), Ag_cp h.ow (by omega), Ag_cp h.hs (by omega), Ag_cp h.he (by omega)⟩
  exact lm_G_re rfl trivial (Nat.zero_le _) (Nat.zero_le _) (hQ _ hR rfl rfl (Fr_wa (Fr_wa (Fr_wa (Fr_wa (Fr_wa (Fr_wa (Fr_wa (Fr_wa (Fr_wa (Fr_wr (Fr_wr (Fr_wr (Fr_rf _ _) rfl) rfl) rfl) rfl) rfl) rfl) rfl) rfl) rfl) rfl) rfl) rfl))
set_option maxRecDepth 10000 in
theorem c_startTrial {X : lm_X} {d v : Nat} {M : Nat → Nat → Int32} {G : Nat → Nat → Int64} {Q : lm_O → lm_S → Prop} {F : Fa} {s : Sc} (hF : okF F) (h : RC 28 M F s) (hQ : ∀ M1, RC 38 M1 F s → M1 38 12 = M 28 12 → M1 38 13 = 0 → Fr frT M M1 → Q (.inl none) (lm_T M1 v G)) : lm_Q X (d + 1) 132 [.ref 0] (lm_T M v G) Q := by
  have hn := hF.n
  have hm := hF.m
  show lm_G X (d + 1) 132 106 0 0 0 [some (.ref 0)] [] (lm_T M v G) Q
  refine lm_G_sg 4 (pc' := 8) (L' := [some (.ref 0)]) (S' := [.ref 28, .ref 38]) (σ' := lm_T M v G) rfl trivial ?_
  refine lm_G_ca (j := 53) (as := [.ref 38, .ref 28]) (rest := []) rfl (Or.inl rfl) (Nat.le_of_ble_eq_true rfl) (Nat.le_of_ble_eq_true rfl) (Nat.le_of_ble_eq_true rfl) (Nat.le_of_ble_eq_true rfl) rfl ?_
  refine c_copyFrom hF h (fun M1 h1 l1 t1 f1 => ?_)
  show lm_G X (d + 1) 132 106 0 0 11 [some (.ref 0)] [] (lm_T M1 v G) Q
  exact lm_G_re rfl trivial (Nat.zero_le _) (Nat.zero_le _) (hQ _ h1 l1 t1 f1)
set_option maxRecDepth 10000 in
theorem c_saveTo54 {X : lm_X} {d v : Nat} {M : Nat → Nat → Int32} {G : Nat → Nat → Int64} {Q : lm_O → lm_S → Prop} {F : Fa} {s : Sc} {a : Nat} (hF : okF F) (h : RC 28 M F s) (ha : a + 47 ≤ 1880) (hQ : ∀ M1, SavC (M1 54) a F s → (∀ i, i < a ∨ a + 47 ≤ i → M1 54 i = M 54 i) → Fr (frO 54) M M1 → Q (.inl none) (lm_T M1 v G)) : lm_Q X d 54 [.ref 28, .ref 54, .int (nI a)] (lm_T M v G) Q := by
  have hn := hF.n
  have hm := hF.m
  show lm_G X d 54 106 0 0 0 [some (.ref 28), some (.ref 54), some (.int (nI a))] [] (lm_T M v G) Q
  refine lm_G_sg 1 (pc' := 1) (L' := [some (.ref 28), some (.ref 54), some (.int (nI a))]) (S' := [.int (nI a)]) (σ' := lm_T M v G) rfl trivial ?_
  refine lm_G_br (b := (nI a) < 0) (t := 13) (S' := []) rfl (fun hc => absurd hc (nI_pos (by omega))) (fun hc => ?_)
  refine lm_G_sg 3 (pc' := 8) (L' := [some (.ref 28), some (.ref 54), some (.int (nI a))]) (S' := [.int ((nI a) + 47)]) (σ' := lm_T M v G) rfl trivial ?_
  rw [show (nI a) + 47 = nI (a + 47) from nI_add a 47]
  refine lm_G_sg 2 (pc' := 10) (L' := [some (.ref 28), some (.ref 54), some (.int (nI a))]) (S' := [.int 1880, .int (nI (a + 47))]) (σ' := lm_T M v G) rfl trivial ?_
  refine lm_G_br (b := (nI (a + 47)) ≤ 1880) (t := 14) (S' := []) rfl (fun hc => ?_) (fun hc => absurd (nI_le (b := 1880) (by omega) (by omega)) hc)
  refine lm_G_sg 5 (pc' := 21) (L' := [some (.ref 28), some (.ref 54), some (.int (nI a))]) (S' := []) (σ' := lm_T (lm_wr M 54 ((nI a).toNatClampNeg) (M 28 2)) v G) rfl ⟨(vp_in_nI (by omega) (by omega)), trivial, trivial⟩ ?_
  rw [show (nI a).toNatClampNeg = a from nI_clamp (by omega)]
  refine lm_G_sg 7 (pc' := 30) (L' := [some (.ref 28), some (.ref 54), some (.int (nI a))]) (S' := [.int ((nI a) + 1), .ref 54, .int 0, .ref 30]) (σ' := lm_T (lm_wr M 54 a (M 28 2)) v G) rfl trivial ?_
  rw [show (nI a) + 1 = nI (a + 1) from nI_add a 1]
  refine lm_G_sg 2 (pc' := 35) (L' := [some (.ref 28), some (.ref 54), some (.int (nI a))]) (S' := []) (σ' := lm_T (lm_wa (lm_wr M 54 a (M 28 2)) 54 (va_cpy (M 30) ((lm_wr M 54 a (M 28 2)) 54) 0 ((nI (a + 1)).toNatClampNeg) 8)) v G) rfl ⟨⟨(by decide), (nI_pos (by omega)), (by decide), (by decide), (cp_le (X := (a + 1)) (k := 8) (by omega) (by omega))⟩, (Nat.le_of_ble_eq_true rfl), trivial⟩ ?_
  rw [nI_clamp (n := (a + 1)) (by omega)]
  refine lm_G_sg 7 (pc' := 44) (L' := [some (.ref 28), some (.ref 54), some (.int (nI a))]) (S' := [.int ((nI a) + 1), .ref 54, .int 0, .ref 31]) (σ' := lm_T (lm_wa (lm_wr M 54 a (M 28 2)) 54 (va_cpy (M 30) ((lm_wr M 54 a (M 28 2)) 54) 0 ((a + 1)) 8)) v G) rfl trivial ?_
  rw [show (nI a) + 1 = nI (a + 1) from nI_add a 1]
  refine lm_G_sg 2 (pc' := 47) (L' := [some (.ref 28), some (.ref 54), some (.int (nI a))]) (S' := [.int ((nI (a + 1)) + 8), .ref 54, .int 0, .ref 31]) (σ' := lm_T (lm_wa (lm_wr M 54 a (M 28 2)) 54 (va_cpy (M 30) ((lm_wr M 54 a (M 28 2)) 54) 0 ((a + 1)) 8)) v G) rfl trivial ?_
  rw [show (nI (a + 1)) + 8 = nI ((a + 1) + 8) from nI_add (a + 1) 8]
  refine lm_G_sg 2 (pc' := 52) (L' := [some (.ref 28), some (.ref 54), some (.int (nI a))]) (S' := []) (σ' := lm_T (lm_wa (lm_wa (lm_wr M 54 a (M 28 2)) 54 (va_cpy (M 30) ((lm_wr M 54 a (M 28 2)) 54) 0 ((a + 1)) 8)) 54 (va_cpy (M 31) ((lm_wa (lm_wr M 54 a (M 28 2)) 54 (va_cpy (M 30) ((lm_wr M 54 a (M 28 2)) 54) 0 ((a + 1)) 8)) 54) 0 ((nI ((a + 1) + 8)).toNatClampNeg) 8)) v G) rfl ⟨⟨(by decide), (nI_pos (by omega)), (by decide), (by decide), (cp_le (X := ((a + 1) + 8)) (k := 8) (by omega) (by omega))⟩, (Nat.le_of_ble_eq_true rfl), trivial⟩ ?_
  rw [nI_clamp (n := ((a + 1) + 8)) (by omega)]
  refine lm_G_sg 7 (pc' := 61) (L' := [some (.ref 28), some (.ref 54), some (.int (nI a))]) (S' := [.int ((nI a) + 1), .ref 54, .int 0, .ref 32]) (σ' := lm_T (lm_wa (lm_wa (lm_wr M 54 a (M 28 2)) 54 (va_cpy (M 30) ((lm_wr M 54 a (M 28 2)) 54) 0 ((a + 1)) 8)) 54 (va_cpy (M 31) ((lm_wa (lm_wr M 54 a (M 28 2)) 54 (va_cpy (M 30) ((lm_wr M 54 a (M 28 2)) 54) 0 ((a + 1)) 8)) 54) 0 (((a + 1) + 8)) 8)) v G) rfl trivial ?_
  rw [show (nI a) + 1 = nI (a + 1) from nI_add a 1]
  refine lm_G_sg 2 (pc' := 64) (L' := [some (.ref 28), some (.ref 54), some (.int (nI a))]) (S' := [.int ((nI (a + 1)) + 16), .ref 54, .int 0, .ref 32]) (σ' := lm_T (lm_wa (lm_wa (lm_wr M 54 a (M 28 2)) 54 (va_cpy (M 30) ((lm_wr M 54 a (M 28 2)) 54) 0 ((a + 1)) 8)) 54 (va_cpy (M 31) ((lm_wa (lm_wr M 54 a (M 28 2)) 54 (va_cpy (M 30) ((lm_wr M 54 a (M 28 2)) 54) 0 ((a + 1)) 8)) 54) 0 (((a + 1) + 8)) 8)) v G) rfl trivial ?_
  rw [show (nI (a + 1)) + 16 = nI ((a + 1) + 16) from nI_add (a + 1) 16]
  refine lm_G_sg 2 (pc' := 69) (L' := [some (.ref 28), some (.ref 54), some (.int (nI a))]) (S' := []) (σ' := lm_T (lm_wa (lm_wa (lm_wa (lm_wr M 54 a (M 28 2)) 54 (va_cpy (M 30) ((lm_wr M 54 a (M 28 2)) 54) 0 ((a + 1)) 8)) 54 (va_cpy (M 31) ((lm_wa (lm_wr M 54 a (M 28 2)) 54 (va_cpy (M 30) ((lm_wr M 54 a (M 28 2)) 54) 0 ((a + 1)) 8)) 54) 0 (((a + 1) + 8)) 8)) 54 (va_cpy (M 32) ((lm_wa (lm_wa (lm_wr M 54 a (M 28 2)) 54 (va_cpy (M 30) ((lm_wr M 54 a (M 28 2)) 54) 0 ((a + 1)) 8)) 54 (va_cpy (M 31) ((lm_wa (lm_wr M 54 a (M 28 2)) 54 (va_cpy (M 30) ((lm_wr M 54 a (M 28 2)) 54) 0 ((a + 1)) 8)) 54) 0 (((a + 1) + 8)) 8)) 54) 0 ((nI ((a + 1) + 16)).toNatClampNeg) 8)) v G) rfl ⟨⟨(by decide), (nI_pos (by omega)), (by decide), (by decide), (cp_le (X := ((a + 1) + 16)) (k := 8) (by omega) (by omega))⟩, (Nat.le_of_ble_eq_true rfl), trivial⟩ ?_
  rw [nI_clamp (n := ((a + 1) + 16)) (by omega)]
  refine lm_G_sg 7 (pc' := 78) (L' := [some (.ref 28), some (.ref 54), some (.int (nI a))]) (S' := [.int ((nI a) + 1), .ref 54, .int 0, .ref 33]) (σ' := lm_T (lm_wa (lm_wa (lm_wa (lm_wr M 54 a (M 28 2)) 54 (va_cpy (M 30) ((lm_wr M 54 a (M 28 2)) 54) 0 ((a + 1)) 8)) 54 (va_cpy (M 31) ((lm_wa (lm_wr M 54 a (M 28 2)) 54 (va_cpy (M 30) ((lm_wr M 54 a (M 28 2)) 54) 0 ((a + 1)) 8)) 54) 0 (((a + 1) + 8)) 8)) 54 (va_cpy (M 32) ((lm_wa (lm_wa (lm_wr M 54 a (M 28 2)) 54 (va_cpy (M 30) ((lm_wr M 54 a (M 28 2)) 54) 0 ((a + 1)) 8)) 54 (va_cpy (M 31) ((lm_wa (lm_wr M 54 a (M 28 2)) 54 (va_cpy (M 30) ((lm_wr M 54 a (M 28 2)) 54) 0 ((a + 1)) 8)) 54) 0 (((a + 1) + 8)) 8)) 54) 0 (((a + 1) + 16)) 8)) v G) rfl trivial ?_
  rw [show (nI a) + 1 = nI (a + 1) from nI_add a 1]
  refine lm_G_sg 2 (pc' := 81) (L' := [some (.ref 28), some (.ref 54), some (.int (nI a))]) (S' := [.int ((nI (a + 1)) + 24), .ref 54, .int 0, .ref 33]) (σ' := lm_T (lm_wa (lm_wa (lm_wa (lm_wr M 54 a (M 28 2)) 54 (va_cpy (M 30) ((lm_wr M 54 a (M 28 2)) 54) 0 ((a + 1)) 8)) 54 (va_cpy (M 31) ((lm_wa (lm_wr M 54 a (M 28 2)) 54 (va_cpy (M 30) ((lm_wr M 54 a (M 28 2)) 54) 0 ((a + 1)) 8)) 54) 0 (((a + 1) + 8)) 8)) 54 (va_cpy (M 32) ((lm_wa (lm_wa (lm_wr M 54 a (M 28 2)) 54 (va_cpy (M 30) ((lm_wr M 54 a (M 28 2)) 54) 0 ((a + 1)) 8)) 54 (va_cpy (M 31) ((lm_wa (lm_wr M 54 a (M 28 2)) 54 (va_cpy (M 30) ((lm_wr M 54 a (M 28 2)) 54) 0 ((a + 1)) 8)) 54) 0 (((a + 1) + 8)) 8)) 54) 0 (((a + 1) + 16)) 8)) v G) rfl trivial ?_
  rw [show (nI (a + 1)) + 24 = nI ((a + 1) + 24) from nI_add (a + 1) 24]
  refine lm_G_sg 2 (pc' := 86) (L' := [some (.ref 28), some (.ref 54), some (.int (nI a))]) (S' := []) (σ' := lm_T (lm_wa (lm_wa (lm_wa (lm_wa (lm_wr M 54 a (M 28 2)) 54 (va_cpy (M 30) ((lm_wr M 54 a (M 28 2)) 54) 0 ((a + 1)) 8)) 54 (va_cpy (M 31) ((lm_wa (lm_wr M 54 a (M 28 2)) 54 (va_cpy (M 30) ((lm_wr M 54 a (M 28 2)) 54) 0 ((a + 1)) 8)) 54) 0 (((a + 1) + 8)) 8)) 54 (va_cpy (M 32) ((lm_wa (lm_wa (lm_wr M 54 a (M 28 2)) 54 (va_cpy (M 30) ((lm_wr M 54 a (M 28 2)) 54) 0 ((a + 1)) 8)) 54 (va_cpy (M 31) ((lm_wa (lm_wr M 54 a (M 28 2)) 54 (va_cpy (M 30) ((lm_wr M 54 a (M 28 2)) 54) 0 ((a + 1)) 8)) 54) 0 (((a + 1) + 8)) 8)) 54) 0 (((a + 1) + 16)) 8)) 54 (va_cpy (M 33) ((lm_wa (lm_wa (lm_wa (lm_wr M 54 a (M 28 2)) 54 (va_cpy (M 30) ((lm_wr M 54 a (M 28 2)) 54) 0 ((a + 1)) 8)) 54 (va_cpy (M 31) ((lm_wa (lm_wr M 54 a (M 28 2)) 54 (va_cpy (M 30) ((lm_wr M 54 a (M 28 2)) 54) 0 ((a + 1)) 8)) 54) 0 (((a + 1) + 8)) 8)) 54 (va_cpy (M 32) ((lm_wa (lm_wa (lm_wr M 54 a (M 28 2)) 54 (va_cpy (M 30) ((lm_wr M 54 a (M 28 2)) 54) 0 ((a + 1)) 8)) 54 (va_cpy (M 31) ((lm_wa (lm_wr M 54 a (M 28 2)) 54 (va_cpy (M 30) ((lm_wr M 54 a (M 28 2)) 54) 0 ((a + 1)) 8)) 54) 0 (((a + 1) + 8)) 8)) 54) 0 (((a + 1) + 16)) 8)) 54) 0 ((nI ((a + 1) + 24)).toNatClampNeg) 8)) v G) rfl ⟨⟨(by decide), (nI_pos (by omega)), (by decide), (by decide), (cp_le (X := ((a + 1) + 24)) (k := 8) (by omega) (by omega))⟩, (Nat.le_of_ble_eq_true rfl), trivial⟩ ?_
  rw [nI_clamp (n := ((a + 1) + 24)) (by omega)]
  refine lm_G_sg 7 (pc' := 95) (L' := [some (.ref 28), some (.ref 54), some (.int (nI a))]) (S' := [.int ((nI a) + 1), .ref 54, .int 0, .ref 34]) (σ' := lm_T (lm_wa (lm_wa (lm_wa (lm_wa (lm_wr M 54 a (M 28 2)) 54 (va_cpy (M 30) ((lm_wr M 54 a (M 28 2)) 54) 0 ((a + 1)) 8)) 54 (va_cpy (M 31) ((lm_wa (lm_wr M 54 a (M 28 2)) 54 (va_cpy (M 30) ((lm_wr M 54 a (M 28 2)) 54) 0 ((a + 1)) 8)) 54) 0 (((a + 1) + 8)) 8)) 54 (va_cpy (M 32) ((lm_wa (lm_wa (lm_wr M 54 a (M 28 2)) 54 (va_cpy (M 30) ((lm_wr M 54 a (M 28 2)) 54) 0 ((a + 1)) 8)) 54 (va_cpy (M 31) ((lm_wa (lm_wr M 54 a (M 28 2)) 54 (va_cpy (M 30) ((lm_wr M 54 a (M 28 2)) 54) 0 ((a + 1)) 8)) 54) 0 (((a + 1) + 8)) 8)) 54) 0 (((a + 1) + 16)) 8)) 54 (va_cpy (M 33) ((lm_wa (lm_wa (lm_wa (lm_wr M 54 a (M 28 2)) 54 (va_cpy (M 30) ((lm_wr M 54 a (M 28 2)) 54) 0 ((a + 1)) 8)) 54 (va_cpy (M 31) ((lm_wa (lm_wr M 54 a (M 28 2)) 54 (va_cpy (M 30) ((lm_wr M 54 a (M 28 2)) 54) 0 ((a + 1)) 8)) 54) 0 (((a + 1) + 8)) 8)) 54 (va_cpy (M 32) ((lm_wa (lm_wa (lm_wr M 54 a (M 28 2)) 54 (va_cpy (M 30) ((lm_wr M 54 a (M 28 2)) 54) 0 ((a + 1)) 8)) 54 (va_cpy (M 31) ((lm_wa (lm_wr M 54 a (M 28 2)) 54 (va_cpy (M 30) ((lm_wr M 54 a (M 28 2)) 54) 0 ((a + 1)) 8)) 54) 0 (((a + 1) + 8)) 8)) 54) 0 (((a + 1) + 16)) 8)) 54) 0 (((a + 1) + 24)) 8)) v G) rfl trivial ?_
  rw [show (nI a) + 1 = nI (a + 1) from nI_add a 1]
  refine lm_G_sg 2 (pc' := 98) (L' := [some (.ref 28), some (.ref 54), some (.int (nI a))]) (S' := [.int ((nI (a + 1)) + 32), .ref 54, .int 0, .ref 34]) (σ' := lm_T (lm_wa (lm_wa (lm_wa (lm_wa (lm_wr M 54 a (M 28 2)) 54 (va_cpy (M 30) ((lm_wr M 54 a (M 28 2)) 54) 0 ((a + 1)) 8)) 54 (va_cpy (M 31) ((lm_wa (lm_wr M 54 a (M 28 2)) 54 (va_cpy (M 30) ((lm_wr M 54 a (M 28 2)) 54) 0 ((a + 1)) 8)) 54) 0 (((a + 1) + 8)) 8)) 54 (va_cpy (M 32) ((lm_wa (lm_wa (lm_wr M 54 a (M 28 2)) 54 (va_cpy (M 30) ((lm_wr M 54 a (M 28 2)) 54) 0 ((a + 1)) 8)) 54 (va_cpy (M 31) ((lm_wa (lm_wr M 54 a (M 28 2)) 54 (va_cpy (M 30) ((lm_wr M 54 a (M 28 2)) 54) 0 ((a + 1)) 8)) 54) 0 (((a + 1) + 8)) 8)) 54) 0 (((a + 1) + 16)) 8)) 54 (va_cpy (M 33) ((lm_wa (lm_wa (lm_wa (lm_wr M 54 a (M 28 2)) 54 (va_cpy (M 30) ((lm_wr M 54 a (M 28 2)) 54) 0 ((a + 1)) 8)) 54 (va_cpy (M 31) ((lm_wa (lm_wr M 54 a (M 28 2)) 54 (va_cpy (M 30) ((lm_wr M 54 a (M 28 2)) 54) 0 ((a + 1)) 8)) 54) 0 (((a + 1) + 8)) 8)) 54 (va_cpy (M 32) ((lm_wa (lm_wa (lm_wr M 54 a (M 28 2)) 54 (va_cpy (M 30) ((lm_wr M 54 a (M 28 2)) 54) 0 ((a + 1)) 8)) 54 (va_cpy (M 31) ((lm_wa (lm_wr M 54 a (M 28 2)) 54 (va_cpy (M 30) ((lm_wr M 54 a (M 28 2)) 54) 0 ((a + 1)) 8)) 54) 0 (((a + 1) + 8)) 8)) 54) 0 (((a + 1) + 16)) 8)) 54) 0 (((a + 1) + 24)) 8)) v G) rfl trivial ?_
  rw [show (nI (a + 1)) + 32 = nI ((a + 1) + 32) from nI_add (a + 1) 32]
  refine lm_G_sg 2 (pc' := 103) (L' := [some (.ref 28), some (.ref 54), some (.int (nI a))]) (S' := []) (σ' := lm_T (lm_wa (lm_wa (lm_wa (lm_wa (lm_wa (lm_wr M 54 a (M 28 2)) 54 (va_cpy (M 30) ((lm_wr M 54 a (M 28 2)) 54) 0 ((a + 1)) 8)) 54 (va_cpy (M 31) ((lm_wa (lm_wr M 54 a (M 28 2)) 54 (va_cpy (M 30) ((lm_wr M 54 a (M 28 2)) 54) 0 ((a + 1)) 8)) 54) 0 (((a + 1) + 8)) 8)) 54 (va_cpy (M 32) ((lm_wa (lm_wa (lm_wr M 54 a (M 28 2)) 54 (va_cpy (M 30) ((lm_wr M 54 a (M 28 2)) 54) 0 ((a + 1)) 8)) 54 (va_cpy (M 31) ((lm_wa (lm_wr M 54 a (M 28 2)) 54 (va_cpy (M 30) ((lm_wr M 54 a (M 28 2)) 54) 0 ((a + 1)) 8)) 54) 0 (((a + 1) + 8)) 8)) 54) 0 (((a + 1) + 16)) 8)) 54 (va_cpy (M 33) ((lm_wa (lm_wa (lm_wa (lm_wr M 54 a (M 28 2)) 54 (va_cpy (M 30) ((lm_wr M 54 a (M 28 2)) 54) 0 ((a + 1)) 8)) 54 (va_cpy (M 31) ((lm_wa (lm_wr M 54 a (M 28 2)) 54 (va_cpy (M 30) ((lm_wr M 54 a (M 28 2)) 54) 0 ((a + 1)) 8)) 54) 0 (((a + 1) + 8)) 8)) 54 (va_cpy (M 32) ((lm_wa (lm_wa (lm_wr M 54 a (M 28 2)) 54 (va_cpy (M 30) ((lm_wr M 54 a (M 28 2)) 54) 0 ((a + 1)) 8)) 54 (va_cpy (M 31) ((lm_wa (lm_wr M 54 a (M 28 2)) 54 (va_cpy (M 30) ((lm_wr M 54 a (M 28 2)) 54) 0 ((a + 1)) 8)) 54) 0 (((a + 1) + 8)) 8)) 54) 0 (((a + 1) + 16)) 8)) 54) 0 (((a + 1) + 24)) 8)) 54 (va_cpy (M 34) ((lm_wa (lm_wa (lm_wa (lm_wa (lm_wr M 54 a (M 28 2)) 54 (va_cpy (M 30) ((lm_wr M 54 a (M 28 2)) 54) 0 ((a + 1)) 8)) 54 (va_cpy (M 31) ((lm_wa (lm_wr M 54 a (M 28 2)) 54 (va_cpy (M 30) ((lm_wr M 54 a (M 28 2)) 54) 0 ((a + 1)) 8)) 54) 0 (((a + 1) + 8)) 8)) 54 (va_cpy (M 32) ((lm_wa (lm_wa (lm_wr M 54 a (M 28 2)) 54 (va_cpy (M 30) ((lm_wr M 54 a (M 28 2)) 54) 0 ((a + 1)) 8)) 54 (va_cpy (M 31) ((lm_wa (lm_wr M 54 a (M 28 2)) 54 (va_cpy (M 30) ((lm_wr M 54 a (M 28 2)) 54) 0 ((a + 1)) 8)) 54) 0 (((a + 1) + 8)) 8)) 54) 0 (((a + 1) + 16)) 8)) 54 (va_cpy (M 33) ((lm_wa (lm_wa (lm_wa (lm_wr M 54 a (M 28 2)) 54 (va_cpy (M 30) ((lm_wr M 54 a (M 28 2)) 54) 0 ((a + 1)) 8)) 54 (va_cpy (M 31) ((lm_wa (lm_wr M 54 a (M 28 2)) 54 (va_cpy (M 30) ((lm_wr M 54 a (M 28 2)) 54) 0 ((a + 1)) 8)) 54) 0 (((a + 1) + 8)) 8)) 54 (va_cpy (M 32) ((lm_wa (lm_wa (lm_wr M 54 a (M 28 2)) 54 (va_cpy (M 30) ((lm_wr M 54 a (M 28 2)) 54) 0 ((a + 1)) 8)) 54 (va_cpy (M 31) ((lm_wa (lm_wr M 54 a (M 28 2)) 54 (va_cpy (M 30) ((lm_wr M 54 a (M 28 2)) 54) 0 ((a + 1)) 8)) 54) 0 (((a + 1) + 8)) 8)) 54) 0 (((a + 1) + 16)) 8)) 54) 0 (((a + 1) + 24)) 8)) 54) 0 ((nI ((a + 1) + 32)).toNatClampNeg) 8)) v G) rfl ⟨⟨(by decide), (nI_pos (by omega)), (by decide), (by decide), (cp_le (X := ((a + 1) + 32)) (k := 8) (by omega) (by omega))⟩, (Nat.le_of_ble_eq_true rfl), trivial⟩ ?_
  rw [nI_clamp (n := ((a + 1) + 32)) (by omega)]
  refine lm_G_sg 7 (pc' := 112) (L' := [some (.ref 28), some (.ref 54), some (.int (nI a))]) (S' := [.int ((nI a) + 1), .ref 54, .int 0, .ref 35]) (σ' := lm_T (lm_wa (lm_wa (lm_wa (lm_wa (lm_wa (lm_wr M 54 a (M 28 2)) 54 (va_cpy (M 30) ((lm_wr M 54 a (M 28 2)) 54) 0 ((a + 1)) 8)) 54 (va_cpy (M 31) ((lm_wa (lm_wr M 54 a (M 28 2)) 54 (va_cpy (M 30) ((lm_wr M 54 a (M 28 2)) 54) 0 ((a + 1)) 8)) 54) 0 (((a + 1) + 8)) 8)) 54 (va_cpy (M 32) ((lm_wa (lm_wa (lm_wr M 54 a (M 28 2)) 54 (va_cpy (M 30) ((lm_wr M 54 a (M 28 2)) 54) 0 ((a + 1)) 8)) 54 (va_cpy (M 31) ((lm_wa (lm_wr M 54 a (M 28 2)) 54 (va_cpy (M 30) ((lm_wr M 54 a (M 28 2)) 54) 0 ((a + 1)) 8)) 54) 0 (((a + 1) + 8)) 8)) 54) 0 (((a + 1) + 16)) 8)) 54 (va_cpy (M 33) ((lm_wa (lm_wa (lm_wa (lm_wr M 54 a (M 28 2)) 54 (va_cpy (M 30) ((lm_wr M 54 a (M 28 2)) 54) 0 ((a + 1)) 8)) 54 (va_cpy (M 31) ((lm_wa (lm_wr M 54 a (M 28 2)) 54 (va_cpy (M 30) ((lm_wr M 54 a (M 28 2)) 54) 0 ((a + 1)) 8)) 54) 0 (((a + 1) + 8)) 8)) 54 (va_cpy (M 32) ((lm_wa (lm_wa (lm_wr M 54 a (M 28 2)) 54 (va_cpy (M 30) ((lm_wr M 54 a (M 28 2)) 54) 0 ((a + 1)) 8)) 54 (va_cpy (M 31) ((lm_wa (lm_wr M 54 a (M 28 2)) 54 (va_cpy (M 30) ((lm_wr M 54 a (M 28 2)) 54) 0 ((a + 1)) 8)) 54) 0 (((a + 1) + 8)) 8)) 54) 0 (((a + 1) + 16)) 8)) 54) 0 (((a + 1) + 24)) 8)) 54 (va_cpy (M 34) ((lm_wa (lm_wa (lm_wa (lm_wa (lm_wr M 54 a (M 28 2)) 54 (va_cpy (M 30) ((lm_wr M 54 a (M 28 2)) 54) 0 ((a + 1)) 8)) 54 (va_cpy (M 31) ((lm_wa (lm_wr M 54 a (M 28 2)) 54 (va_cpy (M 30) ((lm_wr M 54 a (M 28 2)) 54) 0 ((a + 1)) 8)) 54) 0 (((a + 1) + 8)) 8)) 54 (va_cpy (M 32) ((lm_wa (lm_wa (lm_wr M 54 a (M 28 2)) 54 (va_cpy (M 30) ((lm_wr M 54 a (M 28 2)) 54) 0 ((a + 1)) 8)) 54 (va_cpy (M 31) ((lm_wa (lm_wr M 54 a (M 28 2)) 54 (va_cpy (M 30) ((lm_wr M 54 a (M 28 2)) 54) 0 ((a + 1)) 8)) 54) 0 (((a + 1) + 8)) 8)) 54) 0 (((a + 1) + 16)) 8)) 54 (va_cpy (M 33) ((lm_wa (lm_wa (lm_wa (lm_wr M 54 a (M 28 2)) 54 (va_cpy (M 30) ((lm_wr M 54 a (M 28 2)) 54) 0 ((a + 1)) 8)) 54 (va_cpy (M 31) ((lm_wa (lm_wr M 54 a (M 28 2)) 54 (va_cpy (M 30) ((lm_wr M 54 a (M 28 2)) 54) 0 ((a + 1)) 8)) 54) 0 (((a + 1) + 8)) 8)) 54 (va_cpy (M 32) ((lm_wa (lm_wa (lm_wr M 54 a (M 28 2)) 54 (va_cpy (M 30) ((lm_wr M 54 a (M 28 2)) 54) 0 ((a + 1)) 8)) 54 (va_cpy (M 31) ((lm_wa (lm_wr M 54 a (M 28 2)) 54 (va_cpy (M 30) ((lm_wr M 54 a (M 28 2)) 54) 0 ((a + 1)) 8)) 54) 0 (((a + 1) + 8)) 8)) 54) 0 (((a + 1) + 16)) 8)) 54) 0 (((a + 1) + 24)) 8)) 54) 0 (((a + 1) + 32)) 8)) v G) rfl trivial ?_
  rw [show (nI a) + 1 = nI (a + 1) from nI_add a 1]
  refine lm_G_sg 2 (pc' := 115) (L' := [some (.ref 28), some (.ref 54), some (.int (nI a))]) (S' := [.int ((nI (a + 1)) + 40), .ref 54, .int 0, .ref 35]) (σ' := lm_T (lm_wa (lm_wa (lm_wa (lm_wa (lm_wa (lm_wr M 54 a (M 28 2)) 54 (va_cpy (M 30) ((lm_wr M 54 a (M 28 2)) 54) 0 ((a + 1)) 8)) 54 (va_cpy (M 31) ((lm_wa (lm_wr M 54 a (M 28 2)) 54 (va_cpy (M 30) ((lm_wr M 54 a (M 28 2)) 54) 0 ((a + 1)) 8)) 54) 0 (((a + 1) + 8)) 8)) 54 (va_cpy (M 32) ((lm_wa (lm_wa (lm_wr M 54 a (M 28 2)) 54 (va_cpy (M 30) ((lm_wr M 54 a (M 28 2)) 54) 0 ((a + 1)) 8)) 54 (va_cpy (M 31) ((lm_wa (lm_wr M 54 a (M 28 2)) 54 (va_cpy (M 30) ((lm_wr M 54 a (M 28 2)) 54) 0 ((a + 1)) 8)) 54) 0 (((a + 1) + 8)) 8)) 54) 0 (((a + 1) + 16)) 8)) 54 (va_cpy (M 33) ((lm_wa (lm_wa (lm_wa (lm_wr M 54 a (M 28 2)) 54 (va_cpy (M 30) ((lm_wr M 54 a (M 28 2)) 54) 0 ((a + 1)) 8)) 54 (va_cpy (M 31) ((lm_wa (lm_wr M 54 a (M 28 2)) 54 (va_cpy (M 30) ((lm_wr M 54 a (M 28 2)) 54) 0 ((a + 1)) 8)) 54) 0 (((a + 1) + 8)) 8)) 54 (va_cpy (M 32) ((lm_wa (lm_wa (lm_wr M 54 a (M 28 2)) 54 (va_cpy (M 30) ((lm_wr M 54 a (M 28 2)) 54) 0 ((a + 1)) 8)) 54 (va_cpy (M 31) ((lm_wa (lm_wr M 54 a (M 28 2)) 54 (va_cpy (M 30) ((lm_wr M 54 a (M 28 2)) 54) 0 ((a + 1)) 8)) 54) 0 (((a + 1) + 8)) 8)) 54) 0 (((a + 1) + 16)) 8)) 54) 0 (((a + 1) + 24)) 8)) 54 (va_cpy (M 34) ((lm_wa (lm_wa (lm_wa (lm_wa (lm_wr M 54 a (M 28 2)) 54 (va_cpy (M 30) ((lm_wr M 54 a (M 28 2)) 54) 0 ((a + 1)) 8)) 54 (va_cpy (M 31) ((lm_wa (lm_wr M 54 a (M 28 2)) 54 (va_cpy (M 30) ((lm_wr M 54 a (M 28 2)) 54) 0 ((a + 1)) 8)) 54) 0 (((a + 1) + 8)) 8)) 54 (va_cpy (M 32) ((lm_wa (lm_wa (lm_wr M 54 a (M 28 2)) 54 (va_cpy (M 30) ((lm_wr M 54 a (M 28 2)) 54) 0 ((a + 1)) 8)) 54 (va_cpy (M 31) ((lm_wa (lm_wr M 54 a (M 28 2)) 54 (va_cpy (M 30) ((lm_wr M 54 a (M 28 2)) 54) 0 ((a + 1)) 8)) 54) 0 (((a + 1) + 8)) 8)) 54) 0 (((a + 1) + 16)) 8)) 54 (va_cpy (M 33) ((lm_wa (lm_wa (lm_wa (lm_wr M 54 a (M 28 2)) 54 (va_cpy (M 30) ((lm_wr M 54 a (M 28 2)) 54) 0 ((a + 1)) 8)) 54 (va_cpy (M 31) ((lm_wa (lm_wr M 54 a (M 28 2)) 54 (va_cpy (M 30) ((lm_wr M 54 a (M 28 2)) 54) 0 ((a + 1)) 8)) 54) 0 (((a + 1) + 8)) 8)) 54 (va_cpy (M 32) ((lm_wa (lm_wa (lm_wr M 54 a (M 28 2)) 54 (va_cpy (M 30) ((lm_wr M 54 a (M 28 2)) 54) 0 ((a + 1)) 8)) 54 (va_cpy (M 31) ((lm_wa (lm_wr M 54 a (M 28 2)) 54 (va_cpy (M 30) ((lm_wr M 54 a (M 28 2)) 54) 0 ((a + 1)) 8)) 54) 0 (((a + 1) + 8)) 8)) 54) 0 (((a + 1) + 16)) 8)) 54) 0 (((a + 1) + 24)) 8)) 54) 0 (((a + 1) + 32)) 8)) v G) rfl trivial ?_
  rw [show (nI (a + 1)) + 40 = nI ((a + 1) + 40) from nI_add (a + 1) 40]
  refine lm_G_sg 2 (pc' := 120) (L' := [some (.ref 28), some (.ref 54), some (.int (nI a))]) (S' := []) (σ' := lm_T (lm_wa (lm_wa (lm_wa (lm_wa (lm_wa (lm_wa (lm_wr M 54 a (M 28 2)) 54 (va_cpy (M 30) ((lm_wr M 54 a (M 28 2)) 54) 0 ((a + 1)) 8)) 54 (va_cpy (M 31) ((lm_wa (lm_wr M 54 a (M 28 2)) 54 (va_cpy (M 30) ((lm_wr M 54 a (M 28 2)) 54) 0 ((a + 1)) 8)) 54) 0 (((a + 1) + 8)) 8)) 54 (va_cpy (M 32) ((lm_wa (lm_wa (lm_wr M 54 a (M 28 2)) 54 (va_cpy (M 30) ((lm_wr M 54 a (M 28 2)) 54) 0 ((a + 1)) 8)) 54 (va_cpy (M 31) ((lm_wa (lm_wr M 54 a (M 28 2)) 54 (va_cpy (M 30) ((lm_wr M 54 a (M 28 2)) 54) 0 ((a + 1)) 8)) 54) 0 (((a + 1) + 8)) 8)) 54) 0 (((a + 1) + 16)) 8)) 54 (va_cpy (M 33) ((lm_wa (lm_wa (lm_wa (lm_wr M 54 a (M 28 2)) 54 (va_cpy (M 30) ((lm_wr M 54 a (M 28 2)) 54) 0 ((a + 1)) 8)) 54 (va_cpy (M 31) ((lm_wa (lm_wr M 54 a (M 28 2)) 54 (va_cpy (M 30) ((lm_wr M 54 a (M 28 2)) 54) 0 ((a + 1)) 8)) 54) 0 (((a + 1) + 8)) 8)) 54 (va_cpy (M 32) ((lm_wa (lm_wa (lm_wr M 54 a (M 28 2)) 54 (va_cpy (M 30) ((lm_wr M 54 a (M 28 2)) 54) 0 ((a + 1)) 8)) 54 (va_cpy (M 31) ((lm_wa (lm_wr M 54 a (M 28 2)) 54 (va_cpy (M 30) ((lm_wr M 54 a (M 28 2)) 54) 0 ((a + 1)) 8)) 54) 0 (((a + 1) + 8)) 8)) 54) 0 (((a + 1) + 16)) 8)) 54) 0 (((a + 1) + 24)) 8)) 54 (va_cpy (M 34) ((lm_wa (lm_wa (lm_wa (lm_wa (lm_wr M 54 a (M 28 2)) 54 (va_cpy (M 30) ((lm_wr M 54 a (M 28 2)) 54) 0 ((a + 1)) 8)) 54 (va_cpy (M 31) ((lm_wa (lm_wr M 54 a (M 28 2)) 54 (va_cpy (M 30) ((lm_wr M 54 a (M 28 2)) 54) 0 ((a + 1)) 8)) 54) 0 (((a + 1) + 8)) 8)) 54 (va_cpy (M 32) ((lm_wa (lm_wa (lm_wr M 54 a (M 28 2)) 54 (va_cpy (M 30) ((lm_wr M 54 a (M 28 2)) 54) 0 ((a + 1)) 8)) 54 (va_cpy (M 31) ((lm_wa (lm_wr M 54 a (M 28 2)) 54 (va_cpy (M 30) ((lm_wr M 54 a (M 28 2)) 54) 0 ((a + 1)) 8)) 54) 0 (((a + 1) + 8)) 8)) 54) 0 (((a + 1) + 16)) 8)) 54 (va_cpy (M 33) ((lm_wa (lm_wa (lm_wa (lm_wr M 54 a (M 28 2)) 54 (va_cpy (M 30) ((lm_wr M 54 a (M 28 2)) 54) 0 ((a + 1)) 8)) 54 (va_cpy (M 31) ((lm_wa (lm_wr M 54 a (M 28 2)) 54 (va_cpy (M 30) ((lm_wr M 54 a (M 28 2)) 54) 0 ((a + 1)) 8)) 54) 0 (((a + 1) + 8)) 8)) 54 (va_cpy (M 32) ((lm_wa (lm_wa (lm_wr M 54 a (M 28 2)) 54 (va_cpy (M 30) ((lm_wr M 54 a (M 28 2)) 54) 0 ((a + 1)) 8)) 54 (va_cpy (M 31) ((lm_wa (lm_wr M 54 a (M 28 2)) 54 (va_cpy (M 30) ((lm_wr M 54 a (M 28 2)) 54) 0 ((a + 1)) 8)) 54) 0 (((a + 1) + 8)) 8)) 54) 0 (((a + 1) + 16)) 8)) 54) 0 (((a + 1) + 24)) 8)) 54) 0 (((a + 1) + 32)) 8)) 54 (va_cpy (M 35) ((lm_wa (lm_wa (lm_wa (lm_wa (lm_wa (lm_wr M 54 a (M 28 2)) 54 (va_cpy (M 30) ((lm_wr M 54 a (M 28 2)) 54) 0 ((a + 1)) 8)) 54 (va_cpy (M 31) ((lm_wa (lm_wr M 54 a (M 28 2)) 54 (va_cpy (M 30) ((lm_wr M 54 a (M 28 2)) 54) 0 ((a + 1)) 8)) 54) 0 (((a + 1) + 8)) 8)) 54 (va_cpy (M 32) ((lm_wa (lm_wa (lm_wr M 54 a (M 28 2)) 54 (va_cpy (M 30) ((lm_wr M 54 a (M 28 2)) 54) 0 ((a + 1)) 8)) 54 (va_cpy (M 31) ((lm_wa (lm_wr M 54 a (M 28 2)) 54 (va_cpy (M 30) ((lm_wr M 54 a (M 28 2)) 54) 0 ((a + 1)) 8)) 54) 0 (((a + 1) + 8)) 8)) 54) 0 (((a + 1) + 16)) 8)) 54 (va_cpy (M 33) ((lm_wa (lm_wa (lm_wa (lm_wr M 54 a (M 28 2)) 54 (va_cpy (M 30) ((lm_wr M 54 a (M 28 2)) 54) 0 ((a + 1)) 8)) 54 (va_cpy (M 31) ((lm_wa (lm_wr M 54 a (M 28 2)) 54 (va_cpy (M 30) ((lm_wr M 54 a (M 28 2)) 54) 0 ((a + 1)) 8)) 54) 0 (((a + 1) + 8)) 8)) 54 (va_cpy (M 32) ((lm_wa (lm_wa (lm_wr M 54 a (M 28 2)) 54 (va_cpy (M 30) ((lm_wr M 54 a (M 28 2)) 54) 0 ((a + 1)) 8)) 54 (va_cpy (M 31) ((lm_wa (lm_wr M 54 a (M 28 2)) 54 (va_cpy (M 30) ((lm_wr M 54 a (M 28 2)) 54) 0 ((a + 1)) 8)) 54) 0 (((a + 1) + 8)) 8)) 54) 0 (((a + 1) + 16)) 8)) 54) 0 (((a + 1) + 24)) 8)) 54 (va_cpy (M 34) ((lm_wa (lm_wa (lm_wa (lm_wa (lm_wr M 54 a (M 28 2)) 54 (va_cpy (M 30) ((lm_wr M 54 a (M 28 2)) 54) 0 ((a + 1)) 8)) 54 (va_cpy (M 31) ((lm_wa (lm_wr M 54 a (M 28 2)) 54 (va_cpy (M 30) ((lm_wr M 54 a (M 28 2)) 54) 0 ((a + 1)) 8)) 54) 0 (((a + 1) + 8)) 8)) 54 (va_cpy (M 32) ((lm_wa (lm_wa (lm_wr M 54 a (M 28 2)) 54 (va_cpy (M 30) ((lm_wr M 54 a (M 28 2)) 54) 0 ((a + 1)) 8)) 54 (va_cpy (M 31) ((lm_wa (lm_wr M 54 a (M 28 2)) 54 (va_cpy (M 30) ((lm_wr M 54 a (M 28 2)) 54) 0 ((a + 1)) 8)) 54) 0 (((a + 1) + 8)) 8)) 54) 0 (((a + 1) + 16)) 8)) 54 (va_cpy (M 33) ((lm_wa (lm_wa (lm_wa (lm_wr M 54 a (M 28 2)) 54 (va_cpy (M 30) ((lm_wr M 54 a (M 28 2)) 54) 0 ((a + 1)) 8)) 54 (va_cpy (M 31) ((lm_wa (lm_wr M 54 a (M 28 2)) 54 (va_cpy (M 30) ((lm_wr M 54 a (M 28 2)) 54) 0 ((a + 1)) 8)) 54) 0 (((a + 1) + 8)) 8)) 54 (va_cpy (M 32) ((lm_wa (lm_wa (lm_wr M 54 a (M 28 2)) 54 (va_cpy (M 30) ((lm_wr M 54 a (M 28 2)) 54) 0 ((a + 1)) 8)) 54 (va_cpy (M 31) ((lm_wa (lm_wr M 54 a (M 28 2)) 54 (va_cpy (M 30) ((lm_wr M 54 a (M 28 2)) 54) 0 ((a + 1)) 8)) 54) 0 (((a + 1) + 8)) 8)) 54) 0 (((a + 1) + 16)) 8)) 54) 0 (((a + 1) + 24)) 8)) 54) 0 (((a + 1) + 32)) 8)) 54) 0 ((nI ((a + 1) + 40)).toNatClampNeg) 6)) v G) rfl ⟨⟨(by decide), (nI_pos (by omega)), (by decide), (by decide), (cp_le (X := ((a + 1) + 40)) (k := 6) (by omega) (by omega))⟩, (Nat.le_of_ble_eq_true rfl), trivial⟩ ?_
  rw [nI_clamp (n := ((a + 1) + 40)) (by omega)]
  have hS : SavC ((lm_wa (lm_wa (lm_wa (lm_wa (lm_wa (lm_wa (lm_wr M 54 a (M 28 2)) 54 (va_cpy (M 30) ((lm_wr M 54 a (M 28 2)) 54) 0 ((a + 1)) 8)) 54 (va_cpy (M 31) ((lm_wa (lm_wr M 54 a (M 28 2)) 54 (va_cpy (M 30) ((lm_wr M 54 a (M 28 2)) 54) 0 ((a + 1)) 8)) 54) 0 (((a + 1) + 8)) 8)) 54 (va_cpy (M 32) ((lm_wa (lm_wa (lm_wr M 54 a (M 28 2)) 54 (va_cpy (M 30) ((lm_wr M 54 a (M 28 2)) 54) 0 ((a + 1)) 8)) 54 (va_cpy (M 31) ((lm_wa (lm_wr M 54 a (M 28 2)) 54 (va_cpy (M 30) ((lm_wr M 54 a (M 28 2)) 54) 0 ((a + 1)) 8)) 54) 0 (((a + 1) + 8)) 8)) 54) 0 (((a + 1) + 16)) 8)) 54 (va_cpy (M 33) ((lm_wa (lm_wa (lm_wa (lm_wr M 54 a (M 28 2)) 54 (va_cpy (M 30) ((lm_wr M 54 a (M 28 2)) 54) 0 ((a + 1)) 8)) 54 (va_cpy (M 31) ((lm_wa (lm_wr M 54 a (M 28 2)) 54 (va_cpy (M 30) ((lm_wr M 54 a (M 28 2)) 54) 0 ((a + 1)) 8)) 54) 0 (((a + 1) + 8)) 8)) 54 (va_cpy (M 32) ((lm_wa (lm_wa (lm_wr M 54 a (M 28 2)) 54 (va_cpy (M 30) ((lm_wr M 54 a (M 28 2)) 54) 0 ((a + 1)) 8)) 54 (va_cpy (M 31) ((lm_wa (lm_wr M 54 a (M 28 2)) 54 (va_cpy (M 30) ((lm_wr M 54 a (M 28 2)) 54) 0 ((a + 1)) 8)) 54) 0 (((a + 1) + 8)) 8)) 54) 0 (((a + 1) + 16)) 8)) 54) 0 (((a + 1) + 24)) 8)) 54 (va_cpy (M 34) ((lm_wa (lm_wa (lm_wa (lm_wa (lm_wr M 54 a (M 28 2)) 54 (va_cpy (M 30) ((lm_wr M 54 a (M 28 2)) 54) 0 ((a + 1)) 8)) 54 (va_cpy (M 31) ((lm_wa (lm_wr M 54 a (M 28 2)) 54 (va_cpy (M 30) ((lm_wr M 54 a (M 28 2)) 54) 0 ((a + 1)) 8)) 54) 0 (((a + 1) + 8)) 8)) 54 (va_cpy (M 32) ((lm_wa (lm_wa (lm_wr M 54 a (M 28 2)) 54 (va_cpy (M 30) ((lm_wr M 54 a (M 28 2)) 54) 0 ((a + 1)) 8)) 54 (va_cpy (M 31) ((lm_wa (lm_wr M 54 a (M 28 2)) 54 (va_cpy (M 30) ((lm_wr M 54 a (M 28 2)) 54) 0 ((a + 1)) 8)) 54) 0 (((a + 1) + 8)) 8)) 54) 0 (((a + 1) + 16)) 8)) 54 (va_cpy (M 33) ((lm_wa (lm_wa (lm_wa (lm_wr M 54 a (M 28 2)) 54 (va_cpy (M 30) ((lm_wr M 54 a (M 28 2)) 54) 0 ((a + 1)) 8)) 54 (va_cpy (M 31) ((lm_wa (lm_wr M 54 a (M 28 2)) 54 (va_cpy (M 30) ((lm_wr M 54 a (M 28 2)) 54) 0 ((a + 1)) 8)) 54) 0 (((a + 1) + 8)) 8)) 54 (va_cpy (M 32) ((lm_wa (lm_wa (lm_wr M 54 a (M 28 2)) 54 (va_cpy (M 30) ((lm_wr M 54 a (M 28 2)) 54) 0 ((a + 1)) 8)) 54 (va_cpy (M 31) ((lm_wa (lm_wr M 54 a (M 28 2)) 54 (va_cpy (M 30) ((lm_wr M 54 a (M 28 2)) 54) 0 ((a + 1)) 8)) 54) 0 (((a + 1) + 8)) 8)) 54) 0 (((a + 1) + 16)) 8)) 54) 0 (((a + 1) + 24)) 8)) 54) 0 (((a + 1) + 32)) 8)) 54 (va_cpy (M 35) ((lm_wa (lm_wa (lm_wa (lm_wa (lm_wa (lm_wr M 54 a (M 28 2)) 54 (va_cpy (M 30) ((lm_wr M 54 a (M 28 2)) 54) 0 ((a + 1)) 8)) 54 (va_cpy (M 31) ((lm_wa (lm_wr M 54 a (M 28 2)) 54 (va_cpy (M 30) ((lm_wr M 54 a (M 28 2)) 54) 0 ((a + 1)) 8)) 54) 0 (((a + 1) + 8)) 8)) 54 (va_cpy (M 32) ((lm_wa (lm_wa (lm_wr M 54 a (M 28 2)) 54 (va_cpy (M 30) ((lm_wr M 54 a (M 28 2)) 54) 0 ((a + 1)) 8)) 54 (va_cpy (M 31) ((lm_wa (lm_wr M 54 a (M 28 2)) 54 (va_cpy (M 30) ((lm_wr M 54 a (M 28 2)) 54) 0 ((a + 1)) 8)) 54) 0 (((a + 1) + 8)) 8)) 54) 0 (((a + 1) + 16)) 8)) 54 (va_cpy (M 33) ((lm_wa (lm_wa (lm_wa (lm_wr M 54 a (M 28 2)) 54 (va_cpy (M 30) ((lm_wr M 54 a (M 28 2)) 54) 0 ((a + 1)) 8)) 54 (va_cpy (M 31) ((lm_wa (lm_wr M 54 a (M 28 2)) 54 (va_cpy (M 30) ((lm_wr M 54 a (M 28 2)) 54) 0 ((a + 1)) 8)) 54) 0 (((a + 1) + 8)) 8)) 54 (va_cpy (M 32) ((lm_wa (lm_wa (lm_wr M 54 a (M 28 2)) 54 (va_cpy (M 30) ((lm_wr M 54 a (M 28 2)) 54) 0 ((a + 1)) 8)) 54 (va_cpy (M 31) ((lm_wa (lm_wr M 54 a (M 28 2)) 54 (va_cpy (M 30) ((lm_wr M 54 a (M 28 2)) 54) 0 ((a + 1)) 8)) 54) 0 (((a + 1) + 8)) 8)) 54) 0 (((a + 1) + 16)) 8)) 54) 0 (((a + 1) + 24)) 8)) 54 (va_cpy (M 34) ((lm_wa (lm_wa (lm_wa (lm_wa (lm_wr M 54 a (M 28 2)) 54 (va_cpy (M 30) ((lm_wr M 54 a (M 28 2)) 54) 0 ((a + 1)) 8)) 54 (va_cpy (M 31) ((lm_wa (lm_wr M 54 a (M 28 2)) 54 (va_cpy (M 30) ((lm_wr M 54 a (M 28 2)) 54) 0 ((a + 1)) 8)) 54) 0 (((a + 1) + 8)) 8)) 54 (va_cpy (M 32) ((lm_wa (lm_wa (lm_wr M 54 a (M 28 2)) 54 (va_cpy (M 30) ((lm_wr M 54 a (M 28 2)) 54) 0 ((a + 1)) 8)) 54 (va_cpy (M 31) ((lm_wa (lm_wr M 54 a (M 28 2)) 54 (va_cpy (M 30) ((lm_wr M 54 a (M 28 2)) 54) 0 ((a + 1)) 8)) 54) 0 (((a + 1) + 8)) 8)) 54) 0 (((a + 1) + 16)) 8)) 54 (va_cpy (M 33) ((lm_wa (lm_wa (lm_wa (lm_wr M 54 a (M 28 2)) 54 (va_cpy (M 30) ((lm_wr M 54 a (M 28 2)) 54) 0 ((a + 1)) 8)) 54 (va_cpy (M 31) ((lm_wa (lm_wr M 54 a (M 28 2)) 54 (va_cpy (M 30) ((lm_wr M 54 a (M 28 2)) 54) 0 ((a + 1)) 8)) 54) 0 (((a + 1) + 8)) 8)) 54 (va_cpy (M 32) ((lm_wa (lm_wa (lm_wr M 54 a (M 28 2)) 54 (va_cpy (M 30) ((lm_wr M 54 a (M 28 2)) 54) 0 ((a + 1)) 8)) 54 (va_cpy (M 31) ((lm_wa (lm_wr M 54 a (M 28 2)) 54 (va_cpy (M 30) ((lm_wr M 54 a (M 28 2)) 54) 0 ((a + 1)) 8)) 54) 0 (((a + 1) + 8)) 8)) 54) 0 (((a + 1) + 16)) 8)) 54) 0 (((a + 1) + 24)) 8)) 54) 0 (((a + 1) + 32)) 8)) 54) 0 (((a + 1) + 40)) 6)) 54) a F s := by
    refine ⟨?_, fun p hp => ⟨?_, ?_, ?_, ?_, ?_⟩, fun t ht => ?_⟩
    · rw [wa_same, pk_cpy_out (by omega), wa_same, pk_cpy_out (by omega), wa_same, pk_cpy_out (by omega), wa_same, pk_cpy_out (by omega), wa_same, pk_cpy_out (by omega), wa_same, pk_cpy_out (by omega)]
      exact (wr_same).trans h.hr
    · rw [wa_same, pk_cpy_out (by omega), wa_same, pk_cpy_out (by omega), wa_same, pk_cpy_out (by omega), wa_same, pk_cpy_out (by omega), wa_same, pk_cpy_out (by omega), wa_same, pk_cpy_in (by omega) (by omega)]
      rw [show 0 + (a + 1 + p - (a + 1)) = p by omega]
      exact h.pl p hp
    · rw [wa_same, pk_cpy_out (by omega), wa_same, pk_cpy_out (by omega), wa_same, pk_cpy_out (by omega), wa_same, pk_cpy_out (by omega), wa_same, pk_cpy_in (by omega) (by omega)]
      rw [show 0 + (a + 1 + 8 + p - (a + 1 + 8)) = p by omega]
      exact h.co p hp
    · rw [wa_same, pk_cpy_out (by omega), wa_same, pk_cpy_out (by omega), wa_same, pk_cpy_out (by omega), wa_same, pk_cpy_in (by omega) (by omega)]
      rw [show 0 + (a + 1 + 16 + p - (a + 1 + 16)) = p by omega]
      exact h.hu p hp
    · rw [wa_same, pk_cpy_out (by omega), wa_same, pk_cpy_out (by omega), wa_same, pk_cpy_in (by omega) (by omega)]
      rw [show 0 + (a + 1 + 24 + p - (a + 1 + 24)) = p by omega]
      exact h.hd p hp
    · rw [wa_same, pk_cpy_out (by omega), wa_same, pk_cpy_in (by omega) (by omega)]
      rw [show 0 + (a + 1 + 32 + p - (a + 1 + 32)) = p by omega]
      exact h.id p hp
    · rw [wa_same, pk_cpy_in (by omega) (by omega)]
      rw [show 0 + (a + 1 + 40 + t - (a + 1 + 40)) = t by omega]
      exact h.ow t ht
  have hO : ∀ i, i < a ∨ a + 47 ≤ i → (lm_wa (lm_wa (lm_wa (lm_wa (lm_wa (lm_wa (lm_wr M 54 a (M 28 2)) 54 (va_cpy (M 30) ((lm_wr M 54 a (M 28 2)) 54) 0 ((a + 1)) 8)) 54 (va_cpy (M 31) ((lm_wa (lm_wr M 54 a (M 28 2)) 54 (va_cpy (M 30) ((lm_wr M 54 a (M 28 2)) 54) 0 ((a + 1)) 8)) 54) 0 (((a + 1) + 8)) 8)) 54 (va_cpy (M 32) ((lm_wa (lm_wa (lm_wr M 54 a (M 28 2)) 54 (va_cpy (M 30) ((lm_wr M 54 a (M 28 2)) 54) 0 ((a + 1)) 8)) 54 (va_cpy (M 31) ((lm_wa (lm_wr M 54 a (M 28 2)) 54 (va_cpy (M 30) ((lm_wr M 54 a (M 28 2)) 54) 0 ((a + 1)) 8)) 54) 0 (((a + 1) + 8)) 8)) 54) 0 (((a + 1) + 16)) 8)) 54 (va_cpy (M 33) ((lm_wa (lm_wa (lm_wa (lm_wr M 54 a (M 28 2)) 54 (va_cpy (M 30) ((lm_wr M 54 a (M 28 2)) 54) 0 ((a + 1)) 8)) 54 (va_cpy (M 31) ((lm_wa (lm_wr M 54 a (M 28 2)) 54 (va_cpy (M 30) ((lm_wr M 54 a (M 28 2)) 54) 0 ((a + 1)) 8)) 54) 0 (((a + 1) + 8)) 8)) 54 (va_cpy (M 32) ((lm_wa (lm_wa (lm_wr M 54 a (M 28 2)) 54 (va_cpy (M 30) ((lm_wr M 54 a (M 28 2)) 54) 0 ((a + 1)) 8)) 54 (va_cpy (M 31) ((lm_wa (lm_wr M 54 a (M 28 2)) 54 (va_cpy (M 30) ((lm_wr M 54 a (M 28 2)) 54) 0 ((a + 1)) 8)) 54) 0 (((a + 1) + 8)) 8)) 54) 0 (((a + 1) + 16)) 8)) 54) 0 (((a + 1) + 24)) 8)) 54 (va_cpy (M 34) ((lm_wa (lm_wa (lm_wa (lm_wa (lm_wr M 54 a (M 28 2)) 54 (va_cpy (M 30) ((lm_wr M 54 a (M 28 2)) 54) 0 ((a + 1)) 8)) 54 (va_cpy (M 31) ((lm_wa (lm_wr M 54 a (M 28 2)) 54 (va_cpy (M 30) ((lm_wr M 54 a (M 28 2)) 54) 0 ((a + 1)) 8)) 54) 0 (((a + 1) + 8)) 8)) 54 (va_cpy (M 32) ((lm_wa (lm_wa (lm_wr M 54 a (M 28 2)) 54 (va_cpy (M 30) ((lm_wr M 54 a (M 28 2)) 54) 0 ((a + 1)) 8)) 54 (va_cpy (M 31) ((lm_wa (lm_wr M 54 a (M 28 2)) 54 (va_cpy (M 30) ((lm_wr M 54 a (M 28 2)) 54) 0 ((a + 1)) 8)) 54) 0 (((a + 1) + 8)) 8)) 54) 0 (((a + 1) + 16)) 8)) 54 (va_cpy (M 33) ((lm_wa (lm_wa (lm_wa (lm_wr M 54 a (M 28 2)) 54 (va_cpy (M 30) ((lm_wr M 54 a (M 28 2)) 54) 0 ((a + 1)) 8)) 54 (va_cpy (M 31) ((lm_wa (lm_wr M 54 a (M 28 2)) 54 (va_cpy (M 30) ((lm_wr M 54 a (M 28 2)) 54) 0 ((a + 1)) 8)) 54) 0 (((a + 1) + 8)) 8)) 54 (va_cpy (M 32) ((lm_wa (lm_wa (lm_wr M 54 a (M 28 2)) 54 (va_cpy (M 30) ((lm_wr M 54 a (M 28 2)) 54) 0 ((a + 1)) 8)) 54 (va_cpy (M 31) ((lm_wa (lm_wr M 54 a (M 28 2)) 54 (va_cpy (M 30) ((lm_wr M 54 a (M 28 2)) 54) 0 ((a + 1)) 8)) 54) 0 (((a + 1) + 8)) 8)) 54) 0 (((a + 1) + 16)) 8)) 54) 0 (((a + 1) + 24)) 8)) 54) 0 (((a + 1) + 32)) 8)) 54 (va_cpy (M 35) ((lm_wa (lm_wa (lm_wa (lm_wa (lm_wa (lm_wr M 54 a (M 28 2)) 54 (va_cpy (M 30) ((lm_wr M 54 a (M 28 2)) 54) 0 ((a + 1)) 8)) 54 (va_cpy (M 31) ((lm_wa (lm_wr M 54 a (M 28 2)) 54 (va_cpy (M 30) ((lm_wr M 54 a (M 28 2)) 54) 0 ((a + 1)) 8)) 54) 0 (((a + 1) + 8)) 8)) 54 (va_cpy (M 32) ((lm_wa (lm_wa (lm_wr M 54 a (M 28 2)) 54 (va_cpy (M 30) ((lm_wr M 54 a (M 28 2)) 54) 0 ((a + 1)) 8)) 54 (va_cpy (M 31) ((lm_wa (lm_wr M 54 a (M 28 2)) 54 (va_cpy (M 30) ((lm_wr M 54 a (M 28 2)) 54) 0 ((a + 1)) 8)) 54) 0 (((a + 1) + 8)) 8)) 54) 0 (((a + 1) + 16)) 8)) 54 (va_cpy (M 33) ((lm_wa (lm_wa (lm_wa (lm_wr M 54 a (M 28 2)) 54 (va_cpy (M 30) ((lm_wr M 54 a (M 28 2)) 54) 0 ((a + 1)) 8)) 54 (va_cpy (M 31) ((lm_wa (lm_wr M 54 a (M 28 2)) 54 (va_cpy (M 30) ((lm_wr M 54 a (M 28 2)) 54) 0 ((a + 1)) 8)) 54) 0 (((a + 1) + 8)) 8)) 54 (va_cpy (M 32) ((lm_wa (lm_wa (lm_wr M 54 a (M 28 2)) 54 (va_cpy (M 30) ((lm_wr M 54 a (M 28 2)) 54) 0 ((a + 1)) 8)) 54 (va_cpy (M 31) ((lm_wa (lm_wr M 54 a (M 28 2)) 54 (va_cpy (M 30) ((lm_wr M 54 a (M 28 2)) 54) 0 ((a + 1)) 8)) 54) 0 (((a + 1) + 8)) 8)) 54) 0 (((a + 1) + 16)) 8)) 54) 0 (((a + 1) + 24)) 8)) 54 (va_cpy (M 34) ((lm_wa (lm_wa (lm_wa (lm_wa (lm_wr M 54 a (M 28 2)) 54 (va_cpy (M 30) ((lm_wr M 54 a (M 28 2)) 54) 0 ((a + 1)) 8)) 54 (va_cpy (M 31) ((lm_wa (lm_wr M 54 a (M 28 2)) 54 (va_cpy (M 30) ((lm_wr M 54 a (M 28 2)) 54) 0 ((a + 1)) 8)) 54) 0 (((a + 1) + 8)) 8)) 54 (va_cpy (M 32) ((lm_wa (lm_wa (lm_wr M 54 a (M 28 2)) 54 (va_cpy (M 30) ((lm_wr M 54 a (M 28 2)) 54) 0 ((a + 1)) 8)) 54 (va_cpy (M 31) ((lm_wa (lm_wr M 54 a (M 28 2)) 54 (va_cpy (M 30) ((lm_wr M 54 a (M 28 2)) 54) 0 ((a + 1)) 8)) 54) 0 (((a + 1) + 8)) 8)) 54) 0 (((a + 1) + 16)) 8)) 54 (va_cpy (M 33) ((lm_wa (lm_wa (lm_wa (lm_wr M 54 a (M 28 2)) 54 (va_cpy (M 30) ((lm_wr M 54 a (M 28 2)) 54) 0 ((a + 1)) 8)) 54 (va_cpy (M 31) ((lm_wa (lm_wr M 54 a (M 28 2)) 54 (va_cpy (M 30) ((lm_wr M 54 a (M 28 2)) 54) 0 ((a + 1)) 8)) 54) 0 (((a + 1) + 8)) 8)) 54 (va_cpy (M 32) ((lm_wa (lm_wa (lm_wr M 54 a (M 28 2)) 54 (va_cpy (M 30) ((lm_wr M 54 a (M 28 2)) 54) 0 ((a + 1)) 8)) 54 (va_cpy (M 31) ((lm_wa (lm_wr M 54 a (M 28 2)) 54 (va_cpy (M 30) ((lm_wr M 54 a (M 28 2)) 54) 0 ((a + 1)) 8)) 54) 0 (((a + 1) + 8)) 8)) 54) 0 (((a + 1) + 16)) 8)) 54) 0 (((a + 1) + 24)) 8)) 54) 0 (((a + 1) + 32)) 8)) 54) 0 (((a + 1) + 40)) 6)) 54 i = M 54 i := by
    intro i hi
    rw [wa_same, pk_cpy_out (by omega), wa_same, pk_cpy_out (by omega), wa_same, pk_cpy_out (by omega), wa_same, pk_cpy_out (by omega), wa_same, pk_cpy_out (by omega), wa_same, pk_cpy_out (by omega)]
    exact wr_at (by omega)
  exact lm_G_re rfl trivial (Nat.zero_le _) (Nat.zero_le _) (hQ _ hS hO (Fr_wa (Fr_wa (Fr_wa (Fr_wa (Fr_wa (Fr_wa (Fr_wr (Fr_rf _ _) rfl) rfl) rfl) rfl) rfl) rfl) rfl))
set_option maxRecDepth 10000 in
theorem c_loadFrom54 {X : lm_X} {d v : Nat} {M : Nat → Nat → Int32} {G : Nat → Nat → Int64} {Q : lm_O → lm_S → Prop} {F : Fa} {s : Sc} {a : Nat} (hF : okF F) (hk : KC M F) (hb : Ag (fN F) (M 29) (sBr s)) (hv : SavC (M 54) a F s) (ha : a + 47 ≤ 1880) (hQ : ∀ M1, RC 28 M1 F s → FrL M M1 → Q (.inl none) (lm_T M1 v G)) : lm_Q X (d + 1) 55 [.ref 28, .ref 54, .int (nI a)] (lm_T M v G) Q := by
  have hn := hF.n
  have hm := hF.m
  show lm_G X (d + 1) 55 106 0 0 0 [some (.ref 28), some (.ref 54), some (.int (nI a))] [] (lm_T M v G) Q
  refine lm_G_sg 1 (pc' := 1) (L' := [some (.ref 28), some (.ref 54), some (.int (nI a))]) (S' := [.int (nI a)]) (σ' := lm_T M v G) rfl trivial ?_
  refine lm_G_br (b := (nI a) < 0) (t := 13) (S' := []) rfl (fun hc => absurd hc (nI_pos (by omega))) (fun hc => ?_)
  refine lm_G_sg 3 (pc' := 8) (L' := [some (.ref 28), some (.ref 54), some (.int (nI a))]) (S' := [.int ((nI a) + 47)]) (σ' := lm_T M v G) rfl trivial ?_
  rw [show (nI a) + 47 = nI (a + 47) from nI_add a 47]
  refine lm_G_sg 2 (pc' := 10) (L' := [some (.ref 28), some (.ref 54), some (.int (nI a))]) (S' := [.int 1880, .int (nI (a + 47))]) (σ' := lm_T M v G) rfl trivial ?_
  refine lm_G_br (b := (nI (a + 47)) ≤ 1880) (t := 14) (S' := []) rfl (fun hc => ?_) (fun hc => absurd (nI_le (b := 1880) (by omega) (by omega)) hc)
  refine lm_G_sg 4 (pc' := 18) (L' := [some (.ref 28), some (.ref 54), some (.int (nI a))]) (S' := [.int (M 54 (nI a).toNatClampNeg), .ref 28]) (σ' := lm_T M v G) rfl ⟨(vp_in_nI (by omega) (by omega)), trivial, trivial⟩ ?_
  rw [show (nI a).toNatClampNeg = a from nI_clamp (by omega)]
  refine lm_G_sg 5 (pc' := 25) (L' := [some (.ref 28), some (.ref 54), some (.int (nI a))]) (S' := [.int ((nI a) + 1), .ref 54]) (σ' := lm_T (lm_wr M 28 2 (M 54 a)) v G) rfl ⟨trivial, trivial, trivial⟩ ?_
  rw [show (nI a) + 1 = nI (a + 1) from nI_add a 1]
  refine lm_G_sg 5 (pc' := 35) (L' := [some (.ref 28), some (.ref 54), some (.int (nI a))]) (S' := []) (σ' := lm_T (lm_wa (lm_wr M 28 2 (M 54 a)) 30 (va_cpy (M 54) (M 30) ((nI (a + 1)).toNatClampNeg) 0 8)) v G) rfl ⟨⟨(nI_pos (by omega)), (by decide), (by decide), (cp_le (X := (a + 1)) (k := 8) (by omega) (by omega)), (by decide)⟩, (Nat.le_of_ble_eq_true rfl), trivial⟩ ?_
  rw [nI_clamp (n := (a + 1)) (by omega)]
  refine lm_G_sg 4 (pc' := 39) (L' := [some (.ref 28), some (.ref 54), some (.int (nI a))]) (S' := [.int ((nI a) + 1), .ref 54]) (σ' := lm_T (lm_wa (lm_wr M 28 2 (M 54 a)) 30 (va_cpy (M 54) (M 30) ((a + 1)) 0 8)) v G) rfl trivial ?_
  rw [show (nI a) + 1 = nI (a + 1) from nI_add a 1]
  refine lm_G_sg 2 (pc' := 42) (L' := [some (.ref 28), some (.ref 54), some (.int (nI a))]) (S' := [.int ((nI (a + 1)) + 8), .ref 54]) (σ' := lm_T (lm_wa (lm_wr M 28 2 (M 54 a)) 30 (va_cpy (M 54) (M 30) ((a + 1)) 0 8)) v G) rfl trivial ?_
  rw [show (nI (a + 1)) + 8 = nI ((a + 1) + 8) from nI_add (a + 1) 8]
  refine lm_G_sg 5 (pc' := 52) (L' := [some (.ref 28), some (.ref 54), some (.int (nI a))]) (S' := []) (σ' := lm_T (lm_wa (lm_wa (lm_wr M 28 2 (M 54 a)) 30 (va_cpy (M 54) (M 30) ((a + 1)) 0 8)) 31 (va_cpy (M 54) (M 31) ((nI ((a + 1) + 8)).toNatClampNeg) 0 8)) v G) rfl ⟨⟨(nI_pos (by omega)), (by decide), (by decide), (cp_le (X := ((a + 1) + 8)) (k := 8) (by omega) (by omega)), (by decide)⟩, (Nat.le_of_ble_eq_true rfl), trivial⟩ ?_
  rw [nI_clamp (n := ((a + 1) + 8)) (by omega)]
  refine lm_G_sg 4 (pc' := 56) (L' := [some (.ref 28), some (.ref 54), some (.int (nI a))]) (S' := [.int ((nI a) + 1), .ref 54]) (σ' := lm_T (lm_wa (lm_wa (lm_wr M 28 2 (M 54 a)) 30 (va_cpy (M 54) (M 30) ((a + 1)) 0 8)) 31 (va_cpy (M 54) (M 31) (((a + 1) + 8)) 0 8)) v G) rfl trivial ?_
  rw [show (nI a) + 1 = nI (a + 1) from nI_add a 1]
  refine lm_G_sg 2 (pc' := 59) (L' := [some (.ref 28), some (.ref 54), some (.int (nI a))]) (S' := [.int ((nI (a + 1)) + 16), .ref 54]) (σ' := lm_T (lm_wa (lm_wa (lm_wr M 28 2 (M 54 a)) 30 (va_cpy (M 54) (M 30) ((a + 1)) 0 8)) 31 (va_cpy (M 54) (M 31) (((a + 1) + 8)) 0 8)) v G) rfl trivial ?_
  rw [show (nI (a + 1)) + 16 = nI ((a + 1) + 16) from nI_add (a + 1) 16]
  refine lm_G_sg 5 (pc' := 69) (L' := [some (.ref 28), some (.ref 54), some (.int (nI a))]) (S' := []) (σ' := lm_T (lm_wa (lm_wa (lm_wa (lm_wr M 28 2 (M 54 a)) 30 (va_cpy (M 54) (M 30) ((a + 1)) 0 8)) 31 (va_cpy (M 54) (M 31) (((a + 1) + 8)) 0 8)) 32 (va_cpy (M 54) (M 32) ((nI ((a + 1) + 16)).toNatClampNeg) 0 8)) v G) rfl ⟨⟨(nI_pos (by omega)), (by decide), (by decide), (cp_le (X := ((a + 1) + 16)) (k := 8) (by omega) (by omega)), (by decide)⟩, (Nat.le_of_ble_eq_true rfl), trivial⟩ ?_
  rw [nI_clamp (n := ((a + 1) + 16)) (by omega)]
  refine lm_G_sg 4 (pc' := 73) (L' := [some (.ref 28), some (.ref 54), some (.int (nI a))]) (S' := [.int ((nI a) + 1), .ref 54]) (σ' := lm_T (lm_wa (lm_wa (lm_wa (lm_wr M 28 2 (M 54 a)) 30 (va_cpy (M 54) (M 30) ((a + 1)) 0 8)) 31 (va_cpy (M 54) (M 31) (((a + 1) + 8)) 0 8)) 32 (va_cpy (M 54) (M 32) (((a + 1) + 16)) 0 8)) v G) rfl trivial ?_
  rw [show (nI a) + 1 = nI (a + 1) from nI_add a 1]
  refine lm_G_sg 2 (pc' := 76) (L' := [some (.ref 28), some (.ref 54), some (.int (nI a))]) (S' := [.int ((nI (a + 1)) + 24), .ref 54]) (σ' := lm_T (lm_wa (lm_wa (lm_wa (lm_wr M 28 2 (M 54 a)) 30 (va_cpy (M 54) (M 30) ((a + 1)) 0 8)) 31 (va_cpy (M 54) (M 31) (((a + 1) + 8)) 0 8)) 32 (va_cpy (M 54) (M 32) (((a + 1) + 16)) 0 8)) v G) rfl trivial ?_
  rw [show (nI (a + 1)) + 24 = nI ((a + 1) + 24) from nI_add (a + 1) 24]
  refine lm_G_sg 5 (pc' := 86) (L' := [some (.ref 28), some (.ref 54), some (.int (nI a))]) (S' := []) (σ' := lm_T (lm_wa (lm_wa (lm_wa (lm_wa (lm_wr M 28 2 (M 54 a)) 30 (va_cpy (M 54) (M 30) ((a + 1)) 0 8)) 31 (va_cpy (M 54) (M 31) (((a + 1) + 8)) 0 8)) 32 (va_cpy (M 54) (M 32) (((a + 1) + 16)) 0 8)) 33 (va_cpy (M 54) (M 33) ((nI ((a + 1) + 24)).toNatClampNeg) 0 8)) v G) rfl ⟨⟨(nI_pos (by omega)), (by decide), (by decide), (cp_le (X := ((a + 1) + 24)) (k := 8) (by omega) (by omega)), (by decide)⟩, (Nat.le_of_ble_eq_true rfl), trivial⟩ ?_
  rw [nI_clamp (n := ((a + 1) + 24)) (by omega)]
  refine lm_G_sg 4 (pc' := 90) (L' := [some (.ref 28), some (.ref 54), some (.int (nI a))]) (S' := [.int ((nI a) + 1), .ref 54]) (σ' := lm_T (lm_wa (lm_wa (lm_wa (lm_wa (lm_wr M 28 2 (M 54 a)) 30 (va_cpy (M 54) (M 30) ((a + 1)) 0 8)) 31 (va_cpy (M 54) (M 31) (((a + 1) + 8)) 0 8)) 32 (va_cpy (M 54) (M 32) (((a + 1) + 16)) 0 8)) 33 (va_cpy (M 54) (M 33) (((a + 1) + 24)) 0 8)) v G) rfl trivial ?_
  rw [show (nI a) + 1 = nI (a + 1) from nI_add a 1]
  refine lm_G_sg 2 (pc' := 93) (L' := [some (.ref 28), some (.ref 54), some (.int (nI a))]) (S' := [.int ((nI (a + 1)) + 32), .ref 54]) (σ' := lm_T (lm_wa (lm_wa (lm_wa (lm_wa (lm_wr M 28 2 (M 54 a)) 30 (va_cpy (M 54) (M 30) ((a + 1)) 0 8)) 31 (va_cpy (M 54) (M 31) (((a + 1) + 8)) 0 8)) 32 (va_cpy (M 54) (M 32) (((a + 1) + 16)) 0 8)) 33 (va_cpy (M 54) (M 33) (((a + 1) + 24)) 0 8)) v G) rfl trivial ?_
  rw [show (nI (a + 1)) + 32 = nI ((a + 1) + 32) from nI_add (a + 1) 32]
  refine lm_G_sg 5 (pc' := 103) (L' := [some (.ref 28), some (.ref 54), some (.int (nI a))]) (S' := []) (σ' := lm_T (lm_wa (lm_wa (lm_wa (lm_wa (lm_wa (lm_wr M 28 2 (M 54 a)) 30 (va_cpy (M 54) (M 30) ((a + 1)) 0 8)) 31 (va_cpy (M 54) (M 31) (((a + 1) + 8)) 0 8)) 32 (va_cpy (M 54) (M 32) (((a + 1) + 16)) 0 8)) 33 (va_cpy (M 54) (M 33) (((a + 1) + 24)) 0 8)) 34 (va_cpy (M 54) (M 34) ((nI ((a + 1) + 32)).toNatClampNeg) 0 8)) v G) rfl ⟨⟨(nI_pos (by omega)), (by decide), (by decide), (cp_le (X := ((a + 1) + 32)) (k := 8) (by omega) (by omega)), (by decide)⟩, (Nat.le_of_ble_eq_true rfl), trivial⟩ ?_
  rw [nI_clamp (n := ((a + 1) + 32)) (by omega)]
  refine lm_G_sg 4 (pc' := 107) (L' := [some (.ref 28), some (.ref 54), some (.int (nI a))]) (S' := [.int ((nI a) + 1), .ref 54]) (σ' := lm_T (lm_wa (lm_wa (lm_wa (lm_wa (lm_wa (lm_wr M 28 2 (M 54 a)) 30 (va_cpy (M 54) (M 30) ((a + 1)) 0 8)) 31 (va_cpy (M 54) (M 31) (((a + 1) + 8)) 0 8)) 32 (va_cpy (M 54) (M 32) (((a + 1) + 16)) 0 8)) 33 (va_cpy (M 54) (M 33) (((a + 1) + 24)) 0 8)) 34 (va_cpy (M 54) (M 34) (((a + 1) + 32)) 0 8)) v G) rfl trivial ?_
  rw [show (nI a) + 1 = nI (a + 1) from nI_add a 1]
  refine lm_G_sg 2 (pc' := 110) (L' := [some (.ref 28), some (.ref 54), some (.int (nI a))]) (S' := [.int ((nI (a + 1)) + 40), .ref 54]) (σ' := lm_T (lm_wa (lm_wa (lm_wa (lm_wa (lm_wa (lm_wr M 28 2 (M 54 a)) 30 (va_cpy (M 54) (M 30) ((a + 1)) 0 8)) 31 (va_cpy (M 54) (M 31) (((a + 1) + 8)) 0 8)) 32 (va_cpy (M 54) (M 32) (((a + 1) + 16)) 0 8)) 33 (va_cpy (M 54) (M 33) (((a + 1) + 24)) 0 8)) 34 (va_cpy (M 54) (M 34) (((a + 1) + 32)) 0 8)) v G) rfl trivial ?_
  rw [show (nI (a + 1)) + 40 = nI ((a + 1) + 40) from nI_add (a + 1) 40]
  refine lm_G_sg 5 (pc' := 120) (L' := [some (.ref 28), some (.ref 54), some (.int (nI a))]) (S' := []) (σ' := lm_T (lm_wa (lm_wa (lm_wa (lm_wa (lm_wa (lm_wa (lm_wr M 28 2 (M 54 a)) 30 (va_cpy (M 54) (M 30) ((a + 1)) 0 8)) 31 (va_cpy (M 54) (M 31) (((a + 1) + 8)) 0 8)) 32 (va_cpy (M 54) (M 32) (((a + 1) + 16)) 0 8)) 33 (va_cpy (M 54) (M 33) (((a + 1) + 24)) 0 8)) 34 (va_cpy (M 54) (M 34) (((a + 1) + 32)) 0 8)) 35 (va_cpy (M 54) (M 35) ((nI ((a + 1) + 40)).toNatClampNeg) 0 6)) v G) rfl ⟨⟨(nI_pos (by omega)), (by decide), (by decide), (cp_le (X := ((a + 1) + 40)) (k := 6) (by omega) (by omega)), (by decide)⟩, (Nat.le_of_ble_eq_true rfl), trivial⟩ ?_
  rw [nI_clamp (n := ((a + 1) + 40)) (by omega)]
  refine lm_G_sg 1 (pc' := 121) (L' := [some (.ref 28), some (.ref 54), some (.int (nI a))]) (S' := [.ref 28]) (σ' := lm_T (lm_wa (lm_wa (lm_wa (lm_wa (lm_wa (lm_wa (lm_wr M 28 2 (M 54 a)) 30 (va_cpy (M 54) (M 30) ((a + 1)) 0 8)) 31 (va_cpy (M 54) (M 31) (((a + 1) + 8)) 0 8)) 32 (va_cpy (M 54) (M 32) (((a + 1) + 16)) 0 8)) 33 (va_cpy (M 54) (M 33) (((a + 1) + 24)) 0 8)) 34 (va_cpy (M 54) (M 34) (((a + 1) + 32)) 0 8)) 35 (va_cpy (M 54) (M 35) (((a + 1) + 40)) 0 6)) v G) rfl trivial ?_
  have h0 : PC 28 (lm_wa (lm_wa (lm_wa (lm_wa (lm_wa (lm_wa (lm_wr M 28 2 (M 54 a)) 30 (va_cpy (M 54) (M 30) ((a + 1)) 0 8)) 31 (va_cpy (M 54) (M 31) (((a + 1) + 8)) 0 8)) 32 (va_cpy (M 54) (M 32) (((a + 1) + 16)) 0 8)) 33 (va_cpy (M 54) (M 33) (((a + 1) + 24)) 0 8)) 34 (va_cpy (M 54) (M 34) (((a + 1) + 32)) 0 8)) 35 (va_cpy (M 54) (M 35) (((a + 1) + 40)) 0 6)) F s := ⟨KC_of hk rfl rfl rfl rfl rfl rfl rfl, hv.1, hb, Ag_cps (fun p hp => (hv.2.1 p hp).1) (by omega), Ag_cps (fun p hp => (hv.2.1 p hp).2.1) (by omega), Ag_cps (fun p hp => (hv.2.1 p hp).2.2.1) (by omega), Ag_cps (fun p hp => (hv.2.1 p hp).2.2.2.1) (by omega), Ag_cps (fun p hp => (hv.2.1 p hp).2.2.2.2) (by omega), Ag_cps (fun t ht => hv.2.2 t ht) (by omega)⟩
  have f0 : Fr frL M (lm_wa (lm_wa (lm_wa (lm_wa (lm_wa (lm_wa (lm_wr M 28 2 (M 54 a)) 30 (va_cpy (M 54) (M 30) ((a + 1)) 0 8)) 31 (va_cpy (M 54) (M 31) (((a + 1) + 8)) 0 8)) 32 (va_cpy (M 54) (M 32) (((a + 1) + 16)) 0 8)) 33 (va_cpy (M 54) (M 33) (((a + 1) + 24)) 0 8)) 34 (va_cpy (M 54) (M 34) (((a + 1) + 32)) 0 8)) 35 (va_cpy (M 54) (M 35) (((a + 1) + 40)) 0 6)) := Fr_wa (Fr_wa (Fr_wa (Fr_wa (Fr_wa (Fr_wa (Fr_wr (Fr_rf _ _) rfl) rfl) rfl) rfl) rfl) rfl) rfl
  have g0 : ∀ k, k ≠ 2 → (lm_wa (lm_wa (lm_wa (lm_wa (lm_wa (lm_wa (lm_wr M 28 2 (M 54 a)) 30 (va_cpy (M 54) (M 30) ((a + 1)) 0 8)) 31 (va_cpy (M 54) (M 31) (((a + 1) + 8)) 0 8)) 32 (va_cpy (M 54) (M 32) (((a + 1) + 16)) 0 8)) 33 (va_cpy (M 54) (M 33) (((a + 1) + 24)) 0 8)) 34 (va_cpy (M 54) (M 34) (((a + 1) + 32)) 0 8)) 35 (va_cpy (M 54) (M 35) (((a + 1) + 40)) 0 6)) 28 k = M 28 k := fun k hk => (wr_at hk : lm_wr M 28 2 (M 54 a) 28 k = M 28 k)
  revert h0 f0 g0
  generalize lm_wa (lm_wa (lm_wa (lm_wa (lm_wa (lm_wa (lm_wr M 28 2 (M 54 a)) 30 (va_cpy (M 54) (M 30) ((a + 1)) 0 8)) 31 (va_cpy (M 54) (M 31) (((a + 1) + 8)) 0 8)) 32 (va_cpy (M 54) (M 32) (((a + 1) + 16)) 0 8)) 33 (va_cpy (M 54) (M 33) (((a + 1) + 24)) 0 8)) 34 (va_cpy (M 54) (M 34) (((a + 1) + 32)) 0 8)) 35 (va_cpy (M 54) (M 35) (((a + 1) + 40)) 0 6) = M1
  intro h0 f0 g0
  refine lm_G_ca (j := 56) (as := [.ref 28]) (rest := []) rfl (Or.inl rfl) (Nat.le_of_ble_eq_true rfl) (Nat.le_of_ble_eq_true rfl) (Nat.le_of_ble_eq_true rfl) (Nat.le_of_ble_eq_true rfl) rfl ?_
  refine c_findHummers28 hF h0 (fun M2 k1 k2 => ?_)
  show lm_G X (d + 1) 55 106 0 0 124 [some (.ref 28), some (.ref 54), some (.int (nI a))] [] (lm_T M2 v G) Q
  have h2 : PC 28 M2 F s := by
    refine ⟨KC_of h0.1 (k2 14 rfl) (k2 16 rfl) (k2 19 rfl) (k2 20 rfl) (k2 22 rfl) (k2 23 rfl) (k2 24 rfl), ?_⟩
    rw [k2 28 rfl, k2 (28 + 1) rfl, k2 (28 + 2) rfl, k2 (28 + 3) rfl, k2 (28 + 4) rfl, k2 (28 + 5) rfl, k2 (28 + 6) rfl, k2 (28 + 7) rfl]
    exact h0.2
  refine lm_G_sg 1 (pc' := 125) (L' := [some (.ref 28), some (.ref 54), some (.int (nI a))]) (S' := [.ref 28]) (σ' := lm_T M2 v G) rfl trivial ?_
  refine lm_G_ca (j := 57) (as := [.ref 28]) (rest := []) rfl (Or.inl rfl) (Nat.le_of_ble_eq_true rfl) (Nat.le_of_ble_eq_true rfl) (Nat.le_of_ble_eq_true rfl) (Nat.le_of_ble_eq_true rfl) rfl ?_
  refine c_findHeard28 hF h2 (fun M3 k3 k4 => ?_)
  show lm_G X (d + 1) 55 106 0 0 128 [some (.ref 28), some (.ref 54), some (.int (nI a))] [] (lm_T M3 v G) Q
  have h3 : PC 28 M3 F s := by
    refine ⟨KC_of h2.1 (k4 14 rfl) (k4 16 rfl) (k4 19 rfl) (k4 20 rfl) (k4 22 rfl) (k4 23 rfl) (k4 24 rfl), ?_⟩
    rw [k4 28 rfl, k4 (28 + 1) rfl, k4 (28 + 2) rfl, k4 (28 + 3) rfl, k4 (28 + 4) rfl, k4 (28 + 5) rfl, k4 (28 + 6) rfl, k4 (28 + 7) rfl]
    exact h2.2
  exact lm_G_re rfl trivial (Nat.zero_le _) (Nat.zero_le _) (hQ _ (PC_RC h3 (by rw [k4 (28 + 8) rfl]; exact k1) k3) ⟨Fr_tr (Fr_tr f0 (Fr_mn k2 (fun a ha => frLO ha rfl))) (Fr_mn k4 (fun a ha => frLO ha rfl)), fun k hk => by rw [k4 28 rfl, k2 28 rfl]; exact g0 k hk⟩)
set_option maxRecDepth 10000 in
theorem c_saveTo58 {X : lm_X} {d v : Nat} {M : Nat → Nat → Int32} {G : Nat → Nat → Int64} {Q : lm_O → lm_S → Prop} {F : Fa} {s : Sc} {a : Nat} (hF : okF F) (h : RC 28 M F s) (ha : a + 47 ≤ 47) (hQ : ∀ M1, SavC (M1 58) a F s → (∀ i, i < a ∨ a + 47 ≤ i → M1 58 i = M 58 i) → Fr (frO 58) M M1 → Q (.inl none) (lm_T M1 v G)) : lm_Q X d 54 [.ref 28, .ref 58, .int (nI a)] (lm_T M v G) Q := by
  have hn := hF.n
  have hm := hF.m
  show lm_G X d 54 106 0 0 0 [some (.ref 28), some (.ref 58), some (.int (nI a))] [] (lm_T M v G) Q
  refine lm_G_sg 1 (pc' := 1) (L' := [some (.ref 28), some (.ref 58), some (.int (nI a))]) (S' := [.int (nI a)]) (σ' := lm_T M v G) rfl trivial ?_
  refine lm_G_br (b := (nI a) < 0) (t := 13) (S' := []) rfl (fun hc => absurd hc (nI_pos (by omega))) (fun hc => ?_)
  refine lm_G_sg 3 (pc' := 8) (L' := [some (.ref 28), some (.ref 58), some (.int (nI a))]) (S' := [.int ((nI a) + 47)]) (σ' := lm_T M v G) rfl trivial ?_
  rw [show (nI a) + 47 = nI (a + 47) from nI_add a 47]
  refine lm_G_sg 2 (pc' := 10) (L' := [some (.ref 28), some (.ref 58), some (.int (nI a))]) (S' := [.int 47, .int (nI (a + 47))]) (σ' := lm_T M v G) rfl trivial ?_
  refine lm_G_br (b := (nI (a + 47)) ≤ 47) (t := 14) (S' := []) rfl (fun hc => ?_) (fun hc => absurd (nI_le (b := 47) (by omega) (by omega)) hc)
  refine lm_G_sg 5 (pc' := 21) (L' := [some (.ref 28), some (.ref 58), some (.int (nI a))]) (S' := []) (σ' := lm_T (lm_wr M 58 ((nI a).toNatClampNeg) (M 28 2)) v G) rfl ⟨(vp_in_nI (by omega) (by omega)), trivial, trivial⟩ ?_
  rw [show (nI a).toNatClampNeg = a from nI_clamp (by omega)]
  refine lm_G_sg 7 (pc' := 30) (L' := [some (.ref 28), some (.ref 58), some (.int (nI a))]) (S' := [.int ((nI a) + 1), .ref 58, .int 0, .ref 30]) (σ' := lm_T (lm_wr M 58 a (M 28 2)) v G) rfl trivial ?_
  rw [show (nI a) + 1 = nI (a + 1) from nI_add a 1]
  refine lm_G_sg 2 (pc' := 35) (L' := [some (.ref 28), some (.ref 58), some (.int (nI a))]) (S' := []) (σ' := lm_T (lm_wa (lm_wr M 58 a (M 28 2)) 58 (va_cpy (M 30) ((lm_wr M 58 a (M 28 2)) 58) 0 ((nI (a + 1)).toNatClampNeg) 8)) v G) rfl ⟨⟨(by decide), (nI_pos (by omega)), (by decide), (by decide), (cp_le (X := (a + 1)) (k := 8) (by omega) (by omega))⟩, (Nat.le_of_ble_eq_true rfl), trivial⟩ ?_
  rw [nI_clamp (n := (a + 1)) (by omega)]
  refine lm_G_sg 7 (pc' := 44) (L' := [some (.ref 28), some (.ref 58), some (.int (nI a))]) (S' := [.int ((nI a) + 1), .ref 58, .int 0, .ref 31]) (σ' := lm_T (lm_wa (lm_wr M 58 a (M 28 2)) 58 (va_cpy (M 30) ((lm_wr M 58 a (M 28 2)) 58) 0 ((a + 1)) 8)) v G) rfl trivial ?_
  rw [show (nI a) + 1 = nI (a + 1) from nI_add a 1]
  refine lm_G_sg 2 (pc' := 47) (L' := [some (.ref 28), some (.ref 58), some (.int (nI a))]) (S' := [.int ((nI (a + 1)) + 8), .ref 58, .int 0, .ref 31]) (σ' := lm_T (lm_wa (lm_wr M 58 a (M 28 2)) 58 (va_cpy (M 30) ((lm_wr M 58 a (M 28 2)) 58) 0 ((a + 1)) 8)) v G) rfl trivial ?_
  rw [show (nI (a + 1)) + 8 = nI ((a + 1) + 8) from nI_add (a + 1) 8]
  refine lm_G_sg 2 (pc' := 52) (L' := [some (.ref 28), some (.ref 58), some (.int (nI a))]) (S' := []) (σ' := lm_T (lm_wa (lm_wa (lm_wr M 58 a (M 28 2)) 58 (va_cpy (M 30) ((lm_wr M 58 a (M 28 2)) 58) 0 ((a + 1)) 8)) 58 (va_cpy (M 31) ((lm_wa (lm_wr M 58 a (M 28 2)) 58 (va_cpy (M 30) ((lm_wr M 58 a (M 28 2)) 58) 0 ((a + 1)) 8)) 58) 0 ((nI ((a + 1) + 8)).toNatClampNeg) 8)) v G) rfl ⟨⟨(by decide), (nI_pos (by omega)), (by decide), (by decide), (cp_le (X := ((a + 1) + 8)) (k := 8) (by omega) (by omega))⟩, (Nat.le_of_ble_eq_true rfl), trivial⟩ ?_
  rw [nI_clamp (n := ((a + 1) + 8)) (by omega)]
  refine lm_G_sg 7 (pc' := 61) (L' := [some (.ref 28), some (.ref 58), some (.int (nI a))]) (S' := [.int ((nI a) + 1), .ref 58, .int 0, .ref 32]) (σ' := lm_T (lm_wa (lm_wa (lm_wr M 58 a (M 28 2)) 58 (va_cpy (M 30) ((lm_wr M 58 a (M 28 2)) 58) 0 ((a + 1)) 8)) 58 (va_cpy (M 31) ((lm_wa (lm_wr M 58 a (M 28 2)) 58 (va_cpy (M 30) ((lm_wr M 58 a (M 28 2)) 58) 0 ((a + 1)) 8)) 58) 0 (((a + 1) + 8)) 8)) v G) rfl trivial ?_
  rw [show (nI a) + 1 = nI (a + 1) from nI_add a 1]
  refine lm_G_sg 2 (pc' := 64) (L' := [some (.ref 28), some (.ref 58), some (.int (nI a))]) (S' := [.int ((nI (a + 1)) + 16), .ref 58, .int 0, .ref 32]) (σ' := lm_T (lm_wa (lm_wa (lm_wr M 58 a (M 28 2)) 58 (va_cpy (M 30) ((lm_wr M 58 a (M 28 2)) 58) 0 ((a + 1)) 8)) 58 (va_cpy (M 31) ((lm_wa (lm_wr M 58 a (M 28 2)) 58 (va_cpy (M 30) ((lm_wr M 58 a (M 28 2)) 58) 0 ((a + 1)) 8)) 58) 0 (((a + 1) + 8)) 8)) v G) rfl trivial ?_
  rw [show (nI (a + 1)) + 16 = nI ((a + 1) + 16) from nI_add (a + 1) 16]
  refine lm_G_sg 2 (pc' := 69) (L' := [some (.ref 28), some (.ref 58), some (.int (nI a))]) (S' := []) (σ' := lm_T (lm_wa (lm_wa (lm_wa (lm_wr M 58 a (M 28 2)) 58 (va_cpy (M 30) ((lm_wr M 58 a (M 28 2)) 58) 0 ((a + 1)) 8)) 58 (va_cpy (M 31) ((lm_wa (lm_wr M 58 a (M 28 2)) 58 (va_cpy (M 30) ((lm_wr M 58 a (M 28 2)) 58) 0 ((a + 1)) 8)) 58) 0 (((a + 1) + 8)) 8)) 58 (va_cpy (M 32) ((lm_wa (lm_wa (lm_wr M 58 a (M 28 2)) 58 (va_cpy (M 30) ((lm_wr M 58 a (M 28 2)) 58) 0 ((a + 1)) 8)) 58 (va_cpy (M 31) ((lm_wa (lm_wr M 58 a (M 28 2)) 58 (va_cpy (M 30) ((lm_wr M 58 a (M 28 2)) 58) 0 ((a + 1)) 8)) 58) 0 (((a + 1) + 8)) 8)) 58) 0 ((nI ((a + 1) + 16)).toNatClampNeg) 8)) v G) rfl ⟨⟨(by decide), (nI_pos (by omega)), (by decide), (by decide), (cp_le (X := ((a + 1) + 16)) (k := 8) (by omega) (by omega))⟩, (Nat.le_of_ble_eq_true rfl), trivial⟩ ?_
  rw [nI_clamp (n := ((a + 1) + 16)) (by omega)]
  refine lm_G_sg 7 (pc' := 78) (L' := [some (.ref 28), some (.ref 58), some (.int (nI a))]) (S' := [.int ((nI a) + 1), .ref 58, .int 0, .ref 33]) (σ' := lm_T (lm_wa (lm_wa (lm_wa (lm_wr M 58 a (M 28 2)) 58 (va_cpy (M 30) ((lm_wr M 58 a (M 28 2)) 58) 0 ((a + 1)) 8)) 58 (va_cpy (M 31) ((lm_wa (lm_wr M 58 a (M 28 2)) 58 (va_cpy (M 30) ((lm_wr M 58 a (M 28 2)) 58) 0 ((a + 1)) 8)) 58) 0 (((a + 1) + 8)) 8)) 58 (va_cpy (M 32) ((lm_wa (lm_wa (lm_wr M 58 a (M 28 2)) 58 (va_cpy (M 30) ((lm_wr M 58 a (M 28 2)) 58) 0 ((a + 1)) 8)) 58 (va_cpy (M 31) ((lm_wa (lm_wr M 58 a (M 28 2)) 58 (va_cpy (M 30) ((lm_wr M 58 a (M 28 2)) 58) 0 ((a + 1)) 8)) 58) 0 (((a + 1) + 8)) 8)) 58) 0 (((a + 1) + 16)) 8)) v G) rfl trivial ?_
  rw [show (nI a) + 1 = nI (a + 1) from nI_add a 1]
  refine lm_G_sg 2 (pc' := 81) (L' := [some (.ref 28), some (.ref 58), some (.int (nI a))]) (S' := [.int ((nI (a + 1)) + 24), .ref 58, .int 0, .ref 33]) (σ' := lm_T (lm_wa (lm_wa (lm_wa (lm_wr M 58 a (M 28 2)) 58 (va_cpy (M 30) ((lm_wr M 58 a (M 28 2)) 58) 0 ((a + 1)) 8)) 58 (va_cpy (M 31) ((lm_wa (lm_wr M 58 a (M 28 2)) 58 (va_cpy (M 30) ((lm_wr M 58 a (M 28 2)) 58) 0 ((a + 1)) 8)) 58) 0 (((a + 1) + 8)) 8)) 58 (va_cpy (M 32) ((lm_wa (lm_wa (lm_wr M 58 a (M 28 2)) 58 (va_cpy (M 30) ((lm_wr M 58 a (M 28 2)) 58) 0 ((a + 1)) 8)) 58 (va_cpy (M 31) ((lm_wa (lm_wr M 58 a (M 28 2)) 58 (va_cpy (M 30) ((lm_wr M 58 a (M 28 2)) 58) 0 ((a + 1)) 8)) 58) 0 (((a + 1) + 8)) 8)) 58) 0 (((a + 1) + 16)) 8)) v G) rfl trivial ?_
  rw [show (nI (a + 1)) + 24 = nI ((a + 1) + 24) from nI_add (a + 1) 24]
  refine lm_G_sg 2 (pc' := 86) (L' := [some (.ref 28), some (.ref 58), some (.int (nI a))]) (S' := []) (σ' := lm_T (lm_wa (lm_wa (lm_wa (lm_wa (lm_wr M 58 a (M 28 2)) 58 (va_cpy (M 30) ((lm_wr M 58 a (M 28 2)) 58) 0 ((a + 1)) 8)) 58 (va_cpy (M 31) ((lm_wa (lm_wr M 58 a (M 28 2)) 58 (va_cpy (M 30) ((lm_wr M 58 a (M 28 2)) 58) 0 ((a + 1)) 8)) 58) 0 (((a + 1) + 8)) 8)) 58 (va_cpy (M 32) ((lm_wa (lm_wa (lm_wr M 58 a (M 28 2)) 58 (va_cpy (M 30) ((lm_wr M 58 a (M 28 2)) 58) 0 ((a + 1)) 8)) 58 (va_cpy (M 31) ((lm_wa (lm_wr M 58 a (M 28 2)) 58 (va_cpy (M 30) ((lm_wr M 58 a (M 28 2)) 58) 0 ((a + 1)) 8)) 58) 0 (((a + 1) + 8)) 8)) 58) 0 (((a + 1) + 16)) 8)) 58 (va_cpy (M 33) ((lm_wa (lm_wa (lm_wa (lm_wr M 58 a (M 28 2)) 58 (va_cpy (M 30) ((lm_wr M 58 a (M 28 2)) 58) 0 ((a + 1)) 8)) 58 (va_cpy (M 31) ((lm_wa (lm_wr M 58 a (M 28 2)) 58 (va_cpy (M 30) ((lm_wr M 58 a (M 28 2)) 58) 0 ((a + 1)) 8)) 58) 0 (((a + 1) + 8)) 8)) 58 (va_cpy (M 32) ((lm_wa (lm_wa (lm_wr M 58 a (M 28 2)) 58 (va_cpy (M 30) ((lm_wr M 58 a (M 28 2)) 58) 0 ((a + 1)) 8)) 58 (va_cpy (M 31) ((lm_wa (lm_wr M 58 a (M 28 2)) 58 (va_cpy (M 30) ((lm_wr M 58 a (M 28 2)) 58) 0 ((a + 1)) 8)) 58) 0 (((a + 1) + 8)) 8)) 58) 0 (((a + 1) + 16)) 8)) 58) 0 ((nI ((a + 1) + 24)).toNatClampNeg) 8)) v G) rfl ⟨⟨(by decide), (nI_pos (by omega)), (by decide), (by decide), (cp_le (X := ((a + 1) + 24)) (k := 8) (by omega) (by omega))⟩, (Nat.le_of_ble_eq_true rfl), trivial⟩ ?_
  rw [nI_clamp (n := ((a + 1) + 24)) (by omega)]
  refine lm_G_sg 7 (pc' := 95) (L' := [some (.ref 28), some (.ref 58), some (.int (nI a))]) (S' := [.int ((nI a) + 1), .ref 58, .int 0, .ref 34]) (σ' := lm_T (lm_wa (lm_wa (lm_wa (lm_wa (lm_wr M 58 a (M 28 2)) 58 (va_cpy (M 30) ((lm_wr M 58 a (M 28 2)) 58) 0 ((a + 1)) 8)) 58 (va_cpy (M 31) ((lm_wa (lm_wr M 58 a (M 28 2)) 58 (va_cpy (M 30) ((lm_wr M 58 a (M 28 2)) 58) 0 ((a + 1)) 8)) 58) 0 (((a + 1) + 8)) 8)) 58 (va_cpy (M 32) ((lm_wa (lm_wa (lm_wr M 58 a (M 28 2)) 58 (va_cpy (M 30) ((lm_wr M 58 a (M 28 2)) 58) 0 ((a + 1)) 8)) 58 (va_cpy (M 31) ((lm_wa (lm_wr M 58 a (M 28 2)) 58 (va_cpy (M 30) ((lm_wr M 58 a (M 28 2)) 58) 0 ((a + 1)) 8)) 58) 0 (((a + 1) + 8)) 8)) 58) 0 (((a + 1) + 16)) 8)) 58 (va_cpy (M 33) ((lm_wa (lm_wa (lm_wa (lm_wr M 58 a (M 28 2)) 58 (va_cpy (M 30) ((lm_wr M 58 a (M 28 2)) 58) 0 ((a + 1)) 8)) 58 (va_cpy (M 31) ((lm_wa (lm_wr M 58 a (M 28 2)) 58 (va_cpy (M 30) ((lm_wr M 58 a (M 28 2)) 58) 0 ((a + 1)) 8)) 58) 0 (((a + 1) + 8)) 8)) 58 (va_cpy (M 32) ((lm_wa (lm_wa (lm_wr M 58 a (M 28 2)) 58 (va_cpy (M 30) ((lm_wr M 58 a (M 28 2)) 58) 0 ((a + 1)) 8)) 58 (va_cpy (M 31) ((lm_wa (lm_wr M 58 a (M 28 2)) 58 (va_cpy (M 30) ((lm_wr M 58 a (M 28 2)) 58) 0 ((a + 1)) 8)) 58) 0 (((a + 1) + 8)) 8)) 58) 0 (((a + 1) + 16)) 8)) 58) 0 (((a + 1) + 24)) 8)) v G) rfl trivial ?_
  rw [show (nI a) + 1 = nI (a + 1) from nI_add a 1]
  refine lm_G_sg 2 (pc' := 98) (L' := [some (.ref 28), some (.ref 58), some (.int (nI a))]) (S' := [.int ((nI (a + 1)) + 32), .ref 58, .int 0, .ref 34]) (σ' := lm_T (lm_wa (lm_wa (lm_wa (lm_wa (lm_wr M 58 a (M 28 2)) 58 (va_cpy (M 30) ((lm_wr M 58 a (M 28 2)) 58) 0 ((a + 1)) 8)) 58 (va_cpy (M 31) ((lm_wa (lm_wr M 58 a (M 28 2)) 58 (va_cpy (M 30) ((lm_wr M 58 a (M 28 2)) 58) 0 ((a + 1)) 8)) 58) 0 (((a + 1) + 8)) 8)) 58 (va_cpy (M 32) ((lm_wa (lm_wa (lm_wr M 58 a (M 28 2)) 58 (va_cpy (M 30) ((lm_wr M 58 a (M 28 2)) 58) 0 ((a + 1)) 8)) 58 (va_cpy (M 31) ((lm_wa (lm_wr M 58 a (M 28 2)) 58 (va_cpy (M 30) ((lm_wr M 58 a (M 28 2)) 58) 0 ((a + 1)) 8)) 58) 0 (((a + 1) + 8)) 8)) 58) 0 (((a + 1) + 16)) 8)) 58 (va_cpy (M 33) ((lm_wa (lm_wa (lm_wa (lm_wr M 58 a (M 28 2)) 58 (va_cpy (M 30) ((lm_wr M 58 a (M 28 2)) 58) 0 ((a + 1)) 8)) 58 (va_cpy (M 31) ((lm_wa (lm_wr M 58 a (M 28 2)) 58 (va_cpy (M 30) ((lm_wr M 58 a (M 28 2)) 58) 0 ((a + 1)) 8)) 58) 0 (((a + 1) + 8)) 8)) 58 (va_cpy (M 32) ((lm_wa (lm_wa (lm_wr M 58 a (M 28 2)) 58 (va_cpy (M 30) ((lm_wr M 58 a (M 28 2)) 58) 0 ((a + 1)) 8)) 58 (va_cpy (M 31) ((lm_wa (lm_wr M 58 a (M 28 2)) 58 (va_cpy (M 30) ((lm_wr M 58 a (M 28 2)) 58) 0 ((a + 1)) 8)) 58) 0 (((a + 1) + 8)) 8)) 58) 0 (((a + 1) + 16)) 8)) 58) 0 (((a + 1) + 24)) 8)) v G) rfl trivial ?_
  rw [show (nI (a + 1)) + 32 = nI ((a + 1) + 32) from nI_add (a + 1) 32]
  refine lm_G_sg 2 (pc' := 103) (L' := [some (.ref 28), some (.ref 58), some (.int (nI a))]) (S' := []) (σ' := lm_T (lm_wa (lm_wa (lm_wa (lm_wa (lm_wa (lm_wr M 58 a (M 28 2)) 58 (va_cpy (M 30) ((lm_wr M 58 a (M 28 2)) 58) 0 ((a + 1)) 8)) 58 (va_cpy (M 31) ((lm_wa (lm_wr M 58 a (M 28 2)) 58 (va_cpy (M 30) ((lm_wr M 58 a (M 28 2)) 58) 0 ((a + 1)) 8)) 58) 0 (((a + 1) + 8)) 8)) 58 (va_cpy (M 32) ((lm_wa (lm_wa (lm_wr M 58 a (M 28 2)) 58 (va_cpy (M 30) ((lm_wr M 58 a (M 28 2)) 58) 0 ((a + 1)) 8)) 58 (va_cpy (M 31) ((lm_wa (lm_wr M 58 a (M 28 2)) 58 (va_cpy (M 30) ((lm_wr M 58 a (M 28 2)) 58) 0 ((a + 1)) 8)) 58) 0 (((a + 1) + 8)) 8)) 58) 0 (((a + 1) + 16)) 8)) 58 (va_cpy (M 33) ((lm_wa (lm_wa (lm_wa (lm_wr M 58 a (M 28 2)) 58 (va_cpy (M 30) ((lm_wr M 58 a (M 28 2)) 58) 0 ((a + 1)) 8)) 58 (va_cpy (M 31) ((lm_wa (lm_wr M 58 a (M 28 2)) 58 (va_cpy (M 30) ((lm_wr M 58 a (M 28 2)) 58) 0 ((a + 1)) 8)) 58) 0 (((a + 1) + 8)) 8)) 58 (va_cpy (M 32) ((lm_wa (lm_wa (lm_wr M 58 a (M 28 2)) 58 (va_cpy (M 30) ((lm_wr M 58 a (M 28 2)) 58) 0 ((a + 1)) 8)) 58 (va_cpy (M 31) ((lm_wa (lm_wr M 58 a (M 28 2)) 58 (va_cpy (M 30) ((lm_wr M 58 a (M 28 2)) 58) 0 ((a + 1)) 8)) 58) 0 (((a + 1) + 8)) 8)) 58) 0 (((a + 1) + 16)) 8)) 58) 0 (((a + 1) + 24)) 8)) 58 (va_cpy (M 34) ((lm_wa (lm_wa (lm_wa (lm_wa (lm_wr M 58 a (M 28 2)) 58 (va_cpy (M 30) ((lm_wr M 58 a (M 28 2)) 58) 0 ((a + 1)) 8)) 58 (va_cpy (M 31) ((lm_wa (lm_wr M 58 a (M 28 2)) 58 (va_cpy (M 30) ((lm_wr M 58 a (M 28 2)) 58) 0 ((a + 1)) 8)) 58) 0 (((a + 1) + 8)) 8)) 58 (va_cpy (M 32) ((lm_wa (lm_wa (lm_wr M 58 a (M 28 2)) 58 (va_cpy (M 30) ((lm_wr M 58 a (M 28 2)) 58) 0 ((a + 1)) 8)) 58 (va_cpy (M 31) ((lm_wa (lm_wr M 58 a (M 28 2)) 58 (va_cpy (M 30) ((lm_wr M 58 a (M 28 2)) 58) 0 ((a + 1)) 8)) 58) 0 (((a + 1) + 8)) 8)) 58) 0 (((a + 1) + 16)) 8)) 58 (va_cpy (M 33) ((lm_wa (lm_wa (lm_wa (lm_wr M 58 a (M 28 2)) 58 (va_cpy (M 30) ((lm_wr M 58 a (M 28 2)) 58) 0 ((a + 1)) 8)) 58 (va_cpy (M 31) ((lm_wa (lm_wr M 58 a (M 28 2)) 58 (va_cpy (M 30) ((lm_wr M 58 a (M 28 2)) 58) 0 ((a + 1)) 8)) 58) 0 (((a + 1) + 8)) 8)) 58 (va_cpy (M 32) ((lm_wa (lm_wa (lm_wr M 58 a (M 28 2)) 58 (va_cpy (M 30) ((lm_wr M 58 a (M 28 2)) 58) 0 ((a + 1)) 8)) 58 (va_cpy (M 31) ((lm_wa (lm_wr M 58 a (M 28 2)) 58 (va_cpy (M 30) ((lm_wr M 58 a (M 28 2)) 58) 0 ((a + 1)) 8)) 58) 0 (((a + 1) + 8)) 8)) 58) 0 (((a + 1) + 16)) 8)) 58) 0 (((a + 1) + 24)) 8)) 58) 0 ((nI ((a + 1) + 32)).toNatClampNeg) 8)) v G) rfl ⟨⟨(by decide), (nI_pos (by omega)), (by decide), (by decide), (cp_le (X := ((a + 1) + 32)) (k := 8) (by omega) (by omega))⟩, (Nat.le_of_ble_eq_true rfl), trivial⟩ ?_
  rw [nI_clamp (n := ((a + 1) + 32)) (by omega)]
  refine lm_G_sg 7 (pc' := 112) (L' := [some (.ref 28), some (.ref 58), some (.int (nI a))]) (S' := [.int ((nI a) + 1), .ref 58, .int 0, .ref 35]) (σ' := lm_T (lm_wa (lm_wa (lm_wa (lm_wa (lm_wa (lm_wr M 58 a (M 28 2)) 58 (va_cpy (M 30) ((lm_wr M 58 a (M 28 2)) 58) 0 ((a + 1)) 8)) 58 (va_cpy (M 31) ((lm_wa (lm_wr M 58 a (M 28 2)) 58 (va_cpy (M 30) ((lm_wr M 58 a (M 28 2)) 58) 0 ((a + 1)) 8)) 58) 0 (((a + 1) + 8)) 8)) 58 (va_cpy (M 32) ((lm_wa (lm_wa (lm_wr M 58 a (M 28 2)) 58 (va_cpy (M 30) ((lm_wr M 58 a (M 28 2)) 58) 0 ((a + 1)) 8)) 58 (va_cpy (M 31) ((lm_wa (lm_wr M 58 a (M 28 2)) 58 (va_cpy (M 30) ((lm_wr M 58 a (M 28 2)) 58) 0 ((a + 1)) 8)) 58) 0 (((a + 1) + 8)) 8)) 58) 0 (((a + 1) + 16)) 8)) 58 (va_cpy (M 33) ((lm_wa (lm_wa (lm_wa (lm_wr M 58 a (M 28 2)) 58 (va_cpy (M 30) ((lm_wr M 58 a (M 28 2)) 58) 0 ((a + 1)) 8)) 58 (va_cpy (M 31) ((lm_wa (lm_wr M 58 a (M 28 2)) 58 (va_cpy (M 30) ((lm_wr M 58 a (M 28 2)) 58) 0 ((a + 1)) 8)) 58) 0 (((a + 1) + 8)) 8)) 58 (va_cpy (M 32) ((lm_wa (lm_wa (lm_wr M 58 a (M 28 2)) 58 (va_cpy (M 30) ((lm_wr M 58 a (M 28 2)) 58) 0 ((a + 1)) 8)) 58 (va_cpy (M 31) ((lm_wa (lm_wr M 58 a (M 28 2)) 58 (va_cpy (M 30) ((lm_wr M 58 a (M 28 2)) 58) 0 ((a + 1)) 8)) 58) 0 (((a + 1) + 8)) 8)) 58) 0 (((a + 1) + 16)) 8)) 58) 0 (((a + 1) + 24)) 8)) 58 (va_cpy (M 34) ((lm_wa (lm_wa (lm_wa (lm_wa (lm_wr M 58 a (M 28 2)) 58 (va_cpy (M 30) ((lm_wr M 58 a (M 28 2)) 58) 0 ((a + 1)) 8)) 58 (va_cpy (M 31) ((lm_wa (lm_wr M 58 a (M 28 2)) 58 (va_cpy (M 30) ((lm_wr M 58 a (M 28 2)) 58) 0 ((a + 1)) 8)) 58) 0 (((a + 1) + 8)) 8)) 58 (va_cpy (M 32) ((lm_wa (lm_wa (lm_wr M 58 a (M 28 2)) 58 (va_cpy (M 30) ((lm_wr M 58 a (M 28 2)) 58) 0 ((a + 1)) 8)) 58 (va_cpy (M 31) ((lm_wa (lm_wr M 58 a (M 28 2)) 58 (va_cpy (M 30) ((lm_wr M 58 a (M 28 2)) 58) 0 ((a + 1)) 8)) 58) 0 (((a + 1) + 8)) 8)) 58) 0 (((a + 1) + 16)) 8)) 58 (va_cpy (M 33) ((lm_wa (lm_wa (lm_wa (lm_wr M 58 a (M 28 2)) 58 (va_cpy (M 30) ((lm_wr M 58 a (M 28 2)) 58) 0 ((a + 1)) 8)) 58 (va_cpy (M 31) ((lm_wa (lm_wr M 58 a (M 28 2)) 58 (va_cpy (M 30) ((lm_wr M 58 a (M 28 2)) 58) 0 ((a + 1)) 8)) 58) 0 (((a + 1) + 8)) 8)) 58 (va_cpy (M 32) ((lm_wa (lm_wa (lm_wr M 58 a (M 28 2)) 58 (va_cpy (M 30) ((lm_wr M 58 a (M 28 2)) 58) 0 ((a + 1)) 8)) 58 (va_cpy (M 31) ((lm_wa (lm_wr M 58 a (M 28 2)) 58 (va_cpy (M 30) ((lm_wr M 58 a (M 28 2)) 58) 0 ((a + 1)) 8)) 58) 0 (((a + 1) + 8)) 8)) 58) 0 (((a + 1) + 16)) 8)) 58) 0 (((a + 1) + 24)) 8)) 58) 0 (((a + 1) + 32)) 8)) v G) rfl trivial ?_
  rw [show (nI a) + 1 = nI (a + 1) from nI_add a 1]
  refine lm_G_sg 2 (pc' := 115) (L' := [some (.ref 28), some (.ref 58), some (.int (nI a))]) (S' := [.int ((nI (a + 1)) + 40), .ref 58, .int 0, .ref 35]) (σ' := lm_T (lm_wa (lm_wa (lm_wa (lm_wa (lm_wa (lm_wr M 58 a (M 28 2)) 58 (va_cpy (M 30) ((lm_wr M 58 a (M 28 2)) 58) 0 ((a + 1)) 8)) 58 (va_cpy (M 31) ((lm_wa (lm_wr M 58 a (M 28 2)) 58 (va_cpy (M 30) ((lm_wr M 58 a (M 28 2)) 58) 0 ((a + 1)) 8)) 58) 0 (((a + 1) + 8)) 8)) 58 (va_cpy (M 32) ((lm_wa (lm_wa (lm_wr M 58 a (M 28 2)) 58 (va_cpy (M 30) ((lm_wr M 58 a (M 28 2)) 58) 0 ((a + 1)) 8)) 58 (va_cpy (M 31) ((lm_wa (lm_wr M 58 a (M 28 2)) 58 (va_cpy (M 30) ((lm_wr M 58 a (M 28 2)) 58) 0 ((a + 1)) 8)) 58) 0 (((a + 1) + 8)) 8)) 58) 0 (((a + 1) + 16)) 8)) 58 (va_cpy (M 33) ((lm_wa (lm_wa (lm_wa (lm_wr M 58 a (M 28 2)) 58 (va_cpy (M 30) ((lm_wr M 58 a (M 28 2)) 58) 0 ((a + 1)) 8)) 58 (va_cpy (M 31) ((lm_wa (lm_wr M 58 a (M 28 2)) 58 (va_cpy (M 30) ((lm_wr M 58 a (M 28 2)) 58) 0 ((a + 1)) 8)) 58) 0 (((a + 1) + 8)) 8)) 58 (va_cpy (M 32) ((lm_wa (lm_wa (lm_wr M 58 a (M 28 2)) 58 (va_cpy (M 30) ((lm_wr M 58 a (M 28 2)) 58) 0 ((a + 1)) 8)) 58 (va_cpy (M 31) ((lm_wa (lm_wr M 58 a (M 28 2)) 58 (va_cpy (M 30) ((lm_wr M 58 a (M 28 2)) 58) 0 ((a + 1)) 8)) 58) 0 (((a + 1) + 8)) 8)) 58) 0 (((a + 1) + 16)) 8)) 58) 0 (((a + 1) + 24)) 8)) 58 (va_cpy (M 34) ((lm_wa (lm_wa (lm_wa (lm_wa (lm_wr M 58 a (M 28 2)) 58 (va_cpy (M 30) ((lm_wr M 58 a (M 28 2)) 58) 0 ((a + 1)) 8)) 58 (va_cpy (M 31) ((lm_wa (lm_wr M 58 a (M 28 2)) 58 (va_cpy (M 30) ((lm_wr M 58 a (M 28 2)) 58) 0 ((a + 1)) 8)) 58) 0 (((a + 1) + 8)) 8)) 58 (va_cpy (M 32) ((lm_wa (lm_wa (lm_wr M 58 a (M 28 2)) 58 (va_cpy (M 30) ((lm_wr M 58 a (M 28 2)) 58) 0 ((a + 1)) 8)) 58 (va_cpy (M 31) ((lm_wa (lm_wr M 58 a (M 28 2)) 58 (va_cpy (M 30) ((lm_wr M 58 a (M 28 2)) 58) 0 ((a + 1)) 8)) 58) 0 (((a + 1) + 8)) 8)) 58) 0 (((a + 1) + 16)) 8)) 58 (va_cpy (M 33) ((lm_wa (lm_wa (lm_wa (lm_wr M 58 a (M 28 2)) 58 (va_cpy (M 30) ((lm_wr M 58 a (M 28 2)) 58) 0 ((a + 1)) 8)) 58 (va_cpy (M 31) ((lm_wa (lm_wr M 58 a (M 28 2)) 58 (va_cpy (M 30) ((lm_wr M 58 a (M 28 2)) 58) 0 ((a + 1)) 8)) 58) 0 (((a + 1) + 8)) 8)) 58 (va_cpy (M 32) ((lm_wa (lm_wa (lm_wr M 58 a (M 28 2)) 58 (va_cpy (M 30) ((lm_wr M 58 a (M 28 2)) 58) 0 ((a + 1)) 8)) 58 (va_cpy (M 31) ((lm_wa (lm_wr M 58 a (M 28 2)) 58 (va_cpy (M 30) ((lm_wr M 58 a (M 28 2)) 58) 0 ((a + 1)) 8)) 58) 0 (((a + 1) + 8)) 8)) 58) 0 (((a + 1) + 16)) 8)) 58) 0 (((a + 1) + 24)) 8)) 58) 0 (((a + 1) + 32)) 8)) v G) rfl trivial ?_
  rw [show (nI (a + 1)) + 40 = nI ((a + 1) + 40) from nI_add (a + 1) 40]
  refine lm_G_sg 2 (pc' := 120) (L' := [some (.ref 28), some (.ref 58), some (.int (nI a))]) (S' := []) (σ' := lm_T (lm_wa (lm_wa (lm_wa (lm_wa (lm_wa (lm_wa (lm_wr M 58 a (M 28 2)) 58 (va_cpy (M 30) ((lm_wr M 58 a (M 28 2)) 58) 0 ((a + 1)) 8)) 58 (va_cpy (M 31) ((lm_wa (lm_wr M 58 a (M 28 2)) 58 (va_cpy (M 30) ((lm_wr M 58 a (M 28 2)) 58) 0 ((a + 1)) 8)) 58) 0 (((a + 1) + 8)) 8)) 58 (va_cpy (M 32) ((lm_wa (lm_wa (lm_wr M 58 a (M 28 2)) 58 (va_cpy (M 30) ((lm_wr M 58 a (M 28 2)) 58) 0 ((a + 1)) 8)) 58 (va_cpy (M 31) ((lm_wa (lm_wr M 58 a (M 28 2)) 58 (va_cpy (M 30) ((lm_wr M 58 a (M 28 2)) 58) 0 ((a + 1)) 8)) 58) 0 (((a + 1) + 8)) 8)) 58) 0 (((a + 1) + 16)) 8)) 58 (va_cpy (M 33) ((lm_wa (lm_wa (lm_wa (lm_wr M 58 a (M 28 2)) 58 (va_cpy (M 30) ((lm_wr M 58 a (M 28 2)) 58) 0 ((a + 1)) 8)) 58 (va_cpy (M 31) ((lm_wa (lm_wr M 58 a (M 28 2)) 58 (va_cpy (M 30) ((lm_wr M 58 a (M 28 2)) 58) 0 ((a + 1)) 8)) 58) 0 (((a + 1) + 8)) 8)) 58 (va_cpy (M 32) ((lm_wa (lm_wa (lm_wr M 58 a (M 28 2)) 58 (va_cpy (M 30) ((lm_wr M 58 a (M 28 2)) 58) 0 ((a + 1)) 8)) 58 (va_cpy (M 31) ((lm_wa (lm_wr M 58 a (M 28 2)) 58 (va_cpy (M 30) ((lm_wr M 58 a (M 28 2)) 58) 0 ((a + 1)) 8)) 58) 0 (((a + 1) + 8)) 8)) 58) 0 (((a + 1) + 16)) 8)) 58) 0 (((a + 1) + 24)) 8)) 58 (va_cpy (M 34) ((lm_wa (lm_wa (lm_wa (lm_wa (lm_wr M 58 a (M 28 2)) 58 (va_cpy (M 30) ((lm_wr M 58 a (M 28 2)) 58) 0 ((a + 1)) 8)) 58 (va_cpy (M 31) ((lm_wa (lm_wr M 58 a (M 28 2)) 58 (va_cpy (M 30) ((lm_wr M 58 a (M 28 2)) 58) 0 ((a + 1)) 8)) 58) 0 (((a + 1) + 8)) 8)) 58 (va_cpy (M 32) ((lm_wa (lm_wa (lm_wr M 58 a (M 28 2)) 58 (va_cpy (M 30) ((lm_wr M 58 a (M 28 2)) 58) 0 ((a + 1)) 8)) 58 (va_cpy (M 31) ((lm_wa (lm_wr M 58 a (M 28 2)) 58 (va_cpy (M 30) ((lm_wr M 58 a (M 28 2)) 58) 0 ((a + 1)) 8)) 58) 0 (((a + 1) + 8)) 8)) 58) 0 (((a + 1) + 16)) 8)) 58 (va_cpy (M 33) ((lm_wa (lm_wa (lm_wa (lm_wr M 58 a (M 28 2)) 58 (va_cpy (M 30) ((lm_wr M 58 a (M 28 2)) 58) 0 ((a + 1)) 8)) 58 (va_cpy (M 31) ((lm_wa (lm_wr M 58 a (M 28 2)) 58 (va_cpy (M 30) ((lm_wr M 58 a (M 28 2)) 58) 0 ((a + 1)) 8)) 58) 0 (((a + 1) + 8)) 8)) 58 (va_cpy (M 32) ((lm_wa (lm_wa (lm_wr M 58 a (M 28 2)) 58 (va_cpy (M 30) ((lm_wr M 58 a (M 28 2)) 58) 0 ((a + 1)) 8)) 58 (va_cpy (M 31) ((lm_wa (lm_wr M 58 a (M 28 2)) 58 (va_cpy (M 30) ((lm_wr M 58 a (M 28 2)) 58) 0 ((a + 1)) 8)) 58) 0 (((a + 1) + 8)) 8)) 58) 0 (((a + 1) + 16)) 8)) 58) 0 (((a + 1) + 24)) 8)) 58) 0 (((a + 1) + 32)) 8)) 58 (va_cpy (M 35) ((lm_wa (lm_wa (lm_wa (lm_wa (lm_wa (lm_wr M 58 a (M 28 2)) 58 (va_cpy (M 30) ((lm_wr M 58 a (M 28 2)) 58) 0 ((a + 1)) 8)) 58 (va_cpy (M 31) ((lm_wa (lm_wr M 58 a (M 28 2)) 58 (va_cpy (M 30) ((lm_wr M 58 a (M 28 2)) 58) 0 ((a + 1)) 8)) 58) 0 (((a + 1) + 8)) 8)) 58 (va_cpy (M 32) ((lm_wa (lm_wa (lm_wr M 58 a (M 28 2)) 58 (va_cpy (M 30) ((lm_wr M 58 a (M 28 2)) 58) 0 ((a + 1)) 8)) 58 (va_cpy (M 31) ((lm_wa (lm_wr M 58 a (M 28 2)) 58 (va_cpy (M 30) ((lm_wr M 58 a (M 28 2)) 58) 0 ((a + 1)) 8)) 58) 0 (((a + 1) + 8)) 8)) 58) 0 (((a + 1) + 16)) 8)) 58 (va_cpy (M 33) ((lm_wa (lm_wa (lm_wa (lm_wr M 58 a (M 28 2)) 58 (va_cpy (M 30) ((lm_wr M 58 a (M 28 2)) 58) 0 ((a + 1)) 8)) 58 (va_cpy (M 31) ((lm_wa (lm_wr M 58 a (M 28 2)) 58 (va_cpy (M 30) ((lm_wr M 58 a (M 28 2)) 58) 0 ((a + 1)) 8)) 58) 0 (((a + 1) + 8)) 8)) 58 (va_cpy (M 32) ((lm_wa (lm_wa (lm_wr M 58 a (M 28 2)) 58 (va_cpy (M 30) ((lm_wr M 58 a (M 28 2)) 58) 0 ((a + 1)) 8)) 58 (va_cpy (M 31) ((lm_wa (lm_wr M 58 a (M 28 2)) 58 (va_cpy (M 30) ((lm_wr M 58 a (M 28 2)) 58) 0 ((a + 1)) 8)) 58) 0 (((a + 1) + 8)) 8)) 58) 0 (((a + 1) + 16)) 8)) 58) 0 (((a + 1) + 24)) 8)) 58 (va_cpy (M 34) ((lm_wa (lm_wa (lm_wa (lm_wa (lm_wr M 58 a (M 28 2)) 58 (va_cpy (M 30) ((lm_wr M 58 a (M 28 2)) 58) 0 ((a + 1)) 8)) 58 (va_cpy (M 31) ((lm_wa (lm_wr M 58 a (M 28 2)) 58 (va_cpy (M 30) ((lm_wr M 58 a (M 28 2)) 58) 0 ((a + 1)) 8)) 58) 0 (((a + 1) + 8)) 8)) 58 (va_cpy (M 32) ((lm_wa (lm_wa (lm_wr M 58 a (M 28 2)) 58 (va_cpy (M 30) ((lm_wr M 58 a (M 28 2)) 58) 0 ((a + 1)) 8)) 58 (va_cpy (M 31) ((lm_wa (lm_wr M 58 a (M 28 2)) 58 (va_cpy (M 30) ((lm_wr M 58 a (M 28 2)) 58) 0 ((a + 1)) 8)) 58) 0 (((a + 1) + 8)) 8)) 58) 0 (((a + 1) + 16)) 8)) 58 (va_cpy (M 33) ((lm_wa (lm_wa (lm_wa (lm_wr M 58 a (M 28 2)) 58 (va_cpy (M 30) ((lm_wr M 58 a (M 28 2)) 58) 0 ((a + 1)) 8)) 58 (va_cpy (M 31) ((lm_wa (lm_wr M 58 a (M 28 2)) 58 (va_cpy (M 30) ((lm_wr M 58 a (M 28 2)) 58) 0 ((a + 1)) 8)) 58) 0 (((a + 1) + 8)) 8)) 58 (va_cpy (M 32) ((lm_wa (lm_wa (lm_wr M 58 a (M 28 2)) 58 (va_cpy (M 30) ((lm_wr M 58 a (M 28 2)) 58) 0 ((a + 1)) 8)) 58 (va_cpy (M 31) ((lm_wa (lm_wr M 58 a (M 28 2)) 58 (va_cpy (M 30) ((lm_wr M 58 a (M 28 2)) 58) 0 ((a + 1)) 8)) 58) 0 (((a + 1) + 8)) 8)) 58) 0 (((a + 1) + 16)) 8)) 58) 0 (((a + 1) + 24)) 8)) 58) 0 (((a + 1) + 32)) 8)) 58) 0 ((nI ((a + 1) + 40)).toNatClampNeg) 6)) v G) rfl ⟨⟨(by decide), (nI_pos (by omega)), (by decide), (by decide), (cp_le (X := ((a + 1) + 40)) (k := 6) (by omega) (by omega))⟩, (Nat.le_of_ble_eq_true rfl), trivial⟩ ?_
  rw [nI_clamp (n := ((a + 1) + 40)) (by omega)]
  have hS : SavC ((lm_wa (lm_wa (lm_wa (lm_wa (lm_wa (lm_wa (lm_wr M 58 a (M 28 2)) 58 (va_cpy (M 30) ((lm_wr M 58 a (M 28 2)) 58) 0 ((a + 1)) 8)) 58 (va_cpy (M 31) ((lm_wa (lm_wr M 58 a (M 28 2)) 58 (va_cpy (M 30) ((lm_wr M 58 a (M 28 2)) 58) 0 ((a + 1)) 8)) 58) 0 (((a + 1) + 8)) 8)) 58 (va_cpy (M 32) ((lm_wa (lm_wa (lm_wr M 58 a (M 28 2)) 58 (va_cpy (M 30) ((lm_wr M 58 a (M 28 2)) 58) 0 ((a + 1)) 8)) 58 (va_cpy (M 31) ((lm_wa (lm_wr M 58 a (M 28 2)) 58 (va_cpy (M 30) ((lm_wr M 58 a (M 28 2)) 58) 0 ((a + 1)) 8)) 58) 0 (((a + 1) + 8)) 8)) 58) 0 (((a + 1) + 16)) 8)) 58 (va_cpy (M 33) ((lm_wa (lm_wa (lm_wa (lm_wr M 58 a (M 28 2)) 58 (va_cpy (M 30) ((lm_wr M 58 a (M 28 2)) 58) 0 ((a + 1)) 8)) 58 (va_cpy (M 31) ((lm_wa (lm_wr M 58 a (M 28 2)) 58 (va_cpy (M 30) ((lm_wr M 58 a (M 28 2)) 58) 0 ((a + 1)) 8)) 58) 0 (((a + 1) + 8)) 8)) 58 (va_cpy (M 32) ((lm_wa (lm_wa (lm_wr M 58 a (M 28 2)) 58 (va_cpy (M 30) ((lm_wr M 58 a (M 28 2)) 58) 0 ((a + 1)) 8)) 58 (va_cpy (M 31) ((lm_wa (lm_wr M 58 a (M 28 2)) 58 (va_cpy (M 30) ((lm_wr M 58 a (M 28 2)) 58) 0 ((a + 1)) 8)) 58) 0 (((a + 1) + 8)) 8)) 58) 0 (((a + 1) + 16)) 8)) 58) 0 (((a + 1) + 24)) 8)) 58 (va_cpy (M 34) ((lm_wa (lm_wa (lm_wa (lm_wa (lm_wr M 58 a (M 28 2)) 58 (va_cpy (M 30) ((lm_wr M 58 a (M 28 2)) 58) 0 ((a + 1)) 8)) 58 (va_cpy (M 31) ((lm_wa (lm_wr M 58 a (M 28 2)) 58 (va_cpy (M 30) ((lm_wr M 58 a (M 28 2)) 58) 0 ((a + 1)) 8)) 58) 0 (((a + 1) + 8)) 8)) 58 (va_cpy (M 32) ((lm_wa (lm_wa (lm_wr M 58 a (M 28 2)) 58 (va_cpy (M 30) ((lm_wr M 58 a (M 28 2)) 58) 0 ((a + 1)) 8)) 58 (va_cpy (M 31) ((lm_wa (lm_wr M 58 a (M 28 2)) 58 (va_cpy (M 30) ((lm_wr M 58 a (M 28 2)) 58) 0 ((a + 1)) 8)) 58) 0 (((a + 1) + 8)) 8)) 58) 0 (((a + 1) + 16)) 8)) 58 (va_cpy (M 33) ((lm_wa (lm_wa (lm_wa (lm_wr M 58 a (M 28 2)) 58 (va_cpy (M 30) ((lm_wr M 58 a (M 28 2)) 58) 0 ((a + 1)) 8)) 58 (va_cpy (M 31) ((lm_wa (lm_wr M 58 a (M 28 2)) 58 (va_cpy (M 30) ((lm_wr M 58 a (M 28 2)) 58) 0 ((a + 1)) 8)) 58) 0 (((a + 1) + 8)) 8)) 58 (va_cpy (M 32) ((lm_wa (lm_wa (lm_wr M 58 a (M 28 2)) 58 (va_cpy (M 30) ((lm_wr M 58 a (M 28 2)) 58) 0 ((a + 1)) 8)) 58 (va_cpy (M 31) ((lm_wa (lm_wr M 58 a (M 28 2)) 58 (va_cpy (M 30) ((lm_wr M 58 a (M 28 2)) 58) 0 ((a + 1)) 8)) 58) 0 (((a + 1) + 8)) 8)) 58) 0 (((a + 1) + 16)) 8)) 58) 0 (((a + 1) + 24)) 8)) 58) 0 (((a + 1) + 32)) 8)) 58 (va_cpy (M 35) ((lm_wa (lm_wa (lm_wa (lm_wa (lm_wa (lm_wr M 58 a (M 28 2)) 58 (va_cpy (M 30) ((lm_wr M 58 a (M 28 2)) 58) 0 ((a + 1)) 8)) 58 (va_cpy (M 31) ((lm_wa (lm_wr M 58 a (M 28 2)) 58 (va_cpy (M 30) ((lm_wr M 58 a (M 28 2)) 58) 0 ((a + 1)) 8)) 58) 0 (((a + 1) + 8)) 8)) 58 (va_cpy (M 32) ((lm_wa (lm_wa (lm_wr M 58 a (M 28 2)) 58 (va_cpy (M 30) ((lm_wr M 58 a (M 28 2)) 58) 0 ((a + 1)) 8)) 58 (va_cpy (M 31) ((lm_wa (lm_wr M 58 a (M 28 2)) 58 (va_cpy (M 30) ((lm_wr M 58 a (M 28 2)) 58) 0 ((a + 1)) 8)) 58) 0 (((a + 1) + 8)) 8)) 58) 0 (((a + 1) + 16)) 8)) 58 (va_cpy (M 33) ((lm_wa (lm_wa (lm_wa (lm_wr M 58 a (M 28 2)) 58 (va_cpy (M 30) ((lm_wr M 58 a (M 28 2)) 58) 0 ((a + 1)) 8)) 58 (va_cpy (M 31) ((lm_wa (lm_wr M 58 a (M 28 2)) 58 (va_cpy (M 30) ((lm_wr M 58 a (M 28 2)) 58) 0 ((a + 1)) 8)) 58) 0 (((a + 1) + 8)) 8)) 58 (va_cpy (M 32) ((lm_wa (lm_wa (lm_wr M 58 a (M 28 2)) 58 (va_cpy (M 30) ((lm_wr M 58 a (M 28 2)) 58) 0 ((a + 1)) 8)) 58 (va_cpy (M 31) ((lm_wa (lm_wr M 58 a (M 28 2)) 58 (va_cpy (M 30) ((lm_wr M 58 a (M 28 2)) 58) 0 ((a + 1)) 8)) 58) 0 (((a + 1) + 8)) 8)) 58) 0 (((a + 1) + 16)) 8)) 58) 0 (((a + 1) + 24)) 8)) 58 (va_cpy (M 34) ((lm_wa (lm_wa (lm_wa (lm_wa (lm_wr M 58 a (M 28 2)) 58 (va_cpy (M 30) ((lm_wr M 58 a (M 28 2)) 58) 0 ((a + 1)) 8)) 58 (va_cpy (M 31) ((lm_wa (lm_wr M 58 a (M 28 2)) 58 (va_cpy (M 30) ((lm_wr M 58 a (M 28 2)) 58) 0 ((a + 1)) 8)) 58) 0 (((a + 1) + 8)) 8)) 58 (va_cpy (M 32) ((lm_wa (lm_wa (lm_wr M 58 a (M 28 2)) 58 (va_cpy (M 30) ((lm_wr M 58 a (M 28 2)) 58) 0 ((a + 1)) 8)) 58 (va_cpy (M 31) ((lm_wa (lm_wr M 58 a (M 28 2)) 58 (va_cpy (M 30) ((lm_wr M 58 a (M 28 2)) 58) 0 ((a + 1)) 8)) 58) 0 (((a + 1) + 8)) 8)) 58) 0 (((a + 1) + 16)) 8)) 58 (va_cpy (M 33) ((lm_wa (lm_wa (lm_wa (lm_wr M 58 a (M 28 2)) 58 (va_cpy (M 30) ((lm_wr M 58 a (M 28 2)) 58) 0 ((a + 1)) 8)) 58 (va_cpy (M 31) ((lm_wa (lm_wr M 58 a (M 28 2)) 58 (va_cpy (M 30) ((lm_wr M 58 a (M 28 2)) 58) 0 ((a + 1)) 8)) 58) 0 (((a + 1) + 8)) 8)) 58 (va_cpy (M 32) ((lm_wa (lm_wa (lm_wr M 58 a (M 28 2)) 58 (va_cpy (M 30) ((lm_wr M 58 a (M 28 2)) 58) 0 ((a + 1)) 8)) 58 (va_cpy (M 31) ((lm_wa (lm_wr M 58 a (M 28 2)) 58 (va_cpy (M 30) ((lm_wr M 58 a (M 28 2)) 58) 0 ((a + 1)) 8)) 58) 0 (((a + 1) + 8)) 8)) 58) 0 (((a + 1) + 16)) 8)) 58) 0 (((a + 1) + 24)) 8)) 58) 0 (((a + 1) + 32)) 8)) 58) 0 (((a + 1) + 40)) 6)) 58) a F s := by
    refine ⟨?_, fun p hp => ⟨?_, ?_, ?_, ?_, ?_⟩, fun t ht => ?_⟩
    · rw [wa_same, pk_cpy_out (by omega), wa_same, pk_cpy_out (by omega), wa_same, pk_cpy_out (by omega), wa_same, pk_cpy_out (by omega), wa_same, pk_cpy_out (by omega), wa_same, pk_cpy_out (by omega)]
      exact (wr_same).trans h.hr
    · rw [wa_same, pk_cpy_out (by omega), wa_same, pk_cpy_out (by omega), wa_same, pk_cpy_out (by omega), wa_same, pk_cpy_out (by omega), wa_same, pk_cpy_out (by omega), wa_same, pk_cpy_in (by omega) (by omega)]
      rw [show 0 + (a + 1 + p - (a + 1)) = p by omega]
      exact h.pl p hp
    · rw [wa_same, pk_cpy_out (by omega), wa_same, pk_cpy_out (by omega), wa_same, pk_cpy_out (by omega), wa_same, pk_cpy_out (by omega), wa_same, pk_cpy_in (by omega) (by omega)]
      rw [show 0 + (a + 1 + 8 + p - (a + 1 + 8)) = p by omega]
      exact h.co p hp
    · rw [wa_same, pk_cpy_out (by omega), wa_same, pk_cpy_out (by omega), wa_same, pk_cpy_out (by omega), wa_same, pk_cpy_in (by omega) (by omega)]
      rw [show 0 + (a + 1 + 16 + p - (a + 1 + 16)) = p by omega]
      exact h.hu p hp
    · rw [wa_same, pk_cpy_out (by omega), wa_same, pk_cpy_out (by omega), wa_same, pk_cpy_in (by omega) (by omega)]
      rw [show 0 + (a + 1 + 24 + p - (a + 1 + 24)) = p by omega]
      exact h.hd p hp
    · rw [wa_same, pk_cpy_out (by omega), wa_same, pk_cpy_in (by omega) (by omega)]
      rw [show 0 + (a + 1 + 32 + p - (a + 1 + 32)) = p by omega]
      exact h.id p hp
    · rw [wa_same, pk_cpy_in (by omega) (by omega)]
      rw [show 0 + (a + 1 + 40 + t - (a + 1 + 40)) = t by omega]
      exact h.ow t ht
  have hO : ∀ i, i < a ∨ a + 47 ≤ i → (lm_wa (lm_wa (lm_wa (lm_wa (lm_wa (lm_wa (lm_wr M 58 a (M 28 2)) 58 (va_cpy (M 30) ((lm_wr M 58 a (M 28 2)) 58) 0 ((a + 1)) 8)) 58 (va_cpy (M 31) ((lm_wa (lm_wr M 58 a (M 28 2)) 58 (va_cpy (M 30) ((lm_wr M 58 a (M 28 2)) 58) 0 ((a + 1)) 8)) 58) 0 (((a + 1) + 8)) 8)) 58 (va_cpy (M 32) ((lm_wa (lm_wa (lm_wr M 58 a (M 28 2)) 58 (va_cpy (M 30) ((lm_wr M 58 a (M 28 2)) 58) 0 ((a + 1)) 8)) 58 (va_cpy (M 31) ((lm_wa (lm_wr M 58 a (M 28 2)) 58 (va_cpy (M 30) ((lm_wr M 58 a (M 28 2)) 58) 0 ((a + 1)) 8)) 58) 0 (((a + 1) + 8)) 8)) 58) 0 (((a + 1) + 16)) 8)) 58 (va_cpy (M 33) ((lm_wa (lm_wa (lm_wa (lm_wr M 58 a (M 28 2)) 58 (va_cpy (M 30) ((lm_wr M 58 a (M 28 2)) 58) 0 ((a + 1)) 8)) 58 (va_cpy (M 31) ((lm_wa (lm_wr M 58 a (M 28 2)) 58 (va_cpy (M 30) ((lm_wr M 58 a (M 28 2)) 58) 0 ((a + 1)) 8)) 58) 0 (((a + 1) + 8)) 8)) 58 (va_cpy (M 32) ((lm_wa (lm_wa (lm_wr M 58 a (M 28 2)) 58 (va_cpy (M 30) ((lm_wr M 58 a (M 28 2)) 58) 0 ((a + 1)) 8)) 58 (va_cpy (M 31) ((lm_wa (lm_wr M 58 a (M 28 2)) 58 (va_cpy (M 30) ((lm_wr M 58 a (M 28 2)) 58) 0 ((a + 1)) 8)) 58) 0 (((a + 1) + 8)) 8)) 58) 0 (((a + 1) + 16)) 8)) 58) 0 (((a + 1) + 24)) 8)) 58 (va_cpy (M 34) ((lm_wa (lm_wa (lm_wa (lm_wa (lm_wr M 58 a (M 28 2)) 58 (va_cpy (M 30) ((lm_wr M 58 a (M 28 2)) 58) 0 ((a + 1)) 8)) 58 (va_cpy (M 31) ((lm_wa (lm_wr M 58 a (M 28 2)) 58 (va_cpy (M 30) ((lm_wr M 58 a (M 28 2)) 58) 0 ((a + 1)) 8)) 58) 0 (((a + 1) + 8)) 8)) 58 (va_cpy (M 32) ((lm_wa (lm_wa (lm_wr M 58 a (M 28 2)) 58 (va_cpy (M 30) ((lm_wr M 58 a (M 28 2)) 58) 0 ((a + 1)) 8)) 58 (va_cpy (M 31) ((lm_wa (lm_wr M 58 a (M 28 2)) 58 (va_cpy (M 30) ((lm_wr M 58 a (M 28 2)) 58) 0 ((a + 1)) 8)) 58) 0 (((a + 1) + 8)) 8)) 58) 0 (((a + 1) + 16)) 8)) 58 (va_cpy (M 33) ((lm_wa (lm_wa (lm_wa (lm_wr M 58 a (M 28 2)) 58 (va_cpy (M 30) ((lm_wr M 58 a (M 28 2)) 58) 0 ((a + 1)) 8)) 58 (va_cpy (M 31) ((lm_wa (lm_wr M 58 a (M 28 2)) 58 (va_cpy (M 30) ((lm_wr M 58 a (M 28 2)) 58) 0 ((a + 1)) 8)) 58) 0 (((a + 1) + 8)) 8)) 58 (va_cpy (M 32) ((lm_wa (lm_wa (lm_wr M 58 a (M 28 2)) 58 (va_cpy (M 30) ((lm_wr M 58 a (M 28 2)) 58) 0 ((a + 1)) 8)) 58 (va_cpy (M 31) ((lm_wa (lm_wr M 58 a (M 28 2)) 58 (va_cpy (M 30) ((lm_wr M 58 a (M 28 2)) 58) 0 ((a + 1)) 8)) 58) 0 (((a + 1) + 8)) 8)) 58) 0 (((a + 1) + 16)) 8)) 58) 0 (((a + 1) + 24)) 8)) 58) 0 (((a + 1) + 32)) 8)) 58 (va_cpy (M 35) ((lm_wa (lm_wa (lm_wa (lm_wa (lm_wa (lm_wr M 58 a (M 28 2)) 58 (va_cpy (M 30) ((lm_wr M 58 a (M 28 2)) 58) 0 ((a + 1)) 8)) 58 (va_cpy (M 31) ((lm_wa (lm_wr M 58 a (M 28 2)) 58 (va_cpy (M 30) ((lm_wr M 58 a (M 28 2)) 58) 0 ((a + 1)) 8)) 58) 0 (((a + 1) + 8)) 8)) 58 (va_cpy (M 32) ((lm_wa (lm_wa (lm_wr M 58 a (M 28 2)) 58 (va_cpy (M 30) ((lm_wr M 58 a (M 28 2)) 58) 0 ((a + 1)) 8)) 58 (va_cpy (M 31) ((lm_wa (lm_wr M 58 a (M 28 2)) 58 (va_cpy (M 30) ((lm_wr M 58 a (M 28 2)) 58) 0 ((a + 1)) 8)) 58) 0 (((a + 1) + 8)) 8)) 58) 0 (((a + 1) + 16)) 8)) 58 (va_cpy (M 33) ((lm_wa (lm_wa (lm_wa (lm_wr M 58 a (M 28 2)) 58 (va_cpy (M 30) ((lm_wr M 58 a (M 28 2)) 58) 0 ((a + 1)) 8)) 58 (va_cpy (M 31) ((lm_wa (lm_wr M 58 a (M 28 2)) 58 (va_cpy (M 30) ((lm_wr M 58 a (M 28 2)) 58) 0 ((a + 1)) 8)) 58) 0 (((a + 1) + 8)) 8)) 58 (va_cpy (M 32) ((lm_wa (lm_wa (lm_wr M 58 a (M 28 2)) 58 (va_cpy (M 30) ((lm_wr M 58 a (M 28 2)) 58) 0 ((a + 1)) 8)) 58 (va_cpy (M 31) ((lm_wa (lm_wr M 58 a (M 28 2)) 58 (va_cpy (M 30) ((lm_wr M 58 a (M 28 2)) 58) 0 ((a + 1)) 8)) 58) 0 (((a + 1) + 8)) 8)) 58) 0 (((a + 1) + 16)) 8)) 58) 0 (((a + 1) + 24)) 8)) 58 (va_cpy (M 34) ((lm_wa (lm_wa (lm_wa (lm_wa (lm_wr M 58 a (M 28 2)) 58 (va_cpy (M 30) ((lm_wr M 58 a (M 28 2)) 58) 0 ((a + 1)) 8)) 58 (va_cpy (M 31) ((lm_wa (lm_wr M 58 a (M 28 2)) 58 (va_cpy (M 30) ((lm_wr M 58 a (M 28 2)) 58) 0 ((a + 1)) 8)) 58) 0 (((a + 1) + 8)) 8)) 58 (va_cpy (M 32) ((lm_wa (lm_wa (lm_wr M 58 a (M 28 2)) 58 (va_cpy (M 30) ((lm_wr M 58 a (M 28 2)) 58) 0 ((a + 1)) 8)) 58 (va_cpy (M 31) ((lm_wa (lm_wr M 58 a (M 28 2)) 58 (va_cpy (M 30) ((lm_wr M 58 a (M 28 2)) 58) 0 ((a + 1)) 8)) 58) 0 (((a + 1) + 8)) 8)) 58) 0 (((a + 1) + 16)) 8)) 58 (va_cpy (M 33) ((lm_wa (lm_wa (lm_wa (lm_wr M 58 a (M 28 2)) 58 (va_cpy (M 30) ((lm_wr M 58 a (M 28 2)) 58) 0 ((a + 1)) 8)) 58 (va_cpy (M 31) ((lm_wa (lm_wr M 58 a (M 28 2)) 58 (va_cpy (M 30) ((lm_wr M 58 a (M 28 2)) 58) 0 ((a + 1)) 8)) 58) 0 (((a + 1) + 8)) 8)) 58 (va_cpy (M 32) ((lm_wa (lm_wa (lm_wr M 58 a (M 28 2)) 58 (va_cpy (M 30) ((lm_wr M 58 a (M 28 2)) 58) 0 ((a + 1)) 8)) 58 (va_cpy (M 31) ((lm_wa (lm_wr M 58 a (M 28 2)) 58 (va_cpy (M 30) ((lm_wr M 58 a (M 28 2)) 58) 0 ((a + 1)) 8)) 58) 0 (((a + 1) + 8)) 8)) 58) 0 (((a + 1) + 16)) 8)) 58) 0 (((a + 1) + 24)) 8)) 58) 0 (((a + 1) + 32)) 8)) 58) 0 (((a + 1) + 40)) 6)) 58 i = M 58 i := by
    intro i hi
    rw [wa_same, pk_cpy_out (by omega), wa_same, pk_cpy_out (by omega), wa_same, pk_cpy_out (by omega), wa_same, pk_cpy_out (by omega), wa_same, pk_cpy_out (by omega), wa_same, pk_cpy_out (by omega)]
    exact wr_at (by omega)
  exact lm_G_re rfl trivial (Nat.zero_le _) (Nat.zero_le _) (hQ _ hS hO (Fr_wa (Fr_wa (Fr_wa (Fr_wa (Fr_wa (Fr_wa (Fr_wr (Fr_rf _ _) rfl) rfl) rfl) rfl) rfl) rfl) rfl))
set_option maxRecDepth 10000 in
theorem c_loadFrom58 {X : lm_X} {d v : Nat} {M : Nat → Nat → Int32} {G : Nat → Nat → Int64} {Q : lm_O → lm_S → Prop} {F : Fa} {s : Sc} {a : Nat} (hF : okF F) (hk : KC M F) (hb : Ag (fN F) (M 29) (sBr s)) (hv : SavC (M 58) a F s) (ha : a + 47 ≤ 47) (hQ : ∀ M1, RC 28 M1 F s → FrL M M1 → Q (.inl none) (lm_T M1 v G)) : lm_Q X (d + 1) 55 [.ref 28, .ref 58, .int (nI a)] (lm_T M v G) Q := by
  have hn := hF.n
  have hm := hF.m
  show lm_G X (d + 1) 55 106 0 0 0 [some (.ref 28), some (.ref 58), some (.int (nI a))] [] (lm_T M v G) Q
  refine lm_G_sg 1 (pc' := 1) (L' := [some (.ref 28), some (.ref 58), some (.int (nI a))]) (S' := [.int (nI a)]) (σ' := lm_T M v G) rfl trivial ?_
  refine lm_G_br (b := (nI a) < 0) (t := 13) (S' := []) rfl (fun hc => absurd hc (nI_pos (by omega))) (fun hc => ?_)
  refine lm_G_sg 3 (pc' := 8) (L' := [some (.ref 28), some (.ref 58), some (.int (nI a))]) (S' := [.int ((nI a) + 47)]) (σ' := lm_T M v G) rfl trivial ?_
  rw [show (nI a) + 47 = nI (a + 47) from nI_add a 47]
  refine lm_G_sg 2 (pc' := 10) (L' := [some (.ref 28), some (.ref 58), some (.int (nI a))]) (S' := [.int 47, .int (nI (a + 47))]) (σ' := lm_T M v G) rfl trivial ?_
  refine lm_G_br (b := (nI (a + 47)) ≤ 47) (t := 14) (S' := []) rfl (fun hc => ?_) (fun hc => absurd (nI_le (b := 47) (by omega) (by omega)) hc)
  refine lm_G_sg 4 (pc' := 18) (L' := [some (.ref 28), some (.ref 58), some (.int (nI a))]) (S' := [.int (M 58 (nI a).toNatClampNeg), .ref 28]) (σ' := lm_T M v G) rfl ⟨(vp_in_nI (by omega) (by omega)), trivial, trivial⟩ ?_
  rw [show (nI a).toNatClampNeg = a from nI_clamp (by omega)]
  refine lm_G_sg 5 (pc' := 25) (L' := [some (.ref 28), some (.ref 58), some (.int (nI a))]) (S' := [.int ((nI a) + 1), .ref 58]) (σ' := lm_T (lm_wr M 28 2 (M 58 a)) v G) rfl ⟨trivial, trivial, trivial⟩ ?_
  rw [show (nI a) + 1 = nI (a + 1) from nI_add a 1]
  refine lm_G_sg 5 (pc' := 35) (L' := [some (.ref 28), some (.ref 58), some (.int (nI a))]) (S' := []) (σ' := lm_T (lm_wa (lm_wr M 28 2 (M 58 a)) 30 (va_cpy (M 58) (M 30) ((nI (a + 1)).toNatClampNeg) 0 8)) v G) rfl ⟨⟨(nI_pos (by omega)), (by decide), (by decide), (cp_le (X := (a + 1)) (k := 8) (by omega) (by omega)), (by decide)⟩, (Nat.le_of_ble_eq_true rfl), trivial⟩ ?_
  rw [nI_clamp (n := (a + 1)) (by omega)]
  refine lm_G_sg 4 (pc' := 39) (L' := [some (.ref 28), some (.ref 58), some (.int (nI a))]) (S' := [.int ((nI a) + 1), .ref 58]) (σ' := lm_T (lm_wa (lm_wr M 28 2 (M 58 a)) 30 (va_cpy (M 58) (M 30) ((a + 1)) 0 8)) v G) rfl trivial ?_
  rw [show (nI a) + 1 = nI (a + 1) from nI_add a 1]
  refine lm_G_sg 2 (pc' := 42) (L' := [some (.ref 28), some (.ref 58), some (.int (nI a))]) (S' := [.int ((nI (a + 1)) + 8), .ref 58]) (σ' := lm_T (lm_wa (lm_wr M 28 2 (M 58 a)) 30 (va_cpy (M 58) (M 30) ((a + 1)) 0 8)) v G) rfl trivial ?_
  rw [show (nI (a + 1)) + 8 = nI ((a + 1) + 8) from nI_add (a + 1) 8]
  refine lm_G_sg 5 (pc' := 52) (L' := [some (.ref 28), some (.ref 58), some (.int (nI a))]) (S' := []) (σ' := lm_T (lm_wa (lm_wa (lm_wr M 28 2 (M 58 a)) 30 (va_cpy (M 58) (M 30) ((a + 1)) 0 8)) 31 (va_cpy (M 58) (M 31) ((nI ((a + 1) + 8)).toNatClampNeg) 0 8)) v G) rfl ⟨⟨(nI_pos (by omega)), (by decide), (by decide), (cp_le (X := ((a + 1) + 8)) (k := 8) (by omega) (by omega)), (by decide)⟩, (Nat.le_of_ble_eq_true rfl), trivial⟩ ?_
  rw [nI_clamp (n := ((a + 1) + 8)) (by omega)]
  refine lm_G_sg 4 (pc' := 56) (L' := [some (.ref 28), some (.ref 58), some (.int (nI a))]) (S' := [.int ((nI a) + 1), .ref 58]) (σ' := lm_T (lm_wa (lm_wa (lm_wr M 28 2 (M 58 a)) 30 (va_cpy (M 58) (M 30) ((a + 1)) 0 8)) 31 (va_cpy (M 58) (M 31) (((a + 1) + 8)) 0 8)) v G) rfl trivial ?_
  rw [show (nI a) + 1 = nI (a + 1) from nI_add a 1]
  refine lm_G_sg 2 (pc' := 59) (L' := [some (.ref 28), some (.ref 58), some (.int (nI a))]) (S' := [.int ((nI (a + 1)) + 16), .ref 58]) (σ' := lm_T (lm_wa (lm_wa (lm_wr M 28 2 (M 58 a)) 30 (va_cpy (M 58) (M 30) ((a + 1)) 0 8)) 31 (va_cpy (M 58) (M 31) (((a + 1) + 8)) 0 8)) v G) rfl trivial ?_
  rw [show (nI (a + 1)) + 16 = nI ((a + 1) + 16) from nI_add (a + 1) 16]
  refine lm_G_sg 5 (pc' := 69) (L' := [some (.ref 28), some (.ref 58), some (.int (nI a))]) (S' := []) (σ' := lm_T (lm_wa (lm_wa (lm_wa (lm_wr M 28 2 (M 58 a)) 30 (va_cpy (M 58) (M 30) ((a + 1)) 0 8)) 31 (va_cpy (M 58) (M 31) (((a + 1) + 8)) 0 8)) 32 (va_cpy (M 58) (M 32) ((nI ((a + 1) + 16)).toNatClampNeg) 0 8)) v G) rfl ⟨⟨(nI_pos (by omega)), (by decide), (by decide), (cp_le (X := ((a + 1) + 16)) (k := 8) (by omega) (by omega)), (by decide)⟩, (Nat.le_of_ble_eq_true rfl), trivial⟩ ?_
  rw [nI_clamp (n := ((a + 1) + 16)) (by omega)]
  refine lm_G_sg 4 (pc' := 73) (L' := [some (.ref 28), some (.ref 58), some (.int (nI a))]) (S' := [.int ((nI a) + 1), .ref 58]) (σ' := lm_T (lm_wa (lm_wa (lm_wa (lm_wr M 28 2 (M 58 a)) 30 (va_cpy (M 58) (M 30) ((a + 1)) 0 8)) 31 (va_cpy (M 58) (M 31) (((a + 1) + 8)) 0 8)) 32 (va_cpy (M 58) (M 32) (((a + 1) + 16)) 0 8)) v G) rfl trivial ?_
  rw [show (nI a) + 1 = nI (a + 1) from nI_add a 1]
  refine lm_G_sg 2 (pc' := 76) (L' := [some (.ref 28), some (.ref 58), some (.int (nI a))]) (S' := [.int ((nI (a + 1)) + 24), .ref 58]) (σ' := lm_T (lm_wa (lm_wa (lm_wa (lm_wr M 28 2 (M 58 a)) 30 (va_cpy (M 58) (M 30) ((a + 1)) 0 8)) 31 (va_cpy (M 58) (M 31) (((a + 1) + 8)) 0 8)) 32 (va_cpy (M 58) (M 32) (((a + 1) + 16)) 0 8)) v G) rfl trivial ?_
  rw [show (nI (a + 1)) + 24 = nI ((a + 1) + 24) from nI_add (a + 1) 24]
  refine lm_G_sg 5 (pc' := 86) (L' := [some (.ref 28), some (.ref 58), some (.int (nI a))]) (S' := []) (σ' := lm_T (lm_wa (lm_wa (lm_wa (lm_wa (lm_wr M 28 2 (M 58 a)) 30 (va_cpy (M 58) (M 30) ((a + 1)) 0 8)) 31 (va_cpy (M 58) (M 31) (((a + 1) + 8)) 0 8)) 32 (va_cpy (M 58) (M 32) (((a + 1) + 16)) 0 8)) 33 (va_cpy (M 58) (M 33) ((nI ((a + 1) + 24)).toNatClampNeg) 0 8)) v G) rfl ⟨⟨(nI_pos (by omega)), (by decide), (by decide), (cp_le (X := ((a + 1) + 24)) (k := 8) (by omega) (by omega)), (by decide)⟩, (Nat.le_of_ble_eq_true rfl), trivial⟩ ?_
  rw [nI_clamp (n := ((a + 1) + 24)) (by omega)]
  refine lm_G_sg 4 (pc' := 90) (L' := [some (.ref 28), some (.ref 58), some (.int (nI a))]) (S' := [.int ((nI a) + 1), .ref 58]) (σ' := lm_T (lm_wa (lm_wa (lm_wa (lm_wa (lm_wr M 28 2 (M 58 a)) 30 (va_cpy (M 58) (M 30) ((a + 1)) 0 8)) 31 (va_cpy (M 58) (M 31) (((a + 1) + 8)) 0 8)) 32 (va_cpy (M 58) (M 32) (((a + 1) + 16)) 0 8)) 33 (va_cpy (M 58) (M 33) (((a + 1) + 24)) 0 8)) v G) rfl trivial ?_
  rw [show (nI a) + 1 = nI (a + 1) from nI_add a 1]
  refine lm_G_sg 2 (pc' := 93) (L' := [some (.ref 28), some (.ref 58), some (.int (nI a))]) (S' := [.int ((nI (a + 1)) + 32), .ref 58]) (σ' := lm_T (lm_wa (lm_wa (lm_wa (lm_wa (lm_wr M 28 2 (M 58 a)) 30 (va_cpy (M 58) (M 30) ((a + 1)) 0 8)) 31 (va_cpy (M 58) (M 31) (((a + 1) + 8)) 0 8)) 32 (va_cpy (M 58) (M 32) (((a + 1) + 16)) 0 8)) 33 (va_cpy (M 58) (M 33) (((a + 1) + 24)) 0 8)) v G) rfl trivial ?_
  rw [show (nI (a + 1)) + 32 = nI ((a + 1) + 32) from nI_add (a + 1) 32]
  refine lm_G_sg 5 (pc' := 103) (L' := [some (.ref 28), some (.ref 58), some (.int (nI a))]) (S' := []) (σ' := lm_T (lm_wa (lm_wa (lm_wa (lm_wa (lm_wa (lm_wr M 28 2 (M 58 a)) 30 (va_cpy (M 58) (M 30) ((a + 1)) 0 8)) 31 (va_cpy (M 58) (M 31) (((a + 1) + 8)) 0 8)) 32 (va_cpy (M 58) (M 32) (((a + 1) + 16)) 0 8)) 33 (va_cpy (M 58) (M 33) (((a + 1) + 24)) 0 8)) 34 (va_cpy (M 58) (M 34) ((nI ((a + 1) + 32)).toNatClampNeg) 0 8)) v G) rfl ⟨⟨(nI_pos (by omega)), (by decide), (by decide), (cp_le (X := ((a + 1) + 32)) (k := 8) (by omega) (by omega)), (by decide)⟩, (Nat.le_of_ble_eq_true rfl), trivial⟩ ?_
  rw [nI_clamp (n := ((a + 1) + 32)) (by omega)]
  refine lm_G_sg 4 (pc' := 107) (L' := [some (.ref 28), some (.ref 58), some (.int (nI a))]) (S' := [.int ((nI a) + 1), .ref 58]) (σ' := lm_T (lm_wa (lm_wa (lm_wa (lm_wa (lm_wa (lm_wr M 28 2 (M 58 a)) 30 (va_cpy (M 58) (M 30) ((a + 1)) 0 8)) 31 (va_cpy (M 58) (M 31) (((a + 1) + 8)) 0 8)) 32 (va_cpy (M 58) (M 32) (((a + 1) + 16)) 0 8)) 33 (va_cpy (M 58) (M 33) (((a + 1) + 24)) 0 8)) 34 (va_cpy (M 58) (M 34) (((a + 1) + 32)) 0 8)) v G) rfl trivial ?_
  rw [show (nI a) + 1 = nI (a + 1) from nI_add a 1]
  refine lm_G_sg 2 (pc' := 110) (L' := [some (.ref 28), some (.ref 58), some (.int (nI a))]) (S' := [.int ((nI (a + 1)) + 40), .ref 58]) (σ' := lm_T (lm_wa (lm_wa (lm_wa (lm_wa (lm_wa (lm_wr M 28 2 (M 58 a)) 30 (va_cpy (M 58) (M 30) ((a + 1)) 0 8)) 31 (va_cpy (M 58) (M 31) (((a + 1) + 8)) 0 8)) 32 (va_cpy (M 58) (M 32) (((a + 1) + 16)) 0 8)) 33 (va_cpy (M 58) (M 33) (((a + 1) + 24)) 0 8)) 34 (va_cpy (M 58) (M 34) (((a + 1) + 32)) 0 8)) v G) rfl trivial ?_
  rw [show (nI (a + 1)) + 40 = nI ((a + 1) + 40) from nI_add (a + 1) 40]
  refine lm_G_sg 5 (pc' := 120) (L' := [some (.ref 28), some (.ref 58), some (.int (nI a))]) (S' := []) (σ' := lm_T (lm_wa (lm_wa (lm_wa (lm_wa (lm_wa (lm_wa (lm_wr M 28 2 (M 58 a)) 30 (va_cpy (M 58) (M 30) ((a + 1)) 0 8)) 31 (va_cpy (M 58) (M 31) (((a + 1) + 8)) 0 8)) 32 (va_cpy (M 58) (M 32) (((a + 1) + 16)) 0 8)) 33 (va_cpy (M 58) (M 33) (((a + 1) + 24)) 0 8)) 34 (va_cpy (M 58) (M 34) (((a + 1) + 32)) 0 8)) 35 (va_cpy (M 58) (M 35) ((nI ((a + 1) + 40)).toNatClampNeg) 0 6)) v G) rfl ⟨⟨(nI_pos (by omega)), (by decide), (by decide), (cp_le (X := ((a + 1) + 40)) (k := 6) (by omega) (by omega)), (by decide)⟩, (Nat.le_of_ble_eq_true rfl), trivial⟩ ?_
  rw [nI_clamp (n := ((a + 1) + 40)) (by omega)]
  refine lm_G_sg 1 (pc' := 121) (L' := [some (.ref 28), some (.ref 58), some (.int (nI a))]) (S' := [.ref 28]) (σ' := lm_T (lm_wa (lm_wa (lm_wa (lm_wa (lm_wa (lm_wa (lm_wr M 28 2 (M 58 a)) 30 (va_cpy (M 58) (M 30) ((a + 1)) 0 8)) 31 (va_cpy (M 58) (M 31) (((a + 1) + 8)) 0 8)) 32 (va_cpy (M 58) (M 32) (((a + 1) + 16)) 0 8)) 33 (va_cpy (M 58) (M 33) (((a + 1) + 24)) 0 8)) 34 (va_cpy (M 58) (M 34) (((a + 1) + 32)) 0 8)) 35 (va_cpy (M 58) (M 35) (((a + 1) + 40)) 0 6)) v G) rfl trivial ?_
  have h0 : PC 28 (lm_wa (lm_wa (lm_wa (lm_wa (lm_wa (lm_wa (lm_wr M 28 2 (M 58 a)) 30 (va_cpy (M 58) (M 30) ((a + 1)) 0 8)) 31 (va_cpy (M 58) (M 31) (((a + 1) + 8)) 0 8)) 32 (va_cpy (M 58) (M 32) (((a + 1) + 16)) 0 8)) 33 (va_cpy (M 58) (M 33) (((a + 1) + 24)) 0 8)) 34 (va_cpy (M 58) (M 34) (((a + 1) + 32)) 0 8)) 35 (va_cpy (M 58) (M 35) (((a + 1) + 40)) 0 6)) F s := ⟨KC_of hk rfl rfl rfl rfl rfl rfl rfl, hv.1, hb, Ag_cps (fun p hp => (hv.2.1 p hp).1) (by omega), Ag_cps (fun p hp => (hv.2.1 p hp).2.1) (by omega), Ag_cps (fun p hp => (hv.2.1 p hp).2.2.1) (by omega), Ag_cps (fun p hp => (hv.2.1 p hp).2.2.2.1) (by omega), Ag_cps (fun p hp => (hv.2.1 p hp).2.2.2.2) (by omega), Ag_cps (fun t ht => hv.2.2 t ht) (by omega)⟩
  have f0 : Fr frL M (lm_wa (lm_wa (lm_wa (lm_wa (lm_wa (lm_wa (lm_wr M 28 2 (M 58 a)) 30 (va_cpy (M 58) (M 30) ((a + 1)) 0 8)) 31 (va_cpy (M 58) (M 31) (((a + 1) + 8)) 0 8)) 32 (va_cpy (M 58) (M 32) (((a + 1) + 16)) 0 8)) 33 (va_cpy (M 58) (M 33) (((a + 1) + 24)) 0 8)) 34 (va_cpy (M 58) (M 34) (((a + 1) + 32)) 0 8)) 35 (va_cpy (M 58) (M 35) (((a + 1) + 40)) 0 6)) := Fr_wa (Fr_wa (Fr_wa (Fr_wa (Fr_wa (Fr_wa (Fr_wr (Fr_rf _ _) rfl) rfl) rfl) rfl) rfl) rfl) rfl
  have g0 : ∀ k, k ≠ 2 → (lm_wa (lm_wa (lm_wa (lm_wa (lm_wa (lm_wa (lm_wr M 28 2 (M 58 a)) 30 (va_cpy (M 58) (M 30) ((a + 1)) 0 8)) 31 (va_cpy (M 58) (M 31) (((a + 1) + 8)) 0 8)) 32 (va_cpy (M 58) (M 32) (((a + 1) + 16)) 0 8)) 33 (va_cpy (M 58) (M 33) (((a + 1) + 24)) 0 8)) 34 (va_cpy (M 58) (M 34) (((a + 1) + 32)) 0 8)) 35 (va_cpy (M 58) (M 35) (((a + 1) + 40)) 0 6)) 28 k = M 28 k := fun k hk => (wr_at hk : lm_wr M 28 2 (M 58 a) 28 k = M 28 k)
  revert h0 f0 g0
  generalize lm_wa (lm_wa (lm_wa (lm_wa (lm_wa (lm_wa (lm_wr M 28 2 (M 58 a)) 30 (va_cpy (M 58) (M 30) ((a + 1)) 0 8)) 31 (va_cpy (M 58) (M 31) (((a + 1) + 8)) 0 8)) 32 (va_cpy (M 58) (M 32) (((a + 1) + 16)) 0 8)) 33 (va_cpy (M 58) (M 33) (((a + 1) + 24)) 0 8)) 34 (va_cpy (M 58) (M 34) (((a + 1) + 32)) 0 8)) 35 (va_cpy (M 58) (M 35) (((a + 1) + 40)) 0 6) = M1
  intro h0 f0 g0
  refine lm_G_ca (j := 56) (as := [.ref 28]) (rest := []) rfl (Or.inl rfl) (Nat.le_of_ble_eq_true rfl) (Nat.le_of_ble_eq_true rfl) (Nat.le_of_ble_eq_true rfl) (Nat.le_of_ble_eq_true rfl) rfl ?_
  refine c_findHummers28 hF h0 (fun M2 k1 k2 => ?_)
  show lm_G X (d + 1) 55 106 0 0 124 [some (.ref 28), some (.ref 58), some (.int (nI a))] [] (lm_T M2 v G) Q
  have h2 : PC 28 M2 F s := by
    refine ⟨KC_of h0.1 (k2 14 rfl) (k2 16 rfl) (k2 19 rfl) (k2 20 rfl) (k2 22 rfl) (k2 23 rfl) (k2 24 rfl), ?_⟩
    rw [k2 28 rfl, k2 (28 + 1) rfl, k2 (28 + 2) rfl, k2 (28 + 3) rfl, k2 (28 + 4) rfl, k2 (28 + 5) rfl, k2 (28 + 6) rfl, k2 (28 + 7) rfl]
    exact h0.2
  refine lm_G_sg 1 (pc' := 125) (L' := [some (.ref 28), some (.ref 58), some (.int (nI a))]) (S' := [.ref 28]) (σ' := lm_T M2 v G) rfl trivial ?_
  refine lm_G_ca (j := 57) (as := [.ref 28]) (rest := []) rfl (Or.inl rfl) (Nat.le_of_ble_eq_true rfl) (Nat.le_of_ble_eq_true rfl) (Nat.le_of_ble_eq_true rfl) (Nat.le_of_ble_eq_true rfl) rfl ?_
  refine c_findHeard28 hF h2 (fun M3 k3 k4 => ?_)
  show lm_G X (d + 1) 55 106 0 0 128 [some (.ref 28), some (.ref 58), some (.int (nI a))] [] (lm_T M3 v G) Q
  have h3 : PC 28 M3 F s := by
    refine ⟨KC_of h2.1 (k4 14 rfl) (k4 16 rfl) (k4 19 rfl) (k4 20 rfl) (k4 22 rfl) (k4 23 rfl) (k4 24 rfl), ?_⟩
    rw [k4 28 rfl, k4 (28 + 1) rfl, k4 (28 + 2) rfl, k4 (28 + 3) rfl, k4 (28 + 4) rfl, k4 (28 + 5) rfl, k4 (28 + 6) rfl, k4 (28 + 7) rfl]
    exact h2.2
  exact lm_G_re rfl trivial (Nat.zero_le _) (Nat.zero_le _) (hQ _ (PC_RC h3 (by rw [k4 (28 + 8) rfl]; exact k1) k3) ⟨Fr_tr (Fr_tr f0 (Fr_mn k2 (fun a ha => frLO ha rfl))) (Fr_mn k4 (fun a ha => frLO ha rfl)), fun k hk => by rw [k4 28 rfl, k2 28 rfl]; exact g0 k hk⟩)
