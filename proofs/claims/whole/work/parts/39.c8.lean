/-! ===== contracts: the class's scenes ===== -/
def orS (F : Fa) (s : Sc) : Nat → Int32
  | 0 => 0
  | j + 1 => orS F s j ||| humS F (sHu s) (nI j)
theorem orS_any {F : Fa} (hF : okF F) {s : Sc} : ∀ j, orS F s j = msk (anyS s j) (fN F)
  | 0 => (msk_0).symm
  | j + 1 => by
    simp only [orS]
    rw [orS_any hF j]
    exact msk_or (by have := hF.n; omega)
set_option maxRecDepth 10000 in
theorem c_isRested28 {X : lm_X} {d v : Nat} {M : Nat → Nat → Int32} {G : Nat → Nat → Int64} {Q : lm_O → lm_S → Prop} {F : Fa} {s : Sc} {p : Nat} (hF : okF F) (h : RC 28 M F s) (hp : p < fN F) (hQ : Q (.inl (some (.int (b2i (decide (fRe F p ≤ sId s p)))))) (lm_T M v G)) : lm_Q X d 58 [.ref 28, .int (nI p)] (lm_T M v G) Q := by
  have hn := hF.n
  have hm := hF.m
  show lm_G X d 58 106 0 0 0 [some (.ref 28), some (.int (nI p))] [] (lm_T M v G) Q
  refine lm_G_sg 4 (pc' := 6) (L' := [some (.ref 28), some (.int (nI p))]) (S' := [.int (M 34 (nI p).toNatClampNeg)]) (σ' := lm_T M v G) rfl ⟨(vp_in_nI (by omega) (by omega)), trivial, trivial⟩ ?_
  rw [show (nI p).toNatClampNeg = p from nI_clamp (by omega)]
  rw [show M 34 p = sId s p from h.id p (by omega)]
  refine lm_G_sg 5 (pc' := 15) (L' := [some (.ref 28), some (.int (nI p))]) (S' := [.int (M 16 (nI p).toNatClampNeg), .int (sId s p)]) (σ' := lm_T M v G) rfl ⟨(vp_in_nI (by omega) (by omega)), trivial, trivial⟩ ?_
  rw [show (nI p).toNatClampNeg = p from nI_clamp (by omega)]
  rw [show M 16 p = fRe F p from h.re p (by omega)]
  refine lm_G_br (b := (sId s p) < (fRe F p)) (t := 22) (S' := []) rfl (fun hc => ?_) (fun hc => ?_)
  ·
    rw [b2i_f (decide_eq_false (Int32.not_le.mpr hc))] at hQ
    refine lm_G_sg 1 (pc' := 23) (L' := [some (.ref 28), some (.int (nI p))]) (S' := [.int 0]) (σ' := lm_T M v G) rfl trivial ?_
    exact lm_G_re rfl (Or.inl rfl) (Nat.zero_le _) (Nat.zero_le _) hQ
  ·
    rw [b2i_t (decide_eq_true (Int32.not_lt.mp hc))] at hQ
    refine lm_G_sg 2 (pc' := 23) (L' := [some (.ref 28), some (.int (nI p))]) (S' := [.int 1]) (σ' := lm_T M v G) rfl trivial ?_
    exact lm_G_re rfl (Or.inr rfl) (Nat.zero_le _) (Nat.zero_le _) hQ
set_option maxRecDepth 10000 in
theorem c_allHummers28 {X : lm_X} {d v : Nat} {M : Nat → Nat → Int32} {G : Nat → Nat → Int64} {Q : lm_O → lm_S → Prop} {F : Fa} {s : Sc} (hs : okS F s) (hF : okF F) (h : RC 28 M F s) (hQ : Q (.inl (some (.int (msk (fun p => decide (sHu s p ≠ -1)) (fN F))))) (lm_T M v G)) : lm_Q X d 59 [.ref 28] (lm_T M v G) Q := by
  have hn := hF.n
  have hm := hF.m
  show lm_G X d 59 106 0 0 0 [some (.ref 28), none, none] [] (lm_T M v G) Q
  refine lm_G_sg 4 (pc' := 4) (L' := [some (.ref 28), some (.int 0), some (.int 0)]) (S' := []) (σ' := lm_T M v G) rfl trivial ?_
  refine lm_ind (α := Unit) (St := fun (j : Nat) zz => lm_G X d 59 106 0 0 4 [some (.ref 28), some (.int (orS F s j)), some (.int (nI j))] [] (lm_T M v G) Q) (Inv := fun (j : Nat) zz => True) (fM F) (fun j zz hj hI ih => ?_) (fun zz hI => ?_) (0) () (by omega) ?_
  ·
    replace hI : True := hI
    replace ih : ∀ (_ : True), lm_G X d 59 106 0 0 4 [some (.ref 28), some (.int (orS F s (j + 1))), some (.int (nI (j + 1)))] [] (lm_T M v G) Q := fun q => ih () q
    show lm_G X d 59 106 0 0 4 [some (.ref 28), some (.int (orS F s j)), some (.int (nI j))] [] (lm_T M v G) Q
    refine lm_G_sg 4 (pc' := 12) (L' := [some (.ref 28), some (.int (orS F s j)), some (.int (nI j))]) (S' := [.int (M 14 6), .int (nI j)]) (σ' := lm_T M v G) rfl trivial ?_
    rw [show M 14 6 = nI (fM F) from h.m]
    refine lm_G_br (b := (nI (fM F)) ≤ (nI j)) (t := 30) (S' := []) rfl (fun hc => absurd hc (nI_ge hj (by omega))) (fun hc => ?_)
    refine lm_G_sg 5 (pc' := 22) (L' := [some (.ref 28), some (.int (orS F s j)), some (.int (nI j))]) (S' := [.int (M 36 (nI j).toNatClampNeg), .int (orS F s j)]) (σ' := lm_T M v G) rfl ⟨(vp_in_nI (by omega) (by omega)), trivial, trivial⟩ ?_
    rw [show (nI j).toNatClampNeg = j from nI_clamp (by omega)]
    rw [show M 36 j = humS F (sHu s) (nI j) from h.hs j (by omega)]
    refine lm_G_sg 3 (pc' := 27) (L' := [some (.ref 28), some (.int ((orS F s j) ||| (humS F (sHu s) (nI j)))), some (.int ((nI j) + 1))]) (S' := []) (σ' := lm_T M v G) rfl trivial ?_
    rw [nI_1]
    refine lm_G_sg 1 (pc' := 4) (L' := [some (.ref 28), some (.int ((orS F s j) ||| (humS F (sHu s) (nI j)))), some (.int (nI (j + 1)))]) (S' := []) (σ' := lm_T M v G) rfl trivial ?_
    exact ih  trivial
  ·
    replace hI : True := hI
    show lm_G X d 59 106 0 0 4 [some (.ref 28), some (.int (orS F s (fM F))), some (.int (nI (fM F)))] [] (lm_T M v G) Q
    refine lm_G_sg 4 (pc' := 12) (L' := [some (.ref 28), some (.int (orS F s (fM F))), some (.int (nI (fM F)))]) (S' := [.int (M 14 6), .int (nI (fM F))]) (σ' := lm_T M v G) rfl trivial ?_
    rw [show M 14 6 = nI (fM F) from h.m]
    refine lm_G_br (b := (nI (fM F)) ≤ (nI (fM F))) (t := 30) (S' := []) rfl (fun hc => ?_) (fun hc => absurd (nI_le (Nat.le_refl _) (by omega)) hc)
    refine lm_G_sg 1 (pc' := 31) (L' := [some (.ref 28), some (.int (orS F s (fM F))), some (.int (nI (fM F)))]) (S' := [.int (orS F s (fM F))]) (σ' := lm_T M v G) rfl trivial ?_
    rw [orS_any hF, all_hum hF hs]
    exact lm_G_re rfl trivial (Nat.zero_le _) (Nat.zero_le _) hQ
  ·
    trivial
set_option maxRecDepth 10000 in
theorem c_ownedBy28 {X : lm_X} {d v : Nat} {M : Nat → Nat → Int32} {G : Nat → Nat → Int64} {Q : lm_O → lm_S → Prop} {F : Fa} {s : Sc} {x : Int32} (hF : okF F) (h : RC 28 M F s) (hQ : Q (.inl (some (.int (ownS F (sOw s) x)))) (lm_T M v G)) : lm_Q X d 60 [.ref 28, .int x] (lm_T M v G) Q := by
  have hn := hF.n
  have hm := hF.m
  show lm_G X d 60 106 0 0 0 [some (.ref 28), some (.int x), none, none] [] (lm_T M v G) Q
  refine lm_G_sg 4 (pc' := 4) (L' := [some (.ref 28), some (.int x), some (.int 0), some (.int 0)]) (S' := []) (σ' := lm_T M v G) rfl trivial ?_
  refine lm_ind (α := Unit) (St := fun (j : Nat) zz => lm_G X d 60 106 0 0 4 [some (.ref 28), some (.int x), some (.int (msk (fun t => decide (sOw s t = x)) j)), some (.int (nI j))] [] (lm_T M v G) Q) (Inv := fun (j : Nat) zz => True) (fM F) (fun j zz hj hI ih => ?_) (fun zz hI => ?_) (0) () (by omega) ?_
  ·
    replace hI : True := hI
    replace ih : ∀ (_ : True), lm_G X d 60 106 0 0 4 [some (.ref 28), some (.int x), some (.int (msk (fun t => decide (sOw s t = x)) (j + 1))), some (.int (nI (j + 1)))] [] (lm_T M v G) Q := fun q => ih () q
    show lm_G X d 60 106 0 0 4 [some (.ref 28), some (.int x), some (.int (msk (fun t => decide (sOw s t = x)) j)), some (.int (nI j))] [] (lm_T M v G) Q
    refine lm_G_sg 4 (pc' := 12) (L' := [some (.ref 28), some (.int x), some (.int (msk (fun t => decide (sOw s t = x)) j)), some (.int (nI j))]) (S' := [.int (M 14 6), .int (nI j)]) (σ' := lm_T M v G) rfl trivial ?_
    rw [show M 14 6 = nI (fM F) from h.m]
    refine lm_G_br (b := (nI (fM F)) ≤ (nI j)) (t := 37) (S' := []) rfl (fun hc => absurd hc (nI_ge hj (by omega))) (fun hc => ?_)
    refine lm_G_sg 4 (pc' := 21) (L' := [some (.ref 28), some (.int x), some (.int (msk (fun t => decide (sOw s t = x)) j)), some (.int (nI j))]) (S' := [.int (M 35 (nI j).toNatClampNeg)]) (σ' := lm_T M v G) rfl ⟨(vp_in_nI (by omega) (by omega)), trivial, trivial⟩ ?_
    rw [show (nI j).toNatClampNeg = j from nI_clamp (by omega)]
    rw [show M 35 j = sOw s j from h.ow j (by omega)]
    refine lm_G_sg 1 (pc' := 22) (L' := [some (.ref 28), some (.int x), some (.int (msk (fun t => decide (sOw s t = x)) j)), some (.int (nI j))]) (S' := [.int x, .int (sOw s j)]) (σ' := lm_T M v G) rfl trivial ?_
    refine lm_G_br (b := ¬ (sOw s j) = x) (t := 31) (S' := []) rfl (fun hc => ?_) (fun hc => ?_)
    ·
      refine lm_G_sg 1 (pc' := 34) (L' := [some (.ref 28), some (.int x), some (.int (msk (fun t => decide (sOw s t = x)) j)), some (.int ((nI j) + 1))]) (S' := []) (σ' := lm_T M v G) rfl trivial ?_
      rw [nI_1]
      refine lm_G_sg 1 (pc' := 4) (L' := [some (.ref 28), some (.int x), some (.int (msk (fun t => decide (sOw s t = x)) j)), some (.int (nI (j + 1)))]) (S' := []) (σ' := lm_T M v G) rfl trivial ?_
      rw [← msk_f (f := (fun t => decide (sOw s t = x))) (decide_eq_false hc)]
      exact ih  trivial
    ·
      refine lm_G_sg 7 (pc' := 34) (L' := [some (.ref 28), some (.int x), some (.int ((msk (fun t => decide (sOw s t = x)) j) ||| (1 <<< ((nI j) &&& 31)))), some (.int ((nI j) + 1))]) (S' := []) (σ' := lm_T M v G) rfl trivial ?_
      rw [nI_1]
      refine lm_G_sg 1 (pc' := 4) (L' := [some (.ref 28), some (.int x), some (.int ((msk (fun t => decide (sOw s t = x)) j) ||| (1 <<< ((nI j) &&& 31)))), some (.int (nI (j + 1)))]) (S' := []) (σ' := lm_T M v G) rfl trivial ?_
      rw [← msk_t (f := (fun t => decide (sOw s t = x))) (decide_eq_true (Classical.not_not.mp hc))]
      exact ih  trivial
  ·
    replace hI : True := hI
    show lm_G X d 60 106 0 0 4 [some (.ref 28), some (.int x), some (.int (msk (fun t => decide (sOw s t = x)) (fM F))), some (.int (nI (fM F)))] [] (lm_T M v G) Q
    refine lm_G_sg 4 (pc' := 12) (L' := [some (.ref 28), some (.int x), some (.int (msk (fun t => decide (sOw s t = x)) (fM F))), some (.int (nI (fM F)))]) (S' := [.int (M 14 6), .int (nI (fM F))]) (σ' := lm_T M v G) rfl trivial ?_
    rw [show M 14 6 = nI (fM F) from h.m]
    refine lm_G_br (b := (nI (fM F)) ≤ (nI (fM F))) (t := 37) (S' := []) rfl (fun hc => ?_) (fun hc => absurd (nI_le (Nat.le_refl _) (by omega)) hc)
    refine lm_G_sg 1 (pc' := 38) (L' := [some (.ref 28), some (.int x), some (.int (msk (fun t => decide (sOw s t = x)) (fM F))), some (.int (nI (fM F)))]) (S' := [.int (msk (fun t => decide (sOw s t = x)) (fM F))]) (σ' := lm_T M v G) rfl trivial ?_
    exact lm_G_re rfl trivial (Nat.zero_le _) (Nat.zero_le _) hQ
  ·
    trivial
set_option maxRecDepth 10000 in
theorem c_howMany28 {X : lm_X} {d v : Nat} {M : Nat → Nat → Int32} {G : Nat → Nat → Int64} {Q : lm_O → lm_S → Prop} {F : Fa} {s : Sc} {x : Int32} (hF : okF F) (h : RC 28 M F s) (hQ : Q (.inl (some (.int (cnt (ownS F (sOw s) x))))) (lm_T M v G)) : lm_Q X (d + 1) 61 [.ref 28, .int x] (lm_T M v G) Q := by
  have hn := hF.n
  have hm := hF.m
  show lm_G X (d + 1) 61 106 0 0 0 [some (.ref 28), some (.int x)] [] (lm_T M v G) Q
  refine lm_G_sg 2 (pc' := 2) (L' := [some (.ref 28), some (.int x)]) (S' := [.int x, .ref 28]) (σ' := lm_T M v G) rfl trivial ?_
  refine lm_G_ca (j := 60) (as := [.ref 28, .int x]) (rest := []) rfl (Or.inl rfl) (Nat.le_of_ble_eq_true rfl) (Nat.le_of_ble_eq_true rfl) (Nat.le_of_ble_eq_true rfl) (Nat.le_of_ble_eq_true rfl) rfl ?_
  refine c_ownedBy28 hF h ?_
  show lm_G X (d + 1) 61 106 0 0 5 [some (.ref 28), some (.int x)] [.int (ownS F (sOw s) x)] (lm_T M v G) Q
  refine lm_G_ca (j := 244) (as := [.int (ownS F (sOw s) x)]) (rest := []) rfl (Or.inl rfl) (Nat.le_of_ble_eq_true rfl) (Nat.le_of_ble_eq_true rfl) (Nat.le_of_ble_eq_true rfl) (Nat.le_of_ble_eq_true rfl) rfl ?_
  refine c_bits (own_lt hF _ _) ?_
  show lm_G X (d + 1) 61 106 0 0 8 [some (.ref 28), some (.int x)] [.int (cnt (ownS F (sOw s) x))] (lm_T M v G) Q
  exact lm_G_re rfl trivial (Nat.zero_le _) (Nat.zero_le _) hQ
set_option maxRecDepth 10000 in
theorem c_allCows28 {X : lm_X} {d v : Nat} {M : Nat → Nat → Int32} {G : Nat → Nat → Int64} {Q : lm_O → lm_S → Prop} {F : Fa} {s : Sc} (hF : okF F) (h : RC 28 M F s) (hQ : Q (.inl (some (.int (sumS (sCo s) (fN F))))) (lm_T M v G)) : lm_Q X d 63 [.ref 28] (lm_T M v G) Q := by
  have hn := hF.n
  have hm := hF.m
  show lm_G X d 63 106 0 0 0 [some (.ref 28), none, none] [] (lm_T M v G) Q
  refine lm_G_sg 4 (pc' := 4) (L' := [some (.ref 28), some (.int 0), some (.int 0)]) (S' := []) (σ' := lm_T M v G) rfl trivial ?_
  refine lm_ind (α := Unit) (St := fun (j : Nat) zz => lm_G X d 63 106 0 0 4 [some (.ref 28), some (.int (sumS (sCo s) j)), some (.int (nI j))] [] (lm_T M v G) Q) (Inv := fun (j : Nat) zz => True) (fN F) (fun j zz hj hI ih => ?_) (fun zz hI => ?_) (0) () (by omega) ?_
  ·
    replace hI : True := hI
    replace ih : ∀ (_ : True), lm_G X d 63 106 0 0 4 [some (.ref 28), some (.int (sumS (sCo s) (j + 1))), some (.int (nI (j + 1)))] [] (lm_T M v G) Q := fun q => ih () q
    show lm_G X d 63 106 0 0 4 [some (.ref 28), some (.int (sumS (sCo s) j)), some (.int (nI j))] [] (lm_T M v G) Q
    refine lm_G_sg 4 (pc' := 12) (L' := [some (.ref 28), some (.int (sumS (sCo s) j)), some (.int (nI j))]) (S' := [.int (M 14 0), .int (nI j)]) (σ' := lm_T M v G) rfl trivial ?_
    rw [show M 14 0 = nI (fN F) from h.n]
    refine lm_G_br (b := (nI (fN F)) ≤ (nI j)) (t := 30) (S' := []) rfl (fun hc => absurd hc (nI_ge hj (by omega))) (fun hc => ?_)
    refine lm_G_sg 5 (pc' := 22) (L' := [some (.ref 28), some (.int (sumS (sCo s) j)), some (.int (nI j))]) (S' := [.int (M 31 (nI j).toNatClampNeg), .int (sumS (sCo s) j)]) (σ' := lm_T M v G) rfl ⟨(vp_in_nI (by omega) (by omega)), trivial, trivial⟩ ?_
    rw [show (nI j).toNatClampNeg = j from nI_clamp (by omega)]
    rw [show M 31 j = sCo s j from h.co j (by omega)]
    refine lm_G_sg 3 (pc' := 27) (L' := [some (.ref 28), some (.int ((sumS (sCo s) j) + (sCo s j))), some (.int ((nI j) + 1))]) (S' := []) (σ' := lm_T M v G) rfl trivial ?_
    rw [nI_1]
    refine lm_G_sg 1 (pc' := 4) (L' := [some (.ref 28), some (.int ((sumS (sCo s) j) + (sCo s j))), some (.int (nI (j + 1)))]) (S' := []) (σ' := lm_T M v G) rfl trivial ?_
    exact ih  trivial
  ·
    replace hI : True := hI
    show lm_G X d 63 106 0 0 4 [some (.ref 28), some (.int (sumS (sCo s) (fN F))), some (.int (nI (fN F)))] [] (lm_T M v G) Q
    refine lm_G_sg 4 (pc' := 12) (L' := [some (.ref 28), some (.int (sumS (sCo s) (fN F))), some (.int (nI (fN F)))]) (S' := [.int (M 14 0), .int (nI (fN F))]) (σ' := lm_T M v G) rfl trivial ?_
    rw [show M 14 0 = nI (fN F) from h.n]
    refine lm_G_br (b := (nI (fN F)) ≤ (nI (fN F))) (t := 30) (S' := []) rfl (fun hc => ?_) (fun hc => absurd (nI_le (Nat.le_refl _) (by omega)) hc)
    refine lm_G_sg 1 (pc' := 31) (L' := [some (.ref 28), some (.int (sumS (sCo s) (fN F))), some (.int (nI (fN F)))]) (S' := [.int (sumS (sCo s) (fN F))]) (σ' := lm_T M v G) rfl trivial ?_
    exact lm_G_re rfl trivial (Nat.zero_le _) (Nat.zero_le _) hQ
  ·
    trivial
set_option maxRecDepth 10000 in
theorem c_giveTo28 {X : lm_X} {d v : Nat} {M : Nat → Nat → Int32} {G : Nat → Nat → Int64} {Q : lm_O → lm_S → Prop} {F : Fa} {s : Sc} {t : Nat} {x : Int32} (hF : okF F) (h : RC 28 M F s) (ht : t < fM F) (hQ : ∀ M1, RC 28 M1 F (ownT s t x) → FrC 28 M M1 → M1 28 13 = M 28 13 + (if sOw s t = x then 0 else 1) → Q (.inl none) (lm_T M1 v G)) : lm_Q X d 65 [.ref 28, .int (nI t), .int x] (lm_T M v G) Q := by
  have hn := hF.n
  have hm := hF.m
  show lm_G X d 65 106 0 0 0 [some (.ref 28), some (.int (nI t)), some (.int x)] [] (lm_T M v G) Q
  refine lm_G_sg 4 (pc' := 6) (L' := [some (.ref 28), some (.int (nI t)), some (.int x)]) (S' := [.int (M 35 (nI t).toNatClampNeg)]) (σ' := lm_T M v G) rfl ⟨(vp_in_nI (by omega) (by omega)), trivial, trivial⟩ ?_
  rw [show (nI t).toNatClampNeg = t from nI_clamp (by omega)]
  rw [show M 35 t = sOw s t from h.ow t (by omega)]
  refine lm_G_sg 1 (pc' := 7) (L' := [some (.ref 28), some (.int (nI t)), some (.int x)]) (S' := [.int x, .int (sOw s t)]) (σ' := lm_T M v G) rfl trivial ?_
  refine lm_G_br (b := (sOw s t) = x) (t := 27) (S' := []) rfl (fun hc => ?_) (fun hc => ?_)
  ·
    exact lm_G_re rfl trivial (Nat.zero_le _) (Nat.zero_le _) (hQ _ (RC_own028 h hc) (FrC_rf _ _) (by rw [if_pos hc]; simp))
  ·
    refine lm_G_sg 5 (pc' := 17) (L' := [some (.ref 28), some (.int (nI t)), some (.int x)]) (S' := []) (σ' := lm_T (lm_wr M 35 ((nI t).toNatClampNeg) x) v G) rfl ⟨(vp_in_nI (by omega) (by omega)), trivial, trivial⟩ ?_
    rw [show (nI t).toNatClampNeg = t from nI_clamp (by omega)]
    refine lm_G_sg 6 (pc' := 27) (L' := [some (.ref 28), some (.int (nI t)), some (.int x)]) (S' := []) (σ' := lm_T (lm_wr (lm_wr M 35 t x) 28 13 ((M 28 13) + 1)) v G) rfl ⟨trivial, trivial, trivial⟩ ?_
    exact lm_G_re rfl trivial (Nat.zero_le _) (Nat.zero_le _) (hQ _ (RC_own28 h t x _) (FrC_wb (FrC_wr (FrC_rf _ _) rfl (by decide)) rfl (Or.inr rfl)) (by rw [wr_same, if_neg hc]))
set_option maxRecDepth 10000 in
theorem c_stop28 {X : lm_X} {d v : Nat} {M : Nat → Nat → Int32} {G : Nat → Nat → Int64} {Q : lm_O → lm_S → Prop} {F : Fa} {s : Sc} {p t : Nat} (hF : okF F) (h : RC 28 M F s) (hp : p < fN F) (ht : t < fM F) (et : sHu s p = nI t) (hQ : Q (.inl none) (lm_T (lm_wr (lm_wr (lm_wr (lm_wr M 36 t (humS F (sHu s) (nI t) &&& (bit1 (nI p) ^^^ (-1)))) 32 p (-1)) 33 p 0) 34 p 0) v G)) : lm_Q X d 66 [.ref 28, .int (nI p)] (lm_T M v G) Q := by
  have hn := hF.n
  have hm := hF.m
  show lm_G X d 66 106 0 0 0 [some (.ref 28), some (.int (nI p)), none] [] (lm_T M v G) Q
  refine lm_G_sg 4 (pc' := 6) (L' := [some (.ref 28), some (.int (nI p)), none]) (S' := [.int (M 32 (nI p).toNatClampNeg)]) (σ' := lm_T M v G) rfl ⟨(vp_in_nI (by omega) (by omega)), trivial, trivial⟩ ?_
  rw [show (nI p).toNatClampNeg = p from nI_clamp (by omega)]
  rw [show M 32 p = sHu s p from h.hu p (by omega)]
  rw [et]
  refine lm_G_sg 3 (pc' := 9) (L' := [some (.ref 28), some (.int (nI p)), some (.int (nI t))]) (S' := [.int (-1), .int (nI t)]) (σ' := lm_T M v G) rfl trivial ?_
  refine lm_G_br (b := (nI t) = (-1)) (t := 47) (S' := []) rfl (fun hc => absurd hc (nI_m1 (by omega))) (fun hc => ?_)
  refine lm_G_sg 5 (pc' := 19) (L' := [some (.ref 28), some (.int (nI p)), some (.int (nI t))]) (S' := [.int (M 36 (nI t).toNatClampNeg), .int (nI t), .ref 36]) (σ' := lm_T M v G) rfl ⟨(vp_in_nI (by omega) (by omega)), trivial, trivial⟩ ?_
  rw [show (nI t).toNatClampNeg = t from nI_clamp (by omega)]
  rw [show M 36 t = humS F (sHu s) (nI t) from h.hs t (by omega)]
  refine lm_G_sg 7 (pc' := 26) (L' := [some (.ref 28), some (.int (nI p)), some (.int (nI t))]) (S' := []) (σ' := lm_T (lm_wr M 36 ((nI t).toNatClampNeg) ((humS F (sHu s) (nI t)) &&& ((1 <<< ((nI p) &&& 31)) ^^^ (-1)))) v G) rfl ⟨(vp_in_nI (by omega) (by omega)), trivial, trivial⟩ ?_
  rw [show (nI t).toNatClampNeg = t from nI_clamp (by omega)]
  refine lm_G_sg 5 (pc' := 33) (L' := [some (.ref 28), some (.int (nI p)), some (.int (nI t))]) (S' := []) (σ' := lm_T (lm_wr (lm_wr M 36 t ((humS F (sHu s) (nI t)) &&& ((1 <<< ((nI p) &&& 31)) ^^^ (-1)))) 32 ((nI p).toNatClampNeg) (-1)) v G) rfl ⟨(vp_in_nI (by omega) (by omega)), trivial, trivial⟩ ?_
  rw [show (nI p).toNatClampNeg = p from nI_clamp (by omega)]
  refine lm_G_sg 5 (pc' := 40) (L' := [some (.ref 28), some (.int (nI p)), some (.int (nI t))]) (S' := []) (σ' := lm_T (lm_wr (lm_wr (lm_wr M 36 t ((humS F (sHu s) (nI t)) &&& ((1 <<< ((nI p) &&& 31)) ^^^ (-1)))) 32 p (-1)) 33 ((nI p).toNatClampNeg) 0) v G) rfl ⟨(vp_in_nI (by omega) (by omega)), trivial, trivial⟩ ?_
  rw [show (nI p).toNatClampNeg = p from nI_clamp (by omega)]
  refine lm_G_sg 5 (pc' := 47) (L' := [some (.ref 28), some (.int (nI p)), some (.int (nI t))]) (S' := []) (σ' := lm_T (lm_wr (lm_wr (lm_wr (lm_wr M 36 t ((humS F (sHu s) (nI t)) &&& ((1 <<< ((nI p) &&& 31)) ^^^ (-1)))) 32 p (-1)) 33 p 0) 34 ((nI p).toNatClampNeg) 0) v G) rfl ⟨(vp_in_nI (by omega) (by omega)), trivial, trivial⟩ ?_
  rw [show (nI p).toNatClampNeg = p from nI_clamp (by omega)]
  exact lm_G_re rfl trivial (Nat.zero_le _) (Nat.zero_le _) hQ
set_option maxRecDepth 10000 in
theorem c_start28 {X : lm_X} {d v : Nat} {M : Nat → Nat → Int32} {G : Nat → Nat → Int64} {Q : lm_O → lm_S → Prop} {F : Fa} {s : Sc} {p t : Nat} (hF : okF F) (h : RC 28 M F s) (hp : p < fN F) (ht : t < fM F) (hQ : Q (.inl none) (lm_T (lm_wr (lm_wr M 32 p (nI t)) 36 t (humS F (sHu s) (nI t) ||| bit1 (nI p))) v G)) : lm_Q X d 67 [.ref 28, .int (nI p), .int (nI t)] (lm_T M v G) Q := by
  have hn := hF.n
  have hm := hF.m
  show lm_G X d 67 106 0 0 0 [some (.ref 28), some (.int (nI p)), some (.int (nI t))] [] (lm_T M v G) Q
  refine lm_G_sg 5 (pc' := 7) (L' := [some (.ref 28), some (.int (nI p)), some (.int (nI t))]) (S' := []) (σ' := lm_T (lm_wr M 32 ((nI p).toNatClampNeg) (nI t)) v G) rfl ⟨(vp_in_nI (by omega) (by omega)), trivial, trivial⟩ ?_
  rw [show (nI p).toNatClampNeg = p from nI_clamp (by omega)]
  refine lm_G_sg 5 (pc' := 14) (L' := [some (.ref 28), some (.int (nI p)), some (.int (nI t))]) (S' := [.int ((lm_wr M 32 p (nI t)) 36 (nI t).toNatClampNeg), .int (nI t), .ref 36]) (σ' := lm_T (lm_wr M 32 p (nI t)) v G) rfl ⟨(vp_in_nI (by omega) (by omega)), trivial, trivial⟩ ?_
  rw [show (nI t).toNatClampNeg = t from nI_clamp (by omega)]
  show lm_G X d 67 106 0 0 14 [some (.ref 28), some (.int (nI p)), some (.int (nI t))] [.int (M 36 t), .int (nI t), .ref 36] (lm_T (lm_wr M 32 p (nI t)) v G) Q
  rw [show M 36 t = humS F (sHu s) (nI t) from h.hs t (by omega)]
  refine lm_G_sg 5 (pc' := 19) (L' := [some (.ref 28), some (.int (nI p)), some (.int (nI t))]) (S' := []) (σ' := lm_T (lm_wr (lm_wr M 32 p (nI t)) 36 ((nI t).toNatClampNeg) ((humS F (sHu s) (nI t)) ||| (1 <<< ((nI p) &&& 31)))) v G) rfl ⟨(vp_in_nI (by omega) (by omega)), trivial, trivial⟩ ?_
  rw [show (nI t).toNatClampNeg = t from nI_clamp (by omega)]
  exact lm_G_re rfl trivial (Nat.zero_le _) (Nat.zero_le _) hQ
set_option maxRecDepth 10000 in
theorem c_stopT28 {X : lm_X} {d v : Nat} {M : Nat → Nat → Int32} {G : Nat → Nat → Int64} {Q : lm_O → lm_S → Prop} {F : Fa} {s : Sc} {t : Nat} {x : Int32} (hF : okF F) (h : RC 28 M F s) (ht : t < fM F) (hQ : ∀ M1, RC 28 M1 F (tunS F (bitW x) s t) → FrC 28 M M1 → M1 28 13 = M 28 13 + (tunD F (bitW x) s t) → Q (.inl none) (lm_T M1 v G)) : lm_Q X (d + 1) 72 [.ref 28, .int x, .int (nI t)] (lm_T M v G) Q := by
  have hn := hF.n
  have hm := hF.m
  show lm_G X (d + 1) 72 106 0 0 0 [some (.ref 28), some (.int x), some (.int (nI t)), none, none, none] [] (lm_T M v G) Q
  refine lm_G_sg 4 (pc' := 6) (L' := [some (.ref 28), some (.int x), some (.int (nI t)), none, none, none]) (S' := [.int (M 36 (nI t).toNatClampNeg)]) (σ' := lm_T M v G) rfl ⟨(vp_in_nI (by omega) (by omega)), trivial, trivial⟩ ?_
  rw [show (nI t).toNatClampNeg = t from nI_clamp (by omega)]
  rw [show M 36 t = humS F (sHu s) (nI t) from h.hs t (by omega)]
  refine lm_G_sg 7 (pc' := 15) (L' := [some (.ref 28), some (.int x), some (.int (nI t)), some (.int ((humS F (sHu s) (nI t)) &&& x)), some (.int (-1)), some (.int 0)]) (S' := []) (σ' := lm_T M v G) rfl trivial ?_
  refine lm_ind (α := (Nat → Fn)) (St := fun (q : Nat) zz => (fun (M1 : Nat → Fn) => lm_G X (d + 1) 72 106 0 0 15 [some (.ref 28), some (.int x), some (.int (nI t)), some (.int (humS F (sHu s) (nI t) &&& x)), some (.int (lstS (bitW x) s (nI t) q)), some (.int (nI q))] [] (lm_T M1 v G) Q) zz) (Inv := fun (q : Nat) zz => (fun (M1 : Nat → Fn) => RC 28 M1 F (stpS (bitW x) s (nI t) q) ∧ FrC 28 M M1 ∧ M1 28 13 = M 28 13) zz) (fN F) (fun q zz hj hI ih => ?_) (fun zz hI => ?_) (0) M (by omega) ?_
  ·
    revert ih hI
    revert zz
    intro M1 hI ih
    replace hI : RC 28 M1 F (stpS (bitW x) s (nI t) q) ∧ FrC 28 M M1 ∧ M1 28 13 = M 28 13 := hI
    replace ih : ∀ (M1 : Nat → Fn) (_ : RC 28 M1 F (stpS (bitW x) s (nI t) (q + 1)) ∧ FrC 28 M M1 ∧ M1 28 13 = M 28 13), lm_G X (d + 1) 72 106 0 0 15 [some (.ref 28), some (.int x), some (.int (nI t)), some (.int (humS F (sHu s) (nI t) &&& x)), some (.int (lstS (bitW x) s (nI t) (q + 1))), some (.int (nI (q + 1)))] [] (lm_T M1 v G) Q := fun M1 q => ih M1 q
    show lm_G X (d + 1) 72 106 0 0 15 [some (.ref 28), some (.int x), some (.int (nI t)), some (.int (humS F (sHu s) (nI t) &&& x)), some (.int (lstS (bitW x) s (nI t) q)), some (.int (nI q))] [] (lm_T M1 v G) Q
    obtain ⟨h1, f1, t1⟩ := hI
    have eb : bitW (humS F (sHu s) (nI t) &&& x) q = (decide (sHu s q = nI t) && bitW x q) := by rw [bitW_and _ _ (by omega), hum_w hF hj]
    refine lm_G_sg 4 (pc' := 24) (L' := [some (.ref 28), some (.int x), some (.int (nI t)), some (.int (humS F (sHu s) (nI t) &&& x)), some (.int (lstS (bitW x) s (nI t) q)), some (.int (nI q))]) (S' := [.int (M1 14 0), .int (nI q)]) (σ' := lm_T M1 v G) rfl trivial ?_
    rw [show M1 14 0 = nI (fN F) from h1.n]
    refine lm_G_br (b := (nI (fN F)) ≤ (nI q)) (t := 53) (S' := []) rfl (fun hc => absurd hc (nI_ge hj (by omega))) (fun hc => ?_)
    refine lm_G_sg 6 (pc' := 34) (L' := [some (.ref 28), some (.int x), some (.int (nI t)), some (.int (humS F (sHu s) (nI t) &&& x)), some (.int (lstS (bitW x) s (nI t) q)), some (.int (nI q))]) (S' := [.int 1, .int (((humS F (sHu s) (nI t) &&& x) >>> ((nI q) &&& 31)) &&& 1)]) (σ' := lm_T M1 v G) rfl trivial ?_
    refine lm_G_br (b := ¬ (((humS F (sHu s) (nI t) &&& x) >>> ((nI q) &&& 31)) &&& 1) = 1) (t := 47) (S' := []) rfl (fun h3 => ?_) (fun h3 => ?_)
    ·
      refine lm_G_sg 1 (pc' := 50) (L' := [some (.ref 28), some (.int x), some (.int (nI t)), some (.int (humS F (sHu s) (nI t) &&& x)), some (.int (lstS (bitW x) s (nI t) q)), some (.int ((nI q) + 1))]) (S' := []) (σ' := lm_T M1 v G) rfl trivial ?_
      rw [nI_1]
      refine lm_G_sg 1 (pc' := 15) (L' := [some (.ref 28), some (.int x), some (.int (nI t)), some (.int (humS F (sHu s) (nI t) &&& x)), some (.int (lstS (bitW x) s (nI t) q)), some (.int (nI (q + 1)))]) (S' := []) (σ' := lm_T M1 v G) rfl trivial ?_
      have e3 : bitW (humS F (sHu s) (nI t) &&& x) q = false := decide_eq_false h3
      rw [eb] at e3
      have e4 : lstS (bitW x) s (nI t) (q + 1) = lstS (bitW x) s (nI t) q := by simp only [lstS]; rw [e3]; rfl
      have e5 : stpS (bitW x) s (nI t) (q + 1) = (stpS (bitW x) s (nI t) q) := by simp only [stpS]; rw [e3]; rfl
      rw [e4, e5] at ih
      exact ih _ (⟨h1, f1, t1⟩)
    ·
      have e3 : bitW (humS F (sHu s) (nI t) &&& x) q = true := decide_eq_true (Classical.not_not.mp h3)
      rw [eb] at e3
      have e6 : sHu (stpS (bitW x) s (nI t) q) q = nI t := by
        rw [stp_hu, if_neg (by omega)]
        simp only [Bool.and_eq_true, decide_eq_true_eq] at e3
        exact e3.1
      refine lm_G_sg 2 (pc' := 40) (L' := [some (.ref 28), some (.int x), some (.int (nI t)), some (.int (humS F (sHu s) (nI t) &&& x)), some (.int (lstS (bitW x) s (nI t) q)), some (.int (nI q))]) (S' := [.int (nI q), .ref 28]) (σ' := lm_T M1 v G) rfl trivial ?_
      refine lm_G_ca (j := 66) (as := [.ref 28, .int (nI q)]) (rest := []) rfl (Or.inl rfl) (Nat.le_of_ble_eq_true rfl) (Nat.le_of_ble_eq_true rfl) (Nat.le_of_ble_eq_true rfl) (Nat.le_of_ble_eq_true rfl) rfl ?_
      refine c_stop28 hF h1 hj ht e6 ?_
      show lm_G X (d + 1) 72 106 0 0 43 [some (.ref 28), some (.int x), some (.int (nI t)), some (.int (humS F (sHu s) (nI t) &&& x)), some (.int (lstS (bitW x) s (nI t) q)), some (.int (nI q))] [] (lm_T (lm_wr (lm_wr (lm_wr (lm_wr M1 36 t (humS F (sHu (stpS (bitW x) s (nI t) q)) (nI t) &&& (bit1 (nI q) ^^^ (-1)))) 32 q (-1)) 33 q 0) 34 q 0) v G) Q
      refine lm_G_sg 3 (pc' := 50) (L' := [some (.ref 28), some (.int x), some (.int (nI t)), some (.int (humS F (sHu s) (nI t) &&& x)), some (.int (nI q)), some (.int ((nI q) + 1))]) (S' := []) (σ' := lm_T (lm_wr (lm_wr (lm_wr (lm_wr M1 36 t (humS F (sHu (stpS (bitW x) s (nI t) q)) (nI t) &&& (bit1 (nI q) ^^^ (-1)))) 32 q (-1)) 33 q 0) 34 q 0) v G) rfl trivial ?_
      rw [nI_1]
      refine lm_G_sg 1 (pc' := 15) (L' := [some (.ref 28), some (.int x), some (.int (nI t)), some (.int (humS F (sHu s) (nI t) &&& x)), some (.int (nI q)), some (.int (nI (q + 1)))]) (S' := []) (σ' := lm_T (lm_wr (lm_wr (lm_wr (lm_wr M1 36 t (humS F (sHu (stpS (bitW x) s (nI t) q)) (nI t) &&& (bit1 (nI q) ^^^ (-1)))) 32 q (-1)) 33 q 0) 34 q 0) v G) rfl trivial ?_
      have e4 : lstS (bitW x) s (nI t) (q + 1) = nI q := by simp only [lstS]; rw [if_pos e3]
      have e5 : stpS (bitW x) s (nI t) (q + 1) = silS (stpS (bitW x) s (nI t) q) q := by simp only [stpS]; rw [if_pos e3]
      rw [e4, e5] at ih
      exact ih _ (⟨RC_sil28 hF h1 hj ht e6, FrC_wr (FrC_wr (FrC_wr (FrC_wr f1 rfl (by decide)) rfl (by decide)) rfl (by decide)) rfl (by decide), t1⟩)
  ·
    revert hI
    revert zz
    intro M1 hI
    replace hI : RC 28 M1 F (stpS (bitW x) s (nI t) (fN F)) ∧ FrC 28 M M1 ∧ M1 28 13 = M 28 13 := hI
    show lm_G X (d + 1) 72 106 0 0 15 [some (.ref 28), some (.int x), some (.int (nI t)), some (.int (humS F (sHu s) (nI t) &&& x)), some (.int (lstS (bitW x) s (nI t) (fN F))), some (.int (nI (fN F)))] [] (lm_T M1 v G) Q
    obtain ⟨h1, f1, t1⟩ := hI
    refine lm_G_sg 4 (pc' := 24) (L' := [some (.ref 28), some (.int x), some (.int (nI t)), some (.int (humS F (sHu s) (nI t) &&& x)), some (.int (lstS (bitW x) s (nI t) (fN F))), some (.int (nI (fN F)))]) (S' := [.int (M1 14 0), .int (nI (fN F))]) (σ' := lm_T M1 v G) rfl trivial ?_
    rw [show M1 14 0 = nI (fN F) from h1.n]
    refine lm_G_br (b := (nI (fN F)) ≤ (nI (fN F))) (t := 53) (S' := []) rfl (fun hc => ?_) (fun hc => absurd (nI_le (Nat.le_refl _) (by omega)) hc)
    refine lm_G_sg 1 (pc' := 54) (L' := [some (.ref 28), some (.int x), some (.int (nI t)), some (.int (humS F (sHu s) (nI t) &&& x)), some (.int (lstS (bitW x) s (nI t) (fN F))), some (.int (nI (fN F)))]) (S' := [.int (humS F (sHu s) (nI t) &&& x)]) (σ' := lm_T M1 v G) rfl trivial ?_
    refine lm_G_br (b := (humS F (sHu s) (nI t) &&& x) = 0) (t := 85) (S' := []) rfl (fun hz => ?_) (fun hz => ?_)
    ·
      obtain ⟨z1, z2⟩ := fall_z hF hz
      rw [show tunS F (bitW x) s t = (stpS (bitW x) s (nI t) (fN F)) from by unfold tunS; rw [z1]; rfl, show tunD F (bitW x) s t = 0 from by unfold tunD; rw [z1]; rfl] at hQ
      exact lm_G_re rfl trivial (Nat.zero_le _) (Nat.zero_le _) (hQ _ h1 f1 (by rw [t1]; simp))
    ·
      refine lm_G_sg 4 (pc' := 63) (L' := [some (.ref 28), some (.int x), some (.int (nI t)), some (.int (humS F (sHu s) (nI t) &&& x)), some (.int (lstS (bitW x) s (nI t) (fN F))), some (.int (nI (fN F)))]) (S' := [.int (M1 36 (nI t).toNatClampNeg)]) (σ' := lm_T M1 v G) rfl ⟨(vp_in_nI (by omega) (by omega)), trivial, trivial⟩ ?_
      rw [show (nI t).toNatClampNeg = t from nI_clamp (by omega)]
      rw [show M1 36 t = humS F (sHu (stpS (bitW x) s (nI t) (fN F))) (nI t) from h1.hs t (by omega)]
      refine lm_G_br (b := ¬ (humS F (sHu (stpS (bitW x) s (nI t) (fN F))) (nI t)) = 0) (t := 85) (S' := []) rfl (fun h3 => ?_) (fun h3 => ?_)
      ·
        have z1 : fallS F (bitW x) s (nI t) = false := by unfold fallS; rw [decide_eq_false h3]; simp
        rw [show tunS F (bitW x) s t = (stpS (bitW x) s (nI t) (fN F)) from by unfold tunS; rw [z1]; rfl, show tunD F (bitW x) s t = 0 from by unfold tunD; rw [z1]; rfl] at hQ
        exact lm_G_re rfl trivial (Nat.zero_le _) (Nat.zero_le _) (hQ _ h1 f1 (by rw [t1]; simp))
      ·
        have ha := fall_all hF (nI_m1 (by omega)) (Classical.not_not.mp h3)
        have z0 : humS F (sHu s) (nI t) ≠ 0 := fun w => hz (by rw [w]; simp)
        have z1 : fallS F (bitW x) s (nI t) = true := by unfold fallS; rw [decide_eq_true z0, decide_eq_true (Classical.not_not.mp h3)]; rfl
        rw [ha]
        show lm_G X (d + 1) 72 106 0 0 66 [some (.ref 28), some (.int x), some (.int (nI t)), some (.int (humS F (sHu s) (nI t))), some (.int (lstS (bitW x) s (nI t) (fN F))), some (.int (nI (fN F)))] [] (lm_T M1 v G) Q
        refine lm_G_sg 3 (pc' := 69) (L' := [some (.ref 28), some (.int x), some (.int (nI t)), some (.int (humS F (sHu s) (nI t))), some (.int (lstS (bitW x) s (nI t) (fN F))), some (.int (nI (fN F)))]) (S' := [.int (humS F (sHu s) (nI t)), .int (nI t), .ref 28]) (σ' := lm_T M1 v G) rfl trivial ?_
        refine lm_G_ca (j := 244) (as := [.int (humS F (sHu s) (nI t))]) (rest := [.int (nI t), .ref 28]) rfl (Or.inl rfl) (Nat.le_of_ble_eq_true rfl) (Nat.le_of_ble_eq_true rfl) (Nat.le_of_ble_eq_true rfl) (Nat.le_of_ble_eq_true rfl) rfl ?_
        refine c_bits (hum_lt hF _ _) ?_
        show lm_G X (d + 1) 72 106 0 0 72 [some (.ref 28), some (.int x), some (.int (nI t)), some (.int (humS F (sHu s) (nI t))), some (.int (lstS (bitW x) s (nI t) (fN F))), some (.int (nI (fN F)))] [.int (cnt (humS F (sHu s) (nI t))), .int (nI t), .ref 28] (lm_T M1 v G) Q
        refine lm_G_sg 1 (pc' := 73) (L' := [some (.ref 28), some (.int x), some (.int (nI t)), some (.int (humS F (sHu s) (nI t))), some (.int (lstS (bitW x) s (nI t) (fN F))), some (.int (nI (fN F)))]) (S' := [.int 1, .int (cnt (humS F (sHu s) (nI t))), .int (nI t), .ref 28]) (σ' := lm_T M1 v G) rfl trivial ?_
        refine lm_G_br (b := ¬ (cnt (humS F (sHu s) (nI t))) = 1) (t := 81) (S' := [.int (nI t), .ref 28]) rfl (fun h4 => ?_) (fun h4 => ?_)
        ·
          have en : newS F (bitW x) s (nI t) = -1 := by unfold newS; rw [if_neg h4]
          refine lm_G_sg 1 (pc' := 82) (L' := [some (.ref 28), some (.int x), some (.int (nI t)), some (.int (humS F (sHu s) (nI t))), some (.int (lstS (bitW x) s (nI t) (fN F))), some (.int (nI (fN F)))]) (S' := [.int (-1), .int (nI t), .ref 28]) (σ' := lm_T M1 v G) rfl trivial ?_
          rw [← en]
          refine lm_G_ca (j := 65) (as := [.ref 28, .int (nI t), .int (newS F (bitW x) s (nI t))]) (rest := []) rfl (Or.inl rfl) (Nat.le_of_ble_eq_true rfl) (Nat.le_of_ble_eq_true rfl) (Nat.le_of_ble_eq_true rfl) (Nat.le_of_ble_eq_true rfl) rfl ?_
          refine c_giveTo28 hF h1 ht (fun M2 h2 f2 t2 => ?_)
          show lm_G X (d + 1) 72 106 0 0 85 [some (.ref 28), some (.int x), some (.int (nI t)), some (.int (humS F (sHu s) (nI t))), some (.int (lstS (bitW x) s (nI t) (fN F))), some (.int (nI (fN F)))] [] (lm_T M2 v G) Q
          rw [(stp_ow (fN F)).1] at t2
          rw [show tunS F (bitW x) s t = ownT (stpS (bitW x) s (nI t) (fN F)) t (newS F (bitW x) s (nI t)) from by unfold tunS; rw [z1]; rfl] at hQ
          exact lm_G_re rfl trivial (Nat.zero_le _) (Nat.zero_le _) (hQ _ h2 (FrC_tr f1 f2) (by rw [t2, t1]; unfold tunD; rw [z1]; by_cases w : sOw s t = newS F (bitW x) s (nI t) <;> simp [w]))
        ·
          have en : newS F (bitW x) s (nI t) = lstS (bitW x) s (nI t) (fN F) := by unfold newS; rw [if_pos (Classical.not_not.mp h4)]
          refine lm_G_sg 2 (pc' := 82) (L' := [some (.ref 28), some (.int x), some (.int (nI t)), some (.int (humS F (sHu s) (nI t))), some (.int (lstS (bitW x) s (nI t) (fN F))), some (.int (nI (fN F)))]) (S' := [.int (lstS (bitW x) s (nI t) (fN F)), .int (nI t), .ref 28]) (σ' := lm_T M1 v G) rfl trivial ?_
          rw [← en]
          refine lm_G_ca (j := 65) (as := [.ref 28, .int (nI t), .int (newS F (bitW x) s (nI t))]) (rest := []) rfl (Or.inl rfl) (Nat.le_of_ble_eq_true rfl) (Nat.le_of_ble_eq_true rfl) (Nat.le_of_ble_eq_true rfl) (Nat.le_of_ble_eq_true rfl) rfl ?_
          refine c_giveTo28 hF h1 ht (fun M2 h2 f2 t2 => ?_)
          show lm_G X (d + 1) 72 106 0 0 85 [some (.ref 28), some (.int x), some (.int (nI t)), some (.int (humS F (sHu s) (nI t))), some (.int (newS F (bitW x) s (nI t))), some (.int (nI (fN F)))] [] (lm_T M2 v G) Q
          rw [(stp_ow (fN F)).1] at t2
          rw [show tunS F (bitW x) s t = ownT (stpS (bitW x) s (nI t) (fN F)) t (newS F (bitW x) s (nI t)) from by unfold tunS; rw [z1]; rfl] at hQ
          exact lm_G_re rfl trivial (Nat.zero_le _) (Nat.zero_le _) (hQ _ h2 (FrC_tr f1 f2) (by rw [t2, t1]; unfold tunD; rw [z1]; by_cases w : sOw s t = newS F (bitW x) s (nI t) <;> simp [w]))
  ·
    try dsimp only
    exact ⟨h, FrC_rf _ _, rfl⟩
set_option maxRecDepth 10000 in
theorem c_quiet28 {X : lm_X} {d v : Nat} {M : Nat → Nat → Int32} {G : Nat → Nat → Int64} {Q : lm_O → lm_S → Prop} {F : Fa} {s : Sc} {p : Nat} (hF : okF F) (h : RC 28 M F s) (hs : okS F s) (hp : p < fN F) (hQ : ∀ M1, RC 28 M1 F (allS F (bitW (bit1 (nI p))) s (fM F)) → FrC 28 M M1 → M1 28 13 = M 28 13 + (allD F (bitW (bit1 (nI p))) s (fM F)) → Q (.inl none) (lm_T M1 v G)) : lm_Q X (d + 2) 68 [.ref 28, .int (nI p)] (lm_T M v G) Q := by
  have hn := hF.n
  have hm := hF.m
  show lm_G X (d + 2) 68 106 0 0 0 [some (.ref 28), some (.int (nI p)), none] [] (lm_T M v G) Q
  refine lm_G_sg 4 (pc' := 6) (L' := [some (.ref 28), some (.int (nI p)), none]) (S' := [.int (M 32 (nI p).toNatClampNeg)]) (σ' := lm_T M v G) rfl ⟨(vp_in_nI (by omega) (by omega)), trivial, trivial⟩ ?_
  rw [show (nI p).toNatClampNeg = p from nI_clamp (by omega)]
  rw [show M 32 p = sHu s p from h.hu p (by omega)]
  refine lm_G_sg 3 (pc' := 9) (L' := [some (.ref 28), some (.int (nI p)), some (.int (sHu s p))]) (S' := [.int (-1), .int (sHu s p)]) (σ' := lm_T M v G) rfl trivial ?_
  refine lm_G_br (b := (sHu s p) = (-1)) (t := 20) (S' := []) rfl (fun hc => ?_) (fun hc => ?_)
  ·
    obtain ⟨z1, z2⟩ := all_none (F := F) (W := (bitW (bit1 (nI p)))) (s := s) (fun q hq hw => by rw [one_w (by omega) (by omega), decide_eq_true_eq] at hw; rw [hw]; exact hc) hm (fM F) (Nat.le_refl _)
    rw [z1, z2] at hQ
    exact lm_G_re rfl trivial (Nat.zero_le _) (Nat.zero_le _) (hQ _ h (FrC_rf _ _) (by simp))
  ·
    obtain ⟨t, ht, et⟩ := (hs.1 p hp).resolve_left hc
    rw [et]
    show lm_G X (d + 2) 68 106 0 0 12 [some (.ref 28), some (.int (nI p)), some (.int (nI t))] [] (lm_T M v G) Q
    refine lm_G_sg 5 (pc' := 17) (L' := [some (.ref 28), some (.int (nI p)), some (.int (nI t))]) (S' := [.int (nI t), .int (1 <<< ((nI p) &&& 31)), .ref 28]) (σ' := lm_T M v G) rfl trivial ?_
    show lm_G X (d + 2) 68 106 0 0 17 [some (.ref 28), some (.int (nI p)), some (.int (nI t))] [.int (nI t), .int (1 <<< ((nI p) &&& 31)), .ref 28] (lm_T M v G) Q
    obtain ⟨z1, z2⟩ := all_one hF (W := (bitW (bit1 (nI p)))) (s := s) ht (fun q hq hw => by rw [one_w (by omega) (by omega), decide_eq_true_eq] at hw; rw [hw]; exact et) (fM F) (Nat.le_refl _)
    rw [z1, z2, if_pos ht, if_pos ht] at hQ
    refine lm_G_ca (j := 72) (as := [.ref 28, .int (1 <<< ((nI p) &&& 31)), .int (nI t)]) (rest := []) rfl (Or.inl rfl) (Nat.le_of_ble_eq_true rfl) (Nat.le_of_ble_eq_true rfl) (Nat.le_of_ble_eq_true rfl) (Nat.le_of_ble_eq_true rfl) rfl ?_
    refine c_stopT28 hF h ht (fun M1 h1 f1 t1 => ?_)
    show lm_G X (d + 2) 68 106 0 0 20 [some (.ref 28), some (.int (nI p)), some (.int (nI t))] [] (lm_T M1 v G) Q
    exact lm_G_re rfl trivial (Nat.zero_le _) (Nat.zero_le _) (hQ _ h1 f1 t1)
set_option maxRecDepth 10000 in
theorem c_quietT28 {X : lm_X} {d v : Nat} {M : Nat → Nat → Int32} {G : Nat → Nat → Int64} {Q : lm_O → lm_S → Prop} {F : Fa} {s : Sc} {t : Nat} (hF : okF F) (h : RC 28 M F s) (ht : t < fM F) (hQ : ∀ M1, RC 28 M1 F (tunS F (bitW (humS F (sHu s) (nI t))) s t) → FrC 28 M M1 → M1 28 13 = M 28 13 + (tunD F (bitW (humS F (sHu s) (nI t))) s t) → Q (.inl none) (lm_T M1 v G)) : lm_Q X (d + 2) 69 [.ref 28, .int (nI t)] (lm_T M v G) Q := by
  have hn := hF.n
  have hm := hF.m
  show lm_G X (d + 2) 69 106 0 0 0 [some (.ref 28), some (.int (nI t))] [] (lm_T M v G) Q
  refine lm_G_sg 5 (pc' := 7) (L' := [some (.ref 28), some (.int (nI t))]) (S' := [.int (M 36 (nI t).toNatClampNeg), .ref 28]) (σ' := lm_T M v G) rfl ⟨(vp_in_nI (by omega) (by omega)), trivial, trivial⟩ ?_
  rw [show (nI t).toNatClampNeg = t from nI_clamp (by omega)]
  rw [show M 36 t = humS F (sHu s) (nI t) from h.hs t (by omega)]
  refine lm_G_sg 1 (pc' := 8) (L' := [some (.ref 28), some (.int (nI t))]) (S' := [.int (nI t), .int (humS F (sHu s) (nI t)), .ref 28]) (σ' := lm_T M v G) rfl trivial ?_
  refine lm_G_ca (j := 72) (as := [.ref 28, .int (humS F (sHu s) (nI t)), .int (nI t)]) (rest := []) rfl (Or.inl rfl) (Nat.le_of_ble_eq_true rfl) (Nat.le_of_ble_eq_true rfl) (Nat.le_of_ble_eq_true rfl) (Nat.le_of_ble_eq_true rfl) rfl ?_
  refine c_stopT28 hF h ht (fun M1 h1 f1 t1 => ?_)
  show lm_G X (d + 2) 69 106 0 0 11 [some (.ref 28), some (.int (nI t))] [] (lm_T M1 v G) Q
  exact lm_G_re rfl trivial (Nat.zero_le _) (Nat.zero_le _) (hQ _ h1 f1 t1)
set_option maxRecDepth 10000 in
theorem c_clap28 {X : lm_X} {d v : Nat} {M : Nat → Nat → Int32} {G : Nat → Nat → Int64} {Q : lm_O → lm_S → Prop} {F : Fa} {s : Sc} (hF : okF F) (h : RC 28 M F s) (hQ : ∀ M1, RC 28 M1 F (allS F (fun _ => true) s (fM F)) → FrC 28 M M1 → M1 28 13 = M 28 13 + (allD F (fun _ => true) s (fM F)) → Q (.inl none) (lm_T M1 v G)) : lm_Q X (d + 3) 70 [.ref 28] (lm_T M v G) Q := by
  have hn := hF.n
  have hm := hF.m
  show lm_G X (d + 3) 70 106 0 0 0 [some (.ref 28), none] [] (lm_T M v G) Q
  refine lm_G_sg 2 (pc' := 2) (L' := [some (.ref 28), some (.int 0)]) (S' := []) (σ' := lm_T M v G) rfl trivial ?_
  refine lm_ind (α := (Nat → Fn)) (St := fun (j : Nat) zz => (fun (M1 : Nat → Fn) => lm_G X (d + 3) 70 106 0 0 2 [some (.ref 28), some (.int (nI j))] [] (lm_T M1 v G) Q) zz) (Inv := fun (j : Nat) zz => (fun (M1 : Nat → Fn) => RC 28 M1 F (allS F (fun _ => true) s j) ∧ FrC 28 M M1 ∧ M1 28 13 = M 28 13 + allD F (fun _ => true) s j) zz) (fM F) (fun j zz hj hI ih => ?_) (fun zz hI => ?_) (0) M (by omega) ?_
  ·
    revert ih hI
    revert zz
    intro M1 hI ih
    replace hI : RC 28 M1 F (allS F (fun _ => true) s j) ∧ FrC 28 M M1 ∧ M1 28 13 = M 28 13 + allD F (fun _ => true) s j := hI
    replace ih : ∀ (M1 : Nat → Fn) (_ : RC 28 M1 F (allS F (fun _ => true) s (j + 1)) ∧ FrC 28 M M1 ∧ M1 28 13 = M 28 13 + allD F (fun _ => true) s (j + 1)), lm_G X (d + 3) 70 106 0 0 2 [some (.ref 28), some (.int (nI (j + 1)))] [] (lm_T M1 v G) Q := fun M1 q => ih M1 q
    show lm_G X (d + 3) 70 106 0 0 2 [some (.ref 28), some (.int (nI j))] [] (lm_T M1 v G) Q
    obtain ⟨h1, f1, t1⟩ := hI
    refine lm_G_sg 4 (pc' := 10) (L' := [some (.ref 28), some (.int (nI j))]) (S' := [.int (M1 14 6), .int (nI j)]) (σ' := lm_T M1 v G) rfl trivial ?_
    rw [show M1 14 6 = nI (fM F) from h1.m]
    refine lm_G_br (b := (nI (fM F)) ≤ (nI j)) (t := 24) (S' := []) rfl (fun hc => absurd hc (nI_ge hj (by omega))) (fun hc => ?_)
    refine lm_G_sg 2 (pc' := 15) (L' := [some (.ref 28), some (.int (nI j))]) (S' := [.int (nI j), .ref 28]) (σ' := lm_T M1 v G) rfl trivial ?_
    refine lm_G_ca (j := 69) (as := [.ref 28, .int (nI j)]) (rest := []) rfl (Or.inl rfl) (Nat.le_of_ble_eq_true rfl) (Nat.le_of_ble_eq_true rfl) (Nat.le_of_ble_eq_true rfl) (Nat.le_of_ble_eq_true rfl) rfl ?_
    refine c_quietT28 hF h1 hj (fun M2 h2 f2 t2 => ?_)
    show lm_G X (d + 3) 70 106 0 0 18 [some (.ref 28), some (.int (nI j))] [] (lm_T M2 v G) Q
    refine lm_G_sg 1 (pc' := 21) (L' := [some (.ref 28), some (.int ((nI j) + 1))]) (S' := []) (σ' := lm_T M2 v G) rfl trivial ?_
    rw [nI_1]
    refine lm_G_sg 1 (pc' := 2) (L' := [some (.ref 28), some (.int (nI (j + 1)))]) (S' := []) (σ' := lm_T M2 v G) rfl trivial ?_
    obtain ⟨z1, z2⟩ := tun_cg (F := F) (W := bitW (humS F (sHu (allS F (fun _ => true) s j)) (nI j))) (V := (fun _ => true)) (s := (allS F (fun _ => true) s j)) (t := j) (fun q hq hw => by rw [hum_w hF hq, hw]; simp)
    rw [z1] at h2
    rw [z2] at t2
    exact ih _ (⟨h2, FrC_tr f1 f2, by rw [t2, t1, Int32.add_assoc]; rfl⟩)
  ·
    revert hI
    revert zz
    intro M1 hI
    replace hI : RC 28 M1 F (allS F (fun _ => true) s (fM F)) ∧ FrC 28 M M1 ∧ M1 28 13 = M 28 13 + allD F (fun _ => true) s (fM F) := hI
    show lm_G X (d + 3) 70 106 0 0 2 [some (.ref 28), some (.int (nI (fM F)))] [] (lm_T M1 v G) Q
    obtain ⟨h1, f1, t1⟩ := hI
    refine lm_G_sg 4 (pc' := 10) (L' := [some (.ref 28), some (.int (nI (fM F)))]) (S' := [.int (M1 14 6), .int (nI (fM F))]) (σ' := lm_T M1 v G) rfl trivial ?_
    rw [show M1 14 6 = nI (fM F) from h1.m]
    refine lm_G_br (b := (nI (fM F)) ≤ (nI (fM F))) (t := 24) (S' := []) rfl (fun hc => ?_) (fun hc => absurd (nI_le (Nat.le_refl _) (by omega)) hc)
    exact lm_G_re rfl trivial (Nat.zero_le _) (Nat.zero_le _) (hQ _ h1 f1 t1)
  ·
    try dsimp only
    exact ⟨h, FrC_rf _ _, by simp [allD]⟩
set_option maxRecDepth 10000 in
theorem c_nearest28 {X : lm_X} {d v : Nat} {M : Nat → Nat → Int32} {G : Nat → Nat → Int64} {Q : lm_O → lm_S → Prop} {F : Fa} {s : Sc} {p t : Nat} (hF : okF F) (h : RC 28 M F s) (hp : p < fN F) (ht : t < fM F) (hQ : Q (.inl (some (.int (nearS F s p (nI t) 30 (fN F))))) (lm_T M v G)) : lm_Q X d 79 [.ref 28, .int (nI p), .int (nI t)] (lm_T M v G) Q := by
  have hn := hF.n
  have hm := hF.m
  show lm_G X d 79 106 0 0 0 [some (.ref 28), some (.int (nI p)), some (.int (nI t)), none, none] [] (lm_T M v G) Q
  refine lm_G_sg 4 (pc' := 6) (L' := [some (.ref 28), some (.int (nI p)), some (.int (nI t)), some (.int 30), some (.int 0)]) (S' := []) (σ' := lm_T M v G) rfl trivial ?_
  refine lm_ind (α := Unit) (St := fun (j : Nat) zz => lm_G X d 79 106 0 0 6 [some (.ref 28), some (.int (nI p)), some (.int (nI t)), some (.int (nearS F s p (nI t) 30 j)), some (.int (nI j))] [] (lm_T M v G) Q) (Inv := fun (j : Nat) zz => True) (fN F) (fun j zz hj hI ih => ?_) (fun zz hI => ?_) (0) () (by omega) ?_
  ·
    replace hI : True := hI
    replace ih : ∀ (_ : True), lm_G X d 79 106 0 0 6 [some (.ref 28), some (.int (nI p)), some (.int (nI t)), some (.int (nearS F s p (nI t) 30 (j + 1))), some (.int (nI (j + 1)))] [] (lm_T M v G) Q := fun q => ih () q
    show lm_G X d 79 106 0 0 6 [some (.ref 28), some (.int (nI p)), some (.int (nI t)), some (.int (nearS F s p (nI t) 30 j)), some (.int (nI j))] [] (lm_T M v G) Q
    have eb := hum_w (hu := sHu s) (t := nI t) hF hj
    refine lm_G_sg 4 (pc' := 15) (L' := [some (.ref 28), some (.int (nI p)), some (.int (nI t)), some (.int (nearS F s p (nI t) 30 j)), some (.int (nI j))]) (S' := [.int (M 14 0), .int (nI j)]) (σ' := lm_T M v G) rfl trivial ?_
    rw [show M 14 0 = nI (fN F) from h.n]
    refine lm_G_br (b := (nI (fN F)) ≤ (nI j)) (t := 61) (S' := []) rfl (fun hc => absurd hc (nI_ge hj (by omega))) (fun hc => ?_)
    refine lm_G_sg 4 (pc' := 24) (L' := [some (.ref 28), some (.int (nI p)), some (.int (nI t)), some (.int (nearS F s p (nI t) 30 j)), some (.int (nI j))]) (S' := [.int (M 36 (nI t).toNatClampNeg)]) (σ' := lm_T M v G) rfl ⟨(vp_in_nI (by omega) (by omega)), trivial, trivial⟩ ?_
    rw [show (nI t).toNatClampNeg = t from nI_clamp (by omega)]
    rw [show M 36 t = humS F (sHu s) (nI t) from h.hs t (by omega)]
    refine lm_G_sg 5 (pc' := 30) (L' := [some (.ref 28), some (.int (nI p)), some (.int (nI t)), some (.int (nearS F s p (nI t) 30 j)), some (.int (nI j))]) (S' := [.int 1, .int (((humS F (sHu s) (nI t)) >>> ((nI j) &&& 31)) &&& 1)]) (σ' := lm_T M v G) rfl trivial ?_
    refine lm_G_br (b := ¬ (((humS F (sHu s) (nI t)) >>> ((nI j) &&& 31)) &&& 1) = 1) (t := 55) (S' := []) rfl (fun h3 => ?_) (fun h3 => ?_)
    ·
      refine lm_G_sg 1 (pc' := 58) (L' := [some (.ref 28), some (.int (nI p)), some (.int (nI t)), some (.int (nearS F s p (nI t) 30 j)), some (.int ((nI j) + 1))]) (S' := []) (σ' := lm_T M v G) rfl trivial ?_
      rw [nI_1]
      refine lm_G_sg 1 (pc' := 6) (L' := [some (.ref 28), some (.int (nI p)), some (.int (nI t)), some (.int (nearS F s p (nI t) 30 j)), some (.int (nI (j + 1)))]) (S' := []) (σ' := lm_T M v G) rfl trivial ?_
      have ed : ¬ decide (sHu s j = nI t) = true := by rw [← eb]; unfold bitW; rw [decide_eq_false h3]; decide
      rw [show nearS F s p (nI t) 30 j = nearS F s p (nI t) 30 (j + 1) from by simp only [nearS]; rw [if_neg ed]]
      exact ih  trivial
    ·
      refine lm_G_sg 5 (pc' := 40) (L' := [some (.ref 28), some (.int (nI p)), some (.int (nI t)), some (.int (nearS F s p (nI t) 30 j)), some (.int (nI j))]) (S' := [.int (M 30 (nI p).toNatClampNeg), .int (nearS F s p (nI t) 30 j)]) (σ' := lm_T M v G) rfl ⟨(vp_in_nI (by omega) (by omega)), trivial, trivial⟩ ?_
      rw [show (nI p).toNatClampNeg = p from nI_clamp (by omega)]
      rw [show M 30 p = sPl s p from h.pl p (by omega)]
      refine lm_G_sg 4 (pc' := 47) (L' := [some (.ref 28), some (.int (nI p)), some (.int (nI t)), some (.int (nearS F s p (nI t) 30 j)), some (.int (nI j))]) (S' := [.int (M 30 (nI j).toNatClampNeg), .int (sPl s p), .int (nearS F s p (nI t) 30 j)]) (σ' := lm_T M v G) rfl ⟨(vp_in_nI (by omega) (by omega)), trivial, trivial⟩ ?_
      rw [show (nI j).toNatClampNeg = j from nI_clamp (by omega)]
      rw [show M 30 j = sPl s j from h.pl j (by omega)]
      refine lm_G_sg 5 (pc' := 58) (L' := [some (.ref 28), some (.int (nI p)), some (.int (nI t)), some (.int (if (absI ((sPl s p) - (sPl s j))) < (nearS F s p (nI t) 30 j) then (absI ((sPl s p) - (sPl s j))) else (nearS F s p (nI t) 30 j))), some (.int ((nI j) + 1))]) (S' := []) (σ' := lm_T M v G) rfl ⟨trivial, (Nat.le_of_ble_eq_true rfl), trivial, (Nat.le_of_ble_eq_true rfl), trivial⟩ ?_
      rw [nI_1]
      refine lm_G_sg 1 (pc' := 6) (L' := [some (.ref 28), some (.int (nI p)), some (.int (nI t)), some (.int (if (absI ((sPl s p) - (sPl s j))) < (nearS F s p (nI t) 30 j) then (absI ((sPl s p) - (sPl s j))) else (nearS F s p (nI t) 30 j))), some (.int (nI (j + 1)))]) (S' := []) (σ' := lm_T M v G) rfl trivial ?_
      have ed : decide (sHu s j = nI t) = true := by rw [← eb]; exact decide_eq_true (Classical.not_not.mp h3)
      rw [show (if (absI ((sPl s p) - (sPl s j))) < (nearS F s p (nI t) 30 j) then (absI ((sPl s p) - (sPl s j))) else (nearS F s p (nI t) 30 j)) = nearS F s p (nI t) 30 (j + 1) from by simp only [nearS]; rw [if_pos ed]]
      exact ih  trivial
  ·
    replace hI : True := hI
    show lm_G X d 79 106 0 0 6 [some (.ref 28), some (.int (nI p)), some (.int (nI t)), some (.int (nearS F s p (nI t) 30 (fN F))), some (.int (nI (fN F)))] [] (lm_T M v G) Q
    refine lm_G_sg 4 (pc' := 15) (L' := [some (.ref 28), some (.int (nI p)), some (.int (nI t)), some (.int (nearS F s p (nI t) 30 (fN F))), some (.int (nI (fN F)))]) (S' := [.int (M 14 0), .int (nI (fN F))]) (σ' := lm_T M v G) rfl trivial ?_
    rw [show M 14 0 = nI (fN F) from h.n]
    refine lm_G_br (b := (nI (fN F)) ≤ (nI (fN F))) (t := 61) (S' := []) rfl (fun hc => ?_) (fun hc => absurd (nI_le (Nat.le_refl _) (by omega)) hc)
    refine lm_G_sg 1 (pc' := 62) (L' := [some (.ref 28), some (.int (nI p)), some (.int (nI t)), some (.int (nearS F s p (nI t) 30 (fN F))), some (.int (nI (fN F)))]) (S' := [.int (nearS F s p (nI t) 30 (fN F))]) (σ' := lm_T M v G) rfl trivial ?_
    exact lm_G_re rfl trivial (Nat.zero_le _) (Nat.zero_le _) hQ
  ·
    trivial
set_option maxRecDepth 10000 in
theorem c_ruleGives0_28 {X : lm_X} {d v : Nat} {M : Nat → Nat → Int32} {G : Nat → Nat → Int64} {Q : lm_O → lm_S → Prop} {F : Fa} {s : Sc} {p t : Nat} {x : Int32} (hF : okF F) (h : RC 28 M F s) (hp : p < fN F) (ht : t < fM F) (hQ : ∀ M1, Fr frR M M1 → Q (.inl (some (.int (if fR0 F = [] then 0 else reckS (vsS F s p t x) (fR0 F))))) (lm_T M1 v G)) : lm_Q X (d + 2) 78 [.ref 28, .int 0, .int (nI p), .int (nI t), .int x] (lm_T M v G) Q := by
  have hn := hF.n
  have hm := hF.m
  show lm_G X (d + 2) 78 106 0 0 0 [some (.ref 28), some (.int 0), some (.int (nI p)), some (.int (nI t)), some (.int x)] [] (lm_T M v G) Q
  obtain ⟨a, a1, a2, a3, a4⟩ := h.r0
  refine lm_G_sg 3 (pc' := 5) (L' := [some (.ref 28), some (.int 0), some (.int (nI p)), some (.int (nI t)), some (.int x)]) (S' := [.int 0, .ref 14]) (σ' := lm_T M v G) rfl trivial ?_
  refine lm_G_ca (j := 13) (as := [.ref 14, .int 0]) (rest := []) rfl (Or.inl rfl) (Nat.le_of_ble_eq_true rfl) (Nat.le_of_ble_eq_true rfl) (Nat.le_of_ble_eq_true rfl) (Nat.le_of_ble_eq_true rfl) rfl ?_
  refine c_hasRule0 a1 a2 a3 ?_
  show lm_G X (d + 2) 78 106 0 0 8 [some (.ref 28), some (.int 0), some (.int (nI p)), some (.int (nI t)), some (.int x)] [.int (b2i (decide ((fR0 F).length ≠ 0)))] (lm_T M v G) Q
  refine lm_G_br (b := ¬ (b2i (decide ((fR0 F).length ≠ 0))) = 0) (t := 13) (S' := []) rfl (fun hc => ?_) (fun hc => ?_)
  ·
    have e0 : fR0 F ≠ [] := fun w => by have := b2i_1 hc; rw [w] at this; cases this
    rw [if_neg e0] at hQ
    refine lm_G_sg 8 (pc' := 27) (L' := [some (.ref 28), some (.int 0), some (.int (nI p)), some (.int (nI t)), some (.int x)]) (S' := [.int (M 29 (nI p).toNatClampNeg), .int 0, .ref 27]) (σ' := lm_T M v G) rfl ⟨(vp_in_nI (by omega) (by omega)), trivial, trivial⟩ ?_
    rw [show (nI p).toNatClampNeg = p from nI_clamp (by omega)]
    rw [show M 29 p = sBr s p from h.br p (by omega)]
    refine lm_G_sg 10 (pc' := 45) (L' := [some (.ref 28), some (.int 0), some (.int (nI p)), some (.int (nI t)), some (.int x)]) (S' := [.int ((lm_wr M 27 0 (sBr s p)) 20 (nI t).toNatClampNeg), .int 1, .ref 27]) (σ' := lm_T (lm_wr M 27 0 (sBr s p)) v G) rfl ⟨(lm_inb_ok rfl), trivial, (vp_in_nI (by omega) (by omega)), trivial, trivial⟩ ?_
    rw [show (nI t).toNatClampNeg = t from nI_clamp (by omega)]
    show lm_G X (d + 2) 78 106 0 0 45 [some (.ref 28), some (.int 0), some (.int (nI p)), some (.int (nI t)), some (.int x)] [.int (M 20 t), .int 1, .ref 27] (lm_T (lm_wr M 27 0 (sBr s p)) v G) Q
    rw [show M 20 t = fAi F t from h.ai t (by omega)]
    refine lm_G_sg 9 (pc' := 60) (L' := [some (.ref 28), some (.int 0), some (.int (nI p)), some (.int (nI t)), some (.int x)]) (S' := [.int ((lm_wr (lm_wr M 27 0 (sBr s p)) 27 1 (fAi F t)) 36 (nI t).toNatClampNeg), .int 2, .ref 27]) (σ' := lm_T (lm_wr (lm_wr M 27 0 (sBr s p)) 27 1 (fAi F t)) v G) rfl ⟨(lm_inb_ok rfl), trivial, (vp_in_nI (by omega) (by omega)), trivial, trivial⟩ ?_
    rw [show (nI t).toNatClampNeg = t from nI_clamp (by omega)]
    show lm_G X (d + 2) 78 106 0 0 60 [some (.ref 28), some (.int 0), some (.int (nI p)), some (.int (nI t)), some (.int x)] [.int (M 36 t), .int 2, .ref 27] (lm_T (lm_wr (lm_wr M 27 0 (sBr s p)) 27 1 (fAi F t)) v G) Q
    rw [show M 36 t = humS F (sHu s) (nI t) from h.hs t (by omega)]
    refine lm_G_sg 6 (pc' := 66) (L' := [some (.ref 28), some (.int 0), some (.int (nI p)), some (.int (nI t)), some (.int x)]) (S' := [.int ((humS F (sHu s) (nI t)) &&& ((1 <<< ((nI p) &&& 31)) ^^^ (-1))), .int 2, .ref 27]) (σ' := lm_T (lm_wr (lm_wr M 27 0 (sBr s p)) 27 1 (fAi F t)) v G) rfl trivial ?_
    show lm_G X (d + 2) 78 106 0 0 66 [some (.ref 28), some (.int 0), some (.int (nI p)), some (.int (nI t)), some (.int x)] [.int ((humS F (sHu s) (nI t)) &&& ((1 <<< ((nI p) &&& 31)) ^^^ (-1))), .int 2, .ref 27] (lm_T (lm_wr (lm_wr M 27 0 (sBr s p)) 27 1 (fAi F t)) v G) Q
    refine lm_G_ca (j := 244) (as := [.int ((humS F (sHu s) (nI t)) &&& ((1 <<< ((nI p) &&& 31)) ^^^ (-1)))]) (rest := [.int 2, .ref 27]) rfl (Or.inl rfl) (Nat.le_of_ble_eq_true rfl) (Nat.le_of_ble_eq_true rfl) (Nat.le_of_ble_eq_true rfl) (Nat.le_of_ble_eq_true rfl) rfl ?_
    refine c_bits (and_lt2 (hum_lt hF _ _) _) ?_
    show lm_G X (d + 2) 78 106 0 0 69 [some (.ref 28), some (.int 0), some (.int (nI p)), some (.int (nI t)), some (.int x)] [.int (cnt (humS F (sHu s) (nI t) &&& (bit1 (nI p) ^^^ (-1)))), .int 2, .ref 27] (lm_T (lm_wr (lm_wr M 27 0 (sBr s p)) 27 1 (fAi F t)) v G) Q
    refine lm_G_sg 7 (pc' := 80) (L' := [some (.ref 28), some (.int 0), some (.int (nI p)), some (.int (nI t)), some (.int x)]) (S' := [.int (nI p), .ref 28, .int 3, .ref 27]) (σ' := lm_T (lm_wr (lm_wr (lm_wr M 27 0 (sBr s p)) 27 1 (fAi F t)) 27 2 (cnt (humS F (sHu s) (nI t) &&& (bit1 (nI p) ^^^ (-1))))) v G) rfl ⟨(lm_inb_ok rfl), trivial, trivial⟩ ?_
    refine lm_G_ca (j := 61) (as := [.ref 28, .int (nI p)]) (rest := [.int 3, .ref 27]) rfl (Or.inl rfl) (Nat.le_of_ble_eq_true rfl) (Nat.le_of_ble_eq_true rfl) (Nat.le_of_ble_eq_true rfl) (Nat.le_of_ble_eq_true rfl) rfl ?_
    refine c_howMany28 hF (RC_R28 h (Fr_wr (Fr_wr (Fr_wr (Fr_rf _ _) rfl) rfl) rfl)) ?_
    show lm_G X (d + 2) 78 106 0 0 83 [some (.ref 28), some (.int 0), some (.int (nI p)), some (.int (nI t)), some (.int x)] [.int (cnt (ownS F (sOw s) (nI p))), .int 3, .ref 27] (lm_T (lm_wr (lm_wr (lm_wr M 27 0 (sBr s p)) 27 1 (fAi F t)) 27 2 (cnt (humS F (sHu s) (nI t) &&& (bit1 (nI p) ^^^ (-1))))) v G) Q
    refine lm_G_sg 7 (pc' := 96) (L' := [some (.ref 28), some (.int 0), some (.int (nI p)), some (.int (nI t)), some (.int x)]) (S' := [.int (M 28 2), .int 4, .ref 27]) (σ' := lm_T (lm_wr (lm_wr (lm_wr (lm_wr M 27 0 (sBr s p)) 27 1 (fAi F t)) 27 2 (cnt (humS F (sHu s) (nI t) &&& (bit1 (nI p) ^^^ (-1))))) 27 3 (cnt (ownS F (sOw s) (nI p)))) v G) rfl ⟨(lm_inb_ok rfl), trivial, trivial⟩ ?_
    rw [show M 28 2 = sHr s from h.hr]
    refine lm_G_sg 17 (pc' := 128) (L' := [some (.ref 28), some (.int 0), some (.int (nI p)), some (.int (nI t)), some (.int x)]) (S' := [.int (M 23 0), .ref 22, .ref 25]) (σ' := lm_T (lm_wr (lm_wr (lm_wr (lm_wr (lm_wr (lm_wr M 27 0 (sBr s p)) 27 1 (fAi F t)) 27 2 (cnt (humS F (sHu s) (nI t) &&& (bit1 (nI p) ^^^ (-1))))) 27 3 (cnt (ownS F (sOw s) (nI p)))) 27 4 (sHr s)) 27 5 x) v G) rfl ⟨(lm_inb_ok rfl), trivial, (lm_inb_ok rfl), trivial, (lm_inb_ok rfl), trivial, trivial⟩ ?_
    rw [show M 23 0 = nI a from a2]
    refine lm_G_sg 5 (pc' := 137) (L' := [some (.ref 28), some (.int 0), some (.int (nI p)), some (.int (nI t)), some (.int x)]) (S' := [.int (M 24 0), .int (nI a), .ref 22, .ref 25]) (σ' := lm_T (lm_wr (lm_wr (lm_wr (lm_wr (lm_wr (lm_wr M 27 0 (sBr s p)) 27 1 (fAi F t)) 27 2 (cnt (humS F (sHu s) (nI t) &&& (bit1 (nI p) ^^^ (-1))))) 27 3 (cnt (ownS F (sOw s) (nI p)))) 27 4 (sHr s)) 27 5 x) v G) rfl ⟨(lm_inb_ok rfl), trivial, trivial⟩ ?_
    rw [show M 24 0 = nI (a + (fR0 F).length) from a3]
    refine lm_G_ca (j := 48) (as := [.ref 25, .ref 22, .int (nI a), .int (nI (a + (fR0 F).length))]) (rest := []) rfl (Or.inl rfl) (Nat.le_of_ble_eq_true rfl) (Nat.le_of_ble_eq_true rfl) (Nat.le_of_ble_eq_true rfl) (Nat.le_of_ble_eq_true rfl) rfl ?_
    refine c_reckon (vs := vsS F s p t x) a1 ((hF.2.2.1).resolve_left e0) a4 (fun j hj => by rcases (by omega : j = 0 ∨ j = 1 ∨ j = 2 ∨ j = 3 ∨ j = 4 ∨ j = 5) with e | e | e | e | e | e <;> subst e <;> rfl) (fun M1 f1 => ?_)
    show lm_G X (d + 2) 78 106 0 0 140 [some (.ref 28), some (.int 0), some (.int (nI p)), some (.int (nI t)), some (.int x)] [.int (reckS (vsS F s p t x) (fR0 F))] (lm_T M1 v G) Q
    exact lm_G_re rfl trivial (Nat.zero_le _) (Nat.zero_le _) (hQ _ (Fr_tr (Fr_wr (Fr_wr (Fr_wr (Fr_wr (Fr_wr (Fr_wr (Fr_rf _ _) rfl) rfl) rfl) rfl) rfl) rfl) (Fr_SR f1)))
  ·
    have e0 : fR0 F = [] := by
      have := b2i_0 (Classical.not_not.mp hc)
      simpa using this
    rw [if_pos e0] at hQ
    refine lm_G_sg 1 (pc' := 12) (L' := [some (.ref 28), some (.int 0), some (.int (nI p)), some (.int (nI t)), some (.int x)]) (S' := [.int 0]) (σ' := lm_T M v G) rfl trivial ?_
    exact lm_G_re rfl trivial (Nat.zero_le _) (Nat.zero_le _) (hQ _ (Fr_rf _ _))
set_option maxRecDepth 10000 in
theorem c_ruleGives1_28 {X : lm_X} {d v : Nat} {M : Nat → Nat → Int32} {G : Nat → Nat → Int64} {Q : lm_O → lm_S → Prop} {F : Fa} {s : Sc} {p t : Nat} {x : Int32} (hF : okF F) (h : RC 28 M F s) (hp : p < fN F) (ht : t < fM F) (hQ : ∀ M1, Fr frR M M1 → Q (.inl (some (.int (if fR1 F = [] then 0 else reckS (vsS F s p t x) (fR1 F))))) (lm_T M1 v G)) : lm_Q X (d + 2) 78 [.ref 28, .int 1, .int (nI p), .int (nI t), .int x] (lm_T M v G) Q := by
  have hn := hF.n
  have hm := hF.m
  show lm_G X (d + 2) 78 106 0 0 0 [some (.ref 28), some (.int 1), some (.int (nI p)), some (.int (nI t)), some (.int x)] [] (lm_T M v G) Q
  obtain ⟨a, a1, a2, a3, a4⟩ := h.r1
  refine lm_G_sg 3 (pc' := 5) (L' := [some (.ref 28), some (.int 1), some (.int (nI p)), some (.int (nI t)), some (.int x)]) (S' := [.int 1, .ref 14]) (σ' := lm_T M v G) rfl trivial ?_
  refine lm_G_ca (j := 13) (as := [.ref 14, .int 1]) (rest := []) rfl (Or.inl rfl) (Nat.le_of_ble_eq_true rfl) (Nat.le_of_ble_eq_true rfl) (Nat.le_of_ble_eq_true rfl) (Nat.le_of_ble_eq_true rfl) rfl ?_
  refine c_hasRule1 a1 a2 a3 ?_
  show lm_G X (d + 2) 78 106 0 0 8 [some (.ref 28), some (.int 1), some (.int (nI p)), some (.int (nI t)), some (.int x)] [.int (b2i (decide ((fR1 F).length ≠ 0)))] (lm_T M v G) Q
  refine lm_G_br (b := ¬ (b2i (decide ((fR1 F).length ≠ 0))) = 0) (t := 13) (S' := []) rfl (fun hc => ?_) (fun hc => ?_)
  ·
    have e0 : fR1 F ≠ [] := fun w => by have := b2i_1 hc; rw [w] at this; cases this
    rw [if_neg e0] at hQ
    refine lm_G_sg 8 (pc' := 27) (L' := [some (.ref 28), some (.int 1), some (.int (nI p)), some (.int (nI t)), some (.int x)]) (S' := [.int (M 29 (nI p).toNatClampNeg), .int 0, .ref 27]) (σ' := lm_T M v G) rfl ⟨(vp_in_nI (by omega) (by omega)), trivial, trivial⟩ ?_
    rw [show (nI p).toNatClampNeg = p from nI_clamp (by omega)]
    rw [show M 29 p = sBr s p from h.br p (by omega)]
    refine lm_G_sg 10 (pc' := 45) (L' := [some (.ref 28), some (.int 1), some (.int (nI p)), some (.int (nI t)), some (.int x)]) (S' := [.int ((lm_wr M 27 0 (sBr s p)) 20 (nI t).toNatClampNeg), .int 1, .ref 27]) (σ' := lm_T (lm_wr M 27 0 (sBr s p)) v G) rfl ⟨(lm_inb_ok rfl), trivial, (vp_in_nI (by omega) (by omega)), trivial, trivial⟩ ?_
    rw [show (nI t).toNatClampNeg = t from nI_clamp (by omega)]
    show lm_G X (d + 2) 78 106 0 0 45 [some (.ref 28), some (.int 1), some (.int (nI p)), some (.int (nI t)), some (.int x)] [.int (M 20 t), .int 1, .ref 27] (lm_T (lm_wr M 27 0 (sBr s p)) v G) Q
    rw [show M 20 t = fAi F t from h.ai t (by omega)]
    refine lm_G_sg 9 (pc' := 60) (L' := [some (.ref 28), some (.int 1), some (.int (nI p)), some (.int (nI t)), some (.int x)]) (S' := [.int ((lm_wr (lm_wr M 27 0 (sBr s p)) 27 1 (fAi F t)) 36 (nI t).toNatClampNeg), .int 2, .ref 27]) (σ' := lm_T (lm_wr (lm_wr M 27 0 (sBr s p)) 27 1 (fAi F t)) v G) rfl ⟨(lm_inb_ok rfl), trivial, (vp_in_nI (by omega) (by omega)), trivial, trivial⟩ ?_
    rw [show (nI t).toNatClampNeg = t from nI_clamp (by omega)]
    show lm_G X (d + 2) 78 106 0 0 60 [some (.ref 28), some (.int 1), some (.int (nI p)), some (.int (nI t)), some (.int x)] [.int (M 36 t), .int 2, .ref 27] (lm_T (lm_wr (lm_wr M 27 0 (sBr s p)) 27 1 (fAi F t)) v G) Q
    rw [show M 36 t = humS F (sHu s) (nI t) from h.hs t (by omega)]
    refine lm_G_sg 6 (pc' := 66) (L' := [some (.ref 28), some (.int 1), some (.int (nI p)), some (.int (nI t)), some (.int x)]) (S' := [.int ((humS F (sHu s) (nI t)) &&& ((1 <<< ((nI p) &&& 31)) ^^^ (-1))), .int 2, .ref 27]) (σ' := lm_T (lm_wr (lm_wr M 27 0 (sBr s p)) 27 1 (fAi F t)) v G) rfl trivial ?_
    show lm_G X (d + 2) 78 106 0 0 66 [some (.ref 28), some (.int 1), some (.int (nI p)), some (.int (nI t)), some (.int x)] [.int ((humS F (sHu s) (nI t)) &&& ((1 <<< ((nI p) &&& 31)) ^^^ (-1))), .int 2, .ref 27] (lm_T (lm_wr (lm_wr M 27 0 (sBr s p)) 27 1 (fAi F t)) v G) Q
    refine lm_G_ca (j := 244) (as := [.int ((humS F (sHu s) (nI t)) &&& ((1 <<< ((nI p) &&& 31)) ^^^ (-1)))]) (rest := [.int 2, .ref 27]) rfl (Or.inl rfl) (Nat.le_of_ble_eq_true rfl) (Nat.le_of_ble_eq_true rfl) (Nat.le_of_ble_eq_true rfl) (Nat.le_of_ble_eq_true rfl) rfl ?_
    refine c_bits (and_lt2 (hum_lt hF _ _) _) ?_
    show lm_G X (d + 2) 78 106 0 0 69 [some (.ref 28), some (.int 1), some (.int (nI p)), some (.int (nI t)), some (.int x)] [.int (cnt (humS F (sHu s) (nI t) &&& (bit1 (nI p) ^^^ (-1)))), .int 2, .ref 27] (lm_T (lm_wr (lm_wr M 27 0 (sBr s p)) 27 1 (fAi F t)) v G) Q
    refine lm_G_sg 7 (pc' := 80) (L' := [some (.ref 28), some (.int 1), some (.int (nI p)), some (.int (nI t)), some (.int x)]) (S' := [.int (nI p), .ref 28, .int 3, .ref 27]) (σ' := lm_T (lm_wr (lm_wr (lm_wr M 27 0 (sBr s p)) 27 1 (fAi F t)) 27 2 (cnt (humS F (sHu s) (nI t) &&& (bit1 (nI p) ^^^ (-1))))) v G) rfl ⟨(lm_inb_ok rfl), trivial, trivial⟩ ?_
    refine lm_G_ca (j := 61) (as := [.ref 28, .int (nI p)]) (rest := [.int 3, .ref 27]) rfl (Or.inl rfl) (Nat.le_of_ble_eq_true rfl) (Nat.le_of_ble_eq_true rfl) (Nat.le_of_ble_eq_true rfl) (Nat.le_of_ble_eq_true rfl) rfl ?_
    refine c_howMany28 hF (RC_R28 h (Fr_wr (Fr_wr (Fr_wr (Fr_rf _ _) rfl) rfl) rfl)) ?_
    show lm_G X (d + 2) 78 106 0 0 83 [some (.ref 28), some (.int 1), some (.int (nI p)), some (.int (nI t)), some (.int x)] [.int (cnt (ownS F (sOw s) (nI p))), .int 3, .ref 27] (lm_T (lm_wr (lm_wr (lm_wr M 27 0 (sBr s p)) 27 1 (fAi F t)) 27 2 (cnt (humS F (sHu s) (nI t) &&& (bit1 (nI p) ^^^ (-1))))) v G) Q
    refine lm_G_sg 7 (pc' := 96) (L' := [some (.ref 28), some (.int 1), some (.int (nI p)), some (.int (nI t)), some (.int x)]) (S' := [.int (M 28 2), .int 4, .ref 27]) (σ' := lm_T (lm_wr (lm_wr (lm_wr (lm_wr M 27 0 (sBr s p)) 27 1 (fAi F t)) 27 2 (cnt (humS F (sHu s) (nI t) &&& (bit1 (nI p) ^^^ (-1))))) 27 3 (cnt (ownS F (sOw s) (nI p)))) v G) rfl ⟨(lm_inb_ok rfl), trivial, trivial⟩ ?_
    rw [show M 28 2 = sHr s from h.hr]
    refine lm_G_sg 17 (pc' := 128) (L' := [some (.ref 28), some (.int 1), some (.int (nI p)), some (.int (nI t)), some (.int x)]) (S' := [.int (M 23 1), .ref 22, .ref 25]) (σ' := lm_T (lm_wr (lm_wr (lm_wr (lm_wr (lm_wr (lm_wr M 27 0 (sBr s p)) 27 1 (fAi F t)) 27 2 (cnt (humS F (sHu s) (nI t) &&& (bit1 (nI p) ^^^ (-1))))) 27 3 (cnt (ownS F (sOw s) (nI p)))) 27 4 (sHr s)) 27 5 x) v G) rfl ⟨(lm_inb_ok rfl), trivial, (lm_inb_ok rfl), trivial, (lm_inb_ok rfl), trivial, trivial⟩ ?_
    rw [show M 23 1 = nI a from a2]
    refine lm_G_sg 5 (pc' := 137) (L' := [some (.ref 28), some (.int 1), some (.int (nI p)), some (.int (nI t)), some (.int x)]) (S' := [.int (M 24 1), .int (nI a), .ref 22, .ref 25]) (σ' := lm_T (lm_wr (lm_wr (lm_wr (lm_wr (lm_wr (lm_wr M 27 0 (sBr s p)) 27 1 (fAi F t)) 27 2 (cnt (humS F (sHu s) (nI t) &&& (bit1 (nI p) ^^^ (-1))))) 27 3 (cnt (ownS F (sOw s) (nI p)))) 27 4 (sHr s)) 27 5 x) v G) rfl ⟨(lm_inb_ok rfl), trivial, trivial⟩ ?_
    rw [show M 24 1 = nI (a + (fR1 F).length) from a3]
    refine lm_G_ca (j := 48) (as := [.ref 25, .ref 22, .int (nI a), .int (nI (a + (fR1 F).length))]) (rest := []) rfl (Or.inl rfl) (Nat.le_of_ble_eq_true rfl) (Nat.le_of_ble_eq_true rfl) (Nat.le_of_ble_eq_true rfl) (Nat.le_of_ble_eq_true rfl) rfl ?_
    refine c_reckon (vs := vsS F s p t x) a1 ((hF.2.2.2.1).resolve_left e0) a4 (fun j hj => by rcases (by omega : j = 0 ∨ j = 1 ∨ j = 2 ∨ j = 3 ∨ j = 4 ∨ j = 5) with e | e | e | e | e | e <;> subst e <;> rfl) (fun M1 f1 => ?_)
    show lm_G X (d + 2) 78 106 0 0 140 [some (.ref 28), some (.int 1), some (.int (nI p)), some (.int (nI t)), some (.int x)] [.int (reckS (vsS F s p t x) (fR1 F))] (lm_T M1 v G) Q
    exact lm_G_re rfl trivial (Nat.zero_le _) (Nat.zero_le _) (hQ _ (Fr_tr (Fr_wr (Fr_wr (Fr_wr (Fr_wr (Fr_wr (Fr_wr (Fr_rf _ _) rfl) rfl) rfl) rfl) rfl) rfl) (Fr_SR f1)))
  ·
    have e0 : fR1 F = [] := by
      have := b2i_0 (Classical.not_not.mp hc)
      simpa using this
    rw [if_pos e0] at hQ
    refine lm_G_sg 1 (pc' := 12) (L' := [some (.ref 28), some (.int 1), some (.int (nI p)), some (.int (nI t)), some (.int x)]) (S' := [.int 0]) (σ' := lm_T M v G) rfl trivial ?_
    exact lm_G_re rfl trivial (Nat.zero_le _) (Nat.zero_le _) (hQ _ (Fr_rf _ _))
set_option maxRecDepth 10000 in
theorem c_ask28 {X : lm_X} {d v : Nat} {M : Nat → Nat → Int32} {G : Nat → Nat → Int64} {Q : lm_O → lm_S → Prop} {F : Fa} {s : Sc} (hF : okF F) (h : RC 28 M F s) (hs : okS F s) (hQ : ∀ M1, Fr frR M M1 → Q (.inl (some (.int (msk (stopW F s) (fN F))))) (lm_T M1 v G)) : lm_Q X (d + 4) 75 [.ref 28] (lm_T M v G) Q := by
  have hn := hF.n
  have hm := hF.m
  show lm_G X (d + 4) 75 106 0 0 0 [some (.ref 28), none, none, none, none] [] (lm_T M v G) Q
  refine lm_G_sg 4 (pc' := 4) (L' := [some (.ref 28), some (.int 0), some (.int 0), none, none]) (S' := []) (σ' := lm_T M v G) rfl trivial ?_
  refine lm_ind (α := (Nat → Fn)) (St := fun (j : Nat) zz => (fun (M1 : Nat → Fn) => lm_G X (d + 4) 75 106 0 0 4 [some (.ref 28), some (.int (msk (stopW F s) j)), some (.int (nI j)), none, none] [] (lm_T M1 v G) Q) zz) (Inv := fun (j : Nat) zz => (fun (M1 : Nat → Fn) => Fr frR M M1) zz) (fN F) (fun j zz hj hI ih => ?_) (fun zz hI => ?_) (0) M (by omega) ?_
  ·
    revert ih hI
    revert zz
    intro M1 hI ih
    replace hI : Fr frR M M1 := hI
    replace ih : ∀ (M1 : Nat → Fn) (_ : Fr frR M M1), lm_G X (d + 4) 75 106 0 0 4 [some (.ref 28), some (.int (msk (stopW F s) (j + 1))), some (.int (nI (j + 1))), none, none] [] (lm_T M1 v G) Q := fun M1 q => ih M1 q
    show lm_G X (d + 4) 75 106 0 0 4 [some (.ref 28), some (.int (msk (stopW F s) j)), some (.int (nI j)), none, none] [] (lm_T M1 v G) Q
    have h1 := RC_R28 h hI
    refine lm_G_sg 4 (pc' := 12) (L' := [some (.ref 28), some (.int (msk (stopW F s) j)), some (.int (nI j)), none, none]) (S' := [.int (M1 14 0), .int (nI j)]) (σ' := lm_T M1 v G) rfl trivial ?_
    rw [show M1 14 0 = nI (fN F) from h1.n]
    refine lm_G_br (b := (nI (fN F)) ≤ (nI j)) (t := 82) (S' := []) rfl (fun hc => absurd hc (nI_ge hj (by omega))) (fun hc => ?_)
    refine lm_G_sg 4 (pc' := 21) (L' := [some (.ref 28), some (.int (msk (stopW F s) j)), some (.int (nI j)), none, none]) (S' := [.int (M1 32 (nI j).toNatClampNeg)]) (σ' := lm_T M1 v G) rfl ⟨(vp_in_nI (by omega) (by omega)), trivial, trivial⟩ ?_
    rw [show (nI j).toNatClampNeg = j from nI_clamp (by omega)]
    rw [show M1 32 j = sHu s j from h1.hu j (by omega)]
    refine lm_G_sg 5 (pc' := 28) (L' := [some (.ref 28), some (.int (msk (stopW F s) j)), some (.int (nI j)), some (.int (sHu s j)), none]) (S' := [.int (M1 33 (nI j).toNatClampNeg)]) (σ' := lm_T M1 v G) rfl ⟨(vp_in_nI (by omega) (by omega)), trivial, trivial⟩ ?_
    rw [show (nI j).toNatClampNeg = j from nI_clamp (by omega)]
    rw [show M1 33 j = sHd s j from h1.hd j (by omega)]
    refine lm_G_sg 4 (pc' := 34) (L' := [some (.ref 28), some (.int (msk (stopW F s) j)), some (.int (nI j)), some (.int (sHu s j)), none]) (S' := [.int (M1 29 (nI j).toNatClampNeg), .int (sHd s j)]) (σ' := lm_T M1 v G) rfl ⟨(vp_in_nI (by omega) (by omega)), trivial, trivial⟩ ?_
    rw [show (nI j).toNatClampNeg = j from nI_clamp (by omega)]
    rw [show M1 29 j = sBr s j from h1.br j (by omega)]
    refine lm_G_br (b := (sHd s j) < (sBr s j)) (t := 41) (S' := []) rfl (fun h3 => ?_) (fun h3 => ?_)
    ·
      refine lm_G_sg 4 (pc' := 46) (L' := [some (.ref 28), some (.int (msk (stopW F s) j)), some (.int (nI j)), some (.int (sHu s j)), some (.int 0)]) (S' := [.int (-1), .int (sHu s j)]) (σ' := lm_T M1 v G) rfl trivial ?_
      refine lm_G_br (b := (sHu s j) = (-1)) (t := 76) (S' := []) rfl (fun h4 => ?_) (fun h4 => ?_)
      ·
        refine lm_G_sg 1 (pc' := 79) (L' := [some (.ref 28), some (.int (msk (stopW F s) j)), some (.int ((nI j) + 1)), some (.int (sHu s j)), some (.int 0)]) (S' := []) (σ' := lm_T M1 v G) rfl trivial ?_
        rw [nI_1]
        refine lm_G_sg 1 (pc' := 4) (L' := [some (.ref 28), some (.int (msk (stopW F s) j)), some (.int (nI (j + 1))), some (.int (sHu s j)), some (.int 0)]) (S' := []) (σ' := lm_T M1 v G) rfl trivial ?_
        rw [← msk_f (f := (stopW F s)) (by unfold stopW; simp [h4])]
        refine lm_G_jk (L := [some (.ref 28), some (.int (msk (stopW F s) (j + 1))), some (.int (nI (j + 1))), none, none]) ⟨rfl, rfl, rfl, trivial⟩ ?_
        exact ih _ hI
      ·
        refine lm_G_sg 1 (pc' := 51) (L' := [some (.ref 28), some (.int (msk (stopW F s) j)), some (.int (nI j)), some (.int (sHu s j)), some (.int 0)]) (S' := [.int 0]) (σ' := lm_T M1 v G) rfl trivial ?_
        refine lm_G_br (b := ¬ 0 = 0) (t := 70) (S' := []) rfl (fun hc => absurd hc (by decide)) (fun hc => ?_)
        obtain ⟨t, ht, et⟩ := (hs.1 j hj).resolve_left h4
        rw [et]
        refine lm_G_sg 8 (pc' := 64) (L' := [some (.ref 28), some (.int (msk (stopW F s) j)), some (.int (nI j)), some (.int (nI t)), some (.int 0)]) (S' := [.int (M1 33 (nI j).toNatClampNeg), .int (nI t), .int (nI j), .int 0, .ref 28]) (σ' := lm_T M1 v G) rfl ⟨(vp_in_nI (by omega) (by omega)), trivial, trivial⟩ ?_
        rw [show (nI j).toNatClampNeg = j from nI_clamp (by omega)]
        rw [show M1 33 j = sHd s j from h1.hd j (by omega)]
        refine lm_G_ca (j := 78) (as := [.ref 28, .int 0, .int (nI j), .int (nI t), .int (sHd s j)]) (rest := []) rfl (Or.inl rfl) (Nat.le_of_ble_eq_true rfl) (Nat.le_of_ble_eq_true rfl) (Nat.le_of_ble_eq_true rfl) (Nat.le_of_ble_eq_true rfl) rfl ?_
        refine c_ruleGives0_28 hF h1 hj ht (fun M2 f2 => ?_)
        show lm_G X (d + 4) 75 106 0 0 67 [some (.ref 28), some (.int (msk (stopW F s) j)), some (.int (nI j)), some (.int (nI t)), some (.int 0)] [.int (if fR0 F = [] then 0 else reckS (vsS F s j t (sHd s j)) (fR0 F))] (lm_T M2 v G) Q
        refine lm_G_br (b := (if fR0 F = [] then 0 else reckS (vsS F s j t (sHd s j)) (fR0 F)) ≤ 0) (t := 76) (S' := []) rfl (fun h5 => ?_) (fun h5 => ?_)
        ·
          refine lm_G_sg 1 (pc' := 79) (L' := [some (.ref 28), some (.int (msk (stopW F s) j)), some (.int ((nI j) + 1)), some (.int (nI t)), some (.int 0)]) (S' := []) (σ' := lm_T M2 v G) rfl trivial ?_
          rw [nI_1]
          refine lm_G_sg 1 (pc' := 4) (L' := [some (.ref 28), some (.int (msk (stopW F s) j)), some (.int (nI (j + 1))), some (.int (nI t)), some (.int 0)]) (S' := []) (σ' := lm_T M2 v G) rfl trivial ?_
          have e : wantS F s j = false := by
            unfold wantS
            rw [et, nI_clamp (by omega), decide_eq_false (Int32.not_le.mpr h3)]
            by_cases w : fR0 F = []
            · rw [if_pos w] at h5
              simp [w]
            · rw [if_neg w] at h5
              simp [w, h5]
          rw [← msk_f (f := (stopW F s)) (by unfold stopW; simp [e, h4])]
          refine lm_G_jk (L := [some (.ref 28), some (.int (msk (stopW F s) (j + 1))), some (.int (nI (j + 1))), none, none]) ⟨rfl, rfl, rfl, trivial⟩ ?_
          exact ih _ (Fr_tr hI f2)
        ·
          refine lm_G_sg 7 (pc' := 79) (L' := [some (.ref 28), some (.int ((msk (stopW F s) j) ||| (1 <<< ((nI j) &&& 31)))), some (.int ((nI j) + 1)), some (.int (nI t)), some (.int 0)]) (S' := []) (σ' := lm_T M2 v G) rfl trivial ?_
          rw [nI_1]
          refine lm_G_sg 1 (pc' := 4) (L' := [some (.ref 28), some (.int ((msk (stopW F s) j) ||| (1 <<< ((nI j) &&& 31)))), some (.int (nI (j + 1))), some (.int (nI t)), some (.int 0)]) (S' := []) (σ' := lm_T M2 v G) rfl trivial ?_
          have e : wantS F s j = true := by
            unfold wantS
            rw [et, nI_clamp (by omega), decide_eq_false (Int32.not_le.mpr h3)]
            by_cases w : fR0 F = []
            · rw [if_pos w] at h5
              exact absurd (by decide) h5
            · rw [if_neg w] at h5
              simp [w, Int32.not_le.mp h5]
          rw [← msk_t (f := (stopW F s)) (by unfold stopW; simp [e, h4])]
          refine lm_G_jk (L := [some (.ref 28), some (.int (msk (stopW F s) (j + 1))), some (.int (nI (j + 1))), none, none]) ⟨rfl, rfl, rfl, trivial⟩ ?_
          exact ih _ (Fr_tr hI f2)
    ·
      refine lm_G_sg 5 (pc' := 46) (L' := [some (.ref 28), some (.int (msk (stopW F s) j)), some (.int (nI j)), some (.int (sHu s j)), some (.int 1)]) (S' := [.int (-1), .int (sHu s j)]) (σ' := lm_T M1 v G) rfl trivial ?_
      refine lm_G_br (b := (sHu s j) = (-1)) (t := 76) (S' := []) rfl (fun h4 => ?_) (fun h4 => ?_)
      ·
        refine lm_G_sg 1 (pc' := 79) (L' := [some (.ref 28), some (.int (msk (stopW F s) j)), some (.int ((nI j) + 1)), some (.int (sHu s j)), some (.int 1)]) (S' := []) (σ' := lm_T M1 v G) rfl trivial ?_
        rw [nI_1]
        refine lm_G_sg 1 (pc' := 4) (L' := [some (.ref 28), some (.int (msk (stopW F s) j)), some (.int (nI (j + 1))), some (.int (sHu s j)), some (.int 1)]) (S' := []) (σ' := lm_T M1 v G) rfl trivial ?_
        rw [← msk_f (f := (stopW F s)) (by unfold stopW; simp [h4])]
        refine lm_G_jk (L := [some (.ref 28), some (.int (msk (stopW F s) (j + 1))), some (.int (nI (j + 1))), none, none]) ⟨rfl, rfl, rfl, trivial⟩ ?_
        exact ih _ hI
      ·
        refine lm_G_sg 1 (pc' := 51) (L' := [some (.ref 28), some (.int (msk (stopW F s) j)), some (.int (nI j)), some (.int (sHu s j)), some (.int 1)]) (S' := [.int 1]) (σ' := lm_T M1 v G) rfl trivial ?_
        refine lm_G_br (b := ¬ 1 = 0) (t := 70) (S' := []) rfl (fun hc => ?_) (fun hc => absurd (by decide) hc)
        refine lm_G_sg 7 (pc' := 79) (L' := [some (.ref 28), some (.int ((msk (stopW F s) j) ||| (1 <<< ((nI j) &&& 31)))), some (.int ((nI j) + 1)), some (.int (sHu s j)), some (.int 1)]) (S' := []) (σ' := lm_T M1 v G) rfl trivial ?_
        rw [nI_1]
        refine lm_G_sg 1 (pc' := 4) (L' := [some (.ref 28), some (.int ((msk (stopW F s) j) ||| (1 <<< ((nI j) &&& 31)))), some (.int (nI (j + 1))), some (.int (sHu s j)), some (.int 1)]) (S' := []) (σ' := lm_T M1 v G) rfl trivial ?_
        have e : wantS F s j = true := by unfold wantS; simp [Int32.not_lt.mp h3]
        rw [← msk_t (f := (stopW F s)) (by unfold stopW; simp [e, h4])]
        refine lm_G_jk (L := [some (.ref 28), some (.int (msk (stopW F s) (j + 1))), some (.int (nI (j + 1))), none, none]) ⟨rfl, rfl, rfl, trivial⟩ ?_
        exact ih _ hI
  ·
    revert hI
    revert zz
    intro M1 hI
    replace hI : Fr frR M M1 := hI
    show lm_G X (d + 4) 75 106 0 0 4 [some (.ref 28), some (.int (msk (stopW F s) (fN F))), some (.int (nI (fN F))), none, none] [] (lm_T M1 v G) Q
    have h1 := RC_R28 h hI
    refine lm_G_sg 4 (pc' := 12) (L' := [some (.ref 28), some (.int (msk (stopW F s) (fN F))), some (.int (nI (fN F))), none, none]) (S' := [.int (M1 14 0), .int (nI (fN F))]) (σ' := lm_T M1 v G) rfl trivial ?_
    rw [show M1 14 0 = nI (fN F) from h1.n]
    refine lm_G_br (b := (nI (fN F)) ≤ (nI (fN F))) (t := 82) (S' := []) rfl (fun hc => ?_) (fun hc => absurd (nI_le (Nat.le_refl _) (by omega)) hc)
    refine lm_G_sg 1 (pc' := 83) (L' := [some (.ref 28), some (.int (msk (stopW F s) (fN F))), some (.int (nI (fN F))), none, none]) (S' := [.int (msk (stopW F s) (fN F))]) (σ' := lm_T M1 v G) rfl trivial ?_
    exact lm_G_re rfl trivial (Nat.zero_le _) (Nat.zero_le _) (hQ _ hI)
  ·
    try dsimp only
    exact Fr_rf _ _
set_option maxRecDepth 10000 in
theorem c_isRested38 {X : lm_X} {d v : Nat} {M : Nat → Nat → Int32} {G : Nat → Nat → Int64} {Q : lm_O → lm_S → Prop} {F : Fa} {s : Sc} {p : Nat} (hF : okF F) (h : RC 38 M F s) (hp : p < fN F) (hQ : Q (.inl (some (.int (b2i (decide (fRe F p ≤ sId s p)))))) (lm_T M v G)) : lm_Q X d 58 [.ref 38, .int (nI p)] (lm_T M v G) Q := by
  have hn := hF.n
  have hm := hF.m
  show lm_G X d 58 106 0 0 0 [some (.ref 38), some (.int (nI p))] [] (lm_T M v G) Q
  refine lm_G_sg 4 (pc' := 6) (L' := [some (.ref 38), some (.int (nI p))]) (S' := [.int (M 44 (nI p).toNatClampNeg)]) (σ' := lm_T M v G) rfl ⟨(vp_in_nI (by omega) (by omega)), trivial, trivial⟩ ?_
  rw [show (nI p).toNatClampNeg = p from nI_clamp (by omega)]
  rw [show M 44 p = sId s p from h.id p (by omega)]
  refine lm_G_sg 5 (pc' := 15) (L' := [some (.ref 38), some (.int (nI p))]) (S' := [.int (M 16 (nI p).toNatClampNeg), .int (sId s p)]) (σ' := lm_T M v G) rfl ⟨(vp_in_nI (by omega) (by omega)), trivial, trivial⟩ ?_
  rw [show (nI p).toNatClampNeg = p from nI_clamp (by omega)]
  rw [show M 16 p = fRe F p from h.re p (by omega)]
  refine lm_G_br (b := (sId s p) < (fRe F p)) (t := 22) (S' := []) rfl (fun hc => ?_) (fun hc => ?_)
  ·
    rw [b2i_f (decide_eq_false (Int32.not_le.mpr hc))] at hQ
    refine lm_G_sg 1 (pc' := 23) (L' := [some (.ref 38), some (.int (nI p))]) (S' := [.int 0]) (σ' := lm_T M v G) rfl trivial ?_
    exact lm_G_re rfl (Or.inl rfl) (Nat.zero_le _) (Nat.zero_le _) hQ
  ·
    rw [b2i_t (decide_eq_true (Int32.not_lt.mp hc))] at hQ
    refine lm_G_sg 2 (pc' := 23) (L' := [some (.ref 38), some (.int (nI p))]) (S' := [.int 1]) (σ' := lm_T M v G) rfl trivial ?_
    exact lm_G_re rfl (Or.inr rfl) (Nat.zero_le _) (Nat.zero_le _) hQ
set_option maxRecDepth 10000 in
theorem c_allHummers38 {X : lm_X} {d v : Nat} {M : Nat → Nat → Int32} {G : Nat → Nat → Int64} {Q : lm_O → lm_S → Prop} {F : Fa} {s : Sc} (hs : okS F s) (hF : okF F) (h : RC 38 M F s) (hQ : Q (.inl (some (.int (msk (fun p => decide (sHu s p ≠ -1)) (fN F))))) (lm_T M v G)) : lm_Q X d 59 [.ref 38] (lm_T M v G) Q := by
  have hn := hF.n
  have hm := hF.m
  show lm_G X d 59 106 0 0 0 [some (.ref 38), none, none] [] (lm_T M v G) Q
  refine lm_G_sg 4 (pc' := 4) (L' := [some (.ref 38), some (.int 0), some (.int 0)]) (S' := []) (σ' := lm_T M v G) rfl trivial ?_
  refine lm_ind (α := Unit) (St := fun (j : Nat) zz => lm_G X d 59 106 0 0 4 [some (.ref 38), some (.int (orS F s j)), some (.int (nI j))] [] (lm_T M v G) Q) (Inv := fun (j : Nat) zz => True) (fM F) (fun j zz hj hI ih => ?_) (fun zz hI => ?_) (0) () (by omega) ?_
  ·
    replace hI : True := hI
    replace ih : ∀ (_ : True), lm_G X d 59 106 0 0 4 [some (.ref 38), some (.int (orS F s (j + 1))), some (.int (nI (j + 1)))] [] (lm_T M v G) Q := fun q => ih () q
    show lm_G X d 59 106 0 0 4 [some (.ref 38), some (.int (orS F s j)), some (.int (nI j))] [] (lm_T M v G) Q
    refine lm_G_sg 4 (pc' := 12) (L' := [some (.ref 38), some (.int (orS F s j)), some (.int (nI j))]) (S' := [.int (M 14 6), .int (nI j)]) (σ' := lm_T M v G) rfl trivial ?_
    rw [show M 14 6 = nI (fM F) from h.m]
    refine lm_G_br (b := (nI (fM F)) ≤ (nI j)) (t := 30) (S' := []) rfl (fun hc => absurd hc (nI_ge hj (by omega))) (fun hc => ?_)
    refine lm_G_sg 5 (pc' := 22) (L' := [some (.ref 38), some (.int (orS F s j)), some (.int (nI j))]) (S' := [.int (M 46 (nI j).toNatClampNeg), .int (orS F s j)]) (σ' := lm_T M v G) rfl ⟨(vp_in_nI (by omega) (by omega)), trivial, trivial⟩ ?_
    rw [show (nI j).toNatClampNeg = j from nI_clamp (by omega)]
    rw [show M 46 j = humS F (sHu s) (nI j) from h.hs j (by omega)]
    refine lm_G_sg 3 (pc' := 27) (L' := [some (.ref 38), some (.int ((orS F s j) ||| (humS F (sHu s) (nI j)))), some (.int ((nI j) + 1))]) (S' := []) (σ' := lm_T M v G) rfl trivial ?_
    rw [nI_1]
    refine lm_G_sg 1 (pc' := 4) (L' := [some (.ref 38), some (.int ((orS F s j) ||| (humS F (sHu s) (nI j)))), some (.int (nI (j + 1)))]) (S' := []) (σ' := lm_T M v G) rfl trivial ?_
    exact ih  trivial
  ·
    replace hI : True := hI
    show lm_G X d 59 106 0 0 4 [some (.ref 38), some (.int (orS F s (fM F))), some (.int (nI (fM F)))] [] (lm_T M v G) Q
    refine lm_G_sg 4 (pc' := 12) (L' := [some (.ref 38), some (.int (orS F s (fM F))), some (.int (nI (fM F)))]) (S' := [.int (M 14 6), .int (nI (fM F))]) (σ' := lm_T M v G) rfl trivial ?_
    rw [show M 14 6 = nI (fM F) from h.m]
    refine lm_G_br (b := (nI (fM F)) ≤ (nI (fM F))) (t := 30) (S' := []) rfl (fun hc => ?_) (fun hc => absurd (nI_le (Nat.le_refl _) (by omega)) hc)
    refine lm_G_sg 1 (pc' := 31) (L' := [some (.ref 38), some (.int (orS F s (fM F))), some (.int (nI (fM F)))]) (S' := [.int (orS F s (fM F))]) (σ' := lm_T M v G) rfl trivial ?_
    rw [orS_any hF, all_hum hF hs]
    exact lm_G_re rfl trivial (Nat.zero_le _) (Nat.zero_le _) hQ
  ·
    trivial
set_option maxRecDepth 10000 in
theorem c_ownedBy38 {X : lm_X} {d v : Nat} {M : Nat → Nat → Int32} {G : Nat → Nat → Int64} {Q : lm_O → lm_S → Prop} {F : Fa} {s : Sc} {x : Int32} (hF : okF F) (h : RC 38 M F s) (hQ : Q (.inl (some (.int (ownS F (sOw s) x)))) (lm_T M v G)) : lm_Q X d 60 [.ref 38, .int x] (lm_T M v G) Q := by
  have hn := hF.n
  have hm := hF.m
  show lm_G X d 60 106 0 0 0 [some (.ref 38), some (.int x), none, none] [] (lm_T M v G) Q
  refine lm_G_sg 4 (pc' := 4) (L' := [some (.ref 38), some (.int x), some (.int 0), some (.int 0)]) (S' := []) (σ' := lm_T M v G) rfl trivial ?_
  refine lm_ind (α := Unit) (St := fun (j : Nat) zz => lm_G X d 60 106 0 0 4 [some (.ref 38), some (.int x), some (.int (msk (fun t => decide (sOw s t = x)) j)), some (.int (nI j))] [] (lm_T M v G) Q) (Inv := fun (j : Nat) zz => True) (fM F) (fun j zz hj hI ih => ?_) (fun zz hI => ?_) (0) () (by omega) ?_
  ·
    replace hI : True := hI
    replace ih : ∀ (_ : True), lm_G X d 60 106 0 0 4 [some (.ref 38), some (.int x), some (.int (msk (fun t => decide (sOw s t = x)) (j + 1))), some (.int (nI (j + 1)))] [] (lm_T M v G) Q := fun q => ih () q
    show lm_G X d 60 106 0 0 4 [some (.ref 38), some (.int x), some (.int (msk (fun t => decide (sOw s t = x)) j)), some (.int (nI j))] [] (lm_T M v G) Q
    refine lm_G_sg 4 (pc' := 12) (L' := [some (.ref 38), some (.int x), some (.int (msk (fun t => decide (sOw s t = x)) j)), some (.int (nI j))]) (S' := [.int (M 14 6), .int (nI j)]) (σ' := lm_T M v G) rfl trivial ?_
    rw [show M 14 6 = nI (fM F) from h.m]
    refine lm_G_br (b := (nI (fM F)) ≤ (nI j)) (t := 37) (S' := []) rfl (fun hc => absurd hc (nI_ge hj (by omega))) (fun hc => ?_)
    refine lm_G_sg 4 (pc' := 21) (L' := [some (.ref 38), some (.int x), some (.int (msk (fun t => decide (sOw s t = x)) j)), some (.int (nI j))]) (S' := [.int (M 45 (nI j).toNatClampNeg)]) (σ' := lm_T M v G) rfl ⟨(vp_in_nI (by omega) (by omega)), trivial, trivial⟩ ?_
    rw [show (nI j).toNatClampNeg = j from nI_clamp (by omega)]
    rw [show M 45 j = sOw s j from h.ow j (by omega)]
    refine lm_G_sg 1 (pc' := 22) (L' := [some (.ref 38), some (.int x), some (.int (msk (fun t => decide (sOw s t = x)) j)), some (.int (nI j))]) (S' := [.int x, .int (sOw s j)]) (σ' := lm_T M v G) rfl trivial ?_
    refine lm_G_br (b := ¬ (sOw s j) = x) (t := 31) (S' := []) rfl (fun hc => ?_) (fun hc => ?_)
    ·
      refine lm_G_sg 1 (pc' := 34) (L' := [some (.ref 38), some (.int x), some (.int (msk (fun t => decide (sOw s t = x)) j)), some (.int ((nI j) + 1))]) (S' := []) (σ' := lm_T M v G) rfl trivial ?_
      rw [nI_1]
      refine lm_G_sg 1 (pc' := 4) (L' := [some (.ref 38), some (.int x), some (.int (msk (fun t => decide (sOw s t = x)) j)), some (.int (nI (j + 1)))]) (S' := []) (σ' := lm_T M v G) rfl trivial ?_
      rw [← msk_f (f := (fun t => decide (sOw s t = x))) (decide_eq_false hc)]
      exact ih  trivial
    ·
      refine lm_G_sg 7 (pc' := 34) (L' := [some (.ref 38), some (.int x), some (.int ((msk (fun t => decide (sOw s t = x)) j) ||| (1 <<< ((nI j) &&& 31)))), some (.int ((nI j) + 1))]) (S' := []) (σ' := lm_T M v G) rfl trivial ?_
      rw [nI_1]
      refine lm_G_sg 1 (pc' := 4) (L' := [some (.ref 38), some (.int x), some (.int ((msk (fun t => decide (sOw s t = x)) j) ||| (1 <<< ((nI j) &&& 31)))), some (.int (nI (j + 1)))]) (S' := []) (σ' := lm_T M v G) rfl trivial ?_
      rw [← msk_t (f := (fun t => decide (sOw s t = x))) (decide_eq_true (Classical.not_not.mp hc))]
      exact ih  trivial
  ·
    replace hI : True := hI
    show lm_G X d 60 106 0 0 4 [some (.ref 38), some (.int x), some (.int (msk (fun t => decide (sOw s t = x)) (fM F))), some (.int (nI (fM F)))] [] (lm_T M v G) Q
    refine lm_G_sg 4 (pc' := 12) (L' := [some (.ref 38), some (.int x), some (.int (msk (fun t => decide (sOw s t = x)) (fM F))), some (.int (nI (fM F)))]) (S' := [.int (M 14 6), .int (nI (fM F))]) (σ' := lm_T M v G) rfl trivial ?_
    rw [show M 14 6 = nI (fM F) from h.m]
    refine lm_G_br (b := (nI (fM F)) ≤ (nI (fM F))) (t := 37) (S' := []) rfl (fun hc => ?_) (fun hc => absurd (nI_le (Nat.le_refl _) (by omega)) hc)
    refine lm_G_sg 1 (pc' := 38) (L' := [some (.ref 38), some (.int x), some (.int (msk (fun t => decide (sOw s t = x)) (fM F))), some (.int (nI (fM F)))]) (S' := [.int (msk (fun t => decide (sOw s t = x)) (fM F))]) (σ' := lm_T M v G) rfl trivial ?_
    exact lm_G_re rfl trivial (Nat.zero_le _) (Nat.zero_le _) hQ
  ·
    trivial
set_option maxRecDepth 10000 in
theorem c_howMany38 {X : lm_X} {d v : Nat} {M : Nat → Nat → Int32} {G : Nat → Nat → Int64} {Q : lm_O → lm_S → Prop} {F : Fa} {s : Sc} {x : Int32} (hF : okF F) (h : RC 38 M F s) (hQ : Q (.inl (some (.int (cnt (ownS F (sOw s) x))))) (lm_T M v G)) : lm_Q X (d + 1) 61 [.ref 38, .int x] (lm_T M v G) Q := by
  have hn := hF.n
  have hm := hF.m
  show lm_G X (d + 1) 61 106 0 0 0 [some (.ref 38), some (.int x)] [] (lm_T M v G) Q
  refine lm_G_sg 2 (pc' := 2) (L' := [some (.ref 38), some (.int x)]) (S' := [.int x, .ref 38]) (σ' := lm_T M v G) rfl trivial ?_
  refine lm_G_ca (j := 60) (as := [.ref 38, .int x]) (rest := []) rfl (Or.inl rfl) (Nat.le_of_ble_eq_true rfl) (Nat.le_of_ble_eq_true rfl) (Nat.le_of_ble_eq_true rfl) (Nat.le_of_ble_eq_true rfl) rfl ?_
  refine c_ownedBy38 hF h ?_
  show lm_G X (d + 1) 61 106 0 0 5 [some (.ref 38), some (.int x)] [.int (ownS F (sOw s) x)] (lm_T M v G) Q
  refine lm_G_ca (j := 244) (as := [.int (ownS F (sOw s) x)]) (rest := []) rfl (Or.inl rfl) (Nat.le_of_ble_eq_true rfl) (Nat.le_of_ble_eq_true rfl) (Nat.le_of_ble_eq_true rfl) (Nat.le_of_ble_eq_true rfl) rfl ?_
  refine c_bits (own_lt hF _ _) ?_
  show lm_G X (d + 1) 61 106 0 0 8 [some (.ref 38), some (.int x)] [.int (cnt (ownS F (sOw s) x))] (lm_T M v G) Q
  exact lm_G_re rfl trivial (Nat.zero_le _) (Nat.zero_le _) hQ
set_option maxRecDepth 10000 in
theorem c_allCows38 {X : lm_X} {d v : Nat} {M : Nat → Nat → Int32} {G : Nat → Nat → Int64} {Q : lm_O → lm_S → Prop} {F : Fa} {s : Sc} (hF : okF F) (h : RC 38 M F s) (hQ : Q (.inl (some (.int (sumS (sCo s) (fN F))))) (lm_T M v G)) : lm_Q X d 63 [.ref 38] (lm_T M v G) Q := by
  have hn := hF.n
  have hm := hF.m
  show lm_G X d 63 106 0 0 0 [some (.ref 38), none, none] [] (lm_T M v G) Q
  refine lm_G_sg 4 (pc' := 4) (L' := [some (.ref 38), some (.int 0), some (.int 0)]) (S' := []) (σ' := lm_T M v G) rfl trivial ?_
  refine lm_ind (α := Unit) (St := fun (j : Nat) zz => lm_G X d 63 106 0 0 4 [some (.ref 38), some (.int (sumS (sCo s) j)), some (.int (nI j))] [] (lm_T M v G) Q) (Inv := fun (j : Nat) zz => True) (fN F) (fun j zz hj hI ih => ?_) (fun zz hI => ?_) (0) () (by omega) ?_
  ·
    replace hI : True := hI
    replace ih : ∀ (_ : True), lm_G X d 63 106 0 0 4 [some (.ref 38), some (.int (sumS (sCo s) (j + 1))), some (.int (nI (j + 1)))] [] (lm_T M v G) Q := fun q => ih () q
    show lm_G X d 63 106 0 0 4 [some (.ref 38), some (.int (sumS (sCo s) j)), some (.int (nI j))] [] (lm_T M v G) Q
    refine lm_G_sg 4 (pc' := 12) (L' := [some (.ref 38), some (.int (sumS (sCo s) j)), some (.int (nI j))]) (S' := [.int (M 14 0), .int (nI j)]) (σ' := lm_T M v G) rfl trivial ?_
    rw [show M 14 0 = nI (fN F) from h.n]
    refine lm_G_br (b := (nI (fN F)) ≤ (nI j)) (t := 30) (S' := []) rfl (fun hc => absurd hc (nI_ge hj (by omega))) (fun hc => ?_)
    refine lm_G_sg 5 (pc' := 22) (L' := [some (.ref 38), some (.int (sumS (sCo s) j)), some (.int (nI j))]) (S' := [.int (M 41 (nI j).toNatClampNeg), .int (sumS (sCo s) j)]) (σ' := lm_T M v G) rfl ⟨(vp_in_nI (by omega) (by omega)), trivial, trivial⟩ ?_
    rw [show (nI j).toNatClampNeg = j from nI_clamp (by omega)]
    rw [show M 41 j = sCo s j from h.co j (by omega)]
    refine lm_G_sg 3 (pc' := 27) (L' := [some (.ref 38), some (.int ((sumS (sCo s) j) + (sCo s j))), some (.int ((nI j) + 1))]) (S' := []) (σ' := lm_T M v G) rfl trivial ?_
    rw [nI_1]
    refine lm_G_sg 1 (pc' := 4) (L' := [some (.ref 38), some (.int ((sumS (sCo s) j) + (sCo s j))), some (.int (nI (j + 1)))]) (S' := []) (σ' := lm_T M v G) rfl trivial ?_
    exact ih  trivial
  ·
    replace hI : True := hI
    show lm_G X d 63 106 0 0 4 [some (.ref 38), some (.int (sumS (sCo s) (fN F))), some (.int (nI (fN F)))] [] (lm_T M v G) Q
    refine lm_G_sg 4 (pc' := 12) (L' := [some (.ref 38), some (.int (sumS (sCo s) (fN F))), some (.int (nI (fN F)))]) (S' := [.int (M 14 0), .int (nI (fN F))]) (σ' := lm_T M v G) rfl trivial ?_
    rw [show M 14 0 = nI (fN F) from h.n]
    refine lm_G_br (b := (nI (fN F)) ≤ (nI (fN F))) (t := 30) (S' := []) rfl (fun hc => ?_) (fun hc => absurd (nI_le (Nat.le_refl _) (by omega)) hc)
    refine lm_G_sg 1 (pc' := 31) (L' := [some (.ref 38), some (.int (sumS (sCo s) (fN F))), some (.int (nI (fN F)))]) (S' := [.int (sumS (sCo s) (fN F))]) (σ' := lm_T M v G) rfl trivial ?_
    exact lm_G_re rfl trivial (Nat.zero_le _) (Nat.zero_le _) hQ
  ·
    trivial
set_option maxRecDepth 10000 in
theorem c_giveTo38 {X : lm_X} {d v : Nat} {M : Nat → Nat → Int32} {G : Nat → Nat → Int64} {Q : lm_O → lm_S → Prop} {F : Fa} {s : Sc} {t : Nat} {x : Int32} (hF : okF F) (h : RC 38 M F s) (ht : t < fM F) (hQ : ∀ M1, RC 38 M1 F (ownT s t x) → FrC 38 M M1 → M1 38 13 = M 38 13 + (if sOw s t = x then 0 else 1) → Q (.inl none) (lm_T M1 v G)) : lm_Q X d 65 [.ref 38, .int (nI t), .int x] (lm_T M v G) Q := by
  have hn := hF.n
  have hm := hF.m
  show lm_G X d 65 106 0 0 0 [some (.ref 38), some (.int (nI t)), some (.int x)] [] (lm_T M v G) Q
  refine lm_G_sg 4 (pc' := 6) (L' := [some (.ref 38), some (.int (nI t)), some (.int x)]) (S' := [.int (M 45 (nI t).toNatClampNeg)]) (σ' := lm_T M v G) rfl ⟨(vp_in_nI (by omega) (by omega)), trivial, trivial⟩ ?_
  rw [show (nI t).toNatClampNeg = t from nI_clamp (by omega)]
  rw [show M 45 t = sOw s t from h.ow t (by omega)]
  refine lm_G_sg 1 (pc' := 7) (L' := [some (.ref 38), some (.int (nI t)), some (.int x)]) (S' := [.int x, .int (sOw s t)]) (σ' := lm_T M v G) rfl trivial ?_
  refine lm_G_br (b := (sOw s t) = x) (t := 27) (S' := []) rfl (fun hc => ?_) (fun hc => ?_)
  ·
    exact lm_G_re rfl trivial (Nat.zero_le _) (Nat.zero_le _) (hQ _ (RC_own038 h hc) (FrC_rf _ _) (by rw [if_pos hc]; simp))
  ·
    refine lm_G_sg 5 (pc' := 17) (L' := [some (.ref 38), some (.int (nI t)), some (.int x)]) (S' := []) (σ' := lm_T (lm_wr M 45 ((nI t).toNatClampNeg) x) v G) rfl ⟨(vp_in_nI (by omega) (by omega)), trivial, trivial⟩ ?_
    rw [show (nI t).toNatClampNeg = t from nI_clamp (by omega)]
    refine lm_G_sg 6 (pc' := 27) (L' := [some (.ref 38), some (.int (nI t)), some (.int x)]) (S' := []) (σ' := lm_T (lm_wr (lm_wr M 45 t x) 38 13 ((M 38 13) + 1)) v G) rfl ⟨trivial, trivial, trivial⟩ ?_
    exact lm_G_re rfl trivial (Nat.zero_le _) (Nat.zero_le _) (hQ _ (RC_own38 h t x _) (FrC_wb (FrC_wr (FrC_rf _ _) rfl (by decide)) rfl (Or.inr rfl)) (by rw [wr_same, if_neg hc]))
set_option maxRecDepth 10000 in
theorem c_stop38 {X : lm_X} {d v : Nat} {M : Nat → Nat → Int32} {G : Nat → Nat → Int64} {Q : lm_O → lm_S → Prop} {F : Fa} {s : Sc} {p t : Nat} (hF : okF F) (h : RC 38 M F s) (hp : p < fN F) (ht : t < fM F) (et : sHu s p = nI t) (hQ : Q (.inl none) (lm_T (lm_wr (lm_wr (lm_wr (lm_wr M 46 t (humS F (sHu s) (nI t) &&& (bit1 (nI p) ^^^ (-1)))) 42 p (-1)) 43 p 0) 44 p 0) v G)) : lm_Q X d 66 [.ref 38, .int (nI p)] (lm_T M v G) Q := by
  have hn := hF.n
  have hm := hF.m
  show lm_G X d 66 106 0 0 0 [some (.ref 38), some (.int (nI p)), none] [] (lm_T M v G) Q
  refine lm_G_sg 4 (pc' := 6) (L' := [some (.ref 38), some (.int (nI p)), none]) (S' := [.int (M 42 (nI p).toNatClampNeg)]) (σ' := lm_T M v G) rfl ⟨(vp_in_nI (by omega) (by omega)), trivial, trivial⟩ ?_
  rw [show (nI p).toNatClampNeg = p from nI_clamp (by omega)]
  rw [show M 42 p = sHu s p from h.hu p (by omega)]
  rw [et]
  refine lm_G_sg 3 (pc' := 9) (L' := [some (.ref 38), some (.int (nI p)), some (.int (nI t))]) (S' := [.int (-1), .int (nI t)]) (σ' := lm_T M v G) rfl trivial ?_
  refine lm_G_br (b := (nI t) = (-1)) (t := 47) (S' := []) rfl (fun hc => absurd hc (nI_m1 (by omega))) (fun hc => ?_)
  refine lm_G_sg 5 (pc' := 19) (L' := [some (.ref 38), some (.int (nI p)), some (.int (nI t))]) (S' := [.int (M 46 (nI t).toNatClampNeg), .int (nI t), .ref 46]) (σ' := lm_T M v G) rfl ⟨(vp_in_nI (by omega) (by omega)), trivial, trivial⟩ ?_
  rw [show (nI t).toNatClampNeg = t from nI_clamp (by omega)]
  rw [show M 46 t = humS F (sHu s) (nI t) from h.hs t (by omega)]
  refine lm_G_sg 7 (pc' := 26) (L' := [some (.ref 38), some (.int (nI p)), some (.int (nI t))]) (S' := []) (σ' := lm_T (lm_wr M 46 ((nI t).toNatClampNeg) ((humS F (sHu s) (nI t)) &&& ((1 <<< ((nI p) &&& 31)) ^^^ (-1)))) v G) rfl ⟨(vp_in_nI (by omega) (by omega)), trivial, trivial⟩ ?_
  rw [show (nI t).toNatClampNeg = t from nI_clamp (by omega)]
  refine lm_G_sg 5 (pc' := 33) (L' := [some (.ref 38), some (.int (nI p)), some (.int (nI t))]) (S' := []) (σ' := lm_T (lm_wr (lm_wr M 46 t ((humS F (sHu s) (nI t)) &&& ((1 <<< ((nI p) &&& 31)) ^^^ (-1)))) 42 ((nI p).toNatClampNeg) (-1)) v G) rfl ⟨(vp_in_nI (by omega) (by omega)), trivial, trivial⟩ ?_
  rw [show (nI p).toNatClampNeg = p from nI_clamp (by omega)]
  refine lm_G_sg 5 (pc' := 40) (L' := [some (.ref 38), some (.int (nI p)), some (.int (nI t))]) (S' := []) (σ' := lm_T (lm_wr (lm_wr (lm_wr M 46 t ((humS F (sHu s) (nI t)) &&& ((1 <<< ((nI p) &&& 31)) ^^^ (-1)))) 42 p (-1)) 43 ((nI p).toNatClampNeg) 0) v G) rfl ⟨(vp_in_nI (by omega) (by omega)), trivial, trivial⟩ ?_
  rw [show (nI p).toNatClampNeg = p from nI_clamp (by omega)]
  refine lm_G_sg 5 (pc' := 47) (L' := [some (.ref 38), some (.int (nI p)), some (.int (nI t))]) (S' := []) (σ' := lm_T (lm_wr (lm_wr (lm_wr (lm_wr M 46 t ((humS F (sHu s) (nI t)) &&& ((1 <<< ((nI p) &&& 31)) ^^^ (-1)))) 42 p (-1)) 43 p 0) 44 ((nI p).toNatClampNeg) 0) v G) rfl ⟨(vp_in_nI (by omega) (by omega)), trivial, trivial⟩ ?_
  rw [show (nI p).toNatClampNeg = p from nI_clamp (by omega)]
  exact lm_G_re rfl trivial (Nat.zero_le _) (Nat.zero_le _) hQ
set_option maxRecDepth 10000 in
theorem c_start38 {X : lm_X} {d v : Nat} {M : Nat → Nat → Int32} {G : Nat → Nat → Int64} {Q : lm_O → lm_S → Prop} {F : Fa} {s : Sc} {p t : Nat} (hF : okF F) (h : RC 38 M F s) (hp : p < fN F) (ht : t < fM F) (hQ : Q (.inl none) (lm_T (lm_wr (lm_wr M 42 p (nI t)) 46 t (humS F (sHu s) (nI t) ||| bit1 (nI p))) v G)) : lm_Q X d 67 [.ref 38, .int (nI p), .int (nI t)] (lm_T M v G) Q := by
  have hn := hF.n
  have hm := hF.m
  show lm_G X d 67 106 0 0 0 [some (.ref 38), some (.int (nI p)), some (.int (nI t))] [] (lm_T M v G) Q
  refine lm_G_sg 5 (pc' := 7) (L' := [some (.ref 38), some (.int (nI p)), some (.int (nI t))]) (S' := []) (σ' := lm_T (lm_wr M 42 ((nI p).toNatClampNeg) (nI t)) v G) rfl ⟨(vp_in_nI (by omega) (by omega)), trivial, trivial⟩ ?_
  rw [show (nI p).toNatClampNeg = p from nI_clamp (by omega)]
  refine lm_G_sg 5 (pc' := 14) (L' := [some (.ref 38), some (.int (nI p)), some (.int (nI t))]) (S' := [.int ((lm_wr M 42 p (nI t)) 46 (nI t).toNatClampNeg), .int (nI t), .ref 46]) (σ' := lm_T (lm_wr M 42 p (nI t)) v G) rfl ⟨(vp_in_nI (by omega) (by omega)), trivial, trivial⟩ ?_
  rw [show (nI t).toNatClampNeg = t from nI_clamp (by omega)]
  show lm_G X d 67 106 0 0 14 [some (.ref 38), some (.int (nI p)), some (.int (nI t))] [.int (M 46 t), .int (nI t), .ref 46] (lm_T (lm_wr M 42 p (nI t)) v G) Q
  rw [show M 46 t = humS F (sHu s) (nI t) from h.hs t (by omega)]
  refine lm_G_sg 5 (pc' := 19) (L' := [some (.ref 38), some (.int (nI p)), some (.int (nI t))]) (S' := []) (σ' := lm_T (lm_wr (lm_wr M 42 p (nI t)) 46 ((nI t).toNatClampNeg) ((humS F (sHu s) (nI t)) ||| (1 <<< ((nI p) &&& 31)))) v G) rfl ⟨(vp_in_nI (by omega) (by omega)), trivial, trivial⟩ ?_
  rw [show (nI t).toNatClampNeg = t from nI_clamp (by omega)]
  exact lm_G_re rfl trivial (Nat.zero_le _) (Nat.zero_le _) hQ
set_option maxRecDepth 10000 in
theorem c_stopT38 {X : lm_X} {d v : Nat} {M : Nat → Nat → Int32} {G : Nat → Nat → Int64} {Q : lm_O → lm_S → Prop} {F : Fa} {s : Sc} {t : Nat} {x : Int32} (hF : okF F) (h : RC 38 M F s) (ht : t < fM F) (hQ : ∀ M1, RC 38 M1 F (tunS F (bitW x) s t) → FrC 38 M M1 → M1 38 13 = M 38 13 + (tunD F (bitW x) s t) → Q (.inl none) (lm_T M1 v G)) : lm_Q X (d + 1) 72 [.ref 38, .int x, .int (nI t)] (lm_T M v G) Q := by
  have hn := hF.n
  have hm := hF.m
  show lm_G X (d + 1) 72 106 0 0 0 [some (.ref 38), some (.int x), some (.int (nI t)), none, none, none] [] (lm_T M v G) Q
  refine lm_G_sg 4 (pc' := 6) (L' := [some (.ref 38), some (.int x), some (.int (nI t)), none, none, none]) (S' := [.int (M 46 (nI t).toNatClampNeg)]) (σ' := lm_T M v G) rfl ⟨(vp_in_nI (by omega) (by omega)), trivial, trivial⟩ ?_
  rw [show (nI t).toNatClampNeg = t from nI_clamp (by omega)]
  rw [show M 46 t = humS F (sHu s) (nI t) from h.hs t (by omega)]
  refine lm_G_sg 7 (pc' := 15) (L' := [some (.ref 38), some (.int x), some (.int (nI t)), some (.int ((humS F (sHu s) (nI t)) &&& x)), some (.int (-1)), some (.int 0)]) (S' := []) (σ' := lm_T M v G) rfl trivial ?_
  refine lm_ind (α := (Nat → Fn)) (St := fun (q : Nat) zz => (fun (M1 : Nat → Fn) => lm_G X (d + 1) 72 106 0 0 15 [some (.ref 38), some (.int x), some (.int (nI t)), some (.int (humS F (sHu s) (nI t) &&& x)), some (.int (lstS (bitW x) s (nI t) q)), some (.int (nI q))] [] (lm_T M1 v G) Q) zz) (Inv := fun (q : Nat) zz => (fun (M1 : Nat → Fn) => RC 38 M1 F (stpS (bitW x) s (nI t) q) ∧ FrC 38 M M1 ∧ M1 38 13 = M 38 13) zz) (fN F) (fun q zz hj hI ih => ?_) (fun zz hI => ?_) (0) M (by omega) ?_
  ·
    revert ih hI
    revert zz
    intro M1 hI ih
    replace hI : RC 38 M1 F (stpS (bitW x) s (nI t) q) ∧ FrC 38 M M1 ∧ M1 38 13 = M 38 13 := hI
    replace ih : ∀ (M1 : Nat → Fn) (_ : RC 38 M1 F (stpS (bitW x) s (nI t) (q + 1)) ∧ FrC 38 M M1 ∧ M1 38 13 = M 38 13), lm_G X (d + 1) 72 106 0 0 15 [some (.ref 38), some (.int x), some (.int (nI t)), some (.int (humS F (sHu s) (nI t) &&& x)), some (.int (lstS (bitW x) s (nI t) (q + 1))), some (.int (nI (q + 1)))] [] (lm_T M1 v G) Q := fun M1 q => ih M1 q
    show lm_G X (d + 1) 72 106 0 0 15 [some (.ref 38), some (.int x), some (.int (nI t)), some (.int (humS F (sHu s) (nI t) &&& x)), some (.int (lstS (bitW x) s (nI t) q)), some (.int (nI q))] [] (lm_T M1 v G) Q
    obtain ⟨h1, f1, t1⟩ := hI
    have eb : bitW (humS F (sHu s) (nI t) &&& x) q = (decide (sHu s q = nI t) && bitW x q) := by rw [bitW_and _ _ (by omega), hum_w hF hj]
    refine lm_G_sg 4 (pc' := 24) (L' := [some (.ref 38), some (.int x), some (.int (nI t)), some (.int (humS F (sHu s) (nI t) &&& x)), some (.int (lstS (bitW x) s (nI t) q)), some (.int (nI q))]) (S' := [.int (M1 14 0), .int (nI q)]) (σ' := lm_T M1 v G) rfl trivial ?_
    rw [show M1 14 0 = nI (fN F) from h1.n]
    refine lm_G_br (b := (nI (fN F)) ≤ (nI q)) (t := 53) (S' := []) rfl (fun hc => absurd hc (nI_ge hj (by omega))) (fun hc => ?_)
    refine lm_G_sg 6 (pc' := 34) (L' := [some (.ref 38), some (.int x), some (.int (nI t)), some (.int (humS F (sHu s) (nI t) &&& x)), some (.int (lstS (bitW x) s (nI t) q)), some (.int (nI q))]) (S' := [.int 1, .int (((humS F (sHu s) (nI t) &&& x) >>> ((nI q) &&& 31)) &&& 1)]) (σ' := lm_T M1 v G) rfl trivial ?_
    refine lm_G_br (b := ¬ (((humS F (sHu s) (nI t) &&& x) >>> ((nI q) &&& 31)) &&& 1) = 1) (t := 47) (S' := []) rfl (fun h3 => ?_) (fun h3 => ?_)
    ·
      refine lm_G_sg 1 (pc' := 50) (L' := [some (.ref 38), some (.int x), some (.int (nI t)), some (.int (humS F (sHu s) (nI t) &&& x)), some (.int (lstS (bitW x) s (nI t) q)), some (.int ((nI q) + 1))]) (S' := []) (σ' := lm_T M1 v G) rfl trivial ?_
      rw [nI_1]
      refine lm_G_sg 1 (pc' := 15) (L' := [some (.ref 38), some (.int x), some (.int (nI t)), some (.int (humS F (sHu s) (nI t) &&& x)), some (.int (lstS (bitW x) s (nI t) q)), some (.int (nI (q + 1)))]) (S' := []) (σ' := lm_T M1 v G) rfl trivial ?_
      have e3 : bitW (humS F (sHu s) (nI t) &&& x) q = false := decide_eq_false h3
      rw [eb] at e3
      have e4 : lstS (bitW x) s (nI t) (q + 1) = lstS (bitW x) s (nI t) q := by simp only [lstS]; rw [e3]; rfl
      have e5 : stpS (bitW x) s (nI t) (q + 1) = (stpS (bitW x) s (nI t) q) := by simp only [stpS]; rw [e3]; rfl
      rw [e4, e5] at ih
      exact ih _ (⟨h1, f1, t1⟩)
    ·
      have e3 : bitW (humS F (sHu s) (nI t) &&& x) q = true := decide_eq_true (Classical.not_not.mp h3)
      rw [eb] at e3
      have e6 : sHu (stpS (bitW x) s (nI t) q) q = nI t := by
        rw [stp_hu, if_neg (by omega)]
        simp only [Bool.and_eq_true, decide_eq_true_eq] at e3
        exact e3.1
      refine lm_G_sg 2 (pc' := 40) (L' := [some (.ref 38), some (.int x), some (.int (nI t)), some (.int (humS F (sHu s) (nI t) &&& x)), some (.int (lstS (bitW x) s (nI t) q)), some (.int (nI q))]) (S' := [.int (nI q), .ref 38]) (σ' := lm_T M1 v G) rfl trivial ?_
      refine lm_G_ca (j := 66) (as := [.ref 38, .int (nI q)]) (rest := []) rfl (Or.inl rfl) (Nat.le_of_ble_eq_true rfl) (Nat.le_of_ble_eq_true rfl) (Nat.le_of_ble_eq_true rfl) (Nat.le_of_ble_eq_true rfl) rfl ?_
      refine c_stop38 hF h1 hj ht e6 ?_
      show lm_G X (d + 1) 72 106 0 0 43 [some (.ref 38), some (.int x), some (.int (nI t)), some (.int (humS F (sHu s) (nI t) &&& x)), some (.int (lstS (bitW x) s (nI t) q)), some (.int (nI q))] [] (lm_T (lm_wr (lm_wr (lm_wr (lm_wr M1 46 t (humS F (sHu (stpS (bitW x) s (nI t) q)) (nI t) &&& (bit1 (nI q) ^^^ (-1)))) 42 q (-1)) 43 q 0) 44 q 0) v G) Q
      refine lm_G_sg 3 (pc' := 50) (L' := [some (.ref 38), some (.int x), some (.int (nI t)), some (.int (humS F (sHu s) (nI t) &&& x)), some (.int (nI q)), some (.int ((nI q) + 1))]) (S' := []) (σ' := lm_T (lm_wr (lm_wr (lm_wr (lm_wr M1 46 t (humS F (sHu (stpS (bitW x) s (nI t) q)) (nI t) &&& (bit1 (nI q) ^^^ (-1)))) 42 q (-1)) 43 q 0) 44 q 0) v G) rfl trivial ?_
      rw [nI_1]
      refine lm_G_sg 1 (pc' := 15) (L' := [some (.ref 38), some (.int x), some (.int (nI t)), some (.int (humS F (sHu s) (nI t) &&& x)), some (.int (nI q)), some (.int (nI (q + 1)))]) (S' := []) (σ' := lm_T (lm_wr (lm_wr (lm_wr (lm_wr M1 46 t (humS F (sHu (stpS (bitW x) s (nI t) q)) (nI t) &&& (bit1 (nI q) ^^^ (-1)))) 42 q (-1)) 43 q 0) 44 q 0) v G) rfl trivial ?_
      have e4 : lstS (bitW x) s (nI t) (q + 1) = nI q := by simp only [lstS]; rw [if_pos e3]
      have e5 : stpS (bitW x) s (nI t) (q + 1) = silS (stpS (bitW x) s (nI t) q) q := by simp only [stpS]; rw [if_pos e3]
      rw [e4, e5] at ih
      exact ih _ (⟨RC_sil38 hF h1 hj ht e6, FrC_wr (FrC_wr (FrC_wr (FrC_wr f1 rfl (by decide)) rfl (by decide)) rfl (by decide)) rfl (by decide), t1⟩)
  ·
    revert hI
    revert zz
    intro M1 hI
    replace hI : RC 38 M1 F (stpS (bitW x) s (nI t) (fN F)) ∧ FrC 38 M M1 ∧ M1 38 13 = M 38 13 := hI
    show lm_G X (d + 1) 72 106 0 0 15 [some (.ref 38), some (.int x), some (.int (nI t)), some (.int (humS F (sHu s) (nI t) &&& x)), some (.int (lstS (bitW x) s (nI t) (fN F))), some (.int (nI (fN F)))] [] (lm_T M1 v G) Q
    obtain ⟨h1, f1, t1⟩ := hI
    refine lm_G_sg 4 (pc' := 24) (L' := [some (.ref 38), some (.int x), some (.int (nI t)), some (.int (humS F (sHu s) (nI t) &&& x)), some (.int (lstS (bitW x) s (nI t) (fN F))), some (.int (nI (fN F)))]) (S' := [.int (M1 14 0), .int (nI (fN F))]) (σ' := lm_T M1 v G) rfl trivial ?_
    rw [show M1 14 0 = nI (fN F) from h1.n]
    refine lm_G_br (b := (nI (fN F)) ≤ (nI (fN F))) (t := 53) (S' := []) rfl (fun hc => ?_) (fun hc => absurd (nI_le (Nat.le_refl _) (by omega)) hc)
    refine lm_G_sg 1 (pc' := 54) (L' := [some (.ref 38), some (.int x), some (.int (nI t)), some (.int (humS F (sHu s) (nI t) &&& x)), some (.int (lstS (bitW x) s (nI t) (fN F))), some (.int (nI (fN F)))]) (S' := [.int (humS F (sHu s) (nI t) &&& x)]) (σ' := lm_T M1 v G) rfl trivial ?_
    refine lm_G_br (b := (humS F (sHu s) (nI t) &&& x) = 0) (t := 85) (S' := []) rfl (fun hz => ?_) (fun hz => ?_)
    ·
      obtain ⟨z1, z2⟩ := fall_z hF hz
      rw [show tunS F (bitW x) s t = (stpS (bitW x) s (nI t) (fN F)) from by unfold tunS; rw [z1]; rfl, show tunD F (bitW x) s t = 0 from by unfold tunD; rw [z1]; rfl] at hQ
      exact lm_G_re rfl trivial (Nat.zero_le _) (Nat.zero_le _) (hQ _ h1 f1 (by rw [t1]; simp))
    ·
      refine lm_G_sg 4 (pc' := 63) (L' := [some (.ref 38), some (.int x), some (.int (nI t)), some (.int (humS F (sHu s) (nI t) &&& x)), some (.int (lstS (bitW x) s (nI t) (fN F))), some (.int (nI (fN F)))]) (S' := [.int (M1 46 (nI t).toNatClampNeg)]) (σ' := lm_T M1 v G) rfl ⟨(vp_in_nI (by omega) (by omega)), trivial, trivial⟩ ?_
      rw [show (nI t).toNatClampNeg = t from nI_clamp (by omega)]
      rw [show M1 46 t = humS F (sHu (stpS (bitW x) s (nI t) (fN F))) (nI t) from h1.hs t (by omega)]
      refine lm_G_br (b := ¬ (humS F (sHu (stpS (bitW x) s (nI t) (fN F))) (nI t)) = 0) (t := 85) (S' := []) rfl (fun h3 => ?_) (fun h3 => ?_)
      ·
        have z1 : fallS F (bitW x) s (nI t) = false := by unfold fallS; rw [decide_eq_false h3]; simp
        rw [show tunS F (bitW x) s t = (stpS (bitW x) s (nI t) (fN F)) from by unfold tunS; rw [z1]; rfl, show tunD F (bitW x) s t = 0 from by unfold tunD; rw [z1]; rfl] at hQ
        exact lm_G_re rfl trivial (Nat.zero_le _) (Nat.zero_le _) (hQ _ h1 f1 (by rw [t1]; simp))
      ·
        have ha := fall_all hF (nI_m1 (by omega)) (Classical.not_not.mp h3)
        have z0 : humS F (sHu s) (nI t) ≠ 0 := fun w => hz (by rw [w]; simp)
        have z1 : fallS F (bitW x) s (nI t) = true := by unfold fallS; rw [decide_eq_true z0, decide_eq_true (Classical.not_not.mp h3)]; rfl
        rw [ha]
        show lm_G X (d + 1) 72 106 0 0 66 [some (.ref 38), some (.int x), some (.int (nI t)), some (.int (humS F (sHu s) (nI t))), some (.int (lstS (bitW x) s (nI t) (fN F))), some (.int (nI (fN F)))] [] (lm_T M1 v G) Q
        refine lm_G_sg 3 (pc' := 69) (L' := [some (.ref 38), some (.int x), some (.int (nI t)), some (.int (humS F (sHu s) (nI t))), some (.int (lstS (bitW x) s (nI t) (fN F))), some (.int (nI (fN F)))]) (S' := [.int (humS F (sHu s) (nI t)), .int (nI t), .ref 38]) (σ' := lm_T M1 v G) rfl trivial ?_
        refine lm_G_ca (j := 244) (as := [.int (humS F (sHu s) (nI t))]) (rest := [.int (nI t), .ref 38]) rfl (Or.inl rfl) (Nat.le_of_ble_eq_true rfl) (Nat.le_of_ble_eq_true rfl) (Nat.le_of_ble_eq_true rfl) (Nat.le_of_ble_eq_true rfl) rfl ?_
        refine c_bits (hum_lt hF _ _) ?_
        show lm_G X (d + 1) 72 106 0 0 72 [some (.ref 38), some (.int x), some (.int (nI t)), some (.int (humS F (sHu s) (nI t))), some (.int (lstS (bitW x) s (nI t) (fN F))), some (.int (nI (fN F)))] [.int (cnt (humS F (sHu s) (nI t))), .int (nI t), .ref 38] (lm_T M1 v G) Q
        refine lm_G_sg 1 (pc' := 73) (L' := [some (.ref 38), some (.int x), some (.int (nI t)), some (.int (humS F (sHu s) (nI t))), some (.int (lstS (bitW x) s (nI t) (fN F))), some (.int (nI (fN F)))]) (S' := [.int 1, .int (cnt (humS F (sHu s) (nI t))), .int (nI t), .ref 38]) (σ' := lm_T M1 v G) rfl trivial ?_
        refine lm_G_br (b := ¬ (cnt (humS F (sHu s) (nI t))) = 1) (t := 81) (S' := [.int (nI t), .ref 38]) rfl (fun h4 => ?_) (fun h4 => ?_)
        ·
          have en : newS F (bitW x) s (nI t) = -1 := by unfold newS; rw [if_neg h4]
          refine lm_G_sg 1 (pc' := 82) (L' := [some (.ref 38), some (.int x), some (.int (nI t)), some (.int (humS F (sHu s) (nI t))), some (.int (lstS (bitW x) s (nI t) (fN F))), some (.int (nI (fN F)))]) (S' := [.int (-1), .int (nI t), .ref 38]) (σ' := lm_T M1 v G) rfl trivial ?_
          rw [← en]
          refine lm_G_ca (j := 65) (as := [.ref 38, .int (nI t), .int (newS F (bitW x) s (nI t))]) (rest := []) rfl (Or.inl rfl) (Nat.le_of_ble_eq_true rfl) (Nat.le_of_ble_eq_true rfl) (Nat.le_of_ble_eq_true rfl) (Nat.le_of_ble_eq_true rfl) rfl ?_
          refine c_giveTo38 hF h1 ht (fun M2 h2 f2 t2 => ?_)
          show lm_G X (d + 1) 72 106 0 0 85 [some (.ref 38), some (.int x), some (.int (nI t)), some (.int (humS F (sHu s) (nI t))), some (.int (lstS (bitW x) s (nI t) (fN F))), some (.int (nI (fN F)))] [] (lm_T M2 v G) Q
          rw [(stp_ow (fN F)).1] at t2
          rw [show tunS F (bitW x) s t = ownT (stpS (bitW x) s (nI t) (fN F)) t (newS F (bitW x) s (nI t)) from by unfold tunS; rw [z1]; rfl] at hQ
          exact lm_G_re rfl trivial (Nat.zero_le _) (Nat.zero_le _) (hQ _ h2 (FrC_tr f1 f2) (by rw [t2, t1]; unfold tunD; rw [z1]; by_cases w : sOw s t = newS F (bitW x) s (nI t) <;> simp [w]))
        ·
          have en : newS F (bitW x) s (nI t) = lstS (bitW x) s (nI t) (fN F) := by unfold newS; rw [if_pos (Classical.not_not.mp h4)]
          refine lm_G_sg 2 (pc' := 82) (L' := [some (.ref 38), some (.int x), some (.int (nI t)), some (.int (humS F (sHu s) (nI t))), some (.int (lstS (bitW x) s (nI t) (fN F))), some (.int (nI (fN F)))]) (S' := [.int (lstS (bitW x) s (nI t) (fN F)), .int (nI t), .ref 38]) (σ' := lm_T M1 v G) rfl trivial ?_
          rw [← en]
          refine lm_G_ca (j := 65) (as := [.ref 38, .int (nI t), .int (newS F (bitW x) s (nI t))]) (rest := []) rfl (Or.inl rfl) (Nat.le_of_ble_eq_true rfl) (Nat.le_of_ble_eq_true rfl) (Nat.le_of_ble_eq_true rfl) (Nat.le_of_ble_eq_true rfl) rfl ?_
          refine c_giveTo38 hF h1 ht (fun M2 h2 f2 t2 => ?_)
          show lm_G X (d + 1) 72 106 0 0 85 [some (.ref 38), some (.int x), some (.int (nI t)), some (.int (humS F (sHu s) (nI t))), some (.int (newS F (bitW x) s (nI t))), some (.int (nI (fN F)))] [] (lm_T M2 v G) Q
          rw [(stp_ow (fN F)).1] at t2
          rw [show tunS F (bitW x) s t = ownT (stpS (bitW x) s (nI t) (fN F)) t (newS F (bitW x) s (nI t)) from by unfold tunS; rw [z1]; rfl] at hQ
          exact lm_G_re rfl trivial (Nat.zero_le _) (Nat.zero_le _) (hQ _ h2 (FrC_tr f1 f2) (by rw [t2, t1]; unfold tunD; rw [z1]; by_cases w : sOw s t = newS F (bitW x) s (nI t) <;> simp [w]))
  ·
    try dsimp only
    exact ⟨h, FrC_rf _ _, rfl⟩
set_option maxRecDepth 10000 in
theorem c_quiet38 {X : lm_X} {d v : Nat} {M : Nat → Nat → Int32} {G : Nat → Nat → Int64} {Q : lm_O → lm_S → Prop} {F : Fa} {s : Sc} {p : Nat} (hF : okF F) (h : RC 38 M F s) (hs : okS F s) (hp : p < fN F) (hQ : ∀ M1, RC 38 M1 F (allS F (bitW (bit1 (nI p))) s (fM F)) → FrC 38 M M1 → M1 38 13 = M 38 13 + (allD F (bitW (bit1 (nI p))) s (fM F)) → Q (.inl none) (lm_T M1 v G)) : lm_Q X (d + 2) 68 [.ref 38, .int (nI p)] (lm_T M v G) Q := by
  have hn := hF.n
  have hm := hF.m
  show lm_G X (d + 2) 68 106 0 0 0 [some (.ref 38), some (.int (nI p)), none] [] (lm_T M v G) Q
  refine lm_G_sg 4 (pc' := 6) (L' := [some (.ref 38), some (.int (nI p)), none]) (S' := [.int (M 42 (nI p).toNatClampNeg)]) (σ' := lm_T M v G) rfl ⟨(vp_in_nI (by omega) (by omega)), trivial, trivial⟩ ?_
  rw [show (nI p).toNatClampNeg = p from nI_clamp (by omega)]
  rw [show M 42 p = sHu s p from h.hu p (by omega)]
  refine lm_G_sg 3 (pc' := 9) (L' := [some (.ref 38), some (.int (nI p)), some (.int (sHu s p))]) (S' := [.int (-1), .int (sHu s p)]) (σ' := lm_T M v G) rfl trivial ?_
  refine lm_G_br (b := (sHu s p) = (-1)) (t := 20) (S' := []) rfl (fun hc => ?_) (fun hc => ?_)
  ·
    obtain ⟨z1, z2⟩ := all_none (F := F) (W := (bitW (bit1 (nI p)))) (s := s) (fun q hq hw => by rw [one_w (by omega) (by omega), decide_eq_true_eq] at hw; rw [hw]; exact hc) hm (fM F) (Nat.le_refl _)
    rw [z1, z2] at hQ
    exact lm_G_re rfl trivial (Nat.zero_le _) (Nat.zero_le _) (hQ _ h (FrC_rf _ _) (by simp))
  ·
    obtain ⟨t, ht, et⟩ := (hs.1 p hp).resolve_left hc
    rw [et]
    show lm_G X (d + 2) 68 106 0 0 12 [some (.ref 38), some (.int (nI p)), some (.int (nI t))] [] (lm_T M v G) Q
    refine lm_G_sg 5 (pc' := 17) (L' := [some (.ref 38), some (.int (nI p)), some (.int (nI t))]) (S' := [.int (nI t), .int (1 <<< ((nI p) &&& 31)), .ref 38]) (σ' := lm_T M v G) rfl trivial ?_
    show lm_G X (d + 2) 68 106 0 0 17 [some (.ref 38), some (.int (nI p)), some (.int (nI t))] [.int (nI t), .int (1 <<< ((nI p) &&& 31)), .ref 38] (lm_T M v G) Q
    obtain ⟨z1, z2⟩ := all_one hF (W := (bitW (bit1 (nI p)))) (s := s) ht (fun q hq hw => by rw [one_w (by omega) (by omega), decide_eq_true_eq] at hw; rw [hw]; exact et) (fM F) (Nat.le_refl _)
    rw [z1, z2, if_pos ht, if_pos ht] at hQ
    refine lm_G_ca (j := 72) (as := [.ref 38, .int (1 <<< ((nI p) &&& 31)), .int (nI t)]) (rest := []) rfl (Or.inl rfl) (Nat.le_of_ble_eq_true rfl) (Nat.le_of_ble_eq_true rfl) (Nat.le_of_ble_eq_true rfl) (Nat.le_of_ble_eq_true rfl) rfl ?_
    refine c_stopT38 hF h ht (fun M1 h1 f1 t1 => ?_)
    show lm_G X (d + 2) 68 106 0 0 20 [some (.ref 38), some (.int (nI p)), some (.int (nI t))] [] (lm_T M1 v G) Q
    exact lm_G_re rfl trivial (Nat.zero_le _) (Nat.zero_le _) (hQ _ h1 f1 t1)
set_option maxRecDepth 10000 in
theorem c_quietT38 {X : lm_X} {d v : Nat} {M : Nat → Nat → Int32} {G : Nat → Nat → Int64} {Q : lm_O → lm_S → Prop} {F : Fa} {s : Sc} {t : Nat} (hF : okF F) (h : RC 38 M F s) (ht : t < fM F) (hQ : ∀ M1, RC 38 M1 F (tunS F (bitW (humS F (sHu s) (nI t))) s t) → FrC 38 M M1 → M1 38 13 = M 38 13 + (tunD F (bitW (humS F (sHu s) (nI t))) s t) → Q (.inl none) (lm_T M1 v G)) : lm_Q X (d + 2) 69 [.ref 38, .int (nI t)] (lm_T M v G) Q := by
  have hn := hF.n
  have hm := hF.m
  show lm_G X (d + 2) 69 106 0 0 0 [some (.ref 38), some (.int (nI t))] [] (lm_T M v G) Q
  refine lm_G_sg 5 (pc' := 7) (L' := [some (.ref 38), some (.int (nI t))]) (S' := [.int (M 46 (nI t).toNatClampNeg), .ref 38]) (σ' := lm_T M v G) rfl ⟨(vp_in_nI (by omega) (by omega)), trivial, trivial⟩ ?_
  rw [show (nI t).toNatClampNeg = t from nI_clamp (by omega)]
  rw [show M 46 t = humS F (sHu s) (nI t) from h.hs t (by omega)]
  refine lm_G_sg 1 (pc' := 8) (L' := [some (.ref 38), some (.int (nI t))]) (S' := [.int (nI t), .int (humS F (sHu s) (nI t)), .ref 38]) (σ' := lm_T M v G) rfl trivial ?_
  refine lm_G_ca (j := 72) (as := [.ref 38, .int (humS F (sHu s) (nI t)), .int (nI t)]) (rest := []) rfl (Or.inl rfl) (Nat.le_of_ble_eq_true rfl) (Nat.le_of_ble_eq_true rfl) (Nat.le_of_ble_eq_true rfl) (Nat.le_of_ble_eq_true rfl) rfl ?_
  refine c_stopT38 hF h ht (fun M1 h1 f1 t1 => ?_)
  show lm_G X (d + 2) 69 106 0 0 11 [some (.ref 38), some (.int (nI t))] [] (lm_T M1 v G) Q
  exact lm_G_re rfl trivial (Nat.zero_le _) (Nat.zero_le _) (hQ _ h1 f1 t1)
set_option maxRecDepth 10000 in
theorem c_clap38 {X : lm_X} {d v : Nat} {M : Nat → Nat → Int32} {G : Nat → Nat → Int64} {Q : lm_O → lm_S → Prop} {F : Fa} {s : Sc} (hF : okF F) (h : RC 38 M F s) (hQ : ∀ M1, RC 38 M1 F (allS F (fun _ => true) s (fM F)) → FrC 38 M M1 → M1 38 13 = M 38 13 + (allD F (fun _ => true) s (fM F)) → Q (.inl none) (lm_T M1 v G)) : lm_Q X (d + 3) 70 [.ref 38] (lm_T M v G) Q := by
  have hn := hF.n
  have hm := hF.m
  show lm_G X (d + 3) 70 106 0 0 0 [some (.ref 38), none] [] (lm_T M v G) Q
  refine lm_G_sg 2 (pc' := 2) (L' := [some (.ref 38), some (.int 0)]) (S' := []) (σ' := lm_T M v G) rfl trivial ?_
  refine lm_ind (α := (Nat → Fn)) (St := fun (j : Nat) zz => (fun (M1 : Nat → Fn) => lm_G X (d + 3) 70 106 0 0 2 [some (.ref 38), some (.int (nI j))] [] (lm_T M1 v G) Q) zz) (Inv := fun (j : Nat) zz => (fun (M1 : Nat → Fn) => RC 38 M1 F (allS F (fun _ => true) s j) ∧ FrC 38 M M1 ∧ M1 38 13 = M 38 13 + allD F (fun _ => true) s j) zz) (fM F) (fun j zz hj hI ih => ?_) (fun zz hI => ?_) (0) M (by omega) ?_
  ·
    revert ih hI
    revert zz
    intro M1 hI ih
    replace hI : RC 38 M1 F (allS F (fun _ => true) s j) ∧ FrC 38 M M1 ∧ M1 38 13 = M 38 13 + allD F (fun _ => true) s j := hI
    replace ih : ∀ (M1 : Nat → Fn) (_ : RC 38 M1 F (allS F (fun _ => true) s (j + 1)) ∧ FrC 38 M M1 ∧ M1 38 13 = M 38 13 + allD F (fun _ => true) s (j + 1)), lm_G X (d + 3) 70 106 0 0 2 [some (.ref 38), some (.int (nI (j + 1)))] [] (lm_T M1 v G) Q := fun M1 q => ih M1 q
    show lm_G X (d + 3) 70 106 0 0 2 [some (.ref 38), some (.int (nI j))] [] (lm_T M1 v G) Q
    obtain ⟨h1, f1, t1⟩ := hI
    refine lm_G_sg 4 (pc' := 10) (L' := [some (.ref 38), some (.int (nI j))]) (S' := [.int (M1 14 6), .int (nI j)]) (σ' := lm_T M1 v G) rfl trivial ?_
    rw [show M1 14 6 = nI (fM F) from h1.m]
    refine lm_G_br (b := (nI (fM F)) ≤ (nI j)) (t := 24) (S' := []) rfl (fun hc => absurd hc (nI_ge hj (by omega))) (fun hc => ?_)
    refine lm_G_sg 2 (pc' := 15) (L' := [some (.ref 38), some (.int (nI j))]) (S' := [.int (nI j), .ref 38]) (σ' := lm_T M1 v G) rfl trivial ?_
    refine lm_G_ca (j := 69) (as := [.ref 38, .int (nI j)]) (rest := []) rfl (Or.inl rfl) (Nat.le_of_ble_eq_true rfl) (Nat.le_of_ble_eq_true rfl) (Nat.le_of_ble_eq_true rfl) (Nat.le_of_ble_eq_true rfl) rfl ?_
    refine c_quietT38 hF h1 hj (fun M2 h2 f2 t2 => ?_)
    show lm_G X (d + 3) 70 106 0 0 18 [some (.ref 38), some (.int (nI j))] [] (lm_T M2 v G) Q
    refine lm_G_sg 1 (pc' := 21) (L' := [some (.ref 38), some (.int ((nI j) + 1))]) (S' := []) (σ' := lm_T M2 v G) rfl trivial ?_
    rw [nI_1]
    refine lm_G_sg 1 (pc' := 2) (L' := [some (.ref 38), some (.int (nI (j + 1)))]) (S' := []) (σ' := lm_T M2 v G) rfl trivial ?_
    obtain ⟨z1, z2⟩ := tun_cg (F := F) (W := bitW (humS F (sHu (allS F (fun _ => true) s j)) (nI j))) (V := (fun _ => true)) (s := (allS F (fun _ => true) s j)) (t := j) (fun q hq hw => by rw [hum_w hF hq, hw]; simp)
    rw [z1] at h2
    rw [z2] at t2
    exact ih _ (⟨h2, FrC_tr f1 f2, by rw [t2, t1, Int32.add_assoc]; rfl⟩)
  ·
    revert hI
    revert zz
    intro M1 hI
    replace hI : RC 38 M1 F (allS F (fun _ => true) s (fM F)) ∧ FrC 38 M M1 ∧ M1 38 13 = M 38 13 + allD F (fun _ => true) s (fM F) := hI
    show lm_G X (d + 3) 70 106 0 0 2 [some (.ref 38), some (.int (nI (fM F)))] [] (lm_T M1 v G) Q
    obtain ⟨h1, f1, t1⟩ := hI
    refine lm_G_sg 4 (pc' := 10) (L' := [some (.ref 38), some (.int (nI (fM F)))]) (S' := [.int (M1 14 6), .int (nI (fM F))]) (σ' := lm_T M1 v G) rfl trivial ?_
    rw [show M1 14 6 = nI (fM F) from h1.m]
    refine lm_G_br (b := (nI (fM F)) ≤ (nI (fM F))) (t := 24) (S' := []) rfl (fun hc => ?_) (fun hc => absurd (nI_le (Nat.le_refl _) (by omega)) hc)
    exact lm_G_re rfl trivial (Nat.zero_le _) (Nat.zero_le _) (hQ _ h1 f1 t1)
  ·
    try dsimp only
    exact ⟨h, FrC_rf _ _, by simp [allD]⟩
set_option maxRecDepth 10000 in
theorem c_nearest38 {X : lm_X} {d v : Nat} {M : Nat → Nat → Int32} {G : Nat → Nat → Int64} {Q : lm_O → lm_S → Prop} {F : Fa} {s : Sc} {p t : Nat} (hF : okF F) (h : RC 38 M F s) (hp : p < fN F) (ht : t < fM F) (hQ : Q (.inl (some (.int (nearS F s p (nI t) 30 (fN F))))) (lm_T M v G)) : lm_Q X d 79 [.ref 38, .int (nI p), .int (nI t)] (lm_T M v G) Q := by
  have hn := hF.n
  have hm := hF.m
  show lm_G X d 79 106 0 0 0 [some (.ref 38), some (.int (nI p)), some (.int (nI t)), none, none] [] (lm_T M v G) Q
  refine lm_G_sg 4 (pc' := 6) (L' := [some (.ref 38), some (.int (nI p)), some (.int (nI t)), some (.int 30), some (.int 0)]) (S' := []) (σ' := lm_T M v G) rfl trivial ?_
  refine lm_ind (α := Unit) (St := fun (j : Nat) zz => lm_G X d 79 106 0 0 6 [some (.ref 38), some (.int (nI p)), some (.int (nI t)), some (.int (nearS F s p (nI t) 30 j)), some (.int (nI j))] [] (lm_T M v G) Q) (Inv := fun (j : Nat) zz => True) (fN F) (fun j zz hj hI ih => ?_) (fun zz hI => ?_) (0) () (by omega) ?_
  ·
    replace hI : True := hI
    replace ih : ∀ (_ : True), lm_G X d 79 106 0 0 6 [some (.ref 38), some (.int (nI p)), some (.int (nI t)), some (.int (nearS F s p (nI t) 30 (j + 1))), some (.int (nI (j + 1)))] [] (lm_T M v G) Q := fun q => ih () q
    show lm_G X d 79 106 0 0 6 [some (.ref 38), some (.int (nI p)), some (.int (nI t)), some (.int (nearS F s p (nI t) 30 j)), some (.int (nI j))] [] (lm_T M v G) Q
    have eb := hum_w (hu := sHu s) (t := nI t) hF hj
    refine lm_G_sg 4 (pc' := 15) (L' := [some (.ref 38), some (.int (nI p)), some (.int (nI t)), some (.int (nearS F s p (nI t) 30 j)), some (.int (nI j))]) (S' := [.int (M 14 0), .int (nI j)]) (σ' := lm_T M v G) rfl trivial ?_
    rw [show M 14 0 = nI (fN F) from h.n]
    refine lm_G_br (b := (nI (fN F)) ≤ (nI j)) (t := 61) (S' := []) rfl (fun hc => absurd hc (nI_ge hj (by omega))) (fun hc => ?_)
    refine lm_G_sg 4 (pc' := 24) (L' := [some (.ref 38), some (.int (nI p)), some (.int (nI t)), some (.int (nearS F s p (nI t) 30 j)), some (.int (nI j))]) (S' := [.int (M 46 (nI t).toNatClampNeg)]) (σ' := lm_T M v G) rfl ⟨(vp_in_nI (by omega) (by omega)), trivial, trivial⟩ ?_
    rw [show (nI t).toNatClampNeg = t from nI_clamp (by omega)]
    rw [show M 46 t = humS F (sHu s) (nI t) from h.hs t (by omega)]
    refine lm_G_sg 5 (pc' := 30) (L' := [some (.ref 38), some (.int (nI p)), some (.int (nI t)), some (.int (nearS F s p (nI t) 30 j)), some (.int (nI j))]) (S' := [.int 1, .int (((humS F (sHu s) (nI t)) >>> ((nI j) &&& 31)) &&& 1)]) (σ' := lm_T M v G) rfl trivial ?_
    refine lm_G_br (b := ¬ (((humS F (sHu s) (nI t)) >>> ((nI j) &&& 31)) &&& 1) = 1) (t := 55) (S' := []) rfl (fun h3 => ?_) (fun h3 => ?_)
    ·
      refine lm_G_sg 1 (pc' := 58) (L' := [some (.ref 38), some (.int (nI p)), some (.int (nI t)), some (.int (nearS F s p (nI t) 30 j)), some (.int ((nI j) + 1))]) (S' := []) (σ' := lm_T M v G) rfl trivial ?_
      rw [nI_1]
      refine lm_G_sg 1 (pc' := 6) (L' := [some (.ref 38), some (.int (nI p)), some (.int (nI t)), some (.int (nearS F s p (nI t) 30 j)), some (.int (nI (j + 1)))]) (S' := []) (σ' := lm_T M v G) rfl trivial ?_
      have ed : ¬ decide (sHu s j = nI t) = true := by rw [← eb]; unfold bitW; rw [decide_eq_false h3]; decide
      rw [show nearS F s p (nI t) 30 j = nearS F s p (nI t) 30 (j + 1) from by simp only [nearS]; rw [if_neg ed]]
      exact ih  trivial
    ·
      refine lm_G_sg 5 (pc' := 40) (L' := [some (.ref 38), some (.int (nI p)), some (.int (nI t)), some (.int (nearS F s p (nI t) 30 j)), some (.int (nI j))]) (S' := [.int (M 40 (nI p).toNatClampNeg), .int (nearS F s p (nI t) 30 j)]) (σ' := lm_T M v G) rfl ⟨(vp_in_nI (by omega) (by omega)), trivial, trivial⟩ ?_
      rw [show (nI p).toNatClampNeg = p from nI_clamp (by omega)]
      rw [show M 40 p = sPl s p from h.pl p (by omega)]
      refine lm_G_sg 4 (pc' := 47) (L' := [some (.ref 38), some (.int (nI p)), some (.int (nI t)), some (.int (nearS F s p (nI t) 30 j)), some (.int (nI j))]) (S' := [.int (M 40 (nI j).toNatClampNeg), .int (sPl s p), .int (nearS F s p (nI t) 30 j)]) (σ' := lm_T M v G) rfl ⟨(vp_in_nI (by omega) (by omega)), trivial, trivial⟩ ?_
      rw [show (nI j).toNatClampNeg = j from nI_clamp (by omega)]
      rw [show M 40 j = sPl s j from h.pl j (by omega)]
      refine lm_G_sg 5 (pc' := 58) (L' := [some (.ref 38), some (.int (nI p)), some (.int (nI t)), some (.int (if (absI ((sPl s p) - (sPl s j))) < (nearS F s p (nI t) 30 j) then (absI ((sPl s p) - (sPl s j))) else (nearS F s p (nI t) 30 j))), some (.int ((nI j) + 1))]) (S' := []) (σ' := lm_T M v G) rfl ⟨trivial, (Nat.le_of_ble_eq_true rfl), trivial, (Nat.le_of_ble_eq_true rfl), trivial⟩ ?_
      rw [nI_1]
      refine lm_G_sg 1 (pc' := 6) (L' := [some (.ref 38), some (.int (nI p)), some (.int (nI t)), some (.int (if (absI ((sPl s p) - (sPl s j))) < (nearS F s p (nI t) 30 j) then (absI ((sPl s p) - (sPl s j))) else (nearS F s p (nI t) 30 j))), some (.int (nI (j + 1)))]) (S' := []) (σ' := lm_T M v G) rfl trivial ?_
      have ed : decide (sHu s j = nI t) = true := by rw [← eb]; exact decide_eq_true (Classical.not_not.mp h3)
      rw [show (if (absI ((sPl s p) - (sPl s j))) < (nearS F s p (nI t) 30 j) then (absI ((sPl s p) - (sPl s j))) else (nearS F s p (nI t) 30 j)) = nearS F s p (nI t) 30 (j + 1) from by simp only [nearS]; rw [if_pos ed]]
      exact ih  trivial
  ·
    replace hI : True := hI
    show lm_G X d 79 106 0 0 6 [some (.ref 38), some (.int (nI p)), some (.int (nI t)), some (.int (nearS F s p (nI t) 30 (fN F))), some (.int (nI (fN F)))] [] (lm_T M v G) Q
    refine lm_G_sg 4 (pc' := 15) (L' := [some (.ref 38), some (.int (nI p)), some (.int (nI t)), some (.int (nearS F s p (nI t) 30 (fN F))), some (.int (nI (fN F)))]) (S' := [.int (M 14 0), .int (nI (fN F))]) (σ' := lm_T M v G) rfl trivial ?_
    rw [show M 14 0 = nI (fN F) from h.n]
    refine lm_G_br (b := (nI (fN F)) ≤ (nI (fN F))) (t := 61) (S' := []) rfl (fun hc => ?_) (fun hc => absurd (nI_le (Nat.le_refl _) (by omega)) hc)
    refine lm_G_sg 1 (pc' := 62) (L' := [some (.ref 38), some (.int (nI p)), some (.int (nI t)), some (.int (nearS F s p (nI t) 30 (fN F))), some (.int (nI (fN F)))]) (S' := [.int (nearS F s p (nI t) 30 (fN F))]) (σ' := lm_T M v G) rfl trivial ?_
    exact lm_G_re rfl trivial (Nat.zero_le _) (Nat.zero_le _) hQ
  ·
    trivial
set_option maxRecDepth 10000 in
theorem c_ruleGives0_38 {X : lm_X} {d v : Nat} {M : Nat → Nat → Int32} {G : Nat → Nat → Int64} {Q : lm_O → lm_S → Prop} {F : Fa} {s : Sc} {p t : Nat} {x : Int32} (hF : okF F) (h : RC 38 M F s) (hp : p < fN F) (ht : t < fM F) (hQ : ∀ M1, Fr frR M M1 → Q (.inl (some (.int (if fR0 F = [] then 0 else reckS (vsS F s p t x) (fR0 F))))) (lm_T M1 v G)) : lm_Q X (d + 2) 78 [.ref 38, .int 0, .int (nI p), .int (nI t), .int x] (lm_T M v G) Q := by
  have hn := hF.n
  have hm := hF.m
  show lm_G X (d + 2) 78 106 0 0 0 [some (.ref 38), some (.int 0), some (.int (nI p)), some (.int (nI t)), some (.int x)] [] (lm_T M v G) Q
  obtain ⟨a, a1, a2, a3, a4⟩ := h.r0
  refine lm_G_sg 3 (pc' := 5) (L' := [some (.ref 38), some (.int 0), some (.int (nI p)), some (.int (nI t)), some (.int x)]) (S' := [.int 0, .ref 14]) (σ' := lm_T M v G) rfl trivial ?_
  refine lm_G_ca (j := 13) (as := [.ref 14, .int 0]) (rest := []) rfl (Or.inl rfl) (Nat.le_of_ble_eq_true rfl) (Nat.le_of_ble_eq_true rfl) (Nat.le_of_ble_eq_true rfl) (Nat.le_of_ble_eq_true rfl) rfl ?_
  refine c_hasRule0 a1 a2 a3 ?_
  show lm_G X (d + 2) 78 106 0 0 8 [some (.ref 38), some (.int 0), some (.int (nI p)), some (.int (nI t)), some (.int x)] [.int (b2i (decide ((fR0 F).length ≠ 0)))] (lm_T M v G) Q
  refine lm_G_br (b := ¬ (b2i (decide ((fR0 F).length ≠ 0))) = 0) (t := 13) (S' := []) rfl (fun hc => ?_) (fun hc => ?_)
  ·
    have e0 : fR0 F ≠ [] := fun w => by have := b2i_1 hc; rw [w] at this; cases this
    rw [if_neg e0] at hQ
    refine lm_G_sg 8 (pc' := 27) (L' := [some (.ref 38), some (.int 0), some (.int (nI p)), some (.int (nI t)), some (.int x)]) (S' := [.int (M 39 (nI p).toNatClampNeg), .int 0, .ref 27]) (σ' := lm_T M v G) rfl ⟨(vp_in_nI (by omega) (by omega)), trivial, trivial⟩ ?_
    rw [show (nI p).toNatClampNeg = p from nI_clamp (by omega)]
    rw [show M 39 p = sBr s p from h.br p (by omega)]
    refine lm_G_sg 10 (pc' := 45) (L' := [some (.ref 38), some (.int 0), some (.int (nI p)), some (.int (nI t)), some (.int x)]) (S' := [.int ((lm_wr M 27 0 (sBr s p)) 20 (nI t).toNatClampNeg), .int 1, .ref 27]) (σ' := lm_T (lm_wr M 27 0 (sBr s p)) v G) rfl ⟨(lm_inb_ok rfl), trivial, (vp_in_nI (by omega) (by omega)), trivial, trivial⟩ ?_
    rw [show (nI t).toNatClampNeg = t from nI_clamp (by omega)]
    show lm_G X (d + 2) 78 106 0 0 45 [some (.ref 38), some (.int 0), some (.int (nI p)), some (.int (nI t)), some (.int x)] [.int (M 20 t), .int 1, .ref 27] (lm_T (lm_wr M 27 0 (sBr s p)) v G) Q
    rw [show M 20 t = fAi F t from h.ai t (by omega)]
    refine lm_G_sg 9 (pc' := 60) (L' := [some (.ref 38), some (.int 0), some (.int (nI p)), some (.int (nI t)), some (.int x)]) (S' := [.int ((lm_wr (lm_wr M 27 0 (sBr s p)) 27 1 (fAi F t)) 46 (nI t).toNatClampNeg), .int 2, .ref 27]) (σ' := lm_T (lm_wr (lm_wr M 27 0 (sBr s p)) 27 1 (fAi F t)) v G) rfl ⟨(lm_inb_ok rfl), trivial, (vp_in_nI (by omega) (by omega)), trivial, trivial⟩ ?_
    rw [show (nI t).toNatClampNeg = t from nI_clamp (by omega)]
    show lm_G X (d + 2) 78 106 0 0 60 [some (.ref 38), some (.int 0), some (.int (nI p)), some (.int (nI t)), some (.int x)] [.int (M 46 t), .int 2, .ref 27] (lm_T (lm_wr (lm_wr M 27 0 (sBr s p)) 27 1 (fAi F t)) v G) Q
    rw [show M 46 t = humS F (sHu s) (nI t) from h.hs t (by omega)]
    refine lm_G_sg 6 (pc' := 66) (L' := [some (.ref 38), some (.int 0), some (.int (nI p)), some (.int (nI t)), some (.int x)]) (S' := [.int ((humS F (sHu s) (nI t)) &&& ((1 <<< ((nI p) &&& 31)) ^^^ (-1))), .int 2, .ref 27]) (σ' := lm_T (lm_wr (lm_wr M 27 0 (sBr s p)) 27 1 (fAi F t)) v G) rfl trivial ?_
    show lm_G X (d + 2) 78 106 0 0 66 [some (.ref 38), some (.int 0), some (.int (nI p)), some (.int (nI t)), some (.int x)] [.int ((humS F (sHu s) (nI t)) &&& ((1 <<< ((nI p) &&& 31)) ^^^ (-1))), .int 2, .ref 27] (lm_T (lm_wr (lm_wr M 27 0 (sBr s p)) 27 1 (fAi F t)) v G) Q
    refine lm_G_ca (j := 244) (as := [.int ((humS F (sHu s) (nI t)) &&& ((1 <<< ((nI p) &&& 31)) ^^^ (-1)))]) (rest := [.int 2, .ref 27]) rfl (Or.inl rfl) (Nat.le_of_ble_eq_true rfl) (Nat.le_of_ble_eq_true rfl) (Nat.le_of_ble_eq_true rfl) (Nat.le_of_ble_eq_true rfl) rfl ?_
    refine c_bits (and_lt2 (hum_lt hF _ _) _) ?_
    show lm_G X (d + 2) 78 106 0 0 69 [some (.ref 38), some (.int 0), some (.int (nI p)), some (.int (nI t)), some (.int x)] [.int (cnt (humS F (sHu s) (nI t) &&& (bit1 (nI p) ^^^ (-1)))), .int 2, .ref 27] (lm_T (lm_wr (lm_wr M 27 0 (sBr s p)) 27 1 (fAi F t)) v G) Q
    refine lm_G_sg 7 (pc' := 80) (L' := [some (.ref 38), some (.int 0), some (.int (nI p)), some (.int (nI t)), some (.int x)]) (S' := [.int (nI p), .ref 38, .int 3, .ref 27]) (σ' := lm_T (lm_wr (lm_wr (lm_wr M 27 0 (sBr s p)) 27 1 (fAi F t)) 27 2 (cnt (humS F (sHu s) (nI t) &&& (bit1 (nI p) ^^^ (-1))))) v G) rfl ⟨(lm_inb_ok rfl), trivial, trivial⟩ ?_
    refine lm_G_ca (j := 61) (as := [.ref 38, .int (nI p)]) (rest := [.int 3, .ref 27]) rfl (Or.inl rfl) (Nat.le_of_ble_eq_true rfl) (Nat.le_of_ble_eq_true rfl) (Nat.le_of_ble_eq_true rfl) (Nat.le_of_ble_eq_true rfl) rfl ?_
    refine c_howMany38 hF (RC_R38 h (Fr_wr (Fr_wr (Fr_wr (Fr_rf _ _) rfl) rfl) rfl)) ?_
    show lm_G X (d + 2) 78 106 0 0 83 [some (.ref 38), some (.int 0), some (.int (nI p)), some (.int (nI t)), some (.int x)] [.int (cnt (ownS F (sOw s) (nI p))), .int 3, .ref 27] (lm_T (lm_wr (lm_wr (lm_wr M 27 0 (sBr s p)) 27 1 (fAi F t)) 27 2 (cnt (humS F (sHu s) (nI t) &&& (bit1 (nI p) ^^^ (-1))))) v G) Q
    refine lm_G_sg 7 (pc' := 96) (L' := [some (.ref 38), some (.int 0), some (.int (nI p)), some (.int (nI t)), some (.int x)]) (S' := [.int (M 38 2), .int 4, .ref 27]) (σ' := lm_T (lm_wr (lm_wr (lm_wr (lm_wr M 27 0 (sBr s p)) 27 1 (fAi F t)) 27 2 (cnt (humS F (sHu s) (nI t) &&& (bit1 (nI p) ^^^ (-1))))) 27 3 (cnt (ownS F (sOw s) (nI p)))) v G) rfl ⟨(lm_inb_ok rfl), trivial, trivial⟩ ?_
    rw [show M 38 2 = sHr s from h.hr]
    refine lm_G_sg 17 (pc' := 128) (L' := [some (.ref 38), some (.int 0), some (.int (nI p)), some (.int (nI t)), some (.int x)]) (S' := [.int (M 23 0), .ref 22, .ref 25]) (σ' := lm_T (lm_wr (lm_wr (lm_wr (lm_wr (lm_wr (lm_wr M 27 0 (sBr s p)) 27 1 (fAi F t)) 27 2 (cnt (humS F (sHu s) (nI t) &&& (bit1 (nI p) ^^^ (-1))))) 27 3 (cnt (ownS F (sOw s) (nI p)))) 27 4 (sHr s)) 27 5 x) v G) rfl ⟨(lm_inb_ok rfl), trivial, (lm_inb_ok rfl), trivial, (lm_inb_ok rfl), trivial, trivial⟩ ?_
    rw [show M 23 0 = nI a from a2]
    refine lm_G_sg 5 (pc' := 137) (L' := [some (.ref 38), some (.int 0), some (.int (nI p)), some (.int (nI t)), some (.int x)]) (S' := [.int (M 24 0), .int (nI a), .ref 22, .ref 25]) (σ' := lm_T (lm_wr (lm_wr (lm_wr (lm_wr (lm_wr (lm_wr M 27 0 (sBr s p)) 27 1 (fAi F t)) 27 2 (cnt (humS F (sHu s) (nI t) &&& (bit1 (nI p) ^^^ (-1))))) 27 3 (cnt (ownS F (sOw s) (nI p)))) 27 4 (sHr s)) 27 5 x) v G) rfl ⟨(lm_inb_ok rfl), trivial, trivial⟩ ?_
    rw [show M 24 0 = nI (a + (fR0 F).length) from a3]
    refine lm_G_ca (j := 48) (as := [.ref 25, .ref 22, .int (nI a), .int (nI (a + (fR0 F).length))]) (rest := []) rfl (Or.inl rfl) (Nat.le_of_ble_eq_true rfl) (Nat.le_of_ble_eq_true rfl) (Nat.le_of_ble_eq_true rfl) (Nat.le_of_ble_eq_true rfl) rfl ?_
    refine c_reckon (vs := vsS F s p t x) a1 ((hF.2.2.1).resolve_left e0) a4 (fun j hj => by rcases (by omega : j = 0 ∨ j = 1 ∨ j = 2 ∨ j = 3 ∨ j = 4 ∨ j = 5) with e | e | e | e | e | e <;> subst e <;> rfl) (fun M1 f1 => ?_)
    show lm_G X (d + 2) 78 106 0 0 140 [some (.ref 38), some (.int 0), some (.int (nI p)), some (.int (nI t)), some (.int x)] [.int (reckS (vsS F s p t x) (fR0 F))] (lm_T M1 v G) Q
    exact lm_G_re rfl trivial (Nat.zero_le _) (Nat.zero_le _) (hQ _ (Fr_tr (Fr_wr (Fr_wr (Fr_wr (Fr_wr (Fr_wr (Fr_wr (Fr_rf _ _) rfl) rfl) rfl) rfl) rfl) rfl) (Fr_SR f1)))
  ·
    have e0 : fR0 F = [] := by
      have := b2i_0 (Classical.not_not.mp hc)
      simpa using this
    rw [if_pos e0] at hQ
    refine lm_G_sg 1 (pc' := 12) (L' := [some (.ref 38), some (.int 0), some (.int (nI p)), some (.int (nI t)), some (.int x)]) (S' := [.int 0]) (σ' := lm_T M v G) rfl trivial ?_
    exact lm_G_re rfl trivial (Nat.zero_le _) (Nat.zero_le _) (hQ _ (Fr_rf _ _))
set_option maxRecDepth 10000 in
theorem c_ruleGives1_38 {X : lm_X} {d v : Nat} {M : Nat → Nat → Int32} {G : Nat → Nat → Int64} {Q : lm_O → lm_S → Prop} {F : Fa} {s : Sc} {p t : Nat} {x : Int32} (hF : okF F) (h : RC 38 M F s) (hp : p < fN F) (ht : t < fM F) (hQ : ∀ M1, Fr frR M M1 → Q (.inl (some (.int (if fR1 F = [] then 0 else reckS (vsS F s p t x) (fR1 F))))) (lm_T M1 v G)) : lm_Q X (d + 2) 78 [.ref 38, .int 1, .int (nI p), .int (nI t), .int x] (lm_T M v G) Q := by
  have hn := hF.n
  have hm := hF.m
  show lm_G X (d + 2) 78 106 0 0 0 [some (.ref 38), some (.int 1), some (.int (nI p)), some (.int (nI t)), some (.int x)] [] (lm_T M v G) Q
  obtain ⟨a, a1, a2, a3, a4⟩ := h.r1
  refine lm_G_sg 3 (pc' := 5) (L' := [some (.ref 38), some (.int 1), some (.int (nI p)), some (.int (nI t)), some (.int x)]) (S' := [.int 1, .ref 14]) (σ' := lm_T M v G) rfl trivial ?_
  refine lm_G_ca (j := 13) (as := [.ref 14, .int 1]) (rest := []) rfl (Or.inl rfl) (Nat.le_of_ble_eq_true rfl) (Nat.le_of_ble_eq_true rfl) (Nat.le_of_ble_eq_true rfl) (Nat.le_of_ble_eq_true rfl) rfl ?_
  refine c_hasRule1 a1 a2 a3 ?_
  show lm_G X (d + 2) 78 106 0 0 8 [some (.ref 38), some (.int 1), some (.int (nI p)), some (.int (nI t)), some (.int x)] [.int (b2i (decide ((fR1 F).length ≠ 0)))] (lm_T M v G) Q
  refine lm_G_br (b := ¬ (b2i (decide ((fR1 F).length ≠ 0))) = 0) (t := 13) (S' := []) rfl (fun hc => ?_) (fun hc => ?_)
  ·
    have e0 : fR1 F ≠ [] := fun w => by have := b2i_1 hc; rw [w] at this; cases this
    rw [if_neg e0] at hQ
    refine lm_G_sg 8 (pc' := 27) (L' := [some (.ref 38), some (.int 1), some (.int (nI p)), some (.int (nI t)), some (.int x)]) (S' := [.int (M 39 (nI p).toNatClampNeg), .int 0, .ref 27]) (σ' := lm_T M v G) rfl ⟨(vp_in_nI (by omega) (by omega)), trivial, trivial⟩ ?_
    rw [show (nI p).toNatClampNeg = p from nI_clamp (by omega)]
    rw [show M 39 p = sBr s p from h.br p (by omega)]
    refine lm_G_sg 10 (pc' := 45) (L' := [some (.ref 38), some (.int 1), some (.int (nI p)), some (.int (nI t)), some (.int x)]) (S' := [.int ((lm_wr M 27 0 (sBr s p)) 20 (nI t).toNatClampNeg), .int 1, .ref 27]) (σ' := lm_T (lm_wr M 27 0 (sBr s p)) v G) rfl ⟨(lm_inb_ok rfl), trivial, (vp_in_nI (by omega) (by omega)), trivial, trivial⟩ ?_
    rw [show (nI t).toNatClampNeg = t from nI_clamp (by omega)]
    show lm_G X (d + 2) 78 106 0 0 45 [some (.ref 38), some (.int 1), some (.int (nI p)), some (.int (nI t)), some (.int x)] [.int (M 20 t), .int 1, .ref 27] (lm_T (lm_wr M 27 0 (sBr s p)) v G) Q
    rw [show M 20 t = fAi F t from h.ai t (by omega)]
    refine lm_G_sg 9 (pc' := 60) (L' := [some (.ref 38), some (.int 1), some (.int (nI p)), some (.int (nI t)), some (.int x)]) (S' := [.int ((lm_wr (lm_wr M 27 0 (sBr s p)) 27 1 (fAi F t)) 46 (nI t).toNatClampNeg), .int 2, .ref 27]) (σ' := lm_T (lm_wr (lm_wr M 27 0 (sBr s p)) 27 1 (fAi F t)) v G) rfl ⟨(lm_inb_ok rfl), trivial, (vp_in_nI (by omega) (by omega)), trivial, trivial⟩ ?_
    rw [show (nI t).toNatClampNeg = t from nI_clamp (by omega)]
    show lm_G X (d + 2) 78 106 0 0 60 [some (.ref 38), some (.int 1), some (.int (nI p)), some (.int (nI t)), some (.int x)] [.int (M 46 t), .int 2, .ref 27] (lm_T (lm_wr (lm_wr M 27 0 (sBr s p)) 27 1 (fAi F t)) v G) Q
    rw [show M 46 t = humS F (sHu s) (nI t) from h.hs t (by omega)]
    refine lm_G_sg 6 (pc' := 66) (L' := [some (.ref 38), some (.int 1), some (.int (nI p)), some (.int (nI t)), some (.int x)]) (S' := [.int ((humS F (sHu s) (nI t)) &&& ((1 <<< ((nI p) &&& 31)) ^^^ (-1))), .int 2, .ref 27]) (σ' := lm_T (lm_wr (lm_wr M 27 0 (sBr s p)) 27 1 (fAi F t)) v G) rfl trivial ?_
    show lm_G X (d + 2) 78 106 0 0 66 [some (.ref 38), some (.int 1), some (.int (nI p)), some (.int (nI t)), some (.int x)] [.int ((humS F (sHu s) (nI t)) &&& ((1 <<< ((nI p) &&& 31)) ^^^ (-1))), .int 2, .ref 27] (lm_T (lm_wr (lm_wr M 27 0 (sBr s p)) 27 1 (fAi F t)) v G) Q
    refine lm_G_ca (j := 244) (as := [.int ((humS F (sHu s) (nI t)) &&& ((1 <<< ((nI p) &&& 31)) ^^^ (-1)))]) (rest := [.int 2, .ref 27]) rfl (Or.inl rfl) (Nat.le_of_ble_eq_true rfl) (Nat.le_of_ble_eq_true rfl) (Nat.le_of_ble_eq_true rfl) (Nat.le_of_ble_eq_true rfl) rfl ?_
    refine c_bits (and_lt2 (hum_lt hF _ _) _) ?_
    show lm_G X (d + 2) 78 106 0 0 69 [some (.ref 38), some (.int 1), some (.int (nI p)), some (.int (nI t)), some (.int x)] [.int (cnt (humS F (sHu s) (nI t) &&& (bit1 (nI p) ^^^ (-1)))), .int 2, .ref 27] (lm_T (lm_wr (lm_wr M 27 0 (sBr s p)) 27 1 (fAi F t)) v G) Q
    refine lm_G_sg 7 (pc' := 80) (L' := [some (.ref 38), some (.int 1), some (.int (nI p)), some (.int (nI t)), some (.int x)]) (S' := [.int (nI p), .ref 38, .int 3, .ref 27]) (σ' := lm_T (lm_wr (lm_wr (lm_wr M 27 0 (sBr s p)) 27 1 (fAi F t)) 27 2 (cnt (humS F (sHu s) (nI t) &&& (bit1 (nI p) ^^^ (-1))))) v G) rfl ⟨(lm_inb_ok rfl), trivial, trivial⟩ ?_
    refine lm_G_ca (j := 61) (as := [.ref 38, .int (nI p)]) (rest := [.int 3, .ref 27]) rfl (Or.inl rfl) (Nat.le_of_ble_eq_true rfl) (Nat.le_of_ble_eq_true rfl) (Nat.le_of_ble_eq_true rfl) (Nat.le_of_ble_eq_true rfl) rfl ?_
    refine c_howMany38 hF (RC_R38 h (Fr_wr (Fr_wr (Fr_wr (Fr_rf _ _) rfl) rfl) rfl)) ?_
    show lm_G X (d + 2) 78 106 0 0 83 [some (.ref 38), some (.int 1), some (.int (nI p)), some (.int (nI t)), some (.int x)] [.int (cnt (ownS F (sOw s) (nI p))), .int 3, .ref 27] (lm_T (lm_wr (lm_wr (lm_wr M 27 0 (sBr s p)) 27 1 (fAi F t)) 27 2 (cnt (humS F (sHu s) (nI t) &&& (bit1 (nI p) ^^^ (-1))))) v G) Q
    refine lm_G_sg 7 (pc' := 96) (L' := [some (.ref 38), some (.int 1), some (.int (nI p)), some (.int (nI t)), some (.int x)]) (S' := [.int (M 38 2), .int 4, .ref 27]) (σ' := lm_T (lm_wr (lm_wr (lm_wr (lm_wr M 27 0 (sBr s p)) 27 1 (fAi F t)) 27 2 (cnt (humS F (sHu s) (nI t) &&& (bit1 (nI p) ^^^ (-1))))) 27 3 (cnt (ownS F (sOw s) (nI p)))) v G) rfl ⟨(lm_inb_ok rfl), trivial, trivial⟩ ?_
    rw [show M 38 2 = sHr s from h.hr]
    refine lm_G_sg 17 (pc' := 128) (L' := [some (.ref 38), some (.int 1), some (.int (nI p)), some (.int (nI t)), some (.int x)]) (S' := [.int (M 23 1), .ref 22, .ref 25]) (σ' := lm_T (lm_wr (lm_wr (lm_wr (lm_wr (lm_wr (lm_wr M 27 0 (sBr s p)) 27 1 (fAi F t)) 27 2 (cnt (humS F (sHu s) (nI t) &&& (bit1 (nI p) ^^^ (-1))))) 27 3 (cnt (ownS F (sOw s) (nI p)))) 27 4 (sHr s)) 27 5 x) v G) rfl ⟨(lm_inb_ok rfl), trivial, (lm_inb_ok rfl), trivial, (lm_inb_ok rfl), trivial, trivial⟩ ?_
    rw [show M 23 1 = nI a from a2]
    refine lm_G_sg 5 (pc' := 137) (L' := [some (.ref 38), some (.int 1), some (.int (nI p)), some (.int (nI t)), some (.int x)]) (S' := [.int (M 24 1), .int (nI a), .ref 22, .ref 25]) (σ' := lm_T (lm_wr (lm_wr (lm_wr (lm_wr (lm_wr (lm_wr M 27 0 (sBr s p)) 27 1 (fAi F t)) 27 2 (cnt (humS F (sHu s) (nI t) &&& (bit1 (nI p) ^^^ (-1))))) 27 3 (cnt (ownS F (sOw s) (nI p)))) 27 4 (sHr s)) 27 5 x) v G) rfl ⟨(lm_inb_ok rfl), trivial, trivial⟩ ?_
    rw [show M 24 1 = nI (a + (fR1 F).length) from a3]
    refine lm_G_ca (j := 48) (as := [.ref 25, .ref 22, .int (nI a), .int (nI (a + (fR1 F).length))]) (rest := []) rfl (Or.inl rfl) (Nat.le_of_ble_eq_true rfl) (Nat.le_of_ble_eq_true rfl) (Nat.le_of_ble_eq_true rfl) (Nat.le_of_ble_eq_true rfl) rfl ?_
    refine c_reckon (vs := vsS F s p t x) a1 ((hF.2.2.2.1).resolve_left e0) a4 (fun j hj => by rcases (by omega : j = 0 ∨ j = 1 ∨ j = 2 ∨ j = 3 ∨ j = 4 ∨ j = 5) with e | e | e | e | e | e <;> subst e <;> rfl) (fun M1 f1 => ?_)
    show lm_G X (d + 2) 78 106 0 0 140 [some (.ref 38), some (.int 1), some (.int (nI p)), some (.int (nI t)), some (.int x)] [.int (reckS (vsS F s p t x) (fR1 F))] (lm_T M1 v G) Q
    exact lm_G_re rfl trivial (Nat.zero_le _) (Nat.zero_le _) (hQ _ (Fr_tr (Fr_wr (Fr_wr (Fr_wr (Fr_wr (Fr_wr (Fr_wr (Fr_rf _ _) rfl) rfl) rfl) rfl) rfl) rfl) (Fr_SR f1)))
  ·
    have e0 : fR1 F = [] := by
      have := b2i_0 (Classical.not_not.mp hc)
      simpa using this
    rw [if_pos e0] at hQ
    refine lm_G_sg 1 (pc' := 12) (L' := [some (.ref 38), some (.int 1), some (.int (nI p)), some (.int (nI t)), some (.int x)]) (S' := [.int 0]) (σ' := lm_T M v G) rfl trivial ?_
    exact lm_G_re rfl trivial (Nat.zero_le _) (Nat.zero_le _) (hQ _ (Fr_rf _ _))
set_option maxRecDepth 10000 in
theorem c_ask38 {X : lm_X} {d v : Nat} {M : Nat → Nat → Int32} {G : Nat → Nat → Int64} {Q : lm_O → lm_S → Prop} {F : Fa} {s : Sc} (hF : okF F) (h : RC 38 M F s) (hs : okS F s) (hQ : ∀ M1, Fr frR M M1 → Q (.inl (some (.int (msk (stopW F s) (fN F))))) (lm_T M1 v G)) : lm_Q X (d + 4) 75 [.ref 38] (lm_T M v G) Q := by
  have hn := hF.n
  have hm := hF.m
  show lm_G X (d + 4) 75 106 0 0 0 [some (.ref 38), none, none, none, none] [] (lm_T M v G) Q
  refine lm_G_sg 4 (pc' := 4) (L' := [some (.ref 38), some (.int 0), some (.int 0), none, none]) (S' := []) (σ' := lm_T M v G) rfl trivial ?_
  refine lm_ind (α := (Nat → Fn)) (St := fun (j : Nat) zz => (fun (M1 : Nat → Fn) => lm_G X (d + 4) 75 106 0 0 4 [some (.ref 38), some (.int (msk (stopW F s) j)), some (.int (nI j)), none, none] [] (lm_T M1 v G) Q) zz) (Inv := fun (j : Nat) zz => (fun (M1 : Nat → Fn) => Fr frR M M1) zz) (fN F) (fun j zz hj hI ih => ?_) (fun zz hI => ?_) (0) M (by omega) ?_
  ·
    revert ih hI
    revert zz
    intro M1 hI ih
    replace hI : Fr frR M M1 := hI
    replace ih : ∀ (M1 : Nat → Fn) (_ : Fr frR M M1), lm_G X (d + 4) 75 106 0 0 4 [some (.ref 38), some (.int (msk (stopW F s) (j + 1))), some (.int (nI (j + 1))), none, none] [] (lm_T M1 v G) Q := fun M1 q => ih M1 q
    show lm_G X (d + 4) 75 106 0 0 4 [some (.ref 38), some (.int (msk (stopW F s) j)), some (.int (nI j)), none, none] [] (lm_T M1 v G) Q
    have h1 := RC_R38 h hI
    refine lm_G_sg 4 (pc' := 12) (L' := [some (.ref 38), some (.int (msk (stopW F s) j)), some (.int (nI j)), none, none]) (S' := [.int (M1 14 0), .int (nI j)]) (σ' := lm_T M1 v G) rfl trivial ?_
    rw [show M1 14 0 = nI (fN F) from h1.n]
    refine lm_G_br (b := (nI (fN F)) ≤ (nI j)) (t := 82) (S' := []) rfl (fun hc => absurd hc (nI_ge hj (by omega))) (fun hc => ?_)
    refine lm_G_sg 4 (pc' := 21) (L' := [some (.ref 38), some (.int (msk (stopW F s) j)), some (.int (nI j)), none, none]) (S' := [.int (M1 42 (nI j).toNatClampNeg)]) (σ' := lm_T M1 v G) rfl ⟨(vp_in_nI (by omega) (by omega)), trivial, trivial⟩ ?_
    rw [show (nI j).toNatClampNeg = j from nI_clamp (by omega)]
    rw [show M1 42 j = sHu s j from h1.hu j (by omega)]
    refine lm_G_sg 5 (pc' := 28) (L' := [some (.ref 38), some (.int (msk (stopW F s) j)), some (.int (nI j)), some (.int (sHu s j)), none]) (S' := [.int (M1 43 (nI j).toNatClampNeg)]) (σ' := lm_T M1 v G) rfl ⟨(vp_in_nI (by omega) (by omega)), trivial, trivial⟩ ?_
    rw [show (nI j).toNatClampNeg = j from nI_clamp (by omega)]
    rw [show M1 43 j = sHd s j from h1.hd j (by omega)]
    refine lm_G_sg 4 (pc' := 34) (L' := [some (.ref 38), some (.int (msk (stopW F s) j)), some (.int (nI j)), some (.int (sHu s j)), none]) (S' := [.int (M1 39 (nI j).toNatClampNeg), .int (sHd s j)]) (σ' := lm_T M1 v G) rfl ⟨(vp_in_nI (by omega) (by omega)), trivial, trivial⟩ ?_
    rw [show (nI j).toNatClampNeg = j from nI_clamp (by omega)]
    rw [show M1 39 j = sBr s j from h1.br j (by omega)]
    refine lm_G_br (b := (sHd s j) < (sBr s j)) (t := 41) (S' := []) rfl (fun h3 => ?_) (fun h3 => ?_)
    ·
      refine lm_G_sg 4 (pc' := 46) (L' := [some (.ref 38), some (.int (msk (stopW F s) j)), some (.int (nI j)), some (.int (sHu s j)), some (.int 0)]) (S' := [.int (-1), .int (sHu s j)]) (σ' := lm_T M1 v G) rfl trivial ?_
      refine lm_G_br (b := (sHu s j) = (-1)) (t := 76) (S' := []) rfl (fun h4 => ?_) (fun h4 => ?_)
      ·
        refine lm_G_sg 1 (pc' := 79) (L' := [some (.ref 38), some (.int (msk (stopW F s) j)), some (.int ((nI j) + 1)), some (.int (sHu s j)), some (.int 0)]) (S' := []) (σ' := lm_T M1 v G) rfl trivial ?_
        rw [nI_1]
        refine lm_G_sg 1 (pc' := 4) (L' := [some (.ref 38), some (.int (msk (stopW F s) j)), some (.int (nI (j + 1))), some (.int (sHu s j)), some (.int 0)]) (S' := []) (σ' := lm_T M1 v G) rfl trivial ?_
        rw [← msk_f (f := (stopW F s)) (by unfold stopW; simp [h4])]
        refine lm_G_jk (L := [some (.ref 38), some (.int (msk (stopW F s) (j + 1))), some (.int (nI (j + 1))), none, none]) ⟨rfl, rfl, rfl, trivial⟩ ?_
        exact ih _ hI
      ·
        refine lm_G_sg 1 (pc' := 51) (L' := [some (.ref 38), some (.int (msk (stopW F s) j)), some (.int (nI j)), some (.int (sHu s j)), some (.int 0)]) (S' := [.int 0]) (σ' := lm_T M1 v G) rfl trivial ?_
        refine lm_G_br (b := ¬ 0 = 0) (t := 70) (S' := []) rfl (fun hc => absurd hc (by decide)) (fun hc => ?_)
        obtain ⟨t, ht, et⟩ := (hs.1 j hj).resolve_left h4
        rw [et]
        refine lm_G_sg 8 (pc' := 64) (L' := [some (.ref 38), some (.int (msk (stopW F s) j)), some (.int (nI j)), some (.int (nI t)), some (.int 0)]) (S' := [.int (M1 43 (nI j).toNatClampNeg), .int (nI t), .int (nI j), .int 0, .ref 38]) (σ' := lm_T M1 v G) rfl ⟨(vp_in_nI (by omega) (by omega)), trivial, trivial⟩ ?_
        rw [show (nI j).toNatClampNeg = j from nI_clamp (by omega)]
        rw [show M1 43 j = sHd s j from h1.hd j (by omega)]
        refine lm_G_ca (j := 78) (as := [.ref 38, .int 0, .int (nI j), .int (nI t), .int (sHd s j)]) (rest := []) rfl (Or.inl rfl) (Nat.le_of_ble_eq_true rfl) (Nat.le_of_ble_eq_true rfl) (Nat.le_of_ble_eq_true rfl) (Nat.le_of_ble_eq_true rfl) rfl ?_
        refine c_ruleGives0_38 hF h1 hj ht (fun M2 f2 => ?_)
        show lm_G X (d + 4) 75 106 0 0 67 [some (.ref 38), some (.int (msk (stopW F s) j)), some (.int (nI j)), some (.int (nI t)), some (.int 0)] [.int (if fR0 F = [] then 0 else reckS (vsS F s j t (sHd s j)) (fR0 F))] (lm_T M2 v G) Q
        refine lm_G_br (b := (if fR0 F = [] then 0 else reckS (vsS F s j t (sHd s j)) (fR0 F)) ≤ 0) (t := 76) (S' := []) rfl (fun h5 => ?_) (fun h5 => ?_)
        ·
          refine lm_G_sg 1 (pc' := 79) (L' := [some (.ref 38), some (.int (msk (stopW F s) j)), some (.int ((nI j) + 1)), some (.int (nI t)), some (.int 0)]) (S' := []) (σ' := lm_T M2 v G) rfl trivial ?_
          rw [nI_1]
          refine lm_G_sg 1 (pc' := 4) (L' := [some (.ref 38), some (.int (msk (stopW F s) j)), some (.int (nI (j + 1))), some (.int (nI t)), some (.int 0)]) (S' := []) (σ' := lm_T M2 v G) rfl trivial ?_
          have e : wantS F s j = false := by
            unfold wantS
            rw [et, nI_clamp (by omega), decide_eq_false (Int32.not_le.mpr h3)]
            by_cases w : fR0 F = []
            · rw [if_pos w] at h5
              simp [w]
            · rw [if_neg w] at h5
              simp [w, h5]
          rw [← msk_f (f := (stopW F s)) (by unfold stopW; simp [e, h4])]
          refine lm_G_jk (L := [some (.ref 38), some (.int (msk (stopW F s) (j + 1))), some (.int (nI (j + 1))), none, none]) ⟨rfl, rfl, rfl, trivial⟩ ?_
          exact ih _ (Fr_tr hI f2)
        ·
          refine lm_G_sg 7 (pc' := 79) (L' := [some (.ref 38), some (.int ((msk (stopW F s) j) ||| (1 <<< ((nI j) &&& 31)))), some (.int ((nI j) + 1)), some (.int (nI t)), some (.int 0)]) (S' := []) (σ' := lm_T M2 v G) rfl trivial ?_
          rw [nI_1]
          refine lm_G_sg 1 (pc' := 4) (L' := [some (.ref 38), some (.int ((msk (stopW F s) j) ||| (1 <<< ((nI j) &&& 31)))), some (.int (nI (j + 1))), some (.int (nI t)), some (.int 0)]) (S' := []) (σ' := lm_T M2 v G) rfl trivial ?_
          have e : wantS F s j = true := by
            unfold wantS
            rw [et, nI_clamp (by omega), decide_eq_false (Int32.not_le.mpr h3)]
            by_cases w : fR0 F = []
            · rw [if_pos w] at h5
              exact absurd (by decide) h5
            · rw [if_neg w] at h5
              simp [w, Int32.not_le.mp h5]
          rw [← msk_t (f := (stopW F s)) (by unfold stopW; simp [e, h4])]
          refine lm_G_jk (L := [some (.ref 38), some (.int (msk (stopW F s) (j + 1))), some (.int (nI (j + 1))), none, none]) ⟨rfl, rfl, rfl, trivial⟩ ?_
          exact ih _ (Fr_tr hI f2)
    ·
      refine lm_G_sg 5 (pc' := 46) (L' := [some (.ref 38), some (.int (msk (stopW F s) j)), some (.int (nI j)), some (.int (sHu s j)), some (.int 1)]) (S' := [.int (-1), .int (sHu s j)]) (σ' := lm_T M1 v G) rfl trivial ?_
      refine lm_G_br (b := (sHu s j) = (-1)) (t := 76) (S' := []) rfl (fun h4 => ?_) (fun h4 => ?_)
      ·
        refine lm_G_sg 1 (pc' := 79) (L' := [some (.ref 38), some (.int (msk (stopW F s) j)), some (.int ((nI j) + 1)), some (.int (sHu s j)), some (.int 1)]) (S' := []) (σ' := lm_T M1 v G) rfl trivial ?_
        rw [nI_1]
        refine lm_G_sg 1 (pc' := 4) (L' := [some (.ref 38), some (.int (msk (stopW F s) j)), some (.int (nI (j + 1))), some (.int (sHu s j)), some (.int 1)]) (S' := []) (σ' := lm_T M1 v G) rfl trivial ?_
        rw [← msk_f (f := (stopW F s)) (by unfold stopW; simp [h4])]
        refine lm_G_jk (L := [some (.ref 38), some (.int (msk (stopW F s) (j + 1))), some (.int (nI (j + 1))), none, none]) ⟨rfl, rfl, rfl, trivial⟩ ?_
        exact ih _ hI
      ·
        refine lm_G_sg 1 (pc' := 51) (L' := [some (.ref 38), some (.int (msk (stopW F s) j)), some (.int (nI j)), some (.int (sHu s j)), some (.int 1)]) (S' := [.int 1]) (σ' := lm_T M1 v G) rfl trivial ?_
        refine lm_G_br (b := ¬ 1 = 0) (t := 70) (S' := []) rfl (fun hc => ?_) (fun hc => absurd (by decide) hc)
        refine lm_G_sg 7 (pc' := 79) (L' := [some (.ref 38), some (.int ((msk (stopW F s) j) ||| (1 <<< ((nI j) &&& 31)))), some (.int ((nI j) + 1)), some (.int (sHu s j)), some (.int 1)]) (S' := []) (σ' := lm_T M1 v G) rfl trivial ?_
        rw [nI_1]
        refine lm_G_sg 1 (pc' := 4) (L' := [some (.ref 38), some (.int ((msk (stopW F s) j) ||| (1 <<< ((nI j) &&& 31)))), some (.int (nI (j + 1))), some (.int (sHu s j)), some (.int 1)]) (S' := []) (σ' := lm_T M1 v G) rfl trivial ?_
        have e : wantS F s j = true := by unfold wantS; simp [Int32.not_lt.mp h3]
        rw [← msk_t (f := (stopW F s)) (by unfold stopW; simp [e, h4])]
        refine lm_G_jk (L := [some (.ref 38), some (.int (msk (stopW F s) (j + 1))), some (.int (nI (j + 1))), none, none]) ⟨rfl, rfl, rfl, trivial⟩ ?_
        exact ih _ hI
  ·
    revert hI
    revert zz
    intro M1 hI
    replace hI : Fr frR M M1 := hI
    show lm_G X (d + 4) 75 106 0 0 4 [some (.ref 38), some (.int (msk (stopW F s) (fN F))), some (.int (nI (fN F))), none, none] [] (lm_T M1 v G) Q
    have h1 := RC_R38 h hI
    refine lm_G_sg 4 (pc' := 12) (L' := [some (.ref 38), some (.int (msk (stopW F s) (fN F))), some (.int (nI (fN F))), none, none]) (S' := [.int (M1 14 0), .int (nI (fN F))]) (σ' := lm_T M1 v G) rfl trivial ?_
    rw [show M1 14 0 = nI (fN F) from h1.n]
    refine lm_G_br (b := (nI (fN F)) ≤ (nI (fN F))) (t := 82) (S' := []) rfl (fun hc => ?_) (fun hc => absurd (nI_le (Nat.le_refl _) (by omega)) hc)
    refine lm_G_sg 1 (pc' := 83) (L' := [some (.ref 38), some (.int (msk (stopW F s) (fN F))), some (.int (nI (fN F))), none, none]) (S' := [.int (msk (stopW F s) (fN F))]) (σ' := lm_T M1 v G) rfl trivial ?_
    exact lm_G_re rfl trivial (Nat.zero_le _) (Nat.zero_le _) (hQ _ hI)
  ·
    try dsimp only
    exact Fr_rf _ _
