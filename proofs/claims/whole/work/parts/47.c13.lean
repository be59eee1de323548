/-! ===== contracts: who hears whom ===== -/
set_option maxRecDepth 10000 in
theorem c_whoHears {X : lm_X} {d v : Nat} {M : Nat → Nat → Int32} {G : Nat → Nat → Int64} {Q : lm_O → lm_S → Prop} {F : Fa} {s : Sc} {x : Int32} (hF : okF F) (h : RC 28 M F s) (hQ : Q (.inl (some (.int (whS F (sPl s) x)))) (lm_T M v G)) : lm_Q X d 16 [.ref 48, .int x] (lm_T M v G) Q := by
  have hn := hF.n
  have hm := hF.m
  show lm_G X d 16 106 0 0 0 [some (.ref 48), some (.int x), none, none] [] (lm_T M v G) Q
  refine lm_G_sg 4 (pc' := 4) (L' := [some (.ref 48), some (.int x), some (.int 0), some (.int 0)]) (S' := []) (σ' := lm_T M v G) rfl trivial ?_
  refine lm_ind (α := Unit) (St := fun (j : Nat) zz => lm_G X d 16 106 0 0 4 [some (.ref 48), some (.int x), some (.int (msk (fun q => decide (heardS F (sPl s) q &&& x ≠ 0)) j)), some (.int (nI j))] [] (lm_T M v G) Q) (Inv := fun (j : Nat) zz => True) (fN F) (fun j zz hj hI ih => ?_) (fun zz hI => ?_) (0) () (by omega) ?_
  ·
    replace hI : True := hI
    replace ih : ∀ (_ : True), lm_G X d 16 106 0 0 4 [some (.ref 48), some (.int x), some (.int (msk (fun q => decide (heardS F (sPl s) q &&& x ≠ 0)) (j + 1))), some (.int (nI (j + 1)))] [] (lm_T M v G) Q := fun q => ih () q
    show lm_G X d 16 106 0 0 4 [some (.ref 48), some (.int x), some (.int (msk (fun q => decide (heardS F (sPl s) q &&& x ≠ 0)) j)), some (.int (nI j))] [] (lm_T M v G) Q
    refine lm_G_sg 4 (pc' := 12) (L' := [some (.ref 48), some (.int x), some (.int (msk (fun q => decide (heardS F (sPl s) q &&& x ≠ 0)) j)), some (.int (nI j))]) (S' := [.int (M 14 0), .int (nI j)]) (σ' := lm_T M v G) rfl trivial ?_
    rw [show M 14 0 = nI (fN F) from h.n]
    refine lm_G_br (b := (nI (fN F)) ≤ (nI j)) (t := 41) (S' := []) rfl (fun hc => absurd hc (nI_ge hj (by omega))) (fun hc => ?_)
    refine lm_G_sg 5 (pc' := 24) (L' := [some (.ref 48), some (.int x), some (.int (msk (fun q => decide (heardS F (sPl s) q &&& x ≠ 0)) j)), some (.int (nI j))]) (S' := [.int (M 37 (nI j).toNatClampNeg)]) (σ' := lm_T M v G) rfl ⟨(vp_in_nI (by omega) (by omega)), trivial, trivial⟩ ?_
    rw [show (nI j).toNatClampNeg = j from nI_clamp (by omega)]
    rw [show M 37 j = heardS F (sPl s) j from h.he j (by omega)]
    refine lm_G_sg 2 (pc' := 26) (L' := [some (.ref 48), some (.int x), some (.int (msk (fun q => decide (heardS F (sPl s) q &&& x ≠ 0)) j)), some (.int (nI j))]) (S' := [.int ((heardS F (sPl s) j) &&& x)]) (σ' := lm_T M v G) rfl trivial ?_
    refine lm_G_br (b := ((heardS F (sPl s) j) &&& x) = 0) (t := 35) (S' := []) rfl (fun h5 => ?_) (fun h5 => ?_)
    ·
      refine lm_G_sg 1 (pc' := 38) (L' := [some (.ref 48), some (.int x), some (.int (msk (fun q => decide (heardS F (sPl s) q &&& x ≠ 0)) j)), some (.int ((nI j) + 1))]) (S' := []) (σ' := lm_T M v G) rfl trivial ?_
      rw [nI_1]
      refine lm_G_sg 1 (pc' := 4) (L' := [some (.ref 48), some (.int x), some (.int (msk (fun q => decide (heardS F (sPl s) q &&& x ≠ 0)) j)), some (.int (nI (j + 1)))]) (S' := []) (σ' := lm_T M v G) rfl trivial ?_
      rw [msk_f (f := (fun q => decide (heardS F (sPl s) q &&& x ≠ 0))) (by simp [h5])] at ih
      exact ih  trivial
    ·
      refine lm_G_sg 7 (pc' := 38) (L' := [some (.ref 48), some (.int x), some (.int ((msk (fun q => decide (heardS F (sPl s) q &&& x ≠ 0)) j) ||| ((1 : Int32) <<< ((nI j) &&& 31)))), some (.int ((nI j) + 1))]) (S' := []) (σ' := lm_T M v G) rfl trivial ?_
      rw [nI_1]
      refine lm_G_sg 1 (pc' := 4) (L' := [some (.ref 48), some (.int x), some (.int ((msk (fun q => decide (heardS F (sPl s) q &&& x ≠ 0)) j) ||| ((1 : Int32) <<< ((nI j) &&& 31)))), some (.int (nI (j + 1)))]) (S' := []) (σ' := lm_T M v G) rfl trivial ?_
      rw [msk_t (f := (fun q => decide (heardS F (sPl s) q &&& x ≠ 0))) (by simp [h5])] at ih
      exact ih  trivial
  ·
    replace hI : True := hI
    show lm_G X d 16 106 0 0 4 [some (.ref 48), some (.int x), some (.int (msk (fun q => decide (heardS F (sPl s) q &&& x ≠ 0)) (fN F))), some (.int (nI (fN F)))] [] (lm_T M v G) Q
    refine lm_G_sg 4 (pc' := 12) (L' := [some (.ref 48), some (.int x), some (.int (msk (fun q => decide (heardS F (sPl s) q &&& x ≠ 0)) (fN F))), some (.int (nI (fN F)))]) (S' := [.int (M 14 0), .int (nI (fN F))]) (σ' := lm_T M v G) rfl trivial ?_
    rw [show M 14 0 = nI (fN F) from h.n]
    refine lm_G_br (b := (nI (fN F)) ≤ (nI (fN F))) (t := 41) (S' := []) rfl (fun hc => ?_) (fun hc => absurd (nI_le (Nat.le_refl _) (by omega)) hc)
    refine lm_G_sg 1 (pc' := 42) (L' := [some (.ref 48), some (.int x), some (.int (msk (fun q => decide (heardS F (sPl s) q &&& x ≠ 0)) (fN F))), some (.int (nI (fN F)))]) (S' := [.int (msk (fun q => decide (heardS F (sPl s) q &&& x ≠ 0)) (fN F))]) (σ' := lm_T M v G) rfl trivial ?_
    exact lm_G_re rfl trivial (Nat.zero_le _) (Nat.zero_le _) hQ
  ·
    trivial
set_option maxRecDepth 10000 in
theorem c_steps {X : lm_X} {d v : Nat} {M : Nat → Nat → Int32} {G : Nat → Nat → Int64} {Q : lm_O → lm_S → Prop} {F : Fa} {s : Sc} {a b : Nat} (hF : okF F) (h : RC 28 M F s) (ha : a < fN F) (hb : b < fN F) (hQ : Q (.inl (some (.int (stepS F (sPl s) a b)))) (lm_T M v G)) : lm_Q X (d + 1) 15 [.ref 48, .int (nI a), .int (nI b)] (lm_T M v G) Q := by
  have hn := hF.n
  have hm := hF.m
  show lm_G X (d + 1) 15 106 0 0 0 [some (.ref 48), some (.int (nI a)), some (.int (nI b)), none, none] [] (lm_T M v G) Q
  refine lm_G_sg 6 (pc' := 7) (L' := [some (.ref 48), some (.int (nI a)), some (.int (nI b)), some (.int ((1 : Int32) <<< ((nI a) &&& 31))), some (.int 0)]) (S' := []) (σ' := lm_T M v G) rfl trivial ?_
  rw [show (1 : Int32) <<< ((nI a) &&& 31) = msk (rS F (sPl s) a 0) (fN F) from r_0 hF ha]
  show lm_G X (d + 1) 15 106 0 0 7 [some (.ref 48), some (.int (nI a)), some (.int (nI b)), some (.int (msk (rS F (sPl s) a 0) (fN F))), some (.int 0)] [] (lm_T M v G) Q
  refine lm_ind (α := Unit) (St := fun (j : Nat) zz => lm_G X (d + 1) 15 106 0 0 7 [some (.ref 48), some (.int (nI a)), some (.int (nI b)), some (.int (msk (rS F (sPl s) a j) (fN F))), some (.int (nI j))] [] (lm_T M v G) Q) (Inv := fun (j : Nat) zz => fstS (fun k => rS F (sPl s) a k b) j = none) (8) (fun j zz hj hI ih => ?_) (fun zz hI => ?_) (0) () (by omega) ?_
  ·
    replace hI : fstS (fun k => rS F (sPl s) a k b) j = none := hI
    replace ih : ∀ (_ : fstS (fun k => rS F (sPl s) a k b) (j + 1) = none), lm_G X (d + 1) 15 106 0 0 7 [some (.ref 48), some (.int (nI a)), some (.int (nI b)), some (.int (msk (rS F (sPl s) a (j + 1)) (fN F))), some (.int (nI (j + 1)))] [] (lm_T M v G) Q := fun q => ih () q
    show lm_G X (d + 1) 15 106 0 0 7 [some (.ref 48), some (.int (nI a)), some (.int (nI b)), some (.int (msk (rS F (sPl s) a j) (fN F))), some (.int (nI j))] [] (lm_T M v G) Q
    refine lm_G_sg 2 (pc' := 11) (L' := [some (.ref 48), some (.int (nI a)), some (.int (nI b)), some (.int (msk (rS F (sPl s) a j) (fN F))), some (.int (nI j))]) (S' := [.int 8, .int (nI j)]) (σ' := lm_T M v G) rfl trivial ?_
    refine lm_G_br (b := 8 ≤ (nI j)) (t := 40) (S' := []) rfl (fun hc => absurd hc (nI_ge (b := 8) hj (by omega))) (fun hc => ?_)
    refine lm_G_sg 6 (pc' := 20) (L' := [some (.ref 48), some (.int (nI a)), some (.int (nI b)), some (.int (msk (rS F (sPl s) a j) (fN F))), some (.int (nI j))]) (S' := [.int 1, .int (((msk (rS F (sPl s) a j) (fN F)) >>> ((nI b) &&& 31)) &&& 1)]) (σ' := lm_T M v G) rfl trivial ?_
    refine lm_G_br (b := ¬ (((msk (rS F (sPl s) a j) (fN F)) >>> ((nI b) &&& 31)) &&& 1) = 1) (t := 26) (S' := []) rfl (fun h5 => ?_) (fun h5 => ?_)
    rotate_left
    ·
      refine lm_G_sg 1 (pc' := 25) (L' := [some (.ref 48), some (.int (nI a)), some (.int (nI b)), some (.int (msk (rS F (sPl s) a j) (fN F))), some (.int (nI j))]) (S' := [.int (nI j)]) (σ' := lm_T M v G) rfl trivial ?_
      have e5 : rS F (sPl s) a j b = true := by
        rw [← bitW_mskn (f := rS F (sPl s) a j) (n := fN F) (by omega) hb]
        exact decide_eq_true (Classical.not_not.mp h5)
      have e : stepS F (sPl s) a b = nI j := (r_fst ha hb (m := 8) (by omega)).symm.trans (fi_some (f := (fun k => rS F (sPl s) a k b)) ((fst_nx hI).trans (if_pos e5)) (by omega))
      rw [e] at hQ
      exact lm_G_re rfl trivial (Nat.zero_le _) (Nat.zero_le _) hQ
    ·
      refine lm_G_sg 3 (pc' := 29) (L' := [some (.ref 48), some (.int (nI a)), some (.int (nI b)), some (.int (msk (rS F (sPl s) a j) (fN F))), some (.int (nI j))]) (S' := [.int (msk (rS F (sPl s) a j) (fN F)), .ref 48, .int (msk (rS F (sPl s) a j) (fN F))]) (σ' := lm_T M v G) rfl trivial ?_
      have e5 : rS F (sPl s) a j b = false := by
        rw [← bitW_mskn (f := rS F (sPl s) a j) (n := fN F) (by omega) hb]
        exact decide_eq_false h5
      refine lm_G_ca (j := 16) (as := [.ref 48, .int (msk (rS F (sPl s) a j) (fN F))]) (rest := [.int (msk (rS F (sPl s) a j) (fN F))]) rfl (Or.inl rfl) (Nat.le_of_ble_eq_true rfl) (Nat.le_of_ble_eq_true rfl) (Nat.le_of_ble_eq_true rfl) (Nat.le_of_ble_eq_true rfl) rfl ?_
      refine c_whoHears hF h ?_
      show lm_G X (d + 1) 15 106 0 0 32 [some (.ref 48), some (.int (nI a)), some (.int (nI b)), some (.int (msk (rS F (sPl s) a j) (fN F))), some (.int (nI j))] [.int (whS F (sPl s) (msk (rS F (sPl s) a j) (fN F))), .int (msk (rS F (sPl s) a j) (fN F))] (lm_T M v G) Q
      refine lm_G_sg 3 (pc' := 37) (L' := [some (.ref 48), some (.int (nI a)), some (.int (nI b)), some (.int ((msk (rS F (sPl s) a j) (fN F)) ||| (whS F (sPl s) (msk (rS F (sPl s) a j) (fN F))))), some (.int ((nI j) + 1))]) (S' := []) (σ' := lm_T M v G) rfl trivial ?_
      rw [nI_1]
      refine lm_G_sg 1 (pc' := 7) (L' := [some (.ref 48), some (.int (nI a)), some (.int (nI b)), some (.int ((msk (rS F (sPl s) a j) (fN F)) ||| (whS F (sPl s) (msk (rS F (sPl s) a j) (fN F))))), some (.int (nI (j + 1)))]) (S' := []) (σ' := lm_T M v G) rfl trivial ?_
      rw [r_s hF]
      exact ih  (by rw [fst_nx hI, e5]; rfl)
  ·
    replace hI : fstS (fun k => rS F (sPl s) a k b) 8 = none := hI
    show lm_G X (d + 1) 15 106 0 0 7 [some (.ref 48), some (.int (nI a)), some (.int (nI b)), some (.int (msk (rS F (sPl s) a 8) (fN F))), some (.int (nI 8))] [] (lm_T M v G) Q
    refine lm_G_sg 2 (pc' := 11) (L' := [some (.ref 48), some (.int (nI a)), some (.int (nI b)), some (.int (msk (rS F (sPl s) a 8) (fN F))), some (.int (nI 8))]) (S' := [.int 8, .int (nI 8)]) (σ' := lm_T M v G) rfl trivial ?_
    refine lm_G_br (b := 8 ≤ (nI 8)) (t := 40) (S' := []) rfl (fun hc => ?_) (fun hc => absurd (nI_le (a := 8) (Nat.le_refl _) (by omega)) hc)
    refine lm_G_sg 1 (pc' := 41) (L' := [some (.ref 48), some (.int (nI a)), some (.int (nI b)), some (.int (msk (rS F (sPl s) a 8) (fN F))), some (.int (nI 8))]) (S' := [.int (-1)]) (σ' := lm_T M v G) rfl trivial ?_
    have e : stepS F (sPl s) a b = -1 := (r_fst ha hb (m := 8) (by omega)).symm.trans (fi_none hI)
    rw [e] at hQ
    exact lm_G_re rfl trivial (Nat.zero_le _) (Nat.zero_le _) hQ
  ·
    try dsimp only
    rfl
set_option maxRecDepth 10000 in
theorem m_onward {X : lm_X} {d v : Nat} {M : Nat → Nat → Int32} {G : Nat → Nat → Int64} {Q : lm_O → lm_S → Prop} {F : Fa} {s : Sc} {x : Int32} (hF : okF F) (h : RM M F s) (hQ : Q (.inl (some (.int (x ||| whS F (sPl s) x)))) (lm_T M v G)) : lm_Q X (d + 2) 195 [.ref 64, .int x] (lm_T M v G) Q := by
  have hn := hF.n
  have hm := hF.m
  show lm_G X (d + 2) 195 106 0 0 0 [some (.ref 64), some (.int x), none, none] [] (lm_T M v G) Q
  refine lm_G_sg 4 (pc' := 4) (L' := [some (.ref 64), some (.int x), some (.int x), some (.int 0)]) (S' := []) (σ' := lm_T M v G) rfl trivial ?_
  skip
  have e0 : x ||| msk (fun q => decide (heardS F (sPl s) q &&& x ≠ 0)) 0 = x := or_0 x
  suffices hx : lm_G X (d + 2) 195 106 0 0 4 [some (.ref 64), some (.int x), some (.int (x ||| msk (fun q => decide (heardS F (sPl s) q &&& x ≠ 0)) 0)), some (.int 0)] [] (lm_T M v G) Q from by rw [e0] at hx; exact hx
  refine lm_ind (α := Unit) (St := fun (j : Nat) zz => lm_G X (d + 2) 195 106 0 0 4 [some (.ref 64), some (.int x), some (.int (x ||| msk (fun q => decide (heardS F (sPl s) q &&& x ≠ 0)) j)), some (.int (nI j))] [] (lm_T M v G) Q) (Inv := fun (j : Nat) zz => True) (fN F) (fun j zz hj hI ih => ?_) (fun zz hI => ?_) (0) () (by omega) ?_
  ·
    replace hI : True := hI
    replace ih : ∀ (_ : True), lm_G X (d + 2) 195 106 0 0 4 [some (.ref 64), some (.int x), some (.int (x ||| msk (fun q => decide (heardS F (sPl s) q &&& x ≠ 0)) (j + 1))), some (.int (nI (j + 1)))] [] (lm_T M v G) Q := fun q => ih () q
    show lm_G X (d + 2) 195 106 0 0 4 [some (.ref 64), some (.int x), some (.int (x ||| msk (fun q => decide (heardS F (sPl s) q &&& x ≠ 0)) j)), some (.int (nI j))] [] (lm_T M v G) Q
    refine lm_G_sg 5 (pc' := 11) (L' := [some (.ref 64), some (.int x), some (.int (x ||| msk (fun q => decide (heardS F (sPl s) q &&& x ≠ 0)) j)), some (.int (nI j))]) (S' := [.int (M 68 0), .int (nI j)]) (σ' := lm_T M v G) rfl ⟨(lm_inb_ok rfl), trivial, trivial⟩ ?_
    rw [show M 68 0 = nI (fN F) from h.n]
    refine lm_G_br (b := (nI (fN F)) ≤ (nI j)) (t := 40) (S' := []) rfl (fun hc => absurd hc (nI_ge hj (by omega))) (fun hc => ?_)
    refine lm_G_sg 3 (pc' := 17) (L' := [some (.ref 64), some (.int x), some (.int (x ||| msk (fun q => decide (heardS F (sPl s) q &&& x ≠ 0)) j)), some (.int (nI j))]) (S' := [.int (nI j), .ref 64, .int (x ||| msk (fun q => decide (heardS F (sPl s) q &&& x ≠ 0)) j)]) (σ' := lm_T M v G) rfl trivial ?_
    refine lm_G_ca (j := 180) (as := [.ref 64, .int (nI j)]) (rest := [.int (x ||| msk (fun q => decide (heardS F (sPl s) q &&& x ≠ 0)) j)]) rfl (Or.inl rfl) (Nat.le_of_ble_eq_true rfl) (Nat.le_of_ble_eq_true rfl) (Nat.le_of_ble_eq_true rfl) (Nat.le_of_ble_eq_true rfl) rfl ?_
    refine m_heardBy hF h hj ?_
    show lm_G X (d + 2) 195 106 0 0 20 [some (.ref 64), some (.int x), some (.int (x ||| msk (fun q => decide (heardS F (sPl s) q &&& x ≠ 0)) j)), some (.int (nI j))] [.int (heardS F (sPl s) j), .int (x ||| msk (fun q => decide (heardS F (sPl s) q &&& x ≠ 0)) j)] (lm_T M v G) Q
    refine lm_G_sg 2 (pc' := 22) (L' := [some (.ref 64), some (.int x), some (.int (x ||| msk (fun q => decide (heardS F (sPl s) q &&& x ≠ 0)) j)), some (.int (nI j))]) (S' := [.int ((heardS F (sPl s) j) &&& x), .int (x ||| msk (fun q => decide (heardS F (sPl s) q &&& x ≠ 0)) j)]) (σ' := lm_T M v G) rfl trivial ?_
    refine lm_G_br (b := ((heardS F (sPl s) j) &&& x) = 0) (t := 31) (S' := [.int (x ||| msk (fun q => decide (heardS F (sPl s) q &&& x ≠ 0)) j)]) rfl (fun h5 => ?_) (fun h5 => ?_)
    ·
      refine lm_G_sg 4 (pc' := 37) (L' := [some (.ref 64), some (.int x), some (.int ((x ||| msk (fun q => decide (heardS F (sPl s) q &&& x ≠ 0)) j) ||| 0)), some (.int ((nI j) + 1))]) (S' := []) (σ' := lm_T M v G) rfl trivial ?_
      rw [nI_1]
      refine lm_G_sg 1 (pc' := 4) (L' := [some (.ref 64), some (.int x), some (.int ((x ||| msk (fun q => decide (heardS F (sPl s) q &&& x ≠ 0)) j) ||| 0)), some (.int (nI (j + 1)))]) (S' := []) (σ' := lm_T M v G) rfl trivial ?_
      rw [or_0]
      rw [msk_f (f := (fun q => decide (heardS F (sPl s) q &&& x ≠ 0))) (by simp [h5])] at ih
      exact ih  trivial
    ·
      refine lm_G_sg 7 (pc' := 37) (L' := [some (.ref 64), some (.int x), some (.int ((x ||| msk (fun q => decide (heardS F (sPl s) q &&& x ≠ 0)) j) ||| ((1 : Int32) <<< ((nI j) &&& 31)))), some (.int ((nI j) + 1))]) (S' := []) (σ' := lm_T M v G) rfl trivial ?_
      rw [nI_1]
      refine lm_G_sg 1 (pc' := 4) (L' := [some (.ref 64), some (.int x), some (.int ((x ||| msk (fun q => decide (heardS F (sPl s) q &&& x ≠ 0)) j) ||| ((1 : Int32) <<< ((nI j) &&& 31)))), some (.int (nI (j + 1)))]) (S' := []) (σ' := lm_T M v G) rfl trivial ?_
      rw [or_as]
      rw [msk_t (f := (fun q => decide (heardS F (sPl s) q &&& x ≠ 0))) (by simp [h5])] at ih
      exact ih  trivial
  ·
    replace hI : True := hI
    show lm_G X (d + 2) 195 106 0 0 4 [some (.ref 64), some (.int x), some (.int (x ||| msk (fun q => decide (heardS F (sPl s) q &&& x ≠ 0)) (fN F))), some (.int (nI (fN F)))] [] (lm_T M v G) Q
    refine lm_G_sg 5 (pc' := 11) (L' := [some (.ref 64), some (.int x), some (.int (x ||| msk (fun q => decide (heardS F (sPl s) q &&& x ≠ 0)) (fN F))), some (.int (nI (fN F)))]) (S' := [.int (M 68 0), .int (nI (fN F))]) (σ' := lm_T M v G) rfl ⟨(lm_inb_ok rfl), trivial, trivial⟩ ?_
    rw [show M 68 0 = nI (fN F) from h.n]
    refine lm_G_br (b := (nI (fN F)) ≤ (nI (fN F))) (t := 40) (S' := []) rfl (fun hc => ?_) (fun hc => absurd (nI_le (Nat.le_refl _) (by omega)) hc)
    refine lm_G_sg 1 (pc' := 41) (L' := [some (.ref 64), some (.int x), some (.int (x ||| msk (fun q => decide (heardS F (sPl s) q &&& x ≠ 0)) (fN F))), some (.int (nI (fN F)))]) (S' := [.int (x ||| msk (fun q => decide (heardS F (sPl s) q &&& x ≠ 0)) (fN F))]) (σ' := lm_T M v G) rfl trivial ?_
    exact lm_G_re rfl trivial (Nat.zero_le _) (Nat.zero_le _) hQ
  ·
    trivial
set_option maxRecDepth 10000 in
theorem m_stepsTo {X : lm_X} {d v : Nat} {M : Nat → Nat → Int32} {G : Nat → Nat → Int64} {Q : lm_O → lm_S → Prop} {F : Fa} {s : Sc} {a b : Nat} (hF : okF F) (h : RM M F s) (ha : a < fN F) (hb : b < fN F) (hQ : Q (.inl (some (.int (stepS F (sPl s) a b)))) (lm_T M v G)) : lm_Q X (d + 3) 196 [.ref 64, .int (nI a), .int (nI b)] (lm_T M v G) Q := by
  have hn := hF.n
  have hm := hF.m
  show lm_G X (d + 3) 196 106 0 0 0 [some (.ref 64), some (.int (nI a)), some (.int (nI b)), none, none] [] (lm_T M v G) Q
  refine lm_G_sg 6 (pc' := 7) (L' := [some (.ref 64), some (.int (nI a)), some (.int (nI b)), some (.int ((1 : Int32) <<< ((nI a) &&& 31))), some (.int 0)]) (S' := []) (σ' := lm_T M v G) rfl trivial ?_
  rw [show (1 : Int32) <<< ((nI a) &&& 31) = msk (rS F (sPl s) a 0) (fN F) from r_0 hF ha]
  show lm_G X (d + 3) 196 106 0 0 7 [some (.ref 64), some (.int (nI a)), some (.int (nI b)), some (.int (msk (rS F (sPl s) a 0) (fN F))), some (.int 0)] [] (lm_T M v G) Q
  refine lm_ind (α := Unit) (St := fun (j : Nat) zz => lm_G X (d + 3) 196 106 0 0 7 [some (.ref 64), some (.int (nI a)), some (.int (nI b)), some (.int (msk (rS F (sPl s) a j) (fN F))), some (.int (nI j))] [] (lm_T M v G) Q) (Inv := fun (j : Nat) zz => fstS (fun k => rS F (sPl s) a k b) j = none) (fN F + 1) (fun j zz hj hI ih => ?_) (fun zz hI => ?_) (0) () (by omega) ?_
  ·
    replace hI : fstS (fun k => rS F (sPl s) a k b) j = none := hI
    replace ih : ∀ (_ : fstS (fun k => rS F (sPl s) a k b) (j + 1) = none), lm_G X (d + 3) 196 106 0 0 7 [some (.ref 64), some (.int (nI a)), some (.int (nI b)), some (.int (msk (rS F (sPl s) a (j + 1)) (fN F))), some (.int (nI (j + 1)))] [] (lm_T M v G) Q := fun q => ih () q
    show lm_G X (d + 3) 196 106 0 0 7 [some (.ref 64), some (.int (nI a)), some (.int (nI b)), some (.int (msk (rS F (sPl s) a j) (fN F))), some (.int (nI j))] [] (lm_T M v G) Q
    refine lm_G_sg 5 (pc' := 15) (L' := [some (.ref 64), some (.int (nI a)), some (.int (nI b)), some (.int (msk (rS F (sPl s) a j) (fN F))), some (.int (nI j))]) (S' := [.int (M 68 0), .int (nI j)]) (σ' := lm_T M v G) rfl ⟨(lm_inb_ok rfl), trivial, trivial⟩ ?_
    rw [show M 68 0 = nI (fN F) from h.n]
    refine lm_G_br (b := (nI (fN F)) < (nI j)) (t := 41) (S' := []) rfl (fun hc => absurd hc (nI_nlt (by omega) (by omega))) (fun hc => ?_)
    refine lm_G_sg 2 (pc' := 20) (L' := [some (.ref 64), some (.int (nI a)), some (.int (nI b)), some (.int (msk (rS F (sPl s) a j) (fN F))), some (.int (nI j))]) (S' := [.int (nI b), .int (msk (rS F (sPl s) a j) (fN F))]) (σ' := lm_T M v G) rfl trivial ?_
    refine lm_G_ca (j := 143) (as := [.int (msk (rS F (sPl s) a j) (fN F)), .int (nI b)]) (rest := []) rfl (Or.inl rfl) (Nat.le_of_ble_eq_true rfl) (Nat.le_of_ble_eq_true rfl) (Nat.le_of_ble_eq_true rfl) (Nat.le_of_ble_eq_true rfl) rfl ?_
    refine c_isOf ?_
    show lm_G X (d + 3) 196 106 0 0 23 [some (.ref 64), some (.int (nI a)), some (.int (nI b)), some (.int (msk (rS F (sPl s) a j) (fN F))), some (.int (nI j))] [.int (b2i (bitW (msk (rS F (sPl s) a j) (fN F)) b))] (lm_T M v G) Q
    rw [bitW_mskn (f := rS F (sPl s) a j) (n := fN F) (by omega) hb]
    refine lm_G_br (b := (b2i (rS F (sPl s) a j b)) = 0) (t := 29) (S' := []) rfl (fun h5 => ?_) (fun h5 => ?_)
    rotate_left
    ·
      refine lm_G_sg 1 (pc' := 28) (L' := [some (.ref 64), some (.int (nI a)), some (.int (nI b)), some (.int (msk (rS F (sPl s) a j) (fN F))), some (.int (nI j))]) (S' := [.int (nI j)]) (σ' := lm_T M v G) rfl trivial ?_
      have e5 : rS F (sPl s) a j b = true := b2i_1 h5
      have e : stepS F (sPl s) a b = nI j := (r_fst ha hb (m := fN F + 1) (by omega)).symm.trans (fi_some (f := (fun k => rS F (sPl s) a k b)) ((fst_nx hI).trans (if_pos e5)) (by omega))
      rw [e] at hQ
      exact lm_G_re rfl trivial (Nat.zero_le _) (Nat.zero_le _) hQ
    ·
      refine lm_G_sg 2 (pc' := 31) (L' := [some (.ref 64), some (.int (nI a)), some (.int (nI b)), some (.int (msk (rS F (sPl s) a j) (fN F))), some (.int (nI j))]) (S' := [.int (msk (rS F (sPl s) a j) (fN F)), .ref 64]) (σ' := lm_T M v G) rfl trivial ?_
      have e5 : rS F (sPl s) a j b = false := b2i_0 h5
      refine lm_G_ca (j := 195) (as := [.ref 64, .int (msk (rS F (sPl s) a j) (fN F))]) (rest := []) rfl (Or.inl rfl) (Nat.le_of_ble_eq_true rfl) (Nat.le_of_ble_eq_true rfl) (Nat.le_of_ble_eq_true rfl) (Nat.le_of_ble_eq_true rfl) rfl ?_
      refine m_onward hF h ?_
      show lm_G X (d + 3) 196 106 0 0 34 [some (.ref 64), some (.int (nI a)), some (.int (nI b)), some (.int (msk (rS F (sPl s) a j) (fN F))), some (.int (nI j))] [.int (msk (rS F (sPl s) a j) (fN F) ||| whS F (sPl s) (msk (rS F (sPl s) a j) (fN F)))] (lm_T M v G) Q
      refine lm_G_sg 2 (pc' := 38) (L' := [some (.ref 64), some (.int (nI a)), some (.int (nI b)), some (.int (msk (rS F (sPl s) a j) (fN F) ||| whS F (sPl s) (msk (rS F (sPl s) a j) (fN F)))), some (.int ((nI j) + 1))]) (S' := []) (σ' := lm_T M v G) rfl trivial ?_
      rw [nI_1]
      refine lm_G_sg 1 (pc' := 7) (L' := [some (.ref 64), some (.int (nI a)), some (.int (nI b)), some (.int (msk (rS F (sPl s) a j) (fN F) ||| whS F (sPl s) (msk (rS F (sPl s) a j) (fN F)))), some (.int (nI (j + 1)))]) (S' := []) (σ' := lm_T M v G) rfl trivial ?_
      rw [r_s hF]
      exact ih  (by rw [fst_nx hI, e5]; rfl)
  ·
    replace hI : fstS (fun k => rS F (sPl s) a k b) (fN F + 1) = none := hI
    show lm_G X (d + 3) 196 106 0 0 7 [some (.ref 64), some (.int (nI a)), some (.int (nI b)), some (.int (msk (rS F (sPl s) a (fN F + 1)) (fN F))), some (.int (nI (fN F + 1)))] [] (lm_T M v G) Q
    refine lm_G_sg 5 (pc' := 15) (L' := [some (.ref 64), some (.int (nI a)), some (.int (nI b)), some (.int (msk (rS F (sPl s) a (fN F + 1)) (fN F))), some (.int (nI (fN F + 1)))]) (S' := [.int (M 68 0), .int (nI (fN F + 1))]) (σ' := lm_T M v G) rfl ⟨(lm_inb_ok rfl), trivial, trivial⟩ ?_
    rw [show M 68 0 = nI (fN F) from h.n]
    refine lm_G_br (b := (nI (fN F)) < (nI (fN F + 1))) (t := 41) (S' := []) rfl (fun hc => ?_) (fun hc => absurd (nI_lt (by omega) (by omega)) hc)
    refine lm_G_sg 1 (pc' := 42) (L' := [some (.ref 64), some (.int (nI a)), some (.int (nI b)), some (.int (msk (rS F (sPl s) a (fN F + 1)) (fN F))), some (.int (nI (fN F + 1)))]) (S' := [.int (-1)]) (σ' := lm_T M v G) rfl trivial ?_
    have e : stepS F (sPl s) a b = -1 := (r_fst ha hb (m := fN F + 1) (by omega)).symm.trans (fi_none hI)
    rw [e] at hQ
    exact lm_G_re rfl trivial (Nat.zero_le _) (Nat.zero_le _) hQ
  ·
    try dsimp only
    rfl
def farS (F : Fa) (pl : Fn) (a : Nat) : Int32 := (mxS al (stepS F pl a) nI 0 (fN F)).1
set_option maxRecDepth 10000 in
theorem c_most {X : lm_X} {d v : Nat} {M : Nat → Nat → Int32} {G : Nat → Nat → Int64} {Q : lm_O → lm_S → Prop} {F : Fa} {s : Sc} {a : Nat} (hF : okF F) (h : RC 28 M F s) (ha : a < fN F) (hQ : Q (.inl (some (.int (farS F (sPl s) a)))) (lm_T M v G)) : lm_Q X (d + 2) 17 [.ref 48, .int (nI a)] (lm_T M v G) Q := by
  have hn := hF.n
  have hm := hF.m
  show lm_G X (d + 2) 17 106 0 0 0 [some (.ref 48), some (.int (nI a)), none, none, none, none] [] (lm_T M v G) Q
  refine lm_G_sg 6 (pc' := 7) (L' := [some (.ref 48), some (.int (nI a)), some (.int (-1)), some (.int 0), some (.int 0), none]) (S' := []) (σ' := lm_T M v G) rfl trivial ?_
  refine lm_ind (α := Unit) (St := fun (j : Nat) zz => lm_G X (d + 2) 17 106 0 0 7 [some (.ref 48), some (.int (nI a)), some (.int ((mxS al (stepS F (sPl s) a) nI 0 j).1)), some (.int ((mxS al (stepS F (sPl s) a) nI 0 j).2)), some (.int (nI j)), none] [] (lm_T M v G) Q) (Inv := fun (j : Nat) zz => True) (fN F) (fun j zz hj hI ih => ?_) (fun zz hI => ?_) (0) () (by omega) ?_
  ·
    replace hI : True := hI
    replace ih : ∀ (_ : True), lm_G X (d + 2) 17 106 0 0 7 [some (.ref 48), some (.int (nI a)), some (.int ((mxS al (stepS F (sPl s) a) nI 0 (j + 1)).1)), some (.int ((mxS al (stepS F (sPl s) a) nI 0 (j + 1)).2)), some (.int (nI (j + 1))), none] [] (lm_T M v G) Q := fun q => ih () q
    show lm_G X (d + 2) 17 106 0 0 7 [some (.ref 48), some (.int (nI a)), some (.int ((mxS al (stepS F (sPl s) a) nI 0 j).1)), some (.int ((mxS al (stepS F (sPl s) a) nI 0 j).2)), some (.int (nI j)), none] [] (lm_T M v G) Q
    refine lm_G_sg 4 (pc' := 16) (L' := [some (.ref 48), some (.int (nI a)), some (.int ((mxS al (stepS F (sPl s) a) nI 0 j).1)), some (.int ((mxS al (stepS F (sPl s) a) nI 0 j).2)), some (.int (nI j)), none]) (S' := [.int (M 14 0), .int (nI j)]) (σ' := lm_T M v G) rfl trivial ?_
    rw [show M 14 0 = nI (fN F) from h.n]
    refine lm_G_br (b := (nI (fN F)) ≤ (nI j)) (t := 46) (S' := []) rfl (fun hc => absurd hc (nI_ge hj (by omega))) (fun hc => ?_)
    refine lm_G_sg 3 (pc' := 23) (L' := [some (.ref 48), some (.int (nI a)), some (.int ((mxS al (stepS F (sPl s) a) nI 0 j).1)), some (.int ((mxS al (stepS F (sPl s) a) nI 0 j).2)), some (.int (nI j)), none]) (S' := [.int (nI j), .int (nI a), .ref 48]) (σ' := lm_T M v G) rfl trivial ?_
    refine lm_G_ca (j := 15) (as := [.ref 48, .int (nI a), .int (nI j)]) (rest := []) rfl (Or.inl rfl) (Nat.le_of_ble_eq_true rfl) (Nat.le_of_ble_eq_true rfl) (Nat.le_of_ble_eq_true rfl) (Nat.le_of_ble_eq_true rfl) rfl ?_
    refine c_steps hF h ha hj ?_
    show lm_G X (d + 2) 17 106 0 0 26 [some (.ref 48), some (.int (nI a)), some (.int ((mxS al (stepS F (sPl s) a) nI 0 j).1)), some (.int ((mxS al (stepS F (sPl s) a) nI 0 j).2)), some (.int (nI j)), none] [.int (stepS F (sPl s) a j)] (lm_T M v G) Q
    refine lm_G_sg 3 (pc' := 31) (L' := [some (.ref 48), some (.int (nI a)), some (.int ((mxS al (stepS F (sPl s) a) nI 0 j).1)), some (.int ((mxS al (stepS F (sPl s) a) nI 0 j).2)), some (.int (nI j)), some (.int (stepS F (sPl s) a j))]) (S' := [.int ((mxS al (stepS F (sPl s) a) nI 0 j).2), .int (stepS F (sPl s) a j)]) (σ' := lm_T M v G) rfl trivial ?_
    refine lm_G_br (b := (stepS F (sPl s) a j) ≤ ((mxS al (stepS F (sPl s) a) nI 0 j).2)) (t := 40) (S' := []) rfl (fun h5 => ?_) (fun h5 => ?_)
    ·
      refine lm_G_sg 1 (pc' := 43) (L' := [some (.ref 48), some (.int (nI a)), some (.int ((mxS al (stepS F (sPl s) a) nI 0 j).1)), some (.int ((mxS al (stepS F (sPl s) a) nI 0 j).2)), some (.int ((nI j) + 1)), some (.int (stepS F (sPl s) a j))]) (S' := []) (σ' := lm_T M v G) rfl trivial ?_
      rw [nI_1]
      refine lm_G_sg 1 (pc' := 7) (L' := [some (.ref 48), some (.int (nI a)), some (.int ((mxS al (stepS F (sPl s) a) nI 0 j).1)), some (.int ((mxS al (stepS F (sPl s) a) nI 0 j).2)), some (.int (nI (j + 1))), some (.int (stepS F (sPl s) a j))]) (S' := []) (σ' := lm_T M v G) rfl trivial ?_
      rw [mx_n (f := stepS F (sPl s) a) (Int32.not_lt.mpr h5)] at ih
      refine lm_G_jk (L := [some (.ref 48), some (.int (nI a)), some (.int ((mxS al (stepS F (sPl s) a) nI 0 j).1)), some (.int ((mxS al (stepS F (sPl s) a) nI 0 j).2)), some (.int (nI (j + 1))), none]) ⟨rfl, rfl, rfl, rfl, rfl, trivial⟩ ?_
      exact ih  trivial
    ·
      refine lm_G_sg 5 (pc' := 43) (L' := [some (.ref 48), some (.int (nI a)), some (.int (nI j)), some (.int (stepS F (sPl s) a j)), some (.int ((nI j) + 1)), some (.int (stepS F (sPl s) a j))]) (S' := []) (σ' := lm_T M v G) rfl trivial ?_
      rw [nI_1]
      refine lm_G_sg 1 (pc' := 7) (L' := [some (.ref 48), some (.int (nI a)), some (.int (nI j)), some (.int (stepS F (sPl s) a j)), some (.int (nI (j + 1))), some (.int (stepS F (sPl s) a j))]) (S' := []) (σ' := lm_T M v G) rfl trivial ?_
      rw [mx_y (g := al) (f := stepS F (sPl s) a) rfl (Int32.not_le.mp h5)] at ih
      refine lm_G_jk (L := [some (.ref 48), some (.int (nI a)), some (.int (nI j)), some (.int (stepS F (sPl s) a j)), some (.int (nI (j + 1))), none]) ⟨rfl, rfl, rfl, rfl, rfl, trivial⟩ ?_
      exact ih  trivial
  ·
    replace hI : True := hI
    show lm_G X (d + 2) 17 106 0 0 7 [some (.ref 48), some (.int (nI a)), some (.int ((mxS al (stepS F (sPl s) a) nI 0 (fN F)).1)), some (.int ((mxS al (stepS F (sPl s) a) nI 0 (fN F)).2)), some (.int (nI (fN F))), none] [] (lm_T M v G) Q
    refine lm_G_sg 4 (pc' := 16) (L' := [some (.ref 48), some (.int (nI a)), some (.int ((mxS al (stepS F (sPl s) a) nI 0 (fN F)).1)), some (.int ((mxS al (stepS F (sPl s) a) nI 0 (fN F)).2)), some (.int (nI (fN F))), none]) (S' := [.int (M 14 0), .int (nI (fN F))]) (σ' := lm_T M v G) rfl trivial ?_
    rw [show M 14 0 = nI (fN F) from h.n]
    refine lm_G_br (b := (nI (fN F)) ≤ (nI (fN F))) (t := 46) (S' := []) rfl (fun hc => ?_) (fun hc => absurd (nI_le (Nat.le_refl _) (by omega)) hc)
    refine lm_G_sg 1 (pc' := 47) (L' := [some (.ref 48), some (.int (nI a)), some (.int ((mxS al (stepS F (sPl s) a) nI 0 (fN F)).1)), some (.int ((mxS al (stepS F (sPl s) a) nI 0 (fN F)).2)), some (.int (nI (fN F))), none]) (S' := [.int ((mxS al (stepS F (sPl s) a) nI 0 (fN F)).1)]) (σ' := lm_T M v G) rfl trivial ?_
    exact lm_G_re rfl trivial (Nat.zero_le _) (Nat.zero_le _) hQ
  ·
    trivial
set_option maxRecDepth 10000 in
theorem c_least {X : lm_X} {d v : Nat} {M : Nat → Nat → Int32} {G : Nat → Nat → Int64} {Q : lm_O → lm_S → Prop} {F : Fa} {s : Sc} {a : Nat} (hF : okF F) (h : RC 28 M F s) (ha : a < fN F) (hQ : Q (.inl (some (.int (b2i (frstS F (sPl s) a))))) (lm_T M v G)) : lm_Q X (d + 2) 19 [.ref 48, .int (nI a)] (lm_T M v G) Q := by
  have hn := hF.n
  have hm := hF.m
  show lm_G X (d + 2) 19 106 0 0 0 [some (.ref 48), some (.int (nI a)), none] [] (lm_T M v G) Q
  refine lm_G_sg 2 (pc' := 2) (L' := [some (.ref 48), some (.int (nI a)), some (.int 0)]) (S' := []) (σ' := lm_T M v G) rfl trivial ?_
  refine lm_ind (α := Unit) (St := fun (j : Nat) zz => lm_G X (d + 2) 19 106 0 0 2 [some (.ref 48), some (.int (nI a)), some (.int (nI j))] [] (lm_T M v G) Q) (Inv := fun (j : Nat) zz => fstS (fun q => decide (stepS F (sPl s) a q ≠ -1) && decide (stepS F (sPl s) q a ≠ -1)) j = none) (a) (fun j zz hj hI ih => ?_) (fun zz hI => ?_) (0) () (by omega) ?_
  ·
    replace hI : fstS (fun q => decide (stepS F (sPl s) a q ≠ -1) && decide (stepS F (sPl s) q a ≠ -1)) j = none := hI
    replace ih : ∀ (_ : fstS (fun q => decide (stepS F (sPl s) a q ≠ -1) && decide (stepS F (sPl s) q a ≠ -1)) (j + 1) = none), lm_G X (d + 2) 19 106 0 0 2 [some (.ref 48), some (.int (nI a)), some (.int (nI (j + 1)))] [] (lm_T M v G) Q := fun q => ih () q
    show lm_G X (d + 2) 19 106 0 0 2 [some (.ref 48), some (.int (nI a)), some (.int (nI j))] [] (lm_T M v G) Q
    refine lm_G_sg 2 (pc' := 4) (L' := [some (.ref 48), some (.int (nI a)), some (.int (nI j))]) (S' := [.int (nI a), .int (nI j)]) (σ' := lm_T M v G) rfl trivial ?_
    refine lm_G_br (b := (nI a) ≤ (nI j)) (t := 35) (S' := []) rfl (fun hc => absurd hc (nI_ge hj (by omega))) (fun hc => ?_)
    refine lm_G_sg 3 (pc' := 10) (L' := [some (.ref 48), some (.int (nI a)), some (.int (nI j))]) (S' := [.int (nI j), .int (nI a), .ref 48]) (σ' := lm_T M v G) rfl trivial ?_
    refine lm_G_ca (j := 15) (as := [.ref 48, .int (nI a), .int (nI j)]) (rest := []) rfl (Or.inl rfl) (Nat.le_of_ble_eq_true rfl) (Nat.le_of_ble_eq_true rfl) (Nat.le_of_ble_eq_true rfl) (Nat.le_of_ble_eq_true rfl) rfl ?_
    refine c_steps hF h ha (by omega) ?_
    show lm_G X (d + 2) 19 106 0 0 13 [some (.ref 48), some (.int (nI a)), some (.int (nI j))] [.int (stepS F (sPl s) a j)] (lm_T M v G) Q
    refine lm_G_sg 1 (pc' := 14) (L' := [some (.ref 48), some (.int (nI a)), some (.int (nI j))]) (S' := [.int (-1), .int (stepS F (sPl s) a j)]) (σ' := lm_T M v G) rfl trivial ?_
    refine lm_G_br (b := (stepS F (sPl s) a j) = (-1)) (t := 29) (S' := []) rfl (fun h5 => ?_) (fun h5 => ?_)
    ·
      refine lm_G_sg 1 (pc' := 32) (L' := [some (.ref 48), some (.int (nI a)), some (.int ((nI j) + 1))]) (S' := []) (σ' := lm_T M v G) rfl trivial ?_
      rw [nI_1]
      refine lm_G_sg 1 (pc' := 2) (L' := [some (.ref 48), some (.int (nI a)), some (.int (nI (j + 1)))]) (S' := []) (σ' := lm_T M v G) rfl trivial ?_
      exact ih  (by rw [fst_nx hI]; simp [h5])
    ·
      refine lm_G_sg 3 (pc' := 20) (L' := [some (.ref 48), some (.int (nI a)), some (.int (nI j))]) (S' := [.int (nI a), .int (nI j), .ref 48]) (σ' := lm_T M v G) rfl trivial ?_
      refine lm_G_ca (j := 15) (as := [.ref 48, .int (nI j), .int (nI a)]) (rest := []) rfl (Or.inl rfl) (Nat.le_of_ble_eq_true rfl) (Nat.le_of_ble_eq_true rfl) (Nat.le_of_ble_eq_true rfl) (Nat.le_of_ble_eq_true rfl) rfl ?_
      refine c_steps hF h (by omega) ha ?_
      show lm_G X (d + 2) 19 106 0 0 23 [some (.ref 48), some (.int (nI a)), some (.int (nI j))] [.int (stepS F (sPl s) j a)] (lm_T M v G) Q
      refine lm_G_sg 1 (pc' := 24) (L' := [some (.ref 48), some (.int (nI a)), some (.int (nI j))]) (S' := [.int (-1), .int (stepS F (sPl s) j a)]) (σ' := lm_T M v G) rfl trivial ?_
      refine lm_G_br (b := (stepS F (sPl s) j a) = (-1)) (t := 29) (S' := []) rfl (fun h6 => ?_) (fun h6 => ?_)
      ·
        refine lm_G_sg 1 (pc' := 32) (L' := [some (.ref 48), some (.int (nI a)), some (.int ((nI j) + 1))]) (S' := []) (σ' := lm_T M v G) rfl trivial ?_
        rw [nI_1]
        refine lm_G_sg 1 (pc' := 2) (L' := [some (.ref 48), some (.int (nI a)), some (.int (nI (j + 1)))]) (S' := []) (σ' := lm_T M v G) rfl trivial ?_
        exact ih  (by rw [fst_nx hI]; simp [h6])
      ·
        refine lm_G_sg 1 (pc' := 28) (L' := [some (.ref 48), some (.int (nI a)), some (.int (nI j))]) (S' := [.int 0]) (σ' := lm_T M v G) rfl trivial ?_
        have e : fstS (fun q => decide (stepS F (sPl s) a q ≠ -1) && decide (stepS F (sPl s) q a ≠ -1)) (j + 1) = some j := by rw [fst_nx hI]; simp [h5, h6]
        have e2 : frstS F (sPl s) a = false := by
          refine decide_eq_false (fun w => ?_)
          rw [fst_some e (by omega)] at w
          cases w
        rw [e2] at hQ
        exact lm_G_re rfl (by decide) (Nat.zero_le _) (Nat.zero_le _) hQ
  ·
    replace hI : fstS (fun q => decide (stepS F (sPl s) a q ≠ -1) && decide (stepS F (sPl s) q a ≠ -1)) a = none := hI
    show lm_G X (d + 2) 19 106 0 0 2 [some (.ref 48), some (.int (nI a)), some (.int (nI a))] [] (lm_T M v G) Q
    refine lm_G_sg 2 (pc' := 4) (L' := [some (.ref 48), some (.int (nI a)), some (.int (nI a))]) (S' := [.int (nI a), .int (nI a)]) (σ' := lm_T M v G) rfl trivial ?_
    refine lm_G_br (b := (nI a) ≤ (nI a)) (t := 35) (S' := []) rfl (fun hc => ?_) (fun hc => absurd (nI_le (Nat.le_refl _) (by omega)) hc)
    refine lm_G_sg 1 (pc' := 36) (L' := [some (.ref 48), some (.int (nI a)), some (.int (nI a))]) (S' := [.int 1]) (σ' := lm_T M v G) rfl trivial ?_
    rw [show frstS F (sPl s) a = true from decide_eq_true hI] at hQ
    exact lm_G_re rfl (by decide) (Nat.zero_le _) (Nat.zero_le _) hQ
  ·
    try dsimp only
    rfl
set_option maxRecDepth 10000 in
theorem c_parts {X : lm_X} {d v : Nat} {M : Nat → Nat → Int32} {G : Nat → Nat → Int64} {Q : lm_O → lm_S → Prop} {F : Fa} {s : Sc} (hF : okF F) (h : RC 28 M F s) (hQ : Q (.inl (some (.int (partS F (sPl s))))) (lm_T M v G)) : lm_Q X (d + 3) 18 [.ref 48] (lm_T M v G) Q := by
  have hn := hF.n
  have hm := hF.m
  show lm_G X (d + 3) 18 106 0 0 0 [some (.ref 48), none, none] [] (lm_T M v G) Q
  refine lm_G_sg 4 (pc' := 4) (L' := [some (.ref 48), some (.int 0), some (.int 0)]) (S' := []) (σ' := lm_T M v G) rfl trivial ?_
  refine lm_ind (α := Unit) (St := fun (j : Nat) zz => lm_G X (d + 3) 18 106 0 0 4 [some (.ref 48), some (.int (ctS (frstS F (sPl s)) j)), some (.int (nI j))] [] (lm_T M v G) Q) (Inv := fun (j : Nat) zz => True) (fN F) (fun j zz hj hI ih => ?_) (fun zz hI => ?_) (0) () (by omega) ?_
  ·
    replace hI : True := hI
    replace ih : ∀ (_ : True), lm_G X (d + 3) 18 106 0 0 4 [some (.ref 48), some (.int (ctS (frstS F (sPl s)) (j + 1))), some (.int (nI (j + 1)))] [] (lm_T M v G) Q := fun q => ih () q
    show lm_G X (d + 3) 18 106 0 0 4 [some (.ref 48), some (.int (ctS (frstS F (sPl s)) j)), some (.int (nI j))] [] (lm_T M v G) Q
    refine lm_G_sg 4 (pc' := 12) (L' := [some (.ref 48), some (.int (ctS (frstS F (sPl s)) j)), some (.int (nI j))]) (S' := [.int (M 14 0), .int (nI j)]) (σ' := lm_T M v G) rfl trivial ?_
    rw [show M 14 0 = nI (fN F) from h.n]
    refine lm_G_br (b := (nI (fN F)) ≤ (nI j)) (t := 32) (S' := []) rfl (fun hc => absurd hc (nI_ge hj (by omega))) (fun hc => ?_)
    refine lm_G_sg 2 (pc' := 17) (L' := [some (.ref 48), some (.int (ctS (frstS F (sPl s)) j)), some (.int (nI j))]) (S' := [.int (nI j), .ref 48]) (σ' := lm_T M v G) rfl trivial ?_
    refine lm_G_ca (j := 19) (as := [.ref 48, .int (nI j)]) (rest := []) rfl (Or.inl rfl) (Nat.le_of_ble_eq_true rfl) (Nat.le_of_ble_eq_true rfl) (Nat.le_of_ble_eq_true rfl) (Nat.le_of_ble_eq_true rfl) rfl ?_
    refine c_least hF h hj ?_
    show lm_G X (d + 3) 18 106 0 0 20 [some (.ref 48), some (.int (ctS (frstS F (sPl s)) j)), some (.int (nI j))] [.int (b2i (frstS F (sPl s) j))] (lm_T M v G) Q
    refine lm_G_br (b := (b2i (frstS F (sPl s) j)) = 0) (t := 26) (S' := []) rfl (fun h5 => ?_) (fun h5 => ?_)
    ·
      refine lm_G_sg 1 (pc' := 29) (L' := [some (.ref 48), some (.int (ctS (frstS F (sPl s)) j)), some (.int ((nI j) + 1))]) (S' := []) (σ' := lm_T M v G) rfl trivial ?_
      rw [nI_1]
      refine lm_G_sg 1 (pc' := 4) (L' := [some (.ref 48), some (.int (ctS (frstS F (sPl s)) j)), some (.int (nI (j + 1)))]) (S' := []) (σ' := lm_T M v G) rfl trivial ?_
      rw [ct_n (f := frstS F (sPl s)) (b2i_0 h5)] at ih
      exact ih  trivial
    ·
      refine lm_G_sg 2 (pc' := 29) (L' := [some (.ref 48), some (.int ((ctS (frstS F (sPl s)) j) + 1)), some (.int ((nI j) + 1))]) (S' := []) (σ' := lm_T M v G) rfl trivial ?_
      rw [nI_1]
      refine lm_G_sg 1 (pc' := 4) (L' := [some (.ref 48), some (.int ((ctS (frstS F (sPl s)) j) + 1)), some (.int (nI (j + 1)))]) (S' := []) (σ' := lm_T M v G) rfl trivial ?_
      rw [ct_y (f := frstS F (sPl s)) (b2i_1 h5)] at ih
      exact ih  trivial
  ·
    replace hI : True := hI
    show lm_G X (d + 3) 18 106 0 0 4 [some (.ref 48), some (.int (ctS (frstS F (sPl s)) (fN F))), some (.int (nI (fN F)))] [] (lm_T M v G) Q
    refine lm_G_sg 4 (pc' := 12) (L' := [some (.ref 48), some (.int (ctS (frstS F (sPl s)) (fN F))), some (.int (nI (fN F)))]) (S' := [.int (M 14 0), .int (nI (fN F))]) (σ' := lm_T M v G) rfl trivial ?_
    rw [show M 14 0 = nI (fN F) from h.n]
    refine lm_G_br (b := (nI (fN F)) ≤ (nI (fN F))) (t := 32) (S' := []) rfl (fun hc => ?_) (fun hc => absurd (nI_le (Nat.le_refl _) (by omega)) hc)
    refine lm_G_sg 1 (pc' := 33) (L' := [some (.ref 48), some (.int (ctS (frstS F (sPl s)) (fN F))), some (.int (nI (fN F)))]) (S' := [.int (ctS (frstS F (sPl s)) (fN F))]) (σ' := lm_T M v G) rfl trivial ?_
    exact lm_G_re rfl trivial (Nat.zero_le _) (Nat.zero_le _) hQ
  ·
    trivial
set_option maxRecDepth 10000 in
theorem m_parts {X : lm_X} {d v : Nat} {M : Nat → Nat → Int32} {G : Nat → Nat → Int64} {Q : lm_O → lm_S → Prop} {F : Fa} {s : Sc} (hF : okF F) (h : RM M F s) (hQ : Q (.inl (some (.int (partS F (sPl s))))) (lm_T M v G)) : lm_Q X (d + 4) 197 [.ref 64] (lm_T M v G) Q := by
  have hn := hF.n
  have hm := hF.m
  show lm_G X (d + 4) 197 106 0 0 0 [some (.ref 64), none, none, none, none] [] (lm_T M v G) Q
  refine lm_G_sg 4 (pc' := 4) (L' := [some (.ref 64), some (.int 0), some (.int 0), none, none]) (S' := []) (σ' := lm_T M v G) rfl trivial ?_
  refine lm_ind (α := Unit) (St := fun (j : Nat) zz => lm_G X (d + 4) 197 106 0 0 4 [some (.ref 64), some (.int (ctS (frstS F (sPl s)) j)), some (.int (nI j)), none, none] [] (lm_T M v G) Q) (Inv := fun (j : Nat) zz => True) (fN F) (fun j zz hj hI ih => ?_) (fun zz hI => ?_) (0) () (by omega) ?_
  ·
    replace hI : True := hI
    replace ih : ∀ (_ : True), lm_G X (d + 4) 197 106 0 0 4 [some (.ref 64), some (.int (ctS (frstS F (sPl s)) (j + 1))), some (.int (nI (j + 1))), none, none] [] (lm_T M v G) Q := fun q => ih () q
    show lm_G X (d + 4) 197 106 0 0 4 [some (.ref 64), some (.int (ctS (frstS F (sPl s)) j)), some (.int (nI j)), none, none] [] (lm_T M v G) Q
    refine lm_G_sg 5 (pc' := 11) (L' := [some (.ref 64), some (.int (ctS (frstS F (sPl s)) j)), some (.int (nI j)), none, none]) (S' := [.int (M 68 0), .int (nI j)]) (σ' := lm_T M v G) rfl ⟨(lm_inb_ok rfl), trivial, trivial⟩ ?_
    rw [show M 68 0 = nI (fN F) from h.n]
    refine lm_G_br (b := (nI (fN F)) ≤ (nI j)) (t := 81) (S' := []) rfl (fun hc => absurd hc (nI_ge hj (by omega))) (fun hc => ?_)
    refine lm_G_sg 4 (pc' := 19) (L' := [some (.ref 64), some (.int (ctS (frstS F (sPl s)) j)), some (.int (nI j)), some (.int 1), some (.int 0)]) (S' := []) (σ' := lm_T M v G) rfl trivial ?_
    refine lm_ind (α := Unit) (St := fun (i : Nat) zz => lm_G X (d + 4) 197 106 0 0 19 [some (.ref 64), some (.int (ctS (frstS F (sPl s)) j)), some (.int (nI j)), some (.int (b2i (decide (fstS (fun q => decide (stepS F (sPl s) j q ≠ -1) && decide (stepS F (sPl s) q j ≠ -1)) i = none)))), some (.int (nI i))] [] (lm_T M v G) Q) (Inv := fun (i : Nat) zz => True) (j) (fun i zz hj2 hI2 ih2 => ?_) (fun zz hI2 => ?_) (0) () (by omega) ?_
    ·
      replace hI2 : True := hI2
      replace ih2 : ∀ (_ : True), lm_G X (d + 4) 197 106 0 0 19 [some (.ref 64), some (.int (ctS (frstS F (sPl s)) j)), some (.int (nI j)), some (.int (b2i (decide (fstS (fun q => decide (stepS F (sPl s) j q ≠ -1) && decide (stepS F (sPl s) q j ≠ -1)) (i + 1) = none)))), some (.int (nI (i + 1)))] [] (lm_T M v G) Q := fun q => ih2 () q
      show lm_G X (d + 4) 197 106 0 0 19 [some (.ref 64), some (.int (ctS (frstS F (sPl s)) j)), some (.int (nI j)), some (.int (b2i (decide (fstS (fun q => decide (stepS F (sPl s) j q ≠ -1) && decide (stepS F (sPl s) q j ≠ -1)) i = none)))), some (.int (nI i))] [] (lm_T M v G) Q
      refine lm_G_sg 2 (pc' := 22) (L' := [some (.ref 64), some (.int (ctS (frstS F (sPl s)) j)), some (.int (nI j)), some (.int (b2i (decide (fstS (fun q => decide (stepS F (sPl s) j q ≠ -1) && decide (stepS F (sPl s) q j ≠ -1)) i = none)))), some (.int (nI i))]) (S' := [.int (nI j), .int (nI i)]) (σ' := lm_T M v G) rfl trivial ?_
      refine lm_G_br (b := (nI j) ≤ (nI i)) (t := 63) (S' := []) rfl (fun hc => absurd hc (nI_ge hj2 (by omega))) (fun hc => ?_)
      refine lm_G_sg 1 (pc' := 26) (L' := [some (.ref 64), some (.int (ctS (frstS F (sPl s)) j)), some (.int (nI j)), some (.int (b2i (decide (fstS (fun q => decide (stepS F (sPl s) j q ≠ -1) && decide (stepS F (sPl s) q j ≠ -1)) i = none)))), some (.int (nI i))]) (S' := [.int (b2i (decide (fstS (fun q => decide (stepS F (sPl s) j q ≠ -1) && decide (stepS F (sPl s) q j ≠ -1)) i = none)))]) (σ' := lm_T M v G) rfl trivial ?_
      refine lm_G_br (b := (b2i (decide (fstS (fun q => decide (stepS F (sPl s) j q ≠ -1) && decide (stepS F (sPl s) q j ≠ -1)) i = none))) = 0) (t := 55) (S' := []) rfl (fun h4 => ?_) (fun h4 => ?_)
      ·
        refine lm_G_sg 3 (pc' := 60) (L' := [some (.ref 64), some (.int (ctS (frstS F (sPl s)) j)), some (.int (nI j)), some (.int 0), some (.int ((nI i) + 1))]) (S' := []) (σ' := lm_T M v G) rfl trivial ?_
        rw [nI_1]
        refine lm_G_sg 1 (pc' := 19) (L' := [some (.ref 64), some (.int (ctS (frstS F (sPl s)) j)), some (.int (nI j)), some (.int 0), some (.int (nI (i + 1)))]) (S' := []) (σ' := lm_T M v G) rfl trivial ?_
        have e4 := of_decide_eq_false (b2i_0 h4)
        have e : decide (fstS (fun q => decide (stepS F (sPl s) j q ≠ -1) && decide (stepS F (sPl s) q j ≠ -1)) (i + 1) = none) = false := decide_eq_false (fun w => e4 (fst_non (fun k hk => fst_no w k (by omega))))
        rw [e] at ih2
        exact ih2  trivial
      ·
        have e4 := of_decide_eq_true (b2i_1 h4)
        refine lm_G_sg 3 (pc' := 33) (L' := [some (.ref 64), some (.int (ctS (frstS F (sPl s)) j)), some (.int (nI j)), some (.int (b2i (decide (fstS (fun q => decide (stepS F (sPl s) j q ≠ -1) && decide (stepS F (sPl s) q j ≠ -1)) i = none)))), some (.int (nI i))]) (S' := [.int (nI i), .int (nI j), .ref 64]) (σ' := lm_T M v G) rfl trivial ?_
        refine lm_G_ca (j := 196) (as := [.ref 64, .int (nI j), .int (nI i)]) (rest := []) rfl (Or.inl rfl) (Nat.le_of_ble_eq_true rfl) (Nat.le_of_ble_eq_true rfl) (Nat.le_of_ble_eq_true rfl) (Nat.le_of_ble_eq_true rfl) rfl ?_
        refine m_stepsTo hF h hj (by omega) ?_
        show lm_G X (d + 4) 197 106 0 0 36 [some (.ref 64), some (.int (ctS (frstS F (sPl s)) j)), some (.int (nI j)), some (.int (b2i (decide (fstS (fun q => decide (stepS F (sPl s) j q ≠ -1) && decide (stepS F (sPl s) q j ≠ -1)) i = none)))), some (.int (nI i))] [.int (stepS F (sPl s) j i)] (lm_T M v G) Q
        refine lm_G_sg 1 (pc' := 37) (L' := [some (.ref 64), some (.int (ctS (frstS F (sPl s)) j)), some (.int (nI j)), some (.int (b2i (decide (fstS (fun q => decide (stepS F (sPl s) j q ≠ -1) && decide (stepS F (sPl s) q j ≠ -1)) i = none)))), some (.int (nI i))]) (S' := [.int (-1), .int (stepS F (sPl s) j i)]) (σ' := lm_T M v G) rfl trivial ?_
        refine lm_G_br (b := (stepS F (sPl s) j i) = (-1)) (t := 51) (S' := []) rfl (fun h5 => ?_) (fun h5 => ?_)
        ·
          refine lm_G_sg 4 (pc' := 60) (L' := [some (.ref 64), some (.int (ctS (frstS F (sPl s)) j)), some (.int (nI j)), some (.int 1), some (.int ((nI i) + 1))]) (S' := []) (σ' := lm_T M v G) rfl trivial ?_
          rw [nI_1]
          refine lm_G_sg 1 (pc' := 19) (L' := [some (.ref 64), some (.int (ctS (frstS F (sPl s)) j)), some (.int (nI j)), some (.int 1), some (.int (nI (i + 1)))]) (S' := []) (σ' := lm_T M v G) rfl trivial ?_
          have e : decide (fstS (fun q => decide (stepS F (sPl s) j q ≠ -1) && decide (stepS F (sPl s) q j ≠ -1)) (i + 1) = none) = true := by rw [fst_nx e4]; simp [h5]
          rw [e] at ih2
          exact ih2  trivial
        ·
          refine lm_G_sg 3 (pc' := 44) (L' := [some (.ref 64), some (.int (ctS (frstS F (sPl s)) j)), some (.int (nI j)), some (.int (b2i (decide (fstS (fun q => decide (stepS F (sPl s) j q ≠ -1) && decide (stepS F (sPl s) q j ≠ -1)) i = none)))), some (.int (nI i))]) (S' := [.int (nI j), .int (nI i), .ref 64]) (σ' := lm_T M v G) rfl trivial ?_
          refine lm_G_ca (j := 196) (as := [.ref 64, .int (nI i), .int (nI j)]) (rest := []) rfl (Or.inl rfl) (Nat.le_of_ble_eq_true rfl) (Nat.le_of_ble_eq_true rfl) (Nat.le_of_ble_eq_true rfl) (Nat.le_of_ble_eq_true rfl) rfl ?_
          refine m_stepsTo hF h (by omega) hj ?_
          show lm_G X (d + 4) 197 106 0 0 47 [some (.ref 64), some (.int (ctS (frstS F (sPl s)) j)), some (.int (nI j)), some (.int (b2i (decide (fstS (fun q => decide (stepS F (sPl s) j q ≠ -1) && decide (stepS F (sPl s) q j ≠ -1)) i = none)))), some (.int (nI i))] [.int (stepS F (sPl s) i j)] (lm_T M v G) Q
          refine lm_G_sg 1 (pc' := 48) (L' := [some (.ref 64), some (.int (ctS (frstS F (sPl s)) j)), some (.int (nI j)), some (.int (b2i (decide (fstS (fun q => decide (stepS F (sPl s) j q ≠ -1) && decide (stepS F (sPl s) q j ≠ -1)) i = none)))), some (.int (nI i))]) (S' := [.int (-1), .int (stepS F (sPl s) i j)]) (σ' := lm_T M v G) rfl trivial ?_
          refine lm_G_br (b := ¬ (stepS F (sPl s) i j) = (-1)) (t := 55) (S' := []) rfl (fun h6 => ?_) (fun h6 => ?_)
          ·
            refine lm_G_sg 3 (pc' := 60) (L' := [some (.ref 64), some (.int (ctS (frstS F (sPl s)) j)), some (.int (nI j)), some (.int 0), some (.int ((nI i) + 1))]) (S' := []) (σ' := lm_T M v G) rfl trivial ?_
            rw [nI_1]
            refine lm_G_sg 1 (pc' := 19) (L' := [some (.ref 64), some (.int (ctS (frstS F (sPl s)) j)), some (.int (nI j)), some (.int 0), some (.int (nI (i + 1)))]) (S' := []) (σ' := lm_T M v G) rfl trivial ?_
            have e : decide (fstS (fun q => decide (stepS F (sPl s) j q ≠ -1) && decide (stepS F (sPl s) q j ≠ -1)) (i + 1) = none) = false := by rw [fst_nx e4]; simp [h5, h6]
            rw [e] at ih2
            exact ih2  trivial
          ·
            refine lm_G_sg 4 (pc' := 60) (L' := [some (.ref 64), some (.int (ctS (frstS F (sPl s)) j)), some (.int (nI j)), some (.int 1), some (.int ((nI i) + 1))]) (S' := []) (σ' := lm_T M v G) rfl trivial ?_
            rw [nI_1]
            refine lm_G_sg 1 (pc' := 19) (L' := [some (.ref 64), some (.int (ctS (frstS F (sPl s)) j)), some (.int (nI j)), some (.int 1), some (.int (nI (i + 1)))]) (S' := []) (σ' := lm_T M v G) rfl trivial ?_
            have e : decide (fstS (fun q => decide (stepS F (sPl s) j q ≠ -1) && decide (stepS F (sPl s) q j ≠ -1)) (i + 1) = none) = true := by rw [fst_nx e4]; simp [Classical.not_not.mp h6]
            rw [e] at ih2
            exact ih2  trivial
    ·
      replace hI2 : True := hI2
      show lm_G X (d + 4) 197 106 0 0 19 [some (.ref 64), some (.int (ctS (frstS F (sPl s)) j)), some (.int (nI j)), some (.int (b2i (decide (fstS (fun q => decide (stepS F (sPl s) j q ≠ -1) && decide (stepS F (sPl s) q j ≠ -1)) j = none)))), some (.int (nI j))] [] (lm_T M v G) Q
      refine lm_G_sg 2 (pc' := 22) (L' := [some (.ref 64), some (.int (ctS (frstS F (sPl s)) j)), some (.int (nI j)), some (.int (b2i (decide (fstS (fun q => decide (stepS F (sPl s) j q ≠ -1) && decide (stepS F (sPl s) q j ≠ -1)) j = none)))), some (.int (nI j))]) (S' := [.int (nI j), .int (nI j)]) (σ' := lm_T M v G) rfl trivial ?_
      refine lm_G_br (b := (nI j) ≤ (nI j)) (t := 63) (S' := []) rfl (fun hc => ?_) (fun hc => absurd (nI_le (Nat.le_refl _) (by omega)) hc)
      refine lm_G_sg 2 (pc' := 65) (L' := [some (.ref 64), some (.int (ctS (frstS F (sPl s)) j)), some (.int (nI j)), some (.int (b2i (decide (fstS (fun q => decide (stepS F (sPl s) j q ≠ -1) && decide (stepS F (sPl s) q j ≠ -1)) j = none)))), some (.int (nI j))]) (S' := [.int (b2i (decide (fstS (fun q => decide (stepS F (sPl s) j q ≠ -1) && decide (stepS F (sPl s) q j ≠ -1)) j = none))), .int (ctS (frstS F (sPl s)) j)]) (σ' := lm_T M v G) rfl trivial ?_
      refine lm_G_br (b := (b2i (decide (fstS (fun q => decide (stepS F (sPl s) j q ≠ -1) && decide (stepS F (sPl s) q j ≠ -1)) j = none))) = 0) (t := 72) (S' := [.int (ctS (frstS F (sPl s)) j)]) rfl (fun h5 => ?_) (fun h5 => ?_)
      ·
        refine lm_G_sg 4 (pc' := 78) (L' := [some (.ref 64), some (.int ((ctS (frstS F (sPl s)) j) + 0)), some (.int ((nI j) + 1)), some (.int (b2i (decide (fstS (fun q => decide (stepS F (sPl s) j q ≠ -1) && decide (stepS F (sPl s) q j ≠ -1)) j = none)))), some (.int (nI j))]) (S' := []) (σ' := lm_T M v G) rfl trivial ?_
        rw [nI_1]
        refine lm_G_sg 1 (pc' := 4) (L' := [some (.ref 64), some (.int ((ctS (frstS F (sPl s)) j) + 0)), some (.int (nI (j + 1))), some (.int (b2i (decide (fstS (fun q => decide (stepS F (sPl s) j q ≠ -1) && decide (stepS F (sPl s) q j ≠ -1)) j = none)))), some (.int (nI j))]) (S' := []) (σ' := lm_T M v G) rfl trivial ?_
        rw [Int32.add_zero]
        rw [ct_n (f := frstS F (sPl s)) (b2i_0 h5)] at ih
        refine lm_G_jk (L := [some (.ref 64), some (.int (ctS (frstS F (sPl s)) j)), some (.int (nI (j + 1))), none, none]) ⟨rfl, rfl, rfl, trivial⟩ ?_
        exact ih  trivial
      ·
        refine lm_G_sg 5 (pc' := 78) (L' := [some (.ref 64), some (.int ((ctS (frstS F (sPl s)) j) + 1)), some (.int ((nI j) + 1)), some (.int (b2i (decide (fstS (fun q => decide (stepS F (sPl s) j q ≠ -1) && decide (stepS F (sPl s) q j ≠ -1)) j = none)))), some (.int (nI j))]) (S' := []) (σ' := lm_T M v G) rfl trivial ?_
        rw [nI_1]
        refine lm_G_sg 1 (pc' := 4) (L' := [some (.ref 64), some (.int ((ctS (frstS F (sPl s)) j) + 1)), some (.int (nI (j + 1))), some (.int (b2i (decide (fstS (fun q => decide (stepS F (sPl s) j q ≠ -1) && decide (stepS F (sPl s) q j ≠ -1)) j = none)))), some (.int (nI j))]) (S' := []) (σ' := lm_T M v G) rfl trivial ?_
        rw [ct_y (f := frstS F (sPl s)) (b2i_1 h5)] at ih
        refine lm_G_jk (L := [some (.ref 64), some (.int ((ctS (frstS F (sPl s)) j) + 1)), some (.int (nI (j + 1))), none, none]) ⟨rfl, rfl, rfl, trivial⟩ ?_
        exact ih  trivial
    ·
      trivial
  ·
    replace hI : True := hI
    show lm_G X (d + 4) 197 106 0 0 4 [some (.ref 64), some (.int (ctS (frstS F (sPl s)) (fN F))), some (.int (nI (fN F))), none, none] [] (lm_T M v G) Q
    refine lm_G_sg 5 (pc' := 11) (L' := [some (.ref 64), some (.int (ctS (frstS F (sPl s)) (fN F))), some (.int (nI (fN F))), none, none]) (S' := [.int (M 68 0), .int (nI (fN F))]) (σ' := lm_T M v G) rfl ⟨(lm_inb_ok rfl), trivial, trivial⟩ ?_
    rw [show M 68 0 = nI (fN F) from h.n]
    refine lm_G_br (b := (nI (fN F)) ≤ (nI (fN F))) (t := 81) (S' := []) rfl (fun hc => ?_) (fun hc => absurd (nI_le (Nat.le_refl _) (by omega)) hc)
    refine lm_G_sg 1 (pc' := 82) (L' := [some (.ref 64), some (.int (ctS (frstS F (sPl s)) (fN F))), some (.int (nI (fN F))), none, none]) (S' := [.int (ctS (frstS F (sPl s)) (fN F))]) (σ' := lm_T M v G) rfl trivial ?_
    exact lm_G_re rfl trivial (Nat.zero_le _) (Nat.zero_le _) hQ
  ·
    trivial
set_option maxRecDepth 10000 in
theorem c_are {X : lm_X} {d v : Nat} {M : Nat → Nat → Int32} {G : Nat → Nat → Int64} {Q : lm_O → lm_S → Prop} {F : Fa} {s : Sc} {k : Nat} (hF : okF F) (h : RC 28 M F s) (hQ : Q (.inl (some (.int (b2i (goodS F (sPl s) k))))) (lm_T M v G)) : lm_Q X (d + 1) 21 [.ref 48, .int (nI k)] (lm_T M v G) Q := by
  have hn := hF.n
  have hm := hF.m
  show lm_G X (d + 1) 21 106 0 0 0 [some (.ref 48), some (.int (nI k)), none] [] (lm_T M v G) Q
  refine lm_G_sg 4 (pc' := 8) (L' := [some (.ref 48), some (.int (nI k)), none]) (S' := [.int (M 14 0), .int 1]) (σ' := lm_T M v G) rfl trivial ?_
  rw [show M 14 0 = nI (fN F) from h.n]
  refine lm_G_sg 10 (pc' := 18) (L' := [some (.ref 48), some (.int (nI k)), some (.int ((((1 : Int32) <<< ((nI (fN F)) &&& 31)) - 1) &&& ((nI k) ^^^ (-1))))]) (S' := [.int (nI k), .ref 48]) (σ' := lm_T M v G) rfl trivial ?_
  refine lm_G_ca (j := 16) (as := [.ref 48, .int (nI k)]) (rest := []) rfl (Or.inl rfl) (Nat.le_of_ble_eq_true rfl) (Nat.le_of_ble_eq_true rfl) (Nat.le_of_ble_eq_true rfl) (Nat.le_of_ble_eq_true rfl) rfl ?_
  refine c_whoHears hF h ?_
  show lm_G X (d + 1) 21 106 0 0 21 [some (.ref 48), some (.int (nI k)), some (.int ((((1 : Int32) <<< ((nI (fN F)) &&& 31)) - 1) &&& ((nI k) ^^^ (-1))))] [.int (whS F (sPl s) (nI k))] (lm_T M v G) Q
  refine lm_G_sg 3 (pc' := 24) (L' := [some (.ref 48), some (.int (nI k)), some (.int ((((1 : Int32) <<< ((nI (fN F)) &&& 31)) - 1) &&& ((nI k) ^^^ (-1))))]) (S' := [.int ((((1 : Int32) <<< ((nI (fN F)) &&& 31)) - 1) &&& ((nI k) ^^^ (-1))), .int ((whS F (sPl s) (nI k)) &&& ((((1 : Int32) <<< ((nI (fN F)) &&& 31)) - 1) &&& ((nI k) ^^^ (-1))))]) (σ' := lm_T M v G) rfl trivial ?_
  refine lm_G_br (b := ¬ ((whS F (sPl s) (nI k)) &&& ((((1 : Int32) <<< ((nI (fN F)) &&& 31)) - 1) &&& ((nI k) ^^^ (-1)))) = ((((1 : Int32) <<< ((nI (fN F)) &&& 31)) - 1) &&& ((nI k) ^^^ (-1)))) (t := 31) (S' := []) rfl (fun h5 => ?_) (fun h5 => ?_)
  ·
    refine lm_G_sg 1 (pc' := 32) (L' := [some (.ref 48), some (.int (nI k)), some (.int ((((1 : Int32) <<< ((nI (fN F)) &&& 31)) - 1) &&& ((nI k) ^^^ (-1))))]) (S' := [.int 0]) (σ' := lm_T M v G) rfl trivial ?_
    rw [show goodS F (sPl s) k = false from Bool.eq_false_iff.mpr (fun w => h5 (heardN hF w))] at hQ
    exact lm_G_re rfl (by decide) (Nat.zero_le _) (Nat.zero_le _) hQ
  ·
    refine lm_G_sg 2 (pc' := 32) (L' := [some (.ref 48), some (.int (nI k)), some (.int ((((1 : Int32) <<< ((nI (fN F)) &&& 31)) - 1) &&& ((nI k) ^^^ (-1))))]) (S' := [.int 1]) (σ' := lm_T M v G) rfl trivial ?_
    rw [heardP hF (Classical.not_not.mp h5)] at hQ
    exact lm_G_re rfl (by decide) (Nat.zero_le _) (Nat.zero_le _) hQ
set_option maxRecDepth 10000 in
theorem c_few {X : lm_X} {d v : Nat} {M : Nat → Nat → Int32} {G : Nat → Nat → Int64} {Q : lm_O → lm_S → Prop} {F : Fa} {s : Sc} (hF : okF F) (h : RC 28 M F s) (hQ : Q (.inl (some (.int (nI (fewS F (sPl s) (2 ^ fN F)))))) (lm_T M v G)) : lm_Q X (d + 2) 20 [.ref 48] (lm_T M v G) Q := by
  have hn := hF.n
  have hm := hF.m
  obtain ⟨hb1, hb2, hb3, hb4, hb5⟩ := full_msk (fN F) hF.n
  have hfl := few_lt (F := F) (pl := sPl s)
  have hf0 : fewS F (sPl s) 0 = 2 ^ fN F - 1 := rfl
  have hpf := pc_full (fN F) hF.n
  have hfg := full_good hF (pl := sPl s)
  have hp2 := Nat.two_pow_pos (fN F)
  generalize 2 ^ fN F = N2 at hb2 hb3 hb4 hb5 hfl hf0 hpf hfg hp2 hQ
  show lm_G X (d + 2) 20 106 0 0 0 [some (.ref 48), none, none] [] (lm_T M v G) Q
  refine lm_G_sg 4 (pc' := 8) (L' := [some (.ref 48), none, none]) (S' := [.int (M 14 0), .int 1]) (σ' := lm_T M v G) rfl trivial ?_
  rw [show M 14 0 = nI (fN F) from h.n]
  refine lm_G_sg 6 (pc' := 14) (L' := [some (.ref 48), some (.int (((1 : Int32) <<< ((nI (fN F)) &&& 31)) - 1)), some (.int 0)]) (S' := []) (σ' := lm_T M v G) rfl trivial ?_
  rw [show (1 : Int32) <<< ((nI (fN F)) &&& 31) - 1 = nI (fewS F (sPl s) 0) from by rw [hf0]; exact hb2]
  refine lm_ind (α := Unit) (St := fun (j : Nat) zz => lm_G X (d + 2) 20 106 0 0 14 [some (.ref 48), some (.int (nI (fewS F (sPl s) j))), some (.int (nI j))] [] (lm_T M v G) Q) (Inv := fun (j : Nat) zz => True) (N2) (fun j zz hj hI ih => ?_) (fun zz hI => ?_) (0) () (by omega) ?_
  ·
    replace hI : True := hI
    replace ih : ∀ (_ : True), lm_G X (d + 2) 20 106 0 0 14 [some (.ref 48), some (.int (nI (fewS F (sPl s) (j + 1)))), some (.int (nI (j + 1)))] [] (lm_T M v G) Q := fun q => ih () q
    show lm_G X (d + 2) 20 106 0 0 14 [some (.ref 48), some (.int (nI (fewS F (sPl s) j))), some (.int (nI j))] [] (lm_T M v G) Q
    have hk := hfl j (by omega)
    refine lm_G_sg 5 (pc' := 23) (L' := [some (.ref 48), some (.int (nI (fewS F (sPl s) j))), some (.int (nI j))]) (S' := [.int (M 14 0), .int 1, .int (nI j)]) (σ' := lm_T M v G) rfl trivial ?_
    rw [show M 14 0 = nI (fN F) from h.n]
    refine lm_G_sg 1 (pc' := 24) (L' := [some (.ref 48), some (.int (nI (fewS F (sPl s) j))), some (.int (nI j))]) (S' := [.int ((1 : Int32) <<< ((nI (fN F)) &&& 31)), .int (nI j)]) (σ' := lm_T M v G) rfl trivial ?_
    rw [show (1 : Int32) <<< ((nI (fN F)) &&& 31) = nI N2 from hb4]
    refine lm_G_br (b := (nI N2) ≤ (nI j)) (t := 54) (S' := []) rfl (fun hc => absurd hc (nI_ge hj (by omega))) (fun hc => ?_)
    refine lm_G_sg 1 (pc' := 28) (L' := [some (.ref 48), some (.int (nI (fewS F (sPl s) j))), some (.int (nI j))]) (S' := [.int (nI j)]) (σ' := lm_T M v G) rfl trivial ?_
    refine lm_G_ca (j := 244) (as := [.int (nI j)]) (rest := []) rfl (Or.inl rfl) (Nat.le_of_ble_eq_true rfl) (Nat.le_of_ble_eq_true rfl) (Nat.le_of_ble_eq_true rfl) (Nat.le_of_ble_eq_true rfl) rfl ?_
    refine c_bits ⟨j, by omega, rfl⟩ ?_
    show lm_G X (d + 2) 20 106 0 0 31 [some (.ref 48), some (.int (nI (fewS F (sPl s) j))), some (.int (nI j))] [.int (cnt (nI j))] (lm_T M v G) Q
    rw [cnt_nI (k := j) (by omega)]
    refine lm_G_sg 1 (pc' := 32) (L' := [some (.ref 48), some (.int (nI (fewS F (sPl s) j))), some (.int (nI j))]) (S' := [.int (nI (fewS F (sPl s) j)), .int (nI (pcN j))]) (σ' := lm_T M v G) rfl trivial ?_
    refine lm_G_ca (j := 244) (as := [.int (nI (fewS F (sPl s) j))]) (rest := [.int (nI (pcN j))]) rfl (Or.inl rfl) (Nat.le_of_ble_eq_true rfl) (Nat.le_of_ble_eq_true rfl) (Nat.le_of_ble_eq_true rfl) (Nat.le_of_ble_eq_true rfl) rfl ?_
    refine c_bits ⟨fewS F (sPl s) j, by omega, rfl⟩ ?_
    show lm_G X (d + 2) 20 106 0 0 35 [some (.ref 48), some (.int (nI (fewS F (sPl s) j))), some (.int (nI j))] [.int (cnt (nI (fewS F (sPl s) j))), .int (nI (pcN j))] (lm_T M v G) Q
    rw [cnt_nI (k := fewS F (sPl s) j) (by omega)]
    have p1 := pcN_le j (by omega)
    have p2 := pcN_le (fewS F (sPl s) j) (by omega)
    refine lm_G_br (b := (nI (pcN (fewS F (sPl s) j))) ≤ (nI (pcN j))) (t := 48) (S' := []) rfl (fun h5 => ?_) (fun h5 => ?_)
    ·
      refine lm_G_sg 1 (pc' := 51) (L' := [some (.ref 48), some (.int (nI (fewS F (sPl s) j))), some (.int ((nI j) + 1))]) (S' := []) (σ' := lm_T M v G) rfl trivial ?_
      rw [nI_1]
      refine lm_G_sg 1 (pc' := 14) (L' := [some (.ref 48), some (.int (nI (fewS F (sPl s) j))), some (.int (nI (j + 1)))]) (S' := []) (σ' := lm_T M v G) rfl trivial ?_
      have e : fewS F (sPl s) (j + 1) = fewS F (sPl s) j := by
        have w : ¬ pcN j < pcN (fewS F (sPl s) j) := fun w => nI_ge w (by omega) h5
        simp only [fewS]
        rw [decide_eq_false w]
        rfl
      rw [e] at ih
      exact ih  trivial
    ·
      have w : pcN j < pcN (fewS F (sPl s) j) := Nat.lt_of_not_le (fun w => h5 (nI_le w (by omega)))
      refine lm_G_sg 2 (pc' := 40) (L' := [some (.ref 48), some (.int (nI (fewS F (sPl s) j))), some (.int (nI j))]) (S' := [.int (nI j), .ref 48]) (σ' := lm_T M v G) rfl trivial ?_
      refine lm_G_ca (j := 21) (as := [.ref 48, .int (nI j)]) (rest := []) rfl (Or.inl rfl) (Nat.le_of_ble_eq_true rfl) (Nat.le_of_ble_eq_true rfl) (Nat.le_of_ble_eq_true rfl) (Nat.le_of_ble_eq_true rfl) rfl ?_
      refine c_are hF h ?_
      show lm_G X (d + 2) 20 106 0 0 43 [some (.ref 48), some (.int (nI (fewS F (sPl s) j))), some (.int (nI j))] [.int (b2i (goodS F (sPl s) j))] (lm_T M v G) Q
      refine lm_G_br (b := (b2i (goodS F (sPl s) j)) = 0) (t := 48) (S' := []) rfl (fun h6 => ?_) (fun h6 => ?_)
      ·
        refine lm_G_sg 1 (pc' := 51) (L' := [some (.ref 48), some (.int (nI (fewS F (sPl s) j))), some (.int ((nI j) + 1))]) (S' := []) (σ' := lm_T M v G) rfl trivial ?_
        rw [nI_1]
        refine lm_G_sg 1 (pc' := 14) (L' := [some (.ref 48), some (.int (nI (fewS F (sPl s) j))), some (.int (nI (j + 1)))]) (S' := []) (σ' := lm_T M v G) rfl trivial ?_
        have e : fewS F (sPl s) (j + 1) = fewS F (sPl s) j := by
          simp only [fewS]
          rw [b2i_0 h6, Bool.and_false]
          rfl
        rw [e] at ih
        exact ih  trivial
      ·
        refine lm_G_sg 3 (pc' := 51) (L' := [some (.ref 48), some (.int (nI j)), some (.int ((nI j) + 1))]) (S' := []) (σ' := lm_T M v G) rfl trivial ?_
        rw [nI_1]
        refine lm_G_sg 1 (pc' := 14) (L' := [some (.ref 48), some (.int (nI j)), some (.int (nI (j + 1)))]) (S' := []) (σ' := lm_T M v G) rfl trivial ?_
        have e : fewS F (sPl s) (j + 1) = j := by
          simp only [fewS]
          rw [b2i_1 h6, decide_eq_true w]
          rfl
        rw [e] at ih
        exact ih  trivial
  ·
    replace hI : True := hI
    show lm_G X (d + 2) 20 106 0 0 14 [some (.ref 48), some (.int (nI (fewS F (sPl s) N2))), some (.int (nI N2))] [] (lm_T M v G) Q
    refine lm_G_sg 5 (pc' := 23) (L' := [some (.ref 48), some (.int (nI (fewS F (sPl s) N2))), some (.int (nI N2))]) (S' := [.int (M 14 0), .int 1, .int (nI N2)]) (σ' := lm_T M v G) rfl trivial ?_
    rw [show M 14 0 = nI (fN F) from h.n]
    refine lm_G_sg 1 (pc' := 24) (L' := [some (.ref 48), some (.int (nI (fewS F (sPl s) N2))), some (.int (nI N2))]) (S' := [.int ((1 : Int32) <<< ((nI (fN F)) &&& 31)), .int (nI N2)]) (σ' := lm_T M v G) rfl trivial ?_
    rw [show (1 : Int32) <<< ((nI (fN F)) &&& 31) = nI N2 from hb4]
    refine lm_G_br (b := (nI N2) ≤ (nI N2)) (t := 54) (S' := []) rfl (fun hc => ?_) (fun hc => absurd (nI_le (Nat.le_refl _) (by omega)) hc)
    refine lm_G_sg 1 (pc' := 55) (L' := [some (.ref 48), some (.int (nI (fewS F (sPl s) N2))), some (.int (nI N2))]) (S' := [.int (nI (fewS F (sPl s) N2))]) (σ' := lm_T M v G) rfl trivial ?_
    exact lm_G_re rfl trivial (Nat.zero_le _) (Nat.zero_le _) hQ
  ·
    trivial
set_option maxRecDepth 10000 in
theorem m_few {X : lm_X} {d v : Nat} {M : Nat → Nat → Int32} {G : Nat → Nat → Int64} {Q : lm_O → lm_S → Prop} {F : Fa} {s : Sc} (hF : okF F) (h : RM M F s) (hQ : Q (.inl (some (.int (nI (fewS F (sPl s) (2 ^ fN F)))))) (lm_T M v G)) : lm_Q X (d + 3) 198 [.ref 64] (lm_T M v G) Q := by
  have hn := hF.n
  have hm := hF.m
  obtain ⟨hb1, hb2, hb3, hb4, hb5⟩ := full_msk (fN F) hF.n
  have hfl := few_lt (F := F) (pl := sPl s)
  have hf0 : fewS F (sPl s) 0 = 2 ^ fN F - 1 := rfl
  have hpf := pc_full (fN F) hF.n
  have hfg := full_good hF (pl := sPl s)
  have hp2 := Nat.two_pow_pos (fN F)
  generalize 2 ^ fN F = N2 at hb2 hb3 hb4 hb5 hfl hf0 hpf hfg hp2 hQ
  show lm_G X (d + 3) 198 106 0 0 0 [some (.ref 64), none, none, none, none] [] (lm_T M v G) Q
  refine lm_G_sg 4 (pc' := 4) (L' := [some (.ref 64), some (.int (-1)), some (.int 0), none, none]) (S' := []) (σ' := lm_T M v G) rfl trivial ?_
  refine lm_ind (α := Int32) (St := fun (j : Nat) zz => (fun (z : Int32) => lm_G X (d + 3) 198 106 0 0 4 [some (.ref 64), some (.int z), some (.int (nI j)), none, none] [] (lm_T M v G) Q) zz) (Inv := fun (j : Nat) zz => (fun (z : Int32) => (z = -1 ∧ fewS F (sPl s) j = N2 - 1 ∧ j < N2) ∨ z = nI (fewS F (sPl s) j)) zz) (N2) (fun j zz hj hI ih => ?_) (fun zz hI => ?_) (0) (-1) (by omega) ?_
  ·
    revert ih hI
    revert zz
    intro z hI ih
    replace hI : (z = -1 ∧ fewS F (sPl s) j = N2 - 1 ∧ j < N2) ∨ z = nI (fewS F (sPl s) j) := hI
    replace ih : ∀ (z : Int32) (_ : (z = -1 ∧ fewS F (sPl s) (j + 1) = N2 - 1 ∧ (j + 1) < N2) ∨ z = nI (fewS F (sPl s) (j + 1))), lm_G X (d + 3) 198 106 0 0 4 [some (.ref 64), some (.int z), some (.int (nI (j + 1))), none, none] [] (lm_T M v G) Q := fun z q => ih z q
    show lm_G X (d + 3) 198 106 0 0 4 [some (.ref 64), some (.int z), some (.int (nI j)), none, none] [] (lm_T M v G) Q
    have hk := hfl j (by omega)
    have p1 := pcN_le j (by omega)
    have p2 := pcN_le (fewS F (sPl s) j) (by omega)
    refine lm_G_sg 2 (pc' := 6) (L' := [some (.ref 64), some (.int z), some (.int (nI j)), none, none]) (S' := [.ref 64, .int (nI j)]) (σ' := lm_T M v G) rfl trivial ?_
    refine lm_G_ca (j := 147) (as := [.ref 64]) (rest := [.int (nI j)]) rfl (Or.inl rfl) (Nat.le_of_ble_eq_true rfl) (Nat.le_of_ble_eq_true rfl) (Nat.le_of_ble_eq_true rfl) (Nat.le_of_ble_eq_true rfl) rfl ?_
    refine m_everybody hF h ?_
    show lm_G X (d + 3) 198 106 0 0 9 [some (.ref 64), some (.int z), some (.int (nI j)), none, none] [.int (bit1 (nI (fN F)) - 1), .int (nI j)] (lm_T M v G) Q
    rw [hb2]
    refine lm_G_br (b := (nI (N2 - 1)) < (nI j)) (t := 95) (S' := []) rfl (fun hc => absurd hc (nI_nlt (by omega) (by omega))) (fun hc => ?_)
    refine lm_G_sg 2 (pc' := 14) (L' := [some (.ref 64), some (.int z), some (.int (nI j)), none, none]) (S' := [.int (-1), .int z]) (σ' := lm_T M v G) rfl trivial ?_
    have k31 : ∀ (hz : (z = -1 ∧ fewS F (sPl s) j = N2 - 1) ∨ (z = nI (fewS F (sPl s) j) ∧ pcN j < pcN (fewS F (sPl s) j))), lm_G X (d + 3) 198 106 0 0 31 [some (.ref 64), some (.int z), some (.int (nI j)), none, none] [] (lm_T M v G) Q := by
      intro hz
      refine lm_G_sg 4 (pc' := 36) (L' := [some (.ref 64), some (.int z), some (.int (nI j)), some (.int 1), some (.int 0)]) (S' := []) (σ' := lm_T M v G) rfl trivial ?_
      refine lm_ind (α := Unit) (St := fun (i : Nat) zz => lm_G X (d + 3) 198 106 0 0 36 [some (.ref 64), some (.int z), some (.int (nI j)), some (.int (b2i (alB (fun p => bitW (nI j) p || decide (heardS F (sPl s) p &&& nI j ≠ 0)) i))), some (.int (nI i))] [] (lm_T M v G) Q) (Inv := fun (i : Nat) zz => True) (fN F) (fun i zz hj2 hI2 ih2 => ?_) (fun zz hI2 => ?_) (0) () (by omega) ?_
      ·
        replace hI2 : True := hI2
        replace ih2 : ∀ (_ : True), lm_G X (d + 3) 198 106 0 0 36 [some (.ref 64), some (.int z), some (.int (nI j)), some (.int (b2i (alB (fun p => bitW (nI j) p || decide (heardS F (sPl s) p &&& nI j ≠ 0)) (i + 1)))), some (.int (nI (i + 1)))] [] (lm_T M v G) Q := fun q => ih2 () q
        show lm_G X (d + 3) 198 106 0 0 36 [some (.ref 64), some (.int z), some (.int (nI j)), some (.int (b2i (alB (fun p => bitW (nI j) p || decide (heardS F (sPl s) p &&& nI j ≠ 0)) i))), some (.int (nI i))] [] (lm_T M v G) Q
        refine lm_G_sg 5 (pc' := 44) (L' := [some (.ref 64), some (.int z), some (.int (nI j)), some (.int (b2i (alB (fun p => bitW (nI j) p || decide (heardS F (sPl s) p &&& nI j ≠ 0)) i))), some (.int (nI i))]) (S' := [.int (M 68 0), .int (nI i)]) (σ' := lm_T M v G) rfl ⟨(lm_inb_ok rfl), trivial, trivial⟩ ?_
        rw [show M 68 0 = nI (fN F) from h.n]
        refine lm_G_br (b := (nI (fN F)) ≤ (nI i)) (t := 83) (S' := []) rfl (fun hc => absurd hc (nI_ge hj2 (by omega))) (fun hc => ?_)
        refine lm_G_sg 1 (pc' := 48) (L' := [some (.ref 64), some (.int z), some (.int (nI j)), some (.int (b2i (alB (fun p => bitW (nI j) p || decide (heardS F (sPl s) p &&& nI j ≠ 0)) i))), some (.int (nI i))]) (S' := [.int (b2i (alB (fun p => bitW (nI j) p || decide (heardS F (sPl s) p &&& nI j ≠ 0)) i))]) (σ' := lm_T M v G) rfl trivial ?_
        refine lm_G_br (b := (b2i (alB (fun p => bitW (nI j) p || decide (heardS F (sPl s) p &&& nI j ≠ 0)) i)) = 0) (t := 83) (S' := []) rfl (fun h4 => ?_) (fun h4 => ?_)
        ·
          have e4 := b2i_0 h4
          have e5 : goodS F (sPl s) j = false := by
            refine Bool.eq_false_iff.mpr (fun w => ?_)
            rw [al_t.mpr (fun k hk => al_t.mp w k (by omega))] at e4
            cases e4
          refine lm_G_sg 1 (pc' := 84) (L' := [some (.ref 64), some (.int z), some (.int (nI j)), some (.int (b2i (alB (fun p => bitW (nI j) p || decide (heardS F (sPl s) p &&& nI j ≠ 0)) i))), some (.int (nI i))]) (S' := [.int (b2i (alB (fun p => bitW (nI j) p || decide (heardS F (sPl s) p &&& nI j ≠ 0)) i))]) (σ' := lm_T M v G) rfl trivial ?_
          rw [e4]
          refine lm_G_br (b := (b2i false) = 0) (t := 89) (S' := []) rfl (fun h4 => ?_) (fun h4 => absurd rfl h4)
          refine lm_G_sg 1 (pc' := 92) (L' := [some (.ref 64), some (.int z), some (.int ((nI j) + 1)), some (.int (b2i false)), some (.int (nI i))]) (S' := []) (σ' := lm_T M v G) rfl trivial ?_
          rw [nI_1]
          refine lm_G_sg 1 (pc' := 4) (L' := [some (.ref 64), some (.int z), some (.int (nI (j + 1))), some (.int (b2i false)), some (.int (nI i))]) (S' := []) (σ' := lm_T M v G) rfl trivial ?_
          have e : fewS F (sPl s) (j + 1) = fewS F (sPl s) j := by
            simp only [fewS]
            rw [e5, Bool.and_false]
            rfl
          rw [e] at ih
          refine lm_G_jk (L := [some (.ref 64), some (.int z), some (.int (nI (j + 1))), none, none]) ⟨rfl, rfl, rfl, trivial⟩ ?_
          exact ih _ (by
                      rcases hz with w | w
                      · refine Or.inl ⟨w.1, w.2, ?_⟩
                        by_cases q : j = N2 - 1
                        · exact absurd hfg (by rw [← q, e5]; decide)
                        · omega
                      · exact Or.inr w.1)
        ·
          have e4 := b2i_1 h4
          refine lm_G_sg 2 (pc' := 54) (L' := [some (.ref 64), some (.int z), some (.int (nI j)), some (.int (b2i (alB (fun p => bitW (nI j) p || decide (heardS F (sPl s) p &&& nI j ≠ 0)) i))), some (.int (nI i))]) (S' := [.int (nI i), .int (nI j)]) (σ' := lm_T M v G) rfl trivial ?_
          refine lm_G_ca (j := 143) (as := [.int (nI j), .int (nI i)]) (rest := []) rfl (Or.inl rfl) (Nat.le_of_ble_eq_true rfl) (Nat.le_of_ble_eq_true rfl) (Nat.le_of_ble_eq_true rfl) (Nat.le_of_ble_eq_true rfl) rfl ?_
          refine c_isOf ?_
          show lm_G X (d + 3) 198 106 0 0 57 [some (.ref 64), some (.int z), some (.int (nI j)), some (.int (b2i (alB (fun p => bitW (nI j) p || decide (heardS F (sPl s) p &&& nI j ≠ 0)) i))), some (.int (nI i))] [.int (b2i (bitW (nI j) i))] (lm_T M v G) Q
          refine lm_G_br (b := ¬ (b2i (bitW (nI j) i)) = 0) (t := 71) (S' := []) rfl (fun h5 => ?_) (fun h5 => ?_)
          ·
            refine lm_G_sg 4 (pc' := 80) (L' := [some (.ref 64), some (.int z), some (.int (nI j)), some (.int 1), some (.int ((nI i) + 1))]) (S' := []) (σ' := lm_T M v G) rfl trivial ?_
            rw [nI_1]
            refine lm_G_sg 1 (pc' := 36) (L' := [some (.ref 64), some (.int z), some (.int (nI j)), some (.int 1), some (.int (nI (i + 1)))]) (S' := []) (σ' := lm_T M v G) rfl trivial ?_
            have e : alB (fun p => bitW (nI j) p || decide (heardS F (sPl s) p &&& nI j ≠ 0)) (i + 1) = true := by
              simp only [alB]
              rw [e4, b2i_1 h5]
              rfl
            rw [e] at ih2
            exact ih2  trivial
          ·
            refine lm_G_sg 2 (pc' := 63) (L' := [some (.ref 64), some (.int z), some (.int (nI j)), some (.int (b2i (alB (fun p => bitW (nI j) p || decide (heardS F (sPl s) p &&& nI j ≠ 0)) i))), some (.int (nI i))]) (S' := [.int (nI i), .ref 64]) (σ' := lm_T M v G) rfl trivial ?_
            refine lm_G_ca (j := 180) (as := [.ref 64, .int (nI i)]) (rest := []) rfl (Or.inl rfl) (Nat.le_of_ble_eq_true rfl) (Nat.le_of_ble_eq_true rfl) (Nat.le_of_ble_eq_true rfl) (Nat.le_of_ble_eq_true rfl) rfl ?_
            refine m_heardBy hF h hj2 ?_
            show lm_G X (d + 3) 198 106 0 0 66 [some (.ref 64), some (.int z), some (.int (nI j)), some (.int (b2i (alB (fun p => bitW (nI j) p || decide (heardS F (sPl s) p &&& nI j ≠ 0)) i))), some (.int (nI i))] [.int (heardS F (sPl s) i)] (lm_T M v G) Q
            refine lm_G_sg 2 (pc' := 68) (L' := [some (.ref 64), some (.int z), some (.int (nI j)), some (.int (b2i (alB (fun p => bitW (nI j) p || decide (heardS F (sPl s) p &&& nI j ≠ 0)) i))), some (.int (nI i))]) (S' := [.int ((heardS F (sPl s) i) &&& (nI j))]) (σ' := lm_T M v G) rfl trivial ?_
            refine lm_G_br (b := ((heardS F (sPl s) i) &&& (nI j)) = 0) (t := 75) (S' := []) rfl (fun h6 => ?_) (fun h6 => ?_)
            ·
              refine lm_G_sg 3 (pc' := 80) (L' := [some (.ref 64), some (.int z), some (.int (nI j)), some (.int 0), some (.int ((nI i) + 1))]) (S' := []) (σ' := lm_T M v G) rfl trivial ?_
              rw [nI_1]
              refine lm_G_sg 1 (pc' := 36) (L' := [some (.ref 64), some (.int z), some (.int (nI j)), some (.int 0), some (.int (nI (i + 1)))]) (S' := []) (σ' := lm_T M v G) rfl trivial ?_
              have e : alB (fun p => bitW (nI j) p || decide (heardS F (sPl s) p &&& nI j ≠ 0)) (i + 1) = false := by
                simp only [alB]
                rw [e4, b2i_0 (Classical.not_not.mp h5)]
                simp [h6]
              rw [e] at ih2
              exact ih2  trivial
            ·
              refine lm_G_sg 4 (pc' := 80) (L' := [some (.ref 64), some (.int z), some (.int (nI j)), some (.int 1), some (.int ((nI i) + 1))]) (S' := []) (σ' := lm_T M v G) rfl trivial ?_
              rw [nI_1]
              refine lm_G_sg 1 (pc' := 36) (L' := [some (.ref 64), some (.int z), some (.int (nI j)), some (.int 1), some (.int (nI (i + 1)))]) (S' := []) (σ' := lm_T M v G) rfl trivial ?_
              have e : alB (fun p => bitW (nI j) p || decide (heardS F (sPl s) p &&& nI j ≠ 0)) (i + 1) = true := by
                simp only [alB]
                rw [e4, b2i_0 (Classical.not_not.mp h5)]
                simp [h6]
              rw [e] at ih2
              exact ih2  trivial
      ·
        replace hI2 : True := hI2
        show lm_G X (d + 3) 198 106 0 0 36 [some (.ref 64), some (.int z), some (.int (nI j)), some (.int (b2i (alB (fun p => bitW (nI j) p || decide (heardS F (sPl s) p &&& nI j ≠ 0)) (fN F)))), some (.int (nI (fN F)))] [] (lm_T M v G) Q
        refine lm_G_sg 5 (pc' := 44) (L' := [some (.ref 64), some (.int z), some (.int (nI j)), some (.int (b2i (alB (fun p => bitW (nI j) p || decide (heardS F (sPl s) p &&& nI j ≠ 0)) (fN F)))), some (.int (nI (fN F)))]) (S' := [.int (M 68 0), .int (nI (fN F))]) (σ' := lm_T M v G) rfl ⟨(lm_inb_ok rfl), trivial, trivial⟩ ?_
        rw [show M 68 0 = nI (fN F) from h.n]
        refine lm_G_br (b := (nI (fN F)) ≤ (nI (fN F))) (t := 83) (S' := []) rfl (fun hc => ?_) (fun hc => absurd (nI_le (Nat.le_refl _) (by omega)) hc)
        refine lm_G_sg 1 (pc' := 84) (L' := [some (.ref 64), some (.int z), some (.int (nI j)), some (.int (b2i (alB (fun p => bitW (nI j) p || decide (heardS F (sPl s) p &&& nI j ≠ 0)) (fN F)))), some (.int (nI (fN F)))]) (S' := [.int (b2i (alB (fun p => bitW (nI j) p || decide (heardS F (sPl s) p &&& nI j ≠ 0)) (fN F)))]) (σ' := lm_T M v G) rfl trivial ?_
        refine lm_G_br (b := (b2i (alB (fun p => bitW (nI j) p || decide (heardS F (sPl s) p &&& nI j ≠ 0)) (fN F))) = 0) (t := 89) (S' := []) rfl (fun h4 => ?_) (fun h4 => ?_)
        ·
          have e5 : goodS F (sPl s) j = false := b2i_0 h4
          refine lm_G_sg 1 (pc' := 92) (L' := [some (.ref 64), some (.int z), some (.int ((nI j) + 1)), some (.int (b2i (alB (fun p => bitW (nI j) p || decide (heardS F (sPl s) p &&& nI j ≠ 0)) (fN F)))), some (.int (nI (fN F)))]) (S' := []) (σ' := lm_T M v G) rfl trivial ?_
          rw [nI_1]
          refine lm_G_sg 1 (pc' := 4) (L' := [some (.ref 64), some (.int z), some (.int (nI (j + 1))), some (.int (b2i (alB (fun p => bitW (nI j) p || decide (heardS F (sPl s) p &&& nI j ≠ 0)) (fN F)))), some (.int (nI (fN F)))]) (S' := []) (σ' := lm_T M v G) rfl trivial ?_
          have e : fewS F (sPl s) (j + 1) = fewS F (sPl s) j := by
            simp only [fewS]
            rw [e5, Bool.and_false]
            rfl
          rw [e] at ih
          refine lm_G_jk (L := [some (.ref 64), some (.int z), some (.int (nI (j + 1))), none, none]) ⟨rfl, rfl, rfl, trivial⟩ ?_
          exact ih _ (by
                      rcases hz with w | w
                      · refine Or.inl ⟨w.1, w.2, ?_⟩
                        by_cases q : j = N2 - 1
                        · exact absurd hfg (by rw [← q, e5]; decide)
                        · omega
                      · exact Or.inr w.1)
        ·
          have e5 : goodS F (sPl s) j = true := b2i_1 h4
          refine lm_G_sg 3 (pc' := 92) (L' := [some (.ref 64), some (.int (nI j)), some (.int ((nI j) + 1)), some (.int (b2i (alB (fun p => bitW (nI j) p || decide (heardS F (sPl s) p &&& nI j ≠ 0)) (fN F)))), some (.int (nI (fN F)))]) (S' := []) (σ' := lm_T M v G) rfl trivial ?_
          rw [nI_1]
          refine lm_G_sg 1 (pc' := 4) (L' := [some (.ref 64), some (.int (nI j)), some (.int (nI (j + 1))), some (.int (b2i (alB (fun p => bitW (nI j) p || decide (heardS F (sPl s) p &&& nI j ≠ 0)) (fN F)))), some (.int (nI (fN F)))]) (S' := []) (σ' := lm_T M v G) rfl trivial ?_
          refine lm_G_jk (L := [some (.ref 64), some (.int (nI j)), some (.int (nI (j + 1))), none, none]) ⟨rfl, rfl, rfl, trivial⟩ ?_
          exact ih _ (by
                      refine Or.inr ?_
                      congr 1
                      simp only [fewS]
                      rw [e5, Bool.and_true]
                      rcases hz with w | w
                      · by_cases q : j = N2 - 1
                        · rw [w.2, ← q]
                          simp
                        · rw [w.2, hb3, decide_eq_true (hpf j (by omega))]
                          rfl
                      · rw [decide_eq_true w.2]
                        rfl)
      ·
        trivial
    refine lm_G_br (b := z = (-1)) (t := 31) (S' := []) rfl (fun h5 => ?_) (fun h5 => ?_)
    ·
      exact k31 (Or.inl (by rcases hI with w | w; exact ⟨w.1, w.2.1⟩; exact absurd (w.symm.trans h5) (nI_m1 (by omega))))
    ·
      have ez : z = nI (fewS F (sPl s) j) := hI.resolve_left (fun w => h5 w.1)
      refine lm_G_sg 1 (pc' := 18) (L' := [some (.ref 64), some (.int z), some (.int (nI j)), none, none]) (S' := [.int (nI j)]) (σ' := lm_T M v G) rfl trivial ?_
      refine lm_G_ca (j := 144) (as := [.int (nI j)]) (rest := []) rfl (Or.inl rfl) (Nat.le_of_ble_eq_true rfl) (Nat.le_of_ble_eq_true rfl) (Nat.le_of_ble_eq_true rfl) (Nat.le_of_ble_eq_true rfl) rfl ?_
      refine m_bits ⟨j, by omega, rfl⟩ ?_
      show lm_G X (d + 3) 198 106 0 0 21 [some (.ref 64), some (.int z), some (.int (nI j)), none, none] [.int (cnt (nI j))] (lm_T M v G) Q
      rw [cnt_nI (k := j) (by omega)]
      refine lm_G_sg 1 (pc' := 22) (L' := [some (.ref 64), some (.int z), some (.int (nI j)), none, none]) (S' := [.int z, .int (nI (pcN j))]) (σ' := lm_T M v G) rfl trivial ?_
      refine lm_G_ca (j := 144) (as := [.int z]) (rest := [.int (nI (pcN j))]) rfl (Or.inl rfl) (Nat.le_of_ble_eq_true rfl) (Nat.le_of_ble_eq_true rfl) (Nat.le_of_ble_eq_true rfl) (Nat.le_of_ble_eq_true rfl) rfl ?_
      refine m_bits ⟨fewS F (sPl s) j, by omega, ez⟩ ?_
      show lm_G X (d + 3) 198 106 0 0 25 [some (.ref 64), some (.int z), some (.int (nI j)), none, none] [.int (cnt z), .int (nI (pcN j))] (lm_T M v G) Q
      rw [show cnt z = nI (pcN (fewS F (sPl s) j)) from by rw [ez]; exact cnt_nI (by omega)]
      refine lm_G_br (b := (nI (pcN j)) < (nI (pcN (fewS F (sPl s) j)))) (t := 31) (S' := []) rfl (fun h6 => ?_) (fun h6 => ?_)
      ·
        have w : pcN j < pcN (fewS F (sPl s) j) := Nat.lt_of_not_le (fun w => nI_nlt w (by omega) h6)
        exact k31 (Or.inr ⟨ez, w⟩)
      ·
        refine lm_G_sg 2 (pc' := 92) (L' := [some (.ref 64), some (.int z), some (.int ((nI j) + 1)), none, none]) (S' := []) (σ' := lm_T M v G) rfl trivial ?_
        rw [nI_1]
        refine lm_G_sg 1 (pc' := 4) (L' := [some (.ref 64), some (.int z), some (.int (nI (j + 1))), none, none]) (S' := []) (σ' := lm_T M v G) rfl trivial ?_
        have e : fewS F (sPl s) (j + 1) = fewS F (sPl s) j := by
          have w : ¬ pcN j < pcN (fewS F (sPl s) j) := fun w => h6 (nI_lt w (by omega))
          simp only [fewS]
          rw [decide_eq_false w]
          rfl
        rw [e] at ih
        exact ih _ (Or.inr ez)
  ·
    revert hI
    revert zz
    intro z hI
    replace hI : (z = -1 ∧ fewS F (sPl s) N2 = N2 - 1 ∧ N2 < N2) ∨ z = nI (fewS F (sPl s) N2) := hI
    show lm_G X (d + 3) 198 106 0 0 4 [some (.ref 64), some (.int z), some (.int (nI N2)), none, none] [] (lm_T M v G) Q
    refine lm_G_sg 2 (pc' := 6) (L' := [some (.ref 64), some (.int z), some (.int (nI N2)), none, none]) (S' := [.ref 64, .int (nI N2)]) (σ' := lm_T M v G) rfl trivial ?_
    refine lm_G_ca (j := 147) (as := [.ref 64]) (rest := [.int (nI N2)]) rfl (Or.inl rfl) (Nat.le_of_ble_eq_true rfl) (Nat.le_of_ble_eq_true rfl) (Nat.le_of_ble_eq_true rfl) (Nat.le_of_ble_eq_true rfl) rfl ?_
    refine m_everybody hF h ?_
    show lm_G X (d + 3) 198 106 0 0 9 [some (.ref 64), some (.int z), some (.int (nI N2)), none, none] [.int (bit1 (nI (fN F)) - 1), .int (nI N2)] (lm_T M v G) Q
    rw [hb2]
    skip
    refine lm_G_br (b := (nI (N2 - 1)) < (nI N2)) (t := 95) (S' := []) rfl (fun hc => ?_) (fun hc => absurd (nI_lt (by omega) (by omega)) hc)
    refine lm_G_sg 1 (pc' := 96) (L' := [some (.ref 64), some (.int z), some (.int (nI N2)), none, none]) (S' := [.int z]) (σ' := lm_T M v G) rfl trivial ?_
    rcases hI with w | w
    · exact absurd w.2.2 (Nat.lt_irrefl _)
    rw [← w] at hQ
    exact lm_G_re rfl trivial (Nat.zero_le _) (Nat.zero_le _) hQ
  ·
    try dsimp only
    exact Or.inl ⟨rfl, hf0, hp2⟩
def aHums (F : Fa) (s : Sc) (x y : Int32) : An := if isP (fN F) x && isP (fN F) y then .inl (stepS F (sPl s) x.toNatClampNeg y.toNatClampNeg) else .inr false
def aFar (F : Fa) (s : Sc) (x : Int32) : An := if isP (fN F) x then .inl (farS F (sPl s) x.toNatClampNeg) else .inr false
set_option maxRecDepth 10000 in
theorem c_hums {X : lm_X} {d v : Nat} {M : Nat → Nat → Int32} {G : Nat → Nat → Int64} {Q : lm_O → lm_S → Prop} {F : Fa} {s : Sc} {x y : Int32} (hF : okF F) (h : RC 28 M F s) (hs : okS F s) (hl : M 28 12 = -1) (hQ : ∀ M1, Fr frQ M M1 → Q (cO (aHums F s x y)) (lm_T M1 v G)) : lm_Q X (d + 2) 106 [.ref 0, .int x, .int y] (lm_T M v G) Q := by
  have hn := hF.n
  have hm := hF.m
  show lm_G X (d + 2) 106 106 0 0 0 [some (.ref 0), some (.int x), some (.int y)] [] (lm_T M v G) Q
  refine lm_G_sg 2 (pc' := 2) (L' := [some (.ref 0), some (.int x), some (.int y)]) (S' := [.int x, .ref 0]) (σ' := lm_T M v G) rfl trivial ?_
  refine lm_G_ca (j := 133) (as := [.ref 0, .int x]) (rest := []) rfl (Or.inl rfl) (Nat.le_of_ble_eq_true rfl) (Nat.le_of_ble_eq_true rfl) (Nat.le_of_ble_eq_true rfl) (Nat.le_of_ble_eq_true rfl) rfl ?_
  refine c_isPerson hF h ?_
  show lm_G X (d + 2) 106 106 0 0 5 [some (.ref 0), some (.int x), some (.int y)] [.int (b2i (isP (fN F) x))] (lm_T M v G) Q
  refine lm_G_br (b := (b2i (isP (fN F) x)) = 0) (t := 20) (S' := []) rfl (fun hx => ?_) (fun hx => ?_)
  ·
    replace hx := b2i_0 hx
    refine lm_G_sg 1 (pc' := 21) (L' := [some (.ref 0), some (.int x), some (.int y)]) (S' := [.int 0]) (σ' := lm_T M v G) rfl trivial ?_
    rw [show aHums F s x y = .inr false from by simp +decide only [aHums, hx, if_true, if_false, Bool.and_true, Bool.true_and, Bool.and_self, Bool.false_and, Bool.and_false, Bool.false_eq_true]] at hQ
    refine lm_G_ca (j := 137) (as := [.int 0]) (rest := []) rfl (Or.inl rfl) (Nat.le_of_ble_eq_true rfl) (Nat.le_of_ble_eq_true rfl) (Nat.le_of_ble_eq_true rfl) (Nat.le_of_ble_eq_true rfl) rfl ?_
    exact c_mustExistF ⟨by decide, rfl, hQ M (Fr_rf _ _)⟩
  ·
    replace hx := b2i_1 hx
    refine lm_G_sg 2 (pc' := 10) (L' := [some (.ref 0), some (.int x), some (.int y)]) (S' := [.int y, .ref 0]) (σ' := lm_T M v G) rfl trivial ?_
    refine lm_G_ca (j := 133) (as := [.ref 0, .int y]) (rest := []) rfl (Or.inl rfl) (Nat.le_of_ble_eq_true rfl) (Nat.le_of_ble_eq_true rfl) (Nat.le_of_ble_eq_true rfl) (Nat.le_of_ble_eq_true rfl) rfl ?_
    refine c_isPerson hF h ?_
    show lm_G X (d + 2) 106 106 0 0 13 [some (.ref 0), some (.int x), some (.int y)] [.int (b2i (isP (fN F) y))] (lm_T M v G) Q
    refine lm_G_br (b := (b2i (isP (fN F) y)) = 0) (t := 20) (S' := []) rfl (fun hy => ?_) (fun hy => ?_)
    ·
      replace hy := b2i_0 hy
      refine lm_G_sg 1 (pc' := 21) (L' := [some (.ref 0), some (.int x), some (.int y)]) (S' := [.int 0]) (σ' := lm_T M v G) rfl trivial ?_
      rw [show aHums F s x y = .inr false from by simp +decide only [aHums, hy, hx, if_true, if_false, Bool.and_true, Bool.true_and, Bool.and_self, Bool.false_and, Bool.and_false, Bool.false_eq_true]] at hQ
      refine lm_G_ca (j := 137) (as := [.int 0]) (rest := []) rfl (Or.inl rfl) (Nat.le_of_ble_eq_true rfl) (Nat.le_of_ble_eq_true rfl) (Nat.le_of_ble_eq_true rfl) (Nat.le_of_ble_eq_true rfl) rfl ?_
      exact c_mustExistF ⟨by decide, rfl, hQ M (Fr_rf _ _)⟩
    ·
      replace hy := b2i_1 hy
      refine lm_G_sg 2 (pc' := 21) (L' := [some (.ref 0), some (.int x), some (.int y)]) (S' := [.int 1]) (σ' := lm_T M v G) rfl trivial ?_
      refine lm_G_ca (j := 137) (as := [.int 1]) (rest := []) rfl (Or.inl rfl) (Nat.le_of_ble_eq_true rfl) (Nat.le_of_ble_eq_true rfl) (Nat.le_of_ble_eq_true rfl) (Nat.le_of_ble_eq_true rfl) rfl ?_
      refine c_mustExistT ?_
      show lm_G X (d + 2) 106 106 1 6 24 [some (.ref 0), some (.int x), some (.int y)] [] (lm_T M v G) Q
      obtain ⟨a, ha, rfl⟩ := isP_nI hx (by omega)
      have ca : (nI a).toNatClampNeg = a := nI_clamp (by omega)
      obtain ⟨b, hb, rfl⟩ := isP_nI hy (by omega)
      have cb : (nI b).toNatClampNeg = b := nI_clamp (by omega)
      refine lm_G_sg 4 (pc' := 30) (L' := [some (.ref 0), some (.int (nI a)), some (.int (nI b))]) (S' := [.int (nI b), .int (nI a), .ref 48]) (σ' := lm_T M v G) rfl trivial ?_
      refine lm_G_ca (j := 15) (as := [.ref 48, .int (nI a), .int (nI b)]) (rest := []) rfl (Or.inl rfl) (Nat.le_of_ble_eq_true rfl) (Nat.le_of_ble_eq_true rfl) (Nat.le_of_ble_eq_true rfl) (Nat.le_of_ble_eq_true rfl) rfl ?_
      refine c_steps hF h ha hb ?_
      show lm_G X (d + 2) 106 106 1 6 33 [some (.ref 0), some (.int (nI a)), some (.int (nI b))] [.int (stepS F (sPl s) a b)] (lm_T M v G) Q
      rw [show aHums F s (nI a) (nI b) = .inl (stepS F (sPl s) a b) from by simp +decide only [aHums, hx, hy, ca, cb, if_true, if_false, Bool.and_true, Bool.true_and, Bool.and_self, Bool.false_and, Bool.and_false, Bool.false_eq_true]] at hQ
      exact lm_G_re rfl trivial (Nat.le_of_ble_eq_true rfl) (Nat.le_of_ble_eq_true rfl) (hQ _ (Fr_rf _ _))
set_option maxRecDepth 10000 in
theorem m_hums {X : lm_X} {d v : Nat} {M : Nat → Nat → Int32} {G : Nat → Nat → Int64} {Q : lm_O → lm_S → Prop} {F : Fa} {s : Sc} {x y : Int32} (hF : okF F) (h : RM M F s) (hs : okS F s) (hl : M 64 42 = 0) (hQ : ∀ M1, RM M1 F s → FrN M M1 → M1 64 4 = cd (aHums F s x y) → Q (.inl (some (.int (vl (aHums F s x y))))) (lm_T M1 v G)) : lm_Q X (d + 4) 219 [.ref 64, .int x, .int y] (lm_T M v G) Q := by
  have hn := hF.n
  have hm := hF.m
  show lm_G X (d + 4) 219 106 0 0 0 [some (.ref 64), some (.int x), some (.int y)] [] (lm_T M v G) Q
  refine lm_G_sg 3 (pc' := 5) (L' := [some (.ref 64), some (.int x), some (.int y)]) (S' := []) (σ' := lm_T (lm_wr M 64 4 0) v G) rfl ⟨trivial, trivial, trivial⟩ ?_
  have h0 : RM (lm_wr M 64 4 0) F s := RM_taken h 4 (by decide) 0
  have f0 : FrN M (lm_wr M 64 4 0) := FrN_w64 (FrN_rf _) (by decide)
  have c0 : (lm_wr M 64 4 0) 64 4 = 0 := wr_same
  have l0 : (lm_wr M 64 4 0) 64 42 = 0 := (wr_at (by decide)).trans hl
  revert h0 f0 c0 l0
  generalize lm_wr M 64 4 0 = M0
  intro h0 f0 c0 l0
  refine lm_G_sg 2 (pc' := 7) (L' := [some (.ref 64), some (.int x), some (.int y)]) (S' := [.int x, .ref 64]) (σ' := lm_T M0 v G) rfl trivial ?_
  refine lm_G_ca (j := 145) (as := [.ref 64, .int x]) (rest := []) rfl (Or.inl rfl) (Nat.le_of_ble_eq_true rfl) (Nat.le_of_ble_eq_true rfl) (Nat.le_of_ble_eq_true rfl) (Nat.le_of_ble_eq_true rfl) rfl ?_
  refine m_isPerson hF h0 ?_
  show lm_G X (d + 4) 219 106 0 0 10 [some (.ref 64), some (.int x), some (.int y)] [.int (b2i (isP (fN F) x))] (lm_T M0 v G) Q
  refine lm_G_br (b := (b2i (isP (fN F) x)) = 0) (t := 30) (S' := []) rfl (fun hx => ?_) (fun hx => ?_)
  ·
    replace hx := b2i_0 hx
    refine lm_G_sg 2 (pc' := 32) (L' := [some (.ref 64), some (.int x), some (.int y)]) (S' := [.int 1, .ref 64]) (σ' := lm_T M0 v G) rfl trivial ?_
    refine lm_G_ca (j := 141) (as := [.ref 64, .int 1]) (rest := []) rfl (Or.inl rfl) (Nat.le_of_ble_eq_true rfl) (Nat.le_of_ble_eq_true rfl) (Nat.le_of_ble_eq_true rfl) (Nat.le_of_ble_eq_true rfl) rfl ?_
    refine m_fail ?_
    show lm_G X (d + 4) 219 106 0 0 35 [some (.ref 64), some (.int x), some (.int y)] [.int 0] (lm_T (lm_wr M0 64 4 1) v G) Q
    rw [show aHums F s x y = .inr false from by simp +decide only [aHums, hx, if_true, if_false, Bool.and_true, Bool.true_and, Bool.and_self, Bool.false_and, Bool.and_false, Bool.false_eq_true]] at hQ
    exact lm_G_re rfl trivial (Nat.zero_le _) (Nat.zero_le _) (hQ _ (RM_taken h0 4 (by decide) 1) (FrN_w64 f0 (by decide)) wr_same)
  ·
    replace hx := b2i_1 hx
    refine lm_G_sg 2 (pc' := 15) (L' := [some (.ref 64), some (.int x), some (.int y)]) (S' := [.int y, .ref 64]) (σ' := lm_T M0 v G) rfl trivial ?_
    refine lm_G_ca (j := 145) (as := [.ref 64, .int y]) (rest := []) rfl (Or.inl rfl) (Nat.le_of_ble_eq_true rfl) (Nat.le_of_ble_eq_true rfl) (Nat.le_of_ble_eq_true rfl) (Nat.le_of_ble_eq_true rfl) rfl ?_
    refine m_isPerson hF h0 ?_
    show lm_G X (d + 4) 219 106 0 0 18 [some (.ref 64), some (.int x), some (.int y)] [.int (b2i (isP (fN F) y))] (lm_T M0 v G) Q
    refine lm_G_br (b := (b2i (isP (fN F) y)) = 0) (t := 30) (S' := []) rfl (fun hy => ?_) (fun hy => ?_)
    ·
      replace hy := b2i_0 hy
      refine lm_G_sg 2 (pc' := 32) (L' := [some (.ref 64), some (.int x), some (.int y)]) (S' := [.int 1, .ref 64]) (σ' := lm_T M0 v G) rfl trivial ?_
      refine lm_G_ca (j := 141) (as := [.ref 64, .int 1]) (rest := []) rfl (Or.inl rfl) (Nat.le_of_ble_eq_true rfl) (Nat.le_of_ble_eq_true rfl) (Nat.le_of_ble_eq_true rfl) (Nat.le_of_ble_eq_true rfl) rfl ?_
      refine m_fail ?_
      show lm_G X (d + 4) 219 106 0 0 35 [some (.ref 64), some (.int x), some (.int y)] [.int 0] (lm_T (lm_wr M0 64 4 1) v G) Q
      rw [show aHums F s x y = .inr false from by simp +decide only [aHums, hy, hx, if_true, if_false, Bool.and_true, Bool.true_and, Bool.and_self, Bool.false_and, Bool.and_false, Bool.false_eq_true]] at hQ
      exact lm_G_re rfl trivial (Nat.zero_le _) (Nat.zero_le _) (hQ _ (RM_taken h0 4 (by decide) 1) (FrN_w64 f0 (by decide)) wr_same)
    ·
      replace hy := b2i_1 hy
      obtain ⟨a, ha, rfl⟩ := isP_nI hx (by omega)
      have ca : (nI a).toNatClampNeg = a := nI_clamp (by omega)
      obtain ⟨b, hb, rfl⟩ := isP_nI hy (by omega)
      have cb : (nI b).toNatClampNeg = b := nI_clamp (by omega)
      refine lm_G_sg 3 (pc' := 24) (L' := [some (.ref 64), some (.int (nI a)), some (.int (nI b))]) (S' := [.int (nI b), .int (nI a), .ref 64]) (σ' := lm_T M0 v G) rfl trivial ?_
      refine lm_G_ca (j := 196) (as := [.ref 64, .int (nI a), .int (nI b)]) (rest := []) rfl (Or.inl rfl) (Nat.le_of_ble_eq_true rfl) (Nat.le_of_ble_eq_true rfl) (Nat.le_of_ble_eq_true rfl) (Nat.le_of_ble_eq_true rfl) rfl ?_
      refine m_stepsTo hF h0 ha hb ?_
      show lm_G X (d + 4) 219 106 0 0 27 [some (.ref 64), some (.int (nI a)), some (.int (nI b))] [.int (stepS F (sPl s) a b)] (lm_T M0 v G) Q
      refine lm_G_sg 1 (pc' := 35) (L' := [some (.ref 64), some (.int (nI a)), some (.int (nI b))]) (S' := [.int (stepS F (sPl s) a b)]) (σ' := lm_T M0 v G) rfl trivial ?_
      rw [show aHums F s (nI a) (nI b) = .inl (stepS F (sPl s) a b) from by simp +decide only [aHums, hx, hy, ca, cb, if_true, if_false, Bool.and_true, Bool.true_and, Bool.and_self, Bool.false_and, Bool.and_false, Bool.false_eq_true]] at hQ
      exact lm_G_re rfl trivial (Nat.zero_le _) (Nat.zero_le _) (hQ _ h0 f0 c0)
set_option maxRecDepth 10000 in
theorem c_farthest {X : lm_X} {d v : Nat} {M : Nat → Nat → Int32} {G : Nat → Nat → Int64} {Q : lm_O → lm_S → Prop} {F : Fa} {s : Sc} {x : Int32} (hF : okF F) (h : RC 28 M F s) (hs : okS F s) (hl : M 28 12 = -1) (hQ : ∀ M1, Fr frQ M M1 → Q (cO (aFar F s x)) (lm_T M1 v G)) : lm_Q X (d + 3) 107 [.ref 0, .int x] (lm_T M v G) Q := by
  have hn := hF.n
  have hm := hF.m
  show lm_G X (d + 3) 107 106 0 0 0 [some (.ref 0), some (.int x)] [] (lm_T M v G) Q
  refine lm_G_sg 2 (pc' := 2) (L' := [some (.ref 0), some (.int x)]) (S' := [.int x, .ref 0]) (σ' := lm_T M v G) rfl trivial ?_
  refine lm_G_ca (j := 133) (as := [.ref 0, .int x]) (rest := []) rfl (Or.inl rfl) (Nat.le_of_ble_eq_true rfl) (Nat.le_of_ble_eq_true rfl) (Nat.le_of_ble_eq_true rfl) (Nat.le_of_ble_eq_true rfl) rfl ?_
  refine c_isPerson hF h ?_
  show lm_G X (d + 3) 107 106 0 0 5 [some (.ref 0), some (.int x)] [.int (b2i (isP (fN F) x))] (lm_T M v G) Q
  rcases Bool.eq_false_or_eq_true (isP (fN F) x) with hx | hx
  rotate_left
  ·
    rw [hx]
    show lm_G X (d + 3) 107 106 0 0 5 [some (.ref 0), some (.int x)] [.int 0] (lm_T M v G) Q
    rw [show aFar F s x = .inr false from by simp +decide only [aFar, hx, if_true, if_false, Bool.and_true, Bool.true_and, Bool.and_self, Bool.false_and, Bool.and_false, Bool.false_eq_true]] at hQ
    refine lm_G_ca (j := 137) (as := [.int 0]) (rest := []) rfl (Or.inl rfl) (Nat.le_of_ble_eq_true rfl) (Nat.le_of_ble_eq_true rfl) (Nat.le_of_ble_eq_true rfl) (Nat.le_of_ble_eq_true rfl) rfl ?_
    exact c_mustExistF ⟨by decide, rfl, hQ M (Fr_rf _ _)⟩
  ·
    rw [hx]
    show lm_G X (d + 3) 107 106 0 0 5 [some (.ref 0), some (.int x)] [.int 1] (lm_T M v G) Q
    refine lm_G_ca (j := 137) (as := [.int 1]) (rest := []) rfl (Or.inl rfl) (Nat.le_of_ble_eq_true rfl) (Nat.le_of_ble_eq_true rfl) (Nat.le_of_ble_eq_true rfl) (Nat.le_of_ble_eq_true rfl) rfl ?_
    refine c_mustExistT ?_
    show lm_G X (d + 3) 107 106 1 6 8 [some (.ref 0), some (.int x)] [] (lm_T M v G) Q
    obtain ⟨a, ha, rfl⟩ := isP_nI hx (by omega)
    have ca : (nI a).toNatClampNeg = a := nI_clamp (by omega)
    refine lm_G_sg 3 (pc' := 13) (L' := [some (.ref 0), some (.int (nI a))]) (S' := [.int (nI a), .ref 48]) (σ' := lm_T M v G) rfl trivial ?_
    refine lm_G_ca (j := 17) (as := [.ref 48, .int (nI a)]) (rest := []) rfl (Or.inl rfl) (Nat.le_of_ble_eq_true rfl) (Nat.le_of_ble_eq_true rfl) (Nat.le_of_ble_eq_true rfl) (Nat.le_of_ble_eq_true rfl) rfl ?_
    refine c_most hF h ha ?_
    show lm_G X (d + 3) 107 106 1 6 16 [some (.ref 0), some (.int (nI a))] [.int (farS F (sPl s) a)] (lm_T M v G) Q
    rw [show aFar F s (nI a) = .inl (farS F (sPl s) a) from by simp +decide only [aFar, hx, ca, if_true, if_false, Bool.and_true, Bool.true_and, Bool.and_self, Bool.false_and, Bool.and_false, Bool.false_eq_true]] at hQ
    exact lm_G_re rfl trivial (Nat.le_of_ble_eq_true rfl) (Nat.le_of_ble_eq_true rfl) (hQ _ (Fr_rf _ _))
set_option maxRecDepth 10000 in
theorem m_farthest {X : lm_X} {d v : Nat} {M : Nat → Nat → Int32} {G : Nat → Nat → Int64} {Q : lm_O → lm_S → Prop} {F : Fa} {s : Sc} {x : Int32} (hF : okF F) (h : RM M F s) (hs : okS F s) (hl : M 64 42 = 0) (hQ : ∀ M1, RM M1 F s → FrN M M1 → M1 64 4 = cd (aFar F s x) → Q (.inl (some (.int (vl (aFar F s x))))) (lm_T M1 v G)) : lm_Q X (d + 4) 220 [.ref 64, .int x] (lm_T M v G) Q := by
  have hn := hF.n
  have hm := hF.m
  show lm_G X (d + 4) 220 106 0 0 0 [some (.ref 64), some (.int x), none, none, none, none] [] (lm_T M v G) Q
  refine lm_G_sg 3 (pc' := 5) (L' := [some (.ref 64), some (.int x), none, none, none, none]) (S' := []) (σ' := lm_T (lm_wr M 64 4 0) v G) rfl ⟨trivial, trivial, trivial⟩ ?_
  have h0 : RM (lm_wr M 64 4 0) F s := RM_taken h 4 (by decide) 0
  have f0 : FrN M (lm_wr M 64 4 0) := FrN_w64 (FrN_rf _) (by decide)
  have c0 : (lm_wr M 64 4 0) 64 4 = 0 := wr_same
  have l0 : (lm_wr M 64 4 0) 64 42 = 0 := (wr_at (by decide)).trans hl
  revert h0 f0 c0 l0
  generalize lm_wr M 64 4 0 = M0
  intro h0 f0 c0 l0
  refine lm_G_sg 2 (pc' := 7) (L' := [some (.ref 64), some (.int x), none, none, none, none]) (S' := [.int x, .ref 64]) (σ' := lm_T M0 v G) rfl trivial ?_
  refine lm_G_ca (j := 145) (as := [.ref 64, .int x]) (rest := []) rfl (Or.inl rfl) (Nat.le_of_ble_eq_true rfl) (Nat.le_of_ble_eq_true rfl) (Nat.le_of_ble_eq_true rfl) (Nat.le_of_ble_eq_true rfl) rfl ?_
  refine m_isPerson hF h0 ?_
  show lm_G X (d + 4) 220 106 0 0 10 [some (.ref 64), some (.int x), none, none, none, none] [.int (b2i (isP (fN F) x))] (lm_T M0 v G) Q
  refine lm_G_br (b := ¬ (b2i (isP (fN F) x)) = 0) (t := 19) (S' := []) rfl (fun hx => ?_) (fun hx => ?_)
  rotate_left
  ·
    replace hx := b2i_0 (Classical.not_not.mp hx)
    refine lm_G_sg 2 (pc' := 15) (L' := [some (.ref 64), some (.int x), none, none, none, none]) (S' := [.int 1, .ref 64]) (σ' := lm_T M0 v G) rfl trivial ?_
    refine lm_G_ca (j := 141) (as := [.ref 64, .int 1]) (rest := []) rfl (Or.inl rfl) (Nat.le_of_ble_eq_true rfl) (Nat.le_of_ble_eq_true rfl) (Nat.le_of_ble_eq_true rfl) (Nat.le_of_ble_eq_true rfl) rfl ?_
    refine m_fail ?_
    show lm_G X (d + 4) 220 106 0 0 18 [some (.ref 64), some (.int x), none, none, none, none] [.int 0] (lm_T (lm_wr M0 64 4 1) v G) Q
    rw [show aFar F s x = .inr false from by simp +decide only [aFar, hx, if_true, if_false, Bool.and_true, Bool.true_and, Bool.and_self, Bool.false_and, Bool.and_false, Bool.false_eq_true]] at hQ
    exact lm_G_re rfl trivial (Nat.zero_le _) (Nat.zero_le _) (hQ _ (RM_taken h0 4 (by decide) 1) (FrN_w64 f0 (by decide)) wr_same)
  ·
    replace hx := b2i_1 hx
    obtain ⟨a, ha, rfl⟩ := isP_nI hx (by omega)
    have ca : (nI a).toNatClampNeg = a := nI_clamp (by omega)
    refine lm_G_sg 6 (pc' := 26) (L' := [some (.ref 64), some (.int (nI a)), some (.int (-1)), some (.int 0), some (.int 0), none]) (S' := []) (σ' := lm_T M0 v G) rfl trivial ?_
    refine lm_ind (α := Unit) (St := fun (j : Nat) zz => lm_G X (d + 4) 220 106 0 0 26 [some (.ref 64), some (.int (nI a)), some (.int ((mxS al (stepS F (sPl s) a) nI 0 j).1)), some (.int ((mxS al (stepS F (sPl s) a) nI 0 j).2)), some (.int (nI j)), none] [] (lm_T M0 v G) Q) (Inv := fun (j : Nat) zz => True) (fN F) (fun j zz hj hI ih => ?_) (fun zz hI => ?_) (0) () (by omega) ?_
    ·
      replace hI : True := hI
      replace ih : ∀ (_ : True), lm_G X (d + 4) 220 106 0 0 26 [some (.ref 64), some (.int (nI a)), some (.int ((mxS al (stepS F (sPl s) a) nI 0 (j + 1)).1)), some (.int ((mxS al (stepS F (sPl s) a) nI 0 (j + 1)).2)), some (.int (nI (j + 1))), none] [] (lm_T M0 v G) Q := fun q => ih () q
      show lm_G X (d + 4) 220 106 0 0 26 [some (.ref 64), some (.int (nI a)), some (.int ((mxS al (stepS F (sPl s) a) nI 0 j).1)), some (.int ((mxS al (stepS F (sPl s) a) nI 0 j).2)), some (.int (nI j)), none] [] (lm_T M0 v G) Q
      refine lm_G_sg 5 (pc' := 34) (L' := [some (.ref 64), some (.int (nI a)), some (.int ((mxS al (stepS F (sPl s) a) nI 0 j).1)), some (.int ((mxS al (stepS F (sPl s) a) nI 0 j).2)), some (.int (nI j)), none]) (S' := [.int (M0 68 0), .int (nI j)]) (σ' := lm_T M0 v G) rfl ⟨(lm_inb_ok rfl), trivial, trivial⟩ ?_
      rw [show M0 68 0 = nI (fN F) from h0.n]
      refine lm_G_br (b := (nI (fN F)) ≤ (nI j)) (t := 67) (S' := []) rfl (fun hc => absurd hc (nI_ge hj (by omega))) (fun hc => ?_)
      refine lm_G_sg 3 (pc' := 41) (L' := [some (.ref 64), some (.int (nI a)), some (.int ((mxS al (stepS F (sPl s) a) nI 0 j).1)), some (.int ((mxS al (stepS F (sPl s) a) nI 0 j).2)), some (.int (nI j)), none]) (S' := [.int (nI j), .int (nI a), .ref 64]) (σ' := lm_T M0 v G) rfl trivial ?_
      refine lm_G_ca (j := 196) (as := [.ref 64, .int (nI a), .int (nI j)]) (rest := []) rfl (Or.inl rfl) (Nat.le_of_ble_eq_true rfl) (Nat.le_of_ble_eq_true rfl) (Nat.le_of_ble_eq_true rfl) (Nat.le_of_ble_eq_true rfl) rfl ?_
      refine m_stepsTo hF h0 ha hj ?_
      show lm_G X (d + 4) 220 106 0 0 44 [some (.ref 64), some (.int (nI a)), some (.int ((mxS al (stepS F (sPl s) a) nI 0 j).1)), some (.int ((mxS al (stepS F (sPl s) a) nI 0 j).2)), some (.int (nI j)), none] [.int (stepS F (sPl s) a j)] (lm_T M0 v G) Q
      refine lm_G_sg 3 (pc' := 49) (L' := [some (.ref 64), some (.int (nI a)), some (.int ((mxS al (stepS F (sPl s) a) nI 0 j).1)), some (.int ((mxS al (stepS F (sPl s) a) nI 0 j).2)), some (.int (nI j)), some (.int (stepS F (sPl s) a j))]) (S' := [.int ((mxS al (stepS F (sPl s) a) nI 0 j).2), .int (stepS F (sPl s) a j)]) (σ' := lm_T M0 v G) rfl trivial ?_
      refine lm_G_br (b := ((mxS al (stepS F (sPl s) a) nI 0 j).2) < (stepS F (sPl s) a j)) (t := 55) (S' := []) rfl (fun h5 => ?_) (fun h5 => ?_)
      ·
        refine lm_G_sg 5 (pc' := 64) (L' := [some (.ref 64), some (.int (nI a)), some (.int (nI j)), some (.int (stepS F (sPl s) a j)), some (.int ((nI j) + 1)), some (.int (stepS F (sPl s) a j))]) (S' := []) (σ' := lm_T M0 v G) rfl trivial ?_
        rw [nI_1]
        refine lm_G_sg 1 (pc' := 26) (L' := [some (.ref 64), some (.int (nI a)), some (.int (nI j)), some (.int (stepS F (sPl s) a j)), some (.int (nI (j + 1))), some (.int (stepS F (sPl s) a j))]) (S' := []) (σ' := lm_T M0 v G) rfl trivial ?_
        rw [mx_y (g := al) (f := stepS F (sPl s) a) rfl h5] at ih
        refine lm_G_jk (L := [some (.ref 64), some (.int (nI a)), some (.int (nI j)), some (.int (stepS F (sPl s) a j)), some (.int (nI (j + 1))), none]) ⟨rfl, rfl, rfl, rfl, rfl, trivial⟩ ?_
        exact ih  trivial
      ·
        refine lm_G_sg 2 (pc' := 64) (L' := [some (.ref 64), some (.int (nI a)), some (.int ((mxS al (stepS F (sPl s) a) nI 0 j).1)), some (.int ((mxS al (stepS F (sPl s) a) nI 0 j).2)), some (.int ((nI j) + 1)), some (.int (stepS F (sPl s) a j))]) (S' := []) (σ' := lm_T M0 v G) rfl trivial ?_
        rw [nI_1]
        refine lm_G_sg 1 (pc' := 26) (L' := [some (.ref 64), some (.int (nI a)), some (.int ((mxS al (stepS F (sPl s) a) nI 0 j).1)), some (.int ((mxS al (stepS F (sPl s) a) nI 0 j).2)), some (.int (nI (j + 1))), some (.int (stepS F (sPl s) a j))]) (S' := []) (σ' := lm_T M0 v G) rfl trivial ?_
        rw [mx_n (f := stepS F (sPl s) a) h5] at ih
        refine lm_G_jk (L := [some (.ref 64), some (.int (nI a)), some (.int ((mxS al (stepS F (sPl s) a) nI 0 j).1)), some (.int ((mxS al (stepS F (sPl s) a) nI 0 j).2)), some (.int (nI (j + 1))), none]) ⟨rfl, rfl, rfl, rfl, rfl, trivial⟩ ?_
        exact ih  trivial
    ·
      replace hI : True := hI
      show lm_G X (d + 4) 220 106 0 0 26 [some (.ref 64), some (.int (nI a)), some (.int ((mxS al (stepS F (sPl s) a) nI 0 (fN F)).1)), some (.int ((mxS al (stepS F (sPl s) a) nI 0 (fN F)).2)), some (.int (nI (fN F))), none] [] (lm_T M0 v G) Q
      refine lm_G_sg 5 (pc' := 34) (L' := [some (.ref 64), some (.int (nI a)), some (.int ((mxS al (stepS F (sPl s) a) nI 0 (fN F)).1)), some (.int ((mxS al (stepS F (sPl s) a) nI 0 (fN F)).2)), some (.int (nI (fN F))), none]) (S' := [.int (M0 68 0), .int (nI (fN F))]) (σ' := lm_T M0 v G) rfl ⟨(lm_inb_ok rfl), trivial, trivial⟩ ?_
      rw [show M0 68 0 = nI (fN F) from h0.n]
      refine lm_G_br (b := (nI (fN F)) ≤ (nI (fN F))) (t := 67) (S' := []) rfl (fun hc => ?_) (fun hc => absurd (nI_le (Nat.le_refl _) (by omega)) hc)
      refine lm_G_sg 1 (pc' := 68) (L' := [some (.ref 64), some (.int (nI a)), some (.int ((mxS al (stepS F (sPl s) a) nI 0 (fN F)).1)), some (.int ((mxS al (stepS F (sPl s) a) nI 0 (fN F)).2)), some (.int (nI (fN F))), none]) (S' := [.int ((mxS al (stepS F (sPl s) a) nI 0 (fN F)).1)]) (σ' := lm_T M0 v G) rfl trivial ?_
      rw [show aFar F s (nI a) = .inl (farS F (sPl s) a) from by simp +decide only [aFar, hx, ca, if_true, if_false, Bool.and_true, Bool.true_and, Bool.and_self, Bool.false_and, Bool.and_false, Bool.false_eq_true]] at hQ
      exact lm_G_re rfl trivial (Nat.zero_le _) (Nat.zero_le _) (hQ _ h0 f0 c0)
    ·
      trivial
