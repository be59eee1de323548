/-! ===== contracts: thunder ===== -/
set_option maxRecDepth 10000 in
theorem c_passThunder {X : lm_X} {d v : Nat} {M : Nat → Nat → Int32} {G : Nat → Nat → Int64} {Q : lm_O → lm_S → Prop} {F : Fa} {s : Sc} {M0 : Nat → Fn} {c n : Nat} {w : Int32} (hF : okF F) (h0 : RC 28 M0 F s) (hs : okS F s) (l0 : M0 28 12 = -1) (f0 : Fr frQ M0 M) (hn2 : n ≤ 5) (hQ : ∀ M1, TC M0 F M1 (thS F s c n) → Q (.inl (some (.int (wgS w c n)))) (lm_T M1 v G)) : lm_Q X (d + 6) 122 [.ref 0, .int (nI c), .int (nI n), .int w] (lm_T M v G) Q := by
  have hn := hF.n
  have hm := hF.m
  show lm_G X (d + 6) 122 106 0 0 0 [some (.ref 0), some (.int (nI c)), some (.int (nI n)), some (.int w), none, none, none] [] (lm_T M v G) Q
  refine lm_G_sg 1 (pc' := 1) (L' := [some (.ref 0), some (.int (nI c)), some (.int (nI n)), some (.int w), none, none, none]) (S' := [.ref 0]) (σ' := lm_T M v G) rfl trivial ?_
  refine lm_G_ca (j := 132) (as := [.ref 0]) (rest := []) rfl (Or.inl rfl) (Nat.le_of_ble_eq_true rfl) (Nat.le_of_ble_eq_true rfl) (Nat.le_of_ble_eq_true rfl) (Nat.le_of_ble_eq_true rfl) rfl ?_
  refine u_start hF h0 f0 l0 (fun M1 t1 e1 => ?_)
  show lm_G X (d + 6) 122 106 0 0 4 [some (.ref 0), some (.int (nI c)), some (.int (nI n)), some (.int w), none, none, none] [] (lm_T M1 v G) Q
  refine lm_G_sg 4 (pc' := 10) (L' := [some (.ref 0), some (.int (nI c)), some (.int (nI n)), some (.int w), some (.int 1), some (.int 0), none]) (S' := []) (σ' := lm_T M1 v G) rfl trivial ?_
  refine lm_ind (α := (Nat → Fn)) (St := fun (j : Nat) zz => (fun (M2 : Nat → Fn) => lm_G X (d + 6) 122 106 0 0 10 [some (.ref 0), some (.int (nI c)), some (.int (nI n)), some (.int w), some (.int (wgS w c j)), some (.int (nI j)), none] [] (lm_T M2 v G) Q) zz) (Inv := fun (j : Nat) zz => (fun (M2 : Nat → Fn) => TC M0 F M2 (thS F s c j)) zz) (n) (fun j zz hj hI ih => ?_) (fun zz hI => ?_) (0) M1 (by omega) ?_
  ·
    revert ih hI
    revert zz
    intro M2 hI ih
    replace hI : TC M0 F M2 (thS F s c j) := hI
    replace ih : ∀ (M2 : Nat → Fn) (_ : TC M0 F M2 (thS F s c (j + 1))), lm_G X (d + 6) 122 106 0 0 10 [some (.ref 0), some (.int (nI c)), some (.int (nI n)), some (.int w), some (.int (wgS w c (j + 1))), some (.int (nI (j + 1))), none] [] (lm_T M2 v G) Q := fun M2 q => ih M2 q
    show lm_G X (d + 6) 122 106 0 0 10 [some (.ref 0), some (.int (nI c)), some (.int (nI n)), some (.int w), some (.int (wgS w c j)), some (.int (nI j)), none] [] (lm_T M2 v G) Q
    refine lm_G_sg 2 (pc' := 13) (L' := [some (.ref 0), some (.int (nI c)), some (.int (nI n)), some (.int w), some (.int (wgS w c j)), some (.int (nI j)), none]) (S' := [.int (nI n), .int (nI j)]) (σ' := lm_T M2 v G) rfl trivial ?_
    refine lm_G_br (b := (nI n) ≤ (nI j)) (t := 76) (S' := []) rfl (fun hc => absurd hc (nI_ge hj (by omega))) (fun hc => ?_)
    refine lm_G_sg 6 (pc' := 23) (L' := [some (.ref 0), some (.int (nI c)), some (.int (nI n)), some (.int w), some (.int (wgS w c j)), some (.int (nI j)), none]) (S' := [.int 1, .int (((nI c) >>> ((nI j) &&& 31)) &&& 1)]) (σ' := lm_T M2 v G) rfl trivial ?_
    refine lm_G_br (b := ¬ (((nI c) >>> ((nI j) &&& 31)) &&& 1) = 1) (t := 30) (S' := []) rfl (fun h5 => ?_) (fun h5 => ?_)
    ·
      have hb : bitW (nI c) j = false := decide_eq_false h5
      refine lm_G_sg 4 (pc' := 37) (L' := [some (.ref 0), some (.int (nI c)), some (.int (nI n)), some (.int w), some (.int (wgS w c j)), some (.int (nI j)), some (.int 0)]) (S' := [.int 0, .int (wgS w c j)]) (σ' := lm_T M2 v G) rfl trivial ?_
      refine lm_G_br (b := 0 = 0) (t := 44) (S' := [.int (wgS w c j)]) rfl (fun h6 => ?_) (fun h6 => absurd rfl h6)
      refine lm_G_sg 6 (pc' := 53) (L' := [some (.ref 0), some (.int (nI c)), some (.int (nI n)), some (.int w), some (.int ((wgS w c j) * (10 - w))), some (.int (nI j)), some (.int 0)]) (S' := [.int 0]) (σ' := lm_T M2 v G) rfl trivial ?_
      refine lm_G_br (b := 0 = 0) (t := 63) (S' := []) rfl (fun h7 => ?_) (fun h7 => absurd rfl h7)
      refine lm_G_sg 2 (pc' := 67) (L' := [some (.ref 0), some (.int (nI c)), some (.int (nI n)), some (.int w), some (.int ((wgS w c j) * (10 - w))), some (.int (nI j)), some (.int 0)]) (S' := [.ref 38]) (σ' := lm_T M2 v G) rfl trivial ?_
      refine lm_G_ca (j := 74) (as := [.ref 38]) (rest := []) rfl (Or.inl rfl) (Nat.le_of_ble_eq_true rfl) (Nat.le_of_ble_eq_true rfl) (Nat.le_of_ble_eq_true rfl) (Nat.le_of_ble_eq_true rfl) rfl ?_
      refine u_passHour hF hI (th_ok hs c j) (fun M4 t4 e4 => ?_)
      show lm_G X (d + 6) 122 106 0 0 70 [some (.ref 0), some (.int (nI c)), some (.int (nI n)), some (.int w), some (.int ((wgS w c j) * (10 - w))), some (.int (nI j)), some (.int 0)] [] (lm_T M4 v G) Q
      rw [th_n hb, wg_n hb] at ih
      refine lm_G_sg 1 (pc' := 73) (L' := [some (.ref 0), some (.int (nI c)), some (.int (nI n)), some (.int w), some (.int ((wgS w c j) * (10 - w))), some (.int ((nI j) + 1)), some (.int 0)]) (S' := []) (σ' := lm_T M4 v G) rfl trivial ?_
      rw [nI_1]
      refine lm_G_sg 1 (pc' := 10) (L' := [some (.ref 0), some (.int (nI c)), some (.int (nI n)), some (.int w), some (.int ((wgS w c j) * (10 - w))), some (.int (nI (j + 1))), some (.int 0)]) (S' := []) (σ' := lm_T M4 v G) rfl trivial ?_
      refine lm_G_jk (L := [some (.ref 0), some (.int (nI c)), some (.int (nI n)), some (.int w), some (.int ((wgS w c j) * (10 - w))), some (.int (nI (j + 1))), none]) ⟨rfl, rfl, rfl, rfl, rfl, rfl, trivial⟩ ?_
      exact ih _ t4
    ·
      have hb : bitW (nI c) j = true := decide_eq_true (Classical.not_not.mp h5)
      refine lm_G_sg 5 (pc' := 37) (L' := [some (.ref 0), some (.int (nI c)), some (.int (nI n)), some (.int w), some (.int (wgS w c j)), some (.int (nI j)), some (.int 1)]) (S' := [.int 1, .int (wgS w c j)]) (σ' := lm_T M2 v G) rfl trivial ?_
      refine lm_G_br (b := 1 = 0) (t := 44) (S' := [.int (wgS w c j)]) rfl (fun h6 => absurd h6 (by decide)) (fun h6 => ?_)
      refine lm_G_sg 5 (pc' := 53) (L' := [some (.ref 0), some (.int (nI c)), some (.int (nI n)), some (.int w), some (.int ((wgS w c j) * w)), some (.int (nI j)), some (.int 1)]) (S' := [.int 1]) (σ' := lm_T M2 v G) rfl trivial ?_
      refine lm_G_br (b := 1 = 0) (t := 63) (S' := []) rfl (fun h7 => absurd h7 (by decide)) (fun h7 => ?_)
      refine lm_G_sg 2 (pc' := 60) (L' := [some (.ref 0), some (.int (nI c)), some (.int (nI n)), some (.int w), some (.int ((wgS w c j) * w)), some (.int (nI j)), some (.int 1)]) (S' := [.ref 38]) (σ' := lm_T M2 v G) rfl trivial ?_
      refine lm_G_ca (j := 70) (as := [.ref 38]) (rest := []) rfl (Or.inl rfl) (Nat.le_of_ble_eq_true rfl) (Nat.le_of_ble_eq_true rfl) (Nat.le_of_ble_eq_true rfl) (Nat.le_of_ble_eq_true rfl) rfl ?_
      refine u_clap hF hI (fun M3 t3 e3 => ?_)
      show lm_G X (d + 6) 122 106 0 0 63 [some (.ref 0), some (.int (nI c)), some (.int (nI n)), some (.int w), some (.int ((wgS w c j) * w)), some (.int (nI j)), some (.int 1)] [] (lm_T M3 v G) Q
      refine lm_G_sg 2 (pc' := 67) (L' := [some (.ref 0), some (.int (nI c)), some (.int (nI n)), some (.int w), some (.int ((wgS w c j) * w)), some (.int (nI j)), some (.int 1)]) (S' := [.ref 38]) (σ' := lm_T M3 v G) rfl trivial ?_
      refine lm_G_ca (j := 74) (as := [.ref 38]) (rest := []) rfl (Or.inl rfl) (Nat.le_of_ble_eq_true rfl) (Nat.le_of_ble_eq_true rfl) (Nat.le_of_ble_eq_true rfl) (Nat.le_of_ble_eq_true rfl) rfl ?_
      refine u_passHour hF t3 (ok_all (th_ok hs c j) _) (fun M4 t4 e4 => ?_)
      show lm_G X (d + 6) 122 106 0 0 70 [some (.ref 0), some (.int (nI c)), some (.int (nI n)), some (.int w), some (.int ((wgS w c j) * w)), some (.int (nI j)), some (.int 1)] [] (lm_T M4 v G) Q
      rw [th_y hb, wg_y hb] at ih
      refine lm_G_sg 1 (pc' := 73) (L' := [some (.ref 0), some (.int (nI c)), some (.int (nI n)), some (.int w), some (.int ((wgS w c j) * w)), some (.int ((nI j) + 1)), some (.int 1)]) (S' := []) (σ' := lm_T M4 v G) rfl trivial ?_
      rw [nI_1]
      refine lm_G_sg 1 (pc' := 10) (L' := [some (.ref 0), some (.int (nI c)), some (.int (nI n)), some (.int w), some (.int ((wgS w c j) * w)), some (.int (nI (j + 1))), some (.int 1)]) (S' := []) (σ' := lm_T M4 v G) rfl trivial ?_
      refine lm_G_jk (L := [some (.ref 0), some (.int (nI c)), some (.int (nI n)), some (.int w), some (.int ((wgS w c j) * w)), some (.int (nI (j + 1))), none]) ⟨rfl, rfl, rfl, rfl, rfl, rfl, trivial⟩ ?_
      exact ih _ t4
  ·
    revert hI
    revert zz
    intro M2 hI
    replace hI : TC M0 F M2 (thS F s c n) := hI
    show lm_G X (d + 6) 122 106 0 0 10 [some (.ref 0), some (.int (nI c)), some (.int (nI n)), some (.int w), some (.int (wgS w c n)), some (.int (nI n)), none] [] (lm_T M2 v G) Q
    refine lm_G_sg 2 (pc' := 13) (L' := [some (.ref 0), some (.int (nI c)), some (.int (nI n)), some (.int w), some (.int (wgS w c n)), some (.int (nI n)), none]) (S' := [.int (nI n), .int (nI n)]) (σ' := lm_T M2 v G) rfl trivial ?_
    refine lm_G_br (b := (nI n) ≤ (nI n)) (t := 76) (S' := []) rfl (fun hc => ?_) (fun hc => absurd (nI_le (Nat.le_refl _) (by omega)) hc)
    refine lm_G_sg 1 (pc' := 78) (L' := [some (.ref 0), some (.int (nI c)), some (.int (nI n)), some (.int w), some (.int (wgS w c n)), some (.int (nI n)), none]) (S' := [.int (wgS w c n)]) (σ' := lm_T M2 v G) rfl trivial ?_
    exact lm_G_re rfl trivial (Nat.zero_le _) (Nat.zero_le _) (hQ _ hI)
  ·
    try dsimp only
    exact t1
set_option maxRecDepth 10000 in
theorem c_thunder {X : lm_X} {d v : Nat} {M : Nat → Nat → Int32} {G : Nat → Nat → Int64} {Q : lm_O → lm_S → Prop} {F : Fa} {s : Sc} {x y z w : Int32} (hF : okF F) (h : RC 28 M F s) (hs : okS F s) (hl : M 28 12 = -1) (hQ : ∀ M1, Fr frQ M M1 → Q (cO (aThu F s x y z w)) (lm_T M1 v G)) : lm_Q X (d + 7) 121 [.ref 0, .int x, .int y, .int z, .int w] (lm_T M v G) Q := by
  have hn := hF.n
  have hm := hF.m
  show lm_G X (d + 7) 121 106 0 0 0 [some (.ref 0), some (.int x), some (.int y), some (.int z), some (.int w), none, none, none] [] (lm_T M v G) Q
  refine lm_G_sg 2 (pc' := 2) (L' := [some (.ref 0), some (.int x), some (.int y), some (.int z), some (.int w), none, none, none]) (S' := [.int x, .ref 0]) (σ' := lm_T M v G) rfl trivial ?_
  refine lm_G_ca (j := 133) (as := [.ref 0, .int x]) (rest := []) rfl (Or.inl rfl) (Nat.le_of_ble_eq_true rfl) (Nat.le_of_ble_eq_true rfl) (Nat.le_of_ble_eq_true rfl) (Nat.le_of_ble_eq_true rfl) rfl ?_
  refine c_isPerson hF h ?_
  show lm_G X (d + 7) 121 106 0 0 5 [some (.ref 0), some (.int x), some (.int y), some (.int z), some (.int w), none, none, none] [.int (b2i (isP (fN F) x))] (lm_T M v G) Q
  refine lm_G_br (b := (b2i (isP (fN F) x)) = 0) (t := 20) (S' := []) rfl (fun hx => ?_) (fun hx => ?_)
  ·
    replace hx := b2i_0 hx
    refine lm_G_sg 1 (pc' := 21) (L' := [some (.ref 0), some (.int x), some (.int y), some (.int z), some (.int w), none, none, none]) (S' := [.int 0]) (σ' := lm_T M v G) rfl trivial ?_
    rw [show aThu F s x y z w = .inr false from by simp +decide only [aThu, hx, if_true, if_false, Bool.and_true, Bool.true_and, Bool.and_self, Bool.false_and, Bool.and_false, Bool.false_eq_true]] at hQ
    refine lm_G_ca (j := 137) (as := [.int 0]) (rest := []) rfl (Or.inl rfl) (Nat.le_of_ble_eq_true rfl) (Nat.le_of_ble_eq_true rfl) (Nat.le_of_ble_eq_true rfl) (Nat.le_of_ble_eq_true rfl) rfl ?_
    exact c_mustExistF ⟨by decide, rfl, hQ M (Fr_rf _ _)⟩
  ·
    replace hx := b2i_1 hx
    refine lm_G_sg 2 (pc' := 10) (L' := [some (.ref 0), some (.int x), some (.int y), some (.int z), some (.int w), none, none, none]) (S' := [.int y, .ref 0]) (σ' := lm_T M v G) rfl trivial ?_
    refine lm_G_ca (j := 134) (as := [.ref 0, .int y]) (rest := []) rfl (Or.inl rfl) (Nat.le_of_ble_eq_true rfl) (Nat.le_of_ble_eq_true rfl) (Nat.le_of_ble_eq_true rfl) (Nat.le_of_ble_eq_true rfl) rfl ?_
    refine c_isTune hF h ?_
    show lm_G X (d + 7) 121 106 0 0 13 [some (.ref 0), some (.int x), some (.int y), some (.int z), some (.int w), none, none, none] [.int (b2i (isP (fM F) y))] (lm_T M v G) Q
    refine lm_G_br (b := (b2i (isP (fM F) y)) = 0) (t := 20) (S' := []) rfl (fun hy => ?_) (fun hy => ?_)
    ·
      replace hy := b2i_0 hy
      refine lm_G_sg 1 (pc' := 21) (L' := [some (.ref 0), some (.int x), some (.int y), some (.int z), some (.int w), none, none, none]) (S' := [.int 0]) (σ' := lm_T M v G) rfl trivial ?_
      rw [show aThu F s x y z w = .inr false from by simp +decide only [aThu, hy, hx, if_true, if_false, Bool.and_true, Bool.true_and, Bool.and_self, Bool.false_and, Bool.and_false, Bool.false_eq_true]] at hQ
      refine lm_G_ca (j := 137) (as := [.int 0]) (rest := []) rfl (Or.inl rfl) (Nat.le_of_ble_eq_true rfl) (Nat.le_of_ble_eq_true rfl) (Nat.le_of_ble_eq_true rfl) (Nat.le_of_ble_eq_true rfl) rfl ?_
      exact c_mustExistF ⟨by decide, rfl, hQ M (Fr_rf _ _)⟩
    ·
      replace hy := b2i_1 hy
      refine lm_G_sg 2 (pc' := 21) (L' := [some (.ref 0), some (.int x), some (.int y), some (.int z), some (.int w), none, none, none]) (S' := [.int 1]) (σ' := lm_T M v G) rfl trivial ?_
      refine lm_G_ca (j := 137) (as := [.int 1]) (rest := []) rfl (Or.inl rfl) (Nat.le_of_ble_eq_true rfl) (Nat.le_of_ble_eq_true rfl) (Nat.le_of_ble_eq_true rfl) (Nat.le_of_ble_eq_true rfl) rfl ?_
      refine c_mustExistT ?_
      show lm_G X (d + 7) 121 106 1 6 24 [some (.ref 0), some (.int x), some (.int y), some (.int z), some (.int w), none, none, none] [] (lm_T M v G) Q
      refine lm_G_sg 3 (pc' := 27) (L' := [some (.ref 0), some (.int x), some (.int y), some (.int z), some (.int w), none, none, none]) (S' := [.int 5, .int 1, .int z]) (σ' := lm_T M v G) rfl trivial ?_
      refine lm_G_ca (j := 136) (as := [.int z, .int 1, .int 5]) (rest := []) rfl (Or.inl rfl) (Nat.le_of_ble_eq_true rfl) (Nat.le_of_ble_eq_true rfl) (Nat.le_of_ble_eq_true rfl) (Nat.le_of_ble_eq_true rfl) rfl ?_
      refine c_isWithin ?_
      show lm_G X (d + 7) 121 106 1 6 30 [some (.ref 0), some (.int x), some (.int y), some (.int z), some (.int w), none, none, none] [.int (b2i (inR z 1 5))] (lm_T M v G) Q
      refine lm_G_br (b := (b2i (inR z 1 5)) = 0) (t := 48) (S' := []) rfl (fun hz => ?_) (fun hz => ?_)
      ·
        replace hz := b2i_0 hz
        refine lm_G_sg 1 (pc' := 49) (L' := [some (.ref 0), some (.int x), some (.int y), some (.int z), some (.int w), none, none, none]) (S' := [.int 0]) (σ' := lm_T M v G) rfl trivial ?_
        rw [show aThu F s x y z w = .inr true from by simp +decide only [aThu, hz, hx, hy, if_true, if_false, Bool.and_true, Bool.true_and, Bool.and_self, Bool.false_and, Bool.and_false, Bool.false_eq_true]] at hQ
        refine lm_G_ca (j := 138) (as := [.int 0]) (rest := []) rfl (Or.inl rfl) (Nat.le_of_ble_eq_true rfl) (Nat.le_of_ble_eq_true rfl) (Nat.le_of_ble_eq_true rfl) (Nat.le_of_ble_eq_true rfl) rfl ?_
        exact c_mustFitF ⟨by decide, rfl, hQ M (Fr_rf _ _)⟩
      ·
        replace hz := b2i_1 hz
        refine lm_G_sg 3 (pc' := 38) (L' := [some (.ref 0), some (.int x), some (.int y), some (.int z), some (.int w), none, none, none]) (S' := [.int 10, .int 0, .int w]) (σ' := lm_T M v G) rfl trivial ?_
        refine lm_G_ca (j := 136) (as := [.int w, .int 0, .int 10]) (rest := []) rfl (Or.inl rfl) (Nat.le_of_ble_eq_true rfl) (Nat.le_of_ble_eq_true rfl) (Nat.le_of_ble_eq_true rfl) (Nat.le_of_ble_eq_true rfl) rfl ?_
        refine c_isWithin ?_
        show lm_G X (d + 7) 121 106 1 6 41 [some (.ref 0), some (.int x), some (.int y), some (.int z), some (.int w), none, none, none] [.int (b2i (inR w 0 10))] (lm_T M v G) Q
        refine lm_G_br (b := (b2i (inR w 0 10)) = 0) (t := 48) (S' := []) rfl (fun hw => ?_) (fun hw => ?_)
        ·
          replace hw := b2i_0 hw
          refine lm_G_sg 1 (pc' := 49) (L' := [some (.ref 0), some (.int x), some (.int y), some (.int z), some (.int w), none, none, none]) (S' := [.int 0]) (σ' := lm_T M v G) rfl trivial ?_
          rw [show aThu F s x y z w = .inr true from by simp +decide only [aThu, hw, hx, hy, hz, if_true, if_false, Bool.and_true, Bool.true_and, Bool.and_self, Bool.false_and, Bool.and_false, Bool.false_eq_true]] at hQ
          refine lm_G_ca (j := 138) (as := [.int 0]) (rest := []) rfl (Or.inl rfl) (Nat.le_of_ble_eq_true rfl) (Nat.le_of_ble_eq_true rfl) (Nat.le_of_ble_eq_true rfl) (Nat.le_of_ble_eq_true rfl) rfl ?_
          exact c_mustFitF ⟨by decide, rfl, hQ M (Fr_rf _ _)⟩
        ·
          replace hw := b2i_1 hw
          refine lm_G_sg 2 (pc' := 49) (L' := [some (.ref 0), some (.int x), some (.int y), some (.int z), some (.int w), none, none, none]) (S' := [.int 1]) (σ' := lm_T M v G) rfl trivial ?_
          refine lm_G_ca (j := 138) (as := [.int 1]) (rest := []) rfl (Or.inl rfl) (Nat.le_of_ble_eq_true rfl) (Nat.le_of_ble_eq_true rfl) (Nat.le_of_ble_eq_true rfl) (Nat.le_of_ble_eq_true rfl) rfl ?_
          refine c_mustFitT ?_
          show lm_G X (d + 7) 121 106 2 12 52 [some (.ref 0), some (.int x), some (.int y), some (.int z), some (.int w), none, none, none] [] (lm_T M v G) Q
          obtain ⟨p, hp, rfl⟩ := isP_nI hx (by omega)
          have cp : (nI p).toNatClampNeg = p := nI_clamp (by omega)
          obtain ⟨t, ht, rfl⟩ := isP_nI hy (by omega)
          have ct : (nI t).toNatClampNeg = t := nI_clamp (by omega)
          obtain ⟨n, gn, hn5, rfl⟩ := inR_5 hz
          have cn : (nI n).toNatClampNeg = n := nI_clamp (by omega)
          rw [show aThu F s (nI p) (nI t) (nI n) w = .inl (lkS F s p t n w (2 ^ n)) from by simp +decide only [aThu, hx, hy, hz, hw, cp, ct, cn, if_true, if_false, Bool.and_true, Bool.true_and, Bool.and_self, Bool.false_and, Bool.and_false, Bool.false_eq_true]] at hQ
          obtain ⟨n2a, n2b⟩ := two_le n hn5
          obtain ⟨N2, hN2⟩ : ∃ q, q = 2 ^ n := ⟨_, rfl⟩
          rw [← hN2] at n2a n2b
          rw [← hN2] at hQ
          refine lm_G_sg 4 (pc' := 58) (L' := [some (.ref 0), some (.int (nI p)), some (.int (nI t)), some (.int (nI n)), some (.int w), some (.int 0), some (.int 0), none]) (S' := []) (σ' := lm_T M v G) rfl trivial ?_
          refine lm_ind (α := (Nat → Fn)) (St := fun (j : Nat) zz => (fun (M1 : Nat → Fn) => lm_G X (d + 7) 121 106 2 12 58 [some (.ref 0), some (.int (nI p)), some (.int (nI t)), some (.int (nI n)), some (.int w), some (.int (lkS F s p t n w j)), some (.int (nI j)), none] [] (lm_T M1 v G) Q) zz) (Inv := fun (j : Nat) zz => (fun (M1 : Nat → Fn) => Fr frQ M M1) zz) (N2) (fun j zz hj hI ih => ?_) (fun zz hI => ?_) (0) M (by omega) ?_
          ·
            revert ih hI
            revert zz
            intro M1 hI ih
            replace hI : Fr frQ M M1 := hI
            replace ih : ∀ (M1 : Nat → Fn) (_ : Fr frQ M M1), lm_G X (d + 7) 121 106 2 12 58 [some (.ref 0), some (.int (nI p)), some (.int (nI t)), some (.int (nI n)), some (.int w), some (.int (lkS F s p t n w (j + 1))), some (.int (nI (j + 1))), none] [] (lm_T M1 v G) Q := fun M1 q => ih M1 q
            show lm_G X (d + 7) 121 106 2 12 58 [some (.ref 0), some (.int (nI p)), some (.int (nI t)), some (.int (nI n)), some (.int w), some (.int (lkS F s p t n w j)), some (.int (nI j)), none] [] (lm_T M1 v G) Q
            refine lm_G_sg 4 (pc' := 63) (L' := [some (.ref 0), some (.int (nI p)), some (.int (nI t)), some (.int (nI n)), some (.int w), some (.int (lkS F s p t n w j)), some (.int (nI j)), none]) (S' := [.int ((1 : Int32) <<< ((nI n) &&& 31)), .int (nI j)]) (σ' := lm_T M1 v G) rfl trivial ?_
            rw [show (1 : Int32) <<< ((nI n) &&& 31) = nI N2 from n2b]
            refine lm_G_br (b := (nI N2) ≤ (nI j)) (t := 103) (S' := []) rfl (fun hc => absurd hc (nI_ge hj (by omega))) (fun hc => ?_)
            refine lm_G_sg 4 (pc' := 72) (L' := [some (.ref 0), some (.int (nI p)), some (.int (nI t)), some (.int (nI n)), some (.int w), some (.int (lkS F s p t n w j)), some (.int (nI j)), none]) (S' := [.int w, .int (nI n), .int (nI j), .ref 0]) (σ' := lm_T M1 v G) rfl trivial ?_
            refine lm_G_ca (j := 122) (as := [.ref 0, .int (nI j), .int (nI n), .int w]) (rest := []) rfl (Or.inl rfl) (Nat.le_of_ble_eq_true rfl) (Nat.le_of_ble_eq_true rfl) (Nat.le_of_ble_eq_true rfl) (Nat.le_of_ble_eq_true rfl) rfl ?_
            refine c_passThunder (c := j) hF h hs hl hI hn5 (fun M2 t2 => ?_)
            show lm_G X (d + 7) 121 106 2 12 75 [some (.ref 0), some (.int (nI p)), some (.int (nI t)), some (.int (nI n)), some (.int w), some (.int (lkS F s p t n w j)), some (.int (nI j)), none] [.int (wgS w j n)] (lm_T M2 v G) Q
            refine lm_G_sg 6 (pc' := 86) (L' := [some (.ref 0), some (.int (nI p)), some (.int (nI t)), some (.int (nI n)), some (.int w), some (.int (lkS F s p t n w j)), some (.int (nI j)), some (.int (wgS w j n))]) (S' := [.int (M2 45 (nI t).toNatClampNeg)]) (σ' := lm_T M2 v G) rfl ⟨(vp_in_nI (by omega) (by omega)), trivial, trivial⟩ ?_
            rw [show (nI t).toNatClampNeg = t from nI_clamp (by omega)]
            rw [show M2 45 t = sOw (thS F s j n) t from t2.1.ow t (by omega)]
            refine lm_G_sg 1 (pc' := 87) (L' := [some (.ref 0), some (.int (nI p)), some (.int (nI t)), some (.int (nI n)), some (.int w), some (.int (lkS F s p t n w j)), some (.int (nI j)), some (.int (wgS w j n))]) (S' := [.int (nI p), .int (sOw (thS F s j n) t)]) (σ' := lm_T M2 v G) rfl trivial ?_
            refine lm_G_br (b := ¬ (sOw (thS F s j n) t) = (nI p)) (t := 97) (S' := []) rfl (fun h5 => ?_) (fun h5 => ?_)
            ·
              refine lm_G_sg 1 (pc' := 100) (L' := [some (.ref 0), some (.int (nI p)), some (.int (nI t)), some (.int (nI n)), some (.int w), some (.int (lkS F s p t n w j)), some (.int ((nI j) + 1)), some (.int (wgS w j n))]) (S' := []) (σ' := lm_T M2 v G) rfl trivial ?_
              rw [nI_1]
              refine lm_G_sg 1 (pc' := 58) (L' := [some (.ref 0), some (.int (nI p)), some (.int (nI t)), some (.int (nI n)), some (.int w), some (.int (lkS F s p t n w j)), some (.int (nI (j + 1))), some (.int (wgS w j n))]) (S' := []) (σ' := lm_T M2 v G) rfl trivial ?_
              rw [lk_n h5] at ih
              refine lm_G_jk (L := [some (.ref 0), some (.int (nI p)), some (.int (nI t)), some (.int (nI n)), some (.int w), some (.int (lkS F s p t n w j)), some (.int (nI (j + 1))), none]) ⟨rfl, rfl, rfl, rfl, rfl, rfl, rfl, trivial⟩ ?_
              exact ih _ t2.2.1
            ·
              refine lm_G_sg 5 (pc' := 100) (L' := [some (.ref 0), some (.int (nI p)), some (.int (nI t)), some (.int (nI n)), some (.int w), some (.int ((lkS F s p t n w j) + (wgS w j n))), some (.int ((nI j) + 1)), some (.int (wgS w j n))]) (S' := []) (σ' := lm_T M2 v G) rfl trivial ?_
              rw [nI_1]
              refine lm_G_sg 1 (pc' := 58) (L' := [some (.ref 0), some (.int (nI p)), some (.int (nI t)), some (.int (nI n)), some (.int w), some (.int ((lkS F s p t n w j) + (wgS w j n))), some (.int (nI (j + 1))), some (.int (wgS w j n))]) (S' := []) (σ' := lm_T M2 v G) rfl trivial ?_
              rw [lk_y (Classical.not_not.mp h5)] at ih
              refine lm_G_jk (L := [some (.ref 0), some (.int (nI p)), some (.int (nI t)), some (.int (nI n)), some (.int w), some (.int ((lkS F s p t n w j) + (wgS w j n))), some (.int (nI (j + 1))), none]) ⟨rfl, rfl, rfl, rfl, rfl, rfl, rfl, trivial⟩ ?_
              exact ih _ t2.2.1
          ·
            revert hI
            revert zz
            intro M1 hI
            replace hI : Fr frQ M M1 := hI
            show lm_G X (d + 7) 121 106 2 12 58 [some (.ref 0), some (.int (nI p)), some (.int (nI t)), some (.int (nI n)), some (.int w), some (.int (lkS F s p t n w N2)), some (.int (nI N2)), none] [] (lm_T M1 v G) Q
            refine lm_G_sg 4 (pc' := 63) (L' := [some (.ref 0), some (.int (nI p)), some (.int (nI t)), some (.int (nI n)), some (.int w), some (.int (lkS F s p t n w N2)), some (.int (nI N2)), none]) (S' := [.int ((1 : Int32) <<< ((nI n) &&& 31)), .int (nI N2)]) (σ' := lm_T M1 v G) rfl trivial ?_
            rw [show (1 : Int32) <<< ((nI n) &&& 31) = nI N2 from n2b]
            refine lm_G_br (b := (nI N2) ≤ (nI N2)) (t := 103) (S' := []) rfl (fun hc => ?_) (fun hc => absurd (nI_le (Nat.le_refl _) (by omega)) hc)
            refine lm_G_sg 1 (pc' := 105) (L' := [some (.ref 0), some (.int (nI p)), some (.int (nI t)), some (.int (nI n)), some (.int w), some (.int (lkS F s p t n w N2)), some (.int (nI N2)), none]) (S' := [.int (lkS F s p t n w N2)]) (σ' := lm_T M1 v G) rfl trivial ?_
            exact lm_G_re rfl trivial (Nat.le_of_ble_eq_true rfl) (Nat.le_of_ble_eq_true rfl) (hQ _ hI)
          ·
            try dsimp only
            exact Fr_rf _ _
set_option maxRecDepth 10000 in
theorem m_thunder {X : lm_X} {d v : Nat} {M : Nat → Nat → Int32} {G : Nat → Nat → Int64} {Q : lm_O → lm_S → Prop} {F : Fa} {s : Sc} {x y z w : Int32} (hF : okF F) (h : RM M F s) (hs : okS F s) (hl : M 64 42 = 0) (hQ : ∀ M1, RM M1 F s → FrN M M1 → M1 64 4 = cd (aThu F s x y z w) → Q (.inl (some (.int (vl (aThu F s x y z w))))) (lm_T M1 v G)) : lm_Q X (d + 5) 235 [.ref 64, .int x, .int y, .int z, .int w] (lm_T M v G) Q := by
  have hn := hF.n
  have hm := hF.m
  show lm_G X (d + 5) 235 106 0 0 0 [some (.ref 64), some (.int x), some (.int y), some (.int z), some (.int w), none, none, none, none] [] (lm_T M v G) Q
  refine lm_G_sg 3 (pc' := 5) (L' := [some (.ref 64), some (.int x), some (.int y), some (.int z), some (.int w), none, none, none, none]) (S' := []) (σ' := lm_T (lm_wr M 64 4 0) v G) rfl ⟨trivial, trivial, trivial⟩ ?_
  have h0 : RM (lm_wr M 64 4 0) F s := RM_taken h 4 (by decide) 0
  have f0 : FrN M (lm_wr M 64 4 0) := FrN_w64 (FrN_rf _) (by decide)
  have c0 : (lm_wr M 64 4 0) 64 4 = 0 := wr_same
  have l0 : (lm_wr M 64 4 0) 64 42 = 0 := (wr_at (by decide)).trans hl
  revert h0 f0 c0 l0
  generalize lm_wr M 64 4 0 = M0
  intro h0 f0 c0 l0
  refine lm_G_sg 2 (pc' := 7) (L' := [some (.ref 64), some (.int x), some (.int y), some (.int z), some (.int w), none, none, none, none]) (S' := [.int x, .ref 64]) (σ' := lm_T M0 v G) rfl trivial ?_
  refine lm_G_ca (j := 145) (as := [.ref 64, .int x]) (rest := []) rfl (Or.inl rfl) (Nat.le_of_ble_eq_true rfl) (Nat.le_of_ble_eq_true rfl) (Nat.le_of_ble_eq_true rfl) (Nat.le_of_ble_eq_true rfl) rfl ?_
  refine m_isPerson hF h0 ?_
  show lm_G X (d + 5) 235 106 0 0 10 [some (.ref 64), some (.int x), some (.int y), some (.int z), some (.int w), none, none, none, none] [.int (b2i (isP (fN F) x))] (lm_T M0 v G) Q
  refine lm_G_br (b := (b2i (isP (fN F) x)) = 0) (t := 21) (S' := []) rfl (fun hx => ?_) (fun hx => ?_)
  ·
    replace hx := b2i_0 hx
    refine lm_G_sg 2 (pc' := 23) (L' := [some (.ref 64), some (.int x), some (.int y), some (.int z), some (.int w), none, none, none, none]) (S' := [.int 1, .ref 64]) (σ' := lm_T M0 v G) rfl trivial ?_
    refine lm_G_ca (j := 141) (as := [.ref 64, .int 1]) (rest := []) rfl (Or.inl rfl) (Nat.le_of_ble_eq_true rfl) (Nat.le_of_ble_eq_true rfl) (Nat.le_of_ble_eq_true rfl) (Nat.le_of_ble_eq_true rfl) rfl ?_
    refine m_fail ?_
    show lm_G X (d + 5) 235 106 0 0 26 [some (.ref 64), some (.int x), some (.int y), some (.int z), some (.int w), none, none, none, none] [.int 0] (lm_T (lm_wr M0 64 4 1) v G) Q
    rw [show aThu F s x y z w = .inr false from by simp +decide only [aThu, hx, if_true, if_false, Bool.and_true, Bool.true_and, Bool.and_self, Bool.false_and, Bool.and_false, Bool.false_eq_true]] at hQ
    exact lm_G_re rfl trivial (Nat.zero_le _) (Nat.zero_le _) (hQ _ (RM_taken h0 4 (by decide) 1) (FrN_w64 f0 (by decide)) wr_same)
  ·
    replace hx := b2i_1 hx
    refine lm_G_sg 2 (pc' := 15) (L' := [some (.ref 64), some (.int x), some (.int y), some (.int z), some (.int w), none, none, none, none]) (S' := [.int y, .ref 64]) (σ' := lm_T M0 v G) rfl trivial ?_
    refine lm_G_ca (j := 146) (as := [.ref 64, .int y]) (rest := []) rfl (Or.inl rfl) (Nat.le_of_ble_eq_true rfl) (Nat.le_of_ble_eq_true rfl) (Nat.le_of_ble_eq_true rfl) (Nat.le_of_ble_eq_true rfl) rfl ?_
    refine m_isTune hF h0 ?_
    show lm_G X (d + 5) 235 106 0 0 18 [some (.ref 64), some (.int x), some (.int y), some (.int z), some (.int w), none, none, none, none] [.int (b2i (isP (fM F) y))] (lm_T M0 v G) Q
    refine lm_G_br (b := ¬ (b2i (isP (fM F) y)) = 0) (t := 27) (S' := []) rfl (fun hy => ?_) (fun hy => ?_)
    rotate_left
    ·
      replace hy := b2i_0 (Classical.not_not.mp hy)
      refine lm_G_sg 2 (pc' := 23) (L' := [some (.ref 64), some (.int x), some (.int y), some (.int z), some (.int w), none, none, none, none]) (S' := [.int 1, .ref 64]) (σ' := lm_T M0 v G) rfl trivial ?_
      refine lm_G_ca (j := 141) (as := [.ref 64, .int 1]) (rest := []) rfl (Or.inl rfl) (Nat.le_of_ble_eq_true rfl) (Nat.le_of_ble_eq_true rfl) (Nat.le_of_ble_eq_true rfl) (Nat.le_of_ble_eq_true rfl) rfl ?_
      refine m_fail ?_
      show lm_G X (d + 5) 235 106 0 0 26 [some (.ref 64), some (.int x), some (.int y), some (.int z), some (.int w), none, none, none, none] [.int 0] (lm_T (lm_wr M0 64 4 1) v G) Q
      rw [show aThu F s x y z w = .inr false from by simp +decide only [aThu, hy, hx, if_true, if_false, Bool.and_true, Bool.true_and, Bool.and_self, Bool.false_and, Bool.and_false, Bool.false_eq_true]] at hQ
      exact lm_G_re rfl trivial (Nat.zero_le _) (Nat.zero_le _) (hQ _ (RM_taken h0 4 (by decide) 1) (FrN_w64 f0 (by decide)) wr_same)
    ·
      replace hy := b2i_1 hy
      refine lm_G_sg 4 (pc' := 33) (L' := [some (.ref 64), some (.int x), some (.int y), some (.int z), some (.int w), none, none, none, none]) (S' := [.long 5, .long 1, .long z.toInt64]) (σ' := lm_T M0 v G) rfl trivial ?_
      refine lm_G_ca (j := 142) (as := [.long z.toInt64, .long 1, .long 5]) (rest := []) rfl (Or.inl rfl) (Nat.le_of_ble_eq_true rfl) (Nat.le_of_ble_eq_true rfl) (Nat.le_of_ble_eq_true rfl) (Nat.le_of_ble_eq_true rfl) rfl ?_
      refine c_isIn ?_
      show lm_G X (d + 5) 235 106 0 0 36 [some (.ref 64), some (.int x), some (.int y), some (.int z), some (.int w), none, none, none, none] [.int (b2i (inL (z.toInt64) 1 5))] (lm_T M0 v G) Q
      rw [show inL (z.toInt64) 1 5 = inR z 1 5 from (inL_R z 1 5)]
      refine lm_G_br (b := (b2i (inR z 1 5)) = 0) (t := 52) (S' := []) rfl (fun hz => ?_) (fun hz => ?_)
      ·
        replace hz := b2i_0 hz
        refine lm_G_sg 2 (pc' := 54) (L' := [some (.ref 64), some (.int x), some (.int y), some (.int z), some (.int w), none, none, none, none]) (S' := [.int 2, .ref 64]) (σ' := lm_T M0 v G) rfl trivial ?_
        refine lm_G_ca (j := 141) (as := [.ref 64, .int 2]) (rest := []) rfl (Or.inl rfl) (Nat.le_of_ble_eq_true rfl) (Nat.le_of_ble_eq_true rfl) (Nat.le_of_ble_eq_true rfl) (Nat.le_of_ble_eq_true rfl) rfl ?_
        refine m_fail ?_
        show lm_G X (d + 5) 235 106 0 0 57 [some (.ref 64), some (.int x), some (.int y), some (.int z), some (.int w), none, none, none, none] [.int 0] (lm_T (lm_wr M0 64 4 2) v G) Q
        rw [show aThu F s x y z w = .inr true from by simp +decide only [aThu, hz, hx, hy, if_true, if_false, Bool.and_true, Bool.true_and, Bool.and_self, Bool.false_and, Bool.and_false, Bool.false_eq_true]] at hQ
        exact lm_G_re rfl trivial (Nat.zero_le _) (Nat.zero_le _) (hQ _ (RM_taken h0 4 (by decide) 2) (FrN_w64 f0 (by decide)) wr_same)
      ·
        replace hz := b2i_1 hz
        refine lm_G_sg 4 (pc' := 46) (L' := [some (.ref 64), some (.int x), some (.int y), some (.int z), some (.int w), none, none, none, none]) (S' := [.long 10, .long 0, .long w.toInt64]) (σ' := lm_T M0 v G) rfl trivial ?_
        refine lm_G_ca (j := 142) (as := [.long w.toInt64, .long 0, .long 10]) (rest := []) rfl (Or.inl rfl) (Nat.le_of_ble_eq_true rfl) (Nat.le_of_ble_eq_true rfl) (Nat.le_of_ble_eq_true rfl) (Nat.le_of_ble_eq_true rfl) rfl ?_
        refine c_isIn ?_
        show lm_G X (d + 5) 235 106 0 0 49 [some (.ref 64), some (.int x), some (.int y), some (.int z), some (.int w), none, none, none, none] [.int (b2i (inL (w.toInt64) 0 10))] (lm_T M0 v G) Q
        rw [show inL (w.toInt64) 0 10 = inR w 0 10 from (inL_R w 0 10)]
        refine lm_G_br (b := ¬ (b2i (inR w 0 10)) = 0) (t := 58) (S' := []) rfl (fun hw => ?_) (fun hw => ?_)
        rotate_left
        ·
          replace hw := b2i_0 (Classical.not_not.mp hw)
          refine lm_G_sg 2 (pc' := 54) (L' := [some (.ref 64), some (.int x), some (.int y), some (.int z), some (.int w), none, none, none, none]) (S' := [.int 2, .ref 64]) (σ' := lm_T M0 v G) rfl trivial ?_
          refine lm_G_ca (j := 141) (as := [.ref 64, .int 2]) (rest := []) rfl (Or.inl rfl) (Nat.le_of_ble_eq_true rfl) (Nat.le_of_ble_eq_true rfl) (Nat.le_of_ble_eq_true rfl) (Nat.le_of_ble_eq_true rfl) rfl ?_
          refine m_fail ?_
          show lm_G X (d + 5) 235 106 0 0 57 [some (.ref 64), some (.int x), some (.int y), some (.int z), some (.int w), none, none, none, none] [.int 0] (lm_T (lm_wr M0 64 4 2) v G) Q
          rw [show aThu F s x y z w = .inr true from by simp +decide only [aThu, hw, hx, hy, hz, if_true, if_false, Bool.and_true, Bool.true_and, Bool.and_self, Bool.false_and, Bool.and_false, Bool.false_eq_true]] at hQ
          exact lm_G_re rfl trivial (Nat.zero_le _) (Nat.zero_le _) (hQ _ (RM_taken h0 4 (by decide) 2) (FrN_w64 f0 (by decide)) wr_same)
        ·
          replace hw := b2i_1 hw
          obtain ⟨p, hp, rfl⟩ := isP_nI hx (by omega)
          have cp : (nI p).toNatClampNeg = p := nI_clamp (by omega)
          obtain ⟨t, ht, rfl⟩ := isP_nI hy (by omega)
          have ct : (nI t).toNatClampNeg = t := nI_clamp (by omega)
          obtain ⟨n, gn, hn5, rfl⟩ := inR_5 hz
          have cn : (nI n).toNatClampNeg = n := nI_clamp (by omega)
          rw [show aThu F s (nI p) (nI t) (nI n) w = .inl (lkS F s p t n w (2 ^ n)) from by simp +decide only [aThu, hx, hy, hz, hw, cp, ct, cn, if_true, if_false, Bool.and_true, Bool.true_and, Bool.and_self, Bool.false_and, Bool.and_false, Bool.false_eq_true]] at hQ
          obtain ⟨n2a, n2b⟩ := two_le n hn5
          obtain ⟨N2, hN2⟩ : ∃ q, q = 2 ^ n := ⟨_, rfl⟩
          rw [← hN2] at n2a n2b
          rw [← hN2] at hQ
          refine lm_G_sg 6 (pc' := 67) (L' := [some (.ref 64), some (.int (nI p)), some (.int (nI t)), some (.int (nI n)), some (.int w), some (.int 0), none, none, none]) (S' := [.int 0, .ref 90, .ref 64]) (σ' := lm_T M0 v G) rfl trivial ?_
          refine lm_G_ca (j := 177) (as := [.ref 64, .ref 90, .int 0]) (rest := []) rfl (Or.inl rfl) (Nat.le_of_ble_eq_true rfl) (Nat.le_of_ble_eq_true rfl) (Nat.le_of_ble_eq_true rfl) (Nat.le_of_ble_eq_true rfl) rfl ?_
          refine t_pack hF h0 f0 c0 l0 (fun M1 t1 => ?_)
          show lm_G X (d + 5) 235 106 0 0 70 [some (.ref 64), some (.int (nI p)), some (.int (nI t)), some (.int (nI n)), some (.int w), some (.int 0), none, none, none] [] (lm_T M1 v G) Q
          refine lm_G_sg 2 (pc' := 73) (L' := [some (.ref 64), some (.int (nI p)), some (.int (nI t)), some (.int (nI n)), some (.int w), some (.int 0), some (.int 0), none, none]) (S' := []) (σ' := lm_T M1 v G) rfl trivial ?_
          refine lm_ind (α := (Nat → Fn)) (St := fun (j : Nat) zz => (fun (M2 : Nat → Fn) => lm_G X (d + 5) 235 106 0 0 73 [some (.ref 64), some (.int (nI p)), some (.int (nI t)), some (.int (nI n)), some (.int w), some (.int (lkS F s p t n w j)), some (.int (nI j)), none, none] [] (lm_T M2 v G) Q) zz) (Inv := fun (j : Nat) zz => (fun (M2 : Nat → Fn) => TM M F s M2 s) zz) (N2) (fun j zz hj hI ih => ?_) (fun zz hI => ?_) (0) M1 (by omega) ?_
          ·
            revert ih hI
            revert zz
            intro M2 hI ih
            replace hI : TM M F s M2 s := hI
            replace ih : ∀ (M2 : Nat → Fn) (_ : TM M F s M2 s), lm_G X (d + 5) 235 106 0 0 73 [some (.ref 64), some (.int (nI p)), some (.int (nI t)), some (.int (nI n)), some (.int w), some (.int (lkS F s p t n w (j + 1))), some (.int (nI (j + 1))), none, none] [] (lm_T M2 v G) Q := fun M2 q => ih M2 q
            show lm_G X (d + 5) 235 106 0 0 73 [some (.ref 64), some (.int (nI p)), some (.int (nI t)), some (.int (nI n)), some (.int w), some (.int (lkS F s p t n w j)), some (.int (nI j)), none, none] [] (lm_T M2 v G) Q
            refine lm_G_sg 4 (pc' := 78) (L' := [some (.ref 64), some (.int (nI p)), some (.int (nI t)), some (.int (nI n)), some (.int w), some (.int (lkS F s p t n w j)), some (.int (nI j)), none, none]) (S' := [.int ((1 : Int32) <<< ((nI n) &&& 31)), .int (nI j)]) (σ' := lm_T M2 v G) rfl trivial ?_
            rw [show (1 : Int32) <<< ((nI n) &&& 31) = nI N2 from n2b]
            refine lm_G_br (b := (nI N2) ≤ (nI j)) (t := 182) (S' := []) rfl (fun hc => absurd hc (nI_ge hj (by omega))) (fun hc => ?_)
            refine lm_G_sg 4 (pc' := 87) (L' := [some (.ref 64), some (.int (nI p)), some (.int (nI t)), some (.int (nI n)), some (.int w), some (.int (lkS F s p t n w j)), some (.int (nI j)), some (.int 1), some (.int 0)]) (S' := []) (σ' := lm_T M2 v G) rfl trivial ?_
            refine lm_ind (α := (Nat → Fn)) (St := fun (i : Nat) zz => (fun (M3 : Nat → Fn) => lm_G X (d + 5) 235 106 0 0 87 [some (.ref 64), some (.int (nI p)), some (.int (nI t)), some (.int (nI n)), some (.int w), some (.int (lkS F s p t n w j)), some (.int (nI j)), some (.int (wgS w j i)), some (.int (nI i))] [] (lm_T M3 v G) Q) zz) (Inv := fun (i : Nat) zz => (fun (M3 : Nat → Fn) => TM M F s M3 (thS F s j i)) zz) (n) (fun i zz hj2 hI2 ih2 => ?_) (fun zz hI2 => ?_) (0) M2 (by omega) ?_
            ·
              revert ih2 hI2
              revert zz
              intro M3 hI2 ih2
              replace hI2 : TM M F s M3 (thS F s j i) := hI2
              replace ih2 : ∀ (M3 : Nat → Fn) (_ : TM M F s M3 (thS F s j (i + 1))), lm_G X (d + 5) 235 106 0 0 87 [some (.ref 64), some (.int (nI p)), some (.int (nI t)), some (.int (nI n)), some (.int w), some (.int (lkS F s p t n w j)), some (.int (nI j)), some (.int (wgS w j (i + 1))), some (.int (nI (i + 1)))] [] (lm_T M3 v G) Q := fun M3 q => ih2 M3 q
              show lm_G X (d + 5) 235 106 0 0 87 [some (.ref 64), some (.int (nI p)), some (.int (nI t)), some (.int (nI n)), some (.int w), some (.int (lkS F s p t n w j)), some (.int (nI j)), some (.int (wgS w j i)), some (.int (nI i))] [] (lm_T M3 v G) Q
              refine lm_G_sg 2 (pc' := 90) (L' := [some (.ref 64), some (.int (nI p)), some (.int (nI t)), some (.int (nI n)), some (.int w), some (.int (lkS F s p t n w j)), some (.int (nI j)), some (.int (wgS w j i)), some (.int (nI i))]) (S' := [.int (nI n), .int (nI i)]) (σ' := lm_T M3 v G) rfl trivial ?_
              refine lm_G_br (b := (nI n) ≤ (nI i)) (t := 146) (S' := []) rfl (fun hc => absurd hc (nI_ge hj2 (by omega))) (fun hc => ?_)
              refine lm_G_sg 2 (pc' := 97) (L' := [some (.ref 64), some (.int (nI p)), some (.int (nI t)), some (.int (nI n)), some (.int w), some (.int (lkS F s p t n w j)), some (.int (nI j)), some (.int (wgS w j i)), some (.int (nI i))]) (S' := [.int (nI i), .int (nI j)]) (σ' := lm_T M3 v G) rfl trivial ?_
              refine lm_G_ca (j := 143) (as := [.int (nI j), .int (nI i)]) (rest := []) rfl (Or.inl rfl) (Nat.le_of_ble_eq_true rfl) (Nat.le_of_ble_eq_true rfl) (Nat.le_of_ble_eq_true rfl) (Nat.le_of_ble_eq_true rfl) rfl ?_
              refine c_isOf ?_
              show lm_G X (d + 5) 235 106 0 0 100 [some (.ref 64), some (.int (nI p)), some (.int (nI t)), some (.int (nI n)), some (.int w), some (.int (lkS F s p t n w j)), some (.int (nI j)), some (.int (wgS w j i)), some (.int (nI i))] [.int (b2i (bitW (nI j) i))] (lm_T M3 v G) Q
              refine lm_G_br (b := (b2i (bitW (nI j) i)) = 0) (t := 111) (S' := []) rfl (fun h5 => ?_) (fun h5 => ?_)
              ·
                have hb : bitW (nI j) i = false := b2i_0 h5
                refine lm_G_sg 3 (pc' := 117) (L' := [some (.ref 64), some (.int (nI p)), some (.int (nI t)), some (.int (nI n)), some (.int w), some (.int (lkS F s p t n w j)), some (.int (nI j)), some (.int (wgS w j i)), some (.int (nI i))]) (S' := [.int (nI i), .int (nI j), .int (wgS w j i)]) (σ' := lm_T M3 v G) rfl trivial ?_
                refine lm_G_ca (j := 143) (as := [.int (nI j), .int (nI i)]) (rest := [.int (wgS w j i)]) rfl (Or.inl rfl) (Nat.le_of_ble_eq_true rfl) (Nat.le_of_ble_eq_true rfl) (Nat.le_of_ble_eq_true rfl) (Nat.le_of_ble_eq_true rfl) rfl ?_
                refine c_isOf ?_
                show lm_G X (d + 5) 235 106 0 0 120 [some (.ref 64), some (.int (nI p)), some (.int (nI t)), some (.int (nI n)), some (.int w), some (.int (lkS F s p t n w j)), some (.int (nI j)), some (.int (wgS w j i)), some (.int (nI i))] [.int (b2i (bitW (nI j) i)), .int (wgS w j i)] (lm_T M3 v G) Q
                refine lm_G_br (b := (b2i (bitW (nI j) i)) = 0) (t := 128) (S' := [.int (wgS w j i)]) rfl (fun h6 => ?_) (fun h6 => absurd h5 h6)
                refine lm_G_sg 6 (pc' := 137) (L' := [some (.ref 64), some (.int (nI p)), some (.int (nI t)), some (.int (nI n)), some (.int w), some (.int (lkS F s p t n w j)), some (.int (nI j)), some (.int ((wgS w j i) * (10 - w))), some (.int (nI i))]) (S' := [.ref 64]) (σ' := lm_T M3 v G) rfl trivial ?_
                refine lm_G_ca (j := 193) (as := [.ref 64]) (rest := []) rfl (Or.inl rfl) (Nat.le_of_ble_eq_true rfl) (Nat.le_of_ble_eq_true rfl) (Nat.le_of_ble_eq_true rfl) (Nat.le_of_ble_eq_true rfl) rfl ?_
                refine t_anHour hF hI2 (th_ok hs j i) (fun M5 t5 e5 => ?_)
                show lm_G X (d + 5) 235 106 0 0 140 [some (.ref 64), some (.int (nI p)), some (.int (nI t)), some (.int (nI n)), some (.int w), some (.int (lkS F s p t n w j)), some (.int (nI j)), some (.int ((wgS w j i) * (10 - w))), some (.int (nI i))] [] (lm_T M5 v G) Q
                rw [th_n hb, wg_n hb] at ih2
                refine lm_G_sg 1 (pc' := 143) (L' := [some (.ref 64), some (.int (nI p)), some (.int (nI t)), some (.int (nI n)), some (.int w), some (.int (lkS F s p t n w j)), some (.int (nI j)), some (.int ((wgS w j i) * (10 - w))), some (.int ((nI i) + 1))]) (S' := []) (σ' := lm_T M5 v G) rfl trivial ?_
                rw [nI_1]
                refine lm_G_sg 1 (pc' := 87) (L' := [some (.ref 64), some (.int (nI p)), some (.int (nI t)), some (.int (nI n)), some (.int w), some (.int (lkS F s p t n w j)), some (.int (nI j)), some (.int ((wgS w j i) * (10 - w))), some (.int (nI (i + 1)))]) (S' := []) (σ' := lm_T M5 v G) rfl trivial ?_
                exact ih2 _ t5
              ·
                have hb : bitW (nI j) i = true := b2i_1 h5
                refine lm_G_sg 2 (pc' := 105) (L' := [some (.ref 64), some (.int (nI p)), some (.int (nI t)), some (.int (nI n)), some (.int w), some (.int (lkS F s p t n w j)), some (.int (nI j)), some (.int (wgS w j i)), some (.int (nI i))]) (S' := [.ref 64, .ref 64]) (σ' := lm_T M3 v G) rfl trivial ?_
                refine lm_G_ca (j := 147) (as := [.ref 64]) (rest := [.ref 64]) rfl (Or.inl rfl) (Nat.le_of_ble_eq_true rfl) (Nat.le_of_ble_eq_true rfl) (Nat.le_of_ble_eq_true rfl) (Nat.le_of_ble_eq_true rfl) rfl ?_
                refine m_everybody hF hI2.1 ?_
                show lm_G X (d + 5) 235 106 0 0 108 [some (.ref 64), some (.int (nI p)), some (.int (nI t)), some (.int (nI n)), some (.int w), some (.int (lkS F s p t n w j)), some (.int (nI j)), some (.int (wgS w j i)), some (.int (nI i))] [.int (bit1 (nI (fN F)) - 1), .ref 64] (lm_T M3 v G) Q
                refine lm_G_ca (j := 191) (as := [.ref 64, .int (bit1 (nI (fN F)) - 1)]) (rest := []) rfl (Or.inl rfl) (Nat.le_of_ble_eq_true rfl) (Nat.le_of_ble_eq_true rfl) (Nat.le_of_ble_eq_true rfl) (Nat.le_of_ble_eq_true rfl) rfl ?_
                refine t_allStop hF hI2 (fun M4 t4 e4 => ?_)
                show lm_G X (d + 5) 235 106 0 0 111 [some (.ref 64), some (.int (nI p)), some (.int (nI t)), some (.int (nI n)), some (.int w), some (.int (lkS F s p t n w j)), some (.int (nI j)), some (.int (wgS w j i)), some (.int (nI i))] [] (lm_T M4 v G) Q
                rw [every_W hF] at t4
                refine lm_G_sg 3 (pc' := 117) (L' := [some (.ref 64), some (.int (nI p)), some (.int (nI t)), some (.int (nI n)), some (.int w), some (.int (lkS F s p t n w j)), some (.int (nI j)), some (.int (wgS w j i)), some (.int (nI i))]) (S' := [.int (nI i), .int (nI j), .int (wgS w j i)]) (σ' := lm_T M4 v G) rfl trivial ?_
                refine lm_G_ca (j := 143) (as := [.int (nI j), .int (nI i)]) (rest := [.int (wgS w j i)]) rfl (Or.inl rfl) (Nat.le_of_ble_eq_true rfl) (Nat.le_of_ble_eq_true rfl) (Nat.le_of_ble_eq_true rfl) (Nat.le_of_ble_eq_true rfl) rfl ?_
                refine c_isOf ?_
                show lm_G X (d + 5) 235 106 0 0 120 [some (.ref 64), some (.int (nI p)), some (.int (nI t)), some (.int (nI n)), some (.int w), some (.int (lkS F s p t n w j)), some (.int (nI j)), some (.int (wgS w j i)), some (.int (nI i))] [.int (b2i (bitW (nI j) i)), .int (wgS w j i)] (lm_T M4 v G) Q
                refine lm_G_br (b := (b2i (bitW (nI j) i)) = 0) (t := 128) (S' := [.int (wgS w j i)]) rfl (fun h6 => absurd h6 h5) (fun h6 => ?_)
                refine lm_G_sg 5 (pc' := 137) (L' := [some (.ref 64), some (.int (nI p)), some (.int (nI t)), some (.int (nI n)), some (.int w), some (.int (lkS F s p t n w j)), some (.int (nI j)), some (.int ((wgS w j i) * w)), some (.int (nI i))]) (S' := [.ref 64]) (σ' := lm_T M4 v G) rfl trivial ?_
                refine lm_G_ca (j := 193) (as := [.ref 64]) (rest := []) rfl (Or.inl rfl) (Nat.le_of_ble_eq_true rfl) (Nat.le_of_ble_eq_true rfl) (Nat.le_of_ble_eq_true rfl) (Nat.le_of_ble_eq_true rfl) rfl ?_
                refine t_anHour hF t4 (ok_all (th_ok hs j i) _) (fun M5 t5 e5 => ?_)
                show lm_G X (d + 5) 235 106 0 0 140 [some (.ref 64), some (.int (nI p)), some (.int (nI t)), some (.int (nI n)), some (.int w), some (.int (lkS F s p t n w j)), some (.int (nI j)), some (.int ((wgS w j i) * w)), some (.int (nI i))] [] (lm_T M5 v G) Q
                rw [th_y hb, wg_y hb] at ih2
                refine lm_G_sg 1 (pc' := 143) (L' := [some (.ref 64), some (.int (nI p)), some (.int (nI t)), some (.int (nI n)), some (.int w), some (.int (lkS F s p t n w j)), some (.int (nI j)), some (.int ((wgS w j i) * w)), some (.int ((nI i) + 1))]) (S' := []) (σ' := lm_T M5 v G) rfl trivial ?_
                rw [nI_1]
                refine lm_G_sg 1 (pc' := 87) (L' := [some (.ref 64), some (.int (nI p)), some (.int (nI t)), some (.int (nI n)), some (.int w), some (.int (lkS F s p t n w j)), some (.int (nI j)), some (.int ((wgS w j i) * w)), some (.int (nI (i + 1)))]) (S' := []) (σ' := lm_T M5 v G) rfl trivial ?_
                exact ih2 _ t5
            ·
              revert hI2
              revert zz
              intro M3 hI2
              replace hI2 : TM M F s M3 (thS F s j n) := hI2
              show lm_G X (d + 5) 235 106 0 0 87 [some (.ref 64), some (.int (nI p)), some (.int (nI t)), some (.int (nI n)), some (.int w), some (.int (lkS F s p t n w j)), some (.int (nI j)), some (.int (wgS w j n)), some (.int (nI n))] [] (lm_T M3 v G) Q
              refine lm_G_sg 2 (pc' := 90) (L' := [some (.ref 64), some (.int (nI p)), some (.int (nI t)), some (.int (nI n)), some (.int w), some (.int (lkS F s p t n w j)), some (.int (nI j)), some (.int (wgS w j n)), some (.int (nI n))]) (S' := [.int (nI n), .int (nI n)]) (σ' := lm_T M3 v G) rfl trivial ?_
              refine lm_G_br (b := (nI n) ≤ (nI n)) (t := 146) (S' := []) rfl (fun hc => ?_) (fun hc => absurd (nI_le (Nat.le_refl _) (by omega)) hc)
              refine lm_G_sg 5 (pc' := 154) (L' := [some (.ref 64), some (.int (nI p)), some (.int (nI t)), some (.int (nI n)), some (.int w), some (.int (lkS F s p t n w j)), some (.int (nI j)), some (.int (wgS w j n)), some (.int (nI n))]) (S' := [.int (M3 81 (nI t).toNatClampNeg), .int (lkS F s p t n w j)]) (σ' := lm_T M3 v G) rfl ⟨(vp_in_nI (by omega) (by omega)), trivial, trivial⟩ ?_
              rw [show (nI t).toNatClampNeg = t from nI_clamp (by omega)]
              rw [show M3 81 t = sOw (thS F s j n) t from hI2.1.ow t (by omega)]
              refine lm_G_sg 1 (pc' := 155) (L' := [some (.ref 64), some (.int (nI p)), some (.int (nI t)), some (.int (nI n)), some (.int w), some (.int (lkS F s p t n w j)), some (.int (nI j)), some (.int (wgS w j n)), some (.int (nI n))]) (S' := [.int (nI p), .int (sOw (thS F s j n) t), .int (lkS F s p t n w j)]) (σ' := lm_T M3 v G) rfl trivial ?_
              refine lm_G_br (b := ¬ (sOw (thS F s j n) t) = (nI p)) (t := 163) (S' := [.int (lkS F s p t n w j)]) rfl (fun h5 => ?_) (fun h5 => ?_)
              ·
                refine lm_G_sg 3 (pc' := 167) (L' := [some (.ref 64), some (.int (nI p)), some (.int (nI t)), some (.int (nI n)), some (.int w), some (.int ((lkS F s p t n w j) + 0)), some (.int (nI j)), some (.int (wgS w j n)), some (.int (nI n))]) (S' := []) (σ' := lm_T M3 v G) rfl trivial ?_
                rw [Int32.add_zero, ← lk_n h5]
                refine lm_G_sg 4 (pc' := 173) (L' := [some (.ref 64), some (.int (nI p)), some (.int (nI t)), some (.int (nI n)), some (.int w), some (.int (lkS F s p t n w (j + 1))), some (.int (nI j)), some (.int (wgS w j n)), some (.int (nI n))]) (S' := [.int 0, .ref 90, .ref 64]) (σ' := lm_T M3 v G) rfl trivial ?_
                refine lm_G_ca (j := 178) (as := [.ref 64, .ref 90, .int 0]) (rest := []) rfl (Or.inl rfl) (Nat.le_of_ble_eq_true rfl) (Nat.le_of_ble_eq_true rfl) (Nat.le_of_ble_eq_true rfl) (Nat.le_of_ble_eq_true rfl) rfl ?_
                refine t_unpack hF hI2 (th_br n) (fun M6 t6 => ?_)
                show lm_G X (d + 5) 235 106 0 0 176 [some (.ref 64), some (.int (nI p)), some (.int (nI t)), some (.int (nI n)), some (.int w), some (.int (lkS F s p t n w (j + 1))), some (.int (nI j)), some (.int (wgS w j n)), some (.int (nI n))] [] (lm_T M6 v G) Q
                refine lm_G_sg 1 (pc' := 179) (L' := [some (.ref 64), some (.int (nI p)), some (.int (nI t)), some (.int (nI n)), some (.int w), some (.int (lkS F s p t n w (j + 1))), some (.int ((nI j) + 1)), some (.int (wgS w j n)), some (.int (nI n))]) (S' := []) (σ' := lm_T M6 v G) rfl trivial ?_
                rw [nI_1]
                refine lm_G_sg 1 (pc' := 73) (L' := [some (.ref 64), some (.int (nI p)), some (.int (nI t)), some (.int (nI n)), some (.int w), some (.int (lkS F s p t n w (j + 1))), some (.int (nI (j + 1))), some (.int (wgS w j n)), some (.int (nI n))]) (S' := []) (σ' := lm_T M6 v G) rfl trivial ?_
                refine lm_G_jk (L := [some (.ref 64), some (.int (nI p)), some (.int (nI t)), some (.int (nI n)), some (.int w), some (.int (lkS F s p t n w (j + 1))), some (.int (nI (j + 1))), none, none]) ⟨rfl, rfl, rfl, rfl, rfl, rfl, rfl, trivial⟩ ?_
                exact ih _ t6
              ·
                refine lm_G_sg 4 (pc' := 167) (L' := [some (.ref 64), some (.int (nI p)), some (.int (nI t)), some (.int (nI n)), some (.int w), some (.int ((lkS F s p t n w j) + (wgS w j n))), some (.int (nI j)), some (.int (wgS w j n)), some (.int (nI n))]) (S' := []) (σ' := lm_T M3 v G) rfl trivial ?_
                rw [← lk_y (Classical.not_not.mp h5)]
                refine lm_G_sg 4 (pc' := 173) (L' := [some (.ref 64), some (.int (nI p)), some (.int (nI t)), some (.int (nI n)), some (.int w), some (.int (lkS F s p t n w (j + 1))), some (.int (nI j)), some (.int (wgS w j n)), some (.int (nI n))]) (S' := [.int 0, .ref 90, .ref 64]) (σ' := lm_T M3 v G) rfl trivial ?_
                refine lm_G_ca (j := 178) (as := [.ref 64, .ref 90, .int 0]) (rest := []) rfl (Or.inl rfl) (Nat.le_of_ble_eq_true rfl) (Nat.le_of_ble_eq_true rfl) (Nat.le_of_ble_eq_true rfl) (Nat.le_of_ble_eq_true rfl) rfl ?_
                refine t_unpack hF hI2 (th_br n) (fun M6 t6 => ?_)
                show lm_G X (d + 5) 235 106 0 0 176 [some (.ref 64), some (.int (nI p)), some (.int (nI t)), some (.int (nI n)), some (.int w), some (.int (lkS F s p t n w (j + 1))), some (.int (nI j)), some (.int (wgS w j n)), some (.int (nI n))] [] (lm_T M6 v G) Q
                refine lm_G_sg 1 (pc' := 179) (L' := [some (.ref 64), some (.int (nI p)), some (.int (nI t)), some (.int (nI n)), some (.int w), some (.int (lkS F s p t n w (j + 1))), some (.int ((nI j) + 1)), some (.int (wgS w j n)), some (.int (nI n))]) (S' := []) (σ' := lm_T M6 v G) rfl trivial ?_
                rw [nI_1]
                refine lm_G_sg 1 (pc' := 73) (L' := [some (.ref 64), some (.int (nI p)), some (.int (nI t)), some (.int (nI n)), some (.int w), some (.int (lkS F s p t n w (j + 1))), some (.int (nI (j + 1))), some (.int (wgS w j n)), some (.int (nI n))]) (S' := []) (σ' := lm_T M6 v G) rfl trivial ?_
                refine lm_G_jk (L := [some (.ref 64), some (.int (nI p)), some (.int (nI t)), some (.int (nI n)), some (.int w), some (.int (lkS F s p t n w (j + 1))), some (.int (nI (j + 1))), none, none]) ⟨rfl, rfl, rfl, rfl, rfl, rfl, rfl, trivial⟩ ?_
                exact ih _ t6
            ·
              try dsimp only
              exact hI
          ·
            revert hI
            revert zz
            intro M2 hI
            replace hI : TM M F s M2 s := hI
            show lm_G X (d + 5) 235 106 0 0 73 [some (.ref 64), some (.int (nI p)), some (.int (nI t)), some (.int (nI n)), some (.int w), some (.int (lkS F s p t n w N2)), some (.int (nI N2)), none, none] [] (lm_T M2 v G) Q
            refine lm_G_sg 4 (pc' := 78) (L' := [some (.ref 64), some (.int (nI p)), some (.int (nI t)), some (.int (nI n)), some (.int w), some (.int (lkS F s p t n w N2)), some (.int (nI N2)), none, none]) (S' := [.int ((1 : Int32) <<< ((nI n) &&& 31)), .int (nI N2)]) (σ' := lm_T M2 v G) rfl trivial ?_
            rw [show (1 : Int32) <<< ((nI n) &&& 31) = nI N2 from n2b]
            refine lm_G_br (b := (nI N2) ≤ (nI N2)) (t := 182) (S' := []) rfl (fun hc => ?_) (fun hc => absurd (nI_le (Nat.le_refl _) (by omega)) hc)
            refine lm_G_sg 1 (pc' := 184) (L' := [some (.ref 64), some (.int (nI p)), some (.int (nI t)), some (.int (nI n)), some (.int w), some (.int (lkS F s p t n w N2)), some (.int (nI N2)), none, none]) (S' := [.int (lkS F s p t n w N2)]) (σ' := lm_T M2 v G) rfl trivial ?_
            exact lm_G_re rfl trivial (Nat.zero_le _) (Nat.zero_le _) (hQ _ hI.1 hI.2.1 hI.2.2.2.1)
          ·
            try dsimp only
            exact t1
/-! ===== contracts: years ===== -/
set_option maxRecDepth 10000 in
theorem c_stepSeed {X : lm_X} {d v : Nat} {M : Nat → Nat → Int32} {G : Nat → Nat → Int64} {Q : lm_O → lm_S → Prop} {x : Int32} (hQ : Q (.inl (some (.int (sdS x)))) (lm_T M v G)) : lm_Q X d 128 [.int x] (lm_T M v G) Q := by
  show lm_G X d 128 106 0 0 0 [some (.int x)] [] (lm_T M v G) Q
  refine lm_G_sg 5 (pc' := 9) (L' := [some (.int x)]) (S' := [.int ((x * 1103515245) + 12345)]) (σ' := lm_T M v G) rfl trivial ?_
  exact lm_G_re rfl trivial (Nat.zero_le _) (Nat.zero_le _) hQ
set_option maxRecDepth 10000 in
theorem c_drawOf {X : lm_X} {d v : Nat} {M : Nat → Nat → Int32} {G : Nat → Nat → Int64} {Q : lm_O → lm_S → Prop} {x : Int32} {n : Nat} (hn0 : 0 < n) (hn1 : n ≤ 100) (hQ : Q (.inl (some (.int (nI (drS x n))))) (lm_T M v G)) : lm_Q X d 129 [.int x, .int (nI n)] (lm_T M v G) Q := by
  show lm_G X d 129 106 0 0 0 [some (.int x), some (.int (nI n))] [] (lm_T M v G) Q
  refine lm_G_sg 1 (pc' := 1) (L' := [some (.int x), some (.int (nI n))]) (S' := [.int (nI n)]) (σ' := lm_T M v G) rfl trivial ?_
  refine lm_G_br (b := (nI n) ≤ 0) (t := 17) (S' := []) rfl (fun hc => absurd hc (nI_nle hn0 (by omega))) (fun hc => ?_)
  refine lm_G_sg 5 (pc' := 12) (L' := [some (.int x), some (.int (nI n))]) (S' := [.int (((x.toUInt32 >>> ((16 : Int32).toUInt32 &&& Int32.toUInt32 31)).toInt32) &&& 32767)]) (σ' := lm_T M v G) rfl trivial ?_
  rw [show (x.toUInt32 >>> ((16 : Int32).toUInt32 &&& Int32.toUInt32 31)).toInt32 &&& 32767 = nI (drN x) from dr_u x]
  refine lm_G_sg 3 (pc' := 18) (L' := [some (.int x), some (.int (nI n))]) (S' := [.int ((nI (drN x)) - (nI (drN x)) / (nI n) * (nI n))]) (σ' := lm_T M v G) rfl ⟨(nI_ne0 hn0 (by omega)), trivial, trivial⟩ ?_
  rw [nI_rem (a := drN x) (b := n) (by have := dr_lt x; omega) (by omega)]
  exact lm_G_re rfl trivial (Nat.zero_le _) (Nat.zero_le _) hQ
set_option maxRecDepth 10000 in
theorem m_drawOf {X : lm_X} {d v : Nat} {M : Nat → Nat → Int32} {G : Nat → Nat → Int64} {Q : lm_O → lm_S → Prop} {n : Nat} (hn0 : 0 < n) (hn1 : n ≤ 100) (hQ : Q (.inl (some (.int (nI (drS (sdS (M 64 53)) n))))) (lm_T (lm_wr M 64 53 (sdS (M 64 53))) v G)) : lm_Q X d 238 [.ref 64, .int (nI n)] (lm_T M v G) Q := by
  show lm_G X d 238 106 0 0 0 [some (.ref 64), some (.int (nI n))] [] (lm_T M v G) Q
  refine lm_G_sg 14 (pc' := 27) (L' := [some (.ref 64), some (.int (nI n))]) (S' := [.int (((((M 64 53) * 1103515245) + 12345) >>> ((16 : Int32) &&& 31)) &&& 32767)]) (σ' := lm_T (lm_wr M 64 53 (((M 64 53) * 1103515245) + 12345)) v G) rfl ⟨trivial, trivial, trivial⟩ ?_
  rw [show ((M 64 53) * 1103515245 + 12345 : Int32) = sdS (M 64 53) from rfl]
  rw [show (sdS (M 64 53) >>> ((16 : Int32) &&& 31)) &&& 32767 = nI (drN (sdS (M 64 53))) from dr_s _]
  show lm_G X d 238 106 0 0 27 [some (.ref 64), some (.int (nI n))] [.int (nI (drN (sdS (M 64 53))))] (lm_T (lm_wr M 64 53 (sdS (M 64 53))) v G) Q
  refine lm_G_sg 2 (pc' := 29) (L' := [some (.ref 64), some (.int (nI n))]) (S' := [.int ((nI (drN (sdS (M 64 53)))) - (nI (drN (sdS (M 64 53)))) / (nI n) * (nI n))]) (σ' := lm_T (lm_wr M 64 53 (sdS (M 64 53))) v G) rfl ⟨(nI_ne0 hn0 (by omega)), trivial, trivial⟩ ?_
  rw [nI_rem (a := drN (sdS (M 64 53))) (b := n) (by have := dr_lt (sdS (M 64 53)); omega) (by omega)]
  exact lm_G_re rfl trivial (Nat.zero_le _) (Nat.zero_le _) hQ
set_option maxRecDepth 10000 in
theorem c_drawChance {X : lm_X} {d v : Nat} {M : Nat → Nat → Int32} {G : Nat → Nat → Int64} {Q : lm_O → lm_S → Prop} {F : Fa} {S : Sc} {M0 : Nat → Fn} {x : Int32} (hF : okF F) (t : TC M0 F M S) (hs : okS F S) (hQ : ∀ M1, TC M0 F M1 (chB F x S) → M1 38 13 = M 38 13 + (chD F x S) → Q (.inl (some (.int (chA F x)))) (lm_T M1 v G)) : lm_Q X (d + 3) 127 [.ref 0, .int x] (lm_T M v G) Q := by
  have hn := hF.n
  have hm := hF.m
  show lm_G X (d + 3) 127 106 0 0 0 [some (.ref 0), some (.int x), none, none, none] [] (lm_T M v G) Q
  refine lm_G_sg 1 (pc' := 1) (L' := [some (.ref 0), some (.int x), none, none, none]) (S' := [.int x]) (σ' := lm_T M v G) rfl trivial ?_
  refine lm_G_ca (j := 128) (as := [.int x]) (rest := []) rfl (Or.inl rfl) (Nat.le_of_ble_eq_true rfl) (Nat.le_of_ble_eq_true rfl) (Nat.le_of_ble_eq_true rfl) (Nat.le_of_ble_eq_true rfl) rfl ?_
  refine c_stepSeed ?_
  show lm_G X (d + 3) 127 106 0 0 4 [some (.ref 0), some (.int x), none, none, none] [.int (sdS x)] (lm_T M v G) Q
  refine lm_G_sg 3 (pc' := 8) (L' := [some (.ref 0), some (.int x), some (.int (sdS x)), none, none]) (S' := [.int 7, .int (sdS x)]) (σ' := lm_T M v G) rfl trivial ?_
  refine lm_G_ca (j := 129) (as := [.int (sdS x), .int 7]) (rest := []) rfl (Or.inl rfl) (Nat.le_of_ble_eq_true rfl) (Nat.le_of_ble_eq_true rfl) (Nat.le_of_ble_eq_true rfl) (Nat.le_of_ble_eq_true rfl) rfl ?_
  refine c_drawOf (n := 7) (by omega) (by omega) ?_
  show lm_G X (d + 3) 127 106 0 0 11 [some (.ref 0), some (.int x), some (.int (sdS x)), none, none] [.int (nI (drS (sdS x) 7))] (lm_T M v G) Q
  have k7 : (drS (sdS x) 7) < 7 := Nat.mod_lt _ (by omega)
  refine lm_G_sg 2 (pc' := 13) (L' := [some (.ref 0), some (.int x), some (.int (sdS x)), some (.int (nI (drS (sdS x) 7))), none]) (S' := [.int (nI (drS (sdS x) 7))]) (σ' := lm_T M v G) rfl trivial ?_
  have k140 : ∀ (M1 : Nat → Fn) (y : Int32) (S1 : Sc) (dd : Int32) (hc_ : chA F x = y ∧ chB F x S = S1 ∧ chD F x S = dd) (tt : TC M0 F M1 S1) (ed : M1 38 13 = M 38 13 + dd), lm_G X (d + 3) 127 106 0 0 140 [some (.ref 0), some (.int x), some (.int y), some (.int (nI (drS (sdS x) 7))), none] [] (lm_T M1 v G) Q := by
    intro M1 y S1 dd hc_ tt ed
    rw [hc_.1, hc_.2.1, hc_.2.2] at hQ
    refine lm_G_sg 1 (pc' := 141) (L' := [some (.ref 0), some (.int x), some (.int y), some (.int (nI (drS (sdS x) 7))), none]) (S' := [.int y]) (σ' := lm_T M1 v G) rfl trivial ?_
    exact lm_G_re rfl trivial (Nat.zero_le _) (Nat.zero_le _) (hQ _ tt ed)
  have k87n : ∀ (M1 : Nat → Fn) (y : Int32) (S1 : Sc) (dd : Int32) (hk : (drS (sdS x) 7) ≠ 2) (hc_ : chA F x = y ∧ chB F x S = S1 ∧ chD F x S = dd) (tt : TC M0 F M1 S1) (ed : M1 38 13 = M 38 13 + dd), lm_G X (d + 3) 127 106 0 0 87 [some (.ref 0), some (.int x), some (.int y), some (.int (nI (drS (sdS x) 7))), none] [] (lm_T M1 v G) Q := by
    intro M1 y S1 dd hk hc_ tt ed
    refine lm_G_sg 2 (pc' := 89) (L' := [some (.ref 0), some (.int x), some (.int y), some (.int (nI (drS (sdS x) 7))), none]) (S' := [.int 2, .int (nI (drS (sdS x) 7))]) (σ' := lm_T M1 v G) rfl trivial ?_
    refine lm_G_br (b := ¬ (nI (drS (sdS x) 7)) = 2) (t := 140) (S' := []) rfl (fun hc => ?_) (fun hc => absurd ((nI_eq (b := 2) (by omega) (by omega)).mp (Classical.not_not.mp hc)) hk)
    exact k140 _ _ _ _ hc_ tt ed
  have k49n : ∀ (M1 : Nat → Fn) (y : Int32) (S1 : Sc) (dd : Int32) (hk : (drS (sdS x) 7) = 0) (hc_ : chA F x = y ∧ chB F x S = S1 ∧ chD F x S = dd) (tt : TC M0 F M1 S1) (ed : M1 38 13 = M 38 13 + dd), lm_G X (d + 3) 127 106 0 0 49 [some (.ref 0), some (.int x), some (.int y), some (.int (nI (drS (sdS x) 7))), none] [] (lm_T M1 v G) Q := by
    intro M1 y S1 dd hk hc_ tt ed
    refine lm_G_sg 2 (pc' := 51) (L' := [some (.ref 0), some (.int x), some (.int y), some (.int (nI (drS (sdS x) 7))), none]) (S' := [.int 1, .int (nI (drS (sdS x) 7))]) (σ' := lm_T M1 v G) rfl trivial ?_
    refine lm_G_br (b := ¬ (nI (drS (sdS x) 7)) = 1) (t := 87) (S' := []) rfl (fun hc => ?_) (fun hc => absurd ((nI_eq (b := 1) (by omega) (by omega)).mp (Classical.not_not.mp hc)) (by omega))
    exact k87n _ _ _ _ (by omega) hc_ tt ed
  refine lm_G_br (b := ¬ (nI (drS (sdS x) 7)) = 0) (t := 49) (S' := []) rfl (fun g0 => ?_) (fun g0 => ?_)
  rotate_left
  ·
    have k0 : (drS (sdS x) 7) = 0 := (nI_eq (b := 0) (by omega) (by omega)).mp (Classical.not_not.mp g0)
    refine lm_G_sg 3 (pc' := 23) (L' := [some (.ref 0), some (.int x), some (.int (sdS x)), some (.int (nI (drS (sdS x) 7))), none]) (S' := [.int (M 14 6)]) (σ' := lm_T M v G) rfl trivial ?_
    rw [show M 14 6 = nI (fM F) from t.1.m]
    refine lm_G_br (b := (nI (fM F)) ≤ 0) (t := 49) (S' := []) rfl (fun g1 => ?_) (fun g1 => ?_)
    ·
      have m0 : ¬ 0 < fM F := fun w => nI_nle w (by omega) g1
      exact k49n _ _ _ 0 k0 ⟨by unfold chA; rw [if_neg (fun w => m0 w.2), if_neg (fun w => by omega), if_neg (fun w => by omega)], by unfold chB; rw [if_neg (fun w => m0 w.2), if_neg (fun w => by omega), if_neg (fun w => by omega)], by unfold chD; rw [if_neg (fun w => m0 w.2), if_neg (fun w => by omega), if_neg (fun w => by omega)]⟩ t (by simp)
    ·
      have m0 : 0 < fM F := Nat.pos_of_ne_zero (fun w => g1 (by rw [w]; decide))
      have dm : drS (sdS (sdS x)) (fM F) < fM F := Nat.mod_lt _ m0
      refine lm_G_sg 1 (pc' := 27) (L' := [some (.ref 0), some (.int x), some (.int (sdS x)), some (.int (nI (drS (sdS x) 7))), none]) (S' := [.int (sdS x)]) (σ' := lm_T M v G) rfl trivial ?_
      refine lm_G_ca (j := 128) (as := [.int (sdS x)]) (rest := []) rfl (Or.inl rfl) (Nat.le_of_ble_eq_true rfl) (Nat.le_of_ble_eq_true rfl) (Nat.le_of_ble_eq_true rfl) (Nat.le_of_ble_eq_true rfl) rfl ?_
      refine c_stepSeed ?_
      show lm_G X (d + 3) 127 106 0 0 30 [some (.ref 0), some (.int x), some (.int (sdS x)), some (.int (nI (drS (sdS x) 7))), none] [.int (sdS (sdS x))] (lm_T M v G) Q
      refine lm_G_sg 7 (pc' := 43) (L' := [some (.ref 0), some (.int x), some (.int (sdS (sdS x))), some (.int (nI (drS (sdS x) 7))), none]) (S' := [.int (M 14 6), .int (sdS (sdS x)), .ref 38]) (σ' := lm_T M v G) rfl trivial ?_
      rw [show M 14 6 = nI (fM F) from t.1.m]
      refine lm_G_ca (j := 129) (as := [.int (sdS (sdS x)), .int (nI (fM F))]) (rest := [.ref 38]) rfl (Or.inl rfl) (Nat.le_of_ble_eq_true rfl) (Nat.le_of_ble_eq_true rfl) (Nat.le_of_ble_eq_true rfl) (Nat.le_of_ble_eq_true rfl) rfl ?_
      refine c_drawOf m0 (by omega) ?_
      show lm_G X (d + 3) 127 106 0 0 46 [some (.ref 0), some (.int x), some (.int (sdS (sdS x))), some (.int (nI (drS (sdS x) 7))), none] [.int (nI (drS (sdS (sdS x)) (fM F))), .ref 38] (lm_T M v G) Q
      refine lm_G_ca (j := 69) (as := [.ref 38, .int (nI (drS (sdS (sdS x)) (fM F)))]) (rest := []) rfl (Or.inl rfl) (Nat.le_of_ble_eq_true rfl) (Nat.le_of_ble_eq_true rfl) (Nat.le_of_ble_eq_true rfl) (Nat.le_of_ble_eq_true rfl) rfl ?_
      refine u_quietT hF t dm (fun M2 t2 e2 => ?_)
      show lm_G X (d + 3) 127 106 0 0 49 [some (.ref 0), some (.int x), some (.int (sdS (sdS x))), some (.int (nI (drS (sdS x) 7))), none] [] (lm_T M2 v G) Q
      rw [← (hum_one hF dm).1] at t2
      rw [← (hum_one hF dm).2] at e2
      exact k49n _ _ _ _ k0 ⟨by unfold chA; rw [if_pos ⟨k0, m0⟩], by unfold chB; rw [if_pos ⟨k0, m0⟩], by unfold chD; rw [if_pos ⟨k0, m0⟩]⟩ t2 e2
  ·
    have k0 : (drS (sdS x) 7) ≠ 0 := fun w => g0 (by rw [w]; rfl)
    refine lm_G_sg 2 (pc' := 51) (L' := [some (.ref 0), some (.int x), some (.int (sdS x)), some (.int (nI (drS (sdS x) 7))), none]) (S' := [.int 1, .int (nI (drS (sdS x) 7))]) (σ' := lm_T M v G) rfl trivial ?_
    refine lm_G_br (b := ¬ (nI (drS (sdS x) 7)) = 1) (t := 87) (S' := []) rfl (fun g1 => ?_) (fun g1 => ?_)
    rotate_left
    ·
      have k1 : (drS (sdS x) 7) = 1 := (nI_eq (b := 1) (by omega) (by omega)).mp (Classical.not_not.mp g1)
      refine lm_G_sg 3 (pc' := 61) (L' := [some (.ref 0), some (.int x), some (.int (sdS x)), some (.int (nI (drS (sdS x) 7))), none]) (S' := [.int (M 14 0)]) (σ' := lm_T M v G) rfl trivial ?_
      rw [show M 14 0 = nI (fN F) from t.1.n]
      refine lm_G_br (b := (nI (fN F)) ≤ 0) (t := 87) (S' := []) rfl (fun g2 => ?_) (fun g2 => ?_)
      ·
        have m0 : ¬ 0 < fN F := fun w => nI_nle w (by omega) g2
        exact k87n _ _ _ 0 (by omega) ⟨by unfold chA; rw [if_neg (fun w => by omega), if_neg (fun w => m0 w.2), if_neg (fun w => by omega)], by unfold chB; rw [if_neg (fun w => by omega), if_neg (fun w => m0 w.2), if_neg (fun w => by omega)], by unfold chD; rw [if_neg (fun w => by omega), if_neg (fun w => m0 w.2), if_neg (fun w => by omega)]⟩ t (by simp)
      ·
        have m0 : 0 < fN F := Nat.pos_of_ne_zero (fun w => g2 (by rw [w]; decide))
        have dm : drS (sdS (sdS x)) (fN F) < fN F := Nat.mod_lt _ m0
        refine lm_G_sg 1 (pc' := 65) (L' := [some (.ref 0), some (.int x), some (.int (sdS x)), some (.int (nI (drS (sdS x) 7))), none]) (S' := [.int (sdS x)]) (σ' := lm_T M v G) rfl trivial ?_
        refine lm_G_ca (j := 128) (as := [.int (sdS x)]) (rest := []) rfl (Or.inl rfl) (Nat.le_of_ble_eq_true rfl) (Nat.le_of_ble_eq_true rfl) (Nat.le_of_ble_eq_true rfl) (Nat.le_of_ble_eq_true rfl) rfl ?_
        refine c_stepSeed ?_
        show lm_G X (d + 3) 127 106 0 0 68 [some (.ref 0), some (.int x), some (.int (sdS x)), some (.int (nI (drS (sdS x) 7))), none] [.int (sdS (sdS x))] (lm_T M v G) Q
        refine lm_G_sg 7 (pc' := 81) (L' := [some (.ref 0), some (.int x), some (.int (sdS (sdS x))), some (.int (nI (drS (sdS x) 7))), none]) (S' := [.int (M 14 0), .int (sdS (sdS x)), .ref 38]) (σ' := lm_T M v G) rfl trivial ?_
        rw [show M 14 0 = nI (fN F) from t.1.n]
        refine lm_G_ca (j := 129) (as := [.int (sdS (sdS x)), .int (nI (fN F))]) (rest := [.ref 38]) rfl (Or.inl rfl) (Nat.le_of_ble_eq_true rfl) (Nat.le_of_ble_eq_true rfl) (Nat.le_of_ble_eq_true rfl) (Nat.le_of_ble_eq_true rfl) rfl ?_
        refine c_drawOf m0 (by omega) ?_
        show lm_G X (d + 3) 127 106 0 0 84 [some (.ref 0), some (.int x), some (.int (sdS (sdS x))), some (.int (nI (drS (sdS x) 7))), none] [.int (nI (drS (sdS (sdS x)) (fN F))), .ref 38] (lm_T M v G) Q
        refine lm_G_ca (j := 68) (as := [.ref 38, .int (nI (drS (sdS (sdS x)) (fN F)))]) (rest := []) rfl (Or.inl rfl) (Nat.le_of_ble_eq_true rfl) (Nat.le_of_ble_eq_true rfl) (Nat.le_of_ble_eq_true rfl) (Nat.le_of_ble_eq_true rfl) rfl ?_
        refine u_quiet hF t hs dm (fun M2 t2 e2 => ?_)
        show lm_G X (d + 3) 127 106 0 0 87 [some (.ref 0), some (.int x), some (.int (sdS (sdS x))), some (.int (nI (drS (sdS x) 7))), none] [] (lm_T M2 v G) Q
        exact k87n _ _ _ _ (by omega) ⟨by unfold chA; rw [if_neg (fun w => by omega), if_pos ⟨k1, m0⟩], by unfold chB; rw [if_neg (fun w => by omega), if_pos ⟨k1, m0⟩]; rfl, by unfold chD; rw [if_neg (fun w => by omega), if_pos ⟨k1, m0⟩]⟩ t2 e2
    ·
      have k1 : (drS (sdS x) 7) ≠ 1 := fun w => g1 (by rw [w]; rfl)
      refine lm_G_sg 2 (pc' := 89) (L' := [some (.ref 0), some (.int x), some (.int (sdS x)), some (.int (nI (drS (sdS x) 7))), none]) (S' := [.int 2, .int (nI (drS (sdS x) 7))]) (σ' := lm_T M v G) rfl trivial ?_
      refine lm_G_br (b := ¬ (nI (drS (sdS x) 7)) = 2) (t := 140) (S' := []) rfl (fun g2 => ?_) (fun g2 => ?_)
      ·
        have k2 : (drS (sdS x) 7) ≠ 2 := fun w => g2 (by rw [w]; rfl)
        exact k140 _ _ _ 0 ⟨by unfold chA; rw [if_neg (fun w => by omega), if_neg (fun w => by omega), if_neg (fun w => by omega)], by unfold chB; rw [if_neg (fun w => by omega), if_neg (fun w => by omega), if_neg (fun w => by omega)], by unfold chD; rw [if_neg (fun w => by omega), if_neg (fun w => by omega), if_neg (fun w => by omega)]⟩ t (by simp)
      ·
        have k2 : (drS (sdS x) 7) = 2 := (nI_eq (b := 2) (by omega) (by omega)).mp (Classical.not_not.mp g2)
        refine lm_G_sg 3 (pc' := 99) (L' := [some (.ref 0), some (.int x), some (.int (sdS x)), some (.int (nI (drS (sdS x) 7))), none]) (S' := [.int (M 14 0)]) (σ' := lm_T M v G) rfl trivial ?_
        rw [show M 14 0 = nI (fN F) from t.1.n]
        refine lm_G_br (b := (nI (fN F)) ≤ 0) (t := 140) (S' := []) rfl (fun g3 => ?_) (fun g3 => ?_)
        ·
          have m0 : ¬ 0 < fN F := fun w => nI_nle w (by omega) g3
          exact k140 _ _ _ 0 ⟨by unfold chA; rw [if_neg (fun w => by omega), if_neg (fun w => by omega), if_neg (fun w => m0 w.2)], by unfold chB; rw [if_neg (fun w => by omega), if_neg (fun w => by omega), if_neg (fun w => m0 w.2)], by unfold chD; rw [if_neg (fun w => by omega), if_neg (fun w => by omega), if_neg (fun w => m0 w.2)]⟩ t (by simp)
        ·
          have m0 : 0 < fN F := Nat.pos_of_ne_zero (fun w => g3 (by rw [w]; decide))
          have dm : drS (sdS (sdS x)) (fN F) < fN F := Nat.mod_lt _ m0
          refine lm_G_sg 1 (pc' := 103) (L' := [some (.ref 0), some (.int x), some (.int (sdS x)), some (.int (nI (drS (sdS x) 7))), none]) (S' := [.int (sdS x)]) (σ' := lm_T M v G) rfl trivial ?_
          refine lm_G_ca (j := 128) (as := [.int (sdS x)]) (rest := []) rfl (Or.inl rfl) (Nat.le_of_ble_eq_true rfl) (Nat.le_of_ble_eq_true rfl) (Nat.le_of_ble_eq_true rfl) (Nat.le_of_ble_eq_true rfl) rfl ?_
          refine c_stepSeed ?_
          show lm_G X (d + 3) 127 106 0 0 106 [some (.ref 0), some (.int x), some (.int (sdS x)), some (.int (nI (drS (sdS x) 7))), none] [.int (sdS (sdS x))] (lm_T M v G) Q
          refine lm_G_sg 5 (pc' := 115) (L' := [some (.ref 0), some (.int x), some (.int (sdS (sdS x))), some (.int (nI (drS (sdS x) 7))), none]) (S' := [.int (M 14 0), .int (sdS (sdS x))]) (σ' := lm_T M v G) rfl trivial ?_
          rw [show M 14 0 = nI (fN F) from t.1.n]
          refine lm_G_ca (j := 129) (as := [.int (sdS (sdS x)), .int (nI (fN F))]) (rest := []) rfl (Or.inl rfl) (Nat.le_of_ble_eq_true rfl) (Nat.le_of_ble_eq_true rfl) (Nat.le_of_ble_eq_true rfl) (Nat.le_of_ble_eq_true rfl) rfl ?_
          refine c_drawOf m0 (by omega) ?_
          show lm_G X (d + 3) 127 106 0 0 118 [some (.ref 0), some (.int x), some (.int (sdS (sdS x))), some (.int (nI (drS (sdS x) 7))), none] [.int (nI (drS (sdS (sdS x)) (fN F)))] (lm_T M v G) Q
          refine lm_G_sg 2 (pc' := 121) (L' := [some (.ref 0), some (.int x), some (.int (sdS (sdS x))), some (.int (nI (drS (sdS x) 7))), some (.int (nI (drS (sdS (sdS x)) (fN F))))]) (S' := [.int (sdS (sdS x))]) (σ' := lm_T M v G) rfl trivial ?_
          refine lm_G_ca (j := 128) (as := [.int (sdS (sdS x))]) (rest := []) rfl (Or.inl rfl) (Nat.le_of_ble_eq_true rfl) (Nat.le_of_ble_eq_true rfl) (Nat.le_of_ble_eq_true rfl) (Nat.le_of_ble_eq_true rfl) rfl ?_
          refine c_stepSeed ?_
          show lm_G X (d + 3) 127 106 0 0 124 [some (.ref 0), some (.int x), some (.int (sdS (sdS x))), some (.int (nI (drS (sdS x) 7))), some (.int (nI (drS (sdS (sdS x)) (fN F))))] [.int (sdS (sdS (sdS x)))] (lm_T M v G) Q
          refine lm_G_sg 6 (pc' := 134) (L' := [some (.ref 0), some (.int x), some (.int (sdS (sdS (sdS x)))), some (.int (nI (drS (sdS x) 7))), some (.int (nI (drS (sdS (sdS x)) (fN F))))]) (S' := [.int 31, .int (sdS (sdS (sdS x))), .int (nI (drS (sdS (sdS x)) (fN F))), .ref 38]) (σ' := lm_T M v G) rfl trivial ?_
          refine lm_G_ca (j := 129) (as := [.int (sdS (sdS (sdS x))), .int 31]) (rest := [.int (nI (drS (sdS (sdS x)) (fN F))), .ref 38]) rfl (Or.inl rfl) (Nat.le_of_ble_eq_true rfl) (Nat.le_of_ble_eq_true rfl) (Nat.le_of_ble_eq_true rfl) (Nat.le_of_ble_eq_true rfl) rfl ?_
          refine c_drawOf (n := 31) (by omega) (by omega) ?_
          show lm_G X (d + 3) 127 106 0 0 137 [some (.ref 0), some (.int x), some (.int (sdS (sdS (sdS x)))), some (.int (nI (drS (sdS x) 7))), some (.int (nI (drS (sdS (sdS x)) (fN F))))] [.int (nI (drS (sdS (sdS (sdS x))) 31)), .int (nI (drS (sdS (sdS x)) (fN F))), .ref 38] (lm_T M v G) Q
          refine lm_G_ca (j := 64) (as := [.ref 38, .int (nI (drS (sdS (sdS x)) (fN F))), .int (nI (drS (sdS (sdS (sdS x))) 31))]) (rest := []) rfl (Or.inl rfl) (Nat.le_of_ble_eq_true rfl) (Nat.le_of_ble_eq_true rfl) (Nat.le_of_ble_eq_true rfl) (Nat.le_of_ble_eq_true rfl) rfl ?_
          refine u_putAt hF t dm (fun M2 t2 e2 => ?_)
          show lm_G X (d + 3) 127 106 0 0 140 [some (.ref 0), some (.int x), some (.int (sdS (sdS (sdS x)))), some (.int (nI (drS (sdS x) 7))), some (.int (nI (drS (sdS (sdS x)) (fN F))))] [] (lm_T M2 v G) Q
          refine lm_G_jk (L := [some (.ref 0), some (.int x), some (.int (sdS (sdS (sdS x)))), some (.int (nI (drS (sdS x) 7))), none]) ⟨rfl, rfl, rfl, rfl, trivial⟩ ?_
          exact k140 _ _ _ 0 ⟨by unfold chA; rw [if_neg (fun w => by omega), if_neg (fun w => by omega), if_pos ⟨k2, m0⟩], by unfold chB; rw [if_neg (fun w => by omega), if_neg (fun w => by omega), if_pos ⟨k2, m0⟩], by unfold chD; rw [if_neg (fun w => by omega), if_neg (fun w => by omega), if_pos ⟨k2, m0⟩]⟩ t2 (by rw [e2]; simp)
theorem t_allStopX {X : lm_X} {d v : Nat} {M M0 : Nat → Fn} {G : Nat → Nat → Int64} {Q : lm_O → lm_S → Prop} {F : Fa} {s S : Sc} {x : Int32} (hF : okF F) (t : TM M0 F s M S) (hQ : ∀ M1, TM M0 F s M1 (allS F (bitW x) S (fM F)) → M1 64 41 = M 64 41 + allD F (bitW x) S (fM F) → M1 64 53 = M 64 53 → Q (.inl none) (lm_T M1 v G)) : lm_Q X (d + 1) 191 [.ref 64, .int x] (lm_T M v G) Q :=
  m_allStop hF t.1 (fun M1 h1 e1 k1 => hQ M1 (TM_M t k1 h1) e1 (k1.2 53 (by decide) (by decide)))
theorem t_anHourX {X : lm_X} {d v : Nat} {M M0 : Nat → Fn} {G : Nat → Nat → Int64} {Q : lm_O → lm_S → Prop} {F : Fa} {s S : Sc} (hF : okF F) (t : TM M0 F s M S) (hs : okS F S) (hQ : ∀ M1, TM M0 F s M1 (hourS F nl S) → M1 64 41 = M 64 41 + hourD F S → M1 64 53 = M 64 53 → Q (.inl none) (lm_T M1 v G)) : lm_Q X (d + 4) 193 [.ref 64] (lm_T M v G) Q :=
  m_anHour (lf := nl) hF t.1 hs (fun _ hp => nl_M hF.n hp t.2.2.2.2) (fun M1 h1 k1 e1 => hQ M1 (TM_M t k1 h1) e1 (k1.2 53 (by decide) (by decide)))
set_option maxRecDepth 10000 in
theorem m_something {X : lm_X} {d v : Nat} {M : Nat → Nat → Int32} {G : Nat → Nat → Int64} {Q : lm_O → lm_S → Prop} {F : Fa} {s S : Sc} {M0 : Nat → Fn} {x : Int32} (hF : okF F) (t : TM M0 F s M S) (ex : M 64 53 = x) (hQ : ∀ M1, TM M0 F s M1 (chB F x S) → M1 64 41 = M 64 41 + (chD F x S) → M1 64 53 = (chA F x) → Q (.inl none) (lm_T M1 v G)) : lm_Q X (d + 2) 239 [.ref 64] (lm_T M v G) Q := by
  have hn := hF.n
  have hm := hF.m
  show lm_G X (d + 2) 239 106 0 0 0 [some (.ref 64), none, none] [] (lm_T M v G) Q
  refine lm_G_sg 2 (pc' := 3) (L' := [some (.ref 64), none, none]) (S' := [.int 7, .ref 64]) (σ' := lm_T M v G) rfl trivial ?_
  refine lm_G_ca (j := 238) (as := [.ref 64, .int 7]) (rest := []) rfl (Or.inl rfl) (Nat.le_of_ble_eq_true rfl) (Nat.le_of_ble_eq_true rfl) (Nat.le_of_ble_eq_true rfl) (Nat.le_of_ble_eq_true rfl) rfl ?_
  refine m_drawOf (n := 7) (by omega) (by omega) ?_
  show lm_G X (d + 2) 239 106 0 0 6 [some (.ref 64), none, none] [.int (nI (drS (sdS (M 64 53)) 7))] (lm_T (lm_wr M 64 53 (sdS (M 64 53))) v G) Q
  rw [ex]
  have k7 : (drS (sdS x) 7) < 7 := Nat.mod_lt _ (by omega)
  have t9 : TM M0 F s (lm_wr M 64 53 (sdS x)) S := TM_w64 t (Or.inr (Or.inr rfl))
  have x9 : (lm_wr M 64 53 (sdS x)) 64 53 = sdS x := wr_same
  have e9 : (lm_wr M 64 53 (sdS x)) 64 41 = M 64 41 := wr_at (by decide)
  revert t9 x9 e9
  generalize lm_wr M 64 53 (sdS x) = M9
  intro t9 x9 e9
  refine lm_G_sg 2 (pc' := 8) (L' := [some (.ref 64), some (.int (nI (drS (sdS x) 7))), none]) (S' := [.int (nI (drS (sdS x) 7))]) (σ' := lm_T M9 v G) rfl trivial ?_
  have k105 : ∀ (M1 : Nat → Fn) (y : Int32) (S1 : Sc) (dd : Int32) (hc_ : chA F x = y ∧ chB F x S = S1 ∧ chD F x S = dd) (tt : TM M0 F s M1 S1) (ed : M1 64 41 = M 64 41 + dd) (ey : M1 64 53 = y), lm_G X (d + 2) 239 106 0 0 105 [some (.ref 64), some (.int (nI (drS (sdS x) 7))), none] [] (lm_T M1 v G) Q := by
    intro M1 y S1 dd hc_ tt ed ey
    rw [hc_.1, hc_.2.1, hc_.2.2] at hQ
    exact lm_G_re rfl trivial (Nat.zero_le _) (Nat.zero_le _) (hQ _ tt ed ey)
  have k68n : ∀ (M1 : Nat → Fn) (y : Int32) (S1 : Sc) (dd : Int32) (hk : (drS (sdS x) 7) ≠ 2) (hc_ : chA F x = y ∧ chB F x S = S1 ∧ chD F x S = dd) (tt : TM M0 F s M1 S1) (ed : M1 64 41 = M 64 41 + dd) (ey : M1 64 53 = y), lm_G X (d + 2) 239 106 0 0 68 [some (.ref 64), some (.int (nI (drS (sdS x) 7))), none] [] (lm_T M1 v G) Q := by
    intro M1 y S1 dd hk hc_ tt ed ey
    refine lm_G_sg 2 (pc' := 70) (L' := [some (.ref 64), some (.int (nI (drS (sdS x) 7))), none]) (S' := [.int 2, .int (nI (drS (sdS x) 7))]) (σ' := lm_T M1 v G) rfl trivial ?_
    refine lm_G_br (b := ¬ (nI (drS (sdS x) 7)) = 2) (t := 105) (S' := []) rfl (fun hc => ?_) (fun hc => absurd ((nI_eq (b := 2) (by omega) (by omega)).mp (Classical.not_not.mp hc)) hk)
    exact k105 _ _ _ _ hc_ tt ed ey
  have k38n : ∀ (M1 : Nat → Fn) (y : Int32) (S1 : Sc) (dd : Int32) (hk : (drS (sdS x) 7) = 0) (hc_ : chA F x = y ∧ chB F x S = S1 ∧ chD F x S = dd) (tt : TM M0 F s M1 S1) (ed : M1 64 41 = M 64 41 + dd) (ey : M1 64 53 = y), lm_G X (d + 2) 239 106 0 0 38 [some (.ref 64), some (.int (nI (drS (sdS x) 7))), none] [] (lm_T M1 v G) Q := by
    intro M1 y S1 dd hk hc_ tt ed ey
    refine lm_G_sg 2 (pc' := 40) (L' := [some (.ref 64), some (.int (nI (drS (sdS x) 7))), none]) (S' := [.int 1, .int (nI (drS (sdS x) 7))]) (σ' := lm_T M1 v G) rfl trivial ?_
    refine lm_G_br (b := ¬ (nI (drS (sdS x) 7)) = 1) (t := 68) (S' := []) rfl (fun hc => ?_) (fun hc => absurd ((nI_eq (b := 1) (by omega) (by omega)).mp (Classical.not_not.mp hc)) (by omega))
    exact k68n _ _ _ _ (by omega) hc_ tt ed ey
  refine lm_G_br (b := ¬ (nI (drS (sdS x) 7)) = 0) (t := 38) (S' := []) rfl (fun g0 => ?_) (fun g0 => ?_)
  rotate_left
  ·
    have k0 : (drS (sdS x) 7) = 0 := (nI_eq (b := 0) (by omega) (by omega)).mp (Classical.not_not.mp g0)
    refine lm_G_sg 4 (pc' := 17) (L' := [some (.ref 64), some (.int (nI (drS (sdS x) 7))), none]) (S' := [.int (M9 68 1)]) (σ' := lm_T M9 v G) rfl ⟨(lm_inb_ok rfl), trivial, trivial⟩ ?_
    rw [show M9 68 1 = nI (fM F) from t9.1.m]
    refine lm_G_br (b := (nI (fM F)) ≤ 0) (t := 38) (S' := []) rfl (fun g1 => ?_) (fun g1 => ?_)
    ·
      have m0 : ¬ 0 < fM F := fun w => nI_nle w (by omega) g1
      exact k38n _ _ _ 0 k0 ⟨by unfold chA; rw [if_neg (fun w => m0 w.2), if_neg (fun w => by omega), if_neg (fun w => by omega)], by unfold chB; rw [if_neg (fun w => m0 w.2), if_neg (fun w => by omega), if_neg (fun w => by omega)], by unfold chD; rw [if_neg (fun w => m0 w.2), if_neg (fun w => by omega), if_neg (fun w => by omega)]⟩ t9 (by rw [e9]; simp) x9
    ·
      have m0 : 0 < fM F := Nat.pos_of_ne_zero (fun w => g1 (by rw [w]; decide))
      have dm : drS (sdS (sdS x)) (fM F) < fM F := Nat.mod_lt _ m0
      refine lm_G_sg 7 (pc' := 29) (L' := [some (.ref 64), some (.int (nI (drS (sdS x) 7))), none]) (S' := [.int (M9 68 1), .ref 64, .ref 64, .ref 64]) (σ' := lm_T M9 v G) rfl ⟨(lm_inb_ok rfl), trivial, trivial⟩ ?_
      rw [show M9 68 1 = nI (fM F) from t9.1.m]
      refine lm_G_ca (j := 238) (as := [.ref 64, .int (nI (fM F))]) (rest := [.ref 64, .ref 64]) rfl (Or.inl rfl) (Nat.le_of_ble_eq_true rfl) (Nat.le_of_ble_eq_true rfl) (Nat.le_of_ble_eq_true rfl) (Nat.le_of_ble_eq_true rfl) rfl ?_
      refine m_drawOf (n := fM F) m0 (by omega) ?_
      show lm_G X (d + 2) 239 106 0 0 32 [some (.ref 64), some (.int (nI (drS (sdS x) 7))), none] [.int (nI (drS (sdS (M9 64 53)) (fM F))), .ref 64, .ref 64] (lm_T (lm_wr M9 64 53 (sdS (M9 64 53))) v G) Q
      rw [x9]
      have t8 : TM M0 F s (lm_wr M9 64 53 (sdS (sdS x))) S := TM_w64 t9 (Or.inr (Or.inr rfl))
      have x8 : (lm_wr M9 64 53 (sdS (sdS x))) 64 53 = sdS (sdS x) := wr_same
      have e8 : (lm_wr M9 64 53 (sdS (sdS x))) 64 41 = M 64 41 := (wr_at (by decide)).trans e9
      revert t8 x8 e8
      generalize lm_wr M9 64 53 (sdS (sdS x)) = M8
      intro t8 x8 e8
      refine lm_G_ca (j := 181) (as := [.ref 64, .int (nI (drS (sdS (sdS x)) (fM F)))]) (rest := [.ref 64]) rfl (Or.inl rfl) (Nat.le_of_ble_eq_true rfl) (Nat.le_of_ble_eq_true rfl) (Nat.le_of_ble_eq_true rfl) (Nat.le_of_ble_eq_true rfl) rfl ?_
      refine m_whoHums hF t8.1 ?_
      show lm_G X (d + 2) 239 106 0 0 35 [some (.ref 64), some (.int (nI (drS (sdS x) 7))), none] [.int (humS F (sHu S) (nI (drS (sdS (sdS x)) (fM F)))), .ref 64] (lm_T M8 v G) Q
      refine lm_G_ca (j := 191) (as := [.ref 64, .int (humS F (sHu S) (nI (drS (sdS (sdS x)) (fM F))))]) (rest := []) rfl (Or.inl rfl) (Nat.le_of_ble_eq_true rfl) (Nat.le_of_ble_eq_true rfl) (Nat.le_of_ble_eq_true rfl) (Nat.le_of_ble_eq_true rfl) rfl ?_
      refine t_allStopX hF t8 (fun M2 t2 e2 x2 => ?_)
      show lm_G X (d + 2) 239 106 0 0 38 [some (.ref 64), some (.int (nI (drS (sdS x) 7))), none] [] (lm_T M2 v G) Q
      exact k38n _ _ _ _ k0 ⟨by unfold chA; rw [if_pos ⟨k0, m0⟩], by unfold chB; rw [if_pos ⟨k0, m0⟩], by unfold chD; rw [if_pos ⟨k0, m0⟩]⟩ t2 (by rw [e2, e8]) (by rw [x2, x8])
  ·
    have k0 : (drS (sdS x) 7) ≠ 0 := fun w => g0 (by rw [w]; rfl)
    refine lm_G_sg 2 (pc' := 40) (L' := [some (.ref 64), some (.int (nI (drS (sdS x) 7))), none]) (S' := [.int 1, .int (nI (drS (sdS x) 7))]) (σ' := lm_T M9 v G) rfl trivial ?_
    refine lm_G_br (b := ¬ (nI (drS (sdS x) 7)) = 1) (t := 68) (S' := []) rfl (fun g1 => ?_) (fun g1 => ?_)
    rotate_left
    ·
      have k1 : (drS (sdS x) 7) = 1 := (nI_eq (b := 1) (by omega) (by omega)).mp (Classical.not_not.mp g1)
      refine lm_G_sg 4 (pc' := 49) (L' := [some (.ref 64), some (.int (nI (drS (sdS x) 7))), none]) (S' := [.int (M9 68 0)]) (σ' := lm_T M9 v G) rfl ⟨(lm_inb_ok rfl), trivial, trivial⟩ ?_
      rw [show M9 68 0 = nI (fN F) from t9.1.n]
      refine lm_G_br (b := (nI (fN F)) ≤ 0) (t := 68) (S' := []) rfl (fun g2 => ?_) (fun g2 => ?_)
      ·
        have m0 : ¬ 0 < fN F := fun w => nI_nle w (by omega) g2
        exact k68n _ _ _ 0 (by omega) ⟨by unfold chA; rw [if_neg (fun w => by omega), if_neg (fun w => m0 w.2), if_neg (fun w => by omega)], by unfold chB; rw [if_neg (fun w => by omega), if_neg (fun w => m0 w.2), if_neg (fun w => by omega)], by unfold chD; rw [if_neg (fun w => by omega), if_neg (fun w => m0 w.2), if_neg (fun w => by omega)]⟩ t9 (by rw [e9]; simp) x9
      ·
        have m0 : 0 < fN F := Nat.pos_of_ne_zero (fun w => g2 (by rw [w]; decide))
        refine lm_G_sg 7 (pc' := 61) (L' := [some (.ref 64), some (.int (nI (drS (sdS x) 7))), none]) (S' := [.int (M9 68 0), .ref 64, .int 1, .ref 64]) (σ' := lm_T M9 v G) rfl ⟨(lm_inb_ok rfl), trivial, trivial⟩ ?_
        rw [show M9 68 0 = nI (fN F) from t9.1.n]
        refine lm_G_ca (j := 238) (as := [.ref 64, .int (nI (fN F))]) (rest := [.int 1, .ref 64]) rfl (Or.inl rfl) (Nat.le_of_ble_eq_true rfl) (Nat.le_of_ble_eq_true rfl) (Nat.le_of_ble_eq_true rfl) (Nat.le_of_ble_eq_true rfl) rfl ?_
        refine m_drawOf (n := fN F) m0 (by omega) ?_
        show lm_G X (d + 2) 239 106 0 0 64 [some (.ref 64), some (.int (nI (drS (sdS x) 7))), none] [.int (nI (drS (sdS (M9 64 53)) (fN F))), .int 1, .ref 64] (lm_T (lm_wr M9 64 53 (sdS (M9 64 53))) v G) Q
        rw [x9]
        have t8 : TM M0 F s (lm_wr M9 64 53 (sdS (sdS x))) S := TM_w64 t9 (Or.inr (Or.inr rfl))
        have x8 : (lm_wr M9 64 53 (sdS (sdS x))) 64 53 = sdS (sdS x) := wr_same
        have e8 : (lm_wr M9 64 53 (sdS (sdS x))) 64 41 = M 64 41 := (wr_at (by decide)).trans e9
        revert t8 x8 e8
        generalize lm_wr M9 64 53 (sdS (sdS x)) = M8
        intro t8 x8 e8
        refine lm_G_sg 1 (pc' := 65) (L' := [some (.ref 64), some (.int (nI (drS (sdS x) 7))), none]) (S' := [.int ((1 : Int32) <<< ((nI (drS (sdS (sdS x)) (fN F))) &&& 31)), .ref 64]) (σ' := lm_T M8 v G) rfl trivial ?_
        refine lm_G_ca (j := 191) (as := [.ref 64, .int ((1 : Int32) <<< ((nI (drS (sdS (sdS x)) (fN F))) &&& 31))]) (rest := []) rfl (Or.inl rfl) (Nat.le_of_ble_eq_true rfl) (Nat.le_of_ble_eq_true rfl) (Nat.le_of_ble_eq_true rfl) (Nat.le_of_ble_eq_true rfl) rfl ?_
        refine t_allStopX hF t8 (fun M2 t2 e2 x2 => ?_)
        show lm_G X (d + 2) 239 106 0 0 68 [some (.ref 64), some (.int (nI (drS (sdS x) 7))), none] [] (lm_T M2 v G) Q
        exact k68n _ _ _ _ (by omega) ⟨by unfold chA; rw [if_neg (fun w => by omega), if_pos ⟨k1, m0⟩], by unfold chB; rw [if_neg (fun w => by omega), if_pos ⟨k1, m0⟩]; rfl, by unfold chD; rw [if_neg (fun w => by omega), if_pos ⟨k1, m0⟩]⟩ t2 (by rw [e2, e8]) (by rw [x2, x8])
    ·
      have k1 : (drS (sdS x) 7) ≠ 1 := fun w => g1 (by rw [w]; rfl)
      refine lm_G_sg 2 (pc' := 70) (L' := [some (.ref 64), some (.int (nI (drS (sdS x) 7))), none]) (S' := [.int 2, .int (nI (drS (sdS x) 7))]) (σ' := lm_T M9 v G) rfl trivial ?_
      refine lm_G_br (b := ¬ (nI (drS (sdS x) 7)) = 2) (t := 105) (S' := []) rfl (fun g2 => ?_) (fun g2 => ?_)
      ·
        have k2 : (drS (sdS x) 7) ≠ 2 := fun w => g2 (by rw [w]; rfl)
        exact k105 _ _ _ 0 ⟨by unfold chA; rw [if_neg (fun w => by omega), if_neg (fun w => by omega), if_neg (fun w => by omega)], by unfold chB; rw [if_neg (fun w => by omega), if_neg (fun w => by omega), if_neg (fun w => by omega)], by unfold chD; rw [if_neg (fun w => by omega), if_neg (fun w => by omega), if_neg (fun w => by omega)]⟩ t9 (by rw [e9]; simp) x9
      ·
        have k2 : (drS (sdS x) 7) = 2 := (nI_eq (b := 2) (by omega) (by omega)).mp (Classical.not_not.mp g2)
        refine lm_G_sg 4 (pc' := 79) (L' := [some (.ref 64), some (.int (nI (drS (sdS x) 7))), none]) (S' := [.int (M9 68 0)]) (σ' := lm_T M9 v G) rfl ⟨(lm_inb_ok rfl), trivial, trivial⟩ ?_
        rw [show M9 68 0 = nI (fN F) from t9.1.n]
        refine lm_G_br (b := (nI (fN F)) ≤ 0) (t := 105) (S' := []) rfl (fun g3 => ?_) (fun g3 => ?_)
        ·
          have m0 : ¬ 0 < fN F := fun w => nI_nle w (by omega) g3
          exact k105 _ _ _ 0 ⟨by unfold chA; rw [if_neg (fun w => by omega), if_neg (fun w => by omega), if_neg (fun w => m0 w.2)], by unfold chB; rw [if_neg (fun w => by omega), if_neg (fun w => by omega), if_neg (fun w => m0 w.2)], by unfold chD; rw [if_neg (fun w => by omega), if_neg (fun w => by omega), if_neg (fun w => m0 w.2)]⟩ t9 (by rw [e9]; simp) x9
        ·
          have m0 : 0 < fN F := Nat.pos_of_ne_zero (fun w => g3 (by rw [w]; decide))
          have dm : drS (sdS (sdS x)) (fN F) < fN F := Nat.mod_lt _ m0
          refine lm_G_sg 5 (pc' := 89) (L' := [some (.ref 64), some (.int (nI (drS (sdS x) 7))), none]) (S' := [.int (M9 68 0), .ref 64]) (σ' := lm_T M9 v G) rfl ⟨(lm_inb_ok rfl), trivial, trivial⟩ ?_
          rw [show M9 68 0 = nI (fN F) from t9.1.n]
          refine lm_G_ca (j := 238) (as := [.ref 64, .int (nI (fN F))]) (rest := []) rfl (Or.inl rfl) (Nat.le_of_ble_eq_true rfl) (Nat.le_of_ble_eq_true rfl) (Nat.le_of_ble_eq_true rfl) (Nat.le_of_ble_eq_true rfl) rfl ?_
          refine m_drawOf (n := fN F) m0 (by omega) ?_
          show lm_G X (d + 2) 239 106 0 0 92 [some (.ref 64), some (.int (nI (drS (sdS x) 7))), none] [.int (nI (drS (sdS (M9 64 53)) (fN F)))] (lm_T (lm_wr M9 64 53 (sdS (M9 64 53))) v G) Q
          rw [x9]
          have t8 : TM M0 F s (lm_wr M9 64 53 (sdS (sdS x))) S := TM_w64 t9 (Or.inr (Or.inr rfl))
          have x8 : (lm_wr M9 64 53 (sdS (sdS x))) 64 53 = sdS (sdS x) := wr_same
          have e8 : (lm_wr M9 64 53 (sdS (sdS x))) 64 41 = M 64 41 := (wr_at (by decide)).trans e9
          revert t8 x8 e8
          generalize lm_wr M9 64 53 (sdS (sdS x)) = M8
          intro t8 x8 e8
          refine lm_G_sg 6 (pc' := 101) (L' := [some (.ref 64), some (.int (nI (drS (sdS x) 7))), some (.int (nI (drS (sdS (sdS x)) (fN F))))]) (S' := [.int 31, .ref 64, .int (nI (drS (sdS (sdS x)) (fN F))), .ref 85]) (σ' := lm_T M8 v G) rfl trivial ?_
          refine lm_G_ca (j := 238) (as := [.ref 64, .int 31]) (rest := [.int (nI (drS (sdS (sdS x)) (fN F))), .ref 85]) rfl (Or.inl rfl) (Nat.le_of_ble_eq_true rfl) (Nat.le_of_ble_eq_true rfl) (Nat.le_of_ble_eq_true rfl) (Nat.le_of_ble_eq_true rfl) rfl ?_
          refine m_drawOf (n := 31) (by omega) (by omega) ?_
          show lm_G X (d + 2) 239 106 0 0 104 [some (.ref 64), some (.int (nI (drS (sdS x) 7))), some (.int (nI (drS (sdS (sdS x)) (fN F))))] [.int (nI (drS (sdS (M8 64 53)) (31))), .int (nI (drS (sdS (sdS x)) (fN F))), .ref 85] (lm_T (lm_wr M8 64 53 (sdS (M8 64 53))) v G) Q
          rw [x8]
          have t7 : TM M0 F s (lm_wr M8 64 53 (sdS (sdS (sdS x)))) S := TM_w64 t8 (Or.inr (Or.inr rfl))
          have x7 : (lm_wr M8 64 53 (sdS (sdS (sdS x)))) 64 53 = sdS (sdS (sdS x)) := wr_same
          have e7 : (lm_wr M8 64 53 (sdS (sdS (sdS x)))) 64 41 = M 64 41 := (wr_at (by decide)).trans e8
          revert t7 x7 e7
          generalize lm_wr M8 64 53 (sdS (sdS (sdS x))) = M7
          intro t7 x7 e7
          refine lm_G_sg 1 (pc' := 105) (L' := [some (.ref 64), some (.int (nI (drS (sdS x) 7))), some (.int (nI (drS (sdS (sdS x)) (fN F))))]) (S' := []) (σ' := lm_T (lm_wr M7 85 ((nI (drS (sdS (sdS x)) (fN F))).toNatClampNeg) (nI (drS (sdS (sdS (sdS x))) (31)))) v G) rfl ⟨(vp_in_nI (by omega) (by omega)), trivial, trivial⟩ ?_
          rw [show (nI (drS (sdS (sdS x)) (fN F))).toNatClampNeg = (drS (sdS (sdS x)) (fN F)) from nI_clamp (by omega)]
          have t6 := TM_pl t7 (drS (sdS (sdS x)) (fN F)) (nI (drS (sdS (sdS (sdS x))) 31))
          refine lm_G_jk (L := [some (.ref 64), some (.int (nI (drS (sdS x) 7))), none]) ⟨rfl, rfl, trivial⟩ ?_
          exact k105 _ _ _ 0 ⟨by unfold chA; rw [if_neg (fun w => by omega), if_neg (fun w => by omega), if_pos ⟨k2, m0⟩], by unfold chB; rw [if_neg (fun w => by omega), if_neg (fun w => by omega), if_pos ⟨k2, m0⟩], by unfold chD; rw [if_neg (fun w => by omega), if_neg (fun w => by omega), if_pos ⟨k2, m0⟩]⟩ t6 (by rw [wr_row (by decide), e7]; simp) (by rw [wr_row (by decide), x7])
