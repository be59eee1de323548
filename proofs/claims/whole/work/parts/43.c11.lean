/-! ===== contracts: checks ===== -/
set_option maxRecDepth 10000 in
theorem c_mustExistT {X : lm_X} {d v : Nat} {M : Nat → Nat → Int32} {G : Nat → Nat → Int64} {Q : lm_O → lm_S → Prop} (hQ : Q (.inl none) (lm_T M v G)) : lm_Q X d 137 [.int 1] (lm_T M v G) Q := by
  show lm_G X d 137 106 0 0 0 [some (.int 1)] [] (lm_T M v G) Q
  refine lm_G_sg 1 (pc' := 1) (L' := [some (.int 1)]) (S' := [.int 1]) (σ' := lm_T M v G) rfl trivial ?_
  refine lm_G_br (b := ¬ 1 = 0) (t := 12) (S' := []) rfl (fun hc => ?_) (fun hc => absurd (by decide) hc)
  exact lm_G_re rfl trivial (Nat.zero_le _) (Nat.zero_le _) hQ
set_option maxRecDepth 10000 in
theorem c_mustExistF {X : lm_X} {d v : Nat} {M : Nat → Nat → Int32} {G : Nat → Nat → Int64} {Q : lm_O → lm_S → Prop} (hQ : Q (.inr 0) (lm_T M v G)) : lm_Q X d 137 [.int 0] (lm_T M v G) Q := by
  show lm_G X d 137 106 0 0 0 [some (.int 0)] [] (lm_T M v G) Q
  refine lm_G_sg 1 (pc' := 1) (L' := [some (.int 0)]) (S' := [.int 0]) (σ' := lm_T M v G) rfl trivial ?_
  refine lm_G_br (b := ¬ 0 = 0) (t := 12) (S' := []) rfl (fun hc => absurd rfl hc) (fun hc => ?_)
  exact lm_G_th (e := 0) rfl ⟨rfl, rfl, rfl, rfl, rfl, rfl⟩ rfl rfl (by decide) (Nat.le_of_ble_eq_true rfl) (Nat.le_of_ble_eq_true rfl) hQ
set_option maxRecDepth 10000 in
theorem c_mustFitT {X : lm_X} {d v : Nat} {M : Nat → Nat → Int32} {G : Nat → Nat → Int64} {Q : lm_O → lm_S → Prop} (hQ : Q (.inl none) (lm_T M v G)) : lm_Q X d 138 [.int 1] (lm_T M v G) Q := by
  show lm_G X d 138 106 0 0 0 [some (.int 1)] [] (lm_T M v G) Q
  refine lm_G_sg 1 (pc' := 1) (L' := [some (.int 1)]) (S' := [.int 1]) (σ' := lm_T M v G) rfl trivial ?_
  refine lm_G_br (b := ¬ 1 = 0) (t := 12) (S' := []) rfl (fun hc => ?_) (fun hc => absurd (by decide) hc)
  exact lm_G_re rfl trivial (Nat.zero_le _) (Nat.zero_le _) hQ
set_option maxRecDepth 10000 in
theorem c_mustFitF {X : lm_X} {d v : Nat} {M : Nat → Nat → Int32} {G : Nat → Nat → Int64} {Q : lm_O → lm_S → Prop} (hQ : Q (.inr 1) (lm_T M v G)) : lm_Q X d 138 [.int 0] (lm_T M v G) Q := by
  show lm_G X d 138 106 0 0 0 [some (.int 0)] [] (lm_T M v G) Q
  refine lm_G_sg 1 (pc' := 1) (L' := [some (.int 0)]) (S' := [.int 0]) (σ' := lm_T M v G) rfl trivial ?_
  refine lm_G_br (b := ¬ 0 = 0) (t := 12) (S' := []) rfl (fun hc => absurd rfl hc) (fun hc => ?_)
  exact lm_G_th (e := 1) rfl ⟨rfl, rfl, rfl, rfl, rfl, rfl⟩ rfl rfl (by decide) (Nat.le_of_ble_eq_true rfl) (Nat.le_of_ble_eq_true rfl) hQ
set_option maxRecDepth 10000 in
theorem c_isPerson {X : lm_X} {d v : Nat} {M : Nat → Nat → Int32} {G : Nat → Nat → Int64} {Q : lm_O → lm_S → Prop} {F : Fa} {s : Sc} {x : Int32} (hF : okF F) (h : RC 28 M F s) (hQ : Q (.inl (some (.int (b2i (isP (fN F) x))))) (lm_T M v G)) : lm_Q X d 133 [.ref 0, .int x] (lm_T M v G) Q := by
  have hn := hF.n
  have hm := hF.m
  show lm_G X d 133 106 0 0 0 [some (.ref 0), some (.int x)] [] (lm_T M v G) Q
  refine lm_G_sg 1 (pc' := 1) (L' := [some (.ref 0), some (.int x)]) (S' := [.int x]) (σ' := lm_T M v G) rfl trivial ?_
  refine lm_G_br (b := x < 0) (t := 19) (S' := []) rfl (fun h1 => ?_) (fun h1 => ?_)
  ·
    refine lm_G_sg 1 (pc' := 20) (L' := [some (.ref 0), some (.int x)]) (S' := [.int 0]) (σ' := lm_T M v G) rfl trivial ?_
    rw [Bool.eq_false_iff.mpr (fun w => Int32.not_le.mpr h1 ((isP_iff (by omega)).mp w).1)] at hQ
    exact lm_G_re rfl (by decide) (Nat.zero_le _) (Nat.zero_le _) hQ
  ·
    refine lm_G_sg 4 (pc' := 12) (L' := [some (.ref 0), some (.int x)]) (S' := [.int (M 14 0), .int x]) (σ' := lm_T M v G) rfl trivial ?_
    rw [show M 14 0 = nI (fN F) from h.n]
    refine lm_G_br (b := (nI (fN F)) ≤ x) (t := 19) (S' := []) rfl (fun h2 => ?_) (fun h2 => ?_)
    ·
      refine lm_G_sg 1 (pc' := 20) (L' := [some (.ref 0), some (.int x)]) (S' := [.int 0]) (σ' := lm_T M v G) rfl trivial ?_
      rw [Bool.eq_false_iff.mpr (fun w => Int32.not_lt.mpr h2 ((isP_iff (by omega)).mp w).2)] at hQ
      exact lm_G_re rfl (by decide) (Nat.zero_le _) (Nat.zero_le _) hQ
    ·
      refine lm_G_sg 2 (pc' := 20) (L' := [some (.ref 0), some (.int x)]) (S' := [.int 1]) (σ' := lm_T M v G) rfl trivial ?_
      rw [(isP_iff (n := fN F) (by omega)).mpr ⟨Int32.not_lt.mp h1, Int32.not_le.mp h2⟩] at hQ
      exact lm_G_re rfl (by decide) (Nat.zero_le _) (Nat.zero_le _) hQ
set_option maxRecDepth 10000 in
theorem c_isTune {X : lm_X} {d v : Nat} {M : Nat → Nat → Int32} {G : Nat → Nat → Int64} {Q : lm_O → lm_S → Prop} {F : Fa} {s : Sc} {x : Int32} (hF : okF F) (h : RC 28 M F s) (hQ : Q (.inl (some (.int (b2i (isP (fM F) x))))) (lm_T M v G)) : lm_Q X d 134 [.ref 0, .int x] (lm_T M v G) Q := by
  have hn := hF.n
  have hm := hF.m
  show lm_G X d 134 106 0 0 0 [some (.ref 0), some (.int x)] [] (lm_T M v G) Q
  refine lm_G_sg 1 (pc' := 1) (L' := [some (.ref 0), some (.int x)]) (S' := [.int x]) (σ' := lm_T M v G) rfl trivial ?_
  refine lm_G_br (b := x < 0) (t := 19) (S' := []) rfl (fun h1 => ?_) (fun h1 => ?_)
  ·
    refine lm_G_sg 1 (pc' := 20) (L' := [some (.ref 0), some (.int x)]) (S' := [.int 0]) (σ' := lm_T M v G) rfl trivial ?_
    rw [Bool.eq_false_iff.mpr (fun w => Int32.not_le.mpr h1 ((isP_iff (by omega)).mp w).1)] at hQ
    exact lm_G_re rfl (by decide) (Nat.zero_le _) (Nat.zero_le _) hQ
  ·
    refine lm_G_sg 4 (pc' := 12) (L' := [some (.ref 0), some (.int x)]) (S' := [.int (M 14 6), .int x]) (σ' := lm_T M v G) rfl trivial ?_
    rw [show M 14 6 = nI (fM F) from h.m]
    refine lm_G_br (b := (nI (fM F)) ≤ x) (t := 19) (S' := []) rfl (fun h2 => ?_) (fun h2 => ?_)
    ·
      refine lm_G_sg 1 (pc' := 20) (L' := [some (.ref 0), some (.int x)]) (S' := [.int 0]) (σ' := lm_T M v G) rfl trivial ?_
      rw [Bool.eq_false_iff.mpr (fun w => Int32.not_lt.mpr h2 ((isP_iff (by omega)).mp w).2)] at hQ
      exact lm_G_re rfl (by decide) (Nat.zero_le _) (Nat.zero_le _) hQ
    ·
      refine lm_G_sg 2 (pc' := 20) (L' := [some (.ref 0), some (.int x)]) (S' := [.int 1]) (σ' := lm_T M v G) rfl trivial ?_
      rw [(isP_iff (n := fM F) (by omega)).mpr ⟨Int32.not_lt.mp h1, Int32.not_le.mp h2⟩] at hQ
      exact lm_G_re rfl (by decide) (Nat.zero_le _) (Nat.zero_le _) hQ
set_option maxRecDepth 10000 in
theorem c_isWhat {X : lm_X} {d v : Nat} {M : Nat → Nat → Int32} {G : Nat → Nat → Int64} {Q : lm_O → lm_S → Prop} {x : Int32} {n : Nat} (hn : n ≤ 100) (hQ : Q (.inl (some (.int (b2i (isP n x))))) (lm_T M v G)) : lm_Q X d 135 [.int x, .int (nI n)] (lm_T M v G) Q := by
  show lm_G X d 135 106 0 0 0 [some (.int x), some (.int (nI n))] [] (lm_T M v G) Q
  refine lm_G_sg 1 (pc' := 1) (L' := [some (.int x), some (.int (nI n))]) (S' := [.int x]) (σ' := lm_T M v G) rfl trivial ?_
  refine lm_G_br (b := x < 0) (t := 13) (S' := []) rfl (fun h1 => ?_) (fun h1 => ?_)
  ·
    refine lm_G_sg 1 (pc' := 14) (L' := [some (.int x), some (.int (nI n))]) (S' := [.int 0]) (σ' := lm_T M v G) rfl trivial ?_
    rw [Bool.eq_false_iff.mpr (fun w => Int32.not_le.mpr h1 ((isP_iff (by omega)).mp w).1)] at hQ
    exact lm_G_re rfl (by decide) (Nat.zero_le _) (Nat.zero_le _) hQ
  ·
    refine lm_G_sg 2 (pc' := 6) (L' := [some (.int x), some (.int (nI n))]) (S' := [.int (nI n), .int x]) (σ' := lm_T M v G) rfl trivial ?_
    refine lm_G_br (b := (nI n) ≤ x) (t := 13) (S' := []) rfl (fun h2 => ?_) (fun h2 => ?_)
    ·
      refine lm_G_sg 1 (pc' := 14) (L' := [some (.int x), some (.int (nI n))]) (S' := [.int 0]) (σ' := lm_T M v G) rfl trivial ?_
      rw [Bool.eq_false_iff.mpr (fun w => Int32.not_lt.mpr h2 ((isP_iff (by omega)).mp w).2)] at hQ
      exact lm_G_re rfl (by decide) (Nat.zero_le _) (Nat.zero_le _) hQ
    ·
      refine lm_G_sg 2 (pc' := 14) (L' := [some (.int x), some (.int (nI n))]) (S' := [.int 1]) (σ' := lm_T M v G) rfl trivial ?_
      rw [(isP_iff (n := n) (by omega)).mpr ⟨Int32.not_lt.mp h1, Int32.not_le.mp h2⟩] at hQ
      exact lm_G_re rfl (by decide) (Nat.zero_le _) (Nat.zero_le _) hQ
set_option maxRecDepth 10000 in
theorem c_isWithin {X : lm_X} {d v : Nat} {M : Nat → Nat → Int32} {G : Nat → Nat → Int64} {Q : lm_O → lm_S → Prop} {x y z : Int32} (hQ : Q (.inl (some (.int (b2i (inR x y z))))) (lm_T M v G)) : lm_Q X d 136 [.int x, .int y, .int z] (lm_T M v G) Q := by
  show lm_G X d 136 106 0 0 0 [some (.int x), some (.int y), some (.int z)] [] (lm_T M v G) Q
  refine lm_G_sg 2 (pc' := 2) (L' := [some (.int x), some (.int y), some (.int z)]) (S' := [.int y, .int x]) (σ' := lm_T M v G) rfl trivial ?_
  refine lm_G_br (b := x < y) (t := 14) (S' := []) rfl (fun h1 => ?_) (fun h1 => ?_)
  ·
    refine lm_G_sg 1 (pc' := 15) (L' := [some (.int x), some (.int y), some (.int z)]) (S' := [.int 0]) (σ' := lm_T M v G) rfl trivial ?_
    rw [show inR x y z = false from decide_eq_false (fun w => Int32.not_le.mpr h1 w.1)] at hQ
    exact lm_G_re rfl (by decide) (Nat.zero_le _) (Nat.zero_le _) hQ
  ·
    refine lm_G_sg 2 (pc' := 7) (L' := [some (.int x), some (.int y), some (.int z)]) (S' := [.int z, .int x]) (σ' := lm_T M v G) rfl trivial ?_
    refine lm_G_br (b := z < x) (t := 14) (S' := []) rfl (fun h2 => ?_) (fun h2 => ?_)
    ·
      refine lm_G_sg 1 (pc' := 15) (L' := [some (.int x), some (.int y), some (.int z)]) (S' := [.int 0]) (σ' := lm_T M v G) rfl trivial ?_
      rw [show inR x y z = false from decide_eq_false (fun w => Int32.not_lt.mpr w.2 h2)] at hQ
      exact lm_G_re rfl (by decide) (Nat.zero_le _) (Nat.zero_le _) hQ
    ·
      refine lm_G_sg 2 (pc' := 15) (L' := [some (.int x), some (.int y), some (.int z)]) (S' := [.int 1]) (σ' := lm_T M v G) rfl trivial ?_
      rw [show inR x y z = true from decide_eq_true ⟨Int32.not_lt.mp h1, Int32.not_lt.mp h2⟩] at hQ
      exact lm_G_re rfl (by decide) (Nat.zero_le _) (Nat.zero_le _) hQ
set_option maxRecDepth 10000 in
theorem m_fail {X : lm_X} {d v : Nat} {M : Nat → Nat → Int32} {G : Nat → Nat → Int64} {Q : lm_O → lm_S → Prop} {x : Int32} (hQ : Q (.inl (some (.int 0))) (lm_T (lm_wr M 64 4 x) v G)) : lm_Q X d 141 [.ref 64, .int x] (lm_T M v G) Q := by
  show lm_G X d 141 106 0 0 0 [some (.ref 64), some (.int x)] [] (lm_T M v G) Q
  refine lm_G_sg 4 (pc' := 6) (L' := [some (.ref 64), some (.int x)]) (S' := [.int 0]) (σ' := lm_T (lm_wr M 64 4 x) v G) rfl ⟨trivial, trivial, trivial⟩ ?_
  exact lm_G_re rfl trivial (Nat.zero_le _) (Nat.zero_le _) hQ
set_option maxRecDepth 10000 in
theorem m_thrown {X : lm_X} {d v : Nat} {M : Nat → Nat → Int32} {G : Nat → Nat → Int64} {Q : lm_O → lm_S → Prop} (hQ : Q (.inl (some (.int (M 64 4)))) (lm_T M v G)) : lm_Q X d 140 [.ref 64] (lm_T M v G) Q := by
  show lm_G X d 140 106 0 0 0 [some (.ref 64)] [] (lm_T M v G) Q
  refine lm_G_sg 2 (pc' := 4) (L' := [some (.ref 64)]) (S' := [.int (M 64 4)]) (σ' := lm_T M v G) rfl trivial ?_
  exact lm_G_re rfl trivial (Nat.zero_le _) (Nat.zero_le _) hQ
