/-! ===== contracts: the class reads code ===== -/
set_option maxRecDepth 10000 in
theorem c_addCode {X : lm_X} {d v : Nat} {M : Nat → Nat → Int32} {G : Nat → Nat → Int64} {Q : lm_O → lm_S → Prop} {K : Cd} {x : Nat × Nat} (hk : CCode M K) (hl : K.length < 700) (hQ : ∀ M1, CCode M1 (K ++ [x]) → FrE M M1 → M1 1 = M 1 → Q (.inl none) (lm_T M1 v G)) : lm_Q X d 12 [.ref 3, .int (encC x)] (lm_T M v G) Q := by
  show lm_G X d 12 106 0 0 0 [some (.ref 3), some (.int (encC x))] [] (lm_T M v G) Q
  refine lm_G_sg 2 (pc' := 4) (L' := [some (.ref 3), some (.int (encC x))]) (S' := [.int (M 3 11)]) (σ' := lm_T M v G) rfl trivial ?_
  rw [show M 3 11 = nI (K.length) from hk.1]
  refine lm_G_sg 1 (pc' := 7) (L' := [some (.ref 3), some (.int (encC x))]) (S' := [.int 700, .int (nI (K.length))]) (σ' := lm_T M v G) rfl trivial ?_
  refine lm_G_br (b := 700 ≤ (nI (K.length))) (t := 30) (S' := []) rfl (fun hc => absurd hc (nI_ge (b := 700) hl (by omega))) (fun hc => ?_)
  refine lm_G_sg 4 (pc' := 18) (L' := [some (.ref 3), some (.int (encC x))]) (S' := [.int (M 3 11), .ref 11]) (σ' := lm_T M v G) rfl trivial ?_
  rw [show M 3 11 = nI (K.length) from hk.1]
  refine lm_G_sg 2 (pc' := 20) (L' := [some (.ref 3), some (.int (encC x))]) (S' := []) (σ' := lm_T (lm_wr M 11 ((nI (K.length)).toNatClampNeg) (encC x)) v G) rfl ⟨(vp_in_nI (by omega) (by omega)), trivial, trivial⟩ ?_
  rw [show (nI (K.length)).toNatClampNeg = (K.length) from nI_clamp (by omega)]
  refine lm_G_sg 3 (pc' := 25) (L' := [some (.ref 3), some (.int (encC x))]) (S' := [.int (M 3 11), .ref 3]) (σ' := lm_T (lm_wr M 11 (K.length) (encC x)) v G) rfl trivial ?_
  rw [show M 3 11 = nI (K.length) from hk.1]
  refine lm_G_sg 2 (pc' := 27) (L' := [some (.ref 3), some (.int (encC x))]) (S' := [.int ((nI (K.length)) + 1), .ref 3]) (σ' := lm_T (lm_wr M 11 (K.length) (encC x)) v G) rfl trivial ?_
  rw [show (nI (K.length)) + 1 = nI ((K.length) + 1) from nI_add (K.length) 1]
  refine lm_G_sg 1 (pc' := 30) (L' := [some (.ref 3), some (.int (encC x))]) (S' := []) (σ' := lm_T (lm_wr (lm_wr M 11 (K.length) (encC x)) 3 11 (nI ((K.length) + 1))) v G) rfl ⟨trivial, trivial, trivial⟩ ?_
  exact lm_G_re rfl trivial (Nat.zero_le _) (Nat.zero_le _) (hQ _ (CC_add hk rfl) ⟨Fr_wr (Fr_wr (Fr_rf _ _) rfl) rfl, fun _ _ => rfl, fun k hk => wr_at hk⟩ rfl)
set_option maxRecDepth 10000 in
theorem c_op0 {X : lm_X} {d v : Nat} {M : Nat → Nat → Int32} {G : Nat → Nat → Int64} {Q : lm_O → lm_S → Prop} {T : Tx} {p : Nat} (hT : okT T) (ht : RT M T p) (hp : p ≤ tN T) (hQ : Q (.inl (some (.int (opI T 0 p)))) (lm_T M v G)) : lm_Q X (d + 1) 43 [.ref 1, .int 0] (lm_T M v G) Q := by
  show lm_G X (d + 1) 43 106 0 0 0 [some (.ref 1), some (.int 0)] [] (lm_T M v G) Q
  refine lm_G_sg 4 (pc' := 35) (L' := [some (.ref 1), some (.int 0)]) (S' := [.ref 1014, .ref 1]) (σ' := lm_T M v G) rfl trivial ?_
  refine lm_G_ca (j := 30) (as := [.ref 1, .ref 1014]) (rest := []) rfl (Or.inl rfl) (Nat.le_of_ble_eq_true rfl) (Nat.le_of_ble_eq_true rfl) (Nat.le_of_ble_eq_true rfl) (Nat.le_of_ble_eq_true rfl) rfl ?_
  refine c_isWord14 hT ht hp ?_
  show lm_G X (d + 1) 43 106 0 0 38 [some (.ref 1), some (.int 0)] [.int (b2i (isWd T p w14))] (lm_T M v G) Q
  refine lm_G_br (b := (b2i (isWd T p w14)) = 0) (t := 46) (S' := []) rfl (fun g0 => ?_) (fun g0 => ?_)
  rotate_left
  ·
    have eo : opS T 0 p = 8 := by simp [opS, b2i_1 g0]
    rw [show opI T 0 p = encC (2, 8) from by unfold opI; rw [eo]; rfl] at hQ
    refine lm_G_sg 2 (pc' := 47) (L' := [some (.ref 1), some (.int 0)]) (S' := [.int (-9)]) (σ' := lm_T M v G) rfl trivial ?_
    exact lm_G_re rfl trivial (Nat.zero_le _) (Nat.zero_le _) hQ
  ·
    have eo : opS T 0 p = 9 := by simp [opS, b2i_0 g0]
    rw [opI_0.mpr eo] at hQ
    refine lm_G_sg 1 (pc' := 47) (L' := [some (.ref 1), some (.int 0)]) (S' := [.int 0]) (σ' := lm_T M v G) rfl trivial ?_
    exact lm_G_re rfl trivial (Nat.zero_le _) (Nat.zero_le _) hQ
set_option maxRecDepth 10000 in
theorem c_op1 {X : lm_X} {d v : Nat} {M : Nat → Nat → Int32} {G : Nat → Nat → Int64} {Q : lm_O → lm_S → Prop} {T : Tx} {p : Nat} (hT : okT T) (ht : RT M T p) (hp : p ≤ tN T) (hQ : Q (.inl (some (.int (opI T 1 p)))) (lm_T M v G)) : lm_Q X (d + 1) 43 [.ref 1, .int 1] (lm_T M v G) Q := by
  show lm_G X (d + 1) 43 106 0 0 0 [some (.ref 1), some (.int 1)] [] (lm_T M v G) Q
  refine lm_G_sg 4 (pc' := 51) (L' := [some (.ref 1), some (.int 1)]) (S' := [.ref 1015, .ref 1]) (σ' := lm_T M v G) rfl trivial ?_
  refine lm_G_ca (j := 30) (as := [.ref 1, .ref 1015]) (rest := []) rfl (Or.inl rfl) (Nat.le_of_ble_eq_true rfl) (Nat.le_of_ble_eq_true rfl) (Nat.le_of_ble_eq_true rfl) (Nat.le_of_ble_eq_true rfl) rfl ?_
  refine c_isWord15 hT ht hp ?_
  show lm_G X (d + 1) 43 106 0 0 54 [some (.ref 1), some (.int 1)] [.int (b2i (isWd T p w15))] (lm_T M v G) Q
  refine lm_G_br (b := (b2i (isWd T p w15)) = 0) (t := 62) (S' := []) rfl (fun g0 => ?_) (fun g0 => ?_)
  rotate_left
  ·
    have eo : opS T 1 p = 7 := by simp [opS, b2i_1 g0]
    rw [show opI T 1 p = encC (2, 7) from by unfold opI; rw [eo]; rfl] at hQ
    refine lm_G_sg 2 (pc' := 63) (L' := [some (.ref 1), some (.int 1)]) (S' := [.int (-8)]) (σ' := lm_T M v G) rfl trivial ?_
    exact lm_G_re rfl trivial (Nat.zero_le _) (Nat.zero_le _) hQ
  ·
    have eo : opS T 1 p = 9 := by simp [opS, b2i_0 g0]
    rw [opI_0.mpr eo] at hQ
    refine lm_G_sg 1 (pc' := 63) (L' := [some (.ref 1), some (.int 1)]) (S' := [.int 0]) (σ' := lm_T M v G) rfl trivial ?_
    exact lm_G_re rfl trivial (Nat.zero_le _) (Nat.zero_le _) hQ
set_option maxRecDepth 10000 in
theorem c_op2 {X : lm_X} {d v : Nat} {M : Nat → Nat → Int32} {G : Nat → Nat → Int64} {Q : lm_O → lm_S → Prop} {T : Tx} {p : Nat} (hT : okT T) (ht : RT M T p) (hp : p ≤ tN T) (hQ : Q (.inl (some (.int (opI T 2 p)))) (lm_T M v G)) : lm_Q X (d + 1) 43 [.ref 1, .int 2] (lm_T M v G) Q := by
  show lm_G X (d + 1) 43 106 0 0 0 [some (.ref 1), some (.int 2)] [] (lm_T M v G) Q
  refine lm_G_sg 4 (pc' := 67) (L' := [some (.ref 1), some (.int 2)]) (S' := [.int 60, .ref 1]) (σ' := lm_T M v G) rfl trivial ?_
  refine lm_G_ca (j := 31) (as := [.ref 1, .int 60]) (rest := []) rfl (Or.inl rfl) (Nat.le_of_ble_eq_true rfl) (Nat.le_of_ble_eq_true rfl) (Nat.le_of_ble_eq_true rfl) (Nat.le_of_ble_eq_true rfl) rfl ?_
  refine c_isSign (c := 60) hT ht hp (by omega) ?_
  show lm_G X (d + 1) 43 106 0 0 70 [some (.ref 1), some (.int 2)] [.int (b2i (isSg T p 60))] (lm_T M v G) Q
  refine lm_G_br (b := (b2i (isSg T p 60)) = 0) (t := 78) (S' := []) rfl (fun g0 => ?_) (fun g0 => ?_)
  rotate_left
  ·
    have eo : opS T 2 p = 4 := by simp [opS, b2i_1 g0]
    rw [show opI T 2 p = encC (2, 4) from by unfold opI; rw [eo]; rfl] at hQ
    refine lm_G_sg 2 (pc' := 93) (L' := [some (.ref 1), some (.int 2)]) (S' := [.int (-5)]) (σ' := lm_T M v G) rfl trivial ?_
    exact lm_G_re rfl trivial (Nat.zero_le _) (Nat.zero_le _) hQ
  ·
    refine lm_G_sg 2 (pc' := 81) (L' := [some (.ref 1), some (.int 2)]) (S' := [.int 61, .ref 1]) (σ' := lm_T M v G) rfl trivial ?_
    refine lm_G_ca (j := 31) (as := [.ref 1, .int 61]) (rest := []) rfl (Or.inl rfl) (Nat.le_of_ble_eq_true rfl) (Nat.le_of_ble_eq_true rfl) (Nat.le_of_ble_eq_true rfl) (Nat.le_of_ble_eq_true rfl) rfl ?_
    refine c_isSign (c := 61) hT ht hp (by omega) ?_
    show lm_G X (d + 1) 43 106 0 0 84 [some (.ref 1), some (.int 2)] [.int (b2i (isSg T p 61))] (lm_T M v G) Q
    refine lm_G_br (b := (b2i (isSg T p 61)) = 0) (t := 92) (S' := []) rfl (fun g1 => ?_) (fun g1 => ?_)
    rotate_left
    ·
      have eo : opS T 2 p = 5 := by simp [opS, b2i_1 g1, b2i_0 g0]
      rw [show opI T 2 p = encC (2, 5) from by unfold opI; rw [eo]; rfl] at hQ
      refine lm_G_sg 2 (pc' := 93) (L' := [some (.ref 1), some (.int 2)]) (S' := [.int (-6)]) (σ' := lm_T M v G) rfl trivial ?_
      exact lm_G_re rfl trivial (Nat.zero_le _) (Nat.zero_le _) hQ
    ·
      have eo : opS T 2 p = 9 := by simp [opS, b2i_0 g0, b2i_0 g1]
      rw [opI_0.mpr eo] at hQ
      refine lm_G_sg 1 (pc' := 93) (L' := [some (.ref 1), some (.int 2)]) (S' := [.int 0]) (σ' := lm_T M v G) rfl trivial ?_
      exact lm_G_re rfl trivial (Nat.zero_le _) (Nat.zero_le _) hQ
set_option maxRecDepth 10000 in
theorem c_op3 {X : lm_X} {d v : Nat} {M : Nat → Nat → Int32} {G : Nat → Nat → Int64} {Q : lm_O → lm_S → Prop} {T : Tx} {p : Nat} (hT : okT T) (ht : RT M T p) (hp : p ≤ tN T) (hQ : Q (.inl (some (.int (opI T 3 p)))) (lm_T M v G)) : lm_Q X (d + 1) 43 [.ref 1, .int 3] (lm_T M v G) Q := by
  show lm_G X (d + 1) 43 106 0 0 0 [some (.ref 1), some (.int 3)] [] (lm_T M v G) Q
  refine lm_G_sg 4 (pc' := 97) (L' := [some (.ref 1), some (.int 3)]) (S' := [.int 43, .ref 1]) (σ' := lm_T M v G) rfl trivial ?_
  refine lm_G_ca (j := 31) (as := [.ref 1, .int 43]) (rest := []) rfl (Or.inl rfl) (Nat.le_of_ble_eq_true rfl) (Nat.le_of_ble_eq_true rfl) (Nat.le_of_ble_eq_true rfl) (Nat.le_of_ble_eq_true rfl) rfl ?_
  refine c_isSign (c := 43) hT ht hp (by omega) ?_
  show lm_G X (d + 1) 43 106 0 0 100 [some (.ref 1), some (.int 3)] [.int (b2i (isSg T p 43))] (lm_T M v G) Q
  refine lm_G_br (b := (b2i (isSg T p 43)) = 0) (t := 107) (S' := []) rfl (fun g0 => ?_) (fun g0 => ?_)
  rotate_left
  ·
    have eo : opS T 3 p = 0 := by simp [opS, b2i_1 g0]
    rw [show opI T 3 p = encC (2, 0) from by unfold opI; rw [eo]; rfl] at hQ
    refine lm_G_sg 2 (pc' := 122) (L' := [some (.ref 1), some (.int 3)]) (S' := [.int (-1)]) (σ' := lm_T M v G) rfl trivial ?_
    exact lm_G_re rfl trivial (Nat.zero_le _) (Nat.zero_le _) hQ
  ·
    refine lm_G_sg 2 (pc' := 110) (L' := [some (.ref 1), some (.int 3)]) (S' := [.int 45, .ref 1]) (σ' := lm_T M v G) rfl trivial ?_
    refine lm_G_ca (j := 31) (as := [.ref 1, .int 45]) (rest := []) rfl (Or.inl rfl) (Nat.le_of_ble_eq_true rfl) (Nat.le_of_ble_eq_true rfl) (Nat.le_of_ble_eq_true rfl) (Nat.le_of_ble_eq_true rfl) rfl ?_
    refine c_isSign (c := 45) hT ht hp (by omega) ?_
    show lm_G X (d + 1) 43 106 0 0 113 [some (.ref 1), some (.int 3)] [.int (b2i (isSg T p 45))] (lm_T M v G) Q
    refine lm_G_br (b := (b2i (isSg T p 45)) = 0) (t := 121) (S' := []) rfl (fun g1 => ?_) (fun g1 => ?_)
    rotate_left
    ·
      have eo : opS T 3 p = 1 := by simp [opS, b2i_1 g1, b2i_0 g0]
      rw [show opI T 3 p = encC (2, 1) from by unfold opI; rw [eo]; rfl] at hQ
      refine lm_G_sg 2 (pc' := 122) (L' := [some (.ref 1), some (.int 3)]) (S' := [.int (-2)]) (σ' := lm_T M v G) rfl trivial ?_
      exact lm_G_re rfl trivial (Nat.zero_le _) (Nat.zero_le _) hQ
    ·
      have eo : opS T 3 p = 9 := by simp [opS, b2i_0 g0, b2i_0 g1]
      rw [opI_0.mpr eo] at hQ
      refine lm_G_sg 1 (pc' := 122) (L' := [some (.ref 1), some (.int 3)]) (S' := [.int 0]) (σ' := lm_T M v G) rfl trivial ?_
      exact lm_G_re rfl trivial (Nat.zero_le _) (Nat.zero_le _) hQ
set_option maxRecDepth 10000 in
theorem c_op4 {X : lm_X} {d v : Nat} {M : Nat → Nat → Int32} {G : Nat → Nat → Int64} {Q : lm_O → lm_S → Prop} {T : Tx} {p : Nat} (hT : okT T) (ht : RT M T p) (hp : p ≤ tN T) (hQ : Q (.inl (some (.int (opI T 4 p)))) (lm_T M v G)) : lm_Q X (d + 1) 43 [.ref 1, .int 4] (lm_T M v G) Q := by
  show lm_G X (d + 1) 43 106 0 0 0 [some (.ref 1), some (.int 4)] [] (lm_T M v G) Q
  refine lm_G_sg 4 (pc' := 126) (L' := [some (.ref 1), some (.int 4)]) (S' := [.int 42, .ref 1]) (σ' := lm_T M v G) rfl trivial ?_
  refine lm_G_ca (j := 31) (as := [.ref 1, .int 42]) (rest := []) rfl (Or.inl rfl) (Nat.le_of_ble_eq_true rfl) (Nat.le_of_ble_eq_true rfl) (Nat.le_of_ble_eq_true rfl) (Nat.le_of_ble_eq_true rfl) rfl ?_
  refine c_isSign (c := 42) hT ht hp (by omega) ?_
  show lm_G X (d + 1) 43 106 0 0 129 [some (.ref 1), some (.int 4)] [.int (b2i (isSg T p 42))] (lm_T M v G) Q
  refine lm_G_br (b := (b2i (isSg T p 42)) = 0) (t := 137) (S' := []) rfl (fun g0 => ?_) (fun g0 => ?_)
  rotate_left
  ·
    have eo : opS T 4 p = 2 := by simp [opS, b2i_1 g0]
    rw [show opI T 4 p = encC (2, 2) from by unfold opI; rw [eo]; rfl] at hQ
    refine lm_G_sg 2 (pc' := 152) (L' := [some (.ref 1), some (.int 4)]) (S' := [.int (-3)]) (σ' := lm_T M v G) rfl trivial ?_
    exact lm_G_re rfl trivial (Nat.zero_le _) (Nat.zero_le _) hQ
  ·
    refine lm_G_sg 2 (pc' := 140) (L' := [some (.ref 1), some (.int 4)]) (S' := [.int 47, .ref 1]) (σ' := lm_T M v G) rfl trivial ?_
    refine lm_G_ca (j := 31) (as := [.ref 1, .int 47]) (rest := []) rfl (Or.inl rfl) (Nat.le_of_ble_eq_true rfl) (Nat.le_of_ble_eq_true rfl) (Nat.le_of_ble_eq_true rfl) (Nat.le_of_ble_eq_true rfl) rfl ?_
    refine c_isSign (c := 47) hT ht hp (by omega) ?_
    show lm_G X (d + 1) 43 106 0 0 143 [some (.ref 1), some (.int 4)] [.int (b2i (isSg T p 47))] (lm_T M v G) Q
    refine lm_G_br (b := (b2i (isSg T p 47)) = 0) (t := 151) (S' := []) rfl (fun g1 => ?_) (fun g1 => ?_)
    rotate_left
    ·
      have eo : opS T 4 p = 3 := by simp [opS, b2i_1 g1, b2i_0 g0]
      rw [show opI T 4 p = encC (2, 3) from by unfold opI; rw [eo]; rfl] at hQ
      refine lm_G_sg 2 (pc' := 152) (L' := [some (.ref 1), some (.int 4)]) (S' := [.int (-4)]) (σ' := lm_T M v G) rfl trivial ?_
      exact lm_G_re rfl trivial (Nat.zero_le _) (Nat.zero_le _) hQ
    ·
      have eo : opS T 4 p = 9 := by simp [opS, b2i_0 g0, b2i_0 g1]
      rw [opI_0.mpr eo] at hQ
      refine lm_G_sg 1 (pc' := 152) (L' := [some (.ref 1), some (.int 4)]) (S' := [.int 0]) (σ' := lm_T M v G) rfl trivial ?_
      exact lm_G_re rfl trivial (Nat.zero_le _) (Nat.zero_le _) hQ
def vcI (k : Nat) : Int32 := if k = 6 then -1 else encC (1, k)
set_option maxRecDepth 10000 in
theorem c_valueOfWord {X : lm_X} {d v : Nat} {M : Nat → Nat → Int32} {G : Nat → Nat → Int64} {Q : lm_O → lm_S → Prop} {T : Tx} {p : Nat} {J : Bool} (hT : okT T) (ht : RT M T p) (hp : p ≤ tN T) (h5 : M 1 5 = b2i J) (hQ : Q (.inl (some (.int (vcI (valS J T p))))) (lm_T M v G)) : lm_Q X (d + 1) 46 [.ref 1] (lm_T M v G) Q := by
  show lm_G X (d + 1) 46 106 0 0 0 [some (.ref 1)] [] (lm_T M v G) Q
  refine lm_G_sg 2 (pc' := 3) (L' := [some (.ref 1)]) (S' := [.ref 1006, .ref 1]) (σ' := lm_T M v G) rfl trivial ?_
  refine lm_G_ca (j := 30) (as := [.ref 1, .ref 1006]) (rest := []) rfl (Or.inl rfl) (Nat.le_of_ble_eq_true rfl) (Nat.le_of_ble_eq_true rfl) (Nat.le_of_ble_eq_true rfl) (Nat.le_of_ble_eq_true rfl) rfl ?_
  refine c_isWord6 hT ht hp ?_
  show lm_G X (d + 1) 46 106 0 0 6 [some (.ref 1)] [.int (b2i (isWd T p w6))] (lm_T M v G) Q
  refine lm_G_br (b := (b2i (isWd T p w6)) = 0) (t := 13) (S' := []) rfl (fun g0 => ?_) (fun g0 => ?_)
  rotate_left
  ·
    rw [show valS J T p = 0 from by unfold valS; simp [b2i_1 g0]] at hQ
    refine lm_G_sg 1 (pc' := 12) (L' := [some (.ref 1)]) (S' := [.int 10000]) (σ' := lm_T M v G) rfl trivial ?_
    exact lm_G_re rfl trivial (Nat.zero_le _) (Nat.zero_le _) hQ
  ·
    refine lm_G_sg 2 (pc' := 16) (L' := [some (.ref 1)]) (S' := [.ref 1007, .ref 1]) (σ' := lm_T M v G) rfl trivial ?_
    refine lm_G_ca (j := 30) (as := [.ref 1, .ref 1007]) (rest := []) rfl (Or.inl rfl) (Nat.le_of_ble_eq_true rfl) (Nat.le_of_ble_eq_true rfl) (Nat.le_of_ble_eq_true rfl) (Nat.le_of_ble_eq_true rfl) rfl ?_
    refine c_isWord7 hT ht hp ?_
    show lm_G X (d + 1) 46 106 0 0 19 [some (.ref 1)] [.int (b2i (isWd T p w7))] (lm_T M v G) Q
    refine lm_G_br (b := (b2i (isWd T p w7)) = 0) (t := 26) (S' := []) rfl (fun g1 => ?_) (fun g1 => ?_)
    rotate_left
    ·
      rw [show valS J T p = 1 from by unfold valS; simp [b2i_1 g1, b2i_0 g0]] at hQ
      refine lm_G_sg 1 (pc' := 25) (L' := [some (.ref 1)]) (S' := [.int 10001]) (σ' := lm_T M v G) rfl trivial ?_
      exact lm_G_re rfl trivial (Nat.zero_le _) (Nat.zero_le _) hQ
    ·
      refine lm_G_sg 2 (pc' := 29) (L' := [some (.ref 1)]) (S' := [.ref 1008, .ref 1]) (σ' := lm_T M v G) rfl trivial ?_
      refine lm_G_ca (j := 30) (as := [.ref 1, .ref 1008]) (rest := []) rfl (Or.inl rfl) (Nat.le_of_ble_eq_true rfl) (Nat.le_of_ble_eq_true rfl) (Nat.le_of_ble_eq_true rfl) (Nat.le_of_ble_eq_true rfl) rfl ?_
      refine c_isWord8 hT ht hp ?_
      show lm_G X (d + 1) 46 106 0 0 32 [some (.ref 1)] [.int (b2i (isWd T p w8))] (lm_T M v G) Q
      refine lm_G_br (b := (b2i (isWd T p w8)) = 0) (t := 39) (S' := []) rfl (fun g2 => ?_) (fun g2 => ?_)
      rotate_left
      ·
        rw [show valS J T p = 2 from by unfold valS; simp [b2i_1 g2, b2i_0 g0, b2i_0 g1]] at hQ
        refine lm_G_sg 1 (pc' := 38) (L' := [some (.ref 1)]) (S' := [.int 10002]) (σ' := lm_T M v G) rfl trivial ?_
        exact lm_G_re rfl trivial (Nat.zero_le _) (Nat.zero_le _) hQ
      ·
        refine lm_G_sg 2 (pc' := 42) (L' := [some (.ref 1)]) (S' := [.ref 1009, .ref 1]) (σ' := lm_T M v G) rfl trivial ?_
        refine lm_G_ca (j := 30) (as := [.ref 1, .ref 1009]) (rest := []) rfl (Or.inl rfl) (Nat.le_of_ble_eq_true rfl) (Nat.le_of_ble_eq_true rfl) (Nat.le_of_ble_eq_true rfl) (Nat.le_of_ble_eq_true rfl) rfl ?_
        refine c_isWord9 hT ht hp ?_
        show lm_G X (d + 1) 46 106 0 0 45 [some (.ref 1)] [.int (b2i (isWd T p w9))] (lm_T M v G) Q
        refine lm_G_br (b := (b2i (isWd T p w9)) = 0) (t := 52) (S' := []) rfl (fun g3 => ?_) (fun g3 => ?_)
        rotate_left
        ·
          rw [show valS J T p = 3 from by unfold valS; simp [b2i_1 g3, b2i_0 g0, b2i_0 g1, b2i_0 g2]] at hQ
          refine lm_G_sg 1 (pc' := 51) (L' := [some (.ref 1)]) (S' := [.int 10003]) (σ' := lm_T M v G) rfl trivial ?_
          exact lm_G_re rfl trivial (Nat.zero_le _) (Nat.zero_le _) hQ
        ·
          refine lm_G_sg 2 (pc' := 55) (L' := [some (.ref 1)]) (S' := [.ref 1010, .ref 1]) (σ' := lm_T M v G) rfl trivial ?_
          refine lm_G_ca (j := 30) (as := [.ref 1, .ref 1010]) (rest := []) rfl (Or.inl rfl) (Nat.le_of_ble_eq_true rfl) (Nat.le_of_ble_eq_true rfl) (Nat.le_of_ble_eq_true rfl) (Nat.le_of_ble_eq_true rfl) rfl ?_
          refine c_isWord10 hT ht hp ?_
          show lm_G X (d + 1) 46 106 0 0 58 [some (.ref 1)] [.int (b2i (isWd T p w10))] (lm_T M v G) Q
          refine lm_G_br (b := (b2i (isWd T p w10)) = 0) (t := 65) (S' := []) rfl (fun g4 => ?_) (fun g4 => ?_)
          rotate_left
          ·
            rw [show valS J T p = 4 from by unfold valS; simp [b2i_1 g4, b2i_0 g0, b2i_0 g1, b2i_0 g2, b2i_0 g3]] at hQ
            refine lm_G_sg 1 (pc' := 64) (L' := [some (.ref 1)]) (S' := [.int 10004]) (σ' := lm_T M v G) rfl trivial ?_
            exact lm_G_re rfl trivial (Nat.zero_le _) (Nat.zero_le _) hQ
          ·
            refine lm_G_sg 3 (pc' := 70) (L' := [some (.ref 1)]) (S' := [.int (M 1 5), .ref 1]) (σ' := lm_T M v G) rfl trivial ?_
            rw [show M 1 5 = b2i J from h5]
            refine lm_G_br (b := ¬ (b2i J) = 0) (t := 78) (S' := [.ref 1]) rfl (fun gj => ?_) (fun gj => ?_)
            ·
              have ej : J = true := b2i_1 gj
              refine lm_G_sg 1 (pc' := 80) (L' := [some (.ref 1)]) (S' := [.ref 1012, .ref 1]) (σ' := lm_T M v G) rfl trivial ?_
              refine lm_G_ca (j := 30) (as := [.ref 1, .ref 1012]) (rest := []) rfl (Or.inl rfl) (Nat.le_of_ble_eq_true rfl) (Nat.le_of_ble_eq_true rfl) (Nat.le_of_ble_eq_true rfl) (Nat.le_of_ble_eq_true rfl) rfl ?_
              refine c_isWord12 hT ht hp ?_
              show lm_G X (d + 1) 46 106 0 0 83 [some (.ref 1)] [.int (b2i (isWd T p w12))] (lm_T M v G) Q
              refine lm_G_br (b := (b2i (isWd T p w12)) = 0) (t := 92) (S' := []) rfl (fun g5 => ?_) (fun g5 => ?_)
              ·
                rw [show valS J T p = 6 from by unfold valS; simp [ej, b2i_0 g5, b2i_0 g0, b2i_0 g1, b2i_0 g2, b2i_0 g3, b2i_0 g4]] at hQ
                refine lm_G_sg 1 (pc' := 93) (L' := [some (.ref 1)]) (S' := [.int (-1)]) (σ' := lm_T M v G) rfl trivial ?_
                exact lm_G_re rfl trivial (Nat.zero_le _) (Nat.zero_le _) hQ
              ·
                rw [show valS J T p = 5 from by unfold valS; simp [ej, b2i_1 g5, b2i_0 g0, b2i_0 g1, b2i_0 g2, b2i_0 g3, b2i_0 g4]] at hQ
                refine lm_G_sg 2 (pc' := 93) (L' := [some (.ref 1)]) (S' := [.int 10005]) (σ' := lm_T M v G) rfl trivial ?_
                exact lm_G_re rfl trivial (Nat.zero_le _) (Nat.zero_le _) hQ
            ·
              have ej : J = false := b2i_0 (Classical.not_not.mp gj)
              refine lm_G_sg 2 (pc' := 80) (L' := [some (.ref 1)]) (S' := [.ref 1011, .ref 1]) (σ' := lm_T M v G) rfl trivial ?_
              refine lm_G_ca (j := 30) (as := [.ref 1, .ref 1011]) (rest := []) rfl (Or.inl rfl) (Nat.le_of_ble_eq_true rfl) (Nat.le_of_ble_eq_true rfl) (Nat.le_of_ble_eq_true rfl) (Nat.le_of_ble_eq_true rfl) rfl ?_
              refine c_isWord11 hT ht hp ?_
              show lm_G X (d + 1) 46 106 0 0 83 [some (.ref 1)] [.int (b2i (isWd T p w11))] (lm_T M v G) Q
              refine lm_G_br (b := (b2i (isWd T p w11)) = 0) (t := 92) (S' := []) rfl (fun g5 => ?_) (fun g5 => ?_)
              ·
                rw [show valS J T p = 6 from by unfold valS; simp [ej, b2i_0 g5, b2i_0 g0, b2i_0 g1, b2i_0 g2, b2i_0 g3, b2i_0 g4]] at hQ
                refine lm_G_sg 1 (pc' := 93) (L' := [some (.ref 1)]) (S' := [.int (-1)]) (σ' := lm_T M v G) rfl trivial ?_
                exact lm_G_re rfl trivial (Nat.zero_le _) (Nat.zero_le _) hQ
              ·
                rw [show valS J T p = 5 from by unfold valS; simp [ej, b2i_1 g5, b2i_0 g0, b2i_0 g1, b2i_0 g2, b2i_0 g3, b2i_0 g4]] at hQ
                refine lm_G_sg 2 (pc' := 93) (L' := [some (.ref 1)]) (S' := [.int 10005]) (σ' := lm_T M v G) rfl trivial ?_
                exact lm_G_re rfl trivial (Nat.zero_le _) (Nat.zero_le _) hQ
set_option maxRecDepth 10000 in
theorem c_canBegin {X : lm_X} {d v : Nat} {M : Nat → Nat → Int32} {G : Nat → Nat → Int64} {Q : lm_O → lm_S → Prop} {T : Tx} {p : Nat} (hT : okT T) (ht : RT M T p) (hp : p ≤ tN T) (hQ : Q (.inl (some (.int (b2i (canB T p))))) (lm_T M v G)) : lm_Q X (d + 1) 45 [.ref 1] (lm_T M v G) Q := by
  show lm_G X (d + 1) 45 106 0 0 0 [some (.ref 1)] [] (lm_T M v G) Q
  have kl := kn_le (T := T) (p := p)
  refine lm_G_sg 2 (pc' := 4) (L' := [some (.ref 1)]) (S' := [.int (M 1 6)]) (σ' := lm_T M v G) rfl trivial ?_
  rw [show M 1 6 = nI (knS T p) from ht.2.1]
  refine lm_G_sg 1 (pc' := 5) (L' := [some (.ref 1)]) (S' := [.int 2, .int (nI (knS T p))]) (σ' := lm_T M v G) rfl trivial ?_
  refine lm_G_br (b := (nI (knS T p)) = 2) (t := 25) (S' := []) rfl (fun g1 => ?_) (fun g1 => ?_)
  ·
    rw [show canB T p = true from by unfold canB; rw [decide_eq_true ((nI_eq (b := 2) (by omega) (by omega)).mp g1)]; rfl] at hQ
    refine lm_G_sg 2 (pc' := 30) (L' := [some (.ref 1)]) (S' := [.int 1]) (σ' := lm_T M v G) rfl trivial ?_
    exact lm_G_re rfl (by decide) (Nat.zero_le _) (Nat.zero_le _) hQ
  ·
    have n2 : ¬ knS T p = 2 := fun w => g1 (by rw [w]; rfl)
    refine lm_G_sg 2 (pc' := 12) (L' := [some (.ref 1)]) (S' := [.int (M 1 6)]) (σ' := lm_T M v G) rfl trivial ?_
    rw [show M 1 6 = nI (knS T p) from ht.2.1]
    refine lm_G_sg 1 (pc' := 13) (L' := [some (.ref 1)]) (S' := [.int 1, .int (nI (knS T p))]) (σ' := lm_T M v G) rfl trivial ?_
    refine lm_G_br (b := (nI (knS T p)) = 1) (t := 25) (S' := []) rfl (fun g2 => ?_) (fun g2 => ?_)
    ·
      rw [show canB T p = true from by unfold canB; rw [decide_eq_true ((nI_eq (b := 1) (by omega) (by omega)).mp g2), Bool.true_or, Bool.or_true]] at hQ
      refine lm_G_sg 2 (pc' := 30) (L' := [some (.ref 1)]) (S' := [.int 1]) (σ' := lm_T M v G) rfl trivial ?_
      exact lm_G_re rfl (by decide) (Nat.zero_le _) (Nat.zero_le _) hQ
    ·
      have n1 : ¬ knS T p = 1 := fun w => g2 (by rw [w]; rfl)
      rw [show canB T p = isSg T p 40 from by unfold canB; rw [decide_eq_false n2, decide_eq_false n1]; rfl] at hQ
      refine lm_G_sg 2 (pc' := 19) (L' := [some (.ref 1)]) (S' := [.int 40, .ref 1]) (σ' := lm_T M v G) rfl trivial ?_
      refine lm_G_ca (j := 31) (as := [.ref 1, .int 40]) (rest := []) rfl (Or.inl rfl) (Nat.le_of_ble_eq_true rfl) (Nat.le_of_ble_eq_true rfl) (Nat.le_of_ble_eq_true rfl) (Nat.le_of_ble_eq_true rfl) rfl ?_
      refine c_isSign (c := 40) hT ht hp (by omega) ?_
      show lm_G X (d + 1) 45 106 0 0 22 [some (.ref 1)] [.int (b2i (isSg T p 40))] (lm_T M v G) Q
      refine lm_G_br (b := (b2i (isSg T p 40)) = 0) (t := 29) (S' := []) rfl (fun g3 => ?_) (fun g3 => ?_)
      ·
        rw [b2i_0 g3] at hQ
        refine lm_G_sg 1 (pc' := 30) (L' := [some (.ref 1)]) (S' := [.int 0]) (σ' := lm_T M v G) rfl trivial ?_
        exact lm_G_re rfl (by decide) (Nat.zero_le _) (Nat.zero_le _) hQ
      ·
        rw [b2i_1 g3] at hQ
        refine lm_G_sg 2 (pc' := 30) (L' := [some (.ref 1)]) (S' := [.int 1]) (σ' := lm_T M v G) rfl trivial ?_
        exact lm_G_re rfl (by decide) (Nat.zero_le _) (Nat.zero_le _) hQ
theorem val_le {J : Bool} {T : Tx} {p : Nat} : valS J T p ≤ 6 := by
  unfold valS
  repeat' split
  all_goals omega
set_option maxRecDepth 10000 in
theorem c_readPart {X : lm_X} {T : Tx} {J : Bool} {h w : Nat} {rec : Nat → PR} (hT : okT T) (hw : w ≤ 5) (okL_ : decide (5 ≤ w) = false → okL T rec) (hrec : w < 5 → ∀ d, CQ X T J (d + (h + 1)) 41 [.ref 1, .int 0, .int (nI (w + 1))] rec) : ∀ d, CQ X T J (d + (h + 2)) 44 [.ref 1, .int (nI w)] (ptS T J (decide (5 ≤ w)) rec) := by
  intro d v M G Q p K ht hp h5 hk hkl hok her
  show lm_G X (d + (h + 2)) 44 106 0 0 0 [some (.ref 1), some (.int (nI w)), none] [] (lm_T M v G) Q
  have hn := hT.1
  have kl := kn_le (T := T) (p := p)
  obtain ⟨el1, el2, el3⟩ := en_le hp
  refine lm_G_sg 2 (pc' := 3) (L' := [some (.ref 1), some (.int (nI w)), none]) (S' := [.int 40, .ref 1]) (σ' := lm_T M v G) rfl trivial ?_
  refine lm_G_ca (j := 31) (as := [.ref 1, .int 40]) (rest := []) rfl (Or.inl rfl) (Nat.le_of_ble_eq_true rfl) (Nat.le_of_ble_eq_true rfl) (Nat.le_of_ble_eq_true rfl) (Nat.le_of_ble_eq_true rfl) rfl ?_
  refine c_isSign (c := 40) hT ht hp (by omega) ?_
  show lm_G X (d + (h + 2)) 44 106 0 0 6 [some (.ref 1), some (.int (nI w)), none] [.int (b2i (isSg T p 40))] (lm_T M v G) Q
  refine lm_G_br (b := (b2i (isSg T p 40)) = 0) (t := 69) (S' := []) rfl (fun g0 => ?_) (fun g0 => ?_)
  rotate_left
  ·
    have s40 := b2i_1 g0
    refine lm_G_sg 1 (pc' := 10) (L' := [some (.ref 1), some (.int (nI w)), none]) (S' := [.ref 1]) (σ' := lm_T M v G) rfl trivial ?_
    refine lm_G_ca (j := 26) (as := [.ref 1]) (rest := []) rfl (Or.inl rfl) (Nat.le_of_ble_eq_true rfl) (Nat.le_of_ble_eq_true rfl) (Nat.le_of_ble_eq_true rfl) (Nat.le_of_ble_eq_true rfl) rfl ?_
    refine c_nextToken hT ht.1 el2 ht.2.2.2.1 (fun M1 t1 f1 => ?_)
    show lm_G X (d + (h + 2)) 44 106 0 0 13 [some (.ref 1), some (.int (nI w)), none] [] (lm_T M1 v G) Q
    have k1 := CC_R hk f1
    have e1 := FrE_R f1
    refine lm_G_sg 2 (pc' := 15) (L' := [some (.ref 1), some (.int (nI w)), none]) (S' := [.int 5, .int (nI w)]) (σ' := lm_T M1 v G) rfl trivial ?_
    refine lm_G_br (b := (nI w) < 5) (t := 35) (S' := []) rfl (fun g1 => ?_) (fun g1 => ?_)
    rotate_left
    ·
      have w5 : w = 5 := by
        have : ¬ w < 5 := fun q => g1 (nI_lt (b := 5) q (by omega))
        omega
      have edp : decide (5 ≤ w) = true := decide_eq_true (by omega)
      refine lm_G_sg 2 (pc' := 20) (L' := [some (.ref 1), some (.int (nI w)), none]) (S' := [.ref 1, .ref 1]) (σ' := lm_T M1 v G) rfl trivial ?_
      refine lm_G_ca (j := 45) (as := [.ref 1]) (rest := [.ref 1]) rfl (Or.inl rfl) (Nat.le_of_ble_eq_true rfl) (Nat.le_of_ble_eq_true rfl) (Nat.le_of_ble_eq_true rfl) (Nat.le_of_ble_eq_true rfl) rfl ?_
      refine c_canBegin hT t1 el2 ?_
      show lm_G X (d + (h + 2)) 44 106 0 0 23 [some (.ref 1), some (.int (nI w)), none] [.int (b2i (canB T (enS T p))), .ref 1] (lm_T M1 v G) Q
      refine lm_G_br (b := (b2i (canB T (enS T p))) = 0) (t := 30) (S' := [.ref 1]) rfl (fun g2 => ?_) (fun g2 => ?_)
      ·
        refine lm_G_sg 1 (pc' := 31) (L' := [some (.ref 1), some (.int (nI w)), none]) (S' := [.int 1, .ref 1]) (σ' := lm_T M1 v G) rfl trivial ?_
        refine lm_G_ca (j := 25) (as := [.ref 1, .int 1]) (rest := []) rfl (Or.inl rfl) (Nat.le_of_ble_eq_true rfl) (Nat.le_of_ble_eq_true rfl) (Nat.le_of_ble_eq_true rfl) (Nat.le_of_ble_eq_true rfl) rfl ?_
        refine c_fail ?_
        show lm_G X (d + (h + 2)) 44 106 0 0 34 [some (.ref 1), some (.int (nI w)), none] [.int 0] (lm_T (lm_wr (lm_wr M1 1 10 1) 1 11 (M1 1 7)) v G) Q
        exact lm_G_re rfl (by decide) (Nat.zero_le _) (Nat.zero_le _) (her _ _ (by unfold ptS; rw [if_pos s40, edp, b2i_0 g2]; rfl) _ ⟨rfl, t1.2.2.1⟩ (FrE_f e1))
      ·
        refine lm_G_sg 2 (pc' := 31) (L' := [some (.ref 1), some (.int (nI w)), none]) (S' := [.int 2, .ref 1]) (σ' := lm_T M1 v G) rfl trivial ?_
        refine lm_G_ca (j := 25) (as := [.ref 1, .int 2]) (rest := []) rfl (Or.inl rfl) (Nat.le_of_ble_eq_true rfl) (Nat.le_of_ble_eq_true rfl) (Nat.le_of_ble_eq_true rfl) (Nat.le_of_ble_eq_true rfl) rfl ?_
        refine c_fail ?_
        show lm_G X (d + (h + 2)) 44 106 0 0 34 [some (.ref 1), some (.int (nI w)), none] [.int 0] (lm_T (lm_wr (lm_wr M1 1 10 2) 1 11 (M1 1 7)) v G) Q
        exact lm_G_re rfl (by decide) (Nat.zero_le _) (Nat.zero_le _) (her _ _ (by unfold ptS; rw [if_pos s40, edp, b2i_1 g2]; rfl) _ ⟨rfl, t1.2.2.1⟩ (FrE_f e1))
    ·
      have w5 : w < 5 := (nI_ltI (b := 5) (by omega) (by omega)).mp g1
      have edp : decide (5 ≤ w) = false := decide_eq_false (by omega)
      have ep : ptS T J (decide (5 ≤ w)) rec p = (match rec (enS T p) with
          | .inl (r, c) => if isSg T r 41 then .inl (enS T r, c) else .inr (1, stS' T r)
          | .inr e => .inr e) := by unfold ptS; rw [if_pos s40, edp]; rfl
      refine lm_G_sg 5 (pc' := 40) (L' := [some (.ref 1), some (.int (nI w)), none]) (S' := [.int ((nI w) + 1), .int 0, .ref 1]) (σ' := lm_T M1 v G) rfl trivial ?_
      rw [show (nI w) + 1 = nI (w + 1) from nI_add w 1]
      refine lm_G_ca (j := 41) (as := [.ref 1, .int 0, .int (nI (w + 1))]) (rest := []) rfl (Or.inl rfl) (Nat.le_of_ble_eq_true rfl) (Nat.le_of_ble_eq_true rfl) (Nat.le_of_ble_eq_true rfl) (Nat.le_of_ble_eq_true rfl) rfl ?_
      refine hrec w5 d v M1 G _ (enS T p) K t1 el2 ((f1.2 5 (by decide) (by decide) (by decide) (by decide)).trans h5) k1 (by have := en_gt hp (by rw [sg_kn s40]; decide); omega) (fun r c er M2 t2 k2 e2 => ?_) (fun e a er M2 b2 e2 => ?_)
      ·
        show lm_G X (d + (h + 2)) 44 106 0 0 43 [some (.ref 1), some (.int (nI w)), none] [.int 1] (lm_T M2 v G) Q
        obtain ⟨o1, o2, o3⟩ := okL_ (by rw [edp]) _ _ _ el2 er
        have kl2 := kn_le (T := T) (p := r)
        refine lm_G_br (b := ¬ 1 = 0) (t := 48) (S' := []) rfl (fun g3 => ?_) (fun g3 => absurd (Classical.not_not.mp g3) (by decide))
        refine lm_G_sg 2 (pc' := 51) (L' := [some (.ref 1), some (.int (nI w)), none]) (S' := [.int 41, .ref 1]) (σ' := lm_T M2 v G) rfl trivial ?_
        refine lm_G_ca (j := 31) (as := [.ref 1, .int 41]) (rest := []) rfl (Or.inl rfl) (Nat.le_of_ble_eq_true rfl) (Nat.le_of_ble_eq_true rfl) (Nat.le_of_ble_eq_true rfl) (Nat.le_of_ble_eq_true rfl) rfl ?_
        refine c_isSign (c := 41) hT t2 o2 (by omega) ?_
        show lm_G X (d + (h + 2)) 44 106 0 0 54 [some (.ref 1), some (.int (nI w)), none] [.int (b2i (isSg T r 41))] (lm_T M2 v G) Q
        refine lm_G_br (b := ¬ (b2i (isSg T r 41)) = 0) (t := 63) (S' := []) rfl (fun g4 => ?_) (fun g4 => ?_)
        rotate_left
        ·
          refine lm_G_sg 2 (pc' := 59) (L' := [some (.ref 1), some (.int (nI w)), none]) (S' := [.int 1, .ref 1]) (σ' := lm_T M2 v G) rfl trivial ?_
          refine lm_G_ca (j := 25) (as := [.ref 1, .int 1]) (rest := []) rfl (Or.inl rfl) (Nat.le_of_ble_eq_true rfl) (Nat.le_of_ble_eq_true rfl) (Nat.le_of_ble_eq_true rfl) (Nat.le_of_ble_eq_true rfl) rfl ?_
          refine c_fail ?_
          show lm_G X (d + (h + 2)) 44 106 0 0 62 [some (.ref 1), some (.int (nI w)), none] [.int 0] (lm_T (lm_wr (lm_wr M2 1 10 1) 1 11 (M2 1 7)) v G) Q
          exact lm_G_re rfl (by decide) (Nat.zero_le _) (Nat.zero_le _) (her _ _ (by rw [ep, er]; simp only []; rw [if_neg (by rw [b2i_0 (Classical.not_not.mp g4)]; decide)]) _ ⟨rfl, t2.2.2.1⟩ (FrE_f (FrE_tr e1 e2)))
        ·
          refine lm_G_sg 1 (pc' := 64) (L' := [some (.ref 1), some (.int (nI w)), none]) (S' := [.ref 1]) (σ' := lm_T M2 v G) rfl trivial ?_
          refine lm_G_ca (j := 26) (as := [.ref 1]) (rest := []) rfl (Or.inl rfl) (Nat.le_of_ble_eq_true rfl) (Nat.le_of_ble_eq_true rfl) (Nat.le_of_ble_eq_true rfl) (Nat.le_of_ble_eq_true rfl) rfl ?_
          refine c_nextToken hT t2.1 (en_le o2).2.1 t2.2.2.2.1 (fun M3 t3 f3 => ?_)
          show lm_G X (d + (h + 2)) 44 106 0 0 67 [some (.ref 1), some (.int (nI w)), none] [] (lm_T M3 v G) Q
          refine lm_G_sg 1 (pc' := 68) (L' := [some (.ref 1), some (.int (nI w)), none]) (S' := [.int 1]) (σ' := lm_T M3 v G) rfl trivial ?_
          exact lm_G_re rfl (by decide) (Nat.zero_le _) (Nat.zero_le _) (hok _ _ (by rw [ep, er]; simp only []; rw [if_pos (b2i_1 g4)]) _ t3 (CC_R k2 f3) (FrE_tr (FrE_tr e1 e2) (FrE_R f3)))
      ·
        show lm_G X (d + (h + 2)) 44 106 0 0 43 [some (.ref 1), some (.int (nI w)), none] [.int 0] (lm_T M2 v G) Q
        refine lm_G_br (b := ¬ 0 = 0) (t := 48) (S' := []) rfl (fun g3 => absurd rfl g3) (fun g3 => ?_)
        refine lm_G_sg 1 (pc' := 47) (L' := [some (.ref 1), some (.int (nI w)), none]) (S' := [.int 0]) (σ' := lm_T M2 v G) rfl trivial ?_
        exact lm_G_re rfl (by decide) (Nat.zero_le _) (Nat.zero_le _) (her _ _ (by rw [ep, er]) _ b2 (FrEx_l e1 e2))
  ·
    have s40 := b2i_0 g0
    have n40 : ¬ isSg T p 40 = true := by rw [s40]; decide
    have k91 : ∀ (hk12 : knS T p = 2 ∨ knS T p = 1), lm_G X (d + (h + 2)) 44 106 0 0 91 [some (.ref 1), some (.int (nI w)), none] [] (lm_T M v G) Q := by
      intro hk12
      refine lm_G_sg 1 (pc' := 92) (L' := [some (.ref 1), some (.int (nI w)), none]) (S' := [.ref 1]) (σ' := lm_T M v G) rfl trivial ?_
      refine lm_G_ca (j := 32) (as := [.ref 1]) (rest := []) rfl (Or.inl rfl) (Nat.le_of_ble_eq_true rfl) (Nat.le_of_ble_eq_true rfl) (Nat.le_of_ble_eq_true rfl) (Nat.le_of_ble_eq_true rfl) rfl ?_
      refine c_isLong hT ht hp ?_
      show lm_G X (d + (h + 2)) 44 106 0 0 95 [some (.ref 1), some (.int (nI w)), none] [.int (b2i (lgS T p))] (lm_T M v G) Q
      refine lm_G_br (b := (b2i (lgS T p)) = 0) (t := 104) (S' := []) rfl (fun g1 => ?_) (fun g1 => ?_)
      rotate_left
      ·
        have gl := b2i_1 g1
        unfold lgS at gl
        rw [Bool.and_eq_true] at gl
        have k2 := of_decide_eq_true gl.1
        have l4 := of_decide_eq_true gl.2
        refine lm_G_sg 2 (pc' := 100) (L' := [some (.ref 1), some (.int (nI w)), none]) (S' := [.int 2, .ref 1]) (σ' := lm_T M v G) rfl trivial ?_
        refine lm_G_ca (j := 25) (as := [.ref 1, .int 2]) (rest := []) rfl (Or.inl rfl) (Nat.le_of_ble_eq_true rfl) (Nat.le_of_ble_eq_true rfl) (Nat.le_of_ble_eq_true rfl) (Nat.le_of_ble_eq_true rfl) rfl ?_
        refine c_fail ?_
        show lm_G X (d + (h + 2)) 44 106 0 0 103 [some (.ref 1), some (.int (nI w)), none] [.int 0] (lm_T (lm_wr (lm_wr M 1 10 2) 1 11 (M 1 7)) v G) Q
        exact lm_G_re rfl (by decide) (Nat.zero_le _) (Nat.zero_le _) (her _ _ (by unfold ptS; rw [if_neg n40, if_pos k2, if_neg (by omega)]) _ ⟨rfl, ht.2.2.1⟩ (FrE_f (FrE_rf _)))
      ·
        have hg := en_gt hp (by omega : knS T p ≠ 0)
        refine lm_G_sg 2 (pc' := 108) (L' := [some (.ref 1), some (.int (nI w)), none]) (S' := [.int (M 1 6)]) (σ' := lm_T M v G) rfl trivial ?_
        rw [show M 1 6 = nI (knS T p) from ht.2.1]
        refine lm_G_sg 1 (pc' := 109) (L' := [some (.ref 1), some (.int (nI w)), none]) (S' := [.int 2, .int (nI (knS T p))]) (σ' := lm_T M v G) rfl trivial ?_
        refine lm_G_br (b := ¬ (nI (knS T p)) = 2) (t := 119) (S' := []) rfl (fun g2 => ?_) (fun g2 => ?_)
        rotate_left
        ·
          have k2 : knS T p = 2 := (nI_eq (b := 2) (by omega) (by omega)).mp (Classical.not_not.mp g2)
          have l4 : lnS T p ≤ 4 := by
            have gl := b2i_0 g1
            unfold lgS at gl
            rw [decide_eq_true k2, Bool.true_and] at gl
            exact Nat.le_of_not_lt (of_decide_eq_false gl)
          have n9 := nu_le k2 l4
          refine lm_G_sg 2 (pc' := 116) (L' := [some (.ref 1), some (.int (nI w)), none]) (S' := [.int (M 1 9)]) (σ' := lm_T M v G) rfl trivial ?_
          rw [show M 1 9 = nI (nuS T p) from ht.2.2.2.2 k2 l4]
          refine lm_G_sg 4 (pc' := 126) (L' := [some (.ref 1), some (.int (nI w)), some (.int (nI (nuS T p)))]) (S' := [.int (-1), .int (nI (nuS T p))]) (σ' := lm_T M v G) rfl trivial ?_
          refine lm_G_br (b := ¬ (nI (nuS T p)) = (-1)) (t := 135) (S' := []) rfl (fun g3 => ?_) (fun g3 => absurd (Classical.not_not.mp g3) (nI_m1 (by omega)))
          refine lm_G_sg 3 (pc' := 140) (L' := [some (.ref 1), some (.int (nI w)), some (.int (nI (nuS T p)))]) (S' := [.int (nI (nuS T p)), .ref 3]) (σ' := lm_T M v G) rfl trivial ?_
          refine lm_G_ca (j := 12) (as := [.ref 3, .int (nI (nuS T p))]) (rest := []) rfl (Or.inl rfl) (Nat.le_of_ble_eq_true rfl) (Nat.le_of_ble_eq_true rfl) (Nat.le_of_ble_eq_true rfl) (Nat.le_of_ble_eq_true rfl) rfl ?_
          refine c_addCode (x := (0, nuS T p)) hk (by omega) (fun M1 k1 e1 r1 => ?_)
          show lm_G X (d + (h + 2)) 44 106 0 0 143 [some (.ref 1), some (.int (nI w)), some (.int (nI (nuS T p)))] [] (lm_T M1 v G) Q
          have t1 : RT M1 T p := by
            obtain ⟨q1, q2, q3, q4, q5⟩ := ht
            refine ⟨⟨by rw [r1]; exact q1.1, by rw [e1.1 2 rfl]; exact q1.2⟩, ?_⟩
            rw [r1]
            exact ⟨q2, q3, q4, q5⟩
          refine lm_G_sg 1 (pc' := 144) (L' := [some (.ref 1), some (.int (nI w)), some (.int (nI (nuS T p)))]) (S' := [.ref 1]) (σ' := lm_T M1 v G) rfl trivial ?_
          refine lm_G_ca (j := 26) (as := [.ref 1]) (rest := []) rfl (Or.inl rfl) (Nat.le_of_ble_eq_true rfl) (Nat.le_of_ble_eq_true rfl) (Nat.le_of_ble_eq_true rfl) (Nat.le_of_ble_eq_true rfl) rfl ?_
          refine c_nextToken hT t1.1 el2 t1.2.2.2.1 (fun M2 t2 f2 => ?_)
          show lm_G X (d + (h + 2)) 44 106 0 0 147 [some (.ref 1), some (.int (nI w)), some (.int (nI (nuS T p)))] [] (lm_T M2 v G) Q
          refine lm_G_sg 1 (pc' := 148) (L' := [some (.ref 1), some (.int (nI w)), some (.int (nI (nuS T p)))]) (S' := [.int 1]) (σ' := lm_T M2 v G) rfl trivial ?_
          exact lm_G_re rfl (by decide) (Nat.zero_le _) (Nat.zero_le _) (hok _ _ (by unfold ptS; rw [if_neg n40, if_pos k2, if_pos l4]) _ t2 (CC_R k1 f2) (FrE_tr e1 (FrE_R f2)))
        ·
          have n2 : ¬ knS T p = 2 := fun q => g2 (by rw [q]; rfl)
          have k1_ : knS T p = 1 := hk12.resolve_left n2
          refine lm_G_sg 1 (pc' := 120) (L' := [some (.ref 1), some (.int (nI w)), none]) (S' := [.ref 1]) (σ' := lm_T M v G) rfl trivial ?_
          refine lm_G_ca (j := 46) (as := [.ref 1]) (rest := []) rfl (Or.inl rfl) (Nat.le_of_ble_eq_true rfl) (Nat.le_of_ble_eq_true rfl) (Nat.le_of_ble_eq_true rfl) (Nat.le_of_ble_eq_true rfl) rfl ?_
          refine c_valueOfWord (J := J) hT ht hp h5 ?_
          show lm_G X (d + (h + 2)) 44 106 0 0 123 [some (.ref 1), some (.int (nI w)), none] [.int (vcI (valS J T p))] (lm_T M v G) Q
          refine lm_G_sg 3 (pc' := 126) (L' := [some (.ref 1), some (.int (nI w)), some (.int (vcI (valS J T p)))]) (S' := [.int (-1), .int (vcI (valS J T p))]) (σ' := lm_T M v G) rfl trivial ?_
          refine lm_G_br (b := ¬ (vcI (valS J T p)) = (-1)) (t := 135) (S' := []) rfl (fun g3 => ?_) (fun g3 => ?_)
          rotate_left
          ·
            have v6 : valS J T p = 6 := by
              apply Classical.byContradiction
              intro q
              have e := Classical.not_not.mp g3
              unfold vcI at e
              rw [if_neg q] at e
              exact nI_m1 (by have := val_le (J := J) (T := T) (p := p); omega) e
            refine lm_G_sg 2 (pc' := 131) (L' := [some (.ref 1), some (.int (nI w)), some (.int (vcI (valS J T p)))]) (S' := [.int 3, .ref 1]) (σ' := lm_T M v G) rfl trivial ?_
            refine lm_G_ca (j := 25) (as := [.ref 1, .int 3]) (rest := []) rfl (Or.inl rfl) (Nat.le_of_ble_eq_true rfl) (Nat.le_of_ble_eq_true rfl) (Nat.le_of_ble_eq_true rfl) (Nat.le_of_ble_eq_true rfl) rfl ?_
            refine c_fail ?_
            show lm_G X (d + (h + 2)) 44 106 0 0 134 [some (.ref 1), some (.int (nI w)), some (.int (vcI (valS J T p)))] [.int 0] (lm_T (lm_wr (lm_wr M 1 10 3) 1 11 (M 1 7)) v G) Q
            exact lm_G_re rfl (by decide) (Nat.zero_le _) (Nat.zero_le _) (her _ _ (by unfold ptS; rw [if_neg n40, if_neg n2, if_pos k1_, if_pos v6]) _ ⟨rfl, ht.2.2.1⟩ (FrE_f (FrE_rf _)))
          ·
            have v6 : ¬ valS J T p = 6 := fun q => g3 (by unfold vcI; rw [if_pos q])
            rw [show vcI (valS J T p) = encC (1, valS J T p) from if_neg v6]
            refine lm_G_sg 3 (pc' := 140) (L' := [some (.ref 1), some (.int (nI w)), some (.int (encC (1, valS J T p)))]) (S' := [.int (encC (1, valS J T p)), .ref 3]) (σ' := lm_T M v G) rfl trivial ?_
            refine lm_G_ca (j := 12) (as := [.ref 3, .int (encC (1, valS J T p))]) (rest := []) rfl (Or.inl rfl) (Nat.le_of_ble_eq_true rfl) (Nat.le_of_ble_eq_true rfl) (Nat.le_of_ble_eq_true rfl) (Nat.le_of_ble_eq_true rfl) rfl ?_
            refine c_addCode (x := (1, valS J T p)) hk (by omega) (fun M1 k1 e1 r1 => ?_)
            show lm_G X (d + (h + 2)) 44 106 0 0 143 [some (.ref 1), some (.int (nI w)), some (.int (encC (1, valS J T p)))] [] (lm_T M1 v G) Q
            have t1 : RT M1 T p := by
              obtain ⟨q1, q2, q3, q4, q5⟩ := ht
              refine ⟨⟨by rw [r1]; exact q1.1, by rw [e1.1 2 rfl]; exact q1.2⟩, ?_⟩
              rw [r1]
              exact ⟨q2, q3, q4, q5⟩
            refine lm_G_sg 1 (pc' := 144) (L' := [some (.ref 1), some (.int (nI w)), some (.int (encC (1, valS J T p)))]) (S' := [.ref 1]) (σ' := lm_T M1 v G) rfl trivial ?_
            refine lm_G_ca (j := 26) (as := [.ref 1]) (rest := []) rfl (Or.inl rfl) (Nat.le_of_ble_eq_true rfl) (Nat.le_of_ble_eq_true rfl) (Nat.le_of_ble_eq_true rfl) (Nat.le_of_ble_eq_true rfl) rfl ?_
            refine c_nextToken hT t1.1 el2 t1.2.2.2.1 (fun M2 t2 f2 => ?_)
            show lm_G X (d + (h + 2)) 44 106 0 0 147 [some (.ref 1), some (.int (nI w)), some (.int (encC (1, valS J T p)))] [] (lm_T M2 v G) Q
            refine lm_G_sg 1 (pc' := 148) (L' := [some (.ref 1), some (.int (nI w)), some (.int (encC (1, valS J T p)))]) (S' := [.int 1]) (σ' := lm_T M2 v G) rfl trivial ?_
            exact lm_G_re rfl (by decide) (Nat.zero_le _) (Nat.zero_le _) (hok _ _ (by unfold ptS; rw [if_neg n40, if_neg n2, if_pos k1_, if_neg v6]) _ t2 (CC_R k1 f2) (FrE_tr e1 (FrE_R f2)))
    refine lm_G_sg 2 (pc' := 73) (L' := [some (.ref 1), some (.int (nI w)), none]) (S' := [.int (M 1 6)]) (σ' := lm_T M v G) rfl trivial ?_
    rw [show M 1 6 = nI (knS T p) from ht.2.1]
    refine lm_G_sg 1 (pc' := 74) (L' := [some (.ref 1), some (.int (nI w)), none]) (S' := [.int 2, .int (nI (knS T p))]) (σ' := lm_T M v G) rfl trivial ?_
    refine lm_G_br (b := (nI (knS T p)) = 2) (t := 91) (S' := []) rfl (fun g1 => ?_) (fun g1 => ?_)
    ·
      exact k91 (Or.inl ((nI_eq (b := 2) (by omega) (by omega)).mp g1))
    ·
      refine lm_G_sg 2 (pc' := 81) (L' := [some (.ref 1), some (.int (nI w)), none]) (S' := [.int (M 1 6)]) (σ' := lm_T M v G) rfl trivial ?_
      rw [show M 1 6 = nI (knS T p) from ht.2.1]
      refine lm_G_sg 1 (pc' := 82) (L' := [some (.ref 1), some (.int (nI w)), none]) (S' := [.int 1, .int (nI (knS T p))]) (σ' := lm_T M v G) rfl trivial ?_
      refine lm_G_br (b := (nI (knS T p)) = 1) (t := 91) (S' := []) rfl (fun g2 => ?_) (fun g2 => ?_)
      ·
        exact k91 (Or.inr ((nI_eq (b := 1) (by omega) (by omega)).mp g2))
      ·
        refine lm_G_sg 2 (pc' := 87) (L' := [some (.ref 1), some (.int (nI w)), none]) (S' := [.int 1, .ref 1]) (σ' := lm_T M v G) rfl trivial ?_
        refine lm_G_ca (j := 25) (as := [.ref 1, .int 1]) (rest := []) rfl (Or.inl rfl) (Nat.le_of_ble_eq_true rfl) (Nat.le_of_ble_eq_true rfl) (Nat.le_of_ble_eq_true rfl) (Nat.le_of_ble_eq_true rfl) rfl ?_
        refine c_fail ?_
        show lm_G X (d + (h + 2)) 44 106 0 0 90 [some (.ref 1), some (.int (nI w)), none] [.int 0] (lm_T (lm_wr (lm_wr M 1 10 1) 1 11 (M 1 7)) v G) Q
        exact lm_G_re rfl (by decide) (Nat.zero_le _) (Nat.zero_le _) (her _ _ (by unfold ptS; rw [if_neg n40, if_neg (fun q => g1 (by rw [q]; rfl)), if_neg (fun q => g2 (by rw [q]; rfl))]) _ ⟨rfl, ht.2.2.1⟩ (FrE_f (FrE_rf _)))
