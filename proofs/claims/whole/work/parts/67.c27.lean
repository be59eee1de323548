/-! ===== contracts: the tape ===== -/
def frTp (a : Nat) : Bool := decide (a = 1 ∨ a = 2)
def FrTp (M M1 : Nat → Fn) : Prop := Fr frTp M M1 ∧ ∀ k, k ≠ 1 → M1 1 k = M 1 k
theorem FrTp_tr {M M1 M2 : Nat → Fn} (h : FrTp M M1) (h2 : FrTp M1 M2) : FrTp M M2 := ⟨Fr_tr h.1 h2.1, fun k a => (h2.2 k a).trans (h.2 k a)⟩
theorem sh_k (x : Int32) (k : Nat) : vp_nar .byte (((x.toUInt32 >>> ((nI (24 - 8 * k)).toUInt32 &&& Int32.toUInt32 31)).toInt32).toInt8.toInt32) = sB (byN x k) := sh_c (n := 24 - 8 * k) (by omega)
theorem sh_dec : ∀ j, j < 4 → nI (24 - 8 * j) + (-8) = 24 - nI (8 * (j + 1)) := by decide +kernel
set_option maxRecDepth 10000 in
theorem c_putBytes {X : lm_X} {d v : Nat} {M : Nat → Nat → Int32} {G : Nat → Nat → Int64} {Q : lm_O → lm_S → Prop} {x : Int32} {L : Nat} (h1 : M 1 1 = nI L) (hL : L + 4 ≤ 700) (hQ : ∀ M1, M1 1 1 = nI (L + 4) → (∀ i, i < L → M1 2 i = M 2 i) → (∀ k, k < 4 → M1 2 (L + k) = sB (byN x k)) → FrTp M M1 → Q (.inl none) (lm_T M1 v G)) : lm_Q X d 23 [.ref 1, .int x] (lm_T M v G) Q := by
  show lm_G X d 23 106 0 0 0 [some (.ref 1), some (.int x), none] [] (lm_T M v G) Q
  refine lm_G_sg 2 (pc' := 3) (L' := [some (.ref 1), some (.int x), some (.int 24)]) (S' := []) (σ' := lm_T M v G) rfl trivial ?_
  refine lm_ind (α := (Nat → Fn)) (St := fun (j : Nat) zz => (fun (M1 : Nat → Fn) => lm_G X d 23 106 0 0 3 [some (.ref 1), some (.int x), some (.int (24 - nI (8 * j)))] [] (lm_T M1 v G) Q) zz) (Inv := fun (j : Nat) zz => (fun (M1 : Nat → Fn) => M1 1 1 = nI (L + j) ∧ (∀ i, i < L → M1 2 i = M 2 i) ∧ (∀ k, k < j → M1 2 (L + k) = sB (byN x k)) ∧ FrTp M M1) zz) (4) (fun j zz hj hI ih => ?_) (fun zz hI => ?_) (0) M (by omega) ?_
  ·
    revert ih hI
    revert zz
    intro M1 hI ih
    replace hI : M1 1 1 = nI (L + j) ∧ (∀ i, i < L → M1 2 i = M 2 i) ∧ (∀ k, k < j → M1 2 (L + k) = sB (byN x k)) ∧ FrTp M M1 := hI
    replace ih : ∀ (M1 : Nat → Fn) (_ : M1 1 1 = nI (L + (j + 1)) ∧ (∀ i, i < L → M1 2 i = M 2 i) ∧ (∀ k, k < (j + 1) → M1 2 (L + k) = sB (byN x k)) ∧ FrTp M M1), lm_G X d 23 106 0 0 3 [some (.ref 1), some (.int x), some (.int (24 - nI (8 * (j + 1))))] [] (lm_T M1 v G) Q := fun M1 q => ih M1 q
    show lm_G X d 23 106 0 0 3 [some (.ref 1), some (.int x), some (.int (24 - nI (8 * j)))] [] (lm_T M1 v G) Q
    obtain ⟨i1, i2, i3, i4⟩ := hI
    rw [show (24 : Int32) - nI (8 * j) = nI (24 - 8 * j) from nI_sub (a := 24) (by omega)]
    refine lm_G_sg 1 (pc' := 4) (L' := [some (.ref 1), some (.int x), some (.int (nI (24 - 8 * j)))]) (S' := [.int (nI (24 - 8 * j))]) (σ' := lm_T M1 v G) rfl trivial ?_
    refine lm_G_br (b := (nI (24 - 8 * j)) < 0) (t := 46) (S' := []) rfl (fun hc => absurd hc (nI_pos (by omega))) (fun hc => ?_)
    refine lm_G_sg 2 (pc' := 11) (L' := [some (.ref 1), some (.int x), some (.int (nI (24 - 8 * j)))]) (S' := [.int (M1 1 1)]) (σ' := lm_T M1 v G) rfl trivial ?_
    rw [show M1 1 1 = nI (L + j) from i1]
    refine lm_G_sg 1 (pc' := 14) (L' := [some (.ref 1), some (.int x), some (.int (nI (24 - 8 * j)))]) (S' := [.int 700, .int (nI (L + j))]) (σ' := lm_T M1 v G) rfl trivial ?_
    refine lm_G_br (b := 700 ≤ (nI (L + j))) (t := 40) (S' := []) rfl (fun hc => absurd hc (nI_ge (b := 700) (by omega) (by omega))) (fun hc => ?_)
    refine lm_G_sg 4 (pc' := 25) (L' := [some (.ref 1), some (.int x), some (.int (nI (24 - 8 * j)))]) (S' := [.int (M1 1 1), .ref 2]) (σ' := lm_T M1 v G) rfl trivial ?_
    rw [show M1 1 1 = nI (L + j) from i1]
    refine lm_G_sg 5 (pc' := 30) (L' := [some (.ref 1), some (.int x), some (.int (nI (24 - 8 * j)))]) (S' := []) (σ' := lm_T (lm_wr M1 2 ((nI (L + j)).toNatClampNeg) (vp_nar .byte (((x.toUInt32 >>> ((nI (24 - 8 * j)).toUInt32 &&& Int32.toUInt32 31)).toInt32).toInt8.toInt32))) v G) rfl ⟨(vp_in_nI (by omega) (by omega)), trivial, trivial⟩ ?_
    rw [show (nI (L + j)).toNatClampNeg = (L + j) from nI_clamp (by omega)]
    rw [show vp_nar .byte (((x.toUInt32 >>> ((nI (24 - 8 * j)).toUInt32 &&& Int32.toUInt32 31)).toInt32).toInt8.toInt32) = sB (byN x j) from sh_k x j]
    refine lm_G_sg 3 (pc' := 35) (L' := [some (.ref 1), some (.int x), some (.int (nI (24 - 8 * j)))]) (S' := [.int (M1 1 1), .ref 1]) (σ' := lm_T (lm_wr M1 2 (L + j) (sB (byN x j))) v G) rfl trivial ?_
    rw [show M1 1 1 = nI (L + j) from i1]
    refine lm_G_sg 2 (pc' := 37) (L' := [some (.ref 1), some (.int x), some (.int (nI (24 - 8 * j)))]) (S' := [.int ((nI (L + j)) + 1), .ref 1]) (σ' := lm_T (lm_wr M1 2 (L + j) (sB (byN x j))) v G) rfl trivial ?_
    rw [show (nI (L + j)) + 1 = nI ((L + j) + 1) from nI_add (L + j) 1]
    refine lm_G_sg 2 (pc' := 43) (L' := [some (.ref 1), some (.int x), some (.int ((nI (24 - 8 * j)) + (-8)))]) (S' := []) (σ' := lm_T (lm_wr (lm_wr M1 2 (L + j) (sB (byN x j))) 1 1 (nI ((L + j) + 1))) v G) rfl ⟨trivial, trivial, trivial⟩ ?_
    rw [sh_dec j hj]
    refine lm_G_sg 1 (pc' := 3) (L' := [some (.ref 1), some (.int x), some (.int (24 - nI (8 * (j + 1))))]) (S' := []) (σ' := lm_T (lm_wr (lm_wr M1 2 (L + j) (sB (byN x j))) 1 1 (nI ((L + j) + 1))) v G) rfl trivial ?_
    exact ih _ (⟨rfl, fun i hi => by rw [wr_row (by decide), wr_at (by omega)]; exact i2 i hi, fun k hk => if e : k = j then (by rw [e, wr_row (by decide), wr_same]) else (by rw [wr_row (by decide), wr_at (by omega)]; exact i3 k (by omega)), ⟨Fr_wr (Fr_wr i4.1 rfl) rfl, fun k hk => (wr_at hk).trans (i4.2 k hk)⟩⟩)
  ·
    revert hI
    revert zz
    intro M1 hI
    replace hI : M1 1 1 = nI (L + 4) ∧ (∀ i, i < L → M1 2 i = M 2 i) ∧ (∀ k, k < 4 → M1 2 (L + k) = sB (byN x k)) ∧ FrTp M M1 := hI
    show lm_G X d 23 106 0 0 3 [some (.ref 1), some (.int x), some (.int (24 - nI (8 * 4)))] [] (lm_T M1 v G) Q
    obtain ⟨i1, i2, i3, i4⟩ := hI
    refine lm_G_sg 1 (pc' := 4) (L' := [some (.ref 1), some (.int x), some (.int (24 - nI (8 * 4)))]) (S' := [.int (24 - nI (8 * 4))]) (σ' := lm_T M1 v G) rfl trivial ?_
    refine lm_G_br (b := (24 - nI (8 * 4)) < 0) (t := 46) (S' := []) rfl (fun hc => ?_) (fun hc => absurd (by decide) hc)
    exact lm_G_re rfl trivial (Nat.zero_le _) (Nat.zero_le _) (hQ M1 i1 i2 i3 i4)
  ·
    try dsimp only
    exact ⟨h1, fun _ _ => rfl, fun k hk => absurd hk (Nat.not_lt_zero k), Fr_rf _ _, fun _ _ => rfl⟩
set_option maxRecDepth 10000 in
theorem c_feed {X : lm_X} {d v : Nat} {M : Nat → Nat → Int32} {G : Nat → Nat → Int64} {Q : lm_O → lm_S → Prop} {a b c d_ e_ : Int32} {L : Nat} {tp : Nat → Nat} (ht : CT M L tp) (hL : L ≤ 700) (hQ : (L + 20 ≤ 700 → ∀ M1, CT M1 (L + 20) (feS tp L a b c d_ e_) → FrTp M M1 → Q (.inl (some (.int (nI (L + 20))))) (lm_T M1 v G)) ∧ (¬ L + 20 ≤ 700 → Q (.inl (some (.int (-1)))) (lm_T M v G))) : lm_Q X (d + 1) 86 [.ref 0, .int a, .int b, .int c, .int d_, .int e_] (lm_T M v G) Q := by
  show lm_G X (d + 1) 86 106 0 0 0 [some (.ref 0), some (.int a), some (.int b), some (.int c), some (.int d_), some (.int e_)] [] (lm_T M v G) Q
  refine lm_G_sg 3 (pc' := 7) (L' := [some (.ref 0), some (.int a), some (.int b), some (.int c), some (.int d_), some (.int e_)]) (S' := [.int (M 1 1)]) (σ' := lm_T M v G) rfl trivial ?_
  rw [show M 1 1 = nI L from ht.1]
  refine lm_G_sg 2 (pc' := 10) (L' := [some (.ref 0), some (.int a), some (.int b), some (.int c), some (.int d_), some (.int e_)]) (S' := [.int ((nI L) + 20)]) (σ' := lm_T M v G) rfl trivial ?_
  rw [show (nI L) + 20 = nI (L + 20) from nI_add L 20]
  refine lm_G_sg 1 (pc' := 13) (L' := [some (.ref 0), some (.int a), some (.int b), some (.int c), some (.int d_), some (.int e_)]) (S' := [.int 700, .int (nI (L + 20))]) (σ' := lm_T M v G) rfl trivial ?_
  refine lm_G_br (b := (nI (L + 20)) ≤ 700) (t := 18) (S' := []) rfl (fun h1 => ?_) (fun h1 => ?_)
  rotate_left
  ·
    have e0 : ¬ L + 20 ≤ 700 := fun w => h1 (nI_le (b := 700) w (by omega))
    refine lm_G_sg 1 (pc' := 17) (L' := [some (.ref 0), some (.int a), some (.int b), some (.int c), some (.int d_), some (.int e_)]) (S' := [.int (-1)]) (σ' := lm_T M v G) rfl trivial ?_
    exact lm_G_re rfl trivial (Nat.zero_le _) (Nat.zero_le _) (hQ.2 e0)
  ·
    have e0 : L + 20 ≤ 700 := (nI_leI (b := 700) (by omega) (by omega)).mp h1
    refine lm_G_sg 3 (pc' := 23) (L' := [some (.ref 0), some (.int a), some (.int b), some (.int c), some (.int d_), some (.int e_)]) (S' := [.int a, .ref 1]) (σ' := lm_T M v G) rfl trivial ?_
    refine lm_G_ca (j := 23) (as := [.ref 1, .int a]) (rest := []) rfl (Or.inl rfl) (Nat.le_of_ble_eq_true rfl) (Nat.le_of_ble_eq_true rfl) (Nat.le_of_ble_eq_true rfl) (Nat.le_of_ble_eq_true rfl) rfl ?_
    refine c_putBytes (L := L) ht.1 (by omega) (fun M1 a0 b0 c0 d0 => ?_)
    show lm_G X (d + 1) 86 106 0 0 26 [some (.ref 0), some (.int a), some (.int b), some (.int c), some (.int d_), some (.int e_)] [] (lm_T M1 v G) Q
    refine lm_G_sg 3 (pc' := 31) (L' := [some (.ref 0), some (.int a), some (.int b), some (.int c), some (.int d_), some (.int e_)]) (S' := [.int b, .ref 1]) (σ' := lm_T M1 v G) rfl trivial ?_
    refine lm_G_ca (j := 23) (as := [.ref 1, .int b]) (rest := []) rfl (Or.inl rfl) (Nat.le_of_ble_eq_true rfl) (Nat.le_of_ble_eq_true rfl) (Nat.le_of_ble_eq_true rfl) (Nat.le_of_ble_eq_true rfl) rfl ?_
    refine c_putBytes (L := L + 4) a0 (by omega) (fun M2 a1 b1 c1 d1 => ?_)
    show lm_G X (d + 1) 86 106 0 0 34 [some (.ref 0), some (.int a), some (.int b), some (.int c), some (.int d_), some (.int e_)] [] (lm_T M2 v G) Q
    refine lm_G_sg 3 (pc' := 39) (L' := [some (.ref 0), some (.int a), some (.int b), some (.int c), some (.int d_), some (.int e_)]) (S' := [.int c, .ref 1]) (σ' := lm_T M2 v G) rfl trivial ?_
    refine lm_G_ca (j := 23) (as := [.ref 1, .int c]) (rest := []) rfl (Or.inl rfl) (Nat.le_of_ble_eq_true rfl) (Nat.le_of_ble_eq_true rfl) (Nat.le_of_ble_eq_true rfl) (Nat.le_of_ble_eq_true rfl) rfl ?_
    refine c_putBytes (L := L + 8) a1 (by omega) (fun M3 a2 b2 c2 d2 => ?_)
    show lm_G X (d + 1) 86 106 0 0 42 [some (.ref 0), some (.int a), some (.int b), some (.int c), some (.int d_), some (.int e_)] [] (lm_T M3 v G) Q
    refine lm_G_sg 3 (pc' := 48) (L' := [some (.ref 0), some (.int a), some (.int b), some (.int c), some (.int d_), some (.int e_)]) (S' := [.int d_, .ref 1]) (σ' := lm_T M3 v G) rfl trivial ?_
    refine lm_G_ca (j := 23) (as := [.ref 1, .int d_]) (rest := []) rfl (Or.inl rfl) (Nat.le_of_ble_eq_true rfl) (Nat.le_of_ble_eq_true rfl) (Nat.le_of_ble_eq_true rfl) (Nat.le_of_ble_eq_true rfl) rfl ?_
    refine c_putBytes (L := L + 12) a2 (by omega) (fun M4 a3 b3 c3 d3 => ?_)
    show lm_G X (d + 1) 86 106 0 0 51 [some (.ref 0), some (.int a), some (.int b), some (.int c), some (.int d_), some (.int e_)] [] (lm_T M4 v G) Q
    refine lm_G_sg 3 (pc' := 57) (L' := [some (.ref 0), some (.int a), some (.int b), some (.int c), some (.int d_), some (.int e_)]) (S' := [.int e_, .ref 1]) (σ' := lm_T M4 v G) rfl trivial ?_
    refine lm_G_ca (j := 23) (as := [.ref 1, .int e_]) (rest := []) rfl (Or.inl rfl) (Nat.le_of_ble_eq_true rfl) (Nat.le_of_ble_eq_true rfl) (Nat.le_of_ble_eq_true rfl) (Nat.le_of_ble_eq_true rfl) rfl ?_
    refine c_putBytes (L := L + 16) a3 (by omega) (fun M5 a4 b4 c4 d4 => ?_)
    show lm_G X (d + 1) 86 106 0 0 60 [some (.ref 0), some (.int a), some (.int b), some (.int c), some (.int d_), some (.int e_)] [] (lm_T M5 v G) Q
    refine lm_G_sg 3 (pc' := 67) (L' := [some (.ref 0), some (.int a), some (.int b), some (.int c), some (.int d_), some (.int e_)]) (S' := [.int (M5 1 1)]) (σ' := lm_T M5 v G) rfl trivial ?_
    rw [show M5 1 1 = nI (L + 20) from a4]
    have eT : CT M5 (L + 20) (feS tp L a b c d_ e_) := by
      refine ⟨a4, fun i hi => ?_⟩
      unfold feS
      by_cases w0 : i < L
      · rw [if_pos w0, b4 i (by omega), b3 i (by omega), b2 i (by omega), b1 i (by omega), b0 i (by omega)]
        exact ht.2 i w0
      · rw [if_neg w0]
        obtain ⟨k, rfl⟩ : ∃ k, i = L + k := ⟨i - L, by omega⟩
        rw [Nat.add_sub_cancel_left]
        unfold wdS
        by_cases w1 : k < 4
        · rw [if_pos w1, b4 _ (by omega), b3 _ (by omega), b2 _ (by omega), b1 _ (by omega), c0 k w1, Nat.mod_eq_of_lt w1]
        · rw [if_neg w1]
          by_cases w2 : k < 8
          · rw [if_pos w2, b4 _ (by omega), b3 _ (by omega), b2 _ (by omega), show L + k = L + 4 + (k - 4) by omega, c1 (k - 4) (by omega), show k % 4 = k - 4 by omega]
          · rw [if_neg w2]
            by_cases w3 : k < 12
            · rw [if_pos w3, b4 _ (by omega), b3 _ (by omega), show L + k = L + 8 + (k - 8) by omega, c2 (k - 8) (by omega), show k % 4 = k - 8 by omega]
            · rw [if_neg w3]
              by_cases w4 : k < 16
              · rw [if_pos w4, b4 _ (by omega), show L + k = L + 12 + (k - 12) by omega, c3 (k - 12) (by omega), show k % 4 = k - 12 by omega]
              · rw [if_neg w4, show L + k = L + 16 + (k - 16) by omega, c4 (k - 16) (by omega), show k % 4 = k - 16 by omega]
    exact lm_G_re rfl trivial (Nat.zero_le _) (Nat.zero_le _) (hQ.1 e0 _ eT (FrTp_tr (FrTp_tr (FrTp_tr (FrTp_tr d0 d1) d2) d3) d4))
def frMt (a : Nat) : Bool := decide (a = 64 ∨ a = 80)
def FrMt (M M1 : Nat → Fn) : Prop := Fr frMt M M1 ∧ ∀ k, k ≠ 4 → k ≠ 18 → M1 64 k = M 64 k
set_option maxRecDepth 10000 in
theorem m_feed {X : lm_X} {d v : Nat} {M : Nat → Nat → Int32} {G : Nat → Nat → Int64} {Q : lm_O → lm_S → Prop} {a b c d_ e_ : Int32} {L : Nat} {tp : Nat → Nat} (ht : MT M L tp) (hL : L ≤ 700) (hQ : (L + 20 ≤ 700 → ∀ M1, MT M1 (L + 20) (feS tp L a b c d_ e_) → FrMt M M1 → M1 64 4 = 0 → Q (.inl (some (.int (nI (L + 20))))) (lm_T M1 v G)) ∧ (¬ L + 20 ≤ 700 → ∀ M1, MT M1 L tp → FrMt M M1 → M1 64 4 = 0 → Q (.inl (some (.int (-1)))) (lm_T M1 v G))) : lm_Q X d 148 [.ref 64, .int a, .int b, .int c, .int d_, .int e_] (lm_T M v G) Q := by
  show lm_G X d 148 106 0 0 0 [some (.ref 64), some (.int a), some (.int b), some (.int c), some (.int d_), some (.int e_), none, none] [] (lm_T M v G) Q
  refine lm_G_sg 3 (pc' := 5) (L' := [some (.ref 64), some (.int a), some (.int b), some (.int c), some (.int d_), some (.int e_), none, none]) (S' := []) (σ' := lm_T (lm_wr M 64 4 0) v G) rfl ⟨trivial, trivial, trivial⟩ ?_
  have t0 : MT (lm_wr M 64 4 0) L tp := ⟨ht.1, ht.2⟩
  have f0 : FrMt M (lm_wr M 64 4 0) := ⟨Fr_wr (Fr_rf _ _) rfl, fun k a1 _ => wr_at a1⟩
  have c0 : (lm_wr M 64 4 0) 64 4 = 0 := wr_same
  revert t0 f0 c0
  generalize lm_wr M 64 4 0 = M0
  intro t0 f0 c0
  refine lm_G_sg 2 (pc' := 9) (L' := [some (.ref 64), some (.int a), some (.int b), some (.int c), some (.int d_), some (.int e_), none, none]) (S' := [.int (M0 64 18)]) (σ' := lm_T M0 v G) rfl trivial ?_
  rw [show M0 64 18 = nI L from t0.1]
  refine lm_G_sg 2 (pc' := 12) (L' := [some (.ref 64), some (.int a), some (.int b), some (.int c), some (.int d_), some (.int e_), none, none]) (S' := [.int ((nI L) + 20)]) (σ' := lm_T M0 v G) rfl trivial ?_
  rw [show (nI L) + 20 = nI (L + 20) from nI_add L 20]
  refine lm_G_sg 1 (pc' := 15) (L' := [some (.ref 64), some (.int a), some (.int b), some (.int c), some (.int d_), some (.int e_), none, none]) (S' := [.int 700, .int (nI (L + 20))]) (σ' := lm_T M0 v G) rfl trivial ?_
  refine lm_G_br (b := (nI (L + 20)) ≤ 700) (t := 20) (S' := []) rfl (fun h1 => ?_) (fun h1 => ?_)
  rotate_left
  ·
    have e0 : ¬ L + 20 ≤ 700 := fun w => h1 (nI_le (b := 700) w (by omega))
    refine lm_G_sg 1 (pc' := 19) (L' := [some (.ref 64), some (.int a), some (.int b), some (.int c), some (.int d_), some (.int e_), none, none]) (S' := [.int (-1)]) (σ' := lm_T M0 v G) rfl trivial ?_
    exact lm_G_re rfl trivial (Nat.zero_le _) (Nat.zero_le _) (hQ.2 e0 _ t0 f0 c0)
  ·
    have e0 : L + 20 ≤ 700 := (nI_leI (b := 700) (by omega) (by omega)).mp h1
    refine lm_G_sg 2 (pc' := 23) (L' := [some (.ref 64), some (.int a), some (.int b), some (.int c), some (.int d_), some (.int e_), some (.int 0), none]) (S' := []) (σ' := lm_T M0 v G) rfl trivial ?_
    refine lm_ind (α := (Nat → Fn)) (St := fun (j : Nat) zz => (fun (M1 : Nat → Fn) => lm_G X d 148 106 0 0 23 [some (.ref 64), some (.int a), some (.int b), some (.int c), some (.int d_), some (.int e_), some (.int (nI j)), none] [] (lm_T M1 v G) Q) zz) (Inv := fun (j : Nat) zz => (fun (M1 : Nat → Fn) => MT M1 (L + j) (feS tp L a b c d_ e_) ∧ FrMt M M1 ∧ M1 64 4 = 0) zz) (20) (fun j zz hj hI ih => ?_) (fun zz hI => ?_) (0) M0 (by omega) ?_
    ·
      revert ih hI
      revert zz
      intro M1 hI ih
      replace hI : MT M1 (L + j) (feS tp L a b c d_ e_) ∧ FrMt M M1 ∧ M1 64 4 = 0 := hI
      replace ih : ∀ (M1 : Nat → Fn) (_ : MT M1 (L + (j + 1)) (feS tp L a b c d_ e_) ∧ FrMt M M1 ∧ M1 64 4 = 0), lm_G X d 148 106 0 0 23 [some (.ref 64), some (.int a), some (.int b), some (.int c), some (.int d_), some (.int e_), some (.int (nI (j + 1))), none] [] (lm_T M1 v G) Q := fun M1 q => ih M1 q
      show lm_G X d 148 106 0 0 23 [some (.ref 64), some (.int a), some (.int b), some (.int c), some (.int d_), some (.int e_), some (.int (nI j)), none] [] (lm_T M1 v G) Q
      obtain ⟨t1, f1, c1⟩ := hI
      have k78 : ∀ (w : Int32) (ew : w = wdS a b c d_ e_ j), lm_G X d 148 106 0 0 78 [some (.ref 64), some (.int a), some (.int b), some (.int c), some (.int d_), some (.int e_), some (.int (nI j)), some (.int w)] [] (lm_T M1 v G) Q := by
        intro w ew
        refine lm_G_sg 4 (pc' := 86) (L' := [some (.ref 64), some (.int a), some (.int b), some (.int c), some (.int d_), some (.int e_), some (.int (nI j)), some (.int w)]) (S' := [.int (M1 64 18), .ref 80]) (σ' := lm_T M1 v G) rfl trivial ?_
        rw [show M1 64 18 = nI (L + j) from t1.1]
        refine lm_G_sg 6 (pc' := 96) (L' := [some (.ref 64), some (.int a), some (.int b), some (.int c), some (.int d_), some (.int e_), some (.int (nI j)), some (.int w)]) (S' := [.int ((nI j) - (nI j) / 4 * 4), .int 8, .int 24, .int w, .int (nI (L + j)), .ref 80]) (σ' := lm_T M1 v G) rfl ⟨(by decide), trivial, trivial⟩ ?_
        rw [show (nI j) - (nI j) / 4 * 4 = nI (j % 4) from nI_rem (b := 4) (by omega) (by omega)]
        refine lm_G_sg 1 (pc' := 97) (L' := [some (.ref 64), some (.int a), some (.int b), some (.int c), some (.int d_), some (.int e_), some (.int (nI j)), some (.int w)]) (S' := [.int (8 * (nI (j % 4))), .int 24, .int w, .int (nI (L + j)), .ref 80]) (σ' := lm_T M1 v G) rfl trivial ?_
        rw [show 8 * (nI (j % 4)) = nI (8 * (j % 4)) from pk_mul 8 (j % 4)]
        refine lm_G_sg 1 (pc' := 98) (L' := [some (.ref 64), some (.int a), some (.int b), some (.int c), some (.int d_), some (.int e_), some (.int (nI j)), some (.int w)]) (S' := [.int (24 - (nI (8 * (j % 4)))), .int w, .int (nI (L + j)), .ref 80]) (σ' := lm_T M1 v G) rfl trivial ?_
        rw [show (24 : Int32) - (nI (8 * (j % 4))) = nI (24 - 8 * (j % 4)) from nI_sub (a := 24) (by omega)]
        refine lm_G_sg 3 (pc' := 103) (L' := [some (.ref 64), some (.int a), some (.int b), some (.int c), some (.int d_), some (.int e_), some (.int (nI j)), some (.int w)]) (S' := [.int ((w >>> ((nI (24 - 8 * (j % 4))) &&& 31)) &&& 255), .int (nI (L + j)), .ref 80]) (σ' := lm_T M1 v G) rfl trivial ?_
        rw [sh_s (w := w) (n := 24 - 8 * (j % 4)) (by omega)]
        show lm_G X d 148 106 0 0 103 [some (.ref 64), some (.int a), some (.int b), some (.int c), some (.int d_), some (.int e_), some (.int (nI j)), some (.int w)] [.int (nI (byN w (j % 4))), .int (nI (L + j)), .ref 80] (lm_T M1 v G) Q
        refine lm_G_sg 1 (pc' := 104) (L' := [some (.ref 64), some (.int a), some (.int b), some (.int c), some (.int d_), some (.int e_), some (.int (nI j)), some (.int w)]) (S' := []) (σ' := lm_T (lm_wr M1 80 ((nI (L + j)).toNatClampNeg) (nI (byN w (j % 4)))) v G) rfl ⟨(vp_in_nI (by omega) (by omega)), trivial, trivial⟩ ?_
        rw [show (nI (L + j)).toNatClampNeg = (L + j) from nI_clamp (by omega)]
        refine lm_G_sg 3 (pc' := 109) (L' := [some (.ref 64), some (.int a), some (.int b), some (.int c), some (.int d_), some (.int e_), some (.int (nI j)), some (.int w)]) (S' := [.int (M1 64 18), .ref 64]) (σ' := lm_T (lm_wr M1 80 (L + j) (nI (byN w (j % 4)))) v G) rfl trivial ?_
        rw [show M1 64 18 = nI (L + j) from t1.1]
        refine lm_G_sg 2 (pc' := 111) (L' := [some (.ref 64), some (.int a), some (.int b), some (.int c), some (.int d_), some (.int e_), some (.int (nI j)), some (.int w)]) (S' := [.int ((nI (L + j)) + 1), .ref 64]) (σ' := lm_T (lm_wr M1 80 (L + j) (nI (byN w (j % 4)))) v G) rfl trivial ?_
        rw [show (nI (L + j)) + 1 = nI ((L + j) + 1) from nI_add (L + j) 1]
        refine lm_G_sg 2 (pc' := 117) (L' := [some (.ref 64), some (.int a), some (.int b), some (.int c), some (.int d_), some (.int e_), some (.int ((nI j) + 1)), some (.int w)]) (S' := []) (σ' := lm_T (lm_wr (lm_wr M1 80 (L + j) (nI (byN w (j % 4)))) 64 18 (nI ((L + j) + 1))) v G) rfl ⟨trivial, trivial, trivial⟩ ?_
        rw [nI_1]
        refine lm_G_sg 1 (pc' := 23) (L' := [some (.ref 64), some (.int a), some (.int b), some (.int c), some (.int d_), some (.int e_), some (.int (nI (j + 1))), some (.int w)]) (S' := []) (σ' := lm_T (lm_wr (lm_wr M1 80 (L + j) (nI (byN w (j % 4)))) 64 18 (nI ((L + j) + 1))) v G) rfl trivial ?_
        refine lm_G_jk (L := [some (.ref 64), some (.int a), some (.int b), some (.int c), some (.int d_), some (.int e_), some (.int (nI (j + 1))), none]) ⟨rfl, rfl, rfl, rfl, rfl, rfl, rfl, trivial⟩ ?_
        exact ih _ (⟨⟨rfl, fun i hi => by
                  show upd (M1 80) (L + j) _ i = _
                  by_cases e : i = L + j
                  · rw [e, pk_us, ew]
                    unfold feS
                    rw [if_neg (by omega), Nat.add_sub_cancel_left]
                  · rw [pk_un e]
                    exact t1.2 i (by omega)⟩, ⟨Fr_wr (Fr_wr f1.1 rfl) rfl, fun k a1 a2 => (wr_at a2).trans (f1.2 k a1 a2)⟩, c1⟩)
      refine lm_G_sg 2 (pc' := 27) (L' := [some (.ref 64), some (.int a), some (.int b), some (.int c), some (.int d_), some (.int e_), some (.int (nI j)), none]) (S' := [.int 20, .int (nI j)]) (σ' := lm_T M1 v G) rfl trivial ?_
      refine lm_G_br (b := 20 ≤ (nI j)) (t := 120) (S' := []) rfl (fun hc => absurd hc (nI_ge (b := 20) hj (by omega))) (fun hc => ?_)
      refine lm_G_sg 2 (pc' := 33) (L' := [some (.ref 64), some (.int a), some (.int b), some (.int c), some (.int d_), some (.int e_), some (.int (nI j)), none]) (S' := [.int 4, .int (nI j)]) (σ' := lm_T M1 v G) rfl trivial ?_
      refine lm_G_br (b := 4 ≤ (nI j)) (t := 40) (S' := []) rfl (fun g4 => ?_) (fun g4 => ?_)
      rotate_left
      ·
        have u4 : j < 4 := Nat.lt_of_not_le (fun w => g4 (nI_le (a := 4) w (by omega)))
        refine lm_G_sg 3 (pc' := 78) (L' := [some (.ref 64), some (.int a), some (.int b), some (.int c), some (.int d_), some (.int e_), some (.int (nI j)), some (.int a)]) (S' := []) (σ' := lm_T M1 v G) rfl trivial ?_
        exact k78 _ (by unfold wdS; rw [if_pos u4])
      ·
        have n4 : ¬ j < 4 := fun w => nI_ge (b := 4) w (by omega) g4
        refine lm_G_sg 2 (pc' := 44) (L' := [some (.ref 64), some (.int a), some (.int b), some (.int c), some (.int d_), some (.int e_), some (.int (nI j)), none]) (S' := [.int 8, .int (nI j)]) (σ' := lm_T M1 v G) rfl trivial ?_
        refine lm_G_br (b := 8 ≤ (nI j)) (t := 51) (S' := []) rfl (fun g8 => ?_) (fun g8 => ?_)
        rotate_left
        ·
          have u8 : j < 8 := Nat.lt_of_not_le (fun w => g8 (nI_le (a := 8) w (by omega)))
          refine lm_G_sg 3 (pc' := 78) (L' := [some (.ref 64), some (.int a), some (.int b), some (.int c), some (.int d_), some (.int e_), some (.int (nI j)), some (.int b)]) (S' := []) (σ' := lm_T M1 v G) rfl trivial ?_
          exact k78 _ (by unfold wdS; rw [if_neg n4, if_pos u8])
        ·
          have n8 : ¬ j < 8 := fun w => nI_ge (b := 8) w (by omega) g8
          refine lm_G_sg 2 (pc' := 55) (L' := [some (.ref 64), some (.int a), some (.int b), some (.int c), some (.int d_), some (.int e_), some (.int (nI j)), none]) (S' := [.int 12, .int (nI j)]) (σ' := lm_T M1 v G) rfl trivial ?_
          refine lm_G_br (b := 12 ≤ (nI j)) (t := 62) (S' := []) rfl (fun g12 => ?_) (fun g12 => ?_)
          rotate_left
          ·
            have u12 : j < 12 := Nat.lt_of_not_le (fun w => g12 (nI_le (a := 12) w (by omega)))
            refine lm_G_sg 3 (pc' := 78) (L' := [some (.ref 64), some (.int a), some (.int b), some (.int c), some (.int d_), some (.int e_), some (.int (nI j)), some (.int c)]) (S' := []) (σ' := lm_T M1 v G) rfl trivial ?_
            exact k78 _ (by unfold wdS; rw [if_neg n4, if_neg n8, if_pos u12])
          ·
            have n12 : ¬ j < 12 := fun w => nI_ge (b := 12) w (by omega) g12
            refine lm_G_sg 2 (pc' := 66) (L' := [some (.ref 64), some (.int a), some (.int b), some (.int c), some (.int d_), some (.int e_), some (.int (nI j)), none]) (S' := [.int 16, .int (nI j)]) (σ' := lm_T M1 v G) rfl trivial ?_
            refine lm_G_br (b := 16 ≤ (nI j)) (t := 74) (S' := []) rfl (fun g16 => ?_) (fun g16 => ?_)
            rotate_left
            ·
              have u16 : j < 16 := Nat.lt_of_not_le (fun w => g16 (nI_le (a := 16) w (by omega)))
              refine lm_G_sg 3 (pc' := 78) (L' := [some (.ref 64), some (.int a), some (.int b), some (.int c), some (.int d_), some (.int e_), some (.int (nI j)), some (.int d_)]) (S' := []) (σ' := lm_T M1 v G) rfl trivial ?_
              exact k78 _ (by unfold wdS; rw [if_neg n4, if_neg n8, if_neg n12, if_pos u16])
            ·
              have n16 : ¬ j < 16 := fun w => nI_ge (b := 16) w (by omega) g16
              refine lm_G_sg 2 (pc' := 78) (L' := [some (.ref 64), some (.int a), some (.int b), some (.int c), some (.int d_), some (.int e_), some (.int (nI j)), some (.int e_)]) (S' := []) (σ' := lm_T M1 v G) rfl trivial ?_
              exact k78 _ (by unfold wdS; rw [if_neg n4, if_neg n8, if_neg n12, if_neg n16])
    ·
      revert hI
      revert zz
      intro M1 hI
      replace hI : MT M1 (L + 20) (feS tp L a b c d_ e_) ∧ FrMt M M1 ∧ M1 64 4 = 0 := hI
      show lm_G X d 148 106 0 0 23 [some (.ref 64), some (.int a), some (.int b), some (.int c), some (.int d_), some (.int e_), some (.int (nI 20)), none] [] (lm_T M1 v G) Q
      obtain ⟨t1, f1, c1⟩ := hI
      refine lm_G_sg 2 (pc' := 27) (L' := [some (.ref 64), some (.int a), some (.int b), some (.int c), some (.int d_), some (.int e_), some (.int (nI 20)), none]) (S' := [.int 20, .int (nI 20)]) (σ' := lm_T M1 v G) rfl trivial ?_
      refine lm_G_br (b := 20 ≤ (nI 20)) (t := 120) (S' := []) rfl (fun hc => ?_) (fun hc => absurd (nI_le (a := 20) (Nat.le_refl _) (by omega)) hc)
      refine lm_G_sg 2 (pc' := 124) (L' := [some (.ref 64), some (.int a), some (.int b), some (.int c), some (.int d_), some (.int e_), some (.int (nI 20)), none]) (S' := [.int (M1 64 18)]) (σ' := lm_T M1 v G) rfl trivial ?_
      rw [show M1 64 18 = nI (L + 20) from t1.1]
      exact lm_G_re rfl trivial (Nat.zero_le _) (Nat.zero_le _) (hQ.1 e0 _ t1 f1 c1)
    ·
      try dsimp only
      exact ⟨⟨t0.1, fun i hi => by unfold feS; rw [if_pos (by omega)]; exact t0.2 i (by omega)⟩, f0, c0⟩
