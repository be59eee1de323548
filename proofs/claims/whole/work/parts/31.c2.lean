/-! ===== contracts: the model's leaves ===== -/
theorem lcmp_lt {x y : Int64} : lm_lcmp x y < 0 ↔ x < y := by
  unfold lm_lcmp
  by_cases h : x = y
  · rw [if_pos h, h]
    exact ⟨fun q => absurd q (by decide), fun q => absurd q Int64.lt_irrefl⟩
  · rw [if_neg h]
    by_cases h2 : x < y
    · rw [if_pos h2]; exact ⟨fun _ => h2, fun _ => by decide⟩
    · rw [if_neg h2]; exact ⟨fun q => absurd q (by decide), fun q => absurd q h2⟩
theorem lcmp_gt {x y : Int64} : 0 < lm_lcmp x y ↔ y < x := by
  unfold lm_lcmp
  by_cases h : x = y
  · rw [if_pos h, h]
    exact ⟨fun q => absurd q (by decide), fun q => absurd q Int64.lt_irrefl⟩
  · rw [if_neg h]
    by_cases h2 : x < y
    · rw [if_pos h2]; exact ⟨fun q => absurd q (by decide), fun q => absurd q (Int64.lt_asymm h2)⟩
    · rw [if_neg h2]; exact ⟨fun _ => Int64.lt_of_le_of_ne (Int64.not_lt.mp h2) (Ne.symm h), fun _ => by decide⟩
/-- x is one of 0 to n - 1 -/
def isP (n : Nat) (x : Int32) : Bool := decide (0 ≤ x.toInt ∧ x.toInt < (n : Int))
theorem isP_nI {n : Nat} {x : Int32} (h : isP n x = true) (hn : n ≤ 100) : ∃ j, j < n ∧ x = nI j := by
  unfold isP at h
  rw [decide_eq_true_eq] at h
  exact vp_in_of (vp_in_iff.mpr h) (by omega)
def inL (x y z : Int64) : Bool := decide (y ≤ x ∧ x ≤ z)
theorem inL_P {n : Nat} (hn : n ≤ 100) (x : Int32) : inL x.toInt64 0 (nI n - 1).toInt64 = isP n x := by
  unfold inL isP
  congr 1
  have h1 : (nI n - 1).toInt = (n : Int) - 1 := by
    have := pk_sub_toInt (a := n) (b := 1) (by omega) (by omega)
    exact this
  rw [Int64.le_iff_toInt_le, Int64.le_iff_toInt_le, Int32.toInt_toInt64, Int32.toInt_toInt64, h1]
  apply propext
  constructor
  · intro h
    exact ⟨h.1, by omega⟩
  · intro h
    exact ⟨h.1, by omega⟩
set_option maxRecDepth 10000 in
theorem c_isIn {X : lm_X} {d v : Nat} {M : Nat → Nat → Int32} {G : Nat → Nat → Int64} {Q : lm_O → lm_S → Prop} {x y z : Int64} (hQ : Q (.inl (some (.int (b2i (inL x y z))))) (lm_T M v G)) : lm_Q X d 142 [.long x, .long y, .long z] (lm_T M v G) Q := by
  show lm_G X d 142 106 0 0 0 [some (.long x), none, some (.long y), none, some (.long z), none] [] (lm_T M v G) Q
  refine lm_G_sg 3 (pc' := 3) (L' := [some (.long x), none, some (.long y), none, some (.long z), none]) (S' := [.int (lm_lcmp x y)]) (σ' := lm_T M v G) rfl trivial ?_
  refine lm_G_br (b := (lm_lcmp x y) < 0) (t := 17) (S' := []) rfl (fun h => ?_) (fun h => ?_)
  ·
    refine lm_G_sg 1 (pc' := 18) (L' := [some (.long x), none, some (.long y), none, some (.long z), none]) (S' := [.int 0]) (σ' := lm_T M v G) rfl trivial ?_
    have e : inL x y z = false := decide_eq_false (fun q => Int64.lt_irrefl (Int64.lt_of_lt_of_le (lcmp_lt.mp h) q.1))
    rw [b2i_f e] at hQ
    exact lm_G_re rfl (Or.inl rfl) (Nat.zero_le _) (Nat.zero_le _) hQ
  ·
    refine lm_G_sg 3 (pc' := 10) (L' := [some (.long x), none, some (.long y), none, some (.long z), none]) (S' := [.int (lm_lcmp x z)]) (σ' := lm_T M v G) rfl trivial ?_
    refine lm_G_br (b := 0 < (lm_lcmp x z)) (t := 17) (S' := []) rfl (fun h2 => ?_) (fun h2 => ?_)
    ·
      refine lm_G_sg 1 (pc' := 18) (L' := [some (.long x), none, some (.long y), none, some (.long z), none]) (S' := [.int 0]) (σ' := lm_T M v G) rfl trivial ?_
      have e : inL x y z = false := decide_eq_false (fun q => Int64.lt_irrefl (Int64.lt_of_lt_of_le (lcmp_gt.mp h2) q.2))
      rw [b2i_f e] at hQ
      exact lm_G_re rfl (Or.inl rfl) (Nat.zero_le _) (Nat.zero_le _) hQ
    ·
      refine lm_G_sg 2 (pc' := 18) (L' := [some (.long x), none, some (.long y), none, some (.long z), none]) (S' := [.int 1]) (σ' := lm_T M v G) rfl trivial ?_
      have e : inL x y z = true := decide_eq_true ⟨Int64.not_lt.mp (fun q => h (lcmp_lt.mpr q)), Int64.not_lt.mp (fun q => h2 (lcmp_gt.mpr q))⟩
      rw [b2i_t e] at hQ
      exact lm_G_re rfl (Or.inr rfl) (Nat.zero_le _) (Nat.zero_le _) hQ
set_option maxRecDepth 10000 in
theorem c_isOf {X : lm_X} {d v : Nat} {M : Nat → Nat → Int32} {G : Nat → Nat → Int64} {Q : lm_O → lm_S → Prop} {s k : Int32} (hQ : Q (.inl (some (.int (b2i (decide ((s >>> (k &&& 31)) &&& 1 = 1)))))) (lm_T M v G)) : lm_Q X d 143 [.int s, .int k] (lm_T M v G) Q := by
  show lm_G X d 143 106 0 0 0 [some (.int s), some (.int k)] [] (lm_T M v G) Q
  refine lm_G_sg 6 (pc' := 6) (L' := [some (.int s), some (.int k)]) (S' := [.int 1, .int ((s >>> (k &&& 31)) &&& 1)]) (σ' := lm_T M v G) rfl trivial ?_
  refine lm_G_br (b := ¬ ((s >>> (k &&& 31)) &&& 1) = 1) (t := 13) (S' := []) rfl (fun h => ?_) (fun h => ?_)
  ·
    refine lm_G_sg 1 (pc' := 14) (L' := [some (.int s), some (.int k)]) (S' := [.int 0]) (σ' := lm_T M v G) rfl trivial ?_
    rw [b2i_f (decide_eq_false h)] at hQ
    exact lm_G_re rfl (Or.inl rfl) (Nat.zero_le _) (Nat.zero_le _) hQ
  ·
    refine lm_G_sg 2 (pc' := 14) (L' := [some (.int s), some (.int k)]) (S' := [.int 1]) (σ' := lm_T M v G) rfl trivial ?_
    rw [b2i_t (decide_eq_true (Classical.not_not.mp h))] at hQ
    exact lm_G_re rfl (Or.inr rfl) (Nat.zero_le _) (Nat.zero_le _) hQ
set_option maxRecDepth 10000 in
theorem c_bitsOf {X : lm_X} {d v : Nat} {M : Nat → Nat → Int32} {G : Nat → Nat → Int64} {Q : lm_O → lm_S → Prop} {m : Nat} (hm : m < 256) (hQ : Q (.inl (some (.int (nI (pcN m))))) (lm_T M v G)) : lm_Q X d 144 [.int (nI m)] (lm_T M v G) Q := by
  show lm_G X d 144 106 0 0 0 [some (.int (nI m)), none, none] [] (lm_T M v G) Q
  refine lm_G_sg 4 (pc' := 4) (L' := [some (.int (nI m)), some (.int 0), some (.int (nI m))]) (S' := []) (σ' := lm_T M v G) rfl trivial ?_
  have loop : ∀ n a b, b ≤ n → b < 256 → a + pcN b = pcN m → lm_G X d 144 106 0 0 4 [some (.int (nI m)), some (.int (nI a)), some (.int (nI b))] [] (lm_T M v G) Q := by
    intro n
    induction n with
    | zero =>
      intro a b hb hb2 hab
      have e : b = 0 := by omega
      subst e
      rw [pcN_0, Nat.add_zero] at hab
      subst hab
      refine lm_G_sg 1 (pc' := 5) (L' := [some (.int (nI m)), some (.int (nI (pcN m))), some (.int (nI 0))]) (S' := [.int (nI 0)]) (σ' := lm_T M v G) rfl trivial ?_
      refine lm_G_br (b := (nI 0) = 0) (t := 20) (S' := []) rfl (fun h => ?_) (fun h => absurd rfl h)
      refine lm_G_sg 1 (pc' := 21) (L' := [some (.int (nI m)), some (.int (nI (pcN m))), some (.int (nI 0))]) (S' := [.int (nI (pcN m))]) (σ' := lm_T M v G) rfl trivial ?_
      exact lm_G_re rfl trivial (Nat.zero_le _) (Nat.zero_le _) hQ
    | succ n ih =>
      intro a b hb hb2 hab
      by_cases h0 : b = 0
      ·
        exact ih a b (by omega) hb2 hab
      ·
        obtain ⟨k1, k2, k3⟩ := kern_ok b hb2 h0
        refine lm_G_sg 1 (pc' := 5) (L' := [some (.int (nI m)), some (.int (nI a)), some (.int (nI b))]) (S' := [.int (nI b)]) (σ' := lm_T M v G) rfl trivial ?_
        refine lm_G_br (b := (nI b) = 0) (t := 20) (S' := []) rfl (fun h => absurd h (nI_ne0 (by omega) (by omega))) (fun h => ?_)
        refine lm_G_sg 8 (pc' := 4) (L' := [some (.int (nI m)), some (.int ((nI a) + 1)), some (.int ((nI b) &&& ((nI b) - 1)))]) (S' := []) (σ' := lm_T M v G) rfl trivial ?_
        rw [nI_1, k1]
        exact ih (a + 1) (b &&& (b - 1)) (by omega) (by omega) (by omega)
  exact loop 256 0 m (by omega) hm (Nat.zero_add _)
