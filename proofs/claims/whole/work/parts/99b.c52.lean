/-! ===== the law's loop ===== -/
theorem and63 (x : Int32) : ∃ t, t < 64 ∧ x &&& 63 = nI t := by
  have h : (63 &&& x.toBitVec.toNat) ≤ 63 := Nat.and_le_left
  refine ⟨63 &&& x.toBitVec.toNat, by omega, ?_⟩
  apply Int32.toBitVec_inj.mp
  rw [Int32.toBitVec_and]
  apply BitVec.eq_of_toNat_eq
  rw [BitVec.toNat_and]
  show x.toBitVec.toNat &&& 63 = (BitVec.ofNat 32 _).toNat
  rw [BitVec.toNat_ofNat, Nat.and_comm, Nat.mod_eq_of_lt (by omega)]
theorem hd_no {n q : Nat} (hn : n ≤ 3072) (h : q + 6 ≤ n) : ¬ nI n - 6 < nI q := by
  rw [show nI n - 6 = nI (n - 6) from nI_sub (b := 6) (by omega)]
  exact nI_nlt (by omega) (by omega)
theorem hd_neg : ∀ n, n < 6 → nI n - 6 < 0 := by decide +kernel
theorem hd_yes {n q : Nat} (hn : n ≤ 3072) (hq : q ≤ 4000) (h : ¬ q + 6 ≤ n) : nI n - 6 < nI q := by
  by_cases h6 : n < 6
  · exact Int32.lt_of_lt_of_le (hd_neg n h6) (nI_pos' (by omega))
  · rw [show nI n - 6 = nI (n - 6) from nI_sub (b := 6) (by omega)]
    exact nI_lt (by omega) (by omega)
set_option maxRecDepth 10000 in
theorem law_go {X : lm_X} (hX : X.1 ≤ 3072) : ∀ (f q c k : Nat) (M : Nat → Nat → Int32) (v : Nat) (G : Nat → Nat → Int64), X.1 < q + 6 * f → q ≤ X.1 + 6 → c + 2 * f ≤ 601024 → k + 12 * f ≤ 7293034 → WI M → lm_G X 100 272 0 c k 23 (lm_LL (nI q)) [] (lm_T M v G) (fun o _ => o = .inl (some (.int 1))) := by
  intro f
  induction f with
  | zero =>
    intro q c k M v G h1 h2 h3 h4 hW
    refine lm_G_sg 5 (pc' := 30) (L' := lm_LL (nI q)) (S' := [.int (nI X.1 - 6), .int (nI q)]) (σ' := lm_T M v G) rfl trivial ?_
    exact lm_G_br (b := nI X.1 - 6 < nI q) (t := 2193) (S' := []) rfl (fun _ => lm_G_sg 1 (pc' := 2194) (L' := lm_LL (nI q)) (S' := [.int 1]) (σ' := lm_T M v G) rfl trivial (lm_G_re rfl (by decide) (Nat.le_of_lt_succ (by show c < 601024 + 1; omega)) (Nat.le_of_lt_succ (by show k < 7293034 + 1; omega)) rfl)) (fun hc => absurd (hd_yes hX (by omega) (by omega)) hc)
  | succ f ih =>
    intro q c k M v G h1 h2 h3 h4 hW
    refine lm_G_sg 5 (pc' := 30) (L' := lm_LL (nI q)) (S' := [.int (nI X.1 - 6), .int (nI q)]) (σ' := lm_T M v G) rfl trivial ?_
    refine lm_G_br (b := nI X.1 - 6 < nI q) (t := 2193) (S' := []) rfl (fun _ => lm_G_sg 1 (pc' := 2194) (L' := lm_LL (nI q)) (S' := [.int 1]) (σ' := lm_T M v G) rfl trivial (lm_G_re rfl (by decide) (Nat.le_of_lt_succ (by show c < 601024 + 1; omega)) (Nat.le_of_lt_succ (by show k < 7293034 + 1; omega)) rfl)) (fun hc => ?_)
    have hq : q + 6 ≤ X.1 := Classical.not_not.mp (fun w => hc (hd_yes hX (by omega) w))
    refine lm_G_sg 5 (pc' := 40) (L' := lm_LL (nI q)) (S' := [.int (X.2 (nI q).toNatClampNeg &&& 63)]) (σ' := lm_T M v G) rfl ⟨vp_in_nI (by omega) (by omega), trivial, trivial⟩ ?_
    have hn : ∀ c1 k1 M1 v1 G1, c1 ≤ c + 2 → k1 ≤ k + 12 → WI M1 → lm_G X 100 272 0 c1 k1 2187 (lm_LL (nI q)) [] (lm_T M1 v1 G1) (fun o _ => o = .inl (some (.int 1))) := by
      intro c1 k1 M1 v1 G1 g1 g2 w
      refine lm_G_sg 2 (pc' := 23) (L' := lm_LL (nI q + 6)) (S' := []) (σ' := lm_T M1 v1 G1) rfl trivial ?_
      rw [show nI q + 6 = nI (q + 6) from nI_add q 6]
      exact ih (q + 6) c1 k1 M1 v1 G1 (by omega) (by omega) (by omega) (by omega) w
    have hc2 : c + 2 ≤ 601024 := by omega
    have hk2 : k + 12 ≤ 7293034 := by omega
    obtain ⟨t, ht, et⟩ := and63 (X.2 (nI q).toNatClampNeg)
    rw [et]
    clear et
    rcases Nat.lt_or_eq_of_le (Nat.le_of_lt_succ ht) with ht | rfl
    rotate_left
    · exact lm_G_sg 1 (pc' := 2187) (L' := lm_LL (nI q)) (S' := []) (σ' := lm_T M v G) rfl trivial (hn c k M v G (by omega) (by omega) hW)
    rcases Nat.lt_or_eq_of_le (Nat.le_of_lt_succ ht) with ht | rfl
    rotate_left
    · exact lm_G_sg 1 (pc' := 2187) (L' := lm_LL (nI q)) (S' := []) (σ' := lm_T M v G) rfl trivial (hn c k M v G (by omega) (by omega) hW)
    rcases Nat.lt_or_eq_of_le (Nat.le_of_lt_succ ht) with ht | rfl
    rotate_left
    · exact lm_G_sg 1 (pc' := 2187) (L' := lm_LL (nI q)) (S' := []) (σ' := lm_T M v G) rfl trivial (hn c k M v G (by omega) (by omega) hW)
    rcases Nat.lt_or_eq_of_le (Nat.le_of_lt_succ ht) with ht | rfl
    rotate_left
    · exact lm_G_sg 1 (pc' := 2187) (L' := lm_LL (nI q)) (S' := []) (σ' := lm_T M v G) rfl trivial (hn c k M v G (by omega) (by omega) hW)
    rcases Nat.lt_or_eq_of_le (Nat.le_of_lt_succ ht) with ht | rfl
    rotate_left
    · exact lm_G_sg 1 (pc' := 2187) (L' := lm_LL (nI q)) (S' := []) (σ' := lm_T M v G) rfl trivial (hn c k M v G (by omega) (by omega) hW)
    rcases Nat.lt_or_eq_of_le (Nat.le_of_lt_succ ht) with ht | rfl
    rotate_left
    · exact lm_G_sg 1 (pc' := 2187) (L' := lm_LL (nI q)) (S' := []) (σ' := lm_T M v G) rfl trivial (hn c k M v G (by omega) (by omega) hW)
    rcases Nat.lt_or_eq_of_le (Nat.le_of_lt_succ ht) with ht | rfl
    rotate_left
    · exact lm_G_sg 1 (pc' := 2187) (L' := lm_LL (nI q)) (S' := []) (σ' := lm_T M v G) rfl trivial (hn c k M v G (by omega) (by omega) hW)
    rcases Nat.lt_or_eq_of_le (Nat.le_of_lt_succ ht) with ht | rfl
    rotate_left
    · exact lm_G_sg 1 (pc' := 2187) (L' := lm_LL (nI q)) (S' := []) (σ' := lm_T M v G) rfl trivial (hn c k M v G (by omega) (by omega) hW)
    rcases Nat.lt_or_eq_of_le (Nat.le_of_lt_succ ht) with ht | rfl
    rotate_left
    · exact lm_G_sg 1 (pc' := 2187) (L' := lm_LL (nI q)) (S' := []) (σ' := lm_T M v G) rfl trivial (hn c k M v G (by omega) (by omega) hW)
    rcases Nat.lt_or_eq_of_le (Nat.le_of_lt_succ ht) with ht | rfl
    rotate_left
    · exact lm_G_sg 1 (pc' := 2187) (L' := lm_LL (nI q)) (S' := []) (σ' := lm_T M v G) rfl trivial (hn c k M v G (by omega) (by omega) hW)
    rcases Nat.lt_or_eq_of_le (Nat.le_of_lt_succ ht) with ht | rfl
    rotate_left
    · exact lm_G_sg 1 (pc' := 2187) (L' := lm_LL (nI q)) (S' := []) (σ' := lm_T M v G) rfl trivial (hn c k M v G (by omega) (by omega) hW)
    rcases Nat.lt_or_eq_of_le (Nat.le_of_lt_succ ht) with ht | rfl
    rotate_left
    · exact lm_G_sg 1 (pc' := 2187) (L' := lm_LL (nI q)) (S' := []) (σ' := lm_T M v G) rfl trivial (hn c k M v G (by omega) (by omega) hW)
    rcases Nat.lt_or_eq_of_le (Nat.le_of_lt_succ ht) with ht | rfl
    rotate_left
    · exact lm_G_sg 1 (pc' := 2187) (L' := lm_LL (nI q)) (S' := []) (σ' := lm_T M v G) rfl trivial (hn c k M v G (by omega) (by omega) hW)
    rcases Nat.lt_or_eq_of_le (Nat.le_of_lt_succ ht) with ht | rfl
    rotate_left
    · exact lm_G_sg 1 (pc' := 2187) (L' := lm_LL (nI q)) (S' := []) (σ' := lm_T M v G) rfl trivial (hn c k M v G (by omega) (by omega) hW)
    rcases Nat.lt_or_eq_of_le (Nat.le_of_lt_succ ht) with ht | rfl
    rotate_left
    · exact lm_G_sg 1 (pc' := 2187) (L' := lm_LL (nI q)) (S' := []) (σ' := lm_T M v G) rfl trivial (hn c k M v G (by omega) (by omega) hW)
    rcases Nat.lt_or_eq_of_le (Nat.le_of_lt_succ ht) with ht | rfl
    rotate_left
    · exact lm_G_sg 1 (pc' := 2187) (L' := lm_LL (nI q)) (S' := []) (σ' := lm_T M v G) rfl trivial (hn c k M v G (by omega) (by omega) hW)
    rcases Nat.lt_or_eq_of_le (Nat.le_of_lt_succ ht) with ht | rfl
    rotate_left
    · exact lm_G_sg 1 (pc' := 2187) (L' := lm_LL (nI q)) (S' := []) (σ' := lm_T M v G) rfl trivial (hn c k M v G (by omega) (by omega) hW)
    rcases Nat.lt_or_eq_of_le (Nat.le_of_lt_succ ht) with ht | rfl
    rotate_left
    · exact lm_G_sg 1 (pc' := 2187) (L' := lm_LL (nI q)) (S' := []) (σ' := lm_T M v G) rfl trivial (hn c k M v G (by omega) (by omega) hW)
    rcases Nat.lt_or_eq_of_le (Nat.le_of_lt_succ ht) with ht | rfl
    rotate_left
    · exact lm_G_sg 1 (pc' := 2187) (L' := lm_LL (nI q)) (S' := []) (σ' := lm_T M v G) rfl trivial (hn c k M v G (by omega) (by omega) hW)
    rcases Nat.lt_or_eq_of_le (Nat.le_of_lt_succ ht) with ht | rfl
    rotate_left
    · exact lm_G_sg 1 (pc' := 2187) (L' := lm_LL (nI q)) (S' := []) (σ' := lm_T M v G) rfl trivial (hn c k M v G (by omega) (by omega) hW)
    rcases Nat.lt_or_eq_of_le (Nat.le_of_lt_succ ht) with ht | rfl
    rotate_left
    · exact lm_G_sg 1 (pc' := 2187) (L' := lm_LL (nI q)) (S' := []) (σ' := lm_T M v G) rfl trivial (hn c k M v G (by omega) (by omega) hW)
    rcases Nat.lt_or_eq_of_le (Nat.le_of_lt_succ ht) with ht | rfl
    rotate_left
    · exact lm_G_sg 1 (pc' := 2187) (L' := lm_LL (nI q)) (S' := []) (σ' := lm_T M v G) rfl trivial (hn c k M v G (by omega) (by omega) hW)
    rcases Nat.lt_or_eq_of_le (Nat.le_of_lt_succ ht) with ht | rfl
    rotate_left
    · exact lm_G_sg 1 (pc' := 2187) (L' := lm_LL (nI q)) (S' := []) (σ' := lm_T M v G) rfl trivial (hn c k M v G (by omega) (by omega) hW)
    rcases Nat.lt_or_eq_of_le (Nat.le_of_lt_succ ht) with ht | rfl
    rotate_left
    · exact lm_G_sg 1 (pc' := 2187) (L' := lm_LL (nI q)) (S' := []) (σ' := lm_T M v G) rfl trivial (hn c k M v G (by omega) (by omega) hW)
    rcases Nat.lt_or_eq_of_le (Nat.le_of_lt_succ ht) with ht | rfl
    rotate_left
    · exact lm_G_sg 1 (pc' := 2187) (L' := lm_LL (nI q)) (S' := []) (σ' := lm_T M v G) rfl trivial (hn c k M v G (by omega) (by omega) hW)
    rcases Nat.lt_or_eq_of_le (Nat.le_of_lt_succ ht) with ht | rfl
    rotate_left
    · exact lm_G_sg 1 (pc' := 2187) (L' := lm_LL (nI q)) (S' := []) (σ' := lm_T M v G) rfl trivial (hn c k M v G (by omega) (by omega) hW)
    rcases Nat.lt_or_eq_of_le (Nat.le_of_lt_succ ht) with ht | rfl
    rotate_left
    · exact lm_G_sg 1 (pc' := 2187) (L' := lm_LL (nI q)) (S' := []) (σ' := lm_T M v G) rfl trivial (hn c k M v G (by omega) (by omega) hW)
    rcases Nat.lt_or_eq_of_le (Nat.le_of_lt_succ ht) with ht | rfl
    rotate_left
    · exact lm_G_sg 1 (pc' := 2187) (L' := lm_LL (nI q)) (S' := []) (σ' := lm_T M v G) rfl trivial (hn c k M v G (by omega) (by omega) hW)
    rcases Nat.lt_or_eq_of_le (Nat.le_of_lt_succ ht) with ht | rfl
    rotate_left
    · exact lm_G_sg 1 (pc' := 2187) (L' := lm_LL (nI q)) (S' := []) (σ' := lm_T M v G) rfl trivial (hn c k M v G (by omega) (by omega) hW)
    rcases Nat.lt_or_eq_of_le (Nat.le_of_lt_succ ht) with ht | rfl
    rotate_left
    · exact lm_G_sg 1 (pc' := 2187) (L' := lm_LL (nI q)) (S' := []) (σ' := lm_T M v G) rfl trivial (hn c k M v G (by omega) (by omega) hW)
    rcases Nat.lt_or_eq_of_le (Nat.le_of_lt_succ ht) with ht | rfl
    rotate_left
    · exact lm_G_sg 1 (pc' := 2174) (L' := lm_LL (nI q)) (S' := []) (σ' := lm_T M v G) rfl trivial (b_restore hX hq hc2 hk2 hW hn)
    rcases Nat.lt_or_eq_of_le (Nat.le_of_lt_succ ht) with ht | rfl
    rotate_left
    · exact lm_G_sg 1 (pc' := 2163) (L' := lm_LL (nI q)) (S' := []) (σ' := lm_T M v G) rfl trivial (b_image hX hq hc2 hk2 hW hn)
    rcases Nat.lt_or_eq_of_le (Nat.le_of_lt_succ ht) with ht | rfl
    rotate_left
    · exact lm_G_sg 1 (pc' := 2083) (L' := lm_LL (nI q)) (S' := []) (σ' := lm_T M v G) rfl trivial (b_years hX hq hc2 hk2 hW hn)
    rcases Nat.lt_or_eq_of_le (Nat.le_of_lt_succ ht) with ht | rfl
    rotate_left
    · exact lm_G_sg 1 (pc' := 2003) (L' := lm_LL (nI q)) (S' := []) (σ' := lm_T M v G) rfl trivial (b_game hX hq hc2 hk2 hW hn)
    rcases Nat.lt_or_eq_of_le (Nat.le_of_lt_succ ht) with ht | rfl
    rotate_left
    · exact lm_G_sg 1 (pc' := 1911) (L' := lm_LL (nI q)) (S' := []) (σ' := lm_T M v G) rfl trivial (b_thunder hX hq hc2 hk2 hW hn)
    rcases Nat.lt_or_eq_of_le (Nat.le_of_lt_succ ht) with ht | rfl
    rotate_left
    · exact lm_G_sg 1 (pc' := 1900) (L' := lm_LL (nI q)) (S' := []) (σ' := lm_T M v G) rfl trivial (b_forget hX hq hc2 hk2 hW hn)
    rcases Nat.lt_or_eq_of_le (Nat.le_of_lt_succ ht) with ht | rfl
    rotate_left
    · exact lm_G_sg 1 (pc' := 1844) (L' := lm_LL (nI q)) (S' := []) (σ' := lm_T M v G) rfl trivial (b_look hX hq hc2 hk2 hW hn)
    rcases Nat.lt_or_eq_of_le (Nat.le_of_lt_succ ht) with ht | rfl
    rotate_left
    · exact lm_G_sg 1 (pc' := 1788) (L' := lm_LL (nI q)) (S' := []) (σ' := lm_T M v G) rfl trivial (b_deep hX hq hc2 hk2 hW hn)
    rcases Nat.lt_or_eq_of_le (Nat.le_of_lt_succ ht) with ht | rfl
    rotate_left
    · exact lm_G_sg 1 (pc' := 1708) (L' := lm_LL (nI q)) (S' := []) (σ' := lm_T M v G) rfl trivial (b_see hX hq hc2 hk2 hW hn)
    rcases Nat.lt_or_eq_of_le (Nat.le_of_lt_succ ht) with ht | rfl
    rotate_left
    · exact lm_G_sg 1 (pc' := 1652) (L' := lm_LL (nI q)) (S' := []) (σ' := lm_T M v G) rfl trivial (b_round hX hq hc2 hk2 hW hn)
    rcases Nat.lt_or_eq_of_le (Nat.le_of_lt_succ ht) with ht | rfl
    rotate_left
    · exact lm_G_sg 1 (pc' := 1584) (L' := lm_LL (nI q)) (S' := []) (σ' := lm_T M v G) rfl trivial (b_without hX hq hc2 hk2 hW hn)
    rcases Nat.lt_or_eq_of_le (Nat.le_of_lt_succ ht) with ht | rfl
    rotate_left
    · exact lm_G_sg 1 (pc' := 1516) (L' := lm_LL (nI q)) (S' := []) (σ' := lm_T M v G) rfl trivial (b_toHush hX hq hc2 hk2 hW hn)
    rcases Nat.lt_or_eq_of_le (Nat.le_of_lt_succ ht) with ht | rfl
    rotate_left
    · exact lm_G_sg 1 (pc' := 1436) (L' := lm_LL (nI q)) (S' := []) (σ' := lm_T M v G) rfl trivial (b_toStand hX hq hc2 hk2 hW hn)
    rcases Nat.lt_or_eq_of_le (Nat.le_of_lt_succ ht) with ht | rfl
    rotate_left
    · exact lm_G_sg 1 (pc' := 1356) (L' := lm_LL (nI q)) (S' := []) (σ' := lm_T M v G) rfl trivial (b_toBreathe hX hq hc2 hk2 hW hn)
    rcases Nat.lt_or_eq_of_le (Nat.le_of_lt_succ ht) with ht | rfl
    rotate_left
    · exact lm_G_sg 1 (pc' := 1300) (L' := lm_LL (nI q)) (S' := []) (σ' := lm_T M v G) rfl trivial (b_farthest hX hq hc2 hk2 hW hn)
    rcases Nat.lt_or_eq_of_le (Nat.le_of_lt_succ ht) with ht | rfl
    rotate_left
    · exact lm_G_sg 1 (pc' := 1232) (L' := lm_LL (nI q)) (S' := []) (σ' := lm_T M v G) rfl trivial (b_hums hX hq hc2 hk2 hW hn)
    rcases Nat.lt_or_eq_of_le (Nat.le_of_lt_succ ht) with ht | rfl
    rotate_left
    · exact lm_G_sg 1 (pc' := 1164) (L' := lm_LL (nI q)) (S' := []) (σ' := lm_T M v G) rfl trivial (b_later hX hq hc2 hk2 hW hn)
    rcases Nat.lt_or_eq_of_le (Nat.le_of_lt_succ ht) with ht | rfl
    rotate_left
    · exact lm_G_sg 1 (pc' := 1108) (L' := lm_LL (nI q)) (S' := []) (σ' := lm_T M v G) rfl trivial (b_loudest hX hq hc2 hk2 hW hn)
    rcases Nat.lt_or_eq_of_le (Nat.le_of_lt_succ ht) with ht | rfl
    rotate_left
    · exact lm_G_sg 1 (pc' := 1040) (L' := lm_LL (nI q)) (S' := []) (σ' := lm_T M v G) rfl trivial (b_silent hX hq hc2 hk2 hW hn)
    rcases Nat.lt_or_eq_of_le (Nat.le_of_lt_succ ht) with ht | rfl
    rotate_left
    · exact lm_G_sg 1 (pc' := 972) (L' := lm_LL (nI q)) (S' := []) (σ' := lm_T M v G) rfl trivial (b_gets hX hq hc2 hk2 hW hn)
    rcases Nat.lt_or_eq_of_le (Nat.le_of_lt_succ ht) with ht | rfl
    rotate_left
    · exact lm_G_sg 1 (pc' := 892) (L' := lm_LL (nI q)) (S' := []) (σ' := lm_T M v G) rfl trivial (b_whose hX hq hc2 hk2 hW hn)
    rcases Nat.lt_or_eq_of_le (Nat.le_of_lt_succ ht) with ht | rfl
    rotate_left
    · exact lm_G_sg 1 (pc' := 812) (L' := lm_LL (nI q)) (S' := []) (σ' := lm_T M v G) rfl trivial (b_then hX hq hc2 hk2 hW hn)
    rcases Nat.lt_or_eq_of_le (Nat.le_of_lt_succ ht) with ht | rfl
    rotate_left
    · exact lm_G_sg 1 (pc' := 799) (L' := lm_LL (nI q)) (S' := []) (σ' := lm_T M v G) rfl trivial (b_undo hX hq hc2 hk2 hW hn)
    rcases Nat.lt_or_eq_of_le (Nat.le_of_lt_succ ht) with ht | rfl
    rotate_left
    · exact lm_G_sg 1 (pc' := 731) (L' := lm_LL (nI q)) (S' := []) (σ' := lm_T M v G) rfl trivial (b_go hX hq hc2 hk2 hW hn)
    rcases Nat.lt_or_eq_of_le (Nat.le_of_lt_succ ht) with ht | rfl
    rotate_left
    · exact lm_G_sg 1 (pc' := 663) (L' := lm_LL (nI q)) (S' := []) (σ' := lm_T M v G) rfl trivial (b_sell hX hq hc2 hk2 hW hn)
    rcases Nat.lt_or_eq_of_le (Nat.le_of_lt_succ ht) with ht | rfl
    rotate_left
    · exact lm_G_sg 1 (pc' := 607) (L' := lm_LL (nI q)) (S' := []) (σ' := lm_T M v G) rfl trivial (b_cough hX hq hc2 hk2 hW hn)
    rcases Nat.lt_or_eq_of_le (Nat.le_of_lt_succ ht) with ht | rfl
    rotate_left
    · exact lm_G_sg 1 (pc' := 551) (L' := lm_LL (nI q)) (S' := []) (σ' := lm_T M v G) rfl trivial (b_hush hX hq hc2 hk2 hW hn)
    rcases Nat.lt_or_eq_of_le (Nat.le_of_lt_succ ht) with ht | rfl
    rotate_left
    · exact lm_G_sg 1 (pc' := 526) (L' := lm_LL (nI q)) (S' := []) (σ' := lm_T M v G) rfl trivial (b_hours hX hq hc2 hk2 hW hn)
    rcases Nat.lt_or_eq_of_le (Nat.le_of_lt_succ ht) with ht | rfl
    rotate_left
    · exact lm_G_sg 1 (pc' := 458) (L' := lm_LL (nI q)) (S' := []) (σ' := lm_T M v G) rfl trivial (b_tune hX hq hc2 hk2 hW hn)
    rcases Nat.lt_or_eq_of_le (Nat.le_of_lt_succ ht) with ht | rfl
    rotate_left
    · exact lm_G_sg 1 (pc' := 390) (L' := lm_LL (nI q)) (S' := []) (σ' := lm_T M v G) rfl trivial (b_person hX hq hc2 hk2 hW hn)
    rcases Nat.lt_or_eq_of_le (Nat.le_of_lt_succ ht) with ht | rfl
    rotate_left
    · exact lm_G_sg 1 (pc' := 334) (L' := lm_LL (nI q)) (S' := []) (σ' := lm_T M v G) rfl trivial (b_count hX hq hc2 hk2 hW hn)
    rcases Nat.lt_or_eq_of_le (Nat.le_of_lt_succ ht) with ht | rfl
    rotate_left
    · exact lm_G_sg 1 (pc' := 321) (L' := lm_LL (nI q)) (S' := []) (σ' := lm_T M v G) rfl trivial (b_fault hX hq hc2 hk2 hW hn)
    rcases Nat.lt_or_eq_of_le (Nat.le_of_lt_succ ht) with ht | rfl
    rotate_left
    · exact lm_G_sg 1 (pc' := 265) (L' := lm_LL (nI q)) (S' := []) (σ' := lm_T M v G) rfl trivial (b_hills hX hq hc2 hk2 hW hn)
    obtain rfl : t = 0 := by omega
    · exact lm_G_sg 1 (pc' := 192) (L' := lm_LL (nI q)) (S' := []) (σ' := lm_T M v G) rfl trivial (b_feed hX hq hc2 hk2 hW hn)
