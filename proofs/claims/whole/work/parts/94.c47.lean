/-! ===== contracts: the model reads a text ===== -/
theorem RM_P {M M1 : Nat → Fn} {F : Fa} {s : Sc} (hF : okF F) (h : RM M F s) (f : FrP M M1) : RM M1 F s := by
  obtain ⟨f1, f2, f3, f4, f5, f6⟩ := f
  have hn := hF.n
  have hm := hF.m
  have g : ∀ a, 78 ≤ a → M1 a = M a := fun a ha => f1 a (by unfold frP; rw [decide_eq_false_iff_not]; omega)
  refine ⟨⟨(f3 0 (by decide)).trans h.n, (f3 1 (by decide)).trans h.m, (f3 2 (by decide)).trans h.e, (f3 3 (by decide)).trans h.l0, (f3 4 (by decide)).trans h.l1, fun i hi => (f4 71 i (by decide) (by decide) (by omega)).trans (h.re i hi), fun i hi => (f4 69 i (by decide) (by decide) (by omega)).trans (h.wh i hi), fun i hi => (f5 74 i (by decide) (by decide) (by omega)).trans (h.ai i hi), fun i hi => (f6 76 i (by decide) (by decide) (Nat.lt_of_lt_of_le hi hF.2.2.2.2.1)).trans (h.r0 i hi), fun i hi => (f6 77 i (by decide) (by decide) (Nat.lt_of_lt_of_le hi hF.2.2.2.2.2.1)).trans (h.r1 i hi)⟩, ?_⟩
  rw [f2 36 (by decide) (by decide) (by decide) (by decide) (by decide) (by decide) (by decide) (by decide), g 79 (by decide), g 85 (by decide), g 86 (by decide), g 82 (by decide), g 83 (by decide), g 84 (by decide), g 81 (by decide)]
  exact h.2
theorem FrP_k {M M1 : Nat → Fn} (f : FrP M M1) {k : Nat} (h : k = 4 ∨ k = 18 ∨ k = 20 ∨ k = 27 ∨ (36 ≤ k ∧ k ≤ 63)) : M1 64 k = M 64 k := f.2.1 k (by omega) (by omega) (by omega) (by omega) (by omega) (by omega) (by omega) (by omega)
theorem FrP_r {M M1 : Nat → Fn} (f : FrP M M1) {r : Nat} (h : r < 64 ∨ 78 ≤ r) : M1 r = M r := f.1 r (by unfold frP; rw [decide_eq_false_iff_not]; omega)
theorem MS_P {M M1 : Nat → Fn} {F : Fa} {s : Sc} {B : Bk} (hF : okF F) (h : MS M F s B) (f : FrP M M1) : MS M1 F s B :=
  ⟨RM_P hF h.1 f, (FrP_k f (by omega)).trans h.2.1, MB_fr h.2.2 (FrP_k f (by omega)) (FrP_k f (by omega)) (FrP_r f (by omega)) (FrP_r f (by omega)) (FrP_r f (by omega)) (FrP_r f (by omega)) (FrP_r f (by omega))⟩
theorem MS_w {M : Nat → Fn} {F : Fa} {s : Sc} {B : Bk} (h : MS M F s B) {k : Nat} {x : Int32} (hk : k ≠ 36 ∧ k ≠ 37 ∧ k ≠ 38 ∧ k ≠ 42) : MS (lm_wr M 64 k x) F s B :=
  ⟨RM_taken h.1 k hk.1 x, (wr_at (by omega)).trans h.2.1, MB_fr h.2.2 (wr_at (by omega)) (wr_at (by omega)) rfl rfl rfl rfl rfl⟩
theorem RM_w78 {M : Nat → Fn} {F : Fa} {s : Sc} (h : RM M F s) {j : Nat} {x : Int32} : RM (lm_wr M 78 j x) F s := RM_fr h (Fr_wr (Fr_rf (frO 78) M) (frO_s 78)) (by decide)
theorem MS_rf0 {M : Nat → Fn} {F : Fa} {s : Sc} {B : Bk} (h : MS M F s B) : MS (lm_wr M 78 0 (M 78 0 + 1)) F s (rfB B 0) := ⟨RM_w78 h.1, h.2.1, MB_rf h.2.2 (by decide)⟩
def t0I (i : Nat) : Int32 := if i = 2 then 5 else 0
set_option maxRecDepth 10000 in
theorem m_hills {X : lm_X} {d v : Nat} {M : Nat → Nat → Int32} {G : Nat → Nat → Int64} {Q : lm_O → lm_S → Prop} {F : Fa} {s : Sc} {B : Bk} {L : Nat} {tp : Nat → Nat} {x : Int32} (hF : okF F) (hm0 : MS M F s B) (ht : MT M L tp) (hL : L ≤ 700) (hb : ∀ i, i < L → tp i < 256) (hQ : (hfS L x = false → ∀ M1 v1, M1 64 4 = 1 → (∀ k, k ≠ 4 → M1 64 k = M 64 k) → (∀ r, r ≠ 64 → M1 r = M r) → Q (.inl (some (.int 0))) (lm_T M1 v1 G)) ∧ (∀ n, n ≤ L → x = nI n → (∀ D, txS (n, tp) = .inl D → okD D → ∀ M1 v1, MS M1 (toF D) (toS D) (clB B) → M1 64 4 = 0 → M1 64 18 = 0 → M1 64 27 = -1 → M1 64 54 = 0 → (∀ r, r < 64 → M1 r = M r) → Q (.inl (some (.int 0))) (lm_T M1 v1 G)) ∧ (∀ e a, txS (n, tp) = .inr (e, a) → ∀ M1 v1, MS M1 F s (rfB B 0) → M1 64 4 = 0 → M1 64 18 = 0 → M1 64 27 = nI a → (∀ k, 54 ≤ k ∧ k ≤ 56 → M1 64 k = M 64 k) → (∀ r, r < 64 ∨ 95 ≤ r → M1 r = M r) → Q (.inl (some (.int (nI e)))) (lm_T M1 v1 G)))) : lm_Q X (d + 44) 173 [.ref 64, .int x] (lm_T M v G) Q := by
  show lm_G X (d + 44) 173 106 0 0 0 [some (.ref 64), some (.int x), none] [] (lm_T M v G) Q
  refine lm_G_sg 3 (pc' := 5) (L' := [some (.ref 64), some (.int x), none]) (S' := []) (σ' := lm_T (lm_wr M 64 4 0) v G) rfl ⟨trivial, trivial, trivial⟩ ?_
  have m0 : MS (lm_wr M 64 4 0) F s B := MS_w hm0 (by decide)
  have c0 : (lm_wr M 64 4 0) 64 4 = 0 := wr_same
  have k0 : ∀ k, k ≠ 4 → (lm_wr M 64 4 0) 64 k = M 64 k := fun k hk => wr_at hk
  have r0 : ∀ r, r ≠ 64 → (lm_wr M 64 4 0) r = M r := fun r h => wr_row h
  revert m0 c0 k0 r0
  generalize lm_wr M 64 4 0 = M0
  intro m0 c0 k0 r0
  have h18 : M0 64 18 = nI L := (k0 18 (by decide)).trans ht.1
  refine lm_G_sg 1 (pc' := 6) (L' := [some (.ref 64), some (.int x), none]) (S' := [.int x]) (σ' := lm_T M0 v G) rfl trivial ?_
  refine lm_G_br (b := x < 0) (t := 17) (S' := []) rfl (fun g0 => ?_) (fun g0 => ?_)
  ·
    refine lm_G_sg 2 (pc' := 19) (L' := [some (.ref 64), some (.int x), none]) (S' := [.int 1, .ref 64]) (σ' := lm_T M0 v G) rfl trivial ?_
    refine lm_G_ca (j := 141) (as := [.ref 64, .int 1]) (rest := []) rfl (Or.inl rfl) (Nat.le_of_ble_eq_true rfl) (Nat.le_of_ble_eq_true rfl) (Nat.le_of_ble_eq_true rfl) (Nat.le_of_ble_eq_true rfl) rfl ?_
    refine m_fail ?_
    show lm_G X (d + 44) 173 106 0 0 22 [some (.ref 64), some (.int x), none] [.int 0] (lm_T (lm_wr M0 64 4 1) v G) Q
    exact lm_G_re rfl trivial (Nat.zero_le _) (Nat.zero_le _) (hQ.1 (by unfold hfS; rw [decide_eq_false (Int32.not_le.mpr g0)]; rfl) _ v rfl (fun k hk => (wr_at hk).trans (k0 k hk)) (fun r h => (wr_row h).trans (r0 r h)))
  ·
    refine lm_G_sg 3 (pc' := 14) (L' := [some (.ref 64), some (.int x), none]) (S' := [.int (M0 64 18), .int x]) (σ' := lm_T M0 v G) rfl trivial ?_
    rw [show M0 64 18 = nI L from h18]
    refine lm_G_br (b := x ≤ (nI L)) (t := 23) (S' := []) rfl (fun g1 => ?_) (fun g1 => ?_)
    rotate_left
    ·
      refine lm_G_sg 2 (pc' := 19) (L' := [some (.ref 64), some (.int x), none]) (S' := [.int 1, .ref 64]) (σ' := lm_T M0 v G) rfl trivial ?_
      refine lm_G_ca (j := 141) (as := [.ref 64, .int 1]) (rest := []) rfl (Or.inl rfl) (Nat.le_of_ble_eq_true rfl) (Nat.le_of_ble_eq_true rfl) (Nat.le_of_ble_eq_true rfl) (Nat.le_of_ble_eq_true rfl) rfl ?_
      refine m_fail ?_
      show lm_G X (d + 44) 173 106 0 0 22 [some (.ref 64), some (.int x), none] [.int 0] (lm_T (lm_wr M0 64 4 1) v G) Q
      exact lm_G_re rfl trivial (Nat.zero_le _) (Nat.zero_le _) (hQ.1 (by unfold hfS; rw [decide_eq_false g1, Bool.and_false]) _ v rfl (fun k hk => (wr_at hk).trans (k0 k hk)) (fun r h => (wr_row h).trans (r0 r h)))
    ·
      obtain ⟨n, hn, rfl⟩ := nI_of2 (nI_toInt (by omega : L < 2 ^ 31)) g0 g1
      have hT : okT (n, tp) := ⟨by show n ≤ 700; omega, fun i hi => hb i (by replace hi : i < n := hi; omega)⟩
      have q_ := hQ.2 n hn rfl
      refine lm_G_sg 17 (pc' := 50) (L' := [some (.ref 64), some (.int (nI n)), some (.int 0)]) (S' := []) (σ' := lm_T (lm_wr (lm_wr (lm_wr (lm_wr (lm_wr M0 64 18 0) 64 20 (nI n)) 64 19 0) 64 25 0) 64 27 (-1)) v G) rfl ⟨trivial, trivial, trivial, trivial, trivial, trivial, trivial, trivial, trivial, trivial, trivial⟩ ?_
      have s18 : (lm_wr (lm_wr (lm_wr (lm_wr (lm_wr M0 64 18 0) 64 20 (nI n)) 64 19 0) 64 25 0) 64 27 (-1)) 64 18 = 0 := rfl
      have s20 : (lm_wr (lm_wr (lm_wr (lm_wr (lm_wr M0 64 18 0) 64 20 (nI n)) 64 19 0) 64 25 0) 64 27 (-1)) 64 20 = nI n := rfl
      have s19 : (lm_wr (lm_wr (lm_wr (lm_wr (lm_wr M0 64 18 0) 64 20 (nI n)) 64 19 0) 64 25 0) 64 27 (-1)) 64 19 = nI 0 := rfl
      have s25 : (lm_wr (lm_wr (lm_wr (lm_wr (lm_wr M0 64 18 0) 64 20 (nI n)) 64 19 0) 64 25 0) 64 27 (-1)) 64 25 = 0 := rfl
      have s27 : (lm_wr (lm_wr (lm_wr (lm_wr (lm_wr M0 64 18 0) 64 20 (nI n)) 64 19 0) 64 25 0) 64 27 (-1)) 64 27 = -1 := rfl
      have s4 : (lm_wr (lm_wr (lm_wr (lm_wr (lm_wr M0 64 18 0) 64 20 (nI n)) 64 19 0) 64 25 0) 64 27 (-1)) 64 4 = 0 := c0
      have sm : MS (lm_wr (lm_wr (lm_wr (lm_wr (lm_wr M0 64 18 0) 64 20 (nI n)) 64 19 0) 64 25 0) 64 27 (-1)) F s B := MS_w (MS_w (MS_w (MS_w (MS_w m0 (by decide)) (by decide)) (by decide)) (by decide)) (by decide)
      have sk : ∀ k, 36 ≤ k → (lm_wr (lm_wr (lm_wr (lm_wr (lm_wr M0 64 18 0) 64 20 (nI n)) 64 19 0) 64 25 0) 64 27 (-1)) 64 k = M 64 k := fun k hk => by rw [wr_at (by omega), wr_at (by omega), wr_at (by omega), wr_at (by omega), wr_at (by omega)]; exact k0 k (by omega)
      have sr : ∀ r, r ≠ 64 → (lm_wr (lm_wr (lm_wr (lm_wr (lm_wr M0 64 18 0) 64 20 (nI n)) 64 19 0) 64 25 0) 64 27 (-1)) r = M r := fun r h => by rw [wr_row h, wr_row h, wr_row h, wr_row h, wr_row h]; exact r0 r h
      revert s18 s20 s19 s25 s27 s4 sm sk sr
      generalize lm_wr (lm_wr (lm_wr (lm_wr (lm_wr M0 64 18 0) 64 20 (nI n)) 64 19 0) 64 25 0) 64 27 (-1) = N0
      intro s18 s20 s19 s25 s27 s4 sm sk sr
      refine lm_ind (α := (Nat → Fn)) (St := fun (j : Nat) zz => (fun (M1 : Nat → Fn) => lm_G X (d + 44) 173 106 0 0 50 [some (.ref 64), some (.int (nI n)), some (.int (nI j))] [] (lm_T M1 v G) Q) zz) (Inv := fun (j : Nat) zz => (fun (M1 : Nat → Fn) => (∀ r, r ≠ 68 → M1 r = N0 r) ∧ (∀ i, i < 5 → M1 68 i = N0 68 i) ∧ (∀ i, i < j → M1 68 (5 + i) = t0I i)) zz) (5) (fun j zz hj hI ih => ?_) (fun zz hI => ?_) (0) N0 (by omega) ?_
      ·
        revert ih hI
        revert zz
        intro M1 hI ih
        replace hI : (∀ r, r ≠ 68 → M1 r = N0 r) ∧ (∀ i, i < 5 → M1 68 i = N0 68 i) ∧ (∀ i, i < j → M1 68 (5 + i) = t0I i) := hI
        replace ih : ∀ (M1 : Nat → Fn) (_ : (∀ r, r ≠ 68 → M1 r = N0 r) ∧ (∀ i, i < 5 → M1 68 i = N0 68 i) ∧ (∀ i, i < (j + 1) → M1 68 (5 + i) = t0I i)), lm_G X (d + 44) 173 106 0 0 50 [some (.ref 64), some (.int (nI n)), some (.int (nI (j + 1)))] [] (lm_T M1 v G) Q := fun M1 q => ih M1 q
        show lm_G X (d + 44) 173 106 0 0 50 [some (.ref 64), some (.int (nI n)), some (.int (nI j))] [] (lm_T M1 v G) Q
        obtain ⟨i0, i1, i2⟩ := hI
        refine lm_G_sg 2 (pc' := 52) (L' := [some (.ref 64), some (.int (nI n)), some (.int (nI j))]) (S' := [.int 5, .int (nI j)]) (σ' := lm_T M1 v G) rfl trivial ?_
        refine lm_G_br (b := 5 ≤ (nI j)) (t := 79) (S' := []) rfl (fun hc => absurd hc (nI_ge (b := 5) hj (by omega))) (fun hc => ?_)
        refine lm_G_sg 5 (pc' := 62) (L' := [some (.ref 64), some (.int (nI n)), some (.int (nI j))]) (S' := [.int (5 + (nI j)), .ref 68]) (σ' := lm_T M1 v G) rfl trivial ?_
        rw [show 5 + (nI j) = nI (5 + j) from nI_add 5 j]
        refine lm_G_sg 2 (pc' := 64) (L' := [some (.ref 64), some (.int (nI n)), some (.int (nI j))]) (S' := [.int 2, .int (nI j), .int (nI (5 + j)), .ref 68]) (σ' := lm_T M1 v G) rfl trivial ?_
        refine lm_G_br (b := ¬ (nI j) = 2) (t := 71) (S' := [.int (nI (5 + j)), .ref 68]) rfl (fun g2 => ?_) (fun g2 => ?_)
        ·
          refine lm_G_sg 2 (pc' := 73) (L' := [some (.ref 64), some (.int (nI n)), some (.int (nI j))]) (S' := []) (σ' := lm_T (lm_wr M1 68 ((nI (5 + j)).toNatClampNeg) 0) v G) rfl ⟨(vp_in_nI (by omega) (by omega)), trivial, trivial⟩ ?_
          rw [show (nI (5 + j)).toNatClampNeg = (5 + j) from nI_clamp (by omega)]
          refine lm_G_sg 1 (pc' := 76) (L' := [some (.ref 64), some (.int (nI n)), some (.int ((nI j) + 1))]) (S' := []) (σ' := lm_T (lm_wr M1 68 (5 + j) 0) v G) rfl trivial ?_
          rw [nI_1]
          refine lm_G_sg 1 (pc' := 50) (L' := [some (.ref 64), some (.int (nI n)), some (.int (nI (j + 1)))]) (S' := []) (σ' := lm_T (lm_wr M1 68 (5 + j) 0) v G) rfl trivial ?_
          exact ih _ (⟨fun r h => by rw [wr_row h]; exact i0 r h, fun i hi => by rw [wr_at (by omega)]; exact i1 i hi, fun i hi => by
                show upd (M1 68) (5 + j) 0 (5 + i) = _
                by_cases e : i = j
                · rw [e, pk_us]; exact (if_neg (fun w => g2 (by rw [w]; rfl)) : t0I j = 0).symm
                · rw [pk_un (by omega)]; exact i2 i (by omega)⟩)
        ·
          refine lm_G_sg 3 (pc' := 73) (L' := [some (.ref 64), some (.int (nI n)), some (.int (nI j))]) (S' := []) (σ' := lm_T (lm_wr M1 68 ((nI (5 + j)).toNatClampNeg) 5) v G) rfl ⟨(vp_in_nI (by omega) (by omega)), trivial, trivial⟩ ?_
          rw [show (nI (5 + j)).toNatClampNeg = (5 + j) from nI_clamp (by omega)]
          refine lm_G_sg 1 (pc' := 76) (L' := [some (.ref 64), some (.int (nI n)), some (.int ((nI j) + 1))]) (S' := []) (σ' := lm_T (lm_wr M1 68 (5 + j) 5) v G) rfl trivial ?_
          rw [nI_1]
          refine lm_G_sg 1 (pc' := 50) (L' := [some (.ref 64), some (.int (nI n)), some (.int (nI (j + 1)))]) (S' := []) (σ' := lm_T (lm_wr M1 68 (5 + j) 5) v G) rfl trivial ?_
          exact ih _ (⟨fun r h => by rw [wr_row h]; exact i0 r h, fun i hi => by rw [wr_at (by omega)]; exact i1 i hi, fun i hi => by
                show upd (M1 68) (5 + j) 5 (5 + i) = _
                by_cases e : i = j
                · rw [e, pk_us]; exact (if_pos ((nI_eq (b := 2) (by omega) (by omega)).mp (Classical.not_not.mp g2)) : t0I j = 5).symm
                · rw [pk_un (by omega)]; exact i2 i (by omega)⟩)
      ·
        revert hI
        revert zz
        intro M1 hI
        replace hI : (∀ r, r ≠ 68 → M1 r = N0 r) ∧ (∀ i, i < 5 → M1 68 i = N0 68 i) ∧ (∀ i, i < 5 → M1 68 (5 + i) = t0I i) := hI
        show lm_G X (d + 44) 173 106 0 0 50 [some (.ref 64), some (.int (nI n)), some (.int (nI 5))] [] (lm_T M1 v G) Q
        obtain ⟨i0, i1, i2⟩ := hI
        have rd : RDm M1 (n, tp) := ⟨by rw [i0 64 (by decide)]; exact s20, fun i hi => by
          replace hi : i < n := hi
          rw [i0 80 (by decide), sr 80 (by decide)]
          exact ht.2 i (by omega)⟩
        have fp1 : FrP N0 M1 := by
          refine ⟨fun a ha => i0 a (fun e => by rw [e] at ha; cases ha), fun k _ _ _ _ _ _ _ _ => by rw [i0 64 (by decide)], fun k hk => i1 k hk, fun a k z1 z2 _ => by rw [i0 a (by omega)], fun a k z1 z2 _ => by rw [i0 a (by omega)], fun a k z1 z2 _ => by rw [i0 a (by omega)]⟩
        refine lm_G_sg 2 (pc' := 52) (L' := [some (.ref 64), some (.int (nI n)), some (.int (nI 5))]) (S' := [.int 5, .int (nI 5)]) (σ' := lm_T M1 v G) rfl trivial ?_
        refine lm_G_br (b := 5 ≤ (nI 5)) (t := 79) (S' := []) rfl (fun hc => ?_) (fun hc => absurd (nI_le (a := 5) (Nat.le_refl _) (by omega)) hc)
        refine lm_G_sg 1 (pc' := 80) (L' := [some (.ref 64), some (.int (nI n)), some (.int (nI 5))]) (S' := [.ref 64]) (σ' := lm_T M1 v G) rfl trivial ?_
        refine lm_G_ca (j := 153) (as := [.ref 64]) (rest := []) rfl (Or.inl rfl) (Nat.le_of_ble_eq_true rfl) (Nat.le_of_ble_eq_true rfl) (Nat.le_of_ble_eq_true rfl) (Nat.le_of_ble_eq_true rfl) rfl ?_
        refine m_stepOn (T := (n, tp)) (p := 0) hT rd (Nat.zero_le _) (by rw [i0 64 (by decide)]; exact s19) (fun M2 r2 f2 => ?_)
        show lm_G X (d + 44) 173 106 0 0 83 [some (.ref 64), some (.int (nI n)), some (.int (nI 5))] [] (lm_T M2 v G) Q
        have g2 : GM M2 (n, tp) 0 := ⟨r2, (f2.2 25 (by decide) (by decide) (by decide) (by decide) (by decide)).trans (by rw [i0 64 (by decide)]; exact s25)⟩
        have fp2 : FrP N0 M2 := FrP_tr fp1 (FrP_K f2)
        have d2 : DM M2 D0 := by
          have e68 : M2 68 = M1 68 := FrK_row f2 (by decide)
          refine ⟨?_, ?_, ?_, fun i hi => absurd hi (Nat.not_lt_zero i), fun i hi => absurd hi (Nat.not_lt_zero i), fun i hi => absurd hi (Nat.not_lt_zero i), fun i hi => absurd hi (Nat.not_lt_zero i), fun i hi => absurd hi (Nat.not_lt_zero i), fun i hi => absurd hi (Nat.not_lt_zero i), fun i hi => absurd hi (Nat.not_lt_zero i), ⟨?_, fun i hi => absurd hi (Nat.not_lt_zero i)⟩, ⟨?_, fun i hi => absurd hi (Nat.not_lt_zero i)⟩⟩
          · rw [e68]; exact i2 0 (by decide)
          · rw [e68]; exact i2 1 (by decide)
          · rw [e68]; exact i2 2 (by decide)
          · show M2 68 8 = _
            rw [e68]; exact i2 3 (by decide)
          · show M2 68 9 = _
            rw [e68]; exact i2 4 (by decide)
        refine lm_G_sg 2 (pc' := 85) (L' := [some (.ref 64), some (.int (nI n)), some (.int 0)]) (S' := []) (σ' := lm_T M2 v G) rfl trivial ?_
        have kB : ∀ (M9 : Nat → Fn) (e : Nat) (a : Nat) (v9 : Nat) (z9 : ¬ M9 64 25 = 0) (b9 : BM M9 e a) (f9 : FrP N0 M9) (er : txS (n, tp) = .inr (e, a)), lm_G X (d + 44) 173 106 0 0 108 [some (.ref 64), some (.int (nI n)), none] [] (lm_T M9 v9 G) Q := by
          intro M9 e a v9 z9 b9 f9 er
          refine lm_G_sg 2 (pc' := 112) (L' := [some (.ref 64), some (.int (nI n)), none]) (S' := [.int (M9 64 25)]) (σ' := lm_T M9 v9 G) rfl trivial ?_
          refine lm_G_br (b := (M9 64 25) = 0) (t := 138) (S' := []) rfl (fun hc => absurd hc z9) (fun hc => ?_)
          refine lm_G_sg 3 (pc' := 120) (L' := [some (.ref 64), some (.int (nI n)), none]) (S' := [.int (M9 64 26), .ref 64]) (σ' := lm_T M9 v9 G) rfl trivial ?_
          rw [show M9 64 26 = nI a from b9.2]
          refine lm_G_sg 9 (pc' := 133) (L' := [some (.ref 64), some (.int (nI n)), none]) (S' := []) (σ' := lm_T (lm_wr (lm_wr M9 64 27 (nI a)) 78 0 ((M9 78 0) + 1)) v9 G) rfl ⟨trivial, trivial, (lm_inb_ok rfl), trivial, (lm_inb_ok rfl), trivial, trivial⟩ ?_
          refine lm_G_sg 2 (pc' := 137) (L' := [some (.ref 64), some (.int (nI n)), none]) (S' := [.int (M9 64 25)]) (σ' := lm_T (lm_wr (lm_wr M9 64 27 (nI a)) 78 0 ((M9 78 0) + 1)) v9 G) rfl trivial ?_
          show lm_G X (d + 44) 173 106 0 0 137 [some (.ref 64), some (.int (nI n)), none] [.int (M9 64 25)] (lm_T (lm_wr (lm_wr M9 64 27 (nI a)) 78 0 ((M9 78 0) + 1)) v9 G) Q
          rw [show M9 64 25 = nI e from b9.1]
          exact lm_G_re rfl trivial (Nat.zero_le _) (Nat.zero_le _) (q_.2 e a er _ v9 (by exact MS_rf0 (MS_w (MS_P hF sm f9) (by decide))) ((FrP_k f9 (by omega)).trans s4) ((FrP_k f9 (by omega)).trans s18) rfl (fun k hk => (by rw [wr_row (by decide), wr_at (by omega)]; exact (FrP_k f9 (by omega)).trans (sk k (by omega)))) (fun r hr => by rw [wr_row (by omega), wr_row (by omega)]; exact (FrP_r f9 (by omega)).trans (sr r (by omega))))
        have k108 : ∀ (M9 : Nat → Fn) (D : Dr) (u : Nat) (v9 : Nat) (g9 : GM M9 (n, tp) u) (d9 : DM M9 D) (o9 : okD D) (f9 : FrP N0 M9) (er : txS (n, tp) = .inl D), lm_G X (d + 44) 173 106 0 0 108 [some (.ref 64), some (.int (nI n)), none] [] (lm_T M9 v9 G) Q := by
          intro M9 D u v9 g9 d9 o9 f9 er
          refine lm_G_sg 2 (pc' := 112) (L' := [some (.ref 64), some (.int (nI n)), none]) (S' := [.int (M9 64 25)]) (σ' := lm_T M9 v9 G) rfl trivial ?_
          rw [show M9 64 25 = 0 from g9.2]
          refine lm_G_br (b := 0 = 0) (t := 138) (S' := []) rfl (fun hc => ?_) (fun hc => absurd rfl hc)
          refine lm_G_sg 1 (pc' := 139) (L' := [some (.ref 64), some (.int (nI n)), none]) (S' := [.ref 64]) (σ' := lm_T M9 v9 G) rfl trivial ?_
          refine lm_G_ca (j := 175) (as := [.ref 64]) (rest := []) rfl (Or.inl rfl) (Nat.le_of_ble_eq_true rfl) (Nat.le_of_ble_eq_true rfl) (Nat.le_of_ble_eq_true rfl) (Nat.le_of_ble_eq_true rfl) rfl ?_
          refine m_takeOver d9 o9 (fun M8 w1 w2 w3 w4 w5 w6 => ?_)
          show lm_G X (d + 44) 173 106 0 0 142 [some (.ref 64), some (.int (nI n)), none] [] (lm_T M8 v9 G) Q
          refine lm_G_sg 1 (pc' := 143) (L' := [some (.ref 64), some (.int (nI n)), none]) (S' := [.int 0]) (σ' := lm_T M8 v9 G) rfl trivial ?_
          exact lm_G_re rfl trivial (Nat.zero_le _) (Nat.zero_le _) (q_.1 D er o9 _ v9 (by
            refine ⟨w1, ?_, w2, w3, fun i hi => absurd hi (Nat.not_lt_zero i), fun i hi => absurd hi (Nat.not_lt_zero i), fun i hi => ?_⟩
            · exact (w5 42 (by decide) (by decide) (by decide) (by decide)).trans ((FrP_k f9 (by omega)).trans sm.2.1)
            · show M8 78 i = bkR B i
              rw [w6 78 (by omega), FrP_r f9 (by omega)]
              exact sm.2.2.2.2.2.2 i hi) ((w5 4 (by decide) (by decide) (by decide) (by decide)).trans ((FrP_k f9 (by omega)).trans s4)) ((w5 18 (by decide) (by decide) (by decide) (by decide)).trans ((FrP_k f9 (by omega)).trans s18)) ((w5 27 (by decide) (by decide) (by decide) (by decide)).trans ((FrP_k f9 (by omega)).trans s27)) w4 (fun r hr => (w6 r (by omega)).trans ((FrP_r f9 (by omega)).trans (sr r (by omega)))))
        show lm_G X (d + 44) 173 106 0 0 85 [some (.ref 64), some (.int (nI n)), some (.int (dnI D0))] [] (lm_T M2 v G) Q
        refine lm_ind (α := (Nat → Fn) × Dr × Nat × Nat) (St := fun (j : Nat) zz => (fun (M3 : Nat → Fn) (D : Dr) (u : Nat) (v3 : Nat) => lm_G X (d + 44) 173 106 0 0 85 [some (.ref 64), some (.int (nI n)), some (.int (dnI D))] [] (lm_T M3 v3 G) Q) zz.1 zz.2.1 zz.2.2.1 zz.2.2.2) (Inv := fun (j : Nat) zz => (fun (M3 : Nat → Fn) (D : Dr) (u : Nat) (v3 : Nat) => GM M3 (n, tp) u ∧ u ≤ n ∧ j ≤ u ∧ DM M3 D ∧ okD D ∧ FrP N0 M3 ∧ lnsS (n, tp) (700 - j) D u = txS (n, tp)) zz.1 zz.2.1 zz.2.2.1 zz.2.2.2) (700) (fun j zz hj2 hI2 ih2 => ?_) (fun zz hI2 => ?_) (0) (M2, D0, 0, v) (by omega) ?_
        ·
          obtain ⟨M3, D, u, v3⟩ := zz
          replace hI2 : GM M3 (n, tp) u ∧ u ≤ n ∧ j ≤ u ∧ DM M3 D ∧ okD D ∧ FrP N0 M3 ∧ lnsS (n, tp) (700 - j) D u = txS (n, tp) := hI2
          replace ih2 : ∀ (M3 : Nat → Fn) (D : Dr) (u : Nat) (v3 : Nat) (_ : GM M3 (n, tp) u ∧ u ≤ n ∧ (j + 1) ≤ u ∧ DM M3 D ∧ okD D ∧ FrP N0 M3 ∧ lnsS (n, tp) (700 - (j + 1)) D u = txS (n, tp)), lm_G X (d + 44) 173 106 0 0 85 [some (.ref 64), some (.int (nI n)), some (.int (dnI D))] [] (lm_T M3 v3 G) Q := fun M3 D u v3 q => ih2 (M3, D, u, v3) q
          show lm_G X (d + 44) 173 106 0 0 85 [some (.ref 64), some (.int (nI n)), some (.int (dnI D))] [] (lm_T M3 v3 G) Q
          obtain ⟨g3, l3, j3, d3, o3, f3, eR⟩ := hI2
          have kl := tk_le (T := (n, tp)) (p := u)
          have ef : 700 - j = (700 - (j + 1)) + 1 := by omega
          rw [ef] at eR
          simp only [lnsS] at eR
          refine lm_G_sg 2 (pc' := 89) (L' := [some (.ref 64), some (.int (nI n)), some (.int (dnI D))]) (S' := [.int (M3 64 25)]) (σ' := lm_T M3 v3 G) rfl trivial ?_
          rw [show M3 64 25 = 0 from g3.2]
          refine lm_G_br (b := ¬ 0 = 0) (t := 108) (S' := []) rfl (fun hc => absurd rfl hc) (fun hc => ?_)
          refine lm_G_sg 2 (pc' := 96) (L' := [some (.ref 64), some (.int (nI n)), some (.int (dnI D))]) (S' := [.int (M3 64 21)]) (σ' := lm_T M3 v3 G) rfl trivial ?_
          rw [show M3 64 21 = nI (tkS (n, tp) u) from g3.1.2.1]
          refine lm_G_br (b := (nI (tkS (n, tp) u)) = 0) (t := 108) (S' := []) rfl (fun g0 => ?_) (fun g0 => ?_)
          ·
            have k0_ : knS (n, tp) u = 0 := tk_0.mp ((nI_eq (b := 0) (by omega) (by omega)).mp g0)
            rw [if_pos k0_] at eR
            refine lm_G_jk (L := [some (.ref 64), some (.int (nI n)), none]) ⟨rfl, rfl, trivial⟩ ?_
            exact k108 M3 D u v3 g3 d3 o3 f3 eR.symm
          ·
            have k0_ : ¬ knS (n, tp) u = 0 := fun w => g0 (by rw [tk_0.mpr w]; rfl)
            rw [if_neg k0_] at eR
            refine lm_G_sg 2 (pc' := 101) (L' := [some (.ref 64), some (.int (nI n)), some (.int (dnI D))]) (S' := [.int (dnI D), .ref 64]) (σ' := lm_T M3 v3 G) rfl trivial ?_
            refine lm_G_ca (j := 172) (as := [.ref 64, .int (dnI D)]) (rest := []) rfl (Or.inl rfl) (Nat.le_of_ble_eq_true rfl) (Nat.le_of_ble_eq_true rfl) (Nat.le_of_ble_eq_true rfl) (Nat.le_of_ble_eq_true rfl) rfl ?_
            refine m_readLine hT d v3 M3 G _ u D g3 l3 k0_ d3 o3 (fun r E er M9 v9 g9 d9 f9 => ?_) (fun e a er M9 v9 y9 b9 z9 f9 => ?_)
            ·
              show lm_G X (d + 44) 173 106 0 0 104 [some (.ref 64), some (.int (nI n)), some (.int (dnI D))] [.int (dnI E)] (lm_T M9 v9 G) Q
              obtain ⟨x1, x2, x3⟩ := lnL_ok hT l3 o3 er
              rw [er] at eR
              refine lm_G_sg 2 (pc' := 85) (L' := [some (.ref 64), some (.int (nI n)), some (.int (dnI E))]) (S' := []) (σ' := lm_T M9 v9 G) rfl trivial ?_
              exact ih2 _ _ _ _ (⟨g9, x3, by omega, d9, x1, FrP_tr f3 f9, eR⟩)
            ·
              show lm_G X (d + 44) 173 106 0 0 104 [some (.ref 64), some (.int (nI n)), some (.int (dnI D))] [.int y9] (lm_T M9 v9 G) Q
              rw [er] at eR
              refine lm_G_sg 2 (pc' := 85) (L' := [some (.ref 64), some (.int (nI n)), some (.int y9)]) (S' := []) (σ' := lm_T M9 v9 G) rfl trivial ?_
              refine lm_G_sg 2 (pc' := 89) (L' := [some (.ref 64), some (.int (nI n)), some (.int y9)]) (S' := [.int (M9 64 25)]) (σ' := lm_T M9 v9 G) rfl trivial ?_
              refine lm_G_br (b := ¬ (M9 64 25) = 0) (t := 108) (S' := []) rfl (fun hc => ?_) (fun hc => absurd (Classical.not_not.mp hc) z9)
              refine lm_G_jk (L := [some (.ref 64), some (.int (nI n)), none]) ⟨rfl, rfl, trivial⟩ ?_
              exact kB M9 e a v9 z9 b9 (FrP_tr f3 f9) eR.symm
        ·
          obtain ⟨M3, D, u, v3⟩ := zz
          replace hI2 : GM M3 (n, tp) u ∧ u ≤ n ∧ 700 ≤ u ∧ DM M3 D ∧ okD D ∧ FrP N0 M3 ∧ lnsS (n, tp) (700 - 700) D u = txS (n, tp) := hI2
          show lm_G X (d + 44) 173 106 0 0 85 [some (.ref 64), some (.int (nI n)), some (.int (dnI D))] [] (lm_T M3 v3 G) Q
          obtain ⟨g3, l3, j3, d3, o3, f3, eR⟩ := hI2
          rw [Nat.sub_self] at eR
          have kl := tk_le (T := (n, tp)) (p := u)
          have k0_ : knS (n, tp) u = 0 := kn_0.mpr (by have := (st_le (T := (n, tp)) l3).1; show n ≤ _; have := hT.1; replace this : n ≤ 700 := this; omega)
          refine lm_G_sg 2 (pc' := 89) (L' := [some (.ref 64), some (.int (nI n)), some (.int (dnI D))]) (S' := [.int (M3 64 25)]) (σ' := lm_T M3 v3 G) rfl trivial ?_
          rw [show M3 64 25 = 0 from g3.2]
          refine lm_G_br (b := ¬ 0 = 0) (t := 108) (S' := []) rfl (fun hc => absurd rfl hc) (fun hc => ?_)
          refine lm_G_sg 2 (pc' := 96) (L' := [some (.ref 64), some (.int (nI n)), some (.int (dnI D))]) (S' := [.int (M3 64 21)]) (σ' := lm_T M3 v3 G) rfl trivial ?_
          rw [show M3 64 21 = nI (tkS (n, tp) u) from g3.1.2.1]
          refine lm_G_br (b := (nI (tkS (n, tp) u)) = 0) (t := 108) (S' := []) rfl (fun hc => ?_) (fun hc => absurd (by rw [tk_0.mpr k0_]; rfl) hc)
          refine lm_G_jk (L := [some (.ref 64), some (.int (nI n)), none]) ⟨rfl, rfl, trivial⟩ ?_
          exact k108 M3 D u v3 g3 d3 o3 f3 eR.symm
        ·
          try dsimp only
          exact ⟨g2, Nat.zero_le _, Nat.zero_le _, d2, okD_0, fp2, rfl⟩
      ·
        try dsimp only
        exact ⟨fun _ _ => rfl, fun _ _ => rfl, fun i hi => absurd hi (Nat.not_lt_zero i)⟩
