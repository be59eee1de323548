/-! ===== contracts: a round, the model ===== -/
def goE (F : Fa) (s : Sc) (f : Fn) (lo : Nat) : Prop := ∀ h, lo < h → h ≤ ownA F s → h &&& ownA F s = h → ∀ t, t < fM F → h.testBit t = true → f (64 * t + h) = nI (dS s (fM F) (ownA F s) (lenA F s - pcN h) t h)
theorem arg_uq {g : Nat → Bool} {f : Nat → Nat} {m t : Nat} (ht : t < m) (hg : g t = true) (h1 : ∀ u, u < m → g u = true → f t ≤ f u) (h2 : ∀ u, u < t → g u = true → f t < f u) (hl : f t < 1000) : t = (mnS g f m).2 ∧ f t = (mnS g f m).1 := by
  have a := (mn_le (g := g) (f := f) m).2 t ht hg
  obtain ⟨b1, b2, b3, b4⟩ := mn_at (g := g) (f := f) m (by omega)
  have c := h1 _ b1 b2
  have e : f t = (mnS g f m).1 := by omega
  refine ⟨?_, e⟩
  apply Classical.byContradiction
  intro w
  rcases Nat.lt_or_gt_of_ne w with q | q
  · have := b4 t q hg
    omega
  · have := h2 _ q b2
    omega
theorem add_m1 {k : Nat} (h : 0 < k) : nI k + (-1) = nI k - 1 := by
  rw [nI_dec h, nI_sb1 h]
theorem bitW_dif {A h u : Nat} (hu : u < 32) : bitW (nI A &&& (nI h ^^^ (-1))) u = vld A h u := by
  rw [bitW_and _ _ hu, bitW_nm hu, bitW_nI hu, bitW_nI hu]
  rfl
theorem vld_full {A u : Nat} : vld A A u = false := by
  unfold vld
  cases A.testBit u <;> rfl
theorem rou_in {x : Int32} {n : Nat} (hn : n ≤ 6) : inL x.toInt64 (-1) (nI n - 1).toInt64 = decide (-1 ≤ x ∧ x < nI n) := by
  unfold inL
  apply decide_eq_decide.mpr
  have h1 : (nI n - 1).toInt = (n : Int) - 1 := (by decide : ∀ n, n ≤ 6 → (nI n - 1).toInt = (n : Int) - 1) n hn
  have h2 : (-1 : Int64).toInt = -1 := by decide
  have h3 : (-1 : Int32).toInt = -1 := by decide
  rw [Int64.le_iff_toInt_le, Int64.le_iff_toInt_le, Int32.le_iff_toInt_le, Int32.lt_iff_toInt_lt, Int32.toInt_toInt64, Int32.toInt_toInt64, h1, h2, h3, nI_toInt (by omega)]
  omega
theorem pc_1 : ∀ u, u < 6 → pcN (2 ^ u) = 1 ∧ (2 ^ u).testBit u = true ∧ 2 ^ u < 64 ∧ 0 < 2 ^ u := by decide +kernel
theorem sub_1 : ∀ A, A < 64 → ∀ u, u < 6 → A.testBit u = true → (2 ^ u &&& A = 2 ^ u ∧ 2 ^ u ≤ A ∧ 1 ≤ pcN A) := by decide +kernel
theorem bit_or : ∀ h, h < 64 → ∀ u, u < 6 → (h ||| 2 ^ u).testBit u = true := by decide +kernel
theorem some_bit : ∀ A, A < 64 → A ≠ 0 → ∃ u, u < 6 ∧ A.testBit u = true := by decide +kernel
set_option maxRecDepth 10000 in
theorem m_wayOf {X : lm_X} {d v : Nat} {M : Nat → Nat → Int32} {G : Nat → Nat → Int64} {Q : lm_O → lm_S → Prop} {F : Fa} {s : Sc} {t u : Nat} (hF : okF F) (hs : okS F s) (h : RM M F s) (ht : t < fM F) (ho : sOw s t ≠ -1) (hu : u < fM F) (hou : sOw s u ≠ -1) (hQ : Q (.inl (some (.int (nI (wN s t u))))) (lm_T M v G)) : lm_Q X d 226 [.ref 64, .int (nI t), .int (nI u)] (lm_T M v G) Q := by
  have hn := hF.n
  have hm := hF.m
  show lm_G X d 226 106 0 0 0 [some (.ref 64), some (.int (nI t)), some (.int (nI u))] [] (lm_T M v G) Q
  obtain ⟨hx, q, hq, eo, ep⟩ := xP_ok hs ht ho hF.n
  obtain ⟨hx2, q2, hq2, eo2, ep2⟩ := xP_ok hs hu hou hF.n
  refine lm_G_sg 6 (pc' := 10) (L' := [some (.ref 64), some (.int (nI t)), some (.int (nI u))]) (S' := [.int (M 81 (nI t).toNatClampNeg), .ref 85]) (σ' := lm_T M v G) rfl ⟨(vp_in_nI (by omega) (by omega)), trivial, trivial⟩ ?_
  rw [show (nI t).toNatClampNeg = t from nI_clamp (by omega)]
  rw [show M 81 t = sOw s t from h.ow t (by omega)]
  rw [eo]
  refine lm_G_sg 1 (pc' := 11) (L' := [some (.ref 64), some (.int (nI t)), some (.int (nI u))]) (S' := [.int (M 85 (nI q).toNatClampNeg)]) (σ' := lm_T M v G) rfl ⟨(vp_in_nI (by omega) (by omega)), trivial, trivial⟩ ?_
  rw [show (nI q).toNatClampNeg = q from nI_clamp (by omega)]
  rw [show M 85 q = sPl s q from h.pl q (by omega)]
  rw [ep]
  refine lm_G_sg 6 (pc' := 21) (L' := [some (.ref 64), some (.int (nI t)), some (.int (nI u))]) (S' := [.int (M 81 (nI u).toNatClampNeg), .ref 85, .int (nI (xP s t))]) (σ' := lm_T M v G) rfl ⟨(vp_in_nI (by omega) (by omega)), trivial, trivial⟩ ?_
  rw [show (nI u).toNatClampNeg = u from nI_clamp (by omega)]
  rw [show M 81 u = sOw s u from h.ow u (by omega)]
  rw [eo2]
  refine lm_G_sg 1 (pc' := 22) (L' := [some (.ref 64), some (.int (nI t)), some (.int (nI u))]) (S' := [.int (M 85 (nI q2).toNatClampNeg), .int (nI (xP s t))]) (σ' := lm_T M v G) rfl ⟨(vp_in_nI (by omega) (by omega)), trivial, trivial⟩ ?_
  rw [show (nI q2).toNatClampNeg = q2 from nI_clamp (by omega)]
  rw [show M 85 q2 = sPl s q2 from h.pl q2 (by omega)]
  rw [ep2]
  refine lm_G_sg 2 (pc' := 26) (L' := [some (.ref 64), some (.int (nI t)), some (.int (nI u))]) (S' := [.int (absI ((nI (xP s t)) - (nI (xP s u))))]) (σ' := lm_T M v G) rfl ⟨trivial, (Nat.le_of_ble_eq_true rfl), trivial⟩ ?_
  rw [show absI ((nI (xP s t)) - (nI (xP s u))) = nI (wN s t u) from by
    unfold wN
    rw [if_neg (by omega)]
    exact (dN_abs _ hx _ hx2).2.1]
  exact lm_G_re rfl trivial (Nat.zero_le _) (Nat.zero_le _) hQ
set_option maxRecDepth 10000 in
theorem m_tellRound {X : lm_X} {d v : Nat} {M : Nat → Nat → Int32} {G : Nat → Nat → Int64} {Q : lm_O → lm_S → Prop} {F : Fa} {s : Sc} (hF : okF F) (hs : okS F s) (h : RM M F s) (hQ : ∀ M1, goE F s (M1 91) 0 → Fr (frO 91) M M1 → Q (.inl none) (lm_T M1 v G)) : lm_Q X (d + 1) 227 [.ref 64, .int (nI (ownA F s))] (lm_T M v G) Q := by
  have hn := hF.n
  have hm := hF.m
  have hA := ownA_lt hF (s := s)
  show lm_G X (d + 1) 227 106 0 0 0 [some (.ref 64), some (.int (nI (ownA F s))), none, none, none, none] [] (lm_T M v G) Q
  refine lm_G_sg 2 (pc' := 2) (L' := [some (.ref 64), some (.int (nI (ownA F s))), some (.int (nI (ownA F s))), none, none, none]) (S' := []) (σ' := lm_T M v G) rfl trivial ?_
  refine lm_ind (α := (Nat → Fn)) (St := fun (j : Nat) zz => (fun (M1 : Nat → Fn) => lm_G X (d + 1) 227 106 0 0 2 [some (.ref 64), some (.int (nI (ownA F s))), some (.int (nI (ownA F s - j))), none, none, none] [] (lm_T M1 v G) Q) zz) (Inv := fun (j : Nat) zz => (fun (M1 : Nat → Fn) => goE F s (M1 91) (ownA F s - j) ∧ Fr (frO 91) M M1) zz) (ownA F s) (fun j zz hj hI ih => ?_) (fun zz hI => ?_) (0) M (by omega) ?_
  ·
    revert ih hI
    revert zz
    intro M1 hI ih
    replace hI : goE F s (M1 91) (ownA F s - j) ∧ Fr (frO 91) M M1 := hI
    replace ih : ∀ (M1 : Nat → Fn) (_ : goE F s (M1 91) (ownA F s - (j + 1)) ∧ Fr (frO 91) M M1), lm_G X (d + 1) 227 106 0 0 2 [some (.ref 64), some (.int (nI (ownA F s))), some (.int (nI (ownA F s - (j + 1)))), none, none, none] [] (lm_T M1 v G) Q := fun M1 q => ih M1 q
    show lm_G X (d + 1) 227 106 0 0 2 [some (.ref 64), some (.int (nI (ownA F s))), some (.int (nI (ownA F s - j))), none, none, none] [] (lm_T M1 v G) Q
    obtain ⟨g1, f1⟩ := hI
    obtain ⟨q, hq⟩ : ∃ q, q = ownA F s - j := ⟨_, rfl⟩
    rw [← hq] at g1 ⊢
    refine lm_G_sg 1 (pc' := 3) (L' := [some (.ref 64), some (.int (nI (ownA F s))), some (.int (nI q)), none, none, none]) (S' := [.int (nI q)]) (σ' := lm_T M1 v G) rfl trivial ?_
    refine lm_G_br (b := (nI q) ≤ 0) (t := 141) (S' := []) rfl (fun hc => absurd hc (nI_nle (by omega) (by omega))) (fun hc => ?_)
    refine lm_G_sg 2 (pc' := 8) (L' := [some (.ref 64), some (.int (nI (ownA F s))), some (.int (nI q)), some (.int 0), none, none]) (S' := []) (σ' := lm_T M1 v G) rfl trivial ?_
    have k135 : ∀ (M2 : Nat → Fn) (g2 : goE F s (M2 91) (q - 1)) (f2 : Fr (frO 91) M M2), lm_G X (d + 1) 227 106 0 0 135 [some (.ref 64), some (.int (nI (ownA F s))), some (.int (nI q)), none, none, none] [] (lm_T M2 v G) Q := by
      intro M2 g2 f2
      refine lm_G_sg 1 (pc' := 138) (L' := [some (.ref 64), some (.int (nI (ownA F s))), some (.int ((nI q) + (-1))), none, none, none]) (S' := []) (σ' := lm_T M2 v G) rfl trivial ?_
      rw [show (nI q) + (-1) = nI (ownA F s - (j + 1)) from by rw [nI_dec (by omega)]; congr 1; omega]
      refine lm_G_sg 1 (pc' := 2) (L' := [some (.ref 64), some (.int (nI (ownA F s))), some (.int (nI (ownA F s - (j + 1)))), none, none, none]) (S' := []) (σ' := lm_T M2 v G) rfl trivial ?_
      exact ih _ (⟨by rw [show ownA F s - (j + 1) = q - 1 by omega]; exact g2, f2⟩)
    by_cases hsub : q &&& ownA F s = q
    rotate_left
    ·
      have h1 := RM_O h f1 (by decide)
      refine lm_G_sg 5 (pc' := 15) (L' := [some (.ref 64), some (.int (nI (ownA F s))), some (.int (nI q)), some (.int 0), none, none]) (S' := [.int (M1 68 1), .int 0]) (σ' := lm_T M1 v G) rfl ⟨(lm_inb_ok rfl), trivial, trivial⟩ ?_
      rw [show M1 68 1 = nI (fM F) from h1.m]
      refine lm_G_br (b := (nI (fM F)) ≤ 0) (t := 135) (S' := []) rfl (fun h5 => ?_) (fun h5 => ?_)
      ·
        refine lm_G_jk (L := [some (.ref 64), some (.int (nI (ownA F s))), some (.int (nI q)), none, none, none]) ⟨rfl, rfl, rfl, rfl, rfl, trivial⟩ ?_
        exact k135 _ (fun h1 a1 a2 a3 => if e : h1 = q then absurd (e ▸ a3) hsub else g1 h1 (by omega) a2 a3) f1
      ·
        refine lm_G_sg 5 (pc' := 23) (L' := [some (.ref 64), some (.int (nI (ownA F s))), some (.int (nI q)), some (.int 0), none, none]) (S' := [.int ((nI q) &&& ((nI (ownA F s)) ^^^ (-1)))]) (σ' := lm_T M1 v G) rfl trivial ?_
        refine lm_G_br (b := ¬ ((nI q) &&& ((nI (ownA F s)) ^^^ (-1))) = 0) (t := 135) (S' := []) rfl (fun h6 => ?_) (fun h6 => absurd ((sub_ii (ownA F s) hA q (by omega)).mp (Classical.not_not.mp h6)) hsub)
        refine lm_G_jk (L := [some (.ref 64), some (.int (nI (ownA F s))), some (.int (nI q)), none, none, none]) ⟨rfl, rfl, rfl, rfl, rfl, trivial⟩ ?_
        exact k135 _ (fun h1 a1 a2 a3 => if e : h1 = q then absurd (e ▸ a3) hsub else g1 h1 (by omega) a2 a3) f1
    ·
      refine lm_ind (α := (Nat → Fn)) (St := fun (i : Nat) zz => (fun (M2 : Nat → Fn) => lm_G X (d + 1) 227 106 0 0 8 [some (.ref 64), some (.int (nI (ownA F s))), some (.int (nI q)), some (.int (nI i)), none, none] [] (lm_T M2 v G) Q) zz) (Inv := fun (i : Nat) zz => (fun (M2 : Nat → Fn) => (∀ w, w < i → q.testBit w = true → M2 91 (64 * w + q) = nI (dS s (fM F) (ownA F s) (lenA F s - pcN q) w q)) ∧ goE F s (M2 91) q ∧ Fr (frO 91) M M2) zz) (fM F) (fun i zz hj2 hI2 ih2 => ?_) (fun zz hI2 => ?_) (0) M1 (by omega) ?_
      ·
        revert ih2 hI2
        revert zz
        intro M2 hI2 ih2
        replace hI2 : (∀ w, w < i → q.testBit w = true → M2 91 (64 * w + q) = nI (dS s (fM F) (ownA F s) (lenA F s - pcN q) w q)) ∧ goE F s (M2 91) q ∧ Fr (frO 91) M M2 := hI2
        replace ih2 : ∀ (M2 : Nat → Fn) (_ : (∀ w, w < (i + 1) → q.testBit w = true → M2 91 (64 * w + q) = nI (dS s (fM F) (ownA F s) (lenA F s - pcN q) w q)) ∧ goE F s (M2 91) q ∧ Fr (frO 91) M M2), lm_G X (d + 1) 227 106 0 0 8 [some (.ref 64), some (.int (nI (ownA F s))), some (.int (nI q)), some (.int (nI (i + 1))), none, none] [] (lm_T M2 v G) Q := fun M2 q => ih2 M2 q
        show lm_G X (d + 1) 227 106 0 0 8 [some (.ref 64), some (.int (nI (ownA F s))), some (.int (nI q)), some (.int (nI i)), none, none] [] (lm_T M2 v G) Q
        obtain ⟨e2, g2, f2⟩ := hI2
        have h2 := RM_O h f2 (by decide)
        refine lm_G_sg 5 (pc' := 15) (L' := [some (.ref 64), some (.int (nI (ownA F s))), some (.int (nI q)), some (.int (nI i)), none, none]) (S' := [.int (M2 68 1), .int (nI i)]) (σ' := lm_T M2 v G) rfl ⟨(lm_inb_ok rfl), trivial, trivial⟩ ?_
        rw [show M2 68 1 = nI (fM F) from h2.m]
        refine lm_G_br (b := (nI (fM F)) ≤ (nI i)) (t := 135) (S' := []) rfl (fun hc => absurd hc (nI_ge hj2 (by omega))) (fun hc => ?_)
        refine lm_G_sg 5 (pc' := 23) (L' := [some (.ref 64), some (.int (nI (ownA F s))), some (.int (nI q)), some (.int (nI i)), none, none]) (S' := [.int ((nI q) &&& ((nI (ownA F s)) ^^^ (-1)))]) (σ' := lm_T M2 v G) rfl trivial ?_
        refine lm_G_br (b := ¬ ((nI q) &&& ((nI (ownA F s)) ^^^ (-1))) = 0) (t := 135) (S' := []) rfl (fun h5 => absurd ((sub_ii (ownA F s) hA q (by omega)).mpr hsub) h5) (fun h5 => ?_)
        refine lm_G_sg 2 (pc' := 28) (L' := [some (.ref 64), some (.int (nI (ownA F s))), some (.int (nI q)), some (.int (nI i)), none, none]) (S' := [.int (nI i), .int (nI q)]) (σ' := lm_T M2 v G) rfl trivial ?_
        refine lm_G_ca (j := 143) (as := [.int (nI q), .int (nI i)]) (rest := []) rfl (Or.inl rfl) (Nat.le_of_ble_eq_true rfl) (Nat.le_of_ble_eq_true rfl) (Nat.le_of_ble_eq_true rfl) (Nat.le_of_ble_eq_true rfl) rfl ?_
        refine c_isOf ?_
        show lm_G X (d + 1) 227 106 0 0 31 [some (.ref 64), some (.int (nI (ownA F s))), some (.int (nI q)), some (.int (nI i)), none, none] [.int (b2i (bitW (nI q) i))] (lm_T M2 v G) Q
        rw [bitW_nI (k := q) (by omega)]
        refine lm_G_br (b := ¬ (b2i (q.testBit i)) = 0) (t := 37) (S' := []) rfl (fun h6 => ?_) (fun h6 => ?_)
        rotate_left
        ·
          refine lm_G_sg 2 (pc' := 132) (L' := [some (.ref 64), some (.int (nI (ownA F s))), some (.int (nI q)), some (.int ((nI i) + 1)), none, none]) (S' := []) (σ' := lm_T M2 v G) rfl trivial ?_
          rw [nI_1]
          refine lm_G_sg 1 (pc' := 8) (L' := [some (.ref 64), some (.int (nI (ownA F s))), some (.int (nI q)), some (.int (nI (i + 1))), none, none]) (S' := []) (σ' := lm_T M2 v G) rfl trivial ?_
          exact ih2 _ (⟨fun w hw hb => if e : w = i then absurd (b2i_0 (Classical.not_not.mp h6)) (by rw [← e, hb]; decide) else e2 w (by omega) hb, g2, f2⟩)
        ·
          have hb := b2i_1 h6
          have hoi : sOw s i ≠ -1 := by
            have hz : (ownA F s).testBit i = true := by
              have : (q &&& ownA F s).testBit i = true := by rw [hsub]; exact hb
              rw [Nat.testBit_and, hb] at this
              simpa using this
            rw [ownA_bit hF hj2] at hz
            exact of_decide_eq_true hz
          obtain ⟨pp1, pp2, _⟩ := pc_sub _ hA q (by omega) hsub
          refine lm_G_sg 2 (pc' := 39) (L' := [some (.ref 64), some (.int (nI (ownA F s))), some (.int (nI q)), some (.int (nI i)), none, none]) (S' := [.int (nI (ownA F s)), .int (nI q)]) (σ' := lm_T M2 v G) rfl trivial ?_
          refine lm_G_br (b := ¬ (nI q) = (nI (ownA F s))) (t := 46) (S' := []) rfl (fun h7 => ?_) (fun h7 => ?_)
          ·
            refine lm_G_sg 4 (pc' := 54) (L' := [some (.ref 64), some (.int (nI (ownA F s))), some (.int (nI q)), some (.int (nI i)), some (.int 1000), some (.int 0)]) (S' := []) (σ' := lm_T M2 v G) rfl trivial ?_
            rw [show (1000 : Int32) = nI (if q = ownA F s then 0 else (mnS (vld (ownA F s) q) (fuS s (fM F) (ownA F s) (lenA F s - pcN q - 1) i q) 0).1) from by rw [if_neg (fun e => h7 (by rw [e]))]; rfl]
            show lm_G X (d + 1) 227 106 0 0 54 [some (.ref 64), some (.int (nI (ownA F s))), some (.int (nI q)), some (.int (nI i)), some (.int (nI (if q = ownA F s then 0 else (mnS (vld (ownA F s) q) (fuS s (fM F) (ownA F s) (lenA F s - pcN q - 1) i q) 0).1))), some (.int 0)] [] (lm_T M2 v G) Q
            refine lm_ind (α := Unit) (St := fun (k : Nat) zz => lm_G X (d + 1) 227 106 0 0 54 [some (.ref 64), some (.int (nI (ownA F s))), some (.int (nI q)), some (.int (nI i)), some (.int (nI (if q = ownA F s then 0 else (mnS (vld (ownA F s) q) (fuS s (fM F) (ownA F s) (lenA F s - pcN q - 1) i q) k).1))), some (.int (nI k))] [] (lm_T M2 v G) Q) (Inv := fun (k : Nat) zz => True) (fM F) (fun k zz hj3 hI3 ih3 => ?_) (fun zz hI3 => ?_) (0) () (by omega) ?_
            ·
              replace hI3 : True := hI3
              replace ih3 : ∀ (_ : True), lm_G X (d + 1) 227 106 0 0 54 [some (.ref 64), some (.int (nI (ownA F s))), some (.int (nI q)), some (.int (nI i)), some (.int (nI (if q = ownA F s then 0 else (mnS (vld (ownA F s) q) (fuS s (fM F) (ownA F s) (lenA F s - pcN q - 1) i q) (k + 1)).1))), some (.int (nI (k + 1)))] [] (lm_T M2 v G) Q := fun q => ih3 () q
              show lm_G X (d + 1) 227 106 0 0 54 [some (.ref 64), some (.int (nI (ownA F s))), some (.int (nI q)), some (.int (nI i)), some (.int (nI (if q = ownA F s then 0 else (mnS (vld (ownA F s) q) (fuS s (fM F) (ownA F s) (lenA F s - pcN q - 1) i q) k).1))), some (.int (nI k))] [] (lm_T M2 v G) Q
              have hml := (mn_le (g := vld (ownA F s) q) (f := fuS s (fM F) (ownA F s) (lenA F s - pcN q - 1) i q) k).1
              refine lm_G_sg 5 (pc' := 62) (L' := [some (.ref 64), some (.int (nI (ownA F s))), some (.int (nI q)), some (.int (nI i)), some (.int (nI (if q = ownA F s then 0 else (mnS (vld (ownA F s) q) (fuS s (fM F) (ownA F s) (lenA F s - pcN q - 1) i q) k).1))), some (.int (nI k))]) (S' := [.int (M2 68 1), .int (nI k)]) (σ' := lm_T M2 v G) rfl ⟨(lm_inb_ok rfl), trivial, trivial⟩ ?_
              rw [show M2 68 1 = nI (fM F) from h2.m]
              refine lm_G_br (b := (nI (fM F)) ≤ (nI k)) (t := 116) (S' := []) rfl (fun hc => absurd hc (nI_ge hj3 (by omega))) (fun hc => ?_)
              refine lm_G_sg 6 (pc' := 72) (L' := [some (.ref 64), some (.int (nI (ownA F s))), some (.int (nI q)), some (.int (nI i)), some (.int (nI (if q = ownA F s then 0 else (mnS (vld (ownA F s) q) (fuS s (fM F) (ownA F s) (lenA F s - pcN q - 1) i q) k).1))), some (.int (nI k))]) (S' := [.int (nI k), .int ((nI (ownA F s)) &&& ((nI q) ^^^ (-1)))]) (σ' := lm_T M2 v G) rfl trivial ?_
              refine lm_G_ca (j := 143) (as := [.int ((nI (ownA F s)) &&& ((nI q) ^^^ (-1))), .int (nI k)]) (rest := []) rfl (Or.inl rfl) (Nat.le_of_ble_eq_true rfl) (Nat.le_of_ble_eq_true rfl) (Nat.le_of_ble_eq_true rfl) (Nat.le_of_ble_eq_true rfl) rfl ?_
              refine c_isOf ?_
              show lm_G X (d + 1) 227 106 0 0 75 [some (.ref 64), some (.int (nI (ownA F s))), some (.int (nI q)), some (.int (nI i)), some (.int (nI (if q = ownA F s then 0 else (mnS (vld (ownA F s) q) (fuS s (fM F) (ownA F s) (lenA F s - pcN q - 1) i q) k).1))), some (.int (nI k))] [.int (b2i (bitW (nI (ownA F s) &&& (nI q ^^^ (-1))) k))] (lm_T M2 v G) Q
              rw [bitW_dif (by omega)]
              refine lm_G_br (b := (b2i (vld (ownA F s) q k)) = 0) (t := 110) (S' := []) rfl (fun h8 => ?_) (fun h8 => ?_)
              ·
                refine lm_G_sg 1 (pc' := 113) (L' := [some (.ref 64), some (.int (nI (ownA F s))), some (.int (nI q)), some (.int (nI i)), some (.int (nI (if q = ownA F s then 0 else (mnS (vld (ownA F s) q) (fuS s (fM F) (ownA F s) (lenA F s - pcN q - 1) i q) k).1))), some (.int ((nI k) + 1))]) (S' := []) (σ' := lm_T M2 v G) rfl trivial ?_
                rw [nI_1]
                refine lm_G_sg 1 (pc' := 54) (L' := [some (.ref 64), some (.int (nI (ownA F s))), some (.int (nI q)), some (.int (nI i)), some (.int (nI (if q = ownA F s then 0 else (mnS (vld (ownA F s) q) (fuS s (fM F) (ownA F s) (lenA F s - pcN q - 1) i q) k).1))), some (.int (nI (k + 1)))]) (S' := []) (σ' := lm_T M2 v G) rfl trivial ?_
                rw [mn_g (f := fuS s (fM F) (ownA F s) (lenA F s - pcN q - 1) i q) (b2i_0 h8)] at ih3
                exact ih3  trivial
              ·
                have hv := b2i_1 h8
                have nf : ¬ q = ownA F s := fun e => by rw [e, vld_full] at hv; cases hv
                obtain ⟨v1, v2, v3, v4⟩ := vld_ok hF hv
                have po := pc_or q (by omega) k (by omega) v4
                have so := sub_or _ hA q (by omega) hsub k (by omega) v3
                have ol := or_lt q (by omega) k (by omega)
                have ne : pcN q ≠ pcN (ownA F s) := fun e => nf (pp2 e)
                have hw := wN_le hF hs (Or.inr ⟨hj2, hoi⟩) v1 v2 (t := i)
                have dl := dS_le hF hs (lenA F s - pcN (q ||| 2 ^ k)) k (q ||| 2 ^ k) (Or.inr ⟨v1, v2⟩) ol so.1 rfl
                have hl6 := lenA_le hF (s := s)
                have el : lenA F s = pcN (ownA F s) := rfl
                have eg : M2 91 (64 * k + (q ||| 2 ^ k)) = nI (dS s (fM F) (ownA F s) (lenA F s - pcN q - 1) k (q ||| 2 ^ k)) := by
                  rw [g2 _ po.2 so.2 so.1 k v1 (bit_or q (by omega) k (by omega)), po.1]
                  rfl
                rw [po.1, show lenA F s - (pcN q + 1) = lenA F s - pcN q - 1 by omega] at dl
                refine lm_G_sg 4 (pc' := 84) (L' := [some (.ref 64), some (.int (nI (ownA F s))), some (.int (nI q)), some (.int (nI i)), some (.int (nI (if q = ownA F s then 0 else (mnS (vld (ownA F s) q) (fuS s (fM F) (ownA F s) (lenA F s - pcN q - 1) i q) k).1))), some (.int (nI k))]) (S' := [.int (nI k), .int (nI i), .ref 64, .int (nI (if q = ownA F s then 0 else (mnS (vld (ownA F s) q) (fuS s (fM F) (ownA F s) (lenA F s - pcN q - 1) i q) k).1))]) (σ' := lm_T M2 v G) rfl trivial ?_
                refine lm_G_ca (j := 226) (as := [.ref 64, .int (nI i), .int (nI k)]) (rest := [.int (nI (if q = ownA F s then 0 else (mnS (vld (ownA F s) q) (fuS s (fM F) (ownA F s) (lenA F s - pcN q - 1) i q) k).1))]) rfl (Or.inl rfl) (Nat.le_of_ble_eq_true rfl) (Nat.le_of_ble_eq_true rfl) (Nat.le_of_ble_eq_true rfl) (Nat.le_of_ble_eq_true rfl) rfl ?_
                refine m_wayOf hF hs h2 hj2 hoi v1 v2 ?_
                show lm_G X (d + 1) 227 106 0 0 87 [some (.ref 64), some (.int (nI (ownA F s))), some (.int (nI q)), some (.int (nI i)), some (.int (nI (if q = ownA F s then 0 else (mnS (vld (ownA F s) q) (fuS s (fM F) (ownA F s) (lenA F s - pcN q - 1) i q) k).1))), some (.int (nI k))] [.int (nI (wN s i k)), .int (nI (if q = ownA F s then 0 else (mnS (vld (ownA F s) q) (fuS s (fM F) (ownA F s) (lenA F s - pcN q - 1) i q) k).1))] (lm_T M2 v G) Q
                refine lm_G_sg 5 (pc' := 96) (L' := [some (.ref 64), some (.int (nI (ownA F s))), some (.int (nI q)), some (.int (nI i)), some (.int (nI (if q = ownA F s then 0 else (mnS (vld (ownA F s) q) (fuS s (fM F) (ownA F s) (lenA F s - pcN q - 1) i q) k).1))), some (.int (nI k))]) (S' := [.int ((nI k) <<< ((6 : Int32) &&& 31)), .ref 91, .int (nI (wN s i k)), .int (nI (if q = ownA F s then 0 else (mnS (vld (ownA F s) q) (fuS s (fM F) (ownA F s) (lenA F s - pcN q - 1) i q) k).1))]) (σ' := lm_T M2 v G) rfl trivial ?_
                rw [show nI k <<< ((6 : Int32) &&& 31) = nI (64 * k) from shl6 k (by omega)]
                refine lm_G_sg 5 (pc' := 102) (L' := [some (.ref 64), some (.int (nI (ownA F s))), some (.int (nI q)), some (.int (nI i)), some (.int (nI (if q = ownA F s then 0 else (mnS (vld (ownA F s) q) (fuS s (fM F) (ownA F s) (lenA F s - pcN q - 1) i q) k).1))), some (.int (nI k))]) (S' := [.int ((nI q) ||| ((1 : Int32) <<< ((nI k) &&& 31))), .int (nI (64 * k)), .ref 91, .int (nI (wN s i k)), .int (nI (if q = ownA F s then 0 else (mnS (vld (ownA F s) q) (fuS s (fM F) (ownA F s) (lenA F s - pcN q - 1) i q) k).1))]) (σ' := lm_T M2 v G) rfl trivial ?_
                rw [show (nI q) ||| ((1 : Int32) <<< ((nI k) &&& 31)) = nI (q ||| 2 ^ k) from or_bit (by omega)]
                refine lm_G_sg 1 (pc' := 103) (L' := [some (.ref 64), some (.int (nI (ownA F s))), some (.int (nI q)), some (.int (nI i)), some (.int (nI (if q = ownA F s then 0 else (mnS (vld (ownA F s) q) (fuS s (fM F) (ownA F s) (lenA F s - pcN q - 1) i q) k).1))), some (.int (nI k))]) (S' := [.int ((nI (64 * k)) + (nI (q ||| 2 ^ k))), .ref 91, .int (nI (wN s i k)), .int (nI (if q = ownA F s then 0 else (mnS (vld (ownA F s) q) (fuS s (fM F) (ownA F s) (lenA F s - pcN q - 1) i q) k).1))]) (σ' := lm_T M2 v G) rfl trivial ?_
                rw [show (nI (64 * k)) + (nI (q ||| 2 ^ k)) = nI ((64 * k) + (q ||| 2 ^ k)) from nI_add (64 * k) (q ||| 2 ^ k)]
                refine lm_G_sg 1 (pc' := 104) (L' := [some (.ref 64), some (.int (nI (ownA F s))), some (.int (nI q)), some (.int (nI i)), some (.int (nI (if q = ownA F s then 0 else (mnS (vld (ownA F s) q) (fuS s (fM F) (ownA F s) (lenA F s - pcN q - 1) i q) k).1))), some (.int (nI k))]) (S' := [.int (M2 91 (nI ((64 * k) + (q ||| 2 ^ k))).toNatClampNeg), .int (nI (wN s i k)), .int (nI (if q = ownA F s then 0 else (mnS (vld (ownA F s) q) (fuS s (fM F) (ownA F s) (lenA F s - pcN q - 1) i q) k).1))]) (σ' := lm_T M2 v G) rfl ⟨(vp_in_nI (by omega) (by omega)), trivial, trivial⟩ ?_
                rw [show (nI ((64 * k) + (q ||| 2 ^ k))).toNatClampNeg = ((64 * k) + (q ||| 2 ^ k)) from nI_clamp (by omega)]
                rw [show M2 91 ((64 * k) + (q ||| 2 ^ k)) = nI (dS s (fM F) (ownA F s) (lenA F s - pcN q - 1) k (q ||| 2 ^ k)) from eg]
                refine lm_G_sg 1 (pc' := 105) (L' := [some (.ref 64), some (.int (nI (ownA F s))), some (.int (nI q)), some (.int (nI i)), some (.int (nI (if q = ownA F s then 0 else (mnS (vld (ownA F s) q) (fuS s (fM F) (ownA F s) (lenA F s - pcN q - 1) i q) k).1))), some (.int (nI k))]) (S' := [.int ((nI (wN s i k)) + (nI (dS s (fM F) (ownA F s) (lenA F s - pcN q - 1) k (q ||| 2 ^ k)))), .int (nI (if q = ownA F s then 0 else (mnS (vld (ownA F s) q) (fuS s (fM F) (ownA F s) (lenA F s - pcN q - 1) i q) k).1))]) (σ' := lm_T M2 v G) rfl trivial ?_
                rw [show (nI (wN s i k)) + (nI (dS s (fM F) (ownA F s) (lenA F s - pcN q - 1) k (q ||| 2 ^ k))) = nI ((wN s i k) + (dS s (fM F) (ownA F s) (lenA F s - pcN q - 1) k (q ||| 2 ^ k))) from nI_add (wN s i k) (dS s (fM F) (ownA F s) (lenA F s - pcN q - 1) k (q ||| 2 ^ k))]
                refine lm_G_sg 3 (pc' := 113) (L' := [some (.ref 64), some (.int (nI (ownA F s))), some (.int (nI q)), some (.int (nI i)), some (.int (if (nI ((wN s i k) + (dS s (fM F) (ownA F s) (lenA F s - pcN q - 1) k (q ||| 2 ^ k)))) < (nI (if q = ownA F s then 0 else (mnS (vld (ownA F s) q) (fuS s (fM F) (ownA F s) (lenA F s - pcN q - 1) i q) k).1)) then (nI ((wN s i k) + (dS s (fM F) (ownA F s) (lenA F s - pcN q - 1) k (q ||| 2 ^ k)))) else (nI (if q = ownA F s then 0 else (mnS (vld (ownA F s) q) (fuS s (fM F) (ownA F s) (lenA F s - pcN q - 1) i q) k).1)))), some (.int ((nI k) + 1))]) (S' := []) (σ' := lm_T M2 v G) rfl ⟨trivial, (Nat.le_of_ble_eq_true rfl), trivial⟩ ?_
                rw [nI_1]
                refine lm_G_sg 1 (pc' := 54) (L' := [some (.ref 64), some (.int (nI (ownA F s))), some (.int (nI q)), some (.int (nI i)), some (.int (if (nI ((wN s i k) + (dS s (fM F) (ownA F s) (lenA F s - pcN q - 1) k (q ||| 2 ^ k)))) < (nI (if q = ownA F s then 0 else (mnS (vld (ownA F s) q) (fuS s (fM F) (ownA F s) (lenA F s - pcN q - 1) i q) k).1)) then (nI ((wN s i k) + (dS s (fM F) (ownA F s) (lenA F s - pcN q - 1) k (q ||| 2 ^ k)))) else (nI (if q = ownA F s then 0 else (mnS (vld (ownA F s) q) (fuS s (fM F) (ownA F s) (lenA F s - pcN q - 1) i q) k).1)))), some (.int (nI (k + 1)))]) (S' := []) (σ' := lm_T M2 v G) rfl trivial ?_
                rw [if_neg nf]
                by_cases lt : fuS s (fM F) (ownA F s) (lenA F s - pcN q - 1) i q k < (mnS (vld (ownA F s) q) (fuS s (fM F) (ownA F s) (lenA F s - pcN q - 1) i q) k).1
                · rw [mn_y hv lt, if_neg nf] at ih3
                  rw [show wN s i k + dS s (fM F) (ownA F s) (lenA F s - pcN q - 1) k (q ||| 2 ^ k) = fuS s (fM F) (ownA F s) (lenA F s - pcN q - 1) i q k from rfl, if_pos (nI_lt lt (by omega))]
                  exact ih3 trivial
                · rw [mn_n lt, if_neg nf] at ih3
                  rw [show wN s i k + dS s (fM F) (ownA F s) (lenA F s - pcN q - 1) k (q ||| 2 ^ k) = fuS s (fM F) (ownA F s) (lenA F s - pcN q - 1) i q k from rfl, if_neg (fun w => lt ((nI_ltI (by unfold fuS; omega) (by omega)).mp w))]
                  exact ih3 trivial
            ·
              replace hI3 : True := hI3
              show lm_G X (d + 1) 227 106 0 0 54 [some (.ref 64), some (.int (nI (ownA F s))), some (.int (nI q)), some (.int (nI i)), some (.int (nI (if q = ownA F s then 0 else (mnS (vld (ownA F s) q) (fuS s (fM F) (ownA F s) (lenA F s - pcN q - 1) i q) (fM F)).1))), some (.int (nI (fM F)))] [] (lm_T M2 v G) Q
              refine lm_G_sg 5 (pc' := 62) (L' := [some (.ref 64), some (.int (nI (ownA F s))), some (.int (nI q)), some (.int (nI i)), some (.int (nI (if q = ownA F s then 0 else (mnS (vld (ownA F s) q) (fuS s (fM F) (ownA F s) (lenA F s - pcN q - 1) i q) (fM F)).1))), some (.int (nI (fM F)))]) (S' := [.int (M2 68 1), .int (nI (fM F))]) (σ' := lm_T M2 v G) rfl ⟨(lm_inb_ok rfl), trivial, trivial⟩ ?_
              rw [show M2 68 1 = nI (fM F) from h2.m]
              refine lm_G_br (b := (nI (fM F)) ≤ (nI (fM F))) (t := 116) (S' := []) rfl (fun hc => ?_) (fun hc => absurd (nI_le (Nat.le_refl _) (by omega)) hc)
              refine lm_G_sg 5 (pc' := 124) (L' := [some (.ref 64), some (.int (nI (ownA F s))), some (.int (nI q)), some (.int (nI i)), some (.int (nI (if q = ownA F s then 0 else (mnS (vld (ownA F s) q) (fuS s (fM F) (ownA F s) (lenA F s - pcN q - 1) i q) (fM F)).1))), some (.int (nI (fM F)))]) (S' := [.int ((nI i) <<< ((6 : Int32) &&& 31)), .ref 91]) (σ' := lm_T M2 v G) rfl trivial ?_
              rw [show nI i <<< ((6 : Int32) &&& 31) = nI (64 * i) from shl6 i (by omega)]
              refine lm_G_sg 2 (pc' := 126) (L' := [some (.ref 64), some (.int (nI (ownA F s))), some (.int (nI q)), some (.int (nI i)), some (.int (nI (if q = ownA F s then 0 else (mnS (vld (ownA F s) q) (fuS s (fM F) (ownA F s) (lenA F s - pcN q - 1) i q) (fM F)).1))), some (.int (nI (fM F)))]) (S' := [.int ((nI (64 * i)) + (nI q)), .ref 91]) (σ' := lm_T M2 v G) rfl trivial ?_
              rw [show (nI (64 * i)) + (nI q) = nI ((64 * i) + q) from nI_add (64 * i) q]
              refine lm_G_sg 2 (pc' := 129) (L' := [some (.ref 64), some (.int (nI (ownA F s))), some (.int (nI q)), some (.int (nI i)), some (.int (nI (if q = ownA F s then 0 else (mnS (vld (ownA F s) q) (fuS s (fM F) (ownA F s) (lenA F s - pcN q - 1) i q) (fM F)).1))), some (.int (nI (fM F)))]) (S' := []) (σ' := lm_T (lm_wr M2 91 ((nI ((64 * i) + q)).toNatClampNeg) (nI (if q = ownA F s then 0 else (mnS (vld (ownA F s) q) (fuS s (fM F) (ownA F s) (lenA F s - pcN q - 1) i q) (fM F)).1))) v G) rfl ⟨(vp_in_nI (by omega) (by omega)), trivial, trivial⟩ ?_
              rw [show (nI ((64 * i) + q)).toNatClampNeg = ((64 * i) + q) from nI_clamp (by omega)]
              refine lm_G_sg 1 (pc' := 132) (L' := [some (.ref 64), some (.int (nI (ownA F s))), some (.int (nI q)), some (.int ((nI i) + 1)), some (.int (nI (if q = ownA F s then 0 else (mnS (vld (ownA F s) q) (fuS s (fM F) (ownA F s) (lenA F s - pcN q - 1) i q) (fM F)).1))), some (.int (nI (fM F)))]) (S' := []) (σ' := lm_T (lm_wr M2 91 ((64 * i) + q) (nI (if q = ownA F s then 0 else (mnS (vld (ownA F s) q) (fuS s (fM F) (ownA F s) (lenA F s - pcN q - 1) i q) (fM F)).1))) v G) rfl trivial ?_
              rw [nI_1]
              refine lm_G_sg 1 (pc' := 8) (L' := [some (.ref 64), some (.int (nI (ownA F s))), some (.int (nI q)), some (.int (nI (i + 1))), some (.int (nI (if q = ownA F s then 0 else (mnS (vld (ownA F s) q) (fuS s (fM F) (ownA F s) (lenA F s - pcN q - 1) i q) (fM F)).1))), some (.int (nI (fM F)))]) (S' := []) (σ' := lm_T (lm_wr M2 91 ((64 * i) + q) (nI (if q = ownA F s then 0 else (mnS (vld (ownA F s) q) (fuS s (fM F) (ownA F s) (lenA F s - pcN q - 1) i q) (fM F)).1))) v G) rfl trivial ?_
              have ev : (if q = ownA F s then 0 else (mnS (vld (ownA F s) q) (fuS s (fM F) (ownA F s) (lenA F s - pcN q - 1) i q) (fM F)).1) = dS s (fM F) (ownA F s) (lenA F s - pcN q) i q := by
                rcases Nat.lt_or_ge (pcN q) (pcN (ownA F s)) with e | e
                · rw [if_neg (fun w => by rw [w] at e; omega)]
                  have : lenA F s - pcN q = (lenA F s - pcN q - 1) + 1 := by unfold lenA; omega
                  rw [this, dS_s]
                  rfl
                · rw [if_pos (pp2 (by omega)), show lenA F s - pcN q = 0 by unfold lenA; omega]
                  rfl
              rw [ev]
              show lm_G X (d + 1) 227 106 0 0 8 [some (.ref 64), some (.int (nI (ownA F s))), some (.int (nI q)), some (.int (nI (i + 1))), some (.int (nI (dS s (fM F) (ownA F s) (lenA F s - pcN q) i q))), some (.int (nI (fM F)))] [] (lm_T (lm_wr M2 91 (64 * i + q) (nI (dS s (fM F) (ownA F s) (lenA F s - pcN q) i q))) v G) Q
              refine lm_G_jk (L := [some (.ref 64), some (.int (nI (ownA F s))), some (.int (nI q)), some (.int (nI (i + 1))), none, none]) ⟨rfl, rfl, rfl, rfl, trivial⟩ ?_
              exact ih2 _ (⟨fun w hw hb2 => if e : w = i then (by subst e; exact wr_same) else (by rw [wr_at (by omega)]; exact e2 w (by omega) hb2), fun h1 a1 a2 a3 w hw hb2 => by rw [wr_at (by omega)]; exact g2 h1 a1 a2 a3 w hw hb2, Fr_wr f2 rfl⟩)
            ·
              trivial
          ·
            refine lm_G_sg 5 (pc' := 54) (L' := [some (.ref 64), some (.int (nI (ownA F s))), some (.int (nI q)), some (.int (nI i)), some (.int 0), some (.int 0)]) (S' := []) (σ' := lm_T M2 v G) rfl trivial ?_
            suffices hx : lm_G X (d + 1) 227 106 0 0 54 [some (.ref 64), some (.int (nI (ownA F s))), some (.int (nI q)), some (.int (nI i)), some (.int (nI (if q = ownA F s then 0 else (mnS (vld (ownA F s) q) (fuS s (fM F) (ownA F s) (lenA F s - pcN q - 1) i q) 0).1))), some (.int 0)] [] (lm_T M2 v G) Q from by
              rw [show (if q = ownA F s then 0 else (mnS (vld (ownA F s) q) (fuS s (fM F) (ownA F s) (lenA F s - pcN q - 1) i q) 0).1) = 0 from if_pos ((nI_eq (by omega) (by omega)).mp (Classical.not_not.mp h7))] at hx
              exact hx
            refine lm_ind (α := Unit) (St := fun (k : Nat) zz => lm_G X (d + 1) 227 106 0 0 54 [some (.ref 64), some (.int (nI (ownA F s))), some (.int (nI q)), some (.int (nI i)), some (.int (nI (if q = ownA F s then 0 else (mnS (vld (ownA F s) q) (fuS s (fM F) (ownA F s) (lenA F s - pcN q - 1) i q) k).1))), some (.int (nI k))] [] (lm_T M2 v G) Q) (Inv := fun (k : Nat) zz => True) (fM F) (fun k zz hj3 hI3 ih3 => ?_) (fun zz hI3 => ?_) (0) () (by omega) ?_
            ·
              replace hI3 : True := hI3
              replace ih3 : ∀ (_ : True), lm_G X (d + 1) 227 106 0 0 54 [some (.ref 64), some (.int (nI (ownA F s))), some (.int (nI q)), some (.int (nI i)), some (.int (nI (if q = ownA F s then 0 else (mnS (vld (ownA F s) q) (fuS s (fM F) (ownA F s) (lenA F s - pcN q - 1) i q) (k + 1)).1))), some (.int (nI (k + 1)))] [] (lm_T M2 v G) Q := fun q => ih3 () q
              show lm_G X (d + 1) 227 106 0 0 54 [some (.ref 64), some (.int (nI (ownA F s))), some (.int (nI q)), some (.int (nI i)), some (.int (nI (if q = ownA F s then 0 else (mnS (vld (ownA F s) q) (fuS s (fM F) (ownA F s) (lenA F s - pcN q - 1) i q) k).1))), some (.int (nI k))] [] (lm_T M2 v G) Q
              have hml := (mn_le (g := vld (ownA F s) q) (f := fuS s (fM F) (ownA F s) (lenA F s - pcN q - 1) i q) k).1
              refine lm_G_sg 5 (pc' := 62) (L' := [some (.ref 64), some (.int (nI (ownA F s))), some (.int (nI q)), some (.int (nI i)), some (.int (nI (if q = ownA F s then 0 else (mnS (vld (ownA F s) q) (fuS s (fM F) (ownA F s) (lenA F s - pcN q - 1) i q) k).1))), some (.int (nI k))]) (S' := [.int (M2 68 1), .int (nI k)]) (σ' := lm_T M2 v G) rfl ⟨(lm_inb_ok rfl), trivial, trivial⟩ ?_
              rw [show M2 68 1 = nI (fM F) from h2.m]
              refine lm_G_br (b := (nI (fM F)) ≤ (nI k)) (t := 116) (S' := []) rfl (fun hc => absurd hc (nI_ge hj3 (by omega))) (fun hc => ?_)
              refine lm_G_sg 6 (pc' := 72) (L' := [some (.ref 64), some (.int (nI (ownA F s))), some (.int (nI q)), some (.int (nI i)), some (.int (nI (if q = ownA F s then 0 else (mnS (vld (ownA F s) q) (fuS s (fM F) (ownA F s) (lenA F s - pcN q - 1) i q) k).1))), some (.int (nI k))]) (S' := [.int (nI k), .int ((nI (ownA F s)) &&& ((nI q) ^^^ (-1)))]) (σ' := lm_T M2 v G) rfl trivial ?_
              refine lm_G_ca (j := 143) (as := [.int ((nI (ownA F s)) &&& ((nI q) ^^^ (-1))), .int (nI k)]) (rest := []) rfl (Or.inl rfl) (Nat.le_of_ble_eq_true rfl) (Nat.le_of_ble_eq_true rfl) (Nat.le_of_ble_eq_true rfl) (Nat.le_of_ble_eq_true rfl) rfl ?_
              refine c_isOf ?_
              show lm_G X (d + 1) 227 106 0 0 75 [some (.ref 64), some (.int (nI (ownA F s))), some (.int (nI q)), some (.int (nI i)), some (.int (nI (if q = ownA F s then 0 else (mnS (vld (ownA F s) q) (fuS s (fM F) (ownA F s) (lenA F s - pcN q - 1) i q) k).1))), some (.int (nI k))] [.int (b2i (bitW (nI (ownA F s) &&& (nI q ^^^ (-1))) k))] (lm_T M2 v G) Q
              rw [bitW_dif (by omega)]
              refine lm_G_br (b := (b2i (vld (ownA F s) q k)) = 0) (t := 110) (S' := []) rfl (fun h8 => ?_) (fun h8 => ?_)
              ·
                refine lm_G_sg 1 (pc' := 113) (L' := [some (.ref 64), some (.int (nI (ownA F s))), some (.int (nI q)), some (.int (nI i)), some (.int (nI (if q = ownA F s then 0 else (mnS (vld (ownA F s) q) (fuS s (fM F) (ownA F s) (lenA F s - pcN q - 1) i q) k).1))), some (.int ((nI k) + 1))]) (S' := []) (σ' := lm_T M2 v G) rfl trivial ?_
                rw [nI_1]
                refine lm_G_sg 1 (pc' := 54) (L' := [some (.ref 64), some (.int (nI (ownA F s))), some (.int (nI q)), some (.int (nI i)), some (.int (nI (if q = ownA F s then 0 else (mnS (vld (ownA F s) q) (fuS s (fM F) (ownA F s) (lenA F s - pcN q - 1) i q) k).1))), some (.int (nI (k + 1)))]) (S' := []) (σ' := lm_T M2 v G) rfl trivial ?_
                rw [mn_g (f := fuS s (fM F) (ownA F s) (lenA F s - pcN q - 1) i q) (b2i_0 h8)] at ih3
                exact ih3  trivial
              ·
                have hv := b2i_1 h8
                have nf : ¬ q = ownA F s := fun e => by rw [e, vld_full] at hv; cases hv
                obtain ⟨v1, v2, v3, v4⟩ := vld_ok hF hv
                have po := pc_or q (by omega) k (by omega) v4
                have so := sub_or _ hA q (by omega) hsub k (by omega) v3
                have ol := or_lt q (by omega) k (by omega)
                have ne : pcN q ≠ pcN (ownA F s) := fun e => nf (pp2 e)
                have hw := wN_le hF hs (Or.inr ⟨hj2, hoi⟩) v1 v2 (t := i)
                have dl := dS_le hF hs (lenA F s - pcN (q ||| 2 ^ k)) k (q ||| 2 ^ k) (Or.inr ⟨v1, v2⟩) ol so.1 rfl
                have hl6 := lenA_le hF (s := s)
                have el : lenA F s = pcN (ownA F s) := rfl
                have eg : M2 91 (64 * k + (q ||| 2 ^ k)) = nI (dS s (fM F) (ownA F s) (lenA F s - pcN q - 1) k (q ||| 2 ^ k)) := by
                  rw [g2 _ po.2 so.2 so.1 k v1 (bit_or q (by omega) k (by omega)), po.1]
                  rfl
                rw [po.1, show lenA F s - (pcN q + 1) = lenA F s - pcN q - 1 by omega] at dl
                refine lm_G_sg 4 (pc' := 84) (L' := [some (.ref 64), some (.int (nI (ownA F s))), some (.int (nI q)), some (.int (nI i)), some (.int (nI (if q = ownA F s then 0 else (mnS (vld (ownA F s) q) (fuS s (fM F) (ownA F s) (lenA F s - pcN q - 1) i q) k).1))), some (.int (nI k))]) (S' := [.int (nI k), .int (nI i), .ref 64, .int (nI (if q = ownA F s then 0 else (mnS (vld (ownA F s) q) (fuS s (fM F) (ownA F s) (lenA F s - pcN q - 1) i q) k).1))]) (σ' := lm_T M2 v G) rfl trivial ?_
                refine lm_G_ca (j := 226) (as := [.ref 64, .int (nI i), .int (nI k)]) (rest := [.int (nI (if q = ownA F s then 0 else (mnS (vld (ownA F s) q) (fuS s (fM F) (ownA F s) (lenA F s - pcN q - 1) i q) k).1))]) rfl (Or.inl rfl) (Nat.le_of_ble_eq_true rfl) (Nat.le_of_ble_eq_true rfl) (Nat.le_of_ble_eq_true rfl) (Nat.le_of_ble_eq_true rfl) rfl ?_
                refine m_wayOf hF hs h2 hj2 hoi v1 v2 ?_
                show lm_G X (d + 1) 227 106 0 0 87 [some (.ref 64), some (.int (nI (ownA F s))), some (.int (nI q)), some (.int (nI i)), some (.int (nI (if q = ownA F s then 0 else (mnS (vld (ownA F s) q) (fuS s (fM F) (ownA F s) (lenA F s - pcN q - 1) i q) k).1))), some (.int (nI k))] [.int (nI (wN s i k)), .int (nI (if q = ownA F s then 0 else (mnS (vld (ownA F s) q) (fuS s (fM F) (ownA F s) (lenA F s - pcN q - 1) i q) k).1))] (lm_T M2 v G) Q
                refine lm_G_sg 5 (pc' := 96) (L' := [some (.ref 64), some (.int (nI (ownA F s))), some (.int (nI q)), some (.int (nI i)), some (.int (nI (if q = ownA F s then 0 else (mnS (vld (ownA F s) q) (fuS s (fM F) (ownA F s) (lenA F s - pcN q - 1) i q) k).1))), some (.int (nI k))]) (S' := [.int ((nI k) <<< ((6 : Int32) &&& 31)), .ref 91, .int (nI (wN s i k)), .int (nI (if q = ownA F s then 0 else (mnS (vld (ownA F s) q) (fuS s (fM F) (ownA F s) (lenA F s - pcN q - 1) i q) k).1))]) (σ' := lm_T M2 v G) rfl trivial ?_
                rw [show nI k <<< ((6 : Int32) &&& 31) = nI (64 * k) from shl6 k (by omega)]
                refine lm_G_sg 5 (pc' := 102) (L' := [some (.ref 64), some (.int (nI (ownA F s))), some (.int (nI q)), some (.int (nI i)), some (.int (nI (if q = ownA F s then 0 else (mnS (vld (ownA F s) q) (fuS s (fM F) (ownA F s) (lenA F s - pcN q - 1) i q) k).1))), some (.int (nI k))]) (S' := [.int ((nI q) ||| ((1 : Int32) <<< ((nI k) &&& 31))), .int (nI (64 * k)), .ref 91, .int (nI (wN s i k)), .int (nI (if q = ownA F s then 0 else (mnS (vld (ownA F s) q) (fuS s (fM F) (ownA F s) (lenA F s - pcN q - 1) i q) k).1))]) (σ' := lm_T M2 v G) rfl trivial ?_
                rw [show (nI q) ||| ((1 : Int32) <<< ((nI k) &&& 31)) = nI (q ||| 2 ^ k) from or_bit (by omega)]
                refine lm_G_sg 1 (pc' := 103) (L' := [some (.ref 64), some (.int (nI (ownA F s))), some (.int (nI q)), some (.int (nI i)), some (.int (nI (if q = ownA F s then 0 else (mnS (vld (ownA F s) q) (fuS s (fM F) (ownA F s) (lenA F s - pcN q - 1) i q) k).1))), some (.int (nI k))]) (S' := [.int ((nI (64 * k)) + (nI (q ||| 2 ^ k))), .ref 91, .int (nI (wN s i k)), .int (nI (if q = ownA F s then 0 else (mnS (vld (ownA F s) q) (fuS s (fM F) (ownA F s) (lenA F s - pcN q - 1) i q) k).1))]) (σ' := lm_T M2 v G) rfl trivial ?_
                rw [show (nI (64 * k)) + (nI (q ||| 2 ^ k)) = nI ((64 * k) + (q ||| 2 ^ k)) from nI_add (64 * k) (q ||| 2 ^ k)]
                refine lm_G_sg 1 (pc' := 104) (L' := [some (.ref 64), some (.int (nI (ownA F s))), some (.int (nI q)), some (.int (nI i)), some (.int (nI (if q = ownA F s then 0 else (mnS (vld (ownA F s) q) (fuS s (fM F) (ownA F s) (lenA F s - pcN q - 1) i q) k).1))), some (.int (nI k))]) (S' := [.int (M2 91 (nI ((64 * k) + (q ||| 2 ^ k))).toNatClampNeg), .int (nI (wN s i k)), .int (nI (if q = ownA F s then 0 else (mnS (vld (ownA F s) q) (fuS s (fM F) (ownA F s) (lenA F s - pcN q - 1) i q) k).1))]) (σ' := lm_T M2 v G) rfl ⟨(vp_in_nI (by omega) (by omega)), trivial, trivial⟩ ?_
                rw [show (nI ((64 * k) + (q ||| 2 ^ k))).toNatClampNeg = ((64 * k) + (q ||| 2 ^ k)) from nI_clamp (by omega)]
                rw [show M2 91 ((64 * k) + (q ||| 2 ^ k)) = nI (dS s (fM F) (ownA F s) (lenA F s - pcN q - 1) k (q ||| 2 ^ k)) from eg]
                refine lm_G_sg 1 (pc' := 105) (L' := [some (.ref 64), some (.int (nI (ownA F s))), some (.int (nI q)), some (.int (nI i)), some (.int (nI (if q = ownA F s then 0 else (mnS (vld (ownA F s) q) (fuS s (fM F) (ownA F s) (lenA F s - pcN q - 1) i q) k).1))), some (.int (nI k))]) (S' := [.int ((nI (wN s i k)) + (nI (dS s (fM F) (ownA F s) (lenA F s - pcN q - 1) k (q ||| 2 ^ k)))), .int (nI (if q = ownA F s then 0 else (mnS (vld (ownA F s) q) (fuS s (fM F) (ownA F s) (lenA F s - pcN q - 1) i q) k).1))]) (σ' := lm_T M2 v G) rfl trivial ?_
                rw [show (nI (wN s i k)) + (nI (dS s (fM F) (ownA F s) (lenA F s - pcN q - 1) k (q ||| 2 ^ k))) = nI ((wN s i k) + (dS s (fM F) (ownA F s) (lenA F s - pcN q - 1) k (q ||| 2 ^ k))) from nI_add (wN s i k) (dS s (fM F) (ownA F s) (lenA F s - pcN q - 1) k (q ||| 2 ^ k))]
                refine lm_G_sg 3 (pc' := 113) (L' := [some (.ref 64), some (.int (nI (ownA F s))), some (.int (nI q)), some (.int (nI i)), some (.int (if (nI ((wN s i k) + (dS s (fM F) (ownA F s) (lenA F s - pcN q - 1) k (q ||| 2 ^ k)))) < (nI (if q = ownA F s then 0 else (mnS (vld (ownA F s) q) (fuS s (fM F) (ownA F s) (lenA F s - pcN q - 1) i q) k).1)) then (nI ((wN s i k) + (dS s (fM F) (ownA F s) (lenA F s - pcN q - 1) k (q ||| 2 ^ k)))) else (nI (if q = ownA F s then 0 else (mnS (vld (ownA F s) q) (fuS s (fM F) (ownA F s) (lenA F s - pcN q - 1) i q) k).1)))), some (.int ((nI k) + 1))]) (S' := []) (σ' := lm_T M2 v G) rfl ⟨trivial, (Nat.le_of_ble_eq_true rfl), trivial⟩ ?_
                rw [nI_1]
                refine lm_G_sg 1 (pc' := 54) (L' := [some (.ref 64), some (.int (nI (ownA F s))), some (.int (nI q)), some (.int (nI i)), some (.int (if (nI ((wN s i k) + (dS s (fM F) (ownA F s) (lenA F s - pcN q - 1) k (q ||| 2 ^ k)))) < (nI (if q = ownA F s then 0 else (mnS (vld (ownA F s) q) (fuS s (fM F) (ownA F s) (lenA F s - pcN q - 1) i q) k).1)) then (nI ((wN s i k) + (dS s (fM F) (ownA F s) (lenA F s - pcN q - 1) k (q ||| 2 ^ k)))) else (nI (if q = ownA F s then 0 else (mnS (vld (ownA F s) q) (fuS s (fM F) (ownA F s) (lenA F s - pcN q - 1) i q) k).1)))), some (.int (nI (k + 1)))]) (S' := []) (σ' := lm_T M2 v G) rfl trivial ?_
                rw [if_neg nf]
                by_cases lt : fuS s (fM F) (ownA F s) (lenA F s - pcN q - 1) i q k < (mnS (vld (ownA F s) q) (fuS s (fM F) (ownA F s) (lenA F s - pcN q - 1) i q) k).1
                · rw [mn_y hv lt, if_neg nf] at ih3
                  rw [show wN s i k + dS s (fM F) (ownA F s) (lenA F s - pcN q - 1) k (q ||| 2 ^ k) = fuS s (fM F) (ownA F s) (lenA F s - pcN q - 1) i q k from rfl, if_pos (nI_lt lt (by omega))]
                  exact ih3 trivial
                · rw [mn_n lt, if_neg nf] at ih3
                  rw [show wN s i k + dS s (fM F) (ownA F s) (lenA F s - pcN q - 1) k (q ||| 2 ^ k) = fuS s (fM F) (ownA F s) (lenA F s - pcN q - 1) i q k from rfl, if_neg (fun w => lt ((nI_ltI (by unfold fuS; omega) (by omega)).mp w))]
                  exact ih3 trivial
            ·
              replace hI3 : True := hI3
              show lm_G X (d + 1) 227 106 0 0 54 [some (.ref 64), some (.int (nI (ownA F s))), some (.int (nI q)), some (.int (nI i)), some (.int (nI (if q = ownA F s then 0 else (mnS (vld (ownA F s) q) (fuS s (fM F) (ownA F s) (lenA F s - pcN q - 1) i q) (fM F)).1))), some (.int (nI (fM F)))] [] (lm_T M2 v G) Q
              refine lm_G_sg 5 (pc' := 62) (L' := [some (.ref 64), some (.int (nI (ownA F s))), some (.int (nI q)), some (.int (nI i)), some (.int (nI (if q = ownA F s then 0 else (mnS (vld (ownA F s) q) (fuS s (fM F) (ownA F s) (lenA F s - pcN q - 1) i q) (fM F)).1))), some (.int (nI (fM F)))]) (S' := [.int (M2 68 1), .int (nI (fM F))]) (σ' := lm_T M2 v G) rfl ⟨(lm_inb_ok rfl), trivial, trivial⟩ ?_
              rw [show M2 68 1 = nI (fM F) from h2.m]
              refine lm_G_br (b := (nI (fM F)) ≤ (nI (fM F))) (t := 116) (S' := []) rfl (fun hc => ?_) (fun hc => absurd (nI_le (Nat.le_refl _) (by omega)) hc)
              refine lm_G_sg 5 (pc' := 124) (L' := [some (.ref 64), some (.int (nI (ownA F s))), some (.int (nI q)), some (.int (nI i)), some (.int (nI (if q = ownA F s then 0 else (mnS (vld (ownA F s) q) (fuS s (fM F) (ownA F s) (lenA F s - pcN q - 1) i q) (fM F)).1))), some (.int (nI (fM F)))]) (S' := [.int ((nI i) <<< ((6 : Int32) &&& 31)), .ref 91]) (σ' := lm_T M2 v G) rfl trivial ?_
              rw [show nI i <<< ((6 : Int32) &&& 31) = nI (64 * i) from shl6 i (by omega)]
              refine lm_G_sg 2 (pc' := 126) (L' := [some (.ref 64), some (.int (nI (ownA F s))), some (.int (nI q)), some (.int (nI i)), some (.int (nI (if q = ownA F s then 0 else (mnS (vld (ownA F s) q) (fuS s (fM F) (ownA F s) (lenA F s - pcN q - 1) i q) (fM F)).1))), some (.int (nI (fM F)))]) (S' := [.int ((nI (64 * i)) + (nI q)), .ref 91]) (σ' := lm_T M2 v G) rfl trivial ?_
              rw [show (nI (64 * i)) + (nI q) = nI ((64 * i) + q) from nI_add (64 * i) q]
              refine lm_G_sg 2 (pc' := 129) (L' := [some (.ref 64), some (.int (nI (ownA F s))), some (.int (nI q)), some (.int (nI i)), some (.int (nI (if q = ownA F s then 0 else (mnS (vld (ownA F s) q) (fuS s (fM F) (ownA F s) (lenA F s - pcN q - 1) i q) (fM F)).1))), some (.int (nI (fM F)))]) (S' := []) (σ' := lm_T (lm_wr M2 91 ((nI ((64 * i) + q)).toNatClampNeg) (nI (if q = ownA F s then 0 else (mnS (vld (ownA F s) q) (fuS s (fM F) (ownA F s) (lenA F s - pcN q - 1) i q) (fM F)).1))) v G) rfl ⟨(vp_in_nI (by omega) (by omega)), trivial, trivial⟩ ?_
              rw [show (nI ((64 * i) + q)).toNatClampNeg = ((64 * i) + q) from nI_clamp (by omega)]
              refine lm_G_sg 1 (pc' := 132) (L' := [some (.ref 64), some (.int (nI (ownA F s))), some (.int (nI q)), some (.int ((nI i) + 1)), some (.int (nI (if q = ownA F s then 0 else (mnS (vld (ownA F s) q) (fuS s (fM F) (ownA F s) (lenA F s - pcN q - 1) i q) (fM F)).1))), some (.int (nI (fM F)))]) (S' := []) (σ' := lm_T (lm_wr M2 91 ((64 * i) + q) (nI (if q = ownA F s then 0 else (mnS (vld (ownA F s) q) (fuS s (fM F) (ownA F s) (lenA F s - pcN q - 1) i q) (fM F)).1))) v G) rfl trivial ?_
              rw [nI_1]
              refine lm_G_sg 1 (pc' := 8) (L' := [some (.ref 64), some (.int (nI (ownA F s))), some (.int (nI q)), some (.int (nI (i + 1))), some (.int (nI (if q = ownA F s then 0 else (mnS (vld (ownA F s) q) (fuS s (fM F) (ownA F s) (lenA F s - pcN q - 1) i q) (fM F)).1))), some (.int (nI (fM F)))]) (S' := []) (σ' := lm_T (lm_wr M2 91 ((64 * i) + q) (nI (if q = ownA F s then 0 else (mnS (vld (ownA F s) q) (fuS s (fM F) (ownA F s) (lenA F s - pcN q - 1) i q) (fM F)).1))) v G) rfl trivial ?_
              have ev : (if q = ownA F s then 0 else (mnS (vld (ownA F s) q) (fuS s (fM F) (ownA F s) (lenA F s - pcN q - 1) i q) (fM F)).1) = dS s (fM F) (ownA F s) (lenA F s - pcN q) i q := by
                rcases Nat.lt_or_ge (pcN q) (pcN (ownA F s)) with e | e
                · rw [if_neg (fun w => by rw [w] at e; omega)]
                  have : lenA F s - pcN q = (lenA F s - pcN q - 1) + 1 := by unfold lenA; omega
                  rw [this, dS_s]
                  rfl
                · rw [if_pos (pp2 (by omega)), show lenA F s - pcN q = 0 by unfold lenA; omega]
                  rfl
              rw [ev]
              show lm_G X (d + 1) 227 106 0 0 8 [some (.ref 64), some (.int (nI (ownA F s))), some (.int (nI q)), some (.int (nI (i + 1))), some (.int (nI (dS s (fM F) (ownA F s) (lenA F s - pcN q) i q))), some (.int (nI (fM F)))] [] (lm_T (lm_wr M2 91 (64 * i + q) (nI (dS s (fM F) (ownA F s) (lenA F s - pcN q) i q))) v G) Q
              refine lm_G_jk (L := [some (.ref 64), some (.int (nI (ownA F s))), some (.int (nI q)), some (.int (nI (i + 1))), none, none]) ⟨rfl, rfl, rfl, rfl, trivial⟩ ?_
              exact ih2 _ (⟨fun w hw hb2 => if e : w = i then (by subst e; exact wr_same) else (by rw [wr_at (by omega)]; exact e2 w (by omega) hb2), fun h1 a1 a2 a3 w hw hb2 => by rw [wr_at (by omega)]; exact g2 h1 a1 a2 a3 w hw hb2, Fr_wr f2 rfl⟩)
            ·
              trivial
      ·
        revert hI2
        revert zz
        intro M2 hI2
        replace hI2 : (∀ w, w < (fM F) → q.testBit w = true → M2 91 (64 * w + q) = nI (dS s (fM F) (ownA F s) (lenA F s - pcN q) w q)) ∧ goE F s (M2 91) q ∧ Fr (frO 91) M M2 := hI2
        show lm_G X (d + 1) 227 106 0 0 8 [some (.ref 64), some (.int (nI (ownA F s))), some (.int (nI q)), some (.int (nI (fM F))), none, none] [] (lm_T M2 v G) Q
        obtain ⟨e2, g2, f2⟩ := hI2
        have h2 := RM_O h f2 (by decide)
        refine lm_G_sg 5 (pc' := 15) (L' := [some (.ref 64), some (.int (nI (ownA F s))), some (.int (nI q)), some (.int (nI (fM F))), none, none]) (S' := [.int (M2 68 1), .int (nI (fM F))]) (σ' := lm_T M2 v G) rfl ⟨(lm_inb_ok rfl), trivial, trivial⟩ ?_
        rw [show M2 68 1 = nI (fM F) from h2.m]
        refine lm_G_br (b := (nI (fM F)) ≤ (nI (fM F))) (t := 135) (S' := []) rfl (fun hc => ?_) (fun hc => absurd (nI_le (Nat.le_refl _) (by omega)) hc)
        refine lm_G_jk (L := [some (.ref 64), some (.int (nI (ownA F s))), some (.int (nI q)), none, none, none]) ⟨rfl, rfl, rfl, rfl, rfl, trivial⟩ ?_
        exact k135 _ (fun h1 a1 a2 a3 w hw hb => if e : h1 = q then (by subst e; exact e2 w hw hb) else g2 h1 (by omega) a2 a3 w hw hb) f2
      ·
        try dsimp only
        exact ⟨fun w hw => by omega, g1, f1⟩
  ·
    revert hI
    revert zz
    intro M1 hI
    replace hI : goE F s (M1 91) (ownA F s - (ownA F s)) ∧ Fr (frO 91) M M1 := hI
    show lm_G X (d + 1) 227 106 0 0 2 [some (.ref 64), some (.int (nI (ownA F s))), some (.int (nI (ownA F s - (ownA F s)))), none, none, none] [] (lm_T M1 v G) Q
    obtain ⟨g1, f1⟩ := hI
    rw [Nat.sub_self] at g1 ⊢
    refine lm_G_sg 1 (pc' := 3) (L' := [some (.ref 64), some (.int (nI (ownA F s))), some (.int (nI 0)), none, none, none]) (S' := [.int (nI 0)]) (σ' := lm_T M1 v G) rfl trivial ?_
    refine lm_G_br (b := (nI 0) ≤ 0) (t := 141) (S' := []) rfl (fun hc => ?_) (fun hc => absurd (by decide) hc)
    exact lm_G_re rfl trivial (Nat.zero_le _) (Nat.zero_le _) (hQ _ g1 f1)
  ·
    try dsimp only
    exact ⟨fun h1 a1 a2 => by omega, Fr_rf _ _⟩
