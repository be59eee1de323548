/-! ===== contracts: a round ===== -/
theorem b_nf {b : Bool} (h : ¬ b = false) : b = true := by
  cases b
  · exact absurd rfl h
  · rfl
theorem nI_sb1 {k : Nat} (h : 0 < k) : nI k - 1 = nI (k - 1) := by
  obtain ⟨j, rfl⟩ : ∃ j, k = j + 1 := ⟨k - 1, by omega⟩
  exact nI_pred j
set_option maxRecDepth 10000 in
theorem c_placeOf {X : lm_X} {d v : Nat} {M : Nat → Nat → Int32} {G : Nat → Nat → Int64} {Q : lm_O → lm_S → Prop} {F : Fa} {s : Sc} {t : Nat} (hF : okF F) (hs : okS F s) (h : RC 28 M F s) (ht : t < fM F) (ho : sOw s t ≠ -1) (hQ : Q (.inl (some (.int (nI (xP s t))))) (lm_T M v G)) : lm_Q X d 84 [.ref 49, .int (nI t)] (lm_T M v G) Q := by
  have hn := hF.n
  have hm := hF.m
  show lm_G X d 84 106 0 0 0 [some (.ref 49), some (.int (nI t)), none] [] (lm_T M v G) Q
  obtain ⟨hx, q, hq, eo, ep⟩ := xP_ok hs ht ho hF.n
  refine lm_G_sg 5 (pc' := 9) (L' := [some (.ref 49), some (.int (nI t)), none]) (S' := [.int (M 35 (nI t).toNatClampNeg)]) (σ' := lm_T M v G) rfl ⟨(vp_in_nI (by omega) (by omega)), trivial, trivial⟩ ?_
  rw [show (nI t).toNatClampNeg = t from nI_clamp (by omega)]
  rw [show M 35 t = sOw s t from h.ow t (by omega)]
  rw [eo]
  refine lm_G_sg 3 (pc' := 12) (L' := [some (.ref 49), some (.int (nI t)), some (.int (nI q))]) (S' := [.int (-1), .int (nI q)]) (σ' := lm_T M v G) rfl trivial ?_
  refine lm_G_br (b := ¬ (nI q) = (-1)) (t := 19) (S' := []) rfl (fun hc => ?_) (fun hc => absurd (Classical.not_not.mp hc) (nI_m1 (by omega)))
  refine lm_G_sg 5 (pc' := 28) (L' := [some (.ref 49), some (.int (nI t)), some (.int (nI q))]) (S' := [.int (M 30 (nI q).toNatClampNeg)]) (σ' := lm_T M v G) rfl ⟨(vp_in_nI (by omega) (by omega)), trivial, trivial⟩ ?_
  rw [show (nI q).toNatClampNeg = q from nI_clamp (by omega)]
  rw [show M 30 q = sPl s q from h.pl q (by omega)]
  rw [ep]
  exact lm_G_re rfl trivial (Nat.zero_le _) (Nat.zero_le _) hQ
set_option maxRecDepth 10000 in
theorem c_wayTo {X : lm_X} {d v : Nat} {M : Nat → Nat → Int32} {G : Nat → Nat → Int64} {Q : lm_O → lm_S → Prop} {F : Fa} {s : Sc} {k t u : Nat} (hF : okF F) (hs : okS F s) (h : RC 28 M F s) (hk : (k = 0 ∧ t = 99) ∨ (0 < k ∧ M 50 (k - 1) = nI t ∧ t < fM F ∧ sOw s t ≠ -1)) (hk6 : k < 6) (eu : M 50 k = nI u) (hu : u < fM F) (hou : sOw s u ≠ -1) (hQ : Q (.inl (some (.int (nI (wN s t u))))) (lm_T M v G)) : lm_Q X (d + 1) 83 [.ref 49, .int (nI k)] (lm_T M v G) Q := by
  have hn := hF.n
  have hm := hF.m
  show lm_G X (d + 1) 83 106 0 0 0 [some (.ref 49), some (.int (nI k))] [] (lm_T M v G) Q
  rcases hk with ⟨rfl, rfl⟩ | ⟨hk, et, ht, ho⟩
  ·
    show lm_G X (d + 1) 83 106 0 0 0 [some (.ref 49), some (.int 0)] [] (lm_T M v G) Q
    refine lm_G_sg 1 (pc' := 1) (L' := [some (.ref 49), some (.int 0)]) (S' := [.int 0]) (σ' := lm_T M v G) rfl trivial ?_
    refine lm_G_br (b := ¬ 0 = 0) (t := 8) (S' := []) rfl (fun hc => absurd rfl hc) (fun hc => ?_)
    refine lm_G_sg 2 (pc' := 34) (L' := [some (.ref 49), some (.int 0)]) (S' := [.int 0]) (σ' := lm_T M v G) rfl trivial ?_
    rw [show wN s 99 u = 0 from if_pos rfl] at hQ
    exact lm_G_re rfl trivial (Nat.zero_le _) (Nat.zero_le _) hQ
  ·
    refine lm_G_sg 1 (pc' := 1) (L' := [some (.ref 49), some (.int (nI k))]) (S' := [.int (nI k)]) (σ' := lm_T M v G) rfl trivial ?_
    refine lm_G_br (b := ¬ (nI k) = 0) (t := 8) (S' := []) rfl (fun hc => ?_) (fun hc => absurd (Classical.not_not.mp hc) (nI_ne0 hk (by omega)))
    refine lm_G_sg 5 (pc' := 15) (L' := [some (.ref 49), some (.int (nI k))]) (S' := [.int (M 50 (nI k).toNatClampNeg), .ref 49]) (σ' := lm_T M v G) rfl ⟨(vp_in_nI (by omega) (by omega)), trivial, trivial⟩ ?_
    rw [show (nI k).toNatClampNeg = k from nI_clamp (by omega)]
    rw [show M 50 k = nI u from eu]
    refine lm_G_ca (j := 84) (as := [.ref 49, .int (nI u)]) (rest := []) rfl (Or.inl rfl) (Nat.le_of_ble_eq_true rfl) (Nat.le_of_ble_eq_true rfl) (Nat.le_of_ble_eq_true rfl) (Nat.le_of_ble_eq_true rfl) rfl ?_
    refine c_placeOf hF hs h hu hou ?_
    show lm_G X (d + 1) 83 106 0 0 18 [some (.ref 49), some (.int (nI k))] [.int (nI (xP s u))] (lm_T M v G) Q
    refine lm_G_sg 6 (pc' := 26) (L' := [some (.ref 49), some (.int (nI k))]) (S' := [.int ((nI k) - 1), .ref 50, .ref 49, .int (nI (xP s u))]) (σ' := lm_T M v G) rfl trivial ?_
    rw [show (nI k) - 1 = nI (k - 1) from nI_sb1 hk]
    refine lm_G_sg 1 (pc' := 27) (L' := [some (.ref 49), some (.int (nI k))]) (S' := [.int (M 50 (nI (k - 1)).toNatClampNeg), .ref 49, .int (nI (xP s u))]) (σ' := lm_T M v G) rfl ⟨(vp_in_nI (by omega) (by omega)), trivial, trivial⟩ ?_
    rw [show (nI (k - 1)).toNatClampNeg = (k - 1) from nI_clamp (by omega)]
    rw [show M 50 (k - 1) = nI t from et]
    refine lm_G_ca (j := 84) (as := [.ref 49, .int (nI t)]) (rest := [.int (nI (xP s u))]) rfl (Or.inl rfl) (Nat.le_of_ble_eq_true rfl) (Nat.le_of_ble_eq_true rfl) (Nat.le_of_ble_eq_true rfl) (Nat.le_of_ble_eq_true rfl) rfl ?_
    refine c_placeOf hF hs h ht ho ?_
    show lm_G X (d + 1) 83 106 0 0 30 [some (.ref 49), some (.int (nI k))] [.int (nI (xP s t)), .int (nI (xP s u))] (lm_T M v G) Q
    refine lm_G_sg 2 (pc' := 34) (L' := [some (.ref 49), some (.int (nI k))]) (S' := [.int (absI ((nI (xP s u)) - (nI (xP s t))))]) (σ' := lm_T M v G) rfl ⟨trivial, (Nat.le_of_ble_eq_true rfl), trivial⟩ ?_
    rw [show absI ((nI (xP s u)) - (nI (xP s t))) = nI (wN s t u) from by
      unfold wN
      rw [if_neg (by omega)]
      exact (dN_abs _ (xP_ok hs hu hou hF.n).1 _ (xP_ok hs ht ho hF.n).1).1]
    exact lm_G_re rfl trivial (Nat.zero_le _) (Nat.zero_le _) hQ
set_option maxRecDepth 10000 in
theorem c_extend {F : Fa} {s : Sc} {len : Nat} (hF : okF F) (hs : okS F s) (hlen : len ≤ 6) : ∀ (r : Nat) {X : lm_X} {d v : Nat} {M : Nat → Nat → Int32} {G : Nat → Nat → Int64} {Q : lm_O → lm_S → Prop} {k u f t L : Nat} (h : RC 28 M F s) (h4 : M 49 4 = nI (ownA F s)) (h5 : M 49 5 = nI len) (h6 : M 49 6 = nI L) (hL : L ≤ 181) (hk : k + r = len) (hu : u < 64) (hf : f ≤ 30 * k) (ht : (k = 0 ∧ t = 99) ∨ (0 < k ∧ M 50 (k - 1) = nI t ∧ t < fM F ∧ sOw s t ≠ -1)) (hQ : ∀ M1, M1 49 6 = nI (if f + dS s (fM F) (ownA F s) r t u < L then f + dS s (fM F) (ownA F s) r t u else L) → (∀ i, i < len → M1 51 i = if f + dS s (fM F) (ownA F s) r t u < L then (if i < k then M 50 i else nI (pthS s (fM F) (ownA F s) r t u (i - k))) else M 51 i) → (∀ i, i < k → M1 50 i = M 50 i) → FrX M M1 → Q (.inl none) (lm_T M1 v G)), lm_Q X (d + (r + 1)) 82 [.ref 49, .int (nI k), .int (nI u), .int (nI f)] (lm_T M v G) Q := by
  have hn := hF.n
  have hm := hF.m
  intro r
  induction r with
  | zero =>
    intro X d v M G Q k u f t L h h4 h5 h6 hL hk hu hf ht hQ
    have ez : f + dS s (fM F) (ownA F s) 0 t u = f := rfl
    rw [ez] at hQ
    show lm_G X (d + (0 + 1)) 82 106 0 0 0 [some (.ref 49), some (.int (nI k)), some (.int (nI u)), some (.int (nI f)), none, none] [] (lm_T M v G) Q
    refine lm_G_sg 3 (pc' := 5) (L' := [some (.ref 49), some (.int (nI k)), some (.int (nI u)), some (.int (nI f)), none, none]) (S' := [.int (M 49 6), .int (nI f)]) (σ' := lm_T M v G) rfl trivial ?_
    rw [show M 49 6 = nI L from h6]
    refine lm_G_br (b := (nI f) < (nI L)) (t := 9) (S' := []) rfl (fun hc => ?_) (fun hc => ?_)
    rotate_left
    ·
      have w : ¬ f < L := fun w => hc (nI_lt w (by omega))
      exact lm_G_re rfl trivial (Nat.zero_le _) (Nat.zero_le _) (hQ M (by rw [if_neg w]; exact h6) (fun i hi => by rw [if_neg w]) (fun _ _ => rfl) (FrX_rf _))
    ·
      have w : f < L := Nat.lt_of_not_le (fun w => nI_nlt w (by omega) hc)
      refine lm_G_sg 3 (pc' := 14) (L' := [some (.ref 49), some (.int (nI k)), some (.int (nI u)), some (.int (nI f)), none, none]) (S' := [.int (M 49 5), .int (nI k)]) (σ' := lm_T M v G) rfl trivial ?_
      rw [show M 49 5 = nI len from h5]
      refine lm_G_br (b := (nI k) < (nI len)) (t := 38) (S' := []) rfl (fun hc => absurd hc (nI_nlt (by omega) (by omega))) (fun hc => ?_)
      refine lm_G_sg 11 (pc' := 37) (L' := [some (.ref 49), some (.int (nI k)), some (.int (nI u)), some (.int (nI f)), none, none]) (S' := []) (σ' := lm_T (lm_wa (lm_wr M 49 6 (nI f)) 51 (va_cpy (M 50) (M 51) 0 0 6)) v G) rfl ⟨trivial, trivial, ⟨by decide, by decide, by decide, by decide, by decide⟩, (Nat.le_of_ble_eq_true rfl), trivial⟩ ?_
      exact lm_G_re rfl trivial (Nat.zero_le _) (Nat.zero_le _) (hQ _ (by rw [if_pos w]; exact (wr_same : lm_wr M 49 6 (nI f) 49 6 = nI f)) (fun i hi => by
              rw [if_pos w, if_pos (by omega)]
              rw [wa_same, pk_cpy_in (by omega) (by omega), show 0 + (i - 0) = i by omega]) (fun _ _ => rfl) ⟨Fr_wa (Fr_wr (Fr_rf _ _) rfl) rfl, fun k hk => (wr_at hk : lm_wr M 49 6 (nI f) 49 k = M 49 k)⟩)
  | succ r ih_ =>
    intro X d v M G Q k u f t L h h4 h5 h6 hL hk hu hf ht hQ
    show lm_G X (d + (r + 1 + 1)) 82 106 0 0 0 [some (.ref 49), some (.int (nI k)), some (.int (nI u)), some (.int (nI f)), none, none] [] (lm_T M v G) Q
    refine lm_G_sg 3 (pc' := 5) (L' := [some (.ref 49), some (.int (nI k)), some (.int (nI u)), some (.int (nI f)), none, none]) (S' := [.int (M 49 6), .int (nI f)]) (σ' := lm_T M v G) rfl trivial ?_
    rw [show M 49 6 = nI L from h6]
    refine lm_G_br (b := (nI f) < (nI L)) (t := 9) (S' := []) rfl (fun hc => ?_) (fun hc => ?_)
    rotate_left
    ·
      have w0 : ¬ f < L := fun w => hc (nI_lt w (by omega))
      have w : ¬ f + dS s (fM F) (ownA F s) (r + 1) t u < L := by omega
      exact lm_G_re rfl trivial (Nat.zero_le _) (Nat.zero_le _) (hQ M (by rw [if_neg w]; exact h6) (fun i hi => by rw [if_neg w]) (fun _ _ => rfl) (FrX_rf _))
    ·
      have w0 : f < L := Nat.lt_of_not_le (fun w => nI_nlt w (by omega) hc)
      refine lm_G_sg 3 (pc' := 14) (L' := [some (.ref 49), some (.int (nI k)), some (.int (nI u)), some (.int (nI f)), none, none]) (S' := [.int (M 49 5), .int (nI k)]) (σ' := lm_T M v G) rfl trivial ?_
      rw [show M 49 5 = nI len from h5]
      refine lm_G_br (b := (nI k) < (nI len)) (t := 38) (S' := []) rfl (fun hc => ?_) (fun hc => absurd (nI_lt (by omega) (by omega)) hc)
      refine lm_G_sg 2 (pc' := 41) (L' := [some (.ref 49), some (.int (nI k)), some (.int (nI u)), some (.int (nI f)), some (.int 0), none]) (S' := []) (σ' := lm_T M v G) rfl trivial ?_
      refine lm_ind (α := (Nat → Fn)) (St := fun (j : Nat) zz => (fun (M1 : Nat → Fn) => lm_G X (d + (r + 1 + 1)) 82 106 0 0 41 [some (.ref 49), some (.int (nI k)), some (.int (nI u)), some (.int (nI f)), some (.int (nI j)), none] [] (lm_T M1 v G) Q) zz) (Inv := fun (j : Nat) zz => (fun (M1 : Nat → Fn) => M1 49 6 = nI (if f + (mnS (vld (ownA F s) u) (fuS s (fM F) (ownA F s) r t u) j).1 < L then f + (mnS (vld (ownA F s) u) (fuS s (fM F) (ownA F s) r t u) j).1 else L) ∧ (∀ i, i < len → M1 51 i = if f + (mnS (vld (ownA F s) u) (fuS s (fM F) (ownA F s) r t u) j).1 < L then bstS s (fM F) (ownA F s) r k u (mnS (vld (ownA F s) u) (fuS s (fM F) (ownA F s) r t u) j).2 (M 50) i else M 51 i) ∧ (∀ i, i < k → M1 50 i = M 50 i) ∧ FrX M M1) zz) (fM F) (fun j zz hj hI ih => ?_) (fun zz hI => ?_) (0) M (by omega) ?_
      ·
        revert ih hI
        revert zz
        intro M1 hI ih
        replace hI : M1 49 6 = nI (if f + (mnS (vld (ownA F s) u) (fuS s (fM F) (ownA F s) r t u) j).1 < L then f + (mnS (vld (ownA F s) u) (fuS s (fM F) (ownA F s) r t u) j).1 else L) ∧ (∀ i, i < len → M1 51 i = if f + (mnS (vld (ownA F s) u) (fuS s (fM F) (ownA F s) r t u) j).1 < L then bstS s (fM F) (ownA F s) r k u (mnS (vld (ownA F s) u) (fuS s (fM F) (ownA F s) r t u) j).2 (M 50) i else M 51 i) ∧ (∀ i, i < k → M1 50 i = M 50 i) ∧ FrX M M1 := hI
        replace ih : ∀ (M1 : Nat → Fn) (_ : M1 49 6 = nI (if f + (mnS (vld (ownA F s) u) (fuS s (fM F) (ownA F s) r t u) (j + 1)).1 < L then f + (mnS (vld (ownA F s) u) (fuS s (fM F) (ownA F s) r t u) (j + 1)).1 else L) ∧ (∀ i, i < len → M1 51 i = if f + (mnS (vld (ownA F s) u) (fuS s (fM F) (ownA F s) r t u) (j + 1)).1 < L then bstS s (fM F) (ownA F s) r k u (mnS (vld (ownA F s) u) (fuS s (fM F) (ownA F s) r t u) (j + 1)).2 (M 50) i else M 51 i) ∧ (∀ i, i < k → M1 50 i = M 50 i) ∧ FrX M M1), lm_G X (d + (r + 1 + 1)) 82 106 0 0 41 [some (.ref 49), some (.int (nI k)), some (.int (nI u)), some (.int (nI f)), some (.int (nI (j + 1))), none] [] (lm_T M1 v G) Q := fun M1 q => ih M1 q
        show lm_G X (d + (r + 1 + 1)) 82 106 0 0 41 [some (.ref 49), some (.int (nI k)), some (.int (nI u)), some (.int (nI f)), some (.int (nI j)), none] [] (lm_T M1 v G) Q
        obtain ⟨i1, i2, i3, i4⟩ := hI
        have h1 := RC_X h i4
        refine lm_G_sg 4 (pc' := 50) (L' := [some (.ref 49), some (.int (nI k)), some (.int (nI u)), some (.int (nI f)), some (.int (nI j)), none]) (S' := [.int (M1 14 6), .int (nI j)]) (σ' := lm_T M1 v G) rfl trivial ?_
        rw [show M1 14 6 = nI (fM F) from h1.m]
        refine lm_G_br (b := (nI (fM F)) ≤ (nI j)) (t := 108) (S' := []) rfl (fun hc => absurd hc (nI_ge hj (by omega))) (fun hc => ?_)
        refine lm_G_sg 6 (pc' := 63) (L' := [some (.ref 49), some (.int (nI k)), some (.int (nI u)), some (.int (nI f)), some (.int (nI j)), some (.int ((1 : Int32) <<< ((nI j) &&& 31)))]) (S' := [.int (M1 49 4)]) (σ' := lm_T M1 v G) rfl trivial ?_
        rw [show M1 49 4 = nI (ownA F s) from (i4.2 4 (by decide)).trans h4]
        refine lm_G_sg 2 (pc' := 66) (L' := [some (.ref 49), some (.int (nI k)), some (.int (nI u)), some (.int (nI f)), some (.int (nI j)), some (.int ((1 : Int32) <<< ((nI j) &&& 31)))]) (S' := [.int ((nI (ownA F s)) &&& ((1 : Int32) <<< ((nI j) &&& 31)))]) (σ' := lm_T M1 v G) rfl trivial ?_
        refine lm_G_br (b := ((nI (ownA F s)) &&& ((1 : Int32) <<< ((nI j) &&& 31))) = 0) (t := 102) (S' := []) rfl (fun h7 => ?_) (fun h7 => ?_)
        ·
          have hv : (vld (ownA F s) u) j = false := by
            have := (bit_and0 (by omega)).mp h7
            rw [bitW_nI (by omega)] at this
            unfold vld
            rw [this]
            rfl
          refine lm_G_sg 1 (pc' := 105) (L' := [some (.ref 49), some (.int (nI k)), some (.int (nI u)), some (.int (nI f)), some (.int ((nI j) + 1)), some (.int ((1 : Int32) <<< ((nI j) &&& 31)))]) (S' := []) (σ' := lm_T M1 v G) rfl trivial ?_
          rw [nI_1]
          refine lm_G_sg 1 (pc' := 41) (L' := [some (.ref 49), some (.int (nI k)), some (.int (nI u)), some (.int (nI f)), some (.int (nI (j + 1))), some (.int ((1 : Int32) <<< ((nI j) &&& 31)))]) (S' := []) (σ' := lm_T M1 v G) rfl trivial ?_
          rw [mn_g (f := (fuS s (fM F) (ownA F s) r t u)) hv] at ih
          refine lm_G_jk (L := [some (.ref 49), some (.int (nI k)), some (.int (nI u)), some (.int (nI f)), some (.int (nI (j + 1))), none]) ⟨rfl, rfl, rfl, rfl, rfl, trivial⟩ ?_
          exact ih _ (⟨i1, i2, i3, i4⟩)
        ·
          refine lm_G_sg 3 (pc' := 73) (L' := [some (.ref 49), some (.int (nI k)), some (.int (nI u)), some (.int (nI f)), some (.int (nI j)), some (.int ((1 : Int32) <<< ((nI j) &&& 31)))]) (S' := [.int ((nI u) &&& ((1 : Int32) <<< ((nI j) &&& 31)))]) (σ' := lm_T M1 v G) rfl trivial ?_
          refine lm_G_br (b := ¬ ((nI u) &&& ((1 : Int32) <<< ((nI j) &&& 31))) = 0) (t := 102) (S' := []) rfl (fun h8 => ?_) (fun h8 => ?_)
          ·
            have hv : (vld (ownA F s) u) j = false := by
              have := fun w => h8 ((bit_and0 (x := nI u) (j := j) (by omega)).mpr w)
              rw [bitW_nI (by omega)] at this
              unfold vld
              rw [b_nf this]
              simp
            refine lm_G_sg 1 (pc' := 105) (L' := [some (.ref 49), some (.int (nI k)), some (.int (nI u)), some (.int (nI f)), some (.int ((nI j) + 1)), some (.int ((1 : Int32) <<< ((nI j) &&& 31)))]) (S' := []) (σ' := lm_T M1 v G) rfl trivial ?_
            rw [nI_1]
            refine lm_G_sg 1 (pc' := 41) (L' := [some (.ref 49), some (.int (nI k)), some (.int (nI u)), some (.int (nI f)), some (.int (nI (j + 1))), some (.int ((1 : Int32) <<< ((nI j) &&& 31)))]) (S' := []) (σ' := lm_T M1 v G) rfl trivial ?_
            rw [mn_g (f := (fuS s (fM F) (ownA F s) r t u)) hv] at ih
            refine lm_G_jk (L := [some (.ref 49), some (.int (nI k)), some (.int (nI u)), some (.int (nI f)), some (.int (nI (j + 1))), none]) ⟨rfl, rfl, rfl, rfl, rfl, trivial⟩ ?_
            exact ih _ (⟨i1, i2, i3, i4⟩)
          ·
            have hv : (vld (ownA F s) u) j = true := by
              have a1 := fun w => h7 ((bit_and0 (x := nI (ownA F s)) (j := j) (by omega)).mpr w)
              have a2 := (bit_and0 (x := nI u) (j := j) (by omega)).mp (Classical.not_not.mp h8)
              rw [bitW_nI (by omega)] at a1 a2
              unfold vld
              rw [b_nf a1, a2]
              rfl
            obtain ⟨v1, v2, v3, v4⟩ := vld_ok hF hv
            have hw := wN_le hF hs (t := t) (u := j) (by rcases ht with w | w; exact Or.inl w.2; exact Or.inr w.2.2) v1 v2
            refine lm_G_sg 5 (pc' := 84) (L' := [some (.ref 49), some (.int (nI k)), some (.int (nI u)), some (.int (nI f)), some (.int (nI j)), some (.int ((1 : Int32) <<< ((nI j) &&& 31)))]) (S' := []) (σ' := lm_T (lm_wr M1 50 ((nI k).toNatClampNeg) (nI j)) v G) rfl ⟨(vp_in_nI (by omega) (by omega)), trivial, trivial⟩ ?_
            rw [show (nI k).toNatClampNeg = k from nI_clamp (by omega)]
            have h2 : RC 28 (lm_wr M1 50 k (nI j)) F s := RC_fr h1 (Fr_wr (p := frX) (Fr_rf _ _) rfl) (by decide) (by decide)
            have e50 : (lm_wr M1 50 k (nI j)) 50 k = nI j := wr_same
            have g50 : ∀ i, i ≠ k → (lm_wr M1 50 k (nI j)) 50 i = M1 50 i := fun i hi => wr_at hi
            have f2 : FrX M1 (lm_wr M1 50 k (nI j)) := ⟨Fr_wr (Fr_rf _ _) rfl, fun _ _ => rfl⟩
            have r49 : (lm_wr M1 50 k (nI j)) 49 = M1 49 := rfl
            have r51 : (lm_wr M1 50 k (nI j)) 51 = M1 51 := rfl
            revert h2 e50 g50 f2 r49 r51
            generalize lm_wr M1 50 k (nI j) = M2
            intro h2 e50 g50 f2 r49 r51
            refine lm_G_sg 4 (pc' := 88) (L' := [some (.ref 49), some (.int (nI k)), some (.int (nI u)), some (.int (nI f)), some (.int (nI j)), some (.int ((1 : Int32) <<< ((nI j) &&& 31)))]) (S' := [.int ((nI k) + 1), .ref 49]) (σ' := lm_T M2 v G) rfl trivial ?_
            rw [show (nI k) + 1 = nI (k + 1) from nI_add k 1]
            refine lm_G_sg 3 (pc' := 92) (L' := [some (.ref 49), some (.int (nI k)), some (.int (nI u)), some (.int (nI f)), some (.int (nI j)), some (.int ((1 : Int32) <<< ((nI j) &&& 31)))]) (S' := [.int ((nI u) ||| ((1 : Int32) <<< ((nI j) &&& 31))), .int (nI (k + 1)), .ref 49]) (σ' := lm_T M2 v G) rfl trivial ?_
            rw [show (nI u) ||| ((1 : Int32) <<< ((nI j) &&& 31)) = nI (u ||| 2 ^ j) from or_bit (by omega)]
            refine lm_G_sg 3 (pc' := 95) (L' := [some (.ref 49), some (.int (nI k)), some (.int (nI u)), some (.int (nI f)), some (.int (nI j)), some (.int ((1 : Int32) <<< ((nI j) &&& 31)))]) (S' := [.int (nI k), .ref 49, .int (nI f), .int (nI (u ||| 2 ^ j)), .int (nI (k + 1)), .ref 49]) (σ' := lm_T M2 v G) rfl trivial ?_
            refine lm_G_ca (j := 83) (as := [.ref 49, .int (nI k)]) (rest := [.int (nI f), .int (nI (u ||| 2 ^ j)), .int (nI (k + 1)), .ref 49]) rfl (Or.inl rfl) (Nat.le_of_ble_eq_true rfl) (Nat.le_of_ble_eq_true rfl) (Nat.le_of_ble_eq_true rfl) (Nat.le_of_ble_eq_true rfl) rfl ?_
            refine c_wayTo (t := t) (u := j) hF hs h2 (by rcases ht with w | w; exact Or.inl w; exact Or.inr ⟨w.1, by rw [g50 _ (by omega), i3 _ (by omega)]; exact w.2.1, w.2.2⟩) (by omega) e50 v1 v2 ?_
            show lm_G X (d + (r + 1 + 1)) 82 106 0 0 98 [some (.ref 49), some (.int (nI k)), some (.int (nI u)), some (.int (nI f)), some (.int (nI j)), some (.int ((1 : Int32) <<< ((nI j) &&& 31)))] [.int (nI (wN s t j)), .int (nI f), .int (nI (u ||| 2 ^ j)), .int (nI (k + 1)), .ref 49] (lm_T M2 v G) Q
            refine lm_G_sg 1 (pc' := 99) (L' := [some (.ref 49), some (.int (nI k)), some (.int (nI u)), some (.int (nI f)), some (.int (nI j)), some (.int ((1 : Int32) <<< ((nI j) &&& 31)))]) (S' := [.int ((nI f) + (nI (wN s t j))), .int (nI (u ||| 2 ^ j)), .int (nI (k + 1)), .ref 49]) (σ' := lm_T M2 v G) rfl trivial ?_
            rw [show (nI f) + (nI (wN s t j)) = nI (f + (wN s t j)) from nI_add f (wN s t j)]
            have eL : (if f + (mnS (vld (ownA F s) u) (fuS s (fM F) (ownA F s) r t u) j).1 < L then f + (mnS (vld (ownA F s) u) (fuS s (fM F) (ownA F s) r t u) j).1 else L) ≤ 181 := by split <;> omega
            refine lm_G_ca (j := 82) (as := [.ref 49, .int (nI (k + 1)), .int (nI (u ||| 2 ^ j)), .int (nI (f + (wN s t j)))]) (rest := []) rfl (Or.inl rfl) (Nat.le_of_ble_eq_true rfl) (Nat.le_of_ble_eq_true rfl) (Nat.le_of_ble_eq_true rfl) (Nat.le_of_ble_eq_true rfl) rfl ?_
            refine ih_ (k := k + 1) (u := u ||| 2 ^ j) (f := f + wN s t j) (t := j) h2 (by rw [r49]; exact (i4.2 4 (by decide)).trans h4) (by rw [r49]; exact (i4.2 5 (by decide)).trans h5) (by rw [r49]; exact i1) eL (by omega) (or_lt u hu j (by omega)) (by omega) (Or.inr ⟨by omega, e50, v1, v2⟩) (fun M3 q1 q2 q3 q4 => ?_)
            show lm_G X (d + (r + 1 + 1)) 82 106 0 0 102 [some (.ref 49), some (.int (nI k)), some (.int (nI u)), some (.int (nI f)), some (.int (nI j)), some (.int ((1 : Int32) <<< ((nI j) &&& 31)))] [] (lm_T M3 v G) Q
            have ef : f + wN s t j + dS s (fM F) (ownA F s) r j (u ||| 2 ^ j) = f + (fuS s (fM F) (ownA F s) r t u) j := by unfold fuS; omega
            rw [ef] at q1 q2
            have f3 : FrX M M3 := FrX_tr i4 (FrX_tr f2 q4)
            have q5 : ∀ i, i < k → M3 50 i = M 50 i := fun i hi => (q3 i (by omega)).trans ((g50 i (by omega)).trans (i3 i hi))
            refine lm_G_sg 1 (pc' := 105) (L' := [some (.ref 49), some (.int (nI k)), some (.int (nI u)), some (.int (nI f)), some (.int ((nI j) + 1)), some (.int ((1 : Int32) <<< ((nI j) &&& 31)))]) (S' := []) (σ' := lm_T M3 v G) rfl trivial ?_
            rw [nI_1]
            refine lm_G_sg 1 (pc' := 41) (L' := [some (.ref 49), some (.int (nI k)), some (.int (nI u)), some (.int (nI f)), some (.int (nI (j + 1))), some (.int ((1 : Int32) <<< ((nI j) &&& 31)))]) (S' := []) (σ' := lm_T M3 v G) rfl trivial ?_
            by_cases n1 : (fuS s (fM F) (ownA F s) r t u) j < (mnS (vld (ownA F s) u) (fuS s (fM F) (ownA F s) r t u) j).1
            ·
              rw [mn_y hv n1] at ih
              by_cases n2 : f + (fuS s (fM F) (ownA F s) r t u) j < L
              ·
                have n3 : f + (fuS s (fM F) (ownA F s) r t u) j < (if f + (mnS (vld (ownA F s) u) (fuS s (fM F) (ownA F s) r t u) j).1 < L then f + (mnS (vld (ownA F s) u) (fuS s (fM F) (ownA F s) r t u) j).1 else L) := by split <;> omega
                rw [if_pos n3] at q1
                refine lm_G_jk (L := [some (.ref 49), some (.int (nI k)), some (.int (nI u)), some (.int (nI f)), some (.int (nI (j + 1))), none]) ⟨rfl, rfl, rfl, rfl, rfl, trivial⟩ ?_
                exact ih _ (⟨by rw [q1, if_pos n2], fun i hi => by
                                  rw [q2 i hi, if_pos n3, if_pos n2]
                                  unfold bstS
                                  by_cases a : i < k
                                  · rw [if_pos (by omega), if_pos a, g50 i (by omega), i3 i a]
                                  · by_cases b : i = k
                                    · rw [if_pos (by omega), if_neg a, if_pos b, b, e50]
                                    · rw [if_neg (by omega), if_neg a, if_neg b, show i - (k + 1) = i - k - 1 by omega], q5, f3⟩)
              ·
                have n4 : ¬ f + (mnS (vld (ownA F s) u) (fuS s (fM F) (ownA F s) r t u) j).1 < L := by omega
                rw [if_neg n4] at q1 q2
                rw [if_neg n2] at q1
                refine lm_G_jk (L := [some (.ref 49), some (.int (nI k)), some (.int (nI u)), some (.int (nI f)), some (.int (nI (j + 1))), none]) ⟨rfl, rfl, rfl, rfl, rfl, trivial⟩ ?_
                exact ih _ (⟨by rw [q1]; exact congrArg nI (if_neg n2).symm, fun i hi => by
                                  rw [q2 i hi, if_neg n2, r51, i2 i hi, if_neg n4]
                                  exact (if_neg n2).symm, q5, f3⟩)
            ·
              have n3 : ¬ f + (fuS s (fM F) (ownA F s) r t u) j < (if f + (mnS (vld (ownA F s) u) (fuS s (fM F) (ownA F s) r t u) j).1 < L then f + (mnS (vld (ownA F s) u) (fuS s (fM F) (ownA F s) r t u) j).1 else L) := by split <;> omega
              rw [if_neg n3] at q1
              rw [mn_n n1] at ih
              refine lm_G_jk (L := [some (.ref 49), some (.int (nI k)), some (.int (nI u)), some (.int (nI f)), some (.int (nI (j + 1))), none]) ⟨rfl, rfl, rfl, rfl, rfl, trivial⟩ ?_
              exact ih _ (⟨q1, fun i hi => by rw [q2 i hi, if_neg n3, r51, i2 i hi], q5, f3⟩)
      ·
        revert hI
        revert zz
        intro M1 hI
        replace hI : M1 49 6 = nI (if f + (mnS (vld (ownA F s) u) (fuS s (fM F) (ownA F s) r t u) (fM F)).1 < L then f + (mnS (vld (ownA F s) u) (fuS s (fM F) (ownA F s) r t u) (fM F)).1 else L) ∧ (∀ i, i < len → M1 51 i = if f + (mnS (vld (ownA F s) u) (fuS s (fM F) (ownA F s) r t u) (fM F)).1 < L then bstS s (fM F) (ownA F s) r k u (mnS (vld (ownA F s) u) (fuS s (fM F) (ownA F s) r t u) (fM F)).2 (M 50) i else M 51 i) ∧ (∀ i, i < k → M1 50 i = M 50 i) ∧ FrX M M1 := hI
        show lm_G X (d + (r + 1 + 1)) 82 106 0 0 41 [some (.ref 49), some (.int (nI k)), some (.int (nI u)), some (.int (nI f)), some (.int (nI (fM F))), none] [] (lm_T M1 v G) Q
        obtain ⟨i1, i2, i3, i4⟩ := hI
        have h1 := RC_X h i4
        refine lm_G_sg 4 (pc' := 50) (L' := [some (.ref 49), some (.int (nI k)), some (.int (nI u)), some (.int (nI f)), some (.int (nI (fM F))), none]) (S' := [.int (M1 14 6), .int (nI (fM F))]) (σ' := lm_T M1 v G) rfl trivial ?_
        rw [show M1 14 6 = nI (fM F) from h1.m]
        refine lm_G_br (b := (nI (fM F)) ≤ (nI (fM F))) (t := 108) (S' := []) rfl (fun hc => ?_) (fun hc => absurd (nI_le (Nat.le_refl _) (by omega)) hc)
        exact lm_G_re rfl trivial (Nat.zero_le _) (Nat.zero_le _) (hQ M1 i1 (fun i hi => by rw [i2 i hi, ← bst_pth (t := t)]; rfl) i3 i4)
      ·
        try dsimp only
        exact ⟨by rw [if_neg (by show ¬ f + 1000 < L; omega)]; exact h6, fun i hi => by rw [if_neg (by show ¬ f + 1000 < L; omega)], fun _ _ => rfl, FrX_rf _⟩
def lenA (F : Fa) (s : Sc) : Nat := pcN (ownA F s)
theorem lenA_le {F : Fa} (hF : okF F) {s : Sc} : lenA F s ≤ 6 := pc_lt8 6 (by omega) _ (ownA_lt hF)
def lstA (F : Fa) (s : Sc) : Nat := dS s (fM F) (ownA F s) (lenA F s) 99 0
def pthA (F : Fa) (s : Sc) (i : Nat) : Nat := pthS s (fM F) (ownA F s) (lenA F s) 99 0 i
theorem lstA_le {F : Fa} (hF : okF F) {s : Sc} (hs : okS F s) : lstA F s ≤ 180 := by
  have := dS_le hF hs (lenA F s) 99 0 (Or.inl rfl) (by omega) (by simp) (by unfold lenA; simp [pcN_0])
  have := lenA_le hF (s := s)
  unfold lstA
  omega
theorem frXQ {a : Nat} (h : frQ a = false) : frX a = false := by
  unfold frQ at h
  unfold frX
  rw [decide_eq_false_iff_not] at h ⊢
  omega
set_option maxRecDepth 10000 in
theorem c_find {X : lm_X} {d v : Nat} {M : Nat → Nat → Int32} {G : Nat → Nat → Int64} {Q : lm_O → lm_S → Prop} {F : Fa} {s : Sc} (hF : okF F) (hs : okS F s) (h : RC 28 M F s) (hQ : ∀ M1, M1 49 5 = nI (lenA F s) → M1 49 6 = nI (lstA F s) → (∀ i, i < lenA F s → M1 51 i = nI (pthA F s i)) → Fr frQ M M1 → Q (.inl none) (lm_T M1 v G)) : lm_Q X (d + 8) 81 [.ref 49] (lm_T M v G) Q := by
  have hn := hF.n
  have hm := hF.m
  show lm_G X (d + 8) 81 106 0 0 0 [some (.ref 49)] [] (lm_T M v G) Q
  refine lm_G_sg 5 (pc' := 9) (L' := [some (.ref 49)]) (S' := [.int (M 14 6), .int 1, .ref 49]) (σ' := lm_T M v G) rfl trivial ?_
  rw [show M 14 6 = nI (fM F) from h.m]
  refine lm_G_sg 6 (pc' := 17) (L' := [some (.ref 49)]) (S' := [.int (-1), .ref 28, .int (((1 : Int32) <<< ((nI (fM F)) &&& 31)) - 1), .ref 49]) (σ' := lm_T M v G) rfl trivial ?_
  refine lm_G_ca (j := 60) (as := [.ref 28, .int (-1)]) (rest := [.int (((1 : Int32) <<< ((nI (fM F)) &&& 31)) - 1), .ref 49]) rfl (Or.inl rfl) (Nat.le_of_ble_eq_true rfl) (Nat.le_of_ble_eq_true rfl) (Nat.le_of_ble_eq_true rfl) (Nat.le_of_ble_eq_true rfl) rfl ?_
  refine c_ownedBy28 hF h ?_
  show lm_G X (d + 8) 81 106 0 0 20 [some (.ref 49)] [.int (ownS F (sOw s) (-1)), .int (((1 : Int32) <<< ((nI (fM F)) &&& 31)) - 1), .ref 49] (lm_T M v G) Q
  refine lm_G_sg 3 (pc' := 23) (L' := [some (.ref 49)]) (S' := [.int ((((1 : Int32) <<< ((nI (fM F)) &&& 31)) - 1) &&& ((ownS F (sOw s) (-1)) ^^^ (-1))), .ref 49]) (σ' := lm_T M v G) rfl trivial ?_
  rw [show ((1 : Int32) <<< ((nI (fM F)) &&& 31) - 1) &&& (ownS F (sOw s) (-1) ^^^ (-1)) = nI (ownA F s) from ownA_eq hF]
  refine lm_G_sg 4 (pc' := 31) (L' := [some (.ref 49)]) (S' := [.int (nI (ownA F s)), .ref 49]) (σ' := lm_T (lm_wr M 49 4 (nI (ownA F s))) v G) rfl ⟨trivial, trivial, trivial⟩ ?_
  refine lm_G_ca (j := 244) (as := [.int (nI (ownA F s))]) (rest := [.ref 49]) rfl (Or.inl rfl) (Nat.le_of_ble_eq_true rfl) (Nat.le_of_ble_eq_true rfl) (Nat.le_of_ble_eq_true rfl) (Nat.le_of_ble_eq_true rfl) rfl ?_
  refine c_bits ⟨ownA F s, by have := ownA_lt hF (s := s); omega, rfl⟩ ?_
  show lm_G X (d + 8) 81 106 0 0 34 [some (.ref 49)] [.int (cnt (nI (ownA F s))), .ref 49] (lm_T (lm_wr M 49 4 (nI (ownA F s))) v G) Q
  rw [cnt_nI (k := ownA F s) (by have := ownA_lt hF (s := s); omega)]
  refine lm_G_sg 8 (pc' := 48) (L' := [some (.ref 49)]) (S' := [.int 0, .int 0, .int 0, .ref 49]) (σ' := lm_T (lm_wr (lm_wr (lm_wr M 49 4 (nI (ownA F s))) 49 5 (nI (pcN (ownA F s)))) 49 6 181) v G) rfl ⟨trivial, trivial, trivial, trivial, trivial⟩ ?_
  have h2 : RC 28 (lm_wr (lm_wr (lm_wr M 49 4 (nI (ownA F s))) 49 5 (nI (pcN (ownA F s)))) 49 6 181) F s := RC_fr h (Fr_wr (Fr_wr (Fr_wr (p := frX) (Fr_rf _ _) rfl) rfl) rfl) (by decide) (by decide)
  have e4 : (lm_wr (lm_wr (lm_wr M 49 4 (nI (ownA F s))) 49 5 (nI (pcN (ownA F s)))) 49 6 181) 49 4 = nI (ownA F s) := rfl
  have e5 : (lm_wr (lm_wr (lm_wr M 49 4 (nI (ownA F s))) 49 5 (nI (pcN (ownA F s)))) 49 6 181) 49 5 = nI (lenA F s) := rfl
  have e6 : (lm_wr (lm_wr (lm_wr M 49 4 (nI (ownA F s))) 49 5 (nI (pcN (ownA F s)))) 49 6 181) 49 6 = nI 181 := rfl
  have f2 : Fr frX M (lm_wr (lm_wr (lm_wr M 49 4 (nI (ownA F s))) 49 5 (nI (pcN (ownA F s)))) 49 6 181) := Fr_wr (Fr_wr (Fr_wr (Fr_rf _ _) rfl) rfl) rfl
  revert h2 e4 e5 e6 f2
  generalize lm_wr (lm_wr (lm_wr M 49 4 (nI (ownA F s))) 49 5 (nI (pcN (ownA F s)))) 49 6 181 = M2
  intro h2 e4 e5 e6 f2
  have hl := lenA_le hF (s := s)
  have hw := lstA_le hF hs
  rw [show d + 8 = (d + (6 - lenA F s) + (lenA F s + 1)) + 1 by omega]
  refine lm_G_ca (j := 82) (as := [.ref 49, .int 0, .int 0, .int 0]) (rest := []) rfl (Or.inl rfl) (Nat.le_of_ble_eq_true rfl) (Nat.le_of_ble_eq_true rfl) (Nat.le_of_ble_eq_true rfl) (Nat.le_of_ble_eq_true rfl) rfl ?_
  refine c_extend (k := 0) (u := 0) (f := 0) (t := 99) hF hs hl (lenA F s) h2 e4 e5 e6 (by omega) (by omega) (by omega) (by omega) (Or.inl ⟨rfl, rfl⟩) (fun M3 q1 q2 q3 q4 => ?_)
  show lm_G X ((d + (6 - lenA F s) + (lenA F s + 1)) + 1) 81 106 0 0 51 [some (.ref 49)] [] (lm_T M3 v G) Q
  have eq : 0 + dS s (fM F) (ownA F s) (lenA F s) 99 0 = lstA F s := Nat.zero_add _
  rw [eq, if_pos (by omega)] at q1
  exact lm_G_re rfl trivial (Nat.zero_le _) (Nat.zero_le _) (hQ M3 (by rw [q4.2 5 (by decide)]; exact e5) q1 (fun i hi => by rw [q2 i hi, eq, if_pos (by omega), if_neg (by omega)]; rfl) (Fr_mn (Fr_tr f2 q4.1) (fun a ha => frXQ ha)))
def aRou (F : Fa) (s : Sc) (x : Int32) : An := if decide (-1 ≤ x ∧ x < nI (lenA F s)) then .inl (if x = -1 then nI (lstA F s) else nI (pthA F s x.toNatClampNeg)) else .inr false
theorem rou_ix {x : Int32} {n : Nat} (h1 : -1 ≤ x) (h2 : x < nI n) (h3 : ¬ x = -1) (hn : n ≤ 6) : ∃ i, i < n ∧ x = nI i := by
  have h0 : ¬ x < 0 := by
    intro w
    apply h3
    apply Int32.toInt_inj.mp
    rw [Int32.lt_iff_toInt_lt] at w
    rw [Int32.le_iff_toInt_le] at h1
    have e0 : (0 : Int32).toInt = 0 := by decide
    have e1 : (-1 : Int32).toInt = -1 := by decide
    omega
  obtain ⟨j, hj, e⟩ := nI_of h0
  subst e
  exact ⟨j, (nI_ltI hj (by omega)).mp h2, rfl⟩
set_option maxRecDepth 10000 in
theorem c_round {X : lm_X} {d v : Nat} {M : Nat → Nat → Int32} {G : Nat → Nat → Int64} {Q : lm_O → lm_S → Prop} {F : Fa} {s : Sc} {x : Int32} (hF : okF F) (h : RC 28 M F s) (hs : okS F s) (hl : M 28 12 = -1) (hQ : ∀ M1, Fr frQ M M1 → Q (cO (aRou F s x)) (lm_T M1 v G)) : lm_Q X (d + 9) 112 [.ref 0, .int x] (lm_T M v G) Q := by
  have hn := hF.n
  have hm := hF.m
  show lm_G X (d + 9) 112 106 0 0 0 [some (.ref 0), some (.int x)] [] (lm_T M v G) Q
  refine lm_G_sg 2 (pc' := 4) (L' := [some (.ref 0), some (.int x)]) (S' := [.ref 49]) (σ' := lm_T M v G) rfl trivial ?_
  refine lm_G_ca (j := 81) (as := [.ref 49]) (rest := []) rfl (Or.inl rfl) (Nat.le_of_ble_eq_true rfl) (Nat.le_of_ble_eq_true rfl) (Nat.le_of_ble_eq_true rfl) (Nat.le_of_ble_eq_true rfl) rfl ?_
  refine c_find hF hs h (fun M1 q5 q6 q1 f1 => ?_)
  show lm_G X (d + 9) 112 106 0 0 7 [some (.ref 0), some (.int x)] [] (lm_T M1 v G) Q
  have hl6 := lenA_le hF (s := s)
  refine lm_G_sg 2 (pc' := 9) (L' := [some (.ref 0), some (.int x)]) (S' := [.int (-1), .int x]) (σ' := lm_T M1 v G) rfl trivial ?_
  refine lm_G_br (b := x < (-1)) (t := 27) (S' := []) rfl (fun h1 => ?_) (fun h1 => ?_)
  ·
    refine lm_G_sg 1 (pc' := 28) (L' := [some (.ref 0), some (.int x)]) (S' := [.int 0]) (σ' := lm_T M1 v G) rfl trivial ?_
    rw [show aRou F s x = .inr false from by unfold aRou; rw [decide_eq_false (fun w => Int32.not_le.mpr h1 w.1)]; rfl] at hQ
    refine lm_G_ca (j := 137) (as := [.int 0]) (rest := []) rfl (Or.inl rfl) (Nat.le_of_ble_eq_true rfl) (Nat.le_of_ble_eq_true rfl) (Nat.le_of_ble_eq_true rfl) (Nat.le_of_ble_eq_true rfl) rfl ?_
    exact c_mustExistF ⟨by decide, rfl, hQ M1 f1⟩
  ·
    refine lm_G_sg 4 (pc' := 20) (L' := [some (.ref 0), some (.int x)]) (S' := [.int (M1 49 5), .int x]) (σ' := lm_T M1 v G) rfl trivial ?_
    rw [show M1 49 5 = nI (lenA F s) from q5]
    refine lm_G_br (b := (nI (lenA F s)) ≤ x) (t := 27) (S' := []) rfl (fun h2 => ?_) (fun h2 => ?_)
    ·
      refine lm_G_sg 1 (pc' := 28) (L' := [some (.ref 0), some (.int x)]) (S' := [.int 0]) (σ' := lm_T M1 v G) rfl trivial ?_
      rw [show aRou F s x = .inr false from by unfold aRou; rw [decide_eq_false (fun w => Int32.not_lt.mpr h2 w.2)]; rfl] at hQ
      refine lm_G_ca (j := 137) (as := [.int 0]) (rest := []) rfl (Or.inl rfl) (Nat.le_of_ble_eq_true rfl) (Nat.le_of_ble_eq_true rfl) (Nat.le_of_ble_eq_true rfl) (Nat.le_of_ble_eq_true rfl) rfl ?_
      exact c_mustExistF ⟨by decide, rfl, hQ M1 f1⟩
    ·
      refine lm_G_sg 2 (pc' := 28) (L' := [some (.ref 0), some (.int x)]) (S' := [.int 1]) (σ' := lm_T M1 v G) rfl trivial ?_
      refine lm_G_ca (j := 137) (as := [.int 1]) (rest := []) rfl (Or.inl rfl) (Nat.le_of_ble_eq_true rfl) (Nat.le_of_ble_eq_true rfl) (Nat.le_of_ble_eq_true rfl) (Nat.le_of_ble_eq_true rfl) rfl ?_
      refine c_mustExistT ?_
      show lm_G X (d + 9) 112 106 1 6 31 [some (.ref 0), some (.int x)] [] (lm_T M1 v G) Q
      have hx : decide (-1 ≤ x ∧ x < nI (lenA F s)) = true := decide_eq_true ⟨Int32.not_lt.mp h1, Int32.not_le.mp h2⟩
      refine lm_G_sg 2 (pc' := 33) (L' := [some (.ref 0), some (.int x)]) (S' := [.int (-1), .int x]) (σ' := lm_T M1 v G) rfl trivial ?_
      refine lm_G_br (b := ¬ x = (-1)) (t := 46) (S' := []) rfl (fun h3 => ?_) (fun h3 => ?_)
      rotate_left
      ·
        refine lm_G_sg 3 (pc' := 43) (L' := [some (.ref 0), some (.int x)]) (S' := [.int (M1 49 6)]) (σ' := lm_T M1 v G) rfl trivial ?_
        rw [show M1 49 6 = nI (lstA F s) from q6]
        refine lm_G_sg 1 (pc' := 55) (L' := [some (.ref 0), some (.int x)]) (S' := [.int (nI (lstA F s))]) (σ' := lm_T M1 v G) rfl trivial ?_
        rw [show aRou F s x = .inl (nI (lstA F s)) from by unfold aRou; rw [hx, if_pos (Classical.not_not.mp h3)]; rfl] at hQ
        exact lm_G_re rfl trivial (Nat.le_of_ble_eq_true rfl) (Nat.le_of_ble_eq_true rfl) (hQ _ f1)
      ·
        obtain ⟨i, hi, rfl⟩ : ∃ i, i < lenA F s ∧ x = nI i := rou_ix (Int32.not_lt.mp h1) (Int32.not_le.mp h2) h3 (by omega)
        refine lm_G_sg 5 (pc' := 55) (L' := [some (.ref 0), some (.int (nI i))]) (S' := [.int (M1 51 (nI i).toNatClampNeg)]) (σ' := lm_T M1 v G) rfl ⟨(vp_in_nI (by omega) (by omega)), trivial, trivial⟩ ?_
        rw [show (nI i).toNatClampNeg = i from nI_clamp (by omega)]
        rw [show M1 51 i = nI (pthA F s i) from q1 i hi]
        rw [show aRou F s (nI i) = .inl (nI (pthA F s i)) from by unfold aRou; rw [hx, if_neg h3, nI_clamp (by omega)]; rfl] at hQ
        exact lm_G_re rfl trivial (Nat.le_of_ble_eq_true rfl) (Nat.le_of_ble_eq_true rfl) (hQ _ f1)
