/-! ===== contracts: the class reads an expression ===== -/
theorem nt_n {T : Tx} {p : Nat} : ∀ j, (∀ i, i < j → isWd T (ntP T i p) w13 = true) → ntN T j p = j
  | 0, _ => rfl
  | j + 1, h => (nt_y j p (fun i hi => h i (by omega))).1
theorem nt_p {T : Tx} {p j : Nat} (h : ∀ i, i < j + 1 → isWd T (ntP T i p) w13 = true) : ntP T (j + 1) p = enS T (ntP T j p) := (nt_y j p (fun i hi => h i (by omega))).2
def nkI (T : Tx) (p : Nat) : Nat := if isWd T (ntP T 6 p) w13 then 7 else ntN T 6 p
set_option maxRecDepth 10000 in
theorem c_skipNots {X : lm_X} {d v : Nat} {M : Nat → Nat → Int32} {G : Nat → Nat → Int64} {Q : lm_O → lm_S → Prop} {T : Tx} {p : Nat} (hT : okT T) (ht : RT M T p) (hp : p ≤ tN T) (hQ : ∀ M1, RT M1 T (ntP T 6 p) → FrR M M1 → Q (.inl (some (.int (nI (nkI T p))))) (lm_T M1 v G)) : lm_Q X (d + 2) 42 [.ref 1] (lm_T M v G) Q := by
  show lm_G X (d + 2) 42 106 0 0 0 [some (.ref 1), none] [] (lm_T M v G) Q
  refine lm_G_sg 2 (pc' := 2) (L' := [some (.ref 1), some (.int 0)]) (S' := []) (σ' := lm_T M v G) rfl trivial ?_
  refine lm_ind (α := (Nat → Fn)) (St := fun (j : Nat) zz => (fun (M1 : Nat → Fn) => lm_G X (d + 2) 42 106 0 0 2 [some (.ref 1), some (.int (nI j))] [] (lm_T M1 v G) Q) zz) (Inv := fun (j : Nat) zz => (fun (M1 : Nat → Fn) => RT M1 T (ntP T j p) ∧ (ntP T j p) ≤ tN T ∧ FrR M M1 ∧ (∀ i, i < j → isWd T (ntP T i p) w13 = true)) zz) (6) (fun j zz hj hI ih => ?_) (fun zz hI => ?_) (0) M (by omega) ?_
  ·
    revert ih hI
    revert zz
    intro M1 hI ih
    replace hI : RT M1 T (ntP T j p) ∧ (ntP T j p) ≤ tN T ∧ FrR M M1 ∧ (∀ i, i < j → isWd T (ntP T i p) w13 = true) := hI
    replace ih : ∀ (M1 : Nat → Fn) (_ : RT M1 T (ntP T (j + 1) p) ∧ (ntP T (j + 1) p) ≤ tN T ∧ FrR M M1 ∧ (∀ i, i < (j + 1) → isWd T (ntP T i p) w13 = true)), lm_G X (d + 2) 42 106 0 0 2 [some (.ref 1), some (.int (nI (j + 1)))] [] (lm_T M1 v G) Q := fun M1 q => ih M1 q
    show lm_G X (d + 2) 42 106 0 0 2 [some (.ref 1), some (.int (nI j))] [] (lm_T M1 v G) Q
    obtain ⟨t1, l1, f1, y1⟩ := hI
    refine lm_G_sg 2 (pc' := 5) (L' := [some (.ref 1), some (.int (nI j))]) (S' := [.int 6, .int (nI j)]) (σ' := lm_T M1 v G) rfl trivial ?_
    refine lm_G_br (b := 6 ≤ (nI j)) (t := 29) (S' := []) rfl (fun hc => absurd hc (nI_ge (b := 6) hj (by omega))) (fun hc => ?_)
    refine lm_G_sg 2 (pc' := 11) (L' := [some (.ref 1), some (.int (nI j))]) (S' := [.ref 1013, .ref 1]) (σ' := lm_T M1 v G) rfl trivial ?_
    refine lm_G_ca (j := 30) (as := [.ref 1, .ref 1013]) (rest := []) rfl (Or.inl rfl) (Nat.le_of_ble_eq_true rfl) (Nat.le_of_ble_eq_true rfl) (Nat.le_of_ble_eq_true rfl) (Nat.le_of_ble_eq_true rfl) rfl ?_
    refine c_isWord13 hT t1 l1 ?_
    show lm_G X (d + 2) 42 106 0 0 14 [some (.ref 1), some (.int (nI j))] [.int (b2i (isWd T (ntP T j p) w13))] (lm_T M1 v G) Q
    refine lm_G_br (b := ¬ (b2i (isWd T (ntP T j p) w13)) = 0) (t := 19) (S' := []) rfl (fun g1 => ?_) (fun g1 => ?_)
    rotate_left
    ·
      have e0 := b2i_0 (Classical.not_not.mp g1)
      have n6 := nt_s j p e0 (6 - j)
      rw [show j + (6 - j) = 6 by omega] at n6
      have ek : nkI T p = j := by unfold nkI; rw [n6.1, e0, n6.2, nt_n j y1]; rfl
      rw [ek, n6.1] at hQ
      refine lm_G_sg 1 (pc' := 18) (L' := [some (.ref 1), some (.int (nI j))]) (S' := [.int (nI j)]) (σ' := lm_T M1 v G) rfl trivial ?_
      exact lm_G_re rfl trivial (Nat.zero_le _) (Nat.zero_le _) (hQ _ t1 f1)
    ·
      have y2 : ∀ i, i < j + 1 → isWd T (ntP T i p) w13 = true := fun i hi => if e : i = j then (by rw [e]; exact b2i_1 g1) else y1 i (by omega)
      have ep := nt_p y2
      refine lm_G_sg 1 (pc' := 20) (L' := [some (.ref 1), some (.int (nI j))]) (S' := [.ref 1]) (σ' := lm_T M1 v G) rfl trivial ?_
      refine lm_G_ca (j := 26) (as := [.ref 1]) (rest := []) rfl (Or.inl rfl) (Nat.le_of_ble_eq_true rfl) (Nat.le_of_ble_eq_true rfl) (Nat.le_of_ble_eq_true rfl) (Nat.le_of_ble_eq_true rfl) rfl ?_
      refine c_nextToken hT t1.1 (en_le l1).2.1 t1.2.2.2.1 (fun M2 t2 f2 => ?_)
      show lm_G X (d + 2) 42 106 0 0 23 [some (.ref 1), some (.int (nI j))] [] (lm_T M2 v G) Q
      rw [← ep] at t2
      refine lm_G_sg 1 (pc' := 26) (L' := [some (.ref 1), some (.int ((nI j) + 1))]) (S' := []) (σ' := lm_T M2 v G) rfl trivial ?_
      rw [nI_1]
      refine lm_G_sg 1 (pc' := 2) (L' := [some (.ref 1), some (.int (nI (j + 1)))]) (S' := []) (σ' := lm_T M2 v G) rfl trivial ?_
      exact ih _ (⟨t2, by rw [ep]; exact (en_le l1).2.1, FrR_tr f1 f2, y2⟩)
  ·
    revert hI
    revert zz
    intro M1 hI
    replace hI : RT M1 T (ntP T 6 p) ∧ (ntP T 6 p) ≤ tN T ∧ FrR M M1 ∧ (∀ i, i < 6 → isWd T (ntP T i p) w13 = true) := hI
    show lm_G X (d + 2) 42 106 0 0 2 [some (.ref 1), some (.int (nI 6))] [] (lm_T M1 v G) Q
    obtain ⟨t1, l1, f1, y1⟩ := hI
    refine lm_G_sg 2 (pc' := 5) (L' := [some (.ref 1), some (.int (nI 6))]) (S' := [.int 6, .int (nI 6)]) (σ' := lm_T M1 v G) rfl trivial ?_
    refine lm_G_br (b := 6 ≤ (nI 6)) (t := 29) (S' := []) rfl (fun hc => ?_) (fun hc => absurd (nI_le (a := 6) (Nat.le_refl _) (by omega)) hc)
    refine lm_G_sg 2 (pc' := 32) (L' := [some (.ref 1), some (.int (nI 6))]) (S' := [.ref 1013, .ref 1]) (σ' := lm_T M1 v G) rfl trivial ?_
    refine lm_G_ca (j := 30) (as := [.ref 1, .ref 1013]) (rest := []) rfl (Or.inl rfl) (Nat.le_of_ble_eq_true rfl) (Nat.le_of_ble_eq_true rfl) (Nat.le_of_ble_eq_true rfl) (Nat.le_of_ble_eq_true rfl) rfl ?_
    refine c_isWord13 hT t1 l1 ?_
    show lm_G X (d + 2) 42 106 0 0 35 [some (.ref 1), some (.int (nI 6))] [.int (b2i (isWd T (ntP T 6 p) w13))] (lm_T M1 v G) Q
    refine lm_G_br (b := (b2i (isWd T (ntP T 6 p) w13)) = 0) (t := 43) (S' := []) rfl (fun g1 => ?_) (fun g1 => ?_)
    ·
      rw [show nkI T p = 6 from by unfold nkI; rw [b2i_0 g1, nt_n 6 y1]; rfl] at hQ
      refine lm_G_sg 1 (pc' := 45) (L' := [some (.ref 1), some (.int (nI 6))]) (S' := [.int 6]) (σ' := lm_T M1 v G) rfl trivial ?_
      exact lm_G_re rfl trivial (Nat.zero_le _) (Nat.zero_le _) (hQ _ t1 f1)
    ·
      rw [show nkI T p = 7 from by unfold nkI; rw [b2i_1 g1]; rfl] at hQ
      refine lm_G_sg 2 (pc' := 45) (L' := [some (.ref 1), some (.int (nI 6))]) (S' := [.int 7]) (σ' := lm_T M1 v G) rfl trivial ?_
      exact lm_G_re rfl trivial (Nat.zero_le _) (Nat.zero_le _) (hQ _ t1 f1)
  ·
    try dsimp only
    exact ⟨ht, hp, FrR_rf _, fun i hi => absurd hi (Nat.not_lt_zero i)⟩
theorem ntN_le {T : Tx} : ∀ f p, ntN T f p ≤ f
  | 0, _ => Nat.le_refl _
  | f + 1, p => by
    simp only [ntN]
    split
    · have := ntN_le (T := T) f (enS T p)
      omega
    · omega
set_option maxRecDepth 10000 in
theorem c_lv0 {X : lm_X} {T : Tx} {J : Bool} {h w : Nat} {sub : Nat → PR} (hT : okT T) (hL : okL T sub) (hsub : ∀ d, CQ X T J (d + (h + 2)) 41 [.ref 1, .int 1, .int (nI w)] sub) : ∀ d, CQ X T J (d + (h + 3)) 41 [.ref 1, .int 0, .int (nI w)] (lvl T 0 sub) := by
  intro d v M G Q p K ht hp h5 hk hkl hok her
  show lm_G X (d + (h + 3)) 41 106 0 0 0 [some (.ref 1), some (.int 0), some (.int (nI w)), none, none, none, none] [] (lm_T M v G) Q
  have hn := hT.1
  refine lm_G_sg 2 (pc' := 2) (L' := [some (.ref 1), some (.int 0), some (.int (nI w)), none, none, none, none]) (S' := [.int 5, .int 0]) (σ' := lm_T M v G) rfl trivial ?_
  refine lm_G_br (b := 0 < 5) (t := 11) (S' := []) rfl (fun hc => ?_) (fun hc => absurd (by decide) hc)
  refine lm_G_sg 2 (pc' := 13) (L' := [some (.ref 1), some (.int 0), some (.int (nI w)), none, none, none, none]) (S' := [.int 2, .int 0]) (σ' := lm_T M v G) rfl trivial ?_
  refine lm_G_br (b := ¬ 0 = 2) (t := 23) (S' := []) rfl (fun hc => ?_) (fun hc => absurd (Classical.not_not.mp hc) (by decide))
  refine lm_G_sg 4 (pc' := 28) (L' := [some (.ref 1), some (.int 0), some (.int (nI w)), some (.int 0), none, none, none]) (S' := [.int 6, .int 0]) (σ' := lm_T M v G) rfl trivial ?_
  refine lm_G_br (b := 0 ≤ 6) (t := 37) (S' := []) rfl (fun hc => ?_) (fun hc => absurd (by decide) hc)
  refine lm_G_sg 4 (pc' := 41) (L' := [some (.ref 1), some (.int 0), some (.int (nI w)), some (.int 0), none, none, none]) (S' := [.int (0 + 1), .ref 1]) (σ' := lm_T M v G) rfl trivial ?_
  rw [show (0 : Int32) + 1 = 1 from by decide]
  refine lm_G_sg 1 (pc' := 42) (L' := [some (.ref 1), some (.int 0), some (.int (nI w)), some (.int 0), none, none, none]) (S' := [.int (nI w), .int 1, .ref 1]) (σ' := lm_T M v G) rfl trivial ?_
  refine lm_G_ca (j := 41) (as := [.ref 1, .int 1, .int (nI w)]) (rest := []) rfl (Or.inl rfl) (Nat.le_of_ble_eq_true rfl) (Nat.le_of_ble_eq_true rfl) (Nat.le_of_ble_eq_true rfl) (Nat.le_of_ble_eq_true rfl) rfl ?_
  refine hsub d v M G _ (p) (K) ht hp h5 hk (by omega) (fun r2 c2 er2 M2 t2 k2 e2 => ?_) (fun e a er2 M2 b2 e2 => ?_)
  ·
    show lm_G X (d + (h + 3)) 41 106 0 0 45 [some (.ref 1), some (.int 0), some (.int (nI w)), some (.int 0), none, none, none] [.int 1] (lm_T M2 v G) Q
    obtain ⟨o1, o2, o3⟩ := hL _ _ _ hp er2
    have E2 := FrE_tr (FrE_rf _) e2
    refine lm_G_br (b := ¬ 1 = 0) (t := 50) (S' := []) rfl (fun g3 => ?_) (fun g3 => absurd (Classical.not_not.mp g3) (by decide))
    refine lm_G_sg 2 (pc' := 52) (L' := [some (.ref 1), some (.int 0), some (.int (nI w)), some (.int 0), none, none, none]) (S' := [.int 2, .int 0]) (σ' := lm_T M2 v G) rfl trivial ?_
    refine lm_G_br (b := ¬ 0 = 2) (t := 59) (S' := []) rfl (fun hc => ?_) (fun hc => absurd (Classical.not_not.mp hc) (by decide))
    refine lm_G_sg 4 (pc' := 67) (L' := [some (.ref 1), some (.int 0), some (.int (nI w)), some (.int 0), some (.int 700), some (.int 0), none]) (S' := []) (σ' := lm_T M2 v G) rfl trivial ?_
    have k121 : ∀ (M3 : Nat → Fn) (u : Nat) (c : Cd) (t3 : RT M3 T u) (l3 : u ≤ tN T) (k3 : CCode M3 (K ++ c)) (kl3 : (K ++ c).length ≤ u) (E3 : FrE M M3) (eR : lvl T 0 sub p = .inl (u, c)), lm_G X (d + (h + 3)) 41 106 0 0 121 [some (.ref 1), some (.int 0), some (.int (nI w)), some (.int 0), some (.int 700), none, none] [] (lm_T M3 v G) Q := by
      intro M3 u c t3 l3 k3 kl3 E3 eR
      refine lm_G_sg 2 (pc' := 124) (L' := [some (.ref 1), some (.int 0), some (.int (nI w)), some (.int 0), some (.int 700), some (.int 0), none]) (S' := []) (σ' := lm_T M3 v G) rfl trivial ?_
      refine lm_G_sg 2 (pc' := 127) (L' := [some (.ref 1), some (.int 0), some (.int (nI w)), some (.int 0), some (.int 700), some (.int 0), none]) (S' := [.int 0, .int 0]) (σ' := lm_T M3 v G) rfl trivial ?_
      refine lm_G_br (b := 0 ≤ 0) (t := 145) (S' := []) rfl (fun hc => ?_) (fun hc => absurd (by decide) hc)
      refine lm_G_sg 1 (pc' := 146) (L' := [some (.ref 1), some (.int 0), some (.int (nI w)), some (.int 0), some (.int 700), some (.int 0), none]) (S' := [.int 1]) (σ' := lm_T M3 v G) rfl trivial ?_
      exact lm_G_re rfl (by decide) (Nat.zero_le _) (Nat.zero_le _) (hok _ _ eR _ t3 k3 E3)
    refine lm_ind (α := (Nat → Fn) × Nat × Cd) (St := fun (j : Nat) zz => (fun (M3 : Nat → Fn) (u : Nat) (c : Cd) => lm_G X (d + (h + 3)) 41 106 0 0 67 [some (.ref 1), some (.int 0), some (.int (nI w)), some (.int 0), some (.int 700), some (.int (nI j)), none] [] (lm_T M3 v G) Q) zz.1 zz.2.1 zz.2.2) (Inv := fun (j : Nat) zz => (fun (M3 : Nat → Fn) (u : Nat) (c : Cd) => RT M3 T u ∧ u ≤ tN T ∧ CCode M3 (K ++ c) ∧ (K ++ c).length ≤ u ∧ FrE M M3 ∧ chn T 0 sub (700 - j) u c = lvl T 0 sub p) zz.1 zz.2.1 zz.2.2) (700) (fun j zz hj hI ih => ?_) (fun zz hI => ?_) (0) (M2, r2, c2) (by omega) ?_
    ·
      obtain ⟨M3, u, c⟩ := zz
      replace hI : RT M3 T u ∧ u ≤ tN T ∧ CCode M3 (K ++ c) ∧ (K ++ c).length ≤ u ∧ FrE M M3 ∧ chn T 0 sub (700 - j) u c = lvl T 0 sub p := hI
      replace ih : ∀ (M3 : Nat → Fn) (u : Nat) (c : Cd) (_ : RT M3 T u ∧ u ≤ tN T ∧ CCode M3 (K ++ c) ∧ (K ++ c).length ≤ u ∧ FrE M M3 ∧ chn T 0 sub (700 - (j + 1)) u c = lvl T 0 sub p), lm_G X (d + (h + 3)) 41 106 0 0 67 [some (.ref 1), some (.int 0), some (.int (nI w)), some (.int 0), some (.int 700), some (.int (nI (j + 1))), none] [] (lm_T M3 v G) Q := fun M3 u c q => ih (M3, u, c) q
      show lm_G X (d + (h + 3)) 41 106 0 0 67 [some (.ref 1), some (.int 0), some (.int (nI w)), some (.int 0), some (.int 700), some (.int (nI j)), none] [] (lm_T M3 v G) Q
      obtain ⟨t3, l3, k3, kl3, E3, eR⟩ := hI
      have h53 : M3 1 5 = b2i J := (E3.2.1 5 (by omega)).trans h5
      refine lm_G_sg 2 (pc' := 71) (L' := [some (.ref 1), some (.int 0), some (.int (nI w)), some (.int 0), some (.int 700), some (.int (nI j)), none]) (S' := [.int 700, .int (nI j)]) (σ' := lm_T M3 v G) rfl trivial ?_
      refine lm_G_br (b := 700 ≤ (nI j)) (t := 121) (S' := []) rfl (fun hc => absurd hc (nI_ge (b := 700) hj (by omega))) (fun hc => ?_)
      refine lm_G_sg 2 (pc' := 76) (L' := [some (.ref 1), some (.int 0), some (.int (nI w)), some (.int 0), some (.int 700), some (.int (nI j)), none]) (S' := [.int 0, .ref 1]) (σ' := lm_T M3 v G) rfl trivial ?_
      refine lm_G_ca (j := 43) (as := [.ref 1, .int 0]) (rest := []) rfl (Or.inl rfl) (Nat.le_of_ble_eq_true rfl) (Nat.le_of_ble_eq_true rfl) (Nat.le_of_ble_eq_true rfl) (Nat.le_of_ble_eq_true rfl) rfl ?_
      refine c_op0 hT t3 l3 ?_
      show lm_G X (d + (h + 3)) 41 106 0 0 79 [some (.ref 1), some (.int 0), some (.int (nI w)), some (.int 0), some (.int 700), some (.int (nI j)), none] [.int (opI T 0 u)] (lm_T M3 v G) Q
      refine lm_G_br (b := (opI T 0 u) = 0) (t := 121) (S' := []) rfl (fun g5 => ?_) (fun g5 => ?_)
      ·
        refine lm_G_jk (L := [some (.ref 1), some (.int 0), some (.int (nI w)), some (.int 0), some (.int 700), none, none]) ⟨rfl, rfl, rfl, rfl, rfl, rfl, trivial⟩ ?_
        exact k121 _ _ _ t3 l3 k3 kl3 E3 (by rw [← eR]; exact chn_9 (opI_0.mp g5))
      ·
        have h9 : ¬ opS T 0 u = 9 := fun w => g5 (opI_0.mpr w)
        have hg := en_gt l3 (op_kn h9)
        have hl := (en_le l3).2.1
        have ef : 700 - j = (700 - (j + 1)) + 1 := by omega
        rw [ef] at eR
        refine lm_G_sg 2 (pc' := 84) (L' := [some (.ref 1), some (.int 0), some (.int (nI w)), some (.int 0), some (.int 700), some (.int (nI j)), none]) (S' := [.int 0, .ref 1]) (σ' := lm_T M3 v G) rfl trivial ?_
        refine lm_G_ca (j := 43) (as := [.ref 1, .int 0]) (rest := []) rfl (Or.inl rfl) (Nat.le_of_ble_eq_true rfl) (Nat.le_of_ble_eq_true rfl) (Nat.le_of_ble_eq_true rfl) (Nat.le_of_ble_eq_true rfl) rfl ?_
        refine c_op0 hT t3 l3 ?_
        show lm_G X (d + (h + 3)) 41 106 0 0 87 [some (.ref 1), some (.int 0), some (.int (nI w)), some (.int 0), some (.int 700), some (.int (nI j)), none] [.int (opI T 0 u)] (lm_T M3 v G) Q
        rw [show opI T 0 u = encC (2, opS T 0 u) from if_neg h9]
        refine lm_G_sg 2 (pc' := 90) (L' := [some (.ref 1), some (.int 0), some (.int (nI w)), some (.int 0), some (.int 700), some (.int (nI j)), some (.int (encC (2, opS T 0 u)))]) (S' := [.ref 1]) (σ' := lm_T M3 v G) rfl trivial ?_
        refine lm_G_ca (j := 26) (as := [.ref 1]) (rest := []) rfl (Or.inl rfl) (Nat.le_of_ble_eq_true rfl) (Nat.le_of_ble_eq_true rfl) (Nat.le_of_ble_eq_true rfl) (Nat.le_of_ble_eq_true rfl) rfl ?_
        refine c_nextToken hT t3.1 hl t3.2.2.2.1 (fun M4 t4 f4 => ?_)
        show lm_G X (d + (h + 3)) 41 106 0 0 93 [some (.ref 1), some (.int 0), some (.int (nI w)), some (.int 0), some (.int 700), some (.int (nI j)), some (.int (encC (2, opS T 0 u)))] [] (lm_T M4 v G) Q
        have k4 := CC_R k3 f4
        have E4 := FrE_tr E3 (FrE_R f4)
        have h54 : M4 1 5 = b2i J := (E4.2.1 5 (by omega)).trans h5
        refine lm_G_sg 4 (pc' := 97) (L' := [some (.ref 1), some (.int 0), some (.int (nI w)), some (.int 0), some (.int 700), some (.int (nI j)), some (.int (encC (2, opS T 0 u)))]) (S' := [.int (0 + 1), .ref 1]) (σ' := lm_T M4 v G) rfl trivial ?_
        rw [show (0 : Int32) + 1 = 1 from by decide]
        refine lm_G_sg 1 (pc' := 98) (L' := [some (.ref 1), some (.int 0), some (.int (nI w)), some (.int 0), some (.int 700), some (.int (nI j)), some (.int (encC (2, opS T 0 u)))]) (S' := [.int (nI w), .int 1, .ref 1]) (σ' := lm_T M4 v G) rfl trivial ?_
        refine lm_G_ca (j := 41) (as := [.ref 1, .int 1, .int (nI w)]) (rest := []) rfl (Or.inl rfl) (Nat.le_of_ble_eq_true rfl) (Nat.le_of_ble_eq_true rfl) (Nat.le_of_ble_eq_true rfl) (Nat.le_of_ble_eq_true rfl) rfl ?_
        refine hsub d v M4 G _ (enS T u) (K ++ c) t4 hl h54 k4 (by omega) (fun r6 c6 er6 M6 t6 k6 e6 => ?_) (fun e a er6 M6 b6 e6 => ?_)
        ·
          show lm_G X (d + (h + 3)) 41 106 0 0 101 [some (.ref 1), some (.int 0), some (.int (nI w)), some (.int 0), some (.int 700), some (.int (nI j)), some (.int (encC (2, opS T 0 u)))] [.int 1] (lm_T M6 v G) Q
          obtain ⟨p1, p2, p3⟩ := hL _ _ _ hl er6
          rw [chn_i h9 er6] at eR
          refine lm_G_br (b := ¬ 1 = 0) (t := 106) (S' := []) rfl (fun g6 => ?_) (fun g6 => absurd (Classical.not_not.mp g6) (by decide))
          refine lm_G_sg 3 (pc' := 112) (L' := [some (.ref 1), some (.int 0), some (.int (nI w)), some (.int 0), some (.int 700), some (.int (nI j)), some (.int (encC (2, opS T 0 u)))]) (S' := [.int (encC (2, opS T 0 u)), .ref 3]) (σ' := lm_T M6 v G) rfl trivial ?_
          refine lm_G_ca (j := 12) (as := [.ref 3, .int (encC (2, opS T 0 u))]) (rest := []) rfl (Or.inl rfl) (Nat.le_of_ble_eq_true rfl) (Nat.le_of_ble_eq_true rfl) (Nat.le_of_ble_eq_true rfl) (Nat.le_of_ble_eq_true rfl) rfl ?_
          refine c_addCode (x := (2, opS T 0 u)) k6 (by simp only [List.length_append] at kl3 ⊢; omega) (fun M7 k7 e7 r7 => ?_)
          show lm_G X (d + (h + 3)) 41 106 0 0 115 [some (.ref 1), some (.int 0), some (.int (nI w)), some (.int 0), some (.int 700), some (.int (nI j)), some (.int (encC (2, opS T 0 u)))] [] (lm_T M7 v G) Q
          have t7 : RT M7 T r6 := by
            obtain ⟨q1, q2, q3, q4, q5⟩ := t6
            refine ⟨⟨by rw [r7]; exact q1.1, by rw [e7.1 2 rfl]; exact q1.2⟩, ?_⟩
            rw [r7]
            exact ⟨q2, q3, q4, q5⟩
          rw [List.append_assoc, List.append_assoc, ← List.append_assoc c] at k7
          refine lm_G_sg 1 (pc' := 118) (L' := [some (.ref 1), some (.int 0), some (.int (nI w)), some (.int 0), some (.int 700), some (.int ((nI j) + 1)), some (.int (encC (2, opS T 0 u)))]) (S' := []) (σ' := lm_T M7 v G) rfl trivial ?_
          rw [nI_1]
          refine lm_G_sg 1 (pc' := 67) (L' := [some (.ref 1), some (.int 0), some (.int (nI w)), some (.int 0), some (.int 700), some (.int (nI (j + 1))), some (.int (encC (2, opS T 0 u)))]) (S' := []) (σ' := lm_T M7 v G) rfl trivial ?_
          refine lm_G_jk (L := [some (.ref 1), some (.int 0), some (.int (nI w)), some (.int 0), some (.int 700), some (.int (nI (j + 1))), none]) ⟨rfl, rfl, rfl, rfl, rfl, rfl, trivial⟩ ?_
          exact ih _ _ _ (⟨t7, p2, k7, by simp only [List.length_append, List.length_cons, List.length_nil] at kl3 ⊢; omega, FrE_tr (FrE_tr E4 e6) e7, eR⟩)
        ·
          show lm_G X (d + (h + 3)) 41 106 0 0 101 [some (.ref 1), some (.int 0), some (.int (nI w)), some (.int 0), some (.int 700), some (.int (nI j)), some (.int (encC (2, opS T 0 u)))] [.int 0] (lm_T M6 v G) Q
          refine lm_G_br (b := ¬ 0 = 0) (t := 106) (S' := []) rfl (fun g6 => absurd rfl g6) (fun g6 => ?_)
          refine lm_G_sg 1 (pc' := 105) (L' := [some (.ref 1), some (.int 0), some (.int (nI w)), some (.int 0), some (.int 700), some (.int (nI j)), some (.int (encC (2, opS T 0 u)))]) (S' := [.int 0]) (σ' := lm_T M6 v G) rfl trivial ?_
          exact lm_G_re rfl (by decide) (Nat.zero_le _) (Nat.zero_le _) (her _ _ ((by rw [← eR]; exact chn_r h9 er6)) _ b6 (FrEx_l E4 e6))
    ·
      obtain ⟨M3, u, c⟩ := zz
      replace hI : RT M3 T u ∧ u ≤ tN T ∧ CCode M3 (K ++ c) ∧ (K ++ c).length ≤ u ∧ FrE M M3 ∧ chn T 0 sub (700 - 700) u c = lvl T 0 sub p := hI
      show lm_G X (d + (h + 3)) 41 106 0 0 67 [some (.ref 1), some (.int 0), some (.int (nI w)), some (.int 0), some (.int 700), some (.int (nI 700)), none] [] (lm_T M3 v G) Q
      obtain ⟨t3, l3, k3, kl3, E3, eR⟩ := hI
      rw [Nat.sub_self] at eR
      refine lm_G_sg 2 (pc' := 71) (L' := [some (.ref 1), some (.int 0), some (.int (nI w)), some (.int 0), some (.int 700), some (.int (nI 700)), none]) (S' := [.int 700, .int (nI 700)]) (σ' := lm_T M3 v G) rfl trivial ?_
      refine lm_G_br (b := 700 ≤ (nI 700)) (t := 121) (S' := []) rfl (fun hc => ?_) (fun hc => absurd (nI_le (a := 700) (Nat.le_refl _) (by omega)) hc)
      refine lm_G_jk (L := [some (.ref 1), some (.int 0), some (.int (nI w)), some (.int 0), some (.int 700), none, none]) ⟨rfl, rfl, rfl, rfl, rfl, rfl, trivial⟩ ?_
      exact k121 _ _ _ t3 l3 k3 kl3 E3 eR.symm
    ·
      try dsimp only
      exact ⟨t2, o2, k2, by simp only [List.length_append]; omega, E2, by rw [lvl_i er2]; rfl⟩
  ·
    show lm_G X (d + (h + 3)) 41 106 0 0 45 [some (.ref 1), some (.int 0), some (.int (nI w)), some (.int 0), none, none, none] [.int 0] (lm_T M2 v G) Q
    refine lm_G_br (b := ¬ 0 = 0) (t := 50) (S' := []) rfl (fun g3 => absurd rfl g3) (fun g3 => ?_)
    refine lm_G_sg 1 (pc' := 49) (L' := [some (.ref 1), some (.int 0), some (.int (nI w)), some (.int 0), none, none, none]) (S' := [.int 0]) (σ' := lm_T M2 v G) rfl trivial ?_
    exact lm_G_re rfl (by decide) (Nat.zero_le _) (Nat.zero_le _) (her _ _ (lvl_r er2) _ b2 (FrEx_l (FrE_rf _) e2))
set_option maxRecDepth 10000 in
theorem c_lv1 {X : lm_X} {T : Tx} {J : Bool} {h w : Nat} {sub : Nat → PR} (hT : okT T) (hL : okL T sub) (hsub : ∀ d, CQ X T J (d + (h + 2)) 41 [.ref 1, .int 2, .int (nI w)] sub) : ∀ d, CQ X T J (d + (h + 3)) 41 [.ref 1, .int 1, .int (nI w)] (lvl T 1 sub) := by
  intro d v M G Q p K ht hp h5 hk hkl hok her
  show lm_G X (d + (h + 3)) 41 106 0 0 0 [some (.ref 1), some (.int 1), some (.int (nI w)), none, none, none, none] [] (lm_T M v G) Q
  have hn := hT.1
  refine lm_G_sg 2 (pc' := 2) (L' := [some (.ref 1), some (.int 1), some (.int (nI w)), none, none, none, none]) (S' := [.int 5, .int 1]) (σ' := lm_T M v G) rfl trivial ?_
  refine lm_G_br (b := 1 < 5) (t := 11) (S' := []) rfl (fun hc => ?_) (fun hc => absurd (by decide) hc)
  refine lm_G_sg 2 (pc' := 13) (L' := [some (.ref 1), some (.int 1), some (.int (nI w)), none, none, none, none]) (S' := [.int 2, .int 1]) (σ' := lm_T M v G) rfl trivial ?_
  refine lm_G_br (b := ¬ 1 = 2) (t := 23) (S' := []) rfl (fun hc => ?_) (fun hc => absurd (Classical.not_not.mp hc) (by decide))
  refine lm_G_sg 4 (pc' := 28) (L' := [some (.ref 1), some (.int 1), some (.int (nI w)), some (.int 0), none, none, none]) (S' := [.int 6, .int 0]) (σ' := lm_T M v G) rfl trivial ?_
  refine lm_G_br (b := 0 ≤ 6) (t := 37) (S' := []) rfl (fun hc => ?_) (fun hc => absurd (by decide) hc)
  refine lm_G_sg 4 (pc' := 41) (L' := [some (.ref 1), some (.int 1), some (.int (nI w)), some (.int 0), none, none, none]) (S' := [.int (1 + 1), .ref 1]) (σ' := lm_T M v G) rfl trivial ?_
  rw [show (1 : Int32) + 1 = 2 from by decide]
  refine lm_G_sg 1 (pc' := 42) (L' := [some (.ref 1), some (.int 1), some (.int (nI w)), some (.int 0), none, none, none]) (S' := [.int (nI w), .int 2, .ref 1]) (σ' := lm_T M v G) rfl trivial ?_
  refine lm_G_ca (j := 41) (as := [.ref 1, .int 2, .int (nI w)]) (rest := []) rfl (Or.inl rfl) (Nat.le_of_ble_eq_true rfl) (Nat.le_of_ble_eq_true rfl) (Nat.le_of_ble_eq_true rfl) (Nat.le_of_ble_eq_true rfl) rfl ?_
  refine hsub d v M G _ (p) (K) ht hp h5 hk (by omega) (fun r2 c2 er2 M2 t2 k2 e2 => ?_) (fun e a er2 M2 b2 e2 => ?_)
  ·
    show lm_G X (d + (h + 3)) 41 106 0 0 45 [some (.ref 1), some (.int 1), some (.int (nI w)), some (.int 0), none, none, none] [.int 1] (lm_T M2 v G) Q
    obtain ⟨o1, o2, o3⟩ := hL _ _ _ hp er2
    have E2 := FrE_tr (FrE_rf _) e2
    refine lm_G_br (b := ¬ 1 = 0) (t := 50) (S' := []) rfl (fun g3 => ?_) (fun g3 => absurd (Classical.not_not.mp g3) (by decide))
    refine lm_G_sg 2 (pc' := 52) (L' := [some (.ref 1), some (.int 1), some (.int (nI w)), some (.int 0), none, none, none]) (S' := [.int 2, .int 1]) (σ' := lm_T M2 v G) rfl trivial ?_
    refine lm_G_br (b := ¬ 1 = 2) (t := 59) (S' := []) rfl (fun hc => ?_) (fun hc => absurd (Classical.not_not.mp hc) (by decide))
    refine lm_G_sg 4 (pc' := 67) (L' := [some (.ref 1), some (.int 1), some (.int (nI w)), some (.int 0), some (.int 700), some (.int 0), none]) (S' := []) (σ' := lm_T M2 v G) rfl trivial ?_
    have k121 : ∀ (M3 : Nat → Fn) (u : Nat) (c : Cd) (t3 : RT M3 T u) (l3 : u ≤ tN T) (k3 : CCode M3 (K ++ c)) (kl3 : (K ++ c).length ≤ u) (E3 : FrE M M3) (eR : lvl T 1 sub p = .inl (u, c)), lm_G X (d + (h + 3)) 41 106 0 0 121 [some (.ref 1), some (.int 1), some (.int (nI w)), some (.int 0), some (.int 700), none, none] [] (lm_T M3 v G) Q := by
      intro M3 u c t3 l3 k3 kl3 E3 eR
      refine lm_G_sg 2 (pc' := 124) (L' := [some (.ref 1), some (.int 1), some (.int (nI w)), some (.int 0), some (.int 700), some (.int 0), none]) (S' := []) (σ' := lm_T M3 v G) rfl trivial ?_
      refine lm_G_sg 2 (pc' := 127) (L' := [some (.ref 1), some (.int 1), some (.int (nI w)), some (.int 0), some (.int 700), some (.int 0), none]) (S' := [.int 0, .int 0]) (σ' := lm_T M3 v G) rfl trivial ?_
      refine lm_G_br (b := 0 ≤ 0) (t := 145) (S' := []) rfl (fun hc => ?_) (fun hc => absurd (by decide) hc)
      refine lm_G_sg 1 (pc' := 146) (L' := [some (.ref 1), some (.int 1), some (.int (nI w)), some (.int 0), some (.int 700), some (.int 0), none]) (S' := [.int 1]) (σ' := lm_T M3 v G) rfl trivial ?_
      exact lm_G_re rfl (by decide) (Nat.zero_le _) (Nat.zero_le _) (hok _ _ eR _ t3 k3 E3)
    refine lm_ind (α := (Nat → Fn) × Nat × Cd) (St := fun (j : Nat) zz => (fun (M3 : Nat → Fn) (u : Nat) (c : Cd) => lm_G X (d + (h + 3)) 41 106 0 0 67 [some (.ref 1), some (.int 1), some (.int (nI w)), some (.int 0), some (.int 700), some (.int (nI j)), none] [] (lm_T M3 v G) Q) zz.1 zz.2.1 zz.2.2) (Inv := fun (j : Nat) zz => (fun (M3 : Nat → Fn) (u : Nat) (c : Cd) => RT M3 T u ∧ u ≤ tN T ∧ CCode M3 (K ++ c) ∧ (K ++ c).length ≤ u ∧ FrE M M3 ∧ chn T 1 sub (700 - j) u c = lvl T 1 sub p) zz.1 zz.2.1 zz.2.2) (700) (fun j zz hj hI ih => ?_) (fun zz hI => ?_) (0) (M2, r2, c2) (by omega) ?_
    ·
      obtain ⟨M3, u, c⟩ := zz
      replace hI : RT M3 T u ∧ u ≤ tN T ∧ CCode M3 (K ++ c) ∧ (K ++ c).length ≤ u ∧ FrE M M3 ∧ chn T 1 sub (700 - j) u c = lvl T 1 sub p := hI
      replace ih : ∀ (M3 : Nat → Fn) (u : Nat) (c : Cd) (_ : RT M3 T u ∧ u ≤ tN T ∧ CCode M3 (K ++ c) ∧ (K ++ c).length ≤ u ∧ FrE M M3 ∧ chn T 1 sub (700 - (j + 1)) u c = lvl T 1 sub p), lm_G X (d + (h + 3)) 41 106 0 0 67 [some (.ref 1), some (.int 1), some (.int (nI w)), some (.int 0), some (.int 700), some (.int (nI (j + 1))), none] [] (lm_T M3 v G) Q := fun M3 u c q => ih (M3, u, c) q
      show lm_G X (d + (h + 3)) 41 106 0 0 67 [some (.ref 1), some (.int 1), some (.int (nI w)), some (.int 0), some (.int 700), some (.int (nI j)), none] [] (lm_T M3 v G) Q
      obtain ⟨t3, l3, k3, kl3, E3, eR⟩ := hI
      have h53 : M3 1 5 = b2i J := (E3.2.1 5 (by omega)).trans h5
      refine lm_G_sg 2 (pc' := 71) (L' := [some (.ref 1), some (.int 1), some (.int (nI w)), some (.int 0), some (.int 700), some (.int (nI j)), none]) (S' := [.int 700, .int (nI j)]) (σ' := lm_T M3 v G) rfl trivial ?_
      refine lm_G_br (b := 700 ≤ (nI j)) (t := 121) (S' := []) rfl (fun hc => absurd hc (nI_ge (b := 700) hj (by omega))) (fun hc => ?_)
      refine lm_G_sg 2 (pc' := 76) (L' := [some (.ref 1), some (.int 1), some (.int (nI w)), some (.int 0), some (.int 700), some (.int (nI j)), none]) (S' := [.int 1, .ref 1]) (σ' := lm_T M3 v G) rfl trivial ?_
      refine lm_G_ca (j := 43) (as := [.ref 1, .int 1]) (rest := []) rfl (Or.inl rfl) (Nat.le_of_ble_eq_true rfl) (Nat.le_of_ble_eq_true rfl) (Nat.le_of_ble_eq_true rfl) (Nat.le_of_ble_eq_true rfl) rfl ?_
      refine c_op1 hT t3 l3 ?_
      show lm_G X (d + (h + 3)) 41 106 0 0 79 [some (.ref 1), some (.int 1), some (.int (nI w)), some (.int 0), some (.int 700), some (.int (nI j)), none] [.int (opI T 1 u)] (lm_T M3 v G) Q
      refine lm_G_br (b := (opI T 1 u) = 0) (t := 121) (S' := []) rfl (fun g5 => ?_) (fun g5 => ?_)
      ·
        refine lm_G_jk (L := [some (.ref 1), some (.int 1), some (.int (nI w)), some (.int 0), some (.int 700), none, none]) ⟨rfl, rfl, rfl, rfl, rfl, rfl, trivial⟩ ?_
        exact k121 _ _ _ t3 l3 k3 kl3 E3 (by rw [← eR]; exact chn_9 (opI_0.mp g5))
      ·
        have h9 : ¬ opS T 1 u = 9 := fun w => g5 (opI_0.mpr w)
        have hg := en_gt l3 (op_kn h9)
        have hl := (en_le l3).2.1
        have ef : 700 - j = (700 - (j + 1)) + 1 := by omega
        rw [ef] at eR
        refine lm_G_sg 2 (pc' := 84) (L' := [some (.ref 1), some (.int 1), some (.int (nI w)), some (.int 0), some (.int 700), some (.int (nI j)), none]) (S' := [.int 1, .ref 1]) (σ' := lm_T M3 v G) rfl trivial ?_
        refine lm_G_ca (j := 43) (as := [.ref 1, .int 1]) (rest := []) rfl (Or.inl rfl) (Nat.le_of_ble_eq_true rfl) (Nat.le_of_ble_eq_true rfl) (Nat.le_of_ble_eq_true rfl) (Nat.le_of_ble_eq_true rfl) rfl ?_
        refine c_op1 hT t3 l3 ?_
        show lm_G X (d + (h + 3)) 41 106 0 0 87 [some (.ref 1), some (.int 1), some (.int (nI w)), some (.int 0), some (.int 700), some (.int (nI j)), none] [.int (opI T 1 u)] (lm_T M3 v G) Q
        rw [show opI T 1 u = encC (2, opS T 1 u) from if_neg h9]
        refine lm_G_sg 2 (pc' := 90) (L' := [some (.ref 1), some (.int 1), some (.int (nI w)), some (.int 0), some (.int 700), some (.int (nI j)), some (.int (encC (2, opS T 1 u)))]) (S' := [.ref 1]) (σ' := lm_T M3 v G) rfl trivial ?_
        refine lm_G_ca (j := 26) (as := [.ref 1]) (rest := []) rfl (Or.inl rfl) (Nat.le_of_ble_eq_true rfl) (Nat.le_of_ble_eq_true rfl) (Nat.le_of_ble_eq_true rfl) (Nat.le_of_ble_eq_true rfl) rfl ?_
        refine c_nextToken hT t3.1 hl t3.2.2.2.1 (fun M4 t4 f4 => ?_)
        show lm_G X (d + (h + 3)) 41 106 0 0 93 [some (.ref 1), some (.int 1), some (.int (nI w)), some (.int 0), some (.int 700), some (.int (nI j)), some (.int (encC (2, opS T 1 u)))] [] (lm_T M4 v G) Q
        have k4 := CC_R k3 f4
        have E4 := FrE_tr E3 (FrE_R f4)
        have h54 : M4 1 5 = b2i J := (E4.2.1 5 (by omega)).trans h5
        refine lm_G_sg 4 (pc' := 97) (L' := [some (.ref 1), some (.int 1), some (.int (nI w)), some (.int 0), some (.int 700), some (.int (nI j)), some (.int (encC (2, opS T 1 u)))]) (S' := [.int (1 + 1), .ref 1]) (σ' := lm_T M4 v G) rfl trivial ?_
        rw [show (1 : Int32) + 1 = 2 from by decide]
        refine lm_G_sg 1 (pc' := 98) (L' := [some (.ref 1), some (.int 1), some (.int (nI w)), some (.int 0), some (.int 700), some (.int (nI j)), some (.int (encC (2, opS T 1 u)))]) (S' := [.int (nI w), .int 2, .ref 1]) (σ' := lm_T M4 v G) rfl trivial ?_
        refine lm_G_ca (j := 41) (as := [.ref 1, .int 2, .int (nI w)]) (rest := []) rfl (Or.inl rfl) (Nat.le_of_ble_eq_true rfl) (Nat.le_of_ble_eq_true rfl) (Nat.le_of_ble_eq_true rfl) (Nat.le_of_ble_eq_true rfl) rfl ?_
        refine hsub d v M4 G _ (enS T u) (K ++ c) t4 hl h54 k4 (by omega) (fun r6 c6 er6 M6 t6 k6 e6 => ?_) (fun e a er6 M6 b6 e6 => ?_)
        ·
          show lm_G X (d + (h + 3)) 41 106 0 0 101 [some (.ref 1), some (.int 1), some (.int (nI w)), some (.int 0), some (.int 700), some (.int (nI j)), some (.int (encC (2, opS T 1 u)))] [.int 1] (lm_T M6 v G) Q
          obtain ⟨p1, p2, p3⟩ := hL _ _ _ hl er6
          rw [chn_i h9 er6] at eR
          refine lm_G_br (b := ¬ 1 = 0) (t := 106) (S' := []) rfl (fun g6 => ?_) (fun g6 => absurd (Classical.not_not.mp g6) (by decide))
          refine lm_G_sg 3 (pc' := 112) (L' := [some (.ref 1), some (.int 1), some (.int (nI w)), some (.int 0), some (.int 700), some (.int (nI j)), some (.int (encC (2, opS T 1 u)))]) (S' := [.int (encC (2, opS T 1 u)), .ref 3]) (σ' := lm_T M6 v G) rfl trivial ?_
          refine lm_G_ca (j := 12) (as := [.ref 3, .int (encC (2, opS T 1 u))]) (rest := []) rfl (Or.inl rfl) (Nat.le_of_ble_eq_true rfl) (Nat.le_of_ble_eq_true rfl) (Nat.le_of_ble_eq_true rfl) (Nat.le_of_ble_eq_true rfl) rfl ?_
          refine c_addCode (x := (2, opS T 1 u)) k6 (by simp only [List.length_append] at kl3 ⊢; omega) (fun M7 k7 e7 r7 => ?_)
          show lm_G X (d + (h + 3)) 41 106 0 0 115 [some (.ref 1), some (.int 1), some (.int (nI w)), some (.int 0), some (.int 700), some (.int (nI j)), some (.int (encC (2, opS T 1 u)))] [] (lm_T M7 v G) Q
          have t7 : RT M7 T r6 := by
            obtain ⟨q1, q2, q3, q4, q5⟩ := t6
            refine ⟨⟨by rw [r7]; exact q1.1, by rw [e7.1 2 rfl]; exact q1.2⟩, ?_⟩
            rw [r7]
            exact ⟨q2, q3, q4, q5⟩
          rw [List.append_assoc, List.append_assoc, ← List.append_assoc c] at k7
          refine lm_G_sg 1 (pc' := 118) (L' := [some (.ref 1), some (.int 1), some (.int (nI w)), some (.int 0), some (.int 700), some (.int ((nI j) + 1)), some (.int (encC (2, opS T 1 u)))]) (S' := []) (σ' := lm_T M7 v G) rfl trivial ?_
          rw [nI_1]
          refine lm_G_sg 1 (pc' := 67) (L' := [some (.ref 1), some (.int 1), some (.int (nI w)), some (.int 0), some (.int 700), some (.int (nI (j + 1))), some (.int (encC (2, opS T 1 u)))]) (S' := []) (σ' := lm_T M7 v G) rfl trivial ?_
          refine lm_G_jk (L := [some (.ref 1), some (.int 1), some (.int (nI w)), some (.int 0), some (.int 700), some (.int (nI (j + 1))), none]) ⟨rfl, rfl, rfl, rfl, rfl, rfl, trivial⟩ ?_
          exact ih _ _ _ (⟨t7, p2, k7, by simp only [List.length_append, List.length_cons, List.length_nil] at kl3 ⊢; omega, FrE_tr (FrE_tr E4 e6) e7, eR⟩)
        ·
          show lm_G X (d + (h + 3)) 41 106 0 0 101 [some (.ref 1), some (.int 1), some (.int (nI w)), some (.int 0), some (.int 700), some (.int (nI j)), some (.int (encC (2, opS T 1 u)))] [.int 0] (lm_T M6 v G) Q
          refine lm_G_br (b := ¬ 0 = 0) (t := 106) (S' := []) rfl (fun g6 => absurd rfl g6) (fun g6 => ?_)
          refine lm_G_sg 1 (pc' := 105) (L' := [some (.ref 1), some (.int 1), some (.int (nI w)), some (.int 0), some (.int 700), some (.int (nI j)), some (.int (encC (2, opS T 1 u)))]) (S' := [.int 0]) (σ' := lm_T M6 v G) rfl trivial ?_
          exact lm_G_re rfl (by decide) (Nat.zero_le _) (Nat.zero_le _) (her _ _ ((by rw [← eR]; exact chn_r h9 er6)) _ b6 (FrEx_l E4 e6))
    ·
      obtain ⟨M3, u, c⟩ := zz
      replace hI : RT M3 T u ∧ u ≤ tN T ∧ CCode M3 (K ++ c) ∧ (K ++ c).length ≤ u ∧ FrE M M3 ∧ chn T 1 sub (700 - 700) u c = lvl T 1 sub p := hI
      show lm_G X (d + (h + 3)) 41 106 0 0 67 [some (.ref 1), some (.int 1), some (.int (nI w)), some (.int 0), some (.int 700), some (.int (nI 700)), none] [] (lm_T M3 v G) Q
      obtain ⟨t3, l3, k3, kl3, E3, eR⟩ := hI
      rw [Nat.sub_self] at eR
      refine lm_G_sg 2 (pc' := 71) (L' := [some (.ref 1), some (.int 1), some (.int (nI w)), some (.int 0), some (.int 700), some (.int (nI 700)), none]) (S' := [.int 700, .int (nI 700)]) (σ' := lm_T M3 v G) rfl trivial ?_
      refine lm_G_br (b := 700 ≤ (nI 700)) (t := 121) (S' := []) rfl (fun hc => ?_) (fun hc => absurd (nI_le (a := 700) (Nat.le_refl _) (by omega)) hc)
      refine lm_G_jk (L := [some (.ref 1), some (.int 1), some (.int (nI w)), some (.int 0), some (.int 700), none, none]) ⟨rfl, rfl, rfl, rfl, rfl, rfl, trivial⟩ ?_
      exact k121 _ _ _ t3 l3 k3 kl3 E3 eR.symm
    ·
      try dsimp only
      exact ⟨t2, o2, k2, by simp only [List.length_append]; omega, E2, by rw [lvl_i er2]; rfl⟩
  ·
    show lm_G X (d + (h + 3)) 41 106 0 0 45 [some (.ref 1), some (.int 1), some (.int (nI w)), some (.int 0), none, none, none] [.int 0] (lm_T M2 v G) Q
    refine lm_G_br (b := ¬ 0 = 0) (t := 50) (S' := []) rfl (fun g3 => absurd rfl g3) (fun g3 => ?_)
    refine lm_G_sg 1 (pc' := 49) (L' := [some (.ref 1), some (.int 1), some (.int (nI w)), some (.int 0), none, none, none]) (S' := [.int 0]) (σ' := lm_T M2 v G) rfl trivial ?_
    exact lm_G_re rfl (by decide) (Nat.zero_le _) (Nat.zero_le _) (her _ _ (lvl_r er2) _ b2 (FrEx_l (FrE_rf _) e2))
set_option maxRecDepth 10000 in
theorem c_lv2 {X : lm_X} {T : Tx} {J : Bool} {h w : Nat} {sub : Nat → PR} (hT : okT T) (hL : okL T sub) (hsub : ∀ d, CQ X T J (d + (h + 2)) 41 [.ref 1, .int 3, .int (nI w)] sub) : ∀ d, CQ X T J (d + (h + 3)) 41 [.ref 1, .int 2, .int (nI w)] (tst T sub) := by
  intro d v M G Q p K ht hp h5 hk hkl hok her
  show lm_G X (d + (h + 3)) 41 106 0 0 0 [some (.ref 1), some (.int 2), some (.int (nI w)), none, none, none, none] [] (lm_T M v G) Q
  have hn := hT.1
  refine lm_G_sg 2 (pc' := 2) (L' := [some (.ref 1), some (.int 2), some (.int (nI w)), none, none, none, none]) (S' := [.int 5, .int 2]) (σ' := lm_T M v G) rfl trivial ?_
  refine lm_G_br (b := 2 < 5) (t := 11) (S' := []) rfl (fun hc => ?_) (fun hc => absurd (by decide) hc)
  refine lm_G_sg 2 (pc' := 13) (L' := [some (.ref 1), some (.int 2), some (.int (nI w)), none, none, none, none]) (S' := [.int 2, .int 2]) (σ' := lm_T M v G) rfl trivial ?_
  refine lm_G_br (b := ¬ 2 = 2) (t := 23) (S' := []) rfl (fun hc => absurd rfl hc) (fun hc => ?_)
  refine lm_G_sg 1 (pc' := 17) (L' := [some (.ref 1), some (.int 2), some (.int (nI w)), none, none, none, none]) (S' := [.ref 1]) (σ' := lm_T M v G) rfl trivial ?_
  refine lm_G_ca (j := 42) (as := [.ref 1]) (rest := []) rfl (Or.inl rfl) (Nat.le_of_ble_eq_true rfl) (Nat.le_of_ble_eq_true rfl) (Nat.le_of_ble_eq_true rfl) (Nat.le_of_ble_eq_true rfl) rfl ?_
  refine c_skipNots hT ht hp (fun M0 t0 f0 => ?_)
  show lm_G X (d + (h + 3)) 41 106 0 0 20 [some (.ref 1), some (.int 2), some (.int (nI w)), none, none, none, none] [.int (nI (nkI T p))] (lm_T M0 v G) Q
  obtain ⟨n1, n2⟩ := nt_le 6 p hp
  have h50 : M0 1 5 = b2i J := (f0.2 5 (by decide) (by decide) (by decide) (by decide)).trans h5
  have hk0 := CC_R hk f0
  have e0 := FrE_R f0
  refine lm_G_sg 4 (pc' := 28) (L' := [some (.ref 1), some (.int 2), some (.int (nI w)), some (.int (nI (nkI T p))), none, none, none]) (S' := [.int 6, .int (nI (nkI T p))]) (σ' := lm_T M0 v G) rfl trivial ?_
  cases hw13 : isWd T (ntP T 6 p) w13 with
  | true =>
    have e7 : nkI T p = 7 := by unfold nkI; rw [hw13]; rfl
    rw [e7]
    refine lm_G_br (b := (nI 7) ≤ 6) (t := 37) (S' := []) rfl (fun hc => absurd hc (by decide)) (fun hc => ?_)
    refine lm_G_sg 2 (pc' := 33) (L' := [some (.ref 1), some (.int 2), some (.int (nI w)), some (.int (nI 7)), none, none, none]) (S' := [.int 2, .ref 1]) (σ' := lm_T M0 v G) rfl trivial ?_
    refine lm_G_ca (j := 25) (as := [.ref 1, .int 2]) (rest := []) rfl (Or.inl rfl) (Nat.le_of_ble_eq_true rfl) (Nat.le_of_ble_eq_true rfl) (Nat.le_of_ble_eq_true rfl) (Nat.le_of_ble_eq_true rfl) rfl ?_
    refine c_fail ?_
    show lm_G X (d + (h + 3)) 41 106 0 0 36 [some (.ref 1), some (.int 2), some (.int (nI w)), some (.int (nI 7)), none, none, none] [.int 0] (lm_T (lm_wr (lm_wr M0 1 10 2) 1 11 (M0 1 7)) v G) Q
    exact lm_G_re rfl (by decide) (Nat.zero_le _) (Nat.zero_le _) (her _ _ (by unfold tst; rw [if_pos hw13]) _ ⟨rfl, t0.2.2.1⟩ (FrE_f e0))
  | false =>
    have e7 : nkI T p = ntN T 6 p := by unfold nkI; rw [hw13]; rfl
    have k6 : ntN T 6 p ≤ 6 := ntN_le 6 p
    rw [e7]
    obtain ⟨nk, enk⟩ : ∃ q, q = ntN T 6 p := ⟨_, rfl⟩
    obtain ⟨p6, ep6⟩ : ∃ q, q = ntP T 6 p := ⟨_, rfl⟩
    rw [← enk] at n1 k6 ⊢
    rw [← ep6] at n1 n2 t0 hw13
    have etst : tst T sub p = (match lvl T 2 sub p6 with
      | .inl (r, c) => .inl (r, c ++ List.replicate nk (2, 6))
      | .inr e => .inr e) := by unfold tst; rw [← ep6, ← enk, if_neg (by rw [hw13]; decide)]; rfl
    refine lm_G_br (b := (nI nk) ≤ 6) (t := 37) (S' := []) rfl (fun hc => ?_) (fun hc => absurd (nI_le (b := 6) k6 (by omega)) hc)
    refine lm_G_sg 4 (pc' := 41) (L' := [some (.ref 1), some (.int 2), some (.int (nI w)), some (.int (nI nk)), none, none, none]) (S' := [.int (2 + 1), .ref 1]) (σ' := lm_T M0 v G) rfl trivial ?_
    rw [show (2 : Int32) + 1 = 3 from by decide]
    refine lm_G_sg 1 (pc' := 42) (L' := [some (.ref 1), some (.int 2), some (.int (nI w)), some (.int (nI nk)), none, none, none]) (S' := [.int (nI w), .int 3, .ref 1]) (σ' := lm_T M0 v G) rfl trivial ?_
    refine lm_G_ca (j := 41) (as := [.ref 1, .int 3, .int (nI w)]) (rest := []) rfl (Or.inl rfl) (Nat.le_of_ble_eq_true rfl) (Nat.le_of_ble_eq_true rfl) (Nat.le_of_ble_eq_true rfl) (Nat.le_of_ble_eq_true rfl) rfl ?_
    refine hsub d v M0 G _ (p6) (K) t0 n2 h50 hk0 (by omega) (fun r2 c2 er2 M2 t2 k2 e2 => ?_) (fun e a er2 M2 b2 e2 => ?_)
    ·
      show lm_G X (d + (h + 3)) 41 106 0 0 45 [some (.ref 1), some (.int 2), some (.int (nI w)), some (.int (nI nk)), none, none, none] [.int 1] (lm_T M2 v G) Q
      obtain ⟨o1, o2, o3⟩ := hL _ _ _ n2 er2
      have E2 := FrE_tr e0 e2
      refine lm_G_br (b := ¬ 1 = 0) (t := 50) (S' := []) rfl (fun g3 => ?_) (fun g3 => absurd (Classical.not_not.mp g3) (by decide))
      refine lm_G_sg 2 (pc' := 52) (L' := [some (.ref 1), some (.int 2), some (.int (nI w)), some (.int (nI nk)), none, none, none]) (S' := [.int 2, .int 2]) (σ' := lm_T M2 v G) rfl trivial ?_
      refine lm_G_br (b := ¬ 2 = 2) (t := 59) (S' := []) rfl (fun hc => absurd rfl hc) (fun hc => ?_)
      refine lm_G_sg 5 (pc' := 67) (L' := [some (.ref 1), some (.int 2), some (.int (nI w)), some (.int (nI nk)), some (.int 1), some (.int 0), none]) (S' := []) (σ' := lm_T M2 v G) rfl trivial ?_
      have k121 : ∀ (M3 : Nat → Fn) (u : Nat) (c : Cd) (t3 : RT M3 T u) (l3 : u ≤ tN T) (k3 : CCode M3 (K ++ c)) (kl3 : (K ++ c).length + nk ≤ u) (E3 : FrE M M3) (eR : lvl T 2 sub p6 = .inl (u, c)), lm_G X (d + (h + 3)) 41 106 0 0 121 [some (.ref 1), some (.int 2), some (.int (nI w)), some (.int (nI nk)), some (.int 1), none, none] [] (lm_T M3 v G) Q := by
        intro M3 u c t3 l3 k3 kl3 E3 eR
        refine lm_G_sg 2 (pc' := 124) (L' := [some (.ref 1), some (.int 2), some (.int (nI w)), some (.int (nI nk)), some (.int 1), some (.int 0), none]) (S' := []) (σ' := lm_T M3 v G) rfl trivial ?_
        refine lm_ind (α := (Nat → Fn)) (St := fun (j : Nat) zz => (fun (M4 : Nat → Fn) => lm_G X (d + (h + 3)) 41 106 0 0 124 [some (.ref 1), some (.int 2), some (.int (nI w)), some (.int (nI nk)), some (.int 1), some (.int (nI j)), none] [] (lm_T M4 v G) Q) zz) (Inv := fun (j : Nat) zz => (fun (M4 : Nat → Fn) => RT M4 T u ∧ CCode M4 (K ++ c ++ List.replicate j (2, 6)) ∧ FrE M M4) zz) (nk) (fun j zz hj4 hI4 ih4 => ?_) (fun zz hI4 => ?_) (0) M3 (by omega) ?_
        ·
          revert ih4 hI4
          revert zz
          intro M4 hI4 ih4
          replace hI4 : RT M4 T u ∧ CCode M4 (K ++ c ++ List.replicate j (2, 6)) ∧ FrE M M4 := hI4
          replace ih4 : ∀ (M4 : Nat → Fn) (_ : RT M4 T u ∧ CCode M4 (K ++ c ++ List.replicate (j + 1) (2, 6)) ∧ FrE M M4), lm_G X (d + (h + 3)) 41 106 0 0 124 [some (.ref 1), some (.int 2), some (.int (nI w)), some (.int (nI nk)), some (.int 1), some (.int (nI (j + 1))), none] [] (lm_T M4 v G) Q := fun M4 q => ih4 M4 q
          show lm_G X (d + (h + 3)) 41 106 0 0 124 [some (.ref 1), some (.int 2), some (.int (nI w)), some (.int (nI nk)), some (.int 1), some (.int (nI j)), none] [] (lm_T M4 v G) Q
          obtain ⟨t4, k4, E4⟩ := hI4
          refine lm_G_sg 2 (pc' := 127) (L' := [some (.ref 1), some (.int 2), some (.int (nI w)), some (.int (nI nk)), some (.int 1), some (.int (nI j)), none]) (S' := [.int (nI nk), .int (nI j)]) (σ' := lm_T M4 v G) rfl trivial ?_
          refine lm_G_br (b := (nI nk) ≤ (nI j)) (t := 145) (S' := []) rfl (fun hc => absurd hc (nI_ge hj4 (by omega))) (fun hc => ?_)
          refine lm_G_sg 3 (pc' := 136) (L' := [some (.ref 1), some (.int 2), some (.int (nI w)), some (.int (nI nk)), some (.int 1), some (.int (nI j)), none]) (S' := [.int (-7), .ref 3]) (σ' := lm_T M4 v G) rfl trivial ?_
          refine lm_G_ca (j := 12) (as := [.ref 3, .int (-7)]) (rest := []) rfl (Or.inl rfl) (Nat.le_of_ble_eq_true rfl) (Nat.le_of_ble_eq_true rfl) (Nat.le_of_ble_eq_true rfl) (Nat.le_of_ble_eq_true rfl) rfl ?_
          refine c_addCode (x := (2, 6)) k4 (by simp only [List.length_append, List.length_replicate] at kl3 ⊢; omega) (fun M5 k5 e5 r5 => ?_)
          show lm_G X (d + (h + 3)) 41 106 0 0 139 [some (.ref 1), some (.int 2), some (.int (nI w)), some (.int (nI nk)), some (.int 1), some (.int (nI j)), none] [] (lm_T M5 v G) Q
          have t5 : RT M5 T u := by
            obtain ⟨q1, q2, q3, q4, q5⟩ := t4
            refine ⟨⟨by rw [r5]; exact q1.1, by rw [e5.1 2 rfl]; exact q1.2⟩, ?_⟩
            rw [r5]
            exact ⟨q2, q3, q4, q5⟩
          rw [List.append_assoc, ← List.replicate_succ'] at k5
          refine lm_G_sg 1 (pc' := 142) (L' := [some (.ref 1), some (.int 2), some (.int (nI w)), some (.int (nI nk)), some (.int 1), some (.int ((nI j) + 1)), none]) (S' := []) (σ' := lm_T M5 v G) rfl trivial ?_
          rw [nI_1]
          refine lm_G_sg 1 (pc' := 124) (L' := [some (.ref 1), some (.int 2), some (.int (nI w)), some (.int (nI nk)), some (.int 1), some (.int (nI (j + 1))), none]) (S' := []) (σ' := lm_T M5 v G) rfl trivial ?_
          exact ih4 _ (⟨t5, k5, FrE_tr E4 e5⟩)
        ·
          revert hI4
          revert zz
          intro M4 hI4
          replace hI4 : RT M4 T u ∧ CCode M4 (K ++ c ++ List.replicate nk (2, 6)) ∧ FrE M M4 := hI4
          show lm_G X (d + (h + 3)) 41 106 0 0 124 [some (.ref 1), some (.int 2), some (.int (nI w)), some (.int (nI nk)), some (.int 1), some (.int (nI nk)), none] [] (lm_T M4 v G) Q
          obtain ⟨t4, k4, E4⟩ := hI4
          refine lm_G_sg 2 (pc' := 127) (L' := [some (.ref 1), some (.int 2), some (.int (nI w)), some (.int (nI nk)), some (.int 1), some (.int (nI nk)), none]) (S' := [.int (nI nk), .int (nI nk)]) (σ' := lm_T M4 v G) rfl trivial ?_
          refine lm_G_br (b := (nI nk) ≤ (nI nk)) (t := 145) (S' := []) rfl (fun hc => ?_) (fun hc => absurd (nI_le (Nat.le_refl _) (by omega)) hc)
          refine lm_G_sg 1 (pc' := 146) (L' := [some (.ref 1), some (.int 2), some (.int (nI w)), some (.int (nI nk)), some (.int 1), some (.int (nI nk)), none]) (S' := [.int 1]) (σ' := lm_T M4 v G) rfl trivial ?_
          exact lm_G_re rfl (by decide) (Nat.zero_le _) (Nat.zero_le _) (hok _ _ (by rw [etst, eR]) _ t4 (by rw [← List.append_assoc]; exact k4) E4)
        ·
          try dsimp only
          exact ⟨t3, by rw [List.replicate_zero, List.append_nil]; exact k3, E3⟩
      refine lm_ind (α := (Nat → Fn) × Nat × Cd) (St := fun (j : Nat) zz => (fun (M3 : Nat → Fn) (u : Nat) (c : Cd) => lm_G X (d + (h + 3)) 41 106 0 0 67 [some (.ref 1), some (.int 2), some (.int (nI w)), some (.int (nI nk)), some (.int 1), some (.int (nI j)), none] [] (lm_T M3 v G) Q) zz.1 zz.2.1 zz.2.2) (Inv := fun (j : Nat) zz => (fun (M3 : Nat → Fn) (u : Nat) (c : Cd) => RT M3 T u ∧ u ≤ tN T ∧ CCode M3 (K ++ c) ∧ (K ++ c).length + nk ≤ u ∧ FrE M M3 ∧ chn T 2 sub (1 - j) u c = lvl T 2 sub p6) zz.1 zz.2.1 zz.2.2) (1) (fun j zz hj hI ih => ?_) (fun zz hI => ?_) (0) (M2, r2, c2) (by omega) ?_
      ·
        obtain ⟨M3, u, c⟩ := zz
        replace hI : RT M3 T u ∧ u ≤ tN T ∧ CCode M3 (K ++ c) ∧ (K ++ c).length + nk ≤ u ∧ FrE M M3 ∧ chn T 2 sub (1 - j) u c = lvl T 2 sub p6 := hI
        replace ih : ∀ (M3 : Nat → Fn) (u : Nat) (c : Cd) (_ : RT M3 T u ∧ u ≤ tN T ∧ CCode M3 (K ++ c) ∧ (K ++ c).length + nk ≤ u ∧ FrE M M3 ∧ chn T 2 sub (1 - (j + 1)) u c = lvl T 2 sub p6), lm_G X (d + (h + 3)) 41 106 0 0 67 [some (.ref 1), some (.int 2), some (.int (nI w)), some (.int (nI nk)), some (.int 1), some (.int (nI (j + 1))), none] [] (lm_T M3 v G) Q := fun M3 u c q => ih (M3, u, c) q
        show lm_G X (d + (h + 3)) 41 106 0 0 67 [some (.ref 1), some (.int 2), some (.int (nI w)), some (.int (nI nk)), some (.int 1), some (.int (nI j)), none] [] (lm_T M3 v G) Q
        obtain ⟨t3, l3, k3, kl3, E3, eR⟩ := hI
        have h53 : M3 1 5 = b2i J := (E3.2.1 5 (by omega)).trans h5
        refine lm_G_sg 2 (pc' := 71) (L' := [some (.ref 1), some (.int 2), some (.int (nI w)), some (.int (nI nk)), some (.int 1), some (.int (nI j)), none]) (S' := [.int 1, .int (nI j)]) (σ' := lm_T M3 v G) rfl trivial ?_
        refine lm_G_br (b := 1 ≤ (nI j)) (t := 121) (S' := []) rfl (fun hc => absurd hc (nI_ge (b := 1) hj (by omega))) (fun hc => ?_)
        refine lm_G_sg 2 (pc' := 76) (L' := [some (.ref 1), some (.int 2), some (.int (nI w)), some (.int (nI nk)), some (.int 1), some (.int (nI j)), none]) (S' := [.int 2, .ref 1]) (σ' := lm_T M3 v G) rfl trivial ?_
        refine lm_G_ca (j := 43) (as := [.ref 1, .int 2]) (rest := []) rfl (Or.inl rfl) (Nat.le_of_ble_eq_true rfl) (Nat.le_of_ble_eq_true rfl) (Nat.le_of_ble_eq_true rfl) (Nat.le_of_ble_eq_true rfl) rfl ?_
        refine c_op2 hT t3 l3 ?_
        show lm_G X (d + (h + 3)) 41 106 0 0 79 [some (.ref 1), some (.int 2), some (.int (nI w)), some (.int (nI nk)), some (.int 1), some (.int (nI j)), none] [.int (opI T 2 u)] (lm_T M3 v G) Q
        refine lm_G_br (b := (opI T 2 u) = 0) (t := 121) (S' := []) rfl (fun g5 => ?_) (fun g5 => ?_)
        ·
          refine lm_G_jk (L := [some (.ref 1), some (.int 2), some (.int (nI w)), some (.int (nI nk)), some (.int 1), none, none]) ⟨rfl, rfl, rfl, rfl, rfl, rfl, trivial⟩ ?_
          exact k121 _ _ _ t3 l3 k3 kl3 E3 (by rw [← eR]; exact chn_9 (opI_0.mp g5))
        ·
          have h9 : ¬ opS T 2 u = 9 := fun w => g5 (opI_0.mpr w)
          have hg := en_gt l3 (op_kn h9)
          have hl := (en_le l3).2.1
          have ef : 1 - j = (1 - (j + 1)) + 1 := by omega
          rw [ef] at eR
          refine lm_G_sg 2 (pc' := 84) (L' := [some (.ref 1), some (.int 2), some (.int (nI w)), some (.int (nI nk)), some (.int 1), some (.int (nI j)), none]) (S' := [.int 2, .ref 1]) (σ' := lm_T M3 v G) rfl trivial ?_
          refine lm_G_ca (j := 43) (as := [.ref 1, .int 2]) (rest := []) rfl (Or.inl rfl) (Nat.le_of_ble_eq_true rfl) (Nat.le_of_ble_eq_true rfl) (Nat.le_of_ble_eq_true rfl) (Nat.le_of_ble_eq_true rfl) rfl ?_
          refine c_op2 hT t3 l3 ?_
          show lm_G X (d + (h + 3)) 41 106 0 0 87 [some (.ref 1), some (.int 2), some (.int (nI w)), some (.int (nI nk)), some (.int 1), some (.int (nI j)), none] [.int (opI T 2 u)] (lm_T M3 v G) Q
          rw [show opI T 2 u = encC (2, opS T 2 u) from if_neg h9]
          refine lm_G_sg 2 (pc' := 90) (L' := [some (.ref 1), some (.int 2), some (.int (nI w)), some (.int (nI nk)), some (.int 1), some (.int (nI j)), some (.int (encC (2, opS T 2 u)))]) (S' := [.ref 1]) (σ' := lm_T M3 v G) rfl trivial ?_
          refine lm_G_ca (j := 26) (as := [.ref 1]) (rest := []) rfl (Or.inl rfl) (Nat.le_of_ble_eq_true rfl) (Nat.le_of_ble_eq_true rfl) (Nat.le_of_ble_eq_true rfl) (Nat.le_of_ble_eq_true rfl) rfl ?_
          refine c_nextToken hT t3.1 hl t3.2.2.2.1 (fun M4 t4 f4 => ?_)
          show lm_G X (d + (h + 3)) 41 106 0 0 93 [some (.ref 1), some (.int 2), some (.int (nI w)), some (.int (nI nk)), some (.int 1), some (.int (nI j)), some (.int (encC (2, opS T 2 u)))] [] (lm_T M4 v G) Q
          have k4 := CC_R k3 f4
          have E4 := FrE_tr E3 (FrE_R f4)
          have h54 : M4 1 5 = b2i J := (E4.2.1 5 (by omega)).trans h5
          refine lm_G_sg 4 (pc' := 97) (L' := [some (.ref 1), some (.int 2), some (.int (nI w)), some (.int (nI nk)), some (.int 1), some (.int (nI j)), some (.int (encC (2, opS T 2 u)))]) (S' := [.int (2 + 1), .ref 1]) (σ' := lm_T M4 v G) rfl trivial ?_
          rw [show (2 : Int32) + 1 = 3 from by decide]
          refine lm_G_sg 1 (pc' := 98) (L' := [some (.ref 1), some (.int 2), some (.int (nI w)), some (.int (nI nk)), some (.int 1), some (.int (nI j)), some (.int (encC (2, opS T 2 u)))]) (S' := [.int (nI w), .int 3, .ref 1]) (σ' := lm_T M4 v G) rfl trivial ?_
          refine lm_G_ca (j := 41) (as := [.ref 1, .int 3, .int (nI w)]) (rest := []) rfl (Or.inl rfl) (Nat.le_of_ble_eq_true rfl) (Nat.le_of_ble_eq_true rfl) (Nat.le_of_ble_eq_true rfl) (Nat.le_of_ble_eq_true rfl) rfl ?_
          refine hsub d v M4 G _ (enS T u) (K ++ c) t4 hl h54 k4 (by omega) (fun r6 c6 er6 M6 t6 k6 e6 => ?_) (fun e a er6 M6 b6 e6 => ?_)
          ·
            show lm_G X (d + (h + 3)) 41 106 0 0 101 [some (.ref 1), some (.int 2), some (.int (nI w)), some (.int (nI nk)), some (.int 1), some (.int (nI j)), some (.int (encC (2, opS T 2 u)))] [.int 1] (lm_T M6 v G) Q
            obtain ⟨p1, p2, p3⟩ := hL _ _ _ hl er6
            rw [chn_i h9 er6] at eR
            refine lm_G_br (b := ¬ 1 = 0) (t := 106) (S' := []) rfl (fun g6 => ?_) (fun g6 => absurd (Classical.not_not.mp g6) (by decide))
            refine lm_G_sg 3 (pc' := 112) (L' := [some (.ref 1), some (.int 2), some (.int (nI w)), some (.int (nI nk)), some (.int 1), some (.int (nI j)), some (.int (encC (2, opS T 2 u)))]) (S' := [.int (encC (2, opS T 2 u)), .ref 3]) (σ' := lm_T M6 v G) rfl trivial ?_
            refine lm_G_ca (j := 12) (as := [.ref 3, .int (encC (2, opS T 2 u))]) (rest := []) rfl (Or.inl rfl) (Nat.le_of_ble_eq_true rfl) (Nat.le_of_ble_eq_true rfl) (Nat.le_of_ble_eq_true rfl) (Nat.le_of_ble_eq_true rfl) rfl ?_
            refine c_addCode (x := (2, opS T 2 u)) k6 (by simp only [List.length_append] at kl3 ⊢; omega) (fun M7 k7 e7_ r7 => ?_)
            show lm_G X (d + (h + 3)) 41 106 0 0 115 [some (.ref 1), some (.int 2), some (.int (nI w)), some (.int (nI nk)), some (.int 1), some (.int (nI j)), some (.int (encC (2, opS T 2 u)))] [] (lm_T M7 v G) Q
            have t7 : RT M7 T r6 := by
              obtain ⟨q1, q2, q3, q4, q5⟩ := t6
              refine ⟨⟨by rw [r7]; exact q1.1, by rw [e7_.1 2 rfl]; exact q1.2⟩, ?_⟩
              rw [r7]
              exact ⟨q2, q3, q4, q5⟩
            rw [List.append_assoc, List.append_assoc, ← List.append_assoc c] at k7
            refine lm_G_sg 1 (pc' := 118) (L' := [some (.ref 1), some (.int 2), some (.int (nI w)), some (.int (nI nk)), some (.int 1), some (.int ((nI j) + 1)), some (.int (encC (2, opS T 2 u)))]) (S' := []) (σ' := lm_T M7 v G) rfl trivial ?_
            rw [nI_1]
            refine lm_G_sg 1 (pc' := 67) (L' := [some (.ref 1), some (.int 2), some (.int (nI w)), some (.int (nI nk)), some (.int 1), some (.int (nI (j + 1))), some (.int (encC (2, opS T 2 u)))]) (S' := []) (σ' := lm_T M7 v G) rfl trivial ?_
            refine lm_G_jk (L := [some (.ref 1), some (.int 2), some (.int (nI w)), some (.int (nI nk)), some (.int 1), some (.int (nI (j + 1))), none]) ⟨rfl, rfl, rfl, rfl, rfl, rfl, trivial⟩ ?_
            exact ih _ _ _ (⟨t7, p2, k7, by simp only [List.length_append, List.length_cons, List.length_nil] at kl3 ⊢; omega, FrE_tr (FrE_tr E4 e6) e7_, eR⟩)
          ·
            show lm_G X (d + (h + 3)) 41 106 0 0 101 [some (.ref 1), some (.int 2), some (.int (nI w)), some (.int (nI nk)), some (.int 1), some (.int (nI j)), some (.int (encC (2, opS T 2 u)))] [.int 0] (lm_T M6 v G) Q
            refine lm_G_br (b := ¬ 0 = 0) (t := 106) (S' := []) rfl (fun g6 => absurd rfl g6) (fun g6 => ?_)
            refine lm_G_sg 1 (pc' := 105) (L' := [some (.ref 1), some (.int 2), some (.int (nI w)), some (.int (nI nk)), some (.int 1), some (.int (nI j)), some (.int (encC (2, opS T 2 u)))]) (S' := [.int 0]) (σ' := lm_T M6 v G) rfl trivial ?_
            exact lm_G_re rfl (by decide) (Nat.zero_le _) (Nat.zero_le _) (her _ _ (by rw [etst, ← eR, chn_r h9 er6]) _ b6 (FrEx_l E4 e6))
      ·
        obtain ⟨M3, u, c⟩ := zz
        replace hI : RT M3 T u ∧ u ≤ tN T ∧ CCode M3 (K ++ c) ∧ (K ++ c).length + nk ≤ u ∧ FrE M M3 ∧ chn T 2 sub (1 - 1) u c = lvl T 2 sub p6 := hI
        show lm_G X (d + (h + 3)) 41 106 0 0 67 [some (.ref 1), some (.int 2), some (.int (nI w)), some (.int (nI nk)), some (.int 1), some (.int (nI 1)), none] [] (lm_T M3 v G) Q
        obtain ⟨t3, l3, k3, kl3, E3, eR⟩ := hI
        rw [Nat.sub_self] at eR
        refine lm_G_sg 2 (pc' := 71) (L' := [some (.ref 1), some (.int 2), some (.int (nI w)), some (.int (nI nk)), some (.int 1), some (.int (nI 1)), none]) (S' := [.int 1, .int (nI 1)]) (σ' := lm_T M3 v G) rfl trivial ?_
        refine lm_G_br (b := 1 ≤ (nI 1)) (t := 121) (S' := []) rfl (fun hc => ?_) (fun hc => absurd (nI_le (a := 1) (Nat.le_refl _) (by omega)) hc)
        refine lm_G_jk (L := [some (.ref 1), some (.int 2), some (.int (nI w)), some (.int (nI nk)), some (.int 1), none, none]) ⟨rfl, rfl, rfl, rfl, rfl, rfl, trivial⟩ ?_
        exact k121 _ _ _ t3 l3 k3 kl3 E3 eR.symm
      ·
        try dsimp only
        exact ⟨t2, o2, k2, by simp only [List.length_append]; omega, E2, by rw [lvl_i er2]; rfl⟩
    ·
      show lm_G X (d + (h + 3)) 41 106 0 0 45 [some (.ref 1), some (.int 2), some (.int (nI w)), some (.int (nI nk)), none, none, none] [.int 0] (lm_T M2 v G) Q
      refine lm_G_br (b := ¬ 0 = 0) (t := 50) (S' := []) rfl (fun g3 => absurd rfl g3) (fun g3 => ?_)
      refine lm_G_sg 1 (pc' := 49) (L' := [some (.ref 1), some (.int 2), some (.int (nI w)), some (.int (nI nk)), none, none, none]) (S' := [.int 0]) (σ' := lm_T M2 v G) rfl trivial ?_
      exact lm_G_re rfl (by decide) (Nat.zero_le _) (Nat.zero_le _) (her _ _ (by rw [etst, lvl_r er2]) _ b2 (FrEx_l e0 e2))
set_option maxRecDepth 10000 in
theorem c_lv3 {X : lm_X} {T : Tx} {J : Bool} {h w : Nat} {sub : Nat → PR} (hT : okT T) (hL : okL T sub) (hsub : ∀ d, CQ X T J (d + (h + 2)) 41 [.ref 1, .int 4, .int (nI w)] sub) : ∀ d, CQ X T J (d + (h + 3)) 41 [.ref 1, .int 3, .int (nI w)] (lvl T 3 sub) := by
  intro d v M G Q p K ht hp h5 hk hkl hok her
  show lm_G X (d + (h + 3)) 41 106 0 0 0 [some (.ref 1), some (.int 3), some (.int (nI w)), none, none, none, none] [] (lm_T M v G) Q
  have hn := hT.1
  refine lm_G_sg 2 (pc' := 2) (L' := [some (.ref 1), some (.int 3), some (.int (nI w)), none, none, none, none]) (S' := [.int 5, .int 3]) (σ' := lm_T M v G) rfl trivial ?_
  refine lm_G_br (b := 3 < 5) (t := 11) (S' := []) rfl (fun hc => ?_) (fun hc => absurd (by decide) hc)
  refine lm_G_sg 2 (pc' := 13) (L' := [some (.ref 1), some (.int 3), some (.int (nI w)), none, none, none, none]) (S' := [.int 2, .int 3]) (σ' := lm_T M v G) rfl trivial ?_
  refine lm_G_br (b := ¬ 3 = 2) (t := 23) (S' := []) rfl (fun hc => ?_) (fun hc => absurd (Classical.not_not.mp hc) (by decide))
  refine lm_G_sg 4 (pc' := 28) (L' := [some (.ref 1), some (.int 3), some (.int (nI w)), some (.int 0), none, none, none]) (S' := [.int 6, .int 0]) (σ' := lm_T M v G) rfl trivial ?_
  refine lm_G_br (b := 0 ≤ 6) (t := 37) (S' := []) rfl (fun hc => ?_) (fun hc => absurd (by decide) hc)
  refine lm_G_sg 4 (pc' := 41) (L' := [some (.ref 1), some (.int 3), some (.int (nI w)), some (.int 0), none, none, none]) (S' := [.int (3 + 1), .ref 1]) (σ' := lm_T M v G) rfl trivial ?_
  rw [show (3 : Int32) + 1 = 4 from by decide]
  refine lm_G_sg 1 (pc' := 42) (L' := [some (.ref 1), some (.int 3), some (.int (nI w)), some (.int 0), none, none, none]) (S' := [.int (nI w), .int 4, .ref 1]) (σ' := lm_T M v G) rfl trivial ?_
  refine lm_G_ca (j := 41) (as := [.ref 1, .int 4, .int (nI w)]) (rest := []) rfl (Or.inl rfl) (Nat.le_of_ble_eq_true rfl) (Nat.le_of_ble_eq_true rfl) (Nat.le_of_ble_eq_true rfl) (Nat.le_of_ble_eq_true rfl) rfl ?_
  refine hsub d v M G _ (p) (K) ht hp h5 hk (by omega) (fun r2 c2 er2 M2 t2 k2 e2 => ?_) (fun e a er2 M2 b2 e2 => ?_)
  ·
    show lm_G X (d + (h + 3)) 41 106 0 0 45 [some (.ref 1), some (.int 3), some (.int (nI w)), some (.int 0), none, none, none] [.int 1] (lm_T M2 v G) Q
    obtain ⟨o1, o2, o3⟩ := hL _ _ _ hp er2
    have E2 := FrE_tr (FrE_rf _) e2
    refine lm_G_br (b := ¬ 1 = 0) (t := 50) (S' := []) rfl (fun g3 => ?_) (fun g3 => absurd (Classical.not_not.mp g3) (by decide))
    refine lm_G_sg 2 (pc' := 52) (L' := [some (.ref 1), some (.int 3), some (.int (nI w)), some (.int 0), none, none, none]) (S' := [.int 2, .int 3]) (σ' := lm_T M2 v G) rfl trivial ?_
    refine lm_G_br (b := ¬ 3 = 2) (t := 59) (S' := []) rfl (fun hc => ?_) (fun hc => absurd (Classical.not_not.mp hc) (by decide))
    refine lm_G_sg 4 (pc' := 67) (L' := [some (.ref 1), some (.int 3), some (.int (nI w)), some (.int 0), some (.int 700), some (.int 0), none]) (S' := []) (σ' := lm_T M2 v G) rfl trivial ?_
    have k121 : ∀ (M3 : Nat → Fn) (u : Nat) (c : Cd) (t3 : RT M3 T u) (l3 : u ≤ tN T) (k3 : CCode M3 (K ++ c)) (kl3 : (K ++ c).length ≤ u) (E3 : FrE M M3) (eR : lvl T 3 sub p = .inl (u, c)), lm_G X (d + (h + 3)) 41 106 0 0 121 [some (.ref 1), some (.int 3), some (.int (nI w)), some (.int 0), some (.int 700), none, none] [] (lm_T M3 v G) Q := by
      intro M3 u c t3 l3 k3 kl3 E3 eR
      refine lm_G_sg 2 (pc' := 124) (L' := [some (.ref 1), some (.int 3), some (.int (nI w)), some (.int 0), some (.int 700), some (.int 0), none]) (S' := []) (σ' := lm_T M3 v G) rfl trivial ?_
      refine lm_G_sg 2 (pc' := 127) (L' := [some (.ref 1), some (.int 3), some (.int (nI w)), some (.int 0), some (.int 700), some (.int 0), none]) (S' := [.int 0, .int 0]) (σ' := lm_T M3 v G) rfl trivial ?_
      refine lm_G_br (b := 0 ≤ 0) (t := 145) (S' := []) rfl (fun hc => ?_) (fun hc => absurd (by decide) hc)
      refine lm_G_sg 1 (pc' := 146) (L' := [some (.ref 1), some (.int 3), some (.int (nI w)), some (.int 0), some (.int 700), some (.int 0), none]) (S' := [.int 1]) (σ' := lm_T M3 v G) rfl trivial ?_
      exact lm_G_re rfl (by decide) (Nat.zero_le _) (Nat.zero_le _) (hok _ _ eR _ t3 k3 E3)
    refine lm_ind (α := (Nat → Fn) × Nat × Cd) (St := fun (j : Nat) zz => (fun (M3 : Nat → Fn) (u : Nat) (c : Cd) => lm_G X (d + (h + 3)) 41 106 0 0 67 [some (.ref 1), some (.int 3), some (.int (nI w)), some (.int 0), some (.int 700), some (.int (nI j)), none] [] (lm_T M3 v G) Q) zz.1 zz.2.1 zz.2.2) (Inv := fun (j : Nat) zz => (fun (M3 : Nat → Fn) (u : Nat) (c : Cd) => RT M3 T u ∧ u ≤ tN T ∧ CCode M3 (K ++ c) ∧ (K ++ c).length ≤ u ∧ FrE M M3 ∧ chn T 3 sub (700 - j) u c = lvl T 3 sub p) zz.1 zz.2.1 zz.2.2) (700) (fun j zz hj hI ih => ?_) (fun zz hI => ?_) (0) (M2, r2, c2) (by omega) ?_
    ·
      obtain ⟨M3, u, c⟩ := zz
      replace hI : RT M3 T u ∧ u ≤ tN T ∧ CCode M3 (K ++ c) ∧ (K ++ c).length ≤ u ∧ FrE M M3 ∧ chn T 3 sub (700 - j) u c = lvl T 3 sub p := hI
      replace ih : ∀ (M3 : Nat → Fn) (u : Nat) (c : Cd) (_ : RT M3 T u ∧ u ≤ tN T ∧ CCode M3 (K ++ c) ∧ (K ++ c).length ≤ u ∧ FrE M M3 ∧ chn T 3 sub (700 - (j + 1)) u c = lvl T 3 sub p), lm_G X (d + (h + 3)) 41 106 0 0 67 [some (.ref 1), some (.int 3), some (.int (nI w)), some (.int 0), some (.int 700), some (.int (nI (j + 1))), none] [] (lm_T M3 v G) Q := fun M3 u c q => ih (M3, u, c) q
      show lm_G X (d + (h + 3)) 41 106 0 0 67 [some (.ref 1), some (.int 3), some (.int (nI w)), some (.int 0), some (.int 700), some (.int (nI j)), none] [] (lm_T M3 v G) Q
      obtain ⟨t3, l3, k3, kl3, E3, eR⟩ := hI
      have h53 : M3 1 5 = b2i J := (E3.2.1 5 (by omega)).trans h5
      refine lm_G_sg 2 (pc' := 71) (L' := [some (.ref 1), some (.int 3), some (.int (nI w)), some (.int 0), some (.int 700), some (.int (nI j)), none]) (S' := [.int 700, .int (nI j)]) (σ' := lm_T M3 v G) rfl trivial ?_
      refine lm_G_br (b := 700 ≤ (nI j)) (t := 121) (S' := []) rfl (fun hc => absurd hc (nI_ge (b := 700) hj (by omega))) (fun hc => ?_)
      refine lm_G_sg 2 (pc' := 76) (L' := [some (.ref 1), some (.int 3), some (.int (nI w)), some (.int 0), some (.int 700), some (.int (nI j)), none]) (S' := [.int 3, .ref 1]) (σ' := lm_T M3 v G) rfl trivial ?_
      refine lm_G_ca (j := 43) (as := [.ref 1, .int 3]) (rest := []) rfl (Or.inl rfl) (Nat.le_of_ble_eq_true rfl) (Nat.le_of_ble_eq_true rfl) (Nat.le_of_ble_eq_true rfl) (Nat.le_of_ble_eq_true rfl) rfl ?_
      refine c_op3 hT t3 l3 ?_
      show lm_G X (d + (h + 3)) 41 106 0 0 79 [some (.ref 1), some (.int 3), some (.int (nI w)), some (.int 0), some (.int 700), some (.int (nI j)), none] [.int (opI T 3 u)] (lm_T M3 v G) Q
      refine lm_G_br (b := (opI T 3 u) = 0) (t := 121) (S' := []) rfl (fun g5 => ?_) (fun g5 => ?_)
      ·
        refine lm_G_jk (L := [some (.ref 1), some (.int 3), some (.int (nI w)), some (.int 0), some (.int 700), none, none]) ⟨rfl, rfl, rfl, rfl, rfl, rfl, trivial⟩ ?_
        exact k121 _ _ _ t3 l3 k3 kl3 E3 (by rw [← eR]; exact chn_9 (opI_0.mp g5))
      ·
        have h9 : ¬ opS T 3 u = 9 := fun w => g5 (opI_0.mpr w)
        have hg := en_gt l3 (op_kn h9)
        have hl := (en_le l3).2.1
        have ef : 700 - j = (700 - (j + 1)) + 1 := by omega
        rw [ef] at eR
        refine lm_G_sg 2 (pc' := 84) (L' := [some (.ref 1), some (.int 3), some (.int (nI w)), some (.int 0), some (.int 700), some (.int (nI j)), none]) (S' := [.int 3, .ref 1]) (σ' := lm_T M3 v G) rfl trivial ?_
        refine lm_G_ca (j := 43) (as := [.ref 1, .int 3]) (rest := []) rfl (Or.inl rfl) (Nat.le_of_ble_eq_true rfl) (Nat.le_of_ble_eq_true rfl) (Nat.le_of_ble_eq_true rfl) (Nat.le_of_ble_eq_true rfl) rfl ?_
        refine c_op3 hT t3 l3 ?_
        show lm_G X (d + (h + 3)) 41 106 0 0 87 [some (.ref 1), some (.int 3), some (.int (nI w)), some (.int 0), some (.int 700), some (.int (nI j)), none] [.int (opI T 3 u)] (lm_T M3 v G) Q
        rw [show opI T 3 u = encC (2, opS T 3 u) from if_neg h9]
        refine lm_G_sg 2 (pc' := 90) (L' := [some (.ref 1), some (.int 3), some (.int (nI w)), some (.int 0), some (.int 700), some (.int (nI j)), some (.int (encC (2, opS T 3 u)))]) (S' := [.ref 1]) (σ' := lm_T M3 v G) rfl trivial ?_
        refine lm_G_ca (j := 26) (as := [.ref 1]) (rest := []) rfl (Or.inl rfl) (Nat.le_of_ble_eq_true rfl) (Nat.le_of_ble_eq_true rfl) (Nat.le_of_ble_eq_true rfl) (Nat.le_of_ble_eq_true rfl) rfl ?_
        refine c_nextToken hT t3.1 hl t3.2.2.2.1 (fun M4 t4 f4 => ?_)
        show lm_G X (d + (h + 3)) 41 106 0 0 93 [some (.ref 1), some (.int 3), some (.int (nI w)), some (.int 0), some (.int 700), some (.int (nI j)), some (.int (encC (2, opS T 3 u)))] [] (lm_T M4 v G) Q
        have k4 := CC_R k3 f4
        have E4 := FrE_tr E3 (FrE_R f4)
        have h54 : M4 1 5 = b2i J := (E4.2.1 5 (by omega)).trans h5
        refine lm_G_sg 4 (pc' := 97) (L' := [some (.ref 1), some (.int 3), some (.int (nI w)), some (.int 0), some (.int 700), some (.int (nI j)), some (.int (encC (2, opS T 3 u)))]) (S' := [.int (3 + 1), .ref 1]) (σ' := lm_T M4 v G) rfl trivial ?_
        rw [show (3 : Int32) + 1 = 4 from by decide]
        refine lm_G_sg 1 (pc' := 98) (L' := [some (.ref 1), some (.int 3), some (.int (nI w)), some (.int 0), some (.int 700), some (.int (nI j)), some (.int (encC (2, opS T 3 u)))]) (S' := [.int (nI w), .int 4, .ref 1]) (σ' := lm_T M4 v G) rfl trivial ?_
        refine lm_G_ca (j := 41) (as := [.ref 1, .int 4, .int (nI w)]) (rest := []) rfl (Or.inl rfl) (Nat.le_of_ble_eq_true rfl) (Nat.le_of_ble_eq_true rfl) (Nat.le_of_ble_eq_true rfl) (Nat.le_of_ble_eq_true rfl) rfl ?_
        refine hsub d v M4 G _ (enS T u) (K ++ c) t4 hl h54 k4 (by omega) (fun r6 c6 er6 M6 t6 k6 e6 => ?_) (fun e a er6 M6 b6 e6 => ?_)
        ·
          show lm_G X (d + (h + 3)) 41 106 0 0 101 [some (.ref 1), some (.int 3), some (.int (nI w)), some (.int 0), some (.int 700), some (.int (nI j)), some (.int (encC (2, opS T 3 u)))] [.int 1] (lm_T M6 v G) Q
          obtain ⟨p1, p2, p3⟩ := hL _ _ _ hl er6
          rw [chn_i h9 er6] at eR
          refine lm_G_br (b := ¬ 1 = 0) (t := 106) (S' := []) rfl (fun g6 => ?_) (fun g6 => absurd (Classical.not_not.mp g6) (by decide))
          refine lm_G_sg 3 (pc' := 112) (L' := [some (.ref 1), some (.int 3), some (.int (nI w)), some (.int 0), some (.int 700), some (.int (nI j)), some (.int (encC (2, opS T 3 u)))]) (S' := [.int (encC (2, opS T 3 u)), .ref 3]) (σ' := lm_T M6 v G) rfl trivial ?_
          refine lm_G_ca (j := 12) (as := [.ref 3, .int (encC (2, opS T 3 u))]) (rest := []) rfl (Or.inl rfl) (Nat.le_of_ble_eq_true rfl) (Nat.le_of_ble_eq_true rfl) (Nat.le_of_ble_eq_true rfl) (Nat.le_of_ble_eq_true rfl) rfl ?_
          refine c_addCode (x := (2, opS T 3 u)) k6 (by simp only [List.length_append] at kl3 ⊢; omega) (fun M7 k7 e7 r7 => ?_)
          show lm_G X (d + (h + 3)) 41 106 0 0 115 [some (.ref 1), some (.int 3), some (.int (nI w)), some (.int 0), some (.int 700), some (.int (nI j)), some (.int (encC (2, opS T 3 u)))] [] (lm_T M7 v G) Q
          have t7 : RT M7 T r6 := by
            obtain ⟨q1, q2, q3, q4, q5⟩ := t6
            refine ⟨⟨by rw [r7]; exact q1.1, by rw [e7.1 2 rfl]; exact q1.2⟩, ?_⟩
            rw [r7]
            exact ⟨q2, q3, q4, q5⟩
          rw [List.append_assoc, List.append_assoc, ← List.append_assoc c] at k7
          refine lm_G_sg 1 (pc' := 118) (L' := [some (.ref 1), some (.int 3), some (.int (nI w)), some (.int 0), some (.int 700), some (.int ((nI j) + 1)), some (.int (encC (2, opS T 3 u)))]) (S' := []) (σ' := lm_T M7 v G) rfl trivial ?_
          rw [nI_1]
          refine lm_G_sg 1 (pc' := 67) (L' := [some (.ref 1), some (.int 3), some (.int (nI w)), some (.int 0), some (.int 700), some (.int (nI (j + 1))), some (.int (encC (2, opS T 3 u)))]) (S' := []) (σ' := lm_T M7 v G) rfl trivial ?_
          refine lm_G_jk (L := [some (.ref 1), some (.int 3), some (.int (nI w)), some (.int 0), some (.int 700), some (.int (nI (j + 1))), none]) ⟨rfl, rfl, rfl, rfl, rfl, rfl, trivial⟩ ?_
          exact ih _ _ _ (⟨t7, p2, k7, by simp only [List.length_append, List.length_cons, List.length_nil] at kl3 ⊢; omega, FrE_tr (FrE_tr E4 e6) e7, eR⟩)
        ·
          show lm_G X (d + (h + 3)) 41 106 0 0 101 [some (.ref 1), some (.int 3), some (.int (nI w)), some (.int 0), some (.int 700), some (.int (nI j)), some (.int (encC (2, opS T 3 u)))] [.int 0] (lm_T M6 v G) Q
          refine lm_G_br (b := ¬ 0 = 0) (t := 106) (S' := []) rfl (fun g6 => absurd rfl g6) (fun g6 => ?_)
          refine lm_G_sg 1 (pc' := 105) (L' := [some (.ref 1), some (.int 3), some (.int (nI w)), some (.int 0), some (.int 700), some (.int (nI j)), some (.int (encC (2, opS T 3 u)))]) (S' := [.int 0]) (σ' := lm_T M6 v G) rfl trivial ?_
          exact lm_G_re rfl (by decide) (Nat.zero_le _) (Nat.zero_le _) (her _ _ ((by rw [← eR]; exact chn_r h9 er6)) _ b6 (FrEx_l E4 e6))
    ·
      obtain ⟨M3, u, c⟩ := zz
      replace hI : RT M3 T u ∧ u ≤ tN T ∧ CCode M3 (K ++ c) ∧ (K ++ c).length ≤ u ∧ FrE M M3 ∧ chn T 3 sub (700 - 700) u c = lvl T 3 sub p := hI
      show lm_G X (d + (h + 3)) 41 106 0 0 67 [some (.ref 1), some (.int 3), some (.int (nI w)), some (.int 0), some (.int 700), some (.int (nI 700)), none] [] (lm_T M3 v G) Q
      obtain ⟨t3, l3, k3, kl3, E3, eR⟩ := hI
      rw [Nat.sub_self] at eR
      refine lm_G_sg 2 (pc' := 71) (L' := [some (.ref 1), some (.int 3), some (.int (nI w)), some (.int 0), some (.int 700), some (.int (nI 700)), none]) (S' := [.int 700, .int (nI 700)]) (σ' := lm_T M3 v G) rfl trivial ?_
      refine lm_G_br (b := 700 ≤ (nI 700)) (t := 121) (S' := []) rfl (fun hc => ?_) (fun hc => absurd (nI_le (a := 700) (Nat.le_refl _) (by omega)) hc)
      refine lm_G_jk (L := [some (.ref 1), some (.int 3), some (.int (nI w)), some (.int 0), some (.int 700), none, none]) ⟨rfl, rfl, rfl, rfl, rfl, rfl, trivial⟩ ?_
      exact k121 _ _ _ t3 l3 k3 kl3 E3 eR.symm
    ·
      try dsimp only
      exact ⟨t2, o2, k2, by simp only [List.length_append]; omega, E2, by rw [lvl_i er2]; rfl⟩
  ·
    show lm_G X (d + (h + 3)) 41 106 0 0 45 [some (.ref 1), some (.int 3), some (.int (nI w)), some (.int 0), none, none, none] [.int 0] (lm_T M2 v G) Q
    refine lm_G_br (b := ¬ 0 = 0) (t := 50) (S' := []) rfl (fun g3 => absurd rfl g3) (fun g3 => ?_)
    refine lm_G_sg 1 (pc' := 49) (L' := [some (.ref 1), some (.int 3), some (.int (nI w)), some (.int 0), none, none, none]) (S' := [.int 0]) (σ' := lm_T M2 v G) rfl trivial ?_
    exact lm_G_re rfl (by decide) (Nat.zero_le _) (Nat.zero_le _) (her _ _ (lvl_r er2) _ b2 (FrEx_l (FrE_rf _) e2))
set_option maxRecDepth 10000 in
theorem c_lv4 {X : lm_X} {T : Tx} {J : Bool} {h w : Nat} {sub : Nat → PR} (hT : okT T) (hL : okL T sub) (hsub : ∀ d, CQ X T J (d + (h + 2)) 41 [.ref 1, .int 5, .int (nI w)] sub) : ∀ d, CQ X T J (d + (h + 3)) 41 [.ref 1, .int 4, .int (nI w)] (lvl T 4 sub) := by
  intro d v M G Q p K ht hp h5 hk hkl hok her
  show lm_G X (d + (h + 3)) 41 106 0 0 0 [some (.ref 1), some (.int 4), some (.int (nI w)), none, none, none, none] [] (lm_T M v G) Q
  have hn := hT.1
  refine lm_G_sg 2 (pc' := 2) (L' := [some (.ref 1), some (.int 4), some (.int (nI w)), none, none, none, none]) (S' := [.int 5, .int 4]) (σ' := lm_T M v G) rfl trivial ?_
  refine lm_G_br (b := 4 < 5) (t := 11) (S' := []) rfl (fun hc => ?_) (fun hc => absurd (by decide) hc)
  refine lm_G_sg 2 (pc' := 13) (L' := [some (.ref 1), some (.int 4), some (.int (nI w)), none, none, none, none]) (S' := [.int 2, .int 4]) (σ' := lm_T M v G) rfl trivial ?_
  refine lm_G_br (b := ¬ 4 = 2) (t := 23) (S' := []) rfl (fun hc => ?_) (fun hc => absurd (Classical.not_not.mp hc) (by decide))
  refine lm_G_sg 4 (pc' := 28) (L' := [some (.ref 1), some (.int 4), some (.int (nI w)), some (.int 0), none, none, none]) (S' := [.int 6, .int 0]) (σ' := lm_T M v G) rfl trivial ?_
  refine lm_G_br (b := 0 ≤ 6) (t := 37) (S' := []) rfl (fun hc => ?_) (fun hc => absurd (by decide) hc)
  refine lm_G_sg 4 (pc' := 41) (L' := [some (.ref 1), some (.int 4), some (.int (nI w)), some (.int 0), none, none, none]) (S' := [.int (4 + 1), .ref 1]) (σ' := lm_T M v G) rfl trivial ?_
  rw [show (4 : Int32) + 1 = 5 from by decide]
  refine lm_G_sg 1 (pc' := 42) (L' := [some (.ref 1), some (.int 4), some (.int (nI w)), some (.int 0), none, none, none]) (S' := [.int (nI w), .int 5, .ref 1]) (σ' := lm_T M v G) rfl trivial ?_
  refine lm_G_ca (j := 41) (as := [.ref 1, .int 5, .int (nI w)]) (rest := []) rfl (Or.inl rfl) (Nat.le_of_ble_eq_true rfl) (Nat.le_of_ble_eq_true rfl) (Nat.le_of_ble_eq_true rfl) (Nat.le_of_ble_eq_true rfl) rfl ?_
  refine hsub d v M G _ (p) (K) ht hp h5 hk (by omega) (fun r2 c2 er2 M2 t2 k2 e2 => ?_) (fun e a er2 M2 b2 e2 => ?_)
  ·
    show lm_G X (d + (h + 3)) 41 106 0 0 45 [some (.ref 1), some (.int 4), some (.int (nI w)), some (.int 0), none, none, none] [.int 1] (lm_T M2 v G) Q
    obtain ⟨o1, o2, o3⟩ := hL _ _ _ hp er2
    have E2 := FrE_tr (FrE_rf _) e2
    refine lm_G_br (b := ¬ 1 = 0) (t := 50) (S' := []) rfl (fun g3 => ?_) (fun g3 => absurd (Classical.not_not.mp g3) (by decide))
    refine lm_G_sg 2 (pc' := 52) (L' := [some (.ref 1), some (.int 4), some (.int (nI w)), some (.int 0), none, none, none]) (S' := [.int 2, .int 4]) (σ' := lm_T M2 v G) rfl trivial ?_
    refine lm_G_br (b := ¬ 4 = 2) (t := 59) (S' := []) rfl (fun hc => ?_) (fun hc => absurd (Classical.not_not.mp hc) (by decide))
    refine lm_G_sg 4 (pc' := 67) (L' := [some (.ref 1), some (.int 4), some (.int (nI w)), some (.int 0), some (.int 700), some (.int 0), none]) (S' := []) (σ' := lm_T M2 v G) rfl trivial ?_
    have k121 : ∀ (M3 : Nat → Fn) (u : Nat) (c : Cd) (t3 : RT M3 T u) (l3 : u ≤ tN T) (k3 : CCode M3 (K ++ c)) (kl3 : (K ++ c).length ≤ u) (E3 : FrE M M3) (eR : lvl T 4 sub p = .inl (u, c)), lm_G X (d + (h + 3)) 41 106 0 0 121 [some (.ref 1), some (.int 4), some (.int (nI w)), some (.int 0), some (.int 700), none, none] [] (lm_T M3 v G) Q := by
      intro M3 u c t3 l3 k3 kl3 E3 eR
      refine lm_G_sg 2 (pc' := 124) (L' := [some (.ref 1), some (.int 4), some (.int (nI w)), some (.int 0), some (.int 700), some (.int 0), none]) (S' := []) (σ' := lm_T M3 v G) rfl trivial ?_
      refine lm_G_sg 2 (pc' := 127) (L' := [some (.ref 1), some (.int 4), some (.int (nI w)), some (.int 0), some (.int 700), some (.int 0), none]) (S' := [.int 0, .int 0]) (σ' := lm_T M3 v G) rfl trivial ?_
      refine lm_G_br (b := 0 ≤ 0) (t := 145) (S' := []) rfl (fun hc => ?_) (fun hc => absurd (by decide) hc)
      refine lm_G_sg 1 (pc' := 146) (L' := [some (.ref 1), some (.int 4), some (.int (nI w)), some (.int 0), some (.int 700), some (.int 0), none]) (S' := [.int 1]) (σ' := lm_T M3 v G) rfl trivial ?_
      exact lm_G_re rfl (by decide) (Nat.zero_le _) (Nat.zero_le _) (hok _ _ eR _ t3 k3 E3)
    refine lm_ind (α := (Nat → Fn) × Nat × Cd) (St := fun (j : Nat) zz => (fun (M3 : Nat → Fn) (u : Nat) (c : Cd) => lm_G X (d + (h + 3)) 41 106 0 0 67 [some (.ref 1), some (.int 4), some (.int (nI w)), some (.int 0), some (.int 700), some (.int (nI j)), none] [] (lm_T M3 v G) Q) zz.1 zz.2.1 zz.2.2) (Inv := fun (j : Nat) zz => (fun (M3 : Nat → Fn) (u : Nat) (c : Cd) => RT M3 T u ∧ u ≤ tN T ∧ CCode M3 (K ++ c) ∧ (K ++ c).length ≤ u ∧ FrE M M3 ∧ chn T 4 sub (700 - j) u c = lvl T 4 sub p) zz.1 zz.2.1 zz.2.2) (700) (fun j zz hj hI ih => ?_) (fun zz hI => ?_) (0) (M2, r2, c2) (by omega) ?_
    ·
      obtain ⟨M3, u, c⟩ := zz
      replace hI : RT M3 T u ∧ u ≤ tN T ∧ CCode M3 (K ++ c) ∧ (K ++ c).length ≤ u ∧ FrE M M3 ∧ chn T 4 sub (700 - j) u c = lvl T 4 sub p := hI
      replace ih : ∀ (M3 : Nat → Fn) (u : Nat) (c : Cd) (_ : RT M3 T u ∧ u ≤ tN T ∧ CCode M3 (K ++ c) ∧ (K ++ c).length ≤ u ∧ FrE M M3 ∧ chn T 4 sub (700 - (j + 1)) u c = lvl T 4 sub p), lm_G X (d + (h + 3)) 41 106 0 0 67 [some (.ref 1), some (.int 4), some (.int (nI w)), some (.int 0), some (.int 700), some (.int (nI (j + 1))), none] [] (lm_T M3 v G) Q := fun M3 u c q => ih (M3, u, c) q
      show lm_G X (d + (h + 3)) 41 106 0 0 67 [some (.ref 1), some (.int 4), some (.int (nI w)), some (.int 0), some (.int 700), some (.int (nI j)), none] [] (lm_T M3 v G) Q
      obtain ⟨t3, l3, k3, kl3, E3, eR⟩ := hI
      have h53 : M3 1 5 = b2i J := (E3.2.1 5 (by omega)).trans h5
      refine lm_G_sg 2 (pc' := 71) (L' := [some (.ref 1), some (.int 4), some (.int (nI w)), some (.int 0), some (.int 700), some (.int (nI j)), none]) (S' := [.int 700, .int (nI j)]) (σ' := lm_T M3 v G) rfl trivial ?_
      refine lm_G_br (b := 700 ≤ (nI j)) (t := 121) (S' := []) rfl (fun hc => absurd hc (nI_ge (b := 700) hj (by omega))) (fun hc => ?_)
      refine lm_G_sg 2 (pc' := 76) (L' := [some (.ref 1), some (.int 4), some (.int (nI w)), some (.int 0), some (.int 700), some (.int (nI j)), none]) (S' := [.int 4, .ref 1]) (σ' := lm_T M3 v G) rfl trivial ?_
      refine lm_G_ca (j := 43) (as := [.ref 1, .int 4]) (rest := []) rfl (Or.inl rfl) (Nat.le_of_ble_eq_true rfl) (Nat.le_of_ble_eq_true rfl) (Nat.le_of_ble_eq_true rfl) (Nat.le_of_ble_eq_true rfl) rfl ?_
      refine c_op4 hT t3 l3 ?_
      show lm_G X (d + (h + 3)) 41 106 0 0 79 [some (.ref 1), some (.int 4), some (.int (nI w)), some (.int 0), some (.int 700), some (.int (nI j)), none] [.int (opI T 4 u)] (lm_T M3 v G) Q
      refine lm_G_br (b := (opI T 4 u) = 0) (t := 121) (S' := []) rfl (fun g5 => ?_) (fun g5 => ?_)
      ·
        refine lm_G_jk (L := [some (.ref 1), some (.int 4), some (.int (nI w)), some (.int 0), some (.int 700), none, none]) ⟨rfl, rfl, rfl, rfl, rfl, rfl, trivial⟩ ?_
        exact k121 _ _ _ t3 l3 k3 kl3 E3 (by rw [← eR]; exact chn_9 (opI_0.mp g5))
      ·
        have h9 : ¬ opS T 4 u = 9 := fun w => g5 (opI_0.mpr w)
        have hg := en_gt l3 (op_kn h9)
        have hl := (en_le l3).2.1
        have ef : 700 - j = (700 - (j + 1)) + 1 := by omega
        rw [ef] at eR
        refine lm_G_sg 2 (pc' := 84) (L' := [some (.ref 1), some (.int 4), some (.int (nI w)), some (.int 0), some (.int 700), some (.int (nI j)), none]) (S' := [.int 4, .ref 1]) (σ' := lm_T M3 v G) rfl trivial ?_
        refine lm_G_ca (j := 43) (as := [.ref 1, .int 4]) (rest := []) rfl (Or.inl rfl) (Nat.le_of_ble_eq_true rfl) (Nat.le_of_ble_eq_true rfl) (Nat.le_of_ble_eq_true rfl) (Nat.le_of_ble_eq_true rfl) rfl ?_
        refine c_op4 hT t3 l3 ?_
        show lm_G X (d + (h + 3)) 41 106 0 0 87 [some (.ref 1), some (.int 4), some (.int (nI w)), some (.int 0), some (.int 700), some (.int (nI j)), none] [.int (opI T 4 u)] (lm_T M3 v G) Q
        rw [show opI T 4 u = encC (2, opS T 4 u) from if_neg h9]
        refine lm_G_sg 2 (pc' := 90) (L' := [some (.ref 1), some (.int 4), some (.int (nI w)), some (.int 0), some (.int 700), some (.int (nI j)), some (.int (encC (2, opS T 4 u)))]) (S' := [.ref 1]) (σ' := lm_T M3 v G) rfl trivial ?_
        refine lm_G_ca (j := 26) (as := [.ref 1]) (rest := []) rfl (Or.inl rfl) (Nat.le_of_ble_eq_true rfl) (Nat.le_of_ble_eq_true rfl) (Nat.le_of_ble_eq_true rfl) (Nat.le_of_ble_eq_true rfl) rfl ?_
        refine c_nextToken hT t3.1 hl t3.2.2.2.1 (fun M4 t4 f4 => ?_)
        show lm_G X (d + (h + 3)) 41 106 0 0 93 [some (.ref 1), some (.int 4), some (.int (nI w)), some (.int 0), some (.int 700), some (.int (nI j)), some (.int (encC (2, opS T 4 u)))] [] (lm_T M4 v G) Q
        have k4 := CC_R k3 f4
        have E4 := FrE_tr E3 (FrE_R f4)
        have h54 : M4 1 5 = b2i J := (E4.2.1 5 (by omega)).trans h5
        refine lm_G_sg 4 (pc' := 97) (L' := [some (.ref 1), some (.int 4), some (.int (nI w)), some (.int 0), some (.int 700), some (.int (nI j)), some (.int (encC (2, opS T 4 u)))]) (S' := [.int (4 + 1), .ref 1]) (σ' := lm_T M4 v G) rfl trivial ?_
        rw [show (4 : Int32) + 1 = 5 from by decide]
        refine lm_G_sg 1 (pc' := 98) (L' := [some (.ref 1), some (.int 4), some (.int (nI w)), some (.int 0), some (.int 700), some (.int (nI j)), some (.int (encC (2, opS T 4 u)))]) (S' := [.int (nI w), .int 5, .ref 1]) (σ' := lm_T M4 v G) rfl trivial ?_
        refine lm_G_ca (j := 41) (as := [.ref 1, .int 5, .int (nI w)]) (rest := []) rfl (Or.inl rfl) (Nat.le_of_ble_eq_true rfl) (Nat.le_of_ble_eq_true rfl) (Nat.le_of_ble_eq_true rfl) (Nat.le_of_ble_eq_true rfl) rfl ?_
        refine hsub d v M4 G _ (enS T u) (K ++ c) t4 hl h54 k4 (by omega) (fun r6 c6 er6 M6 t6 k6 e6 => ?_) (fun e a er6 M6 b6 e6 => ?_)
        ·
          show lm_G X (d + (h + 3)) 41 106 0 0 101 [some (.ref 1), some (.int 4), some (.int (nI w)), some (.int 0), some (.int 700), some (.int (nI j)), some (.int (encC (2, opS T 4 u)))] [.int 1] (lm_T M6 v G) Q
          obtain ⟨p1, p2, p3⟩ := hL _ _ _ hl er6
          rw [chn_i h9 er6] at eR
          refine lm_G_br (b := ¬ 1 = 0) (t := 106) (S' := []) rfl (fun g6 => ?_) (fun g6 => absurd (Classical.not_not.mp g6) (by decide))
          refine lm_G_sg 3 (pc' := 112) (L' := [some (.ref 1), some (.int 4), some (.int (nI w)), some (.int 0), some (.int 700), some (.int (nI j)), some (.int (encC (2, opS T 4 u)))]) (S' := [.int (encC (2, opS T 4 u)), .ref 3]) (σ' := lm_T M6 v G) rfl trivial ?_
          refine lm_G_ca (j := 12) (as := [.ref 3, .int (encC (2, opS T 4 u))]) (rest := []) rfl (Or.inl rfl) (Nat.le_of_ble_eq_true rfl) (Nat.le_of_ble_eq_true rfl) (Nat.le_of_ble_eq_true rfl) (Nat.le_of_ble_eq_true rfl) rfl ?_
          refine c_addCode (x := (2, opS T 4 u)) k6 (by simp only [List.length_append] at kl3 ⊢; omega) (fun M7 k7 e7 r7 => ?_)
          show lm_G X (d + (h + 3)) 41 106 0 0 115 [some (.ref 1), some (.int 4), some (.int (nI w)), some (.int 0), some (.int 700), some (.int (nI j)), some (.int (encC (2, opS T 4 u)))] [] (lm_T M7 v G) Q
          have t7 : RT M7 T r6 := by
            obtain ⟨q1, q2, q3, q4, q5⟩ := t6
            refine ⟨⟨by rw [r7]; exact q1.1, by rw [e7.1 2 rfl]; exact q1.2⟩, ?_⟩
            rw [r7]
            exact ⟨q2, q3, q4, q5⟩
          rw [List.append_assoc, List.append_assoc, ← List.append_assoc c] at k7
          refine lm_G_sg 1 (pc' := 118) (L' := [some (.ref 1), some (.int 4), some (.int (nI w)), some (.int 0), some (.int 700), some (.int ((nI j) + 1)), some (.int (encC (2, opS T 4 u)))]) (S' := []) (σ' := lm_T M7 v G) rfl trivial ?_
          rw [nI_1]
          refine lm_G_sg 1 (pc' := 67) (L' := [some (.ref 1), some (.int 4), some (.int (nI w)), some (.int 0), some (.int 700), some (.int (nI (j + 1))), some (.int (encC (2, opS T 4 u)))]) (S' := []) (σ' := lm_T M7 v G) rfl trivial ?_
          refine lm_G_jk (L := [some (.ref 1), some (.int 4), some (.int (nI w)), some (.int 0), some (.int 700), some (.int (nI (j + 1))), none]) ⟨rfl, rfl, rfl, rfl, rfl, rfl, trivial⟩ ?_
          exact ih _ _ _ (⟨t7, p2, k7, by simp only [List.length_append, List.length_cons, List.length_nil] at kl3 ⊢; omega, FrE_tr (FrE_tr E4 e6) e7, eR⟩)
        ·
          show lm_G X (d + (h + 3)) 41 106 0 0 101 [some (.ref 1), some (.int 4), some (.int (nI w)), some (.int 0), some (.int 700), some (.int (nI j)), some (.int (encC (2, opS T 4 u)))] [.int 0] (lm_T M6 v G) Q
          refine lm_G_br (b := ¬ 0 = 0) (t := 106) (S' := []) rfl (fun g6 => absurd rfl g6) (fun g6 => ?_)
          refine lm_G_sg 1 (pc' := 105) (L' := [some (.ref 1), some (.int 4), some (.int (nI w)), some (.int 0), some (.int 700), some (.int (nI j)), some (.int (encC (2, opS T 4 u)))]) (S' := [.int 0]) (σ' := lm_T M6 v G) rfl trivial ?_
          exact lm_G_re rfl (by decide) (Nat.zero_le _) (Nat.zero_le _) (her _ _ ((by rw [← eR]; exact chn_r h9 er6)) _ b6 (FrEx_l E4 e6))
    ·
      obtain ⟨M3, u, c⟩ := zz
      replace hI : RT M3 T u ∧ u ≤ tN T ∧ CCode M3 (K ++ c) ∧ (K ++ c).length ≤ u ∧ FrE M M3 ∧ chn T 4 sub (700 - 700) u c = lvl T 4 sub p := hI
      show lm_G X (d + (h + 3)) 41 106 0 0 67 [some (.ref 1), some (.int 4), some (.int (nI w)), some (.int 0), some (.int 700), some (.int (nI 700)), none] [] (lm_T M3 v G) Q
      obtain ⟨t3, l3, k3, kl3, E3, eR⟩ := hI
      rw [Nat.sub_self] at eR
      refine lm_G_sg 2 (pc' := 71) (L' := [some (.ref 1), some (.int 4), some (.int (nI w)), some (.int 0), some (.int 700), some (.int (nI 700)), none]) (S' := [.int 700, .int (nI 700)]) (σ' := lm_T M3 v G) rfl trivial ?_
      refine lm_G_br (b := 700 ≤ (nI 700)) (t := 121) (S' := []) rfl (fun hc => ?_) (fun hc => absurd (nI_le (a := 700) (Nat.le_refl _) (by omega)) hc)
      refine lm_G_jk (L := [some (.ref 1), some (.int 4), some (.int (nI w)), some (.int 0), some (.int 700), none, none]) ⟨rfl, rfl, rfl, rfl, rfl, rfl, trivial⟩ ?_
      exact k121 _ _ _ t3 l3 k3 kl3 E3 eR.symm
    ·
      try dsimp only
      exact ⟨t2, o2, k2, by simp only [List.length_append]; omega, E2, by rw [lvl_i er2]; rfl⟩
  ·
    show lm_G X (d + (h + 3)) 41 106 0 0 45 [some (.ref 1), some (.int 4), some (.int (nI w)), some (.int 0), none, none, none] [.int 0] (lm_T M2 v G) Q
    refine lm_G_br (b := ¬ 0 = 0) (t := 50) (S' := []) rfl (fun g3 => absurd rfl g3) (fun g3 => ?_)
    refine lm_G_sg 1 (pc' := 49) (L' := [some (.ref 1), some (.int 4), some (.int (nI w)), some (.int 0), none, none, none]) (S' := [.int 0]) (σ' := lm_T M2 v G) rfl trivial ?_
    exact lm_G_re rfl (by decide) (Nat.zero_le _) (Nat.zero_le _) (her _ _ (lvl_r er2) _ b2 (FrEx_l (FrE_rf _) e2))
set_option maxRecDepth 10000 in
theorem c_lv5 {X : lm_X} {T : Tx} {J : Bool} {h w : Nat} {sub : Nat → PR} (hsub : ∀ d, CQ X T J (d + (h + 2)) 44 [.ref 1, .int (nI w)] sub) : ∀ d, CQ X T J (d + (h + 3)) 41 [.ref 1, .int 5, .int (nI w)] sub := by
  intro d v M G Q p K ht hp h5 hk hkl hok her
  show lm_G X (d + (h + 3)) 41 106 0 0 0 [some (.ref 1), some (.int 5), some (.int (nI w)), none, none, none, none] [] (lm_T M v G) Q
  refine lm_G_sg 2 (pc' := 2) (L' := [some (.ref 1), some (.int 5), some (.int (nI w)), none, none, none, none]) (S' := [.int 5, .int 5]) (σ' := lm_T M v G) rfl trivial ?_
  refine lm_G_br (b := 5 < 5) (t := 11) (S' := []) rfl (fun hc => absurd hc (by decide)) (fun hc => ?_)
  refine lm_G_sg 2 (pc' := 7) (L' := [some (.ref 1), some (.int 5), some (.int (nI w)), none, none, none, none]) (S' := [.int (nI w), .ref 1]) (σ' := lm_T M v G) rfl trivial ?_
  refine lm_G_ca (j := 44) (as := [.ref 1, .int (nI w)]) (rest := []) rfl (Or.inl rfl) (Nat.le_of_ble_eq_true rfl) (Nat.le_of_ble_eq_true rfl) (Nat.le_of_ble_eq_true rfl) (Nat.le_of_ble_eq_true rfl) rfl ?_
  refine hsub d v M G _ p K ht hp h5 hk hkl (fun r c er M2 t2 k2 e2 => ?_) (fun e a er M2 b2 e2 => ?_)
  ·
    show lm_G X (d + (h + 3)) 41 106 0 0 10 [some (.ref 1), some (.int 5), some (.int (nI w)), none, none, none, none] [.int 1] (lm_T M2 v G) Q
    exact lm_G_re rfl (by decide) (Nat.zero_le _) (Nat.zero_le _) (hok _ _ er _ t2 k2 e2)
  ·
    show lm_G X (d + (h + 3)) 41 106 0 0 10 [some (.ref 1), some (.int 5), some (.int (nI w)), none, none, none, none] [.int 0] (lm_T M2 v G) Q
    exact lm_G_re rfl (by decide) (Nat.zero_le _) (Nat.zero_le _) (her _ _ er _ b2 e2)
theorem c_expr {X : lm_X} {T : Tx} {J : Bool} (hT : okT T) : ∀ f, f ≤ 5 → ∀ d, CQ X T J (d + (8 + 7 * f)) 41 [.ref 1, .int 0, .int (nI (5 - f))] (pE T J f)
  | 0, _ => by
    have hp := c_readPart (X := X) (T := T) (J := J) (h := 0) (w := 5) (rec := fun _ => .inr (0, 0)) hT (by omega) (fun w => by cases w) (fun w => by omega)
    have l0 : okL T (ptS T J (decide (5 ≤ 5)) (fun _ => .inr (0, 0))) := okL_pt (fun w => by cases w)
    have a5 := c_lv5 (h := 0) hp
    have a4 := c_lv4 (h := 1) hT l0 a5
    have a3 := c_lv3 (h := 2) hT (okL_lvl l0) a4
    have a2 := c_lv2 (h := 3) hT (okL_lvl (okL_lvl l0)) a3
    have a1 := c_lv1 (h := 4) hT (okL_tst (okL_lvl (okL_lvl l0))) a2
    exact c_lv0 (h := 5) hT (okL_lvl (okL_tst (okL_lvl (okL_lvl l0)))) a1
  | f + 1, hf => by
    have ih := c_expr (X := X) (J := J) hT f (by omega)
    have edp : decide (5 ≤ 5 - (f + 1)) = false := decide_eq_false (by omega)
    have hp := c_readPart (X := X) (T := T) (J := J) (h := 7 + 7 * f) (w := 5 - (f + 1)) (rec := pE T J f) hT (by omega) (fun _ => okL_pE f) (fun _ d => by
      have := ih d
      rw [show 8 + 7 * f = 7 + 7 * f + 1 by omega, show 5 - f = 5 - (f + 1) + 1 by omega] at this
      exact this)
    rw [edp] at hp
    have l0 : okL T (ptS T J false (pE T J f)) := okL_pt (fun _ => okL_pE f)
    have a5 := c_lv5 (h := 7 + 7 * f) hp
    have a4 := c_lv4 (h := 8 + 7 * f) hT l0 (fun d => by have := a5 d; rw [show 7 + 7 * f + 3 = 8 + 7 * f + 2 by omega] at this; exact this)
    have a3 := c_lv3 (h := 9 + 7 * f) hT (okL_lvl l0) (fun d => by have := a4 d; rw [show 8 + 7 * f + 3 = 9 + 7 * f + 2 by omega] at this; exact this)
    have a2 := c_lv2 (h := 10 + 7 * f) hT (okL_lvl (okL_lvl l0)) (fun d => by have := a3 d; rw [show 9 + 7 * f + 3 = 10 + 7 * f + 2 by omega] at this; exact this)
    have a1 := c_lv1 (h := 11 + 7 * f) hT (okL_tst (okL_lvl (okL_lvl l0))) (fun d => by have := a2 d; rw [show 10 + 7 * f + 3 = 11 + 7 * f + 2 by omega] at this; exact this)
    have a0 := c_lv0 (h := 12 + 7 * f) hT (okL_lvl (okL_tst (okL_lvl (okL_lvl l0)))) (fun d => by have := a1 d; rw [show 11 + 7 * f + 3 = 12 + 7 * f + 2 by omega] at this; exact this)
    intro d
    have := a0 d
    rw [show 12 + 7 * f + 3 = 8 + 7 * (f + 1) by omega] at this
    exact this
