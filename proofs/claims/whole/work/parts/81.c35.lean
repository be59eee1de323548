/-! ===== contracts: the model reads an expression, level by level ===== -/
theorem op_w0 {T : Tx} {u : Nat} (h : ¬ opS T 0 u = 9) : opS T 0 u = 8 := by
  unfold opS at h ⊢
  simp only at h ⊢
  split at h
  · rename_i q; rw [if_pos q]
  · exact absurd rfl h
theorem op_w1 {T : Tx} {u : Nat} (h : ¬ opS T 1 u = 9) : opS T 1 u = 7 := by
  unfold opS at h ⊢
  simp only at h ⊢
  split at h
  · rename_i q; rw [if_pos q]
  · exact absurd rfl h
set_option maxRecDepth 10000 in
theorem m_readProduct {X : lm_X} {T : Tx} {J : Bool} {h w : Nat} {sub : Nat → PR} (hT : okT T) (hL : okL T sub) (hsub : ∀ d, MQe X T J (d + (h + 2)) 162 [.ref 64, .int (nI w)] sub) : ∀ d, MQe X T J (d + (h + 3)) 163 [.ref 64, .int (nI w)] (lvl T 4 sub) := by
  refine fun d => ⟨?_, m_prB (hsub d).2⟩
  intro M G Q p K hg hp h28 hk hkl hok her
  show lm_G X (d + (h + 3)) 163 106 0 0 0 [some (.ref 64), some (.int (nI w)), none] [] (lm_T M (vvJ J) G) Q
  have hn := hT.1
  refine lm_G_sg 2 (pc' := 2) (L' := [some (.ref 64), some (.int (nI w)), none]) (S' := [.int (nI w), .ref 64]) (σ' := lm_T M (vvJ J) G) rfl trivial ?_
  have kB : ∀ (M9 : Nat → Fn) (e9 : Nat) (a9 : Nat) (z9 : ¬ M9 64 25 = 0) (b9 : BM M9 e9 a9) (f9 : FrP M M9) (q9 : lvl T 4 sub p = .inr (e9, a9)), lm_G X (d + (h + 3)) 163 106 0 0 5 [some (.ref 64), some (.int (nI w)), none] [] (lm_T M9 (vvJ J) G) Q := by
    intro M9 e9 a9 z9 b9 f9 q9
    refine lm_G_sg 2 (pc' := 8) (L' := [some (.ref 64), some (.int (nI w)), none]) (S' := [.int 42, .ref 64]) (σ' := lm_T M9 (vvJ J) G) rfl trivial ?_
    refine lm_G_ca (j := 157) (as := [.ref 64, .int 42]) (rest := []) rfl (Or.inl rfl) (Nat.le_of_ble_eq_true rfl) (Nat.le_of_ble_eq_true rfl) (Nat.le_of_ble_eq_true rfl) (Nat.le_of_ble_eq_true rfl) rfl ?_
    refine m_isMarkedB (c := 42) z9 ?_
    show lm_G X (d + (h + 3)) 163 106 0 0 11 [some (.ref 64), some (.int (nI w)), none] [.int 0] (lm_T M9 (vvJ J) G) Q
    refine lm_G_br (b := ¬ 0 = 0) (t := 23) (S' := []) rfl (fun hc => absurd rfl hc) (fun hc => ?_)
    refine lm_G_sg 2 (pc' := 17) (L' := [some (.ref 64), some (.int (nI w)), none]) (S' := [.int 47, .ref 64]) (σ' := lm_T M9 (vvJ J) G) rfl trivial ?_
    refine lm_G_ca (j := 157) (as := [.ref 64, .int 47]) (rest := []) rfl (Or.inl rfl) (Nat.le_of_ble_eq_true rfl) (Nat.le_of_ble_eq_true rfl) (Nat.le_of_ble_eq_true rfl) (Nat.le_of_ble_eq_true rfl) rfl ?_
    refine m_isMarkedB (c := 47) z9 ?_
    show lm_G X (d + (h + 3)) 163 106 0 0 20 [some (.ref 64), some (.int (nI w)), none] [.int 0] (lm_T M9 (vvJ J) G) Q
    refine lm_G_br (b := 0 = 0) (t := 57) (S' := []) rfl (fun hc => ?_) (fun hc => absurd rfl hc)
    exact lm_G_re rfl trivial (Nat.zero_le _) (Nat.zero_le _) (her _ _ q9 _ b9 z9 f9)
  refine lm_G_ca (j := 162) (as := [.ref 64, .int (nI w)]) (rest := []) rfl (Or.inl rfl) (Nat.le_of_ble_eq_true rfl) (Nat.le_of_ble_eq_true rfl) (Nat.le_of_ble_eq_true rfl) (Nat.le_of_ble_eq_true rfl) rfl ?_
  refine (hsub d).1 M G _ (p) (K) hg hp h28 hk hkl (fun r2 c2 er2 M2 g2 k2 f2 => ?_) (fun e2 a2 er2 M2 b2 z2 f2 => ?_)
  ·
    show lm_G X (d + (h + 3)) 163 106 0 0 5 [some (.ref 64), some (.int (nI w)), none] [] (lm_T M2 (vvJ J) G) Q
    obtain ⟨o1, o2, o3⟩ := hL _ _ _ hp er2
    refine lm_ind (α := (Nat → Fn) × Nat × Cd) (St := fun (j : Nat) zz => (fun (M3 : Nat → Fn) (u : Nat) (c : Cd) => lm_G X (d + (h + 3)) 163 106 0 0 5 [some (.ref 64), some (.int (nI w)), none] [] (lm_T M3 (vvJ J) G) Q) zz.1 zz.2.1 zz.2.2) (Inv := fun (j : Nat) zz => (fun (M3 : Nat → Fn) (u : Nat) (c : Cd) => GM M3 T u ∧ u ≤ tN T ∧ MCode M3 J (K ++ c) ∧ (K ++ c).length ≤ u ∧ 2 * j ≤ u ∧ FrJ J M M3 ∧ chn T 4 sub (700 - j) u c = lvl T 4 sub p) zz.1 zz.2.1 zz.2.2) (700) (fun j zz hj hI ih => ?_) (fun zz hI => ?_) (0) (M2, r2, c2) (by omega) ?_
    ·
      obtain ⟨M3, u, c⟩ := zz
      replace hI : GM M3 T u ∧ u ≤ tN T ∧ MCode M3 J (K ++ c) ∧ (K ++ c).length ≤ u ∧ 2 * j ≤ u ∧ FrJ J M M3 ∧ chn T 4 sub (700 - j) u c = lvl T 4 sub p := hI
      replace ih : ∀ (M3 : Nat → Fn) (u : Nat) (c : Cd) (_ : GM M3 T u ∧ u ≤ tN T ∧ MCode M3 J (K ++ c) ∧ (K ++ c).length ≤ u ∧ 2 * (j + 1) ≤ u ∧ FrJ J M M3 ∧ chn T 4 sub (700 - (j + 1)) u c = lvl T 4 sub p), lm_G X (d + (h + 3)) 163 106 0 0 5 [some (.ref 64), some (.int (nI w)), none] [] (lm_T M3 (vvJ J) G) Q := fun M3 u c q => ih (M3, u, c) q
      show lm_G X (d + (h + 3)) 163 106 0 0 5 [some (.ref 64), some (.int (nI w)), none] [] (lm_T M3 (vvJ J) G) Q
      obtain ⟨g3, l3, k3, kl3, j3, F3, eR⟩ := hI
      have h283 : M3 64 28 = b2i J := ((F3.2.1 28 (by decide) (by decide) (by decide) (by decide) (by decide) (by decide) (by decide)).trans h28)
      have k40 : ∀ (h9 : ¬ opS T 4 u = 9), lm_G X (d + (h + 3)) 163 106 0 0 40 [some (.ref 64), some (.int (nI w)), some (.int (encM (2, opS T 4 u)))] [] (lm_T M3 (vvJ J) G) Q := by
        intro h9
        have hg_ := en_gt l3 (op_kn h9)
        have hl := (en_le l3).2.1
        have ef : 700 - j = (700 - (j + 1)) + 1 := by omega
        rw [ef] at eR
        refine lm_G_sg 1 (pc' := 41) (L' := [some (.ref 64), some (.int (nI w)), some (.int (encM (2, opS T 4 u)))]) (S' := [.ref 64]) (σ' := lm_T M3 (vvJ J) G) rfl trivial ?_
        refine lm_G_ca (j := 153) (as := [.ref 64]) (rest := []) rfl (Or.inl rfl) (Nat.le_of_ble_eq_true rfl) (Nat.le_of_ble_eq_true rfl) (Nat.le_of_ble_eq_true rfl) (Nat.le_of_ble_eq_true rfl) rfl ?_
        refine m_stepOn (p := enS T u) hT g3.1.1 hl g3.1.2.2.2.2.1 (fun M4 r4 f4 => ?_)
        show lm_G X (d + (h + 3)) 163 106 0 0 44 [some (.ref 64), some (.int (nI w)), some (.int (encM (2, opS T 4 u)))] [] (lm_T M4 (vvJ J) G) Q
        have g4 : GM M4 T (enS T u) := ⟨r4, (f4.2 25 (by decide) (by decide) (by decide) (by decide) (by decide)).trans g3.2⟩
        have k4 := MC_K k3 f4
        have F4 := FrJ_tr F3 (FrJ_K f4)
        have h284 : M4 64 28 = b2i J := ((F4.2.1 28 (by decide) (by decide) (by decide) (by decide) (by decide) (by decide) (by decide)).trans h28)
        refine lm_G_sg 2 (pc' := 46) (L' := [some (.ref 64), some (.int (nI w)), some (.int (encM (2, opS T 4 u)))]) (S' := [.int (nI w), .ref 64]) (σ' := lm_T M4 (vvJ J) G) rfl trivial ?_
        refine lm_G_ca (j := 162) (as := [.ref 64, .int (nI w)]) (rest := []) rfl (Or.inl rfl) (Nat.le_of_ble_eq_true rfl) (Nat.le_of_ble_eq_true rfl) (Nat.le_of_ble_eq_true rfl) (Nat.le_of_ble_eq_true rfl) rfl ?_
        refine (hsub d).1 M4 G _ (enS T u) (K ++ c) g4 hl h284 k4 (by omega) (fun r6 c6 er6 M6 g6 k6 f6 => ?_) (fun e6 a6 er6 M6 b6 z6 f6 => ?_)
        ·
          show lm_G X (d + (h + 3)) 163 106 0 0 49 [some (.ref 64), some (.int (nI w)), some (.int (encM (2, opS T 4 u)))] [] (lm_T M6 (vvJ J) G) Q
          obtain ⟨p1, p2, p3⟩ := hL _ _ _ hl er6
          rw [chn_i h9 er6] at eR
          have F6 := FrJ_tr F4 f6
          have h286 : M6 64 28 = b2i J := ((F6.2.1 28 (by decide) (by decide) (by decide) (by decide) (by decide) (by decide) (by decide)).trans h28)
          refine lm_G_sg 2 (pc' := 51) (L' := [some (.ref 64), some (.int (nI w)), some (.int (encM (2, opS T 4 u)))]) (S' := [.int (encM (2, opS T 4 u)), .ref 64]) (σ' := lm_T M6 (vvJ J) G) rfl trivial ?_
          refine lm_G_ca (j := 161) (as := [.ref 64, .int (encM (2, opS T 4 u))]) (rest := []) rfl (Or.inl rfl) (Nat.le_of_ble_eq_true rfl) (Nat.le_of_ble_eq_true rfl) (Nat.le_of_ble_eq_true rfl) (Nat.le_of_ble_eq_true rfl) rfl ?_
          refine m_lay (x := (2, opS T 4 u)) g6 h286 k6 (by simp only [List.length_append] at kl3 ⊢; omega) (fun M7 g7 k7 f7 => ?_)
          show lm_G X (d + (h + 3)) 163 106 0 0 54 [some (.ref 64), some (.int (nI w)), some (.int (encM (2, opS T 4 u)))] [] (lm_T M7 (vvJ J) G) Q
          rw [List.append_assoc, List.append_assoc, ← List.append_assoc c] at k7
          refine lm_G_sg 1 (pc' := 5) (L' := [some (.ref 64), some (.int (nI w)), some (.int (encM (2, opS T 4 u)))]) (S' := []) (σ' := lm_T M7 (vvJ J) G) rfl trivial ?_
          refine lm_G_jk (L := [some (.ref 64), some (.int (nI w)), none]) ⟨rfl, rfl, trivial⟩ ?_
          exact ih _ _ _ (⟨g7, p2, k7, by simp only [List.length_append, List.length_cons, List.length_nil] at kl3 ⊢; omega, by omega, FrJ_tr F6 f7, eR⟩)
        ·
          show lm_G X (d + (h + 3)) 163 106 0 0 49 [some (.ref 64), some (.int (nI w)), some (.int (encM (2, opS T 4 u)))] [] (lm_T M6 (vvJ J) G) Q
          refine lm_G_sg 2 (pc' := 51) (L' := [some (.ref 64), some (.int (nI w)), some (.int (encM (2, opS T 4 u)))]) (S' := [.int (encM (2, opS T 4 u)), .ref 64]) (σ' := lm_T M6 (vvJ J) G) rfl trivial ?_
          refine lm_G_ca (j := 161) (as := [.ref 64, .int (encM (2, opS T 4 u))]) (rest := []) rfl (Or.inl rfl) (Nat.le_of_ble_eq_true rfl) (Nat.le_of_ble_eq_true rfl) (Nat.le_of_ble_eq_true rfl) (Nat.le_of_ble_eq_true rfl) rfl ?_
          refine m_layB z6 ?_
          show lm_G X (d + (h + 3)) 163 106 0 0 54 [some (.ref 64), some (.int (nI w)), some (.int (encM (2, opS T 4 u)))] [] (lm_T M6 (vvJ J) G) Q
          refine lm_G_sg 1 (pc' := 5) (L' := [some (.ref 64), some (.int (nI w)), some (.int (encM (2, opS T 4 u)))]) (S' := []) (σ' := lm_T M6 (vvJ J) G) rfl trivial ?_
          refine lm_G_jk (L := [some (.ref 64), some (.int (nI w)), none]) ⟨rfl, rfl, trivial⟩ ?_
          exact kB _ _ _ z6 b6 (FrP_tr (FrP_J F4) f6) (by rw [← eR]; exact chn_r h9 er6)
      refine lm_G_sg 2 (pc' := 8) (L' := [some (.ref 64), some (.int (nI w)), none]) (S' := [.int 42, .ref 64]) (σ' := lm_T M3 (vvJ J) G) rfl trivial ?_
      refine lm_G_ca (j := 157) (as := [.ref 64, .int 42]) (rest := []) rfl (Or.inl rfl) (Nat.le_of_ble_eq_true rfl) (Nat.le_of_ble_eq_true rfl) (Nat.le_of_ble_eq_true rfl) (Nat.le_of_ble_eq_true rfl) rfl ?_
      refine m_isMarked (c := 42) hT l3 g3 (by decide) (by omega) ?_
      show lm_G X (d + (h + 3)) 163 106 0 0 11 [some (.ref 64), some (.int (nI w)), none] [.int (b2i (isSg T u 42))] (lm_T M3 (vvJ J) G) Q
      refine lm_G_br (b := ¬ (b2i (isSg T u 42)) = 0) (t := 23) (S' := []) rfl (fun s1 => ?_) (fun s1 => ?_)
      ·
        refine lm_G_sg 2 (pc' := 26) (L' := [some (.ref 64), some (.int (nI w)), none]) (S' := [.int 42, .ref 64]) (σ' := lm_T M3 (vvJ J) G) rfl trivial ?_
        refine lm_G_ca (j := 157) (as := [.ref 64, .int 42]) (rest := []) rfl (Or.inl rfl) (Nat.le_of_ble_eq_true rfl) (Nat.le_of_ble_eq_true rfl) (Nat.le_of_ble_eq_true rfl) (Nat.le_of_ble_eq_true rfl) rfl ?_
        refine m_isMarked (c := 42) hT l3 g3 (by decide) (by omega) ?_
        show lm_G X (d + (h + 3)) 163 106 0 0 29 [some (.ref 64), some (.int (nI w)), none] [.int (b2i (isSg T u 42))] (lm_T M3 (vvJ J) G) Q
        refine lm_G_br (b := (b2i (isSg T u 42)) = 0) (t := 37) (S' := []) rfl (fun hc => absurd hc (by rw [b2i_1 s1]; decide)) (fun hc => ?_)
        have eo : opS T 4 u = 2 := by simp [opS, b2i_1 s1]
        refine lm_G_sg 3 (pc' := 40) (L' := [some (.ref 64), some (.int (nI w)), some (.int (-22))]) (S' := []) (σ' := lm_T M3 (vvJ J) G) rfl trivial ?_
        have k_ := k40 (by rw [eo]; decide)
        rw [show encM (2, opS T 4 u) = -22 from by rw [eo]; decide] at k_
        exact k_ 
      ·
        refine lm_G_sg 2 (pc' := 17) (L' := [some (.ref 64), some (.int (nI w)), none]) (S' := [.int 47, .ref 64]) (σ' := lm_T M3 (vvJ J) G) rfl trivial ?_
        refine lm_G_ca (j := 157) (as := [.ref 64, .int 47]) (rest := []) rfl (Or.inl rfl) (Nat.le_of_ble_eq_true rfl) (Nat.le_of_ble_eq_true rfl) (Nat.le_of_ble_eq_true rfl) (Nat.le_of_ble_eq_true rfl) rfl ?_
        refine m_isMarked (c := 47) hT l3 g3 (by decide) (by omega) ?_
        show lm_G X (d + (h + 3)) 163 106 0 0 20 [some (.ref 64), some (.int (nI w)), none] [.int (b2i (isSg T u 47))] (lm_T M3 (vvJ J) G) Q
        refine lm_G_br (b := (b2i (isSg T u 47)) = 0) (t := 57) (S' := []) rfl (fun s2 => ?_) (fun s2 => ?_)
        rotate_left
        ·
          refine lm_G_sg 2 (pc' := 26) (L' := [some (.ref 64), some (.int (nI w)), none]) (S' := [.int 42, .ref 64]) (σ' := lm_T M3 (vvJ J) G) rfl trivial ?_
          refine lm_G_ca (j := 157) (as := [.ref 64, .int 42]) (rest := []) rfl (Or.inl rfl) (Nat.le_of_ble_eq_true rfl) (Nat.le_of_ble_eq_true rfl) (Nat.le_of_ble_eq_true rfl) (Nat.le_of_ble_eq_true rfl) rfl ?_
          refine m_isMarked (c := 42) hT l3 g3 (by decide) (by omega) ?_
          show lm_G X (d + (h + 3)) 163 106 0 0 29 [some (.ref 64), some (.int (nI w)), none] [.int (b2i (isSg T u 42))] (lm_T M3 (vvJ J) G) Q
          refine lm_G_br (b := (b2i (isSg T u 42)) = 0) (t := 37) (S' := []) rfl (fun hc => ?_) (fun hc => absurd (by rw [b2i_0 (Classical.not_not.mp s1)]; rfl) hc)
          have eo : opS T 4 u = 3 := by simp [opS, b2i_0 (Classical.not_not.mp s1), b2i_1 s2]
          refine lm_G_sg 2 (pc' := 40) (L' := [some (.ref 64), some (.int (nI w)), some (.int (-23))]) (S' := []) (σ' := lm_T M3 (vvJ J) G) rfl trivial ?_
          have k_ := k40 (by rw [eo]; decide)
          rw [show encM (2, opS T 4 u) = -23 from by rw [eo]; decide] at k_
          exact k_ 
        ·
          have h9 : opS T 4 u = 9 := by simp [opS, b2i_0 (Classical.not_not.mp s1), b2i_0 s2]
          exact lm_G_re rfl trivial (Nat.zero_le _) (Nat.zero_le _) (hok _ _ (by rw [← eR]; exact chn_9 h9) _ g3 k3 F3)
    ·
      obtain ⟨M3, u, c⟩ := zz
      replace hI : GM M3 T u ∧ u ≤ tN T ∧ MCode M3 J (K ++ c) ∧ (K ++ c).length ≤ u ∧ 2 * 700 ≤ u ∧ FrJ J M M3 ∧ chn T 4 sub (700 - 700) u c = lvl T 4 sub p := hI
      show lm_G X (d + (h + 3)) 163 106 0 0 5 [some (.ref 64), some (.int (nI w)), none] [] (lm_T M3 (vvJ J) G) Q
      obtain ⟨g3, l3, k3, kl3, j3, F3, eR⟩ := hI
      exfalso
      omega
    ·
      try dsimp only
      exact ⟨g2, o2, k2, by simp only [List.length_append]; omega, by omega, f2, by rw [lvl_i er2]; rfl⟩
  ·
    show lm_G X (d + (h + 3)) 163 106 0 0 5 [some (.ref 64), some (.int (nI w)), none] [] (lm_T M2 (vvJ J) G) Q
    exact kB _ _ _ z2 b2 f2 (lvl_r er2)
set_option maxRecDepth 10000 in
theorem m_readSum {X : lm_X} {T : Tx} {J : Bool} {h w : Nat} {sub : Nat → PR} (hT : okT T) (hL : okL T sub) (hsub : ∀ d, MQe X T J (d + (h + 2)) 163 [.ref 64, .int (nI w)] sub) : ∀ d, MQe X T J (d + (h + 3)) 164 [.ref 64, .int (nI w)] (lvl T 3 sub) := by
  refine fun d => ⟨?_, m_suB (hsub d).2⟩
  intro M G Q p K hg hp h28 hk hkl hok her
  show lm_G X (d + (h + 3)) 164 106 0 0 0 [some (.ref 64), some (.int (nI w)), none] [] (lm_T M (vvJ J) G) Q
  have hn := hT.1
  refine lm_G_sg 2 (pc' := 2) (L' := [some (.ref 64), some (.int (nI w)), none]) (S' := [.int (nI w), .ref 64]) (σ' := lm_T M (vvJ J) G) rfl trivial ?_
  have kB : ∀ (M9 : Nat → Fn) (e9 : Nat) (a9 : Nat) (z9 : ¬ M9 64 25 = 0) (b9 : BM M9 e9 a9) (f9 : FrP M M9) (q9 : lvl T 3 sub p = .inr (e9, a9)), lm_G X (d + (h + 3)) 164 106 0 0 5 [some (.ref 64), some (.int (nI w)), none] [] (lm_T M9 (vvJ J) G) Q := by
    intro M9 e9 a9 z9 b9 f9 q9
    refine lm_G_sg 2 (pc' := 8) (L' := [some (.ref 64), some (.int (nI w)), none]) (S' := [.int 43, .ref 64]) (σ' := lm_T M9 (vvJ J) G) rfl trivial ?_
    refine lm_G_ca (j := 157) (as := [.ref 64, .int 43]) (rest := []) rfl (Or.inl rfl) (Nat.le_of_ble_eq_true rfl) (Nat.le_of_ble_eq_true rfl) (Nat.le_of_ble_eq_true rfl) (Nat.le_of_ble_eq_true rfl) rfl ?_
    refine m_isMarkedB (c := 43) z9 ?_
    show lm_G X (d + (h + 3)) 164 106 0 0 11 [some (.ref 64), some (.int (nI w)), none] [.int 0] (lm_T M9 (vvJ J) G) Q
    refine lm_G_br (b := ¬ 0 = 0) (t := 23) (S' := []) rfl (fun hc => absurd rfl hc) (fun hc => ?_)
    refine lm_G_sg 2 (pc' := 17) (L' := [some (.ref 64), some (.int (nI w)), none]) (S' := [.int 45, .ref 64]) (σ' := lm_T M9 (vvJ J) G) rfl trivial ?_
    refine lm_G_ca (j := 157) (as := [.ref 64, .int 45]) (rest := []) rfl (Or.inl rfl) (Nat.le_of_ble_eq_true rfl) (Nat.le_of_ble_eq_true rfl) (Nat.le_of_ble_eq_true rfl) (Nat.le_of_ble_eq_true rfl) rfl ?_
    refine m_isMarkedB (c := 45) z9 ?_
    show lm_G X (d + (h + 3)) 164 106 0 0 20 [some (.ref 64), some (.int (nI w)), none] [.int 0] (lm_T M9 (vvJ J) G) Q
    refine lm_G_br (b := 0 = 0) (t := 57) (S' := []) rfl (fun hc => ?_) (fun hc => absurd rfl hc)
    exact lm_G_re rfl trivial (Nat.zero_le _) (Nat.zero_le _) (her _ _ q9 _ b9 z9 f9)
  refine lm_G_ca (j := 163) (as := [.ref 64, .int (nI w)]) (rest := []) rfl (Or.inl rfl) (Nat.le_of_ble_eq_true rfl) (Nat.le_of_ble_eq_true rfl) (Nat.le_of_ble_eq_true rfl) (Nat.le_of_ble_eq_true rfl) rfl ?_
  refine (hsub d).1 M G _ (p) (K) hg hp h28 hk hkl (fun r2 c2 er2 M2 g2 k2 f2 => ?_) (fun e2 a2 er2 M2 b2 z2 f2 => ?_)
  ·
    show lm_G X (d + (h + 3)) 164 106 0 0 5 [some (.ref 64), some (.int (nI w)), none] [] (lm_T M2 (vvJ J) G) Q
    obtain ⟨o1, o2, o3⟩ := hL _ _ _ hp er2
    refine lm_ind (α := (Nat → Fn) × Nat × Cd) (St := fun (j : Nat) zz => (fun (M3 : Nat → Fn) (u : Nat) (c : Cd) => lm_G X (d + (h + 3)) 164 106 0 0 5 [some (.ref 64), some (.int (nI w)), none] [] (lm_T M3 (vvJ J) G) Q) zz.1 zz.2.1 zz.2.2) (Inv := fun (j : Nat) zz => (fun (M3 : Nat → Fn) (u : Nat) (c : Cd) => GM M3 T u ∧ u ≤ tN T ∧ MCode M3 J (K ++ c) ∧ (K ++ c).length ≤ u ∧ 2 * j ≤ u ∧ FrJ J M M3 ∧ chn T 3 sub (700 - j) u c = lvl T 3 sub p) zz.1 zz.2.1 zz.2.2) (700) (fun j zz hj hI ih => ?_) (fun zz hI => ?_) (0) (M2, r2, c2) (by omega) ?_
    ·
      obtain ⟨M3, u, c⟩ := zz
      replace hI : GM M3 T u ∧ u ≤ tN T ∧ MCode M3 J (K ++ c) ∧ (K ++ c).length ≤ u ∧ 2 * j ≤ u ∧ FrJ J M M3 ∧ chn T 3 sub (700 - j) u c = lvl T 3 sub p := hI
      replace ih : ∀ (M3 : Nat → Fn) (u : Nat) (c : Cd) (_ : GM M3 T u ∧ u ≤ tN T ∧ MCode M3 J (K ++ c) ∧ (K ++ c).length ≤ u ∧ 2 * (j + 1) ≤ u ∧ FrJ J M M3 ∧ chn T 3 sub (700 - (j + 1)) u c = lvl T 3 sub p), lm_G X (d + (h + 3)) 164 106 0 0 5 [some (.ref 64), some (.int (nI w)), none] [] (lm_T M3 (vvJ J) G) Q := fun M3 u c q => ih (M3, u, c) q
      show lm_G X (d + (h + 3)) 164 106 0 0 5 [some (.ref 64), some (.int (nI w)), none] [] (lm_T M3 (vvJ J) G) Q
      obtain ⟨g3, l3, k3, kl3, j3, F3, eR⟩ := hI
      have h283 : M3 64 28 = b2i J := ((F3.2.1 28 (by decide) (by decide) (by decide) (by decide) (by decide) (by decide) (by decide)).trans h28)
      have k40 : ∀ (h9 : ¬ opS T 3 u = 9), lm_G X (d + (h + 3)) 164 106 0 0 40 [some (.ref 64), some (.int (nI w)), some (.int (encM (2, opS T 3 u)))] [] (lm_T M3 (vvJ J) G) Q := by
        intro h9
        have hg_ := en_gt l3 (op_kn h9)
        have hl := (en_le l3).2.1
        have ef : 700 - j = (700 - (j + 1)) + 1 := by omega
        rw [ef] at eR
        refine lm_G_sg 1 (pc' := 41) (L' := [some (.ref 64), some (.int (nI w)), some (.int (encM (2, opS T 3 u)))]) (S' := [.ref 64]) (σ' := lm_T M3 (vvJ J) G) rfl trivial ?_
        refine lm_G_ca (j := 153) (as := [.ref 64]) (rest := []) rfl (Or.inl rfl) (Nat.le_of_ble_eq_true rfl) (Nat.le_of_ble_eq_true rfl) (Nat.le_of_ble_eq_true rfl) (Nat.le_of_ble_eq_true rfl) rfl ?_
        refine m_stepOn (p := enS T u) hT g3.1.1 hl g3.1.2.2.2.2.1 (fun M4 r4 f4 => ?_)
        show lm_G X (d + (h + 3)) 164 106 0 0 44 [some (.ref 64), some (.int (nI w)), some (.int (encM (2, opS T 3 u)))] [] (lm_T M4 (vvJ J) G) Q
        have g4 : GM M4 T (enS T u) := ⟨r4, (f4.2 25 (by decide) (by decide) (by decide) (by decide) (by decide)).trans g3.2⟩
        have k4 := MC_K k3 f4
        have F4 := FrJ_tr F3 (FrJ_K f4)
        have h284 : M4 64 28 = b2i J := ((F4.2.1 28 (by decide) (by decide) (by decide) (by decide) (by decide) (by decide) (by decide)).trans h28)
        refine lm_G_sg 2 (pc' := 46) (L' := [some (.ref 64), some (.int (nI w)), some (.int (encM (2, opS T 3 u)))]) (S' := [.int (nI w), .ref 64]) (σ' := lm_T M4 (vvJ J) G) rfl trivial ?_
        refine lm_G_ca (j := 163) (as := [.ref 64, .int (nI w)]) (rest := []) rfl (Or.inl rfl) (Nat.le_of_ble_eq_true rfl) (Nat.le_of_ble_eq_true rfl) (Nat.le_of_ble_eq_true rfl) (Nat.le_of_ble_eq_true rfl) rfl ?_
        refine (hsub d).1 M4 G _ (enS T u) (K ++ c) g4 hl h284 k4 (by omega) (fun r6 c6 er6 M6 g6 k6 f6 => ?_) (fun e6 a6 er6 M6 b6 z6 f6 => ?_)
        ·
          show lm_G X (d + (h + 3)) 164 106 0 0 49 [some (.ref 64), some (.int (nI w)), some (.int (encM (2, opS T 3 u)))] [] (lm_T M6 (vvJ J) G) Q
          obtain ⟨p1, p2, p3⟩ := hL _ _ _ hl er6
          rw [chn_i h9 er6] at eR
          have F6 := FrJ_tr F4 f6
          have h286 : M6 64 28 = b2i J := ((F6.2.1 28 (by decide) (by decide) (by decide) (by decide) (by decide) (by decide) (by decide)).trans h28)
          refine lm_G_sg 2 (pc' := 51) (L' := [some (.ref 64), some (.int (nI w)), some (.int (encM (2, opS T 3 u)))]) (S' := [.int (encM (2, opS T 3 u)), .ref 64]) (σ' := lm_T M6 (vvJ J) G) rfl trivial ?_
          refine lm_G_ca (j := 161) (as := [.ref 64, .int (encM (2, opS T 3 u))]) (rest := []) rfl (Or.inl rfl) (Nat.le_of_ble_eq_true rfl) (Nat.le_of_ble_eq_true rfl) (Nat.le_of_ble_eq_true rfl) (Nat.le_of_ble_eq_true rfl) rfl ?_
          refine m_lay (x := (2, opS T 3 u)) g6 h286 k6 (by simp only [List.length_append] at kl3 ⊢; omega) (fun M7 g7 k7 f7 => ?_)
          show lm_G X (d + (h + 3)) 164 106 0 0 54 [some (.ref 64), some (.int (nI w)), some (.int (encM (2, opS T 3 u)))] [] (lm_T M7 (vvJ J) G) Q
          rw [List.append_assoc, List.append_assoc, ← List.append_assoc c] at k7
          refine lm_G_sg 1 (pc' := 5) (L' := [some (.ref 64), some (.int (nI w)), some (.int (encM (2, opS T 3 u)))]) (S' := []) (σ' := lm_T M7 (vvJ J) G) rfl trivial ?_
          refine lm_G_jk (L := [some (.ref 64), some (.int (nI w)), none]) ⟨rfl, rfl, trivial⟩ ?_
          exact ih _ _ _ (⟨g7, p2, k7, by simp only [List.length_append, List.length_cons, List.length_nil] at kl3 ⊢; omega, by omega, FrJ_tr F6 f7, eR⟩)
        ·
          show lm_G X (d + (h + 3)) 164 106 0 0 49 [some (.ref 64), some (.int (nI w)), some (.int (encM (2, opS T 3 u)))] [] (lm_T M6 (vvJ J) G) Q
          refine lm_G_sg 2 (pc' := 51) (L' := [some (.ref 64), some (.int (nI w)), some (.int (encM (2, opS T 3 u)))]) (S' := [.int (encM (2, opS T 3 u)), .ref 64]) (σ' := lm_T M6 (vvJ J) G) rfl trivial ?_
          refine lm_G_ca (j := 161) (as := [.ref 64, .int (encM (2, opS T 3 u))]) (rest := []) rfl (Or.inl rfl) (Nat.le_of_ble_eq_true rfl) (Nat.le_of_ble_eq_true rfl) (Nat.le_of_ble_eq_true rfl) (Nat.le_of_ble_eq_true rfl) rfl ?_
          refine m_layB z6 ?_
          show lm_G X (d + (h + 3)) 164 106 0 0 54 [some (.ref 64), some (.int (nI w)), some (.int (encM (2, opS T 3 u)))] [] (lm_T M6 (vvJ J) G) Q
          refine lm_G_sg 1 (pc' := 5) (L' := [some (.ref 64), some (.int (nI w)), some (.int (encM (2, opS T 3 u)))]) (S' := []) (σ' := lm_T M6 (vvJ J) G) rfl trivial ?_
          refine lm_G_jk (L := [some (.ref 64), some (.int (nI w)), none]) ⟨rfl, rfl, trivial⟩ ?_
          exact kB _ _ _ z6 b6 (FrP_tr (FrP_J F4) f6) (by rw [← eR]; exact chn_r h9 er6)
      refine lm_G_sg 2 (pc' := 8) (L' := [some (.ref 64), some (.int (nI w)), none]) (S' := [.int 43, .ref 64]) (σ' := lm_T M3 (vvJ J) G) rfl trivial ?_
      refine lm_G_ca (j := 157) (as := [.ref 64, .int 43]) (rest := []) rfl (Or.inl rfl) (Nat.le_of_ble_eq_true rfl) (Nat.le_of_ble_eq_true rfl) (Nat.le_of_ble_eq_true rfl) (Nat.le_of_ble_eq_true rfl) rfl ?_
      refine m_isMarked (c := 43) hT l3 g3 (by decide) (by omega) ?_
      show lm_G X (d + (h + 3)) 164 106 0 0 11 [some (.ref 64), some (.int (nI w)), none] [.int (b2i (isSg T u 43))] (lm_T M3 (vvJ J) G) Q
      refine lm_G_br (b := ¬ (b2i (isSg T u 43)) = 0) (t := 23) (S' := []) rfl (fun s1 => ?_) (fun s1 => ?_)
      ·
        refine lm_G_sg 2 (pc' := 26) (L' := [some (.ref 64), some (.int (nI w)), none]) (S' := [.int 43, .ref 64]) (σ' := lm_T M3 (vvJ J) G) rfl trivial ?_
        refine lm_G_ca (j := 157) (as := [.ref 64, .int 43]) (rest := []) rfl (Or.inl rfl) (Nat.le_of_ble_eq_true rfl) (Nat.le_of_ble_eq_true rfl) (Nat.le_of_ble_eq_true rfl) (Nat.le_of_ble_eq_true rfl) rfl ?_
        refine m_isMarked (c := 43) hT l3 g3 (by decide) (by omega) ?_
        show lm_G X (d + (h + 3)) 164 106 0 0 29 [some (.ref 64), some (.int (nI w)), none] [.int (b2i (isSg T u 43))] (lm_T M3 (vvJ J) G) Q
        refine lm_G_br (b := (b2i (isSg T u 43)) = 0) (t := 37) (S' := []) rfl (fun hc => absurd hc (by rw [b2i_1 s1]; decide)) (fun hc => ?_)
        have eo : opS T 3 u = 0 := by simp [opS, b2i_1 s1]
        refine lm_G_sg 3 (pc' := 40) (L' := [some (.ref 64), some (.int (nI w)), some (.int (-20))]) (S' := []) (σ' := lm_T M3 (vvJ J) G) rfl trivial ?_
        have k_ := k40 (by rw [eo]; decide)
        rw [show encM (2, opS T 3 u) = -20 from by rw [eo]; decide] at k_
        exact k_ 
      ·
        refine lm_G_sg 2 (pc' := 17) (L' := [some (.ref 64), some (.int (nI w)), none]) (S' := [.int 45, .ref 64]) (σ' := lm_T M3 (vvJ J) G) rfl trivial ?_
        refine lm_G_ca (j := 157) (as := [.ref 64, .int 45]) (rest := []) rfl (Or.inl rfl) (Nat.le_of_ble_eq_true rfl) (Nat.le_of_ble_eq_true rfl) (Nat.le_of_ble_eq_true rfl) (Nat.le_of_ble_eq_true rfl) rfl ?_
        refine m_isMarked (c := 45) hT l3 g3 (by decide) (by omega) ?_
        show lm_G X (d + (h + 3)) 164 106 0 0 20 [some (.ref 64), some (.int (nI w)), none] [.int (b2i (isSg T u 45))] (lm_T M3 (vvJ J) G) Q
        refine lm_G_br (b := (b2i (isSg T u 45)) = 0) (t := 57) (S' := []) rfl (fun s2 => ?_) (fun s2 => ?_)
        rotate_left
        ·
          refine lm_G_sg 2 (pc' := 26) (L' := [some (.ref 64), some (.int (nI w)), none]) (S' := [.int 43, .ref 64]) (σ' := lm_T M3 (vvJ J) G) rfl trivial ?_
          refine lm_G_ca (j := 157) (as := [.ref 64, .int 43]) (rest := []) rfl (Or.inl rfl) (Nat.le_of_ble_eq_true rfl) (Nat.le_of_ble_eq_true rfl) (Nat.le_of_ble_eq_true rfl) (Nat.le_of_ble_eq_true rfl) rfl ?_
          refine m_isMarked (c := 43) hT l3 g3 (by decide) (by omega) ?_
          show lm_G X (d + (h + 3)) 164 106 0 0 29 [some (.ref 64), some (.int (nI w)), none] [.int (b2i (isSg T u 43))] (lm_T M3 (vvJ J) G) Q
          refine lm_G_br (b := (b2i (isSg T u 43)) = 0) (t := 37) (S' := []) rfl (fun hc => ?_) (fun hc => absurd (by rw [b2i_0 (Classical.not_not.mp s1)]; rfl) hc)
          have eo : opS T 3 u = 1 := by simp [opS, b2i_0 (Classical.not_not.mp s1), b2i_1 s2]
          refine lm_G_sg 2 (pc' := 40) (L' := [some (.ref 64), some (.int (nI w)), some (.int (-21))]) (S' := []) (σ' := lm_T M3 (vvJ J) G) rfl trivial ?_
          have k_ := k40 (by rw [eo]; decide)
          rw [show encM (2, opS T 3 u) = -21 from by rw [eo]; decide] at k_
          exact k_ 
        ·
          have h9 : opS T 3 u = 9 := by simp [opS, b2i_0 (Classical.not_not.mp s1), b2i_0 s2]
          exact lm_G_re rfl trivial (Nat.zero_le _) (Nat.zero_le _) (hok _ _ (by rw [← eR]; exact chn_9 h9) _ g3 k3 F3)
    ·
      obtain ⟨M3, u, c⟩ := zz
      replace hI : GM M3 T u ∧ u ≤ tN T ∧ MCode M3 J (K ++ c) ∧ (K ++ c).length ≤ u ∧ 2 * 700 ≤ u ∧ FrJ J M M3 ∧ chn T 3 sub (700 - 700) u c = lvl T 3 sub p := hI
      show lm_G X (d + (h + 3)) 164 106 0 0 5 [some (.ref 64), some (.int (nI w)), none] [] (lm_T M3 (vvJ J) G) Q
      obtain ⟨g3, l3, k3, kl3, j3, F3, eR⟩ := hI
      exfalso
      omega
    ·
      try dsimp only
      exact ⟨g2, o2, k2, by simp only [List.length_append]; omega, by omega, f2, by rw [lvl_i er2]; rfl⟩
  ·
    show lm_G X (d + (h + 3)) 164 106 0 0 5 [some (.ref 64), some (.int (nI w)), none] [] (lm_T M2 (vvJ J) G) Q
    exact kB _ _ _ z2 b2 f2 (lvl_r er2)
set_option maxRecDepth 10000 in
theorem m_readAnd {X : lm_X} {T : Tx} {J : Bool} {h w : Nat} {sub : Nat → PR} (hT : okT T) (hL : okL T sub) (hsub : ∀ d, MQe X T J (d + (h + 2)) 165 [.ref 64, .int (nI w)] sub) : ∀ d, MQe X T J (d + (h + 3)) 166 [.ref 64, .int (nI w)] (lvl T 1 sub) := by
  refine fun d => ⟨?_, m_anB (hsub d).2⟩
  intro M G Q p K hg hp h28 hk hkl hok her
  show lm_G X (d + (h + 3)) 166 106 0 0 0 [some (.ref 64), some (.int (nI w))] [] (lm_T M (vvJ J) G) Q
  have hn := hT.1
  refine lm_G_sg 2 (pc' := 2) (L' := [some (.ref 64), some (.int (nI w))]) (S' := [.int (nI w), .ref 64]) (σ' := lm_T M (vvJ J) G) rfl trivial ?_
  have kB : ∀ (M9 : Nat → Fn) (e9 : Nat) (a9 : Nat) (z9 : ¬ M9 64 25 = 0) (b9 : BM M9 e9 a9) (f9 : FrP M M9) (q9 : lvl T 1 sub p = .inr (e9, a9)), lm_G X (d + (h + 3)) 166 106 0 0 5 [some (.ref 64), some (.int (nI w))] [] (lm_T M9 (vvJ J) G) Q := by
    intro M9 e9 a9 z9 b9 f9 q9
    refine lm_G_sg 2 (pc' := 9) (L' := [some (.ref 64), some (.int (nI w))]) (S' := [.ref 1015, .ref 64]) (σ' := lm_T M9 (vvJ J) G) rfl trivial ?_
    refine lm_G_ca (j := 155) (as := [.ref 64, .ref 1015]) (rest := []) rfl (Or.inl rfl) (Nat.le_of_ble_eq_true rfl) (Nat.le_of_ble_eq_true rfl) (Nat.le_of_ble_eq_true rfl) (Nat.le_of_ble_eq_true rfl) rfl ?_
    refine m_isB15 z9 ?_
    show lm_G X (d + (h + 3)) 166 106 0 0 12 [some (.ref 64), some (.int (nI w))] [.int 0] (lm_T M9 (vvJ J) G) Q
    refine lm_G_br (b := 0 = 0) (t := 33) (S' := []) rfl (fun hc => ?_) (fun hc => absurd rfl hc)
    exact lm_G_re rfl trivial (Nat.zero_le _) (Nat.zero_le _) (her _ _ q9 _ b9 z9 f9)
  refine lm_G_ca (j := 165) (as := [.ref 64, .int (nI w)]) (rest := []) rfl (Or.inl rfl) (Nat.le_of_ble_eq_true rfl) (Nat.le_of_ble_eq_true rfl) (Nat.le_of_ble_eq_true rfl) (Nat.le_of_ble_eq_true rfl) rfl ?_
  refine (hsub d).1 M G _ (p) (K) hg hp h28 hk hkl (fun r2 c2 er2 M2 g2 k2 f2 => ?_) (fun e2 a2 er2 M2 b2 z2 f2 => ?_)
  ·
    show lm_G X (d + (h + 3)) 166 106 0 0 5 [some (.ref 64), some (.int (nI w))] [] (lm_T M2 (vvJ J) G) Q
    obtain ⟨o1, o2, o3⟩ := hL _ _ _ hp er2
    refine lm_ind (α := (Nat → Fn) × Nat × Cd) (St := fun (j : Nat) zz => (fun (M3 : Nat → Fn) (u : Nat) (c : Cd) => lm_G X (d + (h + 3)) 166 106 0 0 5 [some (.ref 64), some (.int (nI w))] [] (lm_T M3 (vvJ J) G) Q) zz.1 zz.2.1 zz.2.2) (Inv := fun (j : Nat) zz => (fun (M3 : Nat → Fn) (u : Nat) (c : Cd) => GM M3 T u ∧ u ≤ tN T ∧ MCode M3 J (K ++ c) ∧ (K ++ c).length ≤ u ∧ 2 * j ≤ u ∧ FrJ J M M3 ∧ chn T 1 sub (700 - j) u c = lvl T 1 sub p) zz.1 zz.2.1 zz.2.2) (700) (fun j zz hj hI ih => ?_) (fun zz hI => ?_) (0) (M2, r2, c2) (by omega) ?_
    ·
      obtain ⟨M3, u, c⟩ := zz
      replace hI : GM M3 T u ∧ u ≤ tN T ∧ MCode M3 J (K ++ c) ∧ (K ++ c).length ≤ u ∧ 2 * j ≤ u ∧ FrJ J M M3 ∧ chn T 1 sub (700 - j) u c = lvl T 1 sub p := hI
      replace ih : ∀ (M3 : Nat → Fn) (u : Nat) (c : Cd) (_ : GM M3 T u ∧ u ≤ tN T ∧ MCode M3 J (K ++ c) ∧ (K ++ c).length ≤ u ∧ 2 * (j + 1) ≤ u ∧ FrJ J M M3 ∧ chn T 1 sub (700 - (j + 1)) u c = lvl T 1 sub p), lm_G X (d + (h + 3)) 166 106 0 0 5 [some (.ref 64), some (.int (nI w))] [] (lm_T M3 (vvJ J) G) Q := fun M3 u c q => ih (M3, u, c) q
      show lm_G X (d + (h + 3)) 166 106 0 0 5 [some (.ref 64), some (.int (nI w))] [] (lm_T M3 (vvJ J) G) Q
      obtain ⟨g3, l3, k3, kl3, j3, F3, eR⟩ := hI
      have h283 : M3 64 28 = b2i J := ((F3.2.1 28 (by decide) (by decide) (by decide) (by decide) (by decide) (by decide) (by decide)).trans h28)
      have k40 : ∀ (h9 : ¬ opS T 1 u = 9), lm_G X (d + (h + 3)) 166 106 0 0 15 [some (.ref 64), some (.int (nI w))] [] (lm_T M3 (vvJ J) G) Q := by
        intro h9
        have hg_ := en_gt l3 (op_kn h9)
        have hl := (en_le l3).2.1
        have ef : 700 - j = (700 - (j + 1)) + 1 := by omega
        rw [ef] at eR
        refine lm_G_sg 1 (pc' := 16) (L' := [some (.ref 64), some (.int (nI w))]) (S' := [.ref 64]) (σ' := lm_T M3 (vvJ J) G) rfl trivial ?_
        refine lm_G_ca (j := 153) (as := [.ref 64]) (rest := []) rfl (Or.inl rfl) (Nat.le_of_ble_eq_true rfl) (Nat.le_of_ble_eq_true rfl) (Nat.le_of_ble_eq_true rfl) (Nat.le_of_ble_eq_true rfl) rfl ?_
        refine m_stepOn (p := enS T u) hT g3.1.1 hl g3.1.2.2.2.2.1 (fun M4 r4 f4 => ?_)
        show lm_G X (d + (h + 3)) 166 106 0 0 19 [some (.ref 64), some (.int (nI w))] [] (lm_T M4 (vvJ J) G) Q
        have g4 : GM M4 T (enS T u) := ⟨r4, (f4.2 25 (by decide) (by decide) (by decide) (by decide) (by decide)).trans g3.2⟩
        have k4 := MC_K k3 f4
        have F4 := FrJ_tr F3 (FrJ_K f4)
        have h284 : M4 64 28 = b2i J := ((F4.2.1 28 (by decide) (by decide) (by decide) (by decide) (by decide) (by decide) (by decide)).trans h28)
        refine lm_G_sg 2 (pc' := 21) (L' := [some (.ref 64), some (.int (nI w))]) (S' := [.int (nI w), .ref 64]) (σ' := lm_T M4 (vvJ J) G) rfl trivial ?_
        refine lm_G_ca (j := 165) (as := [.ref 64, .int (nI w)]) (rest := []) rfl (Or.inl rfl) (Nat.le_of_ble_eq_true rfl) (Nat.le_of_ble_eq_true rfl) (Nat.le_of_ble_eq_true rfl) (Nat.le_of_ble_eq_true rfl) rfl ?_
        refine (hsub d).1 M4 G _ (enS T u) (K ++ c) g4 hl h284 k4 (by omega) (fun r6 c6 er6 M6 g6 k6 f6 => ?_) (fun e6 a6 er6 M6 b6 z6 f6 => ?_)
        ·
          show lm_G X (d + (h + 3)) 166 106 0 0 24 [some (.ref 64), some (.int (nI w))] [] (lm_T M6 (vvJ J) G) Q
          obtain ⟨p1, p2, p3⟩ := hL _ _ _ hl er6
          rw [chn_i h9 er6] at eR
          have F6 := FrJ_tr F4 f6
          have h286 : M6 64 28 = b2i J := ((F6.2.1 28 (by decide) (by decide) (by decide) (by decide) (by decide) (by decide) (by decide)).trans h28)
          refine lm_G_sg 2 (pc' := 27) (L' := [some (.ref 64), some (.int (nI w))]) (S' := [.int (-26), .ref 64]) (σ' := lm_T M6 (vvJ J) G) rfl trivial ?_
          rw [show (-26 : Int32) = encM (2, opS T 1 u) from by rw [op_w1 h9]; decide]
          refine lm_G_ca (j := 161) (as := [.ref 64, .int (encM (2, opS T 1 u))]) (rest := []) rfl (Or.inl rfl) (Nat.le_of_ble_eq_true rfl) (Nat.le_of_ble_eq_true rfl) (Nat.le_of_ble_eq_true rfl) (Nat.le_of_ble_eq_true rfl) rfl ?_
          refine m_lay (x := (2, opS T 1 u)) g6 h286 k6 (by simp only [List.length_append] at kl3 ⊢; omega) (fun M7 g7 k7 f7 => ?_)
          show lm_G X (d + (h + 3)) 166 106 0 0 30 [some (.ref 64), some (.int (nI w))] [] (lm_T M7 (vvJ J) G) Q
          rw [List.append_assoc, List.append_assoc, ← List.append_assoc c] at k7
          refine lm_G_sg 1 (pc' := 5) (L' := [some (.ref 64), some (.int (nI w))]) (S' := []) (σ' := lm_T M7 (vvJ J) G) rfl trivial ?_
          exact ih _ _ _ (⟨g7, p2, k7, by simp only [List.length_append, List.length_cons, List.length_nil] at kl3 ⊢; omega, by omega, FrJ_tr F6 f7, eR⟩)
        ·
          show lm_G X (d + (h + 3)) 166 106 0 0 24 [some (.ref 64), some (.int (nI w))] [] (lm_T M6 (vvJ J) G) Q
          refine lm_G_sg 2 (pc' := 27) (L' := [some (.ref 64), some (.int (nI w))]) (S' := [.int (-26), .ref 64]) (σ' := lm_T M6 (vvJ J) G) rfl trivial ?_
          refine lm_G_ca (j := 161) (as := [.ref 64, .int (-26)]) (rest := []) rfl (Or.inl rfl) (Nat.le_of_ble_eq_true rfl) (Nat.le_of_ble_eq_true rfl) (Nat.le_of_ble_eq_true rfl) (Nat.le_of_ble_eq_true rfl) rfl ?_
          refine m_layB z6 ?_
          show lm_G X (d + (h + 3)) 166 106 0 0 30 [some (.ref 64), some (.int (nI w))] [] (lm_T M6 (vvJ J) G) Q
          refine lm_G_sg 1 (pc' := 5) (L' := [some (.ref 64), some (.int (nI w))]) (S' := []) (σ' := lm_T M6 (vvJ J) G) rfl trivial ?_
          exact kB _ _ _ z6 b6 (FrP_tr (FrP_J F4) f6) (by rw [← eR]; exact chn_r h9 er6)
      refine lm_G_sg 2 (pc' := 9) (L' := [some (.ref 64), some (.int (nI w))]) (S' := [.ref 1015, .ref 64]) (σ' := lm_T M3 (vvJ J) G) rfl trivial ?_
      refine lm_G_ca (j := 155) (as := [.ref 64, .ref 1015]) (rest := []) rfl (Or.inl rfl) (Nat.le_of_ble_eq_true rfl) (Nat.le_of_ble_eq_true rfl) (Nat.le_of_ble_eq_true rfl) (Nat.le_of_ble_eq_true rfl) rfl ?_
      refine m_is15 hT l3 g3 ?_
      show lm_G X (d + (h + 3)) 166 106 0 0 12 [some (.ref 64), some (.int (nI w))] [.int (b2i (isWd T u w15))] (lm_T M3 (vvJ J) G) Q
      refine lm_G_br (b := (b2i (isWd T u w15)) = 0) (t := 33) (S' := []) rfl (fun s1 => ?_) (fun s1 => ?_)
      ·
        exact lm_G_re rfl trivial (Nat.zero_le _) (Nat.zero_le _) (hok _ _ (by rw [← eR]; exact chn_9 (by simp [opS, b2i_0 s1])) _ g3 k3 F3)
      ·
        exact k40 (by simp [opS, b2i_1 s1])
    ·
      obtain ⟨M3, u, c⟩ := zz
      replace hI : GM M3 T u ∧ u ≤ tN T ∧ MCode M3 J (K ++ c) ∧ (K ++ c).length ≤ u ∧ 2 * 700 ≤ u ∧ FrJ J M M3 ∧ chn T 1 sub (700 - 700) u c = lvl T 1 sub p := hI
      show lm_G X (d + (h + 3)) 166 106 0 0 5 [some (.ref 64), some (.int (nI w))] [] (lm_T M3 (vvJ J) G) Q
      obtain ⟨g3, l3, k3, kl3, j3, F3, eR⟩ := hI
      exfalso
      omega
    ·
      try dsimp only
      exact ⟨g2, o2, k2, by simp only [List.length_append]; omega, by omega, f2, by rw [lvl_i er2]; rfl⟩
  ·
    show lm_G X (d + (h + 3)) 166 106 0 0 5 [some (.ref 64), some (.int (nI w))] [] (lm_T M2 (vvJ J) G) Q
    exact kB _ _ _ z2 b2 f2 (lvl_r er2)
