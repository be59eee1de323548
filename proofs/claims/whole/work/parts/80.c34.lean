/-! ===== contracts: the model reads an expression ===== -/
set_option maxRecDepth 10000 in
theorem m_ptB {X : lm_X} {d w : Nat} : BQ X d 162 [.ref 64, .int (nI w)] := by
  intro M v G Q hb hQ
  show lm_G X d 162 106 0 0 0 [some (.ref 64), some (.int (nI w)), none] [] (lm_T M v G) Q
  refine lm_G_sg 2 (pc' := 4) (L' := [some (.ref 64), some (.int (nI w)), none]) (S' := [.int (M 64 25)]) (σ' := lm_T M v G) rfl trivial ?_
  refine lm_G_br (b := (M 64 25) = 0) (t := 8) (S' := []) rfl (fun hc => absurd hc hb) (fun hc => ?_)
  exact lm_G_re rfl trivial (Nat.zero_le _) (Nat.zero_le _) hQ
set_option maxRecDepth 10000 in
theorem m_prB {X : lm_X} {d w : Nat} (hs : BQ X d 162 [.ref 64, .int (nI w)]) : BQ X (d + 1) 163 [.ref 64, .int (nI w)] := by
  intro M v G Q hb hQ
  show lm_G X (d + 1) 163 106 0 0 0 [some (.ref 64), some (.int (nI w)), none] [] (lm_T M v G) Q
  refine lm_G_sg 2 (pc' := 2) (L' := [some (.ref 64), some (.int (nI w)), none]) (S' := [.int (nI w), .ref 64]) (σ' := lm_T M v G) rfl trivial ?_
  refine lm_G_ca (j := 162) (as := [.ref 64, .int (nI w)]) (rest := []) rfl (Or.inl rfl) (Nat.le_of_ble_eq_true rfl) (Nat.le_of_ble_eq_true rfl) (Nat.le_of_ble_eq_true rfl) (Nat.le_of_ble_eq_true rfl) rfl ?_
  refine hs _ _ _ _ hb ?_
  show lm_G X (d + 1) 163 106 0 0 5 [some (.ref 64), some (.int (nI w)), none] [] (lm_T M v G) Q
  refine lm_G_sg 2 (pc' := 8) (L' := [some (.ref 64), some (.int (nI w)), none]) (S' := [.int 42, .ref 64]) (σ' := lm_T M v G) rfl trivial ?_
  refine lm_G_ca (j := 157) (as := [.ref 64, .int 42]) (rest := []) rfl (Or.inl rfl) (Nat.le_of_ble_eq_true rfl) (Nat.le_of_ble_eq_true rfl) (Nat.le_of_ble_eq_true rfl) (Nat.le_of_ble_eq_true rfl) rfl ?_
  refine m_isMarkedB (c := 42) hb ?_
  show lm_G X (d + 1) 163 106 0 0 11 [some (.ref 64), some (.int (nI w)), none] [.int 0] (lm_T M v G) Q
  refine lm_G_br (b := ¬ 0 = 0) (t := 23) (S' := []) rfl (fun hc => absurd rfl hc) (fun hc => ?_)
  refine lm_G_sg 2 (pc' := 17) (L' := [some (.ref 64), some (.int (nI w)), none]) (S' := [.int 47, .ref 64]) (σ' := lm_T M v G) rfl trivial ?_
  refine lm_G_ca (j := 157) (as := [.ref 64, .int 47]) (rest := []) rfl (Or.inl rfl) (Nat.le_of_ble_eq_true rfl) (Nat.le_of_ble_eq_true rfl) (Nat.le_of_ble_eq_true rfl) (Nat.le_of_ble_eq_true rfl) rfl ?_
  refine m_isMarkedB (c := 47) hb ?_
  show lm_G X (d + 1) 163 106 0 0 20 [some (.ref 64), some (.int (nI w)), none] [.int 0] (lm_T M v G) Q
  refine lm_G_br (b := 0 = 0) (t := 57) (S' := []) rfl (fun hc => ?_) (fun hc => absurd rfl hc)
  exact lm_G_re rfl trivial (Nat.zero_le _) (Nat.zero_le _) hQ
set_option maxRecDepth 10000 in
theorem m_suB {X : lm_X} {d w : Nat} (hs : BQ X d 163 [.ref 64, .int (nI w)]) : BQ X (d + 1) 164 [.ref 64, .int (nI w)] := by
  intro M v G Q hb hQ
  show lm_G X (d + 1) 164 106 0 0 0 [some (.ref 64), some (.int (nI w)), none] [] (lm_T M v G) Q
  refine lm_G_sg 2 (pc' := 2) (L' := [some (.ref 64), some (.int (nI w)), none]) (S' := [.int (nI w), .ref 64]) (σ' := lm_T M v G) rfl trivial ?_
  refine lm_G_ca (j := 163) (as := [.ref 64, .int (nI w)]) (rest := []) rfl (Or.inl rfl) (Nat.le_of_ble_eq_true rfl) (Nat.le_of_ble_eq_true rfl) (Nat.le_of_ble_eq_true rfl) (Nat.le_of_ble_eq_true rfl) rfl ?_
  refine hs _ _ _ _ hb ?_
  show lm_G X (d + 1) 164 106 0 0 5 [some (.ref 64), some (.int (nI w)), none] [] (lm_T M v G) Q
  refine lm_G_sg 2 (pc' := 8) (L' := [some (.ref 64), some (.int (nI w)), none]) (S' := [.int 43, .ref 64]) (σ' := lm_T M v G) rfl trivial ?_
  refine lm_G_ca (j := 157) (as := [.ref 64, .int 43]) (rest := []) rfl (Or.inl rfl) (Nat.le_of_ble_eq_true rfl) (Nat.le_of_ble_eq_true rfl) (Nat.le_of_ble_eq_true rfl) (Nat.le_of_ble_eq_true rfl) rfl ?_
  refine m_isMarkedB (c := 43) hb ?_
  show lm_G X (d + 1) 164 106 0 0 11 [some (.ref 64), some (.int (nI w)), none] [.int 0] (lm_T M v G) Q
  refine lm_G_br (b := ¬ 0 = 0) (t := 23) (S' := []) rfl (fun hc => absurd rfl hc) (fun hc => ?_)
  refine lm_G_sg 2 (pc' := 17) (L' := [some (.ref 64), some (.int (nI w)), none]) (S' := [.int 45, .ref 64]) (σ' := lm_T M v G) rfl trivial ?_
  refine lm_G_ca (j := 157) (as := [.ref 64, .int 45]) (rest := []) rfl (Or.inl rfl) (Nat.le_of_ble_eq_true rfl) (Nat.le_of_ble_eq_true rfl) (Nat.le_of_ble_eq_true rfl) (Nat.le_of_ble_eq_true rfl) rfl ?_
  refine m_isMarkedB (c := 45) hb ?_
  show lm_G X (d + 1) 164 106 0 0 20 [some (.ref 64), some (.int (nI w)), none] [.int 0] (lm_T M v G) Q
  refine lm_G_br (b := 0 = 0) (t := 57) (S' := []) rfl (fun hc => ?_) (fun hc => absurd rfl hc)
  exact lm_G_re rfl trivial (Nat.zero_le _) (Nat.zero_le _) hQ
set_option maxRecDepth 10000 in
theorem m_ntB {X : lm_X} {d w : Nat} (hs : BQ X d 164 [.ref 64, .int (nI w)]) : BQ X (d + 1) 165 [.ref 64, .int (nI w)] := by
  intro M v G Q hb hQ
  show lm_G X (d + 1) 165 106 0 0 0 [some (.ref 64), some (.int (nI w)), none, none] [] (lm_T M v G) Q
  refine lm_G_sg 4 (pc' := 6) (L' := [some (.ref 64), some (.int (nI w)), some (.int 0), none]) (S' := [.ref 1013, .ref 64]) (σ' := lm_T M v G) rfl trivial ?_
  refine lm_G_ca (j := 155) (as := [.ref 64, .ref 1013]) (rest := []) rfl (Or.inl rfl) (Nat.le_of_ble_eq_true rfl) (Nat.le_of_ble_eq_true rfl) (Nat.le_of_ble_eq_true rfl) (Nat.le_of_ble_eq_true rfl) rfl ?_
  refine m_isB13 hb ?_
  show lm_G X (d + 1) 165 106 0 0 9 [some (.ref 64), some (.int (nI w)), some (.int 0), none] [.int 0] (lm_T M v G) Q
  refine lm_G_br (b := 0 = 0) (t := 40) (S' := []) rfl (fun hc => ?_) (fun hc => absurd rfl hc)
  refine lm_G_sg 2 (pc' := 42) (L' := [some (.ref 64), some (.int (nI w)), some (.int 0), none]) (S' := [.int (nI w), .ref 64]) (σ' := lm_T M v G) rfl trivial ?_
  refine lm_G_ca (j := 164) (as := [.ref 64, .int (nI w)]) (rest := []) rfl (Or.inl rfl) (Nat.le_of_ble_eq_true rfl) (Nat.le_of_ble_eq_true rfl) (Nat.le_of_ble_eq_true rfl) (Nat.le_of_ble_eq_true rfl) rfl ?_
  refine hs _ _ _ _ hb ?_
  show lm_G X (d + 1) 165 106 0 0 45 [some (.ref 64), some (.int (nI w)), some (.int 0), none] [] (lm_T M v G) Q
  refine lm_G_sg 2 (pc' := 48) (L' := [some (.ref 64), some (.int (nI w)), some (.int 0), none]) (S' := [.int 60, .ref 64]) (σ' := lm_T M v G) rfl trivial ?_
  refine lm_G_ca (j := 157) (as := [.ref 64, .int 60]) (rest := []) rfl (Or.inl rfl) (Nat.le_of_ble_eq_true rfl) (Nat.le_of_ble_eq_true rfl) (Nat.le_of_ble_eq_true rfl) (Nat.le_of_ble_eq_true rfl) rfl ?_
  refine m_isMarkedB (c := 60) hb ?_
  show lm_G X (d + 1) 165 106 0 0 51 [some (.ref 64), some (.int (nI w)), some (.int 0), none] [.int 0] (lm_T M v G) Q
  refine lm_G_br (b := ¬ 0 = 0) (t := 63) (S' := []) rfl (fun hc => absurd rfl hc) (fun hc => ?_)
  refine lm_G_sg 2 (pc' := 57) (L' := [some (.ref 64), some (.int (nI w)), some (.int 0), none]) (S' := [.int 61, .ref 64]) (σ' := lm_T M v G) rfl trivial ?_
  refine lm_G_ca (j := 157) (as := [.ref 64, .int 61]) (rest := []) rfl (Or.inl rfl) (Nat.le_of_ble_eq_true rfl) (Nat.le_of_ble_eq_true rfl) (Nat.le_of_ble_eq_true rfl) (Nat.le_of_ble_eq_true rfl) rfl ?_
  refine m_isMarkedB (c := 61) hb ?_
  show lm_G X (d + 1) 165 106 0 0 60 [some (.ref 64), some (.int (nI w)), some (.int 0), none] [.int 0] (lm_T M v G) Q
  refine lm_G_br (b := 0 = 0) (t := 94) (S' := []) rfl (fun hc => ?_) (fun hc => absurd rfl hc)
  refine lm_G_sg 4 (pc' := 98) (L' := [some (.ref 64), some (.int (nI w)), some (.int 0), some (.int 0)]) (S' := [.int 0, .int 0]) (σ' := lm_T M v G) rfl trivial ?_
  refine lm_G_br (b := 0 ≤ 0) (t := 113) (S' := []) rfl (fun hc => ?_) (fun hc => absurd (by decide) hc)
  exact lm_G_re rfl trivial (Nat.zero_le _) (Nat.zero_le _) hQ
set_option maxRecDepth 10000 in
theorem m_anB {X : lm_X} {d w : Nat} (hs : BQ X d 165 [.ref 64, .int (nI w)]) : BQ X (d + 1) 166 [.ref 64, .int (nI w)] := by
  intro M v G Q hb hQ
  show lm_G X (d + 1) 166 106 0 0 0 [some (.ref 64), some (.int (nI w))] [] (lm_T M v G) Q
  refine lm_G_sg 2 (pc' := 2) (L' := [some (.ref 64), some (.int (nI w))]) (S' := [.int (nI w), .ref 64]) (σ' := lm_T M v G) rfl trivial ?_
  refine lm_G_ca (j := 165) (as := [.ref 64, .int (nI w)]) (rest := []) rfl (Or.inl rfl) (Nat.le_of_ble_eq_true rfl) (Nat.le_of_ble_eq_true rfl) (Nat.le_of_ble_eq_true rfl) (Nat.le_of_ble_eq_true rfl) rfl ?_
  refine hs _ _ _ _ hb ?_
  show lm_G X (d + 1) 166 106 0 0 5 [some (.ref 64), some (.int (nI w))] [] (lm_T M v G) Q
  refine lm_G_sg 2 (pc' := 9) (L' := [some (.ref 64), some (.int (nI w))]) (S' := [.ref 1015, .ref 64]) (σ' := lm_T M v G) rfl trivial ?_
  refine lm_G_ca (j := 155) (as := [.ref 64, .ref 1015]) (rest := []) rfl (Or.inl rfl) (Nat.le_of_ble_eq_true rfl) (Nat.le_of_ble_eq_true rfl) (Nat.le_of_ble_eq_true rfl) (Nat.le_of_ble_eq_true rfl) rfl ?_
  refine m_isB15 hb ?_
  show lm_G X (d + 1) 166 106 0 0 12 [some (.ref 64), some (.int (nI w))] [.int 0] (lm_T M v G) Q
  refine lm_G_br (b := 0 = 0) (t := 33) (S' := []) rfl (fun hc => ?_) (fun hc => absurd rfl hc)
  exact lm_G_re rfl trivial (Nat.zero_le _) (Nat.zero_le _) hQ
set_option maxRecDepth 10000 in
theorem m_exB {X : lm_X} {d w : Nat} : BQ X d 167 [.ref 64, .int (nI w)] := by
  intro M v G Q hb hQ
  show lm_G X d 167 106 0 0 0 [some (.ref 64), some (.int (nI w)), none] [] (lm_T M v G) Q
  refine lm_G_sg 2 (pc' := 4) (L' := [some (.ref 64), some (.int (nI w)), none]) (S' := [.int (M 64 25)]) (σ' := lm_T M v G) rfl trivial ?_
  refine lm_G_br (b := (M 64 25) = 0) (t := 8) (S' := []) rfl (fun hc => absurd hc hb) (fun hc => ?_)
  exact lm_G_re rfl trivial (Nat.zero_le _) (Nat.zero_le _) hQ
theorem BM_nz {M : Nat → Fn} {f a : Nat} (h : BM M f a) (h1 : 1 ≤ f) (h2 : f ≤ 9) : ¬ M 64 25 = 0 := by
  rw [h.1]
  exact nI_ne (b := 0) (by omega) (by omega) (by omega)
theorem rdN_i {T : Tx} {p lo hi x : Nat} (h : rdN T p lo hi = .inl x) : lnS T p ≤ 4 ∧ x = nuS T p := by
  unfold rdN at h
  split at h
  · split at h
    · rename_i q
      cases h
      exact ⟨q.1, rfl⟩
    · cases h
  · cases h
theorem rdN_r {T : Tx} {p f : Nat} (hk : knS T p = 2) (h : rdN T p 0 9999 = .inr f) : ¬ lnS T p ≤ 4 ∧ f = 2 := by
  unfold rdN at h
  rw [if_pos hk] at h
  split at h
  · cases h
  · rename_i q
    cases h
    exact ⟨fun l => q ⟨l, Nat.zero_le _, nu_le hk l⟩, rfl⟩
set_option maxRecDepth 10000 in
theorem m_pt_false {X : lm_X} {T : Tx} {h w : Nat} {rec : Nat → PR} (hT : okT T) (hw : w ≤ 5) (hL : okL T rec) (hrec : ∀ d, MQe X T false (d + (h + 2)) 167 [.ref 64, .int (nI (w + 1))] rec) : ∀ d, MQe X T false (d + (h + 3)) 162 [.ref 64, .int (nI w)] (ptS T false false rec) := by
  refine fun d => ⟨?_, m_ptB⟩
  intro M G Q p K hg hp h28 hk hkl hok her
  show lm_G X (d + (h + 3)) 162 106 0 0 0 [some (.ref 64), some (.int (nI w)), none] [] (lm_T M 66 G) Q
  have kl := tk_le (T := T) (p := p)
  obtain ⟨el1, el2, el3⟩ := en_le hp
  have hn := hT.1
  refine lm_G_sg 2 (pc' := 4) (L' := [some (.ref 64), some (.int (nI w)), none]) (S' := [.int (M 64 25)]) (σ' := lm_T M 66 G) rfl trivial ?_
  rw [show M 64 25 = 0 from hg.2]
  refine lm_G_br (b := 0 = 0) (t := 8) (S' := []) rfl (fun hc => ?_) (fun hc => absurd rfl hc)
  refine lm_G_sg 2 (pc' := 12) (L' := [some (.ref 64), some (.int (nI w)), none]) (S' := [.int (M 64 21)]) (σ' := lm_T M 66 G) rfl trivial ?_
  rw [show M 64 21 = nI (tkS T p) from hg.1.2.1]
  refine lm_G_sg 1 (pc' := 13) (L' := [some (.ref 64), some (.int (nI w)), none]) (S' := [.int 2, .int (nI (tkS T p))]) (σ' := lm_T M 66 G) rfl trivial ?_
  refine lm_G_br (b := ¬ (nI (tkS T p)) = 2) (t := 29) (S' := []) rfl (fun g0 => ?_) (fun g0 => ?_)
  rotate_left
  ·
    have k2 : knS T p = 2 := tk_2.mp ((nI_eq (b := 2) (by omega) (by omega)).mp (Classical.not_not.mp g0))
    have n40 : ¬ isSg T p 40 = true := fun q => by rw [sg_kn q] at k2; cases k2
    have ep : ptS T false false rec p = (if lnS T p ≤ 4 then .inl (enS T p, [(0, nuS T p)]) else .inr (2, stS' T p)) := by unfold ptS; rw [if_neg n40, if_pos k2]
    have hgt := en_gt hp (by omega : knS T p ≠ 0)
    refine lm_G_sg 4 (pc' := 22) (L' := [some (.ref 64), some (.int (nI w)), none]) (S' := [.int 9999, .int 0, .ref 64, .ref 64]) (σ' := lm_T M 66 G) rfl trivial ?_
    refine lm_G_ca (j := 160) (as := [.ref 64, .int 0, .int 9999]) (rest := [.ref 64]) rfl (Or.inl rfl) (Nat.le_of_ble_eq_true rfl) (Nat.le_of_ble_eq_true rfl) (Nat.le_of_ble_eq_true rfl) (Nat.le_of_ble_eq_true rfl) rfl ?_
    refine m_readNumber (lo := 0) (hi := 9999) hT hp hg (by omega) (by omega) ⟨fun x er M1 g1 f1 => ?_, fun f er M1 b1 z1 f1 => ?_⟩
    ·
      show lm_G X (d + (h + 3)) 162 106 0 0 25 [some (.ref 64), some (.int (nI w)), none] [.int (nI x), .ref 64] (lm_T M1 66 G) Q
      obtain ⟨l4, ex⟩ := rdN_i er
      subst ex
      refine lm_G_ca (j := 161) (as := [.ref 64, .int (nI (nuS T p))]) (rest := []) rfl (Or.inl rfl) (Nat.le_of_ble_eq_true rfl) (Nat.le_of_ble_eq_true rfl) (Nat.le_of_ble_eq_true rfl) (Nat.le_of_ble_eq_true rfl) rfl ?_
      refine m_lay (x := (0, nuS T p)) (J := false) g1 ((f1.2 28 (by decide) (by decide) (by decide) (by decide) (by decide)).trans h28) (MC_K hk f1) (by omega) (fun M2 g2 k2_ f2 => ?_)
      show lm_G X (d + (h + 3)) 162 106 0 0 28 [some (.ref 64), some (.int (nI w)), none] [] (lm_T M2 66 G) Q
      exact lm_G_re rfl trivial (Nat.zero_le _) (Nat.zero_le _) (hok _ _ (by rw [ep, if_pos l4]) _ g2 k2_ (FrJ_tr (FrJ_K f1) f2))
    ·
      show lm_G X (d + (h + 3)) 162 106 0 0 25 [some (.ref 64), some (.int (nI w)), none] [.int 0, .ref 64] (lm_T M1 66 G) Q
      obtain ⟨l4, ef⟩ := rdN_r k2 er
      subst ef
      refine lm_G_ca (j := 161) (as := [.ref 64, .int 0]) (rest := []) rfl (Or.inl rfl) (Nat.le_of_ble_eq_true rfl) (Nat.le_of_ble_eq_true rfl) (Nat.le_of_ble_eq_true rfl) (Nat.le_of_ble_eq_true rfl) rfl ?_
      refine m_layB z1 ?_
      show lm_G X (d + (h + 3)) 162 106 0 0 28 [some (.ref 64), some (.int (nI w)), none] [] (lm_T M1 66 G) Q
      exact lm_G_re rfl trivial (Nat.zero_le _) (Nat.zero_le _) (her _ _ (by rw [ep, if_neg l4]) _ b1 z1 f1)
  ·
    have n2 : ¬ knS T p = 2 := fun q => g0 (by rw [tk_2.mpr q]; rfl)
    refine lm_G_sg 2 (pc' := 33) (L' := [some (.ref 64), some (.int (nI w)), none]) (S' := [.int (M 64 21)]) (σ' := lm_T M 66 G) rfl trivial ?_
    rw [show M 64 21 = nI (tkS T p) from hg.1.2.1]
    refine lm_G_sg 1 (pc' := 34) (L' := [some (.ref 64), some (.int (nI w)), none]) (S' := [.int 1, .int (nI (tkS T p))]) (σ' := lm_T M 66 G) rfl trivial ?_
    refine lm_G_br (b := ¬ (nI (tkS T p)) = 1) (t := 75) (S' := []) rfl (fun g1 => ?_) (fun g1 => ?_)
    rotate_left
    ·
      have k1 : knS T p = 1 := tk_1.mp ((nI_eq (b := 1) (by omega) (by omega)).mp (Classical.not_not.mp g1))
      have n40 : ¬ isSg T p 40 = true := fun q => by rw [sg_kn q] at k1; cases k1
      have ep : ptS T false false rec p = (if valS false T p = 6 then .inr (3, stS' T p) else .inl (enS T p, [(1, valS false T p)])) := by unfold ptS; rw [if_neg n40, if_neg n2, if_pos k1]
      have hgt := en_gt hp (by omega : knS T p ≠ 0)
      have vle := val_le (J := false) (T := T) (p := p)
      refine lm_G_sg 3 (pc' := 42) (L' := [some (.ref 64), some (.int (nI w)), none]) (S' := [.ref 66, .ref 64]) (σ' := lm_T M 66 G) rfl trivial ?_
      refine lm_G_ca (j := 156) (as := [.ref 64, .ref 66]) (rest := []) rfl (Or.inl rfl) (Nat.le_of_ble_eq_true rfl) (Nat.le_of_ble_eq_true rfl) (Nat.le_of_ble_eq_true rfl) (Nat.le_of_ble_eq_true rfl) rfl ?_
      refine m_which66 hT hp hg ?_
      show lm_G X (d + (h + 3)) 162 106 0 0 45 [some (.ref 64), some (.int (nI w)), none] [.int (vmI (valS false T p))] (lm_T M 66 G) Q
      refine lm_G_sg 3 (pc' := 48) (L' := [some (.ref 64), some (.int (nI w)), some (.int (vmI (valS false T p)))]) (S' := [.int (-1), .int (vmI (valS false T p))]) (σ' := lm_T M 66 G) rfl trivial ?_
      refine lm_G_br (b := ¬ (vmI (valS false T p)) = (-1)) (t := 56) (S' := []) rfl (fun g2 => ?_) (fun g2 => ?_)
      rotate_left
      ·
        have v6 : valS false T p = 6 := by
          apply Classical.byContradiction
          intro q
          have e := Classical.not_not.mp g2
          unfold vmI at e
          rw [if_neg q] at e
          exact nI_m1 (by omega) e
        refine lm_G_sg 2 (pc' := 53) (L' := [some (.ref 64), some (.int (nI w)), some (.int (vmI (valS false T p)))]) (S' := [.int 3, .ref 64]) (σ' := lm_T M 66 G) rfl trivial ?_
        refine lm_G_ca (j := 154) (as := [.ref 64, .int 3]) (rest := []) rfl (Or.inl rfl) (Nat.le_of_ble_eq_true rfl) (Nat.le_of_ble_eq_true rfl) (Nat.le_of_ble_eq_true rfl) (Nat.le_of_ble_eq_true rfl) rfl ?_
        refine m_wrong hg.2 ?_
        show lm_G X (d + (h + 3)) 162 106 0 0 56 [some (.ref 64), some (.int (nI w)), some (.int (vmI (valS false T p)))] [] (lm_T (lm_wr (lm_wr M 64 25 3) 64 26 (M 64 23)) 66 G) Q
        have z1 : ¬ (lm_wr (lm_wr M 64 25 3) 64 26 (M 64 23)) 64 25 = 0 := wr_nz (by decide)
        refine lm_G_sg 4 (pc' := 60) (L' := [some (.ref 64), some (.int (nI w)), some (.int (vmI (valS false T p)))]) (S' := [.int ((-1) - (vmI (valS false T p))), .ref 64]) (σ' := lm_T (lm_wr (lm_wr M 64 25 3) 64 26 (M 64 23)) 66 G) rfl trivial ?_
        refine lm_G_ca (j := 161) (as := [.ref 64, .int ((-1) - (vmI (valS false T p)))]) (rest := []) rfl (Or.inl rfl) (Nat.le_of_ble_eq_true rfl) (Nat.le_of_ble_eq_true rfl) (Nat.le_of_ble_eq_true rfl) (Nat.le_of_ble_eq_true rfl) rfl ?_
        refine m_layB z1 ?_
        show lm_G X (d + (h + 3)) 162 106 0 0 63 [some (.ref 64), some (.int (nI w)), some (.int (vmI (valS false T p)))] [] (lm_T (lm_wr (lm_wr M 64 25 3) 64 26 (M 64 23)) 66 G) Q
        refine lm_G_sg 2 (pc' := 67) (L' := [some (.ref 64), some (.int (nI w)), some (.int (vmI (valS false T p)))]) (S' := [.int 3]) (σ' := lm_T (lm_wr (lm_wr M 64 25 3) 64 26 (M 64 23)) 66 G) rfl trivial ?_
        refine lm_G_br (b := ¬ 3 = 0) (t := 74) (S' := []) rfl (fun hc => ?_) (fun hc => absurd (Classical.not_not.mp hc) z1)
        exact lm_G_re rfl trivial (Nat.zero_le _) (Nat.zero_le _) (her _ _ (by rw [ep, if_pos v6]) _ ⟨rfl, hg.1.2.2.1⟩ z1 (FrP_w64 (FrP_w64 (FrP_rf _) (by decide)) (by decide)))
      ·
        have v6 : ¬ valS false T p = 6 := fun q => g2 (by unfold vmI; rw [if_pos q])
        rw [show vmI (valS false T p) = nI (valS false T p) from if_neg v6]
        refine lm_G_sg 4 (pc' := 60) (L' := [some (.ref 64), some (.int (nI w)), some (.int (nI (valS false T p)))]) (S' := [.int ((-1) - (nI (valS false T p))), .ref 64]) (σ' := lm_T M 66 G) rfl trivial ?_
        refine lm_G_ca (j := 161) (as := [.ref 64, .int ((-1) - (nI (valS false T p)))]) (rest := []) rfl (Or.inl rfl) (Nat.le_of_ble_eq_true rfl) (Nat.le_of_ble_eq_true rfl) (Nat.le_of_ble_eq_true rfl) (Nat.le_of_ble_eq_true rfl) rfl ?_
        refine m_lay (x := (1, valS false T p)) (J := false) hg h28 hk (by omega) (fun M1 g1_ k1_ f1 => ?_)
        show lm_G X (d + (h + 3)) 162 106 0 0 63 [some (.ref 64), some (.int (nI w)), some (.int (nI (valS false T p)))] [] (lm_T M1 66 G) Q
        refine lm_G_sg 2 (pc' := 67) (L' := [some (.ref 64), some (.int (nI w)), some (.int (nI (valS false T p)))]) (S' := [.int (M1 64 25)]) (σ' := lm_T M1 66 G) rfl trivial ?_
        rw [show M1 64 25 = 0 from g1_.2]
        refine lm_G_br (b := ¬ 0 = 0) (t := 74) (S' := []) rfl (fun hc => absurd rfl hc) (fun hc => ?_)
        refine lm_G_sg 1 (pc' := 71) (L' := [some (.ref 64), some (.int (nI w)), some (.int (nI (valS false T p)))]) (S' := [.ref 64]) (σ' := lm_T M1 66 G) rfl trivial ?_
        refine lm_G_ca (j := 153) (as := [.ref 64]) (rest := []) rfl (Or.inl rfl) (Nat.le_of_ble_eq_true rfl) (Nat.le_of_ble_eq_true rfl) (Nat.le_of_ble_eq_true rfl) (Nat.le_of_ble_eq_true rfl) rfl ?_
        refine m_stepOn (p := enS T p) hT g1_.1.1 el2 g1_.1.2.2.2.2.1 (fun M2 r2 f2 => ?_)
        show lm_G X (d + (h + 3)) 162 106 0 0 74 [some (.ref 64), some (.int (nI w)), some (.int (nI (valS false T p)))] [] (lm_T M2 66 G) Q
        exact lm_G_re rfl trivial (Nat.zero_le _) (Nat.zero_le _) (hok _ _ (by rw [ep, if_neg v6]) _ ⟨r2, (f2.2 25 (by decide) (by decide) (by decide) (by decide) (by decide)).trans g1_.2⟩ (MC_K k1_ f2) (FrJ_tr f1 (FrJ_K f2)))
    ·
      have n1 : ¬ knS T p = 1 := fun q => g1 (by rw [tk_1.mpr q]; rfl)
      refine lm_G_sg 2 (pc' := 78) (L' := [some (.ref 64), some (.int (nI w)), none]) (S' := [.int 40, .ref 64]) (σ' := lm_T M 66 G) rfl trivial ?_
      refine lm_G_ca (j := 158) (as := [.ref 64, .int 40]) (rest := []) rfl (Or.inl rfl) (Nat.le_of_ble_eq_true rfl) (Nat.le_of_ble_eq_true rfl) (Nat.le_of_ble_eq_true rfl) (Nat.le_of_ble_eq_true rfl) rfl ?_
      refine m_mark (c := 40) hT hp hg (by decide) (by omega) ⟨fun s40 M1 g1_ f1 => ?_, fun s40 M1 b1 f1 => ?_⟩
      ·
        show lm_G X (d + (h + 3)) 162 106 0 0 81 [some (.ref 64), some (.int (nI w)), none] [] (lm_T M1 66 G) Q
        have ep : ptS T false false rec p = (match rec (enS T p) with
            | .inl (r, c) => if isSg T r 41 then .inl (enS T r, c) else .inr (1, stS' T r)
            | .inr e => .inr e) := by unfold ptS; rw [if_pos s40]; rfl
        have hgt := en_gt hp (by rw [sg_kn s40]; decide)
        refine lm_G_sg 4 (pc' := 85) (L' := [some (.ref 64), some (.int (nI w)), none]) (S' := [.int ((nI w) + 1), .ref 64]) (σ' := lm_T M1 66 G) rfl trivial ?_
        rw [show (nI w) + 1 = nI (w + 1) from nI_add w 1]
        refine lm_G_ca (j := 167) (as := [.ref 64, .int (nI (w + 1))]) (rest := []) rfl (Or.inl rfl) (Nat.le_of_ble_eq_true rfl) (Nat.le_of_ble_eq_true rfl) (Nat.le_of_ble_eq_true rfl) (Nat.le_of_ble_eq_true rfl) rfl ?_
        refine (hrec d).1 M1 G _ (enS T p) (K) g1_ el2 ((f1.2 28 (by decide) (by decide) (by decide) (by decide) (by decide)).trans h28) (MC_K hk f1) (by omega) (fun r2 c2 er2 M2 g2 k2 f2 => ?_) (fun e2 a2 er2 M2 b2 z2 f2 => ?_)
        ·
          show lm_G X (d + (h + 3)) 162 106 0 0 88 [some (.ref 64), some (.int (nI w)), none] [] (lm_T M2 66 G) Q
          obtain ⟨o1, o2, o3⟩ := hL _ _ _ el2 er2
          refine lm_G_sg 2 (pc' := 91) (L' := [some (.ref 64), some (.int (nI w)), none]) (S' := [.int 41, .ref 64]) (σ' := lm_T M2 66 G) rfl trivial ?_
          refine lm_G_ca (j := 158) (as := [.ref 64, .int 41]) (rest := []) rfl (Or.inl rfl) (Nat.le_of_ble_eq_true rfl) (Nat.le_of_ble_eq_true rfl) (Nat.le_of_ble_eq_true rfl) (Nat.le_of_ble_eq_true rfl) rfl ?_
          refine m_mark (c := 41) hT o2 g2 (by decide) (by omega) ⟨fun s41 M3 g3 f3 => ?_, fun s41 M3 b3 f3 => ?_⟩
          ·
            show lm_G X (d + (h + 3)) 162 106 0 0 94 [some (.ref 64), some (.int (nI w)), none] [] (lm_T M3 66 G) Q
            exact lm_G_re rfl trivial (Nat.zero_le _) (Nat.zero_le _) (hok _ _ (by rw [ep, er2]; simp only []; rw [if_pos s41]) _ g3 (MC_K k2 f3) (FrJ_tr (FrJ_tr (FrJ_K f1) f2) (FrJ_K f3)))
          ·
            show lm_G X (d + (h + 3)) 162 106 0 0 94 [some (.ref 64), some (.int (nI w)), none] [] (lm_T M3 66 G) Q
            exact lm_G_re rfl trivial (Nat.zero_le _) (Nat.zero_le _) (her _ _ (by rw [ep, er2]; simp only []; rw [if_neg (by rw [s41]; decide)]) _ b3 (BM_nz b3 (by omega) (by omega)) (FrP_tr (FrP_K f1) (FrP_tr (FrP_J f2) f3)))
        ·
          show lm_G X (d + (h + 3)) 162 106 0 0 88 [some (.ref 64), some (.int (nI w)), none] [] (lm_T M2 66 G) Q
          refine lm_G_sg 2 (pc' := 91) (L' := [some (.ref 64), some (.int (nI w)), none]) (S' := [.int 41, .ref 64]) (σ' := lm_T M2 66 G) rfl trivial ?_
          refine lm_G_ca (j := 158) (as := [.ref 64, .int 41]) (rest := []) rfl (Or.inl rfl) (Nat.le_of_ble_eq_true rfl) (Nat.le_of_ble_eq_true rfl) (Nat.le_of_ble_eq_true rfl) (Nat.le_of_ble_eq_true rfl) rfl ?_
          refine m_markB (c := 41) z2 ?_
          show lm_G X (d + (h + 3)) 162 106 0 0 94 [some (.ref 64), some (.int (nI w)), none] [] (lm_T M2 66 G) Q
          exact lm_G_re rfl trivial (Nat.zero_le _) (Nat.zero_le _) (her _ _ (by rw [ep, er2]) _ b2 z2 (FrP_tr (FrP_K f1) f2))
      ·
        show lm_G X (d + (h + 3)) 162 106 0 0 81 [some (.ref 64), some (.int (nI w)), none] [] (lm_T M1 66 G) Q
        have ep : ptS T false false rec p = .inr (1, stS' T p) := by unfold ptS; rw [if_neg (by rw [s40]; decide), if_neg n2, if_neg n1]
        have z1 := BM_nz b1 (by omega) (by omega)
        refine lm_G_sg 4 (pc' := 85) (L' := [some (.ref 64), some (.int (nI w)), none]) (S' := [.int ((nI w) + 1), .ref 64]) (σ' := lm_T M1 66 G) rfl trivial ?_
        rw [show (nI w) + 1 = nI (w + 1) from nI_add w 1]
        refine lm_G_ca (j := 167) (as := [.ref 64, .int (nI (w + 1))]) (rest := []) rfl (Or.inl rfl) (Nat.le_of_ble_eq_true rfl) (Nat.le_of_ble_eq_true rfl) (Nat.le_of_ble_eq_true rfl) (Nat.le_of_ble_eq_true rfl) rfl ?_
        refine (hrec d).2 _ _ _ _ z1 ?_
        show lm_G X (d + (h + 3)) 162 106 0 0 88 [some (.ref 64), some (.int (nI w)), none] [] (lm_T M1 66 G) Q
        refine lm_G_sg 2 (pc' := 91) (L' := [some (.ref 64), some (.int (nI w)), none]) (S' := [.int 41, .ref 64]) (σ' := lm_T M1 66 G) rfl trivial ?_
        refine lm_G_ca (j := 158) (as := [.ref 64, .int 41]) (rest := []) rfl (Or.inl rfl) (Nat.le_of_ble_eq_true rfl) (Nat.le_of_ble_eq_true rfl) (Nat.le_of_ble_eq_true rfl) (Nat.le_of_ble_eq_true rfl) rfl ?_
        refine m_markB (c := 41) z1 ?_
        show lm_G X (d + (h + 3)) 162 106 0 0 94 [some (.ref 64), some (.int (nI w)), none] [] (lm_T M1 66 G) Q
        exact lm_G_re rfl trivial (Nat.zero_le _) (Nat.zero_le _) (her _ _ ep _ b1 z1 f1)
set_option maxRecDepth 10000 in
theorem m_pt_true {X : lm_X} {T : Tx} {h w : Nat} {rec : Nat → PR} (hT : okT T) (hw : w ≤ 5) (hL : okL T rec) (hrec : ∀ d, MQe X T true (d + (h + 2)) 167 [.ref 64, .int (nI (w + 1))] rec) : ∀ d, MQe X T true (d + (h + 3)) 162 [.ref 64, .int (nI w)] (ptS T true false rec) := by
  refine fun d => ⟨?_, m_ptB⟩
  intro M G Q p K hg hp h28 hk hkl hok her
  show lm_G X (d + (h + 3)) 162 106 0 0 0 [some (.ref 64), some (.int (nI w)), none] [] (lm_T M 67 G) Q
  have kl := tk_le (T := T) (p := p)
  obtain ⟨el1, el2, el3⟩ := en_le hp
  have hn := hT.1
  refine lm_G_sg 2 (pc' := 4) (L' := [some (.ref 64), some (.int (nI w)), none]) (S' := [.int (M 64 25)]) (σ' := lm_T M 67 G) rfl trivial ?_
  rw [show M 64 25 = 0 from hg.2]
  refine lm_G_br (b := 0 = 0) (t := 8) (S' := []) rfl (fun hc => ?_) (fun hc => absurd rfl hc)
  refine lm_G_sg 2 (pc' := 12) (L' := [some (.ref 64), some (.int (nI w)), none]) (S' := [.int (M 64 21)]) (σ' := lm_T M 67 G) rfl trivial ?_
  rw [show M 64 21 = nI (tkS T p) from hg.1.2.1]
  refine lm_G_sg 1 (pc' := 13) (L' := [some (.ref 64), some (.int (nI w)), none]) (S' := [.int 2, .int (nI (tkS T p))]) (σ' := lm_T M 67 G) rfl trivial ?_
  refine lm_G_br (b := ¬ (nI (tkS T p)) = 2) (t := 29) (S' := []) rfl (fun g0 => ?_) (fun g0 => ?_)
  rotate_left
  ·
    have k2 : knS T p = 2 := tk_2.mp ((nI_eq (b := 2) (by omega) (by omega)).mp (Classical.not_not.mp g0))
    have n40 : ¬ isSg T p 40 = true := fun q => by rw [sg_kn q] at k2; cases k2
    have ep : ptS T true false rec p = (if lnS T p ≤ 4 then .inl (enS T p, [(0, nuS T p)]) else .inr (2, stS' T p)) := by unfold ptS; rw [if_neg n40, if_pos k2]
    have hgt := en_gt hp (by omega : knS T p ≠ 0)
    refine lm_G_sg 4 (pc' := 22) (L' := [some (.ref 64), some (.int (nI w)), none]) (S' := [.int 9999, .int 0, .ref 64, .ref 64]) (σ' := lm_T M 67 G) rfl trivial ?_
    refine lm_G_ca (j := 160) (as := [.ref 64, .int 0, .int 9999]) (rest := [.ref 64]) rfl (Or.inl rfl) (Nat.le_of_ble_eq_true rfl) (Nat.le_of_ble_eq_true rfl) (Nat.le_of_ble_eq_true rfl) (Nat.le_of_ble_eq_true rfl) rfl ?_
    refine m_readNumber (lo := 0) (hi := 9999) hT hp hg (by omega) (by omega) ⟨fun x er M1 g1 f1 => ?_, fun f er M1 b1 z1 f1 => ?_⟩
    ·
      show lm_G X (d + (h + 3)) 162 106 0 0 25 [some (.ref 64), some (.int (nI w)), none] [.int (nI x), .ref 64] (lm_T M1 67 G) Q
      obtain ⟨l4, ex⟩ := rdN_i er
      subst ex
      refine lm_G_ca (j := 161) (as := [.ref 64, .int (nI (nuS T p))]) (rest := []) rfl (Or.inl rfl) (Nat.le_of_ble_eq_true rfl) (Nat.le_of_ble_eq_true rfl) (Nat.le_of_ble_eq_true rfl) (Nat.le_of_ble_eq_true rfl) rfl ?_
      refine m_lay (x := (0, nuS T p)) (J := true) g1 ((f1.2 28 (by decide) (by decide) (by decide) (by decide) (by decide)).trans h28) (MC_K hk f1) (by omega) (fun M2 g2 k2_ f2 => ?_)
      show lm_G X (d + (h + 3)) 162 106 0 0 28 [some (.ref 64), some (.int (nI w)), none] [] (lm_T M2 67 G) Q
      exact lm_G_re rfl trivial (Nat.zero_le _) (Nat.zero_le _) (hok _ _ (by rw [ep, if_pos l4]) _ g2 k2_ (FrJ_tr (FrJ_K f1) f2))
    ·
      show lm_G X (d + (h + 3)) 162 106 0 0 25 [some (.ref 64), some (.int (nI w)), none] [.int 0, .ref 64] (lm_T M1 67 G) Q
      obtain ⟨l4, ef⟩ := rdN_r k2 er
      subst ef
      refine lm_G_ca (j := 161) (as := [.ref 64, .int 0]) (rest := []) rfl (Or.inl rfl) (Nat.le_of_ble_eq_true rfl) (Nat.le_of_ble_eq_true rfl) (Nat.le_of_ble_eq_true rfl) (Nat.le_of_ble_eq_true rfl) rfl ?_
      refine m_layB z1 ?_
      show lm_G X (d + (h + 3)) 162 106 0 0 28 [some (.ref 64), some (.int (nI w)), none] [] (lm_T M1 67 G) Q
      exact lm_G_re rfl trivial (Nat.zero_le _) (Nat.zero_le _) (her _ _ (by rw [ep, if_neg l4]) _ b1 z1 f1)
  ·
    have n2 : ¬ knS T p = 2 := fun q => g0 (by rw [tk_2.mpr q]; rfl)
    refine lm_G_sg 2 (pc' := 33) (L' := [some (.ref 64), some (.int (nI w)), none]) (S' := [.int (M 64 21)]) (σ' := lm_T M 67 G) rfl trivial ?_
    rw [show M 64 21 = nI (tkS T p) from hg.1.2.1]
    refine lm_G_sg 1 (pc' := 34) (L' := [some (.ref 64), some (.int (nI w)), none]) (S' := [.int 1, .int (nI (tkS T p))]) (σ' := lm_T M 67 G) rfl trivial ?_
    refine lm_G_br (b := ¬ (nI (tkS T p)) = 1) (t := 75) (S' := []) rfl (fun g1 => ?_) (fun g1 => ?_)
    rotate_left
    ·
      have k1 : knS T p = 1 := tk_1.mp ((nI_eq (b := 1) (by omega) (by omega)).mp (Classical.not_not.mp g1))
      have n40 : ¬ isSg T p 40 = true := fun q => by rw [sg_kn q] at k1; cases k1
      have ep : ptS T true false rec p = (if valS true T p = 6 then .inr (3, stS' T p) else .inl (enS T p, [(1, valS true T p)])) := by unfold ptS; rw [if_neg n40, if_neg n2, if_pos k1]
      have hgt := en_gt hp (by omega : knS T p ≠ 0)
      have vle := val_le (J := true) (T := T) (p := p)
      refine lm_G_sg 3 (pc' := 42) (L' := [some (.ref 64), some (.int (nI w)), none]) (S' := [.ref 67, .ref 64]) (σ' := lm_T M 67 G) rfl trivial ?_
      refine lm_G_ca (j := 156) (as := [.ref 64, .ref 67]) (rest := []) rfl (Or.inl rfl) (Nat.le_of_ble_eq_true rfl) (Nat.le_of_ble_eq_true rfl) (Nat.le_of_ble_eq_true rfl) (Nat.le_of_ble_eq_true rfl) rfl ?_
      refine m_which67 hT hp hg ?_
      show lm_G X (d + (h + 3)) 162 106 0 0 45 [some (.ref 64), some (.int (nI w)), none] [.int (vmI (valS true T p))] (lm_T M 67 G) Q
      refine lm_G_sg 3 (pc' := 48) (L' := [some (.ref 64), some (.int (nI w)), some (.int (vmI (valS true T p)))]) (S' := [.int (-1), .int (vmI (valS true T p))]) (σ' := lm_T M 67 G) rfl trivial ?_
      refine lm_G_br (b := ¬ (vmI (valS true T p)) = (-1)) (t := 56) (S' := []) rfl (fun g2 => ?_) (fun g2 => ?_)
      rotate_left
      ·
        have v6 : valS true T p = 6 := by
          apply Classical.byContradiction
          intro q
          have e := Classical.not_not.mp g2
          unfold vmI at e
          rw [if_neg q] at e
          exact nI_m1 (by omega) e
        refine lm_G_sg 2 (pc' := 53) (L' := [some (.ref 64), some (.int (nI w)), some (.int (vmI (valS true T p)))]) (S' := [.int 3, .ref 64]) (σ' := lm_T M 67 G) rfl trivial ?_
        refine lm_G_ca (j := 154) (as := [.ref 64, .int 3]) (rest := []) rfl (Or.inl rfl) (Nat.le_of_ble_eq_true rfl) (Nat.le_of_ble_eq_true rfl) (Nat.le_of_ble_eq_true rfl) (Nat.le_of_ble_eq_true rfl) rfl ?_
        refine m_wrong hg.2 ?_
        show lm_G X (d + (h + 3)) 162 106 0 0 56 [some (.ref 64), some (.int (nI w)), some (.int (vmI (valS true T p)))] [] (lm_T (lm_wr (lm_wr M 64 25 3) 64 26 (M 64 23)) 67 G) Q
        have z1 : ¬ (lm_wr (lm_wr M 64 25 3) 64 26 (M 64 23)) 64 25 = 0 := wr_nz (by decide)
        refine lm_G_sg 4 (pc' := 60) (L' := [some (.ref 64), some (.int (nI w)), some (.int (vmI (valS true T p)))]) (S' := [.int ((-1) - (vmI (valS true T p))), .ref 64]) (σ' := lm_T (lm_wr (lm_wr M 64 25 3) 64 26 (M 64 23)) 67 G) rfl trivial ?_
        refine lm_G_ca (j := 161) (as := [.ref 64, .int ((-1) - (vmI (valS true T p)))]) (rest := []) rfl (Or.inl rfl) (Nat.le_of_ble_eq_true rfl) (Nat.le_of_ble_eq_true rfl) (Nat.le_of_ble_eq_true rfl) (Nat.le_of_ble_eq_true rfl) rfl ?_
        refine m_layB z1 ?_
        show lm_G X (d + (h + 3)) 162 106 0 0 63 [some (.ref 64), some (.int (nI w)), some (.int (vmI (valS true T p)))] [] (lm_T (lm_wr (lm_wr M 64 25 3) 64 26 (M 64 23)) 67 G) Q
        refine lm_G_sg 2 (pc' := 67) (L' := [some (.ref 64), some (.int (nI w)), some (.int (vmI (valS true T p)))]) (S' := [.int 3]) (σ' := lm_T (lm_wr (lm_wr M 64 25 3) 64 26 (M 64 23)) 67 G) rfl trivial ?_
        refine lm_G_br (b := ¬ 3 = 0) (t := 74) (S' := []) rfl (fun hc => ?_) (fun hc => absurd (Classical.not_not.mp hc) z1)
        exact lm_G_re rfl trivial (Nat.zero_le _) (Nat.zero_le _) (her _ _ (by rw [ep, if_pos v6]) _ ⟨rfl, hg.1.2.2.1⟩ z1 (FrP_w64 (FrP_w64 (FrP_rf _) (by decide)) (by decide)))
      ·
        have v6 : ¬ valS true T p = 6 := fun q => g2 (by unfold vmI; rw [if_pos q])
        rw [show vmI (valS true T p) = nI (valS true T p) from if_neg v6]
        refine lm_G_sg 4 (pc' := 60) (L' := [some (.ref 64), some (.int (nI w)), some (.int (nI (valS true T p)))]) (S' := [.int ((-1) - (nI (valS true T p))), .ref 64]) (σ' := lm_T M 67 G) rfl trivial ?_
        refine lm_G_ca (j := 161) (as := [.ref 64, .int ((-1) - (nI (valS true T p)))]) (rest := []) rfl (Or.inl rfl) (Nat.le_of_ble_eq_true rfl) (Nat.le_of_ble_eq_true rfl) (Nat.le_of_ble_eq_true rfl) (Nat.le_of_ble_eq_true rfl) rfl ?_
        refine m_lay (x := (1, valS true T p)) (J := true) hg h28 hk (by omega) (fun M1 g1_ k1_ f1 => ?_)
        show lm_G X (d + (h + 3)) 162 106 0 0 63 [some (.ref 64), some (.int (nI w)), some (.int (nI (valS true T p)))] [] (lm_T M1 67 G) Q
        refine lm_G_sg 2 (pc' := 67) (L' := [some (.ref 64), some (.int (nI w)), some (.int (nI (valS true T p)))]) (S' := [.int (M1 64 25)]) (σ' := lm_T M1 67 G) rfl trivial ?_
        rw [show M1 64 25 = 0 from g1_.2]
        refine lm_G_br (b := ¬ 0 = 0) (t := 74) (S' := []) rfl (fun hc => absurd rfl hc) (fun hc => ?_)
        refine lm_G_sg 1 (pc' := 71) (L' := [some (.ref 64), some (.int (nI w)), some (.int (nI (valS true T p)))]) (S' := [.ref 64]) (σ' := lm_T M1 67 G) rfl trivial ?_
        refine lm_G_ca (j := 153) (as := [.ref 64]) (rest := []) rfl (Or.inl rfl) (Nat.le_of_ble_eq_true rfl) (Nat.le_of_ble_eq_true rfl) (Nat.le_of_ble_eq_true rfl) (Nat.le_of_ble_eq_true rfl) rfl ?_
        refine m_stepOn (p := enS T p) hT g1_.1.1 el2 g1_.1.2.2.2.2.1 (fun M2 r2 f2 => ?_)
        show lm_G X (d + (h + 3)) 162 106 0 0 74 [some (.ref 64), some (.int (nI w)), some (.int (nI (valS true T p)))] [] (lm_T M2 67 G) Q
        exact lm_G_re rfl trivial (Nat.zero_le _) (Nat.zero_le _) (hok _ _ (by rw [ep, if_neg v6]) _ ⟨r2, (f2.2 25 (by decide) (by decide) (by decide) (by decide) (by decide)).trans g1_.2⟩ (MC_K k1_ f2) (FrJ_tr f1 (FrJ_K f2)))
    ·
      have n1 : ¬ knS T p = 1 := fun q => g1 (by rw [tk_1.mpr q]; rfl)
      refine lm_G_sg 2 (pc' := 78) (L' := [some (.ref 64), some (.int (nI w)), none]) (S' := [.int 40, .ref 64]) (σ' := lm_T M 67 G) rfl trivial ?_
      refine lm_G_ca (j := 158) (as := [.ref 64, .int 40]) (rest := []) rfl (Or.inl rfl) (Nat.le_of_ble_eq_true rfl) (Nat.le_of_ble_eq_true rfl) (Nat.le_of_ble_eq_true rfl) (Nat.le_of_ble_eq_true rfl) rfl ?_
      refine m_mark (c := 40) hT hp hg (by decide) (by omega) ⟨fun s40 M1 g1_ f1 => ?_, fun s40 M1 b1 f1 => ?_⟩
      ·
        show lm_G X (d + (h + 3)) 162 106 0 0 81 [some (.ref 64), some (.int (nI w)), none] [] (lm_T M1 67 G) Q
        have ep : ptS T true false rec p = (match rec (enS T p) with
            | .inl (r, c) => if isSg T r 41 then .inl (enS T r, c) else .inr (1, stS' T r)
            | .inr e => .inr e) := by unfold ptS; rw [if_pos s40]; rfl
        have hgt := en_gt hp (by rw [sg_kn s40]; decide)
        refine lm_G_sg 4 (pc' := 85) (L' := [some (.ref 64), some (.int (nI w)), none]) (S' := [.int ((nI w) + 1), .ref 64]) (σ' := lm_T M1 67 G) rfl trivial ?_
        rw [show (nI w) + 1 = nI (w + 1) from nI_add w 1]
        refine lm_G_ca (j := 167) (as := [.ref 64, .int (nI (w + 1))]) (rest := []) rfl (Or.inl rfl) (Nat.le_of_ble_eq_true rfl) (Nat.le_of_ble_eq_true rfl) (Nat.le_of_ble_eq_true rfl) (Nat.le_of_ble_eq_true rfl) rfl ?_
        refine (hrec d).1 M1 G _ (enS T p) (K) g1_ el2 ((f1.2 28 (by decide) (by decide) (by decide) (by decide) (by decide)).trans h28) (MC_K hk f1) (by omega) (fun r2 c2 er2 M2 g2 k2 f2 => ?_) (fun e2 a2 er2 M2 b2 z2 f2 => ?_)
        ·
          show lm_G X (d + (h + 3)) 162 106 0 0 88 [some (.ref 64), some (.int (nI w)), none] [] (lm_T M2 67 G) Q
          obtain ⟨o1, o2, o3⟩ := hL _ _ _ el2 er2
          refine lm_G_sg 2 (pc' := 91) (L' := [some (.ref 64), some (.int (nI w)), none]) (S' := [.int 41, .ref 64]) (σ' := lm_T M2 67 G) rfl trivial ?_
          refine lm_G_ca (j := 158) (as := [.ref 64, .int 41]) (rest := []) rfl (Or.inl rfl) (Nat.le_of_ble_eq_true rfl) (Nat.le_of_ble_eq_true rfl) (Nat.le_of_ble_eq_true rfl) (Nat.le_of_ble_eq_true rfl) rfl ?_
          refine m_mark (c := 41) hT o2 g2 (by decide) (by omega) ⟨fun s41 M3 g3 f3 => ?_, fun s41 M3 b3 f3 => ?_⟩
          ·
            show lm_G X (d + (h + 3)) 162 106 0 0 94 [some (.ref 64), some (.int (nI w)), none] [] (lm_T M3 67 G) Q
            exact lm_G_re rfl trivial (Nat.zero_le _) (Nat.zero_le _) (hok _ _ (by rw [ep, er2]; simp only []; rw [if_pos s41]) _ g3 (MC_K k2 f3) (FrJ_tr (FrJ_tr (FrJ_K f1) f2) (FrJ_K f3)))
          ·
            show lm_G X (d + (h + 3)) 162 106 0 0 94 [some (.ref 64), some (.int (nI w)), none] [] (lm_T M3 67 G) Q
            exact lm_G_re rfl trivial (Nat.zero_le _) (Nat.zero_le _) (her _ _ (by rw [ep, er2]; simp only []; rw [if_neg (by rw [s41]; decide)]) _ b3 (BM_nz b3 (by omega) (by omega)) (FrP_tr (FrP_K f1) (FrP_tr (FrP_J f2) f3)))
        ·
          show lm_G X (d + (h + 3)) 162 106 0 0 88 [some (.ref 64), some (.int (nI w)), none] [] (lm_T M2 67 G) Q
          refine lm_G_sg 2 (pc' := 91) (L' := [some (.ref 64), some (.int (nI w)), none]) (S' := [.int 41, .ref 64]) (σ' := lm_T M2 67 G) rfl trivial ?_
          refine lm_G_ca (j := 158) (as := [.ref 64, .int 41]) (rest := []) rfl (Or.inl rfl) (Nat.le_of_ble_eq_true rfl) (Nat.le_of_ble_eq_true rfl) (Nat.le_of_ble_eq_true rfl) (Nat.le_of_ble_eq_true rfl) rfl ?_
          refine m_markB (c := 41) z2 ?_
          show lm_G X (d + (h + 3)) 162 106 0 0 94 [some (.ref 64), some (.int (nI w)), none] [] (lm_T M2 67 G) Q
          exact lm_G_re rfl trivial (Nat.zero_le _) (Nat.zero_le _) (her _ _ (by rw [ep, er2]) _ b2 z2 (FrP_tr (FrP_K f1) f2))
      ·
        show lm_G X (d + (h + 3)) 162 106 0 0 81 [some (.ref 64), some (.int (nI w)), none] [] (lm_T M1 67 G) Q
        have ep : ptS T true false rec p = .inr (1, stS' T p) := by unfold ptS; rw [if_neg (by rw [s40]; decide), if_neg n2, if_neg n1]
        have z1 := BM_nz b1 (by omega) (by omega)
        refine lm_G_sg 4 (pc' := 85) (L' := [some (.ref 64), some (.int (nI w)), none]) (S' := [.int ((nI w) + 1), .ref 64]) (σ' := lm_T M1 67 G) rfl trivial ?_
        rw [show (nI w) + 1 = nI (w + 1) from nI_add w 1]
        refine lm_G_ca (j := 167) (as := [.ref 64, .int (nI (w + 1))]) (rest := []) rfl (Or.inl rfl) (Nat.le_of_ble_eq_true rfl) (Nat.le_of_ble_eq_true rfl) (Nat.le_of_ble_eq_true rfl) (Nat.le_of_ble_eq_true rfl) rfl ?_
        refine (hrec d).2 _ _ _ _ z1 ?_
        show lm_G X (d + (h + 3)) 162 106 0 0 88 [some (.ref 64), some (.int (nI w)), none] [] (lm_T M1 67 G) Q
        refine lm_G_sg 2 (pc' := 91) (L' := [some (.ref 64), some (.int (nI w)), none]) (S' := [.int 41, .ref 64]) (σ' := lm_T M1 67 G) rfl trivial ?_
        refine lm_G_ca (j := 158) (as := [.ref 64, .int 41]) (rest := []) rfl (Or.inl rfl) (Nat.le_of_ble_eq_true rfl) (Nat.le_of_ble_eq_true rfl) (Nat.le_of_ble_eq_true rfl) (Nat.le_of_ble_eq_true rfl) rfl ?_
        refine m_markB (c := 41) z1 ?_
        show lm_G X (d + (h + 3)) 162 106 0 0 94 [some (.ref 64), some (.int (nI w)), none] [] (lm_T M1 67 G) Q
        exact lm_G_re rfl trivial (Nat.zero_le _) (Nat.zero_le _) (her _ _ ep _ b1 z1 f1)
theorem m_readPart {X : lm_X} {T : Tx} {J : Bool} {h w : Nat} {rec : Nat → PR} (hT : okT T) (hw : w ≤ 5) (hL : okL T rec) (hrec : ∀ d, MQe X T J (d + (h + 2)) 167 [.ref 64, .int (nI (w + 1))] rec) : ∀ d, MQe X T J (d + (h + 3)) 162 [.ref 64, .int (nI w)] (ptS T J false rec) := by
  cases J
  · exact m_pt_false hT hw hL hrec
  · exact m_pt_true hT hw hL hrec
