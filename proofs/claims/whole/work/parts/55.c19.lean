/-! ===== contracts: a game ===== -/
theorem gm_bits : ∀ c, c < 4 → ∀ p, p < 8 → ∀ o, o < 8 → ∀ q, q < 8 → bitW (((nI c >>> ((1 : Int32) &&& 31)) &&& 1) <<< (nI p &&& 31) ||| (nI c &&& 1) <<< (nI o &&& 31)) q = gmW p o c q := by decide +kernel
theorem xr_2 : ∀ c, c < 4 → nI c ^^^ 2 = nI (xr2 c) ∧ xr2 c < 4 := by decide +kernel
theorem xr_1 : ∀ c, c < 4 → nI c ^^^ 1 = nI (xr1 c) ∧ xr1 c < 4 := by decide +kernel
/-- the gains are told -/
def gnC (F : Fa) (s : Sc) (p o : Nat) (f : Fn) (n : Nat) : Prop := ∀ i, i < n → f i = gn1 F s p o i ∧ f (4 + i) = gn2 F s p o i
def gnM (F : Fa) (s : Sc) (p o : Nat) (f : Fn) (n : Nat) : Prop := ∀ i, i < n → f (2 * i) = gn1 F s p o i ∧ f (2 * i + 1) = gn2 F s p o i
theorem ok_sk2 {F : Fa} {s : Sc} {p o c : Nat} (h : sHu s p = -1) (hc : c / 2 = 1) : okc F s p o c = false := by
  unfold okc
  rw [decide_eq_false (by omega : ¬ c / 2 = 0), decide_eq_false (fun w => w h)]
  rfl
theorem ok_sk1 {F : Fa} {s : Sc} {p o c : Nat} (h : sHu s o = -1) (hc : c % 2 = 1) : okc F s p o c = false := by
  have a : (decide (c % 2 = 0) || decide (sHu s o ≠ -1)) = false := by
    rw [decide_eq_false (by omega : ¬ c % 2 = 0), decide_eq_false (fun w => w h)]
    rfl
  unfold okc
  rw [a, Bool.and_false, Bool.false_and]
theorem ok_al {F : Fa} {s : Sc} {p o c : Nat} (h1 : c / 2 = 0 ∨ sHu s p ≠ -1) (h2 : c % 2 = 0 ∨ sHu s o ≠ -1) : okc F s p o c = rsS F s p o c := by
  unfold okc
  have a : (decide (c / 2 = 0) || decide (sHu s p ≠ -1)) = true := by simpa using h1
  have b : (decide (c % 2 = 0) || decide (sHu s o ≠ -1)) = true := by simpa using h2
  rw [a, b]
  rfl
def lsI (x : Int32) : Nat := if x = -1 then 0 else 1
set_option maxRecDepth 10000 in
theorem c_playCouple {X : lm_X} {d v : Nat} {M : Nat → Nat → Int32} {G : Nat → Nat → Int64} {Q : lm_O → lm_S → Prop} {F : Fa} {s : Sc} {p o c : Nat} (hF : okF F) (h : RC 28 M F s) (hs : okS F s) (hl : M 28 12 = -1) (hp : p < fN F) (ho : o < fN F) (hc4 : c < 4) (hQ : ∀ M1, Fr frQ M M1 → M1 63 c = gn1 F s p o c → M1 63 (4 + c) = gn2 F s p o c → (∀ i, i ≠ c → i ≠ 4 + c → M1 63 i = M 63 i) → Q (.inl none) (lm_T M1 v G)) : lm_Q X (d + 7) 124 [.ref 0, .int (nI p), .int (nI o), .int (nI c)] (lm_T M v G) Q := by
  have hn := hF.n
  have hm := hF.m
  show lm_G X (d + 7) 124 106 0 0 0 [some (.ref 0), some (.int (nI p)), some (.int (nI o)), some (.int (nI c)), none, none, none] [] (lm_T M v G) Q
  refine lm_G_sg 1 (pc' := 1) (L' := [some (.ref 0), some (.int (nI p)), some (.int (nI o)), some (.int (nI c)), none, none, none]) (S' := [.ref 0]) (σ' := lm_T M v G) rfl trivial ?_
  refine lm_G_ca (j := 132) (as := [.ref 0]) (rest := []) rfl (Or.inl rfl) (Nat.le_of_ble_eq_true rfl) (Nat.le_of_ble_eq_true rfl) (Nat.le_of_ble_eq_true rfl) (Nat.le_of_ble_eq_true rfl) rfl ?_
  refine w_start hF h hl (fun M1 t1 => ?_)
  show lm_G X (d + 7) 124 106 0 0 4 [some (.ref 0), some (.int (nI p)), some (.int (nI o)), some (.int (nI c)), none, none, none] [] (lm_T M1 v G) Q
  refine lm_G_sg 16 (pc' := 22) (L' := [some (.ref 0), some (.int (nI p)), some (.int (nI o)), some (.int (nI c)), some (.int (((((nI c) >>> ((1 : Int32) &&& 31)) &&& 1) <<< ((nI p) &&& 31)) ||| (((nI c) &&& 1) <<< ((nI o) &&& 31)))), some (.int 0), none]) (S' := []) (σ' := lm_T M1 v G) rfl trivial ?_
  refine lm_ind (α := (Nat → Fn)) (St := fun (j : Nat) zz => (fun (M2 : Nat → Fn) => lm_G X (d + 7) 124 106 0 0 22 [some (.ref 0), some (.int (nI p)), some (.int (nI o)), some (.int (nI c)), some (.int (((((nI c) >>> ((1 : Int32) &&& 31)) &&& 1) <<< ((nI p) &&& 31)) ||| (((nI c) &&& 1) <<< ((nI o) &&& 31)))), some (.int (nI j)), none] [] (lm_T M2 v G) Q) zz) (Inv := fun (j : Nat) zz => (fun (M2 : Nat → Fn) => TD M F M2 (hqS F (gmW p o c) s j)) zz) (fN F) (fun j zz hj hI ih => ?_) (fun zz hI => ?_) (0) M1 (by omega) ?_
  ·
    revert ih hI
    revert zz
    intro M2 hI ih
    replace hI : TD M F M2 (hqS F (gmW p o c) s j) := hI
    replace ih : ∀ (M2 : Nat → Fn) (_ : TD M F M2 (hqS F (gmW p o c) s (j + 1))), lm_G X (d + 7) 124 106 0 0 22 [some (.ref 0), some (.int (nI p)), some (.int (nI o)), some (.int (nI c)), some (.int (((((nI c) >>> ((1 : Int32) &&& 31)) &&& 1) <<< ((nI p) &&& 31)) ||| (((nI c) &&& 1) <<< ((nI o) &&& 31)))), some (.int (nI (j + 1))), none] [] (lm_T M2 v G) Q := fun M2 q => ih M2 q
    show lm_G X (d + 7) 124 106 0 0 22 [some (.ref 0), some (.int (nI p)), some (.int (nI o)), some (.int (nI c)), some (.int (((((nI c) >>> ((1 : Int32) &&& 31)) &&& 1) <<< ((nI p) &&& 31)) ||| (((nI c) &&& 1) <<< ((nI o) &&& 31)))), some (.int (nI j)), none] [] (lm_T M2 v G) Q
    refine lm_G_sg 4 (pc' := 31) (L' := [some (.ref 0), some (.int (nI p)), some (.int (nI o)), some (.int (nI c)), some (.int (((((nI c) >>> ((1 : Int32) &&& 31)) &&& 1) <<< ((nI p) &&& 31)) ||| (((nI c) &&& 1) <<< ((nI o) &&& 31)))), some (.int (nI j)), none]) (S' := [.int (M2 14 0), .int (nI j)]) (σ' := lm_T M2 v G) rfl trivial ?_
    rw [show M2 14 0 = nI (fN F) from hI.1.n]
    refine lm_G_br (b := (nI (fN F)) ≤ (nI j)) (t := 60) (S' := []) rfl (fun hc => absurd hc (nI_ge hj (by omega))) (fun hc => ?_)
    refine lm_G_sg 6 (pc' := 42) (L' := [some (.ref 0), some (.int (nI p)), some (.int (nI o)), some (.int (nI c)), some (.int (((((nI c) >>> ((1 : Int32) &&& 31)) &&& 1) <<< ((nI p) &&& 31)) ||| (((nI c) &&& 1) <<< ((nI o) &&& 31)))), some (.int (nI j)), none]) (S' := [.int 1, .int (((((((nI c) >>> ((1 : Int32) &&& 31)) &&& 1) <<< ((nI p) &&& 31)) ||| (((nI c) &&& 1) <<< ((nI o) &&& 31))) >>> ((nI j) &&& 31)) &&& 1)]) (σ' := lm_T M2 v G) rfl trivial ?_
    refine lm_G_br (b := ¬ (((((((nI c) >>> ((1 : Int32) &&& 31)) &&& 1) <<< ((nI p) &&& 31)) ||| (((nI c) &&& 1) <<< ((nI o) &&& 31))) >>> ((nI j) &&& 31)) &&& 1) = 1) (t := 54) (S' := []) rfl (fun h5 => ?_) (fun h5 => ?_)
    ·
      refine lm_G_sg 1 (pc' := 57) (L' := [some (.ref 0), some (.int (nI p)), some (.int (nI o)), some (.int (nI c)), some (.int (((((nI c) >>> ((1 : Int32) &&& 31)) &&& 1) <<< ((nI p) &&& 31)) ||| (((nI c) &&& 1) <<< ((nI o) &&& 31)))), some (.int ((nI j) + 1)), none]) (S' := []) (σ' := lm_T M2 v G) rfl trivial ?_
      rw [nI_1]
      refine lm_G_sg 1 (pc' := 22) (L' := [some (.ref 0), some (.int (nI p)), some (.int (nI o)), some (.int (nI c)), some (.int (((((nI c) >>> ((1 : Int32) &&& 31)) &&& 1) <<< ((nI p) &&& 31)) ||| (((nI c) &&& 1) <<< ((nI o) &&& 31)))), some (.int (nI (j + 1))), none]) (S' := []) (σ' := lm_T M2 v G) rfl trivial ?_
      rw [hq_n (W := (gmW p o c)) ((gm_bits c hc4 p (by omega) o (by omega) j (by omega)).symm.trans (decide_eq_false h5))] at ih
      exact ih _ hI
    ·
      refine lm_G_sg 3 (pc' := 51) (L' := [some (.ref 0), some (.int (nI p)), some (.int (nI o)), some (.int (nI c)), some (.int (((((nI c) >>> ((1 : Int32) &&& 31)) &&& 1) <<< ((nI p) &&& 31)) ||| (((nI c) &&& 1) <<< ((nI o) &&& 31)))), some (.int (nI j)), none]) (S' := [.int (nI j), .ref 38]) (σ' := lm_T M2 v G) rfl trivial ?_
      refine lm_G_ca (j := 68) (as := [.ref 38, .int (nI j)]) (rest := []) rfl (Or.inl rfl) (Nat.le_of_ble_eq_true rfl) (Nat.le_of_ble_eq_true rfl) (Nat.le_of_ble_eq_true rfl) (Nat.le_of_ble_eq_true rfl) rfl ?_
      refine w_quiet hF hI (hq_ok hs j) hj (fun M3 t3 => ?_)
      show lm_G X (d + 7) 124 106 0 0 54 [some (.ref 0), some (.int (nI p)), some (.int (nI o)), some (.int (nI c)), some (.int (((((nI c) >>> ((1 : Int32) &&& 31)) &&& 1) <<< ((nI p) &&& 31)) ||| (((nI c) &&& 1) <<< ((nI o) &&& 31)))), some (.int (nI j)), none] [] (lm_T M3 v G) Q
      refine lm_G_sg 1 (pc' := 57) (L' := [some (.ref 0), some (.int (nI p)), some (.int (nI o)), some (.int (nI c)), some (.int (((((nI c) >>> ((1 : Int32) &&& 31)) &&& 1) <<< ((nI p) &&& 31)) ||| (((nI c) &&& 1) <<< ((nI o) &&& 31)))), some (.int ((nI j) + 1)), none]) (S' := []) (σ' := lm_T M3 v G) rfl trivial ?_
      rw [nI_1]
      refine lm_G_sg 1 (pc' := 22) (L' := [some (.ref 0), some (.int (nI p)), some (.int (nI o)), some (.int (nI c)), some (.int (((((nI c) >>> ((1 : Int32) &&& 31)) &&& 1) <<< ((nI p) &&& 31)) ||| (((nI c) &&& 1) <<< ((nI o) &&& 31)))), some (.int (nI (j + 1))), none]) (S' := []) (σ' := lm_T M3 v G) rfl trivial ?_
      rw [hq_y (W := (gmW p o c)) ((gm_bits c hc4 p (by omega) o (by omega) j (by omega)).symm.trans (decide_eq_true (Classical.not_not.mp h5)))] at ih
      exact ih _ t3
  ·
    revert hI
    revert zz
    intro M2 hI
    replace hI : TD M F M2 (hqS F (gmW p o c) s (fN F)) := hI
    show lm_G X (d + 7) 124 106 0 0 22 [some (.ref 0), some (.int (nI p)), some (.int (nI o)), some (.int (nI c)), some (.int (((((nI c) >>> ((1 : Int32) &&& 31)) &&& 1) <<< ((nI p) &&& 31)) ||| (((nI c) &&& 1) <<< ((nI o) &&& 31)))), some (.int (nI (fN F))), none] [] (lm_T M2 v G) Q
    refine lm_G_sg 4 (pc' := 31) (L' := [some (.ref 0), some (.int (nI p)), some (.int (nI o)), some (.int (nI c)), some (.int (((((nI c) >>> ((1 : Int32) &&& 31)) &&& 1) <<< ((nI p) &&& 31)) ||| (((nI c) &&& 1) <<< ((nI o) &&& 31)))), some (.int (nI (fN F))), none]) (S' := [.int (M2 14 0), .int (nI (fN F))]) (σ' := lm_T M2 v G) rfl trivial ?_
    rw [show M2 14 0 = nI (fN F) from hI.1.n]
    refine lm_G_br (b := (nI (fN F)) ≤ (nI (fN F))) (t := 60) (S' := []) rfl (fun hc => ?_) (fun hc => absurd (nI_le (Nat.le_refl _) (by omega)) hc)
    refine lm_G_sg 3 (pc' := 66) (L' := [some (.ref 0), some (.int (nI p)), some (.int (nI o)), some (.int (nI c)), some (.int (((((nI c) >>> ((1 : Int32) &&& 31)) &&& 1) <<< ((nI p) &&& 31)) ||| (((nI c) &&& 1) <<< ((nI o) &&& 31)))), some (.int (nI (fN F))), none]) (S' := [.int 8, .ref 38]) (σ' := lm_T M2 v G) rfl trivial ?_
    refine lm_G_ca (j := 73) (as := [.ref 38, .int 8]) (rest := []) rfl (Or.inl rfl) (Nat.le_of_ble_eq_true rfl) (Nat.le_of_ble_eq_true rfl) (Nat.le_of_ble_eq_true rfl) (Nat.le_of_ble_eq_true rfl) rfl ?_
    refine w_passHours (n := 8) hF hI (hq_ok hs _) (by omega) (fun M3 t3 => ?_)
    show lm_G X (d + 7) 124 106 0 0 69 [some (.ref 0), some (.int (nI p)), some (.int (nI o)), some (.int (nI c)), some (.int (((((nI c) >>> ((1 : Int32) &&& 31)) &&& 1) <<< ((nI p) &&& 31)) ||| (((nI c) &&& 1) <<< ((nI o) &&& 31)))), some (.int (nI (fN F))), none] [] (lm_T M3 v G) Q
    refine lm_G_sg 3 (pc' := 74) (L' := [some (.ref 0), some (.int (nI p)), some (.int (nI o)), some (.int (nI c)), some (.int (((((nI c) >>> ((1 : Int32) &&& 31)) &&& 1) <<< ((nI p) &&& 31)) ||| (((nI c) &&& 1) <<< ((nI o) &&& 31)))), some (.int (nI (fN F))), none]) (S' := [.int (nI p), .ref 38]) (σ' := lm_T M3 v G) rfl trivial ?_
    refine lm_G_ca (j := 61) (as := [.ref 38, .int (nI p)]) (rest := []) rfl (Or.inl rfl) (Nat.le_of_ble_eq_true rfl) (Nat.le_of_ble_eq_true rfl) (Nat.le_of_ble_eq_true rfl) (Nat.le_of_ble_eq_true rfl) rfl ?_
    refine c_howMany38 (s := (gmS F s p o c)) hF t3.1 ?_
    show lm_G X (d + 7) 124 106 0 0 77 [some (.ref 0), some (.int (nI p)), some (.int (nI o)), some (.int (nI c)), some (.int (((((nI c) >>> ((1 : Int32) &&& 31)) &&& 1) <<< ((nI p) &&& 31)) ||| (((nI c) &&& 1) <<< ((nI o) &&& 31)))), some (.int (nI (fN F))), none] [.int (gmX F s p o c p)] (lm_T M3 v G) Q
    refine lm_G_sg 4 (pc' := 84) (L' := [some (.ref 0), some (.int (nI p)), some (.int (nI o)), some (.int (nI c)), some (.int (((((nI c) >>> ((1 : Int32) &&& 31)) &&& 1) <<< ((nI p) &&& 31)) ||| (((nI c) &&& 1) <<< ((nI o) &&& 31)))), some (.int (gmX F s p o c p)), none]) (S' := [.int (nI o), .ref 38]) (σ' := lm_T M3 v G) rfl trivial ?_
    refine lm_G_ca (j := 61) (as := [.ref 38, .int (nI o)]) (rest := []) rfl (Or.inl rfl) (Nat.le_of_ble_eq_true rfl) (Nat.le_of_ble_eq_true rfl) (Nat.le_of_ble_eq_true rfl) (Nat.le_of_ble_eq_true rfl) rfl ?_
    refine c_howMany38 (s := (gmS F s p o c)) hF t3.1 ?_
    show lm_G X (d + 7) 124 106 0 0 87 [some (.ref 0), some (.int (nI p)), some (.int (nI o)), some (.int (nI c)), some (.int (((((nI c) >>> ((1 : Int32) &&& 31)) &&& 1) <<< ((nI p) &&& 31)) ||| (((nI c) &&& 1) <<< ((nI o) &&& 31)))), some (.int (gmX F s p o c p)), none] [.int (gmX F s p o c o)] (lm_T M3 v G) Q
    refine lm_G_sg 10 (pc' := 102) (L' := [some (.ref 0), some (.int (nI p)), some (.int (nI o)), some (.int (nI c)), some (.int (((((nI c) >>> ((1 : Int32) &&& 31)) &&& 1) <<< ((nI p) &&& 31)) ||| (((nI c) &&& 1) <<< ((nI o) &&& 31)))), some (.int (gmX F s p o c p)), some (.int (gmX F s p o c o))]) (S' := []) (σ' := lm_T (lm_wr M3 63 ((nI c).toNatClampNeg) ((4 * (gmX F s p o c p)) - (gmX F s p o c o))) v G) rfl ⟨(vp_in_nI (by omega) (by omega)), trivial, trivial⟩ ?_
    rw [show (nI c).toNatClampNeg = c from nI_clamp (by omega)]
    refine lm_G_sg 4 (pc' := 108) (L' := [some (.ref 0), some (.int (nI p)), some (.int (nI o)), some (.int (nI c)), some (.int (((((nI c) >>> ((1 : Int32) &&& 31)) &&& 1) <<< ((nI p) &&& 31)) ||| (((nI c) &&& 1) <<< ((nI o) &&& 31)))), some (.int (gmX F s p o c p)), some (.int (gmX F s p o c o))]) (S' := [.int (nI c), .int 4, .ref 63]) (σ' := lm_T (lm_wr M3 63 c ((4 * (gmX F s p o c p)) - (gmX F s p o c o))) v G) rfl trivial ?_
    refine lm_G_sg 1 (pc' := 109) (L' := [some (.ref 0), some (.int (nI p)), some (.int (nI o)), some (.int (nI c)), some (.int (((((nI c) >>> ((1 : Int32) &&& 31)) &&& 1) <<< ((nI p) &&& 31)) ||| (((nI c) &&& 1) <<< ((nI o) &&& 31)))), some (.int (gmX F s p o c p)), some (.int (gmX F s p o c o))]) (S' := [.int (4 + (nI c)), .ref 63]) (σ' := lm_T (lm_wr M3 63 c ((4 * (gmX F s p o c p)) - (gmX F s p o c o))) v G) rfl trivial ?_
    rw [show 4 + (nI c) = nI (4 + c) from nI_add 4 c]
    refine lm_G_sg 6 (pc' := 117) (L' := [some (.ref 0), some (.int (nI p)), some (.int (nI o)), some (.int (nI c)), some (.int (((((nI c) >>> ((1 : Int32) &&& 31)) &&& 1) <<< ((nI p) &&& 31)) ||| (((nI c) &&& 1) <<< ((nI o) &&& 31)))), some (.int (gmX F s p o c p)), some (.int (gmX F s p o c o))]) (S' := []) (σ' := lm_T (lm_wr (lm_wr M3 63 c ((4 * (gmX F s p o c p)) - (gmX F s p o c o))) 63 ((nI (4 + c)).toNatClampNeg) ((4 * (gmX F s p o c o)) - (gmX F s p o c p))) v G) rfl ⟨(vp_in_nI (by omega) (by omega)), trivial, trivial⟩ ?_
    rw [show (nI (4 + c)).toNatClampNeg = (4 + c) from nI_clamp (by omega)]
    exact lm_G_re rfl trivial (Nat.zero_le _) (Nat.zero_le _) (hQ _ (Fr_wr (Fr_wr (Fr_mn t3.2.1 (fun _ => frTQ)) rfl) rfl) ((wr_at (by omega)).trans wr_same) wr_same (fun i h1 h2 => by rw [wr_at h2, wr_at h1, t3.2.1 63 rfl]))
  ·
    try dsimp only
    exact t1
set_option maxRecDepth 10000 in
theorem c_rests {X : lm_X} {d v : Nat} {M : Nat → Nat → Int32} {G : Nat → Nat → Int64} {Q : lm_O → lm_S → Prop} {F : Fa} {s : Sc} {p o c : Nat} (hc4 : c < 4) (hg : gnC F s p o (M 63) 4) (hQ : Q (.inl (some (.int (b2i (rsS F s p o c))))) (lm_T M v G)) : lm_Q X d 125 [.ref 0, .int (nI c), .int (nI (lsI (sHu s p))), .int (nI (lsI (sHu s o)))] (lm_T M v G) Q := by
  show lm_G X d 125 106 0 0 0 [some (.ref 0), some (.int (nI c)), some (.int (nI (lsI (sHu s p)))), some (.int (nI (lsI (sHu s o)))), none, none] [] (lm_T M v G) Q
  obtain ⟨x2, x2l⟩ := xr_2 c hc4
  obtain ⟨x1, x1l⟩ := xr_1 c hc4
  refine lm_G_sg 1 (pc' := 1) (L' := [some (.ref 0), some (.int (nI c)), some (.int (nI (lsI (sHu s p)))), some (.int (nI (lsI (sHu s o)))), none, none]) (S' := [.int (nI (lsI (sHu s p)))]) (σ' := lm_T M v G) rfl trivial ?_
  have k60 : lm_G X d 125 106 0 0 60 [some (.ref 0), some (.int (nI c)), some (.int (nI (lsI (sHu s p)))), some (.int (nI (lsI (sHu s o)))), some (.int (b2i (decide (sHu s p = -1) || decide (gn1 F s p o (xr2 c) ≤ gn1 F s p o c)))), some (.int (b2i (decide (sHu s o = -1) || decide (gn2 F s p o (xr1 c) ≤ gn2 F s p o c))))] [] (lm_T M v G) Q := by
    refine lm_G_sg 1 (pc' := 62) (L' := [some (.ref 0), some (.int (nI c)), some (.int (nI (lsI (sHu s p)))), some (.int (nI (lsI (sHu s o)))), some (.int (b2i (decide (sHu s p = -1) || decide (gn1 F s p o (xr2 c) ≤ gn1 F s p o c)))), some (.int (b2i (decide (sHu s o = -1) || decide (gn2 F s p o (xr1 c) ≤ gn2 F s p o c))))]) (S' := [.int (b2i (decide (sHu s p = -1) || decide (gn1 F s p o (xr2 c) ≤ gn1 F s p o c)))]) (σ' := lm_T M v G) rfl trivial ?_
    refine lm_G_br (b := (b2i (decide (sHu s p = -1) || decide (gn1 F s p o (xr2 c) ≤ gn1 F s p o c))) = 0) (t := 74) (S' := []) rfl (fun h1 => ?_) (fun h1 => ?_)
    ·
      rw [show rsS F s p o c = false from by unfold rsS; rw [b2i_0 h1]; rfl] at hQ
      refine lm_G_sg 1 (pc' := 75) (L' := [some (.ref 0), some (.int (nI c)), some (.int (nI (lsI (sHu s p)))), some (.int (nI (lsI (sHu s o)))), some (.int (b2i (decide (sHu s p = -1) || decide (gn1 F s p o (xr2 c) ≤ gn1 F s p o c)))), some (.int (b2i (decide (sHu s o = -1) || decide (gn2 F s p o (xr1 c) ≤ gn2 F s p o c))))]) (S' := [.int 0]) (σ' := lm_T M v G) rfl trivial ?_
      exact lm_G_re rfl (by decide) (Nat.zero_le _) (Nat.zero_le _) hQ
    ·
      refine lm_G_sg 1 (pc' := 67) (L' := [some (.ref 0), some (.int (nI c)), some (.int (nI (lsI (sHu s p)))), some (.int (nI (lsI (sHu s o)))), some (.int (b2i (decide (sHu s p = -1) || decide (gn1 F s p o (xr2 c) ≤ gn1 F s p o c)))), some (.int (b2i (decide (sHu s o = -1) || decide (gn2 F s p o (xr1 c) ≤ gn2 F s p o c))))]) (S' := [.int (b2i (decide (sHu s o = -1) || decide (gn2 F s p o (xr1 c) ≤ gn2 F s p o c)))]) (σ' := lm_T M v G) rfl trivial ?_
      refine lm_G_br (b := (b2i (decide (sHu s o = -1) || decide (gn2 F s p o (xr1 c) ≤ gn2 F s p o c))) = 0) (t := 74) (S' := []) rfl (fun h2 => ?_) (fun h2 => ?_)
      ·
        rw [show rsS F s p o c = false from by unfold rsS; rw [b2i_0 h2, Bool.and_false]] at hQ
        refine lm_G_sg 1 (pc' := 75) (L' := [some (.ref 0), some (.int (nI c)), some (.int (nI (lsI (sHu s p)))), some (.int (nI (lsI (sHu s o)))), some (.int (b2i (decide (sHu s p = -1) || decide (gn1 F s p o (xr2 c) ≤ gn1 F s p o c)))), some (.int (b2i (decide (sHu s o = -1) || decide (gn2 F s p o (xr1 c) ≤ gn2 F s p o c))))]) (S' := [.int 0]) (σ' := lm_T M v G) rfl trivial ?_
        exact lm_G_re rfl (by decide) (Nat.zero_le _) (Nat.zero_le _) hQ
      ·
        rw [show rsS F s p o c = true from by unfold rsS; rw [b2i_1 h1, b2i_1 h2]; rfl] at hQ
        refine lm_G_sg 2 (pc' := 75) (L' := [some (.ref 0), some (.int (nI c)), some (.int (nI (lsI (sHu s p)))), some (.int (nI (lsI (sHu s o)))), some (.int (b2i (decide (sHu s p = -1) || decide (gn1 F s p o (xr2 c) ≤ gn1 F s p o c)))), some (.int (b2i (decide (sHu s o = -1) || decide (gn2 F s p o (xr1 c) ≤ gn2 F s p o c))))]) (S' := [.int 1]) (σ' := lm_T M v G) rfl trivial ?_
        exact lm_G_re rfl (by decide) (Nat.zero_le _) (Nat.zero_le _) hQ
  have k28 : lm_G X d 125 106 0 0 28 [some (.ref 0), some (.int (nI c)), some (.int (nI (lsI (sHu s p)))), some (.int (nI (lsI (sHu s o)))), some (.int (b2i (decide (sHu s p = -1) || decide (gn1 F s p o (xr2 c) ≤ gn1 F s p o c)))), none] [] (lm_T M v G) Q := by
    refine lm_G_sg 1 (pc' := 29) (L' := [some (.ref 0), some (.int (nI c)), some (.int (nI (lsI (sHu s p)))), some (.int (nI (lsI (sHu s o)))), some (.int (b2i (decide (sHu s p = -1) || decide (gn1 F s p o (xr2 c) ≤ gn1 F s p o c)))), none]) (S' := [.int (nI (lsI (sHu s o)))]) (σ' := lm_T M v G) rfl trivial ?_
    refine lm_G_br (b := (nI (lsI (sHu s o))) = 0) (t := 53) (S' := []) rfl (fun h1 => ?_) (fun h1 => ?_)
    ·
      have e0 : sHu s o = -1 := by
        unfold lsI at h1
        by_cases w : sHu s o = -1
        · exact w
        · rw [if_neg w] at h1; exact absurd h1 (by decide)
      have ea : b2i (decide (sHu s o = -1) || decide (gn2 F s p o (xr1 c) ≤ gn2 F s p o c)) = 1 := by rw [decide_eq_true e0]; rfl
      refine lm_G_sg 3 (pc' := 60) (L' := [some (.ref 0), some (.int (nI c)), some (.int (nI (lsI (sHu s p)))), some (.int (nI (lsI (sHu s o)))), some (.int (b2i (decide (sHu s p = -1) || decide (gn1 F s p o (xr2 c) ≤ gn1 F s p o c)))), some (.int 1)]) (S' := []) (σ' := lm_T M v G) rfl trivial ?_
      rw [ea] at k60
      exact k60 
    ·
      have e0 : ¬ sHu s o = -1 := by
        intro w
        unfold lsI at h1
        rw [if_pos w] at h1
        exact h1 rfl
      refine lm_G_sg 6 (pc' := 40) (L' := [some (.ref 0), some (.int (nI c)), some (.int (nI (lsI (sHu s p)))), some (.int (nI (lsI (sHu s o)))), some (.int (b2i (decide (sHu s p = -1) || decide (gn1 F s p o (xr2 c) ≤ gn1 F s p o c)))), none]) (S' := [.int ((nI c) ^^^ 1), .int 4, .ref 63]) (σ' := lm_T M v G) rfl trivial ?_
      rw [x1]
      refine lm_G_sg 1 (pc' := 41) (L' := [some (.ref 0), some (.int (nI c)), some (.int (nI (lsI (sHu s p)))), some (.int (nI (lsI (sHu s o)))), some (.int (b2i (decide (sHu s p = -1) || decide (gn1 F s p o (xr2 c) ≤ gn1 F s p o c)))), none]) (S' := [.int (4 + (nI (xr1 c))), .ref 63]) (σ' := lm_T M v G) rfl trivial ?_
      rw [show 4 + (nI (xr1 c)) = nI (4 + (xr1 c)) from nI_add 4 (xr1 c)]
      refine lm_G_sg 1 (pc' := 42) (L' := [some (.ref 0), some (.int (nI c)), some (.int (nI (lsI (sHu s p)))), some (.int (nI (lsI (sHu s o)))), some (.int (b2i (decide (sHu s p = -1) || decide (gn1 F s p o (xr2 c) ≤ gn1 F s p o c)))), none]) (S' := [.int (M 63 (nI (4 + (xr1 c))).toNatClampNeg)]) (σ' := lm_T M v G) rfl ⟨(vp_in_nI (by omega) (by omega)), trivial, trivial⟩ ?_
      rw [show (nI (4 + (xr1 c))).toNatClampNeg = (4 + (xr1 c)) from nI_clamp (by omega)]
      refine lm_G_sg 5 (pc' := 49) (L' := [some (.ref 0), some (.int (nI c)), some (.int (nI (lsI (sHu s p)))), some (.int (nI (lsI (sHu s o)))), some (.int (b2i (decide (sHu s p = -1) || decide (gn1 F s p o (xr2 c) ≤ gn1 F s p o c)))), none]) (S' := [.int (4 + (nI c)), .ref 63, .int (M 63 (4 + (xr1 c)))]) (σ' := lm_T M v G) rfl trivial ?_
      rw [show 4 + (nI c) = nI (4 + c) from nI_add 4 c]
      refine lm_G_sg 1 (pc' := 50) (L' := [some (.ref 0), some (.int (nI c)), some (.int (nI (lsI (sHu s p)))), some (.int (nI (lsI (sHu s o)))), some (.int (b2i (decide (sHu s p = -1) || decide (gn1 F s p o (xr2 c) ≤ gn1 F s p o c)))), none]) (S' := [.int (M 63 (nI (4 + c)).toNatClampNeg), .int (M 63 (4 + (xr1 c)))]) (σ' := lm_T M v G) rfl ⟨(vp_in_nI (by omega) (by omega)), trivial, trivial⟩ ?_
      rw [show (nI (4 + c)).toNatClampNeg = (4 + c) from nI_clamp (by omega)]
      rw [show M 63 (4 + c) = gn2 F s p o c from (hg _ hc4).2]
      refine lm_G_br (b := (gn2 F s p o c) < (M 63 (4 + (xr1 c)))) (t := 57) (S' := []) rfl (fun h3 => ?_) (fun h3 => ?_)
      ·
        rw [(hg _ x1l).2] at h3
        refine lm_G_sg 2 (pc' := 60) (L' := [some (.ref 0), some (.int (nI c)), some (.int (nI (lsI (sHu s p)))), some (.int (nI (lsI (sHu s o)))), some (.int (b2i (decide (sHu s p = -1) || decide (gn1 F s p o (xr2 c) ≤ gn1 F s p o c)))), some (.int 0)]) (S' := []) (σ' := lm_T M v G) rfl trivial ?_
        have ea : b2i (decide (sHu s o = -1) || decide (gn2 F s p o (xr1 c) ≤ gn2 F s p o c)) = 0 := by rw [decide_eq_false e0, decide_eq_false (Int32.not_le.mpr h3)]; rfl
        rw [ea] at k60
        exact k60 
      ·
        rw [(hg _ x1l).2] at h3
        refine lm_G_sg 3 (pc' := 60) (L' := [some (.ref 0), some (.int (nI c)), some (.int (nI (lsI (sHu s p)))), some (.int (nI (lsI (sHu s o)))), some (.int (b2i (decide (sHu s p = -1) || decide (gn1 F s p o (xr2 c) ≤ gn1 F s p o c)))), some (.int 1)]) (S' := []) (σ' := lm_T M v G) rfl trivial ?_
        have ea : b2i (decide (sHu s o = -1) || decide (gn2 F s p o (xr1 c) ≤ gn2 F s p o c)) = 1 := by rw [decide_eq_true (Int32.not_lt.mp h3), Bool.or_true]; rfl
        rw [ea] at k60
        exact k60 
  refine lm_G_br (b := (nI (lsI (sHu s p))) = 0) (t := 21) (S' := []) rfl (fun h1 => ?_) (fun h1 => ?_)
  ·
    have e0 : sHu s p = -1 := by
      unfold lsI at h1
      by_cases w : sHu s p = -1
      · exact w
      · rw [if_neg w] at h1; exact absurd h1 (by decide)
    have ea : b2i (decide (sHu s p = -1) || decide (gn1 F s p o (xr2 c) ≤ gn1 F s p o c)) = 1 := by rw [decide_eq_true e0]; rfl
    refine lm_G_sg 3 (pc' := 28) (L' := [some (.ref 0), some (.int (nI c)), some (.int (nI (lsI (sHu s p)))), some (.int (nI (lsI (sHu s o)))), some (.int 1), none]) (S' := []) (σ' := lm_T M v G) rfl trivial ?_
    rw [ea] at k28
    exact k28 
  ·
    have e0 : ¬ sHu s p = -1 := by
      intro w
      unfold lsI at h1
      rw [if_pos w] at h1
      exact h1 rfl
    refine lm_G_sg 5 (pc' := 11) (L' := [some (.ref 0), some (.int (nI c)), some (.int (nI (lsI (sHu s p)))), some (.int (nI (lsI (sHu s o)))), none, none]) (S' := [.int ((nI c) ^^^ 2), .ref 63]) (σ' := lm_T M v G) rfl trivial ?_
    rw [x2]
    refine lm_G_sg 1 (pc' := 12) (L' := [some (.ref 0), some (.int (nI c)), some (.int (nI (lsI (sHu s p)))), some (.int (nI (lsI (sHu s o)))), none, none]) (S' := [.int (M 63 (nI (xr2 c)).toNatClampNeg)]) (σ' := lm_T M v G) rfl ⟨(vp_in_nI (by omega) (by omega)), trivial, trivial⟩ ?_
    rw [show (nI (xr2 c)).toNatClampNeg = (xr2 c) from nI_clamp (by omega)]
    rw [show M 63 (xr2 c) = gn1 F s p o (xr2 c) from (hg _ x2l).1]
    refine lm_G_sg 4 (pc' := 18) (L' := [some (.ref 0), some (.int (nI c)), some (.int (nI (lsI (sHu s p)))), some (.int (nI (lsI (sHu s o)))), none, none]) (S' := [.int (M 63 (nI c).toNatClampNeg), .int (gn1 F s p o (xr2 c))]) (σ' := lm_T M v G) rfl ⟨(vp_in_nI (by omega) (by omega)), trivial, trivial⟩ ?_
    rw [show (nI c).toNatClampNeg = c from nI_clamp (by omega)]
    rw [show M 63 c = gn1 F s p o c from (hg _ hc4).1]
    refine lm_G_br (b := (gn1 F s p o c) < (gn1 F s p o (xr2 c))) (t := 25) (S' := []) rfl (fun h3 => ?_) (fun h3 => ?_)
    ·
      refine lm_G_sg 2 (pc' := 28) (L' := [some (.ref 0), some (.int (nI c)), some (.int (nI (lsI (sHu s p)))), some (.int (nI (lsI (sHu s o)))), some (.int 0), none]) (S' := []) (σ' := lm_T M v G) rfl trivial ?_
      have ea : b2i (decide (sHu s p = -1) || decide (gn1 F s p o (xr2 c) ≤ gn1 F s p o c)) = 0 := by rw [decide_eq_false e0, decide_eq_false (Int32.not_le.mpr h3)]; rfl
      rw [ea] at k28
      exact k28 
    ·
      refine lm_G_sg 3 (pc' := 28) (L' := [some (.ref 0), some (.int (nI c)), some (.int (nI (lsI (sHu s p)))), some (.int (nI (lsI (sHu s o)))), some (.int 1), none]) (S' := []) (σ' := lm_T M v G) rfl trivial ?_
      have ea : b2i (decide (sHu s p = -1) || decide (gn1 F s p o (xr2 c) ≤ gn1 F s p o c)) = 1 := by rw [decide_eq_true (Int32.not_lt.mp h3), Bool.or_true]; rfl
      rw [ea] at k28
      exact k28 
set_option maxRecDepth 10000 in
theorem c_game {X : lm_X} {d v : Nat} {M : Nat → Nat → Int32} {G : Nat → Nat → Int64} {Q : lm_O → lm_S → Prop} {F : Fa} {s : Sc} {x y w : Int32} (hF : okF F) (h : RC 28 M F s) (hs : okS F s) (hl : M 28 12 = -1) (hQ : ∀ M1, Fr frQ M M1 → Q (cO (aGam F s x y w)) (lm_T M1 v G)) : lm_Q X (d + 8) 123 [.ref 0, .int x, .int y, .int w] (lm_T M v G) Q := by
  have hn := hF.n
  have hm := hF.m
  show lm_G X (d + 8) 123 106 0 0 0 [some (.ref 0), some (.int x), some (.int y), some (.int w), none, none, none, none, none, none] [] (lm_T M v G) Q
  refine lm_G_sg 2 (pc' := 2) (L' := [some (.ref 0), some (.int x), some (.int y), some (.int w), none, none, none, none, none, none]) (S' := [.int x, .ref 0]) (σ' := lm_T M v G) rfl trivial ?_
  refine lm_G_ca (j := 133) (as := [.ref 0, .int x]) (rest := []) rfl (Or.inl rfl) (Nat.le_of_ble_eq_true rfl) (Nat.le_of_ble_eq_true rfl) (Nat.le_of_ble_eq_true rfl) (Nat.le_of_ble_eq_true rfl) rfl ?_
  refine c_isPerson hF h ?_
  show lm_G X (d + 8) 123 106 0 0 5 [some (.ref 0), some (.int x), some (.int y), some (.int w), none, none, none, none, none, none] [.int (b2i (isP (fN F) x))] (lm_T M v G) Q
  refine lm_G_br (b := (b2i (isP (fN F) x)) = 0) (t := 28) (S' := []) rfl (fun hx => ?_) (fun hx => ?_)
  ·
    replace hx := b2i_0 hx
    refine lm_G_sg 1 (pc' := 29) (L' := [some (.ref 0), some (.int x), some (.int y), some (.int w), none, none, none, none, none, none]) (S' := [.int 0]) (σ' := lm_T M v G) rfl trivial ?_
    rw [show aGam F s x y w = .inr false from by simp +decide only [aGam, hx, if_true, if_false, Bool.and_true, Bool.true_and, Bool.and_self, Bool.false_and, Bool.and_false, Bool.false_eq_true]] at hQ
    refine lm_G_ca (j := 137) (as := [.int 0]) (rest := []) rfl (Or.inl rfl) (Nat.le_of_ble_eq_true rfl) (Nat.le_of_ble_eq_true rfl) (Nat.le_of_ble_eq_true rfl) (Nat.le_of_ble_eq_true rfl) rfl ?_
    exact c_mustExistF ⟨by decide, rfl, hQ M (Fr_rf _ _)⟩
  ·
    replace hx := b2i_1 hx
    refine lm_G_sg 2 (pc' := 10) (L' := [some (.ref 0), some (.int x), some (.int y), some (.int w), none, none, none, none, none, none]) (S' := [.int y, .ref 0]) (σ' := lm_T M v G) rfl trivial ?_
    refine lm_G_ca (j := 133) (as := [.ref 0, .int y]) (rest := []) rfl (Or.inl rfl) (Nat.le_of_ble_eq_true rfl) (Nat.le_of_ble_eq_true rfl) (Nat.le_of_ble_eq_true rfl) (Nat.le_of_ble_eq_true rfl) rfl ?_
    refine c_isPerson hF h ?_
    show lm_G X (d + 8) 123 106 0 0 13 [some (.ref 0), some (.int x), some (.int y), some (.int w), none, none, none, none, none, none] [.int (b2i (isP (fN F) y))] (lm_T M v G) Q
    refine lm_G_br (b := (b2i (isP (fN F) y)) = 0) (t := 28) (S' := []) rfl (fun hy => ?_) (fun hy => ?_)
    ·
      replace hy := b2i_0 hy
      refine lm_G_sg 1 (pc' := 29) (L' := [some (.ref 0), some (.int x), some (.int y), some (.int w), none, none, none, none, none, none]) (S' := [.int 0]) (σ' := lm_T M v G) rfl trivial ?_
      rw [show aGam F s x y w = .inr false from by simp +decide only [aGam, hy, hx, if_true, if_false, Bool.and_true, Bool.true_and, Bool.and_self, Bool.false_and, Bool.and_false, Bool.false_eq_true]] at hQ
      refine lm_G_ca (j := 137) (as := [.int 0]) (rest := []) rfl (Or.inl rfl) (Nat.le_of_ble_eq_true rfl) (Nat.le_of_ble_eq_true rfl) (Nat.le_of_ble_eq_true rfl) (Nat.le_of_ble_eq_true rfl) rfl ?_
      exact c_mustExistF ⟨by decide, rfl, hQ M (Fr_rf _ _)⟩
    ·
      replace hy := b2i_1 hy
      refine lm_G_sg 2 (pc' := 18) (L' := [some (.ref 0), some (.int x), some (.int y), some (.int w), none, none, none, none, none, none]) (S' := [.int 2, .int w]) (σ' := lm_T M v G) rfl trivial ?_
      refine lm_G_ca (j := 135) (as := [.int w, .int 2]) (rest := []) rfl (Or.inl rfl) (Nat.le_of_ble_eq_true rfl) (Nat.le_of_ble_eq_true rfl) (Nat.le_of_ble_eq_true rfl) (Nat.le_of_ble_eq_true rfl) rfl ?_
      refine c_isWhat (n := 2) (by omega) ?_
      show lm_G X (d + 8) 123 106 0 0 21 [some (.ref 0), some (.int x), some (.int y), some (.int w), none, none, none, none, none, none] [.int (b2i (isP 2 w))] (lm_T M v G) Q
      refine lm_G_br (b := (b2i (isP 2 w)) = 0) (t := 28) (S' := []) rfl (fun hw => ?_) (fun hw => ?_)
      ·
        replace hw := b2i_0 hw
        refine lm_G_sg 1 (pc' := 29) (L' := [some (.ref 0), some (.int x), some (.int y), some (.int w), none, none, none, none, none, none]) (S' := [.int 0]) (σ' := lm_T M v G) rfl trivial ?_
        rw [show aGam F s x y w = .inr false from by simp +decide only [aGam, hw, hx, hy, if_true, if_false, Bool.and_true, Bool.true_and, Bool.and_self, Bool.false_and, Bool.and_false, Bool.false_eq_true]] at hQ
        refine lm_G_ca (j := 137) (as := [.int 0]) (rest := []) rfl (Or.inl rfl) (Nat.le_of_ble_eq_true rfl) (Nat.le_of_ble_eq_true rfl) (Nat.le_of_ble_eq_true rfl) (Nat.le_of_ble_eq_true rfl) rfl ?_
        exact c_mustExistF ⟨by decide, rfl, hQ M (Fr_rf _ _)⟩
      ·
        replace hw := b2i_1 hw
        refine lm_G_sg 2 (pc' := 29) (L' := [some (.ref 0), some (.int x), some (.int y), some (.int w), none, none, none, none, none, none]) (S' := [.int 1]) (σ' := lm_T M v G) rfl trivial ?_
        refine lm_G_ca (j := 137) (as := [.int 1]) (rest := []) rfl (Or.inl rfl) (Nat.le_of_ble_eq_true rfl) (Nat.le_of_ble_eq_true rfl) (Nat.le_of_ble_eq_true rfl) (Nat.le_of_ble_eq_true rfl) rfl ?_
        refine c_mustExistT ?_
        show lm_G X (d + 8) 123 106 1 6 32 [some (.ref 0), some (.int x), some (.int y), some (.int w), none, none, none, none, none, none] [] (lm_T M v G) Q
        refine lm_G_sg 2 (pc' := 34) (L' := [some (.ref 0), some (.int x), some (.int y), some (.int w), none, none, none, none, none, none]) (S' := [.int y, .int x]) (σ' := lm_T M v G) rfl trivial ?_
        refine lm_G_br (b := x = y) (t := 41) (S' := []) rfl (fun h1 => ?_) (fun h1 => ?_)
        ·
          refine lm_G_sg 1 (pc' := 42) (L' := [some (.ref 0), some (.int x), some (.int y), some (.int w), none, none, none, none, none, none]) (S' := [.int 0]) (σ' := lm_T M v G) rfl trivial ?_
          have h2 : decide (x ≠ y) = false := decide_eq_false (fun w => w h1)
          rw [show aGam F s x y w = .inr true from by simp +decide only [aGam, hx, hy, hw, h2, if_true, if_false, Bool.and_true, Bool.true_and, Bool.and_self, Bool.false_and, Bool.and_false, Bool.false_eq_true]] at hQ
          refine lm_G_ca (j := 138) (as := [.int 0]) (rest := []) rfl (Or.inl rfl) (Nat.le_of_ble_eq_true rfl) (Nat.le_of_ble_eq_true rfl) (Nat.le_of_ble_eq_true rfl) (Nat.le_of_ble_eq_true rfl) rfl ?_
          exact c_mustFitF ⟨by decide, rfl, hQ M (Fr_rf _ _)⟩
        ·
          refine lm_G_sg 2 (pc' := 42) (L' := [some (.ref 0), some (.int x), some (.int y), some (.int w), none, none, none, none, none, none]) (S' := [.int 1]) (σ' := lm_T M v G) rfl trivial ?_
          refine lm_G_ca (j := 138) (as := [.int 1]) (rest := []) rfl (Or.inl rfl) (Nat.le_of_ble_eq_true rfl) (Nat.le_of_ble_eq_true rfl) (Nat.le_of_ble_eq_true rfl) (Nat.le_of_ble_eq_true rfl) rfl ?_
          refine c_mustFitT ?_
          show lm_G X (d + 8) 123 106 2 12 45 [some (.ref 0), some (.int x), some (.int y), some (.int w), none, none, none, none, none, none] [] (lm_T M v G) Q
          have h2 : decide (x ≠ y) = true := decide_eq_true h1
          obtain ⟨p, hp, rfl⟩ := isP_nI hx (by omega)
          have cp : (nI p).toNatClampNeg = p := nI_clamp (by omega)
          obtain ⟨o, ho, rfl⟩ := isP_nI hy (by omega)
          have co : (nI o).toNatClampNeg = o := nI_clamp (by omega)
          have la1 : lsI (sHu s p) ≤ 1 := by unfold lsI; split <;> omega
          have lb1 : lsI (sHu s o) ≤ 1 := by unfold lsI; split <;> omega
          have k85 : lm_G X (d + 8) 123 106 2 12 85 [some (.ref 0), some (.int (nI p)), some (.int (nI o)), some (.int w), some (.int (nI (lsI (sHu s p)))), some (.int (nI (lsI (sHu s o)))), none, none, none, none] [] (lm_T M v G) Q := by
            refine lm_G_sg 2 (pc' := 88) (L' := [some (.ref 0), some (.int (nI p)), some (.int (nI o)), some (.int w), some (.int (nI (lsI (sHu s p)))), some (.int (nI (lsI (sHu s o)))), some (.int 0), none, none, none]) (S' := []) (σ' := lm_T M v G) rfl trivial ?_
            refine lm_ind (α := (Nat → Fn)) (St := fun (j : Nat) zz => (fun (M1 : Nat → Fn) => lm_G X (d + 8) 123 106 2 12 88 [some (.ref 0), some (.int (nI p)), some (.int (nI o)), some (.int w), some (.int (nI (lsI (sHu s p)))), some (.int (nI (lsI (sHu s o)))), some (.int (nI j)), none, none, none] [] (lm_T M1 v G) Q) zz) (Inv := fun (j : Nat) zz => (fun (M1 : Nat → Fn) => Fr frQ M M1 ∧ gnC F s p o (M1 63) j) zz) (4) (fun j zz hj hI ih => ?_) (fun zz hI => ?_) (0) M (by omega) ?_
            ·
              revert ih hI
              revert zz
              intro M1 hI ih
              replace hI : Fr frQ M M1 ∧ gnC F s p o (M1 63) j := hI
              replace ih : ∀ (M1 : Nat → Fn) (_ : Fr frQ M M1 ∧ gnC F s p o (M1 63) (j + 1)), lm_G X (d + 8) 123 106 2 12 88 [some (.ref 0), some (.int (nI p)), some (.int (nI o)), some (.int w), some (.int (nI (lsI (sHu s p)))), some (.int (nI (lsI (sHu s o)))), some (.int (nI (j + 1))), none, none, none] [] (lm_T M1 v G) Q := fun M1 q => ih M1 q
              show lm_G X (d + 8) 123 106 2 12 88 [some (.ref 0), some (.int (nI p)), some (.int (nI o)), some (.int w), some (.int (nI (lsI (sHu s p)))), some (.int (nI (lsI (sHu s o)))), some (.int (nI j)), none, none, none] [] (lm_T M1 v G) Q
              obtain ⟨f1, g1⟩ := hI
              refine lm_G_sg 2 (pc' := 91) (L' := [some (.ref 0), some (.int (nI p)), some (.int (nI o)), some (.int w), some (.int (nI (lsI (sHu s p)))), some (.int (nI (lsI (sHu s o)))), some (.int (nI j)), none, none, none]) (S' := [.int 4, .int (nI j)]) (σ' := lm_T M1 v G) rfl trivial ?_
              refine lm_G_br (b := 4 ≤ (nI j)) (t := 108) (S' := []) rfl (fun hc => absurd hc (nI_ge (b := 4) hj (by omega))) (fun hc => ?_)
              refine lm_G_sg 4 (pc' := 99) (L' := [some (.ref 0), some (.int (nI p)), some (.int (nI o)), some (.int w), some (.int (nI (lsI (sHu s p)))), some (.int (nI (lsI (sHu s o)))), some (.int (nI j)), none, none, none]) (S' := [.int (nI j), .int (nI o), .int (nI p), .ref 0]) (σ' := lm_T M1 v G) rfl trivial ?_
              refine lm_G_ca (j := 124) (as := [.ref 0, .int (nI p), .int (nI o), .int (nI j)]) (rest := []) rfl (Or.inl rfl) (Nat.le_of_ble_eq_true rfl) (Nat.le_of_ble_eq_true rfl) (Nat.le_of_ble_eq_true rfl) (Nat.le_of_ble_eq_true rfl) rfl ?_
              refine c_playCouple hF (RC_Q h f1) hs (by rw [f1 28 rfl]; exact hl) hp ho hj (fun M2 f2 e1 e2 e3 => ?_)
              show lm_G X (d + 8) 123 106 2 12 102 [some (.ref 0), some (.int (nI p)), some (.int (nI o)), some (.int w), some (.int (nI (lsI (sHu s p)))), some (.int (nI (lsI (sHu s o)))), some (.int (nI j)), none, none, none] [] (lm_T M2 v G) Q
              refine lm_G_sg 1 (pc' := 105) (L' := [some (.ref 0), some (.int (nI p)), some (.int (nI o)), some (.int w), some (.int (nI (lsI (sHu s p)))), some (.int (nI (lsI (sHu s o)))), some (.int ((nI j) + 1)), none, none, none]) (S' := []) (σ' := lm_T M2 v G) rfl trivial ?_
              rw [nI_1]
              refine lm_G_sg 1 (pc' := 88) (L' := [some (.ref 0), some (.int (nI p)), some (.int (nI o)), some (.int w), some (.int (nI (lsI (sHu s p)))), some (.int (nI (lsI (sHu s o)))), some (.int (nI (j + 1))), none, none, none]) (S' := []) (σ' := lm_T M2 v G) rfl trivial ?_
              exact ih _ (⟨Fr_tr f1 f2, fun i hi => if e : i = j then (by subst e; exact ⟨e1, e2⟩) else ⟨(e3 i e (by omega)).trans (g1 i (by omega)).1, (e3 (4 + i) (by omega) (by omega)).trans (g1 i (by omega)).2⟩⟩)
            ·
              revert hI
              revert zz
              intro M1 hI
              replace hI : Fr frQ M M1 ∧ gnC F s p o (M1 63) 4 := hI
              show lm_G X (d + 8) 123 106 2 12 88 [some (.ref 0), some (.int (nI p)), some (.int (nI o)), some (.int w), some (.int (nI (lsI (sHu s p)))), some (.int (nI (lsI (sHu s o)))), some (.int (nI 4)), none, none, none] [] (lm_T M1 v G) Q
              obtain ⟨f1, g1⟩ := hI
              refine lm_G_sg 2 (pc' := 91) (L' := [some (.ref 0), some (.int (nI p)), some (.int (nI o)), some (.int w), some (.int (nI (lsI (sHu s p)))), some (.int (nI (lsI (sHu s o)))), some (.int (nI 4)), none, none, none]) (S' := [.int 4, .int (nI 4)]) (σ' := lm_T M1 v G) rfl trivial ?_
              refine lm_G_br (b := 4 ≤ (nI 4)) (t := 108) (S' := []) rfl (fun hc => ?_) (fun hc => absurd (nI_le (a := 4) (Nat.le_refl _) (by omega)) hc)
              refine lm_G_sg 6 (pc' := 117) (L' := [some (.ref 0), some (.int (nI p)), some (.int (nI o)), some (.int w), some (.int (nI (lsI (sHu s p)))), some (.int (nI (lsI (sHu s o)))), some (.int 0), some (.int (-1)), some (.int 0), none]) (S' := []) (σ' := lm_T M1 v G) rfl trivial ?_
              refine lm_ind (α := Unit) (St := fun (j : Nat) zz => lm_G X (d + 8) 123 106 2 12 117 [some (.ref 0), some (.int (nI p)), some (.int (nI o)), some (.int w), some (.int (nI (lsI (sHu s p)))), some (.int (nI (lsI (sHu s o)))), some (.int (ctS (okc F s p o) (2 * j))), some (.int (fiC (okc F s p o) (2 * j))), some (.int (nI j)), none] [] (lm_T M1 v G) Q) (Inv := fun (j : Nat) zz => True) (lsI (sHu s p) + 1) (fun j zz hj2 hI2 ih2 => ?_) (fun zz hI2 => ?_) (0) () (by omega) ?_
              ·
                replace hI2 : True := hI2
                replace ih2 : ∀ (_ : True), lm_G X (d + 8) 123 106 2 12 117 [some (.ref 0), some (.int (nI p)), some (.int (nI o)), some (.int w), some (.int (nI (lsI (sHu s p)))), some (.int (nI (lsI (sHu s o)))), some (.int (ctS (okc F s p o) (2 * (j + 1)))), some (.int (fiC (okc F s p o) (2 * (j + 1)))), some (.int (nI (j + 1))), none] [] (lm_T M1 v G) Q := fun q => ih2 () q
                show lm_G X (d + 8) 123 106 2 12 117 [some (.ref 0), some (.int (nI p)), some (.int (nI o)), some (.int w), some (.int (nI (lsI (sHu s p)))), some (.int (nI (lsI (sHu s o)))), some (.int (ctS (okc F s p o) (2 * j))), some (.int (fiC (okc F s p o) (2 * j))), some (.int (nI j)), none] [] (lm_T M1 v G) Q
                refine lm_G_sg 2 (pc' := 121) (L' := [some (.ref 0), some (.int (nI p)), some (.int (nI o)), some (.int w), some (.int (nI (lsI (sHu s p)))), some (.int (nI (lsI (sHu s o)))), some (.int (ctS (okc F s p o) (2 * j))), some (.int (fiC (okc F s p o) (2 * j))), some (.int (nI j)), none]) (S' := [.int (nI (lsI (sHu s p))), .int (nI j)]) (σ' := lm_T M1 v G) rfl trivial ?_
                refine lm_G_br (b := (nI (lsI (sHu s p))) < (nI j)) (t := 183) (S' := []) rfl (fun hc => absurd hc (nI_nlt (by omega) (by omega))) (fun hc => ?_)
                refine lm_G_sg 2 (pc' := 127) (L' := [some (.ref 0), some (.int (nI p)), some (.int (nI o)), some (.int w), some (.int (nI (lsI (sHu s p)))), some (.int (nI (lsI (sHu s o)))), some (.int (ctS (okc F s p o) (2 * j))), some (.int (fiC (okc F s p o) (2 * j))), some (.int (nI j)), some (.int 0)]) (S' := []) (σ' := lm_T M1 v G) rfl trivial ?_
                refine lm_ind (α := Unit) (St := fun (i : Nat) zz => lm_G X (d + 8) 123 106 2 12 127 [some (.ref 0), some (.int (nI p)), some (.int (nI o)), some (.int w), some (.int (nI (lsI (sHu s p)))), some (.int (nI (lsI (sHu s o)))), some (.int (ctS (okc F s p o) (2 * j + i))), some (.int (fiC (okc F s p o) (2 * j + i))), some (.int (nI j)), some (.int (nI i))] [] (lm_T M1 v G) Q) (Inv := fun (i : Nat) zz => True) (lsI (sHu s o) + 1) (fun i zz hj3 hI3 ih3 => ?_) (fun zz hI3 => ?_) (0) () (by omega) ?_
                ·
                  replace hI3 : True := hI3
                  replace ih3 : ∀ (_ : True), lm_G X (d + 8) 123 106 2 12 127 [some (.ref 0), some (.int (nI p)), some (.int (nI o)), some (.int w), some (.int (nI (lsI (sHu s p)))), some (.int (nI (lsI (sHu s o)))), some (.int (ctS (okc F s p o) (2 * j + (i + 1)))), some (.int (fiC (okc F s p o) (2 * j + (i + 1)))), some (.int (nI j)), some (.int (nI (i + 1)))] [] (lm_T M1 v G) Q := fun q => ih3 () q
                  show lm_G X (d + 8) 123 106 2 12 127 [some (.ref 0), some (.int (nI p)), some (.int (nI o)), some (.int w), some (.int (nI (lsI (sHu s p)))), some (.int (nI (lsI (sHu s o)))), some (.int (ctS (okc F s p o) (2 * j + i))), some (.int (fiC (okc F s p o) (2 * j + i))), some (.int (nI j)), some (.int (nI i))] [] (lm_T M1 v G) Q
                  refine lm_G_sg 2 (pc' := 131) (L' := [some (.ref 0), some (.int (nI p)), some (.int (nI o)), some (.int w), some (.int (nI (lsI (sHu s p)))), some (.int (nI (lsI (sHu s o)))), some (.int (ctS (okc F s p o) (2 * j + i))), some (.int (fiC (okc F s p o) (2 * j + i))), some (.int (nI j)), some (.int (nI i))]) (S' := [.int (nI (lsI (sHu s o))), .int (nI i)]) (σ' := lm_T M1 v G) rfl trivial ?_
                  refine lm_G_br (b := (nI (lsI (sHu s o))) < (nI i)) (t := 177) (S' := []) rfl (fun hc => absurd hc (nI_nlt (by omega) (by omega))) (fun hc => ?_)
                  refine lm_G_sg 4 (pc' := 139) (L' := [some (.ref 0), some (.int (nI p)), some (.int (nI o)), some (.int w), some (.int (nI (lsI (sHu s p)))), some (.int (nI (lsI (sHu s o)))), some (.int (ctS (okc F s p o) (2 * j + i))), some (.int (fiC (okc F s p o) (2 * j + i))), some (.int (nI j)), some (.int (nI i))]) (S' := [.int (2 * (nI j)), .ref 0]) (σ' := lm_T M1 v G) rfl trivial ?_
                  rw [show 2 * (nI j) = nI (2 * j) from pk_mul 2 j]
                  refine lm_G_sg 2 (pc' := 142) (L' := [some (.ref 0), some (.int (nI p)), some (.int (nI o)), some (.int w), some (.int (nI (lsI (sHu s p)))), some (.int (nI (lsI (sHu s o)))), some (.int (ctS (okc F s p o) (2 * j + i))), some (.int (fiC (okc F s p o) (2 * j + i))), some (.int (nI j)), some (.int (nI i))]) (S' := [.int ((nI (2 * j)) + (nI i)), .ref 0]) (σ' := lm_T M1 v G) rfl trivial ?_
                  rw [show (nI (2 * j)) + (nI i) = nI ((2 * j) + i) from nI_add (2 * j) i]
                  refine lm_G_sg 2 (pc' := 146) (L' := [some (.ref 0), some (.int (nI p)), some (.int (nI o)), some (.int w), some (.int (nI (lsI (sHu s p)))), some (.int (nI (lsI (sHu s o)))), some (.int (ctS (okc F s p o) (2 * j + i))), some (.int (fiC (okc F s p o) (2 * j + i))), some (.int (nI j)), some (.int (nI i))]) (S' := [.int (nI (lsI (sHu s o))), .int (nI (lsI (sHu s p))), .int (nI ((2 * j) + i)), .ref 0]) (σ' := lm_T M1 v G) rfl trivial ?_
                  refine lm_G_ca (j := 125) (as := [.ref 0, .int (nI ((2 * j) + i)), .int (nI (lsI (sHu s p))), .int (nI (lsI (sHu s o)))]) (rest := []) rfl (Or.inl rfl) (Nat.le_of_ble_eq_true rfl) (Nat.le_of_ble_eq_true rfl) (Nat.le_of_ble_eq_true rfl) (Nat.le_of_ble_eq_true rfl) rfl ?_
                  refine c_rests (p := p) (o := o) (s := s) (by omega) g1 ?_
                  show lm_G X (d + 8) 123 106 2 12 149 [some (.ref 0), some (.int (nI p)), some (.int (nI o)), some (.int w), some (.int (nI (lsI (sHu s p)))), some (.int (nI (lsI (sHu s o)))), some (.int (ctS (okc F s p o) (2 * j + i))), some (.int (fiC (okc F s p o) (2 * j + i))), some (.int (nI j)), some (.int (nI i))] [.int (b2i (rsS F s p o (2 * j + i)))] (lm_T M1 v G) Q
                  have ec : (okc F s p o) (2 * j + i) = rsS F s p o (2 * j + i) := ok_al (by
                    by_cases w : sHu s p = -1
                    · have : lsI (sHu s p) = 0 := if_pos w
                      exact Or.inl (by omega)
                    · exact Or.inr w) (by
                    by_cases w : sHu s o = -1
                    · have : lsI (sHu s o) = 0 := if_pos w
                      exact Or.inl (by omega)
                    · exact Or.inr w)
                  refine lm_G_br (b := (b2i (rsS F s p o (2 * j + i))) = 0) (t := 171) (S' := []) rfl (fun h5 => ?_) (fun h5 => ?_)
                  ·
                    refine lm_G_sg 1 (pc' := 174) (L' := [some (.ref 0), some (.int (nI p)), some (.int (nI o)), some (.int w), some (.int (nI (lsI (sHu s p)))), some (.int (nI (lsI (sHu s o)))), some (.int (ctS (okc F s p o) (2 * j + i))), some (.int (fiC (okc F s p o) (2 * j + i))), some (.int (nI j)), some (.int ((nI i) + 1))]) (S' := []) (σ' := lm_T M1 v G) rfl trivial ?_
                    rw [nI_1]
                    refine lm_G_sg 1 (pc' := 127) (L' := [some (.ref 0), some (.int (nI p)), some (.int (nI o)), some (.int w), some (.int (nI (lsI (sHu s p)))), some (.int (nI (lsI (sHu s o)))), some (.int (ctS (okc F s p o) (2 * j + i))), some (.int (fiC (okc F s p o) (2 * j + i))), some (.int (nI j)), some (.int (nI (i + 1)))]) (S' := []) (σ' := lm_T M1 v G) rfl trivial ?_
                    have e0 := ec.trans (b2i_0 h5)
                    rw [show 2 * j + (i + 1) = 2 * j + i + 1 from rfl, ct_n e0, fc_n e0] at ih3
                    exact ih3  trivial
                  ·
                    have e1 := ec.trans (b2i_1 h5)
                    rw [show 2 * j + (i + 1) = 2 * j + i + 1 from rfl, ct_y e1] at ih3
                    refine lm_G_sg 3 (pc' := 158) (L' := [some (.ref 0), some (.int (nI p)), some (.int (nI o)), some (.int w), some (.int (nI (lsI (sHu s p)))), some (.int (nI (lsI (sHu s o)))), some (.int ((ctS (okc F s p o) (2 * j + i)) + 1)), some (.int (fiC (okc F s p o) (2 * j + i))), some (.int (nI j)), some (.int (nI i))]) (S' := [.int (-1), .int (fiC (okc F s p o) (2 * j + i))]) (σ' := lm_T M1 v G) rfl trivial ?_
                    refine lm_G_br (b := ¬ (fiC (okc F s p o) (2 * j + i)) = (-1)) (t := 171) (S' := []) rfl (fun h6 => ?_) (fun h6 => ?_)
                    ·
                      refine lm_G_sg 1 (pc' := 174) (L' := [some (.ref 0), some (.int (nI p)), some (.int (nI o)), some (.int w), some (.int (nI (lsI (sHu s p)))), some (.int (nI (lsI (sHu s o)))), some (.int ((ctS (okc F s p o) (2 * j + i)) + 1)), some (.int (fiC (okc F s p o) (2 * j + i))), some (.int (nI j)), some (.int ((nI i) + 1))]) (S' := []) (σ' := lm_T M1 v G) rfl trivial ?_
                      rw [nI_1]
                      refine lm_G_sg 1 (pc' := 127) (L' := [some (.ref 0), some (.int (nI p)), some (.int (nI o)), some (.int w), some (.int (nI (lsI (sHu s p)))), some (.int (nI (lsI (sHu s o)))), some (.int ((ctS (okc F s p o) (2 * j + i)) + 1)), some (.int (fiC (okc F s p o) (2 * j + i))), some (.int (nI j)), some (.int (nI (i + 1)))]) (S' := []) (σ' := lm_T M1 v G) rfl trivial ?_
                      rw [fc_k h6] at ih3
                      exact ih3  trivial
                    ·
                      refine lm_G_sg 3 (pc' := 166) (L' := [some (.ref 0), some (.int (nI p)), some (.int (nI o)), some (.int w), some (.int (nI (lsI (sHu s p)))), some (.int (nI (lsI (sHu s o)))), some (.int ((ctS (okc F s p o) (2 * j + i)) + 1)), some (.int (fiC (okc F s p o) (2 * j + i))), some (.int (nI j)), some (.int (nI i))]) (S' := [.int (10 * (nI j))]) (σ' := lm_T M1 v G) rfl trivial ?_
                      rw [show 10 * (nI j) = nI (10 * j) from pk_mul 10 j]
                      refine lm_G_sg 2 (pc' := 169) (L' := [some (.ref 0), some (.int (nI p)), some (.int (nI o)), some (.int w), some (.int (nI (lsI (sHu s p)))), some (.int (nI (lsI (sHu s o)))), some (.int ((ctS (okc F s p o) (2 * j + i)) + 1)), some (.int (fiC (okc F s p o) (2 * j + i))), some (.int (nI j)), some (.int (nI i))]) (S' := [.int ((nI (10 * j)) + (nI i))]) (σ' := lm_T M1 v G) rfl trivial ?_
                      rw [show (nI (10 * j)) + (nI i) = nI ((10 * j) + i) from nI_add (10 * j) i]
                      refine lm_G_sg 2 (pc' := 174) (L' := [some (.ref 0), some (.int (nI p)), some (.int (nI o)), some (.int w), some (.int (nI (lsI (sHu s p)))), some (.int (nI (lsI (sHu s o)))), some (.int ((ctS (okc F s p o) (2 * j + i)) + 1)), some (.int (nI ((10 * j) + i))), some (.int (nI j)), some (.int ((nI i) + 1))]) (S' := []) (σ' := lm_T M1 v G) rfl trivial ?_
                      rw [nI_1]
                      refine lm_G_sg 1 (pc' := 127) (L' := [some (.ref 0), some (.int (nI p)), some (.int (nI o)), some (.int w), some (.int (nI (lsI (sHu s p)))), some (.int (nI (lsI (sHu s o)))), some (.int ((ctS (okc F s p o) (2 * j + i)) + 1)), some (.int (nI ((10 * j) + i))), some (.int (nI j)), some (.int (nI (i + 1)))]) (S' := []) (σ' := lm_T M1 v G) rfl trivial ?_
                      rw [fc_y e1 (Classical.not_not.mp h6) (by omega), show 10 * ((2 * j + i) / 2) + (2 * j + i) % 2 = 10 * j + i by omega] at ih3
                      exact ih3  trivial
                ·
                  replace hI3 : True := hI3
                  show lm_G X (d + 8) 123 106 2 12 127 [some (.ref 0), some (.int (nI p)), some (.int (nI o)), some (.int w), some (.int (nI (lsI (sHu s p)))), some (.int (nI (lsI (sHu s o)))), some (.int (ctS (okc F s p o) (2 * j + (lsI (sHu s o) + 1)))), some (.int (fiC (okc F s p o) (2 * j + (lsI (sHu s o) + 1)))), some (.int (nI j)), some (.int (nI (lsI (sHu s o) + 1)))] [] (lm_T M1 v G) Q
                  refine lm_G_sg 2 (pc' := 131) (L' := [some (.ref 0), some (.int (nI p)), some (.int (nI o)), some (.int w), some (.int (nI (lsI (sHu s p)))), some (.int (nI (lsI (sHu s o)))), some (.int (ctS (okc F s p o) (2 * j + (lsI (sHu s o) + 1)))), some (.int (fiC (okc F s p o) (2 * j + (lsI (sHu s o) + 1)))), some (.int (nI j)), some (.int (nI (lsI (sHu s o) + 1)))]) (S' := [.int (nI (lsI (sHu s o))), .int (nI (lsI (sHu s o) + 1))]) (σ' := lm_T M1 v G) rfl trivial ?_
                  refine lm_G_br (b := (nI (lsI (sHu s o))) < (nI (lsI (sHu s o) + 1))) (t := 177) (S' := []) rfl (fun hc => ?_) (fun hc => absurd (nI_lt (by omega) (by omega)) hc)
                  refine lm_G_sg 1 (pc' := 180) (L' := [some (.ref 0), some (.int (nI p)), some (.int (nI o)), some (.int w), some (.int (nI (lsI (sHu s p)))), some (.int (nI (lsI (sHu s o)))), some (.int (ctS (okc F s p o) (2 * j + (lsI (sHu s o) + 1)))), some (.int (fiC (okc F s p o) (2 * j + (lsI (sHu s o) + 1)))), some (.int ((nI j) + 1)), some (.int (nI (lsI (sHu s o) + 1)))]) (S' := []) (σ' := lm_T M1 v G) rfl trivial ?_
                  rw [nI_1]
                  refine lm_G_sg 1 (pc' := 117) (L' := [some (.ref 0), some (.int (nI p)), some (.int (nI o)), some (.int w), some (.int (nI (lsI (sHu s p)))), some (.int (nI (lsI (sHu s o)))), some (.int (ctS (okc F s p o) (2 * j + (lsI (sHu s o) + 1)))), some (.int (fiC (okc F s p o) (2 * j + (lsI (sHu s o) + 1)))), some (.int (nI (j + 1))), some (.int (nI (lsI (sHu s o) + 1)))]) (S' := []) (σ' := lm_T M1 v G) rfl trivial ?_
                  have el : ctS (okc F s p o) (2 * j + (lsI (sHu s o) + 1)) = ctS (okc F s p o) (2 * (j + 1)) ∧ fiC (okc F s p o) (2 * j + (lsI (sHu s o) + 1)) = fiC (okc F s p o) (2 * (j + 1)) := by
                    by_cases w : sHu s o = -1
                    · have e0 : lsI (sHu s o) = 0 := if_pos w
                      have e1 : (okc F s p o) (2 * j + 1) = false := ok_sk1 w (by omega)
                      rw [e0, show 2 * (j + 1) = 2 * j + 1 + 1 by omega, ct_n e1, fc_n e1]
                      exact ⟨rfl, rfl⟩
                    · have e0 : lsI (sHu s o) = 1 := if_neg w
                      rw [e0]
                      exact ⟨rfl, rfl⟩
                  rw [el.1, el.2]
                  refine lm_G_jk (L := [some (.ref 0), some (.int (nI p)), some (.int (nI o)), some (.int w), some (.int (nI (lsI (sHu s p)))), some (.int (nI (lsI (sHu s o)))), some (.int (ctS (okc F s p o) (2 * (j + 1)))), some (.int (fiC (okc F s p o) (2 * (j + 1)))), some (.int (nI (j + 1))), none]) ⟨rfl, rfl, rfl, rfl, rfl, rfl, rfl, rfl, rfl, trivial⟩ ?_
                  exact ih2  trivial
                ·
                  trivial
              ·
                replace hI2 : True := hI2
                show lm_G X (d + 8) 123 106 2 12 117 [some (.ref 0), some (.int (nI p)), some (.int (nI o)), some (.int w), some (.int (nI (lsI (sHu s p)))), some (.int (nI (lsI (sHu s o)))), some (.int (ctS (okc F s p o) (2 * (lsI (sHu s p) + 1)))), some (.int (fiC (okc F s p o) (2 * (lsI (sHu s p) + 1)))), some (.int (nI (lsI (sHu s p) + 1))), none] [] (lm_T M1 v G) Q
                refine lm_G_sg 2 (pc' := 121) (L' := [some (.ref 0), some (.int (nI p)), some (.int (nI o)), some (.int w), some (.int (nI (lsI (sHu s p)))), some (.int (nI (lsI (sHu s o)))), some (.int (ctS (okc F s p o) (2 * (lsI (sHu s p) + 1)))), some (.int (fiC (okc F s p o) (2 * (lsI (sHu s p) + 1)))), some (.int (nI (lsI (sHu s p) + 1))), none]) (S' := [.int (nI (lsI (sHu s p))), .int (nI (lsI (sHu s p) + 1))]) (σ' := lm_T M1 v G) rfl trivial ?_
                refine lm_G_br (b := (nI (lsI (sHu s p))) < (nI (lsI (sHu s p) + 1))) (t := 183) (S' := []) rfl (fun hc => ?_) (fun hc => absurd (nI_lt (by omega) (by omega)) hc)
                have el : ctS (okc F s p o) (2 * (lsI (sHu s p) + 1)) = ctS (okc F s p o) 4 ∧ fiC (okc F s p o) (2 * (lsI (sHu s p) + 1)) = fiC (okc F s p o) 4 := by
                  by_cases w : sHu s p = -1
                  · have e0 : lsI (sHu s p) = 0 := if_pos w
                    have e1 : (okc F s p o) 2 = false := ok_sk2 w (by omega)
                    have e2 : (okc F s p o) 3 = false := ok_sk2 w (by omega)
                    rw [e0, show (4 : Nat) = 2 + 1 + 1 by omega, ct_n e2, fc_n e2, ct_n e1, fc_n e1]
                    exact ⟨rfl, rfl⟩
                  · have e0 : lsI (sHu s p) = 1 := if_neg w
                    rw [e0]
                    exact ⟨rfl, rfl⟩
                rw [el.1, el.2]
                refine lm_G_sg 1 (pc' := 184) (L' := [some (.ref 0), some (.int (nI p)), some (.int (nI o)), some (.int w), some (.int (nI (lsI (sHu s p)))), some (.int (nI (lsI (sHu s o)))), some (.int (ctS (okc F s p o) 4)), some (.int (fiC (okc F s p o) 4)), some (.int (nI (lsI (sHu s p) + 1))), none]) (S' := [.int w]) (σ' := lm_T M1 v G) rfl trivial ?_
                rcases isP_2 hw with rfl | rfl
                ·
                  refine lm_G_br (b := ¬ 0 = 0) (t := 192) (S' := []) rfl (fun hc => absurd rfl hc) (fun hc => ?_)
                  refine lm_G_sg 2 (pc' := 194) (L' := [some (.ref 0), some (.int (nI p)), some (.int (nI o)), some (.int 0), some (.int (nI (lsI (sHu s p)))), some (.int (nI (lsI (sHu s o)))), some (.int (ctS (okc F s p o) 4)), some (.int (fiC (okc F s p o) 4)), some (.int (nI (lsI (sHu s p) + 1))), none]) (S' := [.int (ctS (okc F s p o) 4)]) (σ' := lm_T M1 v G) rfl trivial ?_
                  rw [show aGam F s (nI p) (nI o) 0 = .inl (ctS (okc F s p o) 4) from by simp +decide only [aGam, hx, hy, hw, h2, cp, co, if_true, if_false, Bool.and_true, Bool.true_and, Bool.and_self, Bool.false_and, Bool.and_false, Bool.false_eq_true]] at hQ
                  exact lm_G_re rfl trivial (Nat.le_of_ble_eq_true rfl) (Nat.le_of_ble_eq_true rfl) (hQ _ f1)
                ·
                  refine lm_G_br (b := ¬ 1 = 0) (t := 192) (S' := []) rfl (fun hc => ?_) (fun hc => absurd (by decide) hc)
                  refine lm_G_sg 1 (pc' := 194) (L' := [some (.ref 0), some (.int (nI p)), some (.int (nI o)), some (.int 1), some (.int (nI (lsI (sHu s p)))), some (.int (nI (lsI (sHu s o)))), some (.int (ctS (okc F s p o) 4)), some (.int (fiC (okc F s p o) 4)), some (.int (nI (lsI (sHu s p) + 1))), none]) (S' := [.int (fiC (okc F s p o) 4)]) (σ' := lm_T M1 v G) rfl trivial ?_
                  rw [show aGam F s (nI p) (nI o) 1 = .inl (fiC (okc F s p o) 4) from by simp +decide only [aGam, hx, hy, hw, h2, cp, co, if_true, if_false, Bool.and_true, Bool.true_and, Bool.and_self, Bool.false_and, Bool.and_false, Bool.false_eq_true]] at hQ
                  exact lm_G_re rfl trivial (Nat.le_of_ble_eq_true rfl) (Nat.le_of_ble_eq_true rfl) (hQ _ f1)
              ·
                trivial
            ·
              try dsimp only
              exact ⟨Fr_rf _ _, fun i hi => by omega⟩
          refine lm_G_sg 5 (pc' := 54) (L' := [some (.ref 0), some (.int (nI p)), some (.int (nI o)), some (.int w), none, none, none, none, none, none]) (S' := [.int (M 32 (nI p).toNatClampNeg)]) (σ' := lm_T M v G) rfl ⟨(vp_in_nI (by omega) (by omega)), trivial, trivial⟩ ?_
          rw [show (nI p).toNatClampNeg = p from nI_clamp (by omega)]
          rw [show M 32 p = sHu s p from h.hu p (by omega)]
          refine lm_G_sg 1 (pc' := 55) (L' := [some (.ref 0), some (.int (nI p)), some (.int (nI o)), some (.int w), none, none, none, none, none, none]) (S' := [.int (-1), .int (sHu s p)]) (σ' := lm_T M v G) rfl trivial ?_
          refine lm_G_br (b := ¬ (sHu s p) = (-1)) (t := 62) (S' := []) rfl (fun h3 => ?_) (fun h3 => ?_)
          ·
            refine lm_G_sg 7 (pc' := 74) (L' := [some (.ref 0), some (.int (nI p)), some (.int (nI o)), some (.int w), some (.int 1), none, none, none, none, none]) (S' := [.int (M 32 (nI o).toNatClampNeg)]) (σ' := lm_T M v G) rfl ⟨(vp_in_nI (by omega) (by omega)), trivial, trivial⟩ ?_
            rw [show (nI o).toNatClampNeg = o from nI_clamp (by omega)]
            rw [show M 32 o = sHu s o from h.hu o (by omega)]
            refine lm_G_sg 1 (pc' := 75) (L' := [some (.ref 0), some (.int (nI p)), some (.int (nI o)), some (.int w), some (.int 1), none, none, none, none, none]) (S' := [.int (-1), .int (sHu s o)]) (σ' := lm_T M v G) rfl trivial ?_
            refine lm_G_br (b := ¬ (sHu s o) = (-1)) (t := 82) (S' := []) rfl (fun h4 => ?_) (fun h4 => ?_)
            ·
              refine lm_G_sg 2 (pc' := 85) (L' := [some (.ref 0), some (.int (nI p)), some (.int (nI o)), some (.int w), some (.int 1), some (.int 1), none, none, none, none]) (S' := []) (σ' := lm_T M v G) rfl trivial ?_
              rw [show lsI (sHu s p) = 1 from (if_neg h3), show lsI (sHu s o) = 1 from (if_neg h4)] at k85
              exact k85
            ·
              refine lm_G_sg 3 (pc' := 85) (L' := [some (.ref 0), some (.int (nI p)), some (.int (nI o)), some (.int w), some (.int 1), some (.int 0), none, none, none, none]) (S' := []) (σ' := lm_T M v G) rfl trivial ?_
              rw [show lsI (sHu s p) = 1 from (if_neg h3), show lsI (sHu s o) = 0 from (if_pos (Classical.not_not.mp h4))] at k85
              exact k85
          ·
            refine lm_G_sg 8 (pc' := 74) (L' := [some (.ref 0), some (.int (nI p)), some (.int (nI o)), some (.int w), some (.int 0), none, none, none, none, none]) (S' := [.int (M 32 (nI o).toNatClampNeg)]) (σ' := lm_T M v G) rfl ⟨(vp_in_nI (by omega) (by omega)), trivial, trivial⟩ ?_
            rw [show (nI o).toNatClampNeg = o from nI_clamp (by omega)]
            rw [show M 32 o = sHu s o from h.hu o (by omega)]
            refine lm_G_sg 1 (pc' := 75) (L' := [some (.ref 0), some (.int (nI p)), some (.int (nI o)), some (.int w), some (.int 0), none, none, none, none, none]) (S' := [.int (-1), .int (sHu s o)]) (σ' := lm_T M v G) rfl trivial ?_
            refine lm_G_br (b := ¬ (sHu s o) = (-1)) (t := 82) (S' := []) rfl (fun h4 => ?_) (fun h4 => ?_)
            ·
              refine lm_G_sg 2 (pc' := 85) (L' := [some (.ref 0), some (.int (nI p)), some (.int (nI o)), some (.int w), some (.int 0), some (.int 1), none, none, none, none]) (S' := []) (σ' := lm_T M v G) rfl trivial ?_
              rw [show lsI (sHu s p) = 0 from (if_pos (Classical.not_not.mp h3)), show lsI (sHu s o) = 1 from (if_neg h4)] at k85
              exact k85
            ·
              refine lm_G_sg 3 (pc' := 85) (L' := [some (.ref 0), some (.int (nI p)), some (.int (nI o)), some (.int w), some (.int 0), some (.int 0), none, none, none, none]) (S' := []) (σ' := lm_T M v G) rfl trivial ?_
              rw [show lsI (sHu s p) = 0 from (if_pos (Classical.not_not.mp h3)), show lsI (sHu s o) = 0 from (if_pos (Classical.not_not.mp h4))] at k85
              exact k85
