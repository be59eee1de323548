/-! ===== contracts: sights, the model ===== -/
theorem upd_back {f : Fn} {p : Nat} {x : Int32} : upd (upd f p x) p (f p) = f := by
  funext j
  by_cases e : j = p
  · rw [e, pk_us]
  · rw [pk_un e, pk_un e]
theorem cd_dm {x : Nat} : cdS x / 100 = pjS x ∧ cdS x % 100 = vjS x := by unfold cdS pjS vjS; omega
/-- the fits are told -/
def ftI (F : Fa) (B : Bk) (s : Sc) (M : Nat → Fn) (n : Nat) : Prop := M 64 51 = nI (glS F B s n).length ∧ ∀ k, k < (glS F B s n).length → M 96 k = nI (cdS ((glS F B s n).getD k 0))
theorem MB_S {M M1 : Nat → Fn} {F : Fa} {B : Bk} (h : MB1 M F B) (f : FrS M M1) : MB1 M1 F B := MB_fr h (f.2 37 (by decide) (by decide)) (f.2 38 (by decide) (by decide)) (f.1 87 rfl) (f.1 92 rfl) (f.1 93 rfl) (f.1 94 rfl) (f.1 78 rfl)
theorem MB_N {M M1 : Nat → Fn} {F : Fa} {B : Bk} (h : MB1 M F B) (f : FrN M M1) : MB1 M1 F B := MB_fr h (f.2 37 (by decide) (by decide) (by decide) (by decide) (by decide)) (f.2 38 (by decide) (by decide) (by decide) (by decide) (by decide)) (f.1 87 rfl) (f.1 92 rfl) (f.1 93 rfl) (f.1 94 rfl) (f.1 78 rfl)
set_option maxRecDepth 10000 in
theorem m_see {X : lm_X} {d v : Nat} {M : Nat → Nat → Int32} {G : Nat → Nat → Int64} {Q : lm_O → lm_S → Prop} {F : Fa} {s : Sc} {B : Bk} {x y z : Int32} (hF : okF F) (hm0 : MS M F s B) (hG : bkG B ≤ 8) (hQ : ∀ M1, MS M1 F s (seeB F B x y z) → FrH M M1 → M1 64 4 = cd (aSee F B x y z) → Q (.inl (some (.int (vl (aSee F B x y z))))) (lm_T M1 v G)) : lm_Q X (d + 2) 229 [.ref 64, .int x, .int y, .int z] (lm_T M v G) Q := by
  have hn := hF.n
  have hm := hF.m
  show lm_G X (d + 2) 229 106 0 0 0 [some (.ref 64), some (.int x), some (.int y), some (.int z)] [] (lm_T M v G) Q
  refine lm_G_sg 3 (pc' := 5) (L' := [some (.ref 64), some (.int x), some (.int y), some (.int z)]) (S' := []) (σ' := lm_T (lm_wr M 64 4 0) v G) rfl ⟨trivial, trivial, trivial⟩ ?_
  have m0 : MS (lm_wr M 64 4 0) F s B := MS_4 hm0 0
  have f0 : FrH M (lm_wr M 64 4 0) := FrH_w64 (FrH_rf _) (Or.inl rfl)
  have c0 : (lm_wr M 64 4 0) 64 4 = 0 := wr_same
  revert m0 f0 c0
  generalize lm_wr M 64 4 0 = M0
  intro m0 f0 c0
  have h0 := m0.1
  refine lm_G_sg 2 (pc' := 7) (L' := [some (.ref 64), some (.int x), some (.int y), some (.int z)]) (S' := [.int x, .ref 64]) (σ' := lm_T M0 v G) rfl trivial ?_
  refine lm_G_ca (j := 145) (as := [.ref 64, .int x]) (rest := []) rfl (Or.inl rfl) (Nat.le_of_ble_eq_true rfl) (Nat.le_of_ble_eq_true rfl) (Nat.le_of_ble_eq_true rfl) (Nat.le_of_ble_eq_true rfl) rfl ?_
  refine m_isPerson hF h0 ?_
  show lm_G X (d + 2) 229 106 0 0 10 [some (.ref 64), some (.int x), some (.int y), some (.int z)] [.int (b2i (isP (fN F) x))] (lm_T M0 v G) Q
  refine lm_G_br (b := ¬ (b2i (isP (fN F) x)) = 0) (t := 19) (S' := []) rfl (fun hx => ?_) (fun hx => ?_)
  rotate_left
  ·
    replace hx := b2i_0 (Classical.not_not.mp hx)
    refine lm_G_sg 2 (pc' := 15) (L' := [some (.ref 64), some (.int x), some (.int y), some (.int z)]) (S' := [.int 1, .ref 64]) (σ' := lm_T M0 v G) rfl trivial ?_
    refine lm_G_ca (j := 141) (as := [.ref 64, .int 1]) (rest := []) rfl (Or.inl rfl) (Nat.le_of_ble_eq_true rfl) (Nat.le_of_ble_eq_true rfl) (Nat.le_of_ble_eq_true rfl) (Nat.le_of_ble_eq_true rfl) rfl ?_
    refine m_fail ?_
    show lm_G X (d + 2) 229 106 0 0 18 [some (.ref 64), some (.int x), some (.int y), some (.int z)] [.int 0] (lm_T (lm_wr M0 64 4 1) v G) Q
    simp +decide only [aSee, seeB, hx, if_true, if_false, Bool.and_true, Bool.true_and, Bool.and_self, Bool.false_and, Bool.and_false, Bool.false_eq_true] at hQ
    exact lm_G_re rfl trivial (Nat.zero_le _) (Nat.zero_le _) (hQ _ (MS_4 m0 1) (FrH_w64 f0 (Or.inl rfl)) wr_same)
  ·
    replace hx := b2i_1 hx
    obtain ⟨p, hp, rfl⟩ := isP_nI hx (by omega)
    have cp : (nI p).toNatClampNeg = p := nI_clamp (by omega)
    have k60 : ∀ (hd : dSee F B y z = false), lm_G X (d + 2) 229 106 0 0 60 [some (.ref 64), some (.int (nI p)), some (.int y), some (.int z)] [] (lm_T M0 v G) Q := by
      intro hd
      simp +decide only [aSee, seeB, hx, hd, if_true, if_false, Bool.and_true, Bool.true_and, Bool.and_self, Bool.false_and, Bool.and_false, Bool.false_eq_true] at hQ
      refine lm_G_sg 2 (pc' := 62) (L' := [some (.ref 64), some (.int (nI p)), some (.int y), some (.int z)]) (S' := [.int 2, .ref 64]) (σ' := lm_T M0 v G) rfl trivial ?_
      refine lm_G_ca (j := 204) (as := [.ref 64, .int 2]) (rest := []) rfl (Or.inl rfl) (Nat.le_of_ble_eq_true rfl) (Nat.le_of_ble_eq_true rfl) (Nat.le_of_ble_eq_true rfl) (Nat.le_of_ble_eq_true rfl) rfl ?_
      refine m_refuse4 (j := 2) (by omega) m0 (fun M1 m1 k1 e1 => ?_)
      show lm_G X (d + 2) 229 106 0 0 65 [some (.ref 64), some (.int (nI p)), some (.int y), some (.int z)] [.int (-1)] (lm_T M1 v G) Q
      exact lm_G_re rfl trivial (Nat.zero_le _) (Nat.zero_le _) (hQ _ m1 (FrH_tr f0 k1) (e1.trans c0))
    refine lm_G_sg 2 (pc' := 23) (L' := [some (.ref 64), some (.int (nI p)), some (.int y), some (.int z)]) (S' := [.int (M0 64 38)]) (σ' := lm_T M0 v G) rfl trivial ?_
    rw [show M0 64 38 = nI (bkG B) from m0.2.2.2.1]
    refine lm_G_sg 1 (pc' := 25) (L' := [some (.ref 64), some (.int (nI p)), some (.int y), some (.int z)]) (S' := [.int 8, .int (nI (bkG B))]) (σ' := lm_T M0 v G) rfl trivial ?_
    refine lm_G_br (b := (nI (bkG B)) = 8) (t := 60) (S' := []) rfl (fun h1 => ?_) (fun h1 => ?_)
    ·
      have eg : bkG B = 8 := (nI_eq (b := 8) (by omega) (by omega)).mp h1
      exact k60 (by unfold dSee; rw [decide_eq_false (p := bkG B < 8) (by omega), Bool.and_false, Bool.and_false])
    ·
      have eg : bkG B < 8 := by
        have : ¬ bkG B = 8 := fun w => h1 (by rw [w]; rfl)
        omega
      refine lm_G_sg 7 (pc' := 39) (L' := [some (.ref 64), some (.int (nI p)), some (.int y), some (.int z)]) (S' := [.int (M0 68 1), .long (-1), .long y.toInt64]) (σ' := lm_T M0 v G) rfl ⟨(lm_inb_ok rfl), trivial, trivial⟩ ?_
      rw [show M0 68 1 = nI (fM F) from h0.m]
      refine lm_G_sg 3 (pc' := 42) (L' := [some (.ref 64), some (.int (nI p)), some (.int y), some (.int z)]) (S' := [.long (((nI (fM F)) - 1).toInt64), .long (-1), .long y.toInt64]) (σ' := lm_T M0 v G) rfl trivial ?_
      refine lm_G_ca (j := 142) (as := [.long y.toInt64, .long (-1), .long (((nI (fM F)) - 1).toInt64)]) (rest := []) rfl (Or.inl rfl) (Nat.le_of_ble_eq_true rfl) (Nat.le_of_ble_eq_true rfl) (Nat.le_of_ble_eq_true rfl) (Nat.le_of_ble_eq_true rfl) rfl ?_
      refine c_isIn ?_
      show lm_G X (d + 2) 229 106 0 0 45 [some (.ref 64), some (.int (nI p)), some (.int y), some (.int z)] [.int (b2i (inL (y.toInt64) (-1) ((nI (fM F)) - 1).toInt64))] (lm_T M0 v G) Q
      rw [see_in hF]
      refine lm_G_br (b := (b2i (decide (y = -1) || isP (fM F) y)) = 0) (t := 60) (S' := []) rfl (fun h2 => ?_) (fun h2 => ?_)
      ·
        exact k60 (by unfold dSee; rw [b2i_0 h2]; rfl)
      ·
        refine lm_G_sg 4 (pc' := 54) (L' := [some (.ref 64), some (.int (nI p)), some (.int y), some (.int z)]) (S' := [.long 20, .long 1, .long z.toInt64]) (σ' := lm_T M0 v G) rfl trivial ?_
        refine lm_G_ca (j := 142) (as := [.long z.toInt64, .long 1, .long 20]) (rest := []) rfl (Or.inl rfl) (Nat.le_of_ble_eq_true rfl) (Nat.le_of_ble_eq_true rfl) (Nat.le_of_ble_eq_true rfl) (Nat.le_of_ble_eq_true rfl) rfl ?_
        refine c_isIn ?_
        show lm_G X (d + 2) 229 106 0 0 57 [some (.ref 64), some (.int (nI p)), some (.int y), some (.int z)] [.int (b2i (inL (z.toInt64) 1 20))] (lm_T M0 v G) Q
        rw [show inL (z.toInt64) 1 20 = inR z 1 20 from (inL_R z 1 20)]
        refine lm_G_br (b := ¬ (b2i (inR z 1 20)) = 0) (t := 66) (S' := []) rfl (fun h3 => ?_) (fun h3 => ?_)
        rotate_left
        ·
          exact k60 (by unfold dSee; rw [b2i_0 (Classical.not_not.mp h3), Bool.false_and, Bool.and_false])
        ·
          have hz := b2i_1 h3
          obtain ⟨n, gn, hn20, rfl⟩ := inR_nI1 (n := 20) (by decide) hz
          have cn : (nI n).toNatClampNeg = n := nI_clamp (by omega)
          have hd : dSee F B y (nI n) = true := by
            unfold dSee
            rw [b2i_1 h2, hz, decide_eq_true eg]
            rfl
          simp +decide only [aSee, seeB, hx, hd, cp, cn, if_true, if_false, Bool.and_true, Bool.true_and, Bool.and_self, Bool.false_and, Bool.and_false, Bool.false_eq_true] at hQ
          refine lm_G_sg 4 (pc' := 74) (L' := [some (.ref 64), some (.int (nI p)), some (.int y), some (.int (nI n))]) (S' := [.int (M0 64 38), .ref 92]) (σ' := lm_T M0 v G) rfl trivial ?_
          rw [show M0 64 38 = nI (bkG B) from m0.2.2.2.1]
          refine lm_G_sg 2 (pc' := 76) (L' := [some (.ref 64), some (.int (nI p)), some (.int y), some (.int (nI n))]) (S' := []) (σ' := lm_T (lm_wr M0 92 ((nI (bkG B)).toNatClampNeg) (nI p)) v G) rfl ⟨(vp_in_nI (by omega) (by omega)), trivial, trivial⟩ ?_
          rw [show (nI (bkG B)).toNatClampNeg = (bkG B) from nI_clamp (by omega)]
          refine lm_G_sg 4 (pc' := 84) (L' := [some (.ref 64), some (.int (nI p)), some (.int y), some (.int (nI n))]) (S' := [.int (M0 64 38), .ref 93]) (σ' := lm_T (lm_wr M0 92 (bkG B) (nI p)) v G) rfl trivial ?_
          rw [show M0 64 38 = nI (bkG B) from m0.2.2.2.1]
          refine lm_G_sg 2 (pc' := 86) (L' := [some (.ref 64), some (.int (nI p)), some (.int y), some (.int (nI n))]) (S' := []) (σ' := lm_T (lm_wr (lm_wr M0 92 (bkG B) (nI p)) 93 ((nI (bkG B)).toNatClampNeg) y) v G) rfl ⟨(vp_in_nI (by omega) (by omega)), trivial, trivial⟩ ?_
          rw [show (nI (bkG B)).toNatClampNeg = (bkG B) from nI_clamp (by omega)]
          refine lm_G_sg 4 (pc' := 94) (L' := [some (.ref 64), some (.int (nI p)), some (.int y), some (.int (nI n))]) (S' := [.int (M0 64 38), .ref 94]) (σ' := lm_T (lm_wr (lm_wr M0 92 (bkG B) (nI p)) 93 (bkG B) y) v G) rfl trivial ?_
          rw [show M0 64 38 = nI (bkG B) from m0.2.2.2.1]
          refine lm_G_sg 2 (pc' := 96) (L' := [some (.ref 64), some (.int (nI p)), some (.int y), some (.int (nI n))]) (S' := []) (σ' := lm_T (lm_wr (lm_wr (lm_wr M0 92 (bkG B) (nI p)) 93 (bkG B) y) 94 ((nI (bkG B)).toNatClampNeg) (nI n)) v G) rfl ⟨(vp_in_nI (by omega) (by omega)), trivial, trivial⟩ ?_
          rw [show (nI (bkG B)).toNatClampNeg = (bkG B) from nI_clamp (by omega)]
          refine lm_G_sg 3 (pc' := 101) (L' := [some (.ref 64), some (.int (nI p)), some (.int y), some (.int (nI n))]) (S' := [.int (M0 64 38), .ref 64]) (σ' := lm_T (lm_wr (lm_wr (lm_wr M0 92 (bkG B) (nI p)) 93 (bkG B) y) 94 (bkG B) (nI n)) v G) rfl trivial ?_
          rw [show M0 64 38 = nI (bkG B) from m0.2.2.2.1]
          refine lm_G_sg 2 (pc' := 103) (L' := [some (.ref 64), some (.int (nI p)), some (.int y), some (.int (nI n))]) (S' := [.int ((nI (bkG B)) + 1), .ref 64]) (σ' := lm_T (lm_wr (lm_wr (lm_wr M0 92 (bkG B) (nI p)) 93 (bkG B) y) 94 (bkG B) (nI n)) v G) rfl trivial ?_
          rw [show (nI (bkG B)) + 1 = nI ((bkG B) + 1) from nI_add (bkG B) 1]
          refine lm_G_sg 3 (pc' := 110) (L' := [some (.ref 64), some (.int (nI p)), some (.int y), some (.int (nI n))]) (S' := [.int (nI ((bkG B) + 1))]) (σ' := lm_T (lm_wr (lm_wr (lm_wr (lm_wr M0 92 (bkG B) (nI p)) 93 (bkG B) y) 94 (bkG B) (nI n)) 64 38 (nI ((bkG B) + 1))) v G) rfl ⟨trivial, trivial, trivial⟩ ?_
          exact lm_G_re rfl trivial (Nat.zero_le _) (Nat.zero_le _) (hQ _ ⟨RM_taken (RM_wr (RM_wr (RM_wr m0.1 (by decide)) (by decide)) (by decide)) 38 (by decide) _, m0.2.1, MB_se m0.2.2 rfl⟩ (FrH_w64 (FrH_wr (FrH_wr (FrH_wr f0 rfl (by decide)) rfl (by decide)) rfl (by decide)) (by decide)) c0)
set_option maxRecDepth 10000 in
theorem m_isAsSeen {X : lm_X} {d v : Nat} {M : Nat → Nat → Int32} {G : Nat → Nat → Int64} {Q : lm_O → lm_S → Prop} {F : Fa} {B : Bk} {S : Sc} {br : Fn} (hF : okF F) (h : RM M F S) (hs : okS F S) (hl : M 64 42 = 0) (hb : MB1 M F B) (ho : okB F br B) (hQ : ∀ M1, RM M1 F S → FrS M M1 → Q (.inl (some (.int (b2i (agS F B S))))) (lm_T M1 v G)) : lm_Q X (d + 5) 230 [.ref 64] (lm_T M v G) Q := by
  have hn := hF.n
  have hm := hF.m
  show lm_G X (d + 5) 230 106 0 0 0 [some (.ref 64), none, none, none] [] (lm_T M v G) Q
  have hG := ho.2.1
  refine lm_G_sg 4 (pc' := 6) (L' := [some (.ref 64), none, none, none]) (S' := [.int 0, .ref 95, .ref 64]) (σ' := lm_T M v G) rfl trivial ?_
  refine lm_G_ca (j := 177) (as := [.ref 64, .ref 95, .int 0]) (rest := []) rfl (Or.inl rfl) (Nat.le_of_ble_eq_true rfl) (Nat.le_of_ble_eq_true rfl) (Nat.le_of_ble_eq_true rfl) (Nat.le_of_ble_eq_true rfl) rfl ?_
  refine m_pack95 (a := 0) hF h (by omega) (fun M1 v1 o1 f1 => ?_)
  show lm_G X (d + 5) 230 106 0 0 9 [some (.ref 64), none, none, none] [] (lm_T M1 v G) Q
  refine lm_G_sg 4 (pc' := 13) (L' := [some (.ref 64), some (.int 1), some (.int 1), none]) (S' := []) (σ' := lm_T M1 v G) rfl trivial ?_
  have fin : ∀ (M2 : Nat → Fn) (z : Int32) (S2 : Sc) (i2 : RM M2 F S2 ∧ FrS M M2 ∧ SavM (M2 95) 0 F S) (eb : sBr S2 = sBr S) (ez : z = b2i (agS F B S)), lm_G X (d + 5) 230 106 0 0 89 [some (.ref 64), some (.int z), none, none] [] (lm_T M2 v G) Q := by
    intro M2 z S2 i2 eb ez
    obtain ⟨r2, k2, v2⟩ := i2
    refine lm_G_sg 4 (pc' := 95) (L' := [some (.ref 64), some (.int z), none, none]) (S' := [.int 0, .ref 95, .ref 64]) (σ' := lm_T M2 v G) rfl trivial ?_
    refine lm_G_ca (j := 178) (as := [.ref 64, .ref 95, .int 0]) (rest := []) rfl (Or.inl rfl) (Nat.le_of_ble_eq_true rfl) (Nat.le_of_ble_eq_true rfl) (Nat.le_of_ble_eq_true rfl) (Nat.le_of_ble_eq_true rfl) rfl ?_
    refine m_unpack95 (s := S) (a := 0) hF r2.1 (by rw [← eb]; exact r2.br) v2 (by omega) (fun M3 h3 k3 => ?_)
    show lm_G X (d + 5) 230 106 0 0 98 [some (.ref 64), some (.int z), none, none] [] (lm_T M3 v G) Q
    refine lm_G_sg 1 (pc' := 99) (L' := [some (.ref 64), some (.int z), none, none]) (S' := [.int z]) (σ' := lm_T M3 v G) rfl trivial ?_
    subst ez
    exact lm_G_re rfl (b2i_01 _) (Nat.zero_le _) (Nat.zero_le _) (hQ _ h3 (FrS_tr k2 (FrS_U k3)))
  refine lm_ind (α := (Nat → Fn)) (St := fun (j : Nat) zz => (fun (M2 : Nat → Fn) => lm_G X (d + 5) 230 106 0 0 13 [some (.ref 64), some (.int (b2i (alB (fun n => siS B (hrsS F nl S (n + 1)) (n + 1)) j))), some (.int (nI (j + 1))), none] [] (lm_T M2 v G) Q) zz) (Inv := fun (j : Nat) zz => (fun (M2 : Nat → Fn) => RM M2 F (hrsS F nl S j) ∧ FrS M M2 ∧ SavM (M2 95) 0 F S) zz) (20) (fun j zz hj hI ih => ?_) (fun zz hI => ?_) (0) M1 (by omega) ?_
  ·
    revert ih hI
    revert zz
    intro M2 hI ih
    replace hI : RM M2 F (hrsS F nl S j) ∧ FrS M M2 ∧ SavM (M2 95) 0 F S := hI
    replace ih : ∀ (M2 : Nat → Fn) (_ : RM M2 F (hrsS F nl S (j + 1)) ∧ FrS M M2 ∧ SavM (M2 95) 0 F S), lm_G X (d + 5) 230 106 0 0 13 [some (.ref 64), some (.int (b2i (alB (fun n => siS B (hrsS F nl S (n + 1)) (n + 1)) (j + 1)))), some (.int (nI ((j + 1) + 1))), none] [] (lm_T M2 v G) Q := fun M2 q => ih M2 q
    show lm_G X (d + 5) 230 106 0 0 13 [some (.ref 64), some (.int (b2i (alB (fun n => siS B (hrsS F nl S (n + 1)) (n + 1)) j))), some (.int (nI (j + 1))), none] [] (lm_T M2 v G) Q
    obtain ⟨r2, k2, v2⟩ := hI
    refine lm_G_sg 2 (pc' := 16) (L' := [some (.ref 64), some (.int (b2i (alB (fun n => siS B (hrsS F nl S (n + 1)) (n + 1)) j))), some (.int (nI (j + 1))), none]) (S' := [.int 20, .int (nI (j + 1))]) (σ' := lm_T M2 v G) rfl trivial ?_
    refine lm_G_br (b := 20 < (nI (j + 1))) (t := 89) (S' := []) rfl (fun hc => absurd hc (nI_nlt (a := 20) (by omega) (by omega))) (fun hc => ?_)
    refine lm_G_sg 1 (pc' := 20) (L' := [some (.ref 64), some (.int (b2i (alB (fun n => siS B (hrsS F nl S (n + 1)) (n + 1)) j))), some (.int (nI (j + 1))), none]) (S' := [.int (b2i (alB (fun n => siS B (hrsS F nl S (n + 1)) (n + 1)) j))]) (σ' := lm_T M2 v G) rfl trivial ?_
    refine lm_G_br (b := (b2i (alB (fun n => siS B (hrsS F nl S (n + 1)) (n + 1)) j)) = 0) (t := 89) (S' := []) rfl (fun h5 => ?_) (fun h5 => ?_)
    ·
      refine lm_G_jk (L := [some (.ref 64), some (.int (b2i (alB (fun n => siS B (hrsS F nl S (n + 1)) (n + 1)) j))), none, none]) ⟨rfl, rfl, rfl, trivial⟩ ?_
      exact fin _ _ _ ⟨r2, k2, v2⟩ (br_hrs j) (by
              have e : agS F B S = false := by
                refine Bool.eq_false_iff.mpr (fun w => ?_)
                have := b2i_0 h5
                rw [al_t.mpr (fun k hk => al_t.mp w k (by omega))] at this
                cases this
              rw [e, b2i_0 h5])
    ·
      have ea := b2i_1 h5
      refine lm_G_sg 1 (pc' := 24) (L' := [some (.ref 64), some (.int (b2i (alB (fun n => siS B (hrsS F nl S (n + 1)) (n + 1)) j))), some (.int (nI (j + 1))), none]) (S' := [.ref 64]) (σ' := lm_T M2 v G) rfl trivial ?_
      refine lm_G_ca (j := 193) (as := [.ref 64]) (rest := []) rfl (Or.inl rfl) (Nat.le_of_ble_eq_true rfl) (Nat.le_of_ble_eq_true rfl) (Nat.le_of_ble_eq_true rfl) (Nat.le_of_ble_eq_true rfl) rfl ?_
      refine m_anHour (lf := nl) hF r2 (ok_hrs hs j) (fun _ hq => nl_M hF.n hq ((k2.2 42 (by decide) (by decide)).trans hl)) (fun M3 h3 k3 e3 => ?_)
      show lm_G X (d + 5) 230 106 0 0 27 [some (.ref 64), some (.int (b2i (alB (fun n => siS B (hrsS F nl S (n + 1)) (n + 1)) j))), some (.int (nI (j + 1))), none] [] (lm_T M3 v G) Q
      have s3 : FrS M M3 := FrS_tr k2 (FrS_M k3)
      have b3 : MB1 M3 F B := MB_S hb s3
      have v3 : SavM (M3 95) 0 F S := by rw [k3.1 95 rfl]; exact v2
      replace h3 : RM M3 F (hrsS F nl S (j + 1)) := h3
      refine lm_G_sg 2 (pc' := 29) (L' := [some (.ref 64), some (.int (b2i (alB (fun n => siS B (hrsS F nl S (n + 1)) (n + 1)) j))), some (.int (nI (j + 1))), some (.int 0)]) (S' := []) (σ' := lm_T M3 v G) rfl trivial ?_
      rw [show b2i (alB (fun n => siS B (hrsS F nl S (n + 1)) (n + 1)) j) = b2i (alB (fun k => !(decide (bkH B k = j + 1)) || decide (sHu (hrsS F nl S (j + 1)) (bkP B k) = bkT B k)) 0) from by rw [ea]; rfl]
      refine lm_ind (α := Unit) (St := fun (i : Nat) zz => lm_G X (d + 5) 230 106 0 0 29 [some (.ref 64), some (.int (b2i (alB (fun k => !(decide (bkH B k = j + 1)) || decide (sHu (hrsS F nl S (j + 1)) (bkP B k) = bkT B k)) i))), some (.int (nI (j + 1))), some (.int (nI i))] [] (lm_T M3 v G) Q) (Inv := fun (i : Nat) zz => True) (bkG B) (fun i zz hj2 hI2 ih2 => ?_) (fun zz hI2 => ?_) (0) () (by omega) ?_
      ·
        replace hI2 : True := hI2
        replace ih2 : ∀ (_ : True), lm_G X (d + 5) 230 106 0 0 29 [some (.ref 64), some (.int (b2i (alB (fun k => !(decide (bkH B k = j + 1)) || decide (sHu (hrsS F nl S (j + 1)) (bkP B k) = bkT B k)) (i + 1)))), some (.int (nI (j + 1))), some (.int (nI (i + 1)))] [] (lm_T M3 v G) Q := fun q => ih2 () q
        show lm_G X (d + 5) 230 106 0 0 29 [some (.ref 64), some (.int (b2i (alB (fun k => !(decide (bkH B k = j + 1)) || decide (sHu (hrsS F nl S (j + 1)) (bkP B k) = bkT B k)) i))), some (.int (nI (j + 1))), some (.int (nI i))] [] (lm_T M3 v G) Q
        obtain ⟨b31, b32, b33⟩ := b3.2.2.2.1 i hj2
        obtain ⟨s31, s32, s33⟩ := ho.2.2.2 i hj2
        refine lm_G_sg 3 (pc' := 34) (L' := [some (.ref 64), some (.int (b2i (alB (fun k => !(decide (bkH B k = j + 1)) || decide (sHu (hrsS F nl S (j + 1)) (bkP B k) = bkT B k)) i))), some (.int (nI (j + 1))), some (.int (nI i))]) (S' := [.int (M3 64 38), .int (nI i)]) (σ' := lm_T M3 v G) rfl trivial ?_
        rw [show M3 64 38 = nI (bkG B) from b3.2.1]
        refine lm_G_br (b := (nI (bkG B)) ≤ (nI i)) (t := 83) (S' := []) rfl (fun hc => absurd hc (nI_ge hj2 (by omega))) (fun hc => ?_)
        refine lm_G_sg 1 (pc' := 38) (L' := [some (.ref 64), some (.int (b2i (alB (fun k => !(decide (bkH B k = j + 1)) || decide (sHu (hrsS F nl S (j + 1)) (bkP B k) = bkT B k)) i))), some (.int (nI (j + 1))), some (.int (nI i))]) (S' := [.int (b2i (alB (fun k => !(decide (bkH B k = j + 1)) || decide (sHu (hrsS F nl S (j + 1)) (bkP B k) = bkT B k)) i))]) (σ' := lm_T M3 v G) rfl trivial ?_
        refine lm_G_br (b := (b2i (alB (fun k => !(decide (bkH B k = j + 1)) || decide (sHu (hrsS F nl S (j + 1)) (bkP B k) = bkT B k)) i)) = 0) (t := 75) (S' := []) rfl (fun h6 => ?_) (fun h6 => ?_)
        ·
          refine lm_G_sg 3 (pc' := 80) (L' := [some (.ref 64), some (.int 0), some (.int (nI (j + 1))), some (.int ((nI i) + 1))]) (S' := []) (σ' := lm_T M3 v G) rfl trivial ?_
          rw [nI_1]
          refine lm_G_sg 1 (pc' := 29) (L' := [some (.ref 64), some (.int 0), some (.int (nI (j + 1))), some (.int (nI (i + 1)))]) (S' := []) (σ' := lm_T M3 v G) rfl trivial ?_
          have e : alB (fun k => !(decide (bkH B k = j + 1)) || decide (sHu (hrsS F nl S (j + 1)) (bkP B k) = bkT B k)) (i + 1) = false := by
            simp only [alB]
            rw [b2i_0 h6]
            rfl
          rw [e] at ih2
          exact ih2  trivial
        ·
          have e6 := b2i_1 h6
          refine lm_G_sg 4 (pc' := 47) (L' := [some (.ref 64), some (.int (b2i (alB (fun k => !(decide (bkH B k = j + 1)) || decide (sHu (hrsS F nl S (j + 1)) (bkP B k) = bkT B k)) i))), some (.int (nI (j + 1))), some (.int (nI i))]) (S' := [.int (M3 94 (nI i).toNatClampNeg)]) (σ' := lm_T M3 v G) rfl ⟨(vp_in_nI (by omega) (by omega)), trivial, trivial⟩ ?_
          rw [show (nI i).toNatClampNeg = i from nI_clamp (by omega)]
          rw [show M3 94 i = nI (bkH B i) from b33]
          refine lm_G_sg 1 (pc' := 48) (L' := [some (.ref 64), some (.int (b2i (alB (fun k => !(decide (bkH B k = j + 1)) || decide (sHu (hrsS F nl S (j + 1)) (bkP B k) = bkT B k)) i))), some (.int (nI (j + 1))), some (.int (nI i))]) (S' := [.int (nI (j + 1)), .int (nI (bkH B i))]) (σ' := lm_T M3 v G) rfl trivial ?_
          refine lm_G_br (b := ¬ (nI (bkH B i)) = (nI (j + 1))) (t := 71) (S' := []) rfl (fun h7 => ?_) (fun h7 => ?_)
          ·
            refine lm_G_sg 4 (pc' := 80) (L' := [some (.ref 64), some (.int 1), some (.int (nI (j + 1))), some (.int ((nI i) + 1))]) (S' := []) (σ' := lm_T M3 v G) rfl trivial ?_
            rw [nI_1]
            refine lm_G_sg 1 (pc' := 29) (L' := [some (.ref 64), some (.int 1), some (.int (nI (j + 1))), some (.int (nI (i + 1)))]) (S' := []) (σ' := lm_T M3 v G) rfl trivial ?_
            have e7 : ¬ bkH B i = j + 1 := fun w => h7 (by rw [w])
            have e : alB (fun k => !(decide (bkH B k = j + 1)) || decide (sHu (hrsS F nl S (j + 1)) (bkP B k) = bkT B k)) (i + 1) = true := by
              simp only [alB]
              rw [e6, decide_eq_false e7]
              rfl
            rw [e] at ih2
            exact ih2  trivial
          ·
            have e7 : bkH B i = j + 1 := (nI_eq (by omega) (by omega)).mp (Classical.not_not.mp h7)
            refine lm_G_sg 6 (pc' := 61) (L' := [some (.ref 64), some (.int (b2i (alB (fun k => !(decide (bkH B k = j + 1)) || decide (sHu (hrsS F nl S (j + 1)) (bkP B k) = bkT B k)) i))), some (.int (nI (j + 1))), some (.int (nI i))]) (S' := [.int (M3 92 (nI i).toNatClampNeg), .ref 82]) (σ' := lm_T M3 v G) rfl ⟨(vp_in_nI (by omega) (by omega)), trivial, trivial⟩ ?_
            rw [show (nI i).toNatClampNeg = i from nI_clamp (by omega)]
            rw [show M3 92 i = nI (bkP B i) from b31]
            refine lm_G_sg 1 (pc' := 62) (L' := [some (.ref 64), some (.int (b2i (alB (fun k => !(decide (bkH B k = j + 1)) || decide (sHu (hrsS F nl S (j + 1)) (bkP B k) = bkT B k)) i))), some (.int (nI (j + 1))), some (.int (nI i))]) (S' := [.int (M3 82 (nI (bkP B i)).toNatClampNeg)]) (σ' := lm_T M3 v G) rfl ⟨(vp_in_nI (by omega) (by omega)), trivial, trivial⟩ ?_
            rw [show (nI (bkP B i)).toNatClampNeg = (bkP B i) from nI_clamp (by omega)]
            rw [show M3 82 (bkP B i) = sHu (hrsS F nl S (j + 1)) (bkP B i) from h3.hu (bkP B i) (by omega)]
            refine lm_G_sg 4 (pc' := 68) (L' := [some (.ref 64), some (.int (b2i (alB (fun k => !(decide (bkH B k = j + 1)) || decide (sHu (hrsS F nl S (j + 1)) (bkP B k) = bkT B k)) i))), some (.int (nI (j + 1))), some (.int (nI i))]) (S' := [.int (M3 93 (nI i).toNatClampNeg), .int (sHu (hrsS F nl S (j + 1)) (bkP B i))]) (σ' := lm_T M3 v G) rfl ⟨(vp_in_nI (by omega) (by omega)), trivial, trivial⟩ ?_
            rw [show (nI i).toNatClampNeg = i from nI_clamp (by omega)]
            rw [show M3 93 i = bkT B i from b32]
            refine lm_G_br (b := ¬ (sHu (hrsS F nl S (j + 1)) (bkP B i)) = (bkT B i)) (t := 75) (S' := []) rfl (fun h8 => ?_) (fun h8 => ?_)
            ·
              refine lm_G_sg 3 (pc' := 80) (L' := [some (.ref 64), some (.int 0), some (.int (nI (j + 1))), some (.int ((nI i) + 1))]) (S' := []) (σ' := lm_T M3 v G) rfl trivial ?_
              rw [nI_1]
              refine lm_G_sg 1 (pc' := 29) (L' := [some (.ref 64), some (.int 0), some (.int (nI (j + 1))), some (.int (nI (i + 1)))]) (S' := []) (σ' := lm_T M3 v G) rfl trivial ?_
              have e : alB (fun k => !(decide (bkH B k = j + 1)) || decide (sHu (hrsS F nl S (j + 1)) (bkP B k) = bkT B k)) (i + 1) = false := by
                simp only [alB]
                rw [e6, decide_eq_true e7, decide_eq_false h8]
                rfl
              rw [e] at ih2
              exact ih2  trivial
            ·
              refine lm_G_sg 4 (pc' := 80) (L' := [some (.ref 64), some (.int 1), some (.int (nI (j + 1))), some (.int ((nI i) + 1))]) (S' := []) (σ' := lm_T M3 v G) rfl trivial ?_
              rw [nI_1]
              refine lm_G_sg 1 (pc' := 29) (L' := [some (.ref 64), some (.int 1), some (.int (nI (j + 1))), some (.int (nI (i + 1)))]) (S' := []) (σ' := lm_T M3 v G) rfl trivial ?_
              have e : alB (fun k => !(decide (bkH B k = j + 1)) || decide (sHu (hrsS F nl S (j + 1)) (bkP B k) = bkT B k)) (i + 1) = true := by
                simp only [alB]
                rw [e6, decide_eq_true (Classical.not_not.mp h8), Bool.or_true]
                rfl
              rw [e] at ih2
              exact ih2  trivial
      ·
        replace hI2 : True := hI2
        show lm_G X (d + 5) 230 106 0 0 29 [some (.ref 64), some (.int (b2i (alB (fun k => !(decide (bkH B k = j + 1)) || decide (sHu (hrsS F nl S (j + 1)) (bkP B k) = bkT B k)) (bkG B)))), some (.int (nI (j + 1))), some (.int (nI (bkG B)))] [] (lm_T M3 v G) Q
        refine lm_G_sg 3 (pc' := 34) (L' := [some (.ref 64), some (.int (b2i (alB (fun k => !(decide (bkH B k = j + 1)) || decide (sHu (hrsS F nl S (j + 1)) (bkP B k) = bkT B k)) (bkG B)))), some (.int (nI (j + 1))), some (.int (nI (bkG B)))]) (S' := [.int (M3 64 38), .int (nI (bkG B))]) (σ' := lm_T M3 v G) rfl trivial ?_
        rw [show M3 64 38 = nI (bkG B) from b3.2.1]
        refine lm_G_br (b := (nI (bkG B)) ≤ (nI (bkG B))) (t := 83) (S' := []) rfl (fun hc => ?_) (fun hc => absurd (nI_le (Nat.le_refl _) (by omega)) hc)
        refine lm_G_sg 1 (pc' := 86) (L' := [some (.ref 64), some (.int (b2i (alB (fun k => !(decide (bkH B k = j + 1)) || decide (sHu (hrsS F nl S (j + 1)) (bkP B k) = bkT B k)) (bkG B)))), some (.int ((nI (j + 1)) + 1)), some (.int (nI (bkG B)))]) (S' := []) (σ' := lm_T M3 v G) rfl trivial ?_
        rw [nI_1]
        refine lm_G_sg 1 (pc' := 13) (L' := [some (.ref 64), some (.int (b2i (alB (fun k => !(decide (bkH B k = j + 1)) || decide (sHu (hrsS F nl S (j + 1)) (bkP B k) = bkT B k)) (bkG B)))), some (.int (nI ((j + 1) + 1))), some (.int (nI (bkG B)))]) (S' := []) (σ' := lm_T M3 v G) rfl trivial ?_
        have e : alB (fun n => siS B (hrsS F nl S (n + 1)) (n + 1)) (j + 1) = alB (fun k => !(decide (bkH B k = j + 1)) || decide (sHu (hrsS F nl S (j + 1)) (bkP B k) = bkT B k)) (bkG B) := by
          simp only [alB]
          rw [ea]
          rfl
        rw [e] at ih
        refine lm_G_jk (L := [some (.ref 64), some (.int (b2i (alB (fun k => !(decide (bkH B k = j + 1)) || decide (sHu (hrsS F nl S (j + 1)) (bkP B k) = bkT B k)) (bkG B)))), some (.int (nI ((j + 1) + 1))), none]) ⟨rfl, rfl, rfl, trivial⟩ ?_
        exact ih _ (⟨h3, s3, v3⟩)
      ·
        trivial
  ·
    revert hI
    revert zz
    intro M2 hI
    replace hI : RM M2 F (hrsS F nl S 20) ∧ FrS M M2 ∧ SavM (M2 95) 0 F S := hI
    show lm_G X (d + 5) 230 106 0 0 13 [some (.ref 64), some (.int (b2i (alB (fun n => siS B (hrsS F nl S (n + 1)) (n + 1)) 20))), some (.int (nI (20 + 1))), none] [] (lm_T M2 v G) Q
    obtain ⟨r2, k2, v2⟩ := hI
    refine lm_G_sg 2 (pc' := 16) (L' := [some (.ref 64), some (.int (b2i (alB (fun n => siS B (hrsS F nl S (n + 1)) (n + 1)) 20))), some (.int (nI (20 + 1))), none]) (S' := [.int 20, .int (nI (20 + 1))]) (σ' := lm_T M2 v G) rfl trivial ?_
    refine lm_G_br (b := 20 < (nI (20 + 1))) (t := 89) (S' := []) rfl (fun hc => ?_) (fun hc => absurd (nI_lt (a := 20) (by omega) (by omega)) hc)
    refine lm_G_jk (L := [some (.ref 64), some (.int (b2i (alB (fun n => siS B (hrsS F nl S (n + 1)) (n + 1)) 20))), none, none]) ⟨rfl, rfl, rfl, trivial⟩ ?_
    exact fin _ _ _ ⟨r2, k2, v2⟩ (br_hrs 20) rfl
  ·
    try dsimp only
    exact ⟨RM_O h f1 (by decide), FrS_O f1, v1⟩
set_option maxRecDepth 10000 in
theorem m_tellFits {X : lm_X} {d v : Nat} {M : Nat → Nat → Int32} {G : Nat → Nat → Int64} {Q : lm_O → lm_S → Prop} {F : Fa} {s : Sc} {B : Bk} (hF : okF F) (h : RM M F s) (hs : okS F s) (hl : M 64 42 = 0) (hb : MB1 M F B) (ho : okB F (sBr s) B) (hc4 : M 64 4 = 0) (hQ : ∀ M1, RM M1 F s → FrN M M1 → M1 64 4 = 0 → M1 64 42 = 0 → ftI F B s M1 (20 * fN F) → Q (.inl none) (lm_T M1 v G)) : lm_Q X (d + 6) 231 [.ref 64] (lm_T M v G) Q := by
  have hn := hF.n
  have hm := hF.m
  show lm_G X (d + 6) 231 106 0 0 0 [some (.ref 64), none, none, none] [] (lm_T M v G) Q
  refine lm_G_sg 5 (pc' := 7) (L' := [some (.ref 64), some (.int 0), none, none]) (S' := []) (σ' := lm_T (lm_wr M 64 51 0) v G) rfl ⟨trivial, trivial, trivial⟩ ?_
  refine lm_ind (α := (Nat → Fn)) (St := fun (j : Nat) zz => (fun (M1 : Nat → Fn) => lm_G X (d + 6) 231 106 0 0 7 [some (.ref 64), some (.int (nI j)), none, none] [] (lm_T M1 v G) Q) zz) (Inv := fun (j : Nat) zz => (fun (M1 : Nat → Fn) => RM M1 F s ∧ FrN M M1 ∧ M1 64 4 = 0 ∧ M1 64 42 = 0 ∧ ftI F B s M1 (20 * j)) zz) (fN F) (fun j zz hj hI ih => ?_) (fun zz hI => ?_) (0) (lm_wr M 64 51 0) (by omega) ?_
  ·
    revert ih hI
    revert zz
    intro M1 hI ih
    replace hI : RM M1 F s ∧ FrN M M1 ∧ M1 64 4 = 0 ∧ M1 64 42 = 0 ∧ ftI F B s M1 (20 * j) := hI
    replace ih : ∀ (M1 : Nat → Fn) (_ : RM M1 F s ∧ FrN M M1 ∧ M1 64 4 = 0 ∧ M1 64 42 = 0 ∧ ftI F B s M1 (20 * (j + 1))), lm_G X (d + 6) 231 106 0 0 7 [some (.ref 64), some (.int (nI (j + 1))), none, none] [] (lm_T M1 v G) Q := fun M1 q => ih M1 q
    show lm_G X (d + 6) 231 106 0 0 7 [some (.ref 64), some (.int (nI j)), none, none] [] (lm_T M1 v G) Q
    obtain ⟨r1, k1, c1, l1, q1⟩ := hI
    refine lm_G_sg 5 (pc' := 14) (L' := [some (.ref 64), some (.int (nI j)), none, none]) (S' := [.int (M1 68 0), .int (nI j)]) (σ' := lm_T M1 v G) rfl ⟨(lm_inb_ok rfl), trivial, trivial⟩ ?_
    rw [show M1 68 0 = nI (fN F) from r1.n]
    refine lm_G_br (b := (nI (fN F)) ≤ (nI j)) (t := 98) (S' := []) rfl (fun hc => absurd hc (nI_ge hj (by omega))) (fun hc => ?_)
    refine lm_G_sg 4 (pc' := 23) (L' := [some (.ref 64), some (.int (nI j)), none, none]) (S' := [.int (M1 79 (nI j).toNatClampNeg)]) (σ' := lm_T M1 v G) rfl ⟨(vp_in_nI (by omega) (by omega)), trivial, trivial⟩ ?_
    rw [show (nI j).toNatClampNeg = j from nI_clamp (by omega)]
    rw [show M1 79 j = sBr s j from r1.br j (by omega)]
    refine lm_G_sg 3 (pc' := 26) (L' := [some (.ref 64), some (.int (nI j)), some (.int (sBr s j)), some (.int 1)]) (S' := []) (σ' := lm_T M1 v G) rfl trivial ?_
    refine lm_ind (α := (Nat → Fn) × Int32) (St := fun (i : Nat) zz => (fun (M2 : Nat → Fn) (y : Int32) => lm_G X (d + 6) 231 106 0 0 26 [some (.ref 64), some (.int (nI j)), some (.int (sBr s j)), some (.int (nI (i + 1)))] [] (lm_T M2 v G) Q) zz.1 zz.2) (Inv := fun (i : Nat) zz => (fun (M2 : Nat → Fn) (y : Int32) => RM M2 F (brS s j y) ∧ FrN M M2 ∧ M2 64 4 = 0 ∧ M2 64 42 = 0 ∧ ftI F B s M2 (20 * j + i)) zz.1 zz.2) (20) (fun i zz hj2 hI2 ih2 => ?_) (fun zz hI2 => ?_) (0) (M1, sBr s j) (by omega) ?_
    ·
      obtain ⟨M2, y⟩ := zz
      replace hI2 : RM M2 F (brS s j y) ∧ FrN M M2 ∧ M2 64 4 = 0 ∧ M2 64 42 = 0 ∧ ftI F B s M2 (20 * j + i) := hI2
      replace ih2 : ∀ (M2 : Nat → Fn) (y : Int32) (_ : RM M2 F (brS s j y) ∧ FrN M M2 ∧ M2 64 4 = 0 ∧ M2 64 42 = 0 ∧ ftI F B s M2 (20 * j + (i + 1))), lm_G X (d + 6) 231 106 0 0 26 [some (.ref 64), some (.int (nI j)), some (.int (sBr s j)), some (.int (nI ((i + 1) + 1)))] [] (lm_T M2 v G) Q := fun M2 y q => ih2 (M2, y) q
      show lm_G X (d + 6) 231 106 0 0 26 [some (.ref 64), some (.int (nI j)), some (.int (sBr s j)), some (.int (nI (i + 1)))] [] (lm_T M2 v G) Q
      obtain ⟨r2, k2, c2, l2, q2⟩ := hI2
      obtain ⟨ep, ev⟩ := pj_eq (j := j) hj2
      refine lm_G_sg 2 (pc' := 29) (L' := [some (.ref 64), some (.int (nI j)), some (.int (sBr s j)), some (.int (nI (i + 1)))]) (S' := [.int 20, .int (nI (i + 1))]) (σ' := lm_T M2 v G) rfl trivial ?_
      refine lm_G_br (b := 20 < (nI (i + 1))) (t := 85) (S' := []) rfl (fun hc => absurd hc (nI_nlt (a := 20) (by omega) (by omega))) (fun hc => ?_)
      refine lm_G_sg 5 (pc' := 39) (L' := [some (.ref 64), some (.int (nI j)), some (.int (sBr s j)), some (.int (nI (i + 1)))]) (S' := []) (σ' := lm_T (lm_wr M2 79 ((nI j).toNatClampNeg) (nI (i + 1))) v G) rfl ⟨(vp_in_nI (by omega) (by omega)), trivial, trivial⟩ ?_
      rw [show (nI j).toNatClampNeg = j from nI_clamp (by omega)]
      have r3 : RM (lm_wr M2 79 j (nI (i + 1))) F (brS s j (nI (i + 1))) := by have := RM_br r2 j (nI (i + 1)); rw [br_twice] at this; exact this
      have k3 : FrN M (lm_wr M2 79 j (nI (i + 1))) := FrN_wr k2 rfl (by decide)
      have c3 : (lm_wr M2 79 j (nI (i + 1))) 64 4 = 0 := c2
      have l3 : (lm_wr M2 79 j (nI (i + 1))) 64 42 = 0 := l2
      have q3 : ftI F B s (lm_wr M2 79 j (nI (i + 1))) (20 * j + i) := q2
      revert r3 k3 c3 l3 q3
      generalize lm_wr M2 79 j (nI (i + 1)) = M3
      intro r3 k3 c3 l3 q3
      refine lm_G_sg 2 (pc' := 41) (L' := [some (.ref 64), some (.int (nI j)), some (.int (sBr s j)), some (.int (nI (i + 1)))]) (S' := [.int (sBr s j), .int (nI (i + 1))]) (σ' := lm_T M3 v G) rfl trivial ?_
      refine lm_G_br (b := (nI (i + 1)) = (sBr s j)) (t := 79) (S' := []) rfl (fun h5 => ?_) (fun h5 => ?_)
      ·
        refine lm_G_sg 1 (pc' := 82) (L' := [some (.ref 64), some (.int (nI j)), some (.int (sBr s j)), some (.int ((nI (i + 1)) + 1))]) (S' := []) (σ' := lm_T M3 v G) rfl trivial ?_
        rw [nI_1]
        refine lm_G_sg 1 (pc' := 26) (L' := [some (.ref 64), some (.int (nI j)), some (.int (sBr s j)), some (.int (nI ((i + 1) + 1)))]) (S' := []) (σ' := lm_T M3 v G) rfl trivial ?_
        have eg : (gdS F B s) (20 * j + i) = false := by
          unfold gdS
          rw [ep, ev, decide_eq_false (fun w => w h5)]
          rfl
        exact ih2 _ _ (⟨r3, k3, c3, l3, by unfold ftI; rw [show 20 * j + (i + 1) = 20 * j + i + 1 from rfl, gl_n eg]; exact q3⟩)
      ·
        refine lm_G_sg 1 (pc' := 45) (L' := [some (.ref 64), some (.int (nI j)), some (.int (sBr s j)), some (.int (nI (i + 1)))]) (S' := [.ref 64]) (σ' := lm_T M3 v G) rfl trivial ?_
        refine lm_G_ca (j := 230) (as := [.ref 64]) (rest := []) rfl (Or.inl rfl) (Nat.le_of_ble_eq_true rfl) (Nat.le_of_ble_eq_true rfl) (Nat.le_of_ble_eq_true rfl) (Nat.le_of_ble_eq_true rfl) rfl ?_
        refine m_isAsSeen hF r3 (ok_br hs _ _) l3 (MB_N hb k3) ho (fun M4 r4 k4 => ?_)
        show lm_G X (d + 6) 231 106 0 0 48 [some (.ref 64), some (.int (nI j)), some (.int (sBr s j)), some (.int (nI (i + 1)))] [.int (b2i (agS F B (brS s j (nI (i + 1)))))] (lm_T M4 v G) Q
        have n4 : FrN M M4 := FrN_tr k3 (FrN_S k4)
        have c4 : M4 64 4 = 0 := (k4.2 4 (by decide) (by decide)).trans c3
        have l4 : M4 64 42 = 0 := (k4.2 42 (by decide) (by decide)).trans l3
        have q4 : ftI F B s M4 (20 * j + i) := ⟨(k4.2 51 (by decide) (by decide)).trans q3.1, fun k hk => by rw [k4.1 96 rfl]; exact q3.2 k hk⟩
        refine lm_G_br (b := ¬ (b2i (agS F B (brS s j (nI (i + 1))))) = 0) (t := 54) (S' := []) rfl (fun h6 => ?_) (fun h6 => ?_)
        rotate_left
        ·
          refine lm_G_sg 2 (pc' := 82) (L' := [some (.ref 64), some (.int (nI j)), some (.int (sBr s j)), some (.int ((nI (i + 1)) + 1))]) (S' := []) (σ' := lm_T M4 v G) rfl trivial ?_
          rw [nI_1]
          refine lm_G_sg 1 (pc' := 26) (L' := [some (.ref 64), some (.int (nI j)), some (.int (sBr s j)), some (.int (nI ((i + 1) + 1)))]) (S' := []) (σ' := lm_T M4 v G) rfl trivial ?_
          have eg : (gdS F B s) (20 * j + i) = false := by
            unfold gdS
            rw [ep, ev, b2i_0 (Classical.not_not.mp h6), Bool.and_false]
          exact ih2 _ _ (⟨r4, n4, c4, l4, by unfold ftI; rw [show 20 * j + (i + 1) = 20 * j + i + 1 from rfl, gl_n eg]; exact q4⟩)
        ·
          have eg : (gdS F B s) (20 * j + i) = true := by
            unfold gdS
            rw [ep, ev, decide_eq_true h5, b2i_1 h6]
            rfl
          have gl := gl_len (F := F) (B := B) (s := s) (n := 20 * j + i)
          refine lm_G_sg 4 (pc' := 62) (L' := [some (.ref 64), some (.int (nI j)), some (.int (sBr s j)), some (.int (nI (i + 1)))]) (S' := [.int (M4 64 51), .ref 96]) (σ' := lm_T M4 v G) rfl trivial ?_
          rw [show M4 64 51 = nI ((glS F B s (20 * j + i)).length) from q4.1]
          refine lm_G_sg 3 (pc' := 66) (L' := [some (.ref 64), some (.int (nI j)), some (.int (sBr s j)), some (.int (nI (i + 1)))]) (S' := [.int (100 * (nI j)), .int (nI ((glS F B s (20 * j + i)).length)), .ref 96]) (σ' := lm_T M4 v G) rfl trivial ?_
          rw [show 100 * (nI j) = nI (100 * j) from pk_mul 100 j]
          refine lm_G_sg 2 (pc' := 68) (L' := [some (.ref 64), some (.int (nI j)), some (.int (sBr s j)), some (.int (nI (i + 1)))]) (S' := [.int ((nI (100 * j)) + (nI (i + 1))), .int (nI ((glS F B s (20 * j + i)).length)), .ref 96]) (σ' := lm_T M4 v G) rfl trivial ?_
          rw [show (nI (100 * j)) + (nI (i + 1)) = nI ((100 * j) + (i + 1)) from nI_add (100 * j) (i + 1)]
          refine lm_G_sg 1 (pc' := 69) (L' := [some (.ref 64), some (.int (nI j)), some (.int (sBr s j)), some (.int (nI (i + 1)))]) (S' := []) (σ' := lm_T (lm_wr M4 96 ((nI ((glS F B s (20 * j + i)).length)).toNatClampNeg) (nI ((100 * j) + (i + 1)))) v G) rfl ⟨(vp_in_nI (by omega) (by omega)), trivial, trivial⟩ ?_
          rw [show (nI ((glS F B s (20 * j + i)).length)).toNatClampNeg = ((glS F B s (20 * j + i)).length) from nI_clamp (by omega)]
          refine lm_G_sg 3 (pc' := 74) (L' := [some (.ref 64), some (.int (nI j)), some (.int (sBr s j)), some (.int (nI (i + 1)))]) (S' := [.int (M4 64 51), .ref 64]) (σ' := lm_T (lm_wr M4 96 ((glS F B s (20 * j + i)).length) (nI ((100 * j) + (i + 1)))) v G) rfl trivial ?_
          rw [show M4 64 51 = nI ((glS F B s (20 * j + i)).length) from q4.1]
          refine lm_G_sg 2 (pc' := 76) (L' := [some (.ref 64), some (.int (nI j)), some (.int (sBr s j)), some (.int (nI (i + 1)))]) (S' := [.int ((nI ((glS F B s (20 * j + i)).length)) + 1), .ref 64]) (σ' := lm_T (lm_wr M4 96 ((glS F B s (20 * j + i)).length) (nI ((100 * j) + (i + 1)))) v G) rfl trivial ?_
          rw [show (nI ((glS F B s (20 * j + i)).length)) + 1 = nI (((glS F B s (20 * j + i)).length) + 1) from nI_add ((glS F B s (20 * j + i)).length) 1]
          refine lm_G_sg 2 (pc' := 82) (L' := [some (.ref 64), some (.int (nI j)), some (.int (sBr s j)), some (.int ((nI (i + 1)) + 1))]) (S' := []) (σ' := lm_T (lm_wr (lm_wr M4 96 ((glS F B s (20 * j + i)).length) (nI ((100 * j) + (i + 1)))) 64 51 (nI (((glS F B s (20 * j + i)).length) + 1))) v G) rfl ⟨trivial, trivial, trivial⟩ ?_
          rw [nI_1]
          refine lm_G_sg 1 (pc' := 26) (L' := [some (.ref 64), some (.int (nI j)), some (.int (sBr s j)), some (.int (nI ((i + 1) + 1)))]) (S' := []) (σ' := lm_T (lm_wr (lm_wr M4 96 ((glS F B s (20 * j + i)).length) (nI ((100 * j) + (i + 1)))) 64 51 (nI (((glS F B s (20 * j + i)).length) + 1))) v G) rfl trivial ?_
          exact ih2 _ _ (⟨RM_taken (RM_wr r4 (by decide)) 51 (by decide) _, FrN_w64 (FrN_wr n4 rfl (by decide)) (by decide), c4, l4, by
                      unfold ftI
                      rw [show 20 * j + (i + 1) = 20 * j + i + 1 from rfl, gl_y eg, List.length_append]
                      refine ⟨wr_same, fun k hk => ?_⟩
                      show upd (M4 96) (glS F B s (20 * j + i)).length _ k = _
                      by_cases e : k = (glS F B s (20 * j + i)).length
                      · subst e
                        rw [pk_us, List.getD_eq_getElem?_getD, List.getElem?_append_right (Nat.le_refl _), Nat.sub_self]
                        show nI (100 * j + (i + 1)) = nI (cdS (20 * j + i))
                        unfold cdS
                        rw [ep, ev]
                      · rw [pk_un e, gD_a (by simp at hk; omega)]
                        exact q4.2 k (by simp at hk; omega)⟩)
    ·
      obtain ⟨M2, y⟩ := zz
      replace hI2 : RM M2 F (brS s j y) ∧ FrN M M2 ∧ M2 64 4 = 0 ∧ M2 64 42 = 0 ∧ ftI F B s M2 (20 * j + 20) := hI2
      show lm_G X (d + 6) 231 106 0 0 26 [some (.ref 64), some (.int (nI j)), some (.int (sBr s j)), some (.int (nI (20 + 1)))] [] (lm_T M2 v G) Q
      obtain ⟨r2, k2, c2, l2, q2⟩ := hI2
      refine lm_G_sg 2 (pc' := 29) (L' := [some (.ref 64), some (.int (nI j)), some (.int (sBr s j)), some (.int (nI (20 + 1)))]) (S' := [.int 20, .int (nI (20 + 1))]) (σ' := lm_T M2 v G) rfl trivial ?_
      refine lm_G_br (b := 20 < (nI (20 + 1))) (t := 85) (S' := []) rfl (fun hc => ?_) (fun hc => absurd (nI_lt (a := 20) (by omega) (by omega)) hc)
      refine lm_G_sg 5 (pc' := 92) (L' := [some (.ref 64), some (.int (nI j)), some (.int (sBr s j)), some (.int (nI (20 + 1)))]) (S' := []) (σ' := lm_T (lm_wr M2 79 ((nI j).toNatClampNeg) (sBr s j)) v G) rfl ⟨(vp_in_nI (by omega) (by omega)), trivial, trivial⟩ ?_
      rw [show (nI j).toNatClampNeg = j from nI_clamp (by omega)]
      refine lm_G_sg 1 (pc' := 95) (L' := [some (.ref 64), some (.int ((nI j) + 1)), some (.int (sBr s j)), some (.int (nI (20 + 1)))]) (S' := []) (σ' := lm_T (lm_wr M2 79 j (sBr s j)) v G) rfl trivial ?_
      rw [nI_1]
      refine lm_G_sg 1 (pc' := 7) (L' := [some (.ref 64), some (.int (nI (j + 1))), some (.int (sBr s j)), some (.int (nI (20 + 1)))]) (S' := []) (σ' := lm_T (lm_wr M2 79 j (sBr s j)) v G) rfl trivial ?_
      refine lm_G_jk (L := [some (.ref 64), some (.int (nI (j + 1))), none, none]) ⟨rfl, rfl, trivial⟩ ?_
      exact ih _ (⟨by have := RM_br r2 j (sBr s j); rw [br_twice, br_self] at this; exact this, FrN_wr k2 rfl (by decide), c2, l2, q2⟩)
    ·
      try dsimp only
      exact ⟨by rw [br_self]; exact r1, k1, c1, l1, q1⟩
  ·
    revert hI
    revert zz
    intro M1 hI
    replace hI : RM M1 F s ∧ FrN M M1 ∧ M1 64 4 = 0 ∧ M1 64 42 = 0 ∧ ftI F B s M1 (20 * (fN F)) := hI
    show lm_G X (d + 6) 231 106 0 0 7 [some (.ref 64), some (.int (nI (fN F))), none, none] [] (lm_T M1 v G) Q
    obtain ⟨r1, k1, c1, l1, q1⟩ := hI
    refine lm_G_sg 5 (pc' := 14) (L' := [some (.ref 64), some (.int (nI (fN F))), none, none]) (S' := [.int (M1 68 0), .int (nI (fN F))]) (σ' := lm_T M1 v G) rfl ⟨(lm_inb_ok rfl), trivial, trivial⟩ ?_
    rw [show M1 68 0 = nI (fN F) from r1.n]
    refine lm_G_br (b := (nI (fN F)) ≤ (nI (fN F))) (t := 98) (S' := []) rfl (fun hc => ?_) (fun hc => absurd (nI_le (Nat.le_refl _) (by omega)) hc)
    exact lm_G_re rfl trivial (Nat.zero_le _) (Nat.zero_le _) (hQ _ r1 k1 c1 l1 q1)
  ·
    try dsimp only
    exact ⟨RM_taken h 51 (by decide) _, FrN_w64 (FrN_rf _) (by decide), (wr_at (by decide)).trans hc4, (wr_at (by decide)).trans hl, wr_same, fun k hk => absurd hk (Nat.not_lt_zero k)⟩
set_option maxRecDepth 10000 in
theorem m_deep {X : lm_X} {d v : Nat} {M : Nat → Nat → Int32} {G : Nat → Nat → Int64} {Q : lm_O → lm_S → Prop} {F : Fa} {s : Sc} {B : Bk} {w : Int32} (hF : okF F) (h : RM M F s) (hs : okS F s) (hl : M 64 42 = 0) (hb : MB1 M F B) (ho : okB F (sBr s) B) (hQ : ∀ M1, RM M1 F s → FrN M M1 → M1 64 4 = cd (aDeep F B s w) → Q (.inl (some (.int (vl (aDeep F B s w))))) (lm_T M1 v G)) : lm_Q X (d + 7) 232 [.ref 64, .int w] (lm_T M v G) Q := by
  have hn := hF.n
  have hm := hF.m
  show lm_G X (d + 7) 232 106 0 0 0 [some (.ref 64), some (.int w)] [] (lm_T M v G) Q
  refine lm_G_sg 3 (pc' := 5) (L' := [some (.ref 64), some (.int w)]) (S' := []) (σ' := lm_T (lm_wr M 64 4 0) v G) rfl ⟨trivial, trivial, trivial⟩ ?_
  have h0 : RM (lm_wr M 64 4 0) F s := RM_taken h 4 (by decide) 0
  have f0 : FrN M (lm_wr M 64 4 0) := FrN_w64 (FrN_rf _) (by decide)
  have c0 : (lm_wr M 64 4 0) 64 4 = 0 := wr_same
  have l0 : (lm_wr M 64 4 0) 64 42 = 0 := (wr_at (by decide)).trans hl
  revert h0 f0 c0 l0
  generalize lm_wr M 64 4 0 = M0
  intro h0 f0 c0 l0
  have b0 : MB1 M0 F B := MB_N hb f0
  refine lm_G_sg 4 (pc' := 11) (L' := [some (.ref 64), some (.int w)]) (S' := [.long 2, .long 0, .long w.toInt64]) (σ' := lm_T M0 v G) rfl trivial ?_
  refine lm_G_ca (j := 142) (as := [.long w.toInt64, .long 0, .long 2]) (rest := []) rfl (Or.inl rfl) (Nat.le_of_ble_eq_true rfl) (Nat.le_of_ble_eq_true rfl) (Nat.le_of_ble_eq_true rfl) (Nat.le_of_ble_eq_true rfl) rfl ?_
  refine c_isIn ?_
  show lm_G X (d + 7) 232 106 0 0 14 [some (.ref 64), some (.int w)] [.int (b2i (inL (w.toInt64) 0 2))] (lm_T M0 v G) Q
  rw [show inL (w.toInt64) 0 2 = isP 3 w from inL_2 _]
  refine lm_G_br (b := ¬ (b2i (isP 3 w)) = 0) (t := 23) (S' := []) rfl (fun hw => ?_) (fun hw => ?_)
  rotate_left
  ·
    replace hw := b2i_0 (Classical.not_not.mp hw)
    refine lm_G_sg 2 (pc' := 19) (L' := [some (.ref 64), some (.int w)]) (S' := [.int 1, .ref 64]) (σ' := lm_T M0 v G) rfl trivial ?_
    refine lm_G_ca (j := 141) (as := [.ref 64, .int 1]) (rest := []) rfl (Or.inl rfl) (Nat.le_of_ble_eq_true rfl) (Nat.le_of_ble_eq_true rfl) (Nat.le_of_ble_eq_true rfl) (Nat.le_of_ble_eq_true rfl) rfl ?_
    refine m_fail ?_
    show lm_G X (d + 7) 232 106 0 0 22 [some (.ref 64), some (.int w)] [.int 0] (lm_T (lm_wr M0 64 4 1) v G) Q
    rw [show aDeep F B s w = .inr false from by simp +decide only [aDeep, hw, if_true, if_false, Bool.and_true, Bool.true_and, Bool.and_self, Bool.false_and, Bool.and_false, Bool.false_eq_true]] at hQ
    exact lm_G_re rfl trivial (Nat.zero_le _) (Nat.zero_le _) (hQ _ (RM_taken h0 4 (by decide) 1) (FrN_w64 f0 (by decide)) wr_same)
  ·
    replace hw := b2i_1 hw
    have gl := gl_len (F := F) (B := B) (s := s) (n := 20 * fN F)
    refine lm_G_sg 2 (pc' := 25) (L' := [some (.ref 64), some (.int w)]) (S' := [.int 2, .int w]) (σ' := lm_T M0 v G) rfl trivial ?_
    refine lm_G_br (b := ¬ w = 2) (t := 41) (S' := []) rfl (fun h1 => ?_) (fun h1 => ?_)
    rotate_left
    ·
      obtain rfl := Classical.not_not.mp h1
      rw [show aDeep F B s 2 = .inl (b2i (agS F B s)) from by simp +decide only [aDeep, hw, if_true, if_false, Bool.and_true, Bool.true_and, Bool.and_self, Bool.false_and, Bool.and_false, Bool.false_eq_true]] at hQ
      refine lm_G_sg 1 (pc' := 29) (L' := [some (.ref 64), some (.int 2)]) (S' := [.ref 64]) (σ' := lm_T M0 v G) rfl trivial ?_
      refine lm_G_ca (j := 230) (as := [.ref 64]) (rest := []) rfl (Or.inl rfl) (Nat.le_of_ble_eq_true rfl) (Nat.le_of_ble_eq_true rfl) (Nat.le_of_ble_eq_true rfl) (Nat.le_of_ble_eq_true rfl) rfl ?_
      refine m_isAsSeen hF h0 hs l0 b0 ho (fun M1 r1 k1 => ?_)
      show lm_G X (d + 7) 232 106 0 0 32 [some (.ref 64), some (.int 2)] [.int (b2i (agS F B s))] (lm_T M1 v G) Q
      have n1 : FrN M M1 := FrN_tr f0 (FrN_S k1)
      have c1 : M1 64 4 = 0 := (k1.2 4 (by decide) (by decide)).trans c0
      refine lm_G_br (b := (b2i (agS F B s)) = 0) (t := 39) (S' := []) rfl (fun h5 => ?_) (fun h5 => ?_)
      ·
        rw [b2i_0 h5] at hQ
        refine lm_G_sg 1 (pc' := 40) (L' := [some (.ref 64), some (.int 2)]) (S' := [.int 0]) (σ' := lm_T M1 v G) rfl trivial ?_
        exact lm_G_re rfl trivial (Nat.zero_le _) (Nat.zero_le _) (hQ _ r1 n1 c1)
      ·
        rw [b2i_1 h5] at hQ
        refine lm_G_sg 2 (pc' := 40) (L' := [some (.ref 64), some (.int 2)]) (S' := [.int 1]) (σ' := lm_T M1 v G) rfl trivial ?_
        exact lm_G_re rfl trivial (Nat.zero_le _) (Nat.zero_le _) (hQ _ r1 n1 c1)
    ·
      refine lm_G_sg 1 (pc' := 42) (L' := [some (.ref 64), some (.int w)]) (S' := [.ref 64]) (σ' := lm_T M0 v G) rfl trivial ?_
      refine lm_G_ca (j := 231) (as := [.ref 64]) (rest := []) rfl (Or.inl rfl) (Nat.le_of_ble_eq_true rfl) (Nat.le_of_ble_eq_true rfl) (Nat.le_of_ble_eq_true rfl) (Nat.le_of_ble_eq_true rfl) rfl ?_
      refine m_tellFits hF h0 hs l0 b0 ho c0 (fun M1 r1 k1 c1 l1 q1 => ?_)
      show lm_G X (d + 7) 232 106 0 0 45 [some (.ref 64), some (.int w)] [] (lm_T M1 v G) Q
      have n1 := FrN_tr f0 k1
      refine lm_G_sg 1 (pc' := 46) (L' := [some (.ref 64), some (.int w)]) (S' := [.int w]) (σ' := lm_T M1 v G) rfl trivial ?_
      rcases isP_3 hw with rfl | rfl | rfl
      ·
        rw [show aDeep F B s 0 = .inl (ctS (gdS F B s) (20 * fN F)) from by simp +decide only [aDeep, hw, if_true, if_false, Bool.and_true, Bool.true_and, Bool.and_self, Bool.false_and, Bool.and_false, Bool.false_eq_true]] at hQ
        rw [gl_ct] at hQ
        refine lm_G_br (b := ¬ 0 = 0) (t := 56) (S' := []) rfl (fun hc => absurd rfl hc) (fun hc => ?_)
        refine lm_G_sg 2 (pc' := 53) (L' := [some (.ref 64), some (.int 0)]) (S' := [.int (M1 64 51)]) (σ' := lm_T M1 v G) rfl trivial ?_
        rw [show M1 64 51 = nI ((glS F B s (20 * fN F)).length) from q1.1]
        refine lm_G_sg 1 (pc' := 73) (L' := [some (.ref 64), some (.int 0)]) (S' := [.int (nI ((glS F B s (20 * fN F)).length))]) (σ' := lm_T M1 v G) rfl trivial ?_
        exact lm_G_re rfl trivial (Nat.zero_le _) (Nat.zero_le _) (hQ _ r1 n1 c1)
      ·
        rw [show aDeep F B s 1 = .inl (fiD (gdS F B s) (20 * fN F)) from by simp +decide only [aDeep, hw, if_true, if_false, Bool.and_true, Bool.true_and, Bool.and_self, Bool.false_and, Bool.and_false, Bool.false_eq_true]] at hQ
        rw [gl_fd _ (by omega)] at hQ
        refine lm_G_br (b := ¬ 1 = 0) (t := 56) (S' := []) rfl (fun hc => ?_) (fun hc => absurd (by decide) hc)
        refine lm_G_sg 2 (pc' := 60) (L' := [some (.ref 64), some (.int 1)]) (S' := [.int (M1 64 51)]) (σ' := lm_T M1 v G) rfl trivial ?_
        rw [show M1 64 51 = nI ((glS F B s (20 * fN F)).length) from q1.1]
        refine lm_G_br (b := ¬ (nI ((glS F B s (20 * fN F)).length)) = 0) (t := 67) (S' := []) rfl (fun h6 => ?_) (fun h6 => ?_)
        rotate_left
        ·
          rw [if_pos ((nI_eq (b := 0) (by omega) (by omega)).mp (Classical.not_not.mp h6))] at hQ
          refine lm_G_sg 2 (pc' := 73) (L' := [some (.ref 64), some (.int 1)]) (S' := [.int (-1)]) (σ' := lm_T M1 v G) rfl trivial ?_
          exact lm_G_re rfl trivial (Nat.zero_le _) (Nat.zero_le _) (hQ _ r1 n1 c1)
        ·
          have e6 : ¬ (glS F B s (20 * fN F)).length = 0 := fun w => h6 (by rw [w]; rfl)
          rw [if_neg e6] at hQ
          refine lm_G_sg 4 (pc' := 73) (L' := [some (.ref 64), some (.int 1)]) (S' := [.int (M1 96 0)]) (σ' := lm_T M1 v G) rfl ⟨(lm_inb_ok rfl), trivial, trivial⟩ ?_
          rw [show M1 96 0 = nI (cdS ((glS F B s (20 * fN F)).getD 0 0)) from q1.2 0 (by omega)]
          exact lm_G_re rfl trivial (Nat.zero_le _) (Nat.zero_le _) (hQ _ r1 n1 c1)
      ·
        exact absurd rfl h1
set_option maxRecDepth 10000 in
theorem m_look {X : lm_X} {d v : Nat} {M : Nat → Nat → Int32} {G : Nat → Nat → Int64} {Q : lm_O → lm_S → Prop} {F : Fa} {s : Sc} {B : Bk} {w : Int32} (hF : okF F) (h : RM M F s) (hs : okS F s) (hl : M 64 42 = 0) (hb : MB1 M F B) (ho : okB F (sBr s) B) (hQ : ∀ M1, RM M1 F s → FrN M M1 → M1 64 4 = cd (aLook F B s w) → Q (.inl (some (.int (vl (aLook F B s w))))) (lm_T M1 v G)) : lm_Q X (d + 7) 233 [.ref 64, .int w] (lm_T M v G) Q := by
  have hn := hF.n
  have hm := hF.m
  show lm_G X (d + 7) 233 106 0 0 0 [some (.ref 64), some (.int w), none, none, none, none] [] (lm_T M v G) Q
  refine lm_G_sg 3 (pc' := 5) (L' := [some (.ref 64), some (.int w), none, none, none, none]) (S' := []) (σ' := lm_T (lm_wr M 64 4 0) v G) rfl ⟨trivial, trivial, trivial⟩ ?_
  have h0 : RM (lm_wr M 64 4 0) F s := RM_taken h 4 (by decide) 0
  have f0 : FrN M (lm_wr M 64 4 0) := FrN_w64 (FrN_rf _) (by decide)
  have c0 : (lm_wr M 64 4 0) 64 4 = 0 := wr_same
  have l0 : (lm_wr M 64 4 0) 64 42 = 0 := (wr_at (by decide)).trans hl
  revert h0 f0 c0 l0
  generalize lm_wr M 64 4 0 = M0
  intro h0 f0 c0 l0
  have b0 : MB1 M0 F B := MB_N hb f0
  refine lm_G_sg 4 (pc' := 9) (L' := [some (.ref 64), some (.int w), none, none, none, none]) (S' := [.long 1, .long 0, .long w.toInt64]) (σ' := lm_T M0 v G) rfl trivial ?_
  refine lm_G_ca (j := 142) (as := [.long w.toInt64, .long 0, .long 1]) (rest := []) rfl (Or.inl rfl) (Nat.le_of_ble_eq_true rfl) (Nat.le_of_ble_eq_true rfl) (Nat.le_of_ble_eq_true rfl) (Nat.le_of_ble_eq_true rfl) rfl ?_
  refine c_isIn ?_
  show lm_G X (d + 7) 233 106 0 0 12 [some (.ref 64), some (.int w), none, none, none, none] [.int (b2i (inL (w.toInt64) 0 1))] (lm_T M0 v G) Q
  rw [show inL (w.toInt64) 0 1 = isP 2 w from inL_1 _]
  refine lm_G_br (b := ¬ (b2i (isP 2 w)) = 0) (t := 21) (S' := []) rfl (fun hw => ?_) (fun hw => ?_)
  rotate_left
  ·
    replace hw := b2i_0 (Classical.not_not.mp hw)
    refine lm_G_sg 2 (pc' := 17) (L' := [some (.ref 64), some (.int w), none, none, none, none]) (S' := [.int 1, .ref 64]) (σ' := lm_T M0 v G) rfl trivial ?_
    refine lm_G_ca (j := 141) (as := [.ref 64, .int 1]) (rest := []) rfl (Or.inl rfl) (Nat.le_of_ble_eq_true rfl) (Nat.le_of_ble_eq_true rfl) (Nat.le_of_ble_eq_true rfl) (Nat.le_of_ble_eq_true rfl) rfl ?_
    refine m_fail ?_
    show lm_G X (d + 7) 233 106 0 0 20 [some (.ref 64), some (.int w), none, none, none, none] [.int 0] (lm_T (lm_wr M0 64 4 1) v G) Q
    rw [show aLook F B s w = .inr false from by simp +decide only [aLook, hw, if_true, if_false, Bool.and_true, Bool.true_and, Bool.and_self, Bool.false_and, Bool.and_false, Bool.false_eq_true]] at hQ
    exact lm_G_re rfl trivial (Nat.zero_le _) (Nat.zero_le _) (hQ _ (RM_taken h0 4 (by decide) 1) (FrN_w64 f0 (by decide)) wr_same)
  ·
    replace hw := b2i_1 hw
    have gl := gl_len (F := F) (B := B) (s := s) (n := 20 * fN F)
    refine lm_G_sg 1 (pc' := 22) (L' := [some (.ref 64), some (.int w), none, none, none, none]) (S' := [.ref 64]) (σ' := lm_T M0 v G) rfl trivial ?_
    refine lm_G_ca (j := 231) (as := [.ref 64]) (rest := []) rfl (Or.inl rfl) (Nat.le_of_ble_eq_true rfl) (Nat.le_of_ble_eq_true rfl) (Nat.le_of_ble_eq_true rfl) (Nat.le_of_ble_eq_true rfl) rfl ?_
    refine m_tellFits hF h0 hs l0 b0 ho c0 (fun M1 r1 k1 c1 l1 q1 => ?_)
    show lm_G X (d + 7) 233 106 0 0 25 [some (.ref 64), some (.int w), none, none, none, none] [] (lm_T M1 v G) Q
    refine lm_G_sg 4 (pc' := 31) (L' := [some (.ref 64), some (.int w), none, none, none, none]) (S' := [.int 0, .ref 90, .ref 64]) (σ' := lm_T M1 v G) rfl trivial ?_
    refine lm_G_ca (j := 177) (as := [.ref 64, .ref 90, .int 0]) (rest := []) rfl (Or.inl rfl) (Nat.le_of_ble_eq_true rfl) (Nat.le_of_ble_eq_true rfl) (Nat.le_of_ble_eq_true rfl) (Nat.le_of_ble_eq_true rfl) rfl ?_
    refine m_pack90 (a := 0) hF r1 (by omega) (fun M2 v2 o2 f2 => ?_)
    show lm_G X (d + 7) 233 106 0 0 34 [some (.ref 64), some (.int w), none, none, none, none] [] (lm_T M2 v G) Q
    have t2 : TM M F s M2 s := ⟨RM_O r1 f2 (by decide), FrN_tr (FrN_tr f0 k1) (FrN_O f2 rfl (by decide)), v2, by rw [f2 64 rfl]; exact c1, by rw [f2 64 rfl]; exact l1⟩
    have q2 : ftI F B s M2 (20 * fN F) := ⟨by rw [f2 64 rfl]; exact q1.1, fun k hk => by rw [f2 96 rfl]; exact q1.2 k hk⟩
    refine lm_G_sg 2 (pc' := 36) (L' := [some (.ref 64), some (.int w), some (.int 0), none, none, none]) (S' := []) (σ' := lm_T M2 v G) rfl trivial ?_
    refine lm_ind (α := (Nat → Fn)) (St := fun (j : Nat) zz => (fun (M3 : Nat → Fn) => lm_G X (d + 7) 233 106 0 0 36 [some (.ref 64), some (.int w), some (.int (nI j)), none, none, none] [] (lm_T M3 v G) Q) zz) (Inv := fun (j : Nat) zz => (fun (M3 : Nat → Fn) => TM M F s M3 s ∧ ftI F B s M3 (20 * fN F) ∧ (∀ q, q < j → M3 97 q = 0)) zz) (8) (fun j zz hj hI ih => ?_) (fun zz hI => ?_) (0) M2 (by omega) ?_
    ·
      revert ih hI
      revert zz
      intro M3 hI ih
      replace hI : TM M F s M3 s ∧ ftI F B s M3 (20 * fN F) ∧ (∀ q, q < j → M3 97 q = 0) := hI
      replace ih : ∀ (M3 : Nat → Fn) (_ : TM M F s M3 s ∧ ftI F B s M3 (20 * fN F) ∧ (∀ q, q < (j + 1) → M3 97 q = 0)), lm_G X (d + 7) 233 106 0 0 36 [some (.ref 64), some (.int w), some (.int (nI (j + 1))), none, none, none] [] (lm_T M3 v G) Q := fun M3 q => ih M3 q
      show lm_G X (d + 7) 233 106 0 0 36 [some (.ref 64), some (.int w), some (.int (nI j)), none, none, none] [] (lm_T M3 v G) Q
      obtain ⟨t3, q3, z3⟩ := hI
      refine lm_G_sg 2 (pc' := 39) (L' := [some (.ref 64), some (.int w), some (.int (nI j)), none, none, none]) (S' := [.int 8, .int (nI j)]) (σ' := lm_T M3 v G) rfl trivial ?_
      refine lm_G_br (b := 8 ≤ (nI j)) (t := 55) (S' := []) rfl (fun hc => absurd hc (nI_ge (b := 8) hj (by omega))) (fun hc => ?_)
      refine lm_G_sg 5 (pc' := 49) (L' := [some (.ref 64), some (.int w), some (.int (nI j)), none, none, none]) (S' := []) (σ' := lm_T (lm_wr M3 97 ((nI j).toNatClampNeg) 0) v G) rfl ⟨(vp_in_nI (by omega) (by omega)), trivial, trivial⟩ ?_
      rw [show (nI j).toNatClampNeg = j from nI_clamp (by omega)]
      refine lm_G_sg 1 (pc' := 52) (L' := [some (.ref 64), some (.int w), some (.int ((nI j) + 1)), none, none, none]) (S' := []) (σ' := lm_T (lm_wr M3 97 j 0) v G) rfl trivial ?_
      rw [nI_1]
      refine lm_G_sg 1 (pc' := 36) (L' := [some (.ref 64), some (.int w), some (.int (nI (j + 1))), none, none, none]) (S' := []) (σ' := lm_T (lm_wr M3 97 j 0) v G) rfl trivial ?_
      exact ih _ (⟨TM_wr t3 rfl (by decide) (by decide) (RM_wr t3.1 (by decide)), q3, fun q hq => if e : q = j then (by rw [e]; exact wr_same) else (by rw [wr_at e]; exact z3 q (by omega))⟩)
    ·
      revert hI
      revert zz
      intro M3 hI
      replace hI : TM M F s M3 s ∧ ftI F B s M3 (20 * fN F) ∧ (∀ q, q < 8 → M3 97 q = 0) := hI
      show lm_G X (d + 7) 233 106 0 0 36 [some (.ref 64), some (.int w), some (.int (nI 8)), none, none, none] [] (lm_T M3 v G) Q
      obtain ⟨t3, q3, z3⟩ := hI
      refine lm_G_sg 2 (pc' := 39) (L' := [some (.ref 64), some (.int w), some (.int (nI 8)), none, none, none]) (S' := [.int 8, .int (nI 8)]) (σ' := lm_T M3 v G) rfl trivial ?_
      refine lm_G_br (b := 8 ≤ (nI 8)) (t := 55) (S' := []) rfl (fun hc => ?_) (fun hc => absurd (nI_le (a := 8) (Nat.le_refl _) (by omega)) hc)
      refine lm_G_sg 2 (pc' := 57) (L' := [some (.ref 64), some (.int w), some (.int 0), none, none, none]) (S' := []) (σ' := lm_T M3 v G) rfl trivial ?_
      refine lm_ind (α := (Nat → Fn)) (St := fun (j : Nat) zz => (fun (M4 : Nat → Fn) => lm_G X (d + 7) 233 106 0 0 57 [some (.ref 64), some (.int w), some (.int (nI j)), none, none, none] [] (lm_T M4 v G) Q) zz) (Inv := fun (j : Nat) zz => (fun (M4 : Nat → Fn) => TM M F s M4 s ∧ ftI F B s M4 (20 * fN F) ∧ (∀ q, q < fN F → M4 97 q = unL F s q ((glS F B s (20 * fN F)).take j))) zz) ((glS F B s (20 * fN F)).length) (fun j zz hj2 hI2 ih2 => ?_) (fun zz hI2 => ?_) (0) M3 (by omega) ?_
      ·
        revert ih2 hI2
        revert zz
        intro M4 hI2 ih2
        replace hI2 : TM M F s M4 s ∧ ftI F B s M4 (20 * fN F) ∧ (∀ q, q < fN F → M4 97 q = unL F s q ((glS F B s (20 * fN F)).take j)) := hI2
        replace ih2 : ∀ (M4 : Nat → Fn) (_ : TM M F s M4 s ∧ ftI F B s M4 (20 * fN F) ∧ (∀ q, q < fN F → M4 97 q = unL F s q ((glS F B s (20 * fN F)).take (j + 1)))), lm_G X (d + 7) 233 106 0 0 57 [some (.ref 64), some (.int w), some (.int (nI (j + 1))), none, none, none] [] (lm_T M4 v G) Q := fun M4 q => ih2 M4 q
        show lm_G X (d + 7) 233 106 0 0 57 [some (.ref 64), some (.int w), some (.int (nI j)), none, none, none] [] (lm_T M4 v G) Q
        obtain ⟨t4, q4, z4⟩ := hI2
        obtain ⟨x, ex⟩ : ∃ x, x = (glS F B s (20 * fN F)).getD j 0 := ⟨_, rfl⟩
        have hx := gl_mem (getD_mem hj2)
        rw [← ex] at hx
        have hp : pjS x < fN F := by unfold pjS; omega
        have hv : vjS x ≤ 20 := by unfold vjS; omega
        have e96 : M4 96 j = nI (cdS x) := by rw [ex]; exact q4.2 j hj2
        have cl : cdS x < 1000 := by unfold cdS; omega
        refine lm_G_sg 3 (pc' := 62) (L' := [some (.ref 64), some (.int w), some (.int (nI j)), none, none, none]) (S' := [.int (M4 64 51), .int (nI j)]) (σ' := lm_T M4 v G) rfl trivial ?_
        rw [show M4 64 51 = nI ((glS F B s (20 * fN F)).length) from q4.1]
        refine lm_G_br (b := (nI ((glS F B s (20 * fN F)).length)) ≤ (nI j)) (t := 167) (S' := []) rfl (fun hc => absurd hc (nI_ge hj2 (by omega))) (fun hc => ?_)
        refine lm_G_sg 4 (pc' := 71) (L' := [some (.ref 64), some (.int w), some (.int (nI j)), none, none, none]) (S' := [.int (M4 96 (nI j).toNatClampNeg)]) (σ' := lm_T M4 v G) rfl ⟨(vp_in_nI (by omega) (by omega)), trivial, trivial⟩ ?_
        rw [show (nI j).toNatClampNeg = j from nI_clamp (by omega)]
        rw [show M4 96 j = nI (cdS x) from e96]
        refine lm_G_sg 2 (pc' := 74) (L' := [some (.ref 64), some (.int w), some (.int (nI j)), none, none, none]) (S' := [.int ((nI (cdS x)) / 100)]) (σ' := lm_T M4 v G) rfl ⟨(by decide), trivial, trivial⟩ ?_
        rw [show (nI (cdS x)) / 100 = nI (pjS x) from by rw [show (100 : Int32) = nI 100 from rfl, nI_div (by omega) (by omega), cd_dm.1]]
        refine lm_G_sg 5 (pc' := 81) (L' := [some (.ref 64), some (.int w), some (.int (nI j)), some (.int (nI (pjS x))), none, none]) (S' := [.int (M4 79 (nI (pjS x)).toNatClampNeg)]) (σ' := lm_T M4 v G) rfl ⟨(vp_in_nI (by omega) (by omega)), trivial, trivial⟩ ?_
        rw [show (nI (pjS x)).toNatClampNeg = (pjS x) from nI_clamp (by omega)]
        rw [show M4 79 (pjS x) = sBr s (pjS x) from t4.1.br (pjS x) (by omega)]
        refine lm_G_sg 8 (pc' := 94) (L' := [some (.ref 64), some (.int w), some (.int (nI j)), some (.int (nI (pjS x))), some (.int (sBr s (pjS x))), none]) (S' := [.int (M4 96 (nI j).toNatClampNeg), .int (nI (pjS x)), .ref 79]) (σ' := lm_T M4 v G) rfl ⟨(vp_in_nI (by omega) (by omega)), trivial, trivial⟩ ?_
        rw [show (nI j).toNatClampNeg = j from nI_clamp (by omega)]
        rw [show M4 96 j = nI (cdS x) from e96]
        refine lm_G_sg 2 (pc' := 97) (L' := [some (.ref 64), some (.int w), some (.int (nI j)), some (.int (nI (pjS x))), some (.int (sBr s (pjS x))), none]) (S' := [.int ((nI (cdS x)) - (nI (cdS x)) / 100 * 100), .int (nI (pjS x)), .ref 79]) (σ' := lm_T M4 v G) rfl ⟨(by decide), trivial, trivial⟩ ?_
        rw [show (nI (cdS x)) - (nI (cdS x)) / 100 * 100 = nI (vjS x) from by rw [show (100 : Int32) = nI 100 from rfl, nI_rem (by omega) (by omega), cd_dm.2]]
        refine lm_G_sg 1 (pc' := 98) (L' := [some (.ref 64), some (.int w), some (.int (nI j)), some (.int (nI (pjS x))), some (.int (sBr s (pjS x))), none]) (S' := []) (σ' := lm_T (lm_wr M4 79 ((nI (pjS x)).toNatClampNeg) (nI (vjS x))) v G) rfl ⟨(vp_in_nI (by omega) (by omega)), trivial, trivial⟩ ?_
        rw [show (nI (pjS x)).toNatClampNeg = (pjS x) from nI_clamp (by omega)]
        have t5 : TM M F s (lm_wr M4 79 (pjS x) (nI (vjS x))) (brS s (pjS x) (nI (vjS x))) := TM_br t4 (pjS x) (nI (vjS x))
        have q5 : ftI F B s (lm_wr M4 79 (pjS x) (nI (vjS x))) (20 * fN F) := q4
        have z5 : (lm_wr M4 79 (pjS x) (nI (vjS x))) 97 = M4 97 := rfl
        revert t5 q5 z5
        generalize lm_wr M4 79 (pjS x) (nI (vjS x)) = M5
        intro t5 q5 z5
        refine lm_G_sg 2 (pc' := 100) (L' := [some (.ref 64), some (.int w), some (.int (nI j)), some (.int (nI (pjS x))), some (.int (sBr s (pjS x))), none]) (S' := [.int 5, .ref 64]) (σ' := lm_T M5 v G) rfl trivial ?_
        refine lm_G_ca (j := 194) (as := [.ref 64, .int 5]) (rest := []) rfl (Or.inl rfl) (Nat.le_of_ble_eq_true rfl) (Nat.le_of_ble_eq_true rfl) (Nat.le_of_ble_eq_true rfl) (Nat.le_of_ble_eq_true rfl) rfl ?_
        refine m_goOn (n := 5) (lf := nl) hF t5.1 (ok_br hs _ _) (fun _ hq => nl_M hF.n hq t5.2.2.2.2) (by omega) (fun M6 h6 k6 e6 => ?_)
        show lm_G X (d + 7) 233 106 0 0 103 [some (.ref 64), some (.int w), some (.int (nI j)), some (.int (nI (pjS x))), some (.int (sBr s (pjS x))), none] [] (lm_T M6 v G) Q
        have t6 := TM_M t5 k6 h6
        have q6 : ftI F B s M6 (20 * fN F) := ⟨(k6.2 51 (by decide) (by decide)).trans q5.1, fun k hk => by rw [k6.1 96 rfl]; exact q5.2 k hk⟩
        have z6 : M6 97 = M4 97 := (k6.1 97 rfl).trans z5
        refine lm_G_sg 2 (pc' := 106) (L' := [some (.ref 64), some (.int w), some (.int (nI j)), some (.int (nI (pjS x))), some (.int (sBr s (pjS x))), some (.int 0)]) (S' := []) (σ' := lm_T M6 v G) rfl trivial ?_
        refine lm_ind (α := (Nat → Fn)) (St := fun (i : Nat) zz => (fun (M7 : Nat → Fn) => lm_G X (d + 7) 233 106 0 0 106 [some (.ref 64), some (.int w), some (.int (nI j)), some (.int (nI (pjS x))), some (.int (sBr s (pjS x))), some (.int (nI i))] [] (lm_T M7 v G) Q) zz) (Inv := fun (i : Nat) zz => (fun (M7 : Nat → Fn) => TM M F s M7 (hrsS F nl (brS s (pjS x) (nI (vjS x))) 5) ∧ ftI F B s M7 (20 * fN F) ∧ (∀ q, q < fN F → M7 97 q = if q < i then M4 97 q ||| bit1 (sHu (hrsS F nl (brS s (pjS x) (nI (vjS x))) 5) q + 1) else M4 97 q)) zz) (fN F) (fun i zz hj3 hI3 ih3 => ?_) (fun zz hI3 => ?_) (0) M6 (by omega) ?_
        ·
          revert ih3 hI3
          revert zz
          intro M7 hI3 ih3
          replace hI3 : TM M F s M7 (hrsS F nl (brS s (pjS x) (nI (vjS x))) 5) ∧ ftI F B s M7 (20 * fN F) ∧ (∀ q, q < fN F → M7 97 q = if q < i then M4 97 q ||| bit1 (sHu (hrsS F nl (brS s (pjS x) (nI (vjS x))) 5) q + 1) else M4 97 q) := hI3
          replace ih3 : ∀ (M7 : Nat → Fn) (_ : TM M F s M7 (hrsS F nl (brS s (pjS x) (nI (vjS x))) 5) ∧ ftI F B s M7 (20 * fN F) ∧ (∀ q, q < fN F → M7 97 q = if q < (i + 1) then M4 97 q ||| bit1 (sHu (hrsS F nl (brS s (pjS x) (nI (vjS x))) 5) q + 1) else M4 97 q)), lm_G X (d + 7) 233 106 0 0 106 [some (.ref 64), some (.int w), some (.int (nI j)), some (.int (nI (pjS x))), some (.int (sBr s (pjS x))), some (.int (nI (i + 1)))] [] (lm_T M7 v G) Q := fun M7 q => ih3 M7 q
          show lm_G X (d + 7) 233 106 0 0 106 [some (.ref 64), some (.int w), some (.int (nI j)), some (.int (nI (pjS x))), some (.int (sBr s (pjS x))), some (.int (nI i))] [] (lm_T M7 v G) Q
          obtain ⟨t7, q7, z7⟩ := hI3
          refine lm_G_sg 5 (pc' := 114) (L' := [some (.ref 64), some (.int w), some (.int (nI j)), some (.int (nI (pjS x))), some (.int (sBr s (pjS x))), some (.int (nI i))]) (S' := [.int (M7 68 0), .int (nI i)]) (σ' := lm_T M7 v G) rfl ⟨(lm_inb_ok rfl), trivial, trivial⟩ ?_
          rw [show M7 68 0 = nI (fN F) from t7.1.n]
          refine lm_G_br (b := (nI (fN F)) ≤ (nI i)) (t := 144) (S' := []) rfl (fun hc => absurd hc (nI_ge hj3 (by omega))) (fun hc => ?_)
          refine lm_G_sg 5 (pc' := 125) (L' := [some (.ref 64), some (.int w), some (.int (nI j)), some (.int (nI (pjS x))), some (.int (sBr s (pjS x))), some (.int (nI i))]) (S' := [.int (M7 97 (nI i).toNatClampNeg), .int (nI i), .ref 97]) (σ' := lm_T M7 v G) rfl ⟨(vp_in_nI (by omega) (by omega)), trivial, trivial⟩ ?_
          rw [show (nI i).toNatClampNeg = i from nI_clamp (by omega)]
          rw [show M7 97 i = M4 97 i from (z7 i hj3).trans (if_neg (Nat.lt_irrefl _))]
          refine lm_G_sg 5 (pc' := 133) (L' := [some (.ref 64), some (.int w), some (.int (nI j)), some (.int (nI (pjS x))), some (.int (sBr s (pjS x))), some (.int (nI i))]) (S' := [.int (M7 82 (nI i).toNatClampNeg), .int 1, .int (M4 97 i), .int (nI i), .ref 97]) (σ' := lm_T M7 v G) rfl ⟨(vp_in_nI (by omega) (by omega)), trivial, trivial⟩ ?_
          rw [show (nI i).toNatClampNeg = i from nI_clamp (by omega)]
          rw [show M7 82 i = sHu (hrsS F nl (brS s (pjS x) (nI (vjS x))) 5) i from t7.1.hu i (by omega)]
          refine lm_G_sg 5 (pc' := 138) (L' := [some (.ref 64), some (.int w), some (.int (nI j)), some (.int (nI (pjS x))), some (.int (sBr s (pjS x))), some (.int (nI i))]) (S' := []) (σ' := lm_T (lm_wr M7 97 ((nI i).toNatClampNeg) ((M4 97 i) ||| ((1 : Int32) <<< (((sHu (hrsS F nl (brS s (pjS x) (nI (vjS x))) 5) i) + 1) &&& 31)))) v G) rfl ⟨(vp_in_nI (by omega) (by omega)), trivial, trivial⟩ ?_
          rw [show (nI i).toNatClampNeg = i from nI_clamp (by omega)]
          refine lm_G_sg 1 (pc' := 141) (L' := [some (.ref 64), some (.int w), some (.int (nI j)), some (.int (nI (pjS x))), some (.int (sBr s (pjS x))), some (.int ((nI i) + 1))]) (S' := []) (σ' := lm_T (lm_wr M7 97 i ((M4 97 i) ||| ((1 : Int32) <<< (((sHu (hrsS F nl (brS s (pjS x) (nI (vjS x))) 5) i) + 1) &&& 31)))) v G) rfl trivial ?_
          rw [nI_1]
          refine lm_G_sg 1 (pc' := 106) (L' := [some (.ref 64), some (.int w), some (.int (nI j)), some (.int (nI (pjS x))), some (.int (sBr s (pjS x))), some (.int (nI (i + 1)))]) (S' := []) (σ' := lm_T (lm_wr M7 97 i ((M4 97 i) ||| ((1 : Int32) <<< (((sHu (hrsS F nl (brS s (pjS x) (nI (vjS x))) 5) i) + 1) &&& 31)))) v G) rfl trivial ?_
          exact ih3 _ (⟨TM_wr t7 rfl (by decide) (by decide) (RM_wr t7.1 (by decide)), q7, fun q hq => if e : q = i then (by rw [e, wr_same, if_pos (Nat.lt_succ_self _)]) else (by rw [wr_at e, z7 q hq]; by_cases w : q < i; rw [if_pos w, if_pos (by omega)]; rw [if_neg w, if_neg (by omega)])⟩)
        ·
          revert hI3
          revert zz
          intro M7 hI3
          replace hI3 : TM M F s M7 (hrsS F nl (brS s (pjS x) (nI (vjS x))) 5) ∧ ftI F B s M7 (20 * fN F) ∧ (∀ q, q < fN F → M7 97 q = if q < (fN F) then M4 97 q ||| bit1 (sHu (hrsS F nl (brS s (pjS x) (nI (vjS x))) 5) q + 1) else M4 97 q) := hI3
          show lm_G X (d + 7) 233 106 0 0 106 [some (.ref 64), some (.int w), some (.int (nI j)), some (.int (nI (pjS x))), some (.int (sBr s (pjS x))), some (.int (nI (fN F)))] [] (lm_T M7 v G) Q
          obtain ⟨t7, q7, z7⟩ := hI3
          refine lm_G_sg 5 (pc' := 114) (L' := [some (.ref 64), some (.int w), some (.int (nI j)), some (.int (nI (pjS x))), some (.int (sBr s (pjS x))), some (.int (nI (fN F)))]) (S' := [.int (M7 68 0), .int (nI (fN F))]) (σ' := lm_T M7 v G) rfl ⟨(lm_inb_ok rfl), trivial, trivial⟩ ?_
          rw [show M7 68 0 = nI (fN F) from t7.1.n]
          refine lm_G_br (b := (nI (fN F)) ≤ (nI (fN F))) (t := 144) (S' := []) rfl (fun hc => ?_) (fun hc => absurd (nI_le (Nat.le_refl _) (by omega)) hc)
          refine lm_G_sg 5 (pc' := 152) (L' := [some (.ref 64), some (.int w), some (.int (nI j)), some (.int (nI (pjS x))), some (.int (sBr s (pjS x))), some (.int (nI (fN F)))]) (S' := []) (σ' := lm_T (lm_wr M7 79 ((nI (pjS x)).toNatClampNeg) (sBr s (pjS x))) v G) rfl ⟨(vp_in_nI (by omega) (by omega)), trivial, trivial⟩ ?_
          rw [show (nI (pjS x)).toNatClampNeg = (pjS x) from nI_clamp (by omega)]
          have t8 : TM M F s (lm_wr M7 79 (pjS x) (sBr s (pjS x))) (brS (hrsS F nl (brS s (pjS x) (nI (vjS x))) 5) (pjS x) (sBr s (pjS x))) := TM_br t7 (pjS x) (sBr s (pjS x))
          have q8 : ftI F B s (lm_wr M7 79 (pjS x) (sBr s (pjS x))) (20 * fN F) := q7
          have z8 : (lm_wr M7 79 (pjS x) (sBr s (pjS x))) 97 = M7 97 := rfl
          revert t8 q8 z8
          generalize lm_wr M7 79 (pjS x) (sBr s (pjS x)) = M8
          intro t8 q8 z8
          refine lm_G_sg 4 (pc' := 158) (L' := [some (.ref 64), some (.int w), some (.int (nI j)), some (.int (nI (pjS x))), some (.int (sBr s (pjS x))), some (.int (nI (fN F)))]) (S' := [.int 0, .ref 90, .ref 64]) (σ' := lm_T M8 v G) rfl trivial ?_
          refine lm_G_ca (j := 178) (as := [.ref 64, .ref 90, .int 0]) (rest := []) rfl (Or.inl rfl) (Nat.le_of_ble_eq_true rfl) (Nat.le_of_ble_eq_true rfl) (Nat.le_of_ble_eq_true rfl) (Nat.le_of_ble_eq_true rfl) rfl ?_
          refine m_unpack90 (s := s) (a := 0) hF t8.1.1 (by rw [show sBr s = sBr (brS (hrsS F nl (brS s (pjS x) (nI (vjS x))) 5) (pjS x) (sBr s (pjS x))) from by show sBr s = upd (sBr (hrsS F nl (brS s (pjS x) (nI (vjS x))) 5)) (pjS x) (sBr s (pjS x)); rw [br_hrs]; exact upd_back.symm]; exact t8.1.br) t8.2.2.1 (by omega) (fun M9 h9 k9 => ?_)
          show lm_G X (d + 7) 233 106 0 0 161 [some (.ref 64), some (.int w), some (.int (nI j)), some (.int (nI (pjS x))), some (.int (sBr s (pjS x))), some (.int (nI (fN F)))] [] (lm_T M9 v G) Q
          refine lm_G_sg 1 (pc' := 164) (L' := [some (.ref 64), some (.int w), some (.int ((nI j) + 1)), some (.int (nI (pjS x))), some (.int (sBr s (pjS x))), some (.int (nI (fN F)))]) (S' := []) (σ' := lm_T M9 v G) rfl trivial ?_
          rw [nI_1]
          refine lm_G_sg 1 (pc' := 57) (L' := [some (.ref 64), some (.int w), some (.int (nI (j + 1))), some (.int (nI (pjS x))), some (.int (sBr s (pjS x))), some (.int (nI (fN F)))]) (S' := []) (σ' := lm_T M9 v G) rfl trivial ?_
          refine lm_G_jk (L := [some (.ref 64), some (.int w), some (.int (nI (j + 1))), none, none, none]) ⟨rfl, rfl, rfl, trivial⟩ ?_
          exact ih2 _ (⟨TM_U t8 k9 h9, ⟨(k9.2 51 (by decide)).trans q8.1, fun k hk => by rw [k9.1 96 rfl]; exact q8.2 k hk⟩, fun q hq => by rw [k9.1 97 rfl, z8, z7 q hq, if_pos hq, z4 q hq, take_s hj2, unL_s, ← ex]⟩)
        ·
          try dsimp only
          exact ⟨t6, q6, fun q hq => by rw [if_neg (Nat.not_lt_zero _), z6]⟩
      ·
        revert hI2
        revert zz
        intro M4 hI2
        replace hI2 : TM M F s M4 s ∧ ftI F B s M4 (20 * fN F) ∧ (∀ q, q < fN F → M4 97 q = unL F s q ((glS F B s (20 * fN F)).take ((glS F B s (20 * fN F)).length))) := hI2
        show lm_G X (d + 7) 233 106 0 0 57 [some (.ref 64), some (.int w), some (.int (nI ((glS F B s (20 * fN F)).length))), none, none, none] [] (lm_T M4 v G) Q
        obtain ⟨t4, q4, z4⟩ := hI2
        refine lm_G_sg 3 (pc' := 62) (L' := [some (.ref 64), some (.int w), some (.int (nI ((glS F B s (20 * fN F)).length))), none, none, none]) (S' := [.int (M4 64 51), .int (nI ((glS F B s (20 * fN F)).length))]) (σ' := lm_T M4 v G) rfl trivial ?_
        rw [show M4 64 51 = nI ((glS F B s (20 * fN F)).length) from q4.1]
        refine lm_G_br (b := (nI ((glS F B s (20 * fN F)).length)) ≤ (nI ((glS F B s (20 * fN F)).length))) (t := 167) (S' := []) rfl (fun hc => ?_) (fun hc => absurd (nI_le (Nat.le_refl _) (by omega)) hc)
        rw [List.take_length] at z4
        refine lm_G_sg 6 (pc' := 174) (L' := [some (.ref 64), some (.int w), some (.int (-1)), some (.int 0), some (.int 0), none]) (S' := []) (σ' := lm_T M4 v G) rfl trivial ?_
        refine lm_ind (α := Unit) (St := fun (j : Nat) zz => lm_G X (d + 7) 233 106 0 0 174 [some (.ref 64), some (.int w), some (.int ((mxS al (fLok F B s) nI 0 j).1)), some (.int ((mxS al (fLok F B s) nI 0 j).2)), some (.int (nI j)), none] [] (lm_T M4 v G) Q) (Inv := fun (j : Nat) zz => True) (fN F) (fun j zz hj4 hI4 ih4 => ?_) (fun zz hI4 => ?_) (0) () (by omega) ?_
        ·
          replace hI4 : True := hI4
          replace ih4 : ∀ (_ : True), lm_G X (d + 7) 233 106 0 0 174 [some (.ref 64), some (.int w), some (.int ((mxS al (fLok F B s) nI 0 (j + 1)).1)), some (.int ((mxS al (fLok F B s) nI 0 (j + 1)).2)), some (.int (nI (j + 1))), none] [] (lm_T M4 v G) Q := fun q => ih4 () q
          show lm_G X (d + 7) 233 106 0 0 174 [some (.ref 64), some (.int w), some (.int ((mxS al (fLok F B s) nI 0 j).1)), some (.int ((mxS al (fLok F B s) nI 0 j).2)), some (.int (nI j)), none] [] (lm_T M4 v G) Q
          refine lm_G_sg 5 (pc' := 182) (L' := [some (.ref 64), some (.int w), some (.int ((mxS al (fLok F B s) nI 0 j).1)), some (.int ((mxS al (fLok F B s) nI 0 j).2)), some (.int (nI j)), none]) (S' := [.int (M4 68 0), .int (nI j)]) (σ' := lm_T M4 v G) rfl ⟨(lm_inb_ok rfl), trivial, trivial⟩ ?_
          rw [show M4 68 0 = nI (fN F) from t4.1.n]
          refine lm_G_br (b := (nI (fN F)) ≤ (nI j)) (t := 222) (S' := []) rfl (fun hc => absurd hc (nI_ge hj4 (by omega))) (fun hc => ?_)
          refine lm_G_sg 4 (pc' := 192) (L' := [some (.ref 64), some (.int w), some (.int ((mxS al (fLok F B s) nI 0 j).1)), some (.int ((mxS al (fLok F B s) nI 0 j).2)), some (.int (nI j)), none]) (S' := [.int (M4 97 (nI j).toNatClampNeg)]) (σ' := lm_T M4 v G) rfl ⟨(vp_in_nI (by omega) (by omega)), trivial, trivial⟩ ?_
          rw [show (nI j).toNatClampNeg = j from nI_clamp (by omega)]
          rw [show M4 97 j = unS F B s j (20 * fN F) from (z4 j (by omega)).trans (unL_gl _)]
          refine lm_G_ca (j := 144) (as := [.int (unS F B s j (20 * fN F))]) (rest := []) rfl (Or.inl rfl) (Nat.le_of_ble_eq_true rfl) (Nat.le_of_ble_eq_true rfl) (Nat.le_of_ble_eq_true rfl) (Nat.le_of_ble_eq_true rfl) rfl ?_
          refine m_bits (un_lt hF hs hj4 _) ?_
          show lm_G X (d + 7) 233 106 0 0 195 [some (.ref 64), some (.int w), some (.int ((mxS al (fLok F B s) nI 0 j).1)), some (.int ((mxS al (fLok F B s) nI 0 j).2)), some (.int (nI j)), none] [.int (fLok F B s j)] (lm_T M4 v G) Q
          refine lm_G_sg 1 (pc' := 196) (L' := [some (.ref 64), some (.int w), some (.int ((mxS al (fLok F B s) nI 0 j).1)), some (.int ((mxS al (fLok F B s) nI 0 j).2)), some (.int (nI j)), none]) (S' := [.int ((mxS al (fLok F B s) nI 0 j).2), .int (fLok F B s j)]) (σ' := lm_T M4 v G) rfl trivial ?_
          refine lm_G_br (b := ((mxS al (fLok F B s) nI 0 j).2) < (fLok F B s j)) (t := 202) (S' := []) rfl (fun h5 => ?_) (fun h5 => ?_)
          ·
            refine lm_G_sg 6 (pc' := 212) (L' := [some (.ref 64), some (.int w), some (.int (nI j)), some (.int ((mxS al (fLok F B s) nI 0 j).2)), some (.int (nI j)), none]) (S' := [.int (M4 97 (nI j).toNatClampNeg)]) (σ' := lm_T M4 v G) rfl ⟨(vp_in_nI (by omega) (by omega)), trivial, trivial⟩ ?_
            rw [show (nI j).toNatClampNeg = j from nI_clamp (by omega)]
            rw [show M4 97 j = unS F B s j (20 * fN F) from (z4 j (by omega)).trans (unL_gl _)]
            refine lm_G_ca (j := 144) (as := [.int (unS F B s j (20 * fN F))]) (rest := []) rfl (Or.inl rfl) (Nat.le_of_ble_eq_true rfl) (Nat.le_of_ble_eq_true rfl) (Nat.le_of_ble_eq_true rfl) (Nat.le_of_ble_eq_true rfl) rfl ?_
            refine m_bits (un_lt hF hs hj4 _) ?_
            show lm_G X (d + 7) 233 106 0 0 215 [some (.ref 64), some (.int w), some (.int (nI j)), some (.int ((mxS al (fLok F B s) nI 0 j).2)), some (.int (nI j)), none] [.int (fLok F B s j)] (lm_T M4 v G) Q
            refine lm_G_sg 2 (pc' := 219) (L' := [some (.ref 64), some (.int w), some (.int (nI j)), some (.int (fLok F B s j)), some (.int ((nI j) + 1)), none]) (S' := []) (σ' := lm_T M4 v G) rfl trivial ?_
            rw [nI_1]
            refine lm_G_sg 1 (pc' := 174) (L' := [some (.ref 64), some (.int w), some (.int (nI j)), some (.int (fLok F B s j)), some (.int (nI (j + 1))), none]) (S' := []) (σ' := lm_T M4 v G) rfl trivial ?_
            rw [mx_y (g := al) (f := fLok F B s) rfl h5] at ih4
            exact ih4  trivial
          ·
            refine lm_G_sg 2 (pc' := 219) (L' := [some (.ref 64), some (.int w), some (.int ((mxS al (fLok F B s) nI 0 j).1)), some (.int ((mxS al (fLok F B s) nI 0 j).2)), some (.int ((nI j) + 1)), none]) (S' := []) (σ' := lm_T M4 v G) rfl trivial ?_
            rw [nI_1]
            refine lm_G_sg 1 (pc' := 174) (L' := [some (.ref 64), some (.int w), some (.int ((mxS al (fLok F B s) nI 0 j).1)), some (.int ((mxS al (fLok F B s) nI 0 j).2)), some (.int (nI (j + 1))), none]) (S' := []) (σ' := lm_T M4 v G) rfl trivial ?_
            rw [mx_n (f := fLok F B s) h5] at ih4
            exact ih4  trivial
        ·
          replace hI4 : True := hI4
          show lm_G X (d + 7) 233 106 0 0 174 [some (.ref 64), some (.int w), some (.int ((mxS al (fLok F B s) nI 0 (fN F)).1)), some (.int ((mxS al (fLok F B s) nI 0 (fN F)).2)), some (.int (nI (fN F))), none] [] (lm_T M4 v G) Q
          refine lm_G_sg 5 (pc' := 182) (L' := [some (.ref 64), some (.int w), some (.int ((mxS al (fLok F B s) nI 0 (fN F)).1)), some (.int ((mxS al (fLok F B s) nI 0 (fN F)).2)), some (.int (nI (fN F))), none]) (S' := [.int (M4 68 0), .int (nI (fN F))]) (σ' := lm_T M4 v G) rfl ⟨(lm_inb_ok rfl), trivial, trivial⟩ ?_
          rw [show M4 68 0 = nI (fN F) from t4.1.n]
          refine lm_G_br (b := (nI (fN F)) ≤ (nI (fN F))) (t := 222) (S' := []) rfl (fun hc => ?_) (fun hc => absurd (nI_le (Nat.le_refl _) (by omega)) hc)
          refine lm_G_sg 1 (pc' := 223) (L' := [some (.ref 64), some (.int w), some (.int ((mxS al (fLok F B s) nI 0 (fN F)).1)), some (.int ((mxS al (fLok F B s) nI 0 (fN F)).2)), some (.int (nI (fN F))), none]) (S' := [.int w]) (σ' := lm_T M4 v G) rfl trivial ?_
          rcases isP_2 hw with rfl | rfl
          ·
            refine lm_G_br (b := ¬ 0 = 0) (t := 230) (S' := []) rfl (fun hc => absurd rfl hc) (fun hc => ?_)
            refine lm_G_sg 2 (pc' := 231) (L' := [some (.ref 64), some (.int 0), some (.int ((mxS al (fLok F B s) nI 0 (fN F)).1)), some (.int ((mxS al (fLok F B s) nI 0 (fN F)).2)), some (.int (nI (fN F))), none]) (S' := [.int ((mxS al (fLok F B s) nI 0 (fN F)).1)]) (σ' := lm_T M4 v G) rfl trivial ?_
            rw [show aLook F B s 0 = .inl (mxS al (fLok F B s) nI 0 (fN F)).1 from by simp +decide only [aLook, hw, if_true, if_false, Bool.and_true, Bool.true_and, Bool.and_self, Bool.false_and, Bool.and_false, Bool.false_eq_true]] at hQ
            exact lm_G_re rfl trivial (Nat.zero_le _) (Nat.zero_le _) (hQ _ t4.1 t4.2.1 t4.2.2.2.1)
          ·
            refine lm_G_br (b := ¬ 1 = 0) (t := 230) (S' := []) rfl (fun hc => ?_) (fun hc => absurd (by decide) hc)
            refine lm_G_sg 1 (pc' := 231) (L' := [some (.ref 64), some (.int 1), some (.int ((mxS al (fLok F B s) nI 0 (fN F)).1)), some (.int ((mxS al (fLok F B s) nI 0 (fN F)).2)), some (.int (nI (fN F))), none]) (S' := [.int ((mxS al (fLok F B s) nI 0 (fN F)).2)]) (σ' := lm_T M4 v G) rfl trivial ?_
            rw [show aLook F B s 1 = .inl (mxS al (fLok F B s) nI 0 (fN F)).2 from by simp +decide only [aLook, hw, if_true, if_false, Bool.and_true, Bool.true_and, Bool.and_self, Bool.false_and, Bool.and_false, Bool.false_eq_true]] at hQ
            exact lm_G_re rfl trivial (Nat.zero_le _) (Nat.zero_le _) (hQ _ t4.1 t4.2.1 t4.2.2.2.1)
        ·
          trivial
      ·
        try dsimp only
        exact ⟨t3, q3, fun q hq => z3 q (by omega)⟩
    ·
      try dsimp only
      exact ⟨t2, q2, fun q hq => by omega⟩
