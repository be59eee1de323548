theorem RC_R28 {M M1 : Nat → Fn} {F : Fa} {s : Sc} (h : RC 28 M F s) (f : Fr frR M M1) : RC 28 M1 F s := by
  have hk : KC M1 F := KC_of h.1 (f 14 rfl) (f 16 rfl) (f 19 rfl) (f 20 rfl) (f 22 rfl) (f 23 rfl) (f 24 rfl)
  refine ⟨hk, ?_⟩
  rw [f 28 rfl, f (28 + 1) rfl, f (28 + 2) rfl, f (28 + 3) rfl, f (28 + 4) rfl, f (28 + 5) rfl, f (28 + 6) rfl, f (28 + 7) rfl, f (28 + 8) rfl, f (28 + 9) rfl]
  exact h.2
/-- one stops -/
theorem RC_sil28 {M : Nat → Fn} {F : Fa} {s : Sc} (hF : okF F) (h : RC 28 M F s) {p t : Nat} (hp : p < fN F) (ht : t < fM F) (e : sHu s p = nI t) : RC 28 (lm_wr (lm_wr (lm_wr (lm_wr M 36 t (humS F (sHu s) (nI t) &&& (bit1 (nI p) ^^^ (-1)))) 32 p (-1)) 33 p 0) 34 p 0) F (silS s p) := by
  have hn := hF.n
  have hm := hF.m
  refine ⟨KC_of h.1 rfl rfl rfl rfl rfl rfl rfl, h.hr, h.br, h.pl, h.co, Ag_upd h.hu p _, Ag_upd h.hd p _, Ag_upd h.id p _, h.ow, ?_, h.he⟩
  refine Ag_hs hF h.hs (hum_out hF hp (by omega)) (fun u hu hne => hum_upd hF ?_ (fun w => nI_m1 (by omega) w.symm))
  rw [e]
  exact nI_ne (by omega) (by omega) (fun w => hne w.symm)
/-- one begins to hum -/
theorem RC_hums28 {M : Nat → Fn} {F : Fa} {s : Sc} (hF : okF F) (h : RC 28 M F s) {p t : Nat} (hp : p < fN F) (ht : t < fM F) (e : sHu s p = -1) : RC 28 (lm_wr (lm_wr M 32 p (nI t)) 36 t (humS F (sHu s) (nI t) ||| bit1 (nI p))) F (hums s p (nI t)) := by
  have hn := hF.n
  have hm := hF.m
  refine ⟨KC_of h.1 rfl rfl rfl rfl rfl rfl rfl, h.hr, h.br, h.pl, h.co, Ag_upd h.hu p _, h.hd, h.id, h.ow, ?_, h.he⟩
  refine Ag_hs hF h.hs (hum_in hF hp) (fun u hu hne => hum_upd hF ?_ (nI_ne (by omega) (by omega) (fun w => hne w.symm)))
  rw [e]
  exact fun w => nI_m1 (by omega) w.symm
theorem RC_own28 {M : Nat → Fn} {F : Fa} {s : Sc} (h : RC 28 M F s) (t : Nat) (x y : Int32) : RC 28 (lm_wr (lm_wr M 35 t x) 28 13 y) F (ownT s t x) :=
  ⟨KC_of h.1 rfl rfl rfl rfl rfl rfl rfl, h.hr, h.br, h.pl, h.co, h.hu, h.hd, h.id, Ag_upd h.ow t x, h.hs, h.he⟩
theorem RC_own028 {M : Nat → Fn} {F : Fa} {s : Sc} (h : RC 28 M F s) {t : Nat} {x : Int32} (e : sOw s t = x) : RC 28 M F (ownT s t x) := by
  refine ⟨h.1, h.hr, h.br, h.pl, h.co, h.hu, h.hd, h.id, ?_, h.hs, h.he⟩
  intro u hu
  rw [h.ow u hu]
  show _ = upd (sOw s) t x u
  by_cases w : u = t
  · subst w; rw [pk_us, e]
  · rw [pk_un w]
theorem RC_tick128 {M : Nat → Fn} {F : Fa} {s : Sc} (h : RC 28 M F s) {p : Nat} (hp : ¬ sHu s p = -1) : RC 28 (lm_wr M 33 p (sHd s p + 1)) F (tickP s p) := by
  unfold tickP
  rw [if_pos (decide_eq_true hp)]
  exact ⟨KC_of h.1 rfl rfl rfl rfl rfl rfl rfl, h.hr, h.br, h.pl, h.co, h.hu, Ag_upd h.hd p _, h.id, h.ow, h.hs, h.he⟩
theorem RC_tick228 {M : Nat → Fn} {F : Fa} {s : Sc} (h : RC 28 M F s) {p : Nat} (hp : sHu s p = -1) : RC 28 (lm_wr M 34 p (if 99 < sId s p + 1 then 99 else sId s p + 1)) F (tickP s p) := by
  unfold tickP
  have hp2 : ¬ decide (sHu s p ≠ -1) = true := by simp [hp]
  rw [if_neg hp2]
  exact ⟨KC_of h.1 rfl rfl rfl rfl rfl rfl rfl, h.hr, h.br, h.pl, h.co, h.hu, h.hd, Ag_upd h.id p _, h.ow, h.hs, h.he⟩
theorem RC_hour28 {M : Nat → Fn} {F : Fa} {s : Sc} (h : RC 28 M F s) : RC 28 (lm_wr M 28 2 (sHr s + 1)) F (nxtH s) :=
  ⟨KC_of h.1 rfl rfl rfl rfl rfl rfl rfl, rfl, h.br, h.pl, h.co, h.hu, h.hd, h.id, h.ow, h.hs, h.he⟩
theorem RC_R38 {M M1 : Nat → Fn} {F : Fa} {s : Sc} (h : RC 38 M F s) (f : Fr frR M M1) : RC 38 M1 F s := by
  have hk : KC M1 F := KC_of h.1 (f 14 rfl) (f 16 rfl) (f 19 rfl) (f 20 rfl) (f 22 rfl) (f 23 rfl) (f 24 rfl)
  refine ⟨hk, ?_⟩
  rw [f 38 rfl, f (38 + 1) rfl, f (38 + 2) rfl, f (38 + 3) rfl, f (38 + 4) rfl, f (38 + 5) rfl, f (38 + 6) rfl, f (38 + 7) rfl, f (38 + 8) rfl, f (38 + 9) rfl]
  exact h.2
/-- one stops -/
theorem RC_sil38 {M : Nat → Fn} {F : Fa} {s : Sc} (hF : okF F) (h : RC 38 M F s) {p t : Nat} (hp : p < fN F) (ht : t < fM F) (e : sHu s p = nI t) : RC 38 (lm_wr (lm_wr (lm_wr (lm_wr M 46 t (humS F (sHu s) (nI t) &&& (bit1 (nI p) ^^^ (-1)))) 42 p (-1)) 43 p 0) 44 p 0) F (silS s p) := by
  have hn := hF.n
  have hm := hF.m
  refine ⟨KC_of h.1 rfl rfl rfl rfl rfl rfl rfl, h.hr, h.br, h.pl, h.co, Ag_upd h.hu p _, Ag_upd h.hd p _, Ag_upd h.id p _, h.ow, ?_, h.he⟩
  refine Ag_hs hF h.hs (hum_out hF hp (by omega)) (fun u hu hne => hum_upd hF ?_ (fun w => nI_m1 (by omega) w.symm))
  rw [e]
  exact nI_ne (by omega) (by omega) (fun w => hne w.symm)
/-- one begins to hum -/
theorem RC_hums38 {M : Nat → Fn} {F : Fa} {s : Sc} (hF : okF F) (h : RC 38 M F s) {p t : Nat} (hp : p < fN F) (ht : t < fM F) (e : sHu s p = -1) : RC 38 (lm_wr (lm_wr M 42 p (nI t)) 46 t (humS F (sHu s) (nI t) ||| bit1 (nI p))) F (hums s p (nI t)) := by
  have hn := hF.n
  have hm := hF.m
  refine ⟨KC_of h.1 rfl rfl rfl rfl rfl rfl rfl, h.hr, h.br, h.pl, h.co, Ag_upd h.hu p _, h.hd, h.id, h.ow, ?_, h.he⟩
  refine Ag_hs hF h.hs (hum_in hF hp) (fun u hu hne => hum_upd hF ?_ (nI_ne (by omega) (by omega) (fun w => hne w.symm)))
  rw [e]
  exact fun w => nI_m1 (by omega) w.symm
theorem RC_own38 {M : Nat → Fn} {F : Fa} {s : Sc} (h : RC 38 M F s) (t : Nat) (x y : Int32) : RC 38 (lm_wr (lm_wr M 45 t x) 38 13 y) F (ownT s t x) :=
  ⟨KC_of h.1 rfl rfl rfl rfl rfl rfl rfl, h.hr, h.br, h.pl, h.co, h.hu, h.hd, h.id, Ag_upd h.ow t x, h.hs, h.he⟩
theorem RC_own038 {M : Nat → Fn} {F : Fa} {s : Sc} (h : RC 38 M F s) {t : Nat} {x : Int32} (e : sOw s t = x) : RC 38 M F (ownT s t x) := by
  refine ⟨h.1, h.hr, h.br, h.pl, h.co, h.hu, h.hd, h.id, ?_, h.hs, h.he⟩
  intro u hu
  rw [h.ow u hu]
  show _ = upd (sOw s) t x u
  by_cases w : u = t
  · subst w; rw [pk_us, e]
  · rw [pk_un w]
theorem RC_tick138 {M : Nat → Fn} {F : Fa} {s : Sc} (h : RC 38 M F s) {p : Nat} (hp : ¬ sHu s p = -1) : RC 38 (lm_wr M 43 p (sHd s p + 1)) F (tickP s p) := by
  unfold tickP
  rw [if_pos (decide_eq_true hp)]
  exact ⟨KC_of h.1 rfl rfl rfl rfl rfl rfl rfl, h.hr, h.br, h.pl, h.co, h.hu, Ag_upd h.hd p _, h.id, h.ow, h.hs, h.he⟩
theorem RC_tick238 {M : Nat → Fn} {F : Fa} {s : Sc} (h : RC 38 M F s) {p : Nat} (hp : sHu s p = -1) : RC 38 (lm_wr M 44 p (if 99 < sId s p + 1 then 99 else sId s p + 1)) F (tickP s p) := by
  unfold tickP
  have hp2 : ¬ decide (sHu s p ≠ -1) = true := by simp [hp]
  rw [if_neg hp2]
  exact ⟨KC_of h.1 rfl rfl rfl rfl rfl rfl rfl, h.hr, h.br, h.pl, h.co, h.hu, h.hd, Ag_upd h.id p _, h.ow, h.hs, h.he⟩
theorem RC_hour38 {M : Nat → Fn} {F : Fa} {s : Sc} (h : RC 38 M F s) : RC 38 (lm_wr M 38 2 (sHr s + 1)) F (nxtH s) :=
  ⟨KC_of h.1 rfl rfl rfl rfl rfl rfl rfl, rfl, h.br, h.pl, h.co, h.hu, h.hd, h.id, h.ow, h.hs, h.he⟩
/-! ===== contracts: the class's rules ===== -/
theorem bc_ok : ∀ k, k < 256 → ((((((((nI k) - ((((nI k).toUInt32 >>> ((1 : Int32).toUInt32 &&& Int32.toUInt32 31)).toInt32) &&& 1431655765)) &&& 858993459) + (((((nI k) - ((((nI k).toUInt32 >>> ((1 : Int32).toUInt32 &&& Int32.toUInt32 31)).toInt32) &&& 1431655765)).toUInt32 >>> ((2 : Int32).toUInt32 &&& Int32.toUInt32 31)).toInt32) &&& 858993459)) + ((((((nI k) - ((((nI k).toUInt32 >>> ((1 : Int32).toUInt32 &&& Int32.toUInt32 31)).toInt32) &&& 1431655765)) &&& 858993459) + (((((nI k) - ((((nI k).toUInt32 >>> ((1 : Int32).toUInt32 &&& Int32.toUInt32 31)).toInt32) &&& 1431655765)).toUInt32 >>> ((2 : Int32).toUInt32 &&& Int32.toUInt32 31)).toInt32) &&& 858993459)).toUInt32 >>> ((4 : Int32).toUInt32 &&& Int32.toUInt32 31)).toInt32)) &&& 252645135) + ((((((((nI k) - ((((nI k).toUInt32 >>> ((1 : Int32).toUInt32 &&& Int32.toUInt32 31)).toInt32) &&& 1431655765)) &&& 858993459) + (((((nI k) - ((((nI k).toUInt32 >>> ((1 : Int32).toUInt32 &&& Int32.toUInt32 31)).toInt32) &&& 1431655765)).toUInt32 >>> ((2 : Int32).toUInt32 &&& Int32.toUInt32 31)).toInt32) &&& 858993459)) + ((((((nI k) - ((((nI k).toUInt32 >>> ((1 : Int32).toUInt32 &&& Int32.toUInt32 31)).toInt32) &&& 1431655765)) &&& 858993459) + (((((nI k) - ((((nI k).toUInt32 >>> ((1 : Int32).toUInt32 &&& Int32.toUInt32 31)).toInt32) &&& 1431655765)).toUInt32 >>> ((2 : Int32).toUInt32 &&& Int32.toUInt32 31)).toInt32) &&& 858993459)).toUInt32 >>> ((4 : Int32).toUInt32 &&& Int32.toUInt32 31)).toInt32)) &&& 252645135).toUInt32 >>> ((8 : Int32).toUInt32 &&& Int32.toUInt32 31)).toInt32)) + (((((((((nI k) - ((((nI k).toUInt32 >>> ((1 : Int32).toUInt32 &&& Int32.toUInt32 31)).toInt32) &&& 1431655765)) &&& 858993459) + (((((nI k) - ((((nI k).toUInt32 >>> ((1 : Int32).toUInt32 &&& Int32.toUInt32 31)).toInt32) &&& 1431655765)).toUInt32 >>> ((2 : Int32).toUInt32 &&& Int32.toUInt32 31)).toInt32) &&& 858993459)) + ((((((nI k) - ((((nI k).toUInt32 >>> ((1 : Int32).toUInt32 &&& Int32.toUInt32 31)).toInt32) &&& 1431655765)) &&& 858993459) + (((((nI k) - ((((nI k).toUInt32 >>> ((1 : Int32).toUInt32 &&& Int32.toUInt32 31)).toInt32) &&& 1431655765)).toUInt32 >>> ((2 : Int32).toUInt32 &&& Int32.toUInt32 31)).toInt32) &&& 858993459)).toUInt32 >>> ((4 : Int32).toUInt32 &&& Int32.toUInt32 31)).toInt32)) &&& 252645135) + ((((((((nI k) - ((((nI k).toUInt32 >>> ((1 : Int32).toUInt32 &&& Int32.toUInt32 31)).toInt32) &&& 1431655765)) &&& 858993459) + (((((nI k) - ((((nI k).toUInt32 >>> ((1 : Int32).toUInt32 &&& Int32.toUInt32 31)).toInt32) &&& 1431655765)).toUInt32 >>> ((2 : Int32).toUInt32 &&& Int32.toUInt32 31)).toInt32) &&& 858993459)) + ((((((nI k) - ((((nI k).toUInt32 >>> ((1 : Int32).toUInt32 &&& Int32.toUInt32 31)).toInt32) &&& 1431655765)) &&& 858993459) + (((((nI k) - ((((nI k).toUInt32 >>> ((1 : Int32).toUInt32 &&& Int32.toUInt32 31)).toInt32) &&& 1431655765)).toUInt32 >>> ((2 : Int32).toUInt32 &&& Int32.toUInt32 31)).toInt32) &&& 858993459)).toUInt32 >>> ((4 : Int32).toUInt32 &&& Int32.toUInt32 31)).toInt32)) &&& 252645135).toUInt32 >>> ((8 : Int32).toUInt32 &&& Int32.toUInt32 31)).toInt32)).toUInt32 >>> ((16 : Int32).toUInt32 &&& Int32.toUInt32 31)).toInt32)) &&& 63 = nI (pcN k) := by decide +kernel
set_option maxRecDepth 10000 in
theorem c_bitC {X : lm_X} {d v : Nat} {M : Nat → Nat → Int32} {G : Nat → Nat → Int64} {Q : lm_O → lm_S → Prop} {k : Nat} (hk : k < 256) (hQ : Q (.inl (some (.int (cnt (nI k))))) (lm_T M v G)) : lm_Q X d 244 [.int (nI k)] (lm_T M v G) Q := by
  show lm_G X d 244 106 0 0 0 [some (.int (nI k))] [] (lm_T M v G) Q
  refine lm_G_sg 41 (pc' := 52) (L' := [some (.int ((((((((nI k) - ((((nI k).toUInt32 >>> ((1 : Int32).toUInt32 &&& Int32.toUInt32 31)).toInt32) &&& 1431655765)) &&& 858993459) + (((((nI k) - ((((nI k).toUInt32 >>> ((1 : Int32).toUInt32 &&& Int32.toUInt32 31)).toInt32) &&& 1431655765)).toUInt32 >>> ((2 : Int32).toUInt32 &&& Int32.toUInt32 31)).toInt32) &&& 858993459)) + ((((((nI k) - ((((nI k).toUInt32 >>> ((1 : Int32).toUInt32 &&& Int32.toUInt32 31)).toInt32) &&& 1431655765)) &&& 858993459) + (((((nI k) - ((((nI k).toUInt32 >>> ((1 : Int32).toUInt32 &&& Int32.toUInt32 31)).toInt32) &&& 1431655765)).toUInt32 >>> ((2 : Int32).toUInt32 &&& Int32.toUInt32 31)).toInt32) &&& 858993459)).toUInt32 >>> ((4 : Int32).toUInt32 &&& Int32.toUInt32 31)).toInt32)) &&& 252645135) + ((((((((nI k) - ((((nI k).toUInt32 >>> ((1 : Int32).toUInt32 &&& Int32.toUInt32 31)).toInt32) &&& 1431655765)) &&& 858993459) + (((((nI k) - ((((nI k).toUInt32 >>> ((1 : Int32).toUInt32 &&& Int32.toUInt32 31)).toInt32) &&& 1431655765)).toUInt32 >>> ((2 : Int32).toUInt32 &&& Int32.toUInt32 31)).toInt32) &&& 858993459)) + ((((((nI k) - ((((nI k).toUInt32 >>> ((1 : Int32).toUInt32 &&& Int32.toUInt32 31)).toInt32) &&& 1431655765)) &&& 858993459) + (((((nI k) - ((((nI k).toUInt32 >>> ((1 : Int32).toUInt32 &&& Int32.toUInt32 31)).toInt32) &&& 1431655765)).toUInt32 >>> ((2 : Int32).toUInt32 &&& Int32.toUInt32 31)).toInt32) &&& 858993459)).toUInt32 >>> ((4 : Int32).toUInt32 &&& Int32.toUInt32 31)).toInt32)) &&& 252645135).toUInt32 >>> ((8 : Int32).toUInt32 &&& Int32.toUInt32 31)).toInt32)) + (((((((((nI k) - ((((nI k).toUInt32 >>> ((1 : Int32).toUInt32 &&& Int32.toUInt32 31)).toInt32) &&& 1431655765)) &&& 858993459) + (((((nI k) - ((((nI k).toUInt32 >>> ((1 : Int32).toUInt32 &&& Int32.toUInt32 31)).toInt32) &&& 1431655765)).toUInt32 >>> ((2 : Int32).toUInt32 &&& Int32.toUInt32 31)).toInt32) &&& 858993459)) + ((((((nI k) - ((((nI k).toUInt32 >>> ((1 : Int32).toUInt32 &&& Int32.toUInt32 31)).toInt32) &&& 1431655765)) &&& 858993459) + (((((nI k) - ((((nI k).toUInt32 >>> ((1 : Int32).toUInt32 &&& Int32.toUInt32 31)).toInt32) &&& 1431655765)).toUInt32 >>> ((2 : Int32).toUInt32 &&& Int32.toUInt32 31)).toInt32) &&& 858993459)).toUInt32 >>> ((4 : Int32).toUInt32 &&& Int32.toUInt32 31)).toInt32)) &&& 252645135) + ((((((((nI k) - ((((nI k).toUInt32 >>> ((1 : Int32).toUInt32 &&& Int32.toUInt32 31)).toInt32) &&& 1431655765)) &&& 858993459) + (((((nI k) - ((((nI k).toUInt32 >>> ((1 : Int32).toUInt32 &&& Int32.toUInt32 31)).toInt32) &&& 1431655765)).toUInt32 >>> ((2 : Int32).toUInt32 &&& Int32.toUInt32 31)).toInt32) &&& 858993459)) + ((((((nI k) - ((((nI k).toUInt32 >>> ((1 : Int32).toUInt32 &&& Int32.toUInt32 31)).toInt32) &&& 1431655765)) &&& 858993459) + (((((nI k) - ((((nI k).toUInt32 >>> ((1 : Int32).toUInt32 &&& Int32.toUInt32 31)).toInt32) &&& 1431655765)).toUInt32 >>> ((2 : Int32).toUInt32 &&& Int32.toUInt32 31)).toInt32) &&& 858993459)).toUInt32 >>> ((4 : Int32).toUInt32 &&& Int32.toUInt32 31)).toInt32)) &&& 252645135).toUInt32 >>> ((8 : Int32).toUInt32 &&& Int32.toUInt32 31)).toInt32)).toUInt32 >>> ((16 : Int32).toUInt32 &&& Int32.toUInt32 31)).toInt32)))]) (S' := [.int (((((((((nI k) - ((((nI k).toUInt32 >>> ((1 : Int32).toUInt32 &&& Int32.toUInt32 31)).toInt32) &&& 1431655765)) &&& 858993459) + (((((nI k) - ((((nI k).toUInt32 >>> ((1 : Int32).toUInt32 &&& Int32.toUInt32 31)).toInt32) &&& 1431655765)).toUInt32 >>> ((2 : Int32).toUInt32 &&& Int32.toUInt32 31)).toInt32) &&& 858993459)) + ((((((nI k) - ((((nI k).toUInt32 >>> ((1 : Int32).toUInt32 &&& Int32.toUInt32 31)).toInt32) &&& 1431655765)) &&& 858993459) + (((((nI k) - ((((nI k).toUInt32 >>> ((1 : Int32).toUInt32 &&& Int32.toUInt32 31)).toInt32) &&& 1431655765)).toUInt32 >>> ((2 : Int32).toUInt32 &&& Int32.toUInt32 31)).toInt32) &&& 858993459)).toUInt32 >>> ((4 : Int32).toUInt32 &&& Int32.toUInt32 31)).toInt32)) &&& 252645135) + ((((((((nI k) - ((((nI k).toUInt32 >>> ((1 : Int32).toUInt32 &&& Int32.toUInt32 31)).toInt32) &&& 1431655765)) &&& 858993459) + (((((nI k) - ((((nI k).toUInt32 >>> ((1 : Int32).toUInt32 &&& Int32.toUInt32 31)).toInt32) &&& 1431655765)).toUInt32 >>> ((2 : Int32).toUInt32 &&& Int32.toUInt32 31)).toInt32) &&& 858993459)) + ((((((nI k) - ((((nI k).toUInt32 >>> ((1 : Int32).toUInt32 &&& Int32.toUInt32 31)).toInt32) &&& 1431655765)) &&& 858993459) + (((((nI k) - ((((nI k).toUInt32 >>> ((1 : Int32).toUInt32 &&& Int32.toUInt32 31)).toInt32) &&& 1431655765)).toUInt32 >>> ((2 : Int32).toUInt32 &&& Int32.toUInt32 31)).toInt32) &&& 858993459)).toUInt32 >>> ((4 : Int32).toUInt32 &&& Int32.toUInt32 31)).toInt32)) &&& 252645135).toUInt32 >>> ((8 : Int32).toUInt32 &&& Int32.toUInt32 31)).toInt32)) + (((((((((nI k) - ((((nI k).toUInt32 >>> ((1 : Int32).toUInt32 &&& Int32.toUInt32 31)).toInt32) &&& 1431655765)) &&& 858993459) + (((((nI k) - ((((nI k).toUInt32 >>> ((1 : Int32).toUInt32 &&& Int32.toUInt32 31)).toInt32) &&& 1431655765)).toUInt32 >>> ((2 : Int32).toUInt32 &&& Int32.toUInt32 31)).toInt32) &&& 858993459)) + ((((((nI k) - ((((nI k).toUInt32 >>> ((1 : Int32).toUInt32 &&& Int32.toUInt32 31)).toInt32) &&& 1431655765)) &&& 858993459) + (((((nI k) - ((((nI k).toUInt32 >>> ((1 : Int32).toUInt32 &&& Int32.toUInt32 31)).toInt32) &&& 1431655765)).toUInt32 >>> ((2 : Int32).toUInt32 &&& Int32.toUInt32 31)).toInt32) &&& 858993459)).toUInt32 >>> ((4 : Int32).toUInt32 &&& Int32.toUInt32 31)).toInt32)) &&& 252645135) + ((((((((nI k) - ((((nI k).toUInt32 >>> ((1 : Int32).toUInt32 &&& Int32.toUInt32 31)).toInt32) &&& 1431655765)) &&& 858993459) + (((((nI k) - ((((nI k).toUInt32 >>> ((1 : Int32).toUInt32 &&& Int32.toUInt32 31)).toInt32) &&& 1431655765)).toUInt32 >>> ((2 : Int32).toUInt32 &&& Int32.toUInt32 31)).toInt32) &&& 858993459)) + ((((((nI k) - ((((nI k).toUInt32 >>> ((1 : Int32).toUInt32 &&& Int32.toUInt32 31)).toInt32) &&& 1431655765)) &&& 858993459) + (((((nI k) - ((((nI k).toUInt32 >>> ((1 : Int32).toUInt32 &&& Int32.toUInt32 31)).toInt32) &&& 1431655765)).toUInt32 >>> ((2 : Int32).toUInt32 &&& Int32.toUInt32 31)).toInt32) &&& 858993459)).toUInt32 >>> ((4 : Int32).toUInt32 &&& Int32.toUInt32 31)).toInt32)) &&& 252645135).toUInt32 >>> ((8 : Int32).toUInt32 &&& Int32.toUInt32 31)).toInt32)).toUInt32 >>> ((16 : Int32).toUInt32 &&& Int32.toUInt32 31)).toInt32)) &&& 63)]) (σ' := lm_T M v G) rfl trivial ?_
  rw [bc_ok k hk]
  rw [← cnt_nI hk]
  exact lm_G_re rfl trivial (Nat.zero_le _) (Nat.zero_le _) hQ
theorem c_bits {X : lm_X} {d v : Nat} {M : Nat → Nat → Int32} {G : Nat → Nat → Int64} {Q : lm_O → lm_S → Prop} {x : Int32} (hx : ∃ k, k < 256 ∧ x = nI k) (hQ : Q (.inl (some (.int (cnt x)))) (lm_T M v G)) : lm_Q X d 244 [.int x] (lm_T M v G) Q := by
  obtain ⟨k, hk, e⟩ := hx
  subst e
  exact c_bitC hk hQ
set_option maxRecDepth 10000 in
theorem c_valueAt {X : lm_X} {d v : Nat} {M : Nat → Nat → Int32} {G : Nat → Nat → Int64} {Q : lm_O → lm_S → Prop} {i : Nat} {vs : Fn} (hi : i < 6) (ha : Ag 6 (M 27) vs) (hQ : Q (.inl (some (.int (vs i)))) (lm_T M v G)) : lm_Q X d 49 [.ref 25, .int (nI i)] (lm_T M v G) Q := by
  show lm_G X d 49 106 0 0 0 [some (.ref 25), some (.int (nI i))] [] (lm_T M v G) Q
  refine lm_G_sg 1 (pc' := 1) (L' := [some (.ref 25), some (.int (nI i))]) (S' := [.int (nI i)]) (σ' := lm_T M v G) rfl trivial ?_
  refine lm_G_br (b := (nI i) < 0) (t := 19) (S' := []) rfl (fun hc => absurd hc (nI_pos (by omega))) (fun hc => ?_)
  refine lm_G_sg 2 (pc' := 7) (L' := [some (.ref 25), some (.int (nI i))]) (S' := [.int 6, .int (nI i)]) (σ' := lm_T M v G) rfl trivial ?_
  refine lm_G_br (b := 6 ≤ (nI i)) (t := 19) (S' := []) rfl (fun hc => absurd hc (nI_ge (b := 6) hi (by omega))) (fun hc => ?_)
  refine lm_G_sg 4 (pc' := 16) (L' := [some (.ref 25), some (.int (nI i))]) (S' := [.int (M 27 (nI i).toNatClampNeg)]) (σ' := lm_T M v G) rfl ⟨(vp_in_nI (by omega) (by omega)), trivial, trivial⟩ ?_
  rw [show (nI i).toNatClampNeg = i from nI_clamp (by omega)]
  rw [show M 27 i = vs i from ha i hi]
  refine lm_G_sg 1 (pc' := 20) (L' := [some (.ref 25), some (.int (nI i))]) (S' := [.int (vs i)]) (σ' := lm_T M v G) rfl trivial ?_
  exact lm_G_re rfl trivial (Nat.zero_le _) (Nat.zero_le _) hQ
set_option maxRecDepth 10000 in
theorem c_doneWith0 {X : lm_X} {d v : Nat} {M : Nat → Nat → Int32} {G : Nat → Nat → Int64} {Q : lm_O → lm_S → Prop} {x y : Int32} (hQ : Q (.inl (some (.int (doS 0 x y)))) (lm_T M v G)) : lm_Q X d 50 [.int (-1), .int x, .int y] (lm_T M v G) Q := by
  show lm_G X d 50 106 0 0 0 [some (.int (-1)), some (.int x), some (.int y)] [] (lm_T M v G) Q
  refine lm_G_sg 5 (pc' := 51) (L' := [some (.int (-1)), some (.int x), some (.int y)]) (S' := [.int (x + y)]) (σ' := lm_T M v G) rfl trivial ?_
  exact lm_G_re rfl trivial (Nat.zero_le _) (Nat.zero_le _) hQ
set_option maxRecDepth 10000 in
theorem c_doneWith1 {X : lm_X} {d v : Nat} {M : Nat → Nat → Int32} {G : Nat → Nat → Int64} {Q : lm_O → lm_S → Prop} {x y : Int32} (hQ : Q (.inl (some (.int (doS 1 x y)))) (lm_T M v G)) : lm_Q X d 50 [.int (-2), .int x, .int y] (lm_T M v G) Q := by
  show lm_G X d 50 106 0 0 0 [some (.int (-2)), some (.int x), some (.int y)] [] (lm_T M v G) Q
  refine lm_G_sg 5 (pc' := 55) (L' := [some (.int (-2)), some (.int x), some (.int y)]) (S' := [.int (x - y)]) (σ' := lm_T M v G) rfl trivial ?_
  exact lm_G_re rfl trivial (Nat.zero_le _) (Nat.zero_le _) hQ
set_option maxRecDepth 10000 in
theorem c_doneWith2 {X : lm_X} {d v : Nat} {M : Nat → Nat → Int32} {G : Nat → Nat → Int64} {Q : lm_O → lm_S → Prop} {x y : Int32} (hQ : Q (.inl (some (.int (doS 2 x y)))) (lm_T M v G)) : lm_Q X d 50 [.int (-3), .int x, .int y] (lm_T M v G) Q := by
  show lm_G X d 50 106 0 0 0 [some (.int (-3)), some (.int x), some (.int y)] [] (lm_T M v G) Q
  refine lm_G_sg 5 (pc' := 59) (L' := [some (.int (-3)), some (.int x), some (.int y)]) (S' := [.int (x * y)]) (σ' := lm_T M v G) rfl trivial ?_
  exact lm_G_re rfl trivial (Nat.zero_le _) (Nat.zero_le _) hQ
set_option maxRecDepth 10000 in
theorem c_doneWith3 {X : lm_X} {d v : Nat} {M : Nat → Nat → Int32} {G : Nat → Nat → Int64} {Q : lm_O → lm_S → Prop} {x y : Int32} (hQ : Q (.inl (some (.int (doS 3 x y)))) (lm_T M v G)) : lm_Q X d 50 [.int (-4), .int x, .int y] (lm_T M v G) Q := by
  show lm_G X d 50 106 0 0 0 [some (.int (-4)), some (.int x), some (.int y)] [] (lm_T M v G) Q
  refine lm_G_sg 3 (pc' := 61) (L' := [some (.int (-4)), some (.int x), some (.int y)]) (S' := [.int y]) (σ' := lm_T M v G) rfl trivial ?_
  refine lm_G_br (b := ¬ y = 0) (t := 68) (S' := []) rfl (fun hc => ?_) (fun hc => ?_)
  ·
    refine lm_G_sg 3 (pc' := 71) (L' := [some (.int (-4)), some (.int x), some (.int y)]) (S' := [.int (x / y)]) (σ' := lm_T M v G) rfl ⟨hc, trivial, trivial⟩ ?_
    rw [show doS 3 x y = x / y from if_neg hc] at hQ
    exact lm_G_re rfl trivial (Nat.zero_le _) (Nat.zero_le _) hQ
  ·
    refine lm_G_sg 2 (pc' := 71) (L' := [some (.int (-4)), some (.int x), some (.int y)]) (S' := [.int 0]) (σ' := lm_T M v G) rfl trivial ?_
    rw [show doS 3 x y = 0 from if_pos (Classical.not_not.mp hc)] at hQ
    exact lm_G_re rfl trivial (Nat.zero_le _) (Nat.zero_le _) hQ
set_option maxRecDepth 10000 in
theorem c_doneWith4 {X : lm_X} {d v : Nat} {M : Nat → Nat → Int32} {G : Nat → Nat → Int64} {Q : lm_O → lm_S → Prop} {x y : Int32} (hQ : Q (.inl (some (.int (doS 4 x y)))) (lm_T M v G)) : lm_Q X d 50 [.int (-5), .int x, .int y] (lm_T M v G) Q := by
  show lm_G X d 50 106 0 0 0 [some (.int (-5)), some (.int x), some (.int y)] [] (lm_T M v G) Q
  refine lm_G_sg 4 (pc' := 74) (L' := [some (.int (-5)), some (.int x), some (.int y)]) (S' := [.int y, .int x]) (σ' := lm_T M v G) rfl trivial ?_
  refine lm_G_br (b := y ≤ x) (t := 81) (S' := []) rfl (fun hc => ?_) (fun hc => ?_)
  ·
    refine lm_G_sg 1 (pc' := 82) (L' := [some (.int (-5)), some (.int x), some (.int y)]) (S' := [.int 0]) (σ' := lm_T M v G) rfl trivial ?_
    rw [show doS 4 x y = 0 from if_neg (Int32.not_lt.mpr hc)] at hQ
    exact lm_G_re rfl trivial (Nat.zero_le _) (Nat.zero_le _) hQ
  ·
    refine lm_G_sg 2 (pc' := 82) (L' := [some (.int (-5)), some (.int x), some (.int y)]) (S' := [.int 1]) (σ' := lm_T M v G) rfl trivial ?_
    rw [show doS 4 x y = 1 from if_pos (Int32.not_le.mp hc)] at hQ
    exact lm_G_re rfl trivial (Nat.zero_le _) (Nat.zero_le _) hQ
set_option maxRecDepth 10000 in
theorem c_doneWith5 {X : lm_X} {d v : Nat} {M : Nat → Nat → Int32} {G : Nat → Nat → Int64} {Q : lm_O → lm_S → Prop} {x y : Int32} (hQ : Q (.inl (some (.int (doS 5 x y)))) (lm_T M v G)) : lm_Q X d 50 [.int (-6), .int x, .int y] (lm_T M v G) Q := by
  show lm_G X d 50 106 0 0 0 [some (.int (-6)), some (.int x), some (.int y)] [] (lm_T M v G) Q
  refine lm_G_sg 4 (pc' := 85) (L' := [some (.int (-6)), some (.int x), some (.int y)]) (S' := [.int y, .int x]) (σ' := lm_T M v G) rfl trivial ?_
  refine lm_G_br (b := ¬ x = y) (t := 92) (S' := []) rfl (fun hc => ?_) (fun hc => ?_)
  ·
    refine lm_G_sg 1 (pc' := 93) (L' := [some (.int (-6)), some (.int x), some (.int y)]) (S' := [.int 0]) (σ' := lm_T M v G) rfl trivial ?_
    rw [show doS 5 x y = 0 from if_neg hc] at hQ
    exact lm_G_re rfl trivial (Nat.zero_le _) (Nat.zero_le _) hQ
  ·
    refine lm_G_sg 2 (pc' := 93) (L' := [some (.int (-6)), some (.int x), some (.int y)]) (S' := [.int 1]) (σ' := lm_T M v G) rfl trivial ?_
    rw [show doS 5 x y = 1 from if_pos (Classical.not_not.mp hc)] at hQ
    exact lm_G_re rfl trivial (Nat.zero_le _) (Nat.zero_le _) hQ
set_option maxRecDepth 10000 in
theorem c_doneWith7 {X : lm_X} {d v : Nat} {M : Nat → Nat → Int32} {G : Nat → Nat → Int64} {Q : lm_O → lm_S → Prop} {x y : Int32} (hQ : Q (.inl (some (.int (doS 7 x y)))) (lm_T M v G)) : lm_Q X d 50 [.int (-8), .int x, .int y] (lm_T M v G) Q := by
  show lm_G X d 50 106 0 0 0 [some (.int (-8)), some (.int x), some (.int y)] [] (lm_T M v G) Q
  refine lm_G_sg 3 (pc' := 95) (L' := [some (.int (-8)), some (.int x), some (.int y)]) (S' := [.int x]) (σ' := lm_T M v G) rfl trivial ?_
  refine lm_G_br (b := x = 0) (t := 106) (S' := []) rfl (fun hc => ?_) (fun hc => ?_)
  ·
    refine lm_G_sg 1 (pc' := 107) (L' := [some (.int (-8)), some (.int x), some (.int y)]) (S' := [.int 0]) (σ' := lm_T M v G) rfl trivial ?_
    rw [show doS 7 x y = 0 from if_neg (fun w => w.1 hc)] at hQ
    exact lm_G_re rfl trivial (Nat.zero_le _) (Nat.zero_le _) hQ
  ·
    refine lm_G_sg 1 (pc' := 99) (L' := [some (.int (-8)), some (.int x), some (.int y)]) (S' := [.int y]) (σ' := lm_T M v G) rfl trivial ?_
    refine lm_G_br (b := y = 0) (t := 106) (S' := []) rfl (fun h2 => ?_) (fun h2 => ?_)
    ·
      refine lm_G_sg 1 (pc' := 107) (L' := [some (.int (-8)), some (.int x), some (.int y)]) (S' := [.int 0]) (σ' := lm_T M v G) rfl trivial ?_
      rw [show doS 7 x y = 0 from if_neg (fun w => w.2 h2)] at hQ
      exact lm_G_re rfl trivial (Nat.zero_le _) (Nat.zero_le _) hQ
    ·
      refine lm_G_sg 2 (pc' := 107) (L' := [some (.int (-8)), some (.int x), some (.int y)]) (S' := [.int 1]) (σ' := lm_T M v G) rfl trivial ?_
      rw [show doS 7 x y = 1 from if_pos ⟨hc, h2⟩] at hQ
      exact lm_G_re rfl trivial (Nat.zero_le _) (Nat.zero_le _) hQ
set_option maxRecDepth 10000 in
theorem c_doneWith8 {X : lm_X} {d v : Nat} {M : Nat → Nat → Int32} {G : Nat → Nat → Int64} {Q : lm_O → lm_S → Prop} {x y : Int32} (hQ : Q (.inl (some (.int (doS 8 x y)))) (lm_T M v G)) : lm_Q X d 50 [.int (-9), .int x, .int y] (lm_T M v G) Q := by
  show lm_G X d 50 106 0 0 0 [some (.int (-9)), some (.int x), some (.int y)] [] (lm_T M v G) Q
  refine lm_G_sg 3 (pc' := 109) (L' := [some (.int (-9)), some (.int x), some (.int y)]) (S' := [.int x]) (σ' := lm_T M v G) rfl trivial ?_
  refine lm_G_br (b := ¬ x = 0) (t := 116) (S' := []) rfl (fun hc => ?_) (fun hc => ?_)
  ·
    refine lm_G_sg 2 (pc' := 121) (L' := [some (.int (-9)), some (.int x), some (.int y)]) (S' := [.int 1]) (σ' := lm_T M v G) rfl trivial ?_
    rw [show doS 8 x y = 1 from if_pos (Or.inl hc)] at hQ
    exact lm_G_re rfl trivial (Nat.zero_le _) (Nat.zero_le _) hQ
  ·
    refine lm_G_sg 1 (pc' := 113) (L' := [some (.int (-9)), some (.int x), some (.int y)]) (S' := [.int y]) (σ' := lm_T M v G) rfl trivial ?_
    refine lm_G_br (b := y = 0) (t := 120) (S' := []) rfl (fun h2 => ?_) (fun h2 => ?_)
    ·
      refine lm_G_sg 1 (pc' := 121) (L' := [some (.int (-9)), some (.int x), some (.int y)]) (S' := [.int 0]) (σ' := lm_T M v G) rfl trivial ?_
      rw [show doS 8 x y = 0 from if_neg (fun w => w.elim hc (fun q => q h2))] at hQ
      exact lm_G_re rfl trivial (Nat.zero_le _) (Nat.zero_le _) hQ
    ·
      refine lm_G_sg 2 (pc' := 121) (L' := [some (.int (-9)), some (.int x), some (.int y)]) (S' := [.int 1]) (σ' := lm_T M v G) rfl trivial ?_
      rw [show doS 8 x y = 1 from if_pos (Or.inr h2)] at hQ
      exact lm_G_re rfl trivial (Nat.zero_le _) (Nat.zero_le _) hQ
theorem c_doneWith {X : lm_X} {d v : Nat} {M : Nat → Nat → Int32} {G : Nat → Nat → Int64} {Q : lm_O → lm_S → Prop} {x y : Int32} {o : Nat} (ho : o < 9) (h6 : o ≠ 6) (hQ : Q (.inl (some (.int (doS o x y)))) (lm_T M v G)) : lm_Q X d 50 [.int (-1 - nI o), .int x, .int y] (lm_T M v G) Q := by
  rcases (by omega : o = 0 ∨ o = 1 ∨ o = 2 ∨ o = 3 ∨ o = 4 ∨ o = 5 ∨ o = 7 ∨ o = 8) with e | e | e | e | e | e | e | e <;> subst e
  · rw [show (-1 - nI 0 : Int32) = -1 from by decide]
    exact c_doneWith0 hQ
  · rw [show (-1 - nI 1 : Int32) = -2 from by decide]
    exact c_doneWith1 hQ
  · rw [show (-1 - nI 2 : Int32) = -3 from by decide]
    exact c_doneWith2 hQ
  · rw [show (-1 - nI 3 : Int32) = -4 from by decide]
    exact c_doneWith3 hQ
  · rw [show (-1 - nI 4 : Int32) = -5 from by decide]
    exact c_doneWith4 hQ
  · rw [show (-1 - nI 5 : Int32) = -6 from by decide]
    exact c_doneWith5 hQ
  · rw [show (-1 - nI 7 : Int32) = -8 from by decide]
    exact c_doneWith7 hQ
  · rw [show (-1 - nI 8 : Int32) = -9 from by decide]
    exact c_doneWith8 hQ
theorem enc_numC {k : Nat} (hk : k < 10000) : ¬ nI k < 0 ∧ ¬ 10000 ≤ nI k := ⟨nI_pos (by omega), nI_ge (b := 10000) hk (by omega)⟩
theorem enc_valC : ∀ i, i < 6 → ¬ nI (10000 + i) < 0 ∧ (10000 : Int32) ≤ nI (10000 + i) ∧ nI (10000 + i) - 10000 = nI i := by decide
theorem enc_opC : ∀ o, o < 9 → (-1 - nI o : Int32) < 0 ∧ ((-1 - nI o : Int32) = -7 ↔ o = 6) ∧ ¬ (0 : Int32) ≤ -1 - nI o := by decide
def frS (a : Nat) : Bool := a == 26
theorem Fr_SR {M M1 : Nat → Fn} (h : Fr frS M M1) : Fr frR M M1 := Fr_mn h (by intro a ha; unfold frR at ha; unfold frS; revert ha; cases (a == 26) <;> simp)
set_option maxRecDepth 10000 in
theorem c_reckon {X : lm_X} {d v : Nat} {M : Nat → Nat → Int32} {G : Nat → Nat → Int64} {Q : lm_O → lm_S → Prop} {ts : List (Nat × Nat)} {vs : Fn} {a : Nat} (hl : a + ts.length ≤ 700) (hw : wfS ts 0) (hr : ∀ k, k < ts.length → M 22 (a + k) = encC (ts.getD k (0, 0))) (ha : Ag 6 (M 27) vs) (hQ : ∀ M1, Fr frS M M1 → Q (.inl (some (.int (reckS vs ts)))) (lm_T M1 v G)) : lm_Q X (d + 1) 48 [.ref 25, .ref 22, .int (nI a), .int (nI (a + ts.length))] (lm_T M v G) Q := by
  show lm_G X (d + 1) 48 106 0 0 0 [some (.ref 25), some (.ref 22), some (.int (nI a)), some (.int (nI (a + ts.length))), none, none, none] [] (lm_T M v G) Q
  refine lm_G_sg 5 (pc' := 8) (L' := [some (.ref 25), some (.ref 22), some (.int (nI a)), some (.int (nI (a + ts.length))), some (.int 0), none, none]) (S' := [.int (if (nI a) < 0 then 0 else (nI a))]) (σ' := lm_T M v G) rfl ⟨trivial, (Nat.le_of_ble_eq_true rfl), trivial⟩ ?_
  rw [show (if (nI a) < 0 then 0 else (nI a)) = nI a from if_neg (nI_pos (by omega))]
  refine lm_G_sg 1 (pc' := 10) (L' := [some (.ref 25), some (.ref 22), some (.int (nI a)), some (.int (nI (a + ts.length))), some (.int 0), some (.int (nI a)), none]) (S' := []) (σ' := lm_T M v G) rfl trivial ?_
  refine lm_ind (α := (Nat → Fn) × Nat × Fn) (St := fun (k : Nat) zz => (fun (M1 : Nat → Fn) (n : Nat) (f : Fn) => lm_G X (d + 1) 48 106 0 0 10 [some (.ref 25), some (.ref 22), some (.int (nI a)), some (.int (nI (a + ts.length))), some (.int (nI n)), some (.int (nI (a + k))), none] [] (lm_T M1 v G) Q) zz.1 zz.2.1 zz.2.2) (Inv := fun (k : Nat) zz => (fun (M1 : Nat → Fn) (n : Nat) (f : Fn) => n ≤ 32 ∧ rnS vs (ts.drop k) (n, f) = rnS vs ts (0, fun _ => 0) ∧ wfS (ts.drop k) n ∧ Ag n (M1 26) f ∧ Fr frS M M1) zz.1 zz.2.1 zz.2.2) (ts.length) (fun k zz hj hI ih => ?_) (fun zz hI => ?_) (0) (M, 0, fun _ => 0) (by omega) ?_
  ·
    obtain ⟨M1, n, f⟩ := zz
    replace hI : n ≤ 32 ∧ rnS vs (ts.drop k) (n, f) = rnS vs ts (0, fun _ => 0) ∧ wfS (ts.drop k) n ∧ Ag n (M1 26) f ∧ Fr frS M M1 := hI
    replace ih : ∀ (M1 : Nat → Fn) (n : Nat) (f : Fn) (_ : n ≤ 32 ∧ rnS vs (ts.drop (k + 1)) (n, f) = rnS vs ts (0, fun _ => 0) ∧ wfS (ts.drop (k + 1)) n ∧ Ag n (M1 26) f ∧ Fr frS M M1), lm_G X (d + 1) 48 106 0 0 10 [some (.ref 25), some (.ref 22), some (.int (nI a)), some (.int (nI (a + ts.length))), some (.int (nI n)), some (.int (nI (a + (k + 1)))), none] [] (lm_T M1 v G) Q := fun M1 n f q => ih (M1, n, f) q
    show lm_G X (d + 1) 48 106 0 0 10 [some (.ref 25), some (.ref 22), some (.int (nI a)), some (.int (nI (a + ts.length))), some (.int (nI n)), some (.int (nI (a + k))), none] [] (lm_T M1 v G) Q
    obtain ⟨i1, i2, i3, i4, i5⟩ := hI
    refine lm_G_sg 2 (pc' := 13) (L' := [some (.ref 25), some (.ref 22), some (.int (nI a)), some (.int (nI (a + ts.length))), some (.int (nI n)), some (.int (nI (a + k))), none]) (S' := [.int (nI (a + ts.length)), .int (nI (a + k))]) (σ' := lm_T M1 v G) rfl trivial ?_
    refine lm_G_br (b := (nI (a + ts.length)) ≤ (nI (a + k))) (t := 169) (S' := []) rfl (fun hc => absurd hc (nI_ge (by omega) (by omega))) (fun hc => ?_)
    refine lm_G_sg 3 (pc' := 20) (L' := [some (.ref 25), some (.ref 22), some (.int (nI a)), some (.int (nI (a + ts.length))), some (.int (nI n)), some (.int (nI (a + k))), none]) (S' := [.int 700, .int (nI (a + k))]) (σ' := lm_T M1 v G) rfl trivial ?_
    refine lm_G_br (b := 700 ≤ (nI (a + k))) (t := 169) (S' := []) rfl (fun hc => absurd hc (nI_ge (b := 700) (by omega) (by omega))) (fun hc => ?_)
    refine lm_G_sg 3 (pc' := 27) (L' := [some (.ref 25), some (.ref 22), some (.int (nI a)), some (.int (nI (a + ts.length))), some (.int (nI n)), some (.int (nI (a + k))), none]) (S' := [.int (M1 22 (nI (a + k)).toNatClampNeg)]) (σ' := lm_T M1 v G) rfl ⟨(vp_in_nI (by omega) (by omega)), trivial, trivial⟩ ?_
    rw [show (nI (a + k)).toNatClampNeg = (a + k) from nI_clamp (by omega)]
    rw [show M1 22 (a + k) = encC (ts.getD k (0, 0)) from (congrFun (i5 22 rfl) _).trans (hr k hj)]
    refine lm_G_sg 1 (pc' := 29) (L' := [some (.ref 25), some (.ref 22), some (.int (nI a)), some (.int (nI (a + ts.length))), some (.int (nI n)), some (.int (nI (a + k))), some (.int (encC (ts.getD k (0, 0))))]) (S' := []) (σ' := lm_T M1 v G) rfl trivial ?_
    rw [drop_at hj] at i2 i3
    generalize ts.getD k (0, 0) = q at i2 i3 ⊢
    obtain ⟨q1, q2⟩ := q
    match q1, i2, i3 with
    | 0, i2, i3 =>
      obtain ⟨j1, j2, j3⟩ := i3
      show lm_G X (d + 1) 48 106 0 0 29 [some (.ref 25), some (.ref 22), some (.int (nI a)), some (.int (nI (a + ts.length))), some (.int (nI n)), some (.int (nI (a + k))), some (.int (nI q2))] [] (lm_T M1 v G) Q
      refine lm_G_sg 1 (pc' := 31) (L' := [some (.ref 25), some (.ref 22), some (.int (nI a)), some (.int (nI (a + ts.length))), some (.int (nI n)), some (.int (nI (a + k))), some (.int (nI q2))]) (S' := [.int (nI q2)]) (σ' := lm_T M1 v G) rfl trivial ?_
      refine lm_G_br (b := (nI q2) < 0) (t := 77) (S' := []) rfl (fun hc => absurd hc (enc_numC j1).1) (fun hc => ?_)
      refine lm_G_sg 2 (pc' := 38) (L' := [some (.ref 25), some (.ref 22), some (.int (nI a)), some (.int (nI (a + ts.length))), some (.int (nI n)), some (.int (nI (a + k))), some (.int (nI q2))]) (S' := [.int 40, .int (nI n)]) (σ' := lm_T M1 v G) rfl trivial ?_
      refine lm_G_br (b := 40 ≤ (nI n)) (t := 77) (S' := []) rfl (fun hc => absurd hc (nI_ge (b := 40) (by omega) (by omega))) (fun hc => ?_)
      refine lm_G_sg 5 (pc' := 52) (L' := [some (.ref 25), some (.ref 22), some (.int (nI a)), some (.int (nI (a + ts.length))), some (.int (nI n)), some (.int (nI (a + k))), some (.int (nI q2))]) (S' := [.int 10000, .int (nI q2), .int (nI n), .ref 26]) (σ' := lm_T M1 v G) rfl trivial ?_
      refine lm_G_br (b := 10000 ≤ (nI q2)) (t := 60) (S' := [.int (nI n), .ref 26]) rfl (fun hc => absurd hc (enc_numC j1).2) (fun hc => ?_)
      refine lm_G_sg 3 (pc' := 71) (L' := [some (.ref 25), some (.ref 22), some (.int (nI a)), some (.int (nI (a + ts.length))), some (.int (nI n)), some (.int (nI (a + k))), some (.int (nI q2))]) (S' := []) (σ' := lm_T (lm_wr M1 26 ((nI n).toNatClampNeg) (nI q2)) v G) rfl ⟨(vp_in_nI (by omega) (by omega)), trivial, trivial⟩ ?_
      rw [show (nI n).toNatClampNeg = n from nI_clamp (by omega)]
      refine lm_G_sg 1 (pc' := 74) (L' := [some (.ref 25), some (.ref 22), some (.int (nI a)), some (.int (nI (a + ts.length))), some (.int ((nI n) + 1)), some (.int (nI (a + k))), some (.int (nI q2))]) (S' := []) (σ' := lm_T (lm_wr M1 26 n (nI q2)) v G) rfl trivial ?_
      rw [nI_1]
      refine lm_G_sg 2 (pc' := 166) (L' := [some (.ref 25), some (.ref 22), some (.int (nI a)), some (.int (nI (a + ts.length))), some (.int (nI (n + 1))), some (.int ((nI (a + k)) + 1)), some (.int (nI q2))]) (S' := []) (σ' := lm_T (lm_wr M1 26 n (nI q2)) v G) rfl trivial ?_
      rw [nI_1]
      refine lm_G_sg 1 (pc' := 10) (L' := [some (.ref 25), some (.ref 22), some (.int (nI a)), some (.int (nI (a + ts.length))), some (.int (nI (n + 1))), some (.int (nI ((a + k) + 1))), some (.int (nI q2))]) (S' := []) (σ' := lm_T (lm_wr M1 26 n (nI q2)) v G) rfl trivial ?_
      refine lm_G_jk (L := [some (.ref 25), some (.ref 22), some (.int (nI a)), some (.int (nI (a + ts.length))), some (.int (nI (n + 1))), some (.int (nI ((a + k) + 1))), none]) ⟨rfl, rfl, rfl, rfl, rfl, rfl, trivial⟩ ?_
      exact ih _ _ _ (⟨by omega, i2, j3, Ag_push i4 _, Fr_wr i5 rfl⟩)
    | 1, i2, i3 =>
      obtain ⟨j1, j2, j3⟩ := i3
      obtain ⟨e1, e2, e3⟩ := enc_valC q2 j1
      show lm_G X (d + 1) 48 106 0 0 29 [some (.ref 25), some (.ref 22), some (.int (nI a)), some (.int (nI (a + ts.length))), some (.int (nI n)), some (.int (nI (a + k))), some (.int (nI (10000 + q2)))] [] (lm_T M1 v G) Q
      refine lm_G_sg 1 (pc' := 31) (L' := [some (.ref 25), some (.ref 22), some (.int (nI a)), some (.int (nI (a + ts.length))), some (.int (nI n)), some (.int (nI (a + k))), some (.int (nI (10000 + q2)))]) (S' := [.int (nI (10000 + q2))]) (σ' := lm_T M1 v G) rfl trivial ?_
      refine lm_G_br (b := (nI (10000 + q2)) < 0) (t := 77) (S' := []) rfl (fun hc => absurd hc e1) (fun hc => ?_)
      refine lm_G_sg 2 (pc' := 38) (L' := [some (.ref 25), some (.ref 22), some (.int (nI a)), some (.int (nI (a + ts.length))), some (.int (nI n)), some (.int (nI (a + k))), some (.int (nI (10000 + q2)))]) (S' := [.int 40, .int (nI n)]) (σ' := lm_T M1 v G) rfl trivial ?_
      refine lm_G_br (b := 40 ≤ (nI n)) (t := 77) (S' := []) rfl (fun hc => absurd hc (nI_ge (b := 40) (by omega) (by omega))) (fun hc => ?_)
      refine lm_G_sg 5 (pc' := 52) (L' := [some (.ref 25), some (.ref 22), some (.int (nI a)), some (.int (nI (a + ts.length))), some (.int (nI n)), some (.int (nI (a + k))), some (.int (nI (10000 + q2)))]) (S' := [.int 10000, .int (nI (10000 + q2)), .int (nI n), .ref 26]) (σ' := lm_T M1 v G) rfl trivial ?_
      refine lm_G_br (b := 10000 ≤ (nI (10000 + q2))) (t := 60) (S' := [.int (nI n), .ref 26]) rfl (fun hc => ?_) (fun hc => absurd e2 hc)
      refine lm_G_sg 4 (pc' := 67) (L' := [some (.ref 25), some (.ref 22), some (.int (nI a)), some (.int (nI (a + ts.length))), some (.int (nI n)), some (.int (nI (a + k))), some (.int (nI (10000 + q2)))]) (S' := [.int ((nI (10000 + q2)) - 10000), .ref 25, .int (nI n), .ref 26]) (σ' := lm_T M1 v G) rfl trivial ?_
      rw [e3]
      refine lm_G_ca (j := 49) (as := [.ref 25, .int (nI q2)]) (rest := [.int (nI n), .ref 26]) rfl (Or.inl rfl) (Nat.le_of_ble_eq_true rfl) (Nat.le_of_ble_eq_true rfl) (Nat.le_of_ble_eq_true rfl) (Nat.le_of_ble_eq_true rfl) rfl ?_
      refine c_valueAt (vs := vs) j1 (by rw [i5 27 rfl]; exact ha) ?_
      show lm_G X (d + 1) 48 106 0 0 70 [some (.ref 25), some (.ref 22), some (.int (nI a)), some (.int (nI (a + ts.length))), some (.int (nI n)), some (.int (nI (a + k))), some (.int (nI (10000 + q2)))] [.int (vs q2), .int (nI n), .ref 26] (lm_T M1 v G) Q
      refine lm_G_sg 1 (pc' := 71) (L' := [some (.ref 25), some (.ref 22), some (.int (nI a)), some (.int (nI (a + ts.length))), some (.int (nI n)), some (.int (nI (a + k))), some (.int (nI (10000 + q2)))]) (S' := []) (σ' := lm_T (lm_wr M1 26 ((nI n).toNatClampNeg) (vs q2)) v G) rfl ⟨(vp_in_nI (by omega) (by omega)), trivial, trivial⟩ ?_
      rw [show (nI n).toNatClampNeg = n from nI_clamp (by omega)]
      refine lm_G_sg 1 (pc' := 74) (L' := [some (.ref 25), some (.ref 22), some (.int (nI a)), some (.int (nI (a + ts.length))), some (.int ((nI n) + 1)), some (.int (nI (a + k))), some (.int (nI (10000 + q2)))]) (S' := []) (σ' := lm_T (lm_wr M1 26 n (vs q2)) v G) rfl trivial ?_
      rw [nI_1]
      refine lm_G_sg 2 (pc' := 166) (L' := [some (.ref 25), some (.ref 22), some (.int (nI a)), some (.int (nI (a + ts.length))), some (.int (nI (n + 1))), some (.int ((nI (a + k)) + 1)), some (.int (nI (10000 + q2)))]) (S' := []) (σ' := lm_T (lm_wr M1 26 n (vs q2)) v G) rfl trivial ?_
      rw [nI_1]
      refine lm_G_sg 1 (pc' := 10) (L' := [some (.ref 25), some (.ref 22), some (.int (nI a)), some (.int (nI (a + ts.length))), some (.int (nI (n + 1))), some (.int (nI ((a + k) + 1))), some (.int (nI (10000 + q2)))]) (S' := []) (σ' := lm_T (lm_wr M1 26 n (vs q2)) v G) rfl trivial ?_
      refine lm_G_jk (L := [some (.ref 25), some (.ref 22), some (.int (nI a)), some (.int (nI (a + ts.length))), some (.int (nI (n + 1))), some (.int (nI ((a + k) + 1))), none]) ⟨rfl, rfl, rfl, rfl, rfl, rfl, trivial⟩ ?_
      exact ih _ _ _ (⟨by omega, i2, j3, Ag_push i4 _, Fr_wr i5 rfl⟩)
    | 2, i2, i3 =>
      obtain ⟨j1, j3⟩ := i3
      obtain ⟨e1, e2, e3⟩ := enc_opC q2 j1
      show lm_G X (d + 1) 48 106 0 0 29 [some (.ref 25), some (.ref 22), some (.int (nI a)), some (.int (nI (a + ts.length))), some (.int (nI n)), some (.int (nI (a + k))), some (.int (-1 - nI q2))] [] (lm_T M1 v G) Q
      refine lm_G_sg 1 (pc' := 31) (L' := [some (.ref 25), some (.ref 22), some (.int (nI a)), some (.int (nI (a + ts.length))), some (.int (nI n)), some (.int (nI (a + k))), some (.int (-1 - nI q2))]) (S' := [.int (-1 - nI q2)]) (σ' := lm_T M1 v G) rfl trivial ?_
      refine lm_G_br (b := (-1 - nI q2) < 0) (t := 77) (S' := []) rfl (fun hc => ?_) (fun hc => absurd e1 hc)
      refine lm_G_sg 2 (pc' := 81) (L' := [some (.ref 25), some (.ref 22), some (.int (nI a)), some (.int (nI (a + ts.length))), some (.int (nI n)), some (.int (nI (a + k))), some (.int (-1 - nI q2))]) (S' := [.int (-7), .int (-1 - nI q2)]) (σ' := lm_T M1 v G) rfl trivial ?_
      refine lm_G_br (b := ¬ (-1 - nI q2) = (-7)) (t := 119) (S' := []) rfl (fun hc => ?_) (fun hc => ?_)
      ·
        have e6 : q2 ≠ 6 := fun w => hc (e2.mpr w)
        rw [if_neg e6] at j3
        obtain ⟨n, rfl⟩ : ∃ n0, n = n0 + 2 := ⟨n - 2, by omega⟩
        obtain ⟨j4, j5⟩ := j3
        refine lm_G_sg 1 (pc' := 121) (L' := [some (.ref 25), some (.ref 22), some (.int (nI a)), some (.int (nI (a + ts.length))), some (.int (nI (n + 2))), some (.int (nI (a + k))), some (.int (-1 - nI q2))]) (S' := [.int (-1 - nI q2)]) (σ' := lm_T M1 v G) rfl trivial ?_
        refine lm_G_br (b := 0 ≤ (-1 - nI q2)) (t := 163) (S' := []) rfl (fun hc => absurd hc e3) (fun hc => ?_)
        refine lm_G_sg 2 (pc' := 127) (L' := [some (.ref 25), some (.ref 22), some (.int (nI a)), some (.int (nI (a + ts.length))), some (.int (nI (n + 2))), some (.int (nI (a + k))), some (.int (-1 - nI q2))]) (S' := [.int 2, .int (nI (n + 2))]) (σ' := lm_T M1 v G) rfl trivial ?_
        refine lm_G_br (b := (nI (n + 2)) < 2) (t := 163) (S' := []) rfl (fun hc => absurd hc (Int32.not_lt.mpr (nI_le (a := 2) (by omega) (by omega)))) (fun hc => ?_)
        refine lm_G_sg 1 (pc' := 133) (L' := [some (.ref 25), some (.ref 22), some (.int (nI a)), some (.int (nI (a + ts.length))), some (.int ((nI (n + 2)) + (-1))), some (.int (nI (a + k))), some (.int (-1 - nI q2))]) (S' := []) (σ' := lm_T M1 v G) rfl trivial ?_
        rw [show nI (n + 2) + (-1) = nI (n + 1) from pk_m1 (n + 1)]
        refine lm_G_sg 5 (pc' := 141) (L' := [some (.ref 25), some (.ref 22), some (.int (nI a)), some (.int (nI (a + ts.length))), some (.int (nI (n + 1))), some (.int (nI (a + k))), some (.int (-1 - nI q2))]) (S' := [.int ((nI (n + 1)) - 1), .ref 26]) (σ' := lm_T M1 v G) rfl trivial ?_
        rw [nI_pred]
        refine lm_G_sg 6 (pc' := 151) (L' := [some (.ref 25), some (.ref 22), some (.int (nI a)), some (.int (nI (a + ts.length))), some (.int (nI (n + 1))), some (.int (nI (a + k))), some (.int (-1 - nI q2))]) (S' := [.int ((nI (n + 1)) - 1), .ref 26, .int (-1 - nI q2), .int (nI n), .ref 26]) (σ' := lm_T M1 v G) rfl trivial ?_
        rw [nI_pred]
        refine lm_G_sg 1 (pc' := 152) (L' := [some (.ref 25), some (.ref 22), some (.int (nI a)), some (.int (nI (a + ts.length))), some (.int (nI (n + 1))), some (.int (nI (a + k))), some (.int (-1 - nI q2))]) (S' := [.int (M1 26 (nI n).toNatClampNeg), .int (-1 - nI q2), .int (nI n), .ref 26]) (σ' := lm_T M1 v G) rfl ⟨(vp_in_nI (by omega) (by omega)), trivial, trivial⟩ ?_
        rw [show (nI n).toNatClampNeg = n from nI_clamp (by omega)]
        rw [show M1 26 n = f n from i4 n (by omega)]
        refine lm_G_sg 4 (pc' := 159) (L' := [some (.ref 25), some (.ref 22), some (.int (nI a)), some (.int (nI (a + ts.length))), some (.int (nI (n + 1))), some (.int (nI (a + k))), some (.int (-1 - nI q2))]) (S' := [.int (M1 26 (nI (n + 1)).toNatClampNeg), .int (f n), .int (-1 - nI q2), .int (nI n), .ref 26]) (σ' := lm_T M1 v G) rfl ⟨(vp_in_nI (by omega) (by omega)), trivial, trivial⟩ ?_
        rw [show (nI (n + 1)).toNatClampNeg = (n + 1) from nI_clamp (by omega)]
        rw [show M1 26 (n + 1) = f (n + 1) from i4 (n + 1) (by omega)]
        refine lm_G_ca (j := 50) (as := [.int (-1 - nI q2), .int (f n), .int (f (n + 1))]) (rest := [.int (nI n), .ref 26]) rfl (Or.inl rfl) (Nat.le_of_ble_eq_true rfl) (Nat.le_of_ble_eq_true rfl) (Nat.le_of_ble_eq_true rfl) (Nat.le_of_ble_eq_true rfl) rfl ?_
        refine c_doneWith j1 e6 ?_
        show lm_G X (d + 1) 48 106 0 0 162 [some (.ref 25), some (.ref 22), some (.int (nI a)), some (.int (nI (a + ts.length))), some (.int (nI (n + 1))), some (.int (nI (a + k))), some (.int (-1 - nI q2))] [.int (doS q2 (f n) (f (n + 1))), .int (nI n), .ref 26] (lm_T M1 v G) Q
        refine lm_G_sg 1 (pc' := 163) (L' := [some (.ref 25), some (.ref 22), some (.int (nI a)), some (.int (nI (a + ts.length))), some (.int (nI (n + 1))), some (.int (nI (a + k))), some (.int (-1 - nI q2))]) (S' := []) (σ' := lm_T (lm_wr M1 26 ((nI n).toNatClampNeg) (doS q2 (f n) (f (n + 1)))) v G) rfl ⟨(vp_in_nI (by omega) (by omega)), trivial, trivial⟩ ?_
        rw [show (nI n).toNatClampNeg = n from nI_clamp (by omega)]
        refine lm_G_sg 1 (pc' := 166) (L' := [some (.ref 25), some (.ref 22), some (.int (nI a)), some (.int (nI (a + ts.length))), some (.int (nI (n + 1))), some (.int ((nI (a + k)) + 1)), some (.int (-1 - nI q2))]) (S' := []) (σ' := lm_T (lm_wr M1 26 n (doS q2 (f n) (f (n + 1)))) v G) rfl trivial ?_
        rw [nI_1]
        refine lm_G_sg 1 (pc' := 10) (L' := [some (.ref 25), some (.ref 22), some (.int (nI a)), some (.int (nI (a + ts.length))), some (.int (nI (n + 1))), some (.int (nI ((a + k) + 1))), some (.int (-1 - nI q2))]) (S' := []) (σ' := lm_T (lm_wr M1 26 n (doS q2 (f n) (f (n + 1)))) v G) rfl trivial ?_
        have i2b : rnS vs (List.drop (k + 1) ts) (n + 1, upd f n (doS q2 (f n) (f (n + 1)))) = rnS vs ts (0, fun _ => 0) := by
          rw [← i2]
          simp only [rnS, stS, e6, if_false]
          rfl
        refine lm_G_jk (L := [some (.ref 25), some (.ref 22), some (.int (nI a)), some (.int (nI (a + ts.length))), some (.int (nI (n + 1))), some (.int (nI ((a + k) + 1))), none]) ⟨rfl, rfl, rfl, rfl, rfl, rfl, trivial⟩ ?_
        exact ih _ _ _ (⟨by omega, i2b, j5, fun j hj => Ag_push (Ag_mn i4 (by omega)) _ j hj, Fr_wr i5 rfl⟩)
      ·
        have e6 : q2 = 6 := e2.mp (Classical.not_not.mp hc)
        subst e6
        rw [if_pos rfl] at j3
        obtain ⟨n, rfl⟩ : ∃ n0, n = n0 + 1 := ⟨n - 1, by omega⟩
        obtain ⟨j4, j5⟩ := j3
        refine lm_G_sg 2 (pc' := 87) (L' := [some (.ref 25), some (.ref 22), some (.int (nI a)), some (.int (nI (a + ts.length))), some (.int (nI (n + 1))), some (.int (nI (a + k))), some (.int (-1 - nI 6))]) (S' := [.int 1, .int (nI (n + 1))]) (σ' := lm_T M1 v G) rfl trivial ?_
        refine lm_G_br (b := (nI (n + 1)) < 1) (t := 119) (S' := []) rfl (fun hc => absurd hc (Int32.not_lt.mpr (nI_le (a := 1) (by omega) (by omega)))) (fun hc => ?_)
        refine lm_G_sg 5 (pc' := 98) (L' := [some (.ref 25), some (.ref 22), some (.int (nI a)), some (.int (nI (a + ts.length))), some (.int (nI (n + 1))), some (.int (nI (a + k))), some (.int (-1 - nI 6))]) (S' := [.int ((nI (n + 1)) - 1), .ref 26]) (σ' := lm_T M1 v G) rfl trivial ?_
        rw [nI_pred]
        refine lm_G_sg 5 (pc' := 106) (L' := [some (.ref 25), some (.ref 22), some (.int (nI a)), some (.int (nI (a + ts.length))), some (.int (nI (n + 1))), some (.int (nI (a + k))), some (.int (-1 - nI 6))]) (S' := [.int ((nI (n + 1)) - 1), .ref 26, .int (nI n), .ref 26]) (σ' := lm_T M1 v G) rfl trivial ?_
        rw [nI_pred]
        refine lm_G_sg 1 (pc' := 107) (L' := [some (.ref 25), some (.ref 22), some (.int (nI a)), some (.int (nI (a + ts.length))), some (.int (nI (n + 1))), some (.int (nI (a + k))), some (.int (-1 - nI 6))]) (S' := [.int (M1 26 (nI n).toNatClampNeg), .int (nI n), .ref 26]) (σ' := lm_T M1 v G) rfl ⟨(vp_in_nI (by omega) (by omega)), trivial, trivial⟩ ?_
        rw [show (nI n).toNatClampNeg = n from nI_clamp (by omega)]
        rw [show M1 26 n = f n from i4 n (by omega)]
        refine lm_G_br (b := ¬ (f n) = 0) (t := 114) (S' := [.int (nI n), .ref 26]) rfl (fun h2 => ?_) (fun h2 => ?_)
        ·
          refine lm_G_sg 2 (pc' := 116) (L' := [some (.ref 25), some (.ref 22), some (.int (nI a)), some (.int (nI (a + ts.length))), some (.int (nI (n + 1))), some (.int (nI (a + k))), some (.int (-1 - nI 6))]) (S' := []) (σ' := lm_T (lm_wr M1 26 ((nI n).toNatClampNeg) 0) v G) rfl ⟨(vp_in_nI (by omega) (by omega)), trivial, trivial⟩ ?_
          rw [show (nI n).toNatClampNeg = n from nI_clamp (by omega)]
          refine lm_G_sg 2 (pc' := 166) (L' := [some (.ref 25), some (.ref 22), some (.int (nI a)), some (.int (nI (a + ts.length))), some (.int (nI (n + 1))), some (.int ((nI (a + k)) + 1)), some (.int (-1 - nI 6))]) (S' := []) (σ' := lm_T (lm_wr M1 26 n 0) v G) rfl trivial ?_
          rw [nI_1]
          refine lm_G_sg 1 (pc' := 10) (L' := [some (.ref 25), some (.ref 22), some (.int (nI a)), some (.int (nI (a + ts.length))), some (.int (nI (n + 1))), some (.int (nI ((a + k) + 1))), some (.int (-1 - nI 6))]) (S' := []) (σ' := lm_T (lm_wr M1 26 n 0) v G) rfl trivial ?_
          have i2b : rnS vs (List.drop (k + 1) ts) (n + 1, upd f n 0) = rnS vs ts (0, fun _ => 0) := by
            rw [← i2]
            simp only [rnS, stS, if_true, Nat.add_sub_cancel, if_neg h2]
          refine lm_G_jk (L := [some (.ref 25), some (.ref 22), some (.int (nI a)), some (.int (nI (a + ts.length))), some (.int (nI (n + 1))), some (.int (nI ((a + k) + 1))), none]) ⟨rfl, rfl, rfl, rfl, rfl, rfl, trivial⟩ ?_
          exact ih _ _ _ (⟨by omega, i2b, j5, Ag_upd i4 n _, Fr_wr i5 rfl⟩)
        ·
          refine lm_G_sg 3 (pc' := 116) (L' := [some (.ref 25), some (.ref 22), some (.int (nI a)), some (.int (nI (a + ts.length))), some (.int (nI (n + 1))), some (.int (nI (a + k))), some (.int (-1 - nI 6))]) (S' := []) (σ' := lm_T (lm_wr M1 26 ((nI n).toNatClampNeg) 1) v G) rfl ⟨(vp_in_nI (by omega) (by omega)), trivial, trivial⟩ ?_
          rw [show (nI n).toNatClampNeg = n from nI_clamp (by omega)]
          refine lm_G_sg 2 (pc' := 166) (L' := [some (.ref 25), some (.ref 22), some (.int (nI a)), some (.int (nI (a + ts.length))), some (.int (nI (n + 1))), some (.int ((nI (a + k)) + 1)), some (.int (-1 - nI 6))]) (S' := []) (σ' := lm_T (lm_wr M1 26 n 1) v G) rfl trivial ?_
          rw [nI_1]
          refine lm_G_sg 1 (pc' := 10) (L' := [some (.ref 25), some (.ref 22), some (.int (nI a)), some (.int (nI (a + ts.length))), some (.int (nI (n + 1))), some (.int (nI ((a + k) + 1))), some (.int (-1 - nI 6))]) (S' := []) (σ' := lm_T (lm_wr M1 26 n 1) v G) rfl trivial ?_
          have i2b : rnS vs (List.drop (k + 1) ts) (n + 1, upd f n 1) = rnS vs ts (0, fun _ => 0) := by
            rw [← i2]
            simp only [rnS, stS, if_true, Nat.add_sub_cancel, if_pos (Classical.not_not.mp h2)]
          refine lm_G_jk (L := [some (.ref 25), some (.ref 22), some (.int (nI a)), some (.int (nI (a + ts.length))), some (.int (nI (n + 1))), some (.int (nI ((a + k) + 1))), none]) ⟨rfl, rfl, rfl, rfl, rfl, rfl, trivial⟩ ?_
          exact ih _ _ _ (⟨by omega, i2b, j5, Ag_upd i4 n _, Fr_wr i5 rfl⟩)
    | q + 3, i2, i3 => exact i3.elim
  ·
    obtain ⟨M1, n, f⟩ := zz
    replace hI : n ≤ 32 ∧ rnS vs (ts.drop (ts.length)) (n, f) = rnS vs ts (0, fun _ => 0) ∧ wfS (ts.drop (ts.length)) n ∧ Ag n (M1 26) f ∧ Fr frS M M1 := hI
    show lm_G X (d + 1) 48 106 0 0 10 [some (.ref 25), some (.ref 22), some (.int (nI a)), some (.int (nI (a + ts.length))), some (.int (nI n)), some (.int (nI (a + (ts.length)))), none] [] (lm_T M1 v G) Q
    obtain ⟨i1, i2, i3, i4, i5⟩ := hI
    rw [List.drop_length] at i2 i3
    have e1 : n = 1 := i3
    subst e1
    refine lm_G_sg 2 (pc' := 13) (L' := [some (.ref 25), some (.ref 22), some (.int (nI a)), some (.int (nI (a + ts.length))), some (.int (nI 1)), some (.int (nI (a + (ts.length)))), none]) (S' := [.int (nI (a + ts.length)), .int (nI (a + (ts.length)))]) (σ' := lm_T M1 v G) rfl trivial ?_
    refine lm_G_br (b := (nI (a + ts.length)) ≤ (nI (a + (ts.length)))) (t := 169) (S' := []) rfl (fun hc => ?_) (fun hc => absurd (nI_le (Nat.le_refl _) (by omega)) hc)
    refine lm_G_sg 1 (pc' := 171) (L' := [some (.ref 25), some (.ref 22), some (.int (nI a)), some (.int (nI (a + ts.length))), some (.int (nI 1)), some (.int (nI (a + (ts.length)))), none]) (S' := [.int (nI 1)]) (σ' := lm_T M1 v G) rfl trivial ?_
    refine lm_G_br (b := (nI 1) ≤ 0) (t := 183) (S' := []) rfl (fun hc => absurd hc (by decide)) (fun hc => ?_)
    refine lm_G_sg 4 (pc' := 180) (L' := [some (.ref 25), some (.ref 22), some (.int (nI a)), some (.int (nI (a + ts.length))), some (.int (nI 1)), some (.int (nI (a + (ts.length)))), none]) (S' := [.int (M1 26 0)]) (σ' := lm_T M1 v G) rfl ⟨(lm_inb_ok rfl), trivial, trivial⟩ ?_
    rw [show M1 26 0 = reckS vs ts from (i4 0 (by omega)).trans (congrArg (fun x => x.2 0) i2)]
    refine lm_G_sg 1 (pc' := 184) (L' := [some (.ref 25), some (.ref 22), some (.int (nI a)), some (.int (nI (a + ts.length))), some (.int (nI 1)), some (.int (nI (a + (ts.length)))), none]) (S' := [.int (reckS vs ts)]) (σ' := lm_T M1 v G) rfl trivial ?_
    exact lm_G_re rfl trivial (Nat.zero_le _) (Nat.zero_le _) (hQ _ i5)
  ·
    try dsimp only
    exact ⟨by omega, rfl, hw, fun j hj => by omega, Fr_rf _ _⟩
set_option maxRecDepth 10000 in
theorem c_hasRule0 {X : lm_X} {d v : Nat} {M : Nat → Nat → Int32} {G : Nat → Nat → Int64} {Q : lm_O → lm_S → Prop} {a n : Nat} (hl : a + n ≤ 700) (e1 : M 23 0 = nI a) (e2 : M 24 0 = nI (a + n)) (hQ : Q (.inl (some (.int (b2i (decide (n ≠ 0)))))) (lm_T M v G)) : lm_Q X d 13 [.ref 14, .int 0] (lm_T M v G) Q := by
  show lm_G X d 13 106 0 0 0 [some (.ref 14), some (.int 0)] [] (lm_T M v G) Q
  refine lm_G_sg 4 (pc' := 6) (L' := [some (.ref 14), some (.int 0)]) (S' := [.int (M 24 0)]) (σ' := lm_T M v G) rfl ⟨(lm_inb_ok rfl), trivial, trivial⟩ ?_
  rw [show M 24 0 = nI (a + n) from e2]
  refine lm_G_sg 4 (pc' := 12) (L' := [some (.ref 14), some (.int 0)]) (S' := [.int (M 23 0), .int (nI (a + n))]) (σ' := lm_T M v G) rfl ⟨(lm_inb_ok rfl), trivial, trivial⟩ ?_
  rw [show M 23 0 = nI a from e1]
  refine lm_G_br (b := (nI (a + n)) ≤ (nI a)) (t := 19) (S' := []) rfl (fun hc => ?_) (fun hc => ?_)
  ·
    have e : decide (n ≠ 0) = false := decide_eq_false (fun w => nI_ge (a := a) (b := a + n) (by omega) (by omega) hc)
    rw [b2i_f e] at hQ
    refine lm_G_sg 1 (pc' := 20) (L' := [some (.ref 14), some (.int 0)]) (S' := [.int 0]) (σ' := lm_T M v G) rfl trivial ?_
    exact lm_G_re rfl (Or.inl rfl) (Nat.zero_le _) (Nat.zero_le _) hQ
  ·
    have e : decide (n ≠ 0) = true := decide_eq_true (fun w => by subst w; exact hc (nI_le (by omega) (by omega)))
    rw [b2i_t e] at hQ
    refine lm_G_sg 2 (pc' := 20) (L' := [some (.ref 14), some (.int 0)]) (S' := [.int 1]) (σ' := lm_T M v G) rfl trivial ?_
    exact lm_G_re rfl (Or.inr rfl) (Nat.zero_le _) (Nat.zero_le _) hQ
set_option maxRecDepth 10000 in
theorem c_hasRule1 {X : lm_X} {d v : Nat} {M : Nat → Nat → Int32} {G : Nat → Nat → Int64} {Q : lm_O → lm_S → Prop} {a n : Nat} (hl : a + n ≤ 700) (e1 : M 23 1 = nI a) (e2 : M 24 1 = nI (a + n)) (hQ : Q (.inl (some (.int (b2i (decide (n ≠ 0)))))) (lm_T M v G)) : lm_Q X d 13 [.ref 14, .int 1] (lm_T M v G) Q := by
  show lm_G X d 13 106 0 0 0 [some (.ref 14), some (.int 1)] [] (lm_T M v G) Q
  refine lm_G_sg 4 (pc' := 6) (L' := [some (.ref 14), some (.int 1)]) (S' := [.int (M 24 1)]) (σ' := lm_T M v G) rfl ⟨(lm_inb_ok rfl), trivial, trivial⟩ ?_
  rw [show M 24 1 = nI (a + n) from e2]
  refine lm_G_sg 4 (pc' := 12) (L' := [some (.ref 14), some (.int 1)]) (S' := [.int (M 23 1), .int (nI (a + n))]) (σ' := lm_T M v G) rfl ⟨(lm_inb_ok rfl), trivial, trivial⟩ ?_
  rw [show M 23 1 = nI a from e1]
  refine lm_G_br (b := (nI (a + n)) ≤ (nI a)) (t := 19) (S' := []) rfl (fun hc => ?_) (fun hc => ?_)
  ·
    have e : decide (n ≠ 0) = false := decide_eq_false (fun w => nI_ge (a := a) (b := a + n) (by omega) (by omega) hc)
    rw [b2i_f e] at hQ
    refine lm_G_sg 1 (pc' := 20) (L' := [some (.ref 14), some (.int 1)]) (S' := [.int 0]) (σ' := lm_T M v G) rfl trivial ?_
    exact lm_G_re rfl (Or.inl rfl) (Nat.zero_le _) (Nat.zero_le _) hQ
  ·
    have e : decide (n ≠ 0) = true := decide_eq_true (fun w => by subst w; exact hc (nI_le (by omega) (by omega)))
    rw [b2i_t e] at hQ
    refine lm_G_sg 2 (pc' := 20) (L' := [some (.ref 14), some (.int 1)]) (S' := [.int 1]) (σ' := lm_T M v G) rfl trivial ?_
    exact lm_G_re rfl (Or.inr rfl) (Nat.zero_le _) (Nat.zero_le _) hQ
