/-! ===== who stops, more ===== -/
theorem msk_or {f g : Nat → Bool} {n : Nat} (hn : n ≤ 32) : msk f n ||| msk g n = msk (fun j => f j || g j) n := by
  apply b_ext
  intro i hi
  rw [b_or, bt_msk _ n hn i hi, bt_msk _ n hn i hi, bt_msk _ n hn i hi]
  by_cases h : i < n <;> simp [h]
def anyS (s : Sc) : Nat → Nat → Bool
  | 0, _ => false
  | j + 1, p => anyS s j p || decide (sHu s p = nI j)
theorem any_ex {s : Sc} {p : Nat} : ∀ j, anyS s j p = true ↔ ∃ t, t < j ∧ sHu s p = nI t
  | 0 => by simp [anyS]
  | j + 1 => by
    simp only [anyS, Bool.or_eq_true, any_ex j, decide_eq_true_eq]
    constructor
    · rintro (⟨t, ht, e⟩ | e)
      · exact ⟨t, by omega, e⟩
      · exact ⟨j, by omega, e⟩
    · rintro ⟨t, ht, e⟩
      by_cases w : t = j
      · exact Or.inr (w ▸ e)
      · exact Or.inl ⟨t, by omega, e⟩
theorem any_all {F : Fa} (hF : okF F) {s : Sc} (hs : okS F s) {p : Nat} (hp : p < fN F) : anyS s (fM F) p = decide (sHu s p ≠ -1) := by
  have hm := hF.m
  rw [Bool.eq_iff_iff, any_ex, decide_eq_true_eq]
  constructor
  · rintro ⟨t, ht, e⟩ w
    rw [e] at w
    exact nI_m1 (by omega) w
  · intro h
    exact (hs.1 p hp).resolve_left h
theorem all_hum {F : Fa} (hF : okF F) {s : Sc} (hs : okS F s) : msk (anyS s (fM F)) (fN F) = msk (fun p => decide (sHu s p ≠ -1)) (fN F) := msk_congr _ (fun _ hp => any_all hF hs hp)
/-- who is named and doesn't hum it doesn't count -/
theorem stp_cg {W V : Nat → Bool} {s : Sc} {t : Int32} : ∀ n, (∀ p, p < n → sHu s p = t → W p = V p) → stpS W s t n = stpS V s t n ∧ lstS W s t n = lstS V s t n
  | 0, _ => ⟨rfl, rfl⟩
  | n + 1, h => by
    obtain ⟨a, b⟩ := stp_cg (s := s) (t := t) n (fun p hp => h p (by omega))
    have e : (decide (sHu s n = t) && W n) = (decide (sHu s n = t) && V n) := by
      by_cases w : sHu s n = t
      · rw [h n (by omega) w]
      · simp [w]
    simp only [stpS, lstS]
    rw [a, b, e]
    exact ⟨rfl, rfl⟩
theorem tun_cg {F : Fa} {W V : Nat → Bool} {s : Sc} {t : Nat} (h : ∀ p, p < fN F → sHu s p = nI t → W p = V p) : tunS F W s t = tunS F V s t ∧ tunD F W s t = tunD F V s t := by
  obtain ⟨a, b⟩ := stp_cg (s := s) (t := nI t) (fN F) h
  have c : fallS F W s (nI t) = fallS F V s (nI t) := by unfold fallS; rw [a]
  have e : newS F W s (nI t) = newS F V s (nI t) := by unfold newS; rw [b]
  unfold tunS tunD
  rw [c, e, a]
  exact ⟨rfl, rfl⟩
theorem tun_skip {F : Fa} {W : Nat → Bool} {s : Sc} {t : Nat} (h : ∀ p, p < fN F → sHu s p = nI t → W p = false) : tunS F W s t = s ∧ tunD F W s t = 0 := by
  have e := stp_none (F := F) (W := W) (s := s) (t := nI t) (fN F) h
  have c : fallS F W s (nI t) = false := by
    unfold fallS
    rw [e]
    by_cases w : humS F (sHu s) (nI t) = 0 <;> simp [w]
  unfold tunS tunD
  rw [c, e]
  exact ⟨rfl, rfl⟩
theorem tun_hu {F : Fa} {W : Nat → Bool} {s : Sc} {t p : Nat} (hp : p < fN F) : sHu (tunS F W s t) p = if sHu s p = nI t ∧ W p = true then -1 else sHu s p := by
  have e : sHu (tunS F W s t) p = sHu (stpS W s (nI t) (fN F)) p := by
    unfold tunS
    split <;> rfl
  rw [e, stp_hu]
  by_cases w : sHu s p = nI t ∧ W p = true
  · rw [if_pos ⟨hp, w⟩, if_pos w]
  · rw [if_neg (fun q => w q.2), if_neg w]
/-- where all whom W names hum one tune, only that one counts -/
theorem all_one {F : Fa} (hF : okF F) {W : Nat → Bool} {s : Sc} {t : Nat} (ht : t < fM F) (h : ∀ p, p < fN F → W p = true → sHu s p = nI t) : ∀ n, n ≤ fM F → allS F W s n = (if t < n then tunS F W s t else s) ∧ allD F W s n = (if t < n then tunD F W s t else 0)
  | 0, _ => ⟨rfl, rfl⟩
  | n + 1, hn => by
    have hm := hF.m
    obtain ⟨a, b⟩ := all_one hF ht h n (by omega)
    simp only [allS, allD]
    rw [a, b]
    by_cases e : t = n
    · subst e
      rw [if_neg (Nat.lt_irrefl t), if_neg (Nat.lt_irrefl t), if_pos (by omega), if_pos (by omega)]
      exact ⟨rfl, by simp⟩
    · by_cases w : t < n
      · rw [if_pos w, if_pos w, if_pos (by omega), if_pos (by omega)]
        have := tun_skip (F := F) (W := W) (s := tunS F W s t) (t := n) (fun p hp hq => by
          rw [tun_hu hp] at hq
          by_cases v : sHu s p = nI t ∧ W p = true
          · rw [if_pos v] at hq
            exact absurd hq.symm (nI_m1 (by omega))
          · cases hw : W p with
            | false => rfl
            | true => exact absurd ⟨h p hp hw, hw⟩ v)
        rw [this.1, this.2]
        exact ⟨rfl, by simp⟩
      · rw [if_neg w, if_neg w, if_neg (by omega), if_neg (by omega)]
        have := tun_skip (F := F) (W := W) (s := s) (t := n) (fun p hp hq => by
          cases hw : W p with
          | false => rfl
          | true =>
            have := h p hp hw
            rw [hq, nI_eq (by omega) (by omega)] at this
            omega)
        rw [this.1, this.2]
        exact ⟨rfl, by simp⟩
theorem all_none {F : Fa} {W : Nat → Bool} {s : Sc} (h : ∀ p, p < fN F → W p = true → sHu s p = -1) (hm : fM F ≤ 6) : ∀ n, n ≤ fM F → allS F W s n = s ∧ allD F W s n = 0
  | 0, _ => ⟨rfl, rfl⟩
  | n + 1, hn => by
    obtain ⟨a, b⟩ := all_none h hm n (by omega)
    simp only [allS, allD]
    rw [a, b]
    have := tun_skip (F := F) (W := W) (s := s) (t := n) (fun p hp hq => by
      cases hw : W p with
      | false => rfl
      | true =>
        have := h p hp hw
        rw [hq] at this
        exact absurd this (nI_m1 (by omega)))
    rw [this.1, this.2]
    exact ⟨rfl, by simp⟩
theorem fall_z {F : Fa} (hF : okF F) {x : Int32} {s : Sc} {t : Int32} (h : humS F (sHu s) t &&& x = 0) : fallS F (bitW x) s t = false ∧ stpS (bitW x) s t (fN F) = s := by
  have hn := hF.n
  unfold humS at h
  rw [msk_andx (by omega), msk_z (by omega)] at h
  have e := stp_none (F := F) (W := bitW x) (s := s) (t := t) (fN F) (fun p hp hq => by
    have := h p hp
    simpa [hq] using this)
  refine ⟨?_, e⟩
  unfold fallS
  rw [e]
  by_cases w : humS F (sHu s) t = 0 <;> simp [w]
/-- where a tune falls silent, all who hummed it are named -/
theorem fall_all {F : Fa} (hF : okF F) {x : Int32} {s : Sc} {t : Int32} (ht : t ≠ -1) (h : humS F (sHu (stpS (bitW x) s t (fN F))) t = 0) : humS F (sHu s) t &&& x = humS F (sHu s) t := by
  have hn := hF.n
  rw [hum_z hF] at h
  unfold humS
  rw [msk_andx (by omega)]
  apply msk_congr
  intro j hj
  have := h j hj
  rw [stp_hu] at this
  by_cases w : sHu s j = t
  · by_cases v : bitW x j = true
    · simp [v]
    · rw [if_neg (fun q => v q.2.2)] at this
      exact absurd w this
  · simp [w]
theorem hum_w {F : Fa} (hF : okF F) {hu : Fn} {t : Int32} {p : Nat} (hp : p < fN F) : bitW (humS F hu t) p = decide (hu p = t) := bitW_mskn (by have := hF.n; omega) hp
theorem one_w {p q : Nat} (hp : p < 32) (hq : q < 32) : bitW (bit1 (nI p)) q = decide (q = p) := bitW_bit1 hp hq
/-! wide frames: all of a scene -/
def frW (b a : Nat) : Bool := a == 26 || a == 27 || (decide (b ≤ a) && decide (a ≤ b + 9))
def FrW (b : Nat) (M M1 : Nat → Fn) : Prop := Fr (frW b) M M1 ∧ ∀ k, k ≠ 2 → k ≠ 13 → M1 b k = M b k
theorem FrW_rf (b : Nat) (M : Nat → Fn) : FrW b M M := ⟨Fr_rf _ _, fun _ _ _ => rfl⟩
theorem FrW_tr {b : Nat} {M M1 M2 : Nat → Fn} (h : FrW b M M1) (h2 : FrW b M1 M2) : FrW b M M2 := ⟨Fr_tr h.1 h2.1, fun k a c => (h2.2 k a c).trans (h.2 k a c)⟩
theorem frWC {b a : Nat} (h : frW b a = false) : frC b a = false := by
  unfold frW at h
  unfold frC
  simp only [Bool.or_eq_false_iff, beq_eq_false_iff_ne, Bool.and_eq_false_imp, decide_eq_true_eq, decide_eq_false_iff_not] at h ⊢
  obtain ⟨⟨h1, h2⟩, h3⟩ := h
  refine ⟨⟨⟨⟨⟨⟨⟨h1, h2⟩, ?_⟩, ?_⟩, ?_⟩, ?_⟩, ?_⟩, ?_⟩ <;> intro e <;> exact h3 (by omega) (by omega)
theorem FrW_C {b : Nat} {M M1 : Nat → Fn} (h : FrC b M M1) : FrW b M M1 := ⟨Fr_mn h.1 (fun _ ha => frWC ha), h.2⟩
theorem FrW_wr {b : Nat} {M M1 : Nat → Fn} (h : FrW b M M1) {a j : Nat} {x : Int32} (ha : frW b a = true) (hb : b ≠ a) : FrW b M (lm_wr M1 a j x) := by
  refine ⟨Fr_wr h.1 ha, fun k a1 a2 => ?_⟩
  rw [wr_row hb]
  exact h.2 k a1 a2
/-- a scene without what follows from it -/
def PC (b : Nat) (M : Nat → Fn) (F : Fa) (s : Sc) : Prop := KC M F ∧ M b 2 = sHr s ∧ Ag (fN F) (M (b + 1)) (sBr s) ∧ Ag (fN F) (M (b + 2)) (sPl s) ∧ Ag (fN F) (M (b + 3)) (sCo s) ∧ Ag (fN F) (M (b + 4)) (sHu s) ∧ Ag (fN F) (M (b + 5)) (sHd s) ∧ Ag (fN F) (M (b + 6)) (sId s) ∧ Ag (fM F) (M (b + 7)) (sOw s)
theorem PC.n {b : Nat} {M : Nat → Fn} {F : Fa} {s : Sc} (h : PC b M F s) : M 14 0 = nI (fN F) := h.1.1
theorem PC.m {b : Nat} {M : Nat → Fn} {F : Fa} {s : Sc} (h : PC b M F s) : M 14 6 = nI (fM F) := h.1.2.1
theorem PC.e {b : Nat} {M : Nat → Fn} {F : Fa} {s : Sc} (h : PC b M F s) : M 14 9 = fE F := h.1.2.2.1
theorem PC.wh {b : Nat} {M : Nat → Fn} {F : Fa} {s : Sc} (h : PC b M F s) : Ag (fN F) (M 19) (fWh F) := h.1.2.2.2.2.1
theorem PC.w01 {b : Nat} {M : Nat → Fn} {F : Fa} {s : Sc} (h : PC b M F s) : ∀ p, p < fN F → fWh F p = 0 ∨ fWh F p = 1 := h.1.2.2.2.2.2.2.1
theorem PC.pl {b : Nat} {M : Nat → Fn} {F : Fa} {s : Sc} (h : PC b M F s) : Ag (fN F) (M (b + 2)) (sPl s) := h.2.2.2.1
theorem PC.hu {b : Nat} {M : Nat → Fn} {F : Fa} {s : Sc} (h : PC b M F s) : Ag (fN F) (M (b + 4)) (sHu s) := h.2.2.2.2.2.1
theorem PC_RC {b : Nat} {M : Nat → Fn} {F : Fa} {s : Sc} (h : PC b M F s) (h1 : Ag (fM F) (M (b + 8)) (fun t => humS F (sHu s) (nI t))) (h2 : Ag (fN F) (M (b + 9)) (heardS F (sPl s))) : RC b M F s :=
  ⟨h.1, h.2.1, h.2.2.1, h.2.2.2.1, h.2.2.2.2.1, h.2.2.2.2.2.1, h.2.2.2.2.2.2.1, h.2.2.2.2.2.2.2.1, h.2.2.2.2.2.2.2.2, h1, h2⟩
theorem RC_PC {b : Nat} {M : Nat → Fn} {F : Fa} {s : Sc} (h : RC b M F s) : PC b M F s := ⟨h.1, h.hr, h.br, h.pl, h.co, h.hu, h.hd, h.id, h.ow⟩
def plS (s : Sc) (p : Nat) (x : Int32) : Sc := (sHr s, sBr s, upd (sPl s) p x, sCo s, sHu s, sHd s, sId s, sOw s)
def brS (s : Sc) (p : Nat) (x : Int32) : Sc := (sHr s, upd (sBr s) p x, sPl s, sCo s, sHu s, sHd s, sId s, sOw s)
def frO (b a : Nat) : Bool := a == b
