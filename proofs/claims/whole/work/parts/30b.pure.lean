/-! ===== hours keep what must be so ===== -/
theorem ok_sil {F : Fa} {s : Sc} (h : okS F s) (p : Nat) : okS F (silS s p) := by
  refine ⟨fun q hq => ?_, h.2.1, h.2.2⟩
  show upd (sHu s) p (-1) q = -1 ∨ _
  unfold upd
  split
  · exact Or.inl rfl
  · rename_i e
    rcases h.1 q hq with w | ⟨t, ht, w⟩
    · exact Or.inl w
    · refine Or.inr ⟨t, ht, ?_⟩
      show upd (sHu s) p (-1) q = nI t
      rw [pk_un e, w]
theorem ok_own {F : Fa} {s : Sc} (h : okS F s) (t : Nat) {x : Int32} (hx : x = -1 ∨ ∃ p, p < fN F ∧ x = nI p) : okS F (ownT s t x) := by
  refine ⟨h.1, fun u hu => ?_, h.2.2⟩
  show upd (sOw s) t x u = -1 ∨ ∃ p, p < fN F ∧ upd (sOw s) t x u = nI p
  unfold upd
  split
  · exact hx
  · exact h.2.1 u hu
theorem ok_hums {F : Fa} {s : Sc} (h : okS F s) (p : Nat) {t : Nat} (ht : t < fM F) : okS F (hums s p (nI t)) := by
  refine ⟨fun q hq => ?_, h.2.1, h.2.2⟩
  show upd (sHu s) p (nI t) q = -1 ∨ ∃ u, u < fM F ∧ upd (sHu s) p (nI t) q = nI u
  unfold upd
  split
  · exact Or.inr ⟨t, ht, rfl⟩
  · exact h.1 q hq
theorem ok_stp {F : Fa} {W : Nat → Bool} {s : Sc} {t : Int32} (h : okS F s) : ∀ n, okS F (stpS W s t n)
  | 0 => h
  | n + 1 => by
    simp only [stpS]
    split
    · exact ok_sil (ok_stp h n) n
    · exact ok_stp h n
theorem lst_in {W : Nat → Bool} {s : Sc} {t : Int32} : ∀ n, lstS W s t n = -1 ∨ ∃ p, p < n ∧ lstS W s t n = nI p
  | 0 => Or.inl rfl
  | n + 1 => by
    simp only [lstS]
    split
    · exact Or.inr ⟨n, by omega, rfl⟩
    · rcases lst_in (W := W) (s := s) (t := t) n with w | ⟨p, hp, w⟩
      · exact Or.inl w
      · exact Or.inr ⟨p, by omega, w⟩
theorem ok_tun {F : Fa} {W : Nat → Bool} {s : Sc} (h : okS F s) (t : Nat) : okS F (tunS F W s t) := by
  unfold tunS
  split
  · refine ok_own (ok_stp h _) t ?_
    unfold newS
    split
    · exact lst_in _
    · exact Or.inl rfl
  · exact ok_stp h _
theorem ok_all {F : Fa} {W : Nat → Bool} {s : Sc} (h : okS F s) : ∀ n, okS F (allS F W s n)
  | 0 => h
  | n + 1 => ok_tun (ok_all h n) n
theorem ok_boj {F : Fa} {s : Sc} (h : okS F s) (p : Nat) : okS F (bojS F s p) := by
  unfold bojS
  split
  · rename_i t ht
    exact ok_hums h p (fst_lt ht).1
  · split
    · rename_i t ht
      exact ok_hums h p (fst_lt ht).1
    · exact h
theorem ok_beg {F : Fa} {W lf : Nat → Bool} {s : Sc} (h : okS F s) : ∀ n, okS F (begA F W lf s n)
  | 0 => h
  | n + 1 => by
    simp only [begA]
    split
    · exact ok_boj (ok_beg h n) n
    · exact ok_beg h n
theorem ok_tick {F : Fa} {s : Sc} (h : okS F s) : ∀ n, okS F (tickS s n)
  | 0 => h
  | n + 1 => by
    simp only [tickS, tickP]
    split
    · exact ok_tick h n
    · exact ok_tick h n
theorem ok_hour {F : Fa} {lf : Nat → Bool} {s : Sc} (h : okS F s) : okS F (hourS F lf s) := ok_tick (ok_beg (ok_all h _) _) _
theorem ok_hrs {F : Fa} {lf : Nat → Bool} {s : Sc} (h : okS F s) : ∀ n, okS F (hrsS F lf s n)
  | 0 => h
  | n + 1 => ok_hour (ok_hrs h n)
/-! who is named beyond the people doesn't count -/
theorem stp_congr {W V : Nat → Bool} {s : Sc} {t : Int32} : ∀ n, (∀ p, p < n → W p = V p) → stpS W s t n = stpS V s t n ∧ lstS W s t n = lstS V s t n
  | 0, _ => ⟨rfl, rfl⟩
  | n + 1, h => by
    obtain ⟨a, b⟩ := stp_congr (s := s) (t := t) n (fun p hp => h p (by omega))
    simp only [stpS, lstS]
    rw [a, b, h n (by omega)]
    exact ⟨rfl, rfl⟩
theorem tun_congr {F : Fa} {W V : Nat → Bool} (h : ∀ p, p < fN F → W p = V p) (s : Sc) (t : Nat) : tunS F W s t = tunS F V s t ∧ tunD F W s t = tunD F V s t := by
  obtain ⟨a, b⟩ := stp_congr (s := s) (t := nI t) (fN F) h
  have c : fallS F W s (nI t) = fallS F V s (nI t) := by unfold fallS; rw [a]
  have e : newS F W s (nI t) = newS F V s (nI t) := by unfold newS; rw [b]
  unfold tunS tunD
  rw [c, e, a]
  exact ⟨rfl, rfl⟩
theorem all_congr {F : Fa} {W V : Nat → Bool} (h : ∀ p, p < fN F → W p = V p) (s : Sc) : ∀ n, allS F W s n = allS F V s n ∧ allD F W s n = allD F V s n
  | 0 => ⟨rfl, rfl⟩
  | n + 1 => by
    obtain ⟨a, b⟩ := all_congr h s n
    simp only [allS, allD]
    rw [a, b, (tun_congr h _ n).1, (tun_congr h _ n).2]
    exact ⟨rfl, rfl⟩
theorem beg_congr {F : Fa} {W V lf lg : Nat → Bool} {s : Sc} : ∀ n, (∀ p, p < n → W p = V p) → (∀ p, p < n → lf p = lg p) → begA F W lf s n = begA F V lg s n
  | 0, _, _ => rfl
  | n + 1, h, g => by
    have a := beg_congr (F := F) (s := s) n (fun p hp => h p (by omega)) (fun p hp => g p (by omega))
    simp only [begA]
    rw [a, h n (by omega), g n (by omega)]
