/-! ===== tools: locals that nobody reads, loops, rows that agree ===== -/
/-- as the first, with ints or references where it has nothing -/
def lm_le : lm_L → lm_L → Prop
  | [], [] => True
  | none :: a, some (.int _) :: b => lm_le a b
  | none :: a, some (.ref _) :: b => lm_le a b
  | x :: a, y :: b => x = y ∧ lm_le a b
  | _, _ => False
theorem lm_le_cons {x y : Option Value} {a b : lm_L} (h : lm_le (x :: a) (y :: b)) : (x = y ∨ (x = none ∧ ∃ v : Value, y = some v ∧ v.category = 1)) ∧ lm_le a b := by
  cases x with
  | none =>
    cases y with
    | none => exact ⟨Or.inl rfl, h.2⟩
    | some v =>
      cases v with
      | int z => exact ⟨Or.inr ⟨rfl, _, rfl, rfl⟩, h⟩
      | ref z => exact ⟨Or.inr ⟨rfl, _, rfl, rfl⟩, h⟩
      | _ => exact absurd h.1 (by intro q; cases q)
  | some u => exact ⟨Or.inl h.1, h.2⟩
theorem lm_le_of {x y : Option Value} {a b : lm_L} (h : x = y ∨ (x = none ∧ ((∃ z, y = some (.int z)) ∨ ∃ z, y = some (.ref z)))) (h2 : lm_le a b) : lm_le (x :: a) (y :: b) := by
  rcases h with h | ⟨h, ⟨z, hz⟩ | ⟨z, hz⟩⟩
  · subst h
    cases x with
    | none => exact ⟨rfl, h2⟩
    | some v => exact ⟨rfl, h2⟩
  · subst h; subst hz; exact h2
  · subst h; subst hz; exact h2
theorem lm_le_len : ∀ {a b : lm_L}, lm_le a b → a.length = b.length
  | [], [], _ => rfl
  | [], _ :: _, h => by cases h
  | x :: _, [], h => by cases x <;> cases h
  | _ :: _, _ :: _, h => by
    have := lm_le_len (lm_le_cons h).2
    simp [this]
theorem lm_le_at : ∀ {a b : lm_L}, lm_le a b → ∀ (k : Nat) (v : Value), a[k]? = some (some v) → b[k]? = some (some v)
  | [], _, _, k, v, hk => by simp at hk
  | x :: _, [], h, _, _, _ => by cases x <;> cases h
  | x :: a, y :: b, h, 0, v, hk => by
    rcases (lm_le_cons h).1 with q | ⟨q, _⟩
    · rw [← q]; exact hk
    · subst q; simp at hk
  | x :: a, y :: b, h, k + 1, v, hk => by
    have := lm_le_at (lm_le_cons h).2 k v (by simpa using hk)
    simpa using this
theorem lm_le_two : ∀ {a b : lm_L}, lm_le a b → ∀ (k : Nat) (v : Value), b[k]? = some (some v) → v.category = 2 → a[k]? = some (some v)
  | [], [], _, k, v, hk, _ => by simp at hk
  | [], _ :: _, h, _, _, _, _ => by cases h
  | x :: _, [], h, _, _, _, _ => by cases x <;> cases h
  | x :: a, y :: b, h, 0, v, hk, hc => by
    rcases (lm_le_cons h).1 with q | ⟨q, u, hu, hc2⟩
    · rw [q]; exact hk
    · subst hu
      simp at hk
      subst hk
      omega
  | x :: a, y :: b, h, k + 1, v, hk, hc => by
    have := lm_le_two (lm_le_cons h).2 k v (by simpa using hk) hc
    simpa using this
theorem lm_le_set : ∀ {a b : lm_L}, lm_le a b → ∀ (k : Nat) (v : Option Value), lm_le (a.set k v) (b.set k v)
  | [], [], _, _, _ => trivial
  | [], _ :: _, h, _, _ => by cases h
  | x :: _, [], h, _, _ => by cases x <;> cases h
  | x :: a, y :: b, h, 0, v => by
    have h2 := (lm_le_cons h).2
    exact lm_le_of (Or.inl rfl) h2
  | x :: a, y :: b, h, k + 1, v => by
    obtain ⟨h1, h2⟩ := lm_le_cons h
    refine lm_le_of ?_ (lm_le_set h2 k v)
    rcases h1 with q | ⟨q, u, hu, hc2⟩
    · exact Or.inl q
    · refine Or.inr ⟨q, ?_⟩
      subst q
      subst hu
      cases u with
      | int z => exact Or.inl ⟨z, rfl⟩
      | ref z => exact Or.inr ⟨z, rfl⟩
      | _ => exact absurd h.1 (by intro q; cases q)
theorem lm_le_nl {a b : lm_L} (h : lm_le a b) (k : Nat) (hk : lm_nl a k = true) : lm_nl b k = true := by
  cases k with
  | zero => rfl
  | succ k =>
    unfold lm_nl at hk ⊢
    simp only at hk ⊢
    split
    · rename_i x hx
      rw [lm_le_two h k _ hx rfl] at hk
      exact hk
    · rename_i x hx
      rw [lm_le_two h k _ hx rfl] at hk
      exact hk
    · rfl
theorem lm_le_put {a b : lm_L} (h : lm_le a b) {k pc : Nat} {v : Value} {S : List Value} {σ : lm_S} {g : Prop} {pc' : Nat} {L' : lm_L} {S' : List Value} {σ' : lm_S} (hp : lm_put a k v pc S σ = some (g, pc', L', S', σ')) : ∃ L2, lm_put b k v pc S σ = some (g, pc', L2, S', σ') ∧ lm_le L' L2 := by
  unfold lm_put at hp ⊢
  split at hp
  · rename_i hc
    cases hp
    rw [if_pos ⟨by rw [← lm_le_len h]; exact hc.1, lm_le_nl h k hc.2⟩]
    exact ⟨_, rfl, lm_le_set h k _⟩
  · cases hp
theorem lm_le_get {a b : lm_L} (h : lm_le a b) {k t pc : Nat} {S : List Value} {σ : lm_S} {g : Prop} {pc' : Nat} {L' : lm_L} {S' : List Value} {σ' : lm_S} (hp : lm_get a k t pc S σ = some (g, pc', L', S', σ')) : ∃ L2, lm_get b k t pc S σ = some (g, pc', L2, S', σ') ∧ lm_le L' L2 := by
  unfold lm_get at hp ⊢
  split at hp
  · rename_i x hx
    rw [lm_le_at h k _ hx]
    split at hp
    · rename_i ht
      cases hp
      simp only [ht, if_true]
      exact ⟨_, rfl, h⟩
    · cases hp
  · rename_i x hx
    rw [lm_le_at h k _ hx]
    split at hp
    · rename_i ht
      cases hp
      simp only [ht, if_true]
      exact ⟨_, rfl, h⟩
    · cases hp
  · rename_i x hx
    rw [lm_le_at h k _ hx]
    split at hp
    · rename_i ht
      cases hp
      simp only [ht, if_true]
      exact ⟨_, rfl, h⟩
    · cases hp
  · cases hp
/-- an instruction that asks no local -/
theorem lm_le_st {X : lm_X} {r : lm_R} {a b : lm_L} (h : lm_le a b) {S : List Value} {σ : lm_S} {g : Prop} {pc' : Nat} {L' : lm_L} {S' : List Value} {σ' : lm_S} (hp : lm_st X r a S σ = some (g, pc', L', S', σ')) : ∃ L2, lm_st X r b S σ = some (g, pc', L2, S', σ') ∧ lm_le L' L2 := by
  obtain ⟨pc, ins, x, y, w⟩ := r
  cases ins <;> simp only [lm_st] at hp ⊢ <;> first
    | (exact lm_le_get h hp)
    | (cases hp; done)
    | (cases hp; exact ⟨_, rfl, h⟩)
    | (unfold lm_bin at hp ⊢; split at hp <;> first | (cases hp; done) | (cases hp; exact ⟨_, rfl, h⟩))
    | (split at hp <;> first | (cases hp; done) | (exact lm_le_put h hp))
    | (split at hp <;> first | (cases hp; done) | (rename_i hx; rw [lm_le_at h _ _ hx]; exact lm_le_put h hp))
    | (unfold lm_bi at hp ⊢; (repeat' split at hp) <;> first | (cases hp; done) | (cases hp; simp only [*, if_true, if_false]; exact ⟨_, rfl, h⟩) | (cases hp; exact ⟨_, rfl, h⟩))
    | ((repeat' split at hp) <;> first | (cases hp; done) | (cases hp; simp only [*, if_true, if_false]; exact ⟨_, rfl, h⟩) | (cases hp; exact ⟨_, rfl, h⟩))
