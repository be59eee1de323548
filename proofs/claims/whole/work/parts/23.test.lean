def lm_ptab : List (List (Option Nat)) := [[some 1, some 14, some 28, some 38, some 48, some 49, some 52, some 57, none, some 62, some 63], [some 2, none, some 3, none, none, none, none, none, none, none, none, none], [], [none, some 4, some 5, some 6, some 7, some 8, none, some 9, some 10, none, some 11, none, some 12, some 13], [], [], [], [], [], [], [], [], [], [], [none, some 15, some 16, some 17, some 18, some 19, none, some 20, some 21, none, some 22, none, some 23, some 24], [], [], [], [], [], [], [], [], [], [], [some 26, some 27], [], [], [some 14, some 25, none, some 29, some 30, some 31, some 32, some 33, some 34, some 35, some 36, some 37, none, none], [], [], [], [], [], [], [], [], [], [some 14, some 25, none, some 39, some 40, some 41, some 42, some 43, some 44, some 45, some 46, some 47, none, none], [], [], [], [], [], [], [], [], [], [some 14, some 28], [some 14, some 28, some 50, some 51, none, none, none], [], [], [some 53, some 54, none, some 55, none, some 56], [], [], [], [], [some 58, some 59, none, some 60, none, some 61], [], [], [], [], [], [], [some 65, some 66, some 67, some 66, none, some 68, some 69, some 70, some 71, some 72, some 73, some 74, some 75, some 76, some 77, some 78, some 79, some 80, none, none, none, none, none, none, none, none, none, none, none, some 81, some 82, some 83, some 84, some 85, some 86, some 87, none, none, none, some 88, some 89, none, none, some 90, some 91, some 92, some 93, some 94, some 95, some 96, some 97, none, some 98, none, none, none, none, some 99, some 100, some 101, some 102, some 103, some 104], [some 1000, some 1001], [some 1006, some 1007, some 1008, some 1009, some 1010, some 1011], [some 1006, some 1007, some 1008, some 1009, some 1010, some 1012], [], [], [], [], [], [], [], [], [], [], [], [], [], [], [], [], [], [], [], [], [], [], [], [], [], [], [], [], [], [], [], [], [], [], [], [], [], []]
def lm_P1 (a j : Nat) : Option Nat := (lm_ptab.getD a []).getD j none
def lm_PV (v : Nat) : Nat → Nat → Option Nat := lm_wp (fun b => if b = 105 then (fun _ => none) else lm_P1 b) 64 3 (some v)
abbrev lm_T (M : Nat → Nat → Int32) (v : Nat) (G : Nat → Nat → Int64) : lm_S := (M, lm_PV v, G, 106)
def orF (f : Nat → Int32) : Nat → Int32
  | 0 => 0
  | n + 1 => orF f n ||| f n
theorem c_test {X : lm_X} {d v : Nat} {M : Nat → Nat → Int32} {G : Nat → Nat → Int64} {Q : lm_O → lm_S → Prop} (T : Nat) (hT : M 14 6 = nI T) (hT6 : T ≤ 6) (hQ : Q (.inl (some (.int (orF (M 36) T)))) (lm_T M v G)) : lm_Q X d 59 [.ref 28] (lm_T M v G) Q := by
  show lm_G X d 59 106 0 0 0 [some (.ref 28), none, none] [] (lm_T M v G) Q
  refine lm_G_sg 4 (pc' := 4) (L' := [some (.ref 28), some (.int 0), some (.int 0)]) (S' := []) (σ' := lm_T M v G) rfl trivial ?_
  have loop : ∀ n j, j + n = T → lm_G X d 59 106 0 0 4 [some (.ref 28), some (.int (orF (M 36) j)), some (.int (nI j))] [] (lm_T M v G) Q := by
    intro n
    induction n with
    | zero =>
      intro j hj
      refine lm_G_sg 4 (pc' := 12) (L' := [some (.ref 28), some (.int (orF (M 36) j)), some (.int (nI j))]) (S' := [.int (M 14 6), .int (nI j)]) (σ' := lm_T M v G) rfl trivial ?_
      refine lm_G_br (t := 30) rfl (fun _ => ?_) (fun h => absurd (by rw [hT]; exact nI_le (by omega) (by omega)) h)
      refine lm_G_sg 1 (pc' := 31) (L' := [some (.ref 28), some (.int (orF (M 36) j)), some (.int (nI j))]) (S' := [.int (orF (M 36) j)]) (σ' := lm_T M v G) rfl trivial ?_
      have e : j = T := by omega
      subst e
      exact lm_G_re rfl trivial (Nat.zero_le _) (Nat.zero_le _) hQ
    | succ n ih =>
      intro j hj
      refine lm_G_sg 4 (pc' := 12) (L' := [some (.ref 28), some (.int (orF (M 36) j)), some (.int (nI j))]) (S' := [.int (M 14 6), .int (nI j)]) (σ' := lm_T M v G) rfl trivial ?_
      refine lm_G_br (t := 30) rfl (fun h => absurd h (by rw [hT]; exact nI_ge (by omega) (by omega))) (fun _ => ?_)
      refine lm_G_sg 9 (pc' := 4) (L' := [some (.ref 28), some (.int (orF (M 36) j ||| M 36 (nI j).toNatClampNeg)), some (.int (nI j + 1))]) (S' := []) (σ' := lm_T M v G) rfl ⟨vp_in_nI (by omega) (by omega), trivial, trivial⟩ ?_
      rw [nI_clamp (by omega), nI_1]
      exact ih (j + 1) (by omega)
  exact loop T 0 (by omega)
