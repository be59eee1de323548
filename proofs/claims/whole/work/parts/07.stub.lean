theorem lm_cks (i : Nat) (h : i < 272) : lm_ck (lm_me i, lm_rows i) := sorry
def lm_law : Nat := 272
theorem lm_rok_at {i : Nat} (hi : i < 273) {r : lm_R} {pc : Nat} (h : lm_row i pc = some r) : lm_rok (lm_me i) r = true ∧ r.1 = pc := sorry
