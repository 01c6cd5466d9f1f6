/-! porters: small powers -/
theorem pw10_m {k : Int} (h : 0 ≤ k ∧ k < 4) : pw10 k * 10 = pw10 (k + 1) := by
  rcases (show k = 0 ∨ k = 1 ∨ k = 2 ∨ k = 3 by omega) with e | e | e | e <;> subst e <;> decide
theorem pw10_b (k : Int) : 1 ≤ pw10 k ∧ pw10 k ≤ 10000 := by
  unfold pw10; (repeat' split) <;> omega
theorem p2_b {n : Int} (h : 0 ≤ n ∧ n ≤ 4) : (1 : Int) ≤ 2 ^ n.toNat ∧ (2 : Int) ^ n.toNat ≤ 16 := by
  rcases (show n = 0 ∨ n = 1 ∨ n = 2 ∨ n = 3 ∨ n = 4 by omega) with e | e | e | e | e <;> subst e <;> decide
theorem mulpw {p c j : Int} (h : 0 ≤ p ∧ p ≤ pw10 j) (hc : 0 ≤ c ∧ c ≤ 10) (hj : 0 ≤ j ∧ j < 4) : 0 ≤ p * c ∧ p * c ≤ pw10 (j + 1) := by
  have h1 := mulb h hc
  have h2 := pw10_m hj
  omega
