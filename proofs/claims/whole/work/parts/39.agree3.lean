/-! the class's divisor, with its hundred steps, is the model's -/
theorem mod_half {y r : Int} (hr : 0 < r) (hy : r < y) : 2 * (y % r) < y := by
  have h1 : y % r + r * (y / r) = y := by first | exact Int.emod_add_mul_ediv y r | exact Int.emod_add_ediv y r
  have h2 : 1 ≤ y / r := Int.le_ediv_of_mul_le hr (by omega)
  have h3 : r * 1 ≤ r * (y / r) := Int.mul_le_mul_of_nonneg_left h2 (Int.le_of_lt hr)
  have h4 := Int.emod_lt_of_pos y hr
  omega
theorem eu_gz : ∀ (k n : Nat) {x y : Int}, 2 * k + 1 ≤ n → 0 ≤ x → 0 ≤ y → y < 2 ^ k → eu n x y = gz x y
  | 0, n, x, y, hn, hx, hy, hk => by
    have e : y = 0 := by
      have h9 : y < 1 := hk
      omega
    obtain ⟨m, hm⟩ : ∃ m, n = m + 1 := ⟨n - 1, by omega⟩
    rw [hm, eu, if_pos e, e, gz_0 hx]
  | k + 1, n, x, y, hn, hx, hy, hk => by
    obtain ⟨m, hm⟩ : ∃ m, n = m + 1 + 1 := ⟨n - 2, by omega⟩
    have hp : (2 : Int) ^ (k + 1) = 2 ^ k * 2 := by rw [Int.pow_succ]
    rw [hm, eu]
    by_cases e : y = 0
    · rw [if_pos e, e, gz_0 hx]
    · have hy0 : 0 < y := by omega
      have h1 := Int.emod_nonneg x e
      have h2 := Int.emod_lt_of_pos x hy0
      rw [if_neg e, eu, ← gz_s hx hy0]
      by_cases e2 : x % y = 0
      · rw [if_pos e2, e2, gz_0 hy]
      · have hr0 : 0 < x % y := by omega
        have h3 := mod_half hr0 h2
        have h4 := Int.emod_nonneg y e2
        rw [if_neg e2, ← gz_s hy hr0]
        exact eu_gz k m (by omega) h1 h4 (by omega)
theorem c_gd_eq {a b : Int} (ha : 0 ≤ a) (hb : 0 ≤ b ∧ b < 1000000000) : c_gd a b = gz a b := by
  unfold c_gd
  exact eu_gz 30 _ (by decide) ha hb.1 (by have h9 : (2 : Int) ^ 30 = 1073741824 := by decide
                                           omega)
theorem fsA_eq {a b fa : Int} (ha : 0 ≤ a) (hb : 0 < b ∧ b < 1000000000) : fsA a b fa = a / gz a b := by
  unfold fsA
  rw [c_gd_eq ha (by omega), if_pos (gz_pos hb.1)]
theorem fsB_eq {a b fb : Int} (ha : 0 ≤ a) (hb : 0 < b ∧ b < 1000000000) : fsB a b fb = b / gz a b := by
  unfold fsB
  rw [c_gd_eq ha (by omega), if_pos (gz_pos hb.1)]
