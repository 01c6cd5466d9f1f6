def pw10 (k : Int) : Int := if k = 0 then 1 else if k = 1 then 10 else if k = 2 then 100 else if k = 3 then 1000 else 10000
theorem pw10_s {a k : Int} (h : a ≤ pw10 k) (hk : 0 ≤ k ∧ k < 4) : a ≤ pw10 (k + 1) ∧ a * 10 ≤ pw10 (k + 1) := by
  unfold pw10 at *
  (repeat' split at h) <;> (repeat' split) <;> omega
theorem pw10_4 {a k : Int} (h : a ≤ pw10 k) : a ≤ 10000 := by
  unfold pw10 at h
  (repeat' split at h) <;> omega
theorem mulb {t a c : Int} (ht : 0 ≤ t ∧ t ≤ a) (hc : 0 ≤ c ∧ c ≤ 10) : 0 ≤ t * c ∧ t * c ≤ a * 10 := ⟨Int.mul_nonneg ht.1 hc.1, Int.mul_le_mul ht.2 hc.2 hc.1 (by omega)⟩
theorem ctn_r {w : Int → Int} {L x : Int} (h : hok w) (hL : 0 ≤ L ∧ L ≤ 150) : 0 ≤ ctn w L x ∧ ctn w L x ≤ 999 := by
  have := h.b
  unfold ctn
  (repeat' split) <;> omega
