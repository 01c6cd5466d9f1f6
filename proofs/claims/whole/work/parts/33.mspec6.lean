/-! the model's tokens -/
theorem bAt_e {tx : Int → Int} {L k v : Int} (h : bAt tx L k = v) (hv : 0 ≤ v) : k < L ∧ tx k = v := by
  unfold bAt at h
  split at h <;> constructor <;> omega
theorem bAt_l {tx : Int → Int} {L k : Int} (h : 48 ≤ bAt tx L k) : k < L := by
  unfold bAt at h
  split at h <;> omega
theorem bAt_in {tx : Int → Int} {L k : Int} (h : k < L) : bAt tx L k = tx k := if_pos h
theorem ts_stop {tx : Int → Int} {L a : Int} (hc : ¬ bAt tx L a = 32) : skI (blP tx) L a = a := by
  by_cases h9 : a < L
  · exact skI_stop (fun h8 => hc (by rw [bAt_in h9]; exact of_decide_eq_true h8))
  · exact skI_end (by omega)
theorem bz_0 {P : Prop} [Decidable P] (h : bz P = 0) : ¬ P := fun h9 => by rw [bz_t h9] at h; omega
theorem bz_1 {P : Prop} [Decidable P] (h : ¬ bz P = 0) : P := by
  by_cases h9 : P
  · exact h9
  · exact absurd (bz_f h9) h
def teI (M : Nat → Int → Int) (b : Int) : Int := if m_iw M then skI (leP (M 3)) (M 0 0) b else if m_if M then skI (fiP (M 3)) (M 0 0) b else b
theorem teI_step {M : Nat → Int → Int} {b : Int} (hc : (m_iw M ∧ (97 ≤ bAt (M 3) (M 0 0) b ∧ bAt (M 3) (M 0 0) b ≤ 122)) ∨ (m_if M ∧ (48 ≤ bAt (M 3) (M 0 0) b ∧ bAt (M 3) (M 0 0) b ≤ 57))) : teI M b = teI M (b + 1) := by
  unfold teI
  rcases hc with ⟨h1, h2⟩ | ⟨h1, h2⟩
  · have hl := bAt_l (tx := M 3) (L := M 0 0) (k := b) (by omega)
    rw [if_pos h1, if_pos h1]
    exact skI_next hl (decide_eq_true (by rw [← bAt_in (tx := M 3) hl]; exact h2))
  · have hl := bAt_l (tx := M 3) (L := M 0 0) (k := b) (by omega)
    have h3 : m_if M := h1
    have h4 : ¬ m_iw M := fun h9 => by have a1 := h3.2; have a2 := h9.1; omega
    rw [if_neg h4, if_pos h3, if_neg h4, if_pos h3]
    exact skI_next hl (decide_eq_true (by rw [← bAt_in (tx := M 3) hl]; exact h2))
theorem teI_exit {M : Nat → Int → Int} {b : Int} (h1 : ¬ m_iw M ∨ ¬ (97 ≤ bAt (M 3) (M 0 0) b ∧ bAt (M 3) (M 0 0) b ≤ 122)) (h2 : ¬ m_if M ∨ ¬ (48 ≤ bAt (M 3) (M 0 0) b ∧ bAt (M 3) (M 0 0) b ≤ 57)) : teI M b = b := by
  unfold teI
  split
  · rename_i hw
    rcases h1 with h1 | h1
    · exact absurd hw h1
    · by_cases h9 : b < M 0 0
      · exact skI_stop (fun h8 => h1 (by rw [bAt_in h9]; exact of_decide_eq_true h8))
      · exact skI_end (by omega)
  · split
    · rename_i hw
      rcases h2 with h2 | h2
      · exact absurd hw h2
      · by_cases h9 : b < M 0 0
        · exact skI_stop (fun h8 => h2 (by rw [bAt_in h9]; exact of_decide_eq_true h8))
        · exact skI_end (by omega)
    · rfl
theorem teI_1 {M : Nat → Int → Int} (h : m_ts M < M 0 0) : m_te M = teI M (m_ts M + 1) := by
  unfold m_te teI
  rw [if_pos h]
theorem teI_0 {M : Nat → Int → Int} (h : M 0 0 ≤ m_ts M) : m_te M = teI M (m_ts M + 0) := by
  have hb1 : bAt (M 3) (M 0 0) (m_ts M) = -1 := if_neg (by omega)
  have a1 : ¬ m_iw M := fun h9 => by have a2 := h9.1; omega
  have a2 : ¬ m_if M := fun h9 => by have a2 := h9.1; omega
  unfold m_te teI
  rw [if_neg (by omega), if_neg a1, if_neg a2]
  omega
