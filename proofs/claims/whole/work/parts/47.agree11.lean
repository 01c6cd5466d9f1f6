/-! a number taken is a token taken; two houses that agree where it counts -/
theorem tk_rel {tx tz : Int → Int} {M : Nat → Int → Int} (h : tsk tx tz) (r : trel tx tz M) (k : Int) : trel1 tx (t_next tx tz) (m_tkM M k) := by
  have r1 := tok_rel h r
  unfold m_tkM
  split
  · exact r1
  · exact r1
def hag (w v : Int → Int) : Prop := (w 0 = v 0 ∧ w 1 = v 1 ∧ w 2 = v 2 ∧ w 3 = v 3 ∧ w 4 = v 4) ∧ (w 13 = v 13 ∧ w 14 = v 14 ∧ w 15 = v 15 ∧ w 16 = v 16) ∧ (∀ k : Int, 0 ≤ k → k < w 0 → w (5 + k) = v (5 + k) ∧ w (9 + k) = v (9 + k)) ∧ (∀ k : Int, 0 ≤ k → k < w 3 → w (17 + 4 * k) = v (17 + 4 * k) ∧ w (18 + 4 * k) = v (18 + 4 * k) ∧ w (19 + 4 * k) = v (19 + 4 * k) ∧ w (20 + 4 * k) = v (20 + 4 * k)) ∧ (∀ k : Int, 0 ≤ k → k < w 4 → w (41 + k) = v (41 + k))
theorem hag_refl (w : Int → Int) : hag w w := ⟨⟨rfl, rfl, rfl, rfl, rfl⟩, ⟨rfl, rfl, rfl, rfl⟩, fun _ _ _ => ⟨rfl, rfl⟩, fun _ _ _ => ⟨rfl, rfl, rfl, rfl⟩, fun _ _ _ => rfl⟩
theorem hag_ok {w v : Int → Int} (h : hag w v) (hw : hok w) : hok v := by
  obtain ⟨⟨a0, a1, a2, a3, a4⟩, ⟨b0, b1, b2, b3⟩, c, d, e⟩ := h
  obtain ⟨p, q, r, s, t⟩ := hw
  refine ⟨?_, ?_, ?_, ?_, ?_⟩
  · rw [← a0, ← a1, ← a2, ← a3, ← a4]; exact p
  · rw [← b0, ← b1, ← b2, ← b3]; exact q
  · intro k h0 h1
    rw [← a0] at h1
    rw [← (c k h0 h1).1, ← (c k h0 h1).2]
    exact r k h0 h1
  · intro k h0 h1
    rw [← a3] at h1
    have d1 := d k h0 h1
    rw [← d1.1, ← d1.2.1, ← d1.2.2.1, ← d1.2.2.2, ← a0, ← a1]
    exact s k h0 h1
  · intro k h0 h1
    rw [← a4] at h1
    rw [← e k h0 h1]
    exact t k h0 h1
