/-! more answers under agreement -/
theorem hag_house {w v : Int → Int} (h : hag w v) (x1 : Int) : ca_house w x1 = ca_house v x1 := by unfold ca_house; rw [h.1.1]
theorem hag_lift {w v : Int → Int} (h : hag w v) (x1 x2 : Int) : ca_lift w x1 x2 = ca_lift v x1 x2 := by unfold ca_lift; rw [h.1.1]
theorem hag_line {w v : Int → Int} (h : hag w v) (x1 x2 x3 : Int) : ca_line w x1 x2 x3 = ca_line v x1 x2 x3 := by
  unfold ca_line
  by_cases c : (0 ≤ x1 ∧ x1 ≤ 1) ∧ (1 ≤ x2 ∧ x2 ≤ 30) ∧ (0 ≤ x3 ∧ x3 ≤ 29)
  · rw [if_pos c, if_pos c]
    have b := h.2.1
    rcases (show x1 = 0 ∨ x1 = 1 by omega) with e | e <;> subst e
    · show 100 * w 13 + w 15 = 100 * v 13 + v 15
      rw [b.1, b.2.2.1]
    · show 100 * w 14 + w 16 = 100 * v 14 + v 16
      rw [b.2.1, b.2.2.2]
  · rw [if_neg c, if_neg c]
theorem hag_passes {w v : Int → Int} (h : hag w v) (x1 : Int) : ca_passes w x1 = ca_passes v x1 := by unfold ca_passes; rw [h.1.2.2.1]
theorem hag_note {w v : Int → Int} (h : hag w v) (x1 x2 x3 x4 : Int) : ca_note w x1 x2 x3 x4 = ca_note v x1 x2 x3 x4 := by unfold ca_note; rw [h.1.1, h.1.2.1, h.1.2.2.2.1]
theorem hag_where {w v : Int → Int} (h : hag w v) (x1 x2 : Int) : ca_where w x1 x2 = ca_where v x1 x2 := by
  unfold ca_where
  rw [← h.1.1]
  by_cases c : (0 ≤ x1 ∧ x1 < w 0) ∧ (0 ≤ x2 ∧ x2 ≤ 999)
  · have d := h.2.2.1 x1 c.1.1 c.1.2
    rw [if_pos c, if_pos c]
    show c_floor (w (5 + x1)) (w 1) (w (9 + x1)) x2 = c_floor (v (5 + x1)) (v 1) (v (9 + x1)) x2
    rw [d.1, d.2, h.1.2.1]
  · rw [if_neg c, if_neg c]
theorem hag_ct {w v : Int → Int} (h : hag w v) (L x1 : Int) : ca_ct w L x1 = ca_ct v L x1 := by
  unfold ca_ct ctn
  rw [h.1.1, h.1.2.1, h.1.2.2.1, h.1.2.2.2.1, h.1.2.2.2.2]
