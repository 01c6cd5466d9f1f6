/-! what is seen is the same in houses that agree -/
theorem hag_seen {w v : Int → Int} (h : hag w v) {L : Int} (hL : 0 ≤ L ∧ L < w 0) (f m : Int) : c_seen w L f m = c_seen v L f m := by
  have c := h.2.2.1 L hL.1 hL.2
  unfold c_seen
  show (c_opens (w (5 + L)) (w 1) f && decide (c_floor (w (5 + L)) (w 1) (w (9 + L)) m = f)) = (c_opens (v (5 + L)) (v 1) f && decide (c_floor (v (5 + L)) (v 1) (v (9 + L)) m = f))
  rw [c.1, c.2, h.1.2.1]
theorem hag_wy {w v : Int → Int} (h : hag w v) {L : Int} (hL : 0 ≤ L ∧ L < w 0) (m : Int) : c_wy w L m = c_wy v L m := by
  have c := h.2.2.1 L hL.1 hL.2
  show c_way (w (5 + L)) (w 1) (w (9 + L)) m = c_way (v (5 + L)) (v 1) (v (9 + L)) m
  rw [c.1, c.2, h.1.2.1]
theorem hag_sf {w v : Int → Int} (h : hag w v) (f m y : Int) : c_sf w f m y = c_sf v f m y := by
  unfold c_sf
  rw [← h.1.1]
  refine srI_congr (by decide) (fun j a b => ?_)
  unfold c_sfP
  rw [hag_seen h ⟨a, b⟩, hag_wy h ⟨a, b⟩]
theorem hag_wo {w v : Int → Int} (h : hag w v) (f m y : Int) : c_wo w f m y = c_wo v f m y := by
  unfold c_wo
  refine srI_congr (by decide) (fun j a b => ?_)
  unfold c_woP
  rw [hag_sf h]
theorem hag_wf {w v : Int → Int} (h : hag w v) {L : Int} (hL : 0 ≤ L ∧ L < w 0) (f m : Int) : c_wf w L f m = c_wf v L f m := by
  unfold c_wf
  refine srI_congr (by decide) (fun j a b => ?_)
  unfold c_wfP
  rw [hag_seen h hL]
theorem hag_rd {w v : Int → Int} (h : hag w v) (f t m y : Int) : c_rd w f t m y = c_rd v f t m y := by
  by_cases e : f = t
  · rw [c_rd_0 e, c_rd_0 e]
  · by_cases e1 : c_wo w f m y = -1
    · rw [c_rd_n e e1, c_rd_n e (by rw [← hag_wo h]; exact e1)]
    · have hL := c_sf_ne e1
      rw [c_rd_k e e1 rfl, c_rd_k (w := v) e (by rw [← hag_wo h]; exact e1) rfl, ← hag_wo h, ← hag_sf h, ← hag_wf h ⟨hL.1, hL.2.1⟩]
