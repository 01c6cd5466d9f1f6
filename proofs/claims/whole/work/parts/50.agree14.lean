/-! the answers are the same in houses that agree -/
theorem hag_t0 {w v : Int → Int} (h : hag w v) (b : Int) : c_t0 w b = c_t0 v b := by
  unfold c_t0
  refine sumR_congr (by decide) (fun k a c => ?_)
  unfold c_t0F
  rw [h.2.1.1, h.2.1.2.1, h.2.1.2.2.1, h.2.1.2.2.2]
theorem hag_mwS {w v : Int → Int} (h : hag w v) (f y : Int) : mwS w f y = mwS v f y := sumR_congr (by decide) (fun k a c => by unfold c_mwF; rw [hag_wo h])
theorem hag_mwN {w v : Int → Int} (h : hag w v) (f y : Int) : mwN w f y = mwN v f y := sumR_congr (by decide) (fun k a c => by unfold c_mwN; rw [hag_wo h])
theorem hag_upS {w v : Int → Int} (h : hag w v) (f : Int) : upS w f = upS v f := sumR_congr (by decide) (fun k a c => by unfold c_upF; rw [hag_w1 h])
theorem hag_upN {w v : Int → Int} (h : hag w v) (f : Int) : upN w f = upN v f := sumR_congr (by decide) (fun k a c => by unfold c_upN; rw [hag_w1 h])
theorem hag_ofS {w v : Int → Int} (h : hag w v) (x1 x2 : Int) : ofS w x1 x2 = ofS v x1 x2 := by unfold ofS; rw [hag_upS h, hag_mwS h]
theorem hag_ofN {w v : Int → Int} (h : hag w v) (x1 x2 : Int) : ofN w x1 x2 = ofN v x1 x2 := by unfold ofN; rw [hag_upN h, hag_mwN h]
theorem hag_first {w v : Int → Int} (h : hag w v) (x1 x2 x3 : Int) : ca_first w x1 x2 x3 = ca_first v x1 x2 x3 := by
  unfold ca_first
  rw [hag_wo h, hag_sf h, hag_w1 h, h.1.2.1]
theorem hag_often {w v : Int → Int} (h : hag w v) (x1 x2 : Int) : ca_often w x1 x2 = ca_often v x1 x2 := by unfold ca_often; rw [hag_ofS h, hag_ofN h, h.1.2.1]
theorem hag_own {w v : Int → Int} (h : hag w v) (x1 x2 : Int) : ca_own w x1 x2 = ca_own v x1 x2 := by unfold ca_own; rw [hag_mwS h, hag_mwN h, h.1.2.1]
theorem hag_ride {w v : Int → Int} (h : hag w v) (x1 x2 x3 x4 : Int) : ca_ride w x1 x2 x3 x4 = ca_ride v x1 x2 x3 x4 := by unfold ca_ride; rw [hag_rd h, h.1.2.1]
theorem hag_even {w v : Int → Int} (h : hag w v) : ca_even w = ca_even v := by
  have e : evS w = evS v := by
    funext b s
    unfold evS evX
    rw [hag_t0 h]
  unfold ca_even
  rw [e]
theorem hag_walk {w v : Int → Int} (h : hag w v) (x1 x2 x3 x4 : Int) : ca_walk w x1 x2 x3 x4 = ca_walk v x1 x2 x3 x4 := by
  have e : wkS w x1 x2 x3 = wkS v x1 x2 x3 := by
    funext k s
    unfold wkS wkT
    rw [hag_rd h]
  unfold ca_walk wkR
  rw [e, h.1.2.1]
theorem hag_is {w v : Int → Int} (h : hag w v) (x1 x2 : Int) : ca_is w x1 x2 = ca_is v x1 x2 := by
  unfold ca_is
  rw [← h.1.1]
  by_cases c : (0 ≤ x1 ∧ x1 < w 0) ∧ (0 ≤ x2 ∧ x2 ≤ 1)
  · rw [if_pos c, if_pos c, hag_fk h c.1, hag_fs h c.1]
  · rw [if_neg c, if_neg c]
theorem hag_look {w v : Int → Int} (h : hag w v) (x1 x2 : Int) : ca_look w x1 x2 = ca_look v x1 x2 := by
  unfold ca_look
  rw [← h.1.1, ← h.1.2.1]
  by_cases c : (0 ≤ x1 ∧ x1 < w 0) ∧ (0 ≤ x2 ∧ x2 ≤ w 1)
  · rw [if_pos c, if_pos c, hag_tm h c.1]
  · rw [if_neg c, if_neg c]
theorem hag_days {w v : Int → Int} (h : hag w v) (x1 x2 x3 : Int) : ca_days w x1 x2 x3 = ca_days v x1 x2 x3 := by
  have e : dyS w x1 = dyS v x1 := by
    funext k s
    unfold dyS
    rw [hag_w1 h]
  unfold ca_days
  rw [e, h.1.2.1]
