/-! the calls that only ask, or set the fraction: class and model stay alike -/
section RA
variable {w0 w2 w3 kp tx tz rf : Int → Int} {fa fb : Int} {M : Nat → Int → Int}
theorem R_of (h : Rel w0 w2 w3 kp tx tz fa fb rf M) (x1 x2 : Int) : Rel w0 w2 w3 kp tx tz fa fb (rfa rf (cc_of w0 x1 x2)) (m_of M x1 x2) := by
  unfold cc_of m_of
  exact h.ask (by rw [h.ag.1.1]) h
theorem R_where (h : Rel w0 w2 w3 kp tx tz fa fb rf M) (x1 x2 : Int) : Rel w0 w2 w3 kp tx tz fa fb (rfa rf (cc_where w0 x1 x2)) (m_where M x1 x2) := by
  unfold cc_where m_where
  exact h.ask (by rw [h.ag.1.1]) h
theorem R_first (h : Rel w0 w2 w3 kp tx tz fa fb rf M) (x1 x2 x3 : Int) : Rel w0 w2 w3 kp tx tz fa fb (rfa rf (cc_first w0 x1 x2 x3)) (m_first M x1 x2 x3) := by
  unfold cc_first m_first
  exact h.ask (by rw [h.ag.1.2.1]) (h.m78 _)
theorem R_ride (h : Rel w0 w2 w3 kp tx tz fa fb rf M) (x1 x2 x3 x4 : Int) : Rel w0 w2 w3 kp tx tz fa fb (rfa rf (cc_ride w0 x1 x2 x3 x4)) (m_ride M x1 x2 x3 x4) := by
  unfold cc_ride m_ride
  refine h.ask (by rw [h.ag.1.2.1]) ?_
  unfold rdM
  split
  · exact h
  · exact h.m78 _
theorem R_walk (h : Rel w0 w2 w3 kp tx tz fa fb rf M) (x1 x2 x3 x4 : Int) : Rel w0 w2 w3 kp tx tz fa fb (rfa rf (cc_ride w0 x1 x2 x3 x4)) (m_walk M x1 x2 x3 x4) := by
  unfold cc_ride m_walk
  exact h.ask (by rw [h.ag.1.2.1]) (h.m78 _)
theorem R_is (h : Rel w0 w2 w3 kp tx tz fa fb rf M) (x1 x2 : Int) : Rel w0 w2 w3 kp tx tz fa fb (rfa rf (cc_is w0 x1 x2)) (m_is M x1 x2) := by
  unfold cc_is m_is
  exact h.ask (by rw [h.ag.1.1]) h
theorem R_look (h : Rel w0 w2 w3 kp tx tz fa fb rf M) (x1 x2 : Int) : Rel w0 w2 w3 kp tx tz fa fb (rfa rf (cc_look w0 x1 x2)) (m_look M x1 x2) := by
  unfold cc_look m_look
  exact h.ask (by rw [h.ag.1.1, h.ag.1.2.1]) h
theorem R_days (h : Rel w0 w2 w3 kp tx tz fa fb rf M) (x1 x2 x3 : Int) : Rel w0 w2 w3 kp tx tz fa fb (rfa rf (cc_days w0 x1 x2 x3)) (m_days M x1 x2 x3) := by
  unfold cc_days m_days
  exact h.ask (by rw [h.ag.1.2.1]) (h.m78 _)
theorem R_part (h : Rel w0 w2 w3 kp tx tz fa fb rf M) (x1 : Int) : Rel w0 w2 w3 kp tx tz fa fb (rfa rf (cc_01 x1)) (m_part M x1) := by
  unfold cc_01 m_part
  exact h.ask Iff.rfl h
theorem R_st (h : Rel w0 w2 w3 kp tx tz fa fb rf M) (x1 : Int) : Rel w0 w2 w3 kp tx tz fa fb (rfa rf (cc_st x1)) (m_st M x1) := by
  unfold cc_st m_st
  exact h.ask Iff.rfl h
theorem R_ct (h : Rel w0 w2 w3 kp tx tz fa fb rf M) (x1 : Int) : Rel w0 w2 w3 kp tx tz fa fb (rfa rf (cc_ct x1)) (m_ct M x1) := by
  unfold cc_ct m_ct
  exact h.ask Iff.rfl h
theorem R_dg (h : Rel w0 w2 w3 kp tx tz fa fb rf M) (v : Int) : Rel w0 w2 w3 kp tx tz fa fb rf (mset M 0 9 v) := h.same rfl rfl rfl rfl rfl rfl rfl
theorem R_mean (h : Rel w0 w2 w3 kp tx tz fa fb rf M) {s n : Int} (hs : 0 ≤ s) (hn : 0 ≤ n ∧ n < 1000000000) : Rel w0 w2 w3 kp tx tz (mnF s n fa) (mnG s n fb) (rfa rf (mnC n)) (mn_M M s n) := by
  unfold mnF mnG mnC mn_M
  by_cases c : n = 0
  · rw [if_pos c, if_pos c, if_pos c, if_pos c, rfa_3 rfl]
    exact h.no
  · rw [if_neg c, if_neg c, if_neg c, if_neg c, rfa_0 rfl, fsA_eq hs (by omega), fsB_eq hs (by omega)]
    exact h.tel rfl rfl
theorem of_bb (w : Int → Int) (x1 x2 : Int) : 0 ≤ ofS w x1 x2 ∧ (0 ≤ ofN w x1 x2 ∧ ofN w x1 x2 < 1000000000) := by
  have h1 := c_up_b w x1 (N := 120) (by decide)
  have h2 := c_mw_b w x1 (-1) (N := 120) (by decide)
  have k1 : (120 : Int) < 1000000000 := by decide
  unfold ofS ofN
  split
  · exact ⟨h1.1.1, h1.2.1, Int.lt_of_le_of_lt h1.2.2 k1⟩
  · exact ⟨h2.1.1, h2.2.1, Int.lt_of_le_of_lt h2.2.2 k1⟩
theorem R_often (h : Rel w0 w2 w3 kp tx tz fa fb rf M) (x1 x2 : Int) : Rel w0 w2 w3 kp tx tz (cf_often w0 x1 x2 fa) (cg_often w0 x1 x2 fb) (rfa rf (cc_often w0 x1 x2)) (m_often M x1 x2) := by
  unfold cf_often cg_often cc_often m_often
  rw [← h.ag.1.2.1, ← hag_ofS h.ag, ← hag_ofN h.ag]
  by_cases c : (0 ≤ x1 ∧ x1 ≤ w0 1) ∧ (0 ≤ x2 ∧ x2 ≤ 1)
  · have hb := of_bb w0 x1 x2
    rw [if_pos c, if_pos c, if_pos c, if_pos c]
    exact R_mean (h.m78 _) hb.1 hb.2
  · rw [if_neg c, if_neg c, if_neg c, if_neg c, rfa_2 rfl]
    exact h.bad
theorem R_own (h : Rel w0 w2 w3 kp tx tz fa fb rf M) (x1 x2 : Int) : Rel w0 w2 w3 kp tx tz (cf_own w0 x1 x2 fa) (cg_own w0 x1 x2 fb) (rfa rf (cc_own w0 x1 x2)) (m_own M x1 x2) := by
  unfold cf_own cg_own cc_own m_own
  rw [← h.ag.1.2.1, ← hag_mwS h.ag, ← hag_mwN h.ag]
  by_cases c : (0 ≤ x1 ∧ x1 ≤ w0 1) ∧ (0 ≤ x2 ∧ x2 ≤ 1)
  · have hb := c_mw_b w0 x1 x2 (N := 120) (by decide)
    rw [if_pos c, if_pos c, if_pos c, if_pos c]
    exact R_mean (h.m78 _) hb.1.1 ⟨hb.2.1, Int.lt_of_le_of_lt hb.2.2 (by decide)⟩
  · rw [if_neg c, if_neg c, if_neg c, if_neg c, rfa_2 rfl]
    exact h.bad
theorem R_lines (h : Rel w0 w2 w3 kp tx tz fa fb rf M) : Rel w0 w2 w3 kp tx tz (fsA (c_t0 w0 0) 60 fa) (fsB (c_t0 w0 0) 60 fb) rf (m_tel M (c_t0 (M 1) 0) 60) := by
  have hb := c_t0_r w0 0
  rw [← hag_t0 h.ag, fsA_eq hb.1 (by decide), fsB_eq hb.1 (by decide)]
  exact h.tel rfl rfl
theorem poR_b {w : Int → Int} {x1 x2 x3 c : Int} (hc : 0 ≤ c ∧ c ≤ 10) : ∀ n : Nat, n ≤ 4 → (0 ≤ (poR w x1 x2 x3 c n).1 ∧ (poR w x1 x2 x3 c n).1 ≤ (poR w x1 x2 x3 c n).2) ∧ (1 ≤ (poR w x1 x2 x3 c n).2 ∧ (poR w x1 x2 x3 c n).2 ≤ 10 ^ n)
  | 0, _ => ⟨⟨(show (0 : Int) ≤ 1 by decide), (show (1 : Int) ≤ 1 by decide)⟩, ⟨(show (1 : Int) ≤ 1 by decide), (show (1 : Int) ≤ 10 ^ 0 by decide)⟩⟩
  | n + 1, hn => by
    have h := poR_b (w := w) (x1 := x1) (x2 := x2) (x3 := x3) hc n (by omega)
    have e1 : poR w x1 x2 x3 c ((n + 1 : Nat) : Int) = poS w x1 x2 x3 c n (poR w x1 x2 x3 c n) := itR_s (i := (n : Int)) (by omega)
    have hp : (10 : Int) ^ (n + 1) = 10 ^ n * 10 := Int.pow_succ ..
    rw [e1, hp]
    generalize poR w x1 x2 x3 c n = s at h ⊢
    generalize (10 : Int) ^ n = T at h ⊢
    obtain ⟨s1, s2⟩ := s
    unfold poS
    split
    · show (0 ≤ s1 * c ∧ s1 * c ≤ s2 * 10) ∧ (1 ≤ s2 * 10 ∧ s2 * 10 ≤ T * 10)
      have h1 : 0 ≤ s1 ∧ s1 ≤ s2 := h.1
      have h2 : 1 ≤ s2 ∧ s2 ≤ T := h.2
      have h3 : 0 ≤ s1 * c := Int.mul_nonneg h1.1 hc.1
      have h4 : s1 * c ≤ s1 * 10 := Int.mul_le_mul_of_nonneg_left hc.2 h1.1
      omega
    · show (0 ≤ s1 ∧ s1 ≤ s2) ∧ (1 ≤ s2 ∧ s2 ≤ T * 10)
      have h1 : 0 ≤ s1 ∧ s1 ≤ s2 := h.1
      have h2 : 1 ≤ s2 ∧ s2 ≤ T := h.2
      omega
theorem poR_b4 {w : Int → Int} (hw : hok w) {x1 x2 x3 c : Int} (hc : 0 ≤ c ∧ c ≤ 10) : 0 ≤ (poR w x1 x2 x3 c (w 0)).2 - (poR w x1 x2 x3 c (w 0)).1 ∧ (0 < (poR w x1 x2 x3 c (w 0)).2 ∧ (poR w x1 x2 x3 c (w 0)).2 < 1000000000) := by
  have hb := hw.b
  have h := poR_b (w := w) (x1 := x1) (x2 := x2) (x3 := x3) hc (w 0).toNat (by omega)
  have hp : (10 : Int) ^ (w 0).toNat ≤ 10000 := by
    rcases (show (w 0).toNat = 0 ∨ (w 0).toNat = 1 ∨ (w 0).toNat = 2 ∨ (w 0).toNat = 3 ∨ (w 0).toNat = 4 by omega) with e | e | e | e | e <;> rw [e] <;> decide
  rw [Int.toNat_of_nonneg hb.2.1.1] at h
  omega
theorem hag_poR {w v : Int → Int} (h : hag w v) (hw : hok w) (x1 x2 x3 c : Int) : poR w x1 x2 x3 c (w 0) = poR v x1 x2 x3 c (v 0) := by
  have hb := hw.b
  unfold poR
  rw [← h.1.1]
  refine itR_congr hb.2.1.1 (fun k s a b => ?_)
  unfold poS
  rw [hag_wf h ⟨a, b⟩]
theorem R_po (h : Rel w0 w2 w3 kp tx tz fa fb rf M) (x1 x2 x3 x4 : Int) : Rel w0 w2 w3 kp tx tz (cf_po w0 x1 x2 x3 x4 fa) (cg_po w0 x1 x2 x3 x4 fb) (rfa rf (cc_po w0 x1 x2 x3 x4)) (m_po M x1 x2 x3 x4) := by
  unfold cf_po cg_po cc_po m_po
  rw [← h.ag.1.2.1]
  by_cases c : (0 ≤ x1 ∧ x1 ≤ w0 1) ∧ (0 ≤ x2 ∧ x2 ≤ 999) ∧ (0 ≤ x3 ∧ x3 ≤ 200) ∧ (0 ≤ x4 ∧ x4 ≤ 10)
  · have hb := poR_b4 h.ok (x1 := x1) (x2 := x2) (x3 := x3) c.2.2.2
    have he := po_eq h.okM (x1 := x1) (x2 := x2) (x3 := x3) c.2.2.2
    rw [← hag_poR h.ag h.ok] at he
    rw [if_pos c, if_pos c, if_pos c, if_pos c, rfa_0 rfl, fsA_eq hb.1 hb.2, fsB_eq hb.1 hb.2]
    exact (h.m78 _).tel he.1 he.2
  · rw [if_neg c, if_neg c, if_neg c, if_neg c, rfa_2 rfl]
    exact h.bad
theorem A_po (h : Rel w0 w2 w3 kp tx tz fa fb rf M) (x1 x2 x3 x4 : Int) : ca_po w0 x1 x2 x3 x4 = ca_po (M 1) x1 x2 x3 x4 := by
  unfold ca_po
  rw [h.ag.1.2.1]
theorem A_part (h : Rel w0 w2 w3 kp tx tz fa fb rf M) (x1 : Int) : ca_part fa fb x1 = ca_part (M 0 1) (M 0 2) x1 := by rw [h.fr.1, h.fr.2]
theorem A_from (h : Rel w0 w2 w3 kp tx tz fa fb rf M) (x1 : Int) : ca_from kp x1 = ca_from (M 2) x1 := by
  unfold ca_from
  by_cases c : 0 ≤ x1 ∧ x1 ≤ 1
  · rw [if_pos c, if_pos c]
    have h2 := h.1.2.2
    rcases (show x1 = 0 ∨ x1 = 1 by omega) with e | e <;> subst e
    · rw [h2.1]
    · rw [h2.2]
  · rw [if_neg c, if_neg c]
theorem A_st (h : Rel w0 w2 w3 kp tx tz fa fb rf M) (x1 : Int) : ca_st rf x1 = ca_st (M 4) x1 := by
  unfold ca_st
  by_cases c : 0 ≤ x1 ∧ x1 ≤ 2
  · rw [if_pos c, if_pos c]
    have h2 := h.rfs
    rcases (show x1 = 0 ∨ x1 = 1 ∨ x1 = 2 by omega) with e | e | e <;> subst e
    · exact h2.1.symm
    · exact h2.2.1.symm
    · exact h2.2.2.symm
  · rw [if_neg c, if_neg c]
theorem A_ct (h : Rel w0 w2 w3 kp tx tz fa fb rf M) (x1 : Int) : ca_ct w0 (tz 0) x1 = ca_ct (M 1) (M 0 0) x1 := by rw [h.L]; exact hag_ct h.ag _ x1
theorem A_dg (h : Rel w0 w2 w3 kp tx tz fa fb rf M) : ca_dg w0 (tz 0) fa fb = ma_dg (M 1) (M 0 0) (M 0 1) (M 0 2) := by
  rw [dg_eq h.okM, h.L, h.fr.1, h.fr.2]
  exact hag_dg h.ag h.ok _ _ _
theorem A_type (h : Rel w0 w2 w3 kp tx tz fa fb rf M) (x1 : Int) : ca_type (tz 0) x1 = ca_type (M 0 0) x1 := by rw [h.L]
theorem A_walk (h : Rel w0 w2 w3 kp tx tz fa fb rf M) (x1 x2 x3 x4 : Int) : ca_walk w0 x1 x2 x3 x4 = ma_walk (M 1) x1 x2 x3 x4 := (hag_walk h.ag x1 x2 x3 x4).trans (walk_eq h.okM x1 x2 x3 x4).symm
theorem A_even (h : Rel w0 w2 w3 kp tx tz fa fb rf M) : ca_even w0 = ma_even (M 1) := (hag_even h.ag).trans (even_eq (M 1)).symm
theorem A_look (h : Rel w0 w2 w3 kp tx tz fa fb rf M) (x1 x2 : Int) : ca_look w0 x1 x2 = ma_look (M 1) x1 x2 := (hag_look h.ag x1 x2).trans (look_eq x1 x2).symm
end RA
