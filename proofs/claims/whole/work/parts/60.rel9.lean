/-! read: class and model answer alike and stay alike -/
section RF
variable {w0 w1 w2 w3 kp tx tz rf : Int → Int} {fa fb : Int} {M : Nat → Int → Int}
theorem rd_rel (h : Rel w0 w2 w3 kp tx tz fa fb rf M) :
    (rd tx tz w1).1 = (m_read M).1 ∧ ((∃ T, 1 ≤ (rd tx tz w1).1 ∧ DR (rd tx tz w1).2.2 T ∧ (m_read M).2 = m_copy T 147 0 ∧ mK T M ∧ trel tx (rd tx tz w1).2.1 T) ∨ ((rd tx tz w1).1 ≤ -10 ∧ mK (m_read M).2 M ∧ trel tx (rd tx tz w1).2.1 (m_read M).2)) := by
  have hL := h.Lr
  have k0 : tsk tx (wset tz 3 0) := ⟨(show tok tx (tz 0) from h.txt.1), ⟨(show (0 : Int) ≤ 0 by decide), (show 0 ≤ tz 0 from hL.1.1)⟩, (show -1 ≤ tz 4 ∧ tz 4 ≤ 99 from h.txt.2)⟩
  have r0 : trel tx (wset tz 3 0) (m_beg (mset M 0 3 0) 147 11) := ⟨(show M 0 0 = tz 0 from h.L), (show ∀ k : Int, 0 ≤ k → k < tz 0 → M 3 k = tx k from h.2.2.1.2.2), (show (0 : Int) = 0 from rfl)⟩
  have t1 : tsok tx (rd0 tx tz) := tsok_nx k0
  have r1 : trel1 tx (rd0 tx tz) (m_tok (m_beg (mset M 0 3 0) 147 11)) := tok_rel k0 r0
  have hm : mtok (m_tok (m_beg (mset M 0 3 0) 147 11)) := mtok_next (mtk_0 h.txM)
  have ge : ∀ j : Int, m_tok (m_beg (mset M 0 3 0) 147 11) 1 j = if j = 147 + 13 + 1 then 10 else if j = 147 + 13 then 10 else if j = 147 + 1 then 11 else if 147 ≤ j ∧ j < 147 + 49 then 0 else M 1 j := fun j => by
    show m_beg (mset M 0 3 0) 147 11 1 j = _
    rw [mbeg_1]
    rfl
  have hk : mK (m_tok (m_beg (mset M 0 3 0) 147 11)) M := ⟨⟨rfl, rfl, rfl⟩, ⟨rfl, rfl, rfl⟩, fun j hj => by rw [ge, if_neg (by omega), if_neg (by omega), if_neg (by omega), if_neg (by omega)]⟩
  have eM : m_read M = mriI (m_tok (m_beg (mset M 0 3 0) 147 11)) 0 := rfl
  have eR : rd tx tz w1 = if rh_r tx (rd0 tx tz) = true then riI tx (t_next tx (rh_tz tx (rd0 tx tz))) (rh_w tx (rd0 tx tz) w1) 1 else (-10 - rh_tz tx (rd0 tx tz) 2, rh_tz tx (rd0 tx tz), rh_w tx (rd0 tx tz) w1) := rfl
  have hg : (m_tok (m_beg (mset M 0 3 0) 147 11) 1 147 = 0 ∧ m_tok (m_beg (mset M 0 3 0) 147 11) 1 149 = 0 ∧ m_tok (m_beg (mset M 0 3 0) 147 11) 1 150 = 0 ∧ m_tok (m_beg (mset M 0 3 0) 147 11) 1 151 = 0) ∧ (m_tok (m_beg (mset M 0 3 0) 147 11) 1 160 = 10 ∧ m_tok (m_beg (mset M 0 3 0) 147 11) 1 161 = 10 ∧ m_tok (m_beg (mset M 0 3 0) 147 11) 1 162 = 0 ∧ m_tok (m_beg (mset M 0 3 0) 147 11) 1 163 = 0) := by
    refine ⟨⟨?_, ?_, ?_, ?_⟩, ⟨?_, ?_, ?_, ?_⟩⟩ <;> (rw [ge]; (repeat' split) <;> first | rfl | (exfalso; omega))
  rw [eM, eR]
  generalize m_tok (m_beg (mset M 0 3 0) 147 11) = S at r1 hm hk hg ⊢
  generalize rd0 tx tz = z at t1 r1 ⊢
  obtain ⟨q1, q2, q3, q4⟩ := house_rel (w := w1) t1 r1 hk hg
  have t2 := tsok_rh t1
  have hc : ¬ (S 0 0 ≤ S 0 4 ∧ ¬ (0 : Int) = 0) := fun h9 => h9.2 rfl
  by_cases d : rh_r tx z = true
  · have d' : m_itR S 0 = true := q1.trans d
    have e1 : mriI S 0 = mri (149 + 1) (m_tok (m_itM S 0)) 1 := mriI_s (by decide) hc d'
    have eA : ∀ (A B : Int → Int), riI tx A B 1 = ri tx 149 A B 1 := fun A B => rfl
    have ha := it_adv hm d'
    have h4 := hm.2.1
    rw [if_pos d, e1, eA]
    have key := ri_rel (M := M) (tx := tx) 149 (t_next tx (rh_tz tx z)) (rh_w tx z w1) (m_tok (m_itM S 0)) 1 (tsok_next t2) (mtok_next (mtk_it1 hm)) (tok_rel t2.k q2.1) (q4 d) (mK_tok q3) (by decide) (by decide) (by omega)
    exact key
  · have d' : ¬ m_itR S 0 = true := fun h9 => d (q1.symm.trans h9)
    have e1 : mriI S 0 = (-10 - m_itM S 0 0 4, m_itM S 0) := mriI_f (by decide) hc d'
    rw [if_neg d, e1]
    have h8 := t2.2.2.1
    refine ⟨?_, Or.inr ⟨?_, q3, q2.1⟩⟩
    · show -10 - rh_tz tx z 2 = -10 - m_itM S 0 0 4
      rw [q2.2.1]
    · show -10 - rh_tz tx z 2 ≤ -10
      omega
theorem R_read (h : Rel w0 w2 w3 kp tx tz fa fb rf M) : Rel (cw_read tx tz w1 w0) w2 w3 kp tx (rd tx tz w1).2.1 fa fb rf (m_read M).2 := by
  have hs := (rd_r (w := w1) h.txt.1 h.txt.2).2
  obtain ⟨-, hh⟩ := rd_rel (w1 := w1) h
  unfold cw_read
  generalize rd tx tz w1 = A at hs hh ⊢
  generalize m_read M = B at hh ⊢
  obtain ⟨⟨a1, a2, a3⟩, ⟨b1, b2⟩, -, f1, f2⟩ := h
  rcases hh with ⟨T, p1, p2, p3, p4, p5⟩ | ⟨p1, p4, p5⟩
  · rw [if_neg (by omega), p3]
    have e : ∀ j : Int, 0 ≤ j → j < 49 → h_copy w0 A.2.2 j = A.2.2 j := fun j j0 j1 => hcopy_j ⟨j0, j1⟩
    have keep : ∀ j : Int, 49 ≤ j → j < 147 → m_copy T 147 0 1 j = M 1 j := fun j j0 j1 => by
      rw [mcp_1, if_neg (by omega)]
      exact p4.2.2 j j1
    refine ⟨⟨⟨hok_cg p2.1 e, hag_r (hag_l p2.2.1 p2.1 e) (hok_cg p2.1 e) (fun j j0 j1 => ?_)⟩, a2, ?_⟩, ⟨fun q => ⟨(b1 q).1, hag_r (b1 q).2 (b1 q).1 (fun j j0 j1 => keep _ (by omega) (by omega))⟩, fun q => ⟨(b2 q).1, hag_r (b2 q).2 (b2 q).1 (fun j j0 j1 => keep _ (by omega) (by omega))⟩⟩, ⟨⟨hs.1, hs.2.2.2.2⟩, p5.1, p5.2.1⟩, ?_, ?_⟩
    · rw [mcp_1, if_pos (by omega)]
      show T 1 (147 + (j - 0)) = T 1 (147 + j)
      rw [show 147 + (j - 0) = 147 + j by omega]
    · show T 2 0 = kp 0 ∧ T 2 1 = kp 1
      rw [p4.1.1]
      exact a3
    · show T 0 1 = fa ∧ T 0 2 = fb
      rw [p4.2.1.2.1, p4.2.1.2.2]
      exact f1
    · show T 4 0 = rf 0 ∧ T 4 1 = rf 1 ∧ T 4 2 = rf 2
      rw [p4.1.2.2]
      exact f2
  · rw [if_pos (by omega)]
    refine ⟨⟨⟨a1.1, hag_r a1.2 a1.1 (fun j j0 j1 => p4.2.2 j (by omega))⟩, a2, ?_⟩, ⟨fun q => ⟨(b1 q).1, hag_r (b1 q).2 (b1 q).1 (fun j j0 j1 => p4.2.2 _ (by omega))⟩, fun q => ⟨(b2 q).1, hag_r (b2 q).2 (b2 q).1 (fun j j0 j1 => p4.2.2 _ (by omega))⟩⟩, ⟨⟨hs.1, hs.2.2.2.2⟩, p5.1, p5.2.1⟩, ?_, ?_⟩
    · rw [p4.1.1]
      exact a3
    · rw [p4.2.1.2.1, p4.2.1.2.2]
      exact f1
    · rw [p4.1.2.2]
      exact f2
/-- at the start -/
theorem R_start {w0 w2 w3 tx tz kp rf : Int → Int} (hw : ∃ v, w0 = h_build v 11) (hk : kp 0 = 0 ∧ kp 1 = 0) (ht : tz 0 = 0 ∧ tz 4 = 0) (hr : rf 0 = 0 ∧ rf 1 = 0 ∧ rf 2 = 0) {N : Nat → Int → Int} (hN : (N 2 0 = 0 ∧ N 2 1 = 0) ∧ (N 0 0 = 0 ∧ N 0 1 = 0 ∧ N 0 2 = 1) ∧ (N 4 0 = 0 ∧ N 4 1 = 0 ∧ N 4 2 = 0)) : Rel w0 w2 w3 kp tx tz 0 1 rf (m_beg N 0 11) := by
  obtain ⟨v, rfl⟩ := hw
  refine ⟨⟨⟨ok_build v (by decide), ?_⟩, by omega, ?_⟩, ⟨fun q => absurd hk.1 q, fun q => absurd hk.2 q⟩, ⟨⟨⟨by omega, fun k k0 k1 => by omega⟩, by omega⟩, ?_, fun k k0 k1 => by omega⟩, ?_, ?_⟩
  · refine ag_build ?_ ?_ ?_ ?_ ?_ ?_ ?_ ?_ ?_ <;> (rw [mbeg_1]; (repeat' split) <;> first | rfl | (exfalso; omega))
  · show N 2 0 = kp 0 ∧ N 2 1 = kp 1
    omega
  · show N 0 0 = tz 0
    omega
  · show N 0 1 = 0 ∧ N 0 2 = 1
    exact ⟨hN.2.1.2.1, hN.2.1.2.2⟩
  · show N 4 0 = rf 0 ∧ N 4 1 = rf 1 ∧ N 4 2 = rf 2
    omega
end RF
