/-! the same, for the calls -/
section RC
variable {w0 w2 w3 kp tx tz rf : Int → Int} {fa fb : Int} {M : Nat → Int → Int}
theorem msh_1 {j : Int} : m_shN M 7 1 j = if 41 ≤ j ∧ j < 48 then M 1 (j + 1) else M 1 j := by
  unfold m_shN
  rw [if_pos rfl]
  rfl
theorem R_passes (h : Rel w0 w2 w3 kp tx tz fa fb rf M) (x1 : Int) : Rel (cw_passes w0 x1) w2 w3 kp tx tz fa fb (rfa rf (cc_passes x1)) (m_passes M x1) := by
  unfold cw_passes cc_passes m_passes
  have hb := h.ok.b
  have h4 := h.ag.1.2.2.2.2
  have h2 := h.ag.1.2.2.1
  by_cases c : 1 ≤ x1 ∧ x1 ≤ 99
  · rw [if_pos c, if_pos c, if_pos c, rfa_0 rfl]
    have hx : (if 999 < M 1 2 + x1 then 999 else M 1 2 + x1) = min 999 (w0 2 + x1) := by
      rw [h2]
      split <;> omega
    by_cases d : M 1 4 = 8
    · have s4 : m_shN M 7 1 4 = 8 := by rw [msh_1, if_neg (by decide)]; exact d
      have s2 : m_shN M 7 1 2 = M 1 2 := by rw [msh_1, if_neg (by decide)]
      rw [if_pos d, s4, s2]
      refine h.upd ⟨ok_go h.ok (by omega), ag_go h.ag h.ok (fun q => absurd q (by omega)) (fun _ j => ?_)⟩ rfl (fun j a b => ?_) rfl rfl h.fr h.rfs
      · rw [mp2_1, hx, mset_1]
        unfold wset
        rw [msh_1]
        (repeat' split) <;> first | rfl | (exfalso; omega) | omega
      · rw [mp2_1, mset_1]
        unfold wset
        rw [msh_1]
        (repeat' split) <;> first | rfl | (exfalso; omega)
    · rw [if_neg d]
      refine h.upd ⟨ok_go h.ok (by omega), ag_go h.ag h.ok (fun _ j => ?_) (fun q => absurd q (by omega))⟩ rfl (fun j a b => ?_) rfl rfl h.fr h.rfs
      · rw [mp2_1, hx]
      · rw [mp2_1]
        (repeat' split) <;> first | rfl | (exfalso; omega)
  · rw [if_neg c, if_neg c, if_neg c, rfa_2 rfl]
    exact h.bad
theorem R_undo (h : Rel w0 w2 w3 kp tx tz fa fb rf M) : Rel (cw_undo w0) w2 w3 kp tx tz fa fb (rfa rf (cc_undo w0)) (m_undo M) := by
  unfold cw_undo cc_undo m_undo
  have hb := h.ok.b
  have h4 := h.ag.1.2.2.2.2
  by_cases c : w0 4 = 0
  · rw [if_pos c, if_pos c, if_pos (by omega), rfa_3 rfl]
    exact h.no
  · rw [if_neg c, if_neg c, if_neg (by omega), rfa_0 rfl]
    refine h.upd ⟨ok_back h.ok (by omega), ?_⟩ rfl (fun j a b => ?_) rfl rfl h.fr h.rfs
    · rw [mset_1, mset_1]
      exact ag_back h.ag h.ok (by omega)
    · rw [mset_1, mset_1, wset_ne (by omega), wset_ne (by omega)]
theorem R_note (h : Rel w0 w2 w3 kp tx tz fa fb rf M) (x1 x2 x3 x4 : Int) : Rel (cw_note w0 x1 x2 x3 x4) w2 w3 kp tx tz fa fb (rfa rf (cc_note w0 x1 x2 x3 x4)) (m_note M x1 x2 x3 x4) := by
  unfold cw_note cc_note m_note
  have hb := h.ok.b
  have h3 := h.ag.1.2.2.2.1
  rw [← h.ag.1.1, ← h.ag.1.2.1]
  by_cases c : (0 ≤ x1 ∧ x1 < w0 0) ∧ (0 ≤ x2 ∧ x2 ≤ w0 1) ∧ (0 ≤ x3 ∧ x3 ≤ 99) ∧ (0 ≤ x4 ∧ x4 ≤ 1)
  · rw [if_pos c, if_pos c, if_pos c]
    by_cases d : w0 3 < 6
    · rw [if_pos d, if_pos d, if_neg (by omega), rfa_0 rfl]
      refine h.upd ⟨ok_note h.ok d c.1 c.2.1 c.2.2.1 c.2.2.2, ag_note h.ag h.ok d (fun j => ?_)⟩ rfl (fun j a b => ?_) rfl rfl h.fr h.rfs
      · rw [mset_1, mset_1, mset_1, mset_1, mset_1]
        unfold wset
        (repeat' split) <;> first | rfl | (exfalso; omega)
      · rw [mset_1, mset_1, mset_1, mset_1, mset_1, wset_ne (by omega), wset_ne (by omega), wset_ne (by omega), wset_ne (by omega), wset_ne (by omega)]
    · rw [if_neg d, if_neg d, if_pos (by omega), rfa_4 rfl]
      exact h.full
  · rw [if_neg c, if_neg c, if_neg c, rfa_2 rfl]
    exact h.bad
theorem R_forget (h : Rel w0 w2 w3 kp tx tz fa fb rf M) : Rel (wset w0 3 0) w2 w3 kp tx tz fa fb rf (mset M 1 3 0) := by
  have hw := h.ok
  have hb := hw.b
  have en : ∀ j : Int, j ≠ 3 → wset w0 3 0 j = w0 j := fun j a => wset_ne a
  have e3 : wset w0 3 0 3 = 0 := rfl
  refine h.upd ⟨hok_mk ?_ ?_ ?_ ?_ ?_, ?_⟩ rfl (fun j a b => ?_) rfl rfl h.fr h.rfs
  · rw [en 0 (by decide), en 1 (by decide), en 2 (by decide), e3, en 4 (by decide)]
    omega
  · exact hw.ln
  · intro k h0 h1
    rw [en (5 + k) (by omega), en (9 + k) (by omega)]
    exact hw.k h0 h1
  · intro k h0 h1
    rw [e3] at h1
    omega
  · intro k h0 h1
    rw [en (41 + k) (by omega)]
    exact hw.u h0 h1
  · rw [mset_1]
    refine hag_of_live (fun j hj => ?_)
    unfold live at hj
    rw [en 0 (by decide), e3, en 4 (by decide)] at hj
    refine wset_cg (h.ag.live ?_)
    unfold live
    omega
  · rw [mset_1, wset_ne (by omega)]
theorem mcp_1 {f t j : Int} : m_copy M f t 1 j = if t ≤ j ∧ j < t + 49 then M 1 (f + (j - t)) else M 1 j := by
  unfold m_copy m_cpN
  rw [if_pos rfl]
theorem R_image (h : Rel w0 w2 w3 kp tx tz fa fb rf M) (x1 : Int) : Rel w0 (cw_image w0 w2 x1 0) (cw_image w0 w3 x1 1) (ck_image kp x1) tx tz fa fb (rfa rf (cc_01 x1)) (m_image M x1) := by
  unfold cw_image ck_image cc_01 m_image
  by_cases c : 0 ≤ x1 ∧ x1 ≤ 1
  · rw [if_pos c, if_pos c, if_pos c, rfa_0 rfl]
    have hw := h.ok
    have hag0 := h.ag
    have hkp := h.kept
    obtain ⟨⟨a1, a2, a3⟩, ⟨b1, b2⟩, cc, f⟩ := h
    have key : ∀ (w : Int → Int) (T : Int), 49 ≤ T → hok (h_copy w w0) ∧ hag (h_copy w w0) (mim (m_copy M 0 T) T) := fun w T hT => by
      have e : ∀ j : Int, 0 ≤ j → j < 49 → h_copy w w0 j = w0 j := fun j j0 j1 => hcopy_j ⟨j0, j1⟩
      refine ⟨hok_cg hw e, hag_r (hag_l hag0 hw e) (hok_cg hw e) (fun j j0 j1 => ?_)⟩
      show m_copy M 0 T 1 (T + j) = M 1 j
      rw [mcp_1, if_pos (by omega)]
      congr 1
      omega
    have keep : ∀ (w : Int → Int) (b T : Int), (b + 49 ≤ T ∨ T + 49 ≤ b) → hok w → hag w (mim M b) → hag w (mim (m_copy M 0 T) b) := fun w b T hT ok ag => hag_r ag ok (fun j j0 j1 => by
      show m_copy M 0 T 1 (b + j) = M 1 (b + j)
      rw [mcp_1, if_neg (by omega)])
    have now : ∀ T : Int, 49 ≤ T → hag w0 (m_copy M 0 T 1) := fun T hT => hag_r hag0 hw (fun j j0 j1 => by rw [mcp_1, if_neg (by omega)])
    rcases (show x1 = 0 ∨ x1 = 1 by omega) with e | e <;> subst e
    · rw [if_pos rfl, if_neg (by decide)]
      refine ⟨⟨⟨hw, now 49 (by decide)⟩, ⟨(show (0 : Int) ≤ 1 ∧ (1 : Int) ≤ 1 by decide), (show 0 ≤ kp 1 ∧ kp 1 ≤ 1 from hkp.2)⟩, ⟨(show (1 : Int) = 1 from rfl), (show M 2 1 = kp 1 from a3.2)⟩⟩, ⟨fun _ => key w2 49 (by decide), fun q => ?_⟩, cc, f⟩
      have q' : ¬ kp 1 = 0 := q
      exact ⟨(b2 q').1, keep w3 98 49 (by decide) (b2 q').1 (b2 q').2⟩
    · rw [if_neg (by decide), if_pos rfl]
      refine ⟨⟨⟨hw, now 98 (by decide)⟩, ⟨(show 0 ≤ kp 0 ∧ kp 0 ≤ 1 from hkp.1), (show (0 : Int) ≤ 1 ∧ (1 : Int) ≤ 1 by decide)⟩, ⟨(show M 2 0 = kp 0 from a3.1), (show (1 : Int) = 1 from rfl)⟩⟩, ⟨fun q => ?_, fun _ => key w3 98 (by decide)⟩, cc, f⟩
      have q' : ¬ kp 0 = 0 := q
      exact ⟨(b1 q').1, keep w2 49 98 (by decide) (b1 q').1 (b1 q').2⟩
  · rw [if_neg c, if_neg c, if_neg c, if_neg (by omega), if_neg (by omega), rfa_2 rfl]
    exact h.bad
theorem R_from (h : Rel w0 w2 w3 kp tx tz fa fb rf M) (x1 : Int) : Rel (cw_from w0 w2 w3 kp x1) w2 w3 kp tx tz fa fb (rfa rf (cc_from kp x1)) (m_from M x1) := by
  unfold cw_from cc_from m_from
  by_cases c : 0 ≤ x1 ∧ x1 ≤ 1
  · rw [if_pos c, if_pos c, if_pos c]
    have e2 := h.1.2.2
    have key : ∀ (w : Int → Int) (b : Int), 49 ≤ b → hok w → hag w (mim M b) → Rel (h_copy w0 w) w2 w3 kp tx tz fa fb rf (m_copy M b 0) := fun w b hb ok ag => by
      have e : ∀ j : Int, 0 ≤ j → j < 49 → h_copy w0 w j = w j := fun j j0 j1 => hcopy_j ⟨j0, j1⟩
      refine h.upd ⟨hok_cg ok e, hag_r (hag_l ag ok e) (hok_cg ok e) (fun j j0 j1 => ?_)⟩ rfl (fun j a b => ?_) rfl rfl h.fr h.rfs
      · show m_copy M b 0 1 j = M 1 (b + j)
        rw [mcp_1, if_pos (by omega)]
        congr 1
        omega
      · rw [mcp_1, if_neg (by omega)]
    rcases (show x1 = 0 ∨ x1 = 1 by omega) with e | e <;> subst e
    · by_cases d : kp 0 = 0
      · rw [if_pos d, if_pos d, if_pos (by rw [e2.1]; exact d), rfa_3 rfl]
        exact h.no
      · rw [if_neg d, if_neg d, if_pos rfl, if_neg (show ¬ M 2 0 = 0 by rw [e2.1]; exact d), rfa_0 rfl]
        exact key w2 49 (by decide) (h.2.1.1 d).1 (h.2.1.1 d).2
    · by_cases d : kp 1 = 0
      · rw [if_pos d, if_pos d, if_pos (by rw [e2.2]; exact d), rfa_3 rfl]
        exact h.no
      · rw [if_neg d, if_neg d, if_neg (show ¬ (1 : Int) = 0 by decide), if_neg (show ¬ M 2 1 = 0 by rw [e2.2]; exact d), rfa_0 rfl]
        exact key w3 98 (by decide) (h.2.1.2 d).1 (h.2.1.2 d).2
  · rw [if_neg c, if_neg c, if_neg c, rfa_2 rfl]
    exact h.bad
end RC
