/-! the calls that change the house or the text: class and model stay alike -/
theorem live_cg {w w' : Int → Int} (e0 : w' 0 = w 0) (e3 : w' 3 = w 3) (e4 : w' 4 = w 4) {j : Int} (h : live w' j) : live w j := by
  unfold live at h ⊢
  rw [e0, e3, e4] at h
  exact h
theorem hok_mk {w : Int → Int} (b : (1 ≤ w 1 ∧ w 1 ≤ 11) ∧ (0 ≤ w 0 ∧ w 0 ≤ 4) ∧ (0 ≤ w 2 ∧ w 2 ≤ 999) ∧ (0 ≤ w 3 ∧ w 3 ≤ 6) ∧ (0 ≤ w 4 ∧ w 4 ≤ 8)) (ln : (1 ≤ w 13 ∧ w 13 ≤ 30) ∧ (1 ≤ w 14 ∧ w 14 ≤ 30) ∧ (0 ≤ w 15 ∧ w 15 ≤ 29) ∧ (0 ≤ w 16 ∧ w 16 ≤ 29)) (k : ∀ k : Int, 0 ≤ k → k < w 0 → (0 ≤ w (5 + k) ∧ w (5 + k) ≤ 5) ∧ (0 ≤ w (9 + k) ∧ w (9 + k) ≤ 99)) (n : ∀ k : Int, 0 ≤ k → k < w 3 → (0 ≤ w (17 + 4 * k) ∧ w (17 + 4 * k) < w 0) ∧ (0 ≤ w (18 + 4 * k) ∧ w (18 + 4 * k) ≤ w 1) ∧ (0 ≤ w (19 + 4 * k) ∧ w (19 + 4 * k) ≤ 99) ∧ (0 ≤ w (20 + 4 * k) ∧ w (20 + 4 * k) ≤ 1)) (u : ∀ k : Int, 0 ≤ k → k < w 4 → 0 ≤ w (41 + k) ∧ w (41 + k) ≤ 999) : hok w := ⟨b, ln, k, n, u⟩
theorem ok_build (w : Int → Int) {f : Int} (h : 1 ≤ f ∧ f ≤ 11) : hok (h_build w f) :=
  hok_mk ⟨(show 1 ≤ f ∧ f ≤ 11 from h), (show (0 : Int) ≤ 0 ∧ (0 : Int) ≤ 4 by decide), (show (0 : Int) ≤ 0 ∧ (0 : Int) ≤ 999 by decide), (show (0 : Int) ≤ 0 ∧ (0 : Int) ≤ 6 by decide), (show (0 : Int) ≤ 0 ∧ (0 : Int) ≤ 8 by decide)⟩ ⟨(show (1 : Int) ≤ 10 ∧ (10 : Int) ≤ 30 by decide), (show (1 : Int) ≤ 10 ∧ (10 : Int) ≤ 30 by decide), (show (0 : Int) ≤ 0 ∧ (0 : Int) ≤ 29 by decide), (show (0 : Int) ≤ 0 ∧ (0 : Int) ≤ 29 by decide)⟩ (fun k a b => absurd (show k < 0 from b) (by omega)) (fun k a b => absurd (show k < 0 from b) (by omega)) (fun k a b => absurd (show k < 0 from b) (by omega))
theorem ag_build {w v : Int → Int} {f : Int} (h0 : v 0 = 0) (h1 : v 1 = f) (h2 : v 2 = 0) (h3 : v 3 = 0) (h4 : v 4 = 0) (h13 : v 13 = 10) (h14 : v 14 = 10) (h15 : v 15 = 0) (h16 : v 16 = 0) : hag (h_build w f) v :=
  ⟨⟨(show (0 : Int) = v 0 from h0.symm), (show f = v 1 from h1.symm), (show (0 : Int) = v 2 from h2.symm), (show (0 : Int) = v 3 from h3.symm), (show (0 : Int) = v 4 from h4.symm)⟩, ⟨(show (10 : Int) = v 13 from h13.symm), (show (10 : Int) = v 14 from h14.symm), (show (0 : Int) = v 15 from h15.symm), (show (0 : Int) = v 16 from h16.symm)⟩, fun k a b => absurd (show k < 0 from b) (by omega), fun k a b => absurd (show k < 0 from b) (by omega), fun k a b => absurd (show k < 0 from b) (by omega)⟩
theorem mbeg_1 {M : Nat → Int → Int} {r f j : Int} : m_beg M r f 1 j = if j = r + 13 + 1 then 10 else if j = r + 13 then 10 else if j = r + 1 then f else if r ≤ j ∧ j < r + 49 then 0 else M 1 j := by
  unfold m_beg
  rw [mset_1, mset_1, mset_1]
  unfold wset m_zN
  rw [if_pos rfl]
theorem madds_1 {N : Nat → Int → Int} {r k b j : Int} (h : 0 ≤ N 1 (r + 0) ∧ N 1 (r + 0) < 4) : m_adds N r k b 1 j = if j = r + 0 then N 1 (r + 0) + 1 else if j = r + 9 + N 1 (r + 0) then b else if j = r + 5 + N 1 (r + 0) then k else N 1 j := by
  unfold m_adds
  have e : (mset (mset N 1 (r + 5 + N 1 (r + 0)) k) 1 (r + 9 + N 1 (r + 0)) b) 1 (r + 0) = N 1 (r + 0) := by rw [mset_ne (by omega), mset_ne (by omega)]
  rw [e, mset_1, mset_1, mset_1]
  rfl
theorem add_1 {w : Int → Int} {k b j : Int} (h : w 0 < 4) : h_addLift w k b j = if j = 4 then 0 else if j = 0 then w 0 + 1 else if j = 9 + w 0 then b else if j = 5 + w 0 then k else w j := by
  unfold h_addLift
  rw [if_pos h]
  rfl
theorem ok_add {w : Int → Int} (hw : hok w) {k b : Int} (h : w 0 < 4) (hk : 0 ≤ k ∧ k ≤ 5) (hb : 0 ≤ b ∧ b ≤ 99) : hok (h_addLift w k b) := by
  have hB := hw.b
  have e : ∀ j : Int, h_addLift w k b j = if j = 4 then 0 else if j = 0 then w 0 + 1 else if j = 9 + w 0 then b else if j = 5 + w 0 then k else w j := fun j => add_1 h
  have e0 : h_addLift w k b 0 = w 0 + 1 := by rw [e, if_neg (by decide), if_pos rfl]
  have e4 : h_addLift w k b 4 = 0 := by rw [e, if_pos rfl]
  have en : ∀ j : Int, j ≠ 4 → j ≠ 0 → j ≠ 9 + w 0 → j ≠ 5 + w 0 → h_addLift w k b j = w j := fun j a1 a2 a3 a4 => by rw [e, if_neg a1, if_neg a2, if_neg a3, if_neg a4]
  have e1 := en 1 (by decide) (by decide) (by omega) (by omega)
  have e2 := en 2 (by decide) (by decide) (by omega) (by omega)
  have e3 := en 3 (by decide) (by decide) (by omega) (by omega)
  have e13 := en 13 (by decide) (by decide) (by omega) (by omega)
  have e14 := en 14 (by decide) (by decide) (by omega) (by omega)
  have e15 := en 15 (by decide) (by decide) (by omega) (by omega)
  have e16 := en 16 (by decide) (by decide) (by omega) (by omega)
  refine hok_mk ?_ ?_ ?_ ?_ ?_
  · rw [e0, e1, e2, e3, e4]; omega
  · rw [e13, e14, e15, e16]; exact hw.ln
  · intro i h0 h1
    rw [e0] at h1
    by_cases c : i = w 0
    · rw [e (5 + i), e (9 + i), if_neg (by omega), if_neg (by omega), if_neg (by omega), if_pos (by omega), if_neg (by omega), if_neg (by omega), if_pos (by omega)]
      exact ⟨hk, hb⟩
    · have q := hw.k h0 (by omega)
      rw [en (5 + i) (by omega) (by omega) (by omega) (by omega), en (9 + i) (by omega) (by omega) (by omega) (by omega)]
      exact q
  · intro i h0 h1
    rw [e3] at h1
    have q := hw.n h0 h1
    rw [e0, e1, en (17 + 4 * i) (by omega) (by omega) (by omega) (by omega), en (18 + 4 * i) (by omega) (by omega) (by omega) (by omega), en (19 + 4 * i) (by omega) (by omega) (by omega) (by omega), en (20 + 4 * i) (by omega) (by omega) (by omega) (by omega)]
    omega
  · intro i h0 h1
    rw [e4] at h1
    omega
/-- a lift more: the class's house against the model's row from r on, whose undoes are none -/
theorem ag_add {w v v' : Int → Int} (h : hag w v) (hw : hok w) {k b : Int} (hl : w 0 < 4) (e : ∀ j : Int, 0 ≤ j → j < 49 → v' j = if j = 4 then 0 else if j = 0 then v 0 + 1 else if j = 9 + v 0 then b else if j = 5 + v 0 then k else v j) : hag (h_addLift w k b) v' := by
  have hB := hw.b
  refine hag_of_live (fun j hj => ?_)
  have e0 : h_addLift w k b 0 = w 0 + 1 := by rw [add_1 hl, if_neg (by decide), if_pos rfl]
  have e3 : h_addLift w k b 3 = w 3 := by rw [add_1 hl, if_neg (by decide), if_neg (by decide), if_neg (by omega), if_neg (by omega)]
  have e4 : h_addLift w k b 4 = 0 := by rw [add_1 hl, if_pos rfl]
  unfold live at hj
  rw [e0, e3, e4] at hj
  rw [add_1 hl, e j (by omega) (by omega), ← h.1.1]
  by_cases c4 : j = 4
  · rw [if_pos c4, if_pos c4]
  · by_cases c0 : j = 0
    · rw [if_neg c4, if_neg c4, if_pos c0, if_pos c0]
    · by_cases c9 : j = 9 + w 0
      · rw [if_neg c4, if_neg c4, if_neg c0, if_neg c0, if_pos c9, if_pos c9]
      · by_cases c5 : j = 5 + w 0
        · rw [if_neg c4, if_neg c4, if_neg c0, if_neg c0, if_neg c9, if_neg c9, if_pos c5, if_pos c5]
        · rw [if_neg c4, if_neg c4, if_neg c0, if_neg c0, if_neg c9, if_neg c9, if_neg c5, if_neg c5]
          refine h.live ?_
          unfold live
          omega
theorem ok_line {w : Int → Int} (hw : hok w) {a x y : Int} (ha : 0 ≤ a ∧ a ≤ 1) (hx : 1 ≤ x ∧ x ≤ 30) (hy : 0 ≤ y ∧ y ≤ 29) : hok (wset (wset w (13 + a) x) (15 + a) y) := by
  have en : ∀ j : Int, j ≠ 13 + a → j ≠ 15 + a → wset (wset w (13 + a) x) (15 + a) y j = w j := fun j a1 a2 => by rw [wset_ne a2, wset_ne a1]
  have hl := hw.ln
  refine hok_mk ?_ ?_ ?_ ?_ ?_
  · rw [en 0 (by omega) (by omega), en 1 (by omega) (by omega), en 2 (by omega) (by omega), en 3 (by omega) (by omega), en 4 (by omega) (by omega)]
    exact hw.b
  · rcases (show a = 0 ∨ a = 1 by omega) with e | e <;> subst e
    · exact ⟨(show 1 ≤ x ∧ x ≤ 30 from hx), (show 1 ≤ w 14 ∧ w 14 ≤ 30 from hl.2.1), (show 0 ≤ y ∧ y ≤ 29 from hy), (show 0 ≤ w 16 ∧ w 16 ≤ 29 from hl.2.2.2)⟩
    · exact ⟨(show 1 ≤ w 13 ∧ w 13 ≤ 30 from hl.1), (show 1 ≤ x ∧ x ≤ 30 from hx), (show 0 ≤ w 15 ∧ w 15 ≤ 29 from hl.2.2.1), (show 0 ≤ y ∧ y ≤ 29 from hy)⟩
  · intro k h0 h1
    rw [en 0 (by omega) (by omega)] at h1
    have hb := hw.b
    rw [en (5 + k) (by omega) (by omega), en (9 + k) (by omega) (by omega)]
    exact hw.k h0 h1
  · intro k h0 h1
    rw [en 3 (by omega) (by omega)] at h1
    rw [en 0 (by omega) (by omega), en 1 (by omega) (by omega), en (17 + 4 * k) (by omega) (by omega), en (18 + 4 * k) (by omega) (by omega), en (19 + 4 * k) (by omega) (by omega), en (20 + 4 * k) (by omega) (by omega)]
    exact hw.n h0 h1
  · intro k h0 h1
    rw [en 4 (by omega) (by omega)] at h1
    rw [en (41 + k) (by omega) (by omega)]
    exact hw.u h0 h1
theorem ag_line {w v : Int → Int} (h : hag w v) {a x y : Int} (ha : 0 ≤ a ∧ a ≤ 1) : hag (wset (wset w (13 + a) x) (15 + a) y) (wset (wset v (13 + a) x) (15 + a) y) := by
  have en : ∀ j : Int, j ≠ 13 + a → j ≠ 15 + a → wset (wset w (13 + a) x) (15 + a) y j = w j := fun j a1 a2 => by rw [wset_ne a2, wset_ne a1]
  refine hag_of_live (fun j hj => wset_cg (wset_cg (h.live ?_)))
  exact live_cg (en 0 (by omega) (by omega)) (en 3 (by omega) (by omega)) (en 4 (by omega) (by omega)) hj
section RB
variable {w0 w2 w3 kp tx tz rf : Int → Int} {fa fb : Int} {M : Nat → Int → Int}
theorem R_house (h : Rel w0 w2 w3 kp tx tz fa fb rf M) (x1 : Int) : Rel (cw_house w0 x1) w2 w3 kp tx tz fa fb (rfa rf (cc_house x1)) (m_house M x1) := by
  unfold cw_house cc_house m_house
  by_cases c : 1 ≤ x1 ∧ x1 ≤ 11
  · rw [if_pos c, if_pos c, if_pos c, rfa_0 rfl]
    refine h.upd ⟨ok_build w0 c, ?_⟩ rfl (fun j a b => ?_) rfl rfl h.fr h.rfs
    · refine ag_build ?_ ?_ ?_ ?_ ?_ ?_ ?_ ?_ ?_ <;> (rw [mbeg_1]; (repeat' split) <;> first | rfl | (exfalso; omega))
    · rw [mbeg_1]
      (repeat' split) <;> first | rfl | (exfalso; omega)
  · rw [if_neg c, if_neg c, if_neg c, rfa_2 rfl]
    exact h.bad
theorem R_lift (h : Rel w0 w2 w3 kp tx tz fa fb rf M) (x1 x2 : Int) : Rel (cw_lift w0 x1 x2) w2 w3 kp tx tz fa fb (rfa rf (cc_lift w0 x1 x2)) (m_lift M x1 x2) := by
  unfold cw_lift cc_lift m_lift
  have hb := h.ok.b
  have e0 := h.ag.1.1
  by_cases c : (0 ≤ x1 ∧ x1 ≤ 5) ∧ (0 ≤ x2 ∧ x2 ≤ 99)
  · rw [if_pos c, if_pos c, if_pos c]
    by_cases d : w0 0 < 4
    · have hN : 0 ≤ mset M 1 4 0 1 (0 + 0) ∧ mset M 1 4 0 1 (0 + 0) < 4 := by
        show 0 ≤ M 1 0 ∧ M 1 0 < 4
        omega
      have e9 : mset M 1 4 0 1 (0 + 0) = M 1 0 := rfl
      rw [if_pos d, if_pos d, if_neg (by omega), rfa_0 rfl]
      refine h.upd ⟨ok_add h.ok d c.1 c.2, ag_add h.ag h.ok d (fun j j0 j1 => ?_)⟩ rfl (fun j a b => ?_) rfl rfl h.fr h.rfs
      · rw [madds_1 hN, e9, mset_1]
        unfold wset
        (repeat' split) <;> first | rfl | (exfalso; omega)
      · rw [madds_1 hN, e9, mset_1]
        unfold wset
        (repeat' split) <;> first | rfl | (exfalso; omega)
    · rw [if_neg d, if_neg d, if_pos (by omega), rfa_4 rfl]
      exact h.full
  · rw [if_neg c, if_neg c, if_neg c, rfa_2 rfl]
    exact h.bad
theorem R_line (h : Rel w0 w2 w3 kp tx tz fa fb rf M) (x1 x2 x3 : Int) : Rel (cw_line w0 x1 x2 x3) w2 w3 kp tx tz fa fb (rfa rf (cc_line x1 x2 x3)) (m_line M x1 x2 x3) := by
  unfold cw_line cc_line m_line
  by_cases c : (0 ≤ x1 ∧ x1 ≤ 1) ∧ (1 ≤ x2 ∧ x2 ≤ 30) ∧ (0 ≤ x3 ∧ x3 ≤ 29)
  · rw [if_pos c, if_pos c, if_pos c, rfa_0 rfl]
    refine h.upd ⟨ok_line h.ok c.1 c.2.1 c.2.2, ?_⟩ rfl (fun j a b => ?_) rfl rfl h.fr h.rfs
    · rw [mset_1, mset_1]
      exact ag_line h.ag c.1
    · rw [mset_1, mset_1, wset_ne (by omega), wset_ne (by omega)]
  · rw [if_neg c, if_neg c, if_neg c, rfa_2 rfl]
    exact h.bad
theorem R_type (h : Rel w0 w2 w3 kp tx tz fa fb rf M) (x1 : Int) : Rel w0 w2 w3 kp (ct_type tx (tz 0) x1) (cz_type tz x1) fa fb (rfa rf (cc_type (tz 0) x1)) (m_type M x1) := by
  unfold ct_type cz_type cc_type m_type
  have hL := h.L
  have hr := h.Lr
  by_cases c : 0 ≤ x1 ∧ x1 ≤ 127
  · rw [if_pos c, if_pos c, if_pos c, if_pos c]
    by_cases d : tz 0 < 150
    · rw [if_pos d, if_pos d, if_pos d, if_neg (by omega), rfa_0 rfl]
      obtain ⟨⟨a1, a2, a3⟩, ⟨b1, b2⟩, ⟨⟨c1, c2⟩, c3, c4⟩, f⟩ := h
      refine ⟨⟨a1, a2, a3⟩, ⟨b1, b2⟩, ⟨⟨⟨?_, fun k k0 k1 => ?_⟩, c2⟩, ?_, fun k k0 k1 => ?_⟩, f⟩
      · show 0 ≤ tz 0 + 1 ∧ tz 0 + 1 ≤ 150
        omega
      · have k2 : k < tz 0 + 1 := k1
        by_cases e : k = tz 0
        · rw [wset_eq e]; exact c
        · rw [wset_ne e]; exact c1.2 k k0 (by omega)
      · show M 0 0 + 1 = tz 0 + 1
        omega
      · have k2 : k < tz 0 + 1 := k1
        show (if k = M 0 0 then x1 else M 3 k) = (if k = tz 0 then x1 else tx k)
        rw [hL]
        by_cases e : k = tz 0
        · rw [if_pos e, if_pos e]
        · rw [if_neg e, if_neg e]; exact c4 k k0 (by omega)
    · rw [if_neg d, if_neg d, if_neg d, if_pos (by omega), rfa_4 rfl]
      exact h.full
  · rw [if_neg c, if_neg c, if_neg c, if_neg c, rfa_2 rfl]
    exact h.bad
theorem R_clear (h : Rel w0 w2 w3 kp tx tz fa fb rf M) : Rel w0 w2 w3 kp tx (wset tz 0 0) fa fb rf (mset M 0 0 0) := by
  obtain ⟨⟨a1, a2, a3⟩, ⟨b1, b2⟩, ⟨⟨c1, c2⟩, c3, c4⟩, f⟩ := h
  exact ⟨⟨a1, a2, a3⟩, ⟨b1, b2⟩, ⟨⟨⟨(show (0 : Int) ≤ 0 ∧ (0 : Int) ≤ 150 by decide), fun k k0 k1 => absurd (show k < 0 from k1) (by omega)⟩, c2⟩, (show (0 : Int) = 0 from rfl), fun k k0 k1 => absurd (show k < 0 from k1) (by omega)⟩, f⟩
end RB
