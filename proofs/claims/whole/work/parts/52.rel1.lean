/-! undo, of, digest under agreement; agreement place by place -/
theorem goBack_2 {w : Int → Int} (h : 1 ≤ w 4) : h_goBack w 2 = w (41 + (w 4 - 1)) := by
  unfold h_goBack
  rw [if_neg (by omega)]
  show (wset w 4 (w 4 - 1)) (41 + (w 4 - 1)) = _
  exact wset_ne (by omega)
theorem hag_undo {w v : Int → Int} (h : hag w v) (hw : hok w) : ca_undo w = ca_undo v := by
  have hb := hw.b
  have h4 := h.1.2.2.2.2
  unfold ca_undo
  rw [← h4]
  by_cases c : w 4 = 0
  · rw [if_pos c, if_pos c]
  · rw [if_neg c, if_neg c, goBack_2 (by omega), goBack_2 (w := v) (by omega), ← h4]
    exact h.2.2.2.2 (w 4 - 1) (by omega) (by omega)
theorem hag_of {w v : Int → Int} (h : hag w v) (x1 x2 : Int) : ca_of w x1 x2 = ca_of v x1 x2 := by
  unfold ca_of
  rw [← h.1.1]
  by_cases c : (0 ≤ x1 ∧ x1 < w 0) ∧ (0 ≤ x2 ∧ x2 ≤ 5)
  · have d := h.2.2.1 x1 c.1.1 c.1.2
    have e1 : c_fl w x1 (w 2) = c_fl v x1 (v 2) := by
      show c_floor (w (5 + x1)) (w 1) (w (9 + x1)) (w 2) = c_floor (v (5 + x1)) (v 1) (v (9 + x1)) (v 2)
      rw [d.1, d.2, h.1.2.1, h.1.2.2.1]
    have e2 : c_wy w x1 (w 2) = c_wy v x1 (v 2) := by
      rw [hag_wy h c.1, h.1.2.2.1]
    rw [if_pos c, if_pos c, e1, e2, d.1, d.2, h.1.2.1]
  · rw [if_neg c, if_neg c]
theorem hag_dg {w v : Int → Int} (h : hag w v) (hw : hok w) (L fa fb : Int) : ca_dg w L fa fb = ca_dg v L fa fb := by
  have hb := hw.b
  have e0 : (fun (k h9 : Int) => 31 * h9 + ctn w L k) = (fun (k h9 : Int) => 31 * h9 + ctn v L k) := by
    funext k h9
    unfold ctn
    rw [h.1.1, h.1.2.1, h.1.2.2.1, h.1.2.2.2.1, h.1.2.2.2.2]
  have e1 : ∀ X, itR (c_dgL w) X (w 0) = itR (c_dgL v) X (w 0) := fun X => itR_congr hb.2.1.1 (fun k x a b => by
    have d := h.2.2.1 k a b
    unfold c_dgL
    rw [d.1, d.2])
  have e2 : ∀ X, itR (c_dgE w) X 2 = itR (c_dgE v) X 2 := fun X => itR_congr (by decide) (fun k x a b => by
    have d := h.2.1
    rcases (show k = 0 ∨ k = 1 by omega) with e | e <;> subst e
    · show 31 * (31 * x + w 13) + w 15 = 31 * (31 * x + v 13) + v 15
      rw [d.1, d.2.2.1]
    · show 31 * (31 * x + w 14) + w 16 = 31 * (31 * x + v 14) + v 16
      rw [d.2.1, d.2.2.2])
  have e3 : ∀ X, itR (c_dgN w) X (w 3) = itR (c_dgN v) X (w 3) := fun X => itR_congr (by omega) (fun k x a b => by
    have d := h.2.2.2.1 k a b
    unfold c_dgN
    rw [d.1, d.2.1, d.2.2.1, d.2.2.2])
  unfold ca_dg c_dg
  rw [e0, e1, e2, e3, h.1.1, h.1.2.2.2.1]
/-- the places that count -/
def live (w : Int → Int) (j : Int) : Prop := (0 ≤ j ∧ j ≤ 4) ∨ (13 ≤ j ∧ j ≤ 16) ∨ (5 ≤ j ∧ j < 5 + w 0) ∨ (9 ≤ j ∧ j < 9 + w 0) ∨ (17 ≤ j ∧ j < 17 + 4 * w 3) ∨ (41 ≤ j ∧ j < 41 + w 4)
theorem hag.live {w v : Int → Int} (h : hag w v) {j : Int} (hj : live w j) : w j = v j := by
  obtain ⟨⟨a0, a1, a2, a3, a4⟩, ⟨b0, b1, b2, b3⟩, c, d, u⟩ := h
  rcases hj with hj | hj | hj | hj | hj | hj
  · rcases (show j = 0 ∨ j = 1 ∨ j = 2 ∨ j = 3 ∨ j = 4 by omega) with e | e | e | e | e <;> subst e <;> assumption
  · rcases (show j = 13 ∨ j = 14 ∨ j = 15 ∨ j = 16 by omega) with e | e | e | e <;> subst e <;> assumption
  · have c1 := (c (j - 5) (by omega) (by omega)).1
    rw [show 5 + (j - 5) = j by omega] at c1
    exact c1
  · have c1 := (c (j - 9) (by omega) (by omega)).2
    rw [show 9 + (j - 9) = j by omega] at c1
    exact c1
  · have d1 := d ((j - 17) / 4) (by omega) (by omega)
    rcases (show j = 17 + 4 * ((j - 17) / 4) ∨ j = 18 + 4 * ((j - 17) / 4) ∨ j = 19 + 4 * ((j - 17) / 4) ∨ j = 20 + 4 * ((j - 17) / 4) by omega) with e | e | e | e
    · have d2 := d1.1
      rw [← e] at d2
      exact d2
    · have d2 := d1.2.1
      rw [← e] at d2
      exact d2
    · have d2 := d1.2.2.1
      rw [← e] at d2
      exact d2
    · have d2 := d1.2.2.2
      rw [← e] at d2
      exact d2
  · have c1 := u (j - 41) (by omega) (by omega)
    rw [show 41 + (j - 41) = j by omega] at c1
    exact c1
theorem hag_of_live {w v : Int → Int} (h : ∀ j, live w j → w j = v j) : hag w v := by
  refine ⟨⟨h 0 (Or.inl (by decide)), h 1 (Or.inl (by decide)), h 2 (Or.inl (by decide)), h 3 (Or.inl (by decide)), h 4 (Or.inl (by decide))⟩, ⟨h 13 (Or.inr (Or.inl (by decide))), h 14 (Or.inr (Or.inl (by decide))), h 15 (Or.inr (Or.inl (by decide))), h 16 (Or.inr (Or.inl (by decide)))⟩, fun k h0 h1 => ⟨h _ (Or.inr (Or.inr (Or.inl (by omega)))), h _ (Or.inr (Or.inr (Or.inr (Or.inl (by omega)))))⟩, fun k h0 h1 => ⟨h _ ?_, h _ ?_, h _ ?_, h _ ?_⟩, fun k h0 h1 => h _ (Or.inr (Or.inr (Or.inr (Or.inr (Or.inr (by omega))))))⟩ <;> exact Or.inr (Or.inr (Or.inr (Or.inr (Or.inl (by omega)))))
theorem live_r {w : Int → Int} (hw : hok w) {j : Int} (hj : live w j) : 0 ≤ j ∧ j < 49 := by
  have hb := hw.b
  unfold live at hj
  omega
theorem hag_r {w v v' : Int → Int} (h : hag w v) (hw : hok w) (e : ∀ j, 0 ≤ j → j < 49 → v' j = v j) : hag w v' := hag_of_live (fun j hj => by
  have h1 := live_r hw hj
  rw [e j h1.1 h1.2]
  exact h.live hj)
theorem hok_cg {w w' : Int → Int} (hw : hok w) (e : ∀ j, 0 ≤ j → j < 49 → w' j = w j) : hok w' := by
  have h : hag w w' := hag_r (hag_refl w) hw e
  exact hag_ok h hw
theorem hag_l {w w' v : Int → Int} (h : hag w v) (hw : hok w) (e : ∀ j, 0 ≤ j → j < 49 → w' j = w j) : hag w' v := hag_of_live (fun j hj => by
  have hw' := hok_cg hw e
  have h1 := live_r hw' hj
  have e0 := e 0 (by decide) (by decide)
  have e3 := e 3 (by decide) (by decide)
  have e4 := e 4 (by decide) (by decide)
  unfold live at hj
  rw [e0, e3, e4] at hj
  rw [e j h1.1 h1.2]
  exact h.live hj)
theorem hcopy_j {w v : Int → Int} {j : Int} (hj : 0 ≤ j ∧ j < 49) : h_copy w v j = v j := by
  have e9 : ∀ a : Int → Int, cpr 9 a v j = if 41 ≤ j ∧ j < 49 then v j else a j := fun a => rfl
  have e8 : ∀ a : Int → Int, cpr 8 a v j = if 17 ≤ j ∧ j < 41 ∧ j % 4 = 0 then v j else a j := fun a => rfl
  have e7 : ∀ a : Int → Int, cpr 7 a v j = if 17 ≤ j ∧ j < 41 ∧ j % 4 = 3 then v j else a j := fun a => rfl
  have e6 : ∀ a : Int → Int, cpr 6 a v j = if 17 ≤ j ∧ j < 41 ∧ j % 4 = 2 then v j else a j := fun a => rfl
  have e5 : ∀ a : Int → Int, cpr 5 a v j = if 17 ≤ j ∧ j < 41 ∧ j % 4 = 1 then v j else a j := fun a => rfl
  have e4 : ∀ a : Int → Int, cpr 4 a v j = if 15 ≤ j ∧ j < 17 then v j else a j := fun a => rfl
  have e3 : ∀ a : Int → Int, cpr 3 a v j = if 13 ≤ j ∧ j < 15 then v j else a j := fun a => rfl
  have e2 : ∀ a : Int → Int, cpr 2 a v j = if 9 ≤ j ∧ j < 13 then v j else a j := fun a => rfl
  have e1 : ∀ a : Int → Int, cpr 1 a v j = if 5 ≤ j ∧ j < 9 then v j else a j := fun a => rfl
  unfold h_copy
  rw [e9, e8, e7, e6, e5, e4, e3, e2, e1]
  by_cases c : j < 5
  · rw [if_neg (by omega), if_neg (by omega), if_neg (by omega), if_neg (by omega), if_neg (by omega), if_neg (by omega), if_neg (by omega), if_neg (by omega), if_neg (by omega)]
    rcases (show j = 0 ∨ j = 1 ∨ j = 2 ∨ j = 3 ∨ j = 4 by omega) with e | e | e | e | e <;> subst e <;> rfl
  · (repeat' split) <;> first | rfl | (exfalso; omega)
