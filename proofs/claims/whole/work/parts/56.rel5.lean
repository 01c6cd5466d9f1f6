/-! minutes, notes, images: class and model stay alike -/
theorem go_1 {w : Int → Int} {x j : Int} (h : w 4 < 8) : h_goOn w x j = if j = 2 then x else if j = 4 then w 4 + 1 else if j = 41 + w 4 then w 2 else w j := by
  unfold h_goOn
  rw [if_pos h]
  rfl
theorem go_2 {w : Int → Int} {x j : Int} (h : ¬ w 4 < 8) : h_goOn w x j = if j = 2 then x else if j = 4 then 8 else if j = 48 then w 2 else if 41 ≤ j ∧ j < 48 then w (j + 1) else w j := by
  unfold h_goOn
  rw [if_neg h]
  show (if j = 2 then x else if j = 4 then 8 else if j = 48 then w 2 else if j = 4 then 7 else if 41 ≤ j ∧ j < 48 then w (j + 1) else w j) = _
  (repeat' split) <;> first | rfl | (exfalso; omega)
theorem ok_pt {w w' : Int → Int} (hw : hok w) (e0 : w' 0 = w 0) (e1 : w' 1 = w 1) (e3 : w' 3 = w 3) (h2 : 0 ≤ w' 2 ∧ w' 2 ≤ 999) (h4 : 0 ≤ w' 4 ∧ w' 4 ≤ 8) (en : ∀ j : Int, 5 ≤ j → j < 41 → w' j = w j) (hu : ∀ k : Int, 0 ≤ k → k < w' 4 → 0 ≤ w' (41 + k) ∧ w' (41 + k) ≤ 999) : hok w' := by
  have hb := hw.b
  refine hok_mk ?_ ?_ ?_ ?_ hu
  · rw [e0, e1, e3]; exact ⟨hb.1, hb.2.1, h2, hb.2.2.2.1, h4⟩
  · rw [en 13 (by decide) (by decide), en 14 (by decide) (by decide), en 15 (by decide) (by decide), en 16 (by decide) (by decide)]; exact hw.ln
  · intro k h0 h1
    rw [e0] at h1
    rw [en (5 + k) (by omega) (by omega), en (9 + k) (by omega) (by omega)]
    exact hw.k h0 h1
  · intro k h0 h1
    rw [e3] at h1
    rw [e0, e1, en (17 + 4 * k) (by omega) (by omega), en (18 + 4 * k) (by omega) (by omega), en (19 + 4 * k) (by omega) (by omega), en (20 + 4 * k) (by omega) (by omega)]
    exact hw.n h0 h1
theorem ok_go {w : Int → Int} (hw : hok w) {x : Int} (hx : 0 ≤ x ∧ x ≤ 999) : hok (h_goOn w x) := by
  have hb := hw.b
  by_cases c : w 4 < 8
  · have e : ∀ j : Int, h_goOn w x j = if j = 2 then x else if j = 4 then w 4 + 1 else if j = 41 + w 4 then w 2 else w j := fun j => go_1 c
    have en : ∀ j : Int, j ≠ 2 → j ≠ 4 → j ≠ 41 + w 4 → h_goOn w x j = w j := fun j a1 a2 a3 => by rw [e, if_neg a1, if_neg a2, if_neg a3]
    have e4 : h_goOn w x 4 = w 4 + 1 := by rw [e, if_neg (by decide), if_pos rfl]
    refine ok_pt hw (en 0 (by decide) (by decide) (by omega)) (en 1 (by decide) (by decide) (by omega)) (en 3 (by decide) (by decide) (by omega)) (by rw [e, if_pos rfl]; exact hx) (by rw [e4]; omega) (fun j a b => en j (by omega) (by omega) (by omega)) (fun k h0 h1 => ?_)
    rw [e4] at h1
    by_cases d : k = w 4
    · rw [e, if_neg (by omega), if_neg (by omega), if_pos (by omega)]; exact hb.2.2.1
    · rw [en (41 + k) (by omega) (by omega) (by omega)]; exact hw.u h0 (by omega)
  · have e : ∀ j : Int, h_goOn w x j = if j = 2 then x else if j = 4 then 8 else if j = 48 then w 2 else if 41 ≤ j ∧ j < 48 then w (j + 1) else w j := fun j => go_2 c
    have en : ∀ j : Int, j ≠ 2 → j ≠ 4 → j < 41 → h_goOn w x j = w j := fun j a1 a2 a3 => by rw [e, if_neg a1, if_neg a2, if_neg (by omega), if_neg (by omega)]
    have e4 : h_goOn w x 4 = 8 := by rw [e, if_neg (by decide), if_pos rfl]
    refine ok_pt hw (en 0 (by decide) (by decide) (by decide)) (en 1 (by decide) (by decide) (by decide)) (en 3 (by decide) (by decide) (by decide)) (by rw [e, if_pos rfl]; exact hx) (by rw [e4]; omega) (fun j a b => en j (by omega) (by omega) (by omega)) (fun k h0 h1 => ?_)
    rw [e4] at h1
    by_cases d : k = 7
    · rw [e, if_neg (by omega), if_neg (by omega), if_pos (by omega)]; exact hb.2.2.1
    · rw [e, if_neg (by omega), if_neg (by omega), if_neg (by omega), if_pos (by omega), show 41 + k + 1 = 41 + (k + 1) by omega]
      exact hw.u (by omega) (by omega)
theorem mp2_1 {S : Nat → Int → Int} {u t n j : Int} : m_pas2 S u t n 1 j = if j = 2 then (if 999 < t + n then 999 else t + n) else if j = 4 then u + 1 else if j = 41 + u then t else S 1 j := by
  unfold m_pas2
  rw [mset_1, mset_1, mset_1]
  rfl
theorem ag_go {w v v' : Int → Int} (h : hag w v) (hw : hok w) {x : Int} (e1 : w 4 < 8 → ∀ j : Int, v' j = if j = 2 then x else if j = 4 then v 4 + 1 else if j = 41 + v 4 then v 2 else v j) (e2 : ¬ w 4 < 8 → ∀ j : Int, v' j = if j = 2 then x else if j = 4 then 8 else if j = 48 then v 2 else if 41 ≤ j ∧ j < 48 then v (j + 1) else v j) : hag (h_goOn w x) v' := by
  have hb := hw.b
  have h4 := h.1.2.2.2.2
  have h2 := h.1.2.2.1
  refine hag_of_live (fun j hj => ?_)
  by_cases c : w 4 < 8
  · have e0 : h_goOn w x 0 = w 0 := by rw [go_1 c, if_neg (by decide), if_neg (by decide), if_neg (by omega)]
    have e3 : h_goOn w x 3 = w 3 := by rw [go_1 c, if_neg (by decide), if_neg (by decide), if_neg (by omega)]
    have e4 : h_goOn w x 4 = w 4 + 1 := by rw [go_1 c, if_neg (by decide), if_pos rfl]
    unfold live at hj
    rw [e0, e3, e4] at hj
    rw [go_1 c, e1 c, ← h4, ← h2]
    by_cases c2 : j = 2
    · rw [if_pos c2, if_pos c2]
    · by_cases c4 : j = 4
      · rw [if_neg c2, if_neg c2, if_pos c4, if_pos c4]
      · by_cases c5 : j = 41 + w 4
        · rw [if_neg c2, if_neg c2, if_neg c4, if_neg c4, if_pos c5, if_pos c5]
        · rw [if_neg c2, if_neg c2, if_neg c4, if_neg c4, if_neg c5, if_neg c5]
          refine h.live ?_
          unfold live
          omega
  · have e0 : h_goOn w x 0 = w 0 := by rw [go_2 c, if_neg (by decide), if_neg (by decide), if_neg (by decide), if_neg (by decide)]
    have e3 : h_goOn w x 3 = w 3 := by rw [go_2 c, if_neg (by decide), if_neg (by decide), if_neg (by decide), if_neg (by decide)]
    have e4 : h_goOn w x 4 = 8 := by rw [go_2 c, if_neg (by decide), if_pos rfl]
    unfold live at hj
    rw [e0, e3, e4] at hj
    rw [go_2 c, e2 c, ← h2]
    by_cases c2 : j = 2
    · rw [if_pos c2, if_pos c2]
    · by_cases c4 : j = 4
      · rw [if_neg c2, if_neg c2, if_pos c4, if_pos c4]
      · by_cases c5 : j = 48
        · rw [if_neg c2, if_neg c2, if_neg c4, if_neg c4, if_pos c5, if_pos c5]
        · by_cases c6 : 41 ≤ j ∧ j < 48
          · rw [if_neg c2, if_neg c2, if_neg c4, if_neg c4, if_neg c5, if_neg c5, if_pos c6, if_pos c6]
            refine h.live ?_
            unfold live
            omega
          · rw [if_neg c2, if_neg c2, if_neg c4, if_neg c4, if_neg c5, if_neg c5, if_neg c6, if_neg c6]
            refine h.live ?_
            unfold live
            omega
theorem ok_back {w : Int → Int} (hw : hok w) (h : 1 ≤ w 4) : hok (h_goBack w) := by
  have hb := hw.b
  have e2 := goBack_2 h
  have en : ∀ j : Int, j ≠ 2 → j ≠ 4 → h_goBack w j = w j := fun j a1 a2 => by unfold h_goBack; rw [if_neg (by omega), wset_ne a1, wset_ne a2]
  have e4 : h_goBack w 4 = w 4 - 1 := by unfold h_goBack; rw [if_neg (by omega)]; rfl
  have hu := hw.u (k := w 4 - 1) (by omega) (by omega)
  refine ok_pt hw (en 0 (by decide) (by decide)) (en 1 (by decide) (by decide)) (en 3 (by decide) (by decide)) (by rw [e2]; exact hu) (by rw [e4]; omega) (fun j a b => en j (by omega) (by omega)) (fun k h0 h1 => ?_)
  rw [e4] at h1
  rw [en (41 + k) (by omega) (by omega)]
  exact hw.u h0 (by omega)
theorem ag_back {w v : Int → Int} (h : hag w v) (hw : hok w) (h1 : 1 ≤ w 4) : hag (h_goBack w) (wset (wset v 4 (v 4 - 1)) 2 (v (41 + (v 4 - 1)))) := by
  have hb := hw.b
  have h4 := h.1.2.2.2.2
  have e2 := goBack_2 h1
  have en : ∀ j : Int, j ≠ 2 → j ≠ 4 → h_goBack w j = w j := fun j a1 a2 => by unfold h_goBack; rw [if_neg (by omega), wset_ne a1, wset_ne a2]
  have e4 : h_goBack w 4 = w 4 - 1 := by unfold h_goBack; rw [if_neg (by omega)]; rfl
  refine hag_of_live (fun j hj => ?_)
  unfold live at hj
  rw [en 0 (by decide) (by decide), en 3 (by decide) (by decide), e4] at hj
  by_cases c2 : j = 2
  · rw [c2, e2, wset_eq rfl, ← h4]
    exact h.2.2.2.2 (w 4 - 1) (by omega) (by omega)
  · by_cases c4 : j = 4
    · rw [c4, e4, wset_ne (by decide), wset_eq rfl, h4]
    · rw [en j c2 c4, wset_ne c2, wset_ne c4]
      refine h.live ?_
      unfold live
      omega
theorem note_1 {w : Int → Int} {L f m t j : Int} (h : w 3 < 6) : h_addNoted w L f m t j = if j = 3 then w 3 + 1 else if j = 20 + 4 * w 3 then t else if j = 19 + 4 * w 3 then m else if j = 18 + 4 * w 3 then f else if j = 17 + 4 * w 3 then L else w j := by
  unfold h_addNoted
  rw [if_pos h]
  rfl
theorem ok_note {w : Int → Int} (hw : hok w) {L f m t : Int} (h : w 3 < 6) (hL : 0 ≤ L ∧ L < w 0) (hf : 0 ≤ f ∧ f ≤ w 1) (hm : 0 ≤ m ∧ m ≤ 99) (ht : 0 ≤ t ∧ t ≤ 1) : hok (h_addNoted w L f m t) := by
  have hb := hw.b
  have e : ∀ j : Int, h_addNoted w L f m t j = if j = 3 then w 3 + 1 else if j = 20 + 4 * w 3 then t else if j = 19 + 4 * w 3 then m else if j = 18 + 4 * w 3 then f else if j = 17 + 4 * w 3 then L else w j := fun j => note_1 h
  have en : ∀ j : Int, j ≠ 3 → (j < 17 + 4 * w 3 ∨ 20 + 4 * w 3 < j) → h_addNoted w L f m t j = w j := fun j a1 a2 => by rw [e, if_neg a1, if_neg (by omega), if_neg (by omega), if_neg (by omega), if_neg (by omega)]
  have e3 : h_addNoted w L f m t 3 = w 3 + 1 := by rw [e, if_pos rfl]
  refine hok_mk ?_ ?_ ?_ ?_ ?_
  · rw [en 0 (by decide) (by omega), en 1 (by decide) (by omega), en 2 (by decide) (by omega), e3, en 4 (by decide) (by omega)]
    omega
  · rw [en 13 (by decide) (by omega), en 14 (by decide) (by omega), en 15 (by decide) (by omega), en 16 (by decide) (by omega)]
    exact hw.ln
  · intro k h0 h1
    rw [en 0 (by decide) (by omega)] at h1
    rw [en (5 + k) (by omega) (by omega), en (9 + k) (by omega) (by omega)]
    exact hw.k h0 h1
  · intro k h0 h1
    rw [e3] at h1
    rw [en 0 (by decide) (by omega), en 1 (by decide) (by omega)]
    by_cases c : k = w 3
    · rw [e (17 + 4 * k), e (18 + 4 * k), e (19 + 4 * k), e (20 + 4 * k)]
      rw [if_neg (by omega), if_neg (by omega), if_neg (by omega), if_neg (by omega), if_pos (by omega), if_neg (by omega), if_neg (by omega), if_neg (by omega), if_pos (by omega), if_neg (by omega), if_neg (by omega), if_pos (by omega), if_neg (by omega), if_pos (by omega)]
      exact ⟨hL, hf, hm, ht⟩
    · rw [en (17 + 4 * k) (by omega) (by omega), en (18 + 4 * k) (by omega) (by omega), en (19 + 4 * k) (by omega) (by omega), en (20 + 4 * k) (by omega) (by omega)]
      exact hw.n h0 (by omega)
  · intro k h0 h1
    rw [en 4 (by decide) (by omega)] at h1
    rw [en (41 + k) (by omega) (by omega)]
    exact hw.u h0 h1
theorem ag_note {w v v' : Int → Int} (h : hag w v) (hw : hok w) {L f m t : Int} (h6 : w 3 < 6) (e : ∀ j : Int, v' j = if j = 3 then v 3 + 1 else if j = 20 + 4 * v 3 then t else if j = 19 + 4 * v 3 then m else if j = 18 + 4 * v 3 then f else if j = 17 + 4 * v 3 then L else v j) : hag (h_addNoted w L f m t) v' := by
  have hb := hw.b
  have h3 := h.1.2.2.2.1
  have en : ∀ j : Int, j ≠ 3 → (j < 17 + 4 * w 3 ∨ 20 + 4 * w 3 < j) → h_addNoted w L f m t j = w j := fun j a1 a2 => by rw [note_1 h6, if_neg a1, if_neg (by omega), if_neg (by omega), if_neg (by omega), if_neg (by omega)]
  have e3 : h_addNoted w L f m t 3 = w 3 + 1 := by rw [note_1 h6, if_pos rfl]
  refine hag_of_live (fun j hj => ?_)
  unfold live at hj
  rw [en 0 (by decide) (by omega), e3, en 4 (by decide) (by omega)] at hj
  rw [note_1 h6, e j, ← h3]
  by_cases c3 : j = 3
  · rw [if_pos c3, if_pos c3]
  · by_cases d4 : j = 20 + 4 * w 3
    · rw [if_neg c3, if_neg c3, if_pos d4, if_pos d4]
    · by_cases d3 : j = 19 + 4 * w 3
      · rw [if_neg c3, if_neg c3, if_neg d4, if_neg d4, if_pos d3, if_pos d3]
      · by_cases d2 : j = 18 + 4 * w 3
        · rw [if_neg c3, if_neg c3, if_neg d4, if_neg d4, if_neg d3, if_neg d3, if_pos d2, if_pos d2]
        · by_cases d1 : j = 17 + 4 * w 3
          · rw [if_neg c3, if_neg c3, if_neg d4, if_neg d4, if_neg d3, if_neg d3, if_neg d2, if_neg d2, if_pos d1, if_pos d1]
          · rw [if_neg c3, if_neg c3, if_neg d4, if_neg d4, if_neg d3, if_neg d3, if_neg d2, if_neg d2, if_neg d1, if_neg d1]
            refine h.live ?_
            unfold live
            omega
