/-! the walk: the class begins with walking all the way, the model with nothing -/
theorem c_rd_1 {w : Int → Int} {f t m y : Int} (h : ¬ f = t) : c_rd w f t m y = -1 ∨ 1 ≤ c_rd w f t m y := by
  unfold c_rd
  rw [if_neg h]
  split
  · exact Or.inl rfl
  · rename_i h1
    split
    · exact Or.inl rfl
    · rename_i h2
      split
      · exact Or.inl rfl
      · rename_i h3
        right
        have a1 := c_wo_r w f m y
        have hs : c_seen w (c_sf w f (m + c_wo w f m y) y) f (m + c_wo w f m y) = true := by
          rcases srI_out (P := c_sfP w f (m + c_wo w f m y) y) (N := w 0) (i := 0) with h9 | ⟨-, -, h9⟩
          · exact absurd h9 h2
          · have h8 : c_sfP w f (m + c_wo w f m y) y (c_sf w f (m + c_wo w f m y) y) = true := h9
            unfold c_sfP at h8
            rw [Bool.and_eq_true] at h8
            exact h8.1
        rcases srI_out (P := c_wfP w (c_sf w f (m + c_wo w f m y) y) t (m + c_wo w f m y)) (N := 28) (i := 0) with h9 | ⟨b1, -, h9⟩
        · exact absurd h9 h3
        · have b2 : 0 ≤ c_wf w (c_sf w f (m + c_wo w f m y) y) t (m + c_wo w f m y) := b1
          by_cases e : c_wf w (c_sf w f (m + c_wo w f m y) y) t (m + c_wo w f m y) = 0
          · exfalso
            have h8 : c_seen w (c_sf w f (m + c_wo w f m y) y) t (m + c_wo w f m y + c_wf w (c_sf w f (m + c_wo w f m y) y) t (m + c_wo w f m y)) = true := h9
            rw [e, Int.add_zero] at h8
            unfold c_seen at h8 hs
            rw [Bool.and_eq_true, decide_eq_true_eq] at h8 hs
            exact h (hs.2.symm.trans h8.2)
          · omega
def wkRel (f t m k : Int) (x y : Int × Int × Int) : Prop := k ≤ 12 → ((k ≤ t ∧ y.2.1 = 1000000 ∧ y.2.2 = 1000000 ∧ x.1 = t ∧ x.2.1 = 2 * absz (t - f) ∧ x.2.2 = 2 * absz (t - f)) ∨ (k ≤ t ∧ 0 ≤ y.2.2 ∧ y.2.2 < y.2.1 - m ∧ y.2.1 < 2000 ∧ ((y.2.1 - m ≤ 2 * absz (t - f) ∧ x.1 = y.1 ∧ x.2.1 = y.2.2 ∧ x.2.2 = y.2.1 - m) ∨ (2 * absz (t - f) < y.2.1 - m ∧ x.1 = t ∧ x.2.1 = 2 * absz (t - f) ∧ x.2.2 = 2 * absz (t - f)))) ∨ (t < k ∧ x.1 = y.1 ∧ x.2.1 = y.2.2 ∧ x.2.2 = y.2.1 - m ∧ y.2.1 < 2000))
theorem wk_arith {k t m D r T mr x1 x2 x3 y1 y2 y3 : Int} (hm : 0 ≤ m ∧ m ≤ 999) (hD : 0 ≤ D ∧ D ≤ 40) (hr : -1 ≤ r ∧ r ≤ 60) (hT : 0 ≤ T ∧ T ≤ 40) (hmr : (r = -1 ∧ mr = -1) ∨ (¬ r = -1 ∧ mr = m + D + r)) (hk : (k = t ∧ r = 0 ∧ D = T) ∨ (¬ k = t ∧ (r = -1 ∨ 1 ≤ r)))
    (h : (k ≤ t ∧ y2 = 1000000 ∧ y3 = 1000000 ∧ x1 = t ∧ x2 = T ∧ x3 = T) ∨ (k ≤ t ∧ 0 ≤ y3 ∧ y3 < y2 - m ∧ y2 < 2000 ∧ ((y2 - m ≤ T ∧ x1 = y1 ∧ x2 = y3 ∧ x3 = y2 - m) ∨ (T < y2 - m ∧ x1 = t ∧ x2 = T ∧ x3 = T))) ∨ (t < k ∧ x1 = y1 ∧ x2 = y3 ∧ x3 = y2 - m ∧ y2 < 2000))
    {X Y : Int × Int × Int} (hX : X = if ¬ r = -1 ∧ (D + r < x3 ∨ (D + r = x3 ∧ D < x2)) then (k, D, D + r) else (x1, x2, x3)) (hY : Y = if ¬ mr = -1 ∧ (mr < y2 ∨ (mr = y2 ∧ D < y3)) then (k, mr, D) else (y1, y2, y3)) :
    (k + 1 ≤ t ∧ Y.2.1 = 1000000 ∧ Y.2.2 = 1000000 ∧ X.1 = t ∧ X.2.1 = T ∧ X.2.2 = T) ∨ (k + 1 ≤ t ∧ 0 ≤ Y.2.2 ∧ Y.2.2 < Y.2.1 - m ∧ Y.2.1 < 2000 ∧ ((Y.2.1 - m ≤ T ∧ X.1 = Y.1 ∧ X.2.1 = Y.2.2 ∧ X.2.2 = Y.2.1 - m) ∨ (T < Y.2.1 - m ∧ X.1 = t ∧ X.2.1 = T ∧ X.2.2 = T))) ∨ (t < k + 1 ∧ X.1 = Y.1 ∧ X.2.1 = Y.2.2 ∧ X.2.2 = Y.2.1 - m ∧ Y.2.1 < 2000) := by
  split at hX
  · split at hY
    · subst hX hY
      show (k + 1 ≤ t ∧ mr = 1000000 ∧ D = 1000000 ∧ k = t ∧ D = T ∧ D + r = T) ∨ (k + 1 ≤ t ∧ 0 ≤ D ∧ D < mr - m ∧ mr < 2000 ∧ ((mr - m ≤ T ∧ k = k ∧ D = D ∧ D + r = mr - m) ∨ (T < mr - m ∧ k = t ∧ D = T ∧ D + r = T))) ∨ (t < k + 1 ∧ k = k ∧ D = D ∧ D + r = mr - m ∧ mr < 2000)
      (rcases h with h | ⟨p1, p2, p3, p4, h | h⟩ | h) <;> (rcases hk with hk | ⟨hk, hk2 | hk2⟩) <;> (rcases hmr with hmr | hmr) <;> first | (exfalso; omega) | exact Or.inr (Or.inr (by omega)) | exact Or.inl (by omega) | exact Or.inr (Or.inl (And.intro (by omega) (And.intro (by omega) (And.intro (by omega) (And.intro (by omega) (Or.inl (by omega))))))) | exact Or.inr (Or.inl (And.intro (by omega) (And.intro (by omega) (And.intro (by omega) (And.intro (by omega) (Or.inr (by omega)))))))
    · subst hX hY
      show (k + 1 ≤ t ∧ y2 = 1000000 ∧ y3 = 1000000 ∧ k = t ∧ D = T ∧ D + r = T) ∨ (k + 1 ≤ t ∧ 0 ≤ y3 ∧ y3 < y2 - m ∧ y2 < 2000 ∧ ((y2 - m ≤ T ∧ k = y1 ∧ D = y3 ∧ D + r = y2 - m) ∨ (T < y2 - m ∧ k = t ∧ D = T ∧ D + r = T))) ∨ (t < k + 1 ∧ k = y1 ∧ D = y3 ∧ D + r = y2 - m ∧ y2 < 2000)
      (rcases h with h | ⟨p1, p2, p3, p4, h | h⟩ | h) <;> (rcases hk with hk | ⟨hk, hk2 | hk2⟩) <;> (rcases hmr with hmr | hmr) <;> first | (exfalso; omega) | exact Or.inr (Or.inr (by omega)) | exact Or.inl (by omega) | exact Or.inr (Or.inl (And.intro (by omega) (And.intro (by omega) (And.intro (by omega) (And.intro (by omega) (Or.inl (by omega))))))) | exact Or.inr (Or.inl (And.intro (by omega) (And.intro (by omega) (And.intro (by omega) (And.intro (by omega) (Or.inr (by omega)))))))
  · split at hY
    · subst hX hY
      show (k + 1 ≤ t ∧ mr = 1000000 ∧ D = 1000000 ∧ x1 = t ∧ x2 = T ∧ x3 = T) ∨ (k + 1 ≤ t ∧ 0 ≤ D ∧ D < mr - m ∧ mr < 2000 ∧ ((mr - m ≤ T ∧ x1 = k ∧ x2 = D ∧ x3 = mr - m) ∨ (T < mr - m ∧ x1 = t ∧ x2 = T ∧ x3 = T))) ∨ (t < k + 1 ∧ x1 = k ∧ x2 = D ∧ x3 = mr - m ∧ mr < 2000)
      (rcases h with h | ⟨p1, p2, p3, p4, h | h⟩ | h) <;> (rcases hk with hk | ⟨hk, hk2 | hk2⟩) <;> (rcases hmr with hmr | hmr) <;> first | (exfalso; omega) | exact Or.inr (Or.inr (by omega)) | exact Or.inl (by omega) | exact Or.inr (Or.inl (And.intro (by omega) (And.intro (by omega) (And.intro (by omega) (And.intro (by omega) (Or.inl (by omega))))))) | exact Or.inr (Or.inl (And.intro (by omega) (And.intro (by omega) (And.intro (by omega) (And.intro (by omega) (Or.inr (by omega)))))))
    · subst hX hY
      show (k + 1 ≤ t ∧ y2 = 1000000 ∧ y3 = 1000000 ∧ x1 = t ∧ x2 = T ∧ x3 = T) ∨ (k + 1 ≤ t ∧ 0 ≤ y3 ∧ y3 < y2 - m ∧ y2 < 2000 ∧ ((y2 - m ≤ T ∧ x1 = y1 ∧ x2 = y3 ∧ x3 = y2 - m) ∨ (T < y2 - m ∧ x1 = t ∧ x2 = T ∧ x3 = T))) ∨ (t < k + 1 ∧ x1 = y1 ∧ x2 = y3 ∧ x3 = y2 - m ∧ y2 < 2000)
      (rcases h with h | ⟨p1, p2, p3, p4, h | h⟩ | h) <;> (rcases hk with hk | ⟨hk, hk2 | hk2⟩) <;> (rcases hmr with hmr | hmr) <;> first | (exfalso; omega) | exact Or.inr (Or.inr (by omega)) | exact Or.inl (by omega) | exact Or.inr (Or.inl (And.intro (by omega) (And.intro (by omega) (And.intro (by omega) (And.intro (by omega) (Or.inl (by omega))))))) | exact Or.inr (Or.inl (And.intro (by omega) (And.intro (by omega) (And.intro (by omega) (And.intro (by omega) (Or.inr (by omega)))))))
theorem walk_eq {w : Int → Int} (hw : hok w) (x1 x2 x3 x4 : Int) : ma_walk w x1 x2 x3 x4 = ca_walk w x1 x2 x3 x4 := by
  have hb := hw.b
  unfold ma_walk ca_walk
  split
  · rename_i hv
    have hT := absz_r (a := x2 - x1) (b := 11) (by omega)
    have h := itR_rel (f := wkS w x1 x2 x3) (g := mwkS w x1 x2 x3) (a := (x2, 2 * absz (x2 - x1), 2 * absz (x2 - x1))) (b := (x1, 1000000, 1000000)) (N := w 1 + 1) (wkRel x1 x2 x3) (fun _ => Or.inl ⟨(show (0 : Int) ≤ x2 by omega), rfl, rfl, rfl, rfl, rfl⟩) (by omega) (by
      rintro k ⟨a1, a2, a3⟩ ⟨b1, b2, b3⟩ hk hR hk2
      have hD := absz_r (a := k - x1) (b := 11) (by omega)
      have hr := c_rd_r w k x2 (x3 + 2 * absz (k - x1)) (-1)
      refine wk_arith (D := 2 * absz (k - x1)) (r := c_rd w k x2 (x3 + 2 * absz (k - x1)) (-1)) (mr := mr_rd w k x2 (x3 + 2 * absz (k - x1)) (-1)) (T := 2 * absz (x2 - x1)) (by omega) (by omega) hr (by omega) ?_ ?_ (hR (by omega)) rfl rfl
      · unfold mr_rd
        split
        · exact Or.inl ⟨by assumption, rfl⟩
        · exact Or.inr ⟨by assumption, rfl⟩
      · by_cases e : k = x2
        · exact Or.inl ⟨e, c_rd_0 e, by rw [e]⟩
        · exact Or.inr ⟨e, c_rd_1 e⟩)
    have h2 := h (by omega)
    have h3 : (wkR w x1 x2 x3 (w 1 + 1)).1 = (mwkR w x1 x2 x3 (w 1 + 1)).1 ∧ (wkR w x1 x2 x3 (w 1 + 1)).2.2 = (mwkR w x1 x2 x3 (w 1 + 1)).2.1 - x3 := by
      unfold wkR mwkR
      rcases h2 with h2 | h2 | h2
      · omega
      · omega
      · exact ⟨h2.2.1, h2.2.2.2.1⟩
    split
    · exact h3.1.symm
    · exact h3.2.symm
  · rfl
