/-! words: the class's and the model's -/
theorem nm_rel {tx tz : Int → Int} {M : Nat → Int → Int} (ht : tsok tx tz) (r : trel1 tx tz M) {i : Nat} {a b c d e : Int} (hw : (wl i = 5 ∧ ¬ e = 0 ∧ wc i 4 = e) ∨ (wl i = 4 ∧ e = 0)) (h0 : wc i 0 = a ∧ wc i 1 = b ∧ wc i 2 = c ∧ wc i 3 = d) : m_nm M a b c d e = t_isw tx tz i := by
  obtain ⟨⟨a0, a1, a2⟩, a3, ⟨a4, -⟩, -, -, -⟩ := r
  have h2 := ht.2.2.1
  have h3 := ht.2.2.2.1
  have hb : ∀ k : Int, 0 ≤ k → tz 2 + k < tz 3 → bAt (M 3) (M 0 0) (tz 2 + k) = tx (tz 2 + k) := fun k k0 k1 => by
    rw [bAt_in (by rw [a0]; omega), a1 _ (by omega) (by omega)]
  refine Bool.eq_iff_iff.mpr ?_
  unfold m_nm t_isw
  simp only [Bool.and_eq_true, decide_eq_true_eq]
  rw [a2, a3]
  constructor
  · rintro ⟨g1, g2, g3, g4, g5, g6, g7⟩
    have gl : tz 3 - tz 2 = wl i := by
      rcases hw with hw | hw
      · rw [if_neg hw.2.1] at g2; omega
      · rw [if_pos hw.2] at g2; omega
    refine ⟨⟨a4.mp g1, gl⟩, srI_of_none (by decide) (fun j j0 j1 => ?_)⟩
    unfold t_iwP
    rw [decide_eq_true_eq]
    intro g8
    apply g8
    have b0 := hb 0 (by decide) (by omega)
    have b1 := hb 1 (by decide) (by omega)
    have b2 := hb 2 (by decide) (by omega)
    have b3 := hb 3 (by decide) (by omega)
    rw [Int.add_zero] at b0
    rcases (show j = 0 ∨ j = 1 ∨ j = 2 ∨ j = 3 ∨ (j = 4 ∧ wl i = 5) by omega) with q | q | q | q | q
    · rw [q, Int.add_zero, h0.1]; omega
    · rw [q, h0.2.1]; omega
    · rw [q, h0.2.2.1]; omega
    · rw [q, h0.2.2.2]; omega
    · have b4 := hb 4 (by decide) (by omega)
      rcases hw with hw | hw
      · rw [q.1, hw.2.2]; omega
      · omega
  · rintro ⟨⟨g1, gl⟩, g2⟩
    have gk : ∀ j : Int, 0 ≤ j → j < wl i → tx (tz 2 + j) = wc i j := fun j j0 j1 => by
      have g9 := srI_none (by decide) g2 j0 j1
      unfold t_iwP at g9
      rw [decide_eq_true_eq] at g9
      exact Decidable.not_not.mp g9
    have k0 := gk 0 (by decide) (by omega)
    have k1 := gk 1 (by decide) (by omega)
    have k2 := gk 2 (by decide) (by omega)
    have k3 := gk 3 (by decide) (by omega)
    have b0 := hb 0 (by decide) (by omega)
    have b1 := hb 1 (by decide) (by omega)
    have b2 := hb 2 (by decide) (by omega)
    have b3 := hb 3 (by decide) (by omega)
    rw [Int.add_zero] at b0 k0
    refine ⟨a4.mpr g1, ?_, by omega, by omega, by omega, by omega, ?_⟩
    · rcases hw with hw | hw
      · rw [if_neg hw.2.1]; omega
      · rw [if_pos hw.2]; omega
    · rcases hw with hw | hw
      · have k4 := gk 4 (by decide) (by omega)
        have b4 := hb 4 (by decide) (by omega)
        right
        omega
      · exact Or.inl hw.2
