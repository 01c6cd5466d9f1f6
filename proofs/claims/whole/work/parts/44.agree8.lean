/-! numbers: the class's and the model's -/
theorem itR_congr {σ : Type} {f g : Int → σ → σ} {a : σ} {N : Int} (hN : 0 ≤ N) (h : ∀ k x, 0 ≤ k → k < N → f k x = g k x) : itR f a N = itR g a N :=
  itR_rel (fun k x y => k ≤ N → x = y) (fun _ => rfl) hN (fun k x y hk hR hk2 => by rw [hR (by omega)]; exact h k y hk (by omega)) (Int.le_refl _)
theorem vl_rel {tx tz : Int → Int} {M : Nat → Int → Int} (r : trel tx tz M) {a b : Int} (h : 0 ≤ a ∧ a ≤ b ∧ b ≤ tz 0) : m_vl (M 3) (M 0 0) a b = itR (t_vlF tx a) 0 (b - a) := by
  unfold m_vl
  refine itR_congr (by omega) (fun k x h0 h1 => ?_)
  unfold m_vlF t_vlF
  rw [bAt_in (by rw [r.1]; omega), r.2.1 (a + k) (by omega) (by omega)]
theorem num_rel {tx tz : Int → Int} {M : Nat → Int → Int} (h : tsk tx tz) (r : trel tx tz M) {lo hi : Int} (hlo : 0 ≤ lo) : m_tkR M lo hi = t_num tx tz lo hi ∧ (t_num tx tz lo hi = true → ∀ k, m_tkM M k 5 k = t_next tx tz 4) := by
  have r1 := tok_rel h r
  have hs := tsok_nx h
  obtain ⟨⟨a0, a1, a2⟩, a3, ⟨-, a5⟩, -, -, a8⟩ := r1
  rw [t_next_0] at a0
  have v := vl_rel r (a := t_next tx tz 2) (b := t_next tx tz 3) (by have h1 := hs.2.2.1; have h2 := hs.2.2.2.1; rw [t_next_0] at h2; omega)
  have key : m_tkR M lo hi = true ↔ t_num tx tz lo hi = true := by
    unfold m_tkR t_num
    simp only [Bool.and_eq_true, decide_eq_true_eq]
    rw [a3, a2, v]
    constructor
    · rintro ⟨g1, g2, g3⟩
      have g4 := a5.mp g1
      have g5 := a8 g4
      unfold t_vl at g5
      rw [if_pos g2] at g5
      rw [g5]
      exact ⟨g4, g3⟩
    · rintro ⟨g1, g3⟩
      have g5 := a8 g1
      unfold t_vl at g5
      by_cases g2 : t_next tx tz 3 - t_next tx tz 2 ≤ 2
      · rw [if_pos g2] at g5
        rw [g5] at g3
        exact ⟨a5.mpr g1, g2, g3⟩
      · rw [if_neg g2] at g5
        omega
  refine ⟨Bool.eq_iff_iff.mpr key, fun g k => ?_⟩
  have g0 := key.mpr g
  unfold m_tkR at g0
  simp only [Bool.and_eq_true, decide_eq_true_eq] at g0
  have hc : m_tok M 0 6 = 1 ∧ m_tok M 0 3 - m_tok M 0 4 ≤ 2 := And.intro g0.1 g0.2.1
  unfold m_tkM
  rw [if_pos hc, mset_at, a3, a2, v]
  have g5 := a8 (a5.mp g0.1)
  unfold t_vl at g5
  have g2 := g0.2.1
  rw [a3, a2] at g2
  rw [if_pos g2] at g5
  exact g5.symm
