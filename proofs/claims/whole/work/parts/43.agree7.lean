/-! tokens: the class's and the model's -/
theorem skp_congr {P P' : Int → Bool} : ∀ (n : Nat) (k : Int), (∀ j, k ≤ j → j < k + n → P j = P' j) → skp P n k = skp P' n k
  | 0, _, _ => rfl
  | n + 1, k, h => by
    rw [skp, skp, h k (by omega) (by omega), skp_congr n (k + 1) (fun j a b => h j (by omega) (by omega))]
theorem skI_congr {P P' : Int → Bool} {N i : Int} (h : ∀ j, i ≤ j → j < N → P j = P' j) : skI P N i = skI P' N i := skp_congr _ i (fun j a b => h j a (by omega))
def trel (tx tz : Int → Int) (M : Nat → Int → Int) : Prop := M 0 0 = tz 0 ∧ (∀ k : Int, 0 ≤ k → k < tz 0 → M 3 k = tx k) ∧ M 0 3 = tz 3
def trel1 (tx tz : Int → Int) (M : Nat → Int → Int) : Prop := trel tx tz M ∧ M 0 4 = tz 2 ∧ ((M 0 5 = 1 ↔ tz 1 = 1) ∧ (M 0 6 = 1 ↔ tz 1 = 2)) ∧ (tz 1 = 0 ↔ tz 0 ≤ tz 2) ∧ (tz 1 = 3 ↔ tz 2 < tz 0 ∧ tx (tz 2) = 59) ∧ (tz 1 = 2 → tz 4 = t_vl tx (tz 2) (tz 3))
theorem trel_ts {tx tz : Int → Int} {M : Nat → Int → Int} (h : tsk tx tz) (r : trel tx tz M) : m_ts M = t_st tx (tz 0) (tz 3) := by
  unfold m_ts t_st
  rw [r.1, r.2.2]
  exact skI_congr (fun j a b => by unfold blP; rw [r.2.1 j (by have := h.2.1; omega) b])
theorem trel_sk {tx tz : Int → Int} {M : Nat → Int → Int} (r : trel tx tz M) {a : Int} (ha : 0 ≤ a) : skI (leP (M 3)) (tz 0) a = skI (leP tx) (tz 0) a ∧ skI (fiP (M 3)) (tz 0) a = skI (fiP tx) (tz 0) a := by
  constructor
  · exact skI_congr (fun j a b => by unfold leP; rw [r.2.1 j (by omega) b])
  · exact skI_congr (fun j a b => by unfold fiP; rw [r.2.1 j (by omega) b])
theorem tok_rel {tx tz : Int → Int} {M : Nat → Int → Int} (h : tsk tx tz) (r : trel tx tz M) : trel1 tx (t_next tx tz) (m_tok M) := by
  have e := trel_ts h r
  have hr := skI_r (P := blP tx) (N := tz 0) (i := tz 3) h.2.1.2
  have h3 := h.2.1
  have es : t_st tx (tz 0) (tz 3) = m_ts M := e.symm
  have hr' : tz 3 ≤ m_ts M ∧ m_ts M ≤ tz 0 := by rw [e]; exact hr
  have hk := trel_sk r (a := m_ts M + 1) (by omega)
  have m3 : m_tok M 0 3 = m_te M := rfl
  have m4 : m_tok M 0 4 = m_ts M := rfl
  have m5 : m_tok M 0 5 = bz (m_iw M) := rfl
  have m6 : m_tok M 0 6 = bz (m_if M) := rfl
  have m0 : m_tok M 0 0 = M 0 0 := rfl
  have mt : m_tok M 3 = M 3 := rfl
  unfold trel1 trel
  rw [m3, m4, m5, m6, m0, mt, bz_i, bz_i, t_next_0]
  unfold t_next
  rw [es]
  unfold t_nx
  by_cases c0 : tz 0 ≤ m_ts M
  · have hb1 : bAt (M 3) (M 0 0) (m_ts M) = -1 := if_neg (by rw [r.1]; omega)
    have te : m_te M = m_ts M := by have r1 := r.1; unfold m_te; rw [if_neg (show ¬ m_ts M < M 0 0 by omega)]
    rw [if_pos c0, te]
    refine ⟨⟨r.1, r.2.1, rfl⟩, rfl, ⟨⟨fun h9 => by have := h9.1; omega, fun h9 => absurd h9 (by decide : ¬ (0 : Int) = 1)⟩, ⟨fun h9 => by have := h9.1; omega, fun h9 => absurd h9 (by decide : ¬ (0 : Int) = 2)⟩⟩, ⟨fun _ => c0, fun _ => rfl⟩, ⟨fun h9 => absurd h9 (by decide : ¬ (0 : Int) = 3), fun h9 => absurd h9.1 (by show ¬ m_ts M < tz 0; omega)⟩, fun h9 => absurd h9 (by decide : ¬ (0 : Int) = 2)⟩
  · have hb1 : bAt (M 3) (M 0 0) (m_ts M) = tx (m_ts M) := by rw [bAt_in (by rw [r.1]; omega)]; exact r.2.1 _ (by omega) (by omega)
    have r1 := r.1
    have iw : m_iw M ↔ (97 ≤ tx (m_ts M) ∧ tx (m_ts M) ≤ 122) := by unfold m_iw; rw [hb1]
    have iff : m_if M ↔ (48 ≤ tx (m_ts M) ∧ tx (m_ts M) ≤ 57) := by unfold m_if; rw [hb1]
    have lt : m_ts M < M 0 0 := by omega
    rw [if_neg c0]
    by_cases c1 : 97 ≤ tx (m_ts M) ∧ tx (m_ts M) ≤ 122
    · have hx : skI (leP tx) (tz 0) (m_ts M) = skI (leP tx) (tz 0) (m_ts M + 1) := skI_next (by omega) (decide_eq_true c1)
      have te : m_te M = skI (leP tx) (tz 0) (m_ts M + 1) := by unfold m_te; rw [if_pos lt, if_pos (iw.mpr c1), r1, hk.1]
      rw [if_pos c1, te, hx]
      refine ⟨⟨r1, r.2.1, rfl⟩, rfl, ⟨⟨fun _ => rfl, fun _ => iw.mpr c1⟩, ⟨fun h9 => by have h8 := iff.mp h9; omega, fun h9 => absurd h9 (by decide : ¬ (1 : Int) = 2)⟩⟩, ⟨fun h9 => absurd h9 (by decide : ¬ (1 : Int) = 0), fun h9 => absurd h9 c0⟩, ⟨fun h9 => absurd h9 (by decide : ¬ (1 : Int) = 3), fun h9 => by have h8 : tx (m_ts M) = 59 := h9.2; omega⟩, fun h9 => absurd h9 (by decide : ¬ (1 : Int) = 2)⟩
    · rw [if_neg c1]
      by_cases c2 : 48 ≤ tx (m_ts M) ∧ tx (m_ts M) ≤ 57
      · have hx : skI (fiP tx) (tz 0) (m_ts M) = skI (fiP tx) (tz 0) (m_ts M + 1) := skI_next (by omega) (decide_eq_true c2)
        have te : m_te M = skI (fiP tx) (tz 0) (m_ts M + 1) := by unfold m_te; rw [if_pos lt, if_neg (fun h9 => c1 (iw.mp h9)), if_pos (iff.mpr c2), r1, hk.2]
        rw [if_pos c2, te, hx]
        refine ⟨⟨r1, r.2.1, rfl⟩, rfl, ⟨⟨fun h9 => absurd (iw.mp h9) c1, fun h9 => absurd h9 (by decide : ¬ (2 : Int) = 1)⟩, ⟨fun _ => rfl, fun _ => iff.mpr c2⟩⟩, ⟨fun h9 => absurd h9 (by decide : ¬ (2 : Int) = 0), fun h9 => absurd h9 c0⟩, ⟨fun h9 => absurd h9 (by decide : ¬ (2 : Int) = 3), fun h9 => by have h8 : tx (m_ts M) = 59 := h9.2; omega⟩, fun _ => rfl⟩
      · have te : m_te M = m_ts M + 1 := by unfold m_te; rw [if_pos lt, if_neg (fun h9 => c1 (iw.mp h9)), if_neg (fun h9 => c2 (iff.mp h9))]
        rw [if_neg c2, te]
        by_cases c3 : tx (m_ts M) = 59
        · rw [if_pos c3]
          refine ⟨⟨r1, r.2.1, rfl⟩, rfl, ⟨⟨fun h9 => absurd (iw.mp h9) c1, fun h9 => absurd h9 (by decide : ¬ (3 : Int) = 1)⟩, ⟨fun h9 => absurd (iff.mp h9) c2, fun h9 => absurd h9 (by decide : ¬ (3 : Int) = 2)⟩⟩, ⟨fun h9 => absurd h9 (by decide : ¬ (3 : Int) = 0), fun h9 => absurd h9 c0⟩, ⟨fun _ => ⟨show m_ts M < tz 0 by omega, c3⟩, fun _ => rfl⟩, fun h9 => absurd h9 (by decide : ¬ (3 : Int) = 2)⟩
        · rw [if_neg c3]
          refine ⟨⟨r1, r.2.1, rfl⟩, rfl, ⟨⟨fun h9 => absurd (iw.mp h9) c1, fun h9 => absurd h9 (by decide : ¬ (4 : Int) = 1)⟩, ⟨fun h9 => absurd (iff.mp h9) c2, fun h9 => absurd h9 (by decide : ¬ (4 : Int) = 2)⟩⟩, ⟨fun h9 => absurd h9 (by decide : ¬ (4 : Int) = 0), fun h9 => absurd h9 c0⟩, ⟨fun h9 => absurd h9 (by decide : ¬ (4 : Int) = 3), fun h9 => absurd h9.2 c3⟩, fun h9 => absurd h9 (by decide : ¬ (4 : Int) = 2)⟩
