/-! porters: the model's comers among a set of lifts -/
theorem ck_iff {w : Int → Int} (hw : hok w) {x1 x2 x3 B : Int} : (¬ m_ck w x1 x2 B 2 = -1 ∧ m_ck w x1 x2 B 2 ≤ x3) ↔ ¬ srI (fun L => hasB B L && hasB (qW w x1 x2 x3) L) (w 0) 0 = -1 := by
  have hb := hw.b
  constructor
  · rintro ⟨h1, h2⟩ h9
    rcases srI_out (P := m_ckP w x1 x2 B 2) (N := 200) (i := 0) with h3 | ⟨h3, h4, h5⟩
    · exact h1 h3
    · have h3' : 0 ≤ m_ck w x1 x2 B 2 := h3
      have h4' : m_ck w x1 x2 B 2 < 200 := h4
      have h6 : ¬ m_cm w x1 x2 B 2 (m_ck w x1 x2 B 2) = -1 := of_decide_eq_true h5
      rcases srI_out (P := m_cmP w x1 x2 B 2 (m_ck w x1 x2 B 2)) (N := w 0) (i := 0) with g | ⟨g1, g2, g3⟩
      · exact h6 g
      · have hg : ∃ L, L = m_cm w x1 x2 B 2 (m_ck w x1 x2 B 2) := ⟨_, rfl⟩
        obtain ⟨L, hL⟩ := hg
        have g1' : 0 ≤ L := by rw [hL]; exact g1
        have g2' : L < w 0 := by rw [hL]; exact g2
        have g3' : m_cmP w x1 x2 B 2 (m_ck w x1 x2 B 2) L = true := by rw [hL]; exact g3
        unfold m_cmP at g3'
        rw [Bool.and_eq_true, Bool.and_eq_true] at g3'
        have k1 : hasB B L = true := g3'.1.1
        have k2 : c_wfP w L x1 x2 (m_ck w x1 x2 B 2) = true := g3'.1.2
        have k3 : inT w x1 x2 x3 L := by
          have e := wf_200 hw L x1 x2
          have n1 : ¬ c_wf w L x1 x2 = -1 := by
            intro h8
            rw [h8] at e
            exact srI_none (by decide) e h3' h4' k2
          have n2 : c_wf w L x1 x2 ≤ m_ck w x1 x2 B 2 := by
            by_cases h8 : m_ck w x1 x2 B 2 < c_wf w L x1 x2
            · rw [← e] at h8
              exact absurd k2 (srI_min (by decide) h3' h8)
            · omega
          exact And.intro n1 (by omega)
        have k4 := (qW_h (w := w) (x1 := x1) (x2 := x2) (x3 := x3) (k := L) (by omega)).mpr k3
        exact srI_none (by decide) h9 g1' g2' (by show (hasB B L && hasB (qW w x1 x2 x3) L) = true; rw [k1, k4]; rfl)
  · intro h
    rcases srI_out (P := fun L => hasB B L && hasB (qW w x1 x2 x3) L) (N := w 0) (i := 0) with g | ⟨g1, g2, g3⟩
    · exact absurd g h
    · have hg : ∃ L, L = srI (fun L => hasB B L && hasB (qW w x1 x2 x3) L) (w 0) 0 := ⟨_, rfl⟩
      obtain ⟨L, hL⟩ := hg
      rw [← hL] at g1 g2 g3
      have g3' : (hasB B L && hasB (qW w x1 x2 x3) L) = true := g3
      rw [Bool.and_eq_true] at g3'
      have k3 := (qW_h (w := w) (x1 := x1) (x2 := x2) (x3 := x3) (k := L) (by omega)).mp g3'.2
      rcases srI_out (P := c_wfP w L x1 x2) (N := 28) (i := 0) with e | ⟨e1, e2, e3⟩
      · exact absurd e k3.1
      · have e1' : 0 ≤ c_wf w L x1 x2 := e1
        have e2' : c_wf w L x1 x2 < 28 := e2
        have e3' : c_seen w L x1 (x2 + c_wf w L x1 x2) = true := e3
        have k5 : m_cmP w x1 x2 B 2 (c_wf w L x1 x2) L = true := by
          unfold m_cmP
          rw [g3'.1, e3']
          rfl
        have k6 : m_ckP w x1 x2 B 2 (c_wf w L x1 x2) = true := decide_eq_true (fun h8 => srI_none (by decide) h8 g1 g2 k5)
        have k7 : ¬ m_ck w x1 x2 B 2 = -1 := fun h8 => srI_none (by decide) h8 e1' (by omega) k6
        have k8 : m_ck w x1 x2 B 2 ≤ c_wf w L x1 x2 := by
          by_cases h8 : c_wf w L x1 x2 < m_ck w x1 x2 B 2
          · exact absurd k6 (srI_min (by decide) e1' h8)
          · omega
        exact And.intro k7 (Int.le_trans k8 k3.2)
theorem po_T {w : Int → Int} (hw : hok w) (x1 x2 x3 c : Int) : sumR (poF w x1 x2 x3 c) (2 ^ (w 0).toNat) = qT (w 0) c (qW w x1 x2 x3) := by
  unfold qT
  refine congrArg (fun f => sumR f (2 ^ (w 0).toNat)) (funext fun B => ?_)
  have h := ck_iff hw (x1 := x1) (x2 := x2) (x3 := x3) (B := B)
  unfold poF
  by_cases e : srI (fun L => hasB B L && hasB (qW w x1 x2 x3) L) (w 0) 0 = -1
  · rw [if_pos e, if_neg (fun h9 => h.mp h9 e)]
  · rw [if_neg e, if_pos (h.mpr e)]
theorem po_eq {w : Int → Int} (hw : hok w) {x1 x2 x3 c : Int} (hc : 0 ≤ c ∧ c ≤ 10) : sumR (poF w x1 x2 x3 c) (2 ^ (w 0).toNat) / gz (sumR (poF w x1 x2 x3 c) (2 ^ (w 0).toNat)) (pw10 (w 0)) = ((poR w x1 x2 x3 c (w 0)).2 - (poR w x1 x2 x3 c (w 0)).1) / gz ((poR w x1 x2 x3 c (w 0)).2 - (poR w x1 x2 x3 c (w 0)).1) (poR w x1 x2 x3 c (w 0)).2 ∧ pw10 (w 0) / gz (sumR (poF w x1 x2 x3 c) (2 ^ (w 0).toNat)) (pw10 (w 0)) = (poR w x1 x2 x3 c (w 0)).2 / gz ((poR w x1 x2 x3 c (w 0)).2 - (poR w x1 x2 x3 c (w 0)).1) (poR w x1 x2 x3 c (w 0)).2 := by
  have hb := hw.b
  have hq := qW_r w x1 x2 x3
  have e := po_R (w := w) (x1 := x1) (x2 := x2) (x3 := x3) (c := c) (w 0).toNat (by omega)
  rw [Int.toNat_of_nonneg (by omega)] at e
  have h := po_fin ⟨(w 0).toNat, by omega⟩ ⟨c.toNat, by omega⟩ ⟨(qW w x1 x2 x3).toNat, by omega⟩
  simp only [Int.toNat_of_nonneg hb.2.1.1, Int.toNat_of_nonneg hc.1, Int.toNat_of_nonneg hq.1] at h
  rw [po_T hw, e]
  unfold qOk at h
  rw [Bool.and_eq_true, decide_eq_true_eq, decide_eq_true_eq] at h
  exact h
