/-! reading item by item -/
section RE
variable {tx tz w : Int → Int} {S M : Nat → Int → Int}
theorem nm_x {a b c d e a' b' c' d' e' : Int} (h1 : m_nm S a b c d e = true) (h2 : m_nm S a' b' c' d' e' = true) : (if e = 0 then (4 : Int) else 5) = (if e' = 0 then (4 : Int) else 5) ∧ c = c' := by
  unfold m_nm at h1 h2
  simp only [Bool.and_eq_true, decide_eq_true_eq] at h1 h2
  exact ⟨h1.2.1.symm.trans h2.2.1, h1.2.2.2.2.1.symm.trans h2.2.2.2.2.1⟩
theorem item_rel (ht : tsok tx tz) (r : trel1 tx tz S) (hk : mK S M) (hd : DR w S) {n : Int} (hn : 1 ≤ n) :
    m_itR S n = it_r tx tz w ∧ trel1 tx (it_tz tx tz w) (m_itM S n) ∧ mK (m_itM S n) M ∧ (it_r tx tz w = true → DR (it_w tx tz w) (m_itM S n)) := by
  have i0 := nm_0 ht r
  have i1 := nm_1 ht r
  have i2 := nm_2 ht r
  have hb := hd.1.b
  have e0 : w 0 = S 1 147 := hd.2.1.1.1
  have stay : m_wn S = -1 ∨ m_wn S = 0 → ¬ t_isw tx tz 1 = true → ¬ t_isw tx tz 2 = true → m_itR S n = it_r tx tz w ∧ trel1 tx (it_tz tx tz w) (m_itM S n) ∧ mK (m_itM S n) M ∧ (it_r tx tz w = true → DR (it_w tx tz w) (m_itM S n)) := by
    intro hw n1 n2
    have hc : ¬ (¬ m_wn S = -1 ∧ (m_wn S = 0 ↔ n = 0)) := by
      rintro ⟨g1, g2⟩
      rcases hw with hw | hw
      · exact g1 hw
      · have := g2.mp hw
        omega
    have n2' : t_isw tx tz 2 = false := by cases hq : t_isw tx tz 2 with | true => exact absurd hq n2 | false => rfl
    have er : it_r tx tz w = false := by
      unfold it_r
      rw [if_neg (fun h9 => n1 h9.1), n2', Bool.false_and]
    have ez : it_tz tx tz w = tz := by
      unfold it_tz
      rw [if_neg (fun h9 => n1 h9.1), if_neg n2]
    have em : m_itR S n = false := by cases hq : m_itR S n with | true => exact absurd hq (it_f1 hc) | false => rfl
    rw [er, ez, em, it_s1 hc]
    exact ⟨rfl, r, hk, fun h9 => absurd h9 (by decide)⟩
  by_cases c0 : t_isw tx tz 0 = true
  · have m0 : m_nm S 104 111 117 115 101 = true := i0.trans c0
    refine stay (Or.inr ?_) (fun h9 => ?_) (fun h9 => ?_)
    · unfold m_wn
      rw [if_pos m0]
    · exact absurd (nm_x m0 (i1.trans h9)).2 (by decide)
    · exact absurd (nm_x m0 (i2.trans h9)).2 (by decide)
  · have m0 : ¬ m_nm S 104 111 117 115 101 = true := fun h9 => c0 (i0.symm.trans h9)
    by_cases c1 : t_isw tx tz 1 = true
    · have m1 : m_nm S 108 105 102 116 0 = true := i1.trans c1
      have hw : m_wn S = 1 := by unfold m_wn; rw [if_neg m0, if_pos m1]
      have c2 : ¬ t_isw tx tz 2 = true := fun h9 => absurd (nm_x m1 (i2.trans h9)).2 (by decide)
      have hc : ¬ m_wn S = -1 ∧ (m_wn S = 0 ↔ n = 0) := ⟨by omega, ⟨fun h9 => by omega, fun h9 => by omega⟩⟩
      have hs := m_sub1 hw
      by_cases cl : w 0 < 4
      · obtain ⟨q1, q2, q3, q4⟩ := tl_rel ht r hk hd cl
        have t1 := tsok_next ht
        have eM : m_itM S n = if m_tlR S = true then m_tok (m_tlM S) else m_tlM S := by unfold m_itM; rw [if_pos hc, hs]
        have eR : m_itR S n = (m_tlR S && decide (bAt (m_tlM S 3) (m_tlM S 0 0) (m_tok (m_tlM S) 0 4) = 59)) := by unfold m_itR; rw [if_pos hc, hs]
        have er : it_r tx tz w = rl_r tx tz := by unfold it_r; rw [if_pos ⟨c1, cl⟩]
        have ez : it_tz tx tz w = rl_tz tx tz := by unfold it_tz; rw [if_pos ⟨c1, cl⟩]
        have ew : it_w tx tz w = rl_w tx tz w := by unfold it_w; rw [if_pos ⟨c1, cl⟩]
        rw [eM, eR, er, ez, ew]
        unfold rl_r rl_tz rl_w
        by_cases d1 : t_num tx tz 0 5 = true
        · rw [if_pos d1] at q2
          rw [if_pos d1, if_pos d1]
          by_cases d2 : t_num tx (t_next tx tz) 0 99 = true
          · have hR : m_tlR S = true := by rw [q1, d1, d2]; rfl
            have hsem := sem_rel (tsok_next t1).k q2.1
            rw [if_pos d2, if_pos d2, if_pos hR, hR, d1, d2, hsem, Bool.true_and, Bool.true_and]
            exact ⟨rfl, tok_rel (tsok_next t1).k q2.1, mK_tok q3, fun _ => q4 hR⟩
          · have hR : m_tlR S = false := by
              rw [q1]
              cases hq : t_num tx (t_next tx tz) 0 99 with
              | true => exact absurd hq d2
              | false => exact Bool.and_false _
            have d2' : t_num tx (t_next tx tz) 0 99 = false := by cases hq : t_num tx (t_next tx tz) 0 99 with | true => exact absurd hq d2 | false => rfl
            rw [if_neg d2, if_neg d2, hR, if_neg (by decide), d2', Bool.false_and, Bool.false_and, Bool.and_false]
            exact ⟨rfl, q2, q3, fun h9 => absurd h9 (by decide)⟩
        · have d1' : t_num tx tz 0 5 = false := by cases hq : t_num tx tz 0 5 with | true => exact absurd hq d1 | false => rfl
          have hR : m_tlR S = false := by rw [q1, d1', Bool.false_and]
          rw [if_neg d1] at q2
          rw [if_neg d1, if_neg d1, hR, if_neg (by decide), d1', Bool.false_and, Bool.false_and]
          exact ⟨rfl, q2, q3, fun h9 => absurd h9 (by decide)⟩
      · have h4 : S 1 147 = 4 := by omega
        have hR : m_tlR S = false := by unfold m_tlR; rw [decide_eq_false (fun h9 => h9 h4), Bool.false_and]
        have hM : m_tlM S = S := by unfold m_tlM; rw [if_pos h4]
        have eM : m_itM S n = S := by unfold m_itM; rw [if_pos hc, hs]; show (if m_tlR S = true then m_tok (m_tlM S) else m_tlM S) = S; rw [hR, if_neg (by decide), hM]
        have eR : m_itR S n = false := by unfold m_itR; rw [if_pos hc, hs]; show (m_tlR S && _) = false; rw [hR, Bool.false_and]
        have c2' : t_isw tx tz 2 = false := by cases hq : t_isw tx tz 2 with | true => exact absurd hq c2 | false => rfl
        have er : it_r tx tz w = false := by unfold it_r; rw [if_neg (fun h9 => cl h9.2), c2', Bool.false_and]
        have ez : it_tz tx tz w = tz := by unfold it_tz; rw [if_neg (fun h9 => cl h9.2), if_neg c2]
        rw [eM, eR, er, ez]
        exact ⟨rfl, r, hk, fun h9 => absurd h9 (by decide)⟩
    · have m1 : ¬ m_nm S 108 105 102 116 0 = true := fun h9 => c1 (i1.symm.trans h9)
      by_cases c2 : t_isw tx tz 2 = true
      · have m2 : m_nm S 108 105 110 101 0 = true := i2.trans c2
        have hw : m_wn S = 2 := by unfold m_wn; rw [if_neg m0, if_neg m1, if_pos m2]
        have hc : ¬ m_wn S = -1 ∧ (m_wn S = 0 ↔ n = 0) := ⟨by omega, ⟨fun h9 => by omega, fun h9 => by omega⟩⟩
        have hs := m_sub2 (M := S) (by omega) (by omega)
        obtain ⟨q1, q2, q3, q4⟩ := tn_rel ht r hk hd
        have t1 := tsok_next ht
        have t2 := tsok_next t1
        have eM : m_itM S n = if m_tnR S = true then m_tok (m_tnM S) else m_tnM S := by unfold m_itM; rw [if_pos hc, hs]
        have eR : m_itR S n = (m_tnR S && decide (bAt (m_tnM S 3) (m_tnM S 0 0) (m_tok (m_tnM S) 0 4) = 59)) := by unfold m_itR; rw [if_pos hc, hs]
        have er : it_r tx tz w = rn_r tx tz := by unfold it_r; rw [if_neg (fun h9 => c1 h9.1), c2, Bool.true_and]
        have ez : it_tz tx tz w = rn_tz tx tz := by unfold it_tz; rw [if_neg (fun h9 => c1 h9.1), if_pos c2]
        have ew : it_w tx tz w = rn_w tx tz w := by unfold it_w; rw [if_neg (fun h9 => c1 h9.1), if_pos c2]
        rw [eM, eR, er, ez, ew]
        unfold rn_r rn_tz rn_w
        by_cases d1 : t_num tx tz 0 1 = true
        · rw [if_pos d1] at q2
          rw [if_pos d1, if_pos d1]
          by_cases d2 : t_num tx (t_next tx tz) 1 30 = true
          · rw [if_pos d2] at q2
            rw [if_pos d2, if_pos d2]
            by_cases d3 : t_num tx (t_next tx (t_next tx tz)) 0 29 = true
            · have hR : m_tnR S = true := by rw [q1, d1, d2, d3]; rfl
              have hsem := sem_rel (tsok_next t2).k q2.1
              rw [if_pos d3, if_pos d3, if_pos hR, hR, d1, d2, d3, hsem, Bool.true_and, Bool.true_and]
              exact ⟨rfl, tok_rel (tsok_next t2).k q2.1, mK_tok q3, fun _ => q4 hR⟩
            · have d3' : t_num tx (t_next tx (t_next tx tz)) 0 29 = false := by cases hq : t_num tx (t_next tx (t_next tx tz)) 0 29 with | true => exact absurd hq d3 | false => rfl
              have hR : m_tnR S = false := by rw [q1, d3', Bool.and_false, Bool.and_false]
              rw [if_neg d3, if_neg d3, hR, if_neg (by decide), d3', Bool.false_and, Bool.false_and, Bool.and_false, Bool.and_false]
              exact ⟨rfl, q2, q3, fun h9 => absurd h9 (by decide)⟩
          · have d2' : t_num tx (t_next tx tz) 1 30 = false := by cases hq : t_num tx (t_next tx tz) 1 30 with | true => exact absurd hq d2 | false => rfl
            have hR : m_tnR S = false := by rw [q1, d2', Bool.false_and, Bool.and_false]
            rw [if_neg d2] at q2
            rw [if_neg d2, if_neg d2, hR, if_neg (by decide), d2', Bool.false_and, Bool.false_and, Bool.and_false]
            exact ⟨rfl, q2, q3, fun h9 => absurd h9 (by decide)⟩
        · have d1' : t_num tx tz 0 1 = false := by cases hq : t_num tx tz 0 1 with | true => exact absurd hq d1 | false => rfl
          have hR : m_tnR S = false := by rw [q1, d1', Bool.false_and]
          rw [if_neg d1] at q2
          rw [if_neg d1, if_neg d1, hR, if_neg (by decide), d1', Bool.false_and, Bool.false_and]
          exact ⟨rfl, q2, q3, fun h9 => absurd h9 (by decide)⟩
      · have m2 : ¬ m_nm S 108 105 110 101 0 = true := fun h9 => c2 (i2.symm.trans h9)
        refine stay (Or.inl ?_) c1 c2
        unfold m_wn
        rw [if_neg m0, if_neg m1, if_neg m2]
/-- the first item -/
theorem house_rel (ht : tsok tx tz) (r : trel1 tx tz S) (hk : mK S M) (hg : (S 1 147 = 0 ∧ S 1 149 = 0 ∧ S 1 150 = 0 ∧ S 1 151 = 0) ∧ (S 1 160 = 10 ∧ S 1 161 = 10 ∧ S 1 162 = 0 ∧ S 1 163 = 0)) :
    m_itR S 0 = rh_r tx tz ∧ trel1 tx (rh_tz tx tz) (m_itM S 0) ∧ mK (m_itM S 0) M ∧ (rh_r tx tz = true → DR (rh_w tx tz w) (m_itM S 0)) := by
  have i0 := nm_0 ht r
  by_cases c0 : t_isw tx tz 0 = true
  · have m0 : m_nm S 104 111 117 115 101 = true := i0.trans c0
    have hw : m_wn S = 0 := by unfold m_wn; rw [if_pos m0]
    have hc : ¬ m_wn S = -1 ∧ (m_wn S = 0 ↔ (0 : Int) = 0) := ⟨by omega, ⟨fun _ => rfl, fun _ => hw⟩⟩
    have hs := m_sub0 hw
    have n1 := num_rel ht.k r.1 (lo := 1) (hi := 11) (by decide)
    have r1 := tk_rel ht.k r.1 0
    have t1 := tsok_next ht
    have eM : m_itM S 0 = if m_tkR S 1 11 = true then m_tok (m_thM S) else m_thM S := by unfold m_itM; rw [if_pos hc, hs]
    have eR : m_itR S 0 = (m_tkR S 1 11 && decide (bAt (m_thM S 3) (m_thM S 0 0) (m_tok (m_thM S) 0 4) = 59)) := by unfold m_itR; rw [if_pos hc, hs]
    rw [eM, eR, n1.1]
    unfold rh_r rh_tz rh_w
    rw [if_pos c0, if_pos c0, c0, Bool.true_and]
    by_cases d1 : t_num tx tz 1 11 = true
    · have eT : m_thM S = mset (m_tkM S 0) 1 148 (t_next tx tz 4) := by unfold m_thM; rw [n1.1, if_pos d1, n1.2 d1 0]
      have q2 : trel1 tx (t_next tx tz) (m_thM S) := by rw [eT]; exact r1
      have hsem := sem_rel t1.k q2.1
      rw [if_pos d1, if_pos d1, if_pos d1, d1, hsem, Bool.true_and]
      have k1 := t_num_4 d1
      have q3 : mK (m_thM S) M := by rw [eT]; exact mK_w (mK_tk hk) (by decide)
      refine ⟨rfl, tok_rel t1.k q2.1, mK_tok q3, fun _ => ⟨ok_build w k1, ?_, rfl⟩⟩
      have e1 : ∀ j : Int, ¬ j = 148 → m_thM S 1 j = S 1 j := fun j hj => by rw [eT, mset_ne hj, tkM_1]
      have e2 : m_thM S 1 148 = t_next tx tz 4 := by rw [eT, mset_at]
      exact ag_build ((e1 147 (by decide)).trans hg.1.1) e2 ((e1 149 (by decide)).trans hg.1.2.1) ((e1 150 (by decide)).trans hg.1.2.2.1) ((e1 151 (by decide)).trans hg.1.2.2.2) ((e1 160 (by decide)).trans hg.2.1) ((e1 161 (by decide)).trans hg.2.2.1) ((e1 162 (by decide)).trans hg.2.2.2.1) ((e1 163 (by decide)).trans hg.2.2.2.2)
    · have d1' : t_num tx tz 1 11 = false := by cases hq : t_num tx tz 1 11 with | true => exact absurd hq d1 | false => rfl
      have eT : m_thM S = m_tkM S 0 := by unfold m_thM; rw [n1.1, if_neg d1]
      rw [if_neg d1, if_neg d1, if_neg d1, d1', Bool.false_and, Bool.false_and, eT]
      exact ⟨rfl, r1, mK_tk hk, fun h9 => absurd h9 (by decide)⟩
  · have m0 : ¬ m_nm S 104 111 117 115 101 = true := fun h9 => c0 (i0.symm.trans h9)
    have c0' : t_isw tx tz 0 = false := by cases hq : t_isw tx tz 0 with | true => exact absurd hq c0 | false => rfl
    have hc : ¬ (¬ m_wn S = -1 ∧ (m_wn S = 0 ↔ (0 : Int) = 0)) := by
      rintro ⟨-, g2⟩
      have g3 := g2.mpr rfl
      unfold m_wn at g3
      rw [if_neg m0] at g3
      split at g3
      · omega
      · split at g3 <;> omega
    have em : m_itR S 0 = false := by cases hq : m_itR S 0 with | true => exact absurd hq (it_f1 hc) | false => rfl
    have er : rh_r tx tz = false := by unfold rh_r; rw [c0', Bool.false_and]
    have ez : rh_tz tx tz = tz := by unfold rh_tz; rw [if_neg c0]
    rw [em, er, ez, it_s1 hc]
    exact ⟨rfl, r, hk, fun h9 => absurd h9 (by decide)⟩
/-- all items -/
theorem ri_rel : ∀ (k : Nat) (tz w : Int → Int) (S : Nat → Int → Int) (n : Int), tsok tx tz → mtok S → trel1 tx tz S → DR w S → mK S M → 1 ≤ n → n + k = 150 → n ≤ S 0 4 →
    (ri tx k tz w n).1 = (mri (k + 1) S n).1 ∧ ((∃ T, 1 ≤ (ri tx k tz w n).1 ∧ DR (ri tx k tz w n).2.2 T ∧ (mri (k + 1) S n).2 = m_copy T 147 0 ∧ mK T M ∧ trel tx (ri tx k tz w n).2.1 T) ∨ ((ri tx k tz w n).1 ≤ -10 ∧ mK (mri (k + 1) S n).2 M ∧ trel tx (ri tx k tz w n).2.1 (mri (k + 1) S n).2))
  | 0, tz, w, S, n, ht, hm, r, hd, hk, h1, h2, h3 => by
    have h4 := ht.1.1
    have h5 := r.1.1
    have hc : S 0 0 ≤ S 0 4 ∧ ¬ n = 0 := ⟨by omega, by omega⟩
    have e1 : ri tx 0 tz w n = (n, tz, w) := rfl
    have e2 : mri (0 + 1) S n = (n, m_copy S 147 0) := by rw [mri, if_pos hc]
    rw [e1, e2]
    exact ⟨rfl, Or.inl ⟨S, h1, hd, rfl, hk, r.1⟩⟩
  | k + 1, tz, w, S, n, ht, hm, r, hd, hk, h1, h2, h3 => by
    have h5 := r.1.1
    have h6 := r.2.1
    have h7 := r.2.2.2.1
    by_cases c : tz 1 = 0
    · have h8 := h7.mp c
      have hc : S 0 0 ≤ S 0 4 ∧ ¬ n = 0 := ⟨by omega, by omega⟩
      have e1 : ri tx (k + 1) tz w n = (n, tz, w) := by rw [ri, if_pos c]
      have e2 : mri (k + 1 + 1) S n = (n, m_copy S 147 0) := by rw [mri, if_pos hc]
      rw [e1, e2]
      exact ⟨rfl, Or.inl ⟨S, h1, hd, rfl, hk, r.1⟩⟩
    · have hc : ¬ (S 0 0 ≤ S 0 4 ∧ ¬ n = 0) := fun h9 => c (h7.mpr (by have := h9.1; omega))
      obtain ⟨q1, q2, q3, q4⟩ := item_rel (w := w) ht r hk hd h1
      have t1 := tsok_it (w := w) ht
      by_cases d : it_r tx tz w = true
      · have d' : m_itR S n = true := q1.trans d
        have e1 : ri tx (k + 1) tz w n = ri tx k (t_next tx (it_tz tx tz w)) (it_w tx tz w) (n + 1) := by rw [ri, if_neg c, if_pos d]
        have e2 : mri (k + 1 + 1) S n = mri (k + 1) (m_tok (m_itM S n)) (n + 1) := by rw [mri, if_neg hc, if_pos d']
        rw [e1, e2]
        have ha := it_adv hm d'
        exact ri_rel k _ _ _ (n + 1) (tsok_next t1) (mtok_next (mtk_it1 hm)) (tok_rel t1.k q2.1) (q4 d) (mK_tok q3) (by omega) (by omega) (by omega)
      · have d' : ¬ m_itR S n = true := fun h9 => d (q1.symm.trans h9)
        have e1 : ri tx (k + 1) tz w n = (-10 - it_tz tx tz w 2, it_tz tx tz w, it_w tx tz w) := by rw [ri, if_neg c, if_neg d]
        have e2 : mri (k + 1 + 1) S n = (-10 - m_itM S n 0 4, m_itM S n) := by rw [mri, if_neg hc, if_neg d']
        rw [e1, e2]
        have h8 := t1.2.2.1
        refine ⟨?_, Or.inr ⟨?_, q3, q2.1⟩⟩
        · show -10 - it_tz tx tz w 2 = -10 - m_itM S n 0 4
          rw [q2.2.1]
        · show -10 - it_tz tx tz w 2 ≤ -10
          omega
end RE
