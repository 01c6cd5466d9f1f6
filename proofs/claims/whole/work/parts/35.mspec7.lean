/-! the model's reading -/
theorem mset_at {M : Nat → Int → Int} {r : Nat} {i v : Int} : mset M r i v r i = v := by unfold mset; simp
theorem tkM_1 {M : Nat → Int → Int} {k : Int} : m_tkM M k 1 = M 1 := by unfold m_tkM; split <;> rfl
theorem mtok_tk {M : Nat → Int → Int} {k : Int} (h : mtk M) : mtok (m_tkM M k) := by
  unfold m_tkM
  split
  · exact mtok_next h
  · exact mtok_next h
theorem tkM_5 {M : Nat → Int → Int} {k lo hi : Int} (hR : m_tkR M lo hi = true) : lo ≤ m_tkM M k 5 k ∧ m_tkM M k 5 k ≤ hi := by
  unfold m_tkR at hR
  simp only [Bool.and_eq_true, decide_eq_true_eq] at hR
  have hc : m_tok M 0 6 = 1 ∧ m_tok M 0 3 - m_tok M 0 4 ≤ 2 := And.intro hR.1 hR.2.1
  unfold m_tkM
  rw [if_pos hc, mset_at]
  exact hR.2.2
theorem tkM_5n {M : Nat → Int → Int} {k j : Int} (hj : j ≠ k) : m_tkM M k 5 j = M 5 j := by
  unfold m_tkM
  split
  · exact (mset_ne hj).trans rfl
  · rfl
theorem mono_tok {M : Nat → Int → Int} (h : mtk M) : M 0 3 ≤ m_tok M 0 4 ∧ M 0 3 ≤ m_tok M 0 3 := by
  have h1 := m_ts_r h
  have h2 := m_te_r h
  exact ⟨(show M 0 3 ≤ m_ts M by omega), (show M 0 3 ≤ m_te M by omega)⟩
theorem mono_tk {M : Nat → Int → Int} {k : Int} (h : mtk M) : M 0 3 ≤ m_tkM M k 0 3 := by
  unfold m_tkM
  split
  · exact (mono_tok h).2
  · exact (mono_tok h).2
def m_thM (M : Nat → Int → Int) : Nat → Int → Int := if m_tkR M 1 11 = true then mset (m_tkM M 0) 1 148 (m_tkM M 0 5 0) else m_tkM M 0
def m_tlR (M : Nat → Int → Int) : Bool := decide (¬ M 1 147 = 4) && (m_tkR M 0 5 && m_tkR (m_tkM M 0) 0 99)
def m_tlB (M : Nat → Int → Int) : Nat → Int → Int := m_tkM (m_tkM M 0) 1
def m_tlM (M : Nat → Int → Int) : Nat → Int → Int := if M 1 147 = 4 then M else if m_tkR M 0 5 = true then (if m_tkR (m_tkM M 0) 0 99 = true then m_adds (m_tkM (m_tkM M 0) 1) 147 (m_tkM (m_tkM M 0) 1 5 0) (m_tkM (m_tkM M 0) 1 5 1) else m_tkM (m_tkM M 0) 1) else m_tkM M 0
abbrev m_tnC (M : Nat → Int → Int) : Nat → Int → Int := m_tkM (m_tkM (m_tkM M 0) 1) 2
def m_tnR (M : Nat → Int → Int) : Bool := m_tkR M 0 1 && (m_tkR (m_tkM M 0) 1 30 && m_tkR (m_tkM (m_tkM M 0) 1) 0 29)
def m_tnM (M : Nat → Int → Int) : Nat → Int → Int := if m_tkR M 0 1 = true then (if m_tkR (m_tkM M 0) 1 30 = true then (if m_tkR (m_tkM (m_tkM M 0) 1) 0 29 = true then mset (mset (m_tnC M) 1 (160 + m_tnC M 5 0) (m_tnC M 5 1)) 1 (162 + m_tnC M 5 0) (m_tnC M 5 2) else m_tnC M) else m_tkM (m_tkM M 0) 1) else m_tkM M 0
theorem tn_5 {M : Nat → Int → Int} (h : m_tkR M 0 1 = true) : 0 ≤ m_tnC M 5 0 ∧ m_tnC M 5 0 ≤ 1 := by
  have e : m_tnC M 5 0 = m_tkM M 0 5 0 := (tkM_5n (by decide)).trans (tkM_5n (by decide))
  rw [e]
  exact tkM_5 h
theorem tn_1 {M : Nat → Int → Int} : m_tnC M 1 = M 1 := tkM_1.trans (tkM_1.trans tkM_1)
def m_sub (M : Nat → Int → Int) : Bool × (Nat → Int → Int) := if m_wn M = 0 then (m_tkR M 1 11, m_thM M) else if m_wn M = 1 then (m_tlR M, m_tlM M) else (m_tnR M, m_tnM M)
theorem m_sub0 {M : Nat → Int → Int} (h : m_wn M = 0) : m_sub M = (m_tkR M 1 11, m_thM M) := if_pos h
theorem m_sub1 {M : Nat → Int → Int} (h : m_wn M = 1) : m_sub M = (m_tlR M, m_tlM M) := by unfold m_sub; rw [if_neg (by omega), if_pos h]
theorem m_sub2 {M : Nat → Int → Int} (h : ¬ m_wn M = 0) (h1 : ¬ m_wn M = 1) : m_sub M = (m_tnR M, m_tnM M) := by unfold m_sub; rw [if_neg h, if_neg h1]
def m_itR (M : Nat → Int → Int) (x1 : Int) : Bool := if ¬ m_wn M = -1 ∧ (m_wn M = 0 ↔ x1 = 0) then (m_sub M).1 && decide (bAt ((m_sub M).2 3) ((m_sub M).2 0 0) (m_tok (m_sub M).2 0 4) = 59) else false
def m_itM (M : Nat → Int → Int) (x1 : Int) : Nat → Int → Int := if ¬ m_wn M = -1 ∧ (m_wn M = 0 ↔ x1 = 0) then (if (m_sub M).1 = true then m_tok (m_sub M).2 else (m_sub M).2) else M
theorem it_f1 {M : Nat → Int → Int} {x1 : Int} (h : ¬ (¬ m_wn M = -1 ∧ (m_wn M = 0 ↔ x1 = 0))) : ¬ m_itR M x1 = true := by unfold m_itR; rw [if_neg h]; decide
theorem it_s1 {M : Nat → Int → Int} {x1 : Int} (h : ¬ (¬ m_wn M = -1 ∧ (m_wn M = 0 ↔ x1 = 0))) : m_itM M x1 = M := if_neg h
theorem it_f2 {M S : Nat → Int → Int} {x1 : Int} {r : Bool} (h : ¬ m_wn M = -1 ∧ (m_wn M = 0 ↔ x1 = 0)) (e : m_sub M = (r, S)) (hr : ¬ r = true) : ¬ m_itR M x1 = true := by
  unfold m_itR
  rw [if_pos h, e]
  simp only [Bool.and_eq_true]
  exact fun h9 => hr h9.1
theorem it_s2 {M S : Nat → Int → Int} {x1 : Int} {r : Bool} (h : ¬ m_wn M = -1 ∧ (m_wn M = 0 ↔ x1 = 0)) (e : m_sub M = (r, S)) (hr : ¬ r = true) : m_itM M x1 = S := by
  unfold m_itM
  rw [if_pos h, e, if_neg hr]
theorem it_3 {M S : Nat → Int → Int} {x1 : Int} {r : Bool} (h : ¬ m_wn M = -1 ∧ (m_wn M = 0 ↔ x1 = 0)) (e : m_sub M = (r, S)) (hr : r = true) : m_itR M x1 = true ↔ bAt (S 3) (S 0 0) (m_tok S 0 4) = 59 := by
  unfold m_itR
  rw [if_pos h, e]
  simp only [Bool.and_eq_true, decide_eq_true_eq]
  exact ⟨fun h9 => h9.2, fun h9 => ⟨hr, h9⟩⟩
theorem it_s3 {M S : Nat → Int → Int} {x1 : Int} {r : Bool} (h : ¬ m_wn M = -1 ∧ (m_wn M = 0 ↔ x1 = 0)) (e : m_sub M = (r, S)) (hr : r = true) : m_itM M x1 = m_tok S := by
  unfold m_itM
  rw [if_pos h, e, if_pos hr]
theorem mtk_th {M : Nat → Int → Int} (h : mtk M) : mtk (m_thM M) ∧ M 0 3 ≤ m_thM M 0 3 := by
  unfold m_thM
  split
  · exact ⟨(mtok_tk h).1, mono_tk h⟩
  · exact ⟨(mtok_tk h).1, mono_tk h⟩
theorem mono2 {M : Nat → Int → Int} {j k : Int} (h : mtk M) : M 0 3 ≤ m_tkM (m_tkM M j) k 0 3 := Int.le_trans (mono_tk h) (mono_tk (mtok_tk h).1)
theorem mono3 {M : Nat → Int → Int} {i j k : Int} (h : mtk M) : M 0 3 ≤ m_tkM (m_tkM (m_tkM M i) j) k 0 3 := Int.le_trans (mono_tk h) (mono2 (mtok_tk h).1)
theorem mtk_tl {M : Nat → Int → Int} (h : mtk M) : mtk (m_tlM M) ∧ M 0 3 ≤ m_tlM M 0 3 := by
  have h2 := mtok_tk (k := 0) h
  have h3 := mtok_tk (k := 1) h2.1
  unfold m_tlM
  split
  · exact ⟨h, Int.le_refl _⟩
  · split
    · split
      · exact ⟨h3.1, mono2 h⟩
      · exact ⟨h3.1, mono2 h⟩
    · exact ⟨h2.1, mono_tk h⟩
theorem mtk_tn {M : Nat → Int → Int} (h : mtk M) : mtk (m_tnM M) ∧ M 0 3 ≤ m_tnM M 0 3 := by
  have h2 := mtok_tk (k := 0) h
  have h3 := mtok_tk (k := 1) h2.1
  have h4 := mtok_tk (k := 2) h3.1
  unfold m_tnM
  split
  · split
    · split
      · exact ⟨h4.1, mono3 h⟩
      · exact ⟨h4.1, mono3 h⟩
    · exact ⟨h3.1, mono2 h⟩
  · exact ⟨h2.1, mono_tk h⟩
theorem mtk_sub {M : Nat → Int → Int} (h : mtk M) : mtk (m_sub M).2 ∧ M 0 3 ≤ (m_sub M).2 0 3 := by
  unfold m_sub
  split
  · exact mtk_th h
  · split
    · exact mtk_tl h
    · exact mtk_tn h
theorem mtk_it {M : Nat → Int → Int} {x1 : Int} (h : mtok M) : mtok (m_itM M x1) ∨ mtk (m_itM M x1) := by
  unfold m_itM
  split
  · split
    · exact Or.inl (mtok_next (mtk_sub h.1).1)
    · exact Or.inr (mtk_sub h.1).1
  · exact Or.inl h
theorem mtk_it1 {M : Nat → Int → Int} {x1 : Int} (h : mtok M) : mtk (m_itM M x1) := by
  rcases mtk_it (x1 := x1) h with h1 | h1
  · exact h1.1
  · exact h1
theorem nm_len {M : Nat → Int → Int} (h : ¬ m_wn M = -1) : M 0 4 + 4 ≤ M 0 3 := by
  have key : ∀ a b c d e : Int, m_nm M a b c d e = true → M 0 4 + 4 ≤ M 0 3 := by
    intro a b c d e h9
    unfold m_nm at h9
    simp only [Bool.and_eq_true, decide_eq_true_eq] at h9
    have h8 := h9.2.1
    split at h8 <;> omega
  unfold m_wn at h
  split at h
  · exact key _ _ _ _ _ (by assumption)
  · split at h
    · exact key _ _ _ _ _ (by assumption)
    · split at h
      · exact key _ _ _ _ _ (by assumption)
      · exact absurd rfl h
theorem it_adv {M : Nat → Int → Int} {x1 : Int} (h : mtok M) (hr : m_itR M x1 = true) : M 0 4 + 1 ≤ m_tok (m_itM M x1) 0 4 := by
  by_cases hc : ¬ m_wn M = -1 ∧ (m_wn M = 0 ↔ x1 = 0)
  · have h1 := nm_len hc.1
    have h2 := mtk_sub h.1
    have h3 : (m_sub M).1 = true := by
      unfold m_itR at hr
      rw [if_pos hc] at hr
      simp only [Bool.and_eq_true] at hr
      exact hr.1
    have e : m_itM M x1 = m_tok (m_sub M).2 := it_s3 hc rfl h3
    rw [e]
    have h4 := mono_tok h2.1
    have h5 := mono_tok (mtok_next h2.1).1
    omega
  · exact absurd hr (it_f1 hc)
/-- places of lifts in the model's draft -/
theorem l47_sub {M : Nat → Int → Int} (h : 0 ≤ M 1 147 ∧ M 1 147 ≤ 4) : 0 ≤ (m_sub M).2 1 147 ∧ (m_sub M).2 1 147 ≤ 4 := by
  unfold m_sub
  split
  · show 0 ≤ m_thM M 1 147 ∧ m_thM M 1 147 ≤ 4
    unfold m_thM
    split
    · rw [mset_ne (by decide), tkM_1]; exact h
    · rw [tkM_1]; exact h
  · split
    · show 0 ≤ m_tlM M 1 147 ∧ m_tlM M 1 147 ≤ 4
      unfold m_tlM
      split
      · exact h
      · split
        · split
          · unfold m_adds
            rw [show (147 : Int) + 0 = 147 from rfl, mset_at, mset_ne (by rw [tkM_1, tkM_1]; omega), mset_ne (by rw [tkM_1, tkM_1]; omega), tkM_1, tkM_1]
            omega
          · rw [tkM_1, tkM_1]; exact h
        · rw [tkM_1]; exact h
    · show 0 ≤ m_tnM M 1 147 ∧ m_tnM M 1 147 ≤ 4
      unfold m_tnM
      split
      · rename_i h0
        have h5 := tn_5 h0
        split
        · split
          · rw [mset_ne (by omega), mset_ne (by omega), tn_1]; exact h
          · rw [tn_1]; exact h
        · rw [tkM_1, tkM_1]; exact h
      · rw [tkM_1]; exact h
theorem l47_it {M : Nat → Int → Int} {x1 : Int} (h : 0 ≤ M 1 147 ∧ M 1 147 ≤ 4) : 0 ≤ m_itM M x1 1 147 ∧ m_itM M x1 1 147 ≤ 4 := by
  unfold m_itM
  split
  · split
    · exact l47_sub h
    · exact l47_sub h
  · exact h
def mri : Nat → (Nat → Int → Int) → Int → Int × (Nat → Int → Int)
  | 0, S, n => (n, S)
  | k + 1, S, n => if S 0 0 ≤ S 0 4 ∧ ¬ n = 0 then (n, m_copy S 147 0) else if m_itR S n = true then mri k (m_tok (m_itM S n)) (n + 1) else (-10 - m_itM S n 0 4, m_itM S n)
def mriI (S : Nat → Int → Int) (n : Int) : Int × (Nat → Int → Int) := mri (151 - n).toNat S n
theorem mriI_k {S : Nat → Int → Int} {n : Int} (hn : n ≤ 150) : mriI S n = if S 0 0 ≤ S 0 4 ∧ ¬ n = 0 then (n, m_copy S 147 0) else if m_itR S n = true then mriI (m_tok (m_itM S n)) (n + 1) else (-10 - m_itM S n 0 4, m_itM S n) := by
  unfold mriI
  obtain ⟨k, hk⟩ : ∃ k, (151 - n).toNat = k + 1 := ⟨(151 - n).toNat - 1, by omega⟩
  rw [hk, mri, show (151 - (n + 1)).toNat = k by omega]
theorem mriI_e {S : Nat → Int → Int} {n : Int} (hn : n ≤ 150) (h : S 0 0 ≤ S 0 4 ∧ ¬ n = 0) : mriI S n = (n, m_copy S 147 0) := by rw [mriI_k hn, if_pos h]
theorem mriI_s {S : Nat → Int → Int} {n : Int} (hn : n ≤ 150) (h : ¬ (S 0 0 ≤ S 0 4 ∧ ¬ n = 0)) (hr : m_itR S n = true) : mriI S n = mriI (m_tok (m_itM S n)) (n + 1) := by rw [mriI_k hn, if_neg h, if_pos hr]
theorem mriI_f {S : Nat → Int → Int} {n : Int} (hn : n ≤ 150) (h : ¬ (S 0 0 ≤ S 0 4 ∧ ¬ n = 0)) (hr : ¬ m_itR S n = true) : mriI S n = (-10 - m_itM S n 0 4, m_itM S n) := by rw [mriI_k hn, if_neg h, if_neg hr]
def m_read (M : Nat → Int → Int) : Int × (Nat → Int → Int) := mriI (m_tok (m_beg (mset M 0 3 0) 147 11)) 0
theorem mtk_0 {M : Nat → Int → Int} (h : tok (M 3) (M 0 0)) : mtk (m_beg (mset M 0 3 0) 147 11) := ⟨h, ⟨Int.le_refl 0, h.1.1⟩⟩
