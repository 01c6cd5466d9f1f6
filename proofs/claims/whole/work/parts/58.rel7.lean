/-! reading: class and model read the same -/
def mK (S M : Nat → Int → Int) : Prop := (S 2 = M 2 ∧ S 3 = M 3 ∧ S 4 = M 4) ∧ (S 0 0 = M 0 0 ∧ S 0 1 = M 0 1 ∧ S 0 2 = M 0 2) ∧ ∀ j : Int, j < 147 → S 1 j = M 1 j
def DR (w : Int → Int) (S : Nat → Int → Int) : Prop := hok w ∧ hag w (mim S 147) ∧ w 4 = 0
section RD
variable {tx tz w : Int → Int} {S M : Nat → Int → Int}
theorem mK_tok (h : mK S M) : mK (m_tok S) M := ⟨⟨h.1.1, h.1.2.1, h.1.2.2⟩, ⟨h.2.1.1, h.2.1.2.1, h.2.1.2.2⟩, h.2.2⟩
theorem mK_5 (h : mK S M) {k v : Int} : mK (mset S 5 k v) M := ⟨⟨h.1.1, h.1.2.1, h.1.2.2⟩, ⟨h.2.1.1, h.2.1.2.1, h.2.1.2.2⟩, h.2.2⟩
theorem mK_tk (h : mK S M) {k : Int} : mK (m_tkM S k) M := by
  unfold m_tkM
  split
  · exact mK_5 (mK_tok h)
  · exact mK_tok h
theorem mK_w (h : mK S M) {i v : Int} (hi : 147 ≤ i) : mK (mset S 1 i v) M := ⟨⟨h.1.1, h.1.2.1, h.1.2.2⟩, ⟨h.2.1.1, h.2.1.2.1, h.2.1.2.2⟩, fun j hj => by rw [mset_ne (by omega)]; exact h.2.2 j hj⟩
theorem mK_add (h : mK S M) {k b : Int} (hl : 0 ≤ S 1 147 ∧ S 1 147 < 4) : mK (m_adds S 147 k b) M := by
  have hl' : 0 ≤ S 1 (147 + 0) ∧ S 1 (147 + 0) < 4 := hl
  refine ⟨⟨h.1.1, h.1.2.1, h.1.2.2⟩, ⟨h.2.1.1, h.2.1.2.1, h.2.1.2.2⟩, fun j hj => ?_⟩
  rw [madds_1 hl', if_neg (by omega), if_neg (by omega), if_neg (by omega)]
  exact h.2.2 j hj
theorem sem_rel (ht : tsk tx tz) (r : trel tx tz S) : decide (bAt (S 3) (S 0 0) (m_tok S 0 4) = 59) = t_sem tx tz := by
  have r1 := tok_rel ht r
  have hs := tsok_nx ht
  obtain ⟨⟨a0, a1, -⟩, a3, -, -, a7, -⟩ := r1
  have b0 : S 0 0 = t_next tx tz 0 := a0
  have b1 : ∀ k : Int, 0 ≤ k → k < t_next tx tz 0 → S 3 k = tx k := a1
  have h2 := hs.2.2.1
  unfold t_sem
  refine decide_eq_decide.mpr ?_
  rw [a3, a7]
  constructor
  · intro h
    have h9 := bAt_e h (by decide)
    rw [b0] at h9
    exact ⟨h9.1, by rw [← b1 _ h2.1 h9.1]; exact h9.2⟩
  · intro h
    rw [bAt_in (by rw [b0]; exact h.1), b1 _ h2.1 h.1]
    exact h.2
theorem fin_rel {R : Bool} (ht : tsok tx tz) (r : trel1 tx tz S) : trel1 tx (if R = true then t_next tx tz else tz) (if R = true then m_tok S else S) := by
  split
  · exact tok_rel ht.k r.1
  · exact r
/-- lift -/
theorem tl_rel (ht : tsok tx tz) (r : trel1 tx tz S) (hk : mK S M) (hd : DR w S) (hl : w 0 < 4) :
    m_tlR S = (t_num tx tz 0 5 && t_num tx (t_next tx tz) 0 99) ∧ trel1 tx (if t_num tx tz 0 5 = true then t_next tx (t_next tx tz) else t_next tx tz) (m_tlM S) ∧ mK (m_tlM S) M ∧ (m_tlR S = true → DR (h_addLift w (t_next tx tz 4) (t_next tx (t_next tx tz) 4)) (m_tlM S)) := by
  have hb := hd.1.b
  have e0 : w 0 = S 1 147 := hd.2.1.1.1
  have n4 : ¬ S 1 147 = 4 := by omega
  have n1 := num_rel ht.k r.1 (lo := 0) (hi := 5) (by decide)
  have r1 := tk_rel ht.k r.1 0
  have t1 := tsok_next ht
  have n2 := num_rel t1.k r1.1 (lo := 0) (hi := 99) (by decide)
  have r2 := tk_rel t1.k r1.1 1
  have q1 : m_tkM S 0 1 147 = S 1 147 := by rw [tkM_1]
  have eR : m_tlR S = (t_num tx tz 0 5 && t_num tx (t_next tx tz) 0 99) := by
    unfold m_tlR
    rw [n1.1, n2.1, decide_eq_true n4, Bool.true_and]
  unfold m_tlM
  rw [if_neg n4, n1.1, n2.1, eR]
  by_cases c1 : t_num tx tz 0 5 = true
  · rw [if_pos c1, if_pos c1]
    by_cases c2 : t_num tx (t_next tx tz) 0 99 = true
    · rw [if_pos c2]
      have v0 : m_tkM (m_tkM S 0) 1 5 0 = t_next tx tz 4 := (tkM_5n (by decide)).trans (n1.2 c1 0)
      have v1 : m_tkM (m_tkM S 0) 1 5 1 = t_next tx (t_next tx tz) 4 := n2.2 c2 1
      have w1 : m_tkM (m_tkM S 0) 1 1 = S 1 := tkM_1.trans tkM_1
      have hl2 : 0 ≤ m_tkM (m_tkM S 0) 1 1 147 ∧ m_tkM (m_tkM S 0) 1 1 147 < 4 := by rw [w1]; omega
      have hl3 : 0 ≤ m_tkM (m_tkM S 0) 1 1 (147 + 0) ∧ m_tkM (m_tkM S 0) 1 1 (147 + 0) < 4 := hl2
      have e9 : m_tkM (m_tkM S 0) 1 1 (147 + 0) = S 1 147 := congrFun w1 147
      rw [v0, v1]
      refine ⟨rfl, r2, mK_add (mK_tk (mK_tk hk)) hl2, fun _ => ⟨ok_add hd.1 hl (t_num_4 c1) (t_num_4 c2), ag_add hd.2.1 hd.1 hl (fun j j0 j1 => ?_), by rw [add_1 hl, if_pos rfl]⟩⟩
      have m0 : mim S 147 0 = S 1 147 := rfl
      have m4 : mim S 147 4 = 0 := hd.2.1.1.2.2.2.2.symm.trans hd.2.2
      show m_adds (m_tkM (m_tkM S 0) 1) 147 (t_next tx tz 4) (t_next tx (t_next tx tz) 4) 1 (147 + j) = _
      rw [madds_1 hl3, e9, m0, w1]
      by_cases c4 : j = 4
      · rw [if_pos c4, if_neg (by omega), if_neg (by omega), if_neg (by omega), c4]
        exact m4
      · rw [if_neg c4]
        by_cases d0 : j = 0
        · rw [if_pos d0, if_pos (by omega)]
        · rw [if_neg d0, if_neg (by omega)]
          by_cases d9 : j = 9 + S 1 147
          · rw [if_pos d9, if_pos (by omega)]
          · rw [if_neg d9, if_neg (by omega)]
            by_cases d5 : j = 5 + S 1 147
            · rw [if_pos d5, if_pos (by omega)]
            · rw [if_neg d5, if_neg (by omega)]
              rfl
    · rw [if_neg c2]
      refine ⟨rfl, r2, mK_tk (mK_tk hk), fun h9 => ?_⟩
      rw [Bool.and_eq_true] at h9
      exact absurd h9.2 c2
  · rw [if_neg c1, if_neg c1]
    refine ⟨rfl, r1, mK_tk hk, fun h9 => ?_⟩
    rw [Bool.and_eq_true] at h9
    exact absurd h9.1 c1
/-- line -/
theorem tn_rel (ht : tsok tx tz) (r : trel1 tx tz S) (hk : mK S M) (hd : DR w S) :
    m_tnR S = (t_num tx tz 0 1 && (t_num tx (t_next tx tz) 1 30 && t_num tx (t_next tx (t_next tx tz)) 0 29)) ∧ trel1 tx (if t_num tx tz 0 1 = true then (if t_num tx (t_next tx tz) 1 30 = true then t_next tx (t_next tx (t_next tx tz)) else t_next tx (t_next tx tz)) else t_next tx tz) (m_tnM S) ∧ mK (m_tnM S) M ∧ (m_tnR S = true → DR (wset (wset w (13 + t_next tx tz 4) (t_next tx (t_next tx tz) 4)) (15 + t_next tx tz 4) (t_next tx (t_next tx (t_next tx tz)) 4)) (m_tnM S)) := by
  have n1 := num_rel ht.k r.1 (lo := 0) (hi := 1) (by decide)
  have r1 := tk_rel ht.k r.1 0
  have t1 := tsok_next ht
  have n2 := num_rel t1.k r1.1 (lo := 1) (hi := 30) (by decide)
  have r2 := tk_rel t1.k r1.1 1
  have t2 := tsok_next t1
  have n3 := num_rel t2.k r2.1 (lo := 0) (hi := 29) (by decide)
  have r3 := tk_rel t2.k r2.1 2
  have eR : m_tnR S = (t_num tx tz 0 1 && (t_num tx (t_next tx tz) 1 30 && t_num tx (t_next tx (t_next tx tz)) 0 29)) := by
    unfold m_tnR
    rw [n1.1, n2.1, n3.1]
  unfold m_tnM
  rw [n1.1, n2.1, n3.1, eR]
  by_cases c1 : t_num tx tz 0 1 = true
  · rw [if_pos c1, if_pos c1]
    by_cases c2 : t_num tx (t_next tx tz) 1 30 = true
    · rw [if_pos c2, if_pos c2]
      by_cases c3 : t_num tx (t_next tx (t_next tx tz)) 0 29 = true
      · rw [if_pos c3]
        have v0 : m_tnC S 5 0 = t_next tx tz 4 := (tkM_5n (by decide)).trans ((tkM_5n (by decide)).trans (n1.2 c1 0))
        have v1 : m_tnC S 5 1 = t_next tx (t_next tx tz) 4 := (tkM_5n (by decide)).trans (n2.2 c2 1)
        have v2 : m_tnC S 5 2 = t_next tx (t_next tx (t_next tx tz)) 4 := n3.2 c3 2
        have k1 := t_num_4 c1
        rw [v0, v1, v2]
        have hw4 : wset (wset w (13 + t_next tx tz 4) (t_next tx (t_next tx tz) 4)) (15 + t_next tx tz 4) (t_next tx (t_next tx (t_next tx tz)) 4) 4 = 0 := by
          rw [wset_ne (by omega), wset_ne (by omega)]; exact hd.2.2
        refine ⟨rfl, r3, mK_w (mK_w (mK_tk (mK_tk (mK_tk hk))) (by omega)) (by omega), fun _ => ⟨ok_line hd.1 k1 (t_num_4 c2) (t_num_4 c3), ?_, hw4⟩⟩
        refine hag_r (ag_line hd.2.1 k1) (ok_line hd.1 k1 (t_num_4 c2) (t_num_4 c3)) (fun j j0 j1 => ?_)
        show mset (mset (m_tnC S) 1 (160 + t_next tx tz 4) (t_next tx (t_next tx tz) 4)) 1 (162 + t_next tx tz 4) (t_next tx (t_next tx (t_next tx tz)) 4) 1 (147 + j) = _
        rw [mset_1, mset_1, tn_1]
        unfold wset mim
        by_cases d1 : j = 15 + t_next tx tz 4
        · rw [if_pos d1, if_pos (by omega)]
        · rw [if_neg d1, if_neg (by omega)]
          by_cases d2 : j = 13 + t_next tx tz 4
          · rw [if_pos d2, if_pos (by omega)]
          · rw [if_neg d2, if_neg (by omega)]
      · rw [if_neg c3]
        refine ⟨rfl, r3, mK_tk (mK_tk (mK_tk hk)), fun h9 => ?_⟩
        rw [Bool.and_eq_true, Bool.and_eq_true] at h9
        exact absurd h9.2.2 c3
    · rw [if_neg c2, if_neg c2]
      refine ⟨rfl, r2, mK_tk (mK_tk hk), fun h9 => ?_⟩
      rw [Bool.and_eq_true, Bool.and_eq_true] at h9
      exact absurd h9.2.1 c2
  · rw [if_neg c1, if_neg c1]
    refine ⟨rfl, r1, mK_tk hk, fun h9 => ?_⟩
    rw [Bool.and_eq_true] at h9
    exact absurd h9.1 c1
end RD
