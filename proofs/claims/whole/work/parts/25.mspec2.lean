/-! comers, as the model keeps them -/
def m78 (M : Nat → Int → Int) (s : Int × Int) : Nat → Int → Int := mset (mset M 0 7 s.1) 0 8 s.2
theorem m78_id {M : Nat → Int → Int} : m78 M (M 0 7, M 0 8) = M := by
  unfold m78
  show mset (mset M 0 7 (M 0 7)) 0 8 (M 0 8) = M
  rw [mset_self, mset_self]
theorem m78_78 {M : Nat → Int → Int} {s t : Int × Int} : m78 (m78 M s) t = m78 M t := by
  funext r j
  unfold m78 mset
  by_cases h : r = 0
  · subst h
    simp only [if_true]
    by_cases h8 : j = 8
    · simp [h8]
    · by_cases h7 : j = 7
      · simp [h7]
      · simp [h8, h7]
  · simp [h]
def cmS (w : Int → Int) (f m B y : Int) (s : Int × Int) : Int × Int := if m_ck w f m B y = -1 then s else (m_cm w f m B y (m_ck w f m B y), m + m_ck w f m B y)
def cgS (w : Int → Int) (f y m : Int) (s : Int × Int) : Int × Int := if c_wo w f m y = -1 then s else (c_sf w f (m + c_wo w f m y) y, m + c_wo w f m y)
theorem m_cmM_78 {M : Nat → Int → Int} {f m B y : Int} : m_cmM M f m B y = m78 M (cmS (M 1) f m B y (M 0 7, M 0 8)) := by
  unfold m_cmM cmS
  split
  · exact m78_id.symm
  · rfl
theorem m_cf_78 {M : Nat → Int → Int} {f m y : Int} : m_cfM M f m y = m78 M (cgS (M 1) f y m (M 0 7, M 0 8)) := by
  unfold m_cfM cgS
  split
  · exact m78_id.symm
  · rfl
theorem c_sf_ne {w : Int → Int} {f m y : Int} (h : ¬ c_wo w f m y = -1) : 0 ≤ c_sf w f (m + c_wo w f m y) y ∧ c_sf w f (m + c_wo w f m y) y < w 0 ∧ 0 ≤ c_wo w f m y := by
  rcases srI_out (P := c_woP w f m y) (N := 28) (i := 0) with q | ⟨q1, q2, q3⟩
  · exact absurd q h
  · have h3 : ¬ c_sf w f (m + c_wo w f m y) y = -1 := of_decide_eq_true q3
    have h4 := c_sf_r w f (m + c_wo w f m y) y
    have h5 : 0 ≤ c_wo w f m y := q1
    omega
theorem c_w1_eq {w : Int → Int} {f m : Int} (h : ¬ c_wo w f m (-1) = -1) : c_w1 w f m = c_wy w (c_sf w f (m + c_wo w f m (-1)) (-1)) (m + c_wo w f m (-1)) := by
  have := c_sf_ne h
  unfold c_w1
  rw [if_neg h, if_neg (by omega)]
theorem c_w1_no {w : Int → Int} {f m : Int} (h : c_wo w f m (-1) = -1) : c_w1 w f m = -1 := by unfold c_w1; rw [if_pos h]
theorem c_w1_ne {w : Int → Int} {f m : Int} : c_w1 w f m = -1 ↔ c_wo w f m (-1) = -1 := by
  constructor
  · intro h
    by_cases hc : c_wo w f m (-1) = -1
    · exact hc
    · rw [c_w1_eq hc] at h
      have := c_wy_r w (c_sf w f (m + c_wo w f m (-1)) (-1)) (m + c_wo w f m (-1))
      omega
  · exact c_w1_no
def gz (a b : Int) : Int := ((Nat.gcd a.toNat b.toNat : Nat) : Int)
theorem gz_s {u v : Int} (hu : 0 ≤ u) (hv : 0 < v) : gz v (u % v) = gz u v := by
  unfold gz
  rw [Int.toNat_emod hu (Int.le_of_lt hv)]
  congr 1
  rw [Nat.gcd_comm v.toNat, ← Nat.gcd_rec, Nat.gcd_comm]
theorem gz_0 {u : Int} (hu : 0 ≤ u) : gz u 0 = u := by
  unfold gz
  simp [Int.toNat_of_nonneg hu]
theorem gz_pos {a b : Int} (h : 0 < b) : 0 < gz a b := by
  unfold gz
  have : 0 < Nat.gcd a.toNat b.toNat := Nat.gcd_pos_of_pos_right _ (by omega)
  omega
def m_tel (M : Nat → Int → Int) (a b : Int) : Nat → Int → Int := mset (mset M 0 1 (a / gz a b)) 0 2 (b / gz a b)
def m_first (M : Nat → Int → Int) (x1 x2 x3 : Int) : Nat → Int → Int := if (0 ≤ x1 ∧ x1 ≤ M 1 1) ∧ (0 ≤ x2 ∧ x2 ≤ 999) ∧ (0 ≤ x3 ∧ x3 ≤ 2) then m78 M (cgS (M 1) x1 (-1) x2 (M 0 7, M 0 8)) else mbad M
abbrev cgR (M : Nat → Int → Int) (f y N : Int) : Int × Int := itR (cgS (M 1) f y) (M 0 7, M 0 8) N
def mn_M (M : Nat → Int → Int) (a n : Int) : Nat → Int → Int := if n = 0 then mno M else m_tel M a n
def m_often (M : Nat → Int → Int) (x1 x2 : Int) : Nat → Int → Int := if (0 ≤ x1 ∧ x1 ≤ M 1 1) ∧ (0 ≤ x2 ∧ x2 ≤ 1) then mn_M (m78 M (cgR M x1 (-1) 120)) (ofS (M 1) x1 x2) (ofN (M 1) x1 x2) else mbad M
def m_own (M : Nat → Int → Int) (x1 x2 : Int) : Nat → Int → Int := if (0 ≤ x1 ∧ x1 ≤ M 1 1) ∧ (0 ≤ x2 ∧ x2 ≤ 1) then mn_M (m78 M (cgR M x1 x2 120)) (mwS (M 1) x1 x2) (mwN (M 1) x1 x2) else mbad M
def ofF (w : Int → Int) (x1 x2 m : Int) : Int := if x2 = 0 then c_upF w x1 m else c_mwF w x1 (-1) m
def mr_rd (w : Int → Int) (f t m y : Int) : Int := if c_rd w f t m y = -1 then -1 else m + c_rd w f t m y
theorem mr_rd_r {w : Int → Int} {f t m y : Int} (hm : 0 ≤ m ∧ m ≤ 1200) : -1 ≤ mr_rd w f t m y ∧ mr_rd w f t m y ≤ 1300 := by
  have := c_rd_r w f t m y
  unfold mr_rd
  split <;> omega
def rdM (M : Nat → Int → Int) (f t m y : Int) : Nat → Int → Int := if f = t then M else m78 M (cgS (M 1) f y m (M 0 7, M 0 8))
theorem c_rd_0 {w : Int → Int} {f t m y : Int} (h : f = t) : c_rd w f t m y = 0 := by unfold c_rd; rw [if_pos h]
theorem c_rd_n {w : Int → Int} {f t m y : Int} (h : ¬ f = t) (h2 : c_wo w f m y = -1) : c_rd w f t m y = -1 := by unfold c_rd; rw [if_neg h, if_pos h2]
theorem c_rd_k {w : Int → Int} {f t m y k : Int} (h : ¬ f = t) (h2 : ¬ c_wo w f m y = -1) (h3 : c_wf w (c_sf w f (m + c_wo w f m y) y) t (m + c_wo w f m y) = k) : c_rd w f t m y = if k = -1 then -1 else c_wo w f m y + k := by
  have := c_sf_ne h2
  unfold c_rd
  rw [if_neg h, if_neg h2, if_neg (by omega), h3]
def m_ride (M : Nat → Int → Int) (x1 x2 x3 x4 : Int) : Nat → Int → Int := if (0 ≤ x1 ∧ x1 ≤ M 1 1) ∧ (0 ≤ x2 ∧ x2 ≤ M 1 1) ∧ (0 ≤ x3 ∧ x3 ≤ 999) ∧ (0 ≤ x4 ∧ x4 ≤ 1) then rdM M x1 x2 x3 (if x4 = 0 then -1 else if x1 < x2 then 1 else 0) else mbad M
def wk78 (w : Int → Int) (f t m k : Int) (s : Int × Int) : Int × Int := if k = t then s else cgS w k (-1) (m + 2 * absz (k - f)) s
def mwkC (w : Int → Int) (f t m k : Int) (s : Int × Int × Int) : Prop := ¬ mr_rd w k t (m + 2 * absz (k - f)) (-1) = -1 ∧ (mr_rd w k t (m + 2 * absz (k - f)) (-1) < s.2.1 ∨ (mr_rd w k t (m + 2 * absz (k - f)) (-1) = s.2.1 ∧ 2 * absz (k - f) < s.2.2))
def mwkS (w : Int → Int) (f t m k : Int) (s : Int × Int × Int) : Int × Int × Int := if ¬ mr_rd w k t (m + 2 * absz (k - f)) (-1) = -1 ∧ (mr_rd w k t (m + 2 * absz (k - f)) (-1) < s.2.1 ∨ (mr_rd w k t (m + 2 * absz (k - f)) (-1) = s.2.1 ∧ 2 * absz (k - f) < s.2.2)) then (k, mr_rd w k t (m + 2 * absz (k - f)) (-1), 2 * absz (k - f)) else s
def mwkR (w : Int → Int) (f t m N : Int) : Int × Int × Int := itR (mwkS w f t m) (f, 1000000, 1000000) N
def ma_walk (w : Int → Int) (x1 x2 x3 x4 : Int) : Int := if (0 ≤ x1 ∧ x1 ≤ w 1) ∧ (0 ≤ x2 ∧ x2 ≤ w 1) ∧ (0 ≤ x3 ∧ x3 ≤ 999) ∧ (0 ≤ x4 ∧ x4 ≤ 1) then (if x4 = 0 then (mwkR w x1 x2 x3 (w 1 + 1)).1 else (mwkR w x1 x2 x3 (w 1 + 1)).2.1 - x3) else -2
def m_walk (M : Nat → Int → Int) (x1 x2 x3 x4 : Int) : Nat → Int → Int := if (0 ≤ x1 ∧ x1 ≤ M 1 1) ∧ (0 ≤ x2 ∧ x2 ≤ M 1 1) ∧ (0 ≤ x3 ∧ x3 ≤ 999) ∧ (0 ≤ x4 ∧ x4 ≤ 1) then m78 M (itR (wk78 (M 1) x1 x2 x3) (M 0 7, M 0 8) (M 1 1 + 1)) else mbad M
theorem rdM_78 {M : Nat → Int → Int} {k t m f : Int} {s : Int × Int} : rdM (m78 M s) k t (m + 2 * absz (k - f)) (-1) = m78 M (wk78 (M 1) f t m k s) := by
  unfold rdM wk78
  split
  · rfl
  · exact m78_78
theorem c_nt_s {e a m : Int} (he : 1 ≤ e) (h : a < m) : c_nt e a m = c_nt e (a + e) m := by
  unfold c_nt
  rw [if_neg (by omega), if_neg (by omega)]
  by_cases h2 : m ≤ a + e
  · rw [if_pos h2]
    by_cases h3 : m = a + e
    · rw [show m - a = e by omega, Int.emod_self, if_pos rfl]; exact h3
    · rw [Int.emod_eq_of_lt (by omega) (by omega), if_neg (by omega)]; omega
  · rw [if_neg h2, if_neg (show ¬ e < 1 by omega)]
    have e1 : (m - a) % e = (m - (a + e)) % e := by
      rw [show m - a = (m - (a + e)) + e by omega, Int.add_emod_right]
    rw [e1]
theorem c_nt_e {e a m : Int} (h : m ≤ a) : c_nt e a m = a := by unfold c_nt; rw [if_pos h]
def mevX (w : Int → Int) (b : Int) : Int := absz (c_t0 w b - 30)
def mevS (w : Int → Int) (b : Int) (s : Int × Int) : Int × Int := if mevX w b < s.2 then (b, mevX w b) else s
def ma_even (w : Int → Int) : Int := (itR (mevS w) (0, 1000000) 30).1
