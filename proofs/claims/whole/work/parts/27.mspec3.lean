theorem mr_rd_x {w : Int → Int} {f t m y : Int} (hm : 0 ≤ m) : (mr_rd w f t m y = -1 → c_rd w f t m y = -1) ∧ (¬ mr_rd w f t m y = -1 → mr_rd w f t m y - m = c_rd w f t m y) := by
  have := c_rd_r w f t m y
  unfold mr_rd
  split <;> omega
def m_shN (M : Nat → Int → Int) (k : Int) : Nat → Int → Int := fun r j => if r = 1 then (if 41 ≤ j ∧ j < 41 + k then M 1 (j + 1) else M 1 j) else M r j
theorem m_sh0 {M : Nat → Int → Int} : m_shN M 0 = M := by
  funext r j
  unfold m_shN
  by_cases h : r = 1
  · subst h; rw [if_pos rfl, if_neg (by omega)]
  · rw [if_neg h]
theorem m_shS {M : Nat → Int → Int} {k : Int} (hk : 0 ≤ k) : m_shN M (k + 1) = mset (m_shN M k) 1 (41 + k) (m_shN M k 1 (41 + k + 1)) := by
  have e : m_shN M k 1 (41 + k + 1) = M 1 (41 + k + 1) := by unfold m_shN; rw [if_pos rfl, if_neg (by omega)]
  rw [e]
  funext r j
  unfold mset
  by_cases h : r = 1
  · subst h
    unfold m_shN
    simp only [if_true]
    by_cases h2 : j = 41 + k
    · rw [if_pos (by omega), if_pos h2, h2]
    · by_cases h3 : 41 ≤ j ∧ j < 41 + k
      · rw [if_pos (by omega), if_neg h2, if_pos h3]
      · rw [if_neg (by omega), if_neg h2, if_neg h3]
  · rw [if_neg h]
    unfold m_shN
    rw [if_neg h, if_neg h]
def m_pas2 (S : Nat → Int → Int) (u t n : Int) : Nat → Int → Int := mset (mset (mset S 1 (41 + u) t) 1 4 (u + 1)) 1 2 (if 999 < t + n then 999 else t + n)
def m_passes (M : Nat → Int → Int) (x1 : Int) : Nat → Int → Int := if 1 ≤ x1 ∧ x1 ≤ 99 then (if M 1 4 = 8 then m_pas2 (mset (m_shN M 7) 1 4 (m_shN M 7 1 4 - 1)) (m_shN M 7 1 4 - 1) (m_shN M 7 1 2) x1 else m_pas2 M (M 1 4) (M 1 2) x1) else mbad M
def m_undo (M : Nat → Int → Int) : Nat → Int → Int := if M 1 4 = 0 then mno M else mset (mset M 1 4 (M 1 4 - 1)) 1 2 (M 1 (41 + (M 1 4 - 1)))
def m_of (M : Nat → Int → Int) (x1 x2 : Int) : Nat → Int → Int := if (0 ≤ x1 ∧ x1 < M 1 0) ∧ (0 ≤ x2 ∧ x2 ≤ 5) then M else mbad M
def m_where (M : Nat → Int → Int) (x1 x2 : Int) : Nat → Int → Int := if (0 ≤ x1 ∧ x1 < M 1 0) ∧ (0 ≤ x2 ∧ x2 ≤ 999) then M else mbad M
def m_note (M : Nat → Int → Int) (x1 x2 x3 x4 : Int) : Nat → Int → Int := if (0 ≤ x1 ∧ x1 < M 1 0) ∧ (0 ≤ x2 ∧ x2 ≤ M 1 1) ∧ (0 ≤ x3 ∧ x3 ≤ 99) ∧ (0 ≤ x4 ∧ x4 ≤ 1) then (if M 1 3 = 6 then mfull M else mset (mset (mset (mset (mset M 1 (17 + 4 * M 1 3) x1) 1 (17 + 4 * M 1 3 + 1) x2) 1 (17 + 4 * M 1 3 + 2) x3) 1 (17 + 4 * M 1 3 + 3) x4) 1 3 (M 1 3 + 1)) else mbad M
/-! notes, kinds, looks, porters, days, as the model counts them -/
theorem srI_last {P : Int → Bool} {n : Int} (h : 0 ≤ n) : srI P (n + 1) 0 = -1 ↔ (srI P n 0 = -1 ∧ ¬ P n = true) := by
  constructor
  · intro h1
    refine ⟨srI_of_none (by decide) (fun j a b => srI_none (by decide) h1 a (by omega)), srI_none (by decide) h1 h (by omega)⟩
  · intro h1
    refine srI_of_none (by decide) (fun j a b => ?_)
    by_cases e : j = n
    · rw [e]; exact h1.2
    · exact srI_none (by decide) h1.1 a (by omega)
def fitN (w : Int → Int) (L k b n : Int) : Prop := srI (c_badN w L k b) n 0 = -1
theorem zI_or0 (b : Int) : zI b ||| zI 0 = zI b := by
  show Int32.ofInt b ||| 0 = Int32.ofInt b
  simp
def m_is (M : Nat → Int → Int) (x1 x2 : Int) : Nat → Int → Int := if (0 ≤ x1 ∧ x1 < M 1 0) ∧ (0 ≤ x2 ∧ x2 ≤ 1) then M else mbad M
def m_look (M : Nat → Int → Int) (x1 x2 : Int) : Nat → Int → Int := if (0 ≤ x1 ∧ x1 < M 1 0) ∧ (0 ≤ x2 ∧ x2 ≤ M 1 1) then M else mbad M
def c_kn (w : Int → Int) (B b f m n : Int) : Int := sumR (fun k => bz (hasB B k = true ∧ ¬ c_floor k (w 1) b m = f)) n
theorem c_kn_s {w : Int → Int} {B b f m i : Int} (h : 0 ≤ i) : c_kn w B b f m (i + 1) = c_kn w B b f m i + bz (hasB B i = true ∧ ¬ c_floor i (w 1) b m = f) := sumR_s h
theorem c_kn_b (w : Int → Int) (B b f m : Int) {N : Int} (h : 0 ≤ N ∧ N ≤ 6) : (0 ≤ c_kn w B b f m N ∧ c_kn w B b f m N ≤ 6) ∧ (0 ≤ c_kt w B b f m N ∧ c_kt w B b f m N ≤ 6) := by
  have h1 := sumR_b (f := fun k => bz (hasB B k = true ∧ ¬ c_floor k (w 1) b m = f)) (a := 0) (b := 1) (N := N) h.1 (fun k _ _ => bz_r)
  have h2 := sumR_b (f := fun k => bz (B / 2 ^ k.toNat % 2 = 1 ∧ c_floor k (w 1) b m = f)) (a := 0) (b := 1) (N := N) h.1 (fun k _ _ => bz_r)
  unfold c_kn c_kt
  omega
def mlkX (w : Int → Int) (L f m : Int) : Int := if c_kn w (c_fk w L 6) (w (9 + L)) f m 6 < c_kt w (c_fk w L 6) (w (9 + L)) f m 6 then c_kt w (c_fk w L 6) (w (9 + L)) f m 6 else c_kn w (c_fk w L 6) (w (9 + L)) f m 6
def mlkS (w : Int → Int) (L f m : Int) (s : Int × Int) : Int × Int := if mlkX w L f m < s.2 then (m, mlkX w L f m) else s
def ma_look (w : Int → Int) (x1 x2 : Int) : Int := if (0 ≤ x1 ∧ x1 < w 0) ∧ (0 ≤ x2 ∧ x2 ≤ w 1) then (if c_fk w x1 6 = 0 then -1 else (itR (mlkS w x1 x2) (-1, 1000000) 31).1) else -2
def m_days (M : Nat → Int → Int) (x1 x2 x3 : Int) : Nat → Int → Int := if (0 ≤ x1 ∧ x1 ≤ M 1 1) ∧ (0 ≤ x2 ∧ x2 ≤ 999999) ∧ (0 ≤ x3 ∧ x3 ≤ 60) then m78 M (itR (fun _ s => (dyX s.1, cgS (M 1) x1 (-1) (dyM s.1) s.2)) (x2, (M 0 7, M 0 8)) x3).2 else mbad M
def m_part (M : Nat → Int → Int) (x1 : Int) : Nat → Int → Int := if 0 ≤ x1 ∧ x1 ≤ 1 then M else mbad M
def m_image (M : Nat → Int → Int) (x1 : Int) : Nat → Int → Int := if 0 ≤ x1 ∧ x1 ≤ 1 then mset (m_copy M 0 (49 * (1 + x1))) 2 x1 1 else mbad M
def m_from (M : Nat → Int → Int) (x1 : Int) : Nat → Int → Int := if 0 ≤ x1 ∧ x1 ≤ 1 then (if M 2 x1 = 0 then mno M else m_copy M (49 * (1 + x1)) 0) else mbad M
def m_st (M : Nat → Int → Int) (x1 : Int) : Nat → Int → Int := if 0 ≤ x1 ∧ x1 ≤ 2 then M else mbad M
def m_ct (M : Nat → Int → Int) (x1 : Int) : Nat → Int → Int := if 0 ≤ x1 ∧ x1 ≤ 5 then M else mbad M
def mdgN (w : Int → Int) (h : Int) : Int := itR (fun k h9 => 31 * h9 + w (17 + k)) (itR (c_dgE w) (itR (c_dgL w) h (w 0)) 2) (4 * w 3)
def ma_dg (w : Int → Int) (L fa fb : Int) : Int := 31 * (31 * mdgN w (itR (fun k h9 => 31 * h9 + ctn w L k) 1123 6) + fa) + fb
