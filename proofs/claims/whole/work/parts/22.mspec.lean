/-! the model: its own words -/
theorem cmpz_s (x y : Int) : (cmpz x y < 0 ↔ x < y) ∧ (cmpz x y = 0 ↔ x = y) ∧ (0 < cmpz x y ↔ y < x) := by unfold cmpz; (repeat' split) <;> omega
theorem mset_self {M : Nat → Int → Int} {r : Nat} {i : Int} : mset M r i (M r i) = M := by
  funext q j
  unfold mset
  by_cases h : q = r
  · subst h
    rw [if_pos rfl]
    by_cases h2 : j = i
    · rw [if_pos h2, h2]
    · rw [if_neg h2]
  · rw [if_neg h]
theorem mset_mset {M : Nat → Int → Int} {r : Nat} {i v v' : Int} : mset (mset M r i v) r i v' = mset M r i v' := by
  funext q j
  unfold mset
  by_cases h : q = r
  · subst h
    simp only [if_true]
    by_cases h2 : j = i <;> simp [h2]
  · simp [h]
theorem mset_ne {M : Nat → Int → Int} {r : Nat} {i v j : Int} (h : j ≠ i) : mset M r i v r j = M r j := by
  unfold mset
  rw [if_pos rfl, if_neg h]
theorem mset_row {M : Nat → Int → Int} {r q : Nat} {i v : Int} (h : q ≠ r) : mset M r i v q = M q := by
  funext j
  unfold mset
  rw [if_neg h]
def mbad (M : Nat → Int → Int) : Nat → Int → Int := mset M 4 0 (M 4 0 + 1)
def mno (M : Nat → Int → Int) : Nat → Int → Int := mset M 4 1 (M 4 1 + 1)
def mfull (M : Nat → Int → Int) : Nat → Int → Int := mset M 4 2 (M 4 2 + 1)
def m_cpN (M : Nat → Int → Int) (f t k : Int) : Nat → Int → Int := fun r j => if r = 1 then (if t ≤ j ∧ j < t + k then M 1 (f + (j - t)) else M 1 j) else M r j
theorem m_cp0 {M : Nat → Int → Int} {f t : Int} : m_cpN M f t 0 = M := by
  funext r j
  unfold m_cpN
  by_cases h : r = 1
  · subst h; rw [if_pos rfl, if_neg (by omega)]
  · rw [if_neg h]
theorem m_cpS {M : Nat → Int → Int} {f t k : Int} (hk : 0 ≤ k ∧ k < 49) (hd : f + 49 ≤ t ∨ t + 49 ≤ f) : m_cpN M f t (k + 1) = mset (m_cpN M f t k) 1 (t + k) (m_cpN M f t k 1 (f + k)) := by
  have e : m_cpN M f t k 1 (f + k) = M 1 (f + k) := by unfold m_cpN; rw [if_pos rfl, if_neg (by omega)]
  rw [e]
  funext r j
  unfold mset
  by_cases h : r = 1
  · subst h
    unfold m_cpN
    simp only [if_true]
    by_cases h2 : j = t + k
    · rw [if_pos (by omega), if_pos h2, h2]; congr 1; omega
    · by_cases h3 : t ≤ j ∧ j < t + k
      · rw [if_pos (by omega), if_neg h2, if_pos h3]
      · rw [if_neg (by omega), if_neg h2, if_neg h3]
  · rw [if_neg h]
    unfold m_cpN
    rw [if_neg h, if_neg h]
abbrev m_copy (M : Nat → Int → Int) (f t : Int) : Nat → Int → Int := m_cpN M f t 49
def m_zN (M : Nat → Int → Int) (t k : Int) : Nat → Int → Int := fun r j => if r = 1 then (if t ≤ j ∧ j < t + k then 0 else M 1 j) else M r j
theorem m_z0 {M : Nat → Int → Int} {t : Int} : m_zN M t 0 = M := by
  funext r j
  unfold m_zN
  by_cases h : r = 1
  · subst h; rw [if_pos rfl, if_neg (by omega)]
  · rw [if_neg h]
theorem m_zS {M : Nat → Int → Int} {t k : Int} (hk : 0 ≤ k) : m_zN M t (k + 1) = mset (m_zN M t k) 1 (t + k) 0 := by
  funext r j
  unfold mset
  by_cases h : r = 1
  · subst h
    unfold m_zN
    simp only [if_true]
    by_cases h2 : j = t + k
    · rw [if_pos (by omega), if_pos h2]
    · by_cases h3 : t ≤ j ∧ j < t + k
      · rw [if_pos (by omega), if_neg h2, if_pos h3]
      · rw [if_neg (by omega), if_neg h2, if_neg h3]
  · rw [if_neg h]
    unfold m_zN
    rw [if_neg h, if_neg h]
def m_beg (M : Nat → Int → Int) (r f : Int) : Nat → Int → Int := mset (mset (mset (m_zN M r 49) 1 (r + 1) f) 1 (r + 13) 10) 1 (r + 13 + 1) 10
def m_house (M : Nat → Int → Int) (x1 : Int) : Nat → Int → Int := if 1 ≤ x1 ∧ x1 ≤ 11 then m_beg M 0 x1 else mbad M
def m_adds (M : Nat → Int → Int) (r k b : Int) : Nat → Int → Int := mset (mset (mset M 1 (r + 5 + M 1 (r + 0)) k) 1 (r + 9 + M 1 (r + 0)) b) 1 (r + 0) ((mset (mset M 1 (r + 5 + M 1 (r + 0)) k) 1 (r + 9 + M 1 (r + 0)) b) 1 (r + 0) + 1)
def m_lift (M : Nat → Int → Int) (x1 x2 : Int) : Nat → Int → Int := if (0 ≤ x1 ∧ x1 ≤ 5) ∧ (0 ≤ x2 ∧ x2 ≤ 99) then (if M 1 0 = 4 then mfull M else m_adds (mset M 1 4 0) 0 x1 x2) else mbad M
def m_line (M : Nat → Int → Int) (x1 x2 x3 : Int) : Nat → Int → Int := if (0 ≤ x1 ∧ x1 ≤ 1) ∧ (1 ≤ x2 ∧ x2 ≤ 30) ∧ (0 ≤ x3 ∧ x3 ≤ 29) then mset (mset M 1 (13 + x1) x2) 1 (15 + x1) x3 else mbad M
def m_type (M : Nat → Int → Int) (x1 : Int) : Nat → Int → Int := if 0 ≤ x1 ∧ x1 ≤ 127 then (if M 0 0 = 150 then mfull M else mset (mset M 3 (M 0 0) x1) 0 0 (M 0 0 + 1)) else mbad M
def bAt (tx : Int → Int) (L k : Int) : Int := if k < L then tx k else -1
theorem bAt_r {tx : Int → Int} {L k : Int} (h : tok tx L) (hk : 0 ≤ k) : -1 ≤ bAt tx L k ∧ bAt tx L k ≤ 127 := by
  unfold bAt
  split
  · have := h.2 k hk (by omega); omega
  · omega
def m_ts (M : Nat → Int → Int) : Int := skI (blP (M 3)) (M 0 0) (M 0 3)
abbrev m_iw (M : Nat → Int → Int) : Prop := 97 ≤ bAt (M 3) (M 0 0) (m_ts M) ∧ bAt (M 3) (M 0 0) (m_ts M) ≤ 122
abbrev m_if (M : Nat → Int → Int) : Prop := 48 ≤ bAt (M 3) (M 0 0) (m_ts M) ∧ bAt (M 3) (M 0 0) (m_ts M) ≤ 57
def m_te (M : Nat → Int → Int) : Int := if m_ts M < M 0 0 then (if m_iw M then skI (leP (M 3)) (M 0 0) (m_ts M + 1) else if m_if M then skI (fiP (M 3)) (M 0 0) (m_ts M + 1) else m_ts M + 1) else m_ts M
def m_tok (M : Nat → Int → Int) : Nat → Int → Int := mset (mset (mset (mset (mset M 0 3 (m_ts M)) 0 4 (m_ts M)) 0 5 (bz (m_iw M))) 0 6 (bz (m_if M))) 0 3 (m_te M)
/-- the model's text, as its token leaves it -/
def mtk (M : Nat → Int → Int) : Prop := tok (M 3) (M 0 0) ∧ (0 ≤ M 0 3 ∧ M 0 3 ≤ M 0 0)
def mtok (M : Nat → Int → Int) : Prop := mtk M ∧ (0 ≤ M 0 4 ∧ M 0 4 ≤ M 0 3) ∧ ((M 0 5 = 0 ∨ M 0 5 = 1) ∧ (M 0 6 = 0 ∨ M 0 6 = 1))
theorem bz_01 (P : Prop) [Decidable P] : bz P = 0 ∨ bz P = 1 := by unfold bz; split <;> omega
theorem m_ts_r {M : Nat → Int → Int} (h : mtk M) : M 0 3 ≤ m_ts M ∧ m_ts M ≤ M 0 0 := skI_r h.2.2
theorem m_te_r {M : Nat → Int → Int} (h : mtk M) : m_ts M ≤ m_te M ∧ m_te M ≤ M 0 0 := by
  have h1 := m_ts_r h
  unfold m_te
  split
  · have h2 := skI_r (P := leP (M 3)) (N := M 0 0) (i := m_ts M + 1) (by omega)
    have h3 := skI_r (P := fiP (M 3)) (N := M 0 0) (i := m_ts M + 1) (by omega)
    (repeat' split) <;> omega
  · omega
theorem mtok_next {M : Nat → Int → Int} (h : mtk M) : mtok (m_tok M) := by
  have h1 := m_ts_r h
  have h2 := m_te_r h
  have h3 := h.2
  exact ⟨⟨h.1, (show 0 ≤ m_te M ∧ m_te M ≤ M 0 0 by omega)⟩, (show 0 ≤ m_ts M ∧ m_ts M ≤ m_te M by omega), ⟨bz_01 _, bz_01 _⟩⟩
def m_nm (M : Nat → Int → Int) (a b c d e : Int) : Bool := decide (M 0 5 = 1) && (decide (M 0 3 - M 0 4 = (if e = 0 then 4 else 5)) && (decide (bAt (M 3) (M 0 0) (M 0 4) = a) && (decide (bAt (M 3) (M 0 0) (M 0 4 + 1) = b) && (decide (bAt (M 3) (M 0 0) (M 0 4 + 2) = c) && (decide (bAt (M 3) (M 0 0) (M 0 4 + 3) = d) && decide (e = 0 ∨ bAt (M 3) (M 0 0) (M 0 4 + 4) = e))))))
def m_wn (M : Nat → Int → Int) : Int := if m_nm M 104 111 117 115 101 = true then 0 else if m_nm M 108 105 102 116 0 = true then 1 else if m_nm M 108 105 110 101 0 = true then 2 else -1
def m_vlF (tx : Int → Int) (L a k s : Int) : Int := 10 * s + bAt tx L (a + k) - 48
def m_vl (tx : Int → Int) (L a b : Int) : Int := itR (m_vlF tx L a) 0 (b - a)
def m_takG (M : Nat → Int → Int) : Prop := M 0 6 = 1 ∧ M 0 3 - M 0 4 ≤ 2
def m_tkR (M : Nat → Int → Int) (lo hi : Int) : Bool := decide (m_tok M 0 6 = 1) && (decide (m_tok M 0 3 - m_tok M 0 4 ≤ 2) && decide (lo ≤ m_vl (M 3) (M 0 0) (m_tok M 0 4) (m_tok M 0 3) ∧ m_vl (M 3) (M 0 0) (m_tok M 0 4) (m_tok M 0 3) ≤ hi))
def m_tkM (M : Nat → Int → Int) (k : Int) : Nat → Int → Int := if m_tok M 0 6 = 1 ∧ m_tok M 0 3 - m_tok M 0 4 ≤ 2 then mset (m_tok M) 5 k (m_vl (M 3) (M 0 0) (m_tok M 0 4) (m_tok M 0 3)) else m_tok M
/-- seen by the model: rounds, ways, comers -/
def m_round (w : Int → Int) (k : Int) : Int := if k = 1 then w 1 else if k = 2 then 2 * w 1 + 4 else if k = 4 then 2 * w 1 + 6 else 2 * w 1
theorem m_round_eq {w : Int → Int} {k : Int} (hk : 0 ≤ k ∧ k ≤ 5) : m_round w k = c_round k (w 1) := by
  rcases (show k = 0 ∨ k = 1 ∨ k = 2 ∨ k = 3 ∨ k = 4 ∨ k = 5 by omega) with h | h | h | h | h | h <;> subst h <;> simp [m_round, c_round, kPace, kRest, kStand] <;> omega
def m_plain (w : Int → Int) (p : Int) : Int := if p ≤ w 1 then p else 2 * w 1 - p
def m_rests (w : Int → Int) (p : Int) : Int := if 2 * w 1 ≤ p then 0 else m_plain w p
theorem m_fl_eq {w : Int → Int} {k p : Int} (hk : 0 ≤ k ∧ k ≤ 5) (hw : 1 ≤ w 1 ∧ w 1 ≤ 11) (hp : 0 ≤ p ∧ p < c_round k (w 1)) : c_floorP k (w 1) p = (if k = 1 then m_plain w (2 * p) else if k = 2 then m_rests w p else if k = 4 then (if p = w 1 + 1 ∨ p = w 1 + 2 then w 1 else if w 1 + 2 < p then m_rests w (p - 2) else m_rests w p) else m_plain w p) := by
  rcases (show k = 0 ∨ k = 1 ∨ k = 2 ∨ k = 3 ∨ k = 4 ∨ k = 5 by omega) with h | h | h | h | h | h <;> subst h <;> simp [c_round, kPace, kRest, kStand] at hp <;> simp [c_floorP, c_pp, kPace, kStand, m_plain, m_rests] <;> (repeat' split) <;> omega
theorem c_floor_u {k t b m : Int} (ht : 1 ≤ t ∧ t ≤ 11) : c_floor k t b m = c_floorP k t ((m + b) % c_round k t) := by
  have := c_round_r k ht
  unfold c_floor
  rw [if_neg (by omega)]
theorem c_floor_R {k t b m : Int} (ht : 1 ≤ t ∧ t ≤ 11) : c_floor k t b (m + c_round k t) = c_floor k t b m := by
  rw [c_floor_u ht, c_floor_u ht, show m + c_round k t + b = m + b + c_round k t by omega, Int.add_emod_right]
theorem c_floor_per {k t b m j : Int} (ht : 1 ≤ t ∧ t ≤ 11) : c_floor k t b (m + j % c_round k t) = c_floor k t b (m + j) := by
  rw [c_floor_u ht, c_floor_u ht]
  congr 1
  rw [show m + j % c_round k t + b = (m + b) + j % c_round k t by omega, show m + j + b = (m + b) + j by omega, Int.add_emod_emod]
theorem srI_none {P : Int → Bool} {N i : Int} (hi : 0 ≤ i) (h : srI P N i = -1) {j : Int} (h1 : i ≤ j) (h2 : j < N) : ¬ P j = true := srch_none (N - i).toNat i hi h j h1 (by omega)
theorem srI_of_none {P : Int → Bool} {N i : Int} (hi : 0 ≤ i) (h : ∀ j, i ≤ j → j < N → ¬ P j = true) : srI P N i = -1 := by
  rcases srI_out (P := P) (N := N) (i := i) with q | ⟨q1, q2, q3⟩
  · exact q
  · exact absurd q3 (h _ q1 q2)
theorem srch_first {P : Int → Bool} : ∀ (n : Nat) (k j : Int), k ≤ j → j < k + n → P j = true → (∀ i, k ≤ i → i < j → ¬ P i = true) → srch P n k = j
  | 0, k, j, h1, h2, _, _ => by omega
  | n + 1, k, j, h1, h2, h3, h4 => by
    rw [srch]
    by_cases e : j = k
    · subst e; rw [if_pos h3]
    · rw [if_neg (h4 k (Int.le_refl _) (by omega))]
      exact srch_first n (k + 1) j (by omega) (by omega) h3 (fun i a b => h4 i (by omega) b)
theorem srI_first {P : Int → Bool} {N i j : Int} (h1 : i ≤ j) (h2 : j < N) (h3 : P j = true) (h4 : ∀ a, i ≤ a → a < j → ¬ P a = true) : srI P N i = j := srch_first (N - i).toNat i j h1 (by omega) h3 h4
theorem srch_min {P : Int → Bool} : ∀ (n : Nat) (k a : Int), 0 ≤ k → k ≤ a → a < srch P n k → ¬ P a = true
  | 0, k, a, h0, h1, h2 => by simp only [srch] at h2; omega
  | n + 1, k, a, h0, h1, h2 => by
    rw [srch] at h2
    by_cases hp : P k = true
    · rw [if_pos hp] at h2; omega
    · rw [if_neg hp] at h2
      by_cases e : a = k
      · rw [e]; exact hp
      · exact srch_min n (k + 1) a (by omega) (by omega) h2
theorem srI_min {P : Int → Bool} {N i a : Int} (hi : 0 ≤ i) (h1 : i ≤ a) (h2 : a < srI P N i) : ¬ P a = true := srch_min _ i a hi h1 h2
/-- a longer search finds the same, where what is found late was there earlier -/
theorem srI_cut {P : Int → Bool} {N N' i : Int} (hi : 0 ≤ i) (hN : N ≤ N') (h : ∀ j, N ≤ j → j < N' → i ≤ j → P j = true → ∃ j', i ≤ j' ∧ j' < j ∧ P j' = true) : srI P N' i = srI P N i := by
  rcases srI_out (P := P) (N := N) (i := i) with q | ⟨q1, q2, q3⟩
  · rw [q]
    refine srI_of_none hi ?_
    have key : ∀ (n : Nat) (j : Int), i ≤ j → j < i + n → j < N' → ¬ P j = true := by
      intro n
      induction n with
      | zero => intro j a b; omega
      | succ n ih =>
        intro j a b c hp
        by_cases hj : j < N
        · exact srI_none hi q a hj hp
        · obtain ⟨j', b1, b2, b3⟩ := h j (by omega) c a hp
          exact ih j' b1 (by omega) (by omega) b3
    exact fun j a b => key (j - i + 1).toNat j a (by omega) b
  · refine srI_first q1 (by omega) q3 (fun a h1 h2 => srI_min hi h1 h2)
theorem srI_congr {P P' : Int → Bool} {N i : Int} (hi : 0 ≤ i) (h : ∀ j, i ≤ j → j < N → P j = P' j) : srI P N i = srI P' N i := by
  rcases srI_out (P := P) (N := N) (i := i) with q | ⟨q1, q2, q3⟩
  · rw [q]
    exact (srI_of_none hi (fun j a b => by rw [← h j a b]; exact srI_none hi q a b)).symm
  · refine (srI_first q1 q2 (by rw [← h _ q1 q2]; exact q3) (fun a h1 h2 => by rw [← h a h1 (by omega)]; exact srI_min hi h1 h2)).symm
theorem c_wayB_R {k t b m : Int} (ht : 1 ≤ t ∧ t ≤ 11) : c_wayB k t b m = srI (c_wayP k t b m) (c_round k t) 1 := by
  have hr := c_round_r k ht
  unfold c_wayB
  refine srI_cut (by decide) hr.2 (fun j h1 h2 h3 hp => ?_)
  have h4 := Int.emod_nonneg j (show c_round k t ≠ 0 by omega)
  have h5 := Int.emod_lt_of_pos j (show 0 < c_round k t by omega)
  have hp' := of_decide_eq_true hp
  rw [← c_floor_per ht] at hp'
  refine ⟨j % c_round k t, ?_, by omega, decide_eq_true hp'⟩
  by_cases e : j % c_round k t = 0
  · rw [e, Int.add_zero] at hp'
    exact absurd rfl hp'
  · omega
theorem c_seen_R {w : Int → Int} (h : hok w) {L f m : Int} : c_seen w L f (m + c_round (w (5 + L)) (w 1)) = c_seen w L f m := by
  unfold c_seen c_fl
  rw [c_floor_R h.b.1]
theorem c_way_R {k t b m : Int} (ht : 1 ≤ t ∧ t ≤ 11) : c_way k t b (m + c_round k t) = c_way k t b m := by
  have e : ∀ i, c_wayP k t b (m + c_round k t) i = c_wayP k t b m i := fun i => by
    unfold c_wayP
    rw [c_floor_R ht, show m + c_round k t + i = m + i + c_round k t by omega, c_floor_R ht]
  have e2 : c_wayB k t b (m + c_round k t) = c_wayB k t b m := by
    unfold c_wayB
    exact srI_congr (by decide) (fun j _ _ => e j)
  unfold c_way
  rw [e2, c_floor_R ht, show m + c_round k t + c_wayB k t b m = m + c_wayB k t b m + c_round k t by omega, c_floor_R ht]
theorem wf_200 {w : Int → Int} (h : hok w) (L f m : Int) : srI (c_wfP w L f m) 200 0 = c_wf w L f m := by
  unfold c_wf
  have hr := c_round_r (w (5 + L)) h.b.1
  refine srI_cut (by decide) (by decide) (fun j h1 h2 h3 hp => ⟨j - c_round (w (5 + L)) (w 1), by omega, by omega, ?_⟩)
  have e : c_wfP w L f m (j - c_round (w (5 + L)) (w 1)) = c_wfP w L f m j := by
    unfold c_wfP
    rw [← c_seen_R h, show m + (j - c_round (w (5 + L)) (w 1)) + c_round (w (5 + L)) (w 1) = m + j by omega]
  rw [e]
  exact hp
def hasB (B k : Int) : Bool := decide (B / 2 ^ k.toNat % 2 = 1)
def m_cmP (w : Int → Int) (f m B y k L : Int) : Bool := (hasB B L && c_seen w L f (m + k)) && (decide (y = 2) || decide (c_wy w L (m + k) = y))
def m_cm (w : Int → Int) (f m B y k : Int) : Int := srI (m_cmP w f m B y k) (w 0) 0
def m_ckP (w : Int → Int) (f m B y k : Int) : Bool := decide (¬ m_cm w f m B y k = -1)
def m_ck (w : Int → Int) (f m B y : Int) : Int := srI (m_ckP w f m B y) 200 0
theorem m_ck_r (w : Int → Int) (f m B y : Int) : -1 ≤ m_ck w f m B y ∧ m_ck w f m B y < 200 := by
  rcases srI_out (P := m_ckP w f m B y) (N := 200) (i := 0) with h | ⟨h1, h2, -⟩ <;> unfold m_ck <;> omega
def m_cmM (M : Nat → Int → Int) (f m B y : Int) : Nat → Int → Int := if m_ck (M 1) f m B y = -1 then M else mset (mset M 0 7 (m_cm (M 1) f m B y (m_ck (M 1) f m B y))) 0 8 (m + m_ck (M 1) f m B y)
/-- the model's way asked (2: any), as the class has it (-1: any) -/
def wyy (y : Int) : Int := if y = 2 then -1 else y
theorem has15 {L : Int} (h : 0 ≤ L ∧ L < 4) : hasB 15 L = true := by
  rcases (show L = 0 ∨ L = 1 ∨ L = 2 ∨ L = 3 by omega) with e | e | e | e <;> subst e <;> rfl
theorem m_cm_sf {w : Int → Int} (h : hok w) {f m y k : Int} (hy : 0 ≤ y ∧ y ≤ 2) : m_cm w f m 15 y k = c_sf w f (m + k) (wyy y) := by
  unfold m_cm c_sf
  have hb := h.b.2.1
  refine srI_congr (by decide) (fun j h1 h2 => ?_)
  unfold m_cmP c_sfP
  rw [has15 ⟨h1, by omega⟩, Bool.true_and]
  congr 1
  unfold wyy
  by_cases e : y = 2
  · simp [e]
  · rw [if_neg e, decide_eq_false e, decide_eq_false (show ¬ y = -1 by omega)]
theorem m_ck_wo {w : Int → Int} (h : hok w) {f m y : Int} (hy : 0 ≤ y ∧ y ≤ 2) : m_ck w f m 15 y = c_wo w f m (wyy y) := by
  unfold m_ck c_wo
  have e : ∀ j, m_ckP w f m 15 y j = c_woP w f m (wyy y) j := fun j => by unfold m_ckP c_woP; rw [m_cm_sf h hy]
  rw [srI_congr (P' := c_woP w f m (wyy y)) (by decide) (fun j _ _ => e j)]
  refine srI_cut (by decide) (by decide) (fun j h1 h2 h3 hp => ?_)
  have hp' := of_decide_eq_true hp
  rcases srI_out (P := c_sfP w f (m + j) (wyy y)) (N := w 0) (i := 0) with q | ⟨q1, q2, q3⟩
  · exact absurd q hp'
  · generalize srI (c_sfP w f (m + j) (wyy y)) (w 0) 0 = L at q1 q2 q3
    have hr := c_round_r (w (5 + L)) h.b.1
    refine ⟨j - c_round (w (5 + L)) (w 1), by omega, by omega, decide_eq_true (fun hz => ?_)⟩
    have e2 : c_sfP w f (m + (j - c_round (w (5 + L)) (w 1))) (wyy y) L = c_sfP w f (m + j) (wyy y) L := by
      unfold c_sfP c_wy
      rw [← c_seen_R h, ← c_way_R (m := m + (j - c_round (w (5 + L)) (w 1))) h.b.1, show m + (j - c_round (w (5 + L)) (w 1)) + c_round (w (5 + L)) (w 1) = m + j by omega]
    exact srI_none (by decide) hz q1 q2 (by rw [e2]; exact q3)
def m_cfM (M : Nat → Int → Int) (f m y : Int) : Nat → Int → Int := if c_wo (M 1) f m y = -1 then M else mset (mset M 0 7 (c_sf (M 1) f (m + c_wo (M 1) f m y) y)) 0 8 (m + c_wo (M 1) f m y)
theorem m_cmM_eq {M : Nat → Int → Int} (h : hok (M 1)) {f m y : Int} (hy : 0 ≤ y ∧ y ≤ 2) : m_cmM M f m 15 y = m_cfM M f m (wyy y) := by
  unfold m_cmM m_cfM
  rw [m_ck_wo h hy, m_cm_sf h hy]
