/-! search, sum, iterate: over whole numbers -/
def srch (P : Int → Bool) : Nat → Int → Int
  | 0, _ => -1
  | n + 1, k => if P k = true then k else srch P n (k + 1)
def srI (P : Int → Bool) (N i : Int) : Int := srch P (N - i).toNat i
theorem srI_end {P : Int → Bool} {N i : Int} (h : N ≤ i) : srI P N i = -1 := by
  unfold srI
  rw [show (N - i).toNat = 0 by omega]
  rfl
theorem srI_hit {P : Int → Bool} {N i : Int} (h : i < N) (hp : P i = true) : srI P N i = i := by
  unfold srI
  obtain ⟨n, hn⟩ : ∃ n, (N - i).toNat = n + 1 := ⟨(N - i).toNat - 1, by omega⟩
  rw [hn, srch, if_pos hp]
theorem srI_next {P : Int → Bool} {N i : Int} (h : i < N) (hp : ¬ P i = true) : srI P N i = srI P N (i + 1) := by
  unfold srI
  obtain ⟨n, hn⟩ : ∃ n, (N - i).toNat = n + 1 := ⟨(N - i).toNat - 1, by omega⟩
  rw [hn, srch, if_neg hp, show (N - (i + 1)).toNat = n by omega]
theorem srch_out {P : Int → Bool} : ∀ (n : Nat) (k : Int), srch P n k = -1 ∨ (k ≤ srch P n k ∧ srch P n k < k + n ∧ P (srch P n k) = true)
  | 0, _ => Or.inl rfl
  | n + 1, k => by
    rw [srch]
    by_cases h : P k = true
    · rw [if_pos h]; exact Or.inr ⟨Int.le_refl _, by omega, h⟩
    · rw [if_neg h]
      rcases srch_out n (k + 1) with q | ⟨q1, q2, q3⟩
      · exact Or.inl q
      · exact Or.inr ⟨by omega, by omega, q3⟩
theorem srI_out {P : Int → Bool} {N i : Int} : srI P N i = -1 ∨ (i ≤ srI P N i ∧ srI P N i < N ∧ P (srI P N i) = true) := by
  rcases srch_out (P := P) (N - i).toNat i with q | ⟨q1, q2, q3⟩
  · exact Or.inl q
  · exact Or.inr ⟨q1, by unfold srI; omega, q3⟩
theorem srch_none {P : Int → Bool} : ∀ (n : Nat) (k : Int), 0 ≤ k → srch P n k = -1 → ∀ j, k ≤ j → j < k + n → ¬ P j = true
  | 0, k, _, _, j, h1, h2 => by omega
  | n + 1, k, h0, h, j, h1, h2 => by
    rw [srch] at h
    by_cases hp : P k = true
    · rw [if_pos hp] at h; omega
    · rw [if_neg hp] at h
      by_cases hj : j = k
      · rw [hj]; exact hp
      · exact srch_none n (k + 1) (by omega) h j (by omega) (by omega)
def sumI (f : Int → Int) : Nat → Int
  | 0 => 0
  | n + 1 => sumI f n + f n
def sumR (f : Int → Int) (N : Int) : Int := sumI f N.toNat
theorem sumR_0 {f : Int → Int} : sumR f 0 = 0 := rfl
theorem sumR_s {f : Int → Int} {i : Int} (h : 0 ≤ i) : sumR f (i + 1) = sumR f i + f i := by
  unfold sumR
  rw [show (i + 1).toNat = i.toNat + 1 by omega, sumI, Int.toNat_of_nonneg h]
theorem sumI_b {f : Int → Int} {a b : Int} : ∀ (n : Nat), (∀ k : Int, 0 ≤ k → k < n → a ≤ f k ∧ f k ≤ b) → a * n ≤ sumI f n ∧ sumI f n ≤ b * n
  | 0, _ => by simp [sumI]
  | n + 1, h => by
    have h1 := sumI_b n (fun k a b => h k a (by omega))
    have h2 := h n (by omega) (by omega)
    have e1 : a * ((n : Int) + 1) = a * n + a := by rw [Int.mul_add, Int.mul_one]
    have e2 : b * ((n : Int) + 1) = b * n + b := by rw [Int.mul_add, Int.mul_one]
    rw [sumI]
    push_cast
    omega
theorem sumR_b {f : Int → Int} {a b N : Int} (hN : 0 ≤ N) (h : ∀ k : Int, 0 ≤ k → k < N → a ≤ f k ∧ f k ≤ b) : a * N ≤ sumR f N ∧ sumR f N ≤ b * N := by
  have := sumI_b (f := f) (a := a) (b := b) N.toNat (fun k h1 h2 => h k h1 (by omega))
  rw [Int.toNat_of_nonneg hN] at this
  exact this
def itI {σ : Type} (f : Int → σ → σ) (a : σ) : Nat → σ
  | 0 => a
  | n + 1 => f n (itI f a n)
def itR {σ : Type} (f : Int → σ → σ) (a : σ) (N : Int) : σ := itI f a N.toNat
theorem itR_0 {σ : Type} {f : Int → σ → σ} {a : σ} : itR f a 0 = a := rfl
theorem itR_s {σ : Type} {f : Int → σ → σ} {a : σ} {i : Int} (h : 0 ≤ i) : itR f a (i + 1) = f i (itR f a i) := by
  unfold itR
  rw [show (i + 1).toNat = i.toNat + 1 by omega, itI, Int.toNat_of_nonneg h]
/-! the kinds, as the class tells them -/
theorem kPace_r (k : Int) : 1 ≤ kPace k ∧ kPace k ≤ 2 := by unfold kPace; split <;> omega
theorem kRest_r (k : Int) : 0 ≤ kRest k ∧ kRest k ≤ 4 := by unfold kRest; repeat' split <;> omega
theorem kStand_r (k : Int) : 0 ≤ kStand k ∧ kStand k ≤ 2 := by unfold kStand; split <;> omega
theorem kPace_m (k : Int) {p : Int} (h : 0 ≤ p) : 0 ≤ kPace k * p ∧ kPace k * p ≤ 2 * p := by
  unfold kPace
  split <;> omega
def c_round (k t : Int) : Int := (if kPace k = 2 then t else 2 * t) + kRest k + kStand k
theorem c_round_r (k : Int) {t : Int} (h : 1 ≤ t ∧ t ≤ 11) : 1 ≤ c_round k t ∧ c_round k t ≤ 28 := by
  have := kRest_r k; have := kStand_r k
  unfold c_round
  split <;> omega
def c_pp (k t p : Int) : Int := if t < kPace k * p then max t (kPace k * p - kStand k) else kPace k * p
def c_floorP (k t p : Int) : Int := min (c_pp k t p) (max 0 (2 * t - c_pp k t p))
def c_floor (k t b m : Int) : Int := if c_round k t < 1 then 0 else c_floorP k t ((m + b) % c_round k t)
theorem c_floor_r (k : Int) {t b m : Int} (h : 1 ≤ t ∧ t ≤ 11) (h2 : 0 ≤ b) (h3 : 0 ≤ m) : 0 ≤ c_floor k t b m ∧ c_floor k t b m ≤ t := by
  have h1 := c_round_r k h
  have h4 := Int.emod_nonneg (m + b) (show c_round k t ≠ 0 by omega)
  have h5 := kPace_m k h4
  have := kStand_r k
  unfold c_floor c_floorP
  rw [if_neg (by omega)]
  unfold c_pp
  split <;> omega
def c_opens (k t f : Int) : Bool := decide ((k = 3 → f = 0 ∨ f % 2 = 1) ∧ (k = 5 → f = 0 ∨ f = t))
/-! a house as both keep it -/
def hok (w : Int → Int) : Prop := ((1 ≤ w 1 ∧ w 1 ≤ 11) ∧ (0 ≤ w 0 ∧ w 0 ≤ 4) ∧ (0 ≤ w 2 ∧ w 2 ≤ 999) ∧ (0 ≤ w 3 ∧ w 3 ≤ 6) ∧ (0 ≤ w 4 ∧ w 4 ≤ 8)) ∧ ((1 ≤ w 13 ∧ w 13 ≤ 30) ∧ (1 ≤ w 14 ∧ w 14 ≤ 30) ∧ (0 ≤ w 15 ∧ w 15 ≤ 29) ∧ (0 ≤ w 16 ∧ w 16 ≤ 29)) ∧ (∀ k : Int, 0 ≤ k → k < w 0 → (0 ≤ w (5 + k) ∧ w (5 + k) ≤ 5) ∧ (0 ≤ w (9 + k) ∧ w (9 + k) ≤ 99)) ∧ (∀ k : Int, 0 ≤ k → k < w 3 → (0 ≤ w (17 + 4 * k) ∧ w (17 + 4 * k) < w 0) ∧ (0 ≤ w (18 + 4 * k) ∧ w (18 + 4 * k) ≤ w 1) ∧ (0 ≤ w (19 + 4 * k) ∧ w (19 + 4 * k) ≤ 99) ∧ (0 ≤ w (20 + 4 * k) ∧ w (20 + 4 * k) ≤ 1)) ∧ (∀ k : Int, 0 ≤ k → k < w 4 → 0 ≤ w (41 + k) ∧ w (41 + k) ≤ 999)
theorem hok.b {w : Int → Int} (h : hok w) : (1 ≤ w 1 ∧ w 1 ≤ 11) ∧ (0 ≤ w 0 ∧ w 0 ≤ 4) ∧ (0 ≤ w 2 ∧ w 2 ≤ 999) ∧ (0 ≤ w 3 ∧ w 3 ≤ 6) ∧ (0 ≤ w 4 ∧ w 4 ≤ 8) := h.1
theorem hok.ln {w : Int → Int} (h : hok w) : (1 ≤ w 13 ∧ w 13 ≤ 30) ∧ (1 ≤ w 14 ∧ w 14 ≤ 30) ∧ (0 ≤ w 15 ∧ w 15 ≤ 29) ∧ (0 ≤ w 16 ∧ w 16 ≤ 29) := h.2.1
theorem hok.k {w : Int → Int} (h : hok w) {k : Int} (h0 : 0 ≤ k) (h1 : k < w 0) : (0 ≤ w (5 + k) ∧ w (5 + k) ≤ 5) ∧ (0 ≤ w (9 + k) ∧ w (9 + k) ≤ 99) := h.2.2.1 k h0 h1
theorem hok.n {w : Int → Int} (h : hok w) {k : Int} (h0 : 0 ≤ k) (h1 : k < w 3) : (0 ≤ w (17 + 4 * k) ∧ w (17 + 4 * k) < w 0) ∧ (0 ≤ w (18 + 4 * k) ∧ w (18 + 4 * k) ≤ w 1) ∧ (0 ≤ w (19 + 4 * k) ∧ w (19 + 4 * k) ≤ 99) ∧ (0 ≤ w (20 + 4 * k) ∧ w (20 + 4 * k) ≤ 1) := h.2.2.2.1 k h0 h1
theorem hok.u {w : Int → Int} (h : hok w) {k : Int} (h0 : 0 ≤ k) (h1 : k < w 4) : 0 ≤ w (41 + k) ∧ w (41 + k) ≤ 999 := h.2.2.2.2 k h0 h1
/-! what is seen, as the class looks -/
abbrev c_fl (w : Int → Int) (L m : Int) : Int := c_floor (w (5 + L)) (w 1) (w (9 + L)) m
theorem c_fl_r {w : Int → Int} (h : hok w) {L m : Int} (h0 : 0 ≤ L ∧ L < w 0) (hm : 0 ≤ m) : 0 ≤ c_fl w L m ∧ c_fl w L m ≤ w 1 := c_floor_r _ h.b.1 (h.k h0.1 h0.2).2.1 hm
def c_wayP (k t b m i : Int) : Bool := decide (¬ c_floor k t b (m + i) = c_floor k t b m)
def c_wayB (k t b m : Int) : Int := srI (c_wayP k t b m) 28 1
def c_way (k t b m : Int) : Int := if c_wayB k t b m = -1 then 0 else if c_floor k t b m < c_floor k t b (m + c_wayB k t b m) then 1 else 0
theorem c_way_r (k t b m : Int) : 0 ≤ c_way k t b m ∧ c_way k t b m ≤ 1 := by unfold c_way; repeat' split <;> omega
abbrev c_wy (w : Int → Int) (L m : Int) : Int := c_way (w (5 + L)) (w 1) (w (9 + L)) m
theorem c_wy_r (w : Int → Int) (L m : Int) : 0 ≤ c_wy w L m ∧ c_wy w L m ≤ 1 := c_way_r _ _ _ _
def c_seen (w : Int → Int) (L f m : Int) : Bool := c_opens (w (5 + L)) (w 1) f && decide (c_fl w L m = f)
def c_sfP (w : Int → Int) (f m y L : Int) : Bool := c_seen w L f m && (decide (y = -1) || decide (c_wy w L m = y))
def c_sf (w : Int → Int) (f m y : Int) : Int := srI (c_sfP w f m y) (w 0) 0
theorem c_sf_r (w : Int → Int) (f m y : Int) : c_sf w f m y = -1 ∨ (0 ≤ c_sf w f m y ∧ c_sf w f m y < w 0) := by
  rcases srI_out (P := c_sfP w f m y) (N := w 0) (i := 0) with h | ⟨h1, h2, -⟩
  · exact Or.inl h
  · exact Or.inr ⟨h1, h2⟩
def c_woP (w : Int → Int) (f m y i : Int) : Bool := decide (¬ c_sf w f (m + i) y = -1)
def c_wo (w : Int → Int) (f m y : Int) : Int := srI (c_woP w f m y) 28 0
theorem c_wo_r (w : Int → Int) (f m y : Int) : -1 ≤ c_wo w f m y ∧ c_wo w f m y < 28 := by
  rcases srI_out (P := c_woP w f m y) (N := 28) (i := 0) with h | ⟨h1, h2, -⟩ <;> unfold c_wo <;> omega
def c_wfP (w : Int → Int) (L f m i : Int) : Bool := c_seen w L f (m + i)
def c_wf (w : Int → Int) (L f m : Int) : Int := srI (c_wfP w L f m) 28 0
theorem c_wf_r (w : Int → Int) (L f m : Int) : -1 ≤ c_wf w L f m ∧ c_wf w L f m < 28 := by
  rcases srI_out (P := c_wfP w L f m) (N := 28) (i := 0) with h | ⟨h1, h2, -⟩ <;> unfold c_wf <;> omega
def c_w1 (w : Int → Int) (f m : Int) : Int := if c_wo w f m (-1) = -1 then -1 else if c_sf w f (m + c_wo w f m (-1)) (-1) = -1 then -1 else c_wy w (c_sf w f (m + c_wo w f m (-1)) (-1)) (m + c_wo w f m (-1))
theorem c_w1_r (w : Int → Int) (f m : Int) : -1 ≤ c_w1 w f m ∧ c_w1 w f m ≤ 1 := by
  have := c_wy_r w (c_sf w f (m + c_wo w f m (-1)) (-1)) (m + c_wo w f m (-1))
  unfold c_w1
  split
  · omega
  · split <;> omega
def c_rd (w : Int → Int) (f t m y : Int) : Int := if f = t then 0 else if c_wo w f m y = -1 then -1 else if c_sf w f (m + c_wo w f m y) y = -1 then -1 else if c_wf w (c_sf w f (m + c_wo w f m y) y) t (m + c_wo w f m y) = -1 then -1 else c_wo w f m y + c_wf w (c_sf w f (m + c_wo w f m y) y) t (m + c_wo w f m y)
theorem c_rd_r (w : Int → Int) (f t m y : Int) : -1 ≤ c_rd w f t m y ∧ c_rd w f t m y ≤ 60 := by
  have := c_wo_r w f m y; have := c_wf_r w (c_sf w f (m + c_wo w f m y) y) t (m + c_wo w f m y)
  unfold c_rd
  repeat' split <;> omega
def c_badN (w : Int → Int) (L k b i : Int) : Bool := decide (w (17 + 4 * i) = L) && (decide (c_floor k (w 1) b (w (19 + 4 * i)) = w (18 + 4 * i)) != decide (w (20 + 4 * i) = 1))
def c_fits (w : Int → Int) (L k b : Int) : Bool := decide (srI (c_badN w L k b) (w 3) 0 = -1)
def c_fk (w : Int → Int) (L n : Int) : Int := sumR (fun k => if c_fits w L k (w (9 + L)) = true then 2 ^ k.toNat else 0) n
theorem c_fk_s {w : Int → Int} {L i : Int} (h : 0 ≤ i) : c_fk w L (i + 1) = c_fk w L i + (if c_fits w L i (w (9 + L)) = true then 2 ^ i.toNat else 0) := sumR_s h
theorem c_fk_n (w : Int → Int) (L : Int) : ∀ n : Nat, 0 ≤ c_fk w L n ∧ c_fk w L n < 2 ^ n
  | 0 => by
    show (0 : Int) ≤ 0 ∧ (0 : Int) < 1
    decide
  | n + 1 => by
    have h := c_fk_n w L n
    have e : c_fk w L ((n + 1 : Nat) : Int) = c_fk w L n + (if c_fits w L n (w (9 + L)) = true then 2 ^ (n : Int).toNat else 0) := c_fk_s (i := (n : Int)) (by omega)
    have e2 : (2 : Int) ^ (n + 1) = 2 ^ n + 2 ^ n := by rw [Int.pow_succ]; omega
    rw [e, e2, Int.toNat_natCast]
    split <;> omega
theorem c_fk_r {w : Int → Int} {L n : Int} (h : 0 ≤ n) : 0 ≤ c_fk w L n ∧ c_fk w L n < 2 ^ n.toNat := by
  have := c_fk_n w L n.toNat
  rw [Int.toNat_of_nonneg h] at this
  exact this
theorem c_fk_64 (w : Int → Int) (L : Int) : 0 ≤ c_fk w L 6 ∧ c_fk w L 6 < 64 := c_fk_n w L 6
def c_fsF (w : Int → Int) (L b : Int) : Int := bz (c_fits w L (w (5 + L)) b = true)
def c_fs (w : Int → Int) (L : Int) : Int := sumR (c_fsF w L) 100
def c_kt (w : Int → Int) (B b f m n : Int) : Int := sumR (fun k => bz (B / 2 ^ k.toNat % 2 = 1 ∧ c_floor k (w 1) b m = f)) n
theorem c_kt_s {w : Int → Int} {B b f m i : Int} (h : 0 ≤ i) : c_kt w B b f m (i + 1) = c_kt w B b f m i + bz (B / 2 ^ i.toNat % 2 = 1 ∧ c_floor i (w 1) b m = f) := sumR_s h
theorem c_kt_r (w : Int → Int) (B b f m : Int) : 0 ≤ c_kt w B b f m 6 ∧ c_kt w B b f m 6 ≤ 6 := by
  have := sumR_b (f := fun k => bz (B / 2 ^ k.toNat % 2 = 1 ∧ c_floor k (w 1) b m = f)) (a := 0) (b := 1) (N := 6) (by decide) (fun k _ _ => bz_r)
  unfold c_kt
  omega
def c_pc (B : Int) : Int := sumR (fun k => B / 2 ^ k.toNat % 2) 6
theorem c_pc_r (B : Int) : 0 ≤ c_pc B ∧ c_pc B ≤ 6 := by
  have := sumR_b (f := fun k => B / 2 ^ k.toNat % 2) (a := 0) (b := 1) (N := 6) (by decide) (fun k _ _ => by omega)
  unfold c_pc
  omega
def c_tmX (w : Int → Int) (L f m : Int) : Int := max (c_kt w (c_fk w L 6) (w (9 + L)) f m 6) (c_pc (c_fk w L 6) - c_kt w (c_fk w L 6) (w (9 + L)) f m 6)
def c_tmS (w : Int → Int) (L f m : Int) (s : Int × Int) : Int × Int := if c_tmX w L f m < s.2 then (m, c_tmX w L f m) else s
def c_tm (w : Int → Int) (L f : Int) : Int := if 0 < c_pc (c_fk w L 6) then (itR (c_tmS w L f) (-1, c_pc (c_fk w L 6) + 1) 31).1 else -1
/-! bits of small numbers -/
theorem zI_shl1 {k : Int} (h : 0 ≤ k ∧ k ≤ 5) : zI 1 <<< (zI k &&& 31) = zI (2 ^ k.toNat) := by
  have key : ∀ j : Fin 6, zI 1 <<< (zI (j.val : Int) &&& 31) = zI (2 ^ j.val) := by decide +kernel
  have := key ⟨k.toNat, by omega⟩
  simpa [Int.toNat_of_nonneg h.1] using this
theorem zI_or6 {b k : Int} (hb : 0 ≤ b ∧ b < 2 ^ k.toNat) (hk : 0 ≤ k ∧ k ≤ 5) : zI b ||| zI (2 ^ k.toNat) = zI (b + 2 ^ k.toNat) := by
  have key : ∀ (j : Fin 6) (i : Fin 64), i.val < 2 ^ j.val → zI (i.val : Int) ||| zI (2 ^ j.val) = zI ((i.val : Int) + 2 ^ j.val) := by decide +kernel
  have h2 : (2 : Int) ^ k.toNat ≤ 32 := by
    have : ∀ j : Fin 6, (2 : Int) ^ j.val ≤ 32 := by decide
    exact this ⟨k.toNat, by omega⟩
  have h3 : ((b.toNat : Nat) : Int) = b := Int.toNat_of_nonneg hb.1
  have h4 : b.toNat < 2 ^ k.toNat := by
    have : ((b.toNat : Nat) : Int) < ((2 ^ k.toNat : Nat) : Int) := by rw [h3]; push_cast; exact hb.2
    omega
  have := key ⟨k.toNat, by omega⟩ ⟨b.toNat, by omega⟩ h4
  simpa [h3] using this
theorem zI_shr6 {b k : Int} (hb : 0 ≤ b ∧ b < 64) (hk : 0 ≤ k ∧ k ≤ 5) : zI b >>> (zI k &&& 31) = zI (b / 2 ^ k.toNat) := by
  have key : ∀ (j : Fin 6) (i : Fin 64), zI (i.val : Int) >>> (zI (j.val : Int) &&& 31) = zI ((i.val : Int) / 2 ^ j.val) := by decide +kernel
  have := key ⟨k.toNat, by omega⟩ ⟨b.toNat, by omega⟩
  simpa [Int.toNat_of_nonneg hb.1, Int.toNat_of_nonneg hk.1] using this
theorem zI_and1 {b : Int} (hb : 0 ≤ b ∧ b < 64) : zI b &&& zI 1 = zI (b % 2) := by
  have key : ∀ i : Fin 64, zI (i.val : Int) &&& zI 1 = zI ((i.val : Int) % 2) := by decide +kernel
  have := key ⟨b.toNat, by omega⟩
  simpa [Int.toNat_of_nonneg hb.1] using this
theorem div64 {b : Int} (hb : 0 ≤ b ∧ b < 64) (n : Nat) : 0 ≤ b / 2 ^ n ∧ b / 2 ^ n < 64 := by
  have h : (0 : Int) < 2 ^ n := Int.pow_pos (by decide)
  refine ⟨Int.ediv_nonneg hb.1 (Int.le_of_lt h), ?_⟩
  have := Int.ediv_le_self (2 ^ n) hb.1
  omega
theorem fin64 {P : Int → Prop} (h : ∀ i : Fin 64, P (i.val : Int)) {x : Int} (hx : 0 ≤ x ∧ x < 64) : P x := by
  have := h ⟨x.toNat, by omega⟩
  simpa [Int.toNat_of_nonneg hx.1] using this
