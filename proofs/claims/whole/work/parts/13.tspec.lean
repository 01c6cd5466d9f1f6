/-! the text -/
def skp (P : Int → Bool) : Nat → Int → Int
  | 0, k => k
  | n + 1, k => if P k = true then skp P n (k + 1) else k
def skI (P : Int → Bool) (N i : Int) : Int := skp P (N - i).toNat i
theorem skI_end {P : Int → Bool} {N i : Int} (h : N ≤ i) : skI P N i = i := by
  unfold skI
  rw [show (N - i).toNat = 0 by omega]
  rfl
theorem skI_stop {P : Int → Bool} {N i : Int} (hp : ¬ P i = true) : skI P N i = i := by
  unfold skI
  cases (N - i).toNat with
  | zero => rfl
  | succ n => rw [skp, if_neg hp]
theorem skI_next {P : Int → Bool} {N i : Int} (h : i < N) (hp : P i = true) : skI P N i = skI P N (i + 1) := by
  unfold skI
  obtain ⟨n, hn⟩ : ∃ n, (N - i).toNat = n + 1 := ⟨(N - i).toNat - 1, by omega⟩
  rw [hn, skp, if_pos hp, show (N - (i + 1)).toNat = n by omega]
theorem skp_r {P : Int → Bool} : ∀ (n : Nat) (k : Int), k ≤ skp P n k ∧ skp P n k ≤ k + n ∧ ∀ j, k ≤ j → j < skp P n k → P j = true
  | 0, k => ⟨Int.le_refl _, by simp [skp], fun j h1 h2 => by simp only [skp] at h2; omega⟩
  | n + 1, k => by
    rw [skp]
    split
    · rename_i h
      obtain ⟨h1, h2, h3⟩ := skp_r (P := P) n (k + 1)
      refine ⟨by omega, by omega, fun j a b => ?_⟩
      by_cases e : j = k
      · rw [e]; exact h
      · exact h3 j (by omega) b
    · exact ⟨Int.le_refl _, by omega, fun j a b => by omega⟩
theorem skI_r {P : Int → Bool} {N i : Int} (h : i ≤ N) : i ≤ skI P N i ∧ skI P N i ≤ N := by
  have := skp_r (P := P) (N - i).toNat i
  unfold skI
  omega
theorem skI_all {P : Int → Bool} {N i : Int} {j : Int} (h1 : i ≤ j) (h2 : j < skI P N i) : P j = true := (skp_r (P := P) (N - i).toNat i).2.2 j h1 h2
def blP (tx : Int → Int) (k : Int) : Bool := decide (tx k = 32)
def leP (tx : Int → Int) (k : Int) : Bool := decide (97 ≤ tx k ∧ tx k ≤ 122)
def fiP (tx : Int → Int) (k : Int) : Bool := decide (48 ≤ tx k ∧ tx k ≤ 57)
def tok (tx : Int → Int) (L : Int) : Prop := (0 ≤ L ∧ L ≤ 150) ∧ ∀ k : Int, 0 ≤ k → k < L → 0 ≤ tx k ∧ tx k ≤ 127
def t_vlF (tx : Int → Int) (a k s : Int) : Int := 10 * s + tx (a + k) - 48
def t_vl (tx : Int → Int) (a b : Int) : Int := if b - a ≤ 2 then itR (t_vlF tx a) 0 (b - a) else -1
def t_st (tx : Int → Int) (L q : Int) : Int := skI (blP tx) L q
def t_nx (tx tz : Int → Int) (a : Int) : Int → Int :=
  if tz 0 ≤ a then wset (wset (wset tz 2 a) 1 0) 3 a
  else if 97 ≤ tx a ∧ tx a ≤ 122 then wset (wset (wset tz 2 a) 1 1) 3 (skI (leP tx) (tz 0) a)
  else if 48 ≤ tx a ∧ tx a ≤ 57 then wset (wset (wset (wset tz 2 a) 1 2) 4 (t_vl tx a (skI (fiP tx) (tz 0) a))) 3 (skI (fiP tx) (tz 0) a)
  else if tx a = 59 then wset (wset (wset tz 2 a) 1 3) 3 (a + 1)
  else wset (wset (wset tz 2 a) 1 4) 3 (a + 1)
def t_next (tx tz : Int → Int) : Int → Int := t_nx tx tz (t_st tx (tz 0) (tz 3))
/-- what a text's tokens are like, always -/
def tsok (tx tz : Int → Int) : Prop := tok tx (tz 0) ∧ (0 ≤ tz 1 ∧ tz 1 ≤ 4) ∧ (0 ≤ tz 2 ∧ tz 2 ≤ tz 3) ∧ tz 3 ≤ tz 0 ∧ (-1 ≤ tz 4 ∧ tz 4 ≤ 99)
def tsk (tx tz : Int → Int) : Prop := tok tx (tz 0) ∧ (0 ≤ tz 3 ∧ tz 3 ≤ tz 0) ∧ (-1 ≤ tz 4 ∧ tz 4 ≤ 99)
theorem tsok.k {tx tz : Int → Int} (h : tsok tx tz) : tsk tx tz := ⟨h.1, ⟨by have := h.2.2.1; omega, h.2.2.2.1⟩, h.2.2.2.2⟩
theorem t_vl_r {tx : Int → Int} {L a : Int} (ha : 48 ≤ tx a ∧ tx a ≤ 57) (hL : a < L) : -1 ≤ t_vl tx a (skI (fiP tx) L a) ∧ t_vl tx a (skI (fiP tx) L a) ≤ 99 := by
  have hp : fiP tx a = true := decide_eq_true ha
  have h1 := skI_next hL hp
  have h2 := skI_r (P := fiP tx) (N := L) (i := a + 1) (by omega)
  unfold t_vl
  split
  · rename_i h
    have h3 : skI (fiP tx) L a - a = 1 ∨ skI (fiP tx) L a - a = 2 := by omega
    have e0 : ∀ s : Int, t_vlF tx a 0 s = 10 * s + tx a - 48 := fun s => by unfold t_vlF; rw [show a + 0 = a by omega]
    rcases h3 with h3 | h3
    · rw [h3, show (1 : Int) = 0 + 1 by rfl, itR_s (by omega), itR_0, e0]
      omega
    · have h4 : fiP tx (a + 1) = true := skI_all (N := L) (i := a) (by omega) (by omega)
      have h5 := of_decide_eq_true h4
      rw [h3, show (2 : Int) = 0 + 1 + 1 by rfl, itR_s (by omega), itR_s (by omega), itR_0, e0]
      unfold t_vlF
      rw [show a + (0 + 1) = a + 1 by omega]
      omega
  · omega
theorem tsok_nx {tx tz : Int → Int} (h : tsk tx tz) : tsok tx (t_next tx tz) := by
  obtain ⟨h1, ⟨h3, h4⟩, h5⟩ := h
  have ha := skI_r (P := blP tx) (N := tz 0) (i := tz 3) h4
  unfold t_next t_st
  generalize hg : skI (blP tx) (tz 0) (tz 3) = a at ha ⊢
  unfold t_nx
  split
  · exact ⟨h1, (by decide : (0 : Int) ≤ 0 ∧ (0 : Int) ≤ 4), ⟨(show 0 ≤ a by omega), (show a ≤ a by omega)⟩, (show a ≤ tz 0 by omega), h5⟩
  · rename_i hc
    have hk := h1.2 a (by omega) (by omega)
    split
    · have := skI_r (P := leP tx) (N := tz 0) (i := a) (by omega)
      exact ⟨h1, (by decide : (0 : Int) ≤ 1 ∧ (1 : Int) ≤ 4), ⟨(show 0 ≤ a by omega), (show a ≤ _ from this.1)⟩, this.2, h5⟩
    · split
      · rename_i hf
        have h8 := skI_r (P := fiP tx) (N := tz 0) (i := a) (by omega)
        have h9 := t_vl_r (L := tz 0) hf (by omega)
        exact ⟨h1, (by decide : (0 : Int) ≤ 2 ∧ (2 : Int) ≤ 4), ⟨(show 0 ≤ a by omega), (show a ≤ _ from h8.1)⟩, h8.2, h9⟩
      · split
        · exact ⟨h1, (by decide : (0 : Int) ≤ 3 ∧ (3 : Int) ≤ 4), ⟨(show 0 ≤ a by omega), (show a ≤ a + 1 by omega)⟩, (show a + 1 ≤ tz 0 by omega), h5⟩
        · exact ⟨h1, (by decide : (0 : Int) ≤ 4 ∧ (4 : Int) ≤ 4), ⟨(show 0 ≤ a by omega), (show a ≤ a + 1 by omega)⟩, (show a + 1 ≤ tz 0 by omega), h5⟩
theorem tsok_next {tx tz : Int → Int} (h : tsok tx tz) : tsok tx (t_next tx tz) := tsok_nx h.k
theorem t_next_0 (tx tz : Int → Int) : t_next tx tz 0 = tz 0 := by
  unfold t_next t_nx
  repeat' split
  all_goals rfl
def t_iwP (tx tz : Int → Int) (i : Nat) (k : Int) : Bool := decide (¬ tx (tz 2 + k) = wc i k)
def t_isw (tx tz : Int → Int) (i : Nat) : Bool := (decide (tz 1 = 1) && decide (tz 3 - tz 2 = wl i)) && decide (srI (t_iwP tx tz i) (wl i) 0 = -1)
def t_num (tx tz : Int → Int) (lo hi : Int) : Bool := decide (t_next tx tz 1 = 2 ∧ (lo ≤ t_next tx tz 4 ∧ t_next tx tz 4 ≤ hi))
def t_sem (tx tz : Int → Int) : Bool := decide (t_next tx tz 1 = 3)
def rh_r (tx tz : Int → Int) : Bool := t_isw tx tz 0 && (t_num tx tz 1 11 && t_sem tx (t_next tx tz))
def rh_tz (tx tz : Int → Int) : Int → Int := if t_isw tx tz 0 = true then (if t_num tx tz 1 11 = true then t_next tx (t_next tx tz) else t_next tx tz) else tz
def rh_w (tx tz w : Int → Int) : Int → Int := if t_isw tx tz 0 = true then (if t_num tx tz 1 11 = true then h_build w (t_next tx tz 4) else w) else w
def rl_r (tx tz : Int → Int) : Bool := t_num tx tz 0 5 && (t_num tx (t_next tx tz) 0 99 && t_sem tx (t_next tx (t_next tx tz)))
def rl_tz (tx tz : Int → Int) : Int → Int := if t_num tx tz 0 5 = true then (if t_num tx (t_next tx tz) 0 99 = true then t_next tx (t_next tx (t_next tx tz)) else t_next tx (t_next tx tz)) else t_next tx tz
def rl_w (tx tz w : Int → Int) : Int → Int := if t_num tx tz 0 5 = true then (if t_num tx (t_next tx tz) 0 99 = true then h_addLift w (t_next tx tz 4) (t_next tx (t_next tx tz) 4) else w) else w
def rn_r (tx tz : Int → Int) : Bool := t_num tx tz 0 1 && (t_num tx (t_next tx tz) 1 30 && (t_num tx (t_next tx (t_next tx tz)) 0 29 && t_sem tx (t_next tx (t_next tx (t_next tx tz)))))
def rn_tz (tx tz : Int → Int) : Int → Int := if t_num tx tz 0 1 = true then (if t_num tx (t_next tx tz) 1 30 = true then (if t_num tx (t_next tx (t_next tx tz)) 0 29 = true then t_next tx (t_next tx (t_next tx (t_next tx tz))) else t_next tx (t_next tx (t_next tx tz))) else t_next tx (t_next tx tz)) else t_next tx tz
def rn_w (tx tz w : Int → Int) : Int → Int := if t_num tx tz 0 1 = true then (if t_num tx (t_next tx tz) 1 30 = true then (if t_num tx (t_next tx (t_next tx tz)) 0 29 = true then wset (wset w (13 + t_next tx tz 4) (t_next tx (t_next tx tz) 4)) (15 + t_next tx tz 4) (t_next tx (t_next tx (t_next tx tz)) 4) else w) else w) else w
def it_r (tx tz w : Int → Int) : Bool := if t_isw tx tz 1 = true ∧ w 0 < 4 then rl_r tx tz else (t_isw tx tz 2 && rn_r tx tz)
def it_tz (tx tz w : Int → Int) : Int → Int := if t_isw tx tz 1 = true ∧ w 0 < 4 then rl_tz tx tz else if t_isw tx tz 2 = true then rn_tz tx tz else tz
def it_w (tx tz w : Int → Int) : Int → Int := if t_isw tx tz 1 = true ∧ w 0 < 4 then rl_w tx tz w else if t_isw tx tz 2 = true then rn_w tx tz w else w
def ri (tx : Int → Int) : Nat → (Int → Int) → (Int → Int) → Int → Int × (Int → Int) × (Int → Int)
  | 0, tz, w, n => (n, tz, w)
  | k + 1, tz, w, n => if tz 1 = 0 then (n, tz, w) else if it_r tx tz w = true then ri tx k (t_next tx (it_tz tx tz w)) (it_w tx tz w) (n + 1) else (-10 - it_tz tx tz w 2, it_tz tx tz w, it_w tx tz w)
def riI (tx : Int → Int) (tz w : Int → Int) (n : Int) : Int × (Int → Int) × (Int → Int) := ri tx (150 - n).toNat tz w n
theorem riI_end {tx tz w : Int → Int} {n : Int} (h : 150 ≤ n) : riI tx tz w n = (n, tz, w) := by
  unfold riI
  rw [show (150 - n).toNat = 0 by omega]
  rfl
theorem riI_0 {tx tz w : Int → Int} {n : Int} (h : tz 1 = 0) : riI tx tz w n = (n, tz, w) := by
  unfold riI
  cases (150 - n).toNat with
  | zero => rfl
  | succ k => rw [ri, if_pos h]
theorem riI_s {tx tz w : Int → Int} {n : Int} (hn : n < 150) (h : ¬ tz 1 = 0) (hr : it_r tx tz w = true) : riI tx tz w n = riI tx (t_next tx (it_tz tx tz w)) (it_w tx tz w) (n + 1) := by
  unfold riI
  obtain ⟨k, hk⟩ : ∃ k, (150 - n).toNat = k + 1 := ⟨(150 - n).toNat - 1, by omega⟩
  rw [hk, ri, if_neg h, if_pos hr, show (150 - (n + 1)).toNat = k by omega]
theorem riI_f {tx tz w : Int → Int} {n : Int} (hn : n < 150) (h : ¬ tz 1 = 0) (hr : ¬ it_r tx tz w = true) : riI tx tz w n = (-10 - it_tz tx tz w 2, it_tz tx tz w, it_w tx tz w) := by
  unfold riI
  obtain ⟨k, hk⟩ : ∃ k, (150 - n).toNat = k + 1 := ⟨(150 - n).toNat - 1, by omega⟩
  rw [hk, ri, if_neg h, if_neg hr]
def rd0 (tx tz : Int → Int) : Int → Int := t_next tx (wset tz 3 0)
def rd (tx tz w : Int → Int) : Int × (Int → Int) × (Int → Int) := if rh_r tx (rd0 tx tz) = true then riI tx (t_next tx (rh_tz tx (rd0 tx tz))) (rh_w tx (rd0 tx tz) w) 1 else (-10 - rh_tz tx (rd0 tx tz) 2, rh_tz tx (rd0 tx tz), rh_w tx (rd0 tx tz) w)
theorem tsok_rh {tx tz : Int → Int} (h : tsok tx tz) : tsok tx (rh_tz tx tz) := by
  unfold rh_tz
  repeat' split
  · exact tsok_next (tsok_next h)
  · exact tsok_next h
  · exact h
theorem tsok_rl {tx tz : Int → Int} (h : tsok tx tz) : tsok tx (rl_tz tx tz) := by
  unfold rl_tz
  repeat' split
  · exact tsok_next (tsok_next (tsok_next h))
  · exact tsok_next (tsok_next h)
  · exact tsok_next h
theorem tsok_rn {tx tz : Int → Int} (h : tsok tx tz) : tsok tx (rn_tz tx tz) := by
  unfold rn_tz
  repeat' split
  · exact tsok_next (tsok_next (tsok_next (tsok_next h)))
  · exact tsok_next (tsok_next (tsok_next h))
  · exact tsok_next (tsok_next h)
  · exact tsok_next h
theorem tsok_it {tx tz w : Int → Int} (h : tsok tx tz) : tsok tx (it_tz tx tz w) := by
  unfold it_tz
  repeat' split
  · exact tsok_rl h
  · exact tsok_rn h
  · exact h
/-- how many lifts a draft has -/
def lok (w : Int → Int) : Prop := 0 ≤ w 0 ∧ w 0 ≤ 4
theorem lok_build (w : Int → Int) (f : Int) : lok (h_build w f) := ⟨(by decide : (0 : Int) ≤ 0), (by decide : (0 : Int) ≤ 4)⟩
theorem lok_add {w : Int → Int} (h : lok w) (k b : Int) : lok (h_addLift w k b) := by
  unfold h_addLift
  split
  · rename_i hc
    have e : (wset (wset (wset (wset w (5 + w 0) k) (9 + w 0) b) 0 (w 0 + 1)) 4 0) 0 = w 0 + 1 := rfl
    unfold lok at *
    rw [e]
    omega
  · exact h
theorem lok_line {w : Int → Int} (h : lok w) {a : Int} (ha : 0 ≤ a) (e b : Int) : lok (wset (wset w (13 + a) e) (15 + a) b) := by
  unfold lok at *
  rw [wset_ne (by omega), wset_ne (by omega)]
  exact h
theorem t_num_4 {tx tz : Int → Int} {lo hi : Int} (h : t_num tx tz lo hi = true) : lo ≤ t_next tx tz 4 ∧ t_next tx tz 4 ≤ hi := (of_decide_eq_true h).2
theorem lok_rl {tx tz w : Int → Int} (h : lok w) : lok (rl_w tx tz w) := by
  unfold rl_w
  repeat' split
  · exact lok_add h _ _
  · exact h
  · exact h
theorem lok_rn {tx tz w : Int → Int} (h : lok w) : lok (rn_w tx tz w) := by
  unfold rn_w
  split
  · rename_i h1
    repeat' split
    · exact lok_line h (t_num_4 h1).1 _ _
    · exact h
    · exact h
  · exact h
theorem lok_it {tx tz w : Int → Int} (h : lok w) : lok (it_w tx tz w) := by
  unfold it_w
  repeat' split
  · exact lok_rl h
  · exact lok_rn h
  · exact h
theorem lok_rh {tx tz w : Int → Int} (h : rh_r tx tz = true) : lok (rh_w tx tz w) := by
  unfold rh_r at h
  simp only [Bool.and_eq_true] at h
  unfold rh_w
  rw [if_pos h.1, if_pos h.2.1]
  exact lok_build _ _
theorem tsok_rd0 {tx tz : Int → Int} (h : tok tx (tz 0)) (h4 : -1 ≤ tz 4 ∧ tz 4 ≤ 99) : tsok tx (rd0 tx tz) := tsok_nx ⟨h, ⟨(by decide : (0 : Int) ≤ 0), h.1.1⟩, h4⟩
