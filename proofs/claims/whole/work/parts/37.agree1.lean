/-! what the class and the model count otherwise comes to the same -/
theorem itR_ind {σ τ : Type} {f : Int → σ → σ} {g : Int → τ → τ} {a : σ} {b : τ} (R : Int → σ → τ → Prop) (h0 : R 0 a b) (hs : ∀ k : Int, ∀ x y, 0 ≤ k → R k x y → R (k + 1) (f k x) (g k y)) : ∀ n : Nat, R n (itR f a n) (itR g b n)
  | 0 => h0
  | n + 1 => by
    have h := itR_ind R h0 hs n
    have e1 : itR f a ((n + 1 : Nat) : Int) = f n (itR f a n) := itR_s (i := (n : Int)) (by omega)
    have e2 : itR g b ((n + 1 : Nat) : Int) = g n (itR g b n) := itR_s (i := (n : Int)) (by omega)
    rw [e1, e2]
    exact hs n _ _ (by omega) h
theorem itR_rel {σ τ : Type} {f : Int → σ → σ} {g : Int → τ → τ} {a : σ} {b : τ} (R : Int → σ → τ → Prop) (h0 : R 0 a b) {N : Int} (hN : 0 ≤ N) (hs : ∀ k : Int, ∀ x y, 0 ≤ k → R k x y → R (k + 1) (f k x) (g k y)) : R N (itR f a N) (itR g b N) := by
  have h := itR_ind R h0 hs N.toNat
  rw [Int.toNat_of_nonneg hN] at h
  exact h
theorem even_eq (w : Int → Int) : ma_even w = ca_even w := by
  have h := itR_rel (f := evS w) (g := mevS w) (a := (0, 61)) (b := (0, 1000000)) (N := 30) (fun k x y => x.1 = y.1 ∧ ((k = 0 ∧ x.2 = 61 ∧ y.2 = 1000000) ∨ (x.2 = 2 * y.2))) ⟨rfl, Or.inl ⟨rfl, rfl, rfl⟩⟩ (by decide) (by
    rintro k ⟨x1, x2⟩ ⟨y1, y2⟩ hk ⟨h1, h2⟩
    have ht := c_t0_r w k
    have e1 : evX w k = 2 * mevX w k := by unfold evX mevX absz; split <;> split <;> omega
    have e2 := absz_r (a := c_t0 w k - 30) (b := 30) (by omega)
    have e3 : 0 ≤ mevX w k ∧ mevX w k ≤ 30 := e2
    show (evS w k (x1, x2)).1 = (mevS w k (y1, y2)).1 ∧ ((k + 1 = 0 ∧ (evS w k (x1, x2)).2 = 61 ∧ (mevS w k (y1, y2)).2 = 1000000) ∨ (evS w k (x1, x2)).2 = 2 * (mevS w k (y1, y2)).2)
    have h1' : x1 = y1 := h1
    have h2' : (k = 0 ∧ x2 = 61 ∧ y2 = 1000000) ∨ x2 = 2 * y2 := h2
    by_cases c : mevX w k < y2
    · have a1 : evS w k (x1, x2) = (k, evX w k) := if_pos (show evX w k < x2 by omega)
      have a2 : mevS w k (y1, y2) = (k, mevX w k) := if_pos c
      rw [a1, a2]
      exact ⟨rfl, Or.inr e1⟩
    · have a1 : evS w k (x1, x2) = (x1, x2) := if_neg (show ¬ evX w k < x2 by omega)
      have a2 : mevS w k (y1, y2) = (y1, y2) := if_neg c
      rw [a1, a2]
      exact ⟨h1', Or.inr (by omega)⟩)
  unfold ma_even ca_even
  exact h.1.symm
theorem dgN_eq (w : Int → Int) (X : Int) : ∀ n : Nat, itR (fun k h9 => 31 * h9 + w (17 + k)) X (4 * (n : Int)) = itR (c_dgN w) X n
  | 0 => rfl
  | n + 1 => by
    have h := dgN_eq w X n
    have e1 : itR (c_dgN w) X ((n + 1 : Nat) : Int) = c_dgN w n (itR (c_dgN w) X n) := itR_s (i := (n : Int)) (by omega)
    rw [e1, show (4 : Int) * ((n + 1 : Nat) : Int) = 4 * (n : Int) + 1 + 1 + 1 + 1 by omega, itR_s (by omega), itR_s (by omega), itR_s (by omega), itR_s (by omega), h]
    unfold c_dgN
    rw [show (17 : Int) + (4 * (n : Int) + 1) = 18 + 4 * n by omega, show (17 : Int) + (4 * (n : Int) + 1 + 1) = 19 + 4 * n by omega, show (17 : Int) + (4 * (n : Int) + 1 + 1 + 1) = 20 + 4 * n by omega]
theorem dg_eq {w : Int → Int} (hw : hok w) (L fa fb : Int) : ma_dg w L fa fb = ca_dg w L fa fb := by
  have hb := hw.b
  unfold ma_dg ca_dg mdgN c_dg
  have h := dgN_eq w (itR (c_dgE w) (itR (c_dgL w) (itR (fun k h9 => 31 * h9 + ctn w L k) 1123 6) (w 0)) 2) (w 3).toNat
  rw [Int.toNat_of_nonneg (by omega)] at h
  rw [h]
theorem kn_pc (w : Int → Int) (B b f m : Int) : ∀ n : Nat, c_kn w B b f m n = sumR (fun k => B / 2 ^ k.toNat % 2) n - c_kt w B b f m n
  | 0 => rfl
  | n + 1 => by
    have h := kn_pc w B b f m n
    have e1 : c_kn w B b f m ((n + 1 : Nat) : Int) = _ := c_kn_s (i := (n : Int)) (by omega)
    have e2 : c_kt w B b f m ((n + 1 : Nat) : Int) = _ := c_kt_s (i := (n : Int)) (by omega)
    have e3 : sumR (fun k => B / 2 ^ k.toNat % 2) ((n + 1 : Nat) : Int) = _ := sumR_s (i := (n : Int)) (by omega)
    rw [e1, e2, e3, h]
    have h2 : B / 2 ^ (n : Int).toNat % 2 = 0 ∨ B / 2 ^ (n : Int).toNat % 2 = 1 := by omega
    rcases h2 with h2 | h2
    · rw [bz_f (fun h9 => by have h8 := of_decide_eq_true h9.1; omega), bz_f (fun h9 => by have h8 := h9.1; omega), h2]
      omega
    · by_cases hf : c_floor (n : Int) (w 1) b m = f
      · rw [bz_f (fun h9 => h9.2 hf), bz_t (And.intro h2 hf), h2]
        omega
      · have hh : hasB B (n : Int) = true := decide_eq_true h2
        rw [bz_t (And.intro hh hf), bz_f (fun h9 => hf h9.2), h2]
        omega
theorem pc_0 : ∀ B : Fin 64, (0 < c_pc (B.val : Int)) = ¬ ((B.val : Int) = 0) := by
  have key : ∀ B : Fin 64, decide (0 < c_pc (B.val : Int)) = decide (¬ ((B.val : Int) = 0)) := by decide +kernel
  intro B
  exact propext (decide_eq_decide.mp (key B))
theorem look_eq {w : Int → Int} (x1 x2 : Int) : ma_look w x1 x2 = ca_look w x1 x2 := by
  unfold ma_look ca_look
  split
  · have hf := c_fk_64 w x1
    have hp := pc_0 ⟨(c_fk w x1 6).toNat, by omega⟩
    simp only [Int.toNat_of_nonneg hf.1] at hp
    unfold c_tm
    by_cases h0 : c_fk w x1 6 = 0
    · rw [if_pos h0, if_neg (by rw [hp]; exact fun h9 => h9 h0)]
    · have h1 : 0 < c_pc (c_fk w x1 6) := by rw [hp]; exact h0
      have h6 := c_pc_r (c_fk w x1 6)
      rw [if_neg h0, if_pos h1]
      have h := itR_rel (f := mlkS w x1 x2) (g := c_tmS w x1 x2) (a := (-1, 1000000)) (b := (-1, c_pc (c_fk w x1 6) + 1)) (N := 31) (fun k x y => x.1 = y.1 ∧ ((k = 0 ∧ x.2 = 1000000 ∧ y.2 = c_pc (c_fk w x1 6) + 1) ∨ x.2 = y.2)) ⟨rfl, Or.inl ⟨rfl, rfl, rfl⟩⟩ (by decide) (by
        rintro k ⟨a1, a2⟩ ⟨y1, y2⟩ hk ⟨g1, g2⟩
        have g1' : a1 = y1 := g1
        have g2' : (k = 0 ∧ a2 = 1000000 ∧ y2 = c_pc (c_fk w x1 6) + 1) ∨ a2 = y2 := g2
        have hn : c_kn w (c_fk w x1 6) (w (9 + x1)) x2 k 6 = c_pc (c_fk w x1 6) - c_kt w (c_fk w x1 6) (w (9 + x1)) x2 k 6 := kn_pc w (c_fk w x1 6) (w (9 + x1)) x2 k 6
        have hb := c_kn_b w (c_fk w x1 6) (w (9 + x1)) x2 k (N := 6) (by decide)
        have e : mlkX w x1 x2 k = c_tmX w x1 x2 k := by
          unfold mlkX c_tmX
          rw [hn]
          split <;> omega
        have er : 0 ≤ mlkX w x1 x2 k ∧ mlkX w x1 x2 k ≤ c_pc (c_fk w x1 6) := by
          unfold mlkX
          split <;> omega
        show (mlkS w x1 x2 k (a1, a2)).1 = (c_tmS w x1 x2 k (y1, y2)).1 ∧ ((k + 1 = 0 ∧ (mlkS w x1 x2 k (a1, a2)).2 = 1000000 ∧ (c_tmS w x1 x2 k (y1, y2)).2 = c_pc (c_fk w x1 6) + 1) ∨ (mlkS w x1 x2 k (a1, a2)).2 = (c_tmS w x1 x2 k (y1, y2)).2)
        by_cases c : mlkX w x1 x2 k < a2
        · have b1 : mlkS w x1 x2 k (a1, a2) = (k, mlkX w x1 x2 k) := if_pos c
          have b2 : c_tmS w x1 x2 k (y1, y2) = (k, c_tmX w x1 x2 k) := if_pos (show c_tmX w x1 x2 k < y2 by omega)
          rw [b1, b2]
          exact ⟨rfl, Or.inr e⟩
        · have b1 : mlkS w x1 x2 k (a1, a2) = (a1, a2) := if_neg c
          have b2 : c_tmS w x1 x2 k (y1, y2) = (y1, y2) := if_neg (show ¬ c_tmX w x1 x2 k < y2 by omega)
          rw [b1, b2]
          exact ⟨g1', Or.inr (by omega)⟩)
      exact h.1
  · rfl
