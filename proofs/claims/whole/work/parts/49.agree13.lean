/-! what is counted is the same in houses that agree -/
theorem sumR_cg {f g : Int → Int} : ∀ n : Nat, (∀ k : Int, 0 ≤ k → k < n → f k = g k) → sumR f n = sumR g n
  | 0, _ => rfl
  | n + 1, h => by
    have e1 : sumR f ((n + 1 : Nat) : Int) = sumR f n + f n := sumR_s (i := (n : Int)) (by omega)
    have e2 : sumR g ((n + 1 : Nat) : Int) = sumR g n + g n := sumR_s (i := (n : Int)) (by omega)
    rw [e1, e2, sumR_cg n (fun k a b => h k a (by omega)), h n (by omega) (by omega)]
theorem sumR_congr {f g : Int → Int} {N : Int} (hN : 0 ≤ N) (h : ∀ k : Int, 0 ≤ k → k < N → f k = g k) : sumR f N = sumR g N := by
  have e := sumR_cg (f := f) (g := g) N.toNat (fun k a b => h k a (by omega))
  rw [Int.toNat_of_nonneg hN] at e
  exact e
theorem hag_w1 {w v : Int → Int} (h : hag w v) (f m : Int) : c_w1 w f m = c_w1 v f m := by
  by_cases e1 : c_wo w f m (-1) = -1
  · rw [c_w1_no e1, c_w1_no (by rw [← hag_wo h]; exact e1)]
  · have hL := c_sf_ne e1
    rw [c_w1_eq e1, c_w1_eq (w := v) (by rw [← hag_wo h]; exact e1), ← hag_wo h, ← hag_sf h, ← hag_wy h ⟨hL.1, hL.2.1⟩]
theorem hag_fits {w v : Int → Int} (h : hag w v) (L k b : Int) : c_fits w L k b = c_fits v L k b := by
  unfold c_fits
  rw [← h.1.2.2.2.1, srI_congr (P' := c_badN v L k b) (by decide) (fun j a c => by
    have d := h.2.2.2.1 j a c
    unfold c_badN
    rw [d.1, d.2.1, d.2.2.1, d.2.2.2, h.1.2.1])]
theorem hag_fk {w v : Int → Int} (h : hag w v) {L : Int} (hL : 0 ≤ L ∧ L < w 0) : c_fk w L 6 = c_fk v L 6 := by
  have c := h.2.2.1 L hL.1 hL.2
  unfold c_fk
  refine sumR_congr (by decide) (fun k a b => ?_)
  rw [hag_fits h, c.2]
theorem hag_fs {w v : Int → Int} (h : hag w v) {L : Int} (hL : 0 ≤ L ∧ L < w 0) : c_fs w L = c_fs v L := by
  have c := h.2.2.1 L hL.1 hL.2
  unfold c_fs
  refine sumR_congr (by decide) (fun k a b => ?_)
  unfold c_fsF
  rw [hag_fits h, c.1]
theorem hag_kt {w v : Int → Int} (h : hag w v) (B b f m n : Int) : c_kt w B b f m n = c_kt v B b f m n := by
  unfold c_kt
  rw [h.1.2.1]
theorem hag_tm {w v : Int → Int} (h : hag w v) {L : Int} (hL : 0 ≤ L ∧ L < w 0) (f : Int) : c_tm w L f = c_tm v L f := by
  have c := h.2.2.1 L hL.1 hL.2
  have e : c_tmS w L f = c_tmS v L f := by
    funext m s
    unfold c_tmS c_tmX
    rw [hag_fk h hL, c.2, hag_kt h]
  unfold c_tm
  rw [e, hag_fk h hL]
