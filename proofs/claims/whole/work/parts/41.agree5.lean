/-! porters: who comes in time -/
abbrev inT (w : Int → Int) (x1 x2 x3 k : Int) : Prop := ¬ c_wf w k x1 x2 = -1 ∧ c_wf w k x1 x2 ≤ x3
def qW (w : Int → Int) (x1 x2 x3 : Int) : Int := bz (inT w x1 x2 x3 0) + 2 * bz (inT w x1 x2 x3 1) + 4 * bz (inT w x1 x2 x3 2) + 8 * bz (inT w x1 x2 x3 3)
theorem q4_h {b0 b1 b2 b3 : Int} (h0 : b0 = 0 ∨ b0 = 1) (h1 : b1 = 0 ∨ b1 = 1) (h2 : b2 = 0 ∨ b2 = 1) (h3 : b3 = 0 ∨ b3 = 1) : (hasB (b0 + 2 * b1 + 4 * b2 + 8 * b3) 0 = true ↔ b0 = 1) ∧ (hasB (b0 + 2 * b1 + 4 * b2 + 8 * b3) 1 = true ↔ b1 = 1) ∧ (hasB (b0 + 2 * b1 + 4 * b2 + 8 * b3) 2 = true ↔ b2 = 1) ∧ (hasB (b0 + 2 * b1 + 4 * b2 + 8 * b3) 3 = true ↔ b3 = 1) := by
  rcases h0 with h0 | h0 <;> rcases h1 with h1 | h1 <;> rcases h2 with h2 | h2 <;> rcases h3 with h3 | h3 <;> subst h0 h1 h2 h3 <;> decide
theorem bz_i {P : Prop} [Decidable P] : bz P = 1 ↔ P := by
  by_cases h : P
  · rw [bz_t h]; exact ⟨fun _ => h, fun _ => rfl⟩
  · rw [bz_f h]; exact ⟨fun h9 => absurd h9 (by decide), fun h9 => absurd h9 h⟩
theorem qW_h {w : Int → Int} {x1 x2 x3 k : Int} (hk : 0 ≤ k ∧ k < 4) : hasB (qW w x1 x2 x3) k = true ↔ inT w x1 x2 x3 k := by
  have h := q4_h (bz_01 (inT w x1 x2 x3 0)) (bz_01 (inT w x1 x2 x3 1)) (bz_01 (inT w x1 x2 x3 2)) (bz_01 (inT w x1 x2 x3 3))
  rcases (show k = 0 ∨ k = 1 ∨ k = 2 ∨ k = 3 by omega) with e | e | e | e <;> subst e
  · exact h.1.trans bz_i
  · exact h.2.1.trans bz_i
  · exact h.2.2.1.trans bz_i
  · exact h.2.2.2.trans bz_i
theorem qW_r (w : Int → Int) (x1 x2 x3 : Int) : 0 ≤ qW w x1 x2 x3 ∧ qW w x1 x2 x3 < 16 := by
  have h0 := bz_01 (inT w x1 x2 x3 0)
  have h1 := bz_01 (inT w x1 x2 x3 1)
  have h2 := bz_01 (inT w x1 x2 x3 2)
  have h3 := bz_01 (inT w x1 x2 x3 3)
  unfold qW
  omega
theorem po_R {w : Int → Int} {x1 x2 x3 c : Int} : ∀ n : Nat, n ≤ 4 → poR w x1 x2 x3 c n = qR n c (qW w x1 x2 x3)
  | 0, _ => rfl
  | n + 1, hn => by
    have h := po_R (w := w) (x1 := x1) (x2 := x2) (x3 := x3) (c := c) n (by omega)
    have e1 : poR w x1 x2 x3 c ((n + 1 : Nat) : Int) = poS w x1 x2 x3 c n (poR w x1 x2 x3 c n) := itR_s (i := (n : Int)) (by omega)
    have e2 : qR ((n + 1 : Nat) : Int) c (qW w x1 x2 x3) = qS c (qW w x1 x2 x3) n (qR n c (qW w x1 x2 x3)) := itR_s (i := (n : Int)) (by omega)
    have hq := qW_h (w := w) (x1 := x1) (x2 := x2) (x3 := x3) (k := (n : Int)) (by omega)
    rw [e1, e2, h]
    unfold poS qS
    by_cases c9 : inT w x1 x2 x3 n
    · rw [if_pos c9, if_pos (hq.mpr c9)]
    · rw [if_neg c9, if_neg (fun h9 => c9 (hq.mp h9))]
