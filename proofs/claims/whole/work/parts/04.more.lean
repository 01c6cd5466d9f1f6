/-! the worlds, and what a write does to them -/
def wset (w : Int → Int) (i v : Int) : Int → Int := fun j => if j = i then v else w j
def mset (M : Nat → Int → Int) (r : Nat) (i v : Int) : Nat → Int → Int := fun r' j => if r' = r then (if j = i then v else M r j) else M r' j
theorem wset_ne {w : Int → Int} {i v j : Int} (h : j ≠ i) : wset w i v j = w j := if_neg h
theorem wset_eq {w : Int → Int} {i v j : Int} (h : j = i) : wset w i v j = v := if_pos h
abbrev wTy (g : Nat → ClassId) : List (ClassId × FieldType) := [(g 0, .int), (g 1, .byte), (g 2, .boolean), (g 3, .object RX1)]
abbrev wHs (g : Nat → ClassId) (a : Nat → Nat) (w : Int → Int) : va_W := [(a 0, .inr (1, [.int (zI (w 1)), .int (zI (w 0)), .int (zI (w 2)), .int (zI (w 3)), .int (zI (w 4)), .ref (a 1), .ref (a 2), .ref (a 3), .ref (a 4), .ref (a 5), .ref (a 6), .ref (a 7), .ref (a 8), .ref (a 9)])), (a 1, .inl (g 0, 4, .inl (fun k => zI (w (5 + k))))), (a 2, .inl (g 0, 4, .inl (fun k => zI (w (9 + k))))), (a 3, .inl (g 0, 2, .inl (fun k => zI (w (13 + k))))), (a 4, .inl (g 0, 2, .inl (fun k => zI (w (15 + k))))), (a 5, .inl (g 0, 6, .inl (fun k => zI (w (17 + 4 * k))))), (a 6, .inl (g 0, 6, .inl (fun k => zI (w (18 + 4 * k))))), (a 7, .inl (g 0, 6, .inl (fun k => zI (w (19 + 4 * k))))), (a 8, .inl (g 0, 6, .inl (fun k => zI (w (20 + 4 * k))))), (a 9, .inl (g 0, 8, .inl (fun k => zI (w (41 + k)))))]
abbrev wWa (g : Nat → ClassId) (o : Nat) (a : Nat → Nat) (w : Int → Int) : va_W := (o, .inr (3, [.ref (a 0)])) :: wHs g a w
abbrev wTx (g : Nat → ClassId) (q : Nat → Nat) (tx tz : Int → Int) : va_W := [(q 0, .inr (2, [.ref (q 1), .int (zI (tz 0)), .int (zI (tz 1)), .int (zI (tz 2)), .int (zI (tz 3)), .int (zI (tz 4))])), (q 1, .inl (g 1, 150, .inl (fun k => zI (tx k))))]
abbrev wTd (g : Nat → ClassId) (q : Nat → Nat) (tx tz : Int → Int) (a : Nat → Nat) (w : Int → Int) : va_W := wTx g q tx tz ++ wHs g a w
abbrev wFr (o : Nat) (fa fb : Int) : va_W := [(o, .inr (0, [.long (zL fa), .long (zL fb)]))]
abbrev wMo (g : Nat → ClassId) (q : Nat → Nat) (M : Nat → Int → Int) : va_W := [(q 0, .inr (5, [.ref (q 1), .ref (q 2), .ref (q 3), .int (zI (M 0 0)), .ref (q 4), .long (zL (M 0 1)), .long (zL (M 0 2)), .int (zI (M 0 3)), .int (zI (M 0 4)), .int (zI (M 0 5)), .int (zI (M 0 6)), .ref (q 5), .int (zI (M 0 7)), .int (zI (M 0 8)), .long (zL (M 0 9))])), (q 1, .inl (g 0, 196, .inl (fun k => zI (M 1 k)))), (q 2, .inl (g 2, 2, .inl (fun k => zI (M 2 k)))), (q 3, .inl (g 0, 150, .inl (fun k => zI (M 3 k)))), (q 4, .inl (g 0, 3, .inl (fun k => zI (M 4 k)))), (q 5, .inl (g 0, 3, .inl (fun k => zI (M 5 k))))]
def im2 (x y : Nat) : Nat → Option Nat := fun k => if k = 0 then some x else some y
abbrev wWW (g : Nat → ClassId) (ob a0 a1 a2 a3 q : Nat → Nat) (w0 w1 w2 w3 kp tx tz : Int → Int) (fa fb : Int) (rf : Int → Int) : va_W := [(ob 0, .inr (4, [.ref (a0 0), .ref (a1 0), .ref (ob 1), .ref (ob 2), .ref (ob 3), .ref (q 0), .ref (ob 4), .ref (ob 5)])), (a0 0, .inr (1, [.int (zI (w0 1)), .int (zI (w0 0)), .int (zI (w0 2)), .int (zI (w0 3)), .int (zI (w0 4)), .ref (a0 1), .ref (a0 2), .ref (a0 3), .ref (a0 4), .ref (a0 5), .ref (a0 6), .ref (a0 7), .ref (a0 8), .ref (a0 9)])), (a0 1, .inl (g 0, 4, .inl (fun k => zI (w0 (5 + k))))), (a0 2, .inl (g 0, 4, .inl (fun k => zI (w0 (9 + k))))), (a0 3, .inl (g 0, 2, .inl (fun k => zI (w0 (13 + k))))), (a0 4, .inl (g 0, 2, .inl (fun k => zI (w0 (15 + k))))), (a0 5, .inl (g 0, 6, .inl (fun k => zI (w0 (17 + 4 * k))))), (a0 6, .inl (g 0, 6, .inl (fun k => zI (w0 (18 + 4 * k))))), (a0 7, .inl (g 0, 6, .inl (fun k => zI (w0 (19 + 4 * k))))), (a0 8, .inl (g 0, 6, .inl (fun k => zI (w0 (20 + 4 * k))))), (a0 9, .inl (g 0, 8, .inl (fun k => zI (w0 (41 + k))))), (a1 0, .inr (1, [.int (zI (w1 1)), .int (zI (w1 0)), .int (zI (w1 2)), .int (zI (w1 3)), .int (zI (w1 4)), .ref (a1 1), .ref (a1 2), .ref (a1 3), .ref (a1 4), .ref (a1 5), .ref (a1 6), .ref (a1 7), .ref (a1 8), .ref (a1 9)])), (a1 1, .inl (g 0, 4, .inl (fun k => zI (w1 (5 + k))))), (a1 2, .inl (g 0, 4, .inl (fun k => zI (w1 (9 + k))))), (a1 3, .inl (g 0, 2, .inl (fun k => zI (w1 (13 + k))))), (a1 4, .inl (g 0, 2, .inl (fun k => zI (w1 (15 + k))))), (a1 5, .inl (g 0, 6, .inl (fun k => zI (w1 (17 + 4 * k))))), (a1 6, .inl (g 0, 6, .inl (fun k => zI (w1 (18 + 4 * k))))), (a1 7, .inl (g 0, 6, .inl (fun k => zI (w1 (19 + 4 * k))))), (a1 8, .inl (g 0, 6, .inl (fun k => zI (w1 (20 + 4 * k))))), (a1 9, .inl (g 0, 8, .inl (fun k => zI (w1 (41 + k))))), (a2 0, .inr (1, [.int (zI (w2 1)), .int (zI (w2 0)), .int (zI (w2 2)), .int (zI (w2 3)), .int (zI (w2 4)), .ref (a2 1), .ref (a2 2), .ref (a2 3), .ref (a2 4), .ref (a2 5), .ref (a2 6), .ref (a2 7), .ref (a2 8), .ref (a2 9)])), (a2 1, .inl (g 0, 4, .inl (fun k => zI (w2 (5 + k))))), (a2 2, .inl (g 0, 4, .inl (fun k => zI (w2 (9 + k))))), (a2 3, .inl (g 0, 2, .inl (fun k => zI (w2 (13 + k))))), (a2 4, .inl (g 0, 2, .inl (fun k => zI (w2 (15 + k))))), (a2 5, .inl (g 0, 6, .inl (fun k => zI (w2 (17 + 4 * k))))), (a2 6, .inl (g 0, 6, .inl (fun k => zI (w2 (18 + 4 * k))))), (a2 7, .inl (g 0, 6, .inl (fun k => zI (w2 (19 + 4 * k))))), (a2 8, .inl (g 0, 6, .inl (fun k => zI (w2 (20 + 4 * k))))), (a2 9, .inl (g 0, 8, .inl (fun k => zI (w2 (41 + k))))), (a3 0, .inr (1, [.int (zI (w3 1)), .int (zI (w3 0)), .int (zI (w3 2)), .int (zI (w3 3)), .int (zI (w3 4)), .ref (a3 1), .ref (a3 2), .ref (a3 3), .ref (a3 4), .ref (a3 5), .ref (a3 6), .ref (a3 7), .ref (a3 8), .ref (a3 9)])), (a3 1, .inl (g 0, 4, .inl (fun k => zI (w3 (5 + k))))), (a3 2, .inl (g 0, 4, .inl (fun k => zI (w3 (9 + k))))), (a3 3, .inl (g 0, 2, .inl (fun k => zI (w3 (13 + k))))), (a3 4, .inl (g 0, 2, .inl (fun k => zI (w3 (15 + k))))), (a3 5, .inl (g 0, 6, .inl (fun k => zI (w3 (17 + 4 * k))))), (a3 6, .inl (g 0, 6, .inl (fun k => zI (w3 (18 + 4 * k))))), (a3 7, .inl (g 0, 6, .inl (fun k => zI (w3 (19 + 4 * k))))), (a3 8, .inl (g 0, 6, .inl (fun k => zI (w3 (20 + 4 * k))))), (a3 9, .inl (g 0, 8, .inl (fun k => zI (w3 (41 + k))))), (ob 1, .inl (g 3, 2, .inr (.inr (.inr (.inr (im2 (a2 0) (a3 0))))))), (ob 2, .inl (g 2, 2, .inl (fun k => zI (kp k)))), (ob 3, .inr (3, [.ref (a0 0)])), (q 0, .inr (2, [.ref (q 1), .int (zI (tz 0)), .int (zI (tz 1)), .int (zI (tz 2)), .int (zI (tz 3)), .int (zI (tz 4))])), (q 1, .inl (g 1, 150, .inl (fun k => zI (tx k)))), (ob 4, .inr (0, [.long (zL fa), .long (zL fb)])), (ob 5, .inl (g 0, 3, .inl (fun k => zI (rf k))))]
theorem vaP_nil {D : va_G} {cl : List vw_C} {H : Heap} : va_P D cl [] H := fun k q h => by simp at h
theorem vaP_cons {D : va_G} {cl : List vw_C} {H : Heap} {q : Nat × va_E} {ws : va_W} (h : va_at D cl q H) (t : va_P D cl ws H) : va_P D cl (q :: ws) H := fun k x hk => by
  cases k with
  | zero => cases hk; exact h
  | succ k => exact t k x hk
theorem va_at_arr {D : va_G} {cl : List vw_C} {H : Heap} {a n : Nat} {cA : ClassId} {f g : Nat → Int32} (h : va_at D cl (a, .inl (cA, n, .inl f)) H) (e : ∀ k, k < n → f k = g k) : va_at D cl (a, .inl (cA, n, .inl g)) H := by
  have h1 : H[a]? = some (vp_cell cA (n, .inl f)) := h
  show H[a]? = some (vp_cell cA (n, .inl g))
  rw [h1, vp_cell_i, vp_cell_i]
  congr 1
  unfold arrV
  congr 1
  apply Array.ext
  · simp
  · intro i h2 h3
    simp only [Array.getElem_ofFn]
    rw [e i (by simpa using h2)]
theorem hw_D {A : Nat → Prop} {ws ws' : va_W} (h : va_D A ws) (e : ws.map Prod.fst = ws'.map Prod.fst) : va_D A ws' := by
  have key : ∀ (k : Nat) (q : Nat × va_E), ws'[k]? = some q → ∃ q0, ws[k]? = some q0 ∧ q0.1 = q.1 := by
    intro k q hq
    have h1 : (ws'.map Prod.fst)[k]? = some q.1 := by rw [List.getElem?_map, hq]; rfl
    rw [← e, List.getElem?_map] at h1
    cases hz : ws[k]? with
    | none => rw [hz] at h1; cases h1
    | some q0 => rw [hz] at h1; exact ⟨q0, rfl, Option.some.inj h1⟩
  refine ⟨fun i j x y hi hj hxy => ?_, fun k q hk => ?_⟩
  · obtain ⟨x0, h1, h2⟩ := key i x hi
    obtain ⟨y0, h3, h4⟩ := key j y hj
    exact h.1 i j x0 y0 h1 h3 (h2.trans (hxy.trans h4.symm))
  · obtain ⟨q0, h1, h2⟩ := key k q hk
    rw [← h2]
    exact h.2 k q0 h1
section HWP
variable {D : va_G} {H : Heap} {g : Nat → ClassId} {a : Nat → Nat} {w : Int → Int} {i v : Int}

theorem hw_put1 (hP : va_P D vwCl ((wHs g a w).set 1 (a 1, .inl (g 0, 4, .inl (fun k : Nat => zI (if (k : Int) = i then v else w (5 + k)))))) H) (hi : 0 ≤ i ∧ i < (4 : Nat)) : va_P D vwCl (wHs g a (wset w (5 + i) v)) H := by
  have e : ∀ j : Int, j ≠ 5 + i → wset w (5 + i) v j = w j := fun j h => if_neg h
  refine vaP_cons ?_ (vaP_cons ?_ (vaP_cons ?_ (vaP_cons ?_ (vaP_cons ?_ (vaP_cons ?_ (vaP_cons ?_ (vaP_cons ?_ (vaP_cons ?_ (vaP_cons ?_ (vaP_nil))))))))))
  · rw [e 1 (by omega), e 0 (by omega), e 2 (by omega), e 3 (by omega), e 4 (by omega)]; exact hP 0 _ rfl
  · refine va_at_arr (hP 1 _ rfl) (fun k hk => congrArg zI ?_)
    show (if (k : Int) = i then v else w (5 + k)) = (if (5 + k : Int) = 5 + i then v else w (5 + k))
    by_cases h : (k : Int) = i
    · rw [if_pos h, if_pos (by omega)]
    · rw [if_neg h, if_neg (by omega)]
  · exact va_at_arr (hP 2 _ rfl) (fun k hk => congrArg zI (e _ (by omega)).symm)
  · exact va_at_arr (hP 3 _ rfl) (fun k hk => congrArg zI (e _ (by omega)).symm)
  · exact va_at_arr (hP 4 _ rfl) (fun k hk => congrArg zI (e _ (by omega)).symm)
  · exact va_at_arr (hP 5 _ rfl) (fun k hk => congrArg zI (e _ (by omega)).symm)
  · exact va_at_arr (hP 6 _ rfl) (fun k hk => congrArg zI (e _ (by omega)).symm)
  · exact va_at_arr (hP 7 _ rfl) (fun k hk => congrArg zI (e _ (by omega)).symm)
  · exact va_at_arr (hP 8 _ rfl) (fun k hk => congrArg zI (e _ (by omega)).symm)
  · exact va_at_arr (hP 9 _ rfl) (fun k hk => congrArg zI (e _ (by omega)).symm)
theorem hw_put2 (hP : va_P D vwCl ((wHs g a w).set 2 (a 2, .inl (g 0, 4, .inl (fun k : Nat => zI (if (k : Int) = i then v else w (9 + k)))))) H) (hi : 0 ≤ i ∧ i < (4 : Nat)) : va_P D vwCl (wHs g a (wset w (9 + i) v)) H := by
  have e : ∀ j : Int, j ≠ 9 + i → wset w (9 + i) v j = w j := fun j h => if_neg h
  refine vaP_cons ?_ (vaP_cons ?_ (vaP_cons ?_ (vaP_cons ?_ (vaP_cons ?_ (vaP_cons ?_ (vaP_cons ?_ (vaP_cons ?_ (vaP_cons ?_ (vaP_cons ?_ (vaP_nil))))))))))
  · rw [e 1 (by omega), e 0 (by omega), e 2 (by omega), e 3 (by omega), e 4 (by omega)]; exact hP 0 _ rfl
  · exact va_at_arr (hP 1 _ rfl) (fun k hk => congrArg zI (e _ (by omega)).symm)
  · refine va_at_arr (hP 2 _ rfl) (fun k hk => congrArg zI ?_)
    show (if (k : Int) = i then v else w (9 + k)) = (if (9 + k : Int) = 9 + i then v else w (9 + k))
    by_cases h : (k : Int) = i
    · rw [if_pos h, if_pos (by omega)]
    · rw [if_neg h, if_neg (by omega)]
  · exact va_at_arr (hP 3 _ rfl) (fun k hk => congrArg zI (e _ (by omega)).symm)
  · exact va_at_arr (hP 4 _ rfl) (fun k hk => congrArg zI (e _ (by omega)).symm)
  · exact va_at_arr (hP 5 _ rfl) (fun k hk => congrArg zI (e _ (by omega)).symm)
  · exact va_at_arr (hP 6 _ rfl) (fun k hk => congrArg zI (e _ (by omega)).symm)
  · exact va_at_arr (hP 7 _ rfl) (fun k hk => congrArg zI (e _ (by omega)).symm)
  · exact va_at_arr (hP 8 _ rfl) (fun k hk => congrArg zI (e _ (by omega)).symm)
  · exact va_at_arr (hP 9 _ rfl) (fun k hk => congrArg zI (e _ (by omega)).symm)
theorem hw_put3 (hP : va_P D vwCl ((wHs g a w).set 3 (a 3, .inl (g 0, 2, .inl (fun k : Nat => zI (if (k : Int) = i then v else w (13 + k)))))) H) (hi : 0 ≤ i ∧ i < (2 : Nat)) : va_P D vwCl (wHs g a (wset w (13 + i) v)) H := by
  have e : ∀ j : Int, j ≠ 13 + i → wset w (13 + i) v j = w j := fun j h => if_neg h
  refine vaP_cons ?_ (vaP_cons ?_ (vaP_cons ?_ (vaP_cons ?_ (vaP_cons ?_ (vaP_cons ?_ (vaP_cons ?_ (vaP_cons ?_ (vaP_cons ?_ (vaP_cons ?_ (vaP_nil))))))))))
  · rw [e 1 (by omega), e 0 (by omega), e 2 (by omega), e 3 (by omega), e 4 (by omega)]; exact hP 0 _ rfl
  · exact va_at_arr (hP 1 _ rfl) (fun k hk => congrArg zI (e _ (by omega)).symm)
  · exact va_at_arr (hP 2 _ rfl) (fun k hk => congrArg zI (e _ (by omega)).symm)
  · refine va_at_arr (hP 3 _ rfl) (fun k hk => congrArg zI ?_)
    show (if (k : Int) = i then v else w (13 + k)) = (if (13 + k : Int) = 13 + i then v else w (13 + k))
    by_cases h : (k : Int) = i
    · rw [if_pos h, if_pos (by omega)]
    · rw [if_neg h, if_neg (by omega)]
  · exact va_at_arr (hP 4 _ rfl) (fun k hk => congrArg zI (e _ (by omega)).symm)
  · exact va_at_arr (hP 5 _ rfl) (fun k hk => congrArg zI (e _ (by omega)).symm)
  · exact va_at_arr (hP 6 _ rfl) (fun k hk => congrArg zI (e _ (by omega)).symm)
  · exact va_at_arr (hP 7 _ rfl) (fun k hk => congrArg zI (e _ (by omega)).symm)
  · exact va_at_arr (hP 8 _ rfl) (fun k hk => congrArg zI (e _ (by omega)).symm)
  · exact va_at_arr (hP 9 _ rfl) (fun k hk => congrArg zI (e _ (by omega)).symm)
theorem hw_put4 (hP : va_P D vwCl ((wHs g a w).set 4 (a 4, .inl (g 0, 2, .inl (fun k : Nat => zI (if (k : Int) = i then v else w (15 + k)))))) H) (hi : 0 ≤ i ∧ i < (2 : Nat)) : va_P D vwCl (wHs g a (wset w (15 + i) v)) H := by
  have e : ∀ j : Int, j ≠ 15 + i → wset w (15 + i) v j = w j := fun j h => if_neg h
  refine vaP_cons ?_ (vaP_cons ?_ (vaP_cons ?_ (vaP_cons ?_ (vaP_cons ?_ (vaP_cons ?_ (vaP_cons ?_ (vaP_cons ?_ (vaP_cons ?_ (vaP_cons ?_ (vaP_nil))))))))))
  · rw [e 1 (by omega), e 0 (by omega), e 2 (by omega), e 3 (by omega), e 4 (by omega)]; exact hP 0 _ rfl
  · exact va_at_arr (hP 1 _ rfl) (fun k hk => congrArg zI (e _ (by omega)).symm)
  · exact va_at_arr (hP 2 _ rfl) (fun k hk => congrArg zI (e _ (by omega)).symm)
  · exact va_at_arr (hP 3 _ rfl) (fun k hk => congrArg zI (e _ (by omega)).symm)
  · refine va_at_arr (hP 4 _ rfl) (fun k hk => congrArg zI ?_)
    show (if (k : Int) = i then v else w (15 + k)) = (if (15 + k : Int) = 15 + i then v else w (15 + k))
    by_cases h : (k : Int) = i
    · rw [if_pos h, if_pos (by omega)]
    · rw [if_neg h, if_neg (by omega)]
  · exact va_at_arr (hP 5 _ rfl) (fun k hk => congrArg zI (e _ (by omega)).symm)
  · exact va_at_arr (hP 6 _ rfl) (fun k hk => congrArg zI (e _ (by omega)).symm)
  · exact va_at_arr (hP 7 _ rfl) (fun k hk => congrArg zI (e _ (by omega)).symm)
  · exact va_at_arr (hP 8 _ rfl) (fun k hk => congrArg zI (e _ (by omega)).symm)
  · exact va_at_arr (hP 9 _ rfl) (fun k hk => congrArg zI (e _ (by omega)).symm)
theorem hw_put5 (hP : va_P D vwCl ((wHs g a w).set 5 (a 5, .inl (g 0, 6, .inl (fun k : Nat => zI (if (k : Int) = i then v else w (17 + 4 * k)))))) H) (hi : 0 ≤ i ∧ i < (6 : Nat)) : va_P D vwCl (wHs g a (wset w (17 + 4 * i) v)) H := by
  have e : ∀ j : Int, j ≠ 17 + 4 * i → wset w (17 + 4 * i) v j = w j := fun j h => if_neg h
  refine vaP_cons ?_ (vaP_cons ?_ (vaP_cons ?_ (vaP_cons ?_ (vaP_cons ?_ (vaP_cons ?_ (vaP_cons ?_ (vaP_cons ?_ (vaP_cons ?_ (vaP_cons ?_ (vaP_nil))))))))))
  · rw [e 1 (by omega), e 0 (by omega), e 2 (by omega), e 3 (by omega), e 4 (by omega)]; exact hP 0 _ rfl
  · exact va_at_arr (hP 1 _ rfl) (fun k hk => congrArg zI (e _ (by omega)).symm)
  · exact va_at_arr (hP 2 _ rfl) (fun k hk => congrArg zI (e _ (by omega)).symm)
  · exact va_at_arr (hP 3 _ rfl) (fun k hk => congrArg zI (e _ (by omega)).symm)
  · exact va_at_arr (hP 4 _ rfl) (fun k hk => congrArg zI (e _ (by omega)).symm)
  · refine va_at_arr (hP 5 _ rfl) (fun k hk => congrArg zI ?_)
    show (if (k : Int) = i then v else w (17 + 4 * k)) = (if (17 + 4 * k : Int) = 17 + 4 * i then v else w (17 + 4 * k))
    by_cases h : (k : Int) = i
    · rw [if_pos h, if_pos (by omega)]
    · rw [if_neg h, if_neg (by omega)]
  · exact va_at_arr (hP 6 _ rfl) (fun k hk => congrArg zI (e _ (by omega)).symm)
  · exact va_at_arr (hP 7 _ rfl) (fun k hk => congrArg zI (e _ (by omega)).symm)
  · exact va_at_arr (hP 8 _ rfl) (fun k hk => congrArg zI (e _ (by omega)).symm)
  · exact va_at_arr (hP 9 _ rfl) (fun k hk => congrArg zI (e _ (by omega)).symm)
theorem hw_put6 (hP : va_P D vwCl ((wHs g a w).set 6 (a 6, .inl (g 0, 6, .inl (fun k : Nat => zI (if (k : Int) = i then v else w (18 + 4 * k)))))) H) (hi : 0 ≤ i ∧ i < (6 : Nat)) : va_P D vwCl (wHs g a (wset w (18 + 4 * i) v)) H := by
  have e : ∀ j : Int, j ≠ 18 + 4 * i → wset w (18 + 4 * i) v j = w j := fun j h => if_neg h
  refine vaP_cons ?_ (vaP_cons ?_ (vaP_cons ?_ (vaP_cons ?_ (vaP_cons ?_ (vaP_cons ?_ (vaP_cons ?_ (vaP_cons ?_ (vaP_cons ?_ (vaP_cons ?_ (vaP_nil))))))))))
  · rw [e 1 (by omega), e 0 (by omega), e 2 (by omega), e 3 (by omega), e 4 (by omega)]; exact hP 0 _ rfl
  · exact va_at_arr (hP 1 _ rfl) (fun k hk => congrArg zI (e _ (by omega)).symm)
  · exact va_at_arr (hP 2 _ rfl) (fun k hk => congrArg zI (e _ (by omega)).symm)
  · exact va_at_arr (hP 3 _ rfl) (fun k hk => congrArg zI (e _ (by omega)).symm)
  · exact va_at_arr (hP 4 _ rfl) (fun k hk => congrArg zI (e _ (by omega)).symm)
  · exact va_at_arr (hP 5 _ rfl) (fun k hk => congrArg zI (e _ (by omega)).symm)
  · refine va_at_arr (hP 6 _ rfl) (fun k hk => congrArg zI ?_)
    show (if (k : Int) = i then v else w (18 + 4 * k)) = (if (18 + 4 * k : Int) = 18 + 4 * i then v else w (18 + 4 * k))
    by_cases h : (k : Int) = i
    · rw [if_pos h, if_pos (by omega)]
    · rw [if_neg h, if_neg (by omega)]
  · exact va_at_arr (hP 7 _ rfl) (fun k hk => congrArg zI (e _ (by omega)).symm)
  · exact va_at_arr (hP 8 _ rfl) (fun k hk => congrArg zI (e _ (by omega)).symm)
  · exact va_at_arr (hP 9 _ rfl) (fun k hk => congrArg zI (e _ (by omega)).symm)
theorem hw_put7 (hP : va_P D vwCl ((wHs g a w).set 7 (a 7, .inl (g 0, 6, .inl (fun k : Nat => zI (if (k : Int) = i then v else w (19 + 4 * k)))))) H) (hi : 0 ≤ i ∧ i < (6 : Nat)) : va_P D vwCl (wHs g a (wset w (19 + 4 * i) v)) H := by
  have e : ∀ j : Int, j ≠ 19 + 4 * i → wset w (19 + 4 * i) v j = w j := fun j h => if_neg h
  refine vaP_cons ?_ (vaP_cons ?_ (vaP_cons ?_ (vaP_cons ?_ (vaP_cons ?_ (vaP_cons ?_ (vaP_cons ?_ (vaP_cons ?_ (vaP_cons ?_ (vaP_cons ?_ (vaP_nil))))))))))
  · rw [e 1 (by omega), e 0 (by omega), e 2 (by omega), e 3 (by omega), e 4 (by omega)]; exact hP 0 _ rfl
  · exact va_at_arr (hP 1 _ rfl) (fun k hk => congrArg zI (e _ (by omega)).symm)
  · exact va_at_arr (hP 2 _ rfl) (fun k hk => congrArg zI (e _ (by omega)).symm)
  · exact va_at_arr (hP 3 _ rfl) (fun k hk => congrArg zI (e _ (by omega)).symm)
  · exact va_at_arr (hP 4 _ rfl) (fun k hk => congrArg zI (e _ (by omega)).symm)
  · exact va_at_arr (hP 5 _ rfl) (fun k hk => congrArg zI (e _ (by omega)).symm)
  · exact va_at_arr (hP 6 _ rfl) (fun k hk => congrArg zI (e _ (by omega)).symm)
  · refine va_at_arr (hP 7 _ rfl) (fun k hk => congrArg zI ?_)
    show (if (k : Int) = i then v else w (19 + 4 * k)) = (if (19 + 4 * k : Int) = 19 + 4 * i then v else w (19 + 4 * k))
    by_cases h : (k : Int) = i
    · rw [if_pos h, if_pos (by omega)]
    · rw [if_neg h, if_neg (by omega)]
  · exact va_at_arr (hP 8 _ rfl) (fun k hk => congrArg zI (e _ (by omega)).symm)
  · exact va_at_arr (hP 9 _ rfl) (fun k hk => congrArg zI (e _ (by omega)).symm)
theorem hw_put8 (hP : va_P D vwCl ((wHs g a w).set 8 (a 8, .inl (g 0, 6, .inl (fun k : Nat => zI (if (k : Int) = i then v else w (20 + 4 * k)))))) H) (hi : 0 ≤ i ∧ i < (6 : Nat)) : va_P D vwCl (wHs g a (wset w (20 + 4 * i) v)) H := by
  have e : ∀ j : Int, j ≠ 20 + 4 * i → wset w (20 + 4 * i) v j = w j := fun j h => if_neg h
  refine vaP_cons ?_ (vaP_cons ?_ (vaP_cons ?_ (vaP_cons ?_ (vaP_cons ?_ (vaP_cons ?_ (vaP_cons ?_ (vaP_cons ?_ (vaP_cons ?_ (vaP_cons ?_ (vaP_nil))))))))))
  · rw [e 1 (by omega), e 0 (by omega), e 2 (by omega), e 3 (by omega), e 4 (by omega)]; exact hP 0 _ rfl
  · exact va_at_arr (hP 1 _ rfl) (fun k hk => congrArg zI (e _ (by omega)).symm)
  · exact va_at_arr (hP 2 _ rfl) (fun k hk => congrArg zI (e _ (by omega)).symm)
  · exact va_at_arr (hP 3 _ rfl) (fun k hk => congrArg zI (e _ (by omega)).symm)
  · exact va_at_arr (hP 4 _ rfl) (fun k hk => congrArg zI (e _ (by omega)).symm)
  · exact va_at_arr (hP 5 _ rfl) (fun k hk => congrArg zI (e _ (by omega)).symm)
  · exact va_at_arr (hP 6 _ rfl) (fun k hk => congrArg zI (e _ (by omega)).symm)
  · exact va_at_arr (hP 7 _ rfl) (fun k hk => congrArg zI (e _ (by omega)).symm)
  · refine va_at_arr (hP 8 _ rfl) (fun k hk => congrArg zI ?_)
    show (if (k : Int) = i then v else w (20 + 4 * k)) = (if (20 + 4 * k : Int) = 20 + 4 * i then v else w (20 + 4 * k))
    by_cases h : (k : Int) = i
    · rw [if_pos h, if_pos (by omega)]
    · rw [if_neg h, if_neg (by omega)]
  · exact va_at_arr (hP 9 _ rfl) (fun k hk => congrArg zI (e _ (by omega)).symm)
theorem hw_put9 (hP : va_P D vwCl ((wHs g a w).set 9 (a 9, .inl (g 0, 8, .inl (fun k : Nat => zI (if (k : Int) = i then v else w (41 + k)))))) H) (hi : 0 ≤ i ∧ i < (8 : Nat)) : va_P D vwCl (wHs g a (wset w (41 + i) v)) H := by
  have e : ∀ j : Int, j ≠ 41 + i → wset w (41 + i) v j = w j := fun j h => if_neg h
  refine vaP_cons ?_ (vaP_cons ?_ (vaP_cons ?_ (vaP_cons ?_ (vaP_cons ?_ (vaP_cons ?_ (vaP_cons ?_ (vaP_cons ?_ (vaP_cons ?_ (vaP_cons ?_ (vaP_nil))))))))))
  · rw [e 1 (by omega), e 0 (by omega), e 2 (by omega), e 3 (by omega), e 4 (by omega)]; exact hP 0 _ rfl
  · exact va_at_arr (hP 1 _ rfl) (fun k hk => congrArg zI (e _ (by omega)).symm)
  · exact va_at_arr (hP 2 _ rfl) (fun k hk => congrArg zI (e _ (by omega)).symm)
  · exact va_at_arr (hP 3 _ rfl) (fun k hk => congrArg zI (e _ (by omega)).symm)
  · exact va_at_arr (hP 4 _ rfl) (fun k hk => congrArg zI (e _ (by omega)).symm)
  · exact va_at_arr (hP 5 _ rfl) (fun k hk => congrArg zI (e _ (by omega)).symm)
  · exact va_at_arr (hP 6 _ rfl) (fun k hk => congrArg zI (e _ (by omega)).symm)
  · exact va_at_arr (hP 7 _ rfl) (fun k hk => congrArg zI (e _ (by omega)).symm)
  · exact va_at_arr (hP 8 _ rfl) (fun k hk => congrArg zI (e _ (by omega)).symm)
  · refine va_at_arr (hP 9 _ rfl) (fun k hk => congrArg zI ?_)
    show (if (k : Int) = i then v else w (41 + k)) = (if (41 + k : Int) = 41 + i then v else w (41 + k))
    by_cases h : (k : Int) = i
    · rw [if_pos h, if_pos (by omega)]
    · rw [if_neg h, if_neg (by omega)]
end HWP
section QM
variable {p : Program} {l : Launch} {e : Env} {R : Room} {s : State} {m : MethodId} {args : Array Value} {below : List Frame} {meth : Method} {c : Code} {H : Heap} {locs : List Loc} {cells slots : Nat} {Q : State → Prop} {cc : ByteArray} {pc : Nat} {ls : Array Slot} {rest st0 : List Value}
def absz (a : Int) : Int := if a < 0 then -a else a
theorem zI_max {a b : Int} (ha : rI a) (hb : rI b) : (if zI a < zI b then zI b else zI a) = zI (max a b) := by
  by_cases h : a < b
  · rw [if_pos ((zI_lt ha hb).mpr h)]; congr 1; omega
  · rw [if_neg (fun q => h ((zI_lt ha hb).mp q))]; congr 1; omega
theorem q_mmax (hx : p.tables.exec = Jvm.exec) (hb : c.code = cc) (hml : c.maxLocals = ls.size) {own : String} {index : Nat} (hown : s.vm.findClass own = some m.cls) (hlink : (Cond.methodLink own index Lib.Math.max.name).before args s = true) (hstat : (Cond.static Lib.Math.max.name).before args s = true) (hini : (Cond.initialized "java/lang/Math").before args s = true) (hcode : (Cond.code Lib.Math.max.name Lib.Math.max.code 2 (some .int)).before args s = true)
    (hframes : 1 ≤ R.frames) (hlocals : (rest.map fun v => v.category).sum + 13 ≤ R.locals) (hc : cells ≤ R.cells) (hs : slots ≤ R.slots) {x y : Int} (h : rI x ∧ rI y) (hd : decode cc pc = .ok (.invokestatic index, 3))
    (kk : W p l e R s m args below meth c H locs cells slots Q (F0 m (pc + 3) ls (.int (zI (max x y)) :: rest))) : W p l e R s m args below meth c H locs cells slots Q (F0 m pc ls (.int (zI y) :: .int (zI x) :: rest)) := va_mmax hx hb hml hown hlink hstat hini hcode hframes hlocals hc hs hd (by rw [zI_max h.1 h.2]; exact kk)
theorem zI_min {a b : Int} (ha : rI a) (hb : rI b) : (if zI b < zI a then zI b else zI a) = zI (min a b) := by
  by_cases h : b < a
  · rw [if_pos ((zI_lt hb ha).mpr h)]; congr 1; omega
  · rw [if_neg (fun q => h ((zI_lt hb ha).mp q))]; congr 1; omega
theorem q_mmin (hx : p.tables.exec = Jvm.exec) (hb : c.code = cc) (hml : c.maxLocals = ls.size) {own : String} {index : Nat} (hown : s.vm.findClass own = some m.cls) (hlink : (Cond.methodLink own index Lib.Math.min.name).before args s = true) (hstat : (Cond.static Lib.Math.min.name).before args s = true) (hini : (Cond.initialized "java/lang/Math").before args s = true) (hcode : (Cond.code Lib.Math.min.name Lib.Math.min.code 2 (some .int)).before args s = true)
    (hframes : 1 ≤ R.frames) (hlocals : (rest.map fun v => v.category).sum + 13 ≤ R.locals) (hc : cells ≤ R.cells) (hs : slots ≤ R.slots) {x y : Int} (h : rI x ∧ rI y) (hd : decode cc pc = .ok (.invokestatic index, 3))
    (kk : W p l e R s m args below meth c H locs cells slots Q (F0 m (pc + 3) ls (.int (zI (min x y)) :: rest))) : W p l e R s m args below meth c H locs cells slots Q (F0 m pc ls (.int (zI y) :: .int (zI x) :: rest)) := va_mmin hx hb hml hown hlink hstat hini hcode hframes hlocals hc hs hd (by rw [zI_min h.1 h.2]; exact kk)
theorem zI_abs {a : Int} (ha : rI a) : (if 0 ≤ zI a then zI a else 0 - zI a) = zI (absz a) := by
  unfold absz
  by_cases h : a < 0
  · rw [if_neg (fun q => by have := (zI_le (a := 0) (by decide) ha).mp q; omega), if_pos h, ← zI_0, zI_sub]; congr 1; omega
  · rw [if_pos (show (0 : Int32) ≤ zI a from (zI_le (a := 0) (by decide) ha).mpr (by omega)), if_neg h]
theorem q_mabs (hx : p.tables.exec = Jvm.exec) (hb : c.code = cc) (hml : c.maxLocals = ls.size) {own : String} {index : Nat} (hown : s.vm.findClass own = some m.cls) (hlink : (Cond.methodLink own index Lib.Math.abs.name).before args s = true) (hstat : (Cond.static Lib.Math.abs.name).before args s = true) (hini : (Cond.initialized "java/lang/Math").before args s = true) (hcode : (Cond.code Lib.Math.abs.name Lib.Math.abs.code 1 (some .int)).before args s = true)
    (hframes : 1 ≤ R.frames) (hlocals : (rest.map fun v => v.category).sum + 13 ≤ R.locals) (hc : cells ≤ R.cells) (hs : slots ≤ R.slots) {x : Int} (h : rI x) (hd : decode cc pc = .ok (.invokestatic index, 3))
    (kk : W p l e R s m args below meth c H locs cells slots Q (F0 m (pc + 3) ls (.int (zI (absz x)) :: rest))) : W p l e R s m args below meth c H locs cells slots Q (F0 m pc ls (.int (zI x) :: rest)) := va_mabs hx hb hml hown hlink hstat hini hcode hframes hlocals hc hs hd (by rw [zI_abs h]; exact kk)
theorem q_tabIn (hx : p.tables.exec = Jvm.exec) (hb : c.code = cc) {dflt lo hi : Int} {offs : Array Int} {len : Nat} {x j off : Int} {tgt : Nat} (hd : decode cc pc = .ok (.tableswitch dflt lo hi offs, len)) (hj : x = j) (hr : rI j) (h1 : ¬ j < lo) (h2 : ¬ hi < j) (ho : offs[(j - lo).toNat]? = some off) (ht : (pc : Int) + off = (tgt : Int))
    (k : W p l e R s m args below meth c H locs cells slots Q (F0 m tgt ls rest)) : W p l e R s m args below meth c H locs cells slots Q (F0 m pc ls (.int (zI x) :: rest)) := by
  subst hj
  exact lv_tableIn hx hb hd (by rw [zI_toInt hr]; exact h1) (by rw [zI_toInt hr]; exact h2) (by rw [zI_toInt hr]; exact ho) ht k
theorem q_tabOut (hx : p.tables.exec = Jvm.exec) (hb : c.code = cc) {dflt lo hi : Int} {offs : Array Int} {len : Nat} {x : Int} {tgt : Nat} (hd : decode cc pc = .ok (.tableswitch dflt lo hi offs, len)) (hr : rI x) (h : x < lo ∨ hi < x) (ht : (pc : Int) + dflt = (tgt : Int))
    (k : W p l e R s m args below meth c H locs cells slots Q (F0 m tgt ls rest)) : W p l e R s m args below meth c H locs cells slots Q (F0 m pc ls (.int (zI x) :: rest)) := lv_tableOut hx hb hd (by rw [zI_toInt hr]; exact h) ht k
theorem q_look (hx : p.tables.exec = Jvm.exec) (hb : c.code = cc) {dflt : Int} {ps : Array (Int × Int)} {len : Nat} {x j off : Int} {tgt : Nat} (hd : decode cc pc = .ok (.lookupswitch dflt ps, len)) (hj : x = j) (hr : rI j) (hp : (ps.toList.zip (ps.toList.drop 1)).all (fun (a, next) => a.1 < next.1) = true) (ho : Op.lookupswitch.offset ps.toList dflt j = off) (ht : (pc : Int) + off = (tgt : Int))
    (k : W p l e R s m args below meth c H locs cells slots Q (F0 m tgt ls rest)) : W p l e R s m args below meth c H locs cells slots Q (F0 m pc ls (.int (zI x) :: rest)) := by
  subst hj
  exact lv_lookup hx hb hd hp (by rw [zI_toInt hr]; exact ho) ht k
theorem zI_byte {a : Int} (h : -128 ≤ a ∧ a < 128) : (zI a).toInt8.toInt32 = zI a := by
  have h1 : (zI a).toInt8.toInt32.toInt = (zI a).toInt := by
    rw [Int8.toInt_toInt32, Int32.toInt_toInt8, zI_toInt ⟨by omega, by omega⟩]
    rw [Int.bmod_eq_of_le (by omega) (by omega)]
  exact Int32.toInt_inj.mp h1
theorem q_i2b (hx : p.tables.exec = Jvm.exec) (hb : c.code = cc) {x : Int} (hd : decode cc pc = .ok (.i2b, 1)) (h : -128 ≤ x ∧ x < 128) (k : W p l e R s m args below meth c H locs cells slots Q (F0 m (pc + 1) ls (.int (zI x) :: rest))) : W p l e R s m args below meth c H locs cells slots Q (F0 m pc ls (.int (zI x) :: rest)) := lv_i2b hx hb hd (zI_byte h) k
theorem q_ishl (hx : p.tables.exec = Jvm.exec) (hb : c.code = cc) {x y z : Int} (hd : decode cc pc = .ok (.ishl, 1)) (h : zI x <<< (zI y &&& 31) = zI z) (k : W p l e R s m args below meth c H locs cells slots Q (F0 m (pc + 1) ls (.int (zI z) :: rest))) : W p l e R s m args below meth c H locs cells slots Q (F0 m pc ls (.int (zI y) :: .int (zI x) :: rest)) := lv_ishl hx hb hd (by rw [h]; exact k)
theorem q_ishr (hx : p.tables.exec = Jvm.exec) (hb : c.code = cc) {x y z : Int} (hd : decode cc pc = .ok (.ishr, 1)) (h : zI x >>> (zI y &&& 31) = zI z) (k : W p l e R s m args below meth c H locs cells slots Q (F0 m (pc + 1) ls (.int (zI z) :: rest))) : W p l e R s m args below meth c H locs cells slots Q (F0 m pc ls (.int (zI y) :: .int (zI x) :: rest)) := lv_ishr hx hb hd (by rw [h]; exact k)
theorem q_iand (hx : p.tables.exec = Jvm.exec) (hb : c.code = cc) {x y z : Int} (hd : decode cc pc = .ok (.iand, 1)) (h : zI x &&& zI y = zI z) (k : W p l e R s m args below meth c H locs cells slots Q (F0 m (pc + 1) ls (.int (zI z) :: rest))) : W p l e R s m args below meth c H locs cells slots Q (F0 m pc ls (.int (zI y) :: .int (zI x) :: rest)) := lv_iand hx hb hd (by rw [h]; exact k)
theorem q_ior (hx : p.tables.exec = Jvm.exec) (hb : c.code = cc) {x y z : Int} (hd : decode cc pc = .ok (.ior, 1)) (h : zI x ||| zI y = zI z) (k : W p l e R s m args below meth c H locs cells slots Q (F0 m (pc + 1) ls (.int (zI z) :: rest))) : W p l e R s m args below meth c H locs cells slots Q (F0 m pc ls (.int (zI y) :: .int (zI x) :: rest)) := lv_ior hx hb hd (by rw [h]; exact k)
theorem bz_fit {P : Prop} [Decidable P] : fits .boolean (.int (zI (bz P))) = true := by unfold bz; split <;> rfl
variable {D : va_G} {tys : List (ClassId × FieldType)} {ws wc wr w1 : va_W} {tt : Nat → Nat} {A A0 : Nat → Prop} {a b : Nat} {H0 : Heap}
theorem q_imld (hx : p.tables.exec = Jvm.exec) (hb : c.code = cc) (hK : va_K D vwCl tys s) (hP : va_P D vwCl ws H) (q0 t0 : Nat) {cA : ClassId} {C : String} {n x y : Nat} {i j : Int} (ha : ws[q0]? = some (a, .inl (cA, 2, .inr (.inr (.inr (.inr (im2 x y))))))) (ht : tys[t0]? = some (cA, .object C)) (hi : i = j) (hj : j = 0 ∨ j = 1) (hd : decode cc pc = .ok (.aaload, 1)) (hn : (if j = 0 then x else y) = n)
    (kk : W p l e R s m args below meth c H locs cells slots Q (F0 m (pc + 1) ls (.ref n :: rest))) : W p l e R s m args below meth c H locs cells slots Q (F0 m pc ls (.int (zI i) :: .ref a :: rest)) := by
  subst hi
  refine va_aldq hx hb hK hP q0 t0 ha ht (zI_in (by rcases hj with h | h <;> omega) (by decide)) hd ?_
  rw [zI_clamp (by rcases hj with h | h <;> omega)]
  subst hn
  rcases hj with h | h <;> subst h <;> exact kk
theorem q_bast (hx : p.tables.exec = Jvm.exec) (hb : c.code = cc) (hK : va_K D vwCl tys s) (hP : va_P D vwCl ws H) (hD : va_D A ws) (hS : va_S A H0 H locs) (q0 t0 : Nat) {cA : ClassId} {n : Nat} {F : Int → Int} (ha : ws[q0]? = some (a, .inl (cA, n, .inl (fun k => zI (F k))))) (ht : tys[t0]? = some (cA, .byte)) {i v : Int} (hn : n < 2147483648) (hi : 0 ≤ i ∧ i < n) (hv : -128 ≤ v ∧ v < 128) (hd : decode cc pc = .ok (.bastore, 1))
    (kk : ∀ (H1 : Heap) (locs1 : List Loc), va_P D vwCl (ws.set q0 (a, .inl (cA, n, .inl (fun k => zI (if (k : Int) = i then v else F k))))) H1 → va_D A (ws.set q0 (a, .inl (cA, n, .inl (fun k => zI (if (k : Int) = i then v else F k))))) → va_S A H0 H1 locs1 → W p l e R s m args below meth c H1 locs1 cells slots Q (F0 m (pc + 1) ls rest)) : W p l e R s m args below meth c H locs cells slots Q (F0 m pc ls (.int (zI v) :: .int (zI i) :: .ref a :: rest)) := by
  refine va_bast hx hb hK hP hD hS q0 t0 ha ht (zI_in hi hn) hd ?_
  rw [vp_nar_byte, zI_byte hv, upd_z ⟨hi.1, by omega⟩]
  exact kk
theorem q_zast (hx : p.tables.exec = Jvm.exec) (hb : c.code = cc) (hK : va_K D vwCl tys s) (hP : va_P D vwCl ws H) (hD : va_D A ws) (hS : va_S A H0 H locs) (q0 t0 : Nat) {cA : ClassId} {n : Nat} {F : Int → Int} (ha : ws[q0]? = some (a, .inl (cA, n, .inl (fun k => zI (F k))))) (ht : tys[t0]? = some (cA, .boolean)) {i v : Int} (hn : n < 2147483648) (hi : 0 ≤ i ∧ i < n) (hv : vp_nar .boolean (zI v) = zI v) (hd : decode cc pc = .ok (.bastore, 1))
    (kk : ∀ (H1 : Heap) (locs1 : List Loc), va_P D vwCl (ws.set q0 (a, .inl (cA, n, .inl (fun k => zI (if (k : Int) = i then v else F k))))) H1 → va_D A (ws.set q0 (a, .inl (cA, n, .inl (fun k => zI (if (k : Int) = i then v else F k))))) → va_S A H0 H1 locs1 → W p l e R s m args below meth c H1 locs1 cells slots Q (F0 m (pc + 1) ls rest)) : W p l e R s m args below meth c H locs cells slots Q (F0 m pc ls (.int (zI v) :: .int (zI i) :: .ref a :: rest)) := by
  refine va_zast hx hb hK hP hD hS q0 t0 ha ht (zI_in hi hn) hd ?_
  rw [hv, upd_z ⟨hi.1, by omega⟩]
  exact kk
variable {y : MethodName} {bytes : ByteArray} {maxL nL n index : Nat} {ret : Option FieldType} {wy : List Cond} {rm : Room} {Ts : List Cond} {own C host : String} {As : List Value}
theorem q_cNi {z : Int} (S : CallFix p m c cc nL s args Ts own) (hM : Met l y wy rm (va_Pc As (eS D tys wc tt)) (vp_Si (fun r => r = zI z)) 0 0 (fun _ => False)) (cw : va_CN R s args own index y host bytes maxL ret wy rm 0 0 n) (hst : (Cond.static y).before args s = true) (hP : va_P D vwCl wc H) (hK : va_K D vwCl tys s) (hT : st_ok tt A s s.heap) (hS : va_S A s.heap H locs)
    (hn : As.length = n) (hsize : ls.size = nL) (hstack : st0 = As.reverse ++ rest) (hW : (rest.map fun v => v.category).sum ≤ 8) (hd : decode cc pc = .ok (.invokestatic index, 3)) (hf : cells ≤ R.cells ∧ slots ≤ R.slots)
    (kk : W p l e R s m args below meth c H locs cells slots Q (F0 m (pc + 3) ls (.int (zI z) :: rest))) : W p l e R s m args below meth c H locs cells slots Q (F0 m pc ls st0) := by
  have hrun : va_Run p l e R s m args below meth c H locs cells slots 0 0 (F0 m pc ls st0) rest (vp_Si (fun r => r = zI z) As.toArray) (fun _ => False) := va_runSN (g := F0 m pc ls st0) (rest := rest) S hM ⟨cw, hst, trivial⟩ (eS_pre hP hK hT hS) rfl hn hsize hstack (lv_room hW) hd hf
  refine vp_callSi (fun T hT X => by obtain ⟨v, st₀, t, T', L, h0, X', hL, e1, e2, hq, st⟩ := hrun T hT X; exact ⟨v, st₀, t, T', L, h0, X', hL, e1, hq, st⟩) (fun r hr => ?_)
  rw [hr]
  exact kk
end QM
section QE
variable {p : Program} {l : Launch} {e : Env} {R : Room} {s : State} {m : MethodId} {args : Array Value} {below : List Frame} {meth : Method} {c : Code} {H : Heap} {locs : List Loc} {cells slots : Nat} {Q : State → Prop} {cc : ByteArray} {pc : Nat} {ls : Array Slot} {rest st0 : List Value}
variable {D : va_G} {tys : List (ClassId × FieldType)} {ws w1 : va_W} {tt : Nat → Nat} {A : Nat → Prop} {b : Nat}
variable {y : MethodName} {bytes : ByteArray} {maxL nL n index : Nat} {ret : Option FieldType} {wy : List Cond} {rm : Room} {Ts : List Cond} {own C : String} {As : List Value}
theorem q_cEi {z : Int} (S : CallFix p m c cc nL s args Ts own) (hP : va_P D vwCl ws H) (hD : va_D A ws) (hK : va_K D vwCl tys s) (hT : st_ok tt A s s.heap) (hS : va_S A s.heap H locs) (hA : ∀ q, s.heap.size ≤ q → A q)
    (hM : Met l y wy rm (va_Pc (.ref b :: As) (eQ D tys ws tt H.size)) (va_Qi (fun r (_ : Unit) => r = zI z) (fQ D tys (va_A ws H.size) w1) (va_A ws H.size)) 0 0 (va_A ws H.size)) (cw : CallW R s args own C index y bytes maxL ret wy rm 0 0 n)
    (q0 ci : Nat) {q : vw_C} {fs : List Value} (hc : vwCl[ci]? = some q) (hCC : q.1 = C) (he : ws[q0]? = some (b, .inr (ci, fs)))
    (hn : As.length = n) (hsize : ls.size = nL) (hstack : st0 = As.reverse ++ .ref b :: rest) (hW : (rest.map fun v => v.category).sum ≤ 8) (hd : decode cc pc = .ok (.invokevirtual index, 3)) (hf : cells ≤ R.cells ∧ slots ≤ R.slots)
    (kk : ∀ (H1 : Heap) (locs1 : List Loc), va_P D vwCl w1 H1 → va_D A w1 → va_S A s.heap H1 locs1 → W p l e R s m args below meth c H1 locs1 cells slots Q (F0 m (pc + 3) ls (.int (zI z) :: rest))) : W p l e R s m args below meth c H locs cells slots Q (F0 m pc ls st0) := by
  subst hCC
  have hF : ∀ q, va_A ws H.size q → A q := fun x h => by
    rcases h with ⟨k, e, h⟩ | h
    · exact hD.2 k (x, e) h
    · exact hA x (Nat.le_trans hS.1 h)
  have hp := eQ_pre (av := .ref b :: As) hP hK hD hT hS hF
  refine va_calli (va_runV (g := F0 m pc ls st0) (rest := rest) S hM cw ⟨hp.1, va_recv hK hP hc he, hp.2⟩ rfl hn hsize hstack (lv_room hW) hd hf) hS (fun q _ h => hF q h) hF (fun r u t H1 locs1 ht hvm hw hB hz1 hk1 hS1 => ?_)
  obtain ⟨hP1, hK1, hD1⟩ := hB
  rw [ht] at hP1
  rw [hw]
  exact kk H1 locs1 hP1 (hD1.weaken (fun _ x _ h => hF x.1 h)) hS1
theorem q_cEl {z : Int} (S : CallFix p m c cc nL s args Ts own) (hP : va_P D vwCl ws H) (hD : va_D A ws) (hK : va_K D vwCl tys s) (hT : st_ok tt A s s.heap) (hS : va_S A s.heap H locs) (hA : ∀ q, s.heap.size ≤ q → A q)
    (hM : Met l y wy rm (va_Pc (.ref b :: As) (eQ D tys ws tt H.size)) (va_Ql (fun r (_ : Unit) => r = zL z) (fQ D tys (va_A ws H.size) w1) (va_A ws H.size)) 0 0 (va_A ws H.size)) (cw : CallW R s args own C index y bytes maxL ret wy rm 0 0 n)
    (q0 ci : Nat) {q : vw_C} {fs : List Value} (hc : vwCl[ci]? = some q) (hCC : q.1 = C) (he : ws[q0]? = some (b, .inr (ci, fs)))
    (hn : As.length = n) (hsize : ls.size = nL) (hstack : st0 = As.reverse ++ .ref b :: rest) (hW : (rest.map fun v => v.category).sum ≤ 8) (hd : decode cc pc = .ok (.invokevirtual index, 3)) (hf : cells ≤ R.cells ∧ slots ≤ R.slots)
    (kk : ∀ (H1 : Heap) (locs1 : List Loc), va_P D vwCl w1 H1 → va_D A w1 → va_S A s.heap H1 locs1 → W p l e R s m args below meth c H1 locs1 cells slots Q (F0 m (pc + 3) ls (.long (zL z) :: rest))) : W p l e R s m args below meth c H locs cells slots Q (F0 m pc ls st0) := by
  subst hCC
  have hF : ∀ q, va_A ws H.size q → A q := fun x h => by
    rcases h with ⟨k, e, h⟩ | h
    · exact hD.2 k (x, e) h
    · exact hA x (Nat.le_trans hS.1 h)
  have hp := eQ_pre (av := .ref b :: As) hP hK hD hT hS hF
  refine va_calll (va_runV (g := F0 m pc ls st0) (rest := rest) S hM cw ⟨hp.1, va_recv hK hP hc he, hp.2⟩ rfl hn hsize hstack (lv_room hW) hd hf) hS (fun q _ h => hF q h) hF (fun r u t H1 locs1 ht hvm hw hB hz1 hk1 hS1 => ?_)
  obtain ⟨hP1, hK1, hD1⟩ := hB
  rw [ht] at hP1
  rw [hw]
  exact kk H1 locs1 hP1 (hD1.weaken (fun _ x _ h => hF x.1 h)) hS1
theorem q_cEv (S : CallFix p m c cc nL s args Ts own) (hP : va_P D vwCl ws H) (hD : va_D A ws) (hK : va_K D vwCl tys s) (hT : st_ok tt A s s.heap) (hS : va_S A s.heap H locs) (hA : ∀ q, s.heap.size ≤ q → A q)
    (hM : Met l y wy rm (va_Pc (.ref b :: As) (eQ D tys ws tt H.size)) (va_Qv (fun (_ : Unit) => True) (fQ D tys (va_A ws H.size) w1) (va_A ws H.size)) 0 0 (va_A ws H.size)) (cw : CallW R s args own C index y bytes maxL ret wy rm 0 0 n)
    (q0 ci : Nat) {q : vw_C} {fs : List Value} (hc : vwCl[ci]? = some q) (hCC : q.1 = C) (he : ws[q0]? = some (b, .inr (ci, fs)))
    (hn : As.length = n) (hsize : ls.size = nL) (hstack : st0 = As.reverse ++ .ref b :: rest) (hW : (rest.map fun v => v.category).sum ≤ 8) (hd : decode cc pc = .ok (.invokevirtual index, 3)) (hf : cells ≤ R.cells ∧ slots ≤ R.slots)
    (kk : ∀ (H1 : Heap) (locs1 : List Loc), va_P D vwCl w1 H1 → va_D A w1 → va_S A s.heap H1 locs1 → W p l e R s m args below meth c H1 locs1 cells slots Q (F0 m (pc + 3) ls (rest))) : W p l e R s m args below meth c H locs cells slots Q (F0 m pc ls st0) := by
  subst hCC
  have hF : ∀ q, va_A ws H.size q → A q := fun x h => by
    rcases h with ⟨k, e, h⟩ | h
    · exact hD.2 k (x, e) h
    · exact hA x (Nat.le_trans hS.1 h)
  have hp := eQ_pre (av := .ref b :: As) hP hK hD hT hS hF
  refine va_callv (va_runV (g := F0 m pc ls st0) (rest := rest) S hM cw ⟨hp.1, va_recv hK hP hc he, hp.2⟩ rfl hn hsize hstack (lv_room hW) hd hf) hS (fun q _ h => hF q h) hF (fun u t H1 locs1 ht hvm hw hB hz1 hk1 hS1 => ?_)
  obtain ⟨hP1, hK1, hD1⟩ := hB
  rw [ht] at hP1
  exact kk H1 locs1 hP1 (hD1.weaken (fun _ x _ h => hF x.1 h)) hS1
end QE
