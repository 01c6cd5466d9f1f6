/-! a house: what its methods do to it -/
def h_build (w : Int → Int) (f : Int) : Int → Int := wset (wset (wset (wset (wset (wset (wset (wset (wset w 1 f) 0 0) 2 0) 3 0) 4 0) (13 + 0) 10) (15 + 0) 0) (13 + 1) 10) (15 + 1) 0
def h_addLift (w : Int → Int) (k b : Int) : Int → Int := if w 0 < 4 then wset (wset (wset (wset w (5 + w 0) k) (9 + w 0) b) 0 (w 0 + 1)) 4 0 else w
def h_addNoted (w : Int → Int) (L f m t : Int) : Int → Int := if w 3 < 6 then wset (wset (wset (wset (wset w (17 + 4 * w 3) L) (18 + 4 * w 3) f) (19 + 4 * w 3) m) (20 + 4 * w 3) t) 3 (w 3 + 1) else w
def h_shift (w : Int → Int) : Int → Int := fun j => if 41 ≤ j ∧ j < 48 then w (j + 1) else w j
def h_goOn (w : Int → Int) (x : Int) : Int → Int := if w 4 < 8 then wset (wset (wset w (41 + w 4) (w 2)) 4 (w 4 + 1)) 2 x else wset (wset (wset (wset (h_shift w) 4 7) (41 + 7) (h_shift w 2)) 4 (7 + 1)) 2 x
def h_goBack (w : Int → Int) : Int → Int := if w 4 ≤ 0 then w else wset (wset w 4 (w 4 - 1)) 2 ((wset w 4 (w 4 - 1)) (41 + (w 4 - 1)))
def cpr (r : Nat) (w w2 : Int → Int) : Int → Int := fun j => if r = 1 then (if 5 ≤ j ∧ j < 9 then w2 j else w j) else if r = 2 then (if 9 ≤ j ∧ j < 13 then w2 j else w j) else if r = 3 then (if 13 ≤ j ∧ j < 15 then w2 j else w j) else if r = 4 then (if 15 ≤ j ∧ j < 17 then w2 j else w j) else if r = 5 then (if 17 ≤ j ∧ j < 41 ∧ j % 4 = 1 then w2 j else w j) else if r = 6 then (if 17 ≤ j ∧ j < 41 ∧ j % 4 = 2 then w2 j else w j) else if r = 7 then (if 17 ≤ j ∧ j < 41 ∧ j % 4 = 3 then w2 j else w j) else if r = 8 then (if 17 ≤ j ∧ j < 41 ∧ j % 4 = 0 then w2 j else w j) else (if 41 ≤ j ∧ j < 49 then w2 j else w j)
def h_copy (w v : Int → Int) : Int → Int := cpr 9 (cpr 8 (cpr 7 (cpr 6 (cpr 5 (cpr 4 (cpr 3 (cpr 2 (cpr 1 (wset (wset (wset (wset (wset w 1 (v 1)) 0 (v 0)) 2 (v 2)) 3 (v 3)) 4 (v 4)) v) v) v) v) v) v) v) v) v
abbrev wH2 (g : Nat → ClassId) (a : Nat → Nat) (w : Int → Int) (a2 : Nat → Nat) (w2 : Int → Int) : va_W := wHs g a w ++ wHs g a2 w2
section HW2
variable {D : va_G} {H : Heap} {g : Nat → ClassId} {a a2 : Nat → Nat} {w w2 : Int → Int}
theorem hw_sc1 {R : va_W} {v : Int} (hP : va_P D vwCl ((wHs g a w ++ R).set 0 (a 0, .inr (1, [.int (zI v), .int (zI (w 0)), .int (zI (w 2)), .int (zI (w 3)), .int (zI (w 4)), .ref (a 1), .ref (a 2), .ref (a 3), .ref (a 4), .ref (a 5), .ref (a 6), .ref (a 7), .ref (a 8), .ref (a 9)]))) H) : va_P D vwCl (wHs g a (wset w 1 v) ++ R) H := by
  have e : ∀ j : Int, j ≠ 1 → wset w 1 v j = w j := fun j h => if_neg h
  refine vaP_cons ?_ (vaP_cons ?_ (vaP_cons ?_ (vaP_cons ?_ (vaP_cons ?_ (vaP_cons ?_ (vaP_cons ?_ (vaP_cons ?_ (vaP_cons ?_ (vaP_cons ?_ (fun k q hk => hP (k + 10) q ?_))))))))))
  · exact hP 0 _ rfl
  · exact va_at_arr (hP 1 _ rfl) (fun k hk => congrArg zI (e _ (by omega)).symm)
  · exact va_at_arr (hP 2 _ rfl) (fun k hk => congrArg zI (e _ (by omega)).symm)
  · exact va_at_arr (hP 3 _ rfl) (fun k hk => congrArg zI (e _ (by omega)).symm)
  · exact va_at_arr (hP 4 _ rfl) (fun k hk => congrArg zI (e _ (by omega)).symm)
  · exact va_at_arr (hP 5 _ rfl) (fun k hk => congrArg zI (e _ (by omega)).symm)
  · exact va_at_arr (hP 6 _ rfl) (fun k hk => congrArg zI (e _ (by omega)).symm)
  · exact va_at_arr (hP 7 _ rfl) (fun k hk => congrArg zI (e _ (by omega)).symm)
  · exact va_at_arr (hP 8 _ rfl) (fun k hk => congrArg zI (e _ (by omega)).symm)
  · exact va_at_arr (hP 9 _ rfl) (fun k hk => congrArg zI (e _ (by omega)).symm)
  · rw [← hk]; rfl
theorem hw_sc0 {R : va_W} {v : Int} (hP : va_P D vwCl ((wHs g a w ++ R).set 0 (a 0, .inr (1, [.int (zI (w 1)), .int (zI v), .int (zI (w 2)), .int (zI (w 3)), .int (zI (w 4)), .ref (a 1), .ref (a 2), .ref (a 3), .ref (a 4), .ref (a 5), .ref (a 6), .ref (a 7), .ref (a 8), .ref (a 9)]))) H) : va_P D vwCl (wHs g a (wset w 0 v) ++ R) H := by
  have e : ∀ j : Int, j ≠ 0 → wset w 0 v j = w j := fun j h => if_neg h
  refine vaP_cons ?_ (vaP_cons ?_ (vaP_cons ?_ (vaP_cons ?_ (vaP_cons ?_ (vaP_cons ?_ (vaP_cons ?_ (vaP_cons ?_ (vaP_cons ?_ (vaP_cons ?_ (fun k q hk => hP (k + 10) q ?_))))))))))
  · exact hP 0 _ rfl
  · exact va_at_arr (hP 1 _ rfl) (fun k hk => congrArg zI (e _ (by omega)).symm)
  · exact va_at_arr (hP 2 _ rfl) (fun k hk => congrArg zI (e _ (by omega)).symm)
  · exact va_at_arr (hP 3 _ rfl) (fun k hk => congrArg zI (e _ (by omega)).symm)
  · exact va_at_arr (hP 4 _ rfl) (fun k hk => congrArg zI (e _ (by omega)).symm)
  · exact va_at_arr (hP 5 _ rfl) (fun k hk => congrArg zI (e _ (by omega)).symm)
  · exact va_at_arr (hP 6 _ rfl) (fun k hk => congrArg zI (e _ (by omega)).symm)
  · exact va_at_arr (hP 7 _ rfl) (fun k hk => congrArg zI (e _ (by omega)).symm)
  · exact va_at_arr (hP 8 _ rfl) (fun k hk => congrArg zI (e _ (by omega)).symm)
  · exact va_at_arr (hP 9 _ rfl) (fun k hk => congrArg zI (e _ (by omega)).symm)
  · rw [← hk]; rfl
theorem hw_sc2 {R : va_W} {v : Int} (hP : va_P D vwCl ((wHs g a w ++ R).set 0 (a 0, .inr (1, [.int (zI (w 1)), .int (zI (w 0)), .int (zI v), .int (zI (w 3)), .int (zI (w 4)), .ref (a 1), .ref (a 2), .ref (a 3), .ref (a 4), .ref (a 5), .ref (a 6), .ref (a 7), .ref (a 8), .ref (a 9)]))) H) : va_P D vwCl (wHs g a (wset w 2 v) ++ R) H := by
  have e : ∀ j : Int, j ≠ 2 → wset w 2 v j = w j := fun j h => if_neg h
  refine vaP_cons ?_ (vaP_cons ?_ (vaP_cons ?_ (vaP_cons ?_ (vaP_cons ?_ (vaP_cons ?_ (vaP_cons ?_ (vaP_cons ?_ (vaP_cons ?_ (vaP_cons ?_ (fun k q hk => hP (k + 10) q ?_))))))))))
  · exact hP 0 _ rfl
  · exact va_at_arr (hP 1 _ rfl) (fun k hk => congrArg zI (e _ (by omega)).symm)
  · exact va_at_arr (hP 2 _ rfl) (fun k hk => congrArg zI (e _ (by omega)).symm)
  · exact va_at_arr (hP 3 _ rfl) (fun k hk => congrArg zI (e _ (by omega)).symm)
  · exact va_at_arr (hP 4 _ rfl) (fun k hk => congrArg zI (e _ (by omega)).symm)
  · exact va_at_arr (hP 5 _ rfl) (fun k hk => congrArg zI (e _ (by omega)).symm)
  · exact va_at_arr (hP 6 _ rfl) (fun k hk => congrArg zI (e _ (by omega)).symm)
  · exact va_at_arr (hP 7 _ rfl) (fun k hk => congrArg zI (e _ (by omega)).symm)
  · exact va_at_arr (hP 8 _ rfl) (fun k hk => congrArg zI (e _ (by omega)).symm)
  · exact va_at_arr (hP 9 _ rfl) (fun k hk => congrArg zI (e _ (by omega)).symm)
  · rw [← hk]; rfl
theorem hw_sc3 {R : va_W} {v : Int} (hP : va_P D vwCl ((wHs g a w ++ R).set 0 (a 0, .inr (1, [.int (zI (w 1)), .int (zI (w 0)), .int (zI (w 2)), .int (zI v), .int (zI (w 4)), .ref (a 1), .ref (a 2), .ref (a 3), .ref (a 4), .ref (a 5), .ref (a 6), .ref (a 7), .ref (a 8), .ref (a 9)]))) H) : va_P D vwCl (wHs g a (wset w 3 v) ++ R) H := by
  have e : ∀ j : Int, j ≠ 3 → wset w 3 v j = w j := fun j h => if_neg h
  refine vaP_cons ?_ (vaP_cons ?_ (vaP_cons ?_ (vaP_cons ?_ (vaP_cons ?_ (vaP_cons ?_ (vaP_cons ?_ (vaP_cons ?_ (vaP_cons ?_ (vaP_cons ?_ (fun k q hk => hP (k + 10) q ?_))))))))))
  · exact hP 0 _ rfl
  · exact va_at_arr (hP 1 _ rfl) (fun k hk => congrArg zI (e _ (by omega)).symm)
  · exact va_at_arr (hP 2 _ rfl) (fun k hk => congrArg zI (e _ (by omega)).symm)
  · exact va_at_arr (hP 3 _ rfl) (fun k hk => congrArg zI (e _ (by omega)).symm)
  · exact va_at_arr (hP 4 _ rfl) (fun k hk => congrArg zI (e _ (by omega)).symm)
  · exact va_at_arr (hP 5 _ rfl) (fun k hk => congrArg zI (e _ (by omega)).symm)
  · exact va_at_arr (hP 6 _ rfl) (fun k hk => congrArg zI (e _ (by omega)).symm)
  · exact va_at_arr (hP 7 _ rfl) (fun k hk => congrArg zI (e _ (by omega)).symm)
  · exact va_at_arr (hP 8 _ rfl) (fun k hk => congrArg zI (e _ (by omega)).symm)
  · exact va_at_arr (hP 9 _ rfl) (fun k hk => congrArg zI (e _ (by omega)).symm)
  · rw [← hk]; rfl
theorem hw_sc4 {R : va_W} {v : Int} (hP : va_P D vwCl ((wHs g a w ++ R).set 0 (a 0, .inr (1, [.int (zI (w 1)), .int (zI (w 0)), .int (zI (w 2)), .int (zI (w 3)), .int (zI v), .ref (a 1), .ref (a 2), .ref (a 3), .ref (a 4), .ref (a 5), .ref (a 6), .ref (a 7), .ref (a 8), .ref (a 9)]))) H) : va_P D vwCl (wHs g a (wset w 4 v) ++ R) H := by
  have e : ∀ j : Int, j ≠ 4 → wset w 4 v j = w j := fun j h => if_neg h
  refine vaP_cons ?_ (vaP_cons ?_ (vaP_cons ?_ (vaP_cons ?_ (vaP_cons ?_ (vaP_cons ?_ (vaP_cons ?_ (vaP_cons ?_ (vaP_cons ?_ (vaP_cons ?_ (fun k q hk => hP (k + 10) q ?_))))))))))
  · exact hP 0 _ rfl
  · exact va_at_arr (hP 1 _ rfl) (fun k hk => congrArg zI (e _ (by omega)).symm)
  · exact va_at_arr (hP 2 _ rfl) (fun k hk => congrArg zI (e _ (by omega)).symm)
  · exact va_at_arr (hP 3 _ rfl) (fun k hk => congrArg zI (e _ (by omega)).symm)
  · exact va_at_arr (hP 4 _ rfl) (fun k hk => congrArg zI (e _ (by omega)).symm)
  · exact va_at_arr (hP 5 _ rfl) (fun k hk => congrArg zI (e _ (by omega)).symm)
  · exact va_at_arr (hP 6 _ rfl) (fun k hk => congrArg zI (e _ (by omega)).symm)
  · exact va_at_arr (hP 7 _ rfl) (fun k hk => congrArg zI (e _ (by omega)).symm)
  · exact va_at_arr (hP 8 _ rfl) (fun k hk => congrArg zI (e _ (by omega)).symm)
  · exact va_at_arr (hP 9 _ rfl) (fun k hk => congrArg zI (e _ (by omega)).symm)
  · rw [← hk]; rfl
theorem hw_D0 {A : Nat → Prop} {R : va_W} {w' : Int → Int} {x : va_E} (hD : va_D A ((wHs g a w ++ R).set 0 (a 0, x))) : va_D A (wHs g a w' ++ R) := hw_D hD rfl
theorem hw_D1 {A : Nat → Prop} {R : va_W} {w' : Int → Int} {x : va_E} (hD : va_D A ((wHs g a w ++ R).set 1 (a 1, x))) : va_D A (wHs g a w' ++ R) := hw_D hD rfl
theorem hw_D2 {A : Nat → Prop} {R : va_W} {w' : Int → Int} {x : va_E} (hD : va_D A ((wHs g a w ++ R).set 2 (a 2, x))) : va_D A (wHs g a w' ++ R) := hw_D hD rfl
theorem hw_D3 {A : Nat → Prop} {R : va_W} {w' : Int → Int} {x : va_E} (hD : va_D A ((wHs g a w ++ R).set 3 (a 3, x))) : va_D A (wHs g a w' ++ R) := hw_D hD rfl
theorem hw_D4 {A : Nat → Prop} {R : va_W} {w' : Int → Int} {x : va_E} (hD : va_D A ((wHs g a w ++ R).set 4 (a 4, x))) : va_D A (wHs g a w' ++ R) := hw_D hD rfl
theorem hw_D5 {A : Nat → Prop} {R : va_W} {w' : Int → Int} {x : va_E} (hD : va_D A ((wHs g a w ++ R).set 5 (a 5, x))) : va_D A (wHs g a w' ++ R) := hw_D hD rfl
theorem hw_D6 {A : Nat → Prop} {R : va_W} {w' : Int → Int} {x : va_E} (hD : va_D A ((wHs g a w ++ R).set 6 (a 6, x))) : va_D A (wHs g a w' ++ R) := hw_D hD rfl
theorem hw_D7 {A : Nat → Prop} {R : va_W} {w' : Int → Int} {x : va_E} (hD : va_D A ((wHs g a w ++ R).set 7 (a 7, x))) : va_D A (wHs g a w' ++ R) := hw_D hD rfl
theorem hw_D8 {A : Nat → Prop} {R : va_W} {w' : Int → Int} {x : va_E} (hD : va_D A ((wHs g a w ++ R).set 8 (a 8, x))) : va_D A (wHs g a w' ++ R) := hw_D hD rfl
theorem hw_D9 {A : Nat → Prop} {R : va_W} {w' : Int → Int} {x : va_E} (hD : va_D A ((wHs g a w ++ R).set 9 (a 9, x))) : va_D A (wHs g a w' ++ R) := hw_D hD rfl
theorem hw_cp1 (hP : va_P D vwCl ((wH2 g a w a2 w2).set 1 (a 1, .inl (g 0, 4, .inl (va_cpy (fun k : Nat => zI (w2 (5 + k))) (fun k : Nat => zI (w (5 + k))) (zI 0).toNatClampNeg (zI 0).toNatClampNeg (zI 4).toNatClampNeg)))) H) : va_P D vwCl (wH2 g a (cpr 1 w w2) a2 w2) H := by
  have e1 : ∀ j : Int, (5 ≤ j ∧ j < 9) → cpr 1 w w2 j = w2 j := fun j h => by show (if 5 ≤ j ∧ j < 9 then w2 j else w j) = w2 j; rw [if_pos h]
  have e0 : ∀ j : Int, ¬ (5 ≤ j ∧ j < 9) → cpr 1 w w2 j = w j := fun j h => by show (if 5 ≤ j ∧ j < 9 then w2 j else w j) = w j; rw [if_neg h]
  refine vaP_cons ?_ (vaP_cons ?_ (vaP_cons ?_ (vaP_cons ?_ (vaP_cons ?_ (vaP_cons ?_ (vaP_cons ?_ (vaP_cons ?_ (vaP_cons ?_ (vaP_cons ?_ (fun k q hk => hP (k + 10) q ?_))))))))))
  · rw [e0 1 (by omega), e0 0 (by omega), e0 2 (by omega), e0 3 (by omega), e0 4 (by omega)]; exact hP 0 _ rfl
  · refine va_at_arr (hP 1 _ rfl) (fun k hk => ?_)
    show va_cpy _ _ 0 0 4 k = zI (cpr 1 w w2 (5 + k))
    rw [e1 _ (by omega)]; unfold va_cpy; rw [if_pos (by omega)]; simp
  · exact va_at_arr (hP 2 _ rfl) (fun k hk => congrArg zI (e0 _ (by omega)).symm)
  · exact va_at_arr (hP 3 _ rfl) (fun k hk => congrArg zI (e0 _ (by omega)).symm)
  · exact va_at_arr (hP 4 _ rfl) (fun k hk => congrArg zI (e0 _ (by omega)).symm)
  · exact va_at_arr (hP 5 _ rfl) (fun k hk => congrArg zI (e0 _ (by omega)).symm)
  · exact va_at_arr (hP 6 _ rfl) (fun k hk => congrArg zI (e0 _ (by omega)).symm)
  · exact va_at_arr (hP 7 _ rfl) (fun k hk => congrArg zI (e0 _ (by omega)).symm)
  · exact va_at_arr (hP 8 _ rfl) (fun k hk => congrArg zI (e0 _ (by omega)).symm)
  · exact va_at_arr (hP 9 _ rfl) (fun k hk => congrArg zI (e0 _ (by omega)).symm)
  · rw [← hk]; rfl
theorem hw_cp2 (hP : va_P D vwCl ((wH2 g a w a2 w2).set 2 (a 2, .inl (g 0, 4, .inl (va_cpy (fun k : Nat => zI (w2 (9 + k))) (fun k : Nat => zI (w (9 + k))) (zI 0).toNatClampNeg (zI 0).toNatClampNeg (zI 4).toNatClampNeg)))) H) : va_P D vwCl (wH2 g a (cpr 2 w w2) a2 w2) H := by
  have e1 : ∀ j : Int, (9 ≤ j ∧ j < 13) → cpr 2 w w2 j = w2 j := fun j h => by show (if 9 ≤ j ∧ j < 13 then w2 j else w j) = w2 j; rw [if_pos h]
  have e0 : ∀ j : Int, ¬ (9 ≤ j ∧ j < 13) → cpr 2 w w2 j = w j := fun j h => by show (if 9 ≤ j ∧ j < 13 then w2 j else w j) = w j; rw [if_neg h]
  refine vaP_cons ?_ (vaP_cons ?_ (vaP_cons ?_ (vaP_cons ?_ (vaP_cons ?_ (vaP_cons ?_ (vaP_cons ?_ (vaP_cons ?_ (vaP_cons ?_ (vaP_cons ?_ (fun k q hk => hP (k + 10) q ?_))))))))))
  · rw [e0 1 (by omega), e0 0 (by omega), e0 2 (by omega), e0 3 (by omega), e0 4 (by omega)]; exact hP 0 _ rfl
  · exact va_at_arr (hP 1 _ rfl) (fun k hk => congrArg zI (e0 _ (by omega)).symm)
  · refine va_at_arr (hP 2 _ rfl) (fun k hk => ?_)
    show va_cpy _ _ 0 0 4 k = zI (cpr 2 w w2 (9 + k))
    rw [e1 _ (by omega)]; unfold va_cpy; rw [if_pos (by omega)]; simp
  · exact va_at_arr (hP 3 _ rfl) (fun k hk => congrArg zI (e0 _ (by omega)).symm)
  · exact va_at_arr (hP 4 _ rfl) (fun k hk => congrArg zI (e0 _ (by omega)).symm)
  · exact va_at_arr (hP 5 _ rfl) (fun k hk => congrArg zI (e0 _ (by omega)).symm)
  · exact va_at_arr (hP 6 _ rfl) (fun k hk => congrArg zI (e0 _ (by omega)).symm)
  · exact va_at_arr (hP 7 _ rfl) (fun k hk => congrArg zI (e0 _ (by omega)).symm)
  · exact va_at_arr (hP 8 _ rfl) (fun k hk => congrArg zI (e0 _ (by omega)).symm)
  · exact va_at_arr (hP 9 _ rfl) (fun k hk => congrArg zI (e0 _ (by omega)).symm)
  · rw [← hk]; rfl
theorem hw_cp3 (hP : va_P D vwCl ((wH2 g a w a2 w2).set 3 (a 3, .inl (g 0, 2, .inl (va_cpy (fun k : Nat => zI (w2 (13 + k))) (fun k : Nat => zI (w (13 + k))) (zI 0).toNatClampNeg (zI 0).toNatClampNeg (zI 2).toNatClampNeg)))) H) : va_P D vwCl (wH2 g a (cpr 3 w w2) a2 w2) H := by
  have e1 : ∀ j : Int, (13 ≤ j ∧ j < 15) → cpr 3 w w2 j = w2 j := fun j h => by show (if 13 ≤ j ∧ j < 15 then w2 j else w j) = w2 j; rw [if_pos h]
  have e0 : ∀ j : Int, ¬ (13 ≤ j ∧ j < 15) → cpr 3 w w2 j = w j := fun j h => by show (if 13 ≤ j ∧ j < 15 then w2 j else w j) = w j; rw [if_neg h]
  refine vaP_cons ?_ (vaP_cons ?_ (vaP_cons ?_ (vaP_cons ?_ (vaP_cons ?_ (vaP_cons ?_ (vaP_cons ?_ (vaP_cons ?_ (vaP_cons ?_ (vaP_cons ?_ (fun k q hk => hP (k + 10) q ?_))))))))))
  · rw [e0 1 (by omega), e0 0 (by omega), e0 2 (by omega), e0 3 (by omega), e0 4 (by omega)]; exact hP 0 _ rfl
  · exact va_at_arr (hP 1 _ rfl) (fun k hk => congrArg zI (e0 _ (by omega)).symm)
  · exact va_at_arr (hP 2 _ rfl) (fun k hk => congrArg zI (e0 _ (by omega)).symm)
  · refine va_at_arr (hP 3 _ rfl) (fun k hk => ?_)
    show va_cpy _ _ 0 0 2 k = zI (cpr 3 w w2 (13 + k))
    rw [e1 _ (by omega)]; unfold va_cpy; rw [if_pos (by omega)]; simp
  · exact va_at_arr (hP 4 _ rfl) (fun k hk => congrArg zI (e0 _ (by omega)).symm)
  · exact va_at_arr (hP 5 _ rfl) (fun k hk => congrArg zI (e0 _ (by omega)).symm)
  · exact va_at_arr (hP 6 _ rfl) (fun k hk => congrArg zI (e0 _ (by omega)).symm)
  · exact va_at_arr (hP 7 _ rfl) (fun k hk => congrArg zI (e0 _ (by omega)).symm)
  · exact va_at_arr (hP 8 _ rfl) (fun k hk => congrArg zI (e0 _ (by omega)).symm)
  · exact va_at_arr (hP 9 _ rfl) (fun k hk => congrArg zI (e0 _ (by omega)).symm)
  · rw [← hk]; rfl
theorem hw_cp4 (hP : va_P D vwCl ((wH2 g a w a2 w2).set 4 (a 4, .inl (g 0, 2, .inl (va_cpy (fun k : Nat => zI (w2 (15 + k))) (fun k : Nat => zI (w (15 + k))) (zI 0).toNatClampNeg (zI 0).toNatClampNeg (zI 2).toNatClampNeg)))) H) : va_P D vwCl (wH2 g a (cpr 4 w w2) a2 w2) H := by
  have e1 : ∀ j : Int, (15 ≤ j ∧ j < 17) → cpr 4 w w2 j = w2 j := fun j h => by show (if 15 ≤ j ∧ j < 17 then w2 j else w j) = w2 j; rw [if_pos h]
  have e0 : ∀ j : Int, ¬ (15 ≤ j ∧ j < 17) → cpr 4 w w2 j = w j := fun j h => by show (if 15 ≤ j ∧ j < 17 then w2 j else w j) = w j; rw [if_neg h]
  refine vaP_cons ?_ (vaP_cons ?_ (vaP_cons ?_ (vaP_cons ?_ (vaP_cons ?_ (vaP_cons ?_ (vaP_cons ?_ (vaP_cons ?_ (vaP_cons ?_ (vaP_cons ?_ (fun k q hk => hP (k + 10) q ?_))))))))))
  · rw [e0 1 (by omega), e0 0 (by omega), e0 2 (by omega), e0 3 (by omega), e0 4 (by omega)]; exact hP 0 _ rfl
  · exact va_at_arr (hP 1 _ rfl) (fun k hk => congrArg zI (e0 _ (by omega)).symm)
  · exact va_at_arr (hP 2 _ rfl) (fun k hk => congrArg zI (e0 _ (by omega)).symm)
  · exact va_at_arr (hP 3 _ rfl) (fun k hk => congrArg zI (e0 _ (by omega)).symm)
  · refine va_at_arr (hP 4 _ rfl) (fun k hk => ?_)
    show va_cpy _ _ 0 0 2 k = zI (cpr 4 w w2 (15 + k))
    rw [e1 _ (by omega)]; unfold va_cpy; rw [if_pos (by omega)]; simp
  · exact va_at_arr (hP 5 _ rfl) (fun k hk => congrArg zI (e0 _ (by omega)).symm)
  · exact va_at_arr (hP 6 _ rfl) (fun k hk => congrArg zI (e0 _ (by omega)).symm)
  · exact va_at_arr (hP 7 _ rfl) (fun k hk => congrArg zI (e0 _ (by omega)).symm)
  · exact va_at_arr (hP 8 _ rfl) (fun k hk => congrArg zI (e0 _ (by omega)).symm)
  · exact va_at_arr (hP 9 _ rfl) (fun k hk => congrArg zI (e0 _ (by omega)).symm)
  · rw [← hk]; rfl
theorem hw_cp5 (hP : va_P D vwCl ((wH2 g a w a2 w2).set 5 (a 5, .inl (g 0, 6, .inl (va_cpy (fun k : Nat => zI (w2 (17 + 4 * k))) (fun k : Nat => zI (w (17 + 4 * k))) (zI 0).toNatClampNeg (zI 0).toNatClampNeg (zI 6).toNatClampNeg)))) H) : va_P D vwCl (wH2 g a (cpr 5 w w2) a2 w2) H := by
  have e1 : ∀ j : Int, (17 ≤ j ∧ j < 41 ∧ j % 4 = 1) → cpr 5 w w2 j = w2 j := fun j h => by show (if 17 ≤ j ∧ j < 41 ∧ j % 4 = 1 then w2 j else w j) = w2 j; rw [if_pos h]
  have e0 : ∀ j : Int, ¬ (17 ≤ j ∧ j < 41 ∧ j % 4 = 1) → cpr 5 w w2 j = w j := fun j h => by show (if 17 ≤ j ∧ j < 41 ∧ j % 4 = 1 then w2 j else w j) = w j; rw [if_neg h]
  refine vaP_cons ?_ (vaP_cons ?_ (vaP_cons ?_ (vaP_cons ?_ (vaP_cons ?_ (vaP_cons ?_ (vaP_cons ?_ (vaP_cons ?_ (vaP_cons ?_ (vaP_cons ?_ (fun k q hk => hP (k + 10) q ?_))))))))))
  · rw [e0 1 (by omega), e0 0 (by omega), e0 2 (by omega), e0 3 (by omega), e0 4 (by omega)]; exact hP 0 _ rfl
  · exact va_at_arr (hP 1 _ rfl) (fun k hk => congrArg zI (e0 _ (by omega)).symm)
  · exact va_at_arr (hP 2 _ rfl) (fun k hk => congrArg zI (e0 _ (by omega)).symm)
  · exact va_at_arr (hP 3 _ rfl) (fun k hk => congrArg zI (e0 _ (by omega)).symm)
  · exact va_at_arr (hP 4 _ rfl) (fun k hk => congrArg zI (e0 _ (by omega)).symm)
  · refine va_at_arr (hP 5 _ rfl) (fun k hk => ?_)
    show va_cpy _ _ 0 0 6 k = zI (cpr 5 w w2 (17 + 4 * k))
    rw [e1 _ (by omega)]; unfold va_cpy; rw [if_pos (by omega)]; simp
  · exact va_at_arr (hP 6 _ rfl) (fun k hk => congrArg zI (e0 _ (by omega)).symm)
  · exact va_at_arr (hP 7 _ rfl) (fun k hk => congrArg zI (e0 _ (by omega)).symm)
  · exact va_at_arr (hP 8 _ rfl) (fun k hk => congrArg zI (e0 _ (by omega)).symm)
  · exact va_at_arr (hP 9 _ rfl) (fun k hk => congrArg zI (e0 _ (by omega)).symm)
  · rw [← hk]; rfl
theorem hw_cp6 (hP : va_P D vwCl ((wH2 g a w a2 w2).set 6 (a 6, .inl (g 0, 6, .inl (va_cpy (fun k : Nat => zI (w2 (18 + 4 * k))) (fun k : Nat => zI (w (18 + 4 * k))) (zI 0).toNatClampNeg (zI 0).toNatClampNeg (zI 6).toNatClampNeg)))) H) : va_P D vwCl (wH2 g a (cpr 6 w w2) a2 w2) H := by
  have e1 : ∀ j : Int, (17 ≤ j ∧ j < 41 ∧ j % 4 = 2) → cpr 6 w w2 j = w2 j := fun j h => by show (if 17 ≤ j ∧ j < 41 ∧ j % 4 = 2 then w2 j else w j) = w2 j; rw [if_pos h]
  have e0 : ∀ j : Int, ¬ (17 ≤ j ∧ j < 41 ∧ j % 4 = 2) → cpr 6 w w2 j = w j := fun j h => by show (if 17 ≤ j ∧ j < 41 ∧ j % 4 = 2 then w2 j else w j) = w j; rw [if_neg h]
  refine vaP_cons ?_ (vaP_cons ?_ (vaP_cons ?_ (vaP_cons ?_ (vaP_cons ?_ (vaP_cons ?_ (vaP_cons ?_ (vaP_cons ?_ (vaP_cons ?_ (vaP_cons ?_ (fun k q hk => hP (k + 10) q ?_))))))))))
  · rw [e0 1 (by omega), e0 0 (by omega), e0 2 (by omega), e0 3 (by omega), e0 4 (by omega)]; exact hP 0 _ rfl
  · exact va_at_arr (hP 1 _ rfl) (fun k hk => congrArg zI (e0 _ (by omega)).symm)
  · exact va_at_arr (hP 2 _ rfl) (fun k hk => congrArg zI (e0 _ (by omega)).symm)
  · exact va_at_arr (hP 3 _ rfl) (fun k hk => congrArg zI (e0 _ (by omega)).symm)
  · exact va_at_arr (hP 4 _ rfl) (fun k hk => congrArg zI (e0 _ (by omega)).symm)
  · exact va_at_arr (hP 5 _ rfl) (fun k hk => congrArg zI (e0 _ (by omega)).symm)
  · refine va_at_arr (hP 6 _ rfl) (fun k hk => ?_)
    show va_cpy _ _ 0 0 6 k = zI (cpr 6 w w2 (18 + 4 * k))
    rw [e1 _ (by omega)]; unfold va_cpy; rw [if_pos (by omega)]; simp
  · exact va_at_arr (hP 7 _ rfl) (fun k hk => congrArg zI (e0 _ (by omega)).symm)
  · exact va_at_arr (hP 8 _ rfl) (fun k hk => congrArg zI (e0 _ (by omega)).symm)
  · exact va_at_arr (hP 9 _ rfl) (fun k hk => congrArg zI (e0 _ (by omega)).symm)
  · rw [← hk]; rfl
theorem hw_cp7 (hP : va_P D vwCl ((wH2 g a w a2 w2).set 7 (a 7, .inl (g 0, 6, .inl (va_cpy (fun k : Nat => zI (w2 (19 + 4 * k))) (fun k : Nat => zI (w (19 + 4 * k))) (zI 0).toNatClampNeg (zI 0).toNatClampNeg (zI 6).toNatClampNeg)))) H) : va_P D vwCl (wH2 g a (cpr 7 w w2) a2 w2) H := by
  have e1 : ∀ j : Int, (17 ≤ j ∧ j < 41 ∧ j % 4 = 3) → cpr 7 w w2 j = w2 j := fun j h => by show (if 17 ≤ j ∧ j < 41 ∧ j % 4 = 3 then w2 j else w j) = w2 j; rw [if_pos h]
  have e0 : ∀ j : Int, ¬ (17 ≤ j ∧ j < 41 ∧ j % 4 = 3) → cpr 7 w w2 j = w j := fun j h => by show (if 17 ≤ j ∧ j < 41 ∧ j % 4 = 3 then w2 j else w j) = w j; rw [if_neg h]
  refine vaP_cons ?_ (vaP_cons ?_ (vaP_cons ?_ (vaP_cons ?_ (vaP_cons ?_ (vaP_cons ?_ (vaP_cons ?_ (vaP_cons ?_ (vaP_cons ?_ (vaP_cons ?_ (fun k q hk => hP (k + 10) q ?_))))))))))
  · rw [e0 1 (by omega), e0 0 (by omega), e0 2 (by omega), e0 3 (by omega), e0 4 (by omega)]; exact hP 0 _ rfl
  · exact va_at_arr (hP 1 _ rfl) (fun k hk => congrArg zI (e0 _ (by omega)).symm)
  · exact va_at_arr (hP 2 _ rfl) (fun k hk => congrArg zI (e0 _ (by omega)).symm)
  · exact va_at_arr (hP 3 _ rfl) (fun k hk => congrArg zI (e0 _ (by omega)).symm)
  · exact va_at_arr (hP 4 _ rfl) (fun k hk => congrArg zI (e0 _ (by omega)).symm)
  · exact va_at_arr (hP 5 _ rfl) (fun k hk => congrArg zI (e0 _ (by omega)).symm)
  · exact va_at_arr (hP 6 _ rfl) (fun k hk => congrArg zI (e0 _ (by omega)).symm)
  · refine va_at_arr (hP 7 _ rfl) (fun k hk => ?_)
    show va_cpy _ _ 0 0 6 k = zI (cpr 7 w w2 (19 + 4 * k))
    rw [e1 _ (by omega)]; unfold va_cpy; rw [if_pos (by omega)]; simp
  · exact va_at_arr (hP 8 _ rfl) (fun k hk => congrArg zI (e0 _ (by omega)).symm)
  · exact va_at_arr (hP 9 _ rfl) (fun k hk => congrArg zI (e0 _ (by omega)).symm)
  · rw [← hk]; rfl
theorem hw_cp8 (hP : va_P D vwCl ((wH2 g a w a2 w2).set 8 (a 8, .inl (g 0, 6, .inl (va_cpy (fun k : Nat => zI (w2 (20 + 4 * k))) (fun k : Nat => zI (w (20 + 4 * k))) (zI 0).toNatClampNeg (zI 0).toNatClampNeg (zI 6).toNatClampNeg)))) H) : va_P D vwCl (wH2 g a (cpr 8 w w2) a2 w2) H := by
  have e1 : ∀ j : Int, (17 ≤ j ∧ j < 41 ∧ j % 4 = 0) → cpr 8 w w2 j = w2 j := fun j h => by show (if 17 ≤ j ∧ j < 41 ∧ j % 4 = 0 then w2 j else w j) = w2 j; rw [if_pos h]
  have e0 : ∀ j : Int, ¬ (17 ≤ j ∧ j < 41 ∧ j % 4 = 0) → cpr 8 w w2 j = w j := fun j h => by show (if 17 ≤ j ∧ j < 41 ∧ j % 4 = 0 then w2 j else w j) = w j; rw [if_neg h]
  refine vaP_cons ?_ (vaP_cons ?_ (vaP_cons ?_ (vaP_cons ?_ (vaP_cons ?_ (vaP_cons ?_ (vaP_cons ?_ (vaP_cons ?_ (vaP_cons ?_ (vaP_cons ?_ (fun k q hk => hP (k + 10) q ?_))))))))))
  · rw [e0 1 (by omega), e0 0 (by omega), e0 2 (by omega), e0 3 (by omega), e0 4 (by omega)]; exact hP 0 _ rfl
  · exact va_at_arr (hP 1 _ rfl) (fun k hk => congrArg zI (e0 _ (by omega)).symm)
  · exact va_at_arr (hP 2 _ rfl) (fun k hk => congrArg zI (e0 _ (by omega)).symm)
  · exact va_at_arr (hP 3 _ rfl) (fun k hk => congrArg zI (e0 _ (by omega)).symm)
  · exact va_at_arr (hP 4 _ rfl) (fun k hk => congrArg zI (e0 _ (by omega)).symm)
  · exact va_at_arr (hP 5 _ rfl) (fun k hk => congrArg zI (e0 _ (by omega)).symm)
  · exact va_at_arr (hP 6 _ rfl) (fun k hk => congrArg zI (e0 _ (by omega)).symm)
  · exact va_at_arr (hP 7 _ rfl) (fun k hk => congrArg zI (e0 _ (by omega)).symm)
  · refine va_at_arr (hP 8 _ rfl) (fun k hk => ?_)
    show va_cpy _ _ 0 0 6 k = zI (cpr 8 w w2 (20 + 4 * k))
    rw [e1 _ (by omega)]; unfold va_cpy; rw [if_pos (by omega)]; simp
  · exact va_at_arr (hP 9 _ rfl) (fun k hk => congrArg zI (e0 _ (by omega)).symm)
  · rw [← hk]; rfl
theorem hw_cp9 (hP : va_P D vwCl ((wH2 g a w a2 w2).set 9 (a 9, .inl (g 0, 8, .inl (va_cpy (fun k : Nat => zI (w2 (41 + k))) (fun k : Nat => zI (w (41 + k))) (zI 0).toNatClampNeg (zI 0).toNatClampNeg (zI 8).toNatClampNeg)))) H) : va_P D vwCl (wH2 g a (cpr 9 w w2) a2 w2) H := by
  have e1 : ∀ j : Int, (41 ≤ j ∧ j < 49) → cpr 9 w w2 j = w2 j := fun j h => by show (if 41 ≤ j ∧ j < 49 then w2 j else w j) = w2 j; rw [if_pos h]
  have e0 : ∀ j : Int, ¬ (41 ≤ j ∧ j < 49) → cpr 9 w w2 j = w j := fun j h => by show (if 41 ≤ j ∧ j < 49 then w2 j else w j) = w j; rw [if_neg h]
  refine vaP_cons ?_ (vaP_cons ?_ (vaP_cons ?_ (vaP_cons ?_ (vaP_cons ?_ (vaP_cons ?_ (vaP_cons ?_ (vaP_cons ?_ (vaP_cons ?_ (vaP_cons ?_ (fun k q hk => hP (k + 10) q ?_))))))))))
  · rw [e0 1 (by omega), e0 0 (by omega), e0 2 (by omega), e0 3 (by omega), e0 4 (by omega)]; exact hP 0 _ rfl
  · exact va_at_arr (hP 1 _ rfl) (fun k hk => congrArg zI (e0 _ (by omega)).symm)
  · exact va_at_arr (hP 2 _ rfl) (fun k hk => congrArg zI (e0 _ (by omega)).symm)
  · exact va_at_arr (hP 3 _ rfl) (fun k hk => congrArg zI (e0 _ (by omega)).symm)
  · exact va_at_arr (hP 4 _ rfl) (fun k hk => congrArg zI (e0 _ (by omega)).symm)
  · exact va_at_arr (hP 5 _ rfl) (fun k hk => congrArg zI (e0 _ (by omega)).symm)
  · exact va_at_arr (hP 6 _ rfl) (fun k hk => congrArg zI (e0 _ (by omega)).symm)
  · exact va_at_arr (hP 7 _ rfl) (fun k hk => congrArg zI (e0 _ (by omega)).symm)
  · exact va_at_arr (hP 8 _ rfl) (fun k hk => congrArg zI (e0 _ (by omega)).symm)
  · refine va_at_arr (hP 9 _ rfl) (fun k hk => ?_)
    show va_cpy _ _ 0 0 8 k = zI (cpr 9 w w2 (41 + k))
    rw [e1 _ (by omega)]; unfold va_cpy; rw [if_pos (by omega)]; simp
  · rw [← hk]; rfl
theorem hw_sh (hP : va_P D vwCl ((wHs g a w).set 9 (a 9, .inl (g 0, 8, .inl (va_cpy (fun k : Nat => zI (w (41 + k))) (fun k : Nat => zI (w (41 + k))) (zI 1).toNatClampNeg (zI 0).toNatClampNeg (zI 7).toNatClampNeg)))) H) : va_P D vwCl (wHs g a (h_shift w)) H := by
  have e1 : ∀ j : Int, (41 ≤ j ∧ j < 48) → h_shift w j = w (j + 1) := fun j h => if_pos h
  have e0 : ∀ j : Int, ¬ (41 ≤ j ∧ j < 48) → h_shift w j = w j := fun j h => if_neg h
  refine vaP_cons ?_ (vaP_cons ?_ (vaP_cons ?_ (vaP_cons ?_ (vaP_cons ?_ (vaP_cons ?_ (vaP_cons ?_ (vaP_cons ?_ (vaP_cons ?_ (vaP_cons ?_ (vaP_nil))))))))))
  · rw [e0 1 (by omega), e0 0 (by omega), e0 2 (by omega), e0 3 (by omega), e0 4 (by omega)]; exact hP 0 _ rfl
  · exact va_at_arr (hP 1 _ rfl) (fun k hk => congrArg zI (e0 _ (by omega)).symm)
  · exact va_at_arr (hP 2 _ rfl) (fun k hk => congrArg zI (e0 _ (by omega)).symm)
  · exact va_at_arr (hP 3 _ rfl) (fun k hk => congrArg zI (e0 _ (by omega)).symm)
  · exact va_at_arr (hP 4 _ rfl) (fun k hk => congrArg zI (e0 _ (by omega)).symm)
  · exact va_at_arr (hP 5 _ rfl) (fun k hk => congrArg zI (e0 _ (by omega)).symm)
  · exact va_at_arr (hP 6 _ rfl) (fun k hk => congrArg zI (e0 _ (by omega)).symm)
  · exact va_at_arr (hP 7 _ rfl) (fun k hk => congrArg zI (e0 _ (by omega)).symm)
  · exact va_at_arr (hP 8 _ rfl) (fun k hk => congrArg zI (e0 _ (by omega)).symm)
  · refine va_at_arr (hP 9 _ rfl) (fun k hk => ?_)
    show va_cpy _ _ 1 0 7 k = zI (h_shift w (41 + k))
    unfold va_cpy
    by_cases h : k < 7
    · rw [if_pos (by omega), e1 _ (by omega)]
      show zI (w (41 + ((1 + (k - 0) : Nat) : Int))) = zI (w (41 + (k : Int) + 1))
      rw [show (41 + ((1 + (k - 0) : Nat) : Int)) = 41 + (k : Int) + 1 by omega]
    · rw [if_neg (by omega), e0 _ (by omega)]
end HW2
def c_nt (e a m : Int) : Int := if m ≤ a then a else if e < 1 then a else if (m - a) % e = 0 then m else m + e - (m - a) % e
def c_t0F (w : Int → Int) (b m : Int) : Int := bz (c_nt (w 13) (w 15) m ≤ c_nt (w 14) ((w 16 + b) % 30) m)
def c_t0 (w : Int → Int) (b : Int) : Int := sumR (c_t0F w b) 60
theorem c_t0_r (w : Int → Int) (b : Int) : 0 ≤ c_t0 w b ∧ c_t0 w b ≤ 60 := by
  have := sumR_b (f := c_t0F w b) (a := 0) (b := 1) (N := 60) (by decide) (fun k _ _ => bz_r)
  unfold c_t0
  omega
theorem c_nt_r {e a m : Int} (he : 1 ≤ e ∧ e ≤ 30) (ha : 0 ≤ a ∧ a ≤ 29) (hm : 0 ≤ m ∧ m ≤ 60) : 0 ≤ c_nt e a m ∧ c_nt e a m ≤ 200 := by
  unfold c_nt
  split
  · omega
  · split
    · omega
    · have h1 := Int.emod_nonneg (m - a) (show e ≠ 0 by omega)
      have h2 := Int.emod_lt_of_pos (m - a) (show 0 < e by omega)
      split <;> omega
/-! a fraction -/
def eu : Nat → Int → Int → Int
  | 0, x, _ => x
  | n + 1, x, y => if y = 0 then x else eu n y (x % y)
theorem eu_0 {N i x y : Int} (h : N ≤ i) : eu (N - i).toNat x y = x := by
  rw [show (N - i).toNat = 0 by omega]
  rfl
theorem eu_z {N i x y : Int} (h : y = 0) : eu (N - i).toNat x y = x := by
  cases (N - i).toNat with
  | zero => rfl
  | succ n => rw [eu, if_pos h]
theorem eu_s {N i x y : Int} (h : i < N) (hy : ¬ y = 0) : eu (N - i).toNat x y = eu (N - (i + 1)).toNat y (x % y) := by
  obtain ⟨n, hn⟩ : ∃ n, (N - i).toNat = n + 1 := ⟨(N - i).toNat - 1, by omega⟩
  rw [hn, eu, if_neg hy, show (N - (i + 1)).toNat = n by omega]
def c_gd (a b : Int) : Int := eu (100 - 0 : Int).toNat a b
theorem eu_r : ∀ (n : Nat) {x y : Int}, 0 ≤ x → 0 ≤ y → 0 ≤ eu n x y ∧ (eu n x y ≤ x ∨ eu n x y ≤ y)
  | 0, x, y, hx, hy => ⟨hx, Or.inl (Int.le_refl _)⟩
  | n + 1, x, y, hx, hy => by
    rw [eu]
    split
    · exact ⟨hx, Or.inl (Int.le_refl _)⟩
    · have h1 := Int.emod_nonneg x (show y ≠ 0 by omega)
      have h2 := Int.emod_lt_of_pos x (show 0 < y by omega)
      have := eu_r n hy h1
      omega
theorem c_gd_r {a b : Int} (ha : 0 ≤ a) (hb : 0 ≤ b) : 0 ≤ c_gd a b ∧ (c_gd a b ≤ a ∨ c_gd a b ≤ b) := eu_r _ ha hb
theorem cmpz_r (x y : Int) : -1 ≤ cmpz x y ∧ cmpz x y ≤ 1 := by unfold cmpz; (repeat' split) <;> omega
