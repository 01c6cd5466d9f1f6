/-! the law, call by call -/
set_option maxHeartbeats 4000000 in
set_option maxRecDepth 100000 in
theorem law_c15 {p : Program} {l : Launch} {e : Env} {s : State} {m : MethodId} {args : Array Value} {below : List Frame} {meth : Method} {c : Code} {dC : Nat → ClassId} {dI : Nat → Nat → Nat} {g : Nat → ClassId} {tt : Nat → Nat} {A : Nat → Prop} {b L : Nat} {xs : Nat → Int32} {Q : State → Prop} {ob a0 a1 a2 a3 q qm : Nat → Nat} {ls : Array Slot} {i : Int} {w0 w1 w2 w3 kp tx tz rf : Int → Int} {fa fb : Int} {M : Nat → Int → Int} {H : Heap} {locs : List Loc} (X : LX p s m c args (dC, dI) g tt A b L xs) (hl : lv_has ls 4 [(0, .ref b), (1, .ref (ob 0)), (2, .ref (qm 0)), (3, .int (zI i))]) (hi : 0 ≤ i ∧ i + 5 ≤ L) (hI : LI (dC, dI) g ob a0 a1 a2 a3 q qm A s.heap w0 w1 w2 w3 kp tx tz rf fa fb M H locs) (kk : ∀ (w0 w1 w2 w3 kp tx tz rf : Int → Int) (fa fb : Int) (M : Nat → Int → Int) (H : Heap) (locs : List Loc), LI (dC, dI) g ob a0 a1 a2 a3 q qm A s.heap w0 w1 w2 w3 kp tx tz rf fa fb M H locs → W p l e room_1 s m args below meth c H locs 54 775 Q (F0 m 1013 ls [])) : W p l e room_1 s m args below meth c H locs 54 775 Q (F0 m 629 ls []) := by
  obtain ⟨S, ⟨hK, hT, hA⟩, hX, hbl, hbA, hL⟩ := X
  obtain ⟨h, hP, hD, hS⟩ := hI
  have hx := S.1
  have hb := S.2.1
  have hts := S.2.2.2.2
  refine lv_aload_n hx hb dL_law_629 rfl (lv_at hl 1 rfl) ?_
  refine q_LVi (b := ob 0) (As := []) (rest := []) S hP hD hK hT hS hA (kX5_lines l dC dI g tt _ ob a0 a1 a2 a3 q w0 w1 w2 w3 kp tx tz fa fb rf  h.ok) (cwV 0 hts gL_law_X5_lines rfl rfl rfl (by decide +kernel) ⟨Nat.le_of_ble_eq_true rfl, Nat.le_of_ble_eq_true rfl⟩) 0 4 rfl rfl rfl rfl hl.1 rfl (Nat.le_of_ble_eq_true rfl) dL_law_630 ⟨Nat.le_of_ble_eq_true rfl, Nat.le_of_ble_eq_true rfl⟩ (fun H locs hP hD hS => ?_)
  refine lv_aload_n hx hb dL_law_633 rfl (lv_at hl 2 rfl) ?_
  refine q_LVi (b := qm 0) (As := []) (rest := [.int (zI (1))]) S hP hD hK hT hS hA (kX6_lines l dC dI g tt _ qm M  h.okM) (cwV 0 hts gL_law_X6_lines rfl rfl rfl (by decide +kernel) ⟨Nat.le_of_ble_eq_true rfl, Nat.le_of_ble_eq_true rfl⟩) 0 5 rfl rfl rfl rfl hl.1 rfl (Nat.le_of_ble_eq_true rfl) dL_law_634 ⟨Nat.le_of_ble_eq_true rfl, Nat.le_of_ble_eq_true rfl⟩ (fun H locs hP hD hS => ?_)
  refine q_Leq (tgt := 1013) hx hb dL_law_637 (by decide) ?_
  exact kk _ _ _ _ _ _ _ _ _ _ _ _ _ ⟨R_lines h, hP, hD, hS⟩
set_option maxHeartbeats 4000000 in
set_option maxRecDepth 100000 in
theorem law_c16 {p : Program} {l : Launch} {e : Env} {s : State} {m : MethodId} {args : Array Value} {below : List Frame} {meth : Method} {c : Code} {dC : Nat → ClassId} {dI : Nat → Nat → Nat} {g : Nat → ClassId} {tt : Nat → Nat} {A : Nat → Prop} {b L : Nat} {xs : Nat → Int32} {Q : State → Prop} {ob a0 a1 a2 a3 q qm : Nat → Nat} {ls : Array Slot} {i : Int} {w0 w1 w2 w3 kp tx tz rf : Int → Int} {fa fb : Int} {M : Nat → Int → Int} {H : Heap} {locs : List Loc} (X : LX p s m c args (dC, dI) g tt A b L xs) (hl : lv_has ls 4 [(0, .ref b), (1, .ref (ob 0)), (2, .ref (qm 0)), (3, .int (zI i))]) (hi : 0 ≤ i ∧ i + 5 ≤ L) (hI : LI (dC, dI) g ob a0 a1 a2 a3 q qm A s.heap w0 w1 w2 w3 kp tx tz rf fa fb M H locs) (kk : ∀ (w0 w1 w2 w3 kp tx tz rf : Int → Int) (fa fb : Int) (M : Nat → Int → Int) (H : Heap) (locs : List Loc), LI (dC, dI) g ob a0 a1 a2 a3 q qm A s.heap w0 w1 w2 w3 kp tx tz rf fa fb M H locs → W p l e room_1 s m args below meth c H locs 54 775 Q (F0 m 1013 ls [])) : W p l e room_1 s m args below meth c H locs 54 775 Q (F0 m 642 ls []) := by
  obtain ⟨S, ⟨hK, hT, hA⟩, hX, hbl, hbA, hL⟩ := X
  obtain ⟨h, hP, hD, hS⟩ := hI
  have hx := S.1
  have hb := S.2.1
  have hts := S.2.2.2.2
  refine lv_aload_n hx hb dL_law_642 rfl (lv_at hl 1 rfl) ?_
  refine q_LVi (b := ob 0) (As := []) (rest := []) S hP hD hK hT hS hA (kX5_even l dC dI g tt _ ob a0 a1 a2 a3 q w0 w1 w2 w3 kp tx tz fa fb rf  h.ok) (cwV 0 hts gL_law_X5_even rfl rfl rfl (by decide +kernel) ⟨Nat.le_of_ble_eq_true rfl, Nat.le_of_ble_eq_true rfl⟩) 0 4 rfl rfl rfl rfl hl.1 rfl (Nat.le_of_ble_eq_true rfl) dL_law_643 ⟨Nat.le_of_ble_eq_true rfl, Nat.le_of_ble_eq_true rfl⟩ (fun H locs hP hD hS => ?_)
  refine lv_aload_n hx hb dL_law_646 rfl (lv_at hl 2 rfl) ?_
  refine q_cVi (b := qm 0) (As := []) (rest := [.int (zI (ca_even w0))]) S (kX6_even l dC dI g tt qm M h.okM) (cwV 0 hts gL_law_X6_even rfl rfl rfl (by decide +kernel) ⟨Nat.le_of_ble_eq_true rfl, Nat.le_of_ble_eq_true rfl⟩) (vaP_l hP) hK hT hS 0 5 rfl rfl rfl rfl hl.1 rfl (Nat.le_of_ble_eq_true rfl) dL_law_647 ⟨Nat.le_of_ble_eq_true rfl, Nat.le_of_ble_eq_true rfl⟩ ?_
  have hP := vaP_sw hP
  have hD := vaD_sw hD
  rw [show ca_even w0 = ma_even (M 1) from A_even h]
  refine q_Leq (tgt := 1013) hx hb dL_law_650 (by decide) ?_
  exact kk _ _ _ _ _ _ _ _ _ _ _ _ _ ⟨h, hP, hD, hS⟩
set_option maxHeartbeats 4000000 in
set_option maxRecDepth 100000 in
theorem law_c17 {p : Program} {l : Launch} {e : Env} {s : State} {m : MethodId} {args : Array Value} {below : List Frame} {meth : Method} {c : Code} {dC : Nat → ClassId} {dI : Nat → Nat → Nat} {g : Nat → ClassId} {tt : Nat → Nat} {A : Nat → Prop} {b L : Nat} {xs : Nat → Int32} {Q : State → Prop} {ob a0 a1 a2 a3 q qm : Nat → Nat} {ls : Array Slot} {i : Int} {w0 w1 w2 w3 kp tx tz rf : Int → Int} {fa fb : Int} {M : Nat → Int → Int} {H : Heap} {locs : List Loc} (X : LX p s m c args (dC, dI) g tt A b L xs) (hl : lv_has ls 4 [(0, .ref b), (1, .ref (ob 0)), (2, .ref (qm 0)), (3, .int (zI i))]) (hi : 0 ≤ i ∧ i + 5 ≤ L) (hI : LI (dC, dI) g ob a0 a1 a2 a3 q qm A s.heap w0 w1 w2 w3 kp tx tz rf fa fb M H locs) (kk : ∀ (w0 w1 w2 w3 kp tx tz rf : Int → Int) (fa fb : Int) (M : Nat → Int → Int) (H : Heap) (locs : List Loc), LI (dC, dI) g ob a0 a1 a2 a3 q qm A s.heap w0 w1 w2 w3 kp tx tz rf fa fb M H locs → W p l e room_1 s m args below meth c H locs 54 775 Q (F0 m 1013 ls [])) : W p l e room_1 s m args below meth c H locs 54 775 Q (F0 m 655 ls []) := by
  obtain ⟨S, ⟨hK, hT, hA⟩, hX, hbl, hbA, hL⟩ := X
  obtain ⟨h, hP, hD, hS⟩ := hI
  have hx := S.1
  have hb := S.2.1
  have hts := S.2.2.2.2
  refine lv_aload_n hx hb dL_law_655 rfl (lv_at hl 1 rfl) ?_
  refine q_arg hx hb hX hbl hbA hS hl hi hL (j := 1) (by decide) dL_law_656 dL_law_657 dL_law_658 dL_law_659 dL_law_660 ?_
  refine q_arg hx hb hX hbl hbA hS hl hi hL (j := 2) (by decide) dL_law_661 dL_law_662 dL_law_663 dL_law_664 dL_law_665 ?_
  refine q_arg hx hb hX hbl hbA hS hl hi hL (j := 3) (by decide) dL_law_666 dL_law_667 dL_law_668 dL_law_669 dL_law_670 ?_
  refine q_arg hx hb hX hbl hbA hS hl hi hL (j := 4) (by decide) dL_law_671 dL_law_672 dL_law_673 dL_law_674 dL_law_675 ?_
  refine q_LVi (b := ob 0) (As := [.int (zI (xv xs i 1)), .int (zI (xv xs i 2)), .int (zI (xv xs i 3)), .int (zI (xv xs i 4))]) (rest := []) S hP hD hK hT hS hA (kX5_note l dC dI g tt _ ob a0 a1 a2 a3 q w0 w1 w2 w3 kp tx tz fa fb rf (xv xs i 1) (xv xs i 2) (xv xs i 3) (xv xs i 4) h.ok ⟨(xv_r xs i 1), (xv_r xs i 2), (xv_r xs i 3), (xv_r xs i 4)⟩) (cwV 4 hts gL_law_X5_note rfl rfl rfl (by decide +kernel) ⟨Nat.le_of_ble_eq_true rfl, Nat.le_of_ble_eq_true rfl⟩) 0 4 rfl rfl rfl rfl hl.1 rfl (Nat.le_of_ble_eq_true rfl) dL_law_676 ⟨Nat.le_of_ble_eq_true rfl, Nat.le_of_ble_eq_true rfl⟩ (fun H locs hP hD hS => ?_)
  refine lv_aload_n hx hb dL_law_679 rfl (lv_at hl 2 rfl) ?_
  refine q_arg hx hb hX hbl hbA hS hl hi hL (j := 1) (by decide) dL_law_680 dL_law_681 dL_law_682 dL_law_683 dL_law_684 ?_
  refine q_arg hx hb hX hbl hbA hS hl hi hL (j := 2) (by decide) dL_law_685 dL_law_686 dL_law_687 dL_law_688 dL_law_689 ?_
  refine q_arg hx hb hX hbl hbA hS hl hi hL (j := 3) (by decide) dL_law_690 dL_law_691 dL_law_692 dL_law_693 dL_law_694 ?_
  refine q_arg hx hb hX hbl hbA hS hl hi hL (j := 4) (by decide) dL_law_695 dL_law_696 dL_law_697 dL_law_698 dL_law_699 ?_
  refine q_LVi (b := qm 0) (As := [.int (zI (xv xs i 1)), .int (zI (xv xs i 2)), .int (zI (xv xs i 3)), .int (zI (xv xs i 4))]) (rest := [.int (zI (ca_note w0 (xv xs i 1) (xv xs i 2) (xv xs i 3) (xv xs i 4)))]) S hP hD hK hT hS hA (kX6_note l dC dI g tt _ qm M (xv xs i 1) (xv xs i 2) (xv xs i 3) (xv xs i 4) h.okM ⟨(xv_r xs i 1), (xv_r xs i 2), (xv_r xs i 3), (xv_r xs i 4)⟩) (cwV 4 hts gL_law_X6_note rfl rfl rfl (by decide +kernel) ⟨Nat.le_of_ble_eq_true rfl, Nat.le_of_ble_eq_true rfl⟩) 0 5 rfl rfl rfl rfl hl.1 rfl (Nat.le_of_ble_eq_true rfl) dL_law_700 ⟨Nat.le_of_ble_eq_true rfl, Nat.le_of_ble_eq_true rfl⟩ (fun H locs hP hD hS => ?_)
  rw [show ca_note w0 (xv xs i 1) (xv xs i 2) (xv xs i 3) (xv xs i 4) = ca_note (M 1) (xv xs i 1) (xv xs i 2) (xv xs i 3) (xv xs i 4) from hag_note h.ag (xv xs i 1) (xv xs i 2) (xv xs i 3) (xv xs i 4)]
  refine q_Leq (tgt := 1013) hx hb dL_law_703 (by decide) ?_
  exact kk _ _ _ _ _ _ _ _ _ _ _ _ _ ⟨R_note h (xv xs i 1) (xv xs i 2) (xv xs i 3) (xv xs i 4), hP, hD, hS⟩
set_option maxHeartbeats 4000000 in
set_option maxRecDepth 100000 in
theorem law_c18 {p : Program} {l : Launch} {e : Env} {s : State} {m : MethodId} {args : Array Value} {below : List Frame} {meth : Method} {c : Code} {dC : Nat → ClassId} {dI : Nat → Nat → Nat} {g : Nat → ClassId} {tt : Nat → Nat} {A : Nat → Prop} {b L : Nat} {xs : Nat → Int32} {Q : State → Prop} {ob a0 a1 a2 a3 q qm : Nat → Nat} {ls : Array Slot} {i : Int} {w0 w1 w2 w3 kp tx tz rf : Int → Int} {fa fb : Int} {M : Nat → Int → Int} {H : Heap} {locs : List Loc} (X : LX p s m c args (dC, dI) g tt A b L xs) (hl : lv_has ls 4 [(0, .ref b), (1, .ref (ob 0)), (2, .ref (qm 0)), (3, .int (zI i))]) (hi : 0 ≤ i ∧ i + 5 ≤ L) (hI : LI (dC, dI) g ob a0 a1 a2 a3 q qm A s.heap w0 w1 w2 w3 kp tx tz rf fa fb M H locs) (kk : ∀ (w0 w1 w2 w3 kp tx tz rf : Int → Int) (fa fb : Int) (M : Nat → Int → Int) (H : Heap) (locs : List Loc), LI (dC, dI) g ob a0 a1 a2 a3 q qm A s.heap w0 w1 w2 w3 kp tx tz rf fa fb M H locs → W p l e room_1 s m args below meth c H locs 54 775 Q (F0 m 1013 ls [])) : W p l e room_1 s m args below meth c H locs 54 775 Q (F0 m 708 ls []) := by
  obtain ⟨S, ⟨hK, hT, hA⟩, hX, hbl, hbA, hL⟩ := X
  obtain ⟨h, hP, hD, hS⟩ := hI
  have hx := S.1
  have hb := S.2.1
  have hts := S.2.2.2.2
  refine lv_aload_n hx hb dL_law_708 rfl (lv_at hl 1 rfl) ?_
  refine q_LVi (b := ob 0) (As := []) (rest := []) S hP hD hK hT hS hA (kX5_forget l dC dI g tt _ ob a0 a1 a2 a3 q w0 w1 w2 w3 kp tx tz fa fb rf  ) (cwV 0 hts gL_law_X5_forget rfl rfl rfl (by decide +kernel) ⟨Nat.le_of_ble_eq_true rfl, Nat.le_of_ble_eq_true rfl⟩) 0 4 rfl rfl rfl rfl hl.1 rfl (Nat.le_of_ble_eq_true rfl) dL_law_709 ⟨Nat.le_of_ble_eq_true rfl, Nat.le_of_ble_eq_true rfl⟩ (fun H locs hP hD hS => ?_)
  refine lv_aload_n hx hb dL_law_712 rfl (lv_at hl 2 rfl) ?_
  refine q_LVi (b := qm 0) (As := []) (rest := [.int (zI (w0 3))]) S hP hD hK hT hS hA (kX6_forget l dC dI g tt _ qm M  ) (cwV 0 hts gL_law_X6_forget rfl rfl rfl (by decide +kernel) ⟨Nat.le_of_ble_eq_true rfl, Nat.le_of_ble_eq_true rfl⟩) 0 5 rfl rfl rfl rfl hl.1 rfl (Nat.le_of_ble_eq_true rfl) dL_law_713 ⟨Nat.le_of_ble_eq_true rfl, Nat.le_of_ble_eq_true rfl⟩ (fun H locs hP hD hS => ?_)
  rw [show w0 3 = M 1 3 from h.ag.1.2.2.2.1]
  refine q_Leq (tgt := 1013) hx hb dL_law_716 (by decide) ?_
  exact kk _ _ _ _ _ _ _ _ _ _ _ _ _ ⟨R_forget h, hP, hD, hS⟩
set_option maxHeartbeats 4000000 in
set_option maxRecDepth 100000 in
theorem law_c19 {p : Program} {l : Launch} {e : Env} {s : State} {m : MethodId} {args : Array Value} {below : List Frame} {meth : Method} {c : Code} {dC : Nat → ClassId} {dI : Nat → Nat → Nat} {g : Nat → ClassId} {tt : Nat → Nat} {A : Nat → Prop} {b L : Nat} {xs : Nat → Int32} {Q : State → Prop} {ob a0 a1 a2 a3 q qm : Nat → Nat} {ls : Array Slot} {i : Int} {w0 w1 w2 w3 kp tx tz rf : Int → Int} {fa fb : Int} {M : Nat → Int → Int} {H : Heap} {locs : List Loc} (X : LX p s m c args (dC, dI) g tt A b L xs) (hl : lv_has ls 4 [(0, .ref b), (1, .ref (ob 0)), (2, .ref (qm 0)), (3, .int (zI i))]) (hi : 0 ≤ i ∧ i + 5 ≤ L) (hI : LI (dC, dI) g ob a0 a1 a2 a3 q qm A s.heap w0 w1 w2 w3 kp tx tz rf fa fb M H locs) (kk : ∀ (w0 w1 w2 w3 kp tx tz rf : Int → Int) (fa fb : Int) (M : Nat → Int → Int) (H : Heap) (locs : List Loc), LI (dC, dI) g ob a0 a1 a2 a3 q qm A s.heap w0 w1 w2 w3 kp tx tz rf fa fb M H locs → W p l e room_1 s m args below meth c H locs 54 775 Q (F0 m 1013 ls [])) : W p l e room_1 s m args below meth c H locs 54 775 Q (F0 m 721 ls []) := by
  obtain ⟨S, ⟨hK, hT, hA⟩, hX, hbl, hbA, hL⟩ := X
  obtain ⟨h, hP, hD, hS⟩ := hI
  have hx := S.1
  have hb := S.2.1
  have hts := S.2.2.2.2
  refine lv_aload_n hx hb dL_law_721 rfl (lv_at hl 1 rfl) ?_
  refine q_arg hx hb hX hbl hbA hS hl hi hL (j := 1) (by decide) dL_law_722 dL_law_723 dL_law_724 dL_law_725 dL_law_726 ?_
  refine q_arg hx hb hX hbl hbA hS hl hi hL (j := 2) (by decide) dL_law_727 dL_law_728 dL_law_729 dL_law_730 dL_law_731 ?_
  refine q_LVi (b := ob 0) (As := [.int (zI (xv xs i 1)), .int (zI (xv xs i 2))]) (rest := []) S hP hD hK hT hS hA (kX5_is l dC dI g tt _ ob a0 a1 a2 a3 q w0 w1 w2 w3 kp tx tz fa fb rf (xv xs i 1) (xv xs i 2) h.ok ⟨(xv_r xs i 1), (xv_r xs i 2)⟩) (cwV 2 hts gL_law_X5_is rfl rfl rfl (by decide +kernel) ⟨Nat.le_of_ble_eq_true rfl, Nat.le_of_ble_eq_true rfl⟩) 0 4 rfl rfl rfl rfl hl.1 rfl (Nat.le_of_ble_eq_true rfl) dL_law_732 ⟨Nat.le_of_ble_eq_true rfl, Nat.le_of_ble_eq_true rfl⟩ (fun H locs hP hD hS => ?_)
  refine lv_aload_n hx hb dL_law_735 rfl (lv_at hl 2 rfl) ?_
  refine q_arg hx hb hX hbl hbA hS hl hi hL (j := 1) (by decide) dL_law_736 dL_law_737 dL_law_738 dL_law_739 dL_law_740 ?_
  refine q_arg hx hb hX hbl hbA hS hl hi hL (j := 2) (by decide) dL_law_741 dL_law_742 dL_law_743 dL_law_744 dL_law_745 ?_
  refine q_LVi (b := qm 0) (As := [.int (zI (xv xs i 1)), .int (zI (xv xs i 2))]) (rest := [.int (zI (ca_is w0 (xv xs i 1) (xv xs i 2)))]) S hP hD hK hT hS hA (kX6_is l dC dI g tt _ qm M (xv xs i 1) (xv xs i 2) h.okM ⟨(xv_r xs i 1), (xv_r xs i 2)⟩) (cwV 2 hts gL_law_X6_is rfl rfl rfl (by decide +kernel) ⟨Nat.le_of_ble_eq_true rfl, Nat.le_of_ble_eq_true rfl⟩) 0 5 rfl rfl rfl rfl hl.1 rfl (Nat.le_of_ble_eq_true rfl) dL_law_746 ⟨Nat.le_of_ble_eq_true rfl, Nat.le_of_ble_eq_true rfl⟩ (fun H locs hP hD hS => ?_)
  rw [show ca_is w0 (xv xs i 1) (xv xs i 2) = ca_is (M 1) (xv xs i 1) (xv xs i 2) from hag_is h.ag (xv xs i 1) (xv xs i 2)]
  refine q_Leq (tgt := 1013) hx hb dL_law_749 (by decide) ?_
  exact kk _ _ _ _ _ _ _ _ _ _ _ _ _ ⟨R_is h (xv xs i 1) (xv xs i 2), hP, hD, hS⟩
set_option maxHeartbeats 4000000 in
set_option maxRecDepth 100000 in
theorem law_c20 {p : Program} {l : Launch} {e : Env} {s : State} {m : MethodId} {args : Array Value} {below : List Frame} {meth : Method} {c : Code} {dC : Nat → ClassId} {dI : Nat → Nat → Nat} {g : Nat → ClassId} {tt : Nat → Nat} {A : Nat → Prop} {b L : Nat} {xs : Nat → Int32} {Q : State → Prop} {ob a0 a1 a2 a3 q qm : Nat → Nat} {ls : Array Slot} {i : Int} {w0 w1 w2 w3 kp tx tz rf : Int → Int} {fa fb : Int} {M : Nat → Int → Int} {H : Heap} {locs : List Loc} (X : LX p s m c args (dC, dI) g tt A b L xs) (hl : lv_has ls 4 [(0, .ref b), (1, .ref (ob 0)), (2, .ref (qm 0)), (3, .int (zI i))]) (hi : 0 ≤ i ∧ i + 5 ≤ L) (hI : LI (dC, dI) g ob a0 a1 a2 a3 q qm A s.heap w0 w1 w2 w3 kp tx tz rf fa fb M H locs) (kk : ∀ (w0 w1 w2 w3 kp tx tz rf : Int → Int) (fa fb : Int) (M : Nat → Int → Int) (H : Heap) (locs : List Loc), LI (dC, dI) g ob a0 a1 a2 a3 q qm A s.heap w0 w1 w2 w3 kp tx tz rf fa fb M H locs → W p l e room_1 s m args below meth c H locs 54 775 Q (F0 m 1013 ls [])) : W p l e room_1 s m args below meth c H locs 54 775 Q (F0 m 754 ls []) := by
  obtain ⟨S, ⟨hK, hT, hA⟩, hX, hbl, hbA, hL⟩ := X
  obtain ⟨h, hP, hD, hS⟩ := hI
  have hx := S.1
  have hb := S.2.1
  have hts := S.2.2.2.2
  refine lv_aload_n hx hb dL_law_754 rfl (lv_at hl 1 rfl) ?_
  refine q_arg hx hb hX hbl hbA hS hl hi hL (j := 1) (by decide) dL_law_755 dL_law_756 dL_law_757 dL_law_758 dL_law_759 ?_
  refine q_arg hx hb hX hbl hbA hS hl hi hL (j := 2) (by decide) dL_law_760 dL_law_761 dL_law_762 dL_law_763 dL_law_764 ?_
  refine q_LVi (b := ob 0) (As := [.int (zI (xv xs i 1)), .int (zI (xv xs i 2))]) (rest := []) S hP hD hK hT hS hA (kX5_look l dC dI g tt _ ob a0 a1 a2 a3 q w0 w1 w2 w3 kp tx tz fa fb rf (xv xs i 1) (xv xs i 2) h.ok ⟨(xv_r xs i 1), (xv_r xs i 2)⟩) (cwV 2 hts gL_law_X5_look rfl rfl rfl (by decide +kernel) ⟨Nat.le_of_ble_eq_true rfl, Nat.le_of_ble_eq_true rfl⟩) 0 4 rfl rfl rfl rfl hl.1 rfl (Nat.le_of_ble_eq_true rfl) dL_law_765 ⟨Nat.le_of_ble_eq_true rfl, Nat.le_of_ble_eq_true rfl⟩ (fun H locs hP hD hS => ?_)
  refine lv_aload_n hx hb dL_law_768 rfl (lv_at hl 2 rfl) ?_
  refine q_arg hx hb hX hbl hbA hS hl hi hL (j := 1) (by decide) dL_law_769 dL_law_770 dL_law_771 dL_law_772 dL_law_773 ?_
  refine q_arg hx hb hX hbl hbA hS hl hi hL (j := 2) (by decide) dL_law_774 dL_law_775 dL_law_776 dL_law_777 dL_law_778 ?_
  refine q_LVi (b := qm 0) (As := [.int (zI (xv xs i 1)), .int (zI (xv xs i 2))]) (rest := [.int (zI (ca_look w0 (xv xs i 1) (xv xs i 2)))]) S hP hD hK hT hS hA (kX6_look l dC dI g tt _ qm M (xv xs i 1) (xv xs i 2) h.okM ⟨(xv_r xs i 1), (xv_r xs i 2)⟩) (cwV 2 hts gL_law_X6_look rfl rfl rfl (by decide +kernel) ⟨Nat.le_of_ble_eq_true rfl, Nat.le_of_ble_eq_true rfl⟩) 0 5 rfl rfl rfl rfl hl.1 rfl (Nat.le_of_ble_eq_true rfl) dL_law_779 ⟨Nat.le_of_ble_eq_true rfl, Nat.le_of_ble_eq_true rfl⟩ (fun H locs hP hD hS => ?_)
  rw [show ca_look w0 (xv xs i 1) (xv xs i 2) = ma_look (M 1) (xv xs i 1) (xv xs i 2) from A_look h (xv xs i 1) (xv xs i 2)]
  refine q_Leq (tgt := 1013) hx hb dL_law_782 (by decide) ?_
  exact kk _ _ _ _ _ _ _ _ _ _ _ _ _ ⟨R_look h (xv xs i 1) (xv xs i 2), hP, hD, hS⟩
set_option maxHeartbeats 4000000 in
set_option maxRecDepth 100000 in
theorem law_c21 {p : Program} {l : Launch} {e : Env} {s : State} {m : MethodId} {args : Array Value} {below : List Frame} {meth : Method} {c : Code} {dC : Nat → ClassId} {dI : Nat → Nat → Nat} {g : Nat → ClassId} {tt : Nat → Nat} {A : Nat → Prop} {b L : Nat} {xs : Nat → Int32} {Q : State → Prop} {ob a0 a1 a2 a3 q qm : Nat → Nat} {ls : Array Slot} {i : Int} {w0 w1 w2 w3 kp tx tz rf : Int → Int} {fa fb : Int} {M : Nat → Int → Int} {H : Heap} {locs : List Loc} (X : LX p s m c args (dC, dI) g tt A b L xs) (hl : lv_has ls 4 [(0, .ref b), (1, .ref (ob 0)), (2, .ref (qm 0)), (3, .int (zI i))]) (hi : 0 ≤ i ∧ i + 5 ≤ L) (hI : LI (dC, dI) g ob a0 a1 a2 a3 q qm A s.heap w0 w1 w2 w3 kp tx tz rf fa fb M H locs) (kk : ∀ (w0 w1 w2 w3 kp tx tz rf : Int → Int) (fa fb : Int) (M : Nat → Int → Int) (H : Heap) (locs : List Loc), LI (dC, dI) g ob a0 a1 a2 a3 q qm A s.heap w0 w1 w2 w3 kp tx tz rf fa fb M H locs → W p l e room_1 s m args below meth c H locs 54 775 Q (F0 m 1013 ls [])) : W p l e room_1 s m args below meth c H locs 54 775 Q (F0 m 787 ls []) := by
  obtain ⟨S, ⟨hK, hT, hA⟩, hX, hbl, hbA, hL⟩ := X
  obtain ⟨h, hP, hD, hS⟩ := hI
  have hx := S.1
  have hb := S.2.1
  have hts := S.2.2.2.2
  refine lv_aload_n hx hb dL_law_787 rfl (lv_at hl 1 rfl) ?_
  refine q_arg hx hb hX hbl hbA hS hl hi hL (j := 1) (by decide) dL_law_788 dL_law_789 dL_law_790 dL_law_791 dL_law_792 ?_
  refine q_arg hx hb hX hbl hbA hS hl hi hL (j := 2) (by decide) dL_law_793 dL_law_794 dL_law_795 dL_law_796 dL_law_797 ?_
  refine q_arg hx hb hX hbl hbA hS hl hi hL (j := 3) (by decide) dL_law_798 dL_law_799 dL_law_800 dL_law_801 dL_law_802 ?_
  refine q_arg hx hb hX hbl hbA hS hl hi hL (j := 4) (by decide) dL_law_803 dL_law_804 dL_law_805 dL_law_806 dL_law_807 ?_
  refine q_LVi (b := ob 0) (As := [.int (zI (xv xs i 1)), .int (zI (xv xs i 2)), .int (zI (xv xs i 3)), .int (zI (xv xs i 4))]) (rest := []) S hP hD hK hT hS hA (kX5_porters l dC dI g tt _ ob a0 a1 a2 a3 q w0 w1 w2 w3 kp tx tz fa fb rf (xv xs i 1) (xv xs i 2) (xv xs i 3) (xv xs i 4) h.ok ⟨(xv_r xs i 1), (xv_r xs i 2), (xv_r xs i 3), (xv_r xs i 4)⟩) (cwV 4 hts gL_law_X5_porters rfl rfl rfl (by decide +kernel) ⟨Nat.le_of_ble_eq_true rfl, Nat.le_of_ble_eq_true rfl⟩) 0 4 rfl rfl rfl rfl hl.1 rfl (Nat.le_of_ble_eq_true rfl) dL_law_808 ⟨Nat.le_of_ble_eq_true rfl, Nat.le_of_ble_eq_true rfl⟩ (fun H locs hP hD hS => ?_)
  refine lv_aload_n hx hb dL_law_811 rfl (lv_at hl 2 rfl) ?_
  refine q_arg hx hb hX hbl hbA hS hl hi hL (j := 1) (by decide) dL_law_812 dL_law_813 dL_law_814 dL_law_815 dL_law_816 ?_
  refine q_arg hx hb hX hbl hbA hS hl hi hL (j := 2) (by decide) dL_law_817 dL_law_818 dL_law_819 dL_law_820 dL_law_821 ?_
  refine q_arg hx hb hX hbl hbA hS hl hi hL (j := 3) (by decide) dL_law_822 dL_law_823 dL_law_824 dL_law_825 dL_law_826 ?_
  refine q_arg hx hb hX hbl hbA hS hl hi hL (j := 4) (by decide) dL_law_827 dL_law_828 dL_law_829 dL_law_830 dL_law_831 ?_
  refine q_LVi (b := qm 0) (As := [.int (zI (xv xs i 1)), .int (zI (xv xs i 2)), .int (zI (xv xs i 3)), .int (zI (xv xs i 4))]) (rest := [.int (zI (ca_po w0 (xv xs i 1) (xv xs i 2) (xv xs i 3) (xv xs i 4)))]) S hP hD hK hT hS hA (kX6_porters l dC dI g tt _ qm M (xv xs i 1) (xv xs i 2) (xv xs i 3) (xv xs i 4) h.okM ⟨(xv_r xs i 1), (xv_r xs i 2), (xv_r xs i 3), (xv_r xs i 4)⟩) (cwV 4 hts gL_law_X6_porters rfl rfl rfl (by decide +kernel) ⟨Nat.le_of_ble_eq_true rfl, Nat.le_of_ble_eq_true rfl⟩) 0 5 rfl rfl rfl rfl hl.1 rfl (Nat.le_of_ble_eq_true rfl) dL_law_832 ⟨Nat.le_of_ble_eq_true rfl, Nat.le_of_ble_eq_true rfl⟩ (fun H locs hP hD hS => ?_)
  rw [show ca_po w0 (xv xs i 1) (xv xs i 2) (xv xs i 3) (xv xs i 4) = ca_po (M 1) (xv xs i 1) (xv xs i 2) (xv xs i 3) (xv xs i 4) from A_po h (xv xs i 1) (xv xs i 2) (xv xs i 3) (xv xs i 4)]
  refine q_Leq (tgt := 1013) hx hb dL_law_835 (by decide) ?_
  exact kk _ _ _ _ _ _ _ _ _ _ _ _ _ ⟨R_po h (xv xs i 1) (xv xs i 2) (xv xs i 3) (xv xs i 4), hP, hD, hS⟩
