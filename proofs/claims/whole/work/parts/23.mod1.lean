set_option maxHeartbeats 4000000 in
set_option maxRecDepth 100000 in
theorem kX6_in (l : Launch) (dC : Nat → ClassId) (dI : Nat → Nat → Nat) (g : Nat → ClassId) (tt : Nat → Nat) (x1 x2 x3 : Int) (h1 : rL x1 ∧ rL x2 ∧ rL x3) : Met l yX6_in wsX6_in ({ frames := 0, cells := 0, slots := 0, locals := 0 }) (va_Pc [.long (zL x1), .long (zL x2), .long (zL x3)] (eS (dC, dI) (wTy g) ([]) tt)) (vp_Si (fun r => r = zI (bz (x2 ≤ x1 ∧ x1 ≤ x3)))) 0 0 (fun _ => False) := by
  refine Met.ofW (cc := cX6_in) (maxL := 6) (ret := (some .boolean)) (by decide) rfl ?_
  intro p e s m args below meth c s₁ B hml hv
  obtain ⟨rfl, hP, hK, hT⟩ := hv
  have hx := B.exec
  have hb := B.bytes
  have hr := B.returns
  have hts := atoms_spec (ws := wsX6_in) B.pre
  have hown : s.vm.findClass RX6 = some m.cls := findClass_of_methodNamed B.named
  have hlocks := B.notSynchronized
  have hS : va_S (fun _ : Nat => False) s.heap s.heap [] := va_S.rf
  have hl := lv_entry ([.long (zL x1), .long (zL x2), .long (zL x3)]) (n := 6) (Nat.le_of_ble_eq_true rfl)
  rw [lg_entry_eq]
  generalize (lg_sl ([.long (zL x1), .long (zL x2), .long (zL x3)]) ++ List.replicate (6 - (lg_sl ([.long (zL x1), .long (zL x2), .long (zL x3)])).length) Slot.unset).toArray = ls at hl ⊢
  have hl : lv_has ls 6 [(0, .long (zL x1)), (2, .long (zL x2)), (4, .long (zL x3))] := hl
  refine lv_lload_n hx hb dX6_in_0 rfl (lv_at hl 0 rfl) ?_
  refine lv_lload_n hx hb dX6_in_1 rfl (lv_at hl 1 rfl) ?_
  refine q_lcmp hx hb dX6_in_2 (by omega) ?_
  have := cmpz_r x1 x2
  have := cmpz_s x1 x2
  refine q_if_lt (tgt := 17) hx hb dX6_in_3 (by decide) (by omega) (fun c_1 => ?_) (fun c_1 => ?_)
  · refine q_iconst hx hb dX6_in_17 ?_
    exact W.zret hx hb hr rfl (fun t9 ht9 hW9 => ⟨_, rfl, congrArg zI (bz_f (by omega)).symm, ht9⟩) hS.2.2 dX6_in_18
  · refine lv_lload_n hx hb dX6_in_6 rfl (lv_at hl 0 rfl) ?_
    refine lv_lload hx hb dX6_in_7 (lv_at hl 2 rfl) ?_
    refine q_lcmp hx hb dX6_in_9 (by omega) ?_
    have := cmpz_r x1 x3
    have := cmpz_s x1 x3
    refine q_if_gt (tgt := 17) hx hb dX6_in_10 (by decide) (by omega) (fun c_2 => ?_) (fun c_2 => ?_)
    · refine q_iconst hx hb dX6_in_17 ?_
      exact W.zret hx hb hr rfl (fun t9 ht9 hW9 => ⟨_, rfl, congrArg zI (bz_f (by omega)).symm, ht9⟩) hS.2.2 dX6_in_18
    · refine q_iconst hx hb dX6_in_13 ?_
      refine lv_goto (tgt := 18) hx hb dX6_in_14 (by decide) ?_
      exact W.zret hx hb hr rfl (fun t9 ht9 hW9 => ⟨_, rfl, congrArg zI (bz_t (by omega)).symm, ht9⟩) hS.2.2 dX6_in_18
set_option maxHeartbeats 4000000 in
set_option maxRecDepth 100000 in
theorem kX6_has (l : Launch) (dC : Nat → ClassId) (dI : Nat → Nat → Nat) (g : Nat → ClassId) (tt : Nat → Nat) (x1 x2 : Int) (h1 : (0 ≤ x1 ∧ x1 < 64) ∧ (0 ≤ x2 ∧ x2 ≤ 5)) : Met l yX6_has wsX6_has ({ frames := 0, cells := 0, slots := 0, locals := 0 }) (va_Pc [.int (zI x1), .int (zI x2)] (eS (dC, dI) (wTy g) ([]) tt)) (vp_Si (fun r => r = zI (bz (hasB x1 x2 = true)))) 0 0 (fun _ => False) := by
  refine Met.ofW (cc := cX6_has) (maxL := 2) (ret := (some .boolean)) (by decide) rfl ?_
  intro p e s m args below meth c s₁ B hml hv
  obtain ⟨rfl, hP, hK, hT⟩ := hv
  have hx := B.exec
  have hb := B.bytes
  have hr := B.returns
  have hts := atoms_spec (ws := wsX6_has) B.pre
  have hown : s.vm.findClass RX6 = some m.cls := findClass_of_methodNamed B.named
  have hlocks := B.notSynchronized
  have hS : va_S (fun _ : Nat => False) s.heap s.heap [] := va_S.rf
  have hl := lv_entry ([.int (zI x1), .int (zI x2)]) (n := 2) (Nat.le_of_ble_eq_true rfl)
  rw [lg_entry_eq]
  generalize (lg_sl ([.int (zI x1), .int (zI x2)]) ++ List.replicate (2 - (lg_sl ([.int (zI x1), .int (zI x2)])).length) Slot.unset).toArray = ls at hl ⊢
  have hl : lv_has ls 2 [(0, .int (zI x1)), (1, .int (zI x2))] := hl
  refine lv_iload_n hx hb dX6_has_0 rfl (lv_at hl 0 rfl) ?_
  refine lv_iload_n hx hb dX6_has_1 rfl (lv_at hl 1 rfl) ?_
  refine q_ishr (z := x1 / 2 ^ (x2).toNat) hx hb dX6_has_2 (zI_shr6 (by omega) (by omega)) ?_
  refine q_iconst hx hb dX6_has_3 ?_
  refine q_iand (z := x1 / 2 ^ (x2).toNat % 2) hx hb dX6_has_4 (zI_and1 (div64 (by omega) _)) ?_
  refine q_iconst hx hb dX6_has_5 ?_
  refine q_icmp_ne (tgt := 13) hx hb dX6_has_6 (by decide) (by omega) (fun c_1 => ?_) (fun c_1 => ?_)
  · refine q_iconst hx hb dX6_has_13 ?_
    exact W.zret hx hb hr rfl (fun t9 ht9 hW9 => ⟨_, rfl, congrArg zI (bz_f (fun h9 => c_1 (of_decide_eq_true h9))).symm, ht9⟩) hS.2.2 dX6_has_14
  · refine q_iconst hx hb dX6_has_9 ?_
    refine lv_goto (tgt := 14) hx hb dX6_has_10 (by decide) ?_
    exact W.zret hx hb hr rfl (fun t9 ht9 hW9 => ⟨_, rfl, congrArg zI (bz_t (decide_eq_true c_1)).symm, ht9⟩) hS.2.2 dX6_has_14
set_option maxHeartbeats 4000000 in
set_option maxRecDepth 100000 in
theorem kX6_bad (l : Launch) (dC : Nat → ClassId) (dI : Nat → Nat → Nat) (g : Nat → ClassId) (tt : Nat → Nat) (sz : Nat) (q : Nat → Nat) (M : Nat → Int → Int) : Met l yX6_bad wsX6_bad ({ frames := 0, cells := 0, slots := 0, locals := 0 }) (va_Pc [.ref (q 0)] (eQ (dC, dI) (wTy g) (wMo g q M) tt sz)) (va_Qi (fun r (_ : Unit) => r = zI (-2)) (fQ (dC, dI) (wTy g) (va_A (wMo g q M) sz) (wMo g q (mbad M))) (va_A (wMo g q M) sz)) 0 0 (va_A (wMo g q M) sz) := by
  refine Met.ofW (cc := cX6_bad) (maxL := 1) (ret := (some .int)) (by decide) rfl ?_
  intro p e s m args below meth c s₁ B hml hv
  obtain ⟨rfl, hsz, hP, hK, hD0, hT⟩ := hv
  have hx := B.exec
  have hb := B.bytes
  have hr := B.returns
  have hts := atoms_spec (ws := wsX6_bad) B.pre
  have hown : s.vm.findClass RX6 = some m.cls := findClass_of_methodNamed B.named
  have hlocks := B.notSynchronized
  subst hsz
  have hD := hD0.self (sz := s.heap.size)
  generalize hAe : va_A (wMo g q M) s.heap.size = A at hD hT ⊢
  have hA : ∀ q : Nat, s.heap.size ≤ q → A q := fun q h => by rw [← hAe]; exact Or.inr h
  have hS : va_S A s.heap s.heap [] := va_S.rf
  have hl := lv_entry ([.ref (q 0)]) (n := 1) (Nat.le_of_ble_eq_true rfl)
  rw [lg_entry_eq]
  generalize (lg_sl ([.ref (q 0)]) ++ List.replicate (1 - (lg_sl ([.ref (q 0)])).length) Slot.unset).toArray = ls at hl ⊢
  have hl : lv_has ls 1 [(0, .ref (q 0))] := hl
  have kf20 := hts (.fieldLink RX6 20 "WrongWayModel" "refused" "[I") (by decide +kernel)
  have iX6 := (fun w h => List.mem_cons_of_mem _ (List.mem_append_right _ h) : ∀ w ∈ u_ws RX6 TX6 15, w ∈ wsX6_bad)
  refine lv_aload_n hx hb dX6_bad_0 rfl (lv_at hl 0 rfl) ?_
  refine va_get (D := (dC, dI)) (ci := 5) (v := .ref (q 4)) (C := RX6) (T := TX6) (N := 15) hx hb hts iX6 hown hK hP 0 rfl rfl 4 (by decide) kf20 (fun _ h9 => h9) rfl dX6_bad_1 ?_
  refine q_iconst hx hb dX6_bad_4 ?_
  refine lv_dup2_11 hx hb dX6_bad_5 rfl rfl ?_
  refine q_iald (F := fun k9 => M 4 k9) (v := M 4 0) hx hb hK hP 4 0 rfl rfl (by decide) (by omega) (rfl) dX6_bad_6 ?_
  refine q_iconst hx hb dX6_bad_7 ?_
  refine q_iadd hx hb dX6_bad_8 ?_
  refine q_iast (F := fun k9 => M 4 k9) (v := ((M 4 0) + 1)) hx hb hK hP hD hS 4 0 rfl rfl (by decide) (by omega) dX6_bad_9 (fun H locs hP hD hS => ?_)
  have hP : va_P (dC, dI) vwCl (wMo g q (mset M 4 0 ((M 4 0) + 1))) H := hP
  have hD : va_D A (wMo g q (mset M 4 0 ((M 4 0) + 1))) := hD
  refine q_bipush hx hb dX6_bad_10 rfl ?_
  have hPf : va_P (dC, dI) vwCl (wMo g q (mbad M)) H := by rw [(show (mbad M) = mset M 4 0 ((M 4 0) + 1) from by rfl)]; exact hP
  have hDf : va_D A (wMo g q (mbad M)) := by rw [(show (mbad M) = mset M 4 0 ((M 4 0) + 1) from by rfl)]; exact hD
  exact W.iret hx hb hr (fun t9 ht9 hW9 => ⟨⟨_, (), rfl, congrArg zI (show (-2) = -2 from rfl), by rw [ht9]; exact hPf, va_K.moved hW9.alike hK, hDf⟩, hS.F ht9⟩) hS.2.2 dX6_bad_12
set_option maxHeartbeats 4000000 in
set_option maxRecDepth 100000 in
theorem kX6_no (l : Launch) (dC : Nat → ClassId) (dI : Nat → Nat → Nat) (g : Nat → ClassId) (tt : Nat → Nat) (sz : Nat) (q : Nat → Nat) (M : Nat → Int → Int) : Met l yX6_no wsX6_no ({ frames := 0, cells := 0, slots := 0, locals := 0 }) (va_Pc [.ref (q 0)] (eQ (dC, dI) (wTy g) (wMo g q M) tt sz)) (va_Qi (fun r (_ : Unit) => r = zI (-3)) (fQ (dC, dI) (wTy g) (va_A (wMo g q M) sz) (wMo g q (mno M))) (va_A (wMo g q M) sz)) 0 0 (va_A (wMo g q M) sz) := by
  refine Met.ofW (cc := cX6_no) (maxL := 1) (ret := (some .int)) (by decide) rfl ?_
  intro p e s m args below meth c s₁ B hml hv
  obtain ⟨rfl, hsz, hP, hK, hD0, hT⟩ := hv
  have hx := B.exec
  have hb := B.bytes
  have hr := B.returns
  have hts := atoms_spec (ws := wsX6_no) B.pre
  have hown : s.vm.findClass RX6 = some m.cls := findClass_of_methodNamed B.named
  have hlocks := B.notSynchronized
  subst hsz
  have hD := hD0.self (sz := s.heap.size)
  generalize hAe : va_A (wMo g q M) s.heap.size = A at hD hT ⊢
  have hA : ∀ q : Nat, s.heap.size ≤ q → A q := fun q h => by rw [← hAe]; exact Or.inr h
  have hS : va_S A s.heap s.heap [] := va_S.rf
  have hl := lv_entry ([.ref (q 0)]) (n := 1) (Nat.le_of_ble_eq_true rfl)
  rw [lg_entry_eq]
  generalize (lg_sl ([.ref (q 0)]) ++ List.replicate (1 - (lg_sl ([.ref (q 0)])).length) Slot.unset).toArray = ls at hl ⊢
  have hl : lv_has ls 1 [(0, .ref (q 0))] := hl
  have kf20 := hts (.fieldLink RX6 20 "WrongWayModel" "refused" "[I") (by decide +kernel)
  have iX6 := (fun w h => List.mem_cons_of_mem _ (List.mem_append_right _ h) : ∀ w ∈ u_ws RX6 TX6 15, w ∈ wsX6_no)
  refine lv_aload_n hx hb dX6_no_0 rfl (lv_at hl 0 rfl) ?_
  refine va_get (D := (dC, dI)) (ci := 5) (v := .ref (q 4)) (C := RX6) (T := TX6) (N := 15) hx hb hts iX6 hown hK hP 0 rfl rfl 4 (by decide) kf20 (fun _ h9 => h9) rfl dX6_no_1 ?_
  refine q_iconst hx hb dX6_no_4 ?_
  refine lv_dup2_11 hx hb dX6_no_5 rfl rfl ?_
  refine q_iald (F := fun k9 => M 4 k9) (v := M 4 1) hx hb hK hP 4 0 rfl rfl (by decide) (by omega) (rfl) dX6_no_6 ?_
  refine q_iconst hx hb dX6_no_7 ?_
  refine q_iadd hx hb dX6_no_8 ?_
  refine q_iast (F := fun k9 => M 4 k9) (v := ((M 4 1) + 1)) hx hb hK hP hD hS 4 0 rfl rfl (by decide) (by omega) dX6_no_9 (fun H locs hP hD hS => ?_)
  have hP : va_P (dC, dI) vwCl (wMo g q (mset M 4 1 ((M 4 1) + 1))) H := hP
  have hD : va_D A (wMo g q (mset M 4 1 ((M 4 1) + 1))) := hD
  refine q_bipush hx hb dX6_no_10 rfl ?_
  have hPf : va_P (dC, dI) vwCl (wMo g q (mno M)) H := by rw [(show (mno M) = mset M 4 1 ((M 4 1) + 1) from by rfl)]; exact hP
  have hDf : va_D A (wMo g q (mno M)) := by rw [(show (mno M) = mset M 4 1 ((M 4 1) + 1) from by rfl)]; exact hD
  exact W.iret hx hb hr (fun t9 ht9 hW9 => ⟨⟨_, (), rfl, congrArg zI (show (-3) = -3 from rfl), by rw [ht9]; exact hPf, va_K.moved hW9.alike hK, hDf⟩, hS.F ht9⟩) hS.2.2 dX6_no_12
set_option maxHeartbeats 4000000 in
set_option maxRecDepth 100000 in
theorem kX6_full (l : Launch) (dC : Nat → ClassId) (dI : Nat → Nat → Nat) (g : Nat → ClassId) (tt : Nat → Nat) (sz : Nat) (q : Nat → Nat) (M : Nat → Int → Int) : Met l yX6_full wsX6_full ({ frames := 0, cells := 0, slots := 0, locals := 0 }) (va_Pc [.ref (q 0)] (eQ (dC, dI) (wTy g) (wMo g q M) tt sz)) (va_Qi (fun r (_ : Unit) => r = zI (-4)) (fQ (dC, dI) (wTy g) (va_A (wMo g q M) sz) (wMo g q (mfull M))) (va_A (wMo g q M) sz)) 0 0 (va_A (wMo g q M) sz) := by
  refine Met.ofW (cc := cX6_full) (maxL := 1) (ret := (some .int)) (by decide) rfl ?_
  intro p e s m args below meth c s₁ B hml hv
  obtain ⟨rfl, hsz, hP, hK, hD0, hT⟩ := hv
  have hx := B.exec
  have hb := B.bytes
  have hr := B.returns
  have hts := atoms_spec (ws := wsX6_full) B.pre
  have hown : s.vm.findClass RX6 = some m.cls := findClass_of_methodNamed B.named
  have hlocks := B.notSynchronized
  subst hsz
  have hD := hD0.self (sz := s.heap.size)
  generalize hAe : va_A (wMo g q M) s.heap.size = A at hD hT ⊢
  have hA : ∀ q : Nat, s.heap.size ≤ q → A q := fun q h => by rw [← hAe]; exact Or.inr h
  have hS : va_S A s.heap s.heap [] := va_S.rf
  have hl := lv_entry ([.ref (q 0)]) (n := 1) (Nat.le_of_ble_eq_true rfl)
  rw [lg_entry_eq]
  generalize (lg_sl ([.ref (q 0)]) ++ List.replicate (1 - (lg_sl ([.ref (q 0)])).length) Slot.unset).toArray = ls at hl ⊢
  have hl : lv_has ls 1 [(0, .ref (q 0))] := hl
  have kf20 := hts (.fieldLink RX6 20 "WrongWayModel" "refused" "[I") (by decide +kernel)
  have iX6 := (fun w h => List.mem_cons_of_mem _ (List.mem_append_right _ h) : ∀ w ∈ u_ws RX6 TX6 15, w ∈ wsX6_full)
  refine lv_aload_n hx hb dX6_full_0 rfl (lv_at hl 0 rfl) ?_
  refine va_get (D := (dC, dI)) (ci := 5) (v := .ref (q 4)) (C := RX6) (T := TX6) (N := 15) hx hb hts iX6 hown hK hP 0 rfl rfl 4 (by decide) kf20 (fun _ h9 => h9) rfl dX6_full_1 ?_
  refine q_iconst hx hb dX6_full_4 ?_
  refine lv_dup2_11 hx hb dX6_full_5 rfl rfl ?_
  refine q_iald (F := fun k9 => M 4 k9) (v := M 4 2) hx hb hK hP 4 0 rfl rfl (by decide) (by omega) (rfl) dX6_full_6 ?_
  refine q_iconst hx hb dX6_full_7 ?_
  refine q_iadd hx hb dX6_full_8 ?_
  refine q_iast (F := fun k9 => M 4 k9) (v := ((M 4 2) + 1)) hx hb hK hP hD hS 4 0 rfl rfl (by decide) (by omega) dX6_full_9 (fun H locs hP hD hS => ?_)
  have hP : va_P (dC, dI) vwCl (wMo g q (mset M 4 2 ((M 4 2) + 1))) H := hP
  have hD : va_D A (wMo g q (mset M 4 2 ((M 4 2) + 1))) := hD
  refine q_bipush hx hb dX6_full_10 rfl ?_
  have hPf : va_P (dC, dI) vwCl (wMo g q (mfull M)) H := by rw [(show (mfull M) = mset M 4 2 ((M 4 2) + 1) from by rfl)]; exact hP
  have hDf : va_D A (wMo g q (mfull M)) := by rw [(show (mfull M) = mset M 4 2 ((M 4 2) + 1) from by rfl)]; exact hD
  exact W.iret hx hb hr (fun t9 ht9 hW9 => ⟨⟨_, (), rfl, congrArg zI (show (-4) = -4 from rfl), by rw [ht9]; exact hPf, va_K.moved hW9.alike hK, hDf⟩, hS.F ht9⟩) hS.2.2 dX6_full_12
set_option maxHeartbeats 4000000 in
set_option maxRecDepth 100000 in
theorem kX6_badAs (l : Launch) (dC : Nat → ClassId) (dI : Nat → Nat → Nat) (g : Nat → ClassId) (tt : Nat → Nat) (sz : Nat) (q : Nat → Nat) (M : Nat → Int → Int) (x1 : Int) : Met l yX6_badAs wsX6_badAs ({ frames := 0, cells := 0, slots := 0, locals := 0 }) (va_Pc [.ref (q 0), .int (zI x1)] (eQ (dC, dI) (wTy g) (wMo g q M) tt sz)) (va_Qi (fun r (_ : Unit) => r = zI (x1)) (fQ (dC, dI) (wTy g) (va_A (wMo g q M) sz) (wMo g q (mbad M))) (va_A (wMo g q M) sz)) 0 0 (va_A (wMo g q M) sz) := by
  refine Met.ofW (cc := cX6_badAs) (maxL := 2) (ret := (some .int)) (by decide) rfl ?_
  intro p e s m args below meth c s₁ B hml hv
  obtain ⟨rfl, hsz, hP, hK, hD0, hT⟩ := hv
  have hx := B.exec
  have hb := B.bytes
  have hr := B.returns
  have hts := atoms_spec (ws := wsX6_badAs) B.pre
  have hown : s.vm.findClass RX6 = some m.cls := findClass_of_methodNamed B.named
  have hlocks := B.notSynchronized
  subst hsz
  have hD := hD0.self (sz := s.heap.size)
  generalize hAe : va_A (wMo g q M) s.heap.size = A at hD hT ⊢
  have hA : ∀ q : Nat, s.heap.size ≤ q → A q := fun q h => by rw [← hAe]; exact Or.inr h
  have hS : va_S A s.heap s.heap [] := va_S.rf
  have hl := lv_entry ([.ref (q 0), .int (zI x1)]) (n := 2) (Nat.le_of_ble_eq_true rfl)
  rw [lg_entry_eq]
  generalize (lg_sl ([.ref (q 0), .int (zI x1)]) ++ List.replicate (2 - (lg_sl ([.ref (q 0), .int (zI x1)])).length) Slot.unset).toArray = ls at hl ⊢
  have hl : lv_has ls 2 [(0, .ref (q 0)), (1, .int (zI x1))] := hl
  have kf20 := hts (.fieldLink RX6 20 "WrongWayModel" "refused" "[I") (by decide +kernel)
  have iX6 := (fun w h => List.mem_cons_of_mem _ (List.mem_append_right _ h) : ∀ w ∈ u_ws RX6 TX6 15, w ∈ wsX6_badAs)
  refine lv_aload_n hx hb dX6_badAs_0 rfl (lv_at hl 0 rfl) ?_
  refine va_get (D := (dC, dI)) (ci := 5) (v := .ref (q 4)) (C := RX6) (T := TX6) (N := 15) hx hb hts iX6 hown hK hP 0 rfl rfl 4 (by decide) kf20 (fun _ h9 => h9) rfl dX6_badAs_1 ?_
  refine q_iconst hx hb dX6_badAs_4 ?_
  refine lv_dup2_11 hx hb dX6_badAs_5 rfl rfl ?_
  refine q_iald (F := fun k9 => M 4 k9) (v := M 4 0) hx hb hK hP 4 0 rfl rfl (by decide) (by omega) (rfl) dX6_badAs_6 ?_
  refine q_iconst hx hb dX6_badAs_7 ?_
  refine q_iadd hx hb dX6_badAs_8 ?_
  refine q_iast (F := fun k9 => M 4 k9) (v := ((M 4 0) + 1)) hx hb hK hP hD hS 4 0 rfl rfl (by decide) (by omega) dX6_badAs_9 (fun H locs hP hD hS => ?_)
  have hP : va_P (dC, dI) vwCl (wMo g q (mset M 4 0 ((M 4 0) + 1))) H := hP
  have hD : va_D A (wMo g q (mset M 4 0 ((M 4 0) + 1))) := hD
  refine lv_iload_n hx hb dX6_badAs_10 rfl (lv_at hl 1 rfl) ?_
  have hPf : va_P (dC, dI) vwCl (wMo g q (mbad M)) H := by rw [(show (mbad M) = mset M 4 0 ((M 4 0) + 1) from by rfl)]; exact hP
  have hDf : va_D A (wMo g q (mbad M)) := by rw [(show (mbad M) = mset M 4 0 ((M 4 0) + 1) from by rfl)]; exact hD
  exact W.iret hx hb hr (fun t9 ht9 hW9 => ⟨⟨_, (), rfl, congrArg zI (show x1 = x1 from rfl), by rw [ht9]; exact hPf, va_K.moved hW9.alike hK, hDf⟩, hS.F ht9⟩) hS.2.2 dX6_badAs_11
set_option maxHeartbeats 4000000 in
set_option maxRecDepth 100000 in
theorem kX6_copy (l : Launch) (dC : Nat → ClassId) (dI : Nat → Nat → Nat) (g : Nat → ClassId) (tt : Nat → Nat) (sz : Nat) (q : Nat → Nat) (M : Nat → Int → Int) (x1 x2 : Int) (h1 : (0 ≤ x1 ∧ x1 ≤ 147) ∧ (0 ≤ x2 ∧ x2 ≤ 147)) (h2 : x1 + 49 ≤ x2 ∨ x2 + 49 ≤ x1) : Met l yX6_copy wsX6_copy ({ frames := 0, cells := 0, slots := 0, locals := 0 }) (va_Pc [.ref (q 0), .int (zI x1), .int (zI x2)] (eQ (dC, dI) (wTy g) (wMo g q M) tt sz)) (va_Qv (fun (_ : Unit) => True) (fQ (dC, dI) (wTy g) (va_A (wMo g q M) sz) (wMo g q (m_copy M x1 x2))) (va_A (wMo g q M) sz)) 0 0 (va_A (wMo g q M) sz) := by
  refine Met.ofW (cc := cX6_copy) (maxL := 4) (ret := none) (by decide) rfl ?_
  intro p e s m args below meth c s₁ B hml hv
  obtain ⟨rfl, hsz, hP, hK, hD0, hT⟩ := hv
  have hx := B.exec
  have hb := B.bytes
  have hr := B.returns
  have hts := atoms_spec (ws := wsX6_copy) B.pre
  have hown : s.vm.findClass RX6 = some m.cls := findClass_of_methodNamed B.named
  have hlocks := B.notSynchronized
  subst hsz
  have hD := hD0.self (sz := s.heap.size)
  generalize hAe : va_A (wMo g q M) s.heap.size = A at hD hT ⊢
  have hA : ∀ q : Nat, s.heap.size ≤ q → A q := fun q h => by rw [← hAe]; exact Or.inr h
  have hS : va_S A s.heap s.heap [] := va_S.rf
  have hl := lv_entry ([.ref (q 0), .int (zI x1), .int (zI x2)]) (n := 4) (Nat.le_of_ble_eq_true rfl)
  rw [lg_entry_eq]
  generalize (lg_sl ([.ref (q 0), .int (zI x1), .int (zI x2)]) ++ List.replicate (4 - (lg_sl ([.ref (q 0), .int (zI x1), .int (zI x2)])).length) Slot.unset).toArray = ls at hl ⊢
  have hl : lv_has ls 4 [(0, .ref (q 0)), (1, .int (zI x1)), (2, .int (zI x2))] := hl
  have kf7 := hts (.fieldLink RX6 7 "WrongWayModel" "w" "[I") (by decide +kernel)
  have iX6 := (fun w h => List.mem_cons_of_mem _ (List.mem_append_right _ h) : ∀ w ∈ u_ws RX6 TX6 15, w ∈ wsX6_copy)
  refine q_iconst hx hb dX6_copy_0 ?_
  refine lv_istore_n (lv' := [(3, .int (zI 0)), (0, .ref (q 0)), (1, .int (zI x1)), (2, .int (zI x2))]) hx hb dX6_copy_1 rfl hl (by decide) rfl (fun ls hl => ?_)
  refine w_loopQ (σ := Int) (fun a9 H locs ls => (0 ≤ a9 ∧ a9 ≤ 49) ∧ va_P (dC, dI) vwCl (wMo g q (m_cpN M x1 x2 a9)) H ∧ va_D A (wMo g q (m_cpN M x1 x2 a9)) ∧ va_S A s.heap H locs ∧ lv_has ls 4 [(0, .ref (q 0)), (1, .int (zI x1)), (2, .int (zI x2)), (3, .int (zI a9))]) (fun a9 => (49 - a9).toNat) ?_ (0) ?_
  · rintro k H locs ls ⟨hk, hP, hD, hS, hl⟩ ih2
    have hk : 0 ≤ k ∧ k ≤ 49 := hk
    have hP : va_P (dC, dI) vwCl (wMo g q (m_cpN M x1 x2 k)) H := hP
    have hD : va_D A (wMo g q (m_cpN M x1 x2 k)) := hD
    have hl : lv_has ls 4 [(0, .ref (q 0)), (1, .int (zI x1)), (2, .int (zI x2)), (3, .int (zI k))] := hl
    refine lv_iload_n hx hb dX6_copy_2 rfl (lv_at hl 3 rfl) ?_
    refine q_bipush hx hb dX6_copy_3 rfl ?_
    refine q_icmp_ge (tgt := 30) hx hb dX6_copy_5 (by decide) (by omega) (fun c_1 => ?_) (fun c_1 => ?_)
    · have hPf : va_P (dC, dI) vwCl (wMo g q (m_copy M x1 x2)) H := by rw [(show (m_copy M x1 x2) = m_cpN M x1 x2 k from by rw [show k = 49 by omega])]; exact hP
      have hDf : va_D A (wMo g q (m_copy M x1 x2)) := by rw [(show (m_copy M x1 x2) = m_cpN M x1 x2 k from by rw [show k = 49 by omega])]; exact hD
      exact W.vret hx hb hr (fun t9 ht9 hW9 => ⟨⟨(), rfl, trivial, by rw [ht9]; exact hPf, va_K.moved hW9.alike hK, hDf⟩, hS.F ht9⟩) hS.2.2 dX6_copy_30
    · refine lv_aload_n hx hb dX6_copy_8 rfl (lv_at hl 0 rfl) ?_
      refine va_get (D := (dC, dI)) (ci := 5) (v := .ref (q 1)) (C := RX6) (T := TX6) (N := 15) hx hb hts iX6 hown hK hP 0 rfl rfl 0 (by decide) kf7 (fun _ h9 => h9) rfl dX6_copy_9 ?_
      refine lv_iload_n hx hb dX6_copy_12 rfl (lv_at hl 2 rfl) ?_
      refine lv_iload_n hx hb dX6_copy_13 rfl (lv_at hl 3 rfl) ?_
      refine q_iadd hx hb dX6_copy_14 ?_
      refine lv_aload_n hx hb dX6_copy_15 rfl (lv_at hl 0 rfl) ?_
      refine va_get (D := (dC, dI)) (ci := 5) (v := .ref (q 1)) (C := RX6) (T := TX6) (N := 15) hx hb hts iX6 hown hK hP 0 rfl rfl 0 (by decide) kf7 (fun _ h9 => h9) rfl dX6_copy_16 ?_
      refine lv_iload_n hx hb dX6_copy_19 rfl (lv_at hl 1 rfl) ?_
      refine lv_iload_n hx hb dX6_copy_20 rfl (lv_at hl 3 rfl) ?_
      refine q_iadd hx hb dX6_copy_21 ?_
      refine q_iald (F := fun k9 => (m_cpN M x1 x2 k) 1 k9) (v := (m_cpN M x1 x2 k) 1 (x1 + k)) hx hb hK hP 1 0 rfl rfl (by decide) (by omega) (rfl) dX6_copy_22 ?_
      refine q_iast (F := fun k9 => (m_cpN M x1 x2 k) 1 k9) (v := ((m_cpN M x1 x2 k) 1 (x1 + k))) hx hb hK hP hD hS 1 0 rfl rfl (by decide) (by omega) dX6_copy_23 (fun H locs hP hD hS => ?_)
      have hP : va_P (dC, dI) vwCl (wMo g q (mset (m_cpN M x1 x2 k) 1 (x2 + k) ((m_cpN M x1 x2 k) 1 (x1 + k)))) H := hP
      have hD : va_D A (wMo g q (mset (m_cpN M x1 x2 k) 1 (x2 + k) ((m_cpN M x1 x2 k) 1 (x1 + k)))) := hD
      refine lv_iinc (v := zI (k + 1)) (lv' := [(3, .int (zI (k + 1))), (0, .ref (q 0)), (1, .int (zI x1)), (2, .int (zI x2))]) hx hb dX6_copy_24 hl (k := 3) rfl (zI_add _ _) (by decide) rfl (fun ls hl => ?_)
      refine lv_goto (tgt := 2) hx hb dX6_copy_27 (by decide) ?_
      exact ih2 (k + 1) _ _ ls ⟨(show 0 ≤ (k + 1) ∧ (k + 1) ≤ 49 from by omega), (show va_P (dC, dI) vwCl (wMo g q (m_cpN M x1 x2 (k + 1))) H from by rw [show (m_cpN M x1 x2 (k + 1)) = mset (m_cpN M x1 x2 k) 1 (x2 + k) ((m_cpN M x1 x2 k) 1 (x1 + k)) from m_cpS (by omega) h2]; exact hP), (show va_D A (wMo g q (m_cpN M x1 x2 (k + 1))) from by rw [show (m_cpN M x1 x2 (k + 1)) = mset (m_cpN M x1 x2 k) 1 (x2 + k) ((m_cpN M x1 x2 k) 1 (x1 + k)) from m_cpS (by omega) h2]; exact hD), hS, lv_sub hl [1, 2, 3, 0] rfl⟩ (by show (49 - (k + 1)).toNat < (49 - k).toNat; omega)
  · exact ⟨(show 0 ≤ 0 ∧ 0 ≤ 49 from by omega), (show va_P (dC, dI) vwCl (wMo g q (m_cpN M x1 x2 0)) s.heap from by rw [show (m_cpN M x1 x2 0) = M from m_cp0]; exact hP), (show va_D A (wMo g q (m_cpN M x1 x2 0)) from by rw [show (m_cpN M x1 x2 0) = M from m_cp0]; exact hD), hS, lv_sub hl [1, 2, 3, 0] rfl⟩
set_option maxHeartbeats 4000000 in
set_option maxRecDepth 100000 in
theorem kX6_begins (l : Launch) (dC : Nat → ClassId) (dI : Nat → Nat → Nat) (g : Nat → ClassId) (tt : Nat → Nat) (sz : Nat) (q : Nat → Nat) (M : Nat → Int → Int) (x1 x2 : Int) (h1 : 0 ≤ x1 ∧ x1 ≤ 147) : Met l yX6_begins wsX6_begins ({ frames := 0, cells := 0, slots := 0, locals := 0 }) (va_Pc [.ref (q 0), .int (zI x1), .int (zI x2)] (eQ (dC, dI) (wTy g) (wMo g q M) tt sz)) (va_Qv (fun (_ : Unit) => True) (fQ (dC, dI) (wTy g) (va_A (wMo g q M) sz) (wMo g q (m_beg M x1 x2))) (va_A (wMo g q M) sz)) 0 0 (va_A (wMo g q M) sz) := by
  refine Met.ofW (cc := cX6_begins) (maxL := 4) (ret := none) (by decide) rfl ?_
  intro p e s m args below meth c s₁ B hml hv
  obtain ⟨rfl, hsz, hP, hK, hD0, hT⟩ := hv
  have hx := B.exec
  have hb := B.bytes
  have hr := B.returns
  have hts := atoms_spec (ws := wsX6_begins) B.pre
  have hown : s.vm.findClass RX6 = some m.cls := findClass_of_methodNamed B.named
  have hlocks := B.notSynchronized
  subst hsz
  have hD := hD0.self (sz := s.heap.size)
  generalize hAe : va_A (wMo g q M) s.heap.size = A at hD hT ⊢
  have hA : ∀ q : Nat, s.heap.size ≤ q → A q := fun q h => by rw [← hAe]; exact Or.inr h
  have hS : va_S A s.heap s.heap [] := va_S.rf
  have hl := lv_entry ([.ref (q 0), .int (zI x1), .int (zI x2)]) (n := 4) (Nat.le_of_ble_eq_true rfl)
  rw [lg_entry_eq]
  generalize (lg_sl ([.ref (q 0), .int (zI x1), .int (zI x2)]) ++ List.replicate (4 - (lg_sl ([.ref (q 0), .int (zI x1), .int (zI x2)])).length) Slot.unset).toArray = ls at hl ⊢
  have hl : lv_has ls 4 [(0, .ref (q 0)), (1, .int (zI x1)), (2, .int (zI x2))] := hl
  have kf7 := hts (.fieldLink RX6 7 "WrongWayModel" "w" "[I") (by decide +kernel)
  have iX6 := (fun w h => List.mem_cons_of_mem _ (List.mem_append_right _ h) : ∀ w ∈ u_ws RX6 TX6 15, w ∈ wsX6_begins)
  refine q_iconst hx hb dX6_begins_0 ?_
  refine lv_istore_n (lv' := [(3, .int (zI 0)), (0, .ref (q 0)), (1, .int (zI x1)), (2, .int (zI x2))]) hx hb dX6_begins_1 rfl hl (by decide) rfl (fun ls hl => ?_)
  refine w_loopQ (σ := Int) (fun a9 H locs ls => (0 ≤ a9 ∧ a9 ≤ 49) ∧ va_P (dC, dI) vwCl (wMo g q (m_zN M x1 a9)) H ∧ va_D A (wMo g q (m_zN M x1 a9)) ∧ va_S A s.heap H locs ∧ lv_has ls 4 [(0, .ref (q 0)), (1, .int (zI x1)), (2, .int (zI x2)), (3, .int (zI a9))]) (fun a9 => (49 - a9).toNat) ?_ (0) ?_
  · rintro k H locs ls ⟨hk, hP, hD, hS, hl⟩ ih2
    have hk : 0 ≤ k ∧ k ≤ 49 := hk
    have hP : va_P (dC, dI) vwCl (wMo g q (m_zN M x1 k)) H := hP
    have hD : va_D A (wMo g q (m_zN M x1 k)) := hD
    have hl : lv_has ls 4 [(0, .ref (q 0)), (1, .int (zI x1)), (2, .int (zI x2)), (3, .int (zI k))] := hl
    refine lv_iload_n hx hb dX6_begins_2 rfl (lv_at hl 3 rfl) ?_
    refine q_bipush hx hb dX6_begins_3 rfl ?_
    refine q_icmp_ge (tgt := 23) hx hb dX6_begins_5 (by decide) (by omega) (fun c_1 => ?_) (fun c_1 => ?_)
    · refine lv_aload_n hx hb dX6_begins_23 rfl (lv_at hl 0 rfl) ?_
      refine va_get (D := (dC, dI)) (ci := 5) (v := .ref (q 1)) (C := RX6) (T := TX6) (N := 15) hx hb hts iX6 hown hK hP 0 rfl rfl 0 (by decide) kf7 (fun _ h9 => h9) rfl dX6_begins_24 ?_
      refine lv_iload_n hx hb dX6_begins_27 rfl (lv_at hl 1 rfl) ?_
      refine q_iconst hx hb dX6_begins_28 ?_
      refine q_iadd hx hb dX6_begins_29 ?_
      refine lv_iload_n hx hb dX6_begins_30 rfl (lv_at hl 2 rfl) ?_
      refine q_iast (F := fun k9 => (m_zN M x1 k) 1 k9) (v := x2) hx hb hK hP hD hS 1 0 rfl rfl (by decide) (by omega) dX6_begins_31 (fun H locs hP hD hS => ?_)
      have hP : va_P (dC, dI) vwCl (wMo g q (mset (m_zN M x1 k) 1 (x1 + 1) x2)) H := hP
      have hD : va_D A (wMo g q (mset (m_zN M x1 k) 1 (x1 + 1) x2)) := hD
      refine lv_aload_n hx hb dX6_begins_32 rfl (lv_at hl 0 rfl) ?_
      refine va_get (D := (dC, dI)) (ci := 5) (v := .ref (q 1)) (C := RX6) (T := TX6) (N := 15) hx hb hts iX6 hown hK hP 0 rfl rfl 0 (by decide) kf7 (fun _ h9 => h9) rfl dX6_begins_33 ?_
      refine lv_iload_n hx hb dX6_begins_36 rfl (lv_at hl 1 rfl) ?_
      refine q_bipush hx hb dX6_begins_37 rfl ?_
      refine q_iadd hx hb dX6_begins_39 ?_
      refine q_bipush hx hb dX6_begins_40 rfl ?_
      refine q_iast (F := fun k9 => (mset (m_zN M x1 k) 1 (x1 + 1) x2) 1 k9) (v := 10) hx hb hK hP hD hS 1 0 rfl rfl (by decide) (by omega) dX6_begins_42 (fun H locs hP hD hS => ?_)
      have hP : va_P (dC, dI) vwCl (wMo g q (mset (mset (m_zN M x1 k) 1 (x1 + 1) x2) 1 (x1 + 13) 10)) H := hP
      have hD : va_D A (wMo g q (mset (mset (m_zN M x1 k) 1 (x1 + 1) x2) 1 (x1 + 13) 10)) := hD
      refine lv_aload_n hx hb dX6_begins_43 rfl (lv_at hl 0 rfl) ?_
      refine va_get (D := (dC, dI)) (ci := 5) (v := .ref (q 1)) (C := RX6) (T := TX6) (N := 15) hx hb hts iX6 hown hK hP 0 rfl rfl 0 (by decide) kf7 (fun _ h9 => h9) rfl dX6_begins_44 ?_
      refine lv_iload_n hx hb dX6_begins_47 rfl (lv_at hl 1 rfl) ?_
      refine q_bipush hx hb dX6_begins_48 rfl ?_
      refine q_iadd hx hb dX6_begins_50 ?_
      refine q_iconst hx hb dX6_begins_51 ?_
      refine q_iadd hx hb dX6_begins_52 ?_
      refine q_bipush hx hb dX6_begins_53 rfl ?_
      refine q_iast (F := fun k9 => (mset (mset (m_zN M x1 k) 1 (x1 + 1) x2) 1 (x1 + 13) 10) 1 k9) (v := 10) hx hb hK hP hD hS 1 0 rfl rfl (by decide) (by omega) dX6_begins_55 (fun H locs hP hD hS => ?_)
      have hP : va_P (dC, dI) vwCl (wMo g q (mset (mset (mset (m_zN M x1 k) 1 (x1 + 1) x2) 1 (x1 + 13) 10) 1 ((x1 + 13) + 1) 10)) H := hP
      have hD : va_D A (wMo g q (mset (mset (mset (m_zN M x1 k) 1 (x1 + 1) x2) 1 (x1 + 13) 10) 1 ((x1 + 13) + 1) 10)) := hD
      have hPf : va_P (dC, dI) vwCl (wMo g q (m_beg M x1 x2)) H := by rw [(show (m_beg M x1 x2) = mset (mset (mset (m_zN M x1 k) 1 (x1 + 1) x2) 1 (x1 + 13) 10) 1 ((x1 + 13) + 1) 10 from by rw [show k = 49 by omega]; rfl)]; exact hP
      have hDf : va_D A (wMo g q (m_beg M x1 x2)) := by rw [(show (m_beg M x1 x2) = mset (mset (mset (m_zN M x1 k) 1 (x1 + 1) x2) 1 (x1 + 13) 10) 1 ((x1 + 13) + 1) 10 from by rw [show k = 49 by omega]; rfl)]; exact hD
      exact W.vret hx hb hr (fun t9 ht9 hW9 => ⟨⟨(), rfl, trivial, by rw [ht9]; exact hPf, va_K.moved hW9.alike hK, hDf⟩, hS.F ht9⟩) hS.2.2 dX6_begins_56
    · refine lv_aload_n hx hb dX6_begins_8 rfl (lv_at hl 0 rfl) ?_
      refine va_get (D := (dC, dI)) (ci := 5) (v := .ref (q 1)) (C := RX6) (T := TX6) (N := 15) hx hb hts iX6 hown hK hP 0 rfl rfl 0 (by decide) kf7 (fun _ h9 => h9) rfl dX6_begins_9 ?_
      refine lv_iload_n hx hb dX6_begins_12 rfl (lv_at hl 1 rfl) ?_
      refine lv_iload_n hx hb dX6_begins_13 rfl (lv_at hl 3 rfl) ?_
      refine q_iadd hx hb dX6_begins_14 ?_
      refine q_iconst hx hb dX6_begins_15 ?_
      refine q_iast (F := fun k9 => (m_zN M x1 k) 1 k9) (v := 0) hx hb hK hP hD hS 1 0 rfl rfl (by decide) (by omega) dX6_begins_16 (fun H locs hP hD hS => ?_)
      have hP : va_P (dC, dI) vwCl (wMo g q (mset (m_zN M x1 k) 1 (x1 + k) 0)) H := hP
      have hD : va_D A (wMo g q (mset (m_zN M x1 k) 1 (x1 + k) 0)) := hD
      refine lv_iinc (v := zI (k + 1)) (lv' := [(3, .int (zI (k + 1))), (0, .ref (q 0)), (1, .int (zI x1)), (2, .int (zI x2))]) hx hb dX6_begins_17 hl (k := 3) rfl (zI_add _ _) (by decide) rfl (fun ls hl => ?_)
      refine lv_goto (tgt := 2) hx hb dX6_begins_20 (by decide) ?_
      exact ih2 (k + 1) _ _ ls ⟨(show 0 ≤ (k + 1) ∧ (k + 1) ≤ 49 from by omega), (show va_P (dC, dI) vwCl (wMo g q (m_zN M x1 (k + 1))) H from by rw [show (m_zN M x1 (k + 1)) = mset (m_zN M x1 k) 1 (x1 + k) 0 from m_zS (by omega)]; exact hP), (show va_D A (wMo g q (m_zN M x1 (k + 1))) from by rw [show (m_zN M x1 (k + 1)) = mset (m_zN M x1 k) 1 (x1 + k) 0 from m_zS (by omega)]; exact hD), hS, lv_sub hl [1, 2, 3, 0] rfl⟩ (by show (49 - (k + 1)).toNat < (49 - k).toNat; omega)
  · exact ⟨(show 0 ≤ 0 ∧ 0 ≤ 49 from by omega), (show va_P (dC, dI) vwCl (wMo g q (m_zN M x1 0)) s.heap from by rw [show (m_zN M x1 0) = M from m_z0]; exact hP), (show va_D A (wMo g q (m_zN M x1 0)) from by rw [show (m_zN M x1 0) = M from m_z0]; exact hD), hS, lv_sub hl [1, 2, 3, 0] rfl⟩
set_option maxHeartbeats 4000000 in
set_option maxRecDepth 100000 in
theorem kX6_isFloor (l : Launch) (dC : Nat → ClassId) (dI : Nat → Nat → Nat) (g : Nat → ClassId) (tt : Nat → Nat) (q : Nat → Nat) (M : Nat → Int → Int) (x1 : Int) (hw : hok (M 1)) (h1 : rI x1) : Met l yX6_isFloor wsX6_isFloor ({ frames := 1, cells := 0, slots := 0, locals := 25 }) (va_Pc [.ref (q 0), .int (zI x1)] (eS (dC, dI) (wTy g) (wMo g q M) tt)) (vp_Si (fun r => r = zI (bz (0 ≤ x1 ∧ x1 ≤ M 1 1)))) 0 0 (fun _ => False) := by
  refine Met.ofW (cc := cX6_isFloor) (maxL := 2) (ret := (some .boolean)) (by decide) rfl ?_
  intro p e s m args below meth c s₁ B hml hv
  obtain ⟨rfl, hP, hK, hT⟩ := hv
  have hx := B.exec
  have hb := B.bytes
  have hr := B.returns
  have hts := atoms_spec (ws := wsX6_isFloor) B.pre
  have hown : s.vm.findClass RX6 = some m.cls := findClass_of_methodNamed B.named
  have hlocks := B.notSynchronized
  have hS : va_S (fun _ : Nat => False) s.heap s.heap [] := va_S.rf
  have hl := lv_entry ([.ref (q 0), .int (zI x1)]) (n := 2) (Nat.le_of_ble_eq_true rfl)
  rw [lg_entry_eq]
  generalize (lg_sl ([.ref (q 0), .int (zI x1)]) ++ List.replicate (2 - (lg_sl ([.ref (q 0), .int (zI x1)])).length) Slot.unset).toArray = ls at hl ⊢
  have hl : lv_has ls 2 [(0, .ref (q 0)), (1, .int (zI x1))] := hl
  have kf7 := hts (.fieldLink RX6 7 "WrongWayModel" "w" "[I") (by decide +kernel)
  have iX6 := (fun w h => List.mem_cons_of_mem _ (List.mem_append_right _ h) : ∀ w ∈ u_ws RX6 TX6 15, w ∈ wsX6_isFloor)
  have hb0 := hw.b
  refine lv_iload_n hx hb dX6_isFloor_0 rfl (lv_at hl 1 rfl) ?_
  refine q_i2l hx hb dX6_isFloor_1 (by omega) ?_
  refine q_lconst hx hb 0 dX6_isFloor_2 rfl ?_
  refine lv_aload_n hx hb dX6_isFloor_3 rfl (lv_at hl 0 rfl) ?_
  refine va_get (D := (dC, dI)) (ci := 5) (v := .ref (q 1)) (C := RX6) (T := TX6) (N := 15) hx hb hts iX6 hown hK hP 0 rfl rfl 0 (by decide) kf7 (fun _ h9 => h9) rfl dX6_isFloor_4 ?_
  refine q_iconst hx hb dX6_isFloor_7 ?_
  refine q_iald (F := fun k9 => M 1 k9) (v := M 1 1) hx hb hK hP 1 0 rfl rfl (by decide) (by omega) (rfl) dX6_isFloor_8 ?_
  refine q_i2l hx hb dX6_isFloor_9 (by omega) ?_
  refine q_cSi (z := bz (0 ≤ x1 ∧ x1 ≤ (M 1 1))) (As := [.long (zL x1), .long (zL 0), .long (zL (M 1 1))]) (rest := []) ⟨hx, hb, hml, hown, hts⟩ (kX6_in l dC dI g tt x1 0 (M 1 1) (by omega)) (va_cwS 3 hts gX6_isFloor_X6_in rfl rfl rfl (by decide +kernel) ⟨Nat.le_of_ble_eq_true rfl, Nat.le_of_ble_eq_true rfl⟩) (hP.sub (ws' := []) [] rfl) hK hT hS rfl hl.1 rfl (Nat.le_of_ble_eq_true rfl) dX6_isFloor_10 ⟨Nat.le_of_ble_eq_true rfl, Nat.le_of_ble_eq_true rfl⟩ ?_
  exact W.zret hx hb hr bz_nar (fun t9 ht9 hW9 => ⟨_, rfl, congrArg zI (bz_c (Iff.rfl)), ht9⟩) hS.2.2 dX6_isFloor_13
set_option maxHeartbeats 4000000 in
set_option maxRecDepth 100000 in
theorem kX6_isLift (l : Launch) (dC : Nat → ClassId) (dI : Nat → Nat → Nat) (g : Nat → ClassId) (tt : Nat → Nat) (q : Nat → Nat) (M : Nat → Int → Int) (x1 : Int) (hw : hok (M 1)) (h1 : rI x1) : Met l yX6_isLift wsX6_isLift ({ frames := 1, cells := 0, slots := 0, locals := 25 }) (va_Pc [.ref (q 0), .int (zI x1)] (eS (dC, dI) (wTy g) (wMo g q M) tt)) (vp_Si (fun r => r = zI (bz (0 ≤ x1 ∧ x1 ≤ M 1 0 - 1)))) 0 0 (fun _ => False) := by
  refine Met.ofW (cc := cX6_isLift) (maxL := 2) (ret := (some .boolean)) (by decide) rfl ?_
  intro p e s m args below meth c s₁ B hml hv
  obtain ⟨rfl, hP, hK, hT⟩ := hv
  have hx := B.exec
  have hb := B.bytes
  have hr := B.returns
  have hts := atoms_spec (ws := wsX6_isLift) B.pre
  have hown : s.vm.findClass RX6 = some m.cls := findClass_of_methodNamed B.named
  have hlocks := B.notSynchronized
  have hS : va_S (fun _ : Nat => False) s.heap s.heap [] := va_S.rf
  have hl := lv_entry ([.ref (q 0), .int (zI x1)]) (n := 2) (Nat.le_of_ble_eq_true rfl)
  rw [lg_entry_eq]
  generalize (lg_sl ([.ref (q 0), .int (zI x1)]) ++ List.replicate (2 - (lg_sl ([.ref (q 0), .int (zI x1)])).length) Slot.unset).toArray = ls at hl ⊢
  have hl : lv_has ls 2 [(0, .ref (q 0)), (1, .int (zI x1))] := hl
  have kf7 := hts (.fieldLink RX6 7 "WrongWayModel" "w" "[I") (by decide +kernel)
  have iX6 := (fun w h => List.mem_cons_of_mem _ (List.mem_append_right _ h) : ∀ w ∈ u_ws RX6 TX6 15, w ∈ wsX6_isLift)
  have hb0 := hw.b
  refine lv_iload_n hx hb dX6_isLift_0 rfl (lv_at hl 1 rfl) ?_
  refine q_i2l hx hb dX6_isLift_1 (by omega) ?_
  refine q_lconst hx hb 0 dX6_isLift_2 rfl ?_
  refine lv_aload_n hx hb dX6_isLift_3 rfl (lv_at hl 0 rfl) ?_
  refine va_get (D := (dC, dI)) (ci := 5) (v := .ref (q 1)) (C := RX6) (T := TX6) (N := 15) hx hb hts iX6 hown hK hP 0 rfl rfl 0 (by decide) kf7 (fun _ h9 => h9) rfl dX6_isLift_4 ?_
  refine q_iconst hx hb dX6_isLift_7 ?_
  refine q_iald (F := fun k9 => M 1 k9) (v := M 1 0) hx hb hK hP 1 0 rfl rfl (by decide) (by omega) (rfl) dX6_isLift_8 ?_
  refine q_iconst hx hb dX6_isLift_9 ?_
  refine q_isub hx hb dX6_isLift_10 ?_
  refine q_i2l hx hb dX6_isLift_11 (by omega) ?_
  refine q_cSi (z := bz (0 ≤ x1 ∧ x1 ≤ ((M 1 0) - 1))) (As := [.long (zL x1), .long (zL 0), .long (zL ((M 1 0) - 1))]) (rest := []) ⟨hx, hb, hml, hown, hts⟩ (kX6_in l dC dI g tt x1 0 ((M 1 0) - 1) (by omega)) (va_cwS 3 hts gX6_isLift_X6_in rfl rfl rfl (by decide +kernel) ⟨Nat.le_of_ble_eq_true rfl, Nat.le_of_ble_eq_true rfl⟩) (hP.sub (ws' := []) [] rfl) hK hT hS rfl hl.1 rfl (Nat.le_of_ble_eq_true rfl) dX6_isLift_12 ⟨Nat.le_of_ble_eq_true rfl, Nat.le_of_ble_eq_true rfl⟩ ?_
  exact W.zret hx hb hr bz_nar (fun t9 ht9 hW9 => ⟨_, rfl, congrArg zI (bz_c (Iff.rfl)), ht9⟩) hS.2.2 dX6_isLift_15
set_option maxHeartbeats 4000000 in
set_option maxRecDepth 100000 in
theorem kX6_isMinute (l : Launch) (dC : Nat → ClassId) (dI : Nat → Nat → Nat) (g : Nat → ClassId) (tt : Nat → Nat) (x1 : Int) (h1 : rI x1) : Met l yX6_isMinute wsX6_isMinute ({ frames := 1, cells := 0, slots := 0, locals := 25 }) (va_Pc [.int (zI x1)] (eS (dC, dI) (wTy g) ([]) tt)) (vp_Si (fun r => r = zI (bz (0 ≤ x1 ∧ x1 ≤ 999)))) 0 0 (fun _ => False) := by
  refine Met.ofW (cc := cX6_isMinute) (maxL := 1) (ret := (some .boolean)) (by decide) rfl ?_
  intro p e s m args below meth c s₁ B hml hv
  obtain ⟨rfl, hP, hK, hT⟩ := hv
  have hx := B.exec
  have hb := B.bytes
  have hr := B.returns
  have hts := atoms_spec (ws := wsX6_isMinute) B.pre
  have hown : s.vm.findClass RX6 = some m.cls := findClass_of_methodNamed B.named
  have hlocks := B.notSynchronized
  have hS : va_S (fun _ : Nat => False) s.heap s.heap [] := va_S.rf
  have hl := lv_entry ([.int (zI x1)]) (n := 1) (Nat.le_of_ble_eq_true rfl)
  rw [lg_entry_eq]
  generalize (lg_sl ([.int (zI x1)]) ++ List.replicate (1 - (lg_sl ([.int (zI x1)])).length) Slot.unset).toArray = ls at hl ⊢
  have hl : lv_has ls 1 [(0, .int (zI x1))] := hl
  have kc38 := hts (.constantLong RX6 38 (999)) (by decide +kernel)
  refine lv_iload_n hx hb dX6_isMinute_0 rfl (lv_at hl 0 rfl) ?_
  refine q_i2l hx hb dX6_isMinute_1 (by omega) ?_
  refine q_lconst hx hb 0 dX6_isMinute_2 rfl ?_
  refine q_ldc2 hx hb 999 hown kc38 (by decide) dX6_isMinute_3 ?_
  refine q_cSi (z := bz (0 ≤ x1 ∧ x1 ≤ 999)) (As := [.long (zL x1), .long (zL 0), .long (zL 999)]) (rest := []) ⟨hx, hb, hml, hown, hts⟩ (kX6_in l dC dI g tt x1 0 999 (by omega)) (va_cwS 3 hts gX6_isMinute_X6_in rfl rfl rfl (by decide +kernel) ⟨Nat.le_of_ble_eq_true rfl, Nat.le_of_ble_eq_true rfl⟩) hP hK hT hS rfl hl.1 rfl (Nat.le_of_ble_eq_true rfl) dX6_isMinute_6 ⟨Nat.le_of_ble_eq_true rfl, Nat.le_of_ble_eq_true rfl⟩ ?_
  exact W.zret hx hb hr bz_nar (fun t9 ht9 hW9 => ⟨_, rfl, congrArg zI (bz_c (Iff.rfl)), ht9⟩) hS.2.2 dX6_isMinute_9
set_option maxHeartbeats 4000000 in
set_option maxRecDepth 100000 in
theorem kX6_house (l : Launch) (dC : Nat → ClassId) (dI : Nat → Nat → Nat) (g : Nat → ClassId) (tt : Nat → Nat) (sz : Nat) (q : Nat → Nat) (M : Nat → Int → Int) (x1 : Int) (h1 : rI x1) : Met l yX6_house wsX6_house ({ frames := 1, cells := 0, slots := 0, locals := 25 }) (va_Pc [.ref (q 0), .int (zI x1)] (eQ (dC, dI) (wTy g) (wMo g q M) tt sz)) (va_Qi (fun r (_ : Unit) => r = zI (ca_house (M 1) x1)) (fQ (dC, dI) (wTy g) (va_A (wMo g q M) sz) (wMo g q (m_house M x1))) (va_A (wMo g q M) sz)) 0 0 (va_A (wMo g q M) sz) := by
  refine Met.ofW (cc := cX6_house) (maxL := 3) (ret := (some .int)) (by decide) rfl ?_
  intro p e s m args below meth c s₁ B hml hv
  obtain ⟨rfl, hsz, hP, hK, hD0, hT⟩ := hv
  have hx := B.exec
  have hb := B.bytes
  have hr := B.returns
  have hts := atoms_spec (ws := wsX6_house) B.pre
  have hown : s.vm.findClass RX6 = some m.cls := findClass_of_methodNamed B.named
  have hlocks := B.notSynchronized
  subst hsz
  have hD := hD0.self (sz := s.heap.size)
  generalize hAe : va_A (wMo g q M) s.heap.size = A at hD hT ⊢
  have hA : ∀ q : Nat, s.heap.size ≤ q → A q := fun q h => by rw [← hAe]; exact Or.inr h
  have hS : va_S A s.heap s.heap [] := va_S.rf
  have hl := lv_entry ([.ref (q 0), .int (zI x1)]) (n := 3) (Nat.le_of_ble_eq_true rfl)
  rw [lg_entry_eq]
  generalize (lg_sl ([.ref (q 0), .int (zI x1)]) ++ List.replicate (3 - (lg_sl ([.ref (q 0), .int (zI x1)])).length) Slot.unset).toArray = ls at hl ⊢
  have hl : lv_has ls 3 [(0, .ref (q 0)), (1, .int (zI x1))] := hl
  have kc40 := hts (.constantLong RX6 40 (11)) (by decide +kernel)
  have kf7 := hts (.fieldLink RX6 7 "WrongWayModel" "w" "[I") (by decide +kernel)
  have iX6 := (fun w h => List.mem_cons_of_mem _ (List.mem_append_right _ h) : ∀ w ∈ u_ws RX6 TX6 15, w ∈ wsX6_house)
  refine lv_iload_n hx hb dX6_house_0 rfl (lv_at hl 1 rfl) ?_
  refine q_i2l hx hb dX6_house_1 (by omega) ?_
  refine q_lconst hx hb 1 dX6_house_2 rfl ?_
  refine q_ldc2 hx hb 11 hown kc40 (by decide) dX6_house_3 ?_
  refine q_cSi (z := bz (1 ≤ x1 ∧ x1 ≤ 11)) (As := [.long (zL x1), .long (zL 1), .long (zL 11)]) (rest := []) ⟨hx, hb, hml, hown, hts⟩ (kX6_in l dC dI g tt x1 1 11 (by omega)) (va_cwS 3 hts gX6_house_X6_in rfl rfl rfl (by decide +kernel) ⟨Nat.le_of_ble_eq_true rfl, Nat.le_of_ble_eq_true rfl⟩) (hP.sub (ws' := []) [] rfl) hK hT hS rfl hl.1 rfl (Nat.le_of_ble_eq_true rfl) dX6_house_6 ⟨Nat.le_of_ble_eq_true rfl, Nat.le_of_ble_eq_true rfl⟩ ?_
  refine q_bz_ne (tgt := 17) hx hb dX6_house_9 (by decide) (fun c_1 => ?_) (fun c_1 => ?_)
  · refine lv_aload_n hx hb dX6_house_17 rfl (lv_at hl 0 rfl) ?_
    refine va_get (D := (dC, dI)) (ci := 5) (v := .ref (q 1)) (C := RX6) (T := TX6) (N := 15) hx hb hts iX6 hown hK hP 0 rfl rfl 0 (by decide) kf7 (fun _ h9 => h9) rfl dX6_house_18 ?_
    refine q_iconst hx hb dX6_house_21 ?_
    refine q_iald (F := fun k9 => M 1 k9) (v := M 1 0) hx hb hK hP 1 0 rfl rfl (by decide) (by omega) (rfl) dX6_house_22 ?_
    refine lv_istore_n (lv' := [(2, .int (zI (M 1 0))), (0, .ref (q 0)), (1, .int (zI x1))]) hx hb dX6_house_23 rfl hl (by decide) rfl (fun ls hl => ?_)
    refine lv_aload_n hx hb dX6_house_24 rfl (lv_at hl 1 rfl) ?_
    refine q_iconst hx hb dX6_house_25 ?_
    refine lv_iload_n hx hb dX6_house_26 rfl (lv_at hl 2 rfl) ?_
    refine q_cEv (b := (q 0)) (As := [.int (zI 0), .int (zI x1)]) (rest := []) (w1 := wMo g q (m_beg M 0 x1)) ⟨hx, hb, hml, hown, hts⟩ hP hD hK hT hS hA (kX6_begins l dC dI g tt _ q M 0 x1 (by omega)) (cwV 2 hts gX6_house_X6_begins rfl rfl rfl (by decide +kernel) ⟨Nat.le_of_ble_eq_true rfl, Nat.le_of_ble_eq_true rfl⟩) 0 5 rfl rfl rfl rfl hl.1 rfl (Nat.le_of_ble_eq_true rfl) dX6_house_27 ⟨Nat.le_of_ble_eq_true rfl, Nat.le_of_ble_eq_true rfl⟩ (fun H locs hP hD hS => ?_)
    refine lv_iload_n hx hb dX6_house_30 rfl (lv_at hl 0 rfl) ?_
    have hPf : va_P (dC, dI) vwCl (wMo g q (m_house M x1)) H := by rw [(show (m_house M x1) = m_beg M 0 x1 from by unfold m_house; (repeat' split) <;> first | rfl | (exfalso; omega))]; exact hP
    have hDf : va_D A (wMo g q (m_house M x1)) := by rw [(show (m_house M x1) = m_beg M 0 x1 from by unfold m_house; (repeat' split) <;> first | rfl | (exfalso; omega))]; exact hD
    exact W.iret hx hb hr (fun t9 ht9 hW9 => ⟨⟨_, (), rfl, congrArg zI (show M 1 0 = ca_house (M 1) x1 from by unfold ca_house; (repeat' split) <;> first | rfl | omega | (exfalso; omega)), by rw [ht9]; exact hPf, va_K.moved hW9.alike hK, hDf⟩, hS.F ht9⟩) hS.2.2 dX6_house_31
  · refine lv_aload_n hx hb dX6_house_12 rfl (lv_at hl 0 rfl) ?_
    refine q_cEi (z := -2) (b := (q 0)) (As := []) (rest := []) (w1 := wMo g q (mbad M)) ⟨hx, hb, hml, hown, hts⟩ hP hD hK hT hS hA (kX6_bad l dC dI g tt _ q M) (cwV 0 hts gX6_house_X6_bad rfl rfl rfl (by decide +kernel) ⟨Nat.le_of_ble_eq_true rfl, Nat.le_of_ble_eq_true rfl⟩) 0 5 rfl rfl rfl rfl hl.1 rfl (Nat.le_of_ble_eq_true rfl) dX6_house_13 ⟨Nat.le_of_ble_eq_true rfl, Nat.le_of_ble_eq_true rfl⟩ (fun H locs hP hD hS => ?_)
    have hPf : va_P (dC, dI) vwCl (wMo g q (m_house M x1)) H := by rw [(show (m_house M x1) = mbad M from by unfold m_house; (repeat' split) <;> first | rfl | (exfalso; omega))]; exact hP
    have hDf : va_D A (wMo g q (m_house M x1)) := by rw [(show (m_house M x1) = mbad M from by unfold m_house; (repeat' split) <;> first | rfl | (exfalso; omega))]; exact hD
    exact W.iret hx hb hr (fun t9 ht9 hW9 => ⟨⟨_, (), rfl, congrArg zI (show -2 = ca_house (M 1) x1 from by unfold ca_house; (repeat' split) <;> first | rfl | omega | (exfalso; omega)), by rw [ht9]; exact hPf, va_K.moved hW9.alike hK, hDf⟩, hS.F ht9⟩) hS.2.2 dX6_house_16
set_option maxHeartbeats 4000000 in
set_option maxRecDepth 100000 in
theorem kX6_adds (l : Launch) (dC : Nat → ClassId) (dI : Nat → Nat → Nat) (g : Nat → ClassId) (tt : Nat → Nat) (sz : Nat) (q : Nat → Nat) (M : Nat → Int → Int) (x1 x2 x3 : Int) (h1 : 0 ≤ x1 ∧ x1 ≤ 147) (h2 : 0 ≤ M 1 (x1 + 0) ∧ M 1 (x1 + 0) < 4) : Met l yX6_adds wsX6_adds ({ frames := 0, cells := 0, slots := 0, locals := 0 }) (va_Pc [.ref (q 0), .int (zI x1), .int (zI x2), .int (zI x3)] (eQ (dC, dI) (wTy g) (wMo g q M) tt sz)) (va_Qi (fun r (_ : Unit) => r = zI (M 1 (x1 + 0))) (fQ (dC, dI) (wTy g) (va_A (wMo g q M) sz) (wMo g q (m_adds M x1 x2 x3))) (va_A (wMo g q M) sz)) 0 0 (va_A (wMo g q M) sz) := by
  refine Met.ofW (cc := cX6_adds) (maxL := 5) (ret := (some .int)) (by decide) rfl ?_
  intro p e s m args below meth c s₁ B hml hv
  obtain ⟨rfl, hsz, hP, hK, hD0, hT⟩ := hv
  have hx := B.exec
  have hb := B.bytes
  have hr := B.returns
  have hts := atoms_spec (ws := wsX6_adds) B.pre
  have hown : s.vm.findClass RX6 = some m.cls := findClass_of_methodNamed B.named
  have hlocks := B.notSynchronized
  subst hsz
  have hD := hD0.self (sz := s.heap.size)
  generalize hAe : va_A (wMo g q M) s.heap.size = A at hD hT ⊢
  have hA : ∀ q : Nat, s.heap.size ≤ q → A q := fun q h => by rw [← hAe]; exact Or.inr h
  have hS : va_S A s.heap s.heap [] := va_S.rf
  have hl := lv_entry ([.ref (q 0), .int (zI x1), .int (zI x2), .int (zI x3)]) (n := 5) (Nat.le_of_ble_eq_true rfl)
  rw [lg_entry_eq]
  generalize (lg_sl ([.ref (q 0), .int (zI x1), .int (zI x2), .int (zI x3)]) ++ List.replicate (5 - (lg_sl ([.ref (q 0), .int (zI x1), .int (zI x2), .int (zI x3)])).length) Slot.unset).toArray = ls at hl ⊢
  have hl : lv_has ls 5 [(0, .ref (q 0)), (1, .int (zI x1)), (2, .int (zI x2)), (3, .int (zI x3))] := hl
  have kf7 := hts (.fieldLink RX6 7 "WrongWayModel" "w" "[I") (by decide +kernel)
  have iX6 := (fun w h => List.mem_cons_of_mem _ (List.mem_append_right _ h) : ∀ w ∈ u_ws RX6 TX6 15, w ∈ wsX6_adds)
  refine lv_aload_n hx hb dX6_adds_0 rfl (lv_at hl 0 rfl) ?_
  refine va_get (D := (dC, dI)) (ci := 5) (v := .ref (q 1)) (C := RX6) (T := TX6) (N := 15) hx hb hts iX6 hown hK hP 0 rfl rfl 0 (by decide) kf7 (fun _ h9 => h9) rfl dX6_adds_1 ?_
  refine lv_iload_n hx hb dX6_adds_4 rfl (lv_at hl 1 rfl) ?_
  refine q_iconst hx hb dX6_adds_5 ?_
  refine q_iadd hx hb dX6_adds_6 ?_
  refine q_iald (F := fun k9 => M 1 k9) (v := M 1 (x1 + 0)) hx hb hK hP 1 0 rfl rfl (by decide) (by omega) (rfl) dX6_adds_7 ?_
  refine lv_istore (lv' := [(4, .int (zI (M 1 (x1 + 0)))), (0, .ref (q 0)), (1, .int (zI x1)), (2, .int (zI x2)), (3, .int (zI x3))]) hx hb dX6_adds_8 hl (by decide) rfl (fun ls hl => ?_)
  refine lv_aload_n hx hb dX6_adds_10 rfl (lv_at hl 1 rfl) ?_
  refine va_get (D := (dC, dI)) (ci := 5) (v := .ref (q 1)) (C := RX6) (T := TX6) (N := 15) hx hb hts iX6 hown hK hP 0 rfl rfl 0 (by decide) kf7 (fun _ h9 => h9) rfl dX6_adds_11 ?_
  refine lv_iload_n hx hb dX6_adds_14 rfl (lv_at hl 2 rfl) ?_
  refine q_iconst hx hb dX6_adds_15 ?_
  refine q_iadd hx hb dX6_adds_16 ?_
  refine lv_iload hx hb dX6_adds_17 (lv_at hl 0 rfl) ?_
  refine q_iadd hx hb dX6_adds_19 ?_
  refine lv_iload_n hx hb dX6_adds_20 rfl (lv_at hl 3 rfl) ?_
  refine q_iast (F := fun k9 => M 1 k9) (v := x2) hx hb hK hP hD hS 1 0 rfl rfl (by decide) (by omega) dX6_adds_21 (fun H locs hP hD hS => ?_)
  have hP : va_P (dC, dI) vwCl (wMo g q (mset M 1 ((x1 + 5) + (M 1 (x1 + 0))) x2)) H := hP
  have hD : va_D A (wMo g q (mset M 1 ((x1 + 5) + (M 1 (x1 + 0))) x2)) := hD
  refine lv_aload_n hx hb dX6_adds_22 rfl (lv_at hl 1 rfl) ?_
  refine va_get (D := (dC, dI)) (ci := 5) (v := .ref (q 1)) (C := RX6) (T := TX6) (N := 15) hx hb hts iX6 hown hK hP 0 rfl rfl 0 (by decide) kf7 (fun _ h9 => h9) rfl dX6_adds_23 ?_
  refine lv_iload_n hx hb dX6_adds_26 rfl (lv_at hl 2 rfl) ?_
  refine q_bipush hx hb dX6_adds_27 rfl ?_
  refine q_iadd hx hb dX6_adds_29 ?_
  refine lv_iload hx hb dX6_adds_30 (lv_at hl 0 rfl) ?_
  refine q_iadd hx hb dX6_adds_32 ?_
  refine lv_iload_n hx hb dX6_adds_33 rfl (lv_at hl 4 rfl) ?_
  refine q_iast (F := fun k9 => (mset M 1 ((x1 + 5) + (M 1 (x1 + 0))) x2) 1 k9) (v := x3) hx hb hK hP hD hS 1 0 rfl rfl (by decide) (by omega) dX6_adds_34 (fun H locs hP hD hS => ?_)
  have hP : va_P (dC, dI) vwCl (wMo g q (mset (mset M 1 ((x1 + 5) + (M 1 (x1 + 0))) x2) 1 ((x1 + 9) + (M 1 (x1 + 0))) x3)) H := hP
  have hD : va_D A (wMo g q (mset (mset M 1 ((x1 + 5) + (M 1 (x1 + 0))) x2) 1 ((x1 + 9) + (M 1 (x1 + 0))) x3)) := hD
  refine lv_aload_n hx hb dX6_adds_35 rfl (lv_at hl 1 rfl) ?_
  refine va_get (D := (dC, dI)) (ci := 5) (v := .ref (q 1)) (C := RX6) (T := TX6) (N := 15) hx hb hts iX6 hown hK hP 0 rfl rfl 0 (by decide) kf7 (fun _ h9 => h9) rfl dX6_adds_36 ?_
  refine lv_iload_n hx hb dX6_adds_39 rfl (lv_at hl 2 rfl) ?_
  refine q_iconst hx hb dX6_adds_40 ?_
  refine q_iadd hx hb dX6_adds_41 ?_
  refine lv_dup2_11 hx hb dX6_adds_42 rfl rfl ?_
  refine q_iald (F := fun k9 => (mset (mset M 1 ((x1 + 5) + (M 1 (x1 + 0))) x2) 1 ((x1 + 9) + (M 1 (x1 + 0))) x3) 1 k9) (v := (mset (mset M 1 ((x1 + 5) + (M 1 (x1 + 0))) x2) 1 ((x1 + 9) + (M 1 (x1 + 0))) x3) 1 (x1 + 0)) hx hb hK hP 1 0 rfl rfl (by decide) (by omega) (rfl) dX6_adds_43 ?_
  refine q_iconst hx hb dX6_adds_44 ?_
  refine q_iadd hx hb dX6_adds_45 ?_
  refine q_iast (F := fun k9 => (mset (mset M 1 ((x1 + 5) + (M 1 (x1 + 0))) x2) 1 ((x1 + 9) + (M 1 (x1 + 0))) x3) 1 k9) (v := (((mset (mset M 1 ((x1 + 5) + (M 1 (x1 + 0))) x2) 1 ((x1 + 9) + (M 1 (x1 + 0))) x3) 1 (x1 + 0)) + 1)) hx hb hK hP hD hS 1 0 rfl rfl (by decide) (by omega) dX6_adds_46 (fun H locs hP hD hS => ?_)
  have hP : va_P (dC, dI) vwCl (wMo g q (mset (mset (mset M 1 ((x1 + 5) + (M 1 (x1 + 0))) x2) 1 ((x1 + 9) + (M 1 (x1 + 0))) x3) 1 (x1 + 0) (((mset (mset M 1 ((x1 + 5) + (M 1 (x1 + 0))) x2) 1 ((x1 + 9) + (M 1 (x1 + 0))) x3) 1 (x1 + 0)) + 1))) H := hP
  have hD : va_D A (wMo g q (mset (mset (mset M 1 ((x1 + 5) + (M 1 (x1 + 0))) x2) 1 ((x1 + 9) + (M 1 (x1 + 0))) x3) 1 (x1 + 0) (((mset (mset M 1 ((x1 + 5) + (M 1 (x1 + 0))) x2) 1 ((x1 + 9) + (M 1 (x1 + 0))) x3) 1 (x1 + 0)) + 1))) := hD
  refine lv_iload hx hb dX6_adds_47 (lv_at hl 0 rfl) ?_
  have hPf : va_P (dC, dI) vwCl (wMo g q (m_adds M x1 x2 x3)) H := by rw [(show (m_adds M x1 x2 x3) = mset (mset (mset M 1 ((x1 + 5) + (M 1 (x1 + 0))) x2) 1 ((x1 + 9) + (M 1 (x1 + 0))) x3) 1 (x1 + 0) (((mset (mset M 1 ((x1 + 5) + (M 1 (x1 + 0))) x2) 1 ((x1 + 9) + (M 1 (x1 + 0))) x3) 1 (x1 + 0)) + 1) from by rfl)]; exact hP
  have hDf : va_D A (wMo g q (m_adds M x1 x2 x3)) := by rw [(show (m_adds M x1 x2 x3) = mset (mset (mset M 1 ((x1 + 5) + (M 1 (x1 + 0))) x2) 1 ((x1 + 9) + (M 1 (x1 + 0))) x3) 1 (x1 + 0) (((mset (mset M 1 ((x1 + 5) + (M 1 (x1 + 0))) x2) 1 ((x1 + 9) + (M 1 (x1 + 0))) x3) 1 (x1 + 0)) + 1) from by rfl)]; exact hD
  exact W.iret hx hb hr (fun t9 ht9 hW9 => ⟨⟨_, (), rfl, congrArg zI (show M 1 (x1 + 0) = M 1 (x1 + 0) from rfl), by rw [ht9]; exact hPf, va_K.moved hW9.alike hK, hDf⟩, hS.F ht9⟩) hS.2.2 dX6_adds_49
set_option maxHeartbeats 4000000 in
set_option maxRecDepth 100000 in
theorem kX6_lift (l : Launch) (dC : Nat → ClassId) (dI : Nat → Nat → Nat) (g : Nat → ClassId) (tt : Nat → Nat) (sz : Nat) (q : Nat → Nat) (M : Nat → Int → Int) (x1 x2 : Int) (hw : hok (M 1)) (h1 : rI x1 ∧ rI x2) : Met l yX6_lift wsX6_lift ({ frames := 1, cells := 0, slots := 0, locals := 25 }) (va_Pc [.ref (q 0), .int (zI x1), .int (zI x2)] (eQ (dC, dI) (wTy g) (wMo g q M) tt sz)) (va_Qi (fun r (_ : Unit) => r = zI (ca_lift (M 1) x1 x2)) (fQ (dC, dI) (wTy g) (va_A (wMo g q M) sz) (wMo g q (m_lift M x1 x2))) (va_A (wMo g q M) sz)) 0 0 (va_A (wMo g q M) sz) := by
  refine Met.ofW (cc := cX6_lift) (maxL := 3) (ret := (some .int)) (by decide) rfl ?_
  intro p e s m args below meth c s₁ B hml hv
  obtain ⟨rfl, hsz, hP, hK, hD0, hT⟩ := hv
  have hx := B.exec
  have hb := B.bytes
  have hr := B.returns
  have hts := atoms_spec (ws := wsX6_lift) B.pre
  have hown : s.vm.findClass RX6 = some m.cls := findClass_of_methodNamed B.named
  have hlocks := B.notSynchronized
  subst hsz
  have hD := hD0.self (sz := s.heap.size)
  generalize hAe : va_A (wMo g q M) s.heap.size = A at hD hT ⊢
  have hA : ∀ q : Nat, s.heap.size ≤ q → A q := fun q h => by rw [← hAe]; exact Or.inr h
  have hS : va_S A s.heap s.heap [] := va_S.rf
  have hl := lv_entry ([.ref (q 0), .int (zI x1), .int (zI x2)]) (n := 3) (Nat.le_of_ble_eq_true rfl)
  rw [lg_entry_eq]
  generalize (lg_sl ([.ref (q 0), .int (zI x1), .int (zI x2)]) ++ List.replicate (3 - (lg_sl ([.ref (q 0), .int (zI x1), .int (zI x2)])).length) Slot.unset).toArray = ls at hl ⊢
  have hl : lv_has ls 3 [(0, .ref (q 0)), (1, .int (zI x1)), (2, .int (zI x2))] := hl
  have kc46 := hts (.constantLong RX6 46 (5)) (by decide +kernel)
  have kc48 := hts (.constantLong RX6 48 (99)) (by decide +kernel)
  have kf7 := hts (.fieldLink RX6 7 "WrongWayModel" "w" "[I") (by decide +kernel)
  have iX6 := (fun w h => List.mem_cons_of_mem _ (List.mem_append_right _ h) : ∀ w ∈ u_ws RX6 TX6 15, w ∈ wsX6_lift)
  have hb0 := hw.b
  refine lv_iload_n hx hb dX6_lift_0 rfl (lv_at hl 1 rfl) ?_
  refine q_i2l hx hb dX6_lift_1 (by omega) ?_
  refine q_lconst hx hb 0 dX6_lift_2 rfl ?_
  refine q_ldc2 hx hb 5 hown kc46 (by decide) dX6_lift_3 ?_
  refine q_cSi (z := bz (0 ≤ x1 ∧ x1 ≤ 5)) (As := [.long (zL x1), .long (zL 0), .long (zL 5)]) (rest := []) ⟨hx, hb, hml, hown, hts⟩ (kX6_in l dC dI g tt x1 0 5 (by omega)) (va_cwS 3 hts gX6_lift_X6_in rfl rfl rfl (by decide +kernel) ⟨Nat.le_of_ble_eq_true rfl, Nat.le_of_ble_eq_true rfl⟩) (hP.sub (ws' := []) [] rfl) hK hT hS rfl hl.1 rfl (Nat.le_of_ble_eq_true rfl) dX6_lift_6 ⟨Nat.le_of_ble_eq_true rfl, Nat.le_of_ble_eq_true rfl⟩ ?_
  refine q_bz_eq (tgt := 24) hx hb dX6_lift_9 (by decide) (fun c_1 => ?_) (fun c_1 => ?_)
  · refine lv_aload_n hx hb dX6_lift_24 rfl (lv_at hl 0 rfl) ?_
    refine q_cEi (z := -2) (b := (q 0)) (As := []) (rest := []) (w1 := wMo g q (mbad M)) ⟨hx, hb, hml, hown, hts⟩ hP hD hK hT hS hA (kX6_bad l dC dI g tt _ q M) (cwV 0 hts gX6_lift_X6_bad rfl rfl rfl (by decide +kernel) ⟨Nat.le_of_ble_eq_true rfl, Nat.le_of_ble_eq_true rfl⟩) 0 5 rfl rfl rfl rfl hl.1 rfl (Nat.le_of_ble_eq_true rfl) dX6_lift_25 ⟨Nat.le_of_ble_eq_true rfl, Nat.le_of_ble_eq_true rfl⟩ (fun H locs hP hD hS => ?_)
    have hPf : va_P (dC, dI) vwCl (wMo g q (m_lift M x1 x2)) H := by rw [(show (m_lift M x1 x2) = mbad M from by unfold m_lift; (repeat' split) <;> first | rfl | (exfalso; omega))]; exact hP
    have hDf : va_D A (wMo g q (m_lift M x1 x2)) := by rw [(show (m_lift M x1 x2) = mbad M from by unfold m_lift; (repeat' split) <;> first | rfl | (exfalso; omega))]; exact hD
    exact W.iret hx hb hr (fun t9 ht9 hW9 => ⟨⟨_, (), rfl, congrArg zI (show -2 = ca_lift (M 1) x1 x2 from by first | (show M 1 0 = _; unfold ca_lift; (repeat' split) <;> omega) | (unfold ca_lift; (repeat' split) <;> omega)), by rw [ht9]; exact hPf, va_K.moved hW9.alike hK, hDf⟩, hS.F ht9⟩) hS.2.2 dX6_lift_28
  · refine lv_iload_n hx hb dX6_lift_12 rfl (lv_at hl 2 rfl) ?_
    refine q_i2l hx hb dX6_lift_13 (by omega) ?_
    refine q_lconst hx hb 0 dX6_lift_14 rfl ?_
    refine q_ldc2 hx hb 99 hown kc48 (by decide) dX6_lift_15 ?_
    refine q_cSi (z := bz (0 ≤ x2 ∧ x2 ≤ 99)) (As := [.long (zL x2), .long (zL 0), .long (zL 99)]) (rest := []) ⟨hx, hb, hml, hown, hts⟩ (kX6_in l dC dI g tt x2 0 99 (by omega)) (va_cwS 3 hts gX6_lift_X6_in rfl rfl rfl (by decide +kernel) ⟨Nat.le_of_ble_eq_true rfl, Nat.le_of_ble_eq_true rfl⟩) (hP.sub (ws' := []) [] rfl) hK hT hS rfl hl.1 rfl (Nat.le_of_ble_eq_true rfl) dX6_lift_18 ⟨Nat.le_of_ble_eq_true rfl, Nat.le_of_ble_eq_true rfl⟩ ?_
    refine q_bz_ne (tgt := 29) hx hb dX6_lift_21 (by decide) (fun c_2 => ?_) (fun c_2 => ?_)
    · refine lv_aload_n hx hb dX6_lift_29 rfl (lv_at hl 0 rfl) ?_
      refine va_get (D := (dC, dI)) (ci := 5) (v := .ref (q 1)) (C := RX6) (T := TX6) (N := 15) hx hb hts iX6 hown hK hP 0 rfl rfl 0 (by decide) kf7 (fun _ h9 => h9) rfl dX6_lift_30 ?_
      refine q_iconst hx hb dX6_lift_33 ?_
      refine q_iald (F := fun k9 => M 1 k9) (v := M 1 0) hx hb hK hP 1 0 rfl rfl (by decide) (by omega) (rfl) dX6_lift_34 ?_
      refine q_iconst hx hb dX6_lift_35 ?_
      refine q_icmp_ne (tgt := 44) hx hb dX6_lift_36 (by decide) (by omega) (fun c_3 => ?_) (fun c_3 => ?_)
      · refine lv_aload_n hx hb dX6_lift_44 rfl (lv_at hl 0 rfl) ?_
        refine va_get (D := (dC, dI)) (ci := 5) (v := .ref (q 1)) (C := RX6) (T := TX6) (N := 15) hx hb hts iX6 hown hK hP 0 rfl rfl 0 (by decide) kf7 (fun _ h9 => h9) rfl dX6_lift_45 ?_
        refine q_iconst hx hb dX6_lift_48 ?_
        refine q_iconst hx hb dX6_lift_49 ?_
        refine q_iast (F := fun k9 => M 1 k9) (v := 0) hx hb hK hP hD hS 1 0 rfl rfl (by decide) (by omega) dX6_lift_50 (fun H locs hP hD hS => ?_)
        have hP : va_P (dC, dI) vwCl (wMo g q (mset M 1 4 0)) H := hP
        have hD : va_D A (wMo g q (mset M 1 4 0)) := hD
        refine lv_aload_n hx hb dX6_lift_51 rfl (lv_at hl 0 rfl) ?_
        refine q_iconst hx hb dX6_lift_52 ?_
        refine lv_iload_n hx hb dX6_lift_53 rfl (lv_at hl 1 rfl) ?_
        refine lv_iload_n hx hb dX6_lift_54 rfl (lv_at hl 2 rfl) ?_
        refine q_cEi (z := (mset M 1 4 0) 1 (0 + 0)) (b := (q 0)) (As := [.int (zI 0), .int (zI x1), .int (zI x2)]) (rest := []) (w1 := wMo g q (m_adds (mset M 1 4 0) 0 x1 x2)) ⟨hx, hb, hml, hown, hts⟩ hP hD hK hT hS hA (kX6_adds l dC dI g tt _ q (mset M 1 4 0) 0 x1 x2 (by decide) (show 0 ≤ M 1 0 ∧ M 1 0 < 4 from by omega)) (cwV 3 hts gX6_lift_X6_adds rfl rfl rfl (by decide +kernel) ⟨Nat.le_of_ble_eq_true rfl, Nat.le_of_ble_eq_true rfl⟩) 0 5 rfl rfl rfl rfl hl.1 rfl (Nat.le_of_ble_eq_true rfl) dX6_lift_55 ⟨Nat.le_of_ble_eq_true rfl, Nat.le_of_ble_eq_true rfl⟩ (fun H locs hP hD hS => ?_)
        have hPf : va_P (dC, dI) vwCl (wMo g q (m_lift M x1 x2)) H := by rw [(show (m_lift M x1 x2) = m_adds (mset M 1 4 0) 0 x1 x2 from by unfold m_lift; (repeat' split) <;> first | rfl | (exfalso; omega))]; exact hP
        have hDf : va_D A (wMo g q (m_lift M x1 x2)) := by rw [(show (m_lift M x1 x2) = m_adds (mset M 1 4 0) 0 x1 x2 from by unfold m_lift; (repeat' split) <;> first | rfl | (exfalso; omega))]; exact hD
        exact W.iret hx hb hr (fun t9 ht9 hW9 => ⟨⟨_, (), rfl, congrArg zI (show (mset M 1 4 0) 1 (0 + 0) = ca_lift (M 1) x1 x2 from by first | (show M 1 0 = _; unfold ca_lift; (repeat' split) <;> omega) | (unfold ca_lift; (repeat' split) <;> omega)), by rw [ht9]; exact hPf, va_K.moved hW9.alike hK, hDf⟩, hS.F ht9⟩) hS.2.2 dX6_lift_58
      · refine lv_aload_n hx hb dX6_lift_39 rfl (lv_at hl 0 rfl) ?_
        refine q_cEi (z := -4) (b := (q 0)) (As := []) (rest := []) (w1 := wMo g q (mfull M)) ⟨hx, hb, hml, hown, hts⟩ hP hD hK hT hS hA (kX6_full l dC dI g tt _ q M) (cwV 0 hts gX6_lift_X6_full rfl rfl rfl (by decide +kernel) ⟨Nat.le_of_ble_eq_true rfl, Nat.le_of_ble_eq_true rfl⟩) 0 5 rfl rfl rfl rfl hl.1 rfl (Nat.le_of_ble_eq_true rfl) dX6_lift_40 ⟨Nat.le_of_ble_eq_true rfl, Nat.le_of_ble_eq_true rfl⟩ (fun H locs hP hD hS => ?_)
        have hPf : va_P (dC, dI) vwCl (wMo g q (m_lift M x1 x2)) H := by rw [(show (m_lift M x1 x2) = mfull M from by unfold m_lift; (repeat' split) <;> first | rfl | (exfalso; omega))]; exact hP
        have hDf : va_D A (wMo g q (m_lift M x1 x2)) := by rw [(show (m_lift M x1 x2) = mfull M from by unfold m_lift; (repeat' split) <;> first | rfl | (exfalso; omega))]; exact hD
        exact W.iret hx hb hr (fun t9 ht9 hW9 => ⟨⟨_, (), rfl, congrArg zI (show -4 = ca_lift (M 1) x1 x2 from by first | (show M 1 0 = _; unfold ca_lift; (repeat' split) <;> omega) | (unfold ca_lift; (repeat' split) <;> omega)), by rw [ht9]; exact hPf, va_K.moved hW9.alike hK, hDf⟩, hS.F ht9⟩) hS.2.2 dX6_lift_43
    · refine lv_aload_n hx hb dX6_lift_24 rfl (lv_at hl 0 rfl) ?_
      refine q_cEi (z := -2) (b := (q 0)) (As := []) (rest := []) (w1 := wMo g q (mbad M)) ⟨hx, hb, hml, hown, hts⟩ hP hD hK hT hS hA (kX6_bad l dC dI g tt _ q M) (cwV 0 hts gX6_lift_X6_bad rfl rfl rfl (by decide +kernel) ⟨Nat.le_of_ble_eq_true rfl, Nat.le_of_ble_eq_true rfl⟩) 0 5 rfl rfl rfl rfl hl.1 rfl (Nat.le_of_ble_eq_true rfl) dX6_lift_25 ⟨Nat.le_of_ble_eq_true rfl, Nat.le_of_ble_eq_true rfl⟩ (fun H locs hP hD hS => ?_)
      have hPf : va_P (dC, dI) vwCl (wMo g q (m_lift M x1 x2)) H := by rw [(show (m_lift M x1 x2) = mbad M from by unfold m_lift; (repeat' split) <;> first | rfl | (exfalso; omega))]; exact hP
      have hDf : va_D A (wMo g q (m_lift M x1 x2)) := by rw [(show (m_lift M x1 x2) = mbad M from by unfold m_lift; (repeat' split) <;> first | rfl | (exfalso; omega))]; exact hD
      exact W.iret hx hb hr (fun t9 ht9 hW9 => ⟨⟨_, (), rfl, congrArg zI (show -2 = ca_lift (M 1) x1 x2 from by first | (show M 1 0 = _; unfold ca_lift; (repeat' split) <;> omega) | (unfold ca_lift; (repeat' split) <;> omega)), by rw [ht9]; exact hPf, va_K.moved hW9.alike hK, hDf⟩, hS.F ht9⟩) hS.2.2 dX6_lift_28
set_option maxHeartbeats 4000000 in
set_option maxRecDepth 100000 in
theorem kX6_line (l : Launch) (dC : Nat → ClassId) (dI : Nat → Nat → Nat) (g : Nat → ClassId) (tt : Nat → Nat) (sz : Nat) (q : Nat → Nat) (M : Nat → Int → Int) (x1 x2 x3 : Int) (h1 : rI x1 ∧ rI x2 ∧ rI x3) : Met l yX6_line wsX6_line ({ frames := 1, cells := 0, slots := 0, locals := 25 }) (va_Pc [.ref (q 0), .int (zI x1), .int (zI x2), .int (zI x3)] (eQ (dC, dI) (wTy g) (wMo g q M) tt sz)) (va_Qi (fun r (_ : Unit) => r = zI (ca_line (M 1) x1 x2 x3)) (fQ (dC, dI) (wTy g) (va_A (wMo g q M) sz) (wMo g q (m_line M x1 x2 x3))) (va_A (wMo g q M) sz)) 0 0 (va_A (wMo g q M) sz) := by
  refine Met.ofW (cc := cX6_line) (maxL := 5) (ret := (some .int)) (by decide) rfl ?_
  intro p e s m args below meth c s₁ B hml hv
  obtain ⟨rfl, hsz, hP, hK, hD0, hT⟩ := hv
  have hx := B.exec
  have hb := B.bytes
  have hr := B.returns
  have hts := atoms_spec (ws := wsX6_line) B.pre
  have hown : s.vm.findClass RX6 = some m.cls := findClass_of_methodNamed B.named
  have hlocks := B.notSynchronized
  subst hsz
  have hD := hD0.self (sz := s.heap.size)
  generalize hAe : va_A (wMo g q M) s.heap.size = A at hD hT ⊢
  have hA : ∀ q : Nat, s.heap.size ≤ q → A q := fun q h => by rw [← hAe]; exact Or.inr h
  have hS : va_S A s.heap s.heap [] := va_S.rf
  have hl := lv_entry ([.ref (q 0), .int (zI x1), .int (zI x2), .int (zI x3)]) (n := 5) (Nat.le_of_ble_eq_true rfl)
  rw [lg_entry_eq]
  generalize (lg_sl ([.ref (q 0), .int (zI x1), .int (zI x2), .int (zI x3)]) ++ List.replicate (5 - (lg_sl ([.ref (q 0), .int (zI x1), .int (zI x2), .int (zI x3)])).length) Slot.unset).toArray = ls at hl ⊢
  have hl : lv_has ls 5 [(0, .ref (q 0)), (1, .int (zI x1)), (2, .int (zI x2)), (3, .int (zI x3))] := hl
  have kc57 := hts (.constantLong RX6 57 (30)) (by decide +kernel)
  have kc59 := hts (.constantLong RX6 59 (29)) (by decide +kernel)
  have kf7 := hts (.fieldLink RX6 7 "WrongWayModel" "w" "[I") (by decide +kernel)
  have iX6 := (fun w h => List.mem_cons_of_mem _ (List.mem_append_right _ h) : ∀ w ∈ u_ws RX6 TX6 15, w ∈ wsX6_line)
  refine lv_iload_n hx hb dX6_line_0 rfl (lv_at hl 1 rfl) ?_
  refine q_i2l hx hb dX6_line_1 (by omega) ?_
  refine q_lconst hx hb 0 dX6_line_2 rfl ?_
  refine q_lconst hx hb 1 dX6_line_3 rfl ?_
  refine q_cSi (z := bz (0 ≤ x1 ∧ x1 ≤ 1)) (As := [.long (zL x1), .long (zL 0), .long (zL 1)]) (rest := []) ⟨hx, hb, hml, hown, hts⟩ (kX6_in l dC dI g tt x1 0 1 (by omega)) (va_cwS 3 hts gX6_line_X6_in rfl rfl rfl (by decide +kernel) ⟨Nat.le_of_ble_eq_true rfl, Nat.le_of_ble_eq_true rfl⟩) (hP.sub (ws' := []) [] rfl) hK hT hS rfl hl.1 rfl (Nat.le_of_ble_eq_true rfl) dX6_line_4 ⟨Nat.le_of_ble_eq_true rfl, Nat.le_of_ble_eq_true rfl⟩ ?_
  refine q_bz_eq (tgt := 34) hx hb dX6_line_7 (by decide) (fun c_1 => ?_) (fun c_1 => ?_)
  · refine lv_aload_n hx hb dX6_line_34 rfl (lv_at hl 0 rfl) ?_
    refine q_cEi (z := -2) (b := (q 0)) (As := []) (rest := []) (w1 := wMo g q (mbad M)) ⟨hx, hb, hml, hown, hts⟩ hP hD hK hT hS hA (kX6_bad l dC dI g tt _ q M) (cwV 0 hts gX6_line_X6_bad rfl rfl rfl (by decide +kernel) ⟨Nat.le_of_ble_eq_true rfl, Nat.le_of_ble_eq_true rfl⟩) 0 5 rfl rfl rfl rfl hl.1 rfl (Nat.le_of_ble_eq_true rfl) dX6_line_35 ⟨Nat.le_of_ble_eq_true rfl, Nat.le_of_ble_eq_true rfl⟩ (fun H locs hP hD hS => ?_)
    have hPf : va_P (dC, dI) vwCl (wMo g q (m_line M x1 x2 x3)) H := by rw [(show (m_line M x1 x2 x3) = mbad M from by unfold m_line; (repeat' split) <;> first | rfl | (exfalso; omega))]; exact hP
    have hDf : va_D A (wMo g q (m_line M x1 x2 x3)) := by rw [(show (m_line M x1 x2 x3) = mbad M from by unfold m_line; (repeat' split) <;> first | rfl | (exfalso; omega))]; exact hD
    exact W.iret hx hb hr (fun t9 ht9 hW9 => ⟨⟨_, (), rfl, congrArg zI (show -2 = ca_line (M 1) x1 x2 x3 from by unfold ca_line; (repeat' split) <;> first | rfl | omega | (exfalso; omega)), by rw [ht9]; exact hPf, va_K.moved hW9.alike hK, hDf⟩, hS.F ht9⟩) hS.2.2 dX6_line_38
  · refine lv_iload_n hx hb dX6_line_10 rfl (lv_at hl 2 rfl) ?_
    refine q_i2l hx hb dX6_line_11 (by omega) ?_
    refine q_lconst hx hb 1 dX6_line_12 rfl ?_
    refine q_ldc2 hx hb 30 hown kc57 (by decide) dX6_line_13 ?_
    refine q_cSi (z := bz (1 ≤ x2 ∧ x2 ≤ 30)) (As := [.long (zL x2), .long (zL 1), .long (zL 30)]) (rest := []) ⟨hx, hb, hml, hown, hts⟩ (kX6_in l dC dI g tt x2 1 30 (by omega)) (va_cwS 3 hts gX6_line_X6_in rfl rfl rfl (by decide +kernel) ⟨Nat.le_of_ble_eq_true rfl, Nat.le_of_ble_eq_true rfl⟩) (hP.sub (ws' := []) [] rfl) hK hT hS rfl hl.1 rfl (Nat.le_of_ble_eq_true rfl) dX6_line_16 ⟨Nat.le_of_ble_eq_true rfl, Nat.le_of_ble_eq_true rfl⟩ ?_
    refine q_bz_eq (tgt := 34) hx hb dX6_line_19 (by decide) (fun c_2 => ?_) (fun c_2 => ?_)
    · refine lv_aload_n hx hb dX6_line_34 rfl (lv_at hl 0 rfl) ?_
      refine q_cEi (z := -2) (b := (q 0)) (As := []) (rest := []) (w1 := wMo g q (mbad M)) ⟨hx, hb, hml, hown, hts⟩ hP hD hK hT hS hA (kX6_bad l dC dI g tt _ q M) (cwV 0 hts gX6_line_X6_bad rfl rfl rfl (by decide +kernel) ⟨Nat.le_of_ble_eq_true rfl, Nat.le_of_ble_eq_true rfl⟩) 0 5 rfl rfl rfl rfl hl.1 rfl (Nat.le_of_ble_eq_true rfl) dX6_line_35 ⟨Nat.le_of_ble_eq_true rfl, Nat.le_of_ble_eq_true rfl⟩ (fun H locs hP hD hS => ?_)
      have hPf : va_P (dC, dI) vwCl (wMo g q (m_line M x1 x2 x3)) H := by rw [(show (m_line M x1 x2 x3) = mbad M from by unfold m_line; (repeat' split) <;> first | rfl | (exfalso; omega))]; exact hP
      have hDf : va_D A (wMo g q (m_line M x1 x2 x3)) := by rw [(show (m_line M x1 x2 x3) = mbad M from by unfold m_line; (repeat' split) <;> first | rfl | (exfalso; omega))]; exact hD
      exact W.iret hx hb hr (fun t9 ht9 hW9 => ⟨⟨_, (), rfl, congrArg zI (show -2 = ca_line (M 1) x1 x2 x3 from by unfold ca_line; (repeat' split) <;> first | rfl | omega | (exfalso; omega)), by rw [ht9]; exact hPf, va_K.moved hW9.alike hK, hDf⟩, hS.F ht9⟩) hS.2.2 dX6_line_38
    · refine lv_iload_n hx hb dX6_line_22 rfl (lv_at hl 3 rfl) ?_
      refine q_i2l hx hb dX6_line_23 (by omega) ?_
      refine q_lconst hx hb 0 dX6_line_24 rfl ?_
      refine q_ldc2 hx hb 29 hown kc59 (by decide) dX6_line_25 ?_
      refine q_cSi (z := bz (0 ≤ x3 ∧ x3 ≤ 29)) (As := [.long (zL x3), .long (zL 0), .long (zL 29)]) (rest := []) ⟨hx, hb, hml, hown, hts⟩ (kX6_in l dC dI g tt x3 0 29 (by omega)) (va_cwS 3 hts gX6_line_X6_in rfl rfl rfl (by decide +kernel) ⟨Nat.le_of_ble_eq_true rfl, Nat.le_of_ble_eq_true rfl⟩) (hP.sub (ws' := []) [] rfl) hK hT hS rfl hl.1 rfl (Nat.le_of_ble_eq_true rfl) dX6_line_28 ⟨Nat.le_of_ble_eq_true rfl, Nat.le_of_ble_eq_true rfl⟩ ?_
      refine q_bz_ne (tgt := 39) hx hb dX6_line_31 (by decide) (fun c_3 => ?_) (fun c_3 => ?_)
      · refine q_bipush hx hb dX6_line_39 rfl ?_
        refine lv_aload_n hx hb dX6_line_41 rfl (lv_at hl 0 rfl) ?_
        refine va_get (D := (dC, dI)) (ci := 5) (v := .ref (q 1)) (C := RX6) (T := TX6) (N := 15) hx hb hts iX6 hown hK hP 0 rfl rfl 0 (by decide) kf7 (fun _ h9 => h9) rfl dX6_line_42 ?_
        refine q_bipush hx hb dX6_line_45 rfl ?_
        refine lv_iload_n hx hb dX6_line_47 rfl (lv_at hl 1 rfl) ?_
        refine q_iadd hx hb dX6_line_48 ?_
        refine q_iald (F := fun k9 => M 1 k9) (v := M 1 (13 + x1)) hx hb hK hP 1 0 rfl rfl (by decide) (by omega) (rfl) dX6_line_49 ?_
        refine q_imul hx hb dX6_line_50 ?_
        refine lv_aload_n hx hb dX6_line_51 rfl (lv_at hl 0 rfl) ?_
        refine va_get (D := (dC, dI)) (ci := 5) (v := .ref (q 1)) (C := RX6) (T := TX6) (N := 15) hx hb hts iX6 hown hK hP 0 rfl rfl 0 (by decide) kf7 (fun _ h9 => h9) rfl dX6_line_52 ?_
        refine q_bipush hx hb dX6_line_55 rfl ?_
        refine lv_iload_n hx hb dX6_line_57 rfl (lv_at hl 1 rfl) ?_
        refine q_iadd hx hb dX6_line_58 ?_
        refine q_iald (F := fun k9 => M 1 k9) (v := M 1 (15 + x1)) hx hb hK hP 1 0 rfl rfl (by decide) (by omega) (rfl) dX6_line_59 ?_
        refine q_iadd hx hb dX6_line_60 ?_
        refine lv_istore (lv' := [(4, .int (zI ((100 * (M 1 (13 + x1))) + (M 1 (15 + x1))))), (0, .ref (q 0)), (1, .int (zI x1)), (2, .int (zI x2)), (3, .int (zI x3))]) hx hb dX6_line_61 hl (by decide) rfl (fun ls hl => ?_)
        refine lv_aload_n hx hb dX6_line_63 rfl (lv_at hl 1 rfl) ?_
        refine va_get (D := (dC, dI)) (ci := 5) (v := .ref (q 1)) (C := RX6) (T := TX6) (N := 15) hx hb hts iX6 hown hK hP 0 rfl rfl 0 (by decide) kf7 (fun _ h9 => h9) rfl dX6_line_64 ?_
        refine q_bipush hx hb dX6_line_67 rfl ?_
        refine lv_iload_n hx hb dX6_line_69 rfl (lv_at hl 2 rfl) ?_
        refine q_iadd hx hb dX6_line_70 ?_
        refine lv_iload_n hx hb dX6_line_71 rfl (lv_at hl 3 rfl) ?_
        refine q_iast (F := fun k9 => M 1 k9) (v := x2) hx hb hK hP hD hS 1 0 rfl rfl (by decide) (by omega) dX6_line_72 (fun H locs hP hD hS => ?_)
        have hP : va_P (dC, dI) vwCl (wMo g q (mset M 1 (13 + x1) x2)) H := hP
        have hD : va_D A (wMo g q (mset M 1 (13 + x1) x2)) := hD
        refine lv_aload_n hx hb dX6_line_73 rfl (lv_at hl 1 rfl) ?_
        refine va_get (D := (dC, dI)) (ci := 5) (v := .ref (q 1)) (C := RX6) (T := TX6) (N := 15) hx hb hts iX6 hown hK hP 0 rfl rfl 0 (by decide) kf7 (fun _ h9 => h9) rfl dX6_line_74 ?_
        refine q_bipush hx hb dX6_line_77 rfl ?_
        refine lv_iload_n hx hb dX6_line_79 rfl (lv_at hl 2 rfl) ?_
        refine q_iadd hx hb dX6_line_80 ?_
        refine lv_iload_n hx hb dX6_line_81 rfl (lv_at hl 4 rfl) ?_
        refine q_iast (F := fun k9 => (mset M 1 (13 + x1) x2) 1 k9) (v := x3) hx hb hK hP hD hS 1 0 rfl rfl (by decide) (by omega) dX6_line_82 (fun H locs hP hD hS => ?_)
        have hP : va_P (dC, dI) vwCl (wMo g q (mset (mset M 1 (13 + x1) x2) 1 (15 + x1) x3)) H := hP
        have hD : va_D A (wMo g q (mset (mset M 1 (13 + x1) x2) 1 (15 + x1) x3)) := hD
        refine lv_iload hx hb dX6_line_83 (lv_at hl 0 rfl) ?_
        have hPf : va_P (dC, dI) vwCl (wMo g q (m_line M x1 x2 x3)) H := by rw [(show (m_line M x1 x2 x3) = mset (mset M 1 (13 + x1) x2) 1 (15 + x1) x3 from by unfold m_line; (repeat' split) <;> first | rfl | (exfalso; omega))]; exact hP
        have hDf : va_D A (wMo g q (m_line M x1 x2 x3)) := by rw [(show (m_line M x1 x2 x3) = mset (mset M 1 (13 + x1) x2) 1 (15 + x1) x3 from by unfold m_line; (repeat' split) <;> first | rfl | (exfalso; omega))]; exact hD
        exact W.iret hx hb hr (fun t9 ht9 hW9 => ⟨⟨_, (), rfl, congrArg zI (show (100 * (M 1 (13 + x1))) + (M 1 (15 + x1)) = ca_line (M 1) x1 x2 x3 from by unfold ca_line; (repeat' split) <;> first | rfl | omega | (exfalso; omega)), by rw [ht9]; exact hPf, va_K.moved hW9.alike hK, hDf⟩, hS.F ht9⟩) hS.2.2 dX6_line_85
      · refine lv_aload_n hx hb dX6_line_34 rfl (lv_at hl 0 rfl) ?_
        refine q_cEi (z := -2) (b := (q 0)) (As := []) (rest := []) (w1 := wMo g q (mbad M)) ⟨hx, hb, hml, hown, hts⟩ hP hD hK hT hS hA (kX6_bad l dC dI g tt _ q M) (cwV 0 hts gX6_line_X6_bad rfl rfl rfl (by decide +kernel) ⟨Nat.le_of_ble_eq_true rfl, Nat.le_of_ble_eq_true rfl⟩) 0 5 rfl rfl rfl rfl hl.1 rfl (Nat.le_of_ble_eq_true rfl) dX6_line_35 ⟨Nat.le_of_ble_eq_true rfl, Nat.le_of_ble_eq_true rfl⟩ (fun H locs hP hD hS => ?_)
        have hPf : va_P (dC, dI) vwCl (wMo g q (m_line M x1 x2 x3)) H := by rw [(show (m_line M x1 x2 x3) = mbad M from by unfold m_line; (repeat' split) <;> first | rfl | (exfalso; omega))]; exact hP
        have hDf : va_D A (wMo g q (m_line M x1 x2 x3)) := by rw [(show (m_line M x1 x2 x3) = mbad M from by unfold m_line; (repeat' split) <;> first | rfl | (exfalso; omega))]; exact hD
        exact W.iret hx hb hr (fun t9 ht9 hW9 => ⟨⟨_, (), rfl, congrArg zI (show -2 = ca_line (M 1) x1 x2 x3 from by unfold ca_line; (repeat' split) <;> first | rfl | omega | (exfalso; omega)), by rw [ht9]; exact hPf, va_K.moved hW9.alike hK, hDf⟩, hS.F ht9⟩) hS.2.2 dX6_line_38
set_option maxHeartbeats 4000000 in
set_option maxRecDepth 100000 in
theorem kX6_type (l : Launch) (dC : Nat → ClassId) (dI : Nat → Nat → Nat) (g : Nat → ClassId) (tt : Nat → Nat) (sz : Nat) (q : Nat → Nat) (M : Nat → Int → Int) (x1 : Int) (hL : 0 ≤ M 0 0 ∧ M 0 0 ≤ 150) (h1 : rI x1) : Met l yX6_type wsX6_type ({ frames := 1, cells := 0, slots := 0, locals := 25 }) (va_Pc [.ref (q 0), .int (zI x1)] (eQ (dC, dI) (wTy g) (wMo g q M) tt sz)) (va_Qi (fun r (_ : Unit) => r = zI (ca_type (M 0 0) x1)) (fQ (dC, dI) (wTy g) (va_A (wMo g q M) sz) (wMo g q (m_type M x1))) (va_A (wMo g q M) sz)) 0 0 (va_A (wMo g q M) sz) := by
  refine Met.ofW (cc := cX6_type) (maxL := 2) (ret := (some .int)) (by decide) rfl ?_
  intro p e s m args below meth c s₁ B hml hv
  obtain ⟨rfl, hsz, hP, hK, hD0, hT⟩ := hv
  have hx := B.exec
  have hb := B.bytes
  have hr := B.returns
  have hts := atoms_spec (ws := wsX6_type) B.pre
  have hown : s.vm.findClass RX6 = some m.cls := findClass_of_methodNamed B.named
  have hlocks := B.notSynchronized
  subst hsz
  have hD := hD0.self (sz := s.heap.size)
  generalize hAe : va_A (wMo g q M) s.heap.size = A at hD hT ⊢
  have hA : ∀ q : Nat, s.heap.size ≤ q → A q := fun q h => by rw [← hAe]; exact Or.inr h
  have hS : va_S A s.heap s.heap [] := va_S.rf
  have hl := lv_entry ([.ref (q 0), .int (zI x1)]) (n := 2) (Nat.le_of_ble_eq_true rfl)
  rw [lg_entry_eq]
  generalize (lg_sl ([.ref (q 0), .int (zI x1)]) ++ List.replicate (2 - (lg_sl ([.ref (q 0), .int (zI x1)])).length) Slot.unset).toArray = ls at hl ⊢
  have hl : lv_has ls 2 [(0, .ref (q 0)), (1, .int (zI x1))] := hl
  have kc61 := hts (.constantLong RX6 61 (127)) (by decide +kernel)
  have kf17 := hts (.fieldLink RX6 17 "WrongWayModel" "text" "[I") (by decide +kernel)
  have kf63 := hts (.fieldLink RX6 63 "WrongWayModel" "texted" "I") (by decide +kernel)
  have iX6 := (fun w h => List.mem_cons_of_mem _ (List.mem_append_right _ h) : ∀ w ∈ u_ws RX6 TX6 15, w ∈ wsX6_type)
  refine lv_iload_n hx hb dX6_type_0 rfl (lv_at hl 1 rfl) ?_
  refine q_i2l hx hb dX6_type_1 (by omega) ?_
  refine q_lconst hx hb 0 dX6_type_2 rfl ?_
  refine q_ldc2 hx hb 127 hown kc61 (by decide) dX6_type_3 ?_
  refine q_cSi (z := bz (0 ≤ x1 ∧ x1 ≤ 127)) (As := [.long (zL x1), .long (zL 0), .long (zL 127)]) (rest := []) ⟨hx, hb, hml, hown, hts⟩ (kX6_in l dC dI g tt x1 0 127 (by omega)) (va_cwS 3 hts gX6_type_X6_in rfl rfl rfl (by decide +kernel) ⟨Nat.le_of_ble_eq_true rfl, Nat.le_of_ble_eq_true rfl⟩) (hP.sub (ws' := []) [] rfl) hK hT hS rfl hl.1 rfl (Nat.le_of_ble_eq_true rfl) dX6_type_6 ⟨Nat.le_of_ble_eq_true rfl, Nat.le_of_ble_eq_true rfl⟩ ?_
  refine q_bz_ne (tgt := 17) hx hb dX6_type_9 (by decide) (fun c_1 => ?_) (fun c_1 => ?_)
  · refine lv_aload_n hx hb dX6_type_17 rfl (lv_at hl 0 rfl) ?_
    refine va_get (D := (dC, dI)) (ci := 5) (v := .int (zI (M 0 0))) (C := RX6) (T := TX6) (N := 15) hx hb hts iX6 hown hK hP 0 rfl rfl 3 (by decide) kf63 (fun _ h9 => h9) rfl dX6_type_18 ?_
    refine q_sipush hx hb dX6_type_21 rfl ?_
    refine q_icmp_ne (tgt := 32) hx hb dX6_type_24 (by decide) (by omega) (fun c_2 => ?_) (fun c_2 => ?_)
    · refine lv_aload_n hx hb dX6_type_32 rfl (lv_at hl 0 rfl) ?_
      refine va_get (D := (dC, dI)) (ci := 5) (v := .ref (q 3)) (C := RX6) (T := TX6) (N := 15) hx hb hts iX6 hown hK hP 0 rfl rfl 2 (by decide) kf17 (fun _ h9 => h9) rfl dX6_type_33 ?_
      refine lv_aload_n hx hb dX6_type_36 rfl (lv_at hl 0 rfl) ?_
      refine va_get (D := (dC, dI)) (ci := 5) (v := .int (zI (M 0 0))) (C := RX6) (T := TX6) (N := 15) hx hb hts iX6 hown hK hP 0 rfl rfl 3 (by decide) kf63 (fun _ h9 => h9) rfl dX6_type_37 ?_
      refine lv_iload_n hx hb dX6_type_40 rfl (lv_at hl 1 rfl) ?_
      refine q_iast (F := fun k9 => M 3 k9) (v := x1) hx hb hK hP hD hS 3 0 rfl rfl (by decide) (by omega) dX6_type_41 (fun H locs hP hD hS => ?_)
      have hP : va_P (dC, dI) vwCl (wMo g q (mset M 3 (M 0 0) x1)) H := hP
      have hD : va_D A (wMo g q (mset M 3 (M 0 0) x1)) := hD
      refine lv_aload_n hx hb dX6_type_42 rfl (lv_at hl 0 rfl) ?_
      refine lv_dup hx hb dX6_type_43 rfl ?_
      refine va_get (D := (dC, dI)) (ci := 5) (v := .int (zI (M 0 0))) (C := RX6) (T := TX6) (N := 15) hx hb hts iX6 hown hK hP 0 rfl rfl 3 (by decide) kf63 (fun _ h9 => h9) rfl dX6_type_44 ?_
      refine q_iconst hx hb dX6_type_47 ?_
      refine q_iadd hx hb dX6_type_48 ?_
      refine va_put (D := (dC, dI)) (ci := 5) (v := .int (zI ((M 0 0) + 1))) (ty := .int) (C := RX6) (T := TX6) (N := 15) hx hb hts iX6 tyX6 tyX6_ok nmX6 hown hK hP hD hS 0 rfl rfl 3 (by decide) kf63 (fun _ h9 => h9) rfl (by decide +kernel) rfl rfl (Nat.le_of_ble_eq_true rfl) dX6_type_49 (fun H locs hP hD hS => ?_)
      have hP : va_P (dC, dI) vwCl (wMo g q (mset (mset M 3 (M 0 0) x1) 0 0 ((M 0 0) + 1))) H := hP
      have hD : va_D A (wMo g q (mset (mset M 3 (M 0 0) x1) 0 0 ((M 0 0) + 1))) := hD
      refine lv_aload_n hx hb dX6_type_52 rfl (lv_at hl 0 rfl) ?_
      refine va_get (D := (dC, dI)) (ci := 5) (v := .int (zI ((M 0 0) + 1))) (C := RX6) (T := TX6) (N := 15) hx hb hts iX6 hown hK hP 0 rfl rfl 3 (by decide) kf63 (fun _ h9 => h9) rfl dX6_type_53 ?_
      have hPf : va_P (dC, dI) vwCl (wMo g q (m_type M x1)) H := by rw [(show (m_type M x1) = mset (mset M 3 (M 0 0) x1) 0 0 ((M 0 0) + 1) from by unfold m_type; (repeat' split) <;> first | rfl | (exfalso; omega))]; exact hP
      have hDf : va_D A (wMo g q (m_type M x1)) := by rw [(show (m_type M x1) = mset (mset M 3 (M 0 0) x1) 0 0 ((M 0 0) + 1) from by unfold m_type; (repeat' split) <;> first | rfl | (exfalso; omega))]; exact hD
      exact W.iret hx hb hr (fun t9 ht9 hW9 => ⟨⟨_, (), rfl, congrArg zI (show (M 0 0) + 1 = ca_type (M 0 0) x1 from by unfold ca_type; (repeat' split) <;> first | rfl | omega | (exfalso; omega)), by rw [ht9]; exact hPf, va_K.moved hW9.alike hK, hDf⟩, hS.F ht9⟩) hS.2.2 dX6_type_56
    · refine lv_aload_n hx hb dX6_type_27 rfl (lv_at hl 0 rfl) ?_
      refine q_cEi (z := -4) (b := (q 0)) (As := []) (rest := []) (w1 := wMo g q (mfull M)) ⟨hx, hb, hml, hown, hts⟩ hP hD hK hT hS hA (kX6_full l dC dI g tt _ q M) (cwV 0 hts gX6_type_X6_full rfl rfl rfl (by decide +kernel) ⟨Nat.le_of_ble_eq_true rfl, Nat.le_of_ble_eq_true rfl⟩) 0 5 rfl rfl rfl rfl hl.1 rfl (Nat.le_of_ble_eq_true rfl) dX6_type_28 ⟨Nat.le_of_ble_eq_true rfl, Nat.le_of_ble_eq_true rfl⟩ (fun H locs hP hD hS => ?_)
      have hPf : va_P (dC, dI) vwCl (wMo g q (m_type M x1)) H := by rw [(show (m_type M x1) = mfull M from by unfold m_type; (repeat' split) <;> first | rfl | (exfalso; omega))]; exact hP
      have hDf : va_D A (wMo g q (m_type M x1)) := by rw [(show (m_type M x1) = mfull M from by unfold m_type; (repeat' split) <;> first | rfl | (exfalso; omega))]; exact hD
      exact W.iret hx hb hr (fun t9 ht9 hW9 => ⟨⟨_, (), rfl, congrArg zI (show -4 = ca_type (M 0 0) x1 from by unfold ca_type; (repeat' split) <;> first | rfl | omega | (exfalso; omega)), by rw [ht9]; exact hPf, va_K.moved hW9.alike hK, hDf⟩, hS.F ht9⟩) hS.2.2 dX6_type_31
  · refine lv_aload_n hx hb dX6_type_12 rfl (lv_at hl 0 rfl) ?_
    refine q_cEi (z := -2) (b := (q 0)) (As := []) (rest := []) (w1 := wMo g q (mbad M)) ⟨hx, hb, hml, hown, hts⟩ hP hD hK hT hS hA (kX6_bad l dC dI g tt _ q M) (cwV 0 hts gX6_type_X6_bad rfl rfl rfl (by decide +kernel) ⟨Nat.le_of_ble_eq_true rfl, Nat.le_of_ble_eq_true rfl⟩) 0 5 rfl rfl rfl rfl hl.1 rfl (Nat.le_of_ble_eq_true rfl) dX6_type_13 ⟨Nat.le_of_ble_eq_true rfl, Nat.le_of_ble_eq_true rfl⟩ (fun H locs hP hD hS => ?_)
    have hPf : va_P (dC, dI) vwCl (wMo g q (m_type M x1)) H := by rw [(show (m_type M x1) = mbad M from by unfold m_type; (repeat' split) <;> first | rfl | (exfalso; omega))]; exact hP
    have hDf : va_D A (wMo g q (m_type M x1)) := by rw [(show (m_type M x1) = mbad M from by unfold m_type; (repeat' split) <;> first | rfl | (exfalso; omega))]; exact hD
    exact W.iret hx hb hr (fun t9 ht9 hW9 => ⟨⟨_, (), rfl, congrArg zI (show -2 = ca_type (M 0 0) x1 from by unfold ca_type; (repeat' split) <;> first | rfl | omega | (exfalso; omega)), by rw [ht9]; exact hPf, va_K.moved hW9.alike hK, hDf⟩, hS.F ht9⟩) hS.2.2 dX6_type_16
set_option maxHeartbeats 4000000 in
set_option maxRecDepth 100000 in
theorem kX6_clear (l : Launch) (dC : Nat → ClassId) (dI : Nat → Nat → Nat) (g : Nat → ClassId) (tt : Nat → Nat) (sz : Nat) (q : Nat → Nat) (M : Nat → Int → Int) : Met l yX6_clear wsX6_clear ({ frames := 0, cells := 0, slots := 0, locals := 0 }) (va_Pc [.ref (q 0)] (eQ (dC, dI) (wTy g) (wMo g q M) tt sz)) (va_Qi (fun r (_ : Unit) => r = zI (M 0 0)) (fQ (dC, dI) (wTy g) (va_A (wMo g q M) sz) (wMo g q (mset M 0 0 0))) (va_A (wMo g q M) sz)) 0 0 (va_A (wMo g q M) sz) := by
  refine Met.ofW (cc := cX6_clear) (maxL := 2) (ret := (some .int)) (by decide) rfl ?_
  intro p e s m args below meth c s₁ B hml hv
  obtain ⟨rfl, hsz, hP, hK, hD0, hT⟩ := hv
  have hx := B.exec
  have hb := B.bytes
  have hr := B.returns
  have hts := atoms_spec (ws := wsX6_clear) B.pre
  have hown : s.vm.findClass RX6 = some m.cls := findClass_of_methodNamed B.named
  have hlocks := B.notSynchronized
  subst hsz
  have hD := hD0.self (sz := s.heap.size)
  generalize hAe : va_A (wMo g q M) s.heap.size = A at hD hT ⊢
  have hA : ∀ q : Nat, s.heap.size ≤ q → A q := fun q h => by rw [← hAe]; exact Or.inr h
  have hS : va_S A s.heap s.heap [] := va_S.rf
  have hl := lv_entry ([.ref (q 0)]) (n := 2) (Nat.le_of_ble_eq_true rfl)
  rw [lg_entry_eq]
  generalize (lg_sl ([.ref (q 0)]) ++ List.replicate (2 - (lg_sl ([.ref (q 0)])).length) Slot.unset).toArray = ls at hl ⊢
  have hl : lv_has ls 2 [(0, .ref (q 0))] := hl
  have kf63 := hts (.fieldLink RX6 63 "WrongWayModel" "texted" "I") (by decide +kernel)
  have iX6 := (fun w h => List.mem_cons_of_mem _ (List.mem_append_right _ h) : ∀ w ∈ u_ws RX6 TX6 15, w ∈ wsX6_clear)
  refine lv_aload_n hx hb dX6_clear_0 rfl (lv_at hl 0 rfl) ?_
  refine va_get (D := (dC, dI)) (ci := 5) (v := .int (zI (M 0 0))) (C := RX6) (T := TX6) (N := 15) hx hb hts iX6 hown hK hP 0 rfl rfl 3 (by decide) kf63 (fun _ h9 => h9) rfl dX6_clear_1 ?_
  refine lv_istore_n (lv' := [(1, .int (zI (M 0 0))), (0, .ref (q 0))]) hx hb dX6_clear_4 rfl hl (by decide) rfl (fun ls hl => ?_)
  refine lv_aload_n hx hb dX6_clear_5 rfl (lv_at hl 1 rfl) ?_
  refine q_iconst hx hb dX6_clear_6 ?_
  refine va_put (D := (dC, dI)) (ci := 5) (v := .int (zI 0)) (ty := .int) (C := RX6) (T := TX6) (N := 15) hx hb hts iX6 tyX6 tyX6_ok nmX6 hown hK hP hD hS 0 rfl rfl 3 (by decide) kf63 (fun _ h9 => h9) rfl (by decide +kernel) rfl rfl (Nat.le_of_ble_eq_true rfl) dX6_clear_7 (fun H locs hP hD hS => ?_)
  have hP : va_P (dC, dI) vwCl (wMo g q (mset M 0 0 0)) H := hP
  have hD : va_D A (wMo g q (mset M 0 0 0)) := hD
  refine lv_iload_n hx hb dX6_clear_10 rfl (lv_at hl 0 rfl) ?_
  have hPf : va_P (dC, dI) vwCl (wMo g q (mset M 0 0 0)) H := by exact hP
  have hDf : va_D A (wMo g q (mset M 0 0 0)) := by exact hD
  exact W.iret hx hb hr (fun t9 ht9 hW9 => ⟨⟨_, (), rfl, congrArg zI (show M 0 0 = M 0 0 from rfl), by rw [ht9]; exact hPf, va_K.moved hW9.alike hK, hDf⟩, hS.F ht9⟩) hS.2.2 dX6_clear_11
