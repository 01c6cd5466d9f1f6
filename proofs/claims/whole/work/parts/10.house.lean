set_option maxHeartbeats 4000000 in
set_option maxRecDepth 100000 in
theorem kX1_hasFloor (l : Launch) (dC : Nat → ClassId) (dI : Nat → Nat → Nat) (g : Nat → ClassId) (tt : Nat → Nat) (a : Nat → Nat) (w : Int → Int) (x1 : Int) (hw : hok w) (h1 : rI x1) : Met l yX1_hasFloor wsX1_hasFloor ({ frames := 0, cells := 0, slots := 0, locals := 0 }) (va_Pc [.ref (a 0), .int (zI x1)] (eS (dC, dI) (wTy g) (wHs g a w) tt)) (vp_Si (fun r => r = zI (bz (0 ≤ x1 ∧ x1 ≤ w 1)))) 0 0 (fun _ => False) := by
  refine Met.ofW (cc := cX1_hasFloor) (maxL := 2) (ret := (some .boolean)) (by decide) rfl ?_
  intro p e s m args below meth c s₁ B hml hv
  obtain ⟨rfl, hP, hK, hT⟩ := hv
  have hx := B.exec
  have hb := B.bytes
  have hr := B.returns
  have hts := atoms_spec (ws := wsX1_hasFloor) B.pre
  have hown : s.vm.findClass RX1 = some m.cls := findClass_of_methodNamed B.named
  have hlocks := B.notSynchronized
  have hS : va_S (fun _ : Nat => False) s.heap s.heap [] := va_S.rf
  have hl := lv_entry ([.ref (a 0), .int (zI x1)]) (n := 2) (Nat.le_of_ble_eq_true rfl)
  rw [lg_entry_eq]
  generalize (lg_sl ([.ref (a 0), .int (zI x1)]) ++ List.replicate (2 - (lg_sl ([.ref (a 0), .int (zI x1)])).length) Slot.unset).toArray = ls at hl ⊢
  have hl : lv_has ls 2 [(0, .ref (a 0)), (1, .int (zI x1))] := hl
  have kf41 := hts (.fieldLink RX1 41 "WrongWay$House" "top" "I") (by decide +kernel)
  have iX1 := (fun w h => List.mem_cons_of_mem _ (List.mem_append_right _ h) : ∀ w ∈ u_ws RX1 TX1 14, w ∈ wsX1_hasFloor)
  have hb0 := hw.b
  refine lv_iload_n hx hb dX1_hasFloor_0 rfl (lv_at hl 1 rfl) ?_
  refine q_if_lt (tgt := 16) hx hb dX1_hasFloor_1 (by decide) (by omega) (fun c_1 => ?_) (fun c_1 => ?_)
  · refine q_iconst hx hb dX1_hasFloor_16 ?_
    exact W.zret hx hb hr rfl (fun t9 ht9 hW9 => ⟨_, rfl, congrArg zI (bz_f (by omega)).symm, ht9⟩) hS.2.2 dX1_hasFloor_17
  · refine lv_iload_n hx hb dX1_hasFloor_4 rfl (lv_at hl 1 rfl) ?_
    refine lv_aload_n hx hb dX1_hasFloor_5 rfl (lv_at hl 0 rfl) ?_
    refine va_get (D := (dC, dI)) (ci := 1) (v := .int (zI (w 1))) (C := RX1) (T := TX1) (N := 14) hx hb hts iX1 hown hK hP 0 rfl rfl 0 (by decide) kf41 (fun _ h9 => h9) rfl dX1_hasFloor_6 ?_
    refine q_icmp_gt (tgt := 16) hx hb dX1_hasFloor_9 (by decide) (by omega) (fun c_2 => ?_) (fun c_2 => ?_)
    · refine q_iconst hx hb dX1_hasFloor_16 ?_
      exact W.zret hx hb hr rfl (fun t9 ht9 hW9 => ⟨_, rfl, congrArg zI (bz_f (by omega)).symm, ht9⟩) hS.2.2 dX1_hasFloor_17
    · refine q_iconst hx hb dX1_hasFloor_12 ?_
      refine lv_goto (tgt := 17) hx hb dX1_hasFloor_13 (by decide) ?_
      exact W.zret hx hb hr rfl (fun t9 ht9 hW9 => ⟨_, rfl, congrArg zI (bz_t (by omega)).symm, ht9⟩) hS.2.2 dX1_hasFloor_17
set_option maxHeartbeats 4000000 in
set_option maxRecDepth 100000 in
theorem kX1_hasLift (l : Launch) (dC : Nat → ClassId) (dI : Nat → Nat → Nat) (g : Nat → ClassId) (tt : Nat → Nat) (a : Nat → Nat) (w : Int → Int) (x1 : Int) (hw : hok w) (h1 : rI x1) : Met l yX1_hasLift wsX1_hasLift ({ frames := 0, cells := 0, slots := 0, locals := 0 }) (va_Pc [.ref (a 0), .int (zI x1)] (eS (dC, dI) (wTy g) (wHs g a w) tt)) (vp_Si (fun r => r = zI (bz (0 ≤ x1 ∧ x1 < w 0)))) 0 0 (fun _ => False) := by
  refine Met.ofW (cc := cX1_hasLift) (maxL := 2) (ret := (some .boolean)) (by decide) rfl ?_
  intro p e s m args below meth c s₁ B hml hv
  obtain ⟨rfl, hP, hK, hT⟩ := hv
  have hx := B.exec
  have hb := B.bytes
  have hr := B.returns
  have hts := atoms_spec (ws := wsX1_hasLift) B.pre
  have hown : s.vm.findClass RX1 = some m.cls := findClass_of_methodNamed B.named
  have hlocks := B.notSynchronized
  have hS : va_S (fun _ : Nat => False) s.heap s.heap [] := va_S.rf
  have hl := lv_entry ([.ref (a 0), .int (zI x1)]) (n := 2) (Nat.le_of_ble_eq_true rfl)
  rw [lg_entry_eq]
  generalize (lg_sl ([.ref (a 0), .int (zI x1)]) ++ List.replicate (2 - (lg_sl ([.ref (a 0), .int (zI x1)])).length) Slot.unset).toArray = ls at hl ⊢
  have hl : lv_has ls 2 [(0, .ref (a 0)), (1, .int (zI x1))] := hl
  have kf45 := hts (.fieldLink RX1 45 "WrongWay$House" "lifts" "I") (by decide +kernel)
  have iX1 := (fun w h => List.mem_cons_of_mem _ (List.mem_append_right _ h) : ∀ w ∈ u_ws RX1 TX1 14, w ∈ wsX1_hasLift)
  have hb0 := hw.b
  refine lv_iload_n hx hb dX1_hasLift_0 rfl (lv_at hl 1 rfl) ?_
  refine q_if_lt (tgt := 16) hx hb dX1_hasLift_1 (by decide) (by omega) (fun c_1 => ?_) (fun c_1 => ?_)
  · refine q_iconst hx hb dX1_hasLift_16 ?_
    exact W.zret hx hb hr rfl (fun t9 ht9 hW9 => ⟨_, rfl, congrArg zI (bz_f (by omega)).symm, ht9⟩) hS.2.2 dX1_hasLift_17
  · refine lv_iload_n hx hb dX1_hasLift_4 rfl (lv_at hl 1 rfl) ?_
    refine lv_aload_n hx hb dX1_hasLift_5 rfl (lv_at hl 0 rfl) ?_
    refine va_get (D := (dC, dI)) (ci := 1) (v := .int (zI (w 0))) (C := RX1) (T := TX1) (N := 14) hx hb hts iX1 hown hK hP 0 rfl rfl 1 (by decide) kf45 (fun _ h9 => h9) rfl dX1_hasLift_6 ?_
    refine q_icmp_ge (tgt := 16) hx hb dX1_hasLift_9 (by decide) (by omega) (fun c_2 => ?_) (fun c_2 => ?_)
    · refine q_iconst hx hb dX1_hasLift_16 ?_
      exact W.zret hx hb hr rfl (fun t9 ht9 hW9 => ⟨_, rfl, congrArg zI (bz_f (by omega)).symm, ht9⟩) hS.2.2 dX1_hasLift_17
    · refine q_iconst hx hb dX1_hasLift_12 ?_
      refine lv_goto (tgt := 17) hx hb dX1_hasLift_13 (by decide) ?_
      exact W.zret hx hb hr rfl (fun t9 ht9 hW9 => ⟨_, rfl, congrArg zI (bz_t (by omega)).symm, ht9⟩) hS.2.2 dX1_hasLift_17
set_option maxHeartbeats 4000000 in
set_option maxRecDepth 100000 in
theorem kX1_setLine (l : Launch) (dC : Nat → ClassId) (dI : Nat → Nat → Nat) (g : Nat → ClassId) (tt : Nat → Nat) (sz : Nat) (a : Nat → Nat) (w : Int → Int) (x1 x2 x3 : Int) (h1 : 0 ≤ x1 ∧ x1 ≤ 1) : Met l yX1_setLine wsX1_setLine ({ frames := 0, cells := 0, slots := 0, locals := 0 }) (va_Pc [.ref (a 0), .int (zI x1), .int (zI x2), .int (zI x3)] (eQ (dC, dI) (wTy g) (wHs g a w) tt sz)) (va_Qv (fun (_ : Unit) => True) (fQ (dC, dI) (wTy g) (va_A (wHs g a w) sz) (wHs g a (wset (wset w (13 + x1) x2) (15 + x1) x3))) (va_A (wHs g a w) sz)) 0 0 (va_A (wHs g a w) sz) := by
  refine Met.ofW (cc := cX1_setLine) (maxL := 4) (ret := none) (by decide) rfl ?_
  intro p e s m args below meth c s₁ B hml hv
  obtain ⟨rfl, hsz, hP, hK, hD0, hT⟩ := hv
  have hx := B.exec
  have hb := B.bytes
  have hr := B.returns
  have hts := atoms_spec (ws := wsX1_setLine) B.pre
  have hown : s.vm.findClass RX1 = some m.cls := findClass_of_methodNamed B.named
  have hlocks := B.notSynchronized
  subst hsz
  have hD := hD0.self (sz := s.heap.size)
  generalize hAe : va_A (wHs g a w) s.heap.size = A at hD hT ⊢
  have hA : ∀ q : Nat, s.heap.size ≤ q → A q := fun q h => by rw [← hAe]; exact Or.inr h
  have hS : va_S A s.heap s.heap [] := va_S.rf
  have hl := lv_entry ([.ref (a 0), .int (zI x1), .int (zI x2), .int (zI x3)]) (n := 4) (Nat.le_of_ble_eq_true rfl)
  rw [lg_entry_eq]
  generalize (lg_sl ([.ref (a 0), .int (zI x1), .int (zI x2), .int (zI x3)]) ++ List.replicate (4 - (lg_sl ([.ref (a 0), .int (zI x1), .int (zI x2), .int (zI x3)])).length) Slot.unset).toArray = ls at hl ⊢
  have hl : lv_has ls 4 [(0, .ref (a 0)), (1, .int (zI x1)), (2, .int (zI x2)), (3, .int (zI x3))] := hl
  have kf16 := hts (.fieldLink RX1 16 "WrongWay$House" "every" "[I") (by decide +kernel)
  have kf19 := hts (.fieldLink RX1 19 "WrongWay$House" "at" "[I") (by decide +kernel)
  have iX1 := (fun w h => List.mem_cons_of_mem _ (List.mem_append_right _ h) : ∀ w ∈ u_ws RX1 TX1 14, w ∈ wsX1_setLine)
  refine lv_aload_n hx hb dX1_setLine_0 rfl (lv_at hl 0 rfl) ?_
  refine va_get (D := (dC, dI)) (ci := 1) (v := .ref (a 3)) (C := RX1) (T := TX1) (N := 14) hx hb hts iX1 hown hK hP 0 rfl rfl 7 (by decide) kf16 (fun _ h9 => h9) rfl dX1_setLine_1 ?_
  refine lv_iload_n hx hb dX1_setLine_4 rfl (lv_at hl 1 rfl) ?_
  refine lv_iload_n hx hb dX1_setLine_5 rfl (lv_at hl 2 rfl) ?_
  refine q_iast (F := fun k => w (13 + k)) (v := x2) hx hb hK hP hD hS 3 0 rfl rfl (by decide) (by omega) dX1_setLine_6 (fun H locs hP hD hS => ?_)
  have hP : va_P (dC, dI) vwCl (wHs g a (wset w (13 + x1) x2)) H := hw_put3 (i := x1) hP (by omega)
  have hD : va_D A (wHs g a (wset w (13 + x1) x2)) := hw_D3 (R := []) hD
  refine lv_aload_n hx hb dX1_setLine_7 rfl (lv_at hl 0 rfl) ?_
  refine va_get (D := (dC, dI)) (ci := 1) (v := .ref (a 4)) (C := RX1) (T := TX1) (N := 14) hx hb hts iX1 hown hK hP 0 rfl rfl 8 (by decide) kf19 (fun _ h9 => h9) rfl dX1_setLine_8 ?_
  refine lv_iload_n hx hb dX1_setLine_11 rfl (lv_at hl 1 rfl) ?_
  refine lv_iload_n hx hb dX1_setLine_12 rfl (lv_at hl 3 rfl) ?_
  refine q_iast (F := fun k => (wset w (13 + x1) x2) (15 + k)) (v := x3) hx hb hK hP hD hS 4 0 rfl rfl (by decide) (by omega) dX1_setLine_13 (fun H locs hP hD hS => ?_)
  have hP : va_P (dC, dI) vwCl (wHs g a (wset (wset w (13 + x1) x2) (15 + x1) x3)) H := hw_put4 (i := x1) hP (by omega)
  have hD : va_D A (wHs g a (wset (wset w (13 + x1) x2) (15 + x1) x3)) := hw_D4 (R := []) hD
  have hPf : va_P (dC, dI) vwCl (wHs g a (wset (wset w (13 + x1) x2) (15 + x1) x3)) H := by exact hP
  have hDf : va_D A (wHs g a (wset (wset w (13 + x1) x2) (15 + x1) x3)) := by exact hD
  exact W.vret hx hb hr (fun t9 ht9 hW9 => ⟨⟨(), rfl, trivial, by rw [ht9]; exact hPf, va_K.moved hW9.alike hK, hDf⟩, hS.F ht9⟩) hS.2.2 dX1_setLine_14
set_option maxHeartbeats 4000000 in
set_option maxRecDepth 100000 in
theorem kX1_build (l : Launch) (dC : Nat → ClassId) (dI : Nat → Nat → Nat) (g : Nat → ClassId) (tt : Nat → Nat) (sz : Nat) (a : Nat → Nat) (w : Int → Int) (x1 : Int) : Met l yX1_build wsX1_build ({ frames := 1, cells := 0, slots := 0, locals := 23 }) (va_Pc [.ref (a 0), .int (zI x1)] (eQ (dC, dI) (wTy g) (wHs g a w) tt sz)) (va_Qv (fun (_ : Unit) => True) (fQ (dC, dI) (wTy g) (va_A (wHs g a w) sz) (wHs g a (h_build w x1))) (va_A (wHs g a w) sz)) 0 0 (va_A (wHs g a w) sz) := by
  refine Met.ofW (cc := cX1_build) (maxL := 2) (ret := none) (by decide) rfl ?_
  intro p e s m args below meth c s₁ B hml hv
  obtain ⟨rfl, hsz, hP, hK, hD0, hT⟩ := hv
  have hx := B.exec
  have hb := B.bytes
  have hr := B.returns
  have hts := atoms_spec (ws := wsX1_build) B.pre
  have hown : s.vm.findClass RX1 = some m.cls := findClass_of_methodNamed B.named
  have hlocks := B.notSynchronized
  subst hsz
  have hD := hD0.self (sz := s.heap.size)
  generalize hAe : va_A (wHs g a w) s.heap.size = A at hD hT ⊢
  have hA : ∀ q : Nat, s.heap.size ≤ q → A q := fun q h => by rw [← hAe]; exact Or.inr h
  have hS : va_S A s.heap s.heap [] := va_S.rf
  have hl := lv_entry ([.ref (a 0), .int (zI x1)]) (n := 2) (Nat.le_of_ble_eq_true rfl)
  rw [lg_entry_eq]
  generalize (lg_sl ([.ref (a 0), .int (zI x1)]) ++ List.replicate (2 - (lg_sl ([.ref (a 0), .int (zI x1)])).length) Slot.unset).toArray = ls at hl ⊢
  have hl : lv_has ls 2 [(0, .ref (a 0)), (1, .int (zI x1))] := hl
  have kf41 := hts (.fieldLink RX1 41 "WrongWay$House" "top" "I") (by decide +kernel)
  have kf45 := hts (.fieldLink RX1 45 "WrongWay$House" "lifts" "I") (by decide +kernel)
  have kf48 := hts (.fieldLink RX1 48 "WrongWay$House" "minute" "I") (by decide +kernel)
  have kf51 := hts (.fieldLink RX1 51 "WrongWay$House" "noted" "I") (by decide +kernel)
  have kf54 := hts (.fieldLink RX1 54 "WrongWay$House" "undos" "I") (by decide +kernel)
  have iX1 := (fun w h => List.mem_cons_of_mem _ (List.mem_append_right _ h) : ∀ w ∈ u_ws RX1 TX1 14, w ∈ wsX1_build)
  refine lv_aload_n hx hb dX1_build_0 rfl (lv_at hl 0 rfl) ?_
  refine lv_iload_n hx hb dX1_build_1 rfl (lv_at hl 1 rfl) ?_
  refine va_put (D := (dC, dI)) (ci := 1) (v := .int (zI x1)) (ty := .int) (C := RX1) (T := TX1) (N := 14) hx hb hts iX1 tyX1 tyX1_ok nmX1 hown hK hP hD hS 0 rfl rfl 0 (by decide) kf41 (fun _ h9 => h9) rfl (by decide +kernel) rfl rfl (Nat.le_of_ble_eq_true rfl) dX1_build_2 (fun H locs hP hD hS => ?_)
  have hP : va_P (dC, dI) vwCl (wHs g a (wset w 1 x1)) H := hw_sc1 (R := []) hP
  have hD : va_D A (wHs g a (wset w 1 x1)) := hw_D0 (R := []) hD
  refine lv_aload_n hx hb dX1_build_5 rfl (lv_at hl 0 rfl) ?_
  refine q_iconst hx hb dX1_build_6 ?_
  refine va_put (D := (dC, dI)) (ci := 1) (v := .int (zI 0)) (ty := .int) (C := RX1) (T := TX1) (N := 14) hx hb hts iX1 tyX1 tyX1_ok nmX1 hown hK hP hD hS 0 rfl rfl 1 (by decide) kf45 (fun _ h9 => h9) rfl (by decide +kernel) rfl rfl (Nat.le_of_ble_eq_true rfl) dX1_build_7 (fun H locs hP hD hS => ?_)
  have hP : va_P (dC, dI) vwCl (wHs g a (wset (wset w 1 x1) 0 0)) H := hw_sc0 (R := []) hP
  have hD : va_D A (wHs g a (wset (wset w 1 x1) 0 0)) := hw_D0 (R := []) hD
  refine lv_aload_n hx hb dX1_build_10 rfl (lv_at hl 0 rfl) ?_
  refine q_iconst hx hb dX1_build_11 ?_
  refine va_put (D := (dC, dI)) (ci := 1) (v := .int (zI 0)) (ty := .int) (C := RX1) (T := TX1) (N := 14) hx hb hts iX1 tyX1 tyX1_ok nmX1 hown hK hP hD hS 0 rfl rfl 2 (by decide) kf48 (fun _ h9 => h9) rfl (by decide +kernel) rfl rfl (Nat.le_of_ble_eq_true rfl) dX1_build_12 (fun H locs hP hD hS => ?_)
  have hP : va_P (dC, dI) vwCl (wHs g a (wset (wset (wset w 1 x1) 0 0) 2 0)) H := hw_sc2 (R := []) hP
  have hD : va_D A (wHs g a (wset (wset (wset w 1 x1) 0 0) 2 0)) := hw_D0 (R := []) hD
  refine lv_aload_n hx hb dX1_build_15 rfl (lv_at hl 0 rfl) ?_
  refine q_iconst hx hb dX1_build_16 ?_
  refine va_put (D := (dC, dI)) (ci := 1) (v := .int (zI 0)) (ty := .int) (C := RX1) (T := TX1) (N := 14) hx hb hts iX1 tyX1 tyX1_ok nmX1 hown hK hP hD hS 0 rfl rfl 3 (by decide) kf51 (fun _ h9 => h9) rfl (by decide +kernel) rfl rfl (Nat.le_of_ble_eq_true rfl) dX1_build_17 (fun H locs hP hD hS => ?_)
  have hP : va_P (dC, dI) vwCl (wHs g a (wset (wset (wset (wset w 1 x1) 0 0) 2 0) 3 0)) H := hw_sc3 (R := []) hP
  have hD : va_D A (wHs g a (wset (wset (wset (wset w 1 x1) 0 0) 2 0) 3 0)) := hw_D0 (R := []) hD
  refine lv_aload_n hx hb dX1_build_20 rfl (lv_at hl 0 rfl) ?_
  refine q_iconst hx hb dX1_build_21 ?_
  refine va_put (D := (dC, dI)) (ci := 1) (v := .int (zI 0)) (ty := .int) (C := RX1) (T := TX1) (N := 14) hx hb hts iX1 tyX1 tyX1_ok nmX1 hown hK hP hD hS 0 rfl rfl 4 (by decide) kf54 (fun _ h9 => h9) rfl (by decide +kernel) rfl rfl (Nat.le_of_ble_eq_true rfl) dX1_build_22 (fun H locs hP hD hS => ?_)
  have hP : va_P (dC, dI) vwCl (wHs g a (wset (wset (wset (wset (wset w 1 x1) 0 0) 2 0) 3 0) 4 0)) H := hw_sc4 (R := []) hP
  have hD : va_D A (wHs g a (wset (wset (wset (wset (wset w 1 x1) 0 0) 2 0) 3 0) 4 0)) := hw_D0 (R := []) hD
  refine lv_aload_n hx hb dX1_build_25 rfl (lv_at hl 0 rfl) ?_
  refine q_iconst hx hb dX1_build_26 ?_
  refine q_bipush hx hb dX1_build_27 rfl ?_
  refine q_iconst hx hb dX1_build_29 ?_
  refine q_cEv (b := (a 0)) (As := [.int (zI 0), .int (zI 10), .int (zI 0)]) (rest := []) (w1 := wHs g a (wset (wset (wset (wset (wset (wset (wset w 1 x1) 0 0) 2 0) 3 0) 4 0) (13 + 0) 10) (15 + 0) 0)) ⟨hx, hb, hml, hown, hts⟩ hP hD hK hT hS hA (kX1_setLine l dC dI g tt _ a (wset (wset (wset (wset (wset w 1 x1) 0 0) 2 0) 3 0) 4 0) 0 10 0 (by omega)) (cwV 3 hts gX1_build_X1_setLine rfl rfl rfl (by decide +kernel) ⟨Nat.le_of_ble_eq_true rfl, Nat.le_of_ble_eq_true rfl⟩) 0 1 rfl rfl rfl rfl hl.1 rfl (Nat.le_of_ble_eq_true rfl) dX1_build_30 ⟨Nat.le_of_ble_eq_true rfl, Nat.le_of_ble_eq_true rfl⟩ (fun H locs hP hD hS => ?_)
  refine lv_aload_n hx hb dX1_build_33 rfl (lv_at hl 0 rfl) ?_
  refine q_iconst hx hb dX1_build_34 ?_
  refine q_bipush hx hb dX1_build_35 rfl ?_
  refine q_iconst hx hb dX1_build_37 ?_
  refine q_cEv (b := (a 0)) (As := [.int (zI 1), .int (zI 10), .int (zI 0)]) (rest := []) (w1 := wHs g a (wset (wset (wset (wset (wset (wset (wset (wset (wset w 1 x1) 0 0) 2 0) 3 0) 4 0) (13 + 0) 10) (15 + 0) 0) (13 + 1) 10) (15 + 1) 0)) ⟨hx, hb, hml, hown, hts⟩ hP hD hK hT hS hA (kX1_setLine l dC dI g tt _ a (wset (wset (wset (wset (wset (wset (wset w 1 x1) 0 0) 2 0) 3 0) 4 0) (13 + 0) 10) (15 + 0) 0) 1 10 0 (by omega)) (cwV 3 hts gX1_build_X1_setLine rfl rfl rfl (by decide +kernel) ⟨Nat.le_of_ble_eq_true rfl, Nat.le_of_ble_eq_true rfl⟩) 0 1 rfl rfl rfl rfl hl.1 rfl (Nat.le_of_ble_eq_true rfl) dX1_build_38 ⟨Nat.le_of_ble_eq_true rfl, Nat.le_of_ble_eq_true rfl⟩ (fun H locs hP hD hS => ?_)
  have hPf : va_P (dC, dI) vwCl (wHs g a (h_build w x1)) H := by rw [(show (h_build w x1) = wset (wset (wset (wset (wset (wset (wset (wset (wset w 1 x1) 0 0) 2 0) 3 0) 4 0) (13 + 0) 10) (15 + 0) 0) (13 + 1) 10) (15 + 1) 0 from by rfl)]; exact hP
  have hDf : va_D A (wHs g a (h_build w x1)) := by rw [(show (h_build w x1) = wset (wset (wset (wset (wset (wset (wset (wset (wset w 1 x1) 0 0) 2 0) 3 0) 4 0) (13 + 0) 10) (15 + 0) 0) (13 + 1) 10) (15 + 1) 0 from by rfl)]; exact hD
  exact W.vret hx hb hr (fun t9 ht9 hW9 => ⟨⟨(), rfl, trivial, by rw [ht9]; exact hPf, va_K.moved hW9.alike hK, hDf⟩, hS.F ht9⟩) hS.2.2 dX1_build_41
set_option maxHeartbeats 4000000 in
set_option maxRecDepth 100000 in
theorem kX1_addLift (l : Launch) (dC : Nat → ClassId) (dI : Nat → Nat → Nat) (g : Nat → ClassId) (tt : Nat → Nat) (sz : Nat) (a : Nat → Nat) (w : Int → Int) (x1 x2 : Int) (h1 : 0 ≤ w 0 ∧ w 0 ≤ 4) : Met l yX1_addLift wsX1_addLift ({ frames := 0, cells := 0, slots := 0, locals := 0 }) (va_Pc [.ref (a 0), .int (zI x1), .int (zI x2)] (eQ (dC, dI) (wTy g) (wHs g a w) tt sz)) (va_Qv (fun (_ : Unit) => True) (fQ (dC, dI) (wTy g) (va_A (wHs g a w) sz) (wHs g a (h_addLift w x1 x2))) (va_A (wHs g a w) sz)) 0 0 (va_A (wHs g a w) sz) := by
  refine Met.ofW (cc := cX1_addLift) (maxL := 3) (ret := none) (by decide) rfl ?_
  intro p e s m args below meth c s₁ B hml hv
  obtain ⟨rfl, hsz, hP, hK, hD0, hT⟩ := hv
  have hx := B.exec
  have hb := B.bytes
  have hr := B.returns
  have hts := atoms_spec (ws := wsX1_addLift) B.pre
  have hown : s.vm.findClass RX1 = some m.cls := findClass_of_methodNamed B.named
  have hlocks := B.notSynchronized
  subst hsz
  have hD := hD0.self (sz := s.heap.size)
  generalize hAe : va_A (wHs g a w) s.heap.size = A at hD hT ⊢
  have hA : ∀ q : Nat, s.heap.size ≤ q → A q := fun q h => by rw [← hAe]; exact Or.inr h
  have hS : va_S A s.heap s.heap [] := va_S.rf
  have hl := lv_entry ([.ref (a 0), .int (zI x1), .int (zI x2)]) (n := 3) (Nat.le_of_ble_eq_true rfl)
  rw [lg_entry_eq]
  generalize (lg_sl ([.ref (a 0), .int (zI x1), .int (zI x2)]) ++ List.replicate (3 - (lg_sl ([.ref (a 0), .int (zI x1), .int (zI x2)])).length) Slot.unset).toArray = ls at hl ⊢
  have hl : lv_has ls 3 [(0, .ref (a 0)), (1, .int (zI x1)), (2, .int (zI x2))] := hl
  have kf13 := hts (.fieldLink RX1 13 "WrongWay$House" "starts" "[I") (by decide +kernel)
  have kf45 := hts (.fieldLink RX1 45 "WrongWay$House" "lifts" "I") (by decide +kernel)
  have kf54 := hts (.fieldLink RX1 54 "WrongWay$House" "undos" "I") (by decide +kernel)
  have kf9 := hts (.fieldLink RX1 9 "WrongWay$House" "kinds" "[I") (by decide +kernel)
  have iX1 := (fun w h => List.mem_cons_of_mem _ (List.mem_append_right _ h) : ∀ w ∈ u_ws RX1 TX1 14, w ∈ wsX1_addLift)
  refine lv_aload_n hx hb dX1_addLift_0 rfl (lv_at hl 0 rfl) ?_
  refine va_get (D := (dC, dI)) (ci := 1) (v := .int (zI (w 0))) (C := RX1) (T := TX1) (N := 14) hx hb hts iX1 hown hK hP 0 rfl rfl 1 (by decide) kf45 (fun _ h9 => h9) rfl dX1_addLift_1 ?_
  refine q_iconst hx hb dX1_addLift_4 ?_
  refine q_icmp_lt (tgt := 9) hx hb dX1_addLift_5 (by decide) (by omega) (fun c_1 => ?_) (fun c_1 => ?_)
  · refine lv_aload_n hx hb dX1_addLift_9 rfl (lv_at hl 0 rfl) ?_
    refine va_get (D := (dC, dI)) (ci := 1) (v := .ref (a 1)) (C := RX1) (T := TX1) (N := 14) hx hb hts iX1 hown hK hP 0 rfl rfl 5 (by decide) kf9 (fun _ h9 => h9) rfl dX1_addLift_10 ?_
    refine lv_aload_n hx hb dX1_addLift_13 rfl (lv_at hl 0 rfl) ?_
    refine va_get (D := (dC, dI)) (ci := 1) (v := .int (zI (w 0))) (C := RX1) (T := TX1) (N := 14) hx hb hts iX1 hown hK hP 0 rfl rfl 1 (by decide) kf45 (fun _ h9 => h9) rfl dX1_addLift_14 ?_
    refine lv_iload_n hx hb dX1_addLift_17 rfl (lv_at hl 1 rfl) ?_
    refine q_iast (F := fun k => w (5 + k)) (v := x1) hx hb hK hP hD hS 1 0 rfl rfl (by decide) (by omega) dX1_addLift_18 (fun H locs hP hD hS => ?_)
    have hP : va_P (dC, dI) vwCl (wHs g a (wset w (5 + (w 0)) x1)) H := hw_put1 (i := (w 0)) hP (by omega)
    have hD : va_D A (wHs g a (wset w (5 + (w 0)) x1)) := hw_D1 (R := []) hD
    refine lv_aload_n hx hb dX1_addLift_19 rfl (lv_at hl 0 rfl) ?_
    refine va_get (D := (dC, dI)) (ci := 1) (v := .ref (a 2)) (C := RX1) (T := TX1) (N := 14) hx hb hts iX1 hown hK hP 0 rfl rfl 6 (by decide) kf13 (fun _ h9 => h9) rfl dX1_addLift_20 ?_
    refine lv_aload_n hx hb dX1_addLift_23 rfl (lv_at hl 0 rfl) ?_
    refine va_get (D := (dC, dI)) (ci := 1) (v := .int (zI ((wset w (5 + (w 0)) x1) 0))) (C := RX1) (T := TX1) (N := 14) hx hb hts iX1 hown hK hP 0 rfl rfl 1 (by decide) kf45 (fun _ h9 => h9) rfl dX1_addLift_24 ?_
    rw [show (wset w (5 + (w 0)) x1) 0 = w 0 from by first | rfl | (rw [wset_ne (by omega)]; done) | (rw [wset_ne (by omega), wset_ne (by omega)]; done) | (rw [wset_ne (by omega), wset_ne (by omega), wset_ne (by omega)]; done) | (rw [wset_ne (by omega), wset_ne (by omega), wset_ne (by omega), wset_ne (by omega)]; done)]
    refine lv_iload_n hx hb dX1_addLift_27 rfl (lv_at hl 2 rfl) ?_
    refine q_iast (F := fun k => (wset w (5 + (w 0)) x1) (9 + k)) (v := x2) hx hb hK hP hD hS 2 0 rfl rfl (by decide) (by omega) dX1_addLift_28 (fun H locs hP hD hS => ?_)
    have hP : va_P (dC, dI) vwCl (wHs g a (wset (wset w (5 + (w 0)) x1) (9 + (w 0)) x2)) H := hw_put2 (i := (w 0)) hP (by omega)
    have hD : va_D A (wHs g a (wset (wset w (5 + (w 0)) x1) (9 + (w 0)) x2)) := hw_D2 (R := []) hD
    refine lv_aload_n hx hb dX1_addLift_29 rfl (lv_at hl 0 rfl) ?_
    refine lv_dup hx hb dX1_addLift_30 rfl ?_
    refine va_get (D := (dC, dI)) (ci := 1) (v := .int (zI ((wset (wset w (5 + (w 0)) x1) (9 + (w 0)) x2) 0))) (C := RX1) (T := TX1) (N := 14) hx hb hts iX1 hown hK hP 0 rfl rfl 1 (by decide) kf45 (fun _ h9 => h9) rfl dX1_addLift_31 ?_
    rw [show (wset (wset w (5 + (w 0)) x1) (9 + (w 0)) x2) 0 = w 0 from by first | rfl | (rw [wset_ne (by omega)]; done) | (rw [wset_ne (by omega), wset_ne (by omega)]; done) | (rw [wset_ne (by omega), wset_ne (by omega), wset_ne (by omega)]; done) | (rw [wset_ne (by omega), wset_ne (by omega), wset_ne (by omega), wset_ne (by omega)]; done)]
    refine q_iconst hx hb dX1_addLift_34 ?_
    refine q_iadd hx hb dX1_addLift_35 ?_
    refine va_put (D := (dC, dI)) (ci := 1) (v := .int (zI ((w 0) + 1))) (ty := .int) (C := RX1) (T := TX1) (N := 14) hx hb hts iX1 tyX1 tyX1_ok nmX1 hown hK hP hD hS 0 rfl rfl 1 (by decide) kf45 (fun _ h9 => h9) rfl (by decide +kernel) rfl rfl (Nat.le_of_ble_eq_true rfl) dX1_addLift_36 (fun H locs hP hD hS => ?_)
    have hP : va_P (dC, dI) vwCl (wHs g a (wset (wset (wset w (5 + (w 0)) x1) (9 + (w 0)) x2) 0 ((w 0) + 1))) H := hw_sc0 (R := []) hP
    have hD : va_D A (wHs g a (wset (wset (wset w (5 + (w 0)) x1) (9 + (w 0)) x2) 0 ((w 0) + 1))) := hw_D0 (R := []) hD
    refine lv_aload_n hx hb dX1_addLift_39 rfl (lv_at hl 0 rfl) ?_
    refine q_iconst hx hb dX1_addLift_40 ?_
    refine va_put (D := (dC, dI)) (ci := 1) (v := .int (zI 0)) (ty := .int) (C := RX1) (T := TX1) (N := 14) hx hb hts iX1 tyX1 tyX1_ok nmX1 hown hK hP hD hS 0 rfl rfl 4 (by decide) kf54 (fun _ h9 => h9) rfl (by decide +kernel) rfl rfl (Nat.le_of_ble_eq_true rfl) dX1_addLift_41 (fun H locs hP hD hS => ?_)
    have hP : va_P (dC, dI) vwCl (wHs g a (wset (wset (wset (wset w (5 + (w 0)) x1) (9 + (w 0)) x2) 0 ((w 0) + 1)) 4 0)) H := hw_sc4 (R := []) hP
    have hD : va_D A (wHs g a (wset (wset (wset (wset w (5 + (w 0)) x1) (9 + (w 0)) x2) 0 ((w 0) + 1)) 4 0)) := hw_D0 (R := []) hD
    have hPf : va_P (dC, dI) vwCl (wHs g a (h_addLift w x1 x2)) H := by rw [(show (h_addLift w x1 x2) = wset (wset (wset (wset w (5 + (w 0)) x1) (9 + (w 0)) x2) 0 ((w 0) + 1)) 4 0 from by unfold h_addLift; rw [if_pos c_1])]; exact hP
    have hDf : va_D A (wHs g a (h_addLift w x1 x2)) := by rw [(show (h_addLift w x1 x2) = wset (wset (wset (wset w (5 + (w 0)) x1) (9 + (w 0)) x2) 0 ((w 0) + 1)) 4 0 from by unfold h_addLift; rw [if_pos c_1])]; exact hD
    exact W.vret hx hb hr (fun t9 ht9 hW9 => ⟨⟨(), rfl, trivial, by rw [ht9]; exact hPf, va_K.moved hW9.alike hK, hDf⟩, hS.F ht9⟩) hS.2.2 dX1_addLift_44
  · have hPf : va_P (dC, dI) vwCl (wHs g a (h_addLift w x1 x2)) s.heap := by rw [(show (h_addLift w x1 x2) = w from by unfold h_addLift; rw [if_neg c_1])]; exact hP
    have hDf : va_D A (wHs g a (h_addLift w x1 x2)) := by rw [(show (h_addLift w x1 x2) = w from by unfold h_addLift; rw [if_neg c_1])]; exact hD
    exact W.vret hx hb hr (fun t9 ht9 hW9 => ⟨⟨(), rfl, trivial, by rw [ht9]; exact hPf, va_K.moved hW9.alike hK, hDf⟩, hS.F ht9⟩) hS.2.2 dX1_addLift_8
set_option maxHeartbeats 4000000 in
set_option maxRecDepth 100000 in
theorem kX1_addNoted (l : Launch) (dC : Nat → ClassId) (dI : Nat → Nat → Nat) (g : Nat → ClassId) (tt : Nat → Nat) (sz : Nat) (a : Nat → Nat) (w : Int → Int) (x1 x2 x3 x4 : Int) (h1 : 0 ≤ w 3 ∧ w 3 ≤ 6) : Met l yX1_addNoted wsX1_addNoted ({ frames := 0, cells := 0, slots := 0, locals := 0 }) (va_Pc [.ref (a 0), .int (zI x1), .int (zI x2), .int (zI x3), .int (zI x4)] (eQ (dC, dI) (wTy g) (wHs g a w) tt sz)) (va_Qv (fun (_ : Unit) => True) (fQ (dC, dI) (wTy g) (va_A (wHs g a w) sz) (wHs g a (h_addNoted w x1 x2 x3 x4))) (va_A (wHs g a w) sz)) 0 0 (va_A (wHs g a w) sz) := by
  refine Met.ofW (cc := cX1_addNoted) (maxL := 5) (ret := none) (by decide) rfl ?_
  intro p e s m args below meth c s₁ B hml hv
  obtain ⟨rfl, hsz, hP, hK, hD0, hT⟩ := hv
  have hx := B.exec
  have hb := B.bytes
  have hr := B.returns
  have hts := atoms_spec (ws := wsX1_addNoted) B.pre
  have hown : s.vm.findClass RX1 = some m.cls := findClass_of_methodNamed B.named
  have hlocks := B.notSynchronized
  subst hsz
  have hD := hD0.self (sz := s.heap.size)
  generalize hAe : va_A (wHs g a w) s.heap.size = A at hD hT ⊢
  have hA : ∀ q : Nat, s.heap.size ≤ q → A q := fun q h => by rw [← hAe]; exact Or.inr h
  have hS : va_S A s.heap s.heap [] := va_S.rf
  have hl := lv_entry ([.ref (a 0), .int (zI x1), .int (zI x2), .int (zI x3), .int (zI x4)]) (n := 5) (Nat.le_of_ble_eq_true rfl)
  rw [lg_entry_eq]
  generalize (lg_sl ([.ref (a 0), .int (zI x1), .int (zI x2), .int (zI x3), .int (zI x4)]) ++ List.replicate (5 - (lg_sl ([.ref (a 0), .int (zI x1), .int (zI x2), .int (zI x3), .int (zI x4)])).length) Slot.unset).toArray = ls at hl ⊢
  have hl : lv_has ls 5 [(0, .ref (a 0)), (1, .int (zI x1)), (2, .int (zI x2)), (3, .int (zI x3)), (4, .int (zI x4))] := hl
  have kf22 := hts (.fieldLink RX1 22 "WrongWay$House" "notedLifts" "[I") (by decide +kernel)
  have kf25 := hts (.fieldLink RX1 25 "WrongWay$House" "notedFloors" "[I") (by decide +kernel)
  have kf28 := hts (.fieldLink RX1 28 "WrongWay$House" "notedMinutes" "[I") (by decide +kernel)
  have kf31 := hts (.fieldLink RX1 31 "WrongWay$House" "notedThere" "[I") (by decide +kernel)
  have kf51 := hts (.fieldLink RX1 51 "WrongWay$House" "noted" "I") (by decide +kernel)
  have iX1 := (fun w h => List.mem_cons_of_mem _ (List.mem_append_right _ h) : ∀ w ∈ u_ws RX1 TX1 14, w ∈ wsX1_addNoted)
  refine lv_aload_n hx hb dX1_addNoted_0 rfl (lv_at hl 0 rfl) ?_
  refine va_get (D := (dC, dI)) (ci := 1) (v := .int (zI (w 3))) (C := RX1) (T := TX1) (N := 14) hx hb hts iX1 hown hK hP 0 rfl rfl 3 (by decide) kf51 (fun _ h9 => h9) rfl dX1_addNoted_1 ?_
  refine q_bipush hx hb dX1_addNoted_4 rfl ?_
  refine q_icmp_lt (tgt := 10) hx hb dX1_addNoted_6 (by decide) (by omega) (fun c_1 => ?_) (fun c_1 => ?_)
  · refine lv_aload_n hx hb dX1_addNoted_10 rfl (lv_at hl 0 rfl) ?_
    refine va_get (D := (dC, dI)) (ci := 1) (v := .ref (a 5)) (C := RX1) (T := TX1) (N := 14) hx hb hts iX1 hown hK hP 0 rfl rfl 9 (by decide) kf22 (fun _ h9 => h9) rfl dX1_addNoted_11 ?_
    refine lv_aload_n hx hb dX1_addNoted_14 rfl (lv_at hl 0 rfl) ?_
    refine va_get (D := (dC, dI)) (ci := 1) (v := .int (zI (w 3))) (C := RX1) (T := TX1) (N := 14) hx hb hts iX1 hown hK hP 0 rfl rfl 3 (by decide) kf51 (fun _ h9 => h9) rfl dX1_addNoted_15 ?_
    refine lv_iload_n hx hb dX1_addNoted_18 rfl (lv_at hl 1 rfl) ?_
    refine q_iast (F := fun k => w (17 + 4 * k)) (v := x1) hx hb hK hP hD hS 5 0 rfl rfl (by decide) (by omega) dX1_addNoted_19 (fun H locs hP hD hS => ?_)
    have hP : va_P (dC, dI) vwCl (wHs g a (wset w (17 + 4 * (w 3)) x1)) H := hw_put5 (i := (w 3)) hP (by omega)
    have hD : va_D A (wHs g a (wset w (17 + 4 * (w 3)) x1)) := hw_D5 (R := []) hD
    refine lv_aload_n hx hb dX1_addNoted_20 rfl (lv_at hl 0 rfl) ?_
    refine va_get (D := (dC, dI)) (ci := 1) (v := .ref (a 6)) (C := RX1) (T := TX1) (N := 14) hx hb hts iX1 hown hK hP 0 rfl rfl 10 (by decide) kf25 (fun _ h9 => h9) rfl dX1_addNoted_21 ?_
    refine lv_aload_n hx hb dX1_addNoted_24 rfl (lv_at hl 0 rfl) ?_
    refine va_get (D := (dC, dI)) (ci := 1) (v := .int (zI ((wset w (17 + 4 * (w 3)) x1) 3))) (C := RX1) (T := TX1) (N := 14) hx hb hts iX1 hown hK hP 0 rfl rfl 3 (by decide) kf51 (fun _ h9 => h9) rfl dX1_addNoted_25 ?_
    rw [show (wset w (17 + 4 * (w 3)) x1) 3 = w 3 from by first | rfl | (rw [wset_ne (by omega)]; done) | (rw [wset_ne (by omega), wset_ne (by omega)]; done) | (rw [wset_ne (by omega), wset_ne (by omega), wset_ne (by omega)]; done) | (rw [wset_ne (by omega), wset_ne (by omega), wset_ne (by omega), wset_ne (by omega)]; done)]
    refine lv_iload_n hx hb dX1_addNoted_28 rfl (lv_at hl 2 rfl) ?_
    refine q_iast (F := fun k => (wset w (17 + 4 * (w 3)) x1) (18 + 4 * k)) (v := x2) hx hb hK hP hD hS 6 0 rfl rfl (by decide) (by omega) dX1_addNoted_29 (fun H locs hP hD hS => ?_)
    have hP : va_P (dC, dI) vwCl (wHs g a (wset (wset w (17 + 4 * (w 3)) x1) (18 + 4 * (w 3)) x2)) H := hw_put6 (i := (w 3)) hP (by omega)
    have hD : va_D A (wHs g a (wset (wset w (17 + 4 * (w 3)) x1) (18 + 4 * (w 3)) x2)) := hw_D6 (R := []) hD
    refine lv_aload_n hx hb dX1_addNoted_30 rfl (lv_at hl 0 rfl) ?_
    refine va_get (D := (dC, dI)) (ci := 1) (v := .ref (a 7)) (C := RX1) (T := TX1) (N := 14) hx hb hts iX1 hown hK hP 0 rfl rfl 11 (by decide) kf28 (fun _ h9 => h9) rfl dX1_addNoted_31 ?_
    refine lv_aload_n hx hb dX1_addNoted_34 rfl (lv_at hl 0 rfl) ?_
    refine va_get (D := (dC, dI)) (ci := 1) (v := .int (zI ((wset (wset w (17 + 4 * (w 3)) x1) (18 + 4 * (w 3)) x2) 3))) (C := RX1) (T := TX1) (N := 14) hx hb hts iX1 hown hK hP 0 rfl rfl 3 (by decide) kf51 (fun _ h9 => h9) rfl dX1_addNoted_35 ?_
    rw [show (wset (wset w (17 + 4 * (w 3)) x1) (18 + 4 * (w 3)) x2) 3 = w 3 from by first | rfl | (rw [wset_ne (by omega)]; done) | (rw [wset_ne (by omega), wset_ne (by omega)]; done) | (rw [wset_ne (by omega), wset_ne (by omega), wset_ne (by omega)]; done) | (rw [wset_ne (by omega), wset_ne (by omega), wset_ne (by omega), wset_ne (by omega)]; done)]
    refine lv_iload_n hx hb dX1_addNoted_38 rfl (lv_at hl 3 rfl) ?_
    refine q_iast (F := fun k => (wset (wset w (17 + 4 * (w 3)) x1) (18 + 4 * (w 3)) x2) (19 + 4 * k)) (v := x3) hx hb hK hP hD hS 7 0 rfl rfl (by decide) (by omega) dX1_addNoted_39 (fun H locs hP hD hS => ?_)
    have hP : va_P (dC, dI) vwCl (wHs g a (wset (wset (wset w (17 + 4 * (w 3)) x1) (18 + 4 * (w 3)) x2) (19 + 4 * (w 3)) x3)) H := hw_put7 (i := (w 3)) hP (by omega)
    have hD : va_D A (wHs g a (wset (wset (wset w (17 + 4 * (w 3)) x1) (18 + 4 * (w 3)) x2) (19 + 4 * (w 3)) x3)) := hw_D7 (R := []) hD
    refine lv_aload_n hx hb dX1_addNoted_40 rfl (lv_at hl 0 rfl) ?_
    refine va_get (D := (dC, dI)) (ci := 1) (v := .ref (a 8)) (C := RX1) (T := TX1) (N := 14) hx hb hts iX1 hown hK hP 0 rfl rfl 12 (by decide) kf31 (fun _ h9 => h9) rfl dX1_addNoted_41 ?_
    refine lv_aload_n hx hb dX1_addNoted_44 rfl (lv_at hl 0 rfl) ?_
    refine va_get (D := (dC, dI)) (ci := 1) (v := .int (zI ((wset (wset (wset w (17 + 4 * (w 3)) x1) (18 + 4 * (w 3)) x2) (19 + 4 * (w 3)) x3) 3))) (C := RX1) (T := TX1) (N := 14) hx hb hts iX1 hown hK hP 0 rfl rfl 3 (by decide) kf51 (fun _ h9 => h9) rfl dX1_addNoted_45 ?_
    rw [show (wset (wset (wset w (17 + 4 * (w 3)) x1) (18 + 4 * (w 3)) x2) (19 + 4 * (w 3)) x3) 3 = w 3 from by first | rfl | (rw [wset_ne (by omega)]; done) | (rw [wset_ne (by omega), wset_ne (by omega)]; done) | (rw [wset_ne (by omega), wset_ne (by omega), wset_ne (by omega)]; done) | (rw [wset_ne (by omega), wset_ne (by omega), wset_ne (by omega), wset_ne (by omega)]; done)]
    refine lv_iload hx hb dX1_addNoted_48 (lv_at hl 4 rfl) ?_
    refine q_iast (F := fun k => (wset (wset (wset w (17 + 4 * (w 3)) x1) (18 + 4 * (w 3)) x2) (19 + 4 * (w 3)) x3) (20 + 4 * k)) (v := x4) hx hb hK hP hD hS 8 0 rfl rfl (by decide) (by omega) dX1_addNoted_50 (fun H locs hP hD hS => ?_)
    have hP : va_P (dC, dI) vwCl (wHs g a (wset (wset (wset (wset w (17 + 4 * (w 3)) x1) (18 + 4 * (w 3)) x2) (19 + 4 * (w 3)) x3) (20 + 4 * (w 3)) x4)) H := hw_put8 (i := (w 3)) hP (by omega)
    have hD : va_D A (wHs g a (wset (wset (wset (wset w (17 + 4 * (w 3)) x1) (18 + 4 * (w 3)) x2) (19 + 4 * (w 3)) x3) (20 + 4 * (w 3)) x4)) := hw_D8 (R := []) hD
    refine lv_aload_n hx hb dX1_addNoted_51 rfl (lv_at hl 0 rfl) ?_
    refine lv_dup hx hb dX1_addNoted_52 rfl ?_
    refine va_get (D := (dC, dI)) (ci := 1) (v := .int (zI ((wset (wset (wset (wset w (17 + 4 * (w 3)) x1) (18 + 4 * (w 3)) x2) (19 + 4 * (w 3)) x3) (20 + 4 * (w 3)) x4) 3))) (C := RX1) (T := TX1) (N := 14) hx hb hts iX1 hown hK hP 0 rfl rfl 3 (by decide) kf51 (fun _ h9 => h9) rfl dX1_addNoted_53 ?_
    rw [show (wset (wset (wset (wset w (17 + 4 * (w 3)) x1) (18 + 4 * (w 3)) x2) (19 + 4 * (w 3)) x3) (20 + 4 * (w 3)) x4) 3 = w 3 from by first | rfl | (rw [wset_ne (by omega)]; done) | (rw [wset_ne (by omega), wset_ne (by omega)]; done) | (rw [wset_ne (by omega), wset_ne (by omega), wset_ne (by omega)]; done) | (rw [wset_ne (by omega), wset_ne (by omega), wset_ne (by omega), wset_ne (by omega)]; done)]
    refine q_iconst hx hb dX1_addNoted_56 ?_
    refine q_iadd hx hb dX1_addNoted_57 ?_
    refine va_put (D := (dC, dI)) (ci := 1) (v := .int (zI ((w 3) + 1))) (ty := .int) (C := RX1) (T := TX1) (N := 14) hx hb hts iX1 tyX1 tyX1_ok nmX1 hown hK hP hD hS 0 rfl rfl 3 (by decide) kf51 (fun _ h9 => h9) rfl (by decide +kernel) rfl rfl (Nat.le_of_ble_eq_true rfl) dX1_addNoted_58 (fun H locs hP hD hS => ?_)
    have hP : va_P (dC, dI) vwCl (wHs g a (wset (wset (wset (wset (wset w (17 + 4 * (w 3)) x1) (18 + 4 * (w 3)) x2) (19 + 4 * (w 3)) x3) (20 + 4 * (w 3)) x4) 3 ((w 3) + 1))) H := hw_sc3 (R := []) hP
    have hD : va_D A (wHs g a (wset (wset (wset (wset (wset w (17 + 4 * (w 3)) x1) (18 + 4 * (w 3)) x2) (19 + 4 * (w 3)) x3) (20 + 4 * (w 3)) x4) 3 ((w 3) + 1))) := hw_D0 (R := []) hD
    have hPf : va_P (dC, dI) vwCl (wHs g a (h_addNoted w x1 x2 x3 x4)) H := by rw [(show (h_addNoted w x1 x2 x3 x4) = wset (wset (wset (wset (wset w (17 + 4 * (w 3)) x1) (18 + 4 * (w 3)) x2) (19 + 4 * (w 3)) x3) (20 + 4 * (w 3)) x4) 3 ((w 3) + 1) from by unfold h_addNoted; rw [if_pos c_1])]; exact hP
    have hDf : va_D A (wHs g a (h_addNoted w x1 x2 x3 x4)) := by rw [(show (h_addNoted w x1 x2 x3 x4) = wset (wset (wset (wset (wset w (17 + 4 * (w 3)) x1) (18 + 4 * (w 3)) x2) (19 + 4 * (w 3)) x3) (20 + 4 * (w 3)) x4) 3 ((w 3) + 1) from by unfold h_addNoted; rw [if_pos c_1])]; exact hD
    exact W.vret hx hb hr (fun t9 ht9 hW9 => ⟨⟨(), rfl, trivial, by rw [ht9]; exact hPf, va_K.moved hW9.alike hK, hDf⟩, hS.F ht9⟩) hS.2.2 dX1_addNoted_61
  · have hPf : va_P (dC, dI) vwCl (wHs g a (h_addNoted w x1 x2 x3 x4)) s.heap := by rw [(show (h_addNoted w x1 x2 x3 x4) = w from by unfold h_addNoted; rw [if_neg c_1])]; exact hP
    have hDf : va_D A (wHs g a (h_addNoted w x1 x2 x3 x4)) := by rw [(show (h_addNoted w x1 x2 x3 x4) = w from by unfold h_addNoted; rw [if_neg c_1])]; exact hD
    exact W.vret hx hb hr (fun t9 ht9 hW9 => ⟨⟨(), rfl, trivial, by rw [ht9]; exact hPf, va_K.moved hW9.alike hK, hDf⟩, hS.F ht9⟩) hS.2.2 dX1_addNoted_9
set_option maxHeartbeats 4000000 in
set_option maxRecDepth 100000 in
theorem kX1_goOn (l : Launch) (dC : Nat → ClassId) (dI : Nat → Nat → Nat) (g : Nat → ClassId) (tt : Nat → Nat) (sz : Nat) (a : Nat → Nat) (w : Int → Int) (x1 : Int) (h1 : 0 ≤ w 4 ∧ w 4 ≤ 8) : Met l yX1_goOn wsX1_goOn ({ frames := 1, cells := 0, slots := 0, locals := 40 }) (va_Pc [.ref (a 0), .int (zI x1)] (eQ (dC, dI) (wTy g) (wHs g a w) tt sz)) (va_Qv (fun (_ : Unit) => True) (fQ (dC, dI) (wTy g) (va_A (wHs g a w) sz) (wHs g a (h_goOn w x1))) (va_A (wHs g a w) sz)) 0 0 (va_A (wHs g a w) sz) := by
  refine Met.ofW (cc := cX1_goOn) (maxL := 2) (ret := none) (by decide) rfl ?_
  intro p e s m args below meth c s₁ B hml hv
  obtain ⟨rfl, hsz, hP, hK, hD0, hT⟩ := hv
  have hx := B.exec
  have hb := B.bytes
  have hr := B.returns
  have hts := atoms_spec (ws := wsX1_goOn) B.pre
  have hown : s.vm.findClass RX1 = some m.cls := findClass_of_methodNamed B.named
  have hlocks := B.notSynchronized
  subst hsz
  have hD := hD0.self (sz := s.heap.size)
  generalize hAe : va_A (wHs g a w) s.heap.size = A at hD hT ⊢
  have hA : ∀ q : Nat, s.heap.size ≤ q → A q := fun q h => by rw [← hAe]; exact Or.inr h
  have hS : va_S A s.heap s.heap [] := va_S.rf
  have hl := lv_entry ([.ref (a 0), .int (zI x1)]) (n := 2) (Nat.le_of_ble_eq_true rfl)
  rw [lg_entry_eq]
  generalize (lg_sl ([.ref (a 0), .int (zI x1)]) ++ List.replicate (2 - (lg_sl ([.ref (a 0), .int (zI x1)])).length) Slot.unset).toArray = ls at hl ⊢
  have hl : lv_has ls 2 [(0, .ref (a 0)), (1, .int (zI x1))] := hl
  have kf34 := hts (.fieldLink RX1 34 "WrongWay$House" "minutesBefore" "[I") (by decide +kernel)
  have kf48 := hts (.fieldLink RX1 48 "WrongWay$House" "minute" "I") (by decide +kernel)
  have kf54 := hts (.fieldLink RX1 54 "WrongWay$House" "undos" "I") (by decide +kernel)
  have km61 := hts (.methodLink RX1 61 arraycopyName) (by decide +kernel)
  have iX1 := (fun w h => List.mem_cons_of_mem _ (List.mem_append_right _ h) : ∀ w ∈ u_ws RX1 TX1 14, w ∈ wsX1_goOn)
  refine lv_aload_n hx hb dX1_goOn_0 rfl (lv_at hl 0 rfl) ?_
  refine va_get (D := (dC, dI)) (ci := 1) (v := .int (zI (w 4))) (C := RX1) (T := TX1) (N := 14) hx hb hts iX1 hown hK hP 0 rfl rfl 4 (by decide) kf54 (fun _ h9 => h9) rfl dX1_goOn_1 ?_
  refine q_bipush hx hb dX1_goOn_4 rfl ?_
  refine q_icmp_lt (tgt := 30) hx hb dX1_goOn_6 (by decide) (by omega) (fun c_1 => ?_) (fun c_1 => ?_)
  · refine lv_aload_n hx hb dX1_goOn_30 rfl (lv_at hl 0 rfl) ?_
    refine va_get (D := (dC, dI)) (ci := 1) (v := .ref (a 9)) (C := RX1) (T := TX1) (N := 14) hx hb hts iX1 hown hK hP 0 rfl rfl 13 (by decide) kf34 (fun _ h9 => h9) rfl dX1_goOn_31 ?_
    refine lv_aload_n hx hb dX1_goOn_34 rfl (lv_at hl 0 rfl) ?_
    refine va_get (D := (dC, dI)) (ci := 1) (v := .int (zI (w 4))) (C := RX1) (T := TX1) (N := 14) hx hb hts iX1 hown hK hP 0 rfl rfl 4 (by decide) kf54 (fun _ h9 => h9) rfl dX1_goOn_35 ?_
    refine lv_aload_n hx hb dX1_goOn_38 rfl (lv_at hl 0 rfl) ?_
    refine va_get (D := (dC, dI)) (ci := 1) (v := .int (zI (w 2))) (C := RX1) (T := TX1) (N := 14) hx hb hts iX1 hown hK hP 0 rfl rfl 2 (by decide) kf48 (fun _ h9 => h9) rfl dX1_goOn_39 ?_
    refine q_iast (F := fun k => w (41 + k)) (v := (w 2)) hx hb hK hP hD hS 9 0 rfl rfl (by decide) (by omega) dX1_goOn_42 (fun H locs hP hD hS => ?_)
    have hP : va_P (dC, dI) vwCl (wHs g a (wset w (41 + (w 4)) (w 2))) H := hw_put9 (i := (w 4)) hP (by omega)
    have hD : va_D A (wHs g a (wset w (41 + (w 4)) (w 2))) := hw_D9 (R := []) hD
    refine lv_aload_n hx hb dX1_goOn_43 rfl (lv_at hl 0 rfl) ?_
    refine lv_dup hx hb dX1_goOn_44 rfl ?_
    refine va_get (D := (dC, dI)) (ci := 1) (v := .int (zI ((wset w (41 + (w 4)) (w 2)) 4))) (C := RX1) (T := TX1) (N := 14) hx hb hts iX1 hown hK hP 0 rfl rfl 4 (by decide) kf54 (fun _ h9 => h9) rfl dX1_goOn_45 ?_
    rw [show (wset w (41 + (w 4)) (w 2)) 4 = w 4 from by first | rfl | (rw [wset_ne (by omega)]; done) | (rw [wset_ne (by omega), wset_ne (by omega)]; done) | (rw [wset_ne (by omega), wset_ne (by omega), wset_ne (by omega)]; done) | (rw [wset_ne (by omega), wset_ne (by omega), wset_ne (by omega), wset_ne (by omega)]; done)]
    refine q_iconst hx hb dX1_goOn_48 ?_
    refine q_iadd hx hb dX1_goOn_49 ?_
    refine va_put (D := (dC, dI)) (ci := 1) (v := .int (zI ((w 4) + 1))) (ty := .int) (C := RX1) (T := TX1) (N := 14) hx hb hts iX1 tyX1 tyX1_ok nmX1 hown hK hP hD hS 0 rfl rfl 4 (by decide) kf54 (fun _ h9 => h9) rfl (by decide +kernel) rfl rfl (Nat.le_of_ble_eq_true rfl) dX1_goOn_50 (fun H locs hP hD hS => ?_)
    have hP : va_P (dC, dI) vwCl (wHs g a (wset (wset w (41 + (w 4)) (w 2)) 4 ((w 4) + 1))) H := hw_sc4 (R := []) hP
    have hD : va_D A (wHs g a (wset (wset w (41 + (w 4)) (w 2)) 4 ((w 4) + 1))) := hw_D0 (R := []) hD
    refine lv_aload_n hx hb dX1_goOn_53 rfl (lv_at hl 0 rfl) ?_
    refine lv_iload_n hx hb dX1_goOn_54 rfl (lv_at hl 1 rfl) ?_
    refine va_put (D := (dC, dI)) (ci := 1) (v := .int (zI x1)) (ty := .int) (C := RX1) (T := TX1) (N := 14) hx hb hts iX1 tyX1 tyX1_ok nmX1 hown hK hP hD hS 0 rfl rfl 2 (by decide) kf48 (fun _ h9 => h9) rfl (by decide +kernel) rfl rfl (Nat.le_of_ble_eq_true rfl) dX1_goOn_55 (fun H locs hP hD hS => ?_)
    have hP : va_P (dC, dI) vwCl (wHs g a (wset (wset (wset w (41 + (w 4)) (w 2)) 4 ((w 4) + 1)) 2 x1)) H := hw_sc2 (R := []) hP
    have hD : va_D A (wHs g a (wset (wset (wset w (41 + (w 4)) (w 2)) 4 ((w 4) + 1)) 2 x1)) := hw_D0 (R := []) hD
    have hPf : va_P (dC, dI) vwCl (wHs g a (h_goOn w x1)) H := by rw [(show (h_goOn w x1) = wset (wset (wset w (41 + (w 4)) (w 2)) 4 ((w 4) + 1)) 2 x1 from by unfold h_goOn; rw [if_pos c_1])]; exact hP
    have hDf : va_D A (wHs g a (h_goOn w x1)) := by rw [(show (h_goOn w x1) = wset (wset (wset w (41 + (w 4)) (w 2)) 4 ((w 4) + 1)) 2 x1 from by unfold h_goOn; rw [if_pos c_1])]; exact hD
    exact W.vret hx hb hr (fun t9 ht9 hW9 => ⟨⟨(), rfl, trivial, by rw [ht9]; exact hPf, va_K.moved hW9.alike hK, hDf⟩, hS.F ht9⟩) hS.2.2 dX1_goOn_58
  · refine lv_aload_n hx hb dX1_goOn_9 rfl (lv_at hl 0 rfl) ?_
    refine va_get (D := (dC, dI)) (ci := 1) (v := .ref (a 9)) (C := RX1) (T := TX1) (N := 14) hx hb hts iX1 hown hK hP 0 rfl rfl 13 (by decide) kf34 (fun _ h9 => h9) rfl dX1_goOn_10 ?_
    refine q_iconst hx hb dX1_goOn_13 ?_
    refine lv_aload_n hx hb dX1_goOn_14 rfl (lv_at hl 0 rfl) ?_
    refine va_get (D := (dC, dI)) (ci := 1) (v := .ref (a 9)) (C := RX1) (T := TX1) (N := 14) hx hb hts iX1 hown hK hP 0 rfl rfl 13 (by decide) kf34 (fun _ h9 => h9) rfl dX1_goOn_15 ?_
    refine q_iconst hx hb dX1_goOn_18 ?_
    refine q_bipush hx hb dX1_goOn_19 rfl ?_
    refine va_copyi hx hb (hml.trans hl.1.symm) hown km61 (hts (.native arraycopyName) (by decide +kernel)) (hts (.static arraycopyName) (by decide +kernel)) (hts (.initialized "java/lang/System") (by decide +kernel)) hK hP hD hS 9 9 0 0 rfl rfl rfl rfl rfl (by decide) (by decide) (by decide) (by decide) (by decide) (fun _ _ => rfl) (Nat.le_of_ble_eq_true rfl) (Nat.le_of_ble_eq_true rfl) dX1_goOn_21 (fun H locs hP hD hS => ?_)
    have hP : va_P (dC, dI) vwCl (wHs g a (h_shift w)) H := hw_sh hP
    have hD : va_D A (wHs g a (h_shift w)) := hw_D9 (R := []) hD
    refine lv_aload_n hx hb dX1_goOn_24 rfl (lv_at hl 0 rfl) ?_
    refine q_bipush hx hb dX1_goOn_25 rfl ?_
    refine va_put (D := (dC, dI)) (ci := 1) (v := .int (zI 7)) (ty := .int) (C := RX1) (T := TX1) (N := 14) hx hb hts iX1 tyX1 tyX1_ok nmX1 hown hK hP hD hS 0 rfl rfl 4 (by decide) kf54 (fun _ h9 => h9) rfl (by decide +kernel) rfl rfl (Nat.le_of_ble_eq_true rfl) dX1_goOn_27 (fun H locs hP hD hS => ?_)
    have hP : va_P (dC, dI) vwCl (wHs g a (wset (h_shift w) 4 7)) H := hw_sc4 (R := []) hP
    have hD : va_D A (wHs g a (wset (h_shift w) 4 7)) := hw_D0 (R := []) hD
    refine lv_aload_n hx hb dX1_goOn_30 rfl (lv_at hl 0 rfl) ?_
    refine va_get (D := (dC, dI)) (ci := 1) (v := .ref (a 9)) (C := RX1) (T := TX1) (N := 14) hx hb hts iX1 hown hK hP 0 rfl rfl 13 (by decide) kf34 (fun _ h9 => h9) rfl dX1_goOn_31 ?_
    refine lv_aload_n hx hb dX1_goOn_34 rfl (lv_at hl 0 rfl) ?_
    refine va_get (D := (dC, dI)) (ci := 1) (v := .int (zI 7)) (C := RX1) (T := TX1) (N := 14) hx hb hts iX1 hown hK hP 0 rfl rfl 4 (by decide) kf54 (fun _ h9 => h9) rfl dX1_goOn_35 ?_
    refine lv_aload_n hx hb dX1_goOn_38 rfl (lv_at hl 0 rfl) ?_
    refine va_get (D := (dC, dI)) (ci := 1) (v := .int (zI ((h_shift w) 2))) (C := RX1) (T := TX1) (N := 14) hx hb hts iX1 hown hK hP 0 rfl rfl 2 (by decide) kf48 (fun _ h9 => h9) rfl dX1_goOn_39 ?_
    refine q_iast (F := fun k => (wset (h_shift w) 4 7) (41 + k)) (v := ((h_shift w) 2)) hx hb hK hP hD hS 9 0 rfl rfl (by decide) (by omega) dX1_goOn_42 (fun H locs hP hD hS => ?_)
    have hP : va_P (dC, dI) vwCl (wHs g a (wset (wset (h_shift w) 4 7) (41 + 7) ((h_shift w) 2))) H := hw_put9 (i := 7) hP (by omega)
    have hD : va_D A (wHs g a (wset (wset (h_shift w) 4 7) (41 + 7) ((h_shift w) 2))) := hw_D9 (R := []) hD
    refine lv_aload_n hx hb dX1_goOn_43 rfl (lv_at hl 0 rfl) ?_
    refine lv_dup hx hb dX1_goOn_44 rfl ?_
    refine va_get (D := (dC, dI)) (ci := 1) (v := .int (zI ((wset (wset (h_shift w) 4 7) (41 + 7) ((h_shift w) 2)) 4))) (C := RX1) (T := TX1) (N := 14) hx hb hts iX1 hown hK hP 0 rfl rfl 4 (by decide) kf54 (fun _ h9 => h9) rfl dX1_goOn_45 ?_
    rw [show (wset (wset (h_shift w) 4 7) (41 + 7) ((h_shift w) 2)) 4 = 7 from by first | rfl | (rw [wset_ne (by omega)]; done) | (rw [wset_ne (by omega), wset_ne (by omega)]; done) | (rw [wset_ne (by omega), wset_ne (by omega), wset_ne (by omega)]; done) | (rw [wset_ne (by omega), wset_ne (by omega), wset_ne (by omega), wset_ne (by omega)]; done)]
    refine q_iconst hx hb dX1_goOn_48 ?_
    refine q_iadd hx hb dX1_goOn_49 ?_
    refine va_put (D := (dC, dI)) (ci := 1) (v := .int (zI (7 + 1))) (ty := .int) (C := RX1) (T := TX1) (N := 14) hx hb hts iX1 tyX1 tyX1_ok nmX1 hown hK hP hD hS 0 rfl rfl 4 (by decide) kf54 (fun _ h9 => h9) rfl (by decide +kernel) rfl rfl (Nat.le_of_ble_eq_true rfl) dX1_goOn_50 (fun H locs hP hD hS => ?_)
    have hP : va_P (dC, dI) vwCl (wHs g a (wset (wset (wset (h_shift w) 4 7) (41 + 7) ((h_shift w) 2)) 4 (7 + 1))) H := hw_sc4 (R := []) hP
    have hD : va_D A (wHs g a (wset (wset (wset (h_shift w) 4 7) (41 + 7) ((h_shift w) 2)) 4 (7 + 1))) := hw_D0 (R := []) hD
    refine lv_aload_n hx hb dX1_goOn_53 rfl (lv_at hl 0 rfl) ?_
    refine lv_iload_n hx hb dX1_goOn_54 rfl (lv_at hl 1 rfl) ?_
    refine va_put (D := (dC, dI)) (ci := 1) (v := .int (zI x1)) (ty := .int) (C := RX1) (T := TX1) (N := 14) hx hb hts iX1 tyX1 tyX1_ok nmX1 hown hK hP hD hS 0 rfl rfl 2 (by decide) kf48 (fun _ h9 => h9) rfl (by decide +kernel) rfl rfl (Nat.le_of_ble_eq_true rfl) dX1_goOn_55 (fun H locs hP hD hS => ?_)
    have hP : va_P (dC, dI) vwCl (wHs g a (wset (wset (wset (wset (h_shift w) 4 7) (41 + 7) ((h_shift w) 2)) 4 (7 + 1)) 2 x1)) H := hw_sc2 (R := []) hP
    have hD : va_D A (wHs g a (wset (wset (wset (wset (h_shift w) 4 7) (41 + 7) ((h_shift w) 2)) 4 (7 + 1)) 2 x1)) := hw_D0 (R := []) hD
    have hPf : va_P (dC, dI) vwCl (wHs g a (h_goOn w x1)) H := by rw [(show (h_goOn w x1) = wset (wset (wset (wset (h_shift w) 4 7) (41 + 7) ((h_shift w) 2)) 4 (7 + 1)) 2 x1 from by unfold h_goOn; rw [if_neg c_1])]; exact hP
    have hDf : va_D A (wHs g a (h_goOn w x1)) := by rw [(show (h_goOn w x1) = wset (wset (wset (wset (h_shift w) 4 7) (41 + 7) ((h_shift w) 2)) 4 (7 + 1)) 2 x1 from by unfold h_goOn; rw [if_neg c_1])]; exact hD
    exact W.vret hx hb hr (fun t9 ht9 hW9 => ⟨⟨(), rfl, trivial, by rw [ht9]; exact hPf, va_K.moved hW9.alike hK, hDf⟩, hS.F ht9⟩) hS.2.2 dX1_goOn_58
set_option maxHeartbeats 4000000 in
set_option maxRecDepth 100000 in
theorem kX1_goBack (l : Launch) (dC : Nat → ClassId) (dI : Nat → Nat → Nat) (g : Nat → ClassId) (tt : Nat → Nat) (sz : Nat) (a : Nat → Nat) (w : Int → Int) (h1 : 0 ≤ w 4 ∧ w 4 ≤ 8) : Met l yX1_goBack wsX1_goBack ({ frames := 0, cells := 0, slots := 0, locals := 0 }) (va_Pc [.ref (a 0)] (eQ (dC, dI) (wTy g) (wHs g a w) tt sz)) (va_Qv (fun (_ : Unit) => True) (fQ (dC, dI) (wTy g) (va_A (wHs g a w) sz) (wHs g a (h_goBack w))) (va_A (wHs g a w) sz)) 0 0 (va_A (wHs g a w) sz) := by
  refine Met.ofW (cc := cX1_goBack) (maxL := 1) (ret := none) (by decide) rfl ?_
  intro p e s m args below meth c s₁ B hml hv
  obtain ⟨rfl, hsz, hP, hK, hD0, hT⟩ := hv
  have hx := B.exec
  have hb := B.bytes
  have hr := B.returns
  have hts := atoms_spec (ws := wsX1_goBack) B.pre
  have hown : s.vm.findClass RX1 = some m.cls := findClass_of_methodNamed B.named
  have hlocks := B.notSynchronized
  subst hsz
  have hD := hD0.self (sz := s.heap.size)
  generalize hAe : va_A (wHs g a w) s.heap.size = A at hD hT ⊢
  have hA : ∀ q : Nat, s.heap.size ≤ q → A q := fun q h => by rw [← hAe]; exact Or.inr h
  have hS : va_S A s.heap s.heap [] := va_S.rf
  have hl := lv_entry ([.ref (a 0)]) (n := 1) (Nat.le_of_ble_eq_true rfl)
  rw [lg_entry_eq]
  generalize (lg_sl ([.ref (a 0)]) ++ List.replicate (1 - (lg_sl ([.ref (a 0)])).length) Slot.unset).toArray = ls at hl ⊢
  have hl : lv_has ls 1 [(0, .ref (a 0))] := hl
  have kf34 := hts (.fieldLink RX1 34 "WrongWay$House" "minutesBefore" "[I") (by decide +kernel)
  have kf48 := hts (.fieldLink RX1 48 "WrongWay$House" "minute" "I") (by decide +kernel)
  have kf54 := hts (.fieldLink RX1 54 "WrongWay$House" "undos" "I") (by decide +kernel)
  have iX1 := (fun w h => List.mem_cons_of_mem _ (List.mem_append_right _ h) : ∀ w ∈ u_ws RX1 TX1 14, w ∈ wsX1_goBack)
  refine lv_aload_n hx hb dX1_goBack_0 rfl (lv_at hl 0 rfl) ?_
  refine va_get (D := (dC, dI)) (ci := 1) (v := .int (zI (w 4))) (C := RX1) (T := TX1) (N := 14) hx hb hts iX1 hown hK hP 0 rfl rfl 4 (by decide) kf54 (fun _ h9 => h9) rfl dX1_goBack_1 ?_
  refine q_if_le (tgt := 30) hx hb dX1_goBack_4 (by decide) (by omega) (fun c_1 => ?_) (fun c_1 => ?_)
  · have hPf : va_P (dC, dI) vwCl (wHs g a (h_goBack w)) s.heap := by rw [(show (h_goBack w) = w from by unfold h_goBack; rw [if_pos c_1])]; exact hP
    have hDf : va_D A (wHs g a (h_goBack w)) := by rw [(show (h_goBack w) = w from by unfold h_goBack; rw [if_pos c_1])]; exact hD
    exact W.vret hx hb hr (fun t9 ht9 hW9 => ⟨⟨(), rfl, trivial, by rw [ht9]; exact hPf, va_K.moved hW9.alike hK, hDf⟩, hS.F ht9⟩) hS.2.2 dX1_goBack_30
  · refine lv_aload_n hx hb dX1_goBack_7 rfl (lv_at hl 0 rfl) ?_
    refine lv_dup hx hb dX1_goBack_8 rfl ?_
    refine va_get (D := (dC, dI)) (ci := 1) (v := .int (zI (w 4))) (C := RX1) (T := TX1) (N := 14) hx hb hts iX1 hown hK hP 0 rfl rfl 4 (by decide) kf54 (fun _ h9 => h9) rfl dX1_goBack_9 ?_
    refine q_iconst hx hb dX1_goBack_12 ?_
    refine q_isub hx hb dX1_goBack_13 ?_
    refine va_put (D := (dC, dI)) (ci := 1) (v := .int (zI ((w 4) - 1))) (ty := .int) (C := RX1) (T := TX1) (N := 14) hx hb hts iX1 tyX1 tyX1_ok nmX1 hown hK hP hD hS 0 rfl rfl 4 (by decide) kf54 (fun _ h9 => h9) rfl (by decide +kernel) rfl rfl (Nat.le_of_ble_eq_true rfl) dX1_goBack_14 (fun H locs hP hD hS => ?_)
    have hP : va_P (dC, dI) vwCl (wHs g a (wset w 4 ((w 4) - 1))) H := hw_sc4 (R := []) hP
    have hD : va_D A (wHs g a (wset w 4 ((w 4) - 1))) := hw_D0 (R := []) hD
    refine lv_aload_n hx hb dX1_goBack_17 rfl (lv_at hl 0 rfl) ?_
    refine lv_aload_n hx hb dX1_goBack_18 rfl (lv_at hl 0 rfl) ?_
    refine va_get (D := (dC, dI)) (ci := 1) (v := .ref (a 9)) (C := RX1) (T := TX1) (N := 14) hx hb hts iX1 hown hK hP 0 rfl rfl 13 (by decide) kf34 (fun _ h9 => h9) rfl dX1_goBack_19 ?_
    refine lv_aload_n hx hb dX1_goBack_22 rfl (lv_at hl 0 rfl) ?_
    refine va_get (D := (dC, dI)) (ci := 1) (v := .int (zI ((w 4) - 1))) (C := RX1) (T := TX1) (N := 14) hx hb hts iX1 hown hK hP 0 rfl rfl 4 (by decide) kf54 (fun _ h9 => h9) rfl dX1_goBack_23 ?_
    refine q_iald (F := fun k => (wset w 4 ((w 4) - 1)) (41 + k)) (v := (wset w 4 ((w 4) - 1)) (41 + ((w 4) - 1))) hx hb hK hP 9 0 rfl rfl (by decide) (by omega) rfl dX1_goBack_26 ?_
    refine va_put (D := (dC, dI)) (ci := 1) (v := .int (zI ((wset w 4 ((w 4) - 1)) (41 + ((w 4) - 1))))) (ty := .int) (C := RX1) (T := TX1) (N := 14) hx hb hts iX1 tyX1 tyX1_ok nmX1 hown hK hP hD hS 0 rfl rfl 2 (by decide) kf48 (fun _ h9 => h9) rfl (by decide +kernel) rfl rfl (Nat.le_of_ble_eq_true rfl) dX1_goBack_27 (fun H locs hP hD hS => ?_)
    have hP : va_P (dC, dI) vwCl (wHs g a (wset (wset w 4 ((w 4) - 1)) 2 ((wset w 4 ((w 4) - 1)) (41 + ((w 4) - 1))))) H := hw_sc2 (R := []) hP
    have hD : va_D A (wHs g a (wset (wset w 4 ((w 4) - 1)) 2 ((wset w 4 ((w 4) - 1)) (41 + ((w 4) - 1))))) := hw_D0 (R := []) hD
    have hPf : va_P (dC, dI) vwCl (wHs g a (h_goBack w)) H := by rw [(show (h_goBack w) = wset (wset w 4 ((w 4) - 1)) 2 ((wset w 4 ((w 4) - 1)) (41 + ((w 4) - 1))) from by unfold h_goBack; rw [if_neg c_1])]; exact hP
    have hDf : va_D A (wHs g a (h_goBack w)) := by rw [(show (h_goBack w) = wset (wset w 4 ((w 4) - 1)) 2 ((wset w 4 ((w 4) - 1)) (41 + ((w 4) - 1))) from by unfold h_goBack; rw [if_neg c_1])]; exact hD
    exact W.vret hx hb hr (fun t9 ht9 hW9 => ⟨⟨(), rfl, trivial, by rw [ht9]; exact hPf, va_K.moved hW9.alike hK, hDf⟩, hS.F ht9⟩) hS.2.2 dX1_goBack_30
set_option maxHeartbeats 4000000 in
set_option maxRecDepth 100000 in
theorem kX1_copy (l : Launch) (dC : Nat → ClassId) (dI : Nat → Nat → Nat) (g : Nat → ClassId) (tt : Nat → Nat) (sz : Nat) (a : Nat → Nat) (w : Int → Int) (a2 : Nat → Nat) (w2 : Int → Int) : Met l yX1_copy wsX1_copy ({ frames := 1, cells := 0, slots := 0, locals := 40 }) (va_Pc [.ref (a 0), .ref (a2 0)] (eQ (dC, dI) (wTy g) (wH2 g a w a2 w2) tt sz)) (va_Qv (fun (_ : Unit) => True) (fQ (dC, dI) (wTy g) (va_A (wH2 g a w a2 w2) sz) (wH2 g a (h_copy w w2) a2 w2)) (va_A (wH2 g a w a2 w2) sz)) 0 0 (va_A (wH2 g a w a2 w2) sz) := by
  refine Met.ofW (cc := cX1_copy) (maxL := 2) (ret := none) (by decide) rfl ?_
  intro p e s m args below meth c s₁ B hml hv
  obtain ⟨rfl, hsz, hP, hK, hD0, hT⟩ := hv
  have hx := B.exec
  have hb := B.bytes
  have hr := B.returns
  have hts := atoms_spec (ws := wsX1_copy) B.pre
  have hown : s.vm.findClass RX1 = some m.cls := findClass_of_methodNamed B.named
  have hlocks := B.notSynchronized
  subst hsz
  have hD := hD0.self (sz := s.heap.size)
  generalize hAe : va_A (wH2 g a w a2 w2) s.heap.size = A at hD hT ⊢
  have hA : ∀ q : Nat, s.heap.size ≤ q → A q := fun q h => by rw [← hAe]; exact Or.inr h
  have hS : va_S A s.heap s.heap [] := va_S.rf
  have hl := lv_entry ([.ref (a 0), .ref (a2 0)]) (n := 2) (Nat.le_of_ble_eq_true rfl)
  rw [lg_entry_eq]
  generalize (lg_sl ([.ref (a 0), .ref (a2 0)]) ++ List.replicate (2 - (lg_sl ([.ref (a 0), .ref (a2 0)])).length) Slot.unset).toArray = ls at hl ⊢
  have hl : lv_has ls 2 [(0, .ref (a 0)), (1, .ref (a2 0))] := hl
  have kf13 := hts (.fieldLink RX1 13 "WrongWay$House" "starts" "[I") (by decide +kernel)
  have kf16 := hts (.fieldLink RX1 16 "WrongWay$House" "every" "[I") (by decide +kernel)
  have kf19 := hts (.fieldLink RX1 19 "WrongWay$House" "at" "[I") (by decide +kernel)
  have kf22 := hts (.fieldLink RX1 22 "WrongWay$House" "notedLifts" "[I") (by decide +kernel)
  have kf25 := hts (.fieldLink RX1 25 "WrongWay$House" "notedFloors" "[I") (by decide +kernel)
  have kf28 := hts (.fieldLink RX1 28 "WrongWay$House" "notedMinutes" "[I") (by decide +kernel)
  have kf31 := hts (.fieldLink RX1 31 "WrongWay$House" "notedThere" "[I") (by decide +kernel)
  have kf34 := hts (.fieldLink RX1 34 "WrongWay$House" "minutesBefore" "[I") (by decide +kernel)
  have kf41 := hts (.fieldLink RX1 41 "WrongWay$House" "top" "I") (by decide +kernel)
  have kf45 := hts (.fieldLink RX1 45 "WrongWay$House" "lifts" "I") (by decide +kernel)
  have kf48 := hts (.fieldLink RX1 48 "WrongWay$House" "minute" "I") (by decide +kernel)
  have kf51 := hts (.fieldLink RX1 51 "WrongWay$House" "noted" "I") (by decide +kernel)
  have kf54 := hts (.fieldLink RX1 54 "WrongWay$House" "undos" "I") (by decide +kernel)
  have kf9 := hts (.fieldLink RX1 9 "WrongWay$House" "kinds" "[I") (by decide +kernel)
  have km61 := hts (.methodLink RX1 61 arraycopyName) (by decide +kernel)
  have iX1 := (fun w h => List.mem_cons_of_mem _ (List.mem_append_right _ h) : ∀ w ∈ u_ws RX1 TX1 14, w ∈ wsX1_copy)
  refine lv_aload_n hx hb dX1_copy_0 rfl (lv_at hl 0 rfl) ?_
  refine lv_aload_n hx hb dX1_copy_1 rfl (lv_at hl 1 rfl) ?_
  refine va_get (D := (dC, dI)) (ci := 1) (v := .int (zI (w2 1))) (C := RX1) (T := TX1) (N := 14) hx hb hts iX1 hown hK hP 10 rfl rfl 0 (by decide) kf41 (fun _ h9 => h9) rfl dX1_copy_2 ?_
  refine va_put (D := (dC, dI)) (ci := 1) (v := .int (zI (w2 1))) (ty := .int) (C := RX1) (T := TX1) (N := 14) hx hb hts iX1 tyX1 tyX1_ok nmX1 hown hK hP hD hS 0 rfl rfl 0 (by decide) kf41 (fun _ h9 => h9) rfl (by decide +kernel) rfl rfl (Nat.le_of_ble_eq_true rfl) dX1_copy_5 (fun H locs hP hD hS => ?_)
  have hP : va_P (dC, dI) vwCl (wH2 g a (wset w 1 (w2 1)) a2 w2) H := hw_sc1 (R := wHs g a2 w2) hP
  have hD : va_D A (wH2 g a (wset w 1 (w2 1)) a2 w2) := hw_D0 (R := wHs g a2 w2) hD
  refine lv_aload_n hx hb dX1_copy_8 rfl (lv_at hl 0 rfl) ?_
  refine lv_aload_n hx hb dX1_copy_9 rfl (lv_at hl 1 rfl) ?_
  refine va_get (D := (dC, dI)) (ci := 1) (v := .int (zI (w2 0))) (C := RX1) (T := TX1) (N := 14) hx hb hts iX1 hown hK hP 10 rfl rfl 1 (by decide) kf45 (fun _ h9 => h9) rfl dX1_copy_10 ?_
  refine va_put (D := (dC, dI)) (ci := 1) (v := .int (zI (w2 0))) (ty := .int) (C := RX1) (T := TX1) (N := 14) hx hb hts iX1 tyX1 tyX1_ok nmX1 hown hK hP hD hS 0 rfl rfl 1 (by decide) kf45 (fun _ h9 => h9) rfl (by decide +kernel) rfl rfl (Nat.le_of_ble_eq_true rfl) dX1_copy_13 (fun H locs hP hD hS => ?_)
  have hP : va_P (dC, dI) vwCl (wH2 g a (wset (wset w 1 (w2 1)) 0 (w2 0)) a2 w2) H := hw_sc0 (R := wHs g a2 w2) hP
  have hD : va_D A (wH2 g a (wset (wset w 1 (w2 1)) 0 (w2 0)) a2 w2) := hw_D0 (R := wHs g a2 w2) hD
  refine lv_aload_n hx hb dX1_copy_16 rfl (lv_at hl 0 rfl) ?_
  refine lv_aload_n hx hb dX1_copy_17 rfl (lv_at hl 1 rfl) ?_
  refine va_get (D := (dC, dI)) (ci := 1) (v := .int (zI (w2 2))) (C := RX1) (T := TX1) (N := 14) hx hb hts iX1 hown hK hP 10 rfl rfl 2 (by decide) kf48 (fun _ h9 => h9) rfl dX1_copy_18 ?_
  refine va_put (D := (dC, dI)) (ci := 1) (v := .int (zI (w2 2))) (ty := .int) (C := RX1) (T := TX1) (N := 14) hx hb hts iX1 tyX1 tyX1_ok nmX1 hown hK hP hD hS 0 rfl rfl 2 (by decide) kf48 (fun _ h9 => h9) rfl (by decide +kernel) rfl rfl (Nat.le_of_ble_eq_true rfl) dX1_copy_21 (fun H locs hP hD hS => ?_)
  have hP : va_P (dC, dI) vwCl (wH2 g a (wset (wset (wset w 1 (w2 1)) 0 (w2 0)) 2 (w2 2)) a2 w2) H := hw_sc2 (R := wHs g a2 w2) hP
  have hD : va_D A (wH2 g a (wset (wset (wset w 1 (w2 1)) 0 (w2 0)) 2 (w2 2)) a2 w2) := hw_D0 (R := wHs g a2 w2) hD
  refine lv_aload_n hx hb dX1_copy_24 rfl (lv_at hl 0 rfl) ?_
  refine lv_aload_n hx hb dX1_copy_25 rfl (lv_at hl 1 rfl) ?_
  refine va_get (D := (dC, dI)) (ci := 1) (v := .int (zI (w2 3))) (C := RX1) (T := TX1) (N := 14) hx hb hts iX1 hown hK hP 10 rfl rfl 3 (by decide) kf51 (fun _ h9 => h9) rfl dX1_copy_26 ?_
  refine va_put (D := (dC, dI)) (ci := 1) (v := .int (zI (w2 3))) (ty := .int) (C := RX1) (T := TX1) (N := 14) hx hb hts iX1 tyX1 tyX1_ok nmX1 hown hK hP hD hS 0 rfl rfl 3 (by decide) kf51 (fun _ h9 => h9) rfl (by decide +kernel) rfl rfl (Nat.le_of_ble_eq_true rfl) dX1_copy_29 (fun H locs hP hD hS => ?_)
  have hP : va_P (dC, dI) vwCl (wH2 g a (wset (wset (wset (wset w 1 (w2 1)) 0 (w2 0)) 2 (w2 2)) 3 (w2 3)) a2 w2) H := hw_sc3 (R := wHs g a2 w2) hP
  have hD : va_D A (wH2 g a (wset (wset (wset (wset w 1 (w2 1)) 0 (w2 0)) 2 (w2 2)) 3 (w2 3)) a2 w2) := hw_D0 (R := wHs g a2 w2) hD
  refine lv_aload_n hx hb dX1_copy_32 rfl (lv_at hl 0 rfl) ?_
  refine lv_aload_n hx hb dX1_copy_33 rfl (lv_at hl 1 rfl) ?_
  refine va_get (D := (dC, dI)) (ci := 1) (v := .int (zI (w2 4))) (C := RX1) (T := TX1) (N := 14) hx hb hts iX1 hown hK hP 10 rfl rfl 4 (by decide) kf54 (fun _ h9 => h9) rfl dX1_copy_34 ?_
  refine va_put (D := (dC, dI)) (ci := 1) (v := .int (zI (w2 4))) (ty := .int) (C := RX1) (T := TX1) (N := 14) hx hb hts iX1 tyX1 tyX1_ok nmX1 hown hK hP hD hS 0 rfl rfl 4 (by decide) kf54 (fun _ h9 => h9) rfl (by decide +kernel) rfl rfl (Nat.le_of_ble_eq_true rfl) dX1_copy_37 (fun H locs hP hD hS => ?_)
  have hP : va_P (dC, dI) vwCl (wH2 g a (wset (wset (wset (wset (wset w 1 (w2 1)) 0 (w2 0)) 2 (w2 2)) 3 (w2 3)) 4 (w2 4)) a2 w2) H := hw_sc4 (R := wHs g a2 w2) hP
  have hD : va_D A (wH2 g a (wset (wset (wset (wset (wset w 1 (w2 1)) 0 (w2 0)) 2 (w2 2)) 3 (w2 3)) 4 (w2 4)) a2 w2) := hw_D0 (R := wHs g a2 w2) hD
  refine lv_aload_n hx hb dX1_copy_40 rfl (lv_at hl 1 rfl) ?_
  refine va_get (D := (dC, dI)) (ci := 1) (v := .ref (a2 1)) (C := RX1) (T := TX1) (N := 14) hx hb hts iX1 hown hK hP 10 rfl rfl 5 (by decide) kf9 (fun _ h9 => h9) rfl dX1_copy_41 ?_
  refine q_iconst hx hb dX1_copy_44 ?_
  refine lv_aload_n hx hb dX1_copy_45 rfl (lv_at hl 0 rfl) ?_
  refine va_get (D := (dC, dI)) (ci := 1) (v := .ref (a 1)) (C := RX1) (T := TX1) (N := 14) hx hb hts iX1 hown hK hP 0 rfl rfl 5 (by decide) kf9 (fun _ h9 => h9) rfl dX1_copy_46 ?_
  refine q_iconst hx hb dX1_copy_49 ?_
  refine q_iconst hx hb dX1_copy_50 ?_
  refine va_copyi hx hb (hml.trans hl.1.symm) hown km61 (hts (.native arraycopyName) (by decide +kernel)) (hts (.static arraycopyName) (by decide +kernel)) (hts (.initialized "java/lang/System") (by decide +kernel)) hK hP hD hS 11 1 0 0 rfl rfl rfl rfl rfl (by decide) (by decide) (by decide) (by decide) (by decide) (fun _ _ => rfl) (Nat.le_of_ble_eq_true rfl) (Nat.le_of_ble_eq_true rfl) dX1_copy_51 (fun H locs hP hD hS => ?_)
  have hP : va_P (dC, dI) vwCl (wH2 g a (cpr 1 (wset (wset (wset (wset (wset w 1 (w2 1)) 0 (w2 0)) 2 (w2 2)) 3 (w2 3)) 4 (w2 4)) w2) a2 w2) H := hw_cp1 hP
  have hD : va_D A (wH2 g a (cpr 1 (wset (wset (wset (wset (wset w 1 (w2 1)) 0 (w2 0)) 2 (w2 2)) 3 (w2 3)) 4 (w2 4)) w2) a2 w2) := hw_D1 (R := wHs g a2 w2) hD
  refine lv_aload_n hx hb dX1_copy_54 rfl (lv_at hl 1 rfl) ?_
  refine va_get (D := (dC, dI)) (ci := 1) (v := .ref (a2 2)) (C := RX1) (T := TX1) (N := 14) hx hb hts iX1 hown hK hP 10 rfl rfl 6 (by decide) kf13 (fun _ h9 => h9) rfl dX1_copy_55 ?_
  refine q_iconst hx hb dX1_copy_58 ?_
  refine lv_aload_n hx hb dX1_copy_59 rfl (lv_at hl 0 rfl) ?_
  refine va_get (D := (dC, dI)) (ci := 1) (v := .ref (a 2)) (C := RX1) (T := TX1) (N := 14) hx hb hts iX1 hown hK hP 0 rfl rfl 6 (by decide) kf13 (fun _ h9 => h9) rfl dX1_copy_60 ?_
  refine q_iconst hx hb dX1_copy_63 ?_
  refine q_iconst hx hb dX1_copy_64 ?_
  refine va_copyi hx hb (hml.trans hl.1.symm) hown km61 (hts (.native arraycopyName) (by decide +kernel)) (hts (.static arraycopyName) (by decide +kernel)) (hts (.initialized "java/lang/System") (by decide +kernel)) hK hP hD hS 12 2 0 0 rfl rfl rfl rfl rfl (by decide) (by decide) (by decide) (by decide) (by decide) (fun _ _ => rfl) (Nat.le_of_ble_eq_true rfl) (Nat.le_of_ble_eq_true rfl) dX1_copy_65 (fun H locs hP hD hS => ?_)
  have hP : va_P (dC, dI) vwCl (wH2 g a (cpr 2 (cpr 1 (wset (wset (wset (wset (wset w 1 (w2 1)) 0 (w2 0)) 2 (w2 2)) 3 (w2 3)) 4 (w2 4)) w2) w2) a2 w2) H := hw_cp2 hP
  have hD : va_D A (wH2 g a (cpr 2 (cpr 1 (wset (wset (wset (wset (wset w 1 (w2 1)) 0 (w2 0)) 2 (w2 2)) 3 (w2 3)) 4 (w2 4)) w2) w2) a2 w2) := hw_D2 (R := wHs g a2 w2) hD
  refine lv_aload_n hx hb dX1_copy_68 rfl (lv_at hl 1 rfl) ?_
  refine va_get (D := (dC, dI)) (ci := 1) (v := .ref (a2 3)) (C := RX1) (T := TX1) (N := 14) hx hb hts iX1 hown hK hP 10 rfl rfl 7 (by decide) kf16 (fun _ h9 => h9) rfl dX1_copy_69 ?_
  refine q_iconst hx hb dX1_copy_72 ?_
  refine lv_aload_n hx hb dX1_copy_73 rfl (lv_at hl 0 rfl) ?_
  refine va_get (D := (dC, dI)) (ci := 1) (v := .ref (a 3)) (C := RX1) (T := TX1) (N := 14) hx hb hts iX1 hown hK hP 0 rfl rfl 7 (by decide) kf16 (fun _ h9 => h9) rfl dX1_copy_74 ?_
  refine q_iconst hx hb dX1_copy_77 ?_
  refine q_iconst hx hb dX1_copy_78 ?_
  refine va_copyi hx hb (hml.trans hl.1.symm) hown km61 (hts (.native arraycopyName) (by decide +kernel)) (hts (.static arraycopyName) (by decide +kernel)) (hts (.initialized "java/lang/System") (by decide +kernel)) hK hP hD hS 13 3 0 0 rfl rfl rfl rfl rfl (by decide) (by decide) (by decide) (by decide) (by decide) (fun _ _ => rfl) (Nat.le_of_ble_eq_true rfl) (Nat.le_of_ble_eq_true rfl) dX1_copy_79 (fun H locs hP hD hS => ?_)
  have hP : va_P (dC, dI) vwCl (wH2 g a (cpr 3 (cpr 2 (cpr 1 (wset (wset (wset (wset (wset w 1 (w2 1)) 0 (w2 0)) 2 (w2 2)) 3 (w2 3)) 4 (w2 4)) w2) w2) w2) a2 w2) H := hw_cp3 hP
  have hD : va_D A (wH2 g a (cpr 3 (cpr 2 (cpr 1 (wset (wset (wset (wset (wset w 1 (w2 1)) 0 (w2 0)) 2 (w2 2)) 3 (w2 3)) 4 (w2 4)) w2) w2) w2) a2 w2) := hw_D3 (R := wHs g a2 w2) hD
  refine lv_aload_n hx hb dX1_copy_82 rfl (lv_at hl 1 rfl) ?_
  refine va_get (D := (dC, dI)) (ci := 1) (v := .ref (a2 4)) (C := RX1) (T := TX1) (N := 14) hx hb hts iX1 hown hK hP 10 rfl rfl 8 (by decide) kf19 (fun _ h9 => h9) rfl dX1_copy_83 ?_
  refine q_iconst hx hb dX1_copy_86 ?_
  refine lv_aload_n hx hb dX1_copy_87 rfl (lv_at hl 0 rfl) ?_
  refine va_get (D := (dC, dI)) (ci := 1) (v := .ref (a 4)) (C := RX1) (T := TX1) (N := 14) hx hb hts iX1 hown hK hP 0 rfl rfl 8 (by decide) kf19 (fun _ h9 => h9) rfl dX1_copy_88 ?_
  refine q_iconst hx hb dX1_copy_91 ?_
  refine q_iconst hx hb dX1_copy_92 ?_
  refine va_copyi hx hb (hml.trans hl.1.symm) hown km61 (hts (.native arraycopyName) (by decide +kernel)) (hts (.static arraycopyName) (by decide +kernel)) (hts (.initialized "java/lang/System") (by decide +kernel)) hK hP hD hS 14 4 0 0 rfl rfl rfl rfl rfl (by decide) (by decide) (by decide) (by decide) (by decide) (fun _ _ => rfl) (Nat.le_of_ble_eq_true rfl) (Nat.le_of_ble_eq_true rfl) dX1_copy_93 (fun H locs hP hD hS => ?_)
  have hP : va_P (dC, dI) vwCl (wH2 g a (cpr 4 (cpr 3 (cpr 2 (cpr 1 (wset (wset (wset (wset (wset w 1 (w2 1)) 0 (w2 0)) 2 (w2 2)) 3 (w2 3)) 4 (w2 4)) w2) w2) w2) w2) a2 w2) H := hw_cp4 hP
  have hD : va_D A (wH2 g a (cpr 4 (cpr 3 (cpr 2 (cpr 1 (wset (wset (wset (wset (wset w 1 (w2 1)) 0 (w2 0)) 2 (w2 2)) 3 (w2 3)) 4 (w2 4)) w2) w2) w2) w2) a2 w2) := hw_D4 (R := wHs g a2 w2) hD
  refine lv_aload_n hx hb dX1_copy_96 rfl (lv_at hl 1 rfl) ?_
  refine va_get (D := (dC, dI)) (ci := 1) (v := .ref (a2 5)) (C := RX1) (T := TX1) (N := 14) hx hb hts iX1 hown hK hP 10 rfl rfl 9 (by decide) kf22 (fun _ h9 => h9) rfl dX1_copy_97 ?_
  refine q_iconst hx hb dX1_copy_100 ?_
  refine lv_aload_n hx hb dX1_copy_101 rfl (lv_at hl 0 rfl) ?_
  refine va_get (D := (dC, dI)) (ci := 1) (v := .ref (a 5)) (C := RX1) (T := TX1) (N := 14) hx hb hts iX1 hown hK hP 0 rfl rfl 9 (by decide) kf22 (fun _ h9 => h9) rfl dX1_copy_102 ?_
  refine q_iconst hx hb dX1_copy_105 ?_
  refine q_bipush hx hb dX1_copy_106 rfl ?_
  refine va_copyi hx hb (hml.trans hl.1.symm) hown km61 (hts (.native arraycopyName) (by decide +kernel)) (hts (.static arraycopyName) (by decide +kernel)) (hts (.initialized "java/lang/System") (by decide +kernel)) hK hP hD hS 15 5 0 0 rfl rfl rfl rfl rfl (by decide) (by decide) (by decide) (by decide) (by decide) (fun _ _ => rfl) (Nat.le_of_ble_eq_true rfl) (Nat.le_of_ble_eq_true rfl) dX1_copy_108 (fun H locs hP hD hS => ?_)
  have hP : va_P (dC, dI) vwCl (wH2 g a (cpr 5 (cpr 4 (cpr 3 (cpr 2 (cpr 1 (wset (wset (wset (wset (wset w 1 (w2 1)) 0 (w2 0)) 2 (w2 2)) 3 (w2 3)) 4 (w2 4)) w2) w2) w2) w2) w2) a2 w2) H := hw_cp5 hP
  have hD : va_D A (wH2 g a (cpr 5 (cpr 4 (cpr 3 (cpr 2 (cpr 1 (wset (wset (wset (wset (wset w 1 (w2 1)) 0 (w2 0)) 2 (w2 2)) 3 (w2 3)) 4 (w2 4)) w2) w2) w2) w2) w2) a2 w2) := hw_D5 (R := wHs g a2 w2) hD
  refine lv_aload_n hx hb dX1_copy_111 rfl (lv_at hl 1 rfl) ?_
  refine va_get (D := (dC, dI)) (ci := 1) (v := .ref (a2 6)) (C := RX1) (T := TX1) (N := 14) hx hb hts iX1 hown hK hP 10 rfl rfl 10 (by decide) kf25 (fun _ h9 => h9) rfl dX1_copy_112 ?_
  refine q_iconst hx hb dX1_copy_115 ?_
  refine lv_aload_n hx hb dX1_copy_116 rfl (lv_at hl 0 rfl) ?_
  refine va_get (D := (dC, dI)) (ci := 1) (v := .ref (a 6)) (C := RX1) (T := TX1) (N := 14) hx hb hts iX1 hown hK hP 0 rfl rfl 10 (by decide) kf25 (fun _ h9 => h9) rfl dX1_copy_117 ?_
  refine q_iconst hx hb dX1_copy_120 ?_
  refine q_bipush hx hb dX1_copy_121 rfl ?_
  refine va_copyi hx hb (hml.trans hl.1.symm) hown km61 (hts (.native arraycopyName) (by decide +kernel)) (hts (.static arraycopyName) (by decide +kernel)) (hts (.initialized "java/lang/System") (by decide +kernel)) hK hP hD hS 16 6 0 0 rfl rfl rfl rfl rfl (by decide) (by decide) (by decide) (by decide) (by decide) (fun _ _ => rfl) (Nat.le_of_ble_eq_true rfl) (Nat.le_of_ble_eq_true rfl) dX1_copy_123 (fun H locs hP hD hS => ?_)
  have hP : va_P (dC, dI) vwCl (wH2 g a (cpr 6 (cpr 5 (cpr 4 (cpr 3 (cpr 2 (cpr 1 (wset (wset (wset (wset (wset w 1 (w2 1)) 0 (w2 0)) 2 (w2 2)) 3 (w2 3)) 4 (w2 4)) w2) w2) w2) w2) w2) w2) a2 w2) H := hw_cp6 hP
  have hD : va_D A (wH2 g a (cpr 6 (cpr 5 (cpr 4 (cpr 3 (cpr 2 (cpr 1 (wset (wset (wset (wset (wset w 1 (w2 1)) 0 (w2 0)) 2 (w2 2)) 3 (w2 3)) 4 (w2 4)) w2) w2) w2) w2) w2) w2) a2 w2) := hw_D6 (R := wHs g a2 w2) hD
  refine lv_aload_n hx hb dX1_copy_126 rfl (lv_at hl 1 rfl) ?_
  refine va_get (D := (dC, dI)) (ci := 1) (v := .ref (a2 7)) (C := RX1) (T := TX1) (N := 14) hx hb hts iX1 hown hK hP 10 rfl rfl 11 (by decide) kf28 (fun _ h9 => h9) rfl dX1_copy_127 ?_
  refine q_iconst hx hb dX1_copy_130 ?_
  refine lv_aload_n hx hb dX1_copy_131 rfl (lv_at hl 0 rfl) ?_
  refine va_get (D := (dC, dI)) (ci := 1) (v := .ref (a 7)) (C := RX1) (T := TX1) (N := 14) hx hb hts iX1 hown hK hP 0 rfl rfl 11 (by decide) kf28 (fun _ h9 => h9) rfl dX1_copy_132 ?_
  refine q_iconst hx hb dX1_copy_135 ?_
  refine q_bipush hx hb dX1_copy_136 rfl ?_
  refine va_copyi hx hb (hml.trans hl.1.symm) hown km61 (hts (.native arraycopyName) (by decide +kernel)) (hts (.static arraycopyName) (by decide +kernel)) (hts (.initialized "java/lang/System") (by decide +kernel)) hK hP hD hS 17 7 0 0 rfl rfl rfl rfl rfl (by decide) (by decide) (by decide) (by decide) (by decide) (fun _ _ => rfl) (Nat.le_of_ble_eq_true rfl) (Nat.le_of_ble_eq_true rfl) dX1_copy_138 (fun H locs hP hD hS => ?_)
  have hP : va_P (dC, dI) vwCl (wH2 g a (cpr 7 (cpr 6 (cpr 5 (cpr 4 (cpr 3 (cpr 2 (cpr 1 (wset (wset (wset (wset (wset w 1 (w2 1)) 0 (w2 0)) 2 (w2 2)) 3 (w2 3)) 4 (w2 4)) w2) w2) w2) w2) w2) w2) w2) a2 w2) H := hw_cp7 hP
  have hD : va_D A (wH2 g a (cpr 7 (cpr 6 (cpr 5 (cpr 4 (cpr 3 (cpr 2 (cpr 1 (wset (wset (wset (wset (wset w 1 (w2 1)) 0 (w2 0)) 2 (w2 2)) 3 (w2 3)) 4 (w2 4)) w2) w2) w2) w2) w2) w2) w2) a2 w2) := hw_D7 (R := wHs g a2 w2) hD
  refine lv_aload_n hx hb dX1_copy_141 rfl (lv_at hl 1 rfl) ?_
  refine va_get (D := (dC, dI)) (ci := 1) (v := .ref (a2 8)) (C := RX1) (T := TX1) (N := 14) hx hb hts iX1 hown hK hP 10 rfl rfl 12 (by decide) kf31 (fun _ h9 => h9) rfl dX1_copy_142 ?_
  refine q_iconst hx hb dX1_copy_145 ?_
  refine lv_aload_n hx hb dX1_copy_146 rfl (lv_at hl 0 rfl) ?_
  refine va_get (D := (dC, dI)) (ci := 1) (v := .ref (a 8)) (C := RX1) (T := TX1) (N := 14) hx hb hts iX1 hown hK hP 0 rfl rfl 12 (by decide) kf31 (fun _ h9 => h9) rfl dX1_copy_147 ?_
  refine q_iconst hx hb dX1_copy_150 ?_
  refine q_bipush hx hb dX1_copy_151 rfl ?_
  refine va_copyi hx hb (hml.trans hl.1.symm) hown km61 (hts (.native arraycopyName) (by decide +kernel)) (hts (.static arraycopyName) (by decide +kernel)) (hts (.initialized "java/lang/System") (by decide +kernel)) hK hP hD hS 18 8 0 0 rfl rfl rfl rfl rfl (by decide) (by decide) (by decide) (by decide) (by decide) (fun _ _ => rfl) (Nat.le_of_ble_eq_true rfl) (Nat.le_of_ble_eq_true rfl) dX1_copy_153 (fun H locs hP hD hS => ?_)
  have hP : va_P (dC, dI) vwCl (wH2 g a (cpr 8 (cpr 7 (cpr 6 (cpr 5 (cpr 4 (cpr 3 (cpr 2 (cpr 1 (wset (wset (wset (wset (wset w 1 (w2 1)) 0 (w2 0)) 2 (w2 2)) 3 (w2 3)) 4 (w2 4)) w2) w2) w2) w2) w2) w2) w2) w2) a2 w2) H := hw_cp8 hP
  have hD : va_D A (wH2 g a (cpr 8 (cpr 7 (cpr 6 (cpr 5 (cpr 4 (cpr 3 (cpr 2 (cpr 1 (wset (wset (wset (wset (wset w 1 (w2 1)) 0 (w2 0)) 2 (w2 2)) 3 (w2 3)) 4 (w2 4)) w2) w2) w2) w2) w2) w2) w2) w2) a2 w2) := hw_D8 (R := wHs g a2 w2) hD
  refine lv_aload_n hx hb dX1_copy_156 rfl (lv_at hl 1 rfl) ?_
  refine va_get (D := (dC, dI)) (ci := 1) (v := .ref (a2 9)) (C := RX1) (T := TX1) (N := 14) hx hb hts iX1 hown hK hP 10 rfl rfl 13 (by decide) kf34 (fun _ h9 => h9) rfl dX1_copy_157 ?_
  refine q_iconst hx hb dX1_copy_160 ?_
  refine lv_aload_n hx hb dX1_copy_161 rfl (lv_at hl 0 rfl) ?_
  refine va_get (D := (dC, dI)) (ci := 1) (v := .ref (a 9)) (C := RX1) (T := TX1) (N := 14) hx hb hts iX1 hown hK hP 0 rfl rfl 13 (by decide) kf34 (fun _ h9 => h9) rfl dX1_copy_162 ?_
  refine q_iconst hx hb dX1_copy_165 ?_
  refine q_bipush hx hb dX1_copy_166 rfl ?_
  refine va_copyi hx hb (hml.trans hl.1.symm) hown km61 (hts (.native arraycopyName) (by decide +kernel)) (hts (.static arraycopyName) (by decide +kernel)) (hts (.initialized "java/lang/System") (by decide +kernel)) hK hP hD hS 19 9 0 0 rfl rfl rfl rfl rfl (by decide) (by decide) (by decide) (by decide) (by decide) (fun _ _ => rfl) (Nat.le_of_ble_eq_true rfl) (Nat.le_of_ble_eq_true rfl) dX1_copy_168 (fun H locs hP hD hS => ?_)
  have hP : va_P (dC, dI) vwCl (wH2 g a (cpr 9 (cpr 8 (cpr 7 (cpr 6 (cpr 5 (cpr 4 (cpr 3 (cpr 2 (cpr 1 (wset (wset (wset (wset (wset w 1 (w2 1)) 0 (w2 0)) 2 (w2 2)) 3 (w2 3)) 4 (w2 4)) w2) w2) w2) w2) w2) w2) w2) w2) w2) a2 w2) H := hw_cp9 hP
  have hD : va_D A (wH2 g a (cpr 9 (cpr 8 (cpr 7 (cpr 6 (cpr 5 (cpr 4 (cpr 3 (cpr 2 (cpr 1 (wset (wset (wset (wset (wset w 1 (w2 1)) 0 (w2 0)) 2 (w2 2)) 3 (w2 3)) 4 (w2 4)) w2) w2) w2) w2) w2) w2) w2) w2) w2) a2 w2) := hw_D9 (R := wHs g a2 w2) hD
  have hPf : va_P (dC, dI) vwCl (wH2 g a (h_copy w w2) a2 w2) H := by rw [(show (h_copy w w2) = cpr 9 (cpr 8 (cpr 7 (cpr 6 (cpr 5 (cpr 4 (cpr 3 (cpr 2 (cpr 1 (wset (wset (wset (wset (wset w 1 (w2 1)) 0 (w2 0)) 2 (w2 2)) 3 (w2 3)) 4 (w2 4)) w2) w2) w2) w2) w2) w2) w2) w2) w2 from by rfl)]; exact hP
  have hDf : va_D A (wH2 g a (h_copy w w2) a2 w2) := by rw [(show (h_copy w w2) = cpr 9 (cpr 8 (cpr 7 (cpr 6 (cpr 5 (cpr 4 (cpr 3 (cpr 2 (cpr 1 (wset (wset (wset (wset (wset w 1 (w2 1)) 0 (w2 0)) 2 (w2 2)) 3 (w2 3)) 4 (w2 4)) w2) w2) w2) w2) w2) w2) w2) w2) w2 from by rfl)]; exact hD
  exact W.vret hx hb hr (fun t9 ht9 hW9 => ⟨⟨(), rfl, trivial, by rw [ht9]; exact hPf, va_K.moved hW9.alike hK, hDf⟩, hS.F ht9⟩) hS.2.2 dX1_copy_171
set_option maxHeartbeats 4000000 in
set_option maxRecDepth 100000 in
theorem kX1_nextTrain (l : Launch) (dC : Nat → ClassId) (dI : Nat → Nat → Nat) (g : Nat → ClassId) (tt : Nat → Nat) (x1 x2 x3 : Int) (h1 : 1 ≤ x1 ∧ x1 ≤ 30) (h2 : 0 ≤ x2 ∧ x2 ≤ 29) (h3 : 0 ≤ x3 ∧ x3 ≤ 60) : Met l yX1_nextTrain wsX1_nextTrain ({ frames := 0, cells := 0, slots := 0, locals := 0 }) (va_Pc [.int (zI x1), .int (zI x2), .int (zI x3)] (eS (dC, dI) (wTy g) ([]) tt)) (vp_Si (fun r => r = zI (c_nt x1 x2 x3))) 0 0 (fun _ => False) := by
  refine Met.ofW (cc := cX1_nextTrain) (maxL := 4) (ret := (some .int)) (by decide) rfl ?_
  intro p e s m args below meth c s₁ B hml hv
  obtain ⟨rfl, hP, hK, hT⟩ := hv
  have hx := B.exec
  have hb := B.bytes
  have hr := B.returns
  have hts := atoms_spec (ws := wsX1_nextTrain) B.pre
  have hown : s.vm.findClass RX1 = some m.cls := findClass_of_methodNamed B.named
  have hlocks := B.notSynchronized
  have hS : va_S (fun _ : Nat => False) s.heap s.heap [] := va_S.rf
  have hl := lv_entry ([.int (zI x1), .int (zI x2), .int (zI x3)]) (n := 4) (Nat.le_of_ble_eq_true rfl)
  rw [lg_entry_eq]
  generalize (lg_sl ([.int (zI x1), .int (zI x2), .int (zI x3)]) ++ List.replicate (4 - (lg_sl ([.int (zI x1), .int (zI x2), .int (zI x3)])).length) Slot.unset).toArray = ls at hl ⊢
  have hl : lv_has ls 4 [(0, .int (zI x1)), (1, .int (zI x2)), (2, .int (zI x3))] := hl
  refine lv_iload_n hx hb dX1_nextTrain_0 rfl (lv_at hl 2 rfl) ?_
  refine lv_iload_n hx hb dX1_nextTrain_1 rfl (lv_at hl 1 rfl) ?_
  refine q_icmp_le (tgt := 10) hx hb dX1_nextTrain_2 (by decide) (by omega) (fun c_1 => ?_) (fun c_1 => ?_)
  · refine lv_iload_n hx hb dX1_nextTrain_10 rfl (lv_at hl 1 rfl) ?_
    exact W.iret hx hb hr (fun t9 ht9 hW9 => ⟨_, rfl, congrArg zI (show x2 = c_nt x1 x2 x3 from by unfold c_nt; (repeat' split) <;> omega), ht9⟩) hS.2.2 dX1_nextTrain_11
  · refine lv_iload_n hx hb dX1_nextTrain_5 rfl (lv_at hl 0 rfl) ?_
    refine q_iconst hx hb dX1_nextTrain_6 ?_
    refine q_icmp_ge (tgt := 12) hx hb dX1_nextTrain_7 (by decide) (by omega) (fun c_2 => ?_) (fun c_2 => ?_)
    · refine lv_iload_n hx hb dX1_nextTrain_12 rfl (lv_at hl 2 rfl) ?_
      refine lv_iload_n hx hb dX1_nextTrain_13 rfl (lv_at hl 1 rfl) ?_
      refine q_isub hx hb dX1_nextTrain_14 ?_
      refine lv_iload_n hx hb dX1_nextTrain_15 rfl (lv_at hl 0 rfl) ?_
      refine q_irem hx hb dX1_nextTrain_16 (by omega) ?_
      have hm := Int.emod_nonneg (x3 - x2) (show x1 ≠ 0 by omega)
      have hm2 := Int.emod_lt_of_pos (x3 - x2) (show 0 < x1 by omega)
      refine lv_istore_n (lv' := [(3, .int (zI ((x3 - x2) % x1))), (0, .int (zI x1)), (1, .int (zI x2)), (2, .int (zI x3))]) hx hb dX1_nextTrain_17 rfl hl (by decide) rfl (fun ls hl => ?_)
      refine lv_iload_n hx hb dX1_nextTrain_18 rfl (lv_at hl 0 rfl) ?_
      refine q_if_ne (tgt := 26) hx hb dX1_nextTrain_19 (by decide) (by omega) (fun c_3 => ?_) (fun c_3 => ?_)
      · refine lv_iload_n hx hb dX1_nextTrain_26 rfl (lv_at hl 3 rfl) ?_
        refine lv_iload_n hx hb dX1_nextTrain_27 rfl (lv_at hl 1 rfl) ?_
        refine q_iadd hx hb dX1_nextTrain_28 ?_
        refine lv_iload_n hx hb dX1_nextTrain_29 rfl (lv_at hl 0 rfl) ?_
        refine q_isub hx hb dX1_nextTrain_30 ?_
        exact W.iret hx hb hr (fun t9 ht9 hW9 => ⟨_, rfl, congrArg zI (show (x3 + x1) - ((x3 - x2) % x1) = c_nt x1 x2 x3 from by unfold c_nt; (repeat' split) <;> omega), ht9⟩) hS.2.2 dX1_nextTrain_31
      · refine lv_iload_n hx hb dX1_nextTrain_22 rfl (lv_at hl 3 rfl) ?_
        refine lv_goto (tgt := 31) hx hb dX1_nextTrain_23 (by decide) ?_
        exact W.iret hx hb hr (fun t9 ht9 hW9 => ⟨_, rfl, congrArg zI (show x3 = c_nt x1 x2 x3 from by unfold c_nt; (repeat' split) <;> omega), ht9⟩) hS.2.2 dX1_nextTrain_31
    · refine lv_iload_n hx hb dX1_nextTrain_10 rfl (lv_at hl 1 rfl) ?_
      exact W.iret hx hb hr (fun t9 ht9 hW9 => ⟨_, rfl, congrArg zI (show x2 = c_nt x1 x2 x3 from by unfold c_nt; (repeat' split) <;> omega), ht9⟩) hS.2.2 dX1_nextTrain_11
set_option maxHeartbeats 4000000 in
set_option maxRecDepth 100000 in
theorem kX1_turnsOfLine0 (l : Launch) (dC : Nat → ClassId) (dI : Nat → Nat → Nat) (g : Nat → ClassId) (tt : Nat → Nat) (a : Nat → Nat) (w : Int → Int) (x1 : Int) (hw : hok w) (h1 : 0 ≤ x1 ∧ x1 ≤ 29) : Met l yX1_turnsOfLine0 wsX1_turnsOfLine0 ({ frames := 1, cells := 0, slots := 0, locals := 23 }) (va_Pc [.ref (a 0), .int (zI x1)] (eS (dC, dI) (wTy g) (wHs g a w) tt)) (vp_Si (fun r => r = zI (c_t0 w x1))) 0 0 (fun _ => False) := by
  refine Met.ofW (cc := cX1_turnsOfLine0) (maxL := 5) (ret := (some .int)) (by decide) rfl ?_
  intro p e s m args below meth c s₁ B hml hv
  obtain ⟨rfl, hP, hK, hT⟩ := hv
  have hx := B.exec
  have hb := B.bytes
  have hr := B.returns
  have hts := atoms_spec (ws := wsX1_turnsOfLine0) B.pre
  have hown : s.vm.findClass RX1 = some m.cls := findClass_of_methodNamed B.named
  have hlocks := B.notSynchronized
  have hS : va_S (fun _ : Nat => False) s.heap s.heap [] := va_S.rf
  have hl := lv_entry ([.ref (a 0), .int (zI x1)]) (n := 5) (Nat.le_of_ble_eq_true rfl)
  rw [lg_entry_eq]
  generalize (lg_sl ([.ref (a 0), .int (zI x1)]) ++ List.replicate (5 - (lg_sl ([.ref (a 0), .int (zI x1)])).length) Slot.unset).toArray = ls at hl ⊢
  have hl : lv_has ls 5 [(0, .ref (a 0)), (1, .int (zI x1))] := hl
  have kf16 := hts (.fieldLink RX1 16 "WrongWay$House" "every" "[I") (by decide +kernel)
  have kf19 := hts (.fieldLink RX1 19 "WrongWay$House" "at" "[I") (by decide +kernel)
  have iX1 := (fun w h => List.mem_cons_of_mem _ (List.mem_append_right _ h) : ∀ w ∈ u_ws RX1 TX1 14, w ∈ wsX1_turnsOfLine0)
  have hb0 := hw.b
  have hln := hw.ln
  refine lv_aload_n hx hb dX1_turnsOfLine0_0 rfl (lv_at hl 0 rfl) ?_
  refine va_get (D := (dC, dI)) (ci := 1) (v := .ref (a 4)) (C := RX1) (T := TX1) (N := 14) hx hb hts iX1 hown hK hP 0 rfl rfl 8 (by decide) kf19 (fun _ h9 => h9) rfl dX1_turnsOfLine0_1 ?_
  refine q_iconst hx hb dX1_turnsOfLine0_4 ?_
  refine q_iald (F := fun k => w (15 + k)) (v := w 16) hx hb hK hP 4 0 rfl rfl (by decide) (by omega) rfl dX1_turnsOfLine0_5 ?_
  refine lv_iload_n hx hb dX1_turnsOfLine0_6 rfl (lv_at hl 1 rfl) ?_
  refine q_iadd hx hb dX1_turnsOfLine0_7 ?_
  refine q_bipush hx hb dX1_turnsOfLine0_8 rfl ?_
  refine q_irem hx hb dX1_turnsOfLine0_10 (by omega) ?_
  refine lv_istore_n (lv' := [(2, .int (zI (((w 16) + x1) % 30))), (0, .ref (a 0)), (1, .int (zI x1))]) hx hb dX1_turnsOfLine0_11 rfl hl (by decide) rfl (fun ls hl => ?_)
  refine q_iconst hx hb dX1_turnsOfLine0_12 ?_
  refine lv_istore_n (lv' := [(3, .int (zI 0)), (2, .int (zI (((w 16) + x1) % 30))), (0, .ref (a 0)), (1, .int (zI x1))]) hx hb dX1_turnsOfLine0_13 rfl hl (by decide) rfl (fun ls hl => ?_)
  refine q_iconst hx hb dX1_turnsOfLine0_14 ?_
  refine lv_istore (lv' := [(4, .int (zI 0)), (3, .int (zI 0)), (2, .int (zI (((w 16) + x1) % 30))), (0, .ref (a 0)), (1, .int (zI x1))]) hx hb dX1_turnsOfLine0_15 hl (by decide) rfl (fun ls hl => ?_)
  refine w_loopP (σ := Int × Int) (fun a9 ls => (0 ≤ a9.1 ∧ a9.1 ≤ 60) ∧ (a9.2 = sumR (c_t0F w x1) a9.1) ∧ lv_has ls 5 [(0, .ref (a 0)), (1, .int (zI x1)), (2, .int (zI (((w 16) + x1) % 30))), (3, .int (zI a9.2)), (4, .int (zI a9.1))]) (fun a9 => (60 - a9.1).toNat) ?_ (0, 0) ?_
  · rintro ⟨i, cn⟩ ls ⟨hi, hn, hl⟩ ih17
    have hi : 0 ≤ i ∧ i ≤ 60 := hi
    have hn : cn = sumR (c_t0F w x1) i := hn
    have hl : lv_has ls 5 [(0, .ref (a 0)), (1, .int (zI x1)), (2, .int (zI (((w 16) + x1) % 30))), (3, .int (zI cn)), (4, .int (zI i))] := hl
    refine lv_iload hx hb dX1_turnsOfLine0_17 (lv_at hl 4 rfl) ?_
    refine q_bipush hx hb dX1_turnsOfLine0_19 rfl ?_
    refine q_icmp_ge (tgt := 65) hx hb dX1_turnsOfLine0_21 (by decide) (by omega) (fun c_1 => ?_) (fun c_1 => ?_)
    · refine lv_iload_n hx hb dX1_turnsOfLine0_65 rfl (lv_at hl 3 rfl) ?_
      exact W.iret hx hb hr (fun t9 ht9 hW9 => ⟨_, rfl, congrArg zI (show cn = c_t0 w x1 from by rw [hn, show i = 60 by omega]; rfl), ht9⟩) hS.2.2 dX1_turnsOfLine0_66
    · refine lv_aload_n hx hb dX1_turnsOfLine0_24 rfl (lv_at hl 0 rfl) ?_
      refine va_get (D := (dC, dI)) (ci := 1) (v := .ref (a 3)) (C := RX1) (T := TX1) (N := 14) hx hb hts iX1 hown hK hP 0 rfl rfl 7 (by decide) kf16 (fun _ h9 => h9) rfl dX1_turnsOfLine0_25 ?_
      refine q_iconst hx hb dX1_turnsOfLine0_28 ?_
      refine q_iald (F := fun k => w (13 + k)) (v := w 13) hx hb hK hP 3 0 rfl rfl (by decide) (by omega) rfl dX1_turnsOfLine0_29 ?_
      refine lv_aload_n hx hb dX1_turnsOfLine0_30 rfl (lv_at hl 0 rfl) ?_
      refine va_get (D := (dC, dI)) (ci := 1) (v := .ref (a 4)) (C := RX1) (T := TX1) (N := 14) hx hb hts iX1 hown hK hP 0 rfl rfl 8 (by decide) kf19 (fun _ h9 => h9) rfl dX1_turnsOfLine0_31 ?_
      refine q_iconst hx hb dX1_turnsOfLine0_34 ?_
      refine q_iald (F := fun k => w (15 + k)) (v := w 15) hx hb hK hP 4 0 rfl rfl (by decide) (by omega) rfl dX1_turnsOfLine0_35 ?_
      refine lv_iload hx hb dX1_turnsOfLine0_36 (lv_at hl 4 rfl) ?_
      refine q_cSi (z := c_nt (w 13) (w 15) i) (As := [.int (zI (w 13)), .int (zI (w 15)), .int (zI i)]) (rest := []) ⟨hx, hb, hml, hown, hts⟩ (kX1_nextTrain l dC dI g tt (w 13) (w 15) i (by omega) (by omega) (by omega)) (va_cwS 3 hts gX1_turnsOfLine0_X1_nextTrain rfl rfl rfl (by decide +kernel) ⟨Nat.le_of_ble_eq_true rfl, Nat.le_of_ble_eq_true rfl⟩) (hP.sub (ws' := []) [] rfl) hK hT hS rfl hl.1 rfl (Nat.le_of_ble_eq_true rfl) dX1_turnsOfLine0_38 ⟨Nat.le_of_ble_eq_true rfl, Nat.le_of_ble_eq_true rfl⟩ ?_
      have := c_nt_r (e := (w 13)) (a := (w 15)) (m := i) (by omega) (by omega) (by omega)
      refine lv_aload_n hx hb dX1_turnsOfLine0_41 rfl (lv_at hl 0 rfl) ?_
      refine va_get (D := (dC, dI)) (ci := 1) (v := .ref (a 3)) (C := RX1) (T := TX1) (N := 14) hx hb hts iX1 hown hK hP 0 rfl rfl 7 (by decide) kf16 (fun _ h9 => h9) rfl dX1_turnsOfLine0_42 ?_
      refine q_iconst hx hb dX1_turnsOfLine0_45 ?_
      refine q_iald (F := fun k => w (13 + k)) (v := w 14) hx hb hK hP 3 0 rfl rfl (by decide) (by omega) rfl dX1_turnsOfLine0_46 ?_
      refine lv_iload_n hx hb dX1_turnsOfLine0_47 rfl (lv_at hl 2 rfl) ?_
      refine lv_iload hx hb dX1_turnsOfLine0_48 (lv_at hl 4 rfl) ?_
      refine q_cSi (z := c_nt (w 14) (((w 16) + x1) % 30) i) (As := [.int (zI (w 14)), .int (zI (((w 16) + x1) % 30)), .int (zI i)]) (rest := [.int (zI (c_nt (w 13) (w 15) i))]) ⟨hx, hb, hml, hown, hts⟩ (kX1_nextTrain l dC dI g tt (w 14) (((w 16) + x1) % 30) i (by omega) (by omega) (by omega)) (va_cwS 3 hts gX1_turnsOfLine0_X1_nextTrain rfl rfl rfl (by decide +kernel) ⟨Nat.le_of_ble_eq_true rfl, Nat.le_of_ble_eq_true rfl⟩) (hP.sub (ws' := []) [] rfl) hK hT hS rfl hl.1 rfl (Nat.le_of_ble_eq_true rfl) dX1_turnsOfLine0_50 ⟨Nat.le_of_ble_eq_true rfl, Nat.le_of_ble_eq_true rfl⟩ ?_
      have := c_nt_r (e := (w 14)) (a := (((w 16) + x1) % 30)) (m := i) (by omega) (by omega) (by omega)
      refine q_icmp_gt (tgt := 59) hx hb dX1_turnsOfLine0_53 (by decide) (by omega) (fun c_2 => ?_) (fun c_2 => ?_)
      · refine lv_iinc (v := zI (i + 1)) (lv' := [(4, .int (zI (i + 1))), (0, .ref (a 0)), (1, .int (zI x1)), (2, .int (zI (((w 16) + x1) % 30))), (3, .int (zI cn))]) hx hb dX1_turnsOfLine0_59 hl (k := 4) rfl (zI_add _ _) (by decide) rfl (fun ls hl => ?_)
        refine lv_goto (tgt := 17) hx hb dX1_turnsOfLine0_62 (by decide) ?_
        exact ih17 (i + 1, cn) ls ⟨(show 0 ≤ (i + 1) ∧ (i + 1) ≤ 60 from by omega), (show cn = sumR (c_t0F w x1) (i + 1) from by rw [sumR_s (by omega), c_t0F, bz_f (by omega)]; omega), lv_sub hl [1, 2, 3, 4, 0] rfl⟩ (by show (60 - (i + 1)).toNat < (60 - i).toNat; omega)
      · refine lv_iinc (v := zI (cn + 1)) (lv' := [(3, .int (zI (cn + 1))), (0, .ref (a 0)), (1, .int (zI x1)), (2, .int (zI (((w 16) + x1) % 30))), (4, .int (zI i))]) hx hb dX1_turnsOfLine0_56 hl (k := 3) rfl (zI_add _ _) (by decide) rfl (fun ls hl => ?_)
        refine lv_iinc (v := zI (i + 1)) (lv' := [(4, .int (zI (i + 1))), (3, .int (zI (cn + 1))), (0, .ref (a 0)), (1, .int (zI x1)), (2, .int (zI (((w 16) + x1) % 30)))]) hx hb dX1_turnsOfLine0_59 hl (k := 4) rfl (zI_add _ _) (by decide) rfl (fun ls hl => ?_)
        refine lv_goto (tgt := 17) hx hb dX1_turnsOfLine0_62 (by decide) ?_
        exact ih17 (i + 1, cn + 1) ls ⟨(show 0 ≤ (i + 1) ∧ (i + 1) ≤ 60 from by omega), (show (cn + 1) = sumR (c_t0F w x1) (i + 1) from by rw [sumR_s (by omega), c_t0F, bz_t (by omega)]; omega), lv_sub hl [2, 3, 4, 1, 0] rfl⟩ (by show (60 - (i + 1)).toNat < (60 - i).toNat; omega)
  · exact ⟨(show 0 ≤ 0 ∧ 0 ≤ 60 from by omega), (show 0 = sumR (c_t0F w x1) 0 from rfl), lv_sub hl [3, 4, 2, 1, 0] rfl⟩
