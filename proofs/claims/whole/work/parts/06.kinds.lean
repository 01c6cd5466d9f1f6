set_option maxHeartbeats 4000000 in
set_option maxRecDepth 100000 in
theorem kX2_round (l : Launch) (dC : Nat → ClassId) (dI : Nat → Nat → Nat) (g : Nat → ClassId) (tt : Nat → Nat) (x1 x2 : Int) (h1 : 0 ≤ x1 ∧ x1 ≤ 5) (h2 : 1 ≤ x2 ∧ x2 ≤ 11) : Met l yX2_round wsX2_round ({ frames := 0, cells := 0, slots := 0, locals := 0 }) (va_Pc [.int (zI x1), .int (zI x2)] (eS (dC, dI) (wTy g) ([]) tt)) (vp_Si (fun r => r = zI (c_round x1 x2))) 0 0 (fun _ => False) := by
  refine Met.ofW (cc := cX2_round) (maxL := 3) (ret := (some .int)) (by decide) rfl ?_
  intro p e s m args below meth c s₁ B hml hv
  obtain ⟨rfl, hP, hK, hT⟩ := hv
  have hx := B.exec
  have hb := B.bytes
  have hr := B.returns
  have hts := atoms_spec (ws := wsX2_round) B.pre
  have hown : s.vm.findClass RX2 = some m.cls := findClass_of_methodNamed B.named
  have hlocks := B.notSynchronized
  have hS : va_S (fun _ : Nat => False) s.heap s.heap [] := va_S.rf
  have hl := lv_entry ([.int (zI x1), .int (zI x2)]) (n := 3) (Nat.le_of_ble_eq_true rfl)
  rw [lg_entry_eq]
  generalize (lg_sl ([.int (zI x1), .int (zI x2)]) ++ List.replicate (3 - (lg_sl ([.int (zI x1), .int (zI x2)])).length) Slot.unset).toArray = ls at hl ⊢
  have hl : lv_has ls 3 [(0, .int (zI x1)), (1, .int (zI x2))] := hl
  have kf15 := hts (.fieldLink RX2 15 "WrongWay$Kinds" "REST_BELOW" "[I") (by decide +kernel)
  have kf18 := hts (.fieldLink RX2 18 "WrongWay$Kinds" "STAND_ABOVE" "[I") (by decide +kernel)
  have kf9 := hts (.fieldLink RX2 9 "WrongWay$Kinds" "PACE" "[I") (by decide +kernel)
  have hp0 := kPace_r x1
  refine va_gets hx hb hT.1.1 hS hown kf9 (fun _ h9 => h9) dX2_round_0 ?_
  refine lv_iload_n hx hb dX2_round_3 rfl (lv_at hl 0 rfl) ?_
  refine q_ti (F := kPace) hx hb hT.1.2 hS (by decide) (by omega) dX2_round_4 ?_
  refine q_iconst hx hb dX2_round_5 ?_
  refine q_icmp_ne (tgt := 13) hx hb dX2_round_6 (by decide) (by omega) (fun c_1 => ?_) (fun c_1 => ?_)
  · refine q_iconst hx hb dX2_round_13 ?_
    refine lv_iload_n hx hb dX2_round_14 rfl (lv_at hl 1 rfl) ?_
    refine q_imul hx hb dX2_round_15 ?_
    refine lv_istore_n (lv' := [(2, .int (zI (2 * x2))), (0, .int (zI x1)), (1, .int (zI x2))]) hx hb dX2_round_16 rfl hl (by decide) rfl (fun ls hl => ?_)
    refine lv_iload_n hx hb dX2_round_17 rfl (lv_at hl 0 rfl) ?_
    refine va_gets hx hb hT.2.1.1 hS hown kf15 (fun _ h9 => h9) dX2_round_18 ?_
    refine lv_iload_n hx hb dX2_round_21 rfl (lv_at hl 1 rfl) ?_
    refine q_ti (F := kRest) hx hb hT.2.1.2 hS (by decide) (by omega) dX2_round_22 ?_
    refine q_iadd hx hb dX2_round_23 ?_
    refine va_gets hx hb hT.2.2.1.1 hS hown kf18 (fun _ h9 => h9) dX2_round_24 ?_
    refine lv_iload_n hx hb dX2_round_27 rfl (lv_at hl 1 rfl) ?_
    refine q_ti (F := kStand) hx hb hT.2.2.1.2 hS (by decide) (by omega) dX2_round_28 ?_
    refine q_iadd hx hb dX2_round_29 ?_
    exact W.iret hx hb hr (fun t9 ht9 hW9 => ⟨_, rfl, congrArg zI (show ((2 * x2) + (kRest x1)) + (kStand x1) = c_round x1 x2 from by unfold c_round; split <;> omega), ht9⟩) hS.2.2 dX2_round_30
  · refine lv_iload_n hx hb dX2_round_9 rfl (lv_at hl 1 rfl) ?_
    refine lv_goto (tgt := 16) hx hb dX2_round_10 (by decide) ?_
    refine lv_istore_n (lv' := [(2, .int (zI x2)), (0, .int (zI x1)), (1, .int (zI x2))]) hx hb dX2_round_16 rfl hl (by decide) rfl (fun ls hl => ?_)
    refine lv_iload_n hx hb dX2_round_17 rfl (lv_at hl 0 rfl) ?_
    refine va_gets hx hb hT.2.1.1 hS hown kf15 (fun _ h9 => h9) dX2_round_18 ?_
    refine lv_iload_n hx hb dX2_round_21 rfl (lv_at hl 1 rfl) ?_
    refine q_ti (F := kRest) hx hb hT.2.1.2 hS (by decide) (by omega) dX2_round_22 ?_
    refine q_iadd hx hb dX2_round_23 ?_
    refine va_gets hx hb hT.2.2.1.1 hS hown kf18 (fun _ h9 => h9) dX2_round_24 ?_
    refine lv_iload_n hx hb dX2_round_27 rfl (lv_at hl 1 rfl) ?_
    refine q_ti (F := kStand) hx hb hT.2.2.1.2 hS (by decide) (by omega) dX2_round_28 ?_
    refine q_iadd hx hb dX2_round_29 ?_
    exact W.iret hx hb hr (fun t9 ht9 hW9 => ⟨_, rfl, congrArg zI (show (x2 + (kRest x1)) + (kStand x1) = c_round x1 x2 from by unfold c_round; split <;> omega), ht9⟩) hS.2.2 dX2_round_30
set_option maxHeartbeats 4000000 in
set_option maxRecDepth 100000 in
theorem kX2_floorIn (l : Launch) (dC : Nat → ClassId) (dI : Nat → Nat → Nat) (g : Nat → ClassId) (tt : Nat → Nat) (x1 x2 x3 x4 : Int) (h1 : 0 ≤ x1 ∧ x1 ≤ 5) (h2 : 1 ≤ x2 ∧ x2 ≤ 11) (h3 : 0 ≤ x3 ∧ x3 ≤ 99) (h4 : 0 ≤ x4 ∧ x4 ≤ 100000) : Met l yX2_floorIn wsX2_floorIn ({ frames := 1, cells := 0, slots := 0, locals := 22 }) (va_Pc [.int (zI x1), .int (zI x2), .int (zI x3), .int (zI x4)] (eS (dC, dI) (wTy g) ([]) tt)) (vp_Si (fun r => r = zI (c_floor x1 x2 x3 x4))) 0 0 (fun _ => False) := by
  refine Met.ofW (cc := cX2_floorIn) (maxL := 7) (ret := (some .int)) (by decide) rfl ?_
  intro p e s m args below meth c s₁ B hml hv
  obtain ⟨rfl, hP, hK, hT⟩ := hv
  have hx := B.exec
  have hb := B.bytes
  have hr := B.returns
  have hts := atoms_spec (ws := wsX2_floorIn) B.pre
  have hown : s.vm.findClass RX2 = some m.cls := findClass_of_methodNamed B.named
  have hlocks := B.notSynchronized
  have hS : va_S (fun _ : Nat => False) s.heap s.heap [] := va_S.rf
  have hl := lv_entry ([.int (zI x1), .int (zI x2), .int (zI x3), .int (zI x4)]) (n := 7) (Nat.le_of_ble_eq_true rfl)
  rw [lg_entry_eq]
  generalize (lg_sl ([.int (zI x1), .int (zI x2), .int (zI x3), .int (zI x4)]) ++ List.replicate (7 - (lg_sl ([.int (zI x1), .int (zI x2), .int (zI x3), .int (zI x4)])).length) Slot.unset).toArray = ls at hl ⊢
  have hl : lv_has ls 7 [(0, .int (zI x1)), (1, .int (zI x2)), (2, .int (zI x3)), (3, .int (zI x4))] := hl
  have kf18 := hts (.fieldLink RX2 18 "WrongWay$Kinds" "STAND_ABOVE" "[I") (by decide +kernel)
  have kf9 := hts (.fieldLink RX2 9 "WrongWay$Kinds" "PACE" "[I") (by decide +kernel)
  have km25 := hts (.methodLink RX2 25 Lib.Math.max.name) (by decide +kernel)
  have km30 := hts (.methodLink RX2 30 Lib.Math.min.name) (by decide +kernel)
  refine lv_iload_n hx hb dX2_floorIn_0 rfl (lv_at hl 0 rfl) ?_
  refine lv_iload_n hx hb dX2_floorIn_1 rfl (lv_at hl 1 rfl) ?_
  refine q_cSi (z := c_round x1 x2) (As := [.int (zI x1), .int (zI x2)]) (rest := []) ⟨hx, hb, hml, hown, hts⟩ (kX2_round l dC dI g tt x1 x2 (by omega) (by omega)) (va_cwS 2 hts gX2_floorIn_X2_round rfl rfl rfl (by decide +kernel) ⟨Nat.le_of_ble_eq_true rfl, Nat.le_of_ble_eq_true rfl⟩) hP hK hT hS rfl hl.1 rfl (Nat.le_of_ble_eq_true rfl) dX2_floorIn_2 ⟨Nat.le_of_ble_eq_true rfl, Nat.le_of_ble_eq_true rfl⟩ ?_
  have := c_round_r x1 (t := x2) (by omega)
  refine lv_istore (lv' := [(4, .int (zI (c_round x1 x2))), (0, .int (zI x1)), (1, .int (zI x2)), (2, .int (zI x3)), (3, .int (zI x4))]) hx hb dX2_floorIn_5 hl (by decide) rfl (fun ls hl => ?_)
  refine lv_iload hx hb dX2_floorIn_7 (lv_at hl 0 rfl) ?_
  refine q_iconst hx hb dX2_floorIn_9 ?_
  refine q_icmp_ge (tgt := 15) hx hb dX2_floorIn_10 (by decide) (by omega) (fun c_1 => ?_) (fun c_1 => ?_)
  · have hm := Int.emod_nonneg (x4 + x3) (show c_round x1 x2 ≠ 0 by omega)
    have hm2 := Int.emod_lt_of_pos (x4 + x3) (show 0 < c_round x1 x2 by omega)
    have hq := kPace_m x1 hm
    have hs0 := kStand_r x1
    have hp0 := kPace_r x1
    refine va_gets hx hb hT.1.1 hS hown kf9 (fun _ h9 => h9) dX2_floorIn_15 ?_
    refine lv_iload_n hx hb dX2_floorIn_18 rfl (lv_at hl 1 rfl) ?_
    refine q_ti (F := kPace) hx hb hT.1.2 hS (by decide) (by omega) dX2_floorIn_19 ?_
    refine lv_iload_n hx hb dX2_floorIn_20 rfl (lv_at hl 4 rfl) ?_
    refine lv_iload_n hx hb dX2_floorIn_21 rfl (lv_at hl 3 rfl) ?_
    refine q_iadd hx hb dX2_floorIn_22 ?_
    refine lv_iload hx hb dX2_floorIn_23 (lv_at hl 0 rfl) ?_
    refine q_irem hx hb dX2_floorIn_25 (by omega) ?_
    refine q_imul hx hb dX2_floorIn_26 ?_
    refine lv_istore (lv' := [(5, .int (zI ((kPace x1) * ((x4 + x3) % (c_round x1 x2))))), (4, .int (zI (c_round x1 x2))), (0, .int (zI x1)), (1, .int (zI x2)), (2, .int (zI x3)), (3, .int (zI x4))]) hx hb dX2_floorIn_27 hl (by decide) rfl (fun ls hl => ?_)
    refine lv_iload hx hb dX2_floorIn_29 (lv_at hl 0 rfl) ?_
    refine lv_iload_n hx hb dX2_floorIn_31 rfl (lv_at hl 3 rfl) ?_
    refine q_icmp_le (tgt := 49) hx hb dX2_floorIn_32 (by decide) (by omega) (fun c_2 => ?_) (fun c_2 => ?_)
    · refine q_iconst hx hb dX2_floorIn_49 ?_
      refine q_iconst hx hb dX2_floorIn_50 ?_
      refine lv_iload_n hx hb dX2_floorIn_51 rfl (lv_at hl 3 rfl) ?_
      refine q_imul hx hb dX2_floorIn_52 ?_
      refine lv_iload hx hb dX2_floorIn_53 (lv_at hl 0 rfl) ?_
      refine q_isub hx hb dX2_floorIn_55 ?_
      refine q_mmax hx hb (hml.trans hl.1.symm) hown km25 (hts (.static Lib.Math.max.name) (by decide +kernel)) (hts (.initialized "java/lang/Math") (by decide +kernel)) (hts (.code Lib.Math.max.name Lib.Math.max.code 2 (some .int)) (by decide +kernel)) (Nat.le_of_ble_eq_true rfl) (Nat.le_of_ble_eq_true rfl) (Nat.le_of_ble_eq_true rfl) (Nat.le_of_ble_eq_true rfl) (by omega) dX2_floorIn_56 ?_
      refine lv_istore (lv' := [(6, .int (zI (max 0 ((2 * x2) - ((kPace x1) * ((x4 + x3) % (c_round x1 x2))))))), (5, .int (zI ((kPace x1) * ((x4 + x3) % (c_round x1 x2))))), (4, .int (zI (c_round x1 x2))), (0, .int (zI x1)), (1, .int (zI x2)), (2, .int (zI x3)), (3, .int (zI x4))]) hx hb dX2_floorIn_59 hl (by decide) rfl (fun ls hl => ?_)
      refine lv_iload hx hb dX2_floorIn_61 (lv_at hl 1 rfl) ?_
      refine lv_iload hx hb dX2_floorIn_63 (lv_at hl 0 rfl) ?_
      refine q_mmin hx hb (hml.trans hl.1.symm) hown km30 (hts (.static Lib.Math.min.name) (by decide +kernel)) (hts (.initialized "java/lang/Math") (by decide +kernel)) (hts (.code Lib.Math.min.name Lib.Math.min.code 2 (some .int)) (by decide +kernel)) (Nat.le_of_ble_eq_true rfl) (Nat.le_of_ble_eq_true rfl) (Nat.le_of_ble_eq_true rfl) (Nat.le_of_ble_eq_true rfl) (by omega) dX2_floorIn_65 ?_
      exact W.iret hx hb hr (fun t9 ht9 hW9 => ⟨_, rfl, congrArg zI (show min ((kPace x1) * ((x4 + x3) % (c_round x1 x2))) (max 0 ((2 * x2) - ((kPace x1) * ((x4 + x3) % (c_round x1 x2))))) = c_floor x1 x2 x3 x4 from by unfold c_floor c_floorP c_pp; rw [if_neg (by omega), if_neg (by omega)]), ht9⟩) hS.2.2 dX2_floorIn_68
    · refine lv_iload_n hx hb dX2_floorIn_35 rfl (lv_at hl 3 rfl) ?_
      refine lv_iload hx hb dX2_floorIn_36 (lv_at hl 0 rfl) ?_
      refine va_gets hx hb hT.2.2.1.1 hS hown kf18 (fun _ h9 => h9) dX2_floorIn_38 ?_
      refine lv_iload_n hx hb dX2_floorIn_41 rfl (lv_at hl 2 rfl) ?_
      refine q_ti (F := kStand) hx hb hT.2.2.1.2 hS (by decide) (by omega) dX2_floorIn_42 ?_
      refine q_isub hx hb dX2_floorIn_43 ?_
      refine q_mmax hx hb (hml.trans hl.1.symm) hown km25 (hts (.static Lib.Math.max.name) (by decide +kernel)) (hts (.initialized "java/lang/Math") (by decide +kernel)) (hts (.code Lib.Math.max.name Lib.Math.max.code 2 (some .int)) (by decide +kernel)) (Nat.le_of_ble_eq_true rfl) (Nat.le_of_ble_eq_true rfl) (Nat.le_of_ble_eq_true rfl) (Nat.le_of_ble_eq_true rfl) (by omega) dX2_floorIn_44 ?_
      refine lv_istore (lv' := [(5, .int (zI (max x2 (((kPace x1) * ((x4 + x3) % (c_round x1 x2))) - (kStand x1))))), (4, .int (zI (c_round x1 x2))), (0, .int (zI x1)), (1, .int (zI x2)), (2, .int (zI x3)), (3, .int (zI x4))]) hx hb dX2_floorIn_47 hl (by decide) rfl (fun ls hl => ?_)
      refine q_iconst hx hb dX2_floorIn_49 ?_
      refine q_iconst hx hb dX2_floorIn_50 ?_
      refine lv_iload_n hx hb dX2_floorIn_51 rfl (lv_at hl 3 rfl) ?_
      refine q_imul hx hb dX2_floorIn_52 ?_
      refine lv_iload hx hb dX2_floorIn_53 (lv_at hl 0 rfl) ?_
      refine q_isub hx hb dX2_floorIn_55 ?_
      refine q_mmax hx hb (hml.trans hl.1.symm) hown km25 (hts (.static Lib.Math.max.name) (by decide +kernel)) (hts (.initialized "java/lang/Math") (by decide +kernel)) (hts (.code Lib.Math.max.name Lib.Math.max.code 2 (some .int)) (by decide +kernel)) (Nat.le_of_ble_eq_true rfl) (Nat.le_of_ble_eq_true rfl) (Nat.le_of_ble_eq_true rfl) (Nat.le_of_ble_eq_true rfl) (by omega) dX2_floorIn_56 ?_
      refine lv_istore (lv' := [(6, .int (zI (max 0 ((2 * x2) - (max x2 (((kPace x1) * ((x4 + x3) % (c_round x1 x2))) - (kStand x1))))))), (5, .int (zI (max x2 (((kPace x1) * ((x4 + x3) % (c_round x1 x2))) - (kStand x1))))), (4, .int (zI (c_round x1 x2))), (0, .int (zI x1)), (1, .int (zI x2)), (2, .int (zI x3)), (3, .int (zI x4))]) hx hb dX2_floorIn_59 hl (by decide) rfl (fun ls hl => ?_)
      refine lv_iload hx hb dX2_floorIn_61 (lv_at hl 1 rfl) ?_
      refine lv_iload hx hb dX2_floorIn_63 (lv_at hl 0 rfl) ?_
      refine q_mmin hx hb (hml.trans hl.1.symm) hown km30 (hts (.static Lib.Math.min.name) (by decide +kernel)) (hts (.initialized "java/lang/Math") (by decide +kernel)) (hts (.code Lib.Math.min.name Lib.Math.min.code 2 (some .int)) (by decide +kernel)) (Nat.le_of_ble_eq_true rfl) (Nat.le_of_ble_eq_true rfl) (Nat.le_of_ble_eq_true rfl) (Nat.le_of_ble_eq_true rfl) (by omega) dX2_floorIn_65 ?_
      exact W.iret hx hb hr (fun t9 ht9 hW9 => ⟨_, rfl, congrArg zI (show min (max x2 (((kPace x1) * ((x4 + x3) % (c_round x1 x2))) - (kStand x1))) (max 0 ((2 * x2) - (max x2 (((kPace x1) * ((x4 + x3) % (c_round x1 x2))) - (kStand x1))))) = c_floor x1 x2 x3 x4 from by unfold c_floor c_floorP c_pp; rw [if_neg (by omega), if_pos (by omega)]), ht9⟩) hS.2.2 dX2_floorIn_68
  · refine q_iconst hx hb dX2_floorIn_13 ?_
    exact W.iret hx hb hr (fun t9 ht9 hW9 => ⟨_, rfl, congrArg zI (show 0 = c_floor x1 x2 x3 x4 from by unfold c_floor; rw [if_pos (by omega)]), ht9⟩) hS.2.2 dX2_floorIn_14
set_option maxHeartbeats 4000000 in
set_option maxRecDepth 100000 in
theorem kX2_opens (l : Launch) (dC : Nat → ClassId) (dI : Nat → Nat → Nat) (g : Nat → ClassId) (tt : Nat → Nat) (x1 x2 x3 : Int) (h1 : 0 ≤ x1 ∧ x1 ≤ 5) (h2 : 1 ≤ x2 ∧ x2 ≤ 11) (h3 : 0 ≤ x3 ∧ x3 ≤ 11) : Met l yX2_opens wsX2_opens ({ frames := 0, cells := 0, slots := 0, locals := 0 }) (va_Pc [.int (zI x1), .int (zI x2), .int (zI x3)] (eS (dC, dI) (wTy g) ([]) tt)) (vp_Si (fun r => r = zI (bz (c_opens x1 x2 x3 = true)))) 0 0 (fun _ => False) := by
  refine Met.ofW (cc := cX2_opens) (maxL := 3) (ret := (some .boolean)) (by decide) rfl ?_
  intro p e s m args below meth c s₁ B hml hv
  obtain ⟨rfl, hP, hK, hT⟩ := hv
  have hx := B.exec
  have hb := B.bytes
  have hr := B.returns
  have hts := atoms_spec (ws := wsX2_opens) B.pre
  have hown : s.vm.findClass RX2 = some m.cls := findClass_of_methodNamed B.named
  have hlocks := B.notSynchronized
  have hS : va_S (fun _ : Nat => False) s.heap s.heap [] := va_S.rf
  have hl := lv_entry ([.int (zI x1), .int (zI x2), .int (zI x3)]) (n := 3) (Nat.le_of_ble_eq_true rfl)
  rw [lg_entry_eq]
  generalize (lg_sl ([.int (zI x1), .int (zI x2), .int (zI x3)]) ++ List.replicate (3 - (lg_sl ([.int (zI x1), .int (zI x2), .int (zI x3)])).length) Slot.unset).toArray = ls at hl ⊢
  have hl : lv_has ls 3 [(0, .int (zI x1)), (1, .int (zI x2)), (2, .int (zI x3))] := hl
  refine lv_iload_n hx hb dX2_opens_0 rfl (lv_at hl 0 rfl) ?_
  rcases (show x1 = 0 ∨ x1 = 1 ∨ x1 = 2 ∨ x1 = 3 ∨ x1 = 4 ∨ x1 = 5 from by omega) with c_1 | c_1 | c_1 | c_1 | c_1 | c_1
  · refine q_look (tgt := 60) (j := 0) (off := 59) hx hb dX2_opens_1 c_1 (by decide) (by decide) (by decide) (by decide) ?_
    refine q_iconst hx hb dX2_opens_60 ?_
    exact W.zret hx hb hr rfl (fun t9 ht9 hW9 => ⟨_, rfl, congrArg zI (bz_t (by unfold c_opens; exact decide_eq_true (by omega))).symm, ht9⟩) hS.2.2 dX2_opens_61
  · refine q_look (tgt := 60) (j := 1) (off := 59) hx hb dX2_opens_1 c_1 (by decide) (by decide) (by decide) (by decide) ?_
    refine q_iconst hx hb dX2_opens_60 ?_
    exact W.zret hx hb hr rfl (fun t9 ht9 hW9 => ⟨_, rfl, congrArg zI (bz_t (by unfold c_opens; exact decide_eq_true (by omega))).symm, ht9⟩) hS.2.2 dX2_opens_61
  · refine q_look (tgt := 60) (j := 2) (off := 59) hx hb dX2_opens_1 c_1 (by decide) (by decide) (by decide) (by decide) ?_
    refine q_iconst hx hb dX2_opens_60 ?_
    exact W.zret hx hb hr rfl (fun t9 ht9 hW9 => ⟨_, rfl, congrArg zI (bz_t (by unfold c_opens; exact decide_eq_true (by omega))).symm, ht9⟩) hS.2.2 dX2_opens_61
  · refine q_look (tgt := 28) (j := 3) (off := 27) hx hb dX2_opens_1 c_1 (by decide) (by decide) (by decide) (by decide) ?_
    refine lv_iload_n hx hb dX2_opens_28 rfl (lv_at hl 2 rfl) ?_
    refine q_if_eq (tgt := 39) hx hb dX2_opens_29 (by decide) (by omega) (fun c_2 => ?_) (fun c_2 => ?_)
    · refine q_iconst hx hb dX2_opens_39 ?_
      refine lv_goto (tgt := 44) hx hb dX2_opens_40 (by decide) ?_
      exact W.zret hx hb hr rfl (fun t9 ht9 hW9 => ⟨_, rfl, congrArg zI (bz_t (by unfold c_opens; exact decide_eq_true (by omega))).symm, ht9⟩) hS.2.2 dX2_opens_44
    · refine lv_iload_n hx hb dX2_opens_32 rfl (lv_at hl 2 rfl) ?_
      refine q_iconst hx hb dX2_opens_33 ?_
      refine q_irem hx hb dX2_opens_34 (by omega) ?_
      refine q_iconst hx hb dX2_opens_35 ?_
      refine q_icmp_ne (tgt := 43) hx hb dX2_opens_36 (by decide) (by omega) (fun c_3 => ?_) (fun c_3 => ?_)
      · refine q_iconst hx hb dX2_opens_43 ?_
        exact W.zret hx hb hr rfl (fun t9 ht9 hW9 => ⟨_, rfl, congrArg zI (bz_f (fun h9 => by unfold c_opens at h9; have := of_decide_eq_true h9; omega)).symm, ht9⟩) hS.2.2 dX2_opens_44
      · refine q_iconst hx hb dX2_opens_39 ?_
        refine lv_goto (tgt := 44) hx hb dX2_opens_40 (by decide) ?_
        exact W.zret hx hb hr rfl (fun t9 ht9 hW9 => ⟨_, rfl, congrArg zI (bz_t (by unfold c_opens; exact decide_eq_true (by omega))).symm, ht9⟩) hS.2.2 dX2_opens_44
  · refine q_look (tgt := 60) (j := 4) (off := 59) hx hb dX2_opens_1 c_1 (by decide) (by decide) (by decide) (by decide) ?_
    refine q_iconst hx hb dX2_opens_60 ?_
    exact W.zret hx hb hr rfl (fun t9 ht9 hW9 => ⟨_, rfl, congrArg zI (bz_t (by unfold c_opens; exact decide_eq_true (by omega))).symm, ht9⟩) hS.2.2 dX2_opens_61
  · refine q_look (tgt := 45) (j := 5) (off := 44) hx hb dX2_opens_1 c_1 (by decide) (by decide) (by decide) (by decide) ?_
    refine lv_iload_n hx hb dX2_opens_45 rfl (lv_at hl 2 rfl) ?_
    refine q_if_eq (tgt := 54) hx hb dX2_opens_46 (by decide) (by omega) (fun c_4 => ?_) (fun c_4 => ?_)
    · refine q_iconst hx hb dX2_opens_54 ?_
      refine lv_goto (tgt := 59) hx hb dX2_opens_55 (by decide) ?_
      exact W.zret hx hb hr rfl (fun t9 ht9 hW9 => ⟨_, rfl, congrArg zI (bz_t (by unfold c_opens; exact decide_eq_true (by omega))).symm, ht9⟩) hS.2.2 dX2_opens_59
    · refine lv_iload_n hx hb dX2_opens_49 rfl (lv_at hl 2 rfl) ?_
      refine lv_iload_n hx hb dX2_opens_50 rfl (lv_at hl 1 rfl) ?_
      refine q_icmp_ne (tgt := 58) hx hb dX2_opens_51 (by decide) (by omega) (fun c_5 => ?_) (fun c_5 => ?_)
      · refine q_iconst hx hb dX2_opens_58 ?_
        exact W.zret hx hb hr rfl (fun t9 ht9 hW9 => ⟨_, rfl, congrArg zI (bz_f (fun h9 => by unfold c_opens at h9; have := of_decide_eq_true h9; omega)).symm, ht9⟩) hS.2.2 dX2_opens_59
      · refine q_iconst hx hb dX2_opens_54 ?_
        refine lv_goto (tgt := 59) hx hb dX2_opens_55 (by decide) ?_
        exact W.zret hx hb hr rfl (fun t9 ht9 hW9 => ⟨_, rfl, congrArg zI (bz_t (by unfold c_opens; exact decide_eq_true (by omega))).symm, ht9⟩) hS.2.2 dX2_opens_59
