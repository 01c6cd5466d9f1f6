set_option maxHeartbeats 4000000 in
set_option maxRecDepth 100000 in
theorem kX2_round (l : Launch) (dC : Nat → ClassId) (dI : Nat → Nat → Nat) (g : Nat → ClassId) (tt : Nat → Nat) (x1 x2 : Int) (h1 : 0 ≤ x1 ∧ x1 ≤ 5) (h2 : 1 ≤ x2 ∧ x2 ≤ 11) : Met l yX2_round wsX2_round ({ frames := 0, cells := 0, slots := 0, locals := 0 }) (va_Pc [.int (zI x1), .int (zI x2)] (eS (dC, dI) (wTy g) ([]) tt)) (vp_Si (fun r => r = zI (c_round x1 x2))) 0 0 (fun _ => False) := by
  refine Met.ofW (cc := cX2_round) (maxL := 2) (ret := (some .int)) (by decide) rfl ?_
  intro p e s m args below meth c s₁ B hml hv
  obtain ⟨rfl, hP, hK, hT⟩ := hv
  have hx := B.exec
  have hb := B.bytes
  have hr := B.returns
  have hts := atoms_spec (ws := wsX2_round) B.pre
  have hown : s.vm.findClass RX2 = some m.cls := findClass_of_methodNamed B.named
  have hlocks := B.notSynchronized
  have hS : va_S (fun _ : Nat => False) s.heap s.heap [] := va_S.rf
  have hl := lv_entry ([.int (zI x1), .int (zI x2)]) (n := 2) (Nat.le_of_ble_eq_true rfl)
  rw [lg_entry_eq]
  generalize (lg_sl ([.int (zI x1), .int (zI x2)]) ++ List.replicate (2 - (lg_sl ([.int (zI x1), .int (zI x2)])).length) Slot.unset).toArray = ls at hl ⊢
  have hl : lv_has ls 2 [(0, .int (zI x1)), (1, .int (zI x2))] := hl
  refine lv_iload_n hx hb dX2_round_0 rfl (lv_at hl 0 rfl) ?_
  rcases (show x1 = 1 ∨ x1 = 2 ∨ x1 = 3 ∨ x1 = 4 ∨ (x1 < 1 ∨ 4 < x1) from by omega) with c_1 | c_1 | c_1 | c_1 | c_1
  · refine q_tabIn (off := 31) (tgt := 32) (j := 1) hx hb dX2_round_1 c_1 (by decide) (by decide) (by decide) (by decide) (by decide) ?_
    refine lv_iload_n hx hb dX2_round_32 rfl (lv_at hl 1 rfl) ?_
    exact W.iret hx hb hr (fun t9 ht9 hW9 => ⟨_, rfl, congrArg zI (show x2 = c_round x1 x2 from by unfold c_round kPace kRest kStand; (repeat' split) <;> omega), ht9⟩) hS.2.2 dX2_round_33
  · refine q_tabIn (off := 33) (tgt := 34) (j := 2) hx hb dX2_round_1 c_1 (by decide) (by decide) (by decide) (by decide) (by decide) ?_
    refine q_iconst hx hb dX2_round_34 ?_
    refine lv_iload_n hx hb dX2_round_35 rfl (lv_at hl 1 rfl) ?_
    refine q_imul hx hb dX2_round_36 ?_
    refine q_iconst hx hb dX2_round_37 ?_
    refine q_iadd hx hb dX2_round_38 ?_
    exact W.iret hx hb hr (fun t9 ht9 hW9 => ⟨_, rfl, congrArg zI (show (2 * x2) + 4 = c_round x1 x2 from by unfold c_round kPace kRest kStand; (repeat' split) <;> omega), ht9⟩) hS.2.2 dX2_round_39
  · refine q_tabIn (off := 47) (tgt := 48) (j := 3) hx hb dX2_round_1 c_1 (by decide) (by decide) (by decide) (by decide) (by decide) ?_
    refine q_iconst hx hb dX2_round_48 ?_
    refine lv_iload_n hx hb dX2_round_49 rfl (lv_at hl 1 rfl) ?_
    refine q_imul hx hb dX2_round_50 ?_
    exact W.iret hx hb hr (fun t9 ht9 hW9 => ⟨_, rfl, congrArg zI (show 2 * x2 = c_round x1 x2 from by unfold c_round kPace kRest kStand; (repeat' split) <;> omega), ht9⟩) hS.2.2 dX2_round_51
  · refine q_tabIn (off := 39) (tgt := 40) (j := 4) hx hb dX2_round_1 c_1 (by decide) (by decide) (by decide) (by decide) (by decide) ?_
    refine q_iconst hx hb dX2_round_40 ?_
    refine lv_iload_n hx hb dX2_round_41 rfl (lv_at hl 1 rfl) ?_
    refine q_imul hx hb dX2_round_42 ?_
    refine q_iconst hx hb dX2_round_43 ?_
    refine q_iadd hx hb dX2_round_44 ?_
    refine q_iconst hx hb dX2_round_45 ?_
    refine q_iadd hx hb dX2_round_46 ?_
    exact W.iret hx hb hr (fun t9 ht9 hW9 => ⟨_, rfl, congrArg zI (show ((2 * x2) + 4) + 2 = c_round x1 x2 from by unfold c_round kPace kRest kStand; (repeat' split) <;> omega), ht9⟩) hS.2.2 dX2_round_47
  · refine q_tabOut (tgt := 48) hx hb dX2_round_1 (by omega) c_1 (by decide) ?_
    refine q_iconst hx hb dX2_round_48 ?_
    refine lv_iload_n hx hb dX2_round_49 rfl (lv_at hl 1 rfl) ?_
    refine q_imul hx hb dX2_round_50 ?_
    exact W.iret hx hb hr (fun t9 ht9 hW9 => ⟨_, rfl, congrArg zI (show 2 * x2 = c_round x1 x2 from by unfold c_round kPace kRest kStand; (repeat' split) <;> omega), ht9⟩) hS.2.2 dX2_round_51
set_option maxHeartbeats 4000000 in
set_option maxRecDepth 100000 in
theorem kX2_floorIn (l : Launch) (dC : Nat → ClassId) (dI : Nat → Nat → Nat) (g : Nat → ClassId) (tt : Nat → Nat) (x1 x2 x3 x4 : Int) (h1 : 0 ≤ x1 ∧ x1 ≤ 5) (h2 : 1 ≤ x2 ∧ x2 ≤ 11) (h3 : 0 ≤ x3 ∧ x3 ≤ 99) (h4 : 0 ≤ x4 ∧ x4 ≤ 100000) : Met l yX2_floorIn wsX2_floorIn ({ frames := 1, cells := 0, slots := 0, locals := 22 }) (va_Pc [.int (zI x1), .int (zI x2), .int (zI x3), .int (zI x4)] (eS (dC, dI) (wTy g) ([]) tt)) (vp_Si (fun r => r = zI (c_floor x1 x2 x3 x4))) 0 0 (fun _ => False) := by
  refine Met.ofW (cc := cX2_floorIn) (maxL := 7) (ret := (some .int)) (by decide) rfl ?_
  intro p e s m args below meth c s₁ B hml hv
  obtain ⟨rfl, hP, hK, hT⟩ := hv
  have hx := B.exec
  have hb := B.bytes
  have hr := B.returns
  have hts := atoms_spec (ws := wsX2_floorIn) B.pre
  have hown : s.vm.findClass RX2 = some m.cls := findClass_of_methodNamed B.named
  have hlocks := B.notSynchronized
  have hS : va_S (fun _ : Nat => False) s.heap s.heap [] := va_S.rf
  have hl := lv_entry ([.int (zI x1), .int (zI x2), .int (zI x3), .int (zI x4)]) (n := 7) (Nat.le_of_ble_eq_true rfl)
  rw [lg_entry_eq]
  generalize (lg_sl ([.int (zI x1), .int (zI x2), .int (zI x3), .int (zI x4)]) ++ List.replicate (7 - (lg_sl ([.int (zI x1), .int (zI x2), .int (zI x3), .int (zI x4)])).length) Slot.unset).toArray = ls at hl ⊢
  have hl : lv_has ls 7 [(0, .int (zI x1)), (1, .int (zI x2)), (2, .int (zI x3)), (3, .int (zI x4))] := hl
  have km15 := hts (.methodLink RX2 15 Lib.Math.max.name) (by decide +kernel)
  have km20 := hts (.methodLink RX2 20 Lib.Math.min.name) (by decide +kernel)
  refine lv_iload_n hx hb dX2_floorIn_0 rfl (lv_at hl 0 rfl) ?_
  refine lv_iload_n hx hb dX2_floorIn_1 rfl (lv_at hl 1 rfl) ?_
  refine q_cSi (z := c_round x1 x2) (As := [.int (zI x1), .int (zI x2)]) (rest := []) ⟨hx, hb, hml, hown, hts⟩ (kX2_round l dC dI g tt x1 x2 (by omega) (by omega)) (va_cwS 2 hts gX2_floorIn_X2_round rfl rfl rfl (by decide +kernel) ⟨Nat.le_of_ble_eq_true rfl, Nat.le_of_ble_eq_true rfl⟩) hP hK hT hS rfl hl.1 rfl (Nat.le_of_ble_eq_true rfl) dX2_floorIn_2 ⟨Nat.le_of_ble_eq_true rfl, Nat.le_of_ble_eq_true rfl⟩ ?_
  have := c_round_r x1 (t := x2) (by omega)
  refine lv_istore (lv' := [(4, .int (zI (c_round x1 x2))), (0, .int (zI x1)), (1, .int (zI x2)), (2, .int (zI x3)), (3, .int (zI x4))]) hx hb dX2_floorIn_5 hl (by decide) rfl (fun ls hl => ?_)
  refine lv_iload hx hb dX2_floorIn_7 (lv_at hl 0 rfl) ?_
  refine q_iconst hx hb dX2_floorIn_9 ?_
  refine q_icmp_ge (tgt := 15) hx hb dX2_floorIn_10 (by decide) (by omega) (fun c_1 => ?_) (fun c_1 => ?_)
  · have hm := Int.emod_nonneg (x4 + x3) (show c_round x1 x2 ≠ 0 by omega)
    have hm2 := Int.emod_lt_of_pos (x4 + x3) (show 0 < c_round x1 x2 by omega)
    refine lv_iload_n hx hb dX2_floorIn_15 rfl (lv_at hl 4 rfl) ?_
    refine lv_iload_n hx hb dX2_floorIn_16 rfl (lv_at hl 3 rfl) ?_
    refine q_iadd hx hb dX2_floorIn_17 ?_
    refine lv_iload hx hb dX2_floorIn_18 (lv_at hl 0 rfl) ?_
    refine q_irem hx hb dX2_floorIn_20 (by omega) ?_
    refine lv_istore (lv' := [(5, .int (zI ((x4 + x3) % (c_round x1 x2)))), (4, .int (zI (c_round x1 x2))), (0, .int (zI x1)), (1, .int (zI x2)), (2, .int (zI x3)), (3, .int (zI x4))]) hx hb dX2_floorIn_21 hl (by decide) rfl (fun ls hl => ?_)
    refine lv_iload_n hx hb dX2_floorIn_23 rfl (lv_at hl 2 rfl) ?_
    refine q_iconst hx hb dX2_floorIn_24 ?_
    refine q_icmp_ne (tgt := 37) hx hb dX2_floorIn_25 (by decide) (by omega) (fun c_2 => ?_) (fun c_2 => ?_)
    · refine lv_iload_n hx hb dX2_floorIn_37 rfl (lv_at hl 2 rfl) ?_
      refine q_iconst hx hb dX2_floorIn_38 ?_
      refine q_icmp_ne (tgt := 58) hx hb dX2_floorIn_39 (by decide) (by omega) (fun c_3 => ?_) (fun c_3 => ?_)
      · refine q_iconst hx hb dX2_floorIn_58 ?_
        refine q_iconst hx hb dX2_floorIn_59 ?_
        refine lv_iload_n hx hb dX2_floorIn_60 rfl (lv_at hl 3 rfl) ?_
        refine q_imul hx hb dX2_floorIn_61 ?_
        refine lv_iload hx hb dX2_floorIn_62 (lv_at hl 0 rfl) ?_
        refine q_isub hx hb dX2_floorIn_64 ?_
        refine q_mmax hx hb (hml.trans hl.1.symm) hown km15 (hts (.static Lib.Math.max.name) (by decide +kernel)) (hts (.initialized "java/lang/Math") (by decide +kernel)) (hts (.code Lib.Math.max.name Lib.Math.max.code 2 (some .int)) (by decide +kernel)) (Nat.le_of_ble_eq_true rfl) (Nat.le_of_ble_eq_true rfl) (Nat.le_of_ble_eq_true rfl) (Nat.le_of_ble_eq_true rfl) (by omega) dX2_floorIn_65 ?_
        refine lv_istore (lv' := [(6, .int (zI (max 0 ((2 * x2) - ((x4 + x3) % (c_round x1 x2)))))), (5, .int (zI ((x4 + x3) % (c_round x1 x2)))), (4, .int (zI (c_round x1 x2))), (0, .int (zI x1)), (1, .int (zI x2)), (2, .int (zI x3)), (3, .int (zI x4))]) hx hb dX2_floorIn_68 hl (by decide) rfl (fun ls hl => ?_)
        refine lv_iload hx hb dX2_floorIn_70 (lv_at hl 1 rfl) ?_
        refine lv_iload hx hb dX2_floorIn_72 (lv_at hl 0 rfl) ?_
        refine q_mmin hx hb (hml.trans hl.1.symm) hown km20 (hts (.static Lib.Math.min.name) (by decide +kernel)) (hts (.initialized "java/lang/Math") (by decide +kernel)) (hts (.code Lib.Math.min.name Lib.Math.min.code 2 (some .int)) (by decide +kernel)) (Nat.le_of_ble_eq_true rfl) (Nat.le_of_ble_eq_true rfl) (Nat.le_of_ble_eq_true rfl) (Nat.le_of_ble_eq_true rfl) (by omega) dX2_floorIn_74 ?_
        exact W.iret hx hb hr (fun t9 ht9 hW9 => ⟨_, rfl, congrArg zI (show min ((x4 + x3) % (c_round x1 x2)) (max 0 ((2 * x2) - ((x4 + x3) % (c_round x1 x2)))) = c_floor x1 x2 x3 x4 from by unfold c_floor c_floorP c_pp kPace kStand; rw [if_neg (by omega)]; (repeat' split) <;> omega), ht9⟩) hS.2.2 dX2_floorIn_77
      · refine lv_iload hx hb dX2_floorIn_42 (lv_at hl 0 rfl) ?_
        refine lv_iload_n hx hb dX2_floorIn_44 rfl (lv_at hl 3 rfl) ?_
        refine q_icmp_le (tgt := 58) hx hb dX2_floorIn_45 (by decide) (by omega) (fun c_4 => ?_) (fun c_4 => ?_)
        · refine q_iconst hx hb dX2_floorIn_58 ?_
          refine q_iconst hx hb dX2_floorIn_59 ?_
          refine lv_iload_n hx hb dX2_floorIn_60 rfl (lv_at hl 3 rfl) ?_
          refine q_imul hx hb dX2_floorIn_61 ?_
          refine lv_iload hx hb dX2_floorIn_62 (lv_at hl 0 rfl) ?_
          refine q_isub hx hb dX2_floorIn_64 ?_
          refine q_mmax hx hb (hml.trans hl.1.symm) hown km15 (hts (.static Lib.Math.max.name) (by decide +kernel)) (hts (.initialized "java/lang/Math") (by decide +kernel)) (hts (.code Lib.Math.max.name Lib.Math.max.code 2 (some .int)) (by decide +kernel)) (Nat.le_of_ble_eq_true rfl) (Nat.le_of_ble_eq_true rfl) (Nat.le_of_ble_eq_true rfl) (Nat.le_of_ble_eq_true rfl) (by omega) dX2_floorIn_65 ?_
          refine lv_istore (lv' := [(6, .int (zI (max 0 ((2 * x2) - ((x4 + x3) % (c_round x1 x2)))))), (5, .int (zI ((x4 + x3) % (c_round x1 x2)))), (4, .int (zI (c_round x1 x2))), (0, .int (zI x1)), (1, .int (zI x2)), (2, .int (zI x3)), (3, .int (zI x4))]) hx hb dX2_floorIn_68 hl (by decide) rfl (fun ls hl => ?_)
          refine lv_iload hx hb dX2_floorIn_70 (lv_at hl 1 rfl) ?_
          refine lv_iload hx hb dX2_floorIn_72 (lv_at hl 0 rfl) ?_
          refine q_mmin hx hb (hml.trans hl.1.symm) hown km20 (hts (.static Lib.Math.min.name) (by decide +kernel)) (hts (.initialized "java/lang/Math") (by decide +kernel)) (hts (.code Lib.Math.min.name Lib.Math.min.code 2 (some .int)) (by decide +kernel)) (Nat.le_of_ble_eq_true rfl) (Nat.le_of_ble_eq_true rfl) (Nat.le_of_ble_eq_true rfl) (Nat.le_of_ble_eq_true rfl) (by omega) dX2_floorIn_74 ?_
          exact W.iret hx hb hr (fun t9 ht9 hW9 => ⟨_, rfl, congrArg zI (show min ((x4 + x3) % (c_round x1 x2)) (max 0 ((2 * x2) - ((x4 + x3) % (c_round x1 x2)))) = c_floor x1 x2 x3 x4 from by unfold c_floor c_floorP c_pp kPace kStand; rw [if_neg (by omega)]; (repeat' split) <;> omega), ht9⟩) hS.2.2 dX2_floorIn_77
        · refine lv_iload_n hx hb dX2_floorIn_48 rfl (lv_at hl 3 rfl) ?_
          refine lv_iload hx hb dX2_floorIn_49 (lv_at hl 0 rfl) ?_
          refine q_iconst hx hb dX2_floorIn_51 ?_
          refine q_isub hx hb dX2_floorIn_52 ?_
          refine q_mmax hx hb (hml.trans hl.1.symm) hown km15 (hts (.static Lib.Math.max.name) (by decide +kernel)) (hts (.initialized "java/lang/Math") (by decide +kernel)) (hts (.code Lib.Math.max.name Lib.Math.max.code 2 (some .int)) (by decide +kernel)) (Nat.le_of_ble_eq_true rfl) (Nat.le_of_ble_eq_true rfl) (Nat.le_of_ble_eq_true rfl) (Nat.le_of_ble_eq_true rfl) (by omega) dX2_floorIn_53 ?_
          refine lv_istore (lv' := [(5, .int (zI (max x2 (((x4 + x3) % (c_round x1 x2)) - 2)))), (4, .int (zI (c_round x1 x2))), (0, .int (zI x1)), (1, .int (zI x2)), (2, .int (zI x3)), (3, .int (zI x4))]) hx hb dX2_floorIn_56 hl (by decide) rfl (fun ls hl => ?_)
          refine q_iconst hx hb dX2_floorIn_58 ?_
          refine q_iconst hx hb dX2_floorIn_59 ?_
          refine lv_iload_n hx hb dX2_floorIn_60 rfl (lv_at hl 3 rfl) ?_
          refine q_imul hx hb dX2_floorIn_61 ?_
          refine lv_iload hx hb dX2_floorIn_62 (lv_at hl 0 rfl) ?_
          refine q_isub hx hb dX2_floorIn_64 ?_
          refine q_mmax hx hb (hml.trans hl.1.symm) hown km15 (hts (.static Lib.Math.max.name) (by decide +kernel)) (hts (.initialized "java/lang/Math") (by decide +kernel)) (hts (.code Lib.Math.max.name Lib.Math.max.code 2 (some .int)) (by decide +kernel)) (Nat.le_of_ble_eq_true rfl) (Nat.le_of_ble_eq_true rfl) (Nat.le_of_ble_eq_true rfl) (Nat.le_of_ble_eq_true rfl) (by omega) dX2_floorIn_65 ?_
          refine lv_istore (lv' := [(6, .int (zI (max 0 ((2 * x2) - (max x2 (((x4 + x3) % (c_round x1 x2)) - 2)))))), (5, .int (zI (max x2 (((x4 + x3) % (c_round x1 x2)) - 2)))), (4, .int (zI (c_round x1 x2))), (0, .int (zI x1)), (1, .int (zI x2)), (2, .int (zI x3)), (3, .int (zI x4))]) hx hb dX2_floorIn_68 hl (by decide) rfl (fun ls hl => ?_)
          refine lv_iload hx hb dX2_floorIn_70 (lv_at hl 1 rfl) ?_
          refine lv_iload hx hb dX2_floorIn_72 (lv_at hl 0 rfl) ?_
          refine q_mmin hx hb (hml.trans hl.1.symm) hown km20 (hts (.static Lib.Math.min.name) (by decide +kernel)) (hts (.initialized "java/lang/Math") (by decide +kernel)) (hts (.code Lib.Math.min.name Lib.Math.min.code 2 (some .int)) (by decide +kernel)) (Nat.le_of_ble_eq_true rfl) (Nat.le_of_ble_eq_true rfl) (Nat.le_of_ble_eq_true rfl) (Nat.le_of_ble_eq_true rfl) (by omega) dX2_floorIn_74 ?_
          exact W.iret hx hb hr (fun t9 ht9 hW9 => ⟨_, rfl, congrArg zI (show min (max x2 (((x4 + x3) % (c_round x1 x2)) - 2)) (max 0 ((2 * x2) - (max x2 (((x4 + x3) % (c_round x1 x2)) - 2)))) = c_floor x1 x2 x3 x4 from by unfold c_floor c_floorP c_pp kPace kStand; rw [if_neg (by omega)]; (repeat' split) <;> omega), ht9⟩) hS.2.2 dX2_floorIn_77
    · refine q_iconst hx hb dX2_floorIn_28 ?_
      refine lv_iload hx hb dX2_floorIn_29 (lv_at hl 0 rfl) ?_
      refine q_imul hx hb dX2_floorIn_31 ?_
      refine lv_istore (lv' := [(5, .int (zI (2 * ((x4 + x3) % (c_round x1 x2))))), (4, .int (zI (c_round x1 x2))), (0, .int (zI x1)), (1, .int (zI x2)), (2, .int (zI x3)), (3, .int (zI x4))]) hx hb dX2_floorIn_32 hl (by decide) rfl (fun ls hl => ?_)
      refine lv_goto (tgt := 58) hx hb dX2_floorIn_34 (by decide) ?_
      refine q_iconst hx hb dX2_floorIn_58 ?_
      refine q_iconst hx hb dX2_floorIn_59 ?_
      refine lv_iload_n hx hb dX2_floorIn_60 rfl (lv_at hl 3 rfl) ?_
      refine q_imul hx hb dX2_floorIn_61 ?_
      refine lv_iload hx hb dX2_floorIn_62 (lv_at hl 0 rfl) ?_
      refine q_isub hx hb dX2_floorIn_64 ?_
      refine q_mmax hx hb (hml.trans hl.1.symm) hown km15 (hts (.static Lib.Math.max.name) (by decide +kernel)) (hts (.initialized "java/lang/Math") (by decide +kernel)) (hts (.code Lib.Math.max.name Lib.Math.max.code 2 (some .int)) (by decide +kernel)) (Nat.le_of_ble_eq_true rfl) (Nat.le_of_ble_eq_true rfl) (Nat.le_of_ble_eq_true rfl) (Nat.le_of_ble_eq_true rfl) (by omega) dX2_floorIn_65 ?_
      refine lv_istore (lv' := [(6, .int (zI (max 0 ((2 * x2) - (2 * ((x4 + x3) % (c_round x1 x2))))))), (5, .int (zI (2 * ((x4 + x3) % (c_round x1 x2))))), (4, .int (zI (c_round x1 x2))), (0, .int (zI x1)), (1, .int (zI x2)), (2, .int (zI x3)), (3, .int (zI x4))]) hx hb dX2_floorIn_68 hl (by decide) rfl (fun ls hl => ?_)
      refine lv_iload hx hb dX2_floorIn_70 (lv_at hl 1 rfl) ?_
      refine lv_iload hx hb dX2_floorIn_72 (lv_at hl 0 rfl) ?_
      refine q_mmin hx hb (hml.trans hl.1.symm) hown km20 (hts (.static Lib.Math.min.name) (by decide +kernel)) (hts (.initialized "java/lang/Math") (by decide +kernel)) (hts (.code Lib.Math.min.name Lib.Math.min.code 2 (some .int)) (by decide +kernel)) (Nat.le_of_ble_eq_true rfl) (Nat.le_of_ble_eq_true rfl) (Nat.le_of_ble_eq_true rfl) (Nat.le_of_ble_eq_true rfl) (by omega) dX2_floorIn_74 ?_
      exact W.iret hx hb hr (fun t9 ht9 hW9 => ⟨_, rfl, congrArg zI (show min (2 * ((x4 + x3) % (c_round x1 x2))) (max 0 ((2 * x2) - (2 * ((x4 + x3) % (c_round x1 x2))))) = c_floor x1 x2 x3 x4 from by unfold c_floor c_floorP c_pp kPace kStand; rw [if_neg (by omega)]; (repeat' split) <;> omega), ht9⟩) hS.2.2 dX2_floorIn_77
  · refine q_iconst hx hb dX2_floorIn_13 ?_
    exact W.iret hx hb hr (fun t9 ht9 hW9 => ⟨_, rfl, congrArg zI (show 0 = c_floor x1 x2 x3 x4 from by unfold c_floor; rw [if_pos (by omega)]), ht9⟩) hS.2.2 dX2_floorIn_14
set_option maxHeartbeats 4000000 in
set_option maxRecDepth 100000 in
theorem kX2_opens (l : Launch) (dC : Nat → ClassId) (dI : Nat → Nat → Nat) (g : Nat → ClassId) (tt : Nat → Nat) (x1 x2 x3 : Int) (h1 : 0 ≤ x1 ∧ x1 ≤ 5) (h2 : 1 ≤ x2 ∧ x2 ≤ 11) (h3 : 0 ≤ x3 ∧ x3 ≤ 11) : Met l yX2_opens wsX2_opens ({ frames := 0, cells := 0, slots := 0, locals := 0 }) (va_Pc [.int (zI x1), .int (zI x2), .int (zI x3)] (eS (dC, dI) (wTy g) ([]) tt)) (vp_Si (fun r => r = zI (bz (c_opens x1 x2 x3 = true)))) 0 0 (fun _ => False) := by
  refine Met.ofW (cc := cX2_opens) (maxL := 3) (ret := (some .boolean)) (by decide) rfl ?_
  intro p e s m args below meth c s₁ B hml hv
  obtain ⟨rfl, hP, hK, hT⟩ := hv
  have hx := B.exec
  have hb := B.bytes
  have hr := B.returns
  have hts := atoms_spec (ws := wsX2_opens) B.pre
  have hown : s.vm.findClass RX2 = some m.cls := findClass_of_methodNamed B.named
  have hlocks := B.notSynchronized
  have hS : va_S (fun _ : Nat => False) s.heap s.heap [] := va_S.rf
  have hl := lv_entry ([.int (zI x1), .int (zI x2), .int (zI x3)]) (n := 3) (Nat.le_of_ble_eq_true rfl)
  rw [lg_entry_eq]
  generalize (lg_sl ([.int (zI x1), .int (zI x2), .int (zI x3)]) ++ List.replicate (3 - (lg_sl ([.int (zI x1), .int (zI x2), .int (zI x3)])).length) Slot.unset).toArray = ls at hl ⊢
  have hl : lv_has ls 3 [(0, .int (zI x1)), (1, .int (zI x2)), (2, .int (zI x3))] := hl
  refine lv_iload_n hx hb dX2_opens_0 rfl (lv_at hl 0 rfl) ?_
  rcases (show x1 = 0 ∨ x1 = 1 ∨ x1 = 2 ∨ x1 = 3 ∨ x1 = 4 ∨ x1 = 5 from by omega) with c_1 | c_1 | c_1 | c_1 | c_1 | c_1
  · refine q_look (tgt := 60) (j := 0) (off := 59) hx hb dX2_opens_1 c_1 (by decide) (by decide) (by decide) (by decide) ?_
    refine q_iconst hx hb dX2_opens_60 ?_
    exact W.zret hx hb hr rfl (fun t9 ht9 hW9 => ⟨_, rfl, congrArg zI (bz_t (by unfold c_opens; exact decide_eq_true (by omega))).symm, ht9⟩) hS.2.2 dX2_opens_61
  · refine q_look (tgt := 60) (j := 1) (off := 59) hx hb dX2_opens_1 c_1 (by decide) (by decide) (by decide) (by decide) ?_
    refine q_iconst hx hb dX2_opens_60 ?_
    exact W.zret hx hb hr rfl (fun t9 ht9 hW9 => ⟨_, rfl, congrArg zI (bz_t (by unfold c_opens; exact decide_eq_true (by omega))).symm, ht9⟩) hS.2.2 dX2_opens_61
  · refine q_look (tgt := 60) (j := 2) (off := 59) hx hb dX2_opens_1 c_1 (by decide) (by decide) (by decide) (by decide) ?_
    refine q_iconst hx hb dX2_opens_60 ?_
    exact W.zret hx hb hr rfl (fun t9 ht9 hW9 => ⟨_, rfl, congrArg zI (bz_t (by unfold c_opens; exact decide_eq_true (by omega))).symm, ht9⟩) hS.2.2 dX2_opens_61
  · refine q_look (tgt := 28) (j := 3) (off := 27) hx hb dX2_opens_1 c_1 (by decide) (by decide) (by decide) (by decide) ?_
    refine lv_iload_n hx hb dX2_opens_28 rfl (lv_at hl 2 rfl) ?_
    refine q_if_eq (tgt := 39) hx hb dX2_opens_29 (by decide) (by omega) (fun c_2 => ?_) (fun c_2 => ?_)
    · refine q_iconst hx hb dX2_opens_39 ?_
      refine lv_goto (tgt := 44) hx hb dX2_opens_40 (by decide) ?_
      exact W.zret hx hb hr rfl (fun t9 ht9 hW9 => ⟨_, rfl, congrArg zI (bz_t (by unfold c_opens; exact decide_eq_true (by omega))).symm, ht9⟩) hS.2.2 dX2_opens_44
    · refine lv_iload_n hx hb dX2_opens_32 rfl (lv_at hl 2 rfl) ?_
      refine q_iconst hx hb dX2_opens_33 ?_
      refine q_irem hx hb dX2_opens_34 (by omega) ?_
      refine q_iconst hx hb dX2_opens_35 ?_
      refine q_icmp_ne (tgt := 43) hx hb dX2_opens_36 (by decide) (by omega) (fun c_3 => ?_) (fun c_3 => ?_)
      · refine q_iconst hx hb dX2_opens_43 ?_
        exact W.zret hx hb hr rfl (fun t9 ht9 hW9 => ⟨_, rfl, congrArg zI (bz_f (fun h9 => by unfold c_opens at h9; have := of_decide_eq_true h9; omega)).symm, ht9⟩) hS.2.2 dX2_opens_44
      · refine q_iconst hx hb dX2_opens_39 ?_
        refine lv_goto (tgt := 44) hx hb dX2_opens_40 (by decide) ?_
        exact W.zret hx hb hr rfl (fun t9 ht9 hW9 => ⟨_, rfl, congrArg zI (bz_t (by unfold c_opens; exact decide_eq_true (by omega))).symm, ht9⟩) hS.2.2 dX2_opens_44
  · refine q_look (tgt := 60) (j := 4) (off := 59) hx hb dX2_opens_1 c_1 (by decide) (by decide) (by decide) (by decide) ?_
    refine q_iconst hx hb dX2_opens_60 ?_
    exact W.zret hx hb hr rfl (fun t9 ht9 hW9 => ⟨_, rfl, congrArg zI (bz_t (by unfold c_opens; exact decide_eq_true (by omega))).symm, ht9⟩) hS.2.2 dX2_opens_61
  · refine q_look (tgt := 45) (j := 5) (off := 44) hx hb dX2_opens_1 c_1 (by decide) (by decide) (by decide) (by decide) ?_
    refine lv_iload_n hx hb dX2_opens_45 rfl (lv_at hl 2 rfl) ?_
    refine q_if_eq (tgt := 54) hx hb dX2_opens_46 (by decide) (by omega) (fun c_4 => ?_) (fun c_4 => ?_)
    · refine q_iconst hx hb dX2_opens_54 ?_
      refine lv_goto (tgt := 59) hx hb dX2_opens_55 (by decide) ?_
      exact W.zret hx hb hr rfl (fun t9 ht9 hW9 => ⟨_, rfl, congrArg zI (bz_t (by unfold c_opens; exact decide_eq_true (by omega))).symm, ht9⟩) hS.2.2 dX2_opens_59
    · refine lv_iload_n hx hb dX2_opens_49 rfl (lv_at hl 2 rfl) ?_
      refine lv_iload_n hx hb dX2_opens_50 rfl (lv_at hl 1 rfl) ?_
      refine q_icmp_ne (tgt := 58) hx hb dX2_opens_51 (by decide) (by omega) (fun c_5 => ?_) (fun c_5 => ?_)
      · refine q_iconst hx hb dX2_opens_58 ?_
        exact W.zret hx hb hr rfl (fun t9 ht9 hW9 => ⟨_, rfl, congrArg zI (bz_f (fun h9 => by unfold c_opens at h9; have := of_decide_eq_true h9; omega)).symm, ht9⟩) hS.2.2 dX2_opens_59
      · refine q_iconst hx hb dX2_opens_54 ?_
        refine lv_goto (tgt := 59) hx hb dX2_opens_55 (by decide) ?_
        exact W.zret hx hb hr rfl (fun t9 ht9 hW9 => ⟨_, rfl, congrArg zI (bz_t (by unfold c_opens; exact decide_eq_true (by omega))).symm, ht9⟩) hS.2.2 dX2_opens_59
