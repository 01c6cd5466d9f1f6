set_option maxHeartbeats 4000000 in
set_option maxRecDepth 100000 in
theorem kX6_ride (l : Launch) (dC : Nat → ClassId) (dI : Nat → Nat → Nat) (g : Nat → ClassId) (tt : Nat → Nat) (sz : Nat) (q : Nat → Nat) (M : Nat → Int → Int) (x1 x2 x3 x4 : Int) (hw : hok (M 1)) (h1 : rI x1 ∧ rI x2 ∧ rI x3 ∧ rI x4) : Met l yX6_ride wsX6_ride ({ frames := 7, cells := 0, slots := 0, locals := 167 }) (va_Pc [.ref (q 0), .int (zI x1), .int (zI x2), .int (zI x3), .int (zI x4)] (eQ (dC, dI) (wTy g) (wMo g q M) tt sz)) (va_Qi (fun r (_ : Unit) => r = zI (ca_ride (M 1) x1 x2 x3 x4)) (fQ (dC, dI) (wTy g) (va_A (wMo g q M) sz) (wMo g q (m_ride M x1 x2 x3 x4))) (va_A (wMo g q M) sz)) 0 0 (va_A (wMo g q M) sz) := by
  refine Met.ofW (cc := cX6_ride) (maxL := 6) (ret := (some .int)) (by decide) rfl ?_
  intro p e s m args below meth c s₁ B hml hv
  obtain ⟨rfl, hsz, hP, hK, hD0, hT⟩ := hv
  have hx := B.exec
  have hb := B.bytes
  have hr := B.returns
  have hts := atoms_spec (ws := wsX6_ride) B.pre
  have hown : s.vm.findClass RX6 = some m.cls := findClass_of_methodNamed B.named
  have hlocks := B.notSynchronized
  subst hsz
  have hD := hD0.self (sz := s.heap.size)
  generalize hAe : va_A (wMo g q M) s.heap.size = A at hD hT ⊢
  have hA : ∀ q : Nat, s.heap.size ≤ q → A q := fun q h => by rw [← hAe]; exact Or.inr h
  have hS : va_S A s.heap s.heap [] := va_S.rf
  have hl := lv_entry ([.ref (q 0), .int (zI x1), .int (zI x2), .int (zI x3), .int (zI x4)]) (n := 6) (Nat.le_of_ble_eq_true rfl)
  rw [lg_entry_eq]
  generalize (lg_sl ([.ref (q 0), .int (zI x1), .int (zI x2), .int (zI x3), .int (zI x4)]) ++ List.replicate (6 - (lg_sl ([.ref (q 0), .int (zI x1), .int (zI x2), .int (zI x3), .int (zI x4)])).length) Slot.unset).toArray = ls at hl ⊢
  have hl : lv_has ls 6 [(0, .ref (q 0)), (1, .int (zI x1)), (2, .int (zI x2)), (3, .int (zI x3)), (4, .int (zI x4))] := hl
  have hb0 := hw.b
  refine lv_aload_n hx hb dX6_ride_0 rfl (lv_at hl 0 rfl) ?_
  refine lv_iload_n hx hb dX6_ride_1 rfl (lv_at hl 1 rfl) ?_
  refine q_cVi (z := bz (0 ≤ x1 ∧ x1 ≤ M 1 1)) (b := (q 0)) (As := [.int (zI x1)]) (rest := []) ⟨hx, hb, hml, hown, hts⟩ (kX6_isFloor l dC dI g tt q M x1 (hw) (by omega)) (cwV 1 hts gX6_ride_X6_isFloor rfl rfl rfl (by decide +kernel) ⟨Nat.le_of_ble_eq_true rfl, Nat.le_of_ble_eq_true rfl⟩) hP hK hT hS 0 5 rfl rfl rfl rfl hl.1 rfl (Nat.le_of_ble_eq_true rfl) dX6_ride_2 ⟨Nat.le_of_ble_eq_true rfl, Nat.le_of_ble_eq_true rfl⟩ ?_
  refine q_bz_eq (tgt := 34) hx hb dX6_ride_5 (by decide) (fun c_1 => ?_) (fun c_1 => ?_)
  · refine lv_aload_n hx hb dX6_ride_34 rfl (lv_at hl 0 rfl) ?_
    refine q_cEi (z := -2) (b := (q 0)) (As := []) (rest := []) (w1 := wMo g q (mbad M)) ⟨hx, hb, hml, hown, hts⟩ hP hD hK hT hS hA (kX6_bad l dC dI g tt _ q M) (cwV 0 hts gX6_ride_X6_bad rfl rfl rfl (by decide +kernel) ⟨Nat.le_of_ble_eq_true rfl, Nat.le_of_ble_eq_true rfl⟩) 0 5 rfl rfl rfl rfl hl.1 rfl (Nat.le_of_ble_eq_true rfl) dX6_ride_35 ⟨Nat.le_of_ble_eq_true rfl, Nat.le_of_ble_eq_true rfl⟩ (fun H locs hP hD hS => ?_)
    have hPf : va_P (dC, dI) vwCl (wMo g q (m_ride M x1 x2 x3 x4)) H := by rw [(show (m_ride M x1 x2 x3 x4) = mbad M from by unfold m_ride; first | (rw [if_neg (by omega)]; done) | (rw [if_pos (by omega), if_pos (by omega)]; try rfl; done) | (rw [if_pos (by omega), if_neg (by omega), if_pos (by omega)]; try rfl; done) | (rw [if_pos (by omega), if_neg (by omega), if_neg (by omega)]; try rfl; done))]; exact hP
    have hDf : va_D A (wMo g q (m_ride M x1 x2 x3 x4)) := by rw [(show (m_ride M x1 x2 x3 x4) = mbad M from by unfold m_ride; first | (rw [if_neg (by omega)]; done) | (rw [if_pos (by omega), if_pos (by omega)]; try rfl; done) | (rw [if_pos (by omega), if_neg (by omega), if_pos (by omega)]; try rfl; done) | (rw [if_pos (by omega), if_neg (by omega), if_neg (by omega)]; try rfl; done))]; exact hD
    exact W.iret hx hb hr (fun t9 ht9 hW9 => ⟨⟨_, (), rfl, congrArg zI (show -2 = ca_ride (M 1) x1 x2 x3 x4 from by unfold ca_ride; first | (rw [if_neg (by omega)]; done) | ((first | rw [if_pos (by omega), if_pos (by omega)] | rw [if_pos (by omega), if_neg (by omega), if_pos (by omega)] | rw [if_pos (by omega), if_neg (by omega), if_neg (by omega)]); (first | exact ((mr_rd_x (by omega)).1 c_1).symm | exact (mr_rd_x (by omega)).2 c_1))), by rw [ht9]; exact hPf, va_K.moved hW9.alike hK, hDf⟩, hS.F ht9⟩) hS.2.2 dX6_ride_38
  · refine lv_aload_n hx hb dX6_ride_8 rfl (lv_at hl 0 rfl) ?_
    refine lv_iload_n hx hb dX6_ride_9 rfl (lv_at hl 2 rfl) ?_
    refine q_cVi (z := bz (0 ≤ x2 ∧ x2 ≤ M 1 1)) (b := (q 0)) (As := [.int (zI x2)]) (rest := []) ⟨hx, hb, hml, hown, hts⟩ (kX6_isFloor l dC dI g tt q M x2 (hw) (by omega)) (cwV 1 hts gX6_ride_X6_isFloor rfl rfl rfl (by decide +kernel) ⟨Nat.le_of_ble_eq_true rfl, Nat.le_of_ble_eq_true rfl⟩) hP hK hT hS 0 5 rfl rfl rfl rfl hl.1 rfl (Nat.le_of_ble_eq_true rfl) dX6_ride_10 ⟨Nat.le_of_ble_eq_true rfl, Nat.le_of_ble_eq_true rfl⟩ ?_
    refine q_bz_eq (tgt := 34) hx hb dX6_ride_13 (by decide) (fun c_2 => ?_) (fun c_2 => ?_)
    · refine lv_aload_n hx hb dX6_ride_34 rfl (lv_at hl 0 rfl) ?_
      refine q_cEi (z := -2) (b := (q 0)) (As := []) (rest := []) (w1 := wMo g q (mbad M)) ⟨hx, hb, hml, hown, hts⟩ hP hD hK hT hS hA (kX6_bad l dC dI g tt _ q M) (cwV 0 hts gX6_ride_X6_bad rfl rfl rfl (by decide +kernel) ⟨Nat.le_of_ble_eq_true rfl, Nat.le_of_ble_eq_true rfl⟩) 0 5 rfl rfl rfl rfl hl.1 rfl (Nat.le_of_ble_eq_true rfl) dX6_ride_35 ⟨Nat.le_of_ble_eq_true rfl, Nat.le_of_ble_eq_true rfl⟩ (fun H locs hP hD hS => ?_)
      have hPf : va_P (dC, dI) vwCl (wMo g q (m_ride M x1 x2 x3 x4)) H := by rw [(show (m_ride M x1 x2 x3 x4) = mbad M from by unfold m_ride; first | (rw [if_neg (by omega)]; done) | (rw [if_pos (by omega), if_pos (by omega)]; try rfl; done) | (rw [if_pos (by omega), if_neg (by omega), if_pos (by omega)]; try rfl; done) | (rw [if_pos (by omega), if_neg (by omega), if_neg (by omega)]; try rfl; done))]; exact hP
      have hDf : va_D A (wMo g q (m_ride M x1 x2 x3 x4)) := by rw [(show (m_ride M x1 x2 x3 x4) = mbad M from by unfold m_ride; first | (rw [if_neg (by omega)]; done) | (rw [if_pos (by omega), if_pos (by omega)]; try rfl; done) | (rw [if_pos (by omega), if_neg (by omega), if_pos (by omega)]; try rfl; done) | (rw [if_pos (by omega), if_neg (by omega), if_neg (by omega)]; try rfl; done))]; exact hD
      exact W.iret hx hb hr (fun t9 ht9 hW9 => ⟨⟨_, (), rfl, congrArg zI (show -2 = ca_ride (M 1) x1 x2 x3 x4 from by unfold ca_ride; first | (rw [if_neg (by omega)]; done) | ((first | rw [if_pos (by omega), if_pos (by omega)] | rw [if_pos (by omega), if_neg (by omega), if_pos (by omega)] | rw [if_pos (by omega), if_neg (by omega), if_neg (by omega)]); (first | exact ((mr_rd_x (by omega)).1 c_2).symm | exact (mr_rd_x (by omega)).2 c_2))), by rw [ht9]; exact hPf, va_K.moved hW9.alike hK, hDf⟩, hS.F ht9⟩) hS.2.2 dX6_ride_38
    · refine lv_iload_n hx hb dX6_ride_16 rfl (lv_at hl 3 rfl) ?_
      refine q_cSi (z := bz (0 ≤ x3 ∧ x3 ≤ 999)) (As := [.int (zI x3)]) (rest := []) ⟨hx, hb, hml, hown, hts⟩ (kX6_isMinute l dC dI g tt x3 (by omega)) (va_cwS 1 hts gX6_ride_X6_isMinute rfl rfl rfl (by decide +kernel) ⟨Nat.le_of_ble_eq_true rfl, Nat.le_of_ble_eq_true rfl⟩) (hP.sub (ws' := []) [] rfl) hK hT hS rfl hl.1 rfl (Nat.le_of_ble_eq_true rfl) dX6_ride_17 ⟨Nat.le_of_ble_eq_true rfl, Nat.le_of_ble_eq_true rfl⟩ ?_
      refine q_bz_eq (tgt := 34) hx hb dX6_ride_20 (by decide) (fun c_3 => ?_) (fun c_3 => ?_)
      · refine lv_aload_n hx hb dX6_ride_34 rfl (lv_at hl 0 rfl) ?_
        refine q_cEi (z := -2) (b := (q 0)) (As := []) (rest := []) (w1 := wMo g q (mbad M)) ⟨hx, hb, hml, hown, hts⟩ hP hD hK hT hS hA (kX6_bad l dC dI g tt _ q M) (cwV 0 hts gX6_ride_X6_bad rfl rfl rfl (by decide +kernel) ⟨Nat.le_of_ble_eq_true rfl, Nat.le_of_ble_eq_true rfl⟩) 0 5 rfl rfl rfl rfl hl.1 rfl (Nat.le_of_ble_eq_true rfl) dX6_ride_35 ⟨Nat.le_of_ble_eq_true rfl, Nat.le_of_ble_eq_true rfl⟩ (fun H locs hP hD hS => ?_)
        have hPf : va_P (dC, dI) vwCl (wMo g q (m_ride M x1 x2 x3 x4)) H := by rw [(show (m_ride M x1 x2 x3 x4) = mbad M from by unfold m_ride; first | (rw [if_neg (by omega)]; done) | (rw [if_pos (by omega), if_pos (by omega)]; try rfl; done) | (rw [if_pos (by omega), if_neg (by omega), if_pos (by omega)]; try rfl; done) | (rw [if_pos (by omega), if_neg (by omega), if_neg (by omega)]; try rfl; done))]; exact hP
        have hDf : va_D A (wMo g q (m_ride M x1 x2 x3 x4)) := by rw [(show (m_ride M x1 x2 x3 x4) = mbad M from by unfold m_ride; first | (rw [if_neg (by omega)]; done) | (rw [if_pos (by omega), if_pos (by omega)]; try rfl; done) | (rw [if_pos (by omega), if_neg (by omega), if_pos (by omega)]; try rfl; done) | (rw [if_pos (by omega), if_neg (by omega), if_neg (by omega)]; try rfl; done))]; exact hD
        exact W.iret hx hb hr (fun t9 ht9 hW9 => ⟨⟨_, (), rfl, congrArg zI (show -2 = ca_ride (M 1) x1 x2 x3 x4 from by unfold ca_ride; first | (rw [if_neg (by omega)]; done) | ((first | rw [if_pos (by omega), if_pos (by omega)] | rw [if_pos (by omega), if_neg (by omega), if_pos (by omega)] | rw [if_pos (by omega), if_neg (by omega), if_neg (by omega)]); (first | exact ((mr_rd_x (by omega)).1 c_3).symm | exact (mr_rd_x (by omega)).2 c_3))), by rw [ht9]; exact hPf, va_K.moved hW9.alike hK, hDf⟩, hS.F ht9⟩) hS.2.2 dX6_ride_38
      · refine lv_iload hx hb dX6_ride_23 (lv_at hl 4 rfl) ?_
        refine q_i2l hx hb dX6_ride_25 (by omega) ?_
        refine q_lconst hx hb 0 dX6_ride_26 rfl ?_
        refine q_lconst hx hb 1 dX6_ride_27 rfl ?_
        refine q_cSi (z := bz (0 ≤ x4 ∧ x4 ≤ 1)) (As := [.long (zL x4), .long (zL 0), .long (zL 1)]) (rest := []) ⟨hx, hb, hml, hown, hts⟩ (kX6_in l dC dI g tt x4 0 1 (by omega)) (va_cwS 3 hts gX6_ride_X6_in rfl rfl rfl (by decide +kernel) ⟨Nat.le_of_ble_eq_true rfl, Nat.le_of_ble_eq_true rfl⟩) (hP.sub (ws' := []) [] rfl) hK hT hS rfl hl.1 rfl (Nat.le_of_ble_eq_true rfl) dX6_ride_28 ⟨Nat.le_of_ble_eq_true rfl, Nat.le_of_ble_eq_true rfl⟩ ?_
        refine q_bz_ne (tgt := 39) hx hb dX6_ride_31 (by decide) (fun c_4 => ?_) (fun c_4 => ?_)
        · refine lv_aload_n hx hb dX6_ride_39 rfl (lv_at hl 0 rfl) ?_
          refine lv_iload_n hx hb dX6_ride_40 rfl (lv_at hl 1 rfl) ?_
          refine lv_iload_n hx hb dX6_ride_41 rfl (lv_at hl 2 rfl) ?_
          refine lv_iload_n hx hb dX6_ride_42 rfl (lv_at hl 3 rfl) ?_
          refine lv_iload hx hb dX6_ride_43 (lv_at hl 4 rfl) ?_
          refine q_if_ne (tgt := 52) hx hb dX6_ride_45 (by decide) (by omega) (fun c_5 => ?_) (fun c_5 => ?_)
          · refine lv_iload_n hx hb dX6_ride_52 rfl (lv_at hl 2 rfl) ?_
            refine lv_iload_n hx hb dX6_ride_53 rfl (lv_at hl 1 rfl) ?_
            refine q_icmp_le (tgt := 61) hx hb dX6_ride_54 (by decide) (by omega) (fun c_6 => ?_) (fun c_6 => ?_)
            · refine q_iconst hx hb dX6_ride_61 ?_
              refine q_cEi (z := mr_rd (M 1) x1 x2 x3 (wyy 0)) (b := (q 0)) (As := [.int (zI x1), .int (zI x2), .int (zI x3), .int (zI 0)]) (rest := []) (w1 := wMo g q (rdM M x1 x2 x3 (wyy 0))) ⟨hx, hb, hml, hown, hts⟩ hP hD hK hT hS hA (kX6_rides l dC dI g tt _ q M x1 x2 x3 0 (hw) (by omega) (by omega) (by omega) (by omega)) (cwV 4 hts gX6_ride_X6_rides rfl rfl rfl (by decide +kernel) ⟨Nat.le_of_ble_eq_true rfl, Nat.le_of_ble_eq_true rfl⟩) 0 5 rfl rfl rfl rfl hl.1 rfl (Nat.le_of_ble_eq_true rfl) dX6_ride_62 ⟨Nat.le_of_ble_eq_true rfl, Nat.le_of_ble_eq_true rfl⟩ (fun H locs hP hD hS => ?_)
              have := mr_rd_r (w := M 1) (f := x1) (t := x2) (m := x3) (y := wyy 0) (by omega)
              refine lv_istore (lv' := [(5, .int (zI (mr_rd (M 1) x1 x2 x3 (wyy 0)))), (0, .ref (q 0)), (1, .int (zI x1)), (2, .int (zI x2)), (3, .int (zI x3)), (4, .int (zI x4))]) hx hb dX6_ride_65 hl (by decide) rfl (fun ls hl => ?_)
              refine lv_iload hx hb dX6_ride_67 (lv_at hl 0 rfl) ?_
              refine q_iconst hx hb dX6_ride_69 ?_
              refine q_icmp_ne (tgt := 77) hx hb dX6_ride_70 (by decide) (by omega) (fun c_7 => ?_) (fun c_7 => ?_)
              · refine lv_iload hx hb dX6_ride_77 (lv_at hl 0 rfl) ?_
                refine lv_iload_n hx hb dX6_ride_79 rfl (lv_at hl 4 rfl) ?_
                refine q_isub hx hb dX6_ride_80 ?_
                have hPf : va_P (dC, dI) vwCl (wMo g q (m_ride M x1 x2 x3 x4)) H := by rw [(show (m_ride M x1 x2 x3 x4) = rdM M x1 x2 x3 (wyy 0) from by unfold m_ride; first | (rw [if_neg (by omega)]; done) | (rw [if_pos (by omega), if_pos (by omega)]; try rfl; done) | (rw [if_pos (by omega), if_neg (by omega), if_pos (by omega)]; try rfl; done) | (rw [if_pos (by omega), if_neg (by omega), if_neg (by omega)]; try rfl; done))]; exact hP
                have hDf : va_D A (wMo g q (m_ride M x1 x2 x3 x4)) := by rw [(show (m_ride M x1 x2 x3 x4) = rdM M x1 x2 x3 (wyy 0) from by unfold m_ride; first | (rw [if_neg (by omega)]; done) | (rw [if_pos (by omega), if_pos (by omega)]; try rfl; done) | (rw [if_pos (by omega), if_neg (by omega), if_pos (by omega)]; try rfl; done) | (rw [if_pos (by omega), if_neg (by omega), if_neg (by omega)]; try rfl; done))]; exact hD
                exact W.iret hx hb hr (fun t9 ht9 hW9 => ⟨⟨_, (), rfl, congrArg zI (show (mr_rd (M 1) x1 x2 x3 (wyy 0)) - x3 = ca_ride (M 1) x1 x2 x3 x4 from by unfold ca_ride; first | (rw [if_neg (by omega)]; done) | ((first | rw [if_pos (by omega), if_pos (by omega)] | rw [if_pos (by omega), if_neg (by omega), if_pos (by omega)] | rw [if_pos (by omega), if_neg (by omega), if_neg (by omega)]); (first | exact ((mr_rd_x (by omega)).1 c_7).symm | exact (mr_rd_x (by omega)).2 c_7))), by rw [ht9]; exact hPf, va_K.moved hW9.alike hK, hDf⟩, hS.F ht9⟩) hS.2.2 dX6_ride_81
              · refine q_iconst hx hb dX6_ride_73 ?_
                refine lv_goto (tgt := 81) hx hb dX6_ride_74 (by decide) ?_
                have hPf : va_P (dC, dI) vwCl (wMo g q (m_ride M x1 x2 x3 x4)) H := by rw [(show (m_ride M x1 x2 x3 x4) = rdM M x1 x2 x3 (wyy 0) from by unfold m_ride; first | (rw [if_neg (by omega)]; done) | (rw [if_pos (by omega), if_pos (by omega)]; try rfl; done) | (rw [if_pos (by omega), if_neg (by omega), if_pos (by omega)]; try rfl; done) | (rw [if_pos (by omega), if_neg (by omega), if_neg (by omega)]; try rfl; done))]; exact hP
                have hDf : va_D A (wMo g q (m_ride M x1 x2 x3 x4)) := by rw [(show (m_ride M x1 x2 x3 x4) = rdM M x1 x2 x3 (wyy 0) from by unfold m_ride; first | (rw [if_neg (by omega)]; done) | (rw [if_pos (by omega), if_pos (by omega)]; try rfl; done) | (rw [if_pos (by omega), if_neg (by omega), if_pos (by omega)]; try rfl; done) | (rw [if_pos (by omega), if_neg (by omega), if_neg (by omega)]; try rfl; done))]; exact hD
                exact W.iret hx hb hr (fun t9 ht9 hW9 => ⟨⟨_, (), rfl, congrArg zI (show (-1) = ca_ride (M 1) x1 x2 x3 x4 from by unfold ca_ride; first | (rw [if_neg (by omega)]; done) | ((first | rw [if_pos (by omega), if_pos (by omega)] | rw [if_pos (by omega), if_neg (by omega), if_pos (by omega)] | rw [if_pos (by omega), if_neg (by omega), if_neg (by omega)]); (first | exact ((mr_rd_x (by omega)).1 c_7).symm | exact (mr_rd_x (by omega)).2 c_7))), by rw [ht9]; exact hPf, va_K.moved hW9.alike hK, hDf⟩, hS.F ht9⟩) hS.2.2 dX6_ride_81
            · refine q_iconst hx hb dX6_ride_57 ?_
              refine lv_goto (tgt := 62) hx hb dX6_ride_58 (by decide) ?_
              refine q_cEi (z := mr_rd (M 1) x1 x2 x3 (wyy 1)) (b := (q 0)) (As := [.int (zI x1), .int (zI x2), .int (zI x3), .int (zI 1)]) (rest := []) (w1 := wMo g q (rdM M x1 x2 x3 (wyy 1))) ⟨hx, hb, hml, hown, hts⟩ hP hD hK hT hS hA (kX6_rides l dC dI g tt _ q M x1 x2 x3 1 (hw) (by omega) (by omega) (by omega) (by omega)) (cwV 4 hts gX6_ride_X6_rides rfl rfl rfl (by decide +kernel) ⟨Nat.le_of_ble_eq_true rfl, Nat.le_of_ble_eq_true rfl⟩) 0 5 rfl rfl rfl rfl hl.1 rfl (Nat.le_of_ble_eq_true rfl) dX6_ride_62 ⟨Nat.le_of_ble_eq_true rfl, Nat.le_of_ble_eq_true rfl⟩ (fun H locs hP hD hS => ?_)
              have := mr_rd_r (w := M 1) (f := x1) (t := x2) (m := x3) (y := wyy 1) (by omega)
              refine lv_istore (lv' := [(5, .int (zI (mr_rd (M 1) x1 x2 x3 (wyy 1)))), (0, .ref (q 0)), (1, .int (zI x1)), (2, .int (zI x2)), (3, .int (zI x3)), (4, .int (zI x4))]) hx hb dX6_ride_65 hl (by decide) rfl (fun ls hl => ?_)
              refine lv_iload hx hb dX6_ride_67 (lv_at hl 0 rfl) ?_
              refine q_iconst hx hb dX6_ride_69 ?_
              refine q_icmp_ne (tgt := 77) hx hb dX6_ride_70 (by decide) (by omega) (fun c_8 => ?_) (fun c_8 => ?_)
              · refine lv_iload hx hb dX6_ride_77 (lv_at hl 0 rfl) ?_
                refine lv_iload_n hx hb dX6_ride_79 rfl (lv_at hl 4 rfl) ?_
                refine q_isub hx hb dX6_ride_80 ?_
                have hPf : va_P (dC, dI) vwCl (wMo g q (m_ride M x1 x2 x3 x4)) H := by rw [(show (m_ride M x1 x2 x3 x4) = rdM M x1 x2 x3 (wyy 1) from by unfold m_ride; first | (rw [if_neg (by omega)]; done) | (rw [if_pos (by omega), if_pos (by omega)]; try rfl; done) | (rw [if_pos (by omega), if_neg (by omega), if_pos (by omega)]; try rfl; done) | (rw [if_pos (by omega), if_neg (by omega), if_neg (by omega)]; try rfl; done))]; exact hP
                have hDf : va_D A (wMo g q (m_ride M x1 x2 x3 x4)) := by rw [(show (m_ride M x1 x2 x3 x4) = rdM M x1 x2 x3 (wyy 1) from by unfold m_ride; first | (rw [if_neg (by omega)]; done) | (rw [if_pos (by omega), if_pos (by omega)]; try rfl; done) | (rw [if_pos (by omega), if_neg (by omega), if_pos (by omega)]; try rfl; done) | (rw [if_pos (by omega), if_neg (by omega), if_neg (by omega)]; try rfl; done))]; exact hD
                exact W.iret hx hb hr (fun t9 ht9 hW9 => ⟨⟨_, (), rfl, congrArg zI (show (mr_rd (M 1) x1 x2 x3 (wyy 1)) - x3 = ca_ride (M 1) x1 x2 x3 x4 from by unfold ca_ride; first | (rw [if_neg (by omega)]; done) | ((first | rw [if_pos (by omega), if_pos (by omega)] | rw [if_pos (by omega), if_neg (by omega), if_pos (by omega)] | rw [if_pos (by omega), if_neg (by omega), if_neg (by omega)]); (first | exact ((mr_rd_x (by omega)).1 c_8).symm | exact (mr_rd_x (by omega)).2 c_8))), by rw [ht9]; exact hPf, va_K.moved hW9.alike hK, hDf⟩, hS.F ht9⟩) hS.2.2 dX6_ride_81
              · refine q_iconst hx hb dX6_ride_73 ?_
                refine lv_goto (tgt := 81) hx hb dX6_ride_74 (by decide) ?_
                have hPf : va_P (dC, dI) vwCl (wMo g q (m_ride M x1 x2 x3 x4)) H := by rw [(show (m_ride M x1 x2 x3 x4) = rdM M x1 x2 x3 (wyy 1) from by unfold m_ride; first | (rw [if_neg (by omega)]; done) | (rw [if_pos (by omega), if_pos (by omega)]; try rfl; done) | (rw [if_pos (by omega), if_neg (by omega), if_pos (by omega)]; try rfl; done) | (rw [if_pos (by omega), if_neg (by omega), if_neg (by omega)]; try rfl; done))]; exact hP
                have hDf : va_D A (wMo g q (m_ride M x1 x2 x3 x4)) := by rw [(show (m_ride M x1 x2 x3 x4) = rdM M x1 x2 x3 (wyy 1) from by unfold m_ride; first | (rw [if_neg (by omega)]; done) | (rw [if_pos (by omega), if_pos (by omega)]; try rfl; done) | (rw [if_pos (by omega), if_neg (by omega), if_pos (by omega)]; try rfl; done) | (rw [if_pos (by omega), if_neg (by omega), if_neg (by omega)]; try rfl; done))]; exact hD
                exact W.iret hx hb hr (fun t9 ht9 hW9 => ⟨⟨_, (), rfl, congrArg zI (show (-1) = ca_ride (M 1) x1 x2 x3 x4 from by unfold ca_ride; first | (rw [if_neg (by omega)]; done) | ((first | rw [if_pos (by omega), if_pos (by omega)] | rw [if_pos (by omega), if_neg (by omega), if_pos (by omega)] | rw [if_pos (by omega), if_neg (by omega), if_neg (by omega)]); (first | exact ((mr_rd_x (by omega)).1 c_8).symm | exact (mr_rd_x (by omega)).2 c_8))), by rw [ht9]; exact hPf, va_K.moved hW9.alike hK, hDf⟩, hS.F ht9⟩) hS.2.2 dX6_ride_81
          · refine q_iconst hx hb dX6_ride_48 ?_
            refine lv_goto (tgt := 62) hx hb dX6_ride_49 (by decide) ?_
            refine q_cEi (z := mr_rd (M 1) x1 x2 x3 (wyy 2)) (b := (q 0)) (As := [.int (zI x1), .int (zI x2), .int (zI x3), .int (zI 2)]) (rest := []) (w1 := wMo g q (rdM M x1 x2 x3 (wyy 2))) ⟨hx, hb, hml, hown, hts⟩ hP hD hK hT hS hA (kX6_rides l dC dI g tt _ q M x1 x2 x3 2 (hw) (by omega) (by omega) (by omega) (by omega)) (cwV 4 hts gX6_ride_X6_rides rfl rfl rfl (by decide +kernel) ⟨Nat.le_of_ble_eq_true rfl, Nat.le_of_ble_eq_true rfl⟩) 0 5 rfl rfl rfl rfl hl.1 rfl (Nat.le_of_ble_eq_true rfl) dX6_ride_62 ⟨Nat.le_of_ble_eq_true rfl, Nat.le_of_ble_eq_true rfl⟩ (fun H locs hP hD hS => ?_)
            have := mr_rd_r (w := M 1) (f := x1) (t := x2) (m := x3) (y := wyy 2) (by omega)
            refine lv_istore (lv' := [(5, .int (zI (mr_rd (M 1) x1 x2 x3 (wyy 2)))), (0, .ref (q 0)), (1, .int (zI x1)), (2, .int (zI x2)), (3, .int (zI x3)), (4, .int (zI x4))]) hx hb dX6_ride_65 hl (by decide) rfl (fun ls hl => ?_)
            refine lv_iload hx hb dX6_ride_67 (lv_at hl 0 rfl) ?_
            refine q_iconst hx hb dX6_ride_69 ?_
            refine q_icmp_ne (tgt := 77) hx hb dX6_ride_70 (by decide) (by omega) (fun c_9 => ?_) (fun c_9 => ?_)
            · refine lv_iload hx hb dX6_ride_77 (lv_at hl 0 rfl) ?_
              refine lv_iload_n hx hb dX6_ride_79 rfl (lv_at hl 4 rfl) ?_
              refine q_isub hx hb dX6_ride_80 ?_
              have hPf : va_P (dC, dI) vwCl (wMo g q (m_ride M x1 x2 x3 x4)) H := by rw [(show (m_ride M x1 x2 x3 x4) = rdM M x1 x2 x3 (wyy 2) from by unfold m_ride; first | (rw [if_neg (by omega)]; done) | (rw [if_pos (by omega), if_pos (by omega)]; try rfl; done) | (rw [if_pos (by omega), if_neg (by omega), if_pos (by omega)]; try rfl; done) | (rw [if_pos (by omega), if_neg (by omega), if_neg (by omega)]; try rfl; done))]; exact hP
              have hDf : va_D A (wMo g q (m_ride M x1 x2 x3 x4)) := by rw [(show (m_ride M x1 x2 x3 x4) = rdM M x1 x2 x3 (wyy 2) from by unfold m_ride; first | (rw [if_neg (by omega)]; done) | (rw [if_pos (by omega), if_pos (by omega)]; try rfl; done) | (rw [if_pos (by omega), if_neg (by omega), if_pos (by omega)]; try rfl; done) | (rw [if_pos (by omega), if_neg (by omega), if_neg (by omega)]; try rfl; done))]; exact hD
              exact W.iret hx hb hr (fun t9 ht9 hW9 => ⟨⟨_, (), rfl, congrArg zI (show (mr_rd (M 1) x1 x2 x3 (wyy 2)) - x3 = ca_ride (M 1) x1 x2 x3 x4 from by unfold ca_ride; first | (rw [if_neg (by omega)]; done) | ((first | rw [if_pos (by omega), if_pos (by omega)] | rw [if_pos (by omega), if_neg (by omega), if_pos (by omega)] | rw [if_pos (by omega), if_neg (by omega), if_neg (by omega)]); (first | exact ((mr_rd_x (by omega)).1 c_9).symm | exact (mr_rd_x (by omega)).2 c_9))), by rw [ht9]; exact hPf, va_K.moved hW9.alike hK, hDf⟩, hS.F ht9⟩) hS.2.2 dX6_ride_81
            · refine q_iconst hx hb dX6_ride_73 ?_
              refine lv_goto (tgt := 81) hx hb dX6_ride_74 (by decide) ?_
              have hPf : va_P (dC, dI) vwCl (wMo g q (m_ride M x1 x2 x3 x4)) H := by rw [(show (m_ride M x1 x2 x3 x4) = rdM M x1 x2 x3 (wyy 2) from by unfold m_ride; first | (rw [if_neg (by omega)]; done) | (rw [if_pos (by omega), if_pos (by omega)]; try rfl; done) | (rw [if_pos (by omega), if_neg (by omega), if_pos (by omega)]; try rfl; done) | (rw [if_pos (by omega), if_neg (by omega), if_neg (by omega)]; try rfl; done))]; exact hP
              have hDf : va_D A (wMo g q (m_ride M x1 x2 x3 x4)) := by rw [(show (m_ride M x1 x2 x3 x4) = rdM M x1 x2 x3 (wyy 2) from by unfold m_ride; first | (rw [if_neg (by omega)]; done) | (rw [if_pos (by omega), if_pos (by omega)]; try rfl; done) | (rw [if_pos (by omega), if_neg (by omega), if_pos (by omega)]; try rfl; done) | (rw [if_pos (by omega), if_neg (by omega), if_neg (by omega)]; try rfl; done))]; exact hD
              exact W.iret hx hb hr (fun t9 ht9 hW9 => ⟨⟨_, (), rfl, congrArg zI (show (-1) = ca_ride (M 1) x1 x2 x3 x4 from by unfold ca_ride; first | (rw [if_neg (by omega)]; done) | ((first | rw [if_pos (by omega), if_pos (by omega)] | rw [if_pos (by omega), if_neg (by omega), if_pos (by omega)] | rw [if_pos (by omega), if_neg (by omega), if_neg (by omega)]); (first | exact ((mr_rd_x (by omega)).1 c_9).symm | exact (mr_rd_x (by omega)).2 c_9))), by rw [ht9]; exact hPf, va_K.moved hW9.alike hK, hDf⟩, hS.F ht9⟩) hS.2.2 dX6_ride_81
        · refine lv_aload_n hx hb dX6_ride_34 rfl (lv_at hl 0 rfl) ?_
          refine q_cEi (z := -2) (b := (q 0)) (As := []) (rest := []) (w1 := wMo g q (mbad M)) ⟨hx, hb, hml, hown, hts⟩ hP hD hK hT hS hA (kX6_bad l dC dI g tt _ q M) (cwV 0 hts gX6_ride_X6_bad rfl rfl rfl (by decide +kernel) ⟨Nat.le_of_ble_eq_true rfl, Nat.le_of_ble_eq_true rfl⟩) 0 5 rfl rfl rfl rfl hl.1 rfl (Nat.le_of_ble_eq_true rfl) dX6_ride_35 ⟨Nat.le_of_ble_eq_true rfl, Nat.le_of_ble_eq_true rfl⟩ (fun H locs hP hD hS => ?_)
          have hPf : va_P (dC, dI) vwCl (wMo g q (m_ride M x1 x2 x3 x4)) H := by rw [(show (m_ride M x1 x2 x3 x4) = mbad M from by unfold m_ride; first | (rw [if_neg (by omega)]; done) | (rw [if_pos (by omega), if_pos (by omega)]; try rfl; done) | (rw [if_pos (by omega), if_neg (by omega), if_pos (by omega)]; try rfl; done) | (rw [if_pos (by omega), if_neg (by omega), if_neg (by omega)]; try rfl; done))]; exact hP
          have hDf : va_D A (wMo g q (m_ride M x1 x2 x3 x4)) := by rw [(show (m_ride M x1 x2 x3 x4) = mbad M from by unfold m_ride; first | (rw [if_neg (by omega)]; done) | (rw [if_pos (by omega), if_pos (by omega)]; try rfl; done) | (rw [if_pos (by omega), if_neg (by omega), if_pos (by omega)]; try rfl; done) | (rw [if_pos (by omega), if_neg (by omega), if_neg (by omega)]; try rfl; done))]; exact hD
          exact W.iret hx hb hr (fun t9 ht9 hW9 => ⟨⟨_, (), rfl, congrArg zI (show -2 = ca_ride (M 1) x1 x2 x3 x4 from by unfold ca_ride; first | (rw [if_neg (by omega)]; done) | ((first | rw [if_pos (by omega), if_pos (by omega)] | rw [if_pos (by omega), if_neg (by omega), if_pos (by omega)] | rw [if_pos (by omega), if_neg (by omega), if_neg (by omega)]); (first | exact ((mr_rd_x (by omega)).1 c_4).symm | exact (mr_rd_x (by omega)).2 c_4))), by rw [ht9]; exact hPf, va_K.moved hW9.alike hK, hDf⟩, hS.F ht9⟩) hS.2.2 dX6_ride_38
set_option maxHeartbeats 4000000 in
set_option maxRecDepth 100000 in
theorem kX6_walk (l : Launch) (dC : Nat → ClassId) (dI : Nat → Nat → Nat) (g : Nat → ClassId) (tt : Nat → Nat) (sz : Nat) (q : Nat → Nat) (M : Nat → Int → Int) (x1 x2 x3 x4 : Int) (hw : hok (M 1)) (h1 : rI x1 ∧ rI x2 ∧ rI x3 ∧ rI x4) : Met l yX6_walk wsX6_walk ({ frames := 7, cells := 0, slots := 0, locals := 167 }) (va_Pc [.ref (q 0), .int (zI x1), .int (zI x2), .int (zI x3), .int (zI x4)] (eQ (dC, dI) (wTy g) (wMo g q M) tt sz)) (va_Qi (fun r (_ : Unit) => r = zI (ma_walk (M 1) x1 x2 x3 x4)) (fQ (dC, dI) (wTy g) (va_A (wMo g q M) sz) (wMo g q (m_walk M x1 x2 x3 x4))) (va_A (wMo g q M) sz)) 0 0 (va_A (wMo g q M) sz) := by
  refine Met.ofW (cc := cX6_walk) (maxL := 12) (ret := (some .int)) (by decide) rfl ?_
  intro p e s m args below meth c s₁ B hml hv
  obtain ⟨rfl, hsz, hP, hK, hD0, hT⟩ := hv
  have hx := B.exec
  have hb := B.bytes
  have hr := B.returns
  have hts := atoms_spec (ws := wsX6_walk) B.pre
  have hown : s.vm.findClass RX6 = some m.cls := findClass_of_methodNamed B.named
  have hlocks := B.notSynchronized
  subst hsz
  have hD := hD0.self (sz := s.heap.size)
  generalize hAe : va_A (wMo g q M) s.heap.size = A at hD hT ⊢
  have hA : ∀ q : Nat, s.heap.size ≤ q → A q := fun q h => by rw [← hAe]; exact Or.inr h
  have hS : va_S A s.heap s.heap [] := va_S.rf
  have hl := lv_entry ([.ref (q 0), .int (zI x1), .int (zI x2), .int (zI x3), .int (zI x4)]) (n := 12) (Nat.le_of_ble_eq_true rfl)
  rw [lg_entry_eq]
  generalize (lg_sl ([.ref (q 0), .int (zI x1), .int (zI x2), .int (zI x3), .int (zI x4)]) ++ List.replicate (12 - (lg_sl ([.ref (q 0), .int (zI x1), .int (zI x2), .int (zI x3), .int (zI x4)])).length) Slot.unset).toArray = ls at hl ⊢
  have hl : lv_has ls 12 [(0, .ref (q 0)), (1, .int (zI x1)), (2, .int (zI x2)), (3, .int (zI x3)), (4, .int (zI x4))] := hl
  have kc187 := hts (.constant RX6 187 (1000000)) (by decide +kernel)
  have kf7 := hts (.fieldLink RX6 7 "WrongWayModel" "w" "[I") (by decide +kernel)
  have iX6 := (fun w h => List.mem_cons_of_mem _ (List.mem_append_right _ h) : ∀ w ∈ u_ws RX6 TX6 15, w ∈ wsX6_walk)
  have hb0 := hw.b
  refine lv_aload_n hx hb dX6_walk_0 rfl (lv_at hl 0 rfl) ?_
  refine lv_iload_n hx hb dX6_walk_1 rfl (lv_at hl 1 rfl) ?_
  refine q_cVi (z := bz (0 ≤ x1 ∧ x1 ≤ M 1 1)) (b := (q 0)) (As := [.int (zI x1)]) (rest := []) ⟨hx, hb, hml, hown, hts⟩ (kX6_isFloor l dC dI g tt q M x1 (hw) (by omega)) (cwV 1 hts gX6_walk_X6_isFloor rfl rfl rfl (by decide +kernel) ⟨Nat.le_of_ble_eq_true rfl, Nat.le_of_ble_eq_true rfl⟩) hP hK hT hS 0 5 rfl rfl rfl rfl hl.1 rfl (Nat.le_of_ble_eq_true rfl) dX6_walk_2 ⟨Nat.le_of_ble_eq_true rfl, Nat.le_of_ble_eq_true rfl⟩ ?_
  refine q_bz_eq (tgt := 34) hx hb dX6_walk_5 (by decide) (fun c_1 => ?_) (fun c_1 => ?_)
  · refine lv_aload_n hx hb dX6_walk_34 rfl (lv_at hl 0 rfl) ?_
    refine q_cEi (z := -2) (b := (q 0)) (As := []) (rest := []) (w1 := wMo g q (mbad M)) ⟨hx, hb, hml, hown, hts⟩ hP hD hK hT hS hA (kX6_bad l dC dI g tt _ q M) (cwV 0 hts gX6_walk_X6_bad rfl rfl rfl (by decide +kernel) ⟨Nat.le_of_ble_eq_true rfl, Nat.le_of_ble_eq_true rfl⟩) 0 5 rfl rfl rfl rfl hl.1 rfl (Nat.le_of_ble_eq_true rfl) dX6_walk_35 ⟨Nat.le_of_ble_eq_true rfl, Nat.le_of_ble_eq_true rfl⟩ (fun H locs hP hD hS => ?_)
    have hPf : va_P (dC, dI) vwCl (wMo g q (m_walk M x1 x2 x3 x4)) H := by rw [(show (m_walk M x1 x2 x3 x4) = mbad M from by unfold m_walk; first | (rw [if_neg (by omega)]; done) | (rw [if_pos (by omega), show M 1 1 + 1 = k by omega]; done))]; exact hP
    have hDf : va_D A (wMo g q (m_walk M x1 x2 x3 x4)) := by rw [(show (m_walk M x1 x2 x3 x4) = mbad M from by unfold m_walk; first | (rw [if_neg (by omega)]; done) | (rw [if_pos (by omega), show M 1 1 + 1 = k by omega]; done))]; exact hD
    exact W.iret hx hb hr (fun t9 ht9 hW9 => ⟨⟨_, (), rfl, congrArg zI (show -2 = ma_walk (M 1) x1 x2 x3 x4 from by unfold ma_walk; first | (rw [if_neg (by omega)]; done) | (rw [if_pos (by omega), if_pos (by omega), show M 1 1 + 1 = k by omega, ← hs]; done) | (rw [if_pos (by omega), if_neg (by omega), show M 1 1 + 1 = k by omega, ← hs]; done)), by rw [ht9]; exact hPf, va_K.moved hW9.alike hK, hDf⟩, hS.F ht9⟩) hS.2.2 dX6_walk_38
  · refine lv_aload_n hx hb dX6_walk_8 rfl (lv_at hl 0 rfl) ?_
    refine lv_iload_n hx hb dX6_walk_9 rfl (lv_at hl 2 rfl) ?_
    refine q_cVi (z := bz (0 ≤ x2 ∧ x2 ≤ M 1 1)) (b := (q 0)) (As := [.int (zI x2)]) (rest := []) ⟨hx, hb, hml, hown, hts⟩ (kX6_isFloor l dC dI g tt q M x2 (hw) (by omega)) (cwV 1 hts gX6_walk_X6_isFloor rfl rfl rfl (by decide +kernel) ⟨Nat.le_of_ble_eq_true rfl, Nat.le_of_ble_eq_true rfl⟩) hP hK hT hS 0 5 rfl rfl rfl rfl hl.1 rfl (Nat.le_of_ble_eq_true rfl) dX6_walk_10 ⟨Nat.le_of_ble_eq_true rfl, Nat.le_of_ble_eq_true rfl⟩ ?_
    refine q_bz_eq (tgt := 34) hx hb dX6_walk_13 (by decide) (fun c_2 => ?_) (fun c_2 => ?_)
    · refine lv_aload_n hx hb dX6_walk_34 rfl (lv_at hl 0 rfl) ?_
      refine q_cEi (z := -2) (b := (q 0)) (As := []) (rest := []) (w1 := wMo g q (mbad M)) ⟨hx, hb, hml, hown, hts⟩ hP hD hK hT hS hA (kX6_bad l dC dI g tt _ q M) (cwV 0 hts gX6_walk_X6_bad rfl rfl rfl (by decide +kernel) ⟨Nat.le_of_ble_eq_true rfl, Nat.le_of_ble_eq_true rfl⟩) 0 5 rfl rfl rfl rfl hl.1 rfl (Nat.le_of_ble_eq_true rfl) dX6_walk_35 ⟨Nat.le_of_ble_eq_true rfl, Nat.le_of_ble_eq_true rfl⟩ (fun H locs hP hD hS => ?_)
      have hPf : va_P (dC, dI) vwCl (wMo g q (m_walk M x1 x2 x3 x4)) H := by rw [(show (m_walk M x1 x2 x3 x4) = mbad M from by unfold m_walk; first | (rw [if_neg (by omega)]; done) | (rw [if_pos (by omega), show M 1 1 + 1 = k by omega]; done))]; exact hP
      have hDf : va_D A (wMo g q (m_walk M x1 x2 x3 x4)) := by rw [(show (m_walk M x1 x2 x3 x4) = mbad M from by unfold m_walk; first | (rw [if_neg (by omega)]; done) | (rw [if_pos (by omega), show M 1 1 + 1 = k by omega]; done))]; exact hD
      exact W.iret hx hb hr (fun t9 ht9 hW9 => ⟨⟨_, (), rfl, congrArg zI (show -2 = ma_walk (M 1) x1 x2 x3 x4 from by unfold ma_walk; first | (rw [if_neg (by omega)]; done) | (rw [if_pos (by omega), if_pos (by omega), show M 1 1 + 1 = k by omega, ← hs]; done) | (rw [if_pos (by omega), if_neg (by omega), show M 1 1 + 1 = k by omega, ← hs]; done)), by rw [ht9]; exact hPf, va_K.moved hW9.alike hK, hDf⟩, hS.F ht9⟩) hS.2.2 dX6_walk_38
    · refine lv_iload_n hx hb dX6_walk_16 rfl (lv_at hl 3 rfl) ?_
      refine q_cSi (z := bz (0 ≤ x3 ∧ x3 ≤ 999)) (As := [.int (zI x3)]) (rest := []) ⟨hx, hb, hml, hown, hts⟩ (kX6_isMinute l dC dI g tt x3 (by omega)) (va_cwS 1 hts gX6_walk_X6_isMinute rfl rfl rfl (by decide +kernel) ⟨Nat.le_of_ble_eq_true rfl, Nat.le_of_ble_eq_true rfl⟩) (hP.sub (ws' := []) [] rfl) hK hT hS rfl hl.1 rfl (Nat.le_of_ble_eq_true rfl) dX6_walk_17 ⟨Nat.le_of_ble_eq_true rfl, Nat.le_of_ble_eq_true rfl⟩ ?_
      refine q_bz_eq (tgt := 34) hx hb dX6_walk_20 (by decide) (fun c_3 => ?_) (fun c_3 => ?_)
      · refine lv_aload_n hx hb dX6_walk_34 rfl (lv_at hl 0 rfl) ?_
        refine q_cEi (z := -2) (b := (q 0)) (As := []) (rest := []) (w1 := wMo g q (mbad M)) ⟨hx, hb, hml, hown, hts⟩ hP hD hK hT hS hA (kX6_bad l dC dI g tt _ q M) (cwV 0 hts gX6_walk_X6_bad rfl rfl rfl (by decide +kernel) ⟨Nat.le_of_ble_eq_true rfl, Nat.le_of_ble_eq_true rfl⟩) 0 5 rfl rfl rfl rfl hl.1 rfl (Nat.le_of_ble_eq_true rfl) dX6_walk_35 ⟨Nat.le_of_ble_eq_true rfl, Nat.le_of_ble_eq_true rfl⟩ (fun H locs hP hD hS => ?_)
        have hPf : va_P (dC, dI) vwCl (wMo g q (m_walk M x1 x2 x3 x4)) H := by rw [(show (m_walk M x1 x2 x3 x4) = mbad M from by unfold m_walk; first | (rw [if_neg (by omega)]; done) | (rw [if_pos (by omega), show M 1 1 + 1 = k by omega]; done))]; exact hP
        have hDf : va_D A (wMo g q (m_walk M x1 x2 x3 x4)) := by rw [(show (m_walk M x1 x2 x3 x4) = mbad M from by unfold m_walk; first | (rw [if_neg (by omega)]; done) | (rw [if_pos (by omega), show M 1 1 + 1 = k by omega]; done))]; exact hD
        exact W.iret hx hb hr (fun t9 ht9 hW9 => ⟨⟨_, (), rfl, congrArg zI (show -2 = ma_walk (M 1) x1 x2 x3 x4 from by unfold ma_walk; first | (rw [if_neg (by omega)]; done) | (rw [if_pos (by omega), if_pos (by omega), show M 1 1 + 1 = k by omega, ← hs]; done) | (rw [if_pos (by omega), if_neg (by omega), show M 1 1 + 1 = k by omega, ← hs]; done)), by rw [ht9]; exact hPf, va_K.moved hW9.alike hK, hDf⟩, hS.F ht9⟩) hS.2.2 dX6_walk_38
      · refine lv_iload hx hb dX6_walk_23 (lv_at hl 4 rfl) ?_
        refine q_i2l hx hb dX6_walk_25 (by omega) ?_
        refine q_lconst hx hb 0 dX6_walk_26 rfl ?_
        refine q_lconst hx hb 1 dX6_walk_27 rfl ?_
        refine q_cSi (z := bz (0 ≤ x4 ∧ x4 ≤ 1)) (As := [.long (zL x4), .long (zL 0), .long (zL 1)]) (rest := []) ⟨hx, hb, hml, hown, hts⟩ (kX6_in l dC dI g tt x4 0 1 (by omega)) (va_cwS 3 hts gX6_walk_X6_in rfl rfl rfl (by decide +kernel) ⟨Nat.le_of_ble_eq_true rfl, Nat.le_of_ble_eq_true rfl⟩) (hP.sub (ws' := []) [] rfl) hK hT hS rfl hl.1 rfl (Nat.le_of_ble_eq_true rfl) dX6_walk_28 ⟨Nat.le_of_ble_eq_true rfl, Nat.le_of_ble_eq_true rfl⟩ ?_
        refine q_bz_ne (tgt := 39) hx hb dX6_walk_31 (by decide) (fun c_4 => ?_) (fun c_4 => ?_)
        · refine lv_iload_n hx hb dX6_walk_39 rfl (lv_at hl 1 rfl) ?_
          refine lv_istore (lv' := [(5, .int (zI x1)), (0, .ref (q 0)), (1, .int (zI x1)), (2, .int (zI x2)), (3, .int (zI x3)), (4, .int (zI x4))]) hx hb dX6_walk_40 hl (by decide) rfl (fun ls hl => ?_)
          refine q_ldc hx hb 1000000 hown kc187 (by decide) dX6_walk_42 ?_
          refine lv_istore (lv' := [(6, .int (zI 1000000)), (5, .int (zI x1)), (0, .ref (q 0)), (1, .int (zI x1)), (2, .int (zI x2)), (3, .int (zI x3)), (4, .int (zI x4))]) hx hb dX6_walk_44 hl (by decide) rfl (fun ls hl => ?_)
          refine q_ldc hx hb 1000000 hown kc187 (by decide) dX6_walk_46 ?_
          refine lv_istore (lv' := [(7, .int (zI 1000000)), (6, .int (zI 1000000)), (5, .int (zI x1)), (0, .ref (q 0)), (1, .int (zI x1)), (2, .int (zI x2)), (3, .int (zI x3)), (4, .int (zI x4))]) hx hb dX6_walk_48 hl (by decide) rfl (fun ls hl => ?_)
          refine q_iconst hx hb dX6_walk_50 ?_
          refine lv_istore (lv' := [(8, .int (zI 0)), (7, .int (zI 1000000)), (6, .int (zI 1000000)), (5, .int (zI x1)), (0, .ref (q 0)), (1, .int (zI x1)), (2, .int (zI x2)), (3, .int (zI x3)), (4, .int (zI x4))]) hx hb dX6_walk_51 hl (by decide) rfl (fun ls hl => ?_)
          refine w_loopQ (σ := Int × Int × Int × Int) (fun a9 H locs ls => (0 ≤ a9.1 ∧ a9.1 ≤ M 1 1 + 1) ∧ ((a9.2.1, a9.2.2.1, a9.2.2.2) = mwkR (M 1) x1 x2 x3 a9.1) ∧ ((-1 ≤ a9.2.2.1 ∧ a9.2.2.1 ≤ 1000000) ∧ (0 ≤ a9.2.2.2 ∧ a9.2.2.2 ≤ 1000000)) ∧ va_P (dC, dI) vwCl (wMo g q (m78 M (itR (wk78 (M 1) x1 x2 x3) (M 0 7, M 0 8) a9.1))) H ∧ va_D A (wMo g q (m78 M (itR (wk78 (M 1) x1 x2 x3) (M 0 7, M 0 8) a9.1))) ∧ va_S A s.heap H locs ∧ lv_has ls 12 [(0, .ref (q 0)), (1, .int (zI x1)), (2, .int (zI x2)), (3, .int (zI x3)), (4, .int (zI x4)), (5, .int (zI a9.2.1)), (6, .int (zI a9.2.2.1)), (7, .int (zI a9.2.2.2)), (8, .int (zI a9.1))]) (fun a9 => (M 1 1 + 1 - a9.1).toNat) ?_ (0, x1, 1000000, 1000000) ?_
          · rintro ⟨k, bs, sn, le⟩ H locs ls ⟨hk, hs, hbt, hP, hD, hS, hl⟩ ih53
            have hk : 0 ≤ k ∧ k ≤ M 1 1 + 1 := hk
            have hs : (bs, sn, le) = mwkR (M 1) x1 x2 x3 k := hs
            have hbt : (-1 ≤ sn ∧ sn ≤ 1000000) ∧ (0 ≤ le ∧ le ≤ 1000000) := hbt
            have hP : va_P (dC, dI) vwCl (wMo g q (m78 M (itR (wk78 (M 1) x1 x2 x3) (M 0 7, M 0 8) k))) H := hP
            have hD : va_D A (wMo g q (m78 M (itR (wk78 (M 1) x1 x2 x3) (M 0 7, M 0 8) k))) := hD
            have hl : lv_has ls 12 [(0, .ref (q 0)), (1, .int (zI x1)), (2, .int (zI x2)), (3, .int (zI x3)), (4, .int (zI x4)), (5, .int (zI bs)), (6, .int (zI sn)), (7, .int (zI le)), (8, .int (zI k))] := hl
            refine lv_iload hx hb dX6_walk_53 (lv_at hl 8 rfl) ?_
            refine lv_aload_n hx hb dX6_walk_55 rfl (lv_at hl 0 rfl) ?_
            refine va_get (D := (dC, dI)) (ci := 5) (v := .ref (q 1)) (C := RX6) (T := TX6) (N := 15) hx hb hts iX6 hown hK hP 0 rfl rfl 0 (by decide) kf7 (fun _ h9 => h9) rfl dX6_walk_56 ?_
            refine q_iconst hx hb dX6_walk_59 ?_
            refine q_iald (F := fun k9 => (m78 M (itR (wk78 (M 1) x1 x2 x3) (M 0 7, M 0 8) k)) 1 k9) (v := M 1 1) hx hb hK hP 1 0 rfl rfl (by decide) (by omega) (by first | rfl | (show (m78 M (itR (wk78 (M 1) x1 x2 x3) (M 0 7, M 0 8) k)) 1 1 = M 1 1; exact (mset_ne (by omega)).trans rfl) | (show (m78 M (itR (wk78 (M 1) x1 x2 x3) (M 0 7, M 0 8) k)) 1 1 = M 1 1; exact (mset_ne (by omega)).trans ((mset_ne (by omega)).trans rfl)) | (show (m78 M (itR (wk78 (M 1) x1 x2 x3) (M 0 7, M 0 8) k)) 1 1 = M 1 1; simp only [mset]; (repeat' split) <;> first | rfl | omega)) dX6_walk_60 ?_
            refine q_icmp_gt (tgt := 181) hx hb dX6_walk_61 (by decide) (by omega) (fun c_5 => ?_) (fun c_5 => ?_)
            · refine lv_iload hx hb dX6_walk_181 (lv_at hl 4 rfl) ?_
              refine q_if_ne (tgt := 191) hx hb dX6_walk_183 (by decide) (by omega) (fun c_6 => ?_) (fun c_6 => ?_)
              · refine lv_iload hx hb dX6_walk_191 (lv_at hl 6 rfl) ?_
                refine lv_iload_n hx hb dX6_walk_193 rfl (lv_at hl 3 rfl) ?_
                refine q_isub hx hb dX6_walk_194 ?_
                have hPf : va_P (dC, dI) vwCl (wMo g q (m_walk M x1 x2 x3 x4)) H := by rw [(show (m_walk M x1 x2 x3 x4) = m78 M (itR (wk78 (M 1) x1 x2 x3) (M 0 7, M 0 8) k) from by unfold m_walk; first | (rw [if_neg (by omega)]; done) | (rw [if_pos (by omega), show M 1 1 + 1 = k by omega]; done))]; exact hP
                have hDf : va_D A (wMo g q (m_walk M x1 x2 x3 x4)) := by rw [(show (m_walk M x1 x2 x3 x4) = m78 M (itR (wk78 (M 1) x1 x2 x3) (M 0 7, M 0 8) k) from by unfold m_walk; first | (rw [if_neg (by omega)]; done) | (rw [if_pos (by omega), show M 1 1 + 1 = k by omega]; done))]; exact hD
                exact W.iret hx hb hr (fun t9 ht9 hW9 => ⟨⟨_, (), rfl, congrArg zI (show sn - x3 = ma_walk (M 1) x1 x2 x3 x4 from by unfold ma_walk; first | (rw [if_neg (by omega)]; done) | (rw [if_pos (by omega), if_pos (by omega), show M 1 1 + 1 = k by omega, ← hs]; done) | (rw [if_pos (by omega), if_neg (by omega), show M 1 1 + 1 = k by omega, ← hs]; done)), by rw [ht9]; exact hPf, va_K.moved hW9.alike hK, hDf⟩, hS.F ht9⟩) hS.2.2 dX6_walk_195
              · refine lv_iload hx hb dX6_walk_186 (lv_at hl 5 rfl) ?_
                refine lv_goto (tgt := 195) hx hb dX6_walk_188 (by decide) ?_
                have hPf : va_P (dC, dI) vwCl (wMo g q (m_walk M x1 x2 x3 x4)) H := by rw [(show (m_walk M x1 x2 x3 x4) = m78 M (itR (wk78 (M 1) x1 x2 x3) (M 0 7, M 0 8) k) from by unfold m_walk; first | (rw [if_neg (by omega)]; done) | (rw [if_pos (by omega), show M 1 1 + 1 = k by omega]; done))]; exact hP
                have hDf : va_D A (wMo g q (m_walk M x1 x2 x3 x4)) := by rw [(show (m_walk M x1 x2 x3 x4) = m78 M (itR (wk78 (M 1) x1 x2 x3) (M 0 7, M 0 8) k) from by unfold m_walk; first | (rw [if_neg (by omega)]; done) | (rw [if_pos (by omega), show M 1 1 + 1 = k by omega]; done))]; exact hD
                exact W.iret hx hb hr (fun t9 ht9 hW9 => ⟨⟨_, (), rfl, congrArg zI (show bs = ma_walk (M 1) x1 x2 x3 x4 from by unfold ma_walk; first | (rw [if_neg (by omega)]; done) | (rw [if_pos (by omega), if_pos (by omega), show M 1 1 + 1 = k by omega, ← hs]; done) | (rw [if_pos (by omega), if_neg (by omega), show M 1 1 + 1 = k by omega, ← hs]; done)), by rw [ht9]; exact hPf, va_K.moved hW9.alike hK, hDf⟩, hS.F ht9⟩) hS.2.2 dX6_walk_195
            · have ha := absz_r (a := k - x1) (b := 11) (by omega)
              refine q_iconst hx hb dX6_walk_64 ?_
              refine lv_iload hx hb dX6_walk_65 (lv_at hl 8 rfl) ?_
              refine lv_iload_n hx hb dX6_walk_67 rfl (lv_at hl 1 rfl) ?_
              refine q_icmp_ge (tgt := 78) hx hb dX6_walk_68 (by decide) (by omega) (fun c_7 => ?_) (fun c_7 => ?_)
              · refine lv_iload hx hb dX6_walk_78 (lv_at hl 8 rfl) ?_
                refine lv_iload_n hx hb dX6_walk_80 rfl (lv_at hl 1 rfl) ?_
                refine q_isub hx hb dX6_walk_81 ?_
                refine q_imul hx hb dX6_walk_82 ?_
                rw [show 2 * (k - x1) = 2 * absz (k - x1) from by unfold absz; split <;> omega]
                refine lv_istore (lv' := [(9, .int (zI (2 * absz (k - x1)))), (0, .ref (q 0)), (1, .int (zI x1)), (2, .int (zI x2)), (3, .int (zI x3)), (4, .int (zI x4)), (5, .int (zI bs)), (6, .int (zI sn)), (7, .int (zI le)), (8, .int (zI k))]) hx hb dX6_walk_83 hl (by decide) rfl (fun ls hl => ?_)
                refine lv_aload_n hx hb dX6_walk_85 rfl (lv_at hl 1 rfl) ?_
                refine lv_iload hx hb dX6_walk_86 (lv_at hl 9 rfl) ?_
                refine lv_iload_n hx hb dX6_walk_88 rfl (lv_at hl 3 rfl) ?_
                refine lv_iload_n hx hb dX6_walk_89 rfl (lv_at hl 4 rfl) ?_
                refine lv_iload hx hb dX6_walk_90 (lv_at hl 0 rfl) ?_
                refine q_iadd hx hb dX6_walk_92 ?_
                refine q_iconst hx hb dX6_walk_93 ?_
                refine q_cEi (z := mr_rd (M 1) k x2 (x3 + (2 * absz (k - x1))) (wyy 2)) (b := (q 0)) (As := [.int (zI k), .int (zI x2), .int (zI (x3 + (2 * absz (k - x1)))), .int (zI 2)]) (rest := []) (w1 := wMo g q (rdM (m78 M (itR (wk78 (M 1) x1 x2 x3) (M 0 7, M 0 8) k)) k x2 (x3 + (2 * absz (k - x1))) (wyy 2))) ⟨hx, hb, hml, hown, hts⟩ hP hD hK hT hS hA (kX6_rides l dC dI g tt _ q (m78 M (itR (wk78 (M 1) x1 x2 x3) (M 0 7, M 0 8) k)) k x2 (x3 + (2 * absz (k - x1))) 2 (hw) (show 0 ≤ k ∧ k ≤ M 1 1 from by omega) (show 0 ≤ x2 ∧ x2 ≤ M 1 1 from by omega) (show 0 ≤ (x3 + (2 * absz (k - x1))) ∧ (x3 + (2 * absz (k - x1))) ≤ 1200 from by omega) (show 0 ≤ 2 ∧ 2 ≤ 2 from by omega)) (cwV 4 hts gX6_walk_X6_rides rfl rfl rfl (by decide +kernel) ⟨Nat.le_of_ble_eq_true rfl, Nat.le_of_ble_eq_true rfl⟩) 0 5 rfl rfl rfl rfl hl.1 rfl (Nat.le_of_ble_eq_true rfl) dX6_walk_94 ⟨Nat.le_of_ble_eq_true rfl, Nat.le_of_ble_eq_true rfl⟩ (fun H locs hP hD hS => ?_)
                have := mr_rd_r (w := M 1) (f := k) (t := x2) (m := (x3 + (2 * absz (k - x1)))) (y := wyy 2) (by omega)
                have hmr := mr_rd_r (w := M 1) (f := k) (t := x2) (m := x3 + 2 * absz (k - x1)) (y := (-1)) (by omega)
                have hP : va_P (dC, dI) vwCl (wMo g q (m78 M (wk78 (M 1) x1 x2 x3 k (itR (wk78 (M 1) x1 x2 x3) (M 0 7, M 0 8) k)))) H := by rw [show (m78 M (wk78 (M 1) x1 x2 x3 k (itR (wk78 (M 1) x1 x2 x3) (M 0 7, M 0 8) k))) = rdM (m78 M (itR (wk78 (M 1) x1 x2 x3) (M 0 7, M 0 8) k)) k x2 (x3 + (2 * absz (k - x1))) (wyy 2) from rdM_78.symm]; exact hP
                have hD : va_D A (wMo g q (m78 M (wk78 (M 1) x1 x2 x3 k (itR (wk78 (M 1) x1 x2 x3) (M 0 7, M 0 8) k)))) := by rw [show (m78 M (wk78 (M 1) x1 x2 x3 k (itR (wk78 (M 1) x1 x2 x3) (M 0 7, M 0 8) k))) = rdM (m78 M (itR (wk78 (M 1) x1 x2 x3) (M 0 7, M 0 8) k)) k x2 (x3 + (2 * absz (k - x1))) (wyy 2) from rdM_78.symm]; exact hD
                rw [show mr_rd (M 1) k x2 (x3 + (2 * absz (k - x1))) (wyy 2) = mr_rd (M 1) k x2 (x3 + 2 * absz (k - x1)) (-1) from rfl]
                refine lv_istore (lv' := [(10, .int (zI (mr_rd (M 1) k x2 (x3 + 2 * absz (k - x1)) (-1)))), (9, .int (zI (2 * absz (k - x1)))), (0, .ref (q 0)), (1, .int (zI x1)), (2, .int (zI x2)), (3, .int (zI x3)), (4, .int (zI x4)), (5, .int (zI bs)), (6, .int (zI sn)), (7, .int (zI le)), (8, .int (zI k))]) hx hb dX6_walk_97 hl (by decide) rfl (fun ls hl => ?_)
                refine lv_iload hx hb dX6_walk_99 (lv_at hl 0 rfl) ?_
                refine q_iconst hx hb dX6_walk_101 ?_
                refine q_icmp_eq (tgt := 130) hx hb dX6_walk_102 (by decide) (by omega) (fun c_8 => ?_) (fun c_8 => ?_)
                · refine q_iconst hx hb dX6_walk_130 ?_
                  refine lv_istore (lv' := [(11, .int (zI 0)), (10, .int (zI (mr_rd (M 1) k x2 (x3 + 2 * absz (k - x1)) (-1)))), (9, .int (zI (2 * absz (k - x1)))), (0, .ref (q 0)), (1, .int (zI x1)), (2, .int (zI x2)), (3, .int (zI x3)), (4, .int (zI x4)), (5, .int (zI bs)), (6, .int (zI sn)), (7, .int (zI le)), (8, .int (zI k))]) hx hb dX6_walk_131 hl (by decide) rfl (fun ls hl => ?_)
                  refine lv_iload hx hb dX6_walk_133 (lv_at hl 0 rfl) ?_
                  refine q_if_eqT (tgt := 143) hx hb dX6_walk_135 (by decide) (by decide) ?_
                  refine lv_iload hx hb dX6_walk_143 (lv_at hl 8 rfl) ?_
                  refine lv_istore (lv' := [(5, .int (zI bs)), (11, .int (zI 0)), (10, .int (zI (mr_rd (M 1) k x2 (x3 + 2 * absz (k - x1)) (-1)))), (9, .int (zI (2 * absz (k - x1)))), (0, .ref (q 0)), (1, .int (zI x1)), (2, .int (zI x2)), (3, .int (zI x3)), (4, .int (zI x4)), (6, .int (zI sn)), (7, .int (zI le)), (8, .int (zI k))]) hx hb dX6_walk_145 hl (by decide) rfl (fun ls hl => ?_)
                  refine lv_iload hx hb dX6_walk_147 (lv_at hl 1 rfl) ?_
                  refine q_if_eqT (tgt := 157) hx hb dX6_walk_149 (by decide) (by decide) ?_
                  refine lv_iload hx hb dX6_walk_157 (lv_at hl 9 rfl) ?_
                  refine lv_istore (lv' := [(6, .int (zI sn)), (5, .int (zI bs)), (11, .int (zI 0)), (10, .int (zI (mr_rd (M 1) k x2 (x3 + 2 * absz (k - x1)) (-1)))), (9, .int (zI (2 * absz (k - x1)))), (0, .ref (q 0)), (1, .int (zI x1)), (2, .int (zI x2)), (3, .int (zI x3)), (4, .int (zI x4)), (7, .int (zI le)), (8, .int (zI k))]) hx hb dX6_walk_159 hl (by decide) rfl (fun ls hl => ?_)
                  refine lv_iload hx hb dX6_walk_161 (lv_at hl 2 rfl) ?_
                  refine q_if_eqT (tgt := 171) hx hb dX6_walk_163 (by decide) (by decide) ?_
                  refine lv_iload hx hb dX6_walk_171 (lv_at hl 10 rfl) ?_
                  refine lv_istore (lv' := [(7, .int (zI le)), (6, .int (zI sn)), (5, .int (zI bs)), (11, .int (zI 0)), (10, .int (zI (mr_rd (M 1) k x2 (x3 + 2 * absz (k - x1)) (-1)))), (9, .int (zI (2 * absz (k - x1)))), (0, .ref (q 0)), (1, .int (zI x1)), (2, .int (zI x2)), (3, .int (zI x3)), (4, .int (zI x4)), (8, .int (zI k))]) hx hb dX6_walk_173 hl (by decide) rfl (fun ls hl => ?_)
                  refine lv_iinc (v := zI (k + 1)) (lv' := [(8, .int (zI (k + 1))), (7, .int (zI le)), (6, .int (zI sn)), (5, .int (zI bs)), (11, .int (zI 0)), (10, .int (zI (mr_rd (M 1) k x2 (x3 + 2 * absz (k - x1)) (-1)))), (9, .int (zI (2 * absz (k - x1)))), (0, .ref (q 0)), (1, .int (zI x1)), (2, .int (zI x2)), (3, .int (zI x3)), (4, .int (zI x4))]) hx hb dX6_walk_175 hl (k := 11) rfl (zI_add _ _) (by decide) rfl (fun ls hl => ?_)
                  refine lv_goto (tgt := 53) hx hb dX6_walk_178 (by decide) ?_
                  exact ih53 (k + 1, bs, sn, le) _ _ ls ⟨(show 0 ≤ (k + 1) ∧ (k + 1) ≤ M 1 1 + 1 from by omega), (show (bs, sn, le) = mwkR (M 1) x1 x2 x3 (k + 1) from by unfold mwkR at hs ⊢; rw [itR_s (by omega), ← hs]; unfold mwkS; rw [if_neg (show ¬ (¬ mr_rd (M 1) k x2 (x3 + 2 * absz (k - x1)) (-1) = -1 ∧ (mr_rd (M 1) k x2 (x3 + 2 * absz (k - x1)) (-1) < sn ∨ (mr_rd (M 1) k x2 (x3 + 2 * absz (k - x1)) (-1) = sn ∧ 2 * absz (k - x1) < le))) from by omega)]), (show (-1 ≤ sn ∧ sn ≤ 1000000) ∧ (0 ≤ le ∧ le ≤ 1000000) from by omega), (show va_P (dC, dI) vwCl (wMo g q (m78 M (itR (wk78 (M 1) x1 x2 x3) (M 0 7, M 0 8) (k + 1)))) H from by rw [show (m78 M (itR (wk78 (M 1) x1 x2 x3) (M 0 7, M 0 8) (k + 1))) = m78 M (wk78 (M 1) x1 x2 x3 k (itR (wk78 (M 1) x1 x2 x3) (M 0 7, M 0 8) k)) from by rw [itR_s (by omega)]]; exact hP), (show va_D A (wMo g q (m78 M (itR (wk78 (M 1) x1 x2 x3) (M 0 7, M 0 8) (k + 1)))) from by rw [show (m78 M (itR (wk78 (M 1) x1 x2 x3) (M 0 7, M 0 8) (k + 1))) = m78 M (wk78 (M 1) x1 x2 x3 k (itR (wk78 (M 1) x1 x2 x3) (M 0 7, M 0 8) k)) from by rw [itR_s (by omega)]]; exact hD), hS, lv_sub hl [7, 8, 9, 10, 11, 3, 2, 1, 0] rfl⟩ (by show (M 1 1 + 1 - (k + 1)).toNat < (M 1 1 + 1 - k).toNat; omega)
                · refine lv_iload hx hb dX6_walk_105 (lv_at hl 0 rfl) ?_
                  refine lv_iload hx hb dX6_walk_107 (lv_at hl 8 rfl) ?_
                  refine q_icmp_lt (tgt := 126) hx hb dX6_walk_109 (by decide) (by omega) (fun c_9 => ?_) (fun c_9 => ?_)
                  · refine q_iconst hx hb dX6_walk_126 ?_
                    refine lv_goto (tgt := 131) hx hb dX6_walk_127 (by decide) ?_
                    refine lv_istore (lv' := [(11, .int (zI 1)), (10, .int (zI (mr_rd (M 1) k x2 (x3 + 2 * absz (k - x1)) (-1)))), (9, .int (zI (2 * absz (k - x1)))), (0, .ref (q 0)), (1, .int (zI x1)), (2, .int (zI x2)), (3, .int (zI x3)), (4, .int (zI x4)), (5, .int (zI bs)), (6, .int (zI sn)), (7, .int (zI le)), (8, .int (zI k))]) hx hb dX6_walk_131 hl (by decide) rfl (fun ls hl => ?_)
                    refine lv_iload hx hb dX6_walk_133 (lv_at hl 0 rfl) ?_
                    refine q_if_eqF (tgt := 143) hx hb dX6_walk_135 (by decide) (by decide) ?_
                    refine lv_iload hx hb dX6_walk_138 (lv_at hl 11 rfl) ?_
                    refine lv_goto (tgt := 145) hx hb dX6_walk_140 (by decide) ?_
                    refine lv_istore (lv' := [(5, .int (zI k)), (11, .int (zI 1)), (10, .int (zI (mr_rd (M 1) k x2 (x3 + 2 * absz (k - x1)) (-1)))), (9, .int (zI (2 * absz (k - x1)))), (0, .ref (q 0)), (1, .int (zI x1)), (2, .int (zI x2)), (3, .int (zI x3)), (4, .int (zI x4)), (6, .int (zI sn)), (7, .int (zI le)), (8, .int (zI k))]) hx hb dX6_walk_145 hl (by decide) rfl (fun ls hl => ?_)
                    refine lv_iload hx hb dX6_walk_147 (lv_at hl 1 rfl) ?_
                    refine q_if_eqF (tgt := 157) hx hb dX6_walk_149 (by decide) (by decide) ?_
                    refine lv_iload hx hb dX6_walk_152 (lv_at hl 2 rfl) ?_
                    refine lv_goto (tgt := 159) hx hb dX6_walk_154 (by decide) ?_
                    refine lv_istore (lv' := [(6, .int (zI (mr_rd (M 1) k x2 (x3 + 2 * absz (k - x1)) (-1)))), (5, .int (zI k)), (11, .int (zI 1)), (10, .int (zI (mr_rd (M 1) k x2 (x3 + 2 * absz (k - x1)) (-1)))), (9, .int (zI (2 * absz (k - x1)))), (0, .ref (q 0)), (1, .int (zI x1)), (2, .int (zI x2)), (3, .int (zI x3)), (4, .int (zI x4)), (7, .int (zI le)), (8, .int (zI k))]) hx hb dX6_walk_159 hl (by decide) rfl (fun ls hl => ?_)
                    refine lv_iload hx hb dX6_walk_161 (lv_at hl 2 rfl) ?_
                    refine q_if_eqF (tgt := 171) hx hb dX6_walk_163 (by decide) (by decide) ?_
                    refine lv_iload hx hb dX6_walk_166 (lv_at hl 4 rfl) ?_
                    refine lv_goto (tgt := 173) hx hb dX6_walk_168 (by decide) ?_
                    refine lv_istore (lv' := [(7, .int (zI (2 * absz (k - x1)))), (6, .int (zI (mr_rd (M 1) k x2 (x3 + 2 * absz (k - x1)) (-1)))), (5, .int (zI k)), (11, .int (zI 1)), (10, .int (zI (mr_rd (M 1) k x2 (x3 + 2 * absz (k - x1)) (-1)))), (9, .int (zI (2 * absz (k - x1)))), (0, .ref (q 0)), (1, .int (zI x1)), (2, .int (zI x2)), (3, .int (zI x3)), (4, .int (zI x4)), (8, .int (zI k))]) hx hb dX6_walk_173 hl (by decide) rfl (fun ls hl => ?_)
                    refine lv_iinc (v := zI (k + 1)) (lv' := [(8, .int (zI (k + 1))), (7, .int (zI (2 * absz (k - x1)))), (6, .int (zI (mr_rd (M 1) k x2 (x3 + 2 * absz (k - x1)) (-1)))), (5, .int (zI k)), (11, .int (zI 1)), (10, .int (zI (mr_rd (M 1) k x2 (x3 + 2 * absz (k - x1)) (-1)))), (9, .int (zI (2 * absz (k - x1)))), (0, .ref (q 0)), (1, .int (zI x1)), (2, .int (zI x2)), (3, .int (zI x3)), (4, .int (zI x4))]) hx hb dX6_walk_175 hl (k := 11) rfl (zI_add _ _) (by decide) rfl (fun ls hl => ?_)
                    refine lv_goto (tgt := 53) hx hb dX6_walk_178 (by decide) ?_
                    exact ih53 (k + 1, k, mr_rd (M 1) k x2 (x3 + 2 * absz (k - x1)) (-1), 2 * absz (k - x1)) _ _ ls ⟨(show 0 ≤ (k + 1) ∧ (k + 1) ≤ M 1 1 + 1 from by omega), (show (k, (mr_rd (M 1) k x2 (x3 + 2 * absz (k - x1)) (-1)), (2 * absz (k - x1))) = mwkR (M 1) x1 x2 x3 (k + 1) from by unfold mwkR at hs ⊢; rw [itR_s (by omega), ← hs]; unfold mwkS; rw [if_pos (show ¬ mr_rd (M 1) k x2 (x3 + 2 * absz (k - x1)) (-1) = -1 ∧ (mr_rd (M 1) k x2 (x3 + 2 * absz (k - x1)) (-1) < sn ∨ (mr_rd (M 1) k x2 (x3 + 2 * absz (k - x1)) (-1) = sn ∧ 2 * absz (k - x1) < le)) from by omega)]), (show (-1 ≤ (mr_rd (M 1) k x2 (x3 + 2 * absz (k - x1)) (-1)) ∧ (mr_rd (M 1) k x2 (x3 + 2 * absz (k - x1)) (-1)) ≤ 1000000) ∧ (0 ≤ (2 * absz (k - x1)) ∧ (2 * absz (k - x1)) ≤ 1000000) from by omega), (show va_P (dC, dI) vwCl (wMo g q (m78 M (itR (wk78 (M 1) x1 x2 x3) (M 0 7, M 0 8) (k + 1)))) H from by rw [show (m78 M (itR (wk78 (M 1) x1 x2 x3) (M 0 7, M 0 8) (k + 1))) = m78 M (wk78 (M 1) x1 x2 x3 k (itR (wk78 (M 1) x1 x2 x3) (M 0 7, M 0 8) k)) from by rw [itR_s (by omega)]]; exact hP), (show va_D A (wMo g q (m78 M (itR (wk78 (M 1) x1 x2 x3) (M 0 7, M 0 8) (k + 1)))) from by rw [show (m78 M (itR (wk78 (M 1) x1 x2 x3) (M 0 7, M 0 8) (k + 1))) = m78 M (wk78 (M 1) x1 x2 x3 k (itR (wk78 (M 1) x1 x2 x3) (M 0 7, M 0 8) k)) from by rw [itR_s (by omega)]]; exact hD), hS, lv_sub hl [7, 8, 9, 10, 11, 3, 2, 1, 0] rfl⟩ (by show (M 1 1 + 1 - (k + 1)).toNat < (M 1 1 + 1 - k).toNat; omega)
                  · refine lv_iload hx hb dX6_walk_112 (lv_at hl 0 rfl) ?_
                    refine lv_iload hx hb dX6_walk_114 (lv_at hl 8 rfl) ?_
                    refine q_icmp_ne (tgt := 130) hx hb dX6_walk_116 (by decide) (by omega) (fun c_10 => ?_) (fun c_10 => ?_)
                    · refine q_iconst hx hb dX6_walk_130 ?_
                      refine lv_istore (lv' := [(11, .int (zI 0)), (10, .int (zI (mr_rd (M 1) k x2 (x3 + 2 * absz (k - x1)) (-1)))), (9, .int (zI (2 * absz (k - x1)))), (0, .ref (q 0)), (1, .int (zI x1)), (2, .int (zI x2)), (3, .int (zI x3)), (4, .int (zI x4)), (5, .int (zI bs)), (6, .int (zI sn)), (7, .int (zI le)), (8, .int (zI k))]) hx hb dX6_walk_131 hl (by decide) rfl (fun ls hl => ?_)
                      refine lv_iload hx hb dX6_walk_133 (lv_at hl 0 rfl) ?_
                      refine q_if_eqT (tgt := 143) hx hb dX6_walk_135 (by decide) (by decide) ?_
                      refine lv_iload hx hb dX6_walk_143 (lv_at hl 8 rfl) ?_
                      refine lv_istore (lv' := [(5, .int (zI bs)), (11, .int (zI 0)), (10, .int (zI (mr_rd (M 1) k x2 (x3 + 2 * absz (k - x1)) (-1)))), (9, .int (zI (2 * absz (k - x1)))), (0, .ref (q 0)), (1, .int (zI x1)), (2, .int (zI x2)), (3, .int (zI x3)), (4, .int (zI x4)), (6, .int (zI sn)), (7, .int (zI le)), (8, .int (zI k))]) hx hb dX6_walk_145 hl (by decide) rfl (fun ls hl => ?_)
                      refine lv_iload hx hb dX6_walk_147 (lv_at hl 1 rfl) ?_
                      refine q_if_eqT (tgt := 157) hx hb dX6_walk_149 (by decide) (by decide) ?_
                      refine lv_iload hx hb dX6_walk_157 (lv_at hl 9 rfl) ?_
                      refine lv_istore (lv' := [(6, .int (zI sn)), (5, .int (zI bs)), (11, .int (zI 0)), (10, .int (zI (mr_rd (M 1) k x2 (x3 + 2 * absz (k - x1)) (-1)))), (9, .int (zI (2 * absz (k - x1)))), (0, .ref (q 0)), (1, .int (zI x1)), (2, .int (zI x2)), (3, .int (zI x3)), (4, .int (zI x4)), (7, .int (zI le)), (8, .int (zI k))]) hx hb dX6_walk_159 hl (by decide) rfl (fun ls hl => ?_)
                      refine lv_iload hx hb dX6_walk_161 (lv_at hl 2 rfl) ?_
                      refine q_if_eqT (tgt := 171) hx hb dX6_walk_163 (by decide) (by decide) ?_
                      refine lv_iload hx hb dX6_walk_171 (lv_at hl 10 rfl) ?_
                      refine lv_istore (lv' := [(7, .int (zI le)), (6, .int (zI sn)), (5, .int (zI bs)), (11, .int (zI 0)), (10, .int (zI (mr_rd (M 1) k x2 (x3 + 2 * absz (k - x1)) (-1)))), (9, .int (zI (2 * absz (k - x1)))), (0, .ref (q 0)), (1, .int (zI x1)), (2, .int (zI x2)), (3, .int (zI x3)), (4, .int (zI x4)), (8, .int (zI k))]) hx hb dX6_walk_173 hl (by decide) rfl (fun ls hl => ?_)
                      refine lv_iinc (v := zI (k + 1)) (lv' := [(8, .int (zI (k + 1))), (7, .int (zI le)), (6, .int (zI sn)), (5, .int (zI bs)), (11, .int (zI 0)), (10, .int (zI (mr_rd (M 1) k x2 (x3 + 2 * absz (k - x1)) (-1)))), (9, .int (zI (2 * absz (k - x1)))), (0, .ref (q 0)), (1, .int (zI x1)), (2, .int (zI x2)), (3, .int (zI x3)), (4, .int (zI x4))]) hx hb dX6_walk_175 hl (k := 11) rfl (zI_add _ _) (by decide) rfl (fun ls hl => ?_)
                      refine lv_goto (tgt := 53) hx hb dX6_walk_178 (by decide) ?_
                      exact ih53 (k + 1, bs, sn, le) _ _ ls ⟨(show 0 ≤ (k + 1) ∧ (k + 1) ≤ M 1 1 + 1 from by omega), (show (bs, sn, le) = mwkR (M 1) x1 x2 x3 (k + 1) from by unfold mwkR at hs ⊢; rw [itR_s (by omega), ← hs]; unfold mwkS; rw [if_neg (show ¬ (¬ mr_rd (M 1) k x2 (x3 + 2 * absz (k - x1)) (-1) = -1 ∧ (mr_rd (M 1) k x2 (x3 + 2 * absz (k - x1)) (-1) < sn ∨ (mr_rd (M 1) k x2 (x3 + 2 * absz (k - x1)) (-1) = sn ∧ 2 * absz (k - x1) < le))) from by omega)]), (show (-1 ≤ sn ∧ sn ≤ 1000000) ∧ (0 ≤ le ∧ le ≤ 1000000) from by omega), (show va_P (dC, dI) vwCl (wMo g q (m78 M (itR (wk78 (M 1) x1 x2 x3) (M 0 7, M 0 8) (k + 1)))) H from by rw [show (m78 M (itR (wk78 (M 1) x1 x2 x3) (M 0 7, M 0 8) (k + 1))) = m78 M (wk78 (M 1) x1 x2 x3 k (itR (wk78 (M 1) x1 x2 x3) (M 0 7, M 0 8) k)) from by rw [itR_s (by omega)]]; exact hP), (show va_D A (wMo g q (m78 M (itR (wk78 (M 1) x1 x2 x3) (M 0 7, M 0 8) (k + 1)))) from by rw [show (m78 M (itR (wk78 (M 1) x1 x2 x3) (M 0 7, M 0 8) (k + 1))) = m78 M (wk78 (M 1) x1 x2 x3 k (itR (wk78 (M 1) x1 x2 x3) (M 0 7, M 0 8) k)) from by rw [itR_s (by omega)]]; exact hD), hS, lv_sub hl [7, 8, 9, 10, 11, 3, 2, 1, 0] rfl⟩ (by show (M 1 1 + 1 - (k + 1)).toNat < (M 1 1 + 1 - k).toNat; omega)
                    · refine lv_iload hx hb dX6_walk_119 (lv_at hl 1 rfl) ?_
                      refine lv_iload hx hb dX6_walk_121 (lv_at hl 9 rfl) ?_
                      refine q_icmp_ge (tgt := 130) hx hb dX6_walk_123 (by decide) (by omega) (fun c_11 => ?_) (fun c_11 => ?_)
                      · refine q_iconst hx hb dX6_walk_130 ?_
                        refine lv_istore (lv' := [(11, .int (zI 0)), (10, .int (zI (mr_rd (M 1) k x2 (x3 + 2 * absz (k - x1)) (-1)))), (9, .int (zI (2 * absz (k - x1)))), (0, .ref (q 0)), (1, .int (zI x1)), (2, .int (zI x2)), (3, .int (zI x3)), (4, .int (zI x4)), (5, .int (zI bs)), (6, .int (zI sn)), (7, .int (zI le)), (8, .int (zI k))]) hx hb dX6_walk_131 hl (by decide) rfl (fun ls hl => ?_)
                        refine lv_iload hx hb dX6_walk_133 (lv_at hl 0 rfl) ?_
                        refine q_if_eqT (tgt := 143) hx hb dX6_walk_135 (by decide) (by decide) ?_
                        refine lv_iload hx hb dX6_walk_143 (lv_at hl 8 rfl) ?_
                        refine lv_istore (lv' := [(5, .int (zI bs)), (11, .int (zI 0)), (10, .int (zI (mr_rd (M 1) k x2 (x3 + 2 * absz (k - x1)) (-1)))), (9, .int (zI (2 * absz (k - x1)))), (0, .ref (q 0)), (1, .int (zI x1)), (2, .int (zI x2)), (3, .int (zI x3)), (4, .int (zI x4)), (6, .int (zI sn)), (7, .int (zI le)), (8, .int (zI k))]) hx hb dX6_walk_145 hl (by decide) rfl (fun ls hl => ?_)
                        refine lv_iload hx hb dX6_walk_147 (lv_at hl 1 rfl) ?_
                        refine q_if_eqT (tgt := 157) hx hb dX6_walk_149 (by decide) (by decide) ?_
                        refine lv_iload hx hb dX6_walk_157 (lv_at hl 9 rfl) ?_
                        refine lv_istore (lv' := [(6, .int (zI sn)), (5, .int (zI bs)), (11, .int (zI 0)), (10, .int (zI (mr_rd (M 1) k x2 (x3 + 2 * absz (k - x1)) (-1)))), (9, .int (zI (2 * absz (k - x1)))), (0, .ref (q 0)), (1, .int (zI x1)), (2, .int (zI x2)), (3, .int (zI x3)), (4, .int (zI x4)), (7, .int (zI le)), (8, .int (zI k))]) hx hb dX6_walk_159 hl (by decide) rfl (fun ls hl => ?_)
                        refine lv_iload hx hb dX6_walk_161 (lv_at hl 2 rfl) ?_
                        refine q_if_eqT (tgt := 171) hx hb dX6_walk_163 (by decide) (by decide) ?_
                        refine lv_iload hx hb dX6_walk_171 (lv_at hl 10 rfl) ?_
                        refine lv_istore (lv' := [(7, .int (zI le)), (6, .int (zI sn)), (5, .int (zI bs)), (11, .int (zI 0)), (10, .int (zI (mr_rd (M 1) k x2 (x3 + 2 * absz (k - x1)) (-1)))), (9, .int (zI (2 * absz (k - x1)))), (0, .ref (q 0)), (1, .int (zI x1)), (2, .int (zI x2)), (3, .int (zI x3)), (4, .int (zI x4)), (8, .int (zI k))]) hx hb dX6_walk_173 hl (by decide) rfl (fun ls hl => ?_)
                        refine lv_iinc (v := zI (k + 1)) (lv' := [(8, .int (zI (k + 1))), (7, .int (zI le)), (6, .int (zI sn)), (5, .int (zI bs)), (11, .int (zI 0)), (10, .int (zI (mr_rd (M 1) k x2 (x3 + 2 * absz (k - x1)) (-1)))), (9, .int (zI (2 * absz (k - x1)))), (0, .ref (q 0)), (1, .int (zI x1)), (2, .int (zI x2)), (3, .int (zI x3)), (4, .int (zI x4))]) hx hb dX6_walk_175 hl (k := 11) rfl (zI_add _ _) (by decide) rfl (fun ls hl => ?_)
                        refine lv_goto (tgt := 53) hx hb dX6_walk_178 (by decide) ?_
                        exact ih53 (k + 1, bs, sn, le) _ _ ls ⟨(show 0 ≤ (k + 1) ∧ (k + 1) ≤ M 1 1 + 1 from by omega), (show (bs, sn, le) = mwkR (M 1) x1 x2 x3 (k + 1) from by unfold mwkR at hs ⊢; rw [itR_s (by omega), ← hs]; unfold mwkS; rw [if_neg (show ¬ (¬ mr_rd (M 1) k x2 (x3 + 2 * absz (k - x1)) (-1) = -1 ∧ (mr_rd (M 1) k x2 (x3 + 2 * absz (k - x1)) (-1) < sn ∨ (mr_rd (M 1) k x2 (x3 + 2 * absz (k - x1)) (-1) = sn ∧ 2 * absz (k - x1) < le))) from by omega)]), (show (-1 ≤ sn ∧ sn ≤ 1000000) ∧ (0 ≤ le ∧ le ≤ 1000000) from by omega), (show va_P (dC, dI) vwCl (wMo g q (m78 M (itR (wk78 (M 1) x1 x2 x3) (M 0 7, M 0 8) (k + 1)))) H from by rw [show (m78 M (itR (wk78 (M 1) x1 x2 x3) (M 0 7, M 0 8) (k + 1))) = m78 M (wk78 (M 1) x1 x2 x3 k (itR (wk78 (M 1) x1 x2 x3) (M 0 7, M 0 8) k)) from by rw [itR_s (by omega)]]; exact hP), (show va_D A (wMo g q (m78 M (itR (wk78 (M 1) x1 x2 x3) (M 0 7, M 0 8) (k + 1)))) from by rw [show (m78 M (itR (wk78 (M 1) x1 x2 x3) (M 0 7, M 0 8) (k + 1))) = m78 M (wk78 (M 1) x1 x2 x3 k (itR (wk78 (M 1) x1 x2 x3) (M 0 7, M 0 8) k)) from by rw [itR_s (by omega)]]; exact hD), hS, lv_sub hl [7, 8, 9, 10, 11, 3, 2, 1, 0] rfl⟩ (by show (M 1 1 + 1 - (k + 1)).toNat < (M 1 1 + 1 - k).toNat; omega)
                      · refine q_iconst hx hb dX6_walk_126 ?_
                        refine lv_goto (tgt := 131) hx hb dX6_walk_127 (by decide) ?_
                        refine lv_istore (lv' := [(11, .int (zI 1)), (10, .int (zI (mr_rd (M 1) k x2 (x3 + 2 * absz (k - x1)) (-1)))), (9, .int (zI (2 * absz (k - x1)))), (0, .ref (q 0)), (1, .int (zI x1)), (2, .int (zI x2)), (3, .int (zI x3)), (4, .int (zI x4)), (5, .int (zI bs)), (6, .int (zI sn)), (7, .int (zI le)), (8, .int (zI k))]) hx hb dX6_walk_131 hl (by decide) rfl (fun ls hl => ?_)
                        refine lv_iload hx hb dX6_walk_133 (lv_at hl 0 rfl) ?_
                        refine q_if_eqF (tgt := 143) hx hb dX6_walk_135 (by decide) (by decide) ?_
                        refine lv_iload hx hb dX6_walk_138 (lv_at hl 11 rfl) ?_
                        refine lv_goto (tgt := 145) hx hb dX6_walk_140 (by decide) ?_
                        refine lv_istore (lv' := [(5, .int (zI k)), (11, .int (zI 1)), (10, .int (zI (mr_rd (M 1) k x2 (x3 + 2 * absz (k - x1)) (-1)))), (9, .int (zI (2 * absz (k - x1)))), (0, .ref (q 0)), (1, .int (zI x1)), (2, .int (zI x2)), (3, .int (zI x3)), (4, .int (zI x4)), (6, .int (zI sn)), (7, .int (zI le)), (8, .int (zI k))]) hx hb dX6_walk_145 hl (by decide) rfl (fun ls hl => ?_)
                        refine lv_iload hx hb dX6_walk_147 (lv_at hl 1 rfl) ?_
                        refine q_if_eqF (tgt := 157) hx hb dX6_walk_149 (by decide) (by decide) ?_
                        refine lv_iload hx hb dX6_walk_152 (lv_at hl 2 rfl) ?_
                        refine lv_goto (tgt := 159) hx hb dX6_walk_154 (by decide) ?_
                        refine lv_istore (lv' := [(6, .int (zI (mr_rd (M 1) k x2 (x3 + 2 * absz (k - x1)) (-1)))), (5, .int (zI k)), (11, .int (zI 1)), (10, .int (zI (mr_rd (M 1) k x2 (x3 + 2 * absz (k - x1)) (-1)))), (9, .int (zI (2 * absz (k - x1)))), (0, .ref (q 0)), (1, .int (zI x1)), (2, .int (zI x2)), (3, .int (zI x3)), (4, .int (zI x4)), (7, .int (zI le)), (8, .int (zI k))]) hx hb dX6_walk_159 hl (by decide) rfl (fun ls hl => ?_)
                        refine lv_iload hx hb dX6_walk_161 (lv_at hl 2 rfl) ?_
                        refine q_if_eqF (tgt := 171) hx hb dX6_walk_163 (by decide) (by decide) ?_
                        refine lv_iload hx hb dX6_walk_166 (lv_at hl 4 rfl) ?_
                        refine lv_goto (tgt := 173) hx hb dX6_walk_168 (by decide) ?_
                        refine lv_istore (lv' := [(7, .int (zI (2 * absz (k - x1)))), (6, .int (zI (mr_rd (M 1) k x2 (x3 + 2 * absz (k - x1)) (-1)))), (5, .int (zI k)), (11, .int (zI 1)), (10, .int (zI (mr_rd (M 1) k x2 (x3 + 2 * absz (k - x1)) (-1)))), (9, .int (zI (2 * absz (k - x1)))), (0, .ref (q 0)), (1, .int (zI x1)), (2, .int (zI x2)), (3, .int (zI x3)), (4, .int (zI x4)), (8, .int (zI k))]) hx hb dX6_walk_173 hl (by decide) rfl (fun ls hl => ?_)
                        refine lv_iinc (v := zI (k + 1)) (lv' := [(8, .int (zI (k + 1))), (7, .int (zI (2 * absz (k - x1)))), (6, .int (zI (mr_rd (M 1) k x2 (x3 + 2 * absz (k - x1)) (-1)))), (5, .int (zI k)), (11, .int (zI 1)), (10, .int (zI (mr_rd (M 1) k x2 (x3 + 2 * absz (k - x1)) (-1)))), (9, .int (zI (2 * absz (k - x1)))), (0, .ref (q 0)), (1, .int (zI x1)), (2, .int (zI x2)), (3, .int (zI x3)), (4, .int (zI x4))]) hx hb dX6_walk_175 hl (k := 11) rfl (zI_add _ _) (by decide) rfl (fun ls hl => ?_)
                        refine lv_goto (tgt := 53) hx hb dX6_walk_178 (by decide) ?_
                        exact ih53 (k + 1, k, mr_rd (M 1) k x2 (x3 + 2 * absz (k - x1)) (-1), 2 * absz (k - x1)) _ _ ls ⟨(show 0 ≤ (k + 1) ∧ (k + 1) ≤ M 1 1 + 1 from by omega), (show (k, (mr_rd (M 1) k x2 (x3 + 2 * absz (k - x1)) (-1)), (2 * absz (k - x1))) = mwkR (M 1) x1 x2 x3 (k + 1) from by unfold mwkR at hs ⊢; rw [itR_s (by omega), ← hs]; unfold mwkS; rw [if_pos (show ¬ mr_rd (M 1) k x2 (x3 + 2 * absz (k - x1)) (-1) = -1 ∧ (mr_rd (M 1) k x2 (x3 + 2 * absz (k - x1)) (-1) < sn ∨ (mr_rd (M 1) k x2 (x3 + 2 * absz (k - x1)) (-1) = sn ∧ 2 * absz (k - x1) < le)) from by omega)]), (show (-1 ≤ (mr_rd (M 1) k x2 (x3 + 2 * absz (k - x1)) (-1)) ∧ (mr_rd (M 1) k x2 (x3 + 2 * absz (k - x1)) (-1)) ≤ 1000000) ∧ (0 ≤ (2 * absz (k - x1)) ∧ (2 * absz (k - x1)) ≤ 1000000) from by omega), (show va_P (dC, dI) vwCl (wMo g q (m78 M (itR (wk78 (M 1) x1 x2 x3) (M 0 7, M 0 8) (k + 1)))) H from by rw [show (m78 M (itR (wk78 (M 1) x1 x2 x3) (M 0 7, M 0 8) (k + 1))) = m78 M (wk78 (M 1) x1 x2 x3 k (itR (wk78 (M 1) x1 x2 x3) (M 0 7, M 0 8) k)) from by rw [itR_s (by omega)]]; exact hP), (show va_D A (wMo g q (m78 M (itR (wk78 (M 1) x1 x2 x3) (M 0 7, M 0 8) (k + 1)))) from by rw [show (m78 M (itR (wk78 (M 1) x1 x2 x3) (M 0 7, M 0 8) (k + 1))) = m78 M (wk78 (M 1) x1 x2 x3 k (itR (wk78 (M 1) x1 x2 x3) (M 0 7, M 0 8) k)) from by rw [itR_s (by omega)]]; exact hD), hS, lv_sub hl [7, 8, 9, 10, 11, 3, 2, 1, 0] rfl⟩ (by show (M 1 1 + 1 - (k + 1)).toNat < (M 1 1 + 1 - k).toNat; omega)
              · refine lv_iload_n hx hb dX6_walk_71 rfl (lv_at hl 1 rfl) ?_
                refine lv_iload hx hb dX6_walk_72 (lv_at hl 8 rfl) ?_
                refine q_isub hx hb dX6_walk_74 ?_
                refine lv_goto (tgt := 82) hx hb dX6_walk_75 (by decide) ?_
                refine q_imul hx hb dX6_walk_82 ?_
                rw [show 2 * (x1 - k) = 2 * absz (k - x1) from by unfold absz; split <;> omega]
                refine lv_istore (lv' := [(9, .int (zI (2 * absz (k - x1)))), (0, .ref (q 0)), (1, .int (zI x1)), (2, .int (zI x2)), (3, .int (zI x3)), (4, .int (zI x4)), (5, .int (zI bs)), (6, .int (zI sn)), (7, .int (zI le)), (8, .int (zI k))]) hx hb dX6_walk_83 hl (by decide) rfl (fun ls hl => ?_)
                refine lv_aload_n hx hb dX6_walk_85 rfl (lv_at hl 1 rfl) ?_
                refine lv_iload hx hb dX6_walk_86 (lv_at hl 9 rfl) ?_
                refine lv_iload_n hx hb dX6_walk_88 rfl (lv_at hl 3 rfl) ?_
                refine lv_iload_n hx hb dX6_walk_89 rfl (lv_at hl 4 rfl) ?_
                refine lv_iload hx hb dX6_walk_90 (lv_at hl 0 rfl) ?_
                refine q_iadd hx hb dX6_walk_92 ?_
                refine q_iconst hx hb dX6_walk_93 ?_
                refine q_cEi (z := mr_rd (M 1) k x2 (x3 + (2 * absz (k - x1))) (wyy 2)) (b := (q 0)) (As := [.int (zI k), .int (zI x2), .int (zI (x3 + (2 * absz (k - x1)))), .int (zI 2)]) (rest := []) (w1 := wMo g q (rdM (m78 M (itR (wk78 (M 1) x1 x2 x3) (M 0 7, M 0 8) k)) k x2 (x3 + (2 * absz (k - x1))) (wyy 2))) ⟨hx, hb, hml, hown, hts⟩ hP hD hK hT hS hA (kX6_rides l dC dI g tt _ q (m78 M (itR (wk78 (M 1) x1 x2 x3) (M 0 7, M 0 8) k)) k x2 (x3 + (2 * absz (k - x1))) 2 (hw) (show 0 ≤ k ∧ k ≤ M 1 1 from by omega) (show 0 ≤ x2 ∧ x2 ≤ M 1 1 from by omega) (show 0 ≤ (x3 + (2 * absz (k - x1))) ∧ (x3 + (2 * absz (k - x1))) ≤ 1200 from by omega) (show 0 ≤ 2 ∧ 2 ≤ 2 from by omega)) (cwV 4 hts gX6_walk_X6_rides rfl rfl rfl (by decide +kernel) ⟨Nat.le_of_ble_eq_true rfl, Nat.le_of_ble_eq_true rfl⟩) 0 5 rfl rfl rfl rfl hl.1 rfl (Nat.le_of_ble_eq_true rfl) dX6_walk_94 ⟨Nat.le_of_ble_eq_true rfl, Nat.le_of_ble_eq_true rfl⟩ (fun H locs hP hD hS => ?_)
                have := mr_rd_r (w := M 1) (f := k) (t := x2) (m := (x3 + (2 * absz (k - x1)))) (y := wyy 2) (by omega)
                have hmr := mr_rd_r (w := M 1) (f := k) (t := x2) (m := x3 + 2 * absz (k - x1)) (y := (-1)) (by omega)
                have hP : va_P (dC, dI) vwCl (wMo g q (m78 M (wk78 (M 1) x1 x2 x3 k (itR (wk78 (M 1) x1 x2 x3) (M 0 7, M 0 8) k)))) H := by rw [show (m78 M (wk78 (M 1) x1 x2 x3 k (itR (wk78 (M 1) x1 x2 x3) (M 0 7, M 0 8) k))) = rdM (m78 M (itR (wk78 (M 1) x1 x2 x3) (M 0 7, M 0 8) k)) k x2 (x3 + (2 * absz (k - x1))) (wyy 2) from rdM_78.symm]; exact hP
                have hD : va_D A (wMo g q (m78 M (wk78 (M 1) x1 x2 x3 k (itR (wk78 (M 1) x1 x2 x3) (M 0 7, M 0 8) k)))) := by rw [show (m78 M (wk78 (M 1) x1 x2 x3 k (itR (wk78 (M 1) x1 x2 x3) (M 0 7, M 0 8) k))) = rdM (m78 M (itR (wk78 (M 1) x1 x2 x3) (M 0 7, M 0 8) k)) k x2 (x3 + (2 * absz (k - x1))) (wyy 2) from rdM_78.symm]; exact hD
                rw [show mr_rd (M 1) k x2 (x3 + (2 * absz (k - x1))) (wyy 2) = mr_rd (M 1) k x2 (x3 + 2 * absz (k - x1)) (-1) from rfl]
                refine lv_istore (lv' := [(10, .int (zI (mr_rd (M 1) k x2 (x3 + 2 * absz (k - x1)) (-1)))), (9, .int (zI (2 * absz (k - x1)))), (0, .ref (q 0)), (1, .int (zI x1)), (2, .int (zI x2)), (3, .int (zI x3)), (4, .int (zI x4)), (5, .int (zI bs)), (6, .int (zI sn)), (7, .int (zI le)), (8, .int (zI k))]) hx hb dX6_walk_97 hl (by decide) rfl (fun ls hl => ?_)
                refine lv_iload hx hb dX6_walk_99 (lv_at hl 0 rfl) ?_
                refine q_iconst hx hb dX6_walk_101 ?_
                refine q_icmp_eq (tgt := 130) hx hb dX6_walk_102 (by decide) (by omega) (fun c_12 => ?_) (fun c_12 => ?_)
                · refine q_iconst hx hb dX6_walk_130 ?_
                  refine lv_istore (lv' := [(11, .int (zI 0)), (10, .int (zI (mr_rd (M 1) k x2 (x3 + 2 * absz (k - x1)) (-1)))), (9, .int (zI (2 * absz (k - x1)))), (0, .ref (q 0)), (1, .int (zI x1)), (2, .int (zI x2)), (3, .int (zI x3)), (4, .int (zI x4)), (5, .int (zI bs)), (6, .int (zI sn)), (7, .int (zI le)), (8, .int (zI k))]) hx hb dX6_walk_131 hl (by decide) rfl (fun ls hl => ?_)
                  refine lv_iload hx hb dX6_walk_133 (lv_at hl 0 rfl) ?_
                  refine q_if_eqT (tgt := 143) hx hb dX6_walk_135 (by decide) (by decide) ?_
                  refine lv_iload hx hb dX6_walk_143 (lv_at hl 8 rfl) ?_
                  refine lv_istore (lv' := [(5, .int (zI bs)), (11, .int (zI 0)), (10, .int (zI (mr_rd (M 1) k x2 (x3 + 2 * absz (k - x1)) (-1)))), (9, .int (zI (2 * absz (k - x1)))), (0, .ref (q 0)), (1, .int (zI x1)), (2, .int (zI x2)), (3, .int (zI x3)), (4, .int (zI x4)), (6, .int (zI sn)), (7, .int (zI le)), (8, .int (zI k))]) hx hb dX6_walk_145 hl (by decide) rfl (fun ls hl => ?_)
                  refine lv_iload hx hb dX6_walk_147 (lv_at hl 1 rfl) ?_
                  refine q_if_eqT (tgt := 157) hx hb dX6_walk_149 (by decide) (by decide) ?_
                  refine lv_iload hx hb dX6_walk_157 (lv_at hl 9 rfl) ?_
                  refine lv_istore (lv' := [(6, .int (zI sn)), (5, .int (zI bs)), (11, .int (zI 0)), (10, .int (zI (mr_rd (M 1) k x2 (x3 + 2 * absz (k - x1)) (-1)))), (9, .int (zI (2 * absz (k - x1)))), (0, .ref (q 0)), (1, .int (zI x1)), (2, .int (zI x2)), (3, .int (zI x3)), (4, .int (zI x4)), (7, .int (zI le)), (8, .int (zI k))]) hx hb dX6_walk_159 hl (by decide) rfl (fun ls hl => ?_)
                  refine lv_iload hx hb dX6_walk_161 (lv_at hl 2 rfl) ?_
                  refine q_if_eqT (tgt := 171) hx hb dX6_walk_163 (by decide) (by decide) ?_
                  refine lv_iload hx hb dX6_walk_171 (lv_at hl 10 rfl) ?_
                  refine lv_istore (lv' := [(7, .int (zI le)), (6, .int (zI sn)), (5, .int (zI bs)), (11, .int (zI 0)), (10, .int (zI (mr_rd (M 1) k x2 (x3 + 2 * absz (k - x1)) (-1)))), (9, .int (zI (2 * absz (k - x1)))), (0, .ref (q 0)), (1, .int (zI x1)), (2, .int (zI x2)), (3, .int (zI x3)), (4, .int (zI x4)), (8, .int (zI k))]) hx hb dX6_walk_173 hl (by decide) rfl (fun ls hl => ?_)
                  refine lv_iinc (v := zI (k + 1)) (lv' := [(8, .int (zI (k + 1))), (7, .int (zI le)), (6, .int (zI sn)), (5, .int (zI bs)), (11, .int (zI 0)), (10, .int (zI (mr_rd (M 1) k x2 (x3 + 2 * absz (k - x1)) (-1)))), (9, .int (zI (2 * absz (k - x1)))), (0, .ref (q 0)), (1, .int (zI x1)), (2, .int (zI x2)), (3, .int (zI x3)), (4, .int (zI x4))]) hx hb dX6_walk_175 hl (k := 11) rfl (zI_add _ _) (by decide) rfl (fun ls hl => ?_)
                  refine lv_goto (tgt := 53) hx hb dX6_walk_178 (by decide) ?_
                  exact ih53 (k + 1, bs, sn, le) _ _ ls ⟨(show 0 ≤ (k + 1) ∧ (k + 1) ≤ M 1 1 + 1 from by omega), (show (bs, sn, le) = mwkR (M 1) x1 x2 x3 (k + 1) from by unfold mwkR at hs ⊢; rw [itR_s (by omega), ← hs]; unfold mwkS; rw [if_neg (show ¬ (¬ mr_rd (M 1) k x2 (x3 + 2 * absz (k - x1)) (-1) = -1 ∧ (mr_rd (M 1) k x2 (x3 + 2 * absz (k - x1)) (-1) < sn ∨ (mr_rd (M 1) k x2 (x3 + 2 * absz (k - x1)) (-1) = sn ∧ 2 * absz (k - x1) < le))) from by omega)]), (show (-1 ≤ sn ∧ sn ≤ 1000000) ∧ (0 ≤ le ∧ le ≤ 1000000) from by omega), (show va_P (dC, dI) vwCl (wMo g q (m78 M (itR (wk78 (M 1) x1 x2 x3) (M 0 7, M 0 8) (k + 1)))) H from by rw [show (m78 M (itR (wk78 (M 1) x1 x2 x3) (M 0 7, M 0 8) (k + 1))) = m78 M (wk78 (M 1) x1 x2 x3 k (itR (wk78 (M 1) x1 x2 x3) (M 0 7, M 0 8) k)) from by rw [itR_s (by omega)]]; exact hP), (show va_D A (wMo g q (m78 M (itR (wk78 (M 1) x1 x2 x3) (M 0 7, M 0 8) (k + 1)))) from by rw [show (m78 M (itR (wk78 (M 1) x1 x2 x3) (M 0 7, M 0 8) (k + 1))) = m78 M (wk78 (M 1) x1 x2 x3 k (itR (wk78 (M 1) x1 x2 x3) (M 0 7, M 0 8) k)) from by rw [itR_s (by omega)]]; exact hD), hS, lv_sub hl [7, 8, 9, 10, 11, 3, 2, 1, 0] rfl⟩ (by show (M 1 1 + 1 - (k + 1)).toNat < (M 1 1 + 1 - k).toNat; omega)
                · refine lv_iload hx hb dX6_walk_105 (lv_at hl 0 rfl) ?_
                  refine lv_iload hx hb dX6_walk_107 (lv_at hl 8 rfl) ?_
                  refine q_icmp_lt (tgt := 126) hx hb dX6_walk_109 (by decide) (by omega) (fun c_13 => ?_) (fun c_13 => ?_)
                  · refine q_iconst hx hb dX6_walk_126 ?_
                    refine lv_goto (tgt := 131) hx hb dX6_walk_127 (by decide) ?_
                    refine lv_istore (lv' := [(11, .int (zI 1)), (10, .int (zI (mr_rd (M 1) k x2 (x3 + 2 * absz (k - x1)) (-1)))), (9, .int (zI (2 * absz (k - x1)))), (0, .ref (q 0)), (1, .int (zI x1)), (2, .int (zI x2)), (3, .int (zI x3)), (4, .int (zI x4)), (5, .int (zI bs)), (6, .int (zI sn)), (7, .int (zI le)), (8, .int (zI k))]) hx hb dX6_walk_131 hl (by decide) rfl (fun ls hl => ?_)
                    refine lv_iload hx hb dX6_walk_133 (lv_at hl 0 rfl) ?_
                    refine q_if_eqF (tgt := 143) hx hb dX6_walk_135 (by decide) (by decide) ?_
                    refine lv_iload hx hb dX6_walk_138 (lv_at hl 11 rfl) ?_
                    refine lv_goto (tgt := 145) hx hb dX6_walk_140 (by decide) ?_
                    refine lv_istore (lv' := [(5, .int (zI k)), (11, .int (zI 1)), (10, .int (zI (mr_rd (M 1) k x2 (x3 + 2 * absz (k - x1)) (-1)))), (9, .int (zI (2 * absz (k - x1)))), (0, .ref (q 0)), (1, .int (zI x1)), (2, .int (zI x2)), (3, .int (zI x3)), (4, .int (zI x4)), (6, .int (zI sn)), (7, .int (zI le)), (8, .int (zI k))]) hx hb dX6_walk_145 hl (by decide) rfl (fun ls hl => ?_)
                    refine lv_iload hx hb dX6_walk_147 (lv_at hl 1 rfl) ?_
                    refine q_if_eqF (tgt := 157) hx hb dX6_walk_149 (by decide) (by decide) ?_
                    refine lv_iload hx hb dX6_walk_152 (lv_at hl 2 rfl) ?_
                    refine lv_goto (tgt := 159) hx hb dX6_walk_154 (by decide) ?_
                    refine lv_istore (lv' := [(6, .int (zI (mr_rd (M 1) k x2 (x3 + 2 * absz (k - x1)) (-1)))), (5, .int (zI k)), (11, .int (zI 1)), (10, .int (zI (mr_rd (M 1) k x2 (x3 + 2 * absz (k - x1)) (-1)))), (9, .int (zI (2 * absz (k - x1)))), (0, .ref (q 0)), (1, .int (zI x1)), (2, .int (zI x2)), (3, .int (zI x3)), (4, .int (zI x4)), (7, .int (zI le)), (8, .int (zI k))]) hx hb dX6_walk_159 hl (by decide) rfl (fun ls hl => ?_)
                    refine lv_iload hx hb dX6_walk_161 (lv_at hl 2 rfl) ?_
                    refine q_if_eqF (tgt := 171) hx hb dX6_walk_163 (by decide) (by decide) ?_
                    refine lv_iload hx hb dX6_walk_166 (lv_at hl 4 rfl) ?_
                    refine lv_goto (tgt := 173) hx hb dX6_walk_168 (by decide) ?_
                    refine lv_istore (lv' := [(7, .int (zI (2 * absz (k - x1)))), (6, .int (zI (mr_rd (M 1) k x2 (x3 + 2 * absz (k - x1)) (-1)))), (5, .int (zI k)), (11, .int (zI 1)), (10, .int (zI (mr_rd (M 1) k x2 (x3 + 2 * absz (k - x1)) (-1)))), (9, .int (zI (2 * absz (k - x1)))), (0, .ref (q 0)), (1, .int (zI x1)), (2, .int (zI x2)), (3, .int (zI x3)), (4, .int (zI x4)), (8, .int (zI k))]) hx hb dX6_walk_173 hl (by decide) rfl (fun ls hl => ?_)
                    refine lv_iinc (v := zI (k + 1)) (lv' := [(8, .int (zI (k + 1))), (7, .int (zI (2 * absz (k - x1)))), (6, .int (zI (mr_rd (M 1) k x2 (x3 + 2 * absz (k - x1)) (-1)))), (5, .int (zI k)), (11, .int (zI 1)), (10, .int (zI (mr_rd (M 1) k x2 (x3 + 2 * absz (k - x1)) (-1)))), (9, .int (zI (2 * absz (k - x1)))), (0, .ref (q 0)), (1, .int (zI x1)), (2, .int (zI x2)), (3, .int (zI x3)), (4, .int (zI x4))]) hx hb dX6_walk_175 hl (k := 11) rfl (zI_add _ _) (by decide) rfl (fun ls hl => ?_)
                    refine lv_goto (tgt := 53) hx hb dX6_walk_178 (by decide) ?_
                    exact ih53 (k + 1, k, mr_rd (M 1) k x2 (x3 + 2 * absz (k - x1)) (-1), 2 * absz (k - x1)) _ _ ls ⟨(show 0 ≤ (k + 1) ∧ (k + 1) ≤ M 1 1 + 1 from by omega), (show (k, (mr_rd (M 1) k x2 (x3 + 2 * absz (k - x1)) (-1)), (2 * absz (k - x1))) = mwkR (M 1) x1 x2 x3 (k + 1) from by unfold mwkR at hs ⊢; rw [itR_s (by omega), ← hs]; unfold mwkS; rw [if_pos (show ¬ mr_rd (M 1) k x2 (x3 + 2 * absz (k - x1)) (-1) = -1 ∧ (mr_rd (M 1) k x2 (x3 + 2 * absz (k - x1)) (-1) < sn ∨ (mr_rd (M 1) k x2 (x3 + 2 * absz (k - x1)) (-1) = sn ∧ 2 * absz (k - x1) < le)) from by omega)]), (show (-1 ≤ (mr_rd (M 1) k x2 (x3 + 2 * absz (k - x1)) (-1)) ∧ (mr_rd (M 1) k x2 (x3 + 2 * absz (k - x1)) (-1)) ≤ 1000000) ∧ (0 ≤ (2 * absz (k - x1)) ∧ (2 * absz (k - x1)) ≤ 1000000) from by omega), (show va_P (dC, dI) vwCl (wMo g q (m78 M (itR (wk78 (M 1) x1 x2 x3) (M 0 7, M 0 8) (k + 1)))) H from by rw [show (m78 M (itR (wk78 (M 1) x1 x2 x3) (M 0 7, M 0 8) (k + 1))) = m78 M (wk78 (M 1) x1 x2 x3 k (itR (wk78 (M 1) x1 x2 x3) (M 0 7, M 0 8) k)) from by rw [itR_s (by omega)]]; exact hP), (show va_D A (wMo g q (m78 M (itR (wk78 (M 1) x1 x2 x3) (M 0 7, M 0 8) (k + 1)))) from by rw [show (m78 M (itR (wk78 (M 1) x1 x2 x3) (M 0 7, M 0 8) (k + 1))) = m78 M (wk78 (M 1) x1 x2 x3 k (itR (wk78 (M 1) x1 x2 x3) (M 0 7, M 0 8) k)) from by rw [itR_s (by omega)]]; exact hD), hS, lv_sub hl [7, 8, 9, 10, 11, 3, 2, 1, 0] rfl⟩ (by show (M 1 1 + 1 - (k + 1)).toNat < (M 1 1 + 1 - k).toNat; omega)
                  · refine lv_iload hx hb dX6_walk_112 (lv_at hl 0 rfl) ?_
                    refine lv_iload hx hb dX6_walk_114 (lv_at hl 8 rfl) ?_
                    refine q_icmp_ne (tgt := 130) hx hb dX6_walk_116 (by decide) (by omega) (fun c_14 => ?_) (fun c_14 => ?_)
                    · refine q_iconst hx hb dX6_walk_130 ?_
                      refine lv_istore (lv' := [(11, .int (zI 0)), (10, .int (zI (mr_rd (M 1) k x2 (x3 + 2 * absz (k - x1)) (-1)))), (9, .int (zI (2 * absz (k - x1)))), (0, .ref (q 0)), (1, .int (zI x1)), (2, .int (zI x2)), (3, .int (zI x3)), (4, .int (zI x4)), (5, .int (zI bs)), (6, .int (zI sn)), (7, .int (zI le)), (8, .int (zI k))]) hx hb dX6_walk_131 hl (by decide) rfl (fun ls hl => ?_)
                      refine lv_iload hx hb dX6_walk_133 (lv_at hl 0 rfl) ?_
                      refine q_if_eqT (tgt := 143) hx hb dX6_walk_135 (by decide) (by decide) ?_
                      refine lv_iload hx hb dX6_walk_143 (lv_at hl 8 rfl) ?_
                      refine lv_istore (lv' := [(5, .int (zI bs)), (11, .int (zI 0)), (10, .int (zI (mr_rd (M 1) k x2 (x3 + 2 * absz (k - x1)) (-1)))), (9, .int (zI (2 * absz (k - x1)))), (0, .ref (q 0)), (1, .int (zI x1)), (2, .int (zI x2)), (3, .int (zI x3)), (4, .int (zI x4)), (6, .int (zI sn)), (7, .int (zI le)), (8, .int (zI k))]) hx hb dX6_walk_145 hl (by decide) rfl (fun ls hl => ?_)
                      refine lv_iload hx hb dX6_walk_147 (lv_at hl 1 rfl) ?_
                      refine q_if_eqT (tgt := 157) hx hb dX6_walk_149 (by decide) (by decide) ?_
                      refine lv_iload hx hb dX6_walk_157 (lv_at hl 9 rfl) ?_
                      refine lv_istore (lv' := [(6, .int (zI sn)), (5, .int (zI bs)), (11, .int (zI 0)), (10, .int (zI (mr_rd (M 1) k x2 (x3 + 2 * absz (k - x1)) (-1)))), (9, .int (zI (2 * absz (k - x1)))), (0, .ref (q 0)), (1, .int (zI x1)), (2, .int (zI x2)), (3, .int (zI x3)), (4, .int (zI x4)), (7, .int (zI le)), (8, .int (zI k))]) hx hb dX6_walk_159 hl (by decide) rfl (fun ls hl => ?_)
                      refine lv_iload hx hb dX6_walk_161 (lv_at hl 2 rfl) ?_
                      refine q_if_eqT (tgt := 171) hx hb dX6_walk_163 (by decide) (by decide) ?_
                      refine lv_iload hx hb dX6_walk_171 (lv_at hl 10 rfl) ?_
                      refine lv_istore (lv' := [(7, .int (zI le)), (6, .int (zI sn)), (5, .int (zI bs)), (11, .int (zI 0)), (10, .int (zI (mr_rd (M 1) k x2 (x3 + 2 * absz (k - x1)) (-1)))), (9, .int (zI (2 * absz (k - x1)))), (0, .ref (q 0)), (1, .int (zI x1)), (2, .int (zI x2)), (3, .int (zI x3)), (4, .int (zI x4)), (8, .int (zI k))]) hx hb dX6_walk_173 hl (by decide) rfl (fun ls hl => ?_)
                      refine lv_iinc (v := zI (k + 1)) (lv' := [(8, .int (zI (k + 1))), (7, .int (zI le)), (6, .int (zI sn)), (5, .int (zI bs)), (11, .int (zI 0)), (10, .int (zI (mr_rd (M 1) k x2 (x3 + 2 * absz (k - x1)) (-1)))), (9, .int (zI (2 * absz (k - x1)))), (0, .ref (q 0)), (1, .int (zI x1)), (2, .int (zI x2)), (3, .int (zI x3)), (4, .int (zI x4))]) hx hb dX6_walk_175 hl (k := 11) rfl (zI_add _ _) (by decide) rfl (fun ls hl => ?_)
                      refine lv_goto (tgt := 53) hx hb dX6_walk_178 (by decide) ?_
                      exact ih53 (k + 1, bs, sn, le) _ _ ls ⟨(show 0 ≤ (k + 1) ∧ (k + 1) ≤ M 1 1 + 1 from by omega), (show (bs, sn, le) = mwkR (M 1) x1 x2 x3 (k + 1) from by unfold mwkR at hs ⊢; rw [itR_s (by omega), ← hs]; unfold mwkS; rw [if_neg (show ¬ (¬ mr_rd (M 1) k x2 (x3 + 2 * absz (k - x1)) (-1) = -1 ∧ (mr_rd (M 1) k x2 (x3 + 2 * absz (k - x1)) (-1) < sn ∨ (mr_rd (M 1) k x2 (x3 + 2 * absz (k - x1)) (-1) = sn ∧ 2 * absz (k - x1) < le))) from by omega)]), (show (-1 ≤ sn ∧ sn ≤ 1000000) ∧ (0 ≤ le ∧ le ≤ 1000000) from by omega), (show va_P (dC, dI) vwCl (wMo g q (m78 M (itR (wk78 (M 1) x1 x2 x3) (M 0 7, M 0 8) (k + 1)))) H from by rw [show (m78 M (itR (wk78 (M 1) x1 x2 x3) (M 0 7, M 0 8) (k + 1))) = m78 M (wk78 (M 1) x1 x2 x3 k (itR (wk78 (M 1) x1 x2 x3) (M 0 7, M 0 8) k)) from by rw [itR_s (by omega)]]; exact hP), (show va_D A (wMo g q (m78 M (itR (wk78 (M 1) x1 x2 x3) (M 0 7, M 0 8) (k + 1)))) from by rw [show (m78 M (itR (wk78 (M 1) x1 x2 x3) (M 0 7, M 0 8) (k + 1))) = m78 M (wk78 (M 1) x1 x2 x3 k (itR (wk78 (M 1) x1 x2 x3) (M 0 7, M 0 8) k)) from by rw [itR_s (by omega)]]; exact hD), hS, lv_sub hl [7, 8, 9, 10, 11, 3, 2, 1, 0] rfl⟩ (by show (M 1 1 + 1 - (k + 1)).toNat < (M 1 1 + 1 - k).toNat; omega)
                    · refine lv_iload hx hb dX6_walk_119 (lv_at hl 1 rfl) ?_
                      refine lv_iload hx hb dX6_walk_121 (lv_at hl 9 rfl) ?_
                      refine q_icmp_ge (tgt := 130) hx hb dX6_walk_123 (by decide) (by omega) (fun c_15 => ?_) (fun c_15 => ?_)
                      · refine q_iconst hx hb dX6_walk_130 ?_
                        refine lv_istore (lv' := [(11, .int (zI 0)), (10, .int (zI (mr_rd (M 1) k x2 (x3 + 2 * absz (k - x1)) (-1)))), (9, .int (zI (2 * absz (k - x1)))), (0, .ref (q 0)), (1, .int (zI x1)), (2, .int (zI x2)), (3, .int (zI x3)), (4, .int (zI x4)), (5, .int (zI bs)), (6, .int (zI sn)), (7, .int (zI le)), (8, .int (zI k))]) hx hb dX6_walk_131 hl (by decide) rfl (fun ls hl => ?_)
                        refine lv_iload hx hb dX6_walk_133 (lv_at hl 0 rfl) ?_
                        refine q_if_eqT (tgt := 143) hx hb dX6_walk_135 (by decide) (by decide) ?_
                        refine lv_iload hx hb dX6_walk_143 (lv_at hl 8 rfl) ?_
                        refine lv_istore (lv' := [(5, .int (zI bs)), (11, .int (zI 0)), (10, .int (zI (mr_rd (M 1) k x2 (x3 + 2 * absz (k - x1)) (-1)))), (9, .int (zI (2 * absz (k - x1)))), (0, .ref (q 0)), (1, .int (zI x1)), (2, .int (zI x2)), (3, .int (zI x3)), (4, .int (zI x4)), (6, .int (zI sn)), (7, .int (zI le)), (8, .int (zI k))]) hx hb dX6_walk_145 hl (by decide) rfl (fun ls hl => ?_)
                        refine lv_iload hx hb dX6_walk_147 (lv_at hl 1 rfl) ?_
                        refine q_if_eqT (tgt := 157) hx hb dX6_walk_149 (by decide) (by decide) ?_
                        refine lv_iload hx hb dX6_walk_157 (lv_at hl 9 rfl) ?_
                        refine lv_istore (lv' := [(6, .int (zI sn)), (5, .int (zI bs)), (11, .int (zI 0)), (10, .int (zI (mr_rd (M 1) k x2 (x3 + 2 * absz (k - x1)) (-1)))), (9, .int (zI (2 * absz (k - x1)))), (0, .ref (q 0)), (1, .int (zI x1)), (2, .int (zI x2)), (3, .int (zI x3)), (4, .int (zI x4)), (7, .int (zI le)), (8, .int (zI k))]) hx hb dX6_walk_159 hl (by decide) rfl (fun ls hl => ?_)
                        refine lv_iload hx hb dX6_walk_161 (lv_at hl 2 rfl) ?_
                        refine q_if_eqT (tgt := 171) hx hb dX6_walk_163 (by decide) (by decide) ?_
                        refine lv_iload hx hb dX6_walk_171 (lv_at hl 10 rfl) ?_
                        refine lv_istore (lv' := [(7, .int (zI le)), (6, .int (zI sn)), (5, .int (zI bs)), (11, .int (zI 0)), (10, .int (zI (mr_rd (M 1) k x2 (x3 + 2 * absz (k - x1)) (-1)))), (9, .int (zI (2 * absz (k - x1)))), (0, .ref (q 0)), (1, .int (zI x1)), (2, .int (zI x2)), (3, .int (zI x3)), (4, .int (zI x4)), (8, .int (zI k))]) hx hb dX6_walk_173 hl (by decide) rfl (fun ls hl => ?_)
                        refine lv_iinc (v := zI (k + 1)) (lv' := [(8, .int (zI (k + 1))), (7, .int (zI le)), (6, .int (zI sn)), (5, .int (zI bs)), (11, .int (zI 0)), (10, .int (zI (mr_rd (M 1) k x2 (x3 + 2 * absz (k - x1)) (-1)))), (9, .int (zI (2 * absz (k - x1)))), (0, .ref (q 0)), (1, .int (zI x1)), (2, .int (zI x2)), (3, .int (zI x3)), (4, .int (zI x4))]) hx hb dX6_walk_175 hl (k := 11) rfl (zI_add _ _) (by decide) rfl (fun ls hl => ?_)
                        refine lv_goto (tgt := 53) hx hb dX6_walk_178 (by decide) ?_
                        exact ih53 (k + 1, bs, sn, le) _ _ ls ⟨(show 0 ≤ (k + 1) ∧ (k + 1) ≤ M 1 1 + 1 from by omega), (show (bs, sn, le) = mwkR (M 1) x1 x2 x3 (k + 1) from by unfold mwkR at hs ⊢; rw [itR_s (by omega), ← hs]; unfold mwkS; rw [if_neg (show ¬ (¬ mr_rd (M 1) k x2 (x3 + 2 * absz (k - x1)) (-1) = -1 ∧ (mr_rd (M 1) k x2 (x3 + 2 * absz (k - x1)) (-1) < sn ∨ (mr_rd (M 1) k x2 (x3 + 2 * absz (k - x1)) (-1) = sn ∧ 2 * absz (k - x1) < le))) from by omega)]), (show (-1 ≤ sn ∧ sn ≤ 1000000) ∧ (0 ≤ le ∧ le ≤ 1000000) from by omega), (show va_P (dC, dI) vwCl (wMo g q (m78 M (itR (wk78 (M 1) x1 x2 x3) (M 0 7, M 0 8) (k + 1)))) H from by rw [show (m78 M (itR (wk78 (M 1) x1 x2 x3) (M 0 7, M 0 8) (k + 1))) = m78 M (wk78 (M 1) x1 x2 x3 k (itR (wk78 (M 1) x1 x2 x3) (M 0 7, M 0 8) k)) from by rw [itR_s (by omega)]]; exact hP), (show va_D A (wMo g q (m78 M (itR (wk78 (M 1) x1 x2 x3) (M 0 7, M 0 8) (k + 1)))) from by rw [show (m78 M (itR (wk78 (M 1) x1 x2 x3) (M 0 7, M 0 8) (k + 1))) = m78 M (wk78 (M 1) x1 x2 x3 k (itR (wk78 (M 1) x1 x2 x3) (M 0 7, M 0 8) k)) from by rw [itR_s (by omega)]]; exact hD), hS, lv_sub hl [7, 8, 9, 10, 11, 3, 2, 1, 0] rfl⟩ (by show (M 1 1 + 1 - (k + 1)).toNat < (M 1 1 + 1 - k).toNat; omega)
                      · refine q_iconst hx hb dX6_walk_126 ?_
                        refine lv_goto (tgt := 131) hx hb dX6_walk_127 (by decide) ?_
                        refine lv_istore (lv' := [(11, .int (zI 1)), (10, .int (zI (mr_rd (M 1) k x2 (x3 + 2 * absz (k - x1)) (-1)))), (9, .int (zI (2 * absz (k - x1)))), (0, .ref (q 0)), (1, .int (zI x1)), (2, .int (zI x2)), (3, .int (zI x3)), (4, .int (zI x4)), (5, .int (zI bs)), (6, .int (zI sn)), (7, .int (zI le)), (8, .int (zI k))]) hx hb dX6_walk_131 hl (by decide) rfl (fun ls hl => ?_)
                        refine lv_iload hx hb dX6_walk_133 (lv_at hl 0 rfl) ?_
                        refine q_if_eqF (tgt := 143) hx hb dX6_walk_135 (by decide) (by decide) ?_
                        refine lv_iload hx hb dX6_walk_138 (lv_at hl 11 rfl) ?_
                        refine lv_goto (tgt := 145) hx hb dX6_walk_140 (by decide) ?_
                        refine lv_istore (lv' := [(5, .int (zI k)), (11, .int (zI 1)), (10, .int (zI (mr_rd (M 1) k x2 (x3 + 2 * absz (k - x1)) (-1)))), (9, .int (zI (2 * absz (k - x1)))), (0, .ref (q 0)), (1, .int (zI x1)), (2, .int (zI x2)), (3, .int (zI x3)), (4, .int (zI x4)), (6, .int (zI sn)), (7, .int (zI le)), (8, .int (zI k))]) hx hb dX6_walk_145 hl (by decide) rfl (fun ls hl => ?_)
                        refine lv_iload hx hb dX6_walk_147 (lv_at hl 1 rfl) ?_
                        refine q_if_eqF (tgt := 157) hx hb dX6_walk_149 (by decide) (by decide) ?_
                        refine lv_iload hx hb dX6_walk_152 (lv_at hl 2 rfl) ?_
                        refine lv_goto (tgt := 159) hx hb dX6_walk_154 (by decide) ?_
                        refine lv_istore (lv' := [(6, .int (zI (mr_rd (M 1) k x2 (x3 + 2 * absz (k - x1)) (-1)))), (5, .int (zI k)), (11, .int (zI 1)), (10, .int (zI (mr_rd (M 1) k x2 (x3 + 2 * absz (k - x1)) (-1)))), (9, .int (zI (2 * absz (k - x1)))), (0, .ref (q 0)), (1, .int (zI x1)), (2, .int (zI x2)), (3, .int (zI x3)), (4, .int (zI x4)), (7, .int (zI le)), (8, .int (zI k))]) hx hb dX6_walk_159 hl (by decide) rfl (fun ls hl => ?_)
                        refine lv_iload hx hb dX6_walk_161 (lv_at hl 2 rfl) ?_
                        refine q_if_eqF (tgt := 171) hx hb dX6_walk_163 (by decide) (by decide) ?_
                        refine lv_iload hx hb dX6_walk_166 (lv_at hl 4 rfl) ?_
                        refine lv_goto (tgt := 173) hx hb dX6_walk_168 (by decide) ?_
                        refine lv_istore (lv' := [(7, .int (zI (2 * absz (k - x1)))), (6, .int (zI (mr_rd (M 1) k x2 (x3 + 2 * absz (k - x1)) (-1)))), (5, .int (zI k)), (11, .int (zI 1)), (10, .int (zI (mr_rd (M 1) k x2 (x3 + 2 * absz (k - x1)) (-1)))), (9, .int (zI (2 * absz (k - x1)))), (0, .ref (q 0)), (1, .int (zI x1)), (2, .int (zI x2)), (3, .int (zI x3)), (4, .int (zI x4)), (8, .int (zI k))]) hx hb dX6_walk_173 hl (by decide) rfl (fun ls hl => ?_)
                        refine lv_iinc (v := zI (k + 1)) (lv' := [(8, .int (zI (k + 1))), (7, .int (zI (2 * absz (k - x1)))), (6, .int (zI (mr_rd (M 1) k x2 (x3 + 2 * absz (k - x1)) (-1)))), (5, .int (zI k)), (11, .int (zI 1)), (10, .int (zI (mr_rd (M 1) k x2 (x3 + 2 * absz (k - x1)) (-1)))), (9, .int (zI (2 * absz (k - x1)))), (0, .ref (q 0)), (1, .int (zI x1)), (2, .int (zI x2)), (3, .int (zI x3)), (4, .int (zI x4))]) hx hb dX6_walk_175 hl (k := 11) rfl (zI_add _ _) (by decide) rfl (fun ls hl => ?_)
                        refine lv_goto (tgt := 53) hx hb dX6_walk_178 (by decide) ?_
                        exact ih53 (k + 1, k, mr_rd (M 1) k x2 (x3 + 2 * absz (k - x1)) (-1), 2 * absz (k - x1)) _ _ ls ⟨(show 0 ≤ (k + 1) ∧ (k + 1) ≤ M 1 1 + 1 from by omega), (show (k, (mr_rd (M 1) k x2 (x3 + 2 * absz (k - x1)) (-1)), (2 * absz (k - x1))) = mwkR (M 1) x1 x2 x3 (k + 1) from by unfold mwkR at hs ⊢; rw [itR_s (by omega), ← hs]; unfold mwkS; rw [if_pos (show ¬ mr_rd (M 1) k x2 (x3 + 2 * absz (k - x1)) (-1) = -1 ∧ (mr_rd (M 1) k x2 (x3 + 2 * absz (k - x1)) (-1) < sn ∨ (mr_rd (M 1) k x2 (x3 + 2 * absz (k - x1)) (-1) = sn ∧ 2 * absz (k - x1) < le)) from by omega)]), (show (-1 ≤ (mr_rd (M 1) k x2 (x3 + 2 * absz (k - x1)) (-1)) ∧ (mr_rd (M 1) k x2 (x3 + 2 * absz (k - x1)) (-1)) ≤ 1000000) ∧ (0 ≤ (2 * absz (k - x1)) ∧ (2 * absz (k - x1)) ≤ 1000000) from by omega), (show va_P (dC, dI) vwCl (wMo g q (m78 M (itR (wk78 (M 1) x1 x2 x3) (M 0 7, M 0 8) (k + 1)))) H from by rw [show (m78 M (itR (wk78 (M 1) x1 x2 x3) (M 0 7, M 0 8) (k + 1))) = m78 M (wk78 (M 1) x1 x2 x3 k (itR (wk78 (M 1) x1 x2 x3) (M 0 7, M 0 8) k)) from by rw [itR_s (by omega)]]; exact hP), (show va_D A (wMo g q (m78 M (itR (wk78 (M 1) x1 x2 x3) (M 0 7, M 0 8) (k + 1)))) from by rw [show (m78 M (itR (wk78 (M 1) x1 x2 x3) (M 0 7, M 0 8) (k + 1))) = m78 M (wk78 (M 1) x1 x2 x3 k (itR (wk78 (M 1) x1 x2 x3) (M 0 7, M 0 8) k)) from by rw [itR_s (by omega)]]; exact hD), hS, lv_sub hl [7, 8, 9, 10, 11, 3, 2, 1, 0] rfl⟩ (by show (M 1 1 + 1 - (k + 1)).toNat < (M 1 1 + 1 - k).toNat; omega)
          · exact ⟨(show 0 ≤ 0 ∧ 0 ≤ M 1 1 + 1 from by omega), (show (x1, 1000000, 1000000) = mwkR (M 1) x1 x2 x3 0 from rfl), (show (-1 ≤ 1000000 ∧ 1000000 ≤ 1000000) ∧ (0 ≤ 1000000 ∧ 1000000 ≤ 1000000) from by omega), (show va_P (dC, dI) vwCl (wMo g q (m78 M (itR (wk78 (M 1) x1 x2 x3) (M 0 7, M 0 8) 0))) s.heap from by rw [show (m78 M (itR (wk78 (M 1) x1 x2 x3) (M 0 7, M 0 8) 0)) = M from m78_id]; exact hP), (show va_D A (wMo g q (m78 M (itR (wk78 (M 1) x1 x2 x3) (M 0 7, M 0 8) 0))) from by rw [show (m78 M (itR (wk78 (M 1) x1 x2 x3) (M 0 7, M 0 8) 0)) = M from m78_id]; exact hD), hS, lv_sub hl [4, 5, 6, 7, 8, 3, 2, 1, 0] rfl⟩
        · refine lv_aload_n hx hb dX6_walk_34 rfl (lv_at hl 0 rfl) ?_
          refine q_cEi (z := -2) (b := (q 0)) (As := []) (rest := []) (w1 := wMo g q (mbad M)) ⟨hx, hb, hml, hown, hts⟩ hP hD hK hT hS hA (kX6_bad l dC dI g tt _ q M) (cwV 0 hts gX6_walk_X6_bad rfl rfl rfl (by decide +kernel) ⟨Nat.le_of_ble_eq_true rfl, Nat.le_of_ble_eq_true rfl⟩) 0 5 rfl rfl rfl rfl hl.1 rfl (Nat.le_of_ble_eq_true rfl) dX6_walk_35 ⟨Nat.le_of_ble_eq_true rfl, Nat.le_of_ble_eq_true rfl⟩ (fun H locs hP hD hS => ?_)
          have hPf : va_P (dC, dI) vwCl (wMo g q (m_walk M x1 x2 x3 x4)) H := by rw [(show (m_walk M x1 x2 x3 x4) = mbad M from by unfold m_walk; first | (rw [if_neg (by omega)]; done) | (rw [if_pos (by omega), show M 1 1 + 1 = k by omega]; done))]; exact hP
          have hDf : va_D A (wMo g q (m_walk M x1 x2 x3 x4)) := by rw [(show (m_walk M x1 x2 x3 x4) = mbad M from by unfold m_walk; first | (rw [if_neg (by omega)]; done) | (rw [if_pos (by omega), show M 1 1 + 1 = k by omega]; done))]; exact hD
          exact W.iret hx hb hr (fun t9 ht9 hW9 => ⟨⟨_, (), rfl, congrArg zI (show -2 = ma_walk (M 1) x1 x2 x3 x4 from by unfold ma_walk; first | (rw [if_neg (by omega)]; done) | (rw [if_pos (by omega), if_pos (by omega), show M 1 1 + 1 = k by omega, ← hs]; done) | (rw [if_pos (by omega), if_neg (by omega), show M 1 1 + 1 = k by omega, ← hs]; done)), by rw [ht9]; exact hPf, va_K.moved hW9.alike hK, hDf⟩, hS.F ht9⟩) hS.2.2 dX6_walk_38
set_option maxHeartbeats 4000000 in
set_option maxRecDepth 100000 in
theorem kX6_nextOf (l : Launch) (dC : Nat → ClassId) (dI : Nat → Nat → Nat) (g : Nat → ClassId) (tt : Nat → Nat) (x1 x2 x3 : Int) (h1 : 1 ≤ x1 ∧ x1 ≤ 30) (h2 : 0 ≤ x2 ∧ x2 ≤ 29) (h3 : 0 ≤ x3 ∧ x3 ≤ 60) : Met l yX6_nextOf wsX6_nextOf ({ frames := 0, cells := 0, slots := 0, locals := 0 }) (va_Pc [.int (zI x1), .int (zI x2), .int (zI x3)] (eS (dC, dI) (wTy g) ([]) tt)) (vp_Si (fun r => r = zI (c_nt x1 x2 x3))) 0 0 (fun _ => False) := by
  refine Met.ofW (cc := cX6_nextOf) (maxL := 4) (ret := (some .int)) (by decide) rfl ?_
  intro p e s m args below meth c s₁ B hml hv
  obtain ⟨rfl, hP, hK, hT⟩ := hv
  have hx := B.exec
  have hb := B.bytes
  have hr := B.returns
  have hts := atoms_spec (ws := wsX6_nextOf) B.pre
  have hown : s.vm.findClass RX6 = some m.cls := findClass_of_methodNamed B.named
  have hlocks := B.notSynchronized
  have hS : va_S (fun _ : Nat => False) s.heap s.heap [] := va_S.rf
  have hl := lv_entry ([.int (zI x1), .int (zI x2), .int (zI x3)]) (n := 4) (Nat.le_of_ble_eq_true rfl)
  rw [lg_entry_eq]
  generalize (lg_sl ([.int (zI x1), .int (zI x2), .int (zI x3)]) ++ List.replicate (4 - (lg_sl ([.int (zI x1), .int (zI x2), .int (zI x3)])).length) Slot.unset).toArray = ls at hl ⊢
  have hl : lv_has ls 4 [(0, .int (zI x1)), (1, .int (zI x2)), (2, .int (zI x3))] := hl
  refine lv_iload_n hx hb dX6_nextOf_0 rfl (lv_at hl 1 rfl) ?_
  refine lv_istore_n (lv' := [(3, .int (zI x2)), (0, .int (zI x1)), (1, .int (zI x2)), (2, .int (zI x3))]) hx hb dX6_nextOf_1 rfl hl (by decide) rfl (fun ls hl => ?_)
  refine w_loopP (σ := Int) (fun a9 ls => (0 ≤ a9 ∧ a9 ≤ 200) ∧ (c_nt x1 x2 x3 = c_nt x1 a9 x3) ∧ lv_has ls 4 [(0, .int (zI x1)), (1, .int (zI x2)), (2, .int (zI x3)), (3, .int (zI a9))]) (fun a9 => (x3 - a9).toNat) ?_ (x2) ?_
  · rintro v ls ⟨hv, hs, hl⟩ ih2
    have hv : 0 ≤ v ∧ v ≤ 200 := hv
    have hs : c_nt x1 x2 x3 = c_nt x1 v x3 := hs
    have hl : lv_has ls 4 [(0, .int (zI x1)), (1, .int (zI x2)), (2, .int (zI x3)), (3, .int (zI v))] := hl
    refine lv_iload_n hx hb dX6_nextOf_2 rfl (lv_at hl 3 rfl) ?_
    refine lv_iload_n hx hb dX6_nextOf_3 rfl (lv_at hl 2 rfl) ?_
    refine q_icmp_ge (tgt := 14) hx hb dX6_nextOf_4 (by decide) (by omega) (fun c_1 => ?_) (fun c_1 => ?_)
    · refine lv_iload_n hx hb dX6_nextOf_14 rfl (lv_at hl 3 rfl) ?_
      exact W.iret hx hb hr (fun t9 ht9 hW9 => ⟨_, rfl, congrArg zI (show v = c_nt x1 x2 x3 from by rw [hs, c_nt_e (by omega)]), ht9⟩) hS.2.2 dX6_nextOf_15
    · refine lv_iload_n hx hb dX6_nextOf_7 rfl (lv_at hl 3 rfl) ?_
      refine lv_iload_n hx hb dX6_nextOf_8 rfl (lv_at hl 0 rfl) ?_
      refine q_iadd hx hb dX6_nextOf_9 ?_
      refine lv_istore_n (lv' := [(3, .int (zI (v + x1))), (0, .int (zI x1)), (1, .int (zI x2)), (2, .int (zI x3))]) hx hb dX6_nextOf_10 rfl hl (by decide) rfl (fun ls hl => ?_)
      refine lv_goto (tgt := 2) hx hb dX6_nextOf_11 (by decide) ?_
      exact ih2 (v + x1) ls ⟨(show 0 ≤ (v + x1) ∧ (v + x1) ≤ 200 from by omega), (show c_nt x1 x2 x3 = c_nt x1 (v + x1) x3 from hs.trans (c_nt_s (by omega) (by omega))), lv_sub hl [1, 2, 3, 0] rfl⟩ (by show (x3 - (v + x1)).toNat < (x3 - v).toNat; omega)
  · exact ⟨(show 0 ≤ x2 ∧ x2 ≤ 200 from by omega), (show c_nt x1 x2 x3 = c_nt x1 x2 x3 from rfl), lv_sub hl [1, 2, 3, 0] rfl⟩
set_option maxHeartbeats 4000000 in
set_option maxRecDepth 100000 in
theorem kX6_ofSixty (l : Launch) (dC : Nat → ClassId) (dI : Nat → Nat → Nat) (g : Nat → ClassId) (tt : Nat → Nat) (q : Nat → Nat) (M : Nat → Int → Int) (x1 : Int) (hw : hok (M 1)) (h1 : 0 ≤ x1 ∧ x1 ≤ 29) : Met l yX6_ofSixty wsX6_ofSixty ({ frames := 1, cells := 0, slots := 0, locals := 23 }) (va_Pc [.ref (q 0), .int (zI x1)] (eS (dC, dI) (wTy g) (wMo g q M) tt)) (vp_Si (fun r => r = zI (c_t0 (M 1) x1))) 0 0 (fun _ => False) := by
  refine Met.ofW (cc := cX6_ofSixty) (maxL := 6) (ret := (some .int)) (by decide) rfl ?_
  intro p e s m args below meth c s₁ B hml hv
  obtain ⟨rfl, hP, hK, hT⟩ := hv
  have hx := B.exec
  have hb := B.bytes
  have hr := B.returns
  have hts := atoms_spec (ws := wsX6_ofSixty) B.pre
  have hown : s.vm.findClass RX6 = some m.cls := findClass_of_methodNamed B.named
  have hlocks := B.notSynchronized
  have hS : va_S (fun _ : Nat => False) s.heap s.heap [] := va_S.rf
  have hl := lv_entry ([.ref (q 0), .int (zI x1)]) (n := 6) (Nat.le_of_ble_eq_true rfl)
  rw [lg_entry_eq]
  generalize (lg_sl ([.ref (q 0), .int (zI x1)]) ++ List.replicate (6 - (lg_sl ([.ref (q 0), .int (zI x1)])).length) Slot.unset).toArray = ls at hl ⊢
  have hl : lv_has ls 6 [(0, .ref (q 0)), (1, .int (zI x1))] := hl
  have kf7 := hts (.fieldLink RX6 7 "WrongWayModel" "w" "[I") (by decide +kernel)
  have iX6 := (fun w h => List.mem_cons_of_mem _ (List.mem_append_right _ h) : ∀ w ∈ u_ws RX6 TX6 15, w ∈ wsX6_ofSixty)
  have hb0 := hw.b
  have hln := hw.ln
  refine q_iconst hx hb dX6_ofSixty_0 ?_
  refine lv_istore_n (lv' := [(2, .int (zI 0)), (0, .ref (q 0)), (1, .int (zI x1))]) hx hb dX6_ofSixty_1 rfl hl (by decide) rfl (fun ls hl => ?_)
  refine q_iconst hx hb dX6_ofSixty_2 ?_
  refine lv_istore_n (lv' := [(3, .int (zI 0)), (2, .int (zI 0)), (0, .ref (q 0)), (1, .int (zI x1))]) hx hb dX6_ofSixty_3 rfl hl (by decide) rfl (fun ls hl => ?_)
  refine w_loopP (σ := Int × Int) (fun a9 ls => (0 ≤ a9.1 ∧ a9.1 ≤ 60) ∧ (a9.2 = sumR (c_t0F (M 1) x1) a9.1) ∧ lv_has ls 6 [(0, .ref (q 0)), (1, .int (zI x1)), (2, .int (zI a9.2)), (3, .int (zI a9.1))]) (fun a9 => (60 - a9.1).toNat) ?_ (0, 0) ?_
  · rintro ⟨i, cn⟩ ls ⟨hi, hn, hl⟩ ih4
    have hi : 0 ≤ i ∧ i ≤ 60 := hi
    have hn : cn = sumR (c_t0F (M 1) x1) i := hn
    have hl : lv_has ls 6 [(0, .ref (q 0)), (1, .int (zI x1)), (2, .int (zI cn)), (3, .int (zI i))] := hl
    refine lv_iload_n hx hb dX6_ofSixty_4 rfl (lv_at hl 3 rfl) ?_
    refine q_bipush hx hb dX6_ofSixty_5 rfl ?_
    refine q_icmp_ge (tgt := 76) hx hb dX6_ofSixty_7 (by decide) (by omega) (fun c_1 => ?_) (fun c_1 => ?_)
    · refine lv_iload_n hx hb dX6_ofSixty_76 rfl (lv_at hl 2 rfl) ?_
      exact W.iret hx hb hr (fun t9 ht9 hW9 => ⟨_, rfl, congrArg zI (show cn = c_t0 (M 1) x1 from by rw [hn, show i = 60 by omega]; rfl), ht9⟩) hS.2.2 dX6_ofSixty_77
    · refine lv_aload_n hx hb dX6_ofSixty_10 rfl (lv_at hl 0 rfl) ?_
      refine va_get (D := (dC, dI)) (ci := 5) (v := .ref (q 1)) (C := RX6) (T := TX6) (N := 15) hx hb hts iX6 hown hK hP 0 rfl rfl 0 (by decide) kf7 (fun _ h9 => h9) rfl dX6_ofSixty_11 ?_
      refine q_bipush hx hb dX6_ofSixty_14 rfl ?_
      refine q_iald (F := fun k9 => M 1 k9) (v := M 1 13) hx hb hK hP 1 0 rfl rfl (by decide) (by omega) (rfl) dX6_ofSixty_16 ?_
      refine lv_aload_n hx hb dX6_ofSixty_17 rfl (lv_at hl 0 rfl) ?_
      refine va_get (D := (dC, dI)) (ci := 5) (v := .ref (q 1)) (C := RX6) (T := TX6) (N := 15) hx hb hts iX6 hown hK hP 0 rfl rfl 0 (by decide) kf7 (fun _ h9 => h9) rfl dX6_ofSixty_18 ?_
      refine q_bipush hx hb dX6_ofSixty_21 rfl ?_
      refine q_iald (F := fun k9 => M 1 k9) (v := M 1 15) hx hb hK hP 1 0 rfl rfl (by decide) (by omega) (rfl) dX6_ofSixty_23 ?_
      refine lv_iload_n hx hb dX6_ofSixty_24 rfl (lv_at hl 3 rfl) ?_
      refine q_cSi (z := c_nt (M 1 13) (M 1 15) i) (As := [.int (zI (M 1 13)), .int (zI (M 1 15)), .int (zI i)]) (rest := []) ⟨hx, hb, hml, hown, hts⟩ (kX6_nextOf l dC dI g tt (M 1 13) (M 1 15) i (by omega) (by omega) (by omega)) (va_cwS 3 hts gX6_ofSixty_X6_nextOf rfl rfl rfl (by decide +kernel) ⟨Nat.le_of_ble_eq_true rfl, Nat.le_of_ble_eq_true rfl⟩) (hP.sub (ws' := []) [] rfl) hK hT hS rfl hl.1 rfl (Nat.le_of_ble_eq_true rfl) dX6_ofSixty_25 ⟨Nat.le_of_ble_eq_true rfl, Nat.le_of_ble_eq_true rfl⟩ ?_
      have := c_nt_r (e := (M 1 13)) (a := (M 1 15)) (m := i) (by omega) (by omega) (by omega)
      refine lv_istore (lv' := [(4, .int (zI (c_nt (M 1 13) (M 1 15) i))), (0, .ref (q 0)), (1, .int (zI x1)), (2, .int (zI cn)), (3, .int (zI i))]) hx hb dX6_ofSixty_28 hl (by decide) rfl (fun ls hl => ?_)
      refine lv_aload_n hx hb dX6_ofSixty_30 rfl (lv_at hl 1 rfl) ?_
      refine va_get (D := (dC, dI)) (ci := 5) (v := .ref (q 1)) (C := RX6) (T := TX6) (N := 15) hx hb hts iX6 hown hK hP 0 rfl rfl 0 (by decide) kf7 (fun _ h9 => h9) rfl dX6_ofSixty_31 ?_
      refine q_bipush hx hb dX6_ofSixty_34 rfl ?_
      refine q_iald (F := fun k9 => M 1 k9) (v := M 1 14) hx hb hK hP 1 0 rfl rfl (by decide) (by omega) (rfl) dX6_ofSixty_36 ?_
      refine lv_aload_n hx hb dX6_ofSixty_37 rfl (lv_at hl 1 rfl) ?_
      refine va_get (D := (dC, dI)) (ci := 5) (v := .ref (q 1)) (C := RX6) (T := TX6) (N := 15) hx hb hts iX6 hown hK hP 0 rfl rfl 0 (by decide) kf7 (fun _ h9 => h9) rfl dX6_ofSixty_38 ?_
      refine q_bipush hx hb dX6_ofSixty_41 rfl ?_
      refine q_iald (F := fun k9 => M 1 k9) (v := M 1 16) hx hb hK hP 1 0 rfl rfl (by decide) (by omega) (rfl) dX6_ofSixty_43 ?_
      refine lv_iload_n hx hb dX6_ofSixty_44 rfl (lv_at hl 2 rfl) ?_
      refine q_iadd hx hb dX6_ofSixty_45 ?_
      refine q_bipush hx hb dX6_ofSixty_46 rfl ?_
      refine q_irem hx hb dX6_ofSixty_48 (by omega) ?_
      refine lv_iload_n hx hb dX6_ofSixty_49 rfl (lv_at hl 4 rfl) ?_
      refine q_cSi (z := c_nt (M 1 14) (((M 1 16) + x1) % 30) i) (As := [.int (zI (M 1 14)), .int (zI (((M 1 16) + x1) % 30)), .int (zI i)]) (rest := []) ⟨hx, hb, hml, hown, hts⟩ (kX6_nextOf l dC dI g tt (M 1 14) (((M 1 16) + x1) % 30) i (by omega) (by omega) (by omega)) (va_cwS 3 hts gX6_ofSixty_X6_nextOf rfl rfl rfl (by decide +kernel) ⟨Nat.le_of_ble_eq_true rfl, Nat.le_of_ble_eq_true rfl⟩) (hP.sub (ws' := []) [] rfl) hK hT hS rfl hl.1 rfl (Nat.le_of_ble_eq_true rfl) dX6_ofSixty_50 ⟨Nat.le_of_ble_eq_true rfl, Nat.le_of_ble_eq_true rfl⟩ ?_
      have := c_nt_r (e := (M 1 14)) (a := (((M 1 16) + x1) % 30)) (m := i) (by omega) (by omega) (by omega)
      refine lv_istore (lv' := [(5, .int (zI (c_nt (M 1 14) (((M 1 16) + x1) % 30) i))), (4, .int (zI (c_nt (M 1 13) (M 1 15) i))), (0, .ref (q 0)), (1, .int (zI x1)), (2, .int (zI cn)), (3, .int (zI i))]) hx hb dX6_ofSixty_53 hl (by decide) rfl (fun ls hl => ?_)
      refine lv_iload_n hx hb dX6_ofSixty_55 rfl (lv_at hl 4 rfl) ?_
      refine lv_iload hx hb dX6_ofSixty_56 (lv_at hl 1 rfl) ?_
      refine lv_iload hx hb dX6_ofSixty_58 (lv_at hl 0 rfl) ?_
      refine q_icmp_gt (tgt := 67) hx hb dX6_ofSixty_60 (by decide) (by omega) (fun c_2 => ?_) (fun c_2 => ?_)
      · refine q_iconst hx hb dX6_ofSixty_67 ?_
        refine q_iadd hx hb dX6_ofSixty_68 ?_
        refine lv_istore_n (lv' := [(2, .int (zI (cn + 0))), (5, .int (zI (c_nt (M 1 14) (((M 1 16) + x1) % 30) i))), (4, .int (zI (c_nt (M 1 13) (M 1 15) i))), (0, .ref (q 0)), (1, .int (zI x1)), (3, .int (zI i))]) hx hb dX6_ofSixty_69 rfl hl (by decide) rfl (fun ls hl => ?_)
        refine lv_iinc (v := zI (i + 1)) (lv' := [(3, .int (zI (i + 1))), (2, .int (zI (cn + 0))), (5, .int (zI (c_nt (M 1 14) (((M 1 16) + x1) % 30) i))), (4, .int (zI (c_nt (M 1 13) (M 1 15) i))), (0, .ref (q 0)), (1, .int (zI x1))]) hx hb dX6_ofSixty_70 hl (k := 5) rfl (zI_add _ _) (by decide) rfl (fun ls hl => ?_)
        refine lv_goto (tgt := 4) hx hb dX6_ofSixty_73 (by decide) ?_
        exact ih4 (i + 1, cn + 0) ls ⟨(show 0 ≤ (i + 1) ∧ (i + 1) ≤ 60 from by omega), (show (cn + 0) = sumR (c_t0F (M 1) x1) (i + 1) from by rw [sumR_s (by omega), c_t0F, bz_f (by omega)]; omega), lv_sub hl [4, 5, 1, 0] rfl⟩ (by show (60 - (i + 1)).toNat < (60 - i).toNat; omega)
      · refine q_iconst hx hb dX6_ofSixty_63 ?_
        refine lv_goto (tgt := 68) hx hb dX6_ofSixty_64 (by decide) ?_
        refine q_iadd hx hb dX6_ofSixty_68 ?_
        refine lv_istore_n (lv' := [(2, .int (zI (cn + 1))), (5, .int (zI (c_nt (M 1 14) (((M 1 16) + x1) % 30) i))), (4, .int (zI (c_nt (M 1 13) (M 1 15) i))), (0, .ref (q 0)), (1, .int (zI x1)), (3, .int (zI i))]) hx hb dX6_ofSixty_69 rfl hl (by decide) rfl (fun ls hl => ?_)
        refine lv_iinc (v := zI (i + 1)) (lv' := [(3, .int (zI (i + 1))), (2, .int (zI (cn + 1))), (5, .int (zI (c_nt (M 1 14) (((M 1 16) + x1) % 30) i))), (4, .int (zI (c_nt (M 1 13) (M 1 15) i))), (0, .ref (q 0)), (1, .int (zI x1))]) hx hb dX6_ofSixty_70 hl (k := 5) rfl (zI_add _ _) (by decide) rfl (fun ls hl => ?_)
        refine lv_goto (tgt := 4) hx hb dX6_ofSixty_73 (by decide) ?_
        exact ih4 (i + 1, cn + 1) ls ⟨(show 0 ≤ (i + 1) ∧ (i + 1) ≤ 60 from by omega), (show (cn + 1) = sumR (c_t0F (M 1) x1) (i + 1) from by rw [sumR_s (by omega), c_t0F, bz_t (by omega)]; omega), lv_sub hl [4, 5, 1, 0] rfl⟩ (by show (60 - (i + 1)).toNat < (60 - i).toNat; omega)
  · exact ⟨(show 0 ≤ 0 ∧ 0 ≤ 60 from by omega), (show 0 = sumR (c_t0F (M 1) x1) 0 from rfl), lv_sub hl [2, 3, 1, 0] rfl⟩
set_option maxHeartbeats 4000000 in
set_option maxRecDepth 100000 in
theorem kX6_lines (l : Launch) (dC : Nat → ClassId) (dI : Nat → Nat → Nat) (g : Nat → ClassId) (tt : Nat → Nat) (sz : Nat) (q : Nat → Nat) (M : Nat → Int → Int) (hw : hok (M 1)) : Met l yX6_lines wsX6_lines ({ frames := 2, cells := 0, slots := 0, locals := 48 }) (va_Pc [.ref (q 0)] (eQ (dC, dI) (wTy g) (wMo g q M) tt sz)) (va_Qi (fun r (_ : Unit) => r = zI (1)) (fQ (dC, dI) (wTy g) (va_A (wMo g q M) sz) (wMo g q (m_tel M (c_t0 (M 1) 0) 60))) (va_A (wMo g q M) sz)) 0 0 (va_A (wMo g q M) sz) := by
  refine Met.ofW (cc := cX6_lines) (maxL := 1) (ret := (some .int)) (by decide) rfl ?_
  intro p e s m args below meth c s₁ B hml hv
  obtain ⟨rfl, hsz, hP, hK, hD0, hT⟩ := hv
  have hx := B.exec
  have hb := B.bytes
  have hr := B.returns
  have hts := atoms_spec (ws := wsX6_lines) B.pre
  have hown : s.vm.findClass RX6 = some m.cls := findClass_of_methodNamed B.named
  have hlocks := B.notSynchronized
  subst hsz
  have hD := hD0.self (sz := s.heap.size)
  generalize hAe : va_A (wMo g q M) s.heap.size = A at hD hT ⊢
  have hA : ∀ q : Nat, s.heap.size ≤ q → A q := fun q h => by rw [← hAe]; exact Or.inr h
  have hS : va_S A s.heap s.heap [] := va_S.rf
  have hl := lv_entry ([.ref (q 0)]) (n := 1) (Nat.le_of_ble_eq_true rfl)
  rw [lg_entry_eq]
  generalize (lg_sl ([.ref (q 0)]) ++ List.replicate (1 - (lg_sl ([.ref (q 0)])).length) Slot.unset).toArray = ls at hl ⊢
  have hl : lv_has ls 1 [(0, .ref (q 0))] := hl
  have kc194 := hts (.constantLong RX6 194 (60)) (by decide +kernel)
  have hb0 := hw.b
  refine lv_aload_n hx hb dX6_lines_0 rfl (lv_at hl 0 rfl) ?_
  refine lv_aload_n hx hb dX6_lines_1 rfl (lv_at hl 0 rfl) ?_
  refine q_iconst hx hb dX6_lines_2 ?_
  refine q_cVi (z := c_t0 (M 1) 0) (b := (q 0)) (As := [.int (zI 0)]) (rest := [.ref (q 0)]) ⟨hx, hb, hml, hown, hts⟩ (kX6_ofSixty l dC dI g tt q M 0 (hw) (by omega)) (cwV 1 hts gX6_lines_X6_ofSixty rfl rfl rfl (by decide +kernel) ⟨Nat.le_of_ble_eq_true rfl, Nat.le_of_ble_eq_true rfl⟩) hP hK hT hS 0 5 rfl rfl rfl rfl hl.1 rfl (Nat.le_of_ble_eq_true rfl) dX6_lines_3 ⟨Nat.le_of_ble_eq_true rfl, Nat.le_of_ble_eq_true rfl⟩ ?_
  have := c_t0_r (M 1) 0
  refine q_i2l hx hb dX6_lines_6 (by omega) ?_
  refine q_ldc2 hx hb 60 hown kc194 (by decide) dX6_lines_7 ?_
  refine q_cEi (z := 1) (b := (q 0)) (As := [.long (zL (c_t0 (M 1) 0)), .long (zL 60)]) (rest := []) (w1 := wMo g q (m_tel M (c_t0 (M 1) 0) 60)) ⟨hx, hb, hml, hown, hts⟩ hP hD hK hT hS hA (kX6_tells l dC dI g tt _ q M (c_t0 (M 1) 0) 60 (by omega)) (cwV 2 hts gX6_lines_X6_tells rfl rfl rfl (by decide +kernel) ⟨Nat.le_of_ble_eq_true rfl, Nat.le_of_ble_eq_true rfl⟩) 0 5 rfl rfl rfl rfl hl.1 rfl (Nat.le_of_ble_eq_true rfl) dX6_lines_10 ⟨Nat.le_of_ble_eq_true rfl, Nat.le_of_ble_eq_true rfl⟩ (fun H locs hP hD hS => ?_)
  have hPf : va_P (dC, dI) vwCl (wMo g q (m_tel M (c_t0 (M 1) 0) 60)) H := by exact hP
  have hDf : va_D A (wMo g q (m_tel M (c_t0 (M 1) 0) 60)) := by exact hD
  exact W.iret hx hb hr (fun t9 ht9 hW9 => ⟨⟨_, (), rfl, congrArg zI (show 1 = 1 from rfl), by rw [ht9]; exact hPf, va_K.moved hW9.alike hK, hDf⟩, hS.F ht9⟩) hS.2.2 dX6_lines_13
set_option maxHeartbeats 4000000 in
set_option maxRecDepth 100000 in
theorem kX6_even (l : Launch) (dC : Nat → ClassId) (dI : Nat → Nat → Nat) (g : Nat → ClassId) (tt : Nat → Nat) (q : Nat → Nat) (M : Nat → Int → Int) (hw : hok (M 1)) : Met l yX6_even wsX6_even ({ frames := 2, cells := 0, slots := 0, locals := 48 }) (va_Pc [.ref (q 0)] (eS (dC, dI) (wTy g) (wMo g q M) tt)) (vp_Si (fun r => r = zI (ma_even (M 1)))) 0 0 (fun _ => False) := by
  refine Met.ofW (cc := cX6_even) (maxL := 5) (ret := (some .int)) (by decide) rfl ?_
  intro p e s m args below meth c s₁ B hml hv
  obtain ⟨rfl, hP, hK, hT⟩ := hv
  have hx := B.exec
  have hb := B.bytes
  have hr := B.returns
  have hts := atoms_spec (ws := wsX6_even) B.pre
  have hown : s.vm.findClass RX6 = some m.cls := findClass_of_methodNamed B.named
  have hlocks := B.notSynchronized
  have hS : va_S (fun _ : Nat => False) s.heap s.heap [] := va_S.rf
  have hl := lv_entry ([.ref (q 0)]) (n := 5) (Nat.le_of_ble_eq_true rfl)
  rw [lg_entry_eq]
  generalize (lg_sl ([.ref (q 0)]) ++ List.replicate (5 - (lg_sl ([.ref (q 0)])).length) Slot.unset).toArray = ls at hl ⊢
  have hl : lv_has ls 5 [(0, .ref (q 0))] := hl
  have kc187 := hts (.constant RX6 187 (1000000)) (by decide +kernel)
  have hb0 := hw.b
  refine q_iconst hx hb dX6_even_0 ?_
  refine lv_istore_n (lv' := [(1, .int (zI 0)), (0, .ref (q 0))]) hx hb dX6_even_1 rfl hl (by decide) rfl (fun ls hl => ?_)
  refine q_ldc hx hb 1000000 hown kc187 (by decide) dX6_even_2 ?_
  refine lv_istore_n (lv' := [(2, .int (zI 1000000)), (1, .int (zI 0)), (0, .ref (q 0))]) hx hb dX6_even_4 rfl hl (by decide) rfl (fun ls hl => ?_)
  refine q_iconst hx hb dX6_even_5 ?_
  refine lv_istore_n (lv' := [(3, .int (zI 0)), (2, .int (zI 1000000)), (1, .int (zI 0)), (0, .ref (q 0))]) hx hb dX6_even_6 rfl hl (by decide) rfl (fun ls hl => ?_)
  refine w_loopP (σ := Int × Int × Int) (fun a9 ls => (0 ≤ a9.1 ∧ a9.1 ≤ 30) ∧ ((a9.2.1, a9.2.2) = itR (mevS (M 1)) (0, 1000000) a9.1) ∧ (0 ≤ a9.2.2 ∧ a9.2.2 ≤ 1000000) ∧ lv_has ls 5 [(0, .ref (q 0)), (1, .int (zI a9.2.1)), (2, .int (zI a9.2.2)), (3, .int (zI a9.1))]) (fun a9 => (30 - a9.1).toNat) ?_ (0, 0, 1000000) ?_
  · rintro ⟨i, bs, bo⟩ ls ⟨hi, hs, ho, hl⟩ ih7
    have hi : 0 ≤ i ∧ i ≤ 30 := hi
    have hs : (bs, bo) = itR (mevS (M 1)) (0, 1000000) i := hs
    have ho : 0 ≤ bo ∧ bo ≤ 1000000 := ho
    have hl : lv_has ls 5 [(0, .ref (q 0)), (1, .int (zI bs)), (2, .int (zI bo)), (3, .int (zI i))] := hl
    refine lv_iload_n hx hb dX6_even_7 rfl (lv_at hl 3 rfl) ?_
    refine q_bipush hx hb dX6_even_8 rfl ?_
    refine q_icmp_ge (tgt := 69) hx hb dX6_even_10 (by decide) (by omega) (fun c_1 => ?_) (fun c_1 => ?_)
    · refine lv_iload_n hx hb dX6_even_69 rfl (lv_at hl 1 rfl) ?_
      exact W.iret hx hb hr (fun t9 ht9 hW9 => ⟨_, rfl, congrArg zI (show bs = ma_even (M 1) from by unfold ma_even; rw [show (30 : Int) = i by omega, ← hs]), ht9⟩) hS.2.2 dX6_even_70
    · refine lv_aload_n hx hb dX6_even_13 rfl (lv_at hl 0 rfl) ?_
      refine lv_iload_n hx hb dX6_even_14 rfl (lv_at hl 3 rfl) ?_
      refine q_cVi (z := c_t0 (M 1) i) (b := (q 0)) (As := [.int (zI i)]) (rest := []) ⟨hx, hb, hml, hown, hts⟩ (kX6_ofSixty l dC dI g tt q M i (hw) (by omega)) (cwV 1 hts gX6_even_X6_ofSixty rfl rfl rfl (by decide +kernel) ⟨Nat.le_of_ble_eq_true rfl, Nat.le_of_ble_eq_true rfl⟩) hP hK hT hS 0 5 rfl rfl rfl rfl hl.1 rfl (Nat.le_of_ble_eq_true rfl) dX6_even_15 ⟨Nat.le_of_ble_eq_true rfl, Nat.le_of_ble_eq_true rfl⟩ ?_
      have := c_t0_r (M 1) i
      refine q_bipush hx hb dX6_even_18 rfl ?_
      refine q_isub hx hb dX6_even_20 ?_
      refine lv_istore (lv' := [(4, .int (zI ((c_t0 (M 1) i) - 30))), (0, .ref (q 0)), (1, .int (zI bs)), (2, .int (zI bo)), (3, .int (zI i))]) hx hb dX6_even_21 hl (by decide) rfl (fun ls hl => ?_)
      refine lv_iload hx hb dX6_even_23 (lv_at hl 0 rfl) ?_
      refine q_if_ge (tgt := 34) hx hb dX6_even_25 (by decide) (by omega) (fun c_2 => ?_) (fun c_2 => ?_)
      · refine lv_iload hx hb dX6_even_34 (lv_at hl 0 rfl) ?_
        have hae := absz_r (a := c_t0 (M 1) i - 30) (b := 30) (by omega)
        rw [show (c_t0 (M 1) i) - 30 = absz (c_t0 (M 1) i - 30) from by unfold absz; split <;> omega]
        refine lv_istore (lv' := [(4, .int (zI (absz (c_t0 (M 1) i - 30)))), (0, .ref (q 0)), (1, .int (zI bs)), (2, .int (zI bo)), (3, .int (zI i))]) hx hb dX6_even_36 hl (by decide) rfl (fun ls hl => ?_)
        refine lv_iload hx hb dX6_even_38 (lv_at hl 0 rfl) ?_
        refine lv_iload_n hx hb dX6_even_40 rfl (lv_at hl 3 rfl) ?_
        refine q_icmp_ge (tgt := 48) hx hb dX6_even_41 (by decide) (by omega) (fun c_3 => ?_) (fun c_3 => ?_)
        · refine lv_iload_n hx hb dX6_even_48 rfl (lv_at hl 2 rfl) ?_
          refine lv_istore_n (lv' := [(1, .int (zI bs)), (4, .int (zI (absz (c_t0 (M 1) i - 30)))), (0, .ref (q 0)), (2, .int (zI bo)), (3, .int (zI i))]) hx hb dX6_even_49 rfl hl (by decide) rfl (fun ls hl => ?_)
          refine lv_iload hx hb dX6_even_50 (lv_at hl 1 rfl) ?_
          refine lv_iload_n hx hb dX6_even_52 rfl (lv_at hl 3 rfl) ?_
          refine q_icmp_ge (tgt := 61) hx hb dX6_even_53 (by decide) (by omega) (fun c_4 => ?_) (fun c_4 => ?_)
          · refine lv_iload_n hx hb dX6_even_61 rfl (lv_at hl 3 rfl) ?_
            refine lv_istore_n (lv' := [(2, .int (zI bo)), (1, .int (zI bs)), (4, .int (zI (absz (c_t0 (M 1) i - 30)))), (0, .ref (q 0)), (3, .int (zI i))]) hx hb dX6_even_62 rfl hl (by decide) rfl (fun ls hl => ?_)
            refine lv_iinc (v := zI (i + 1)) (lv' := [(3, .int (zI (i + 1))), (2, .int (zI bo)), (1, .int (zI bs)), (4, .int (zI (absz (c_t0 (M 1) i - 30)))), (0, .ref (q 0))]) hx hb dX6_even_63 hl (k := 4) rfl (zI_add _ _) (by decide) rfl (fun ls hl => ?_)
            refine lv_goto (tgt := 7) hx hb dX6_even_66 (by decide) ?_
            exact ih7 (i + 1, bs, bo) ls ⟨(show 0 ≤ (i + 1) ∧ (i + 1) ≤ 30 from by omega), (show (bs, bo) = itR (mevS (M 1)) (0, 1000000) (i + 1) from by rw [itR_s (by omega), ← hs]; unfold mevS; first | (rw [if_pos (show mevX (M 1) i < bo from by unfold mevX; omega)]; rfl) | (rw [if_pos (show mevX (M 1) i < bo from by unfold mevX; omega)]; done) | (rw [if_neg (show ¬ mevX (M 1) i < bo from by unfold mevX; omega)]; done) | (exfalso; omega)), (show 0 ≤ bo ∧ bo ≤ 1000000 from by omega), lv_sub hl [4, 2, 1, 0] rfl⟩ (by show (30 - (i + 1)).toNat < (30 - i).toNat; omega)
          · refine lv_iload hx hb dX6_even_56 (lv_at hl 1 rfl) ?_
            refine lv_goto (tgt := 62) hx hb dX6_even_58 (by decide) ?_
            refine lv_istore_n (lv' := [(2, .int (zI (absz (c_t0 (M 1) i - 30)))), (1, .int (zI bs)), (4, .int (zI (absz (c_t0 (M 1) i - 30)))), (0, .ref (q 0)), (3, .int (zI i))]) hx hb dX6_even_62 rfl hl (by decide) rfl (fun ls hl => ?_)
            refine lv_iinc (v := zI (i + 1)) (lv' := [(3, .int (zI (i + 1))), (2, .int (zI (absz (c_t0 (M 1) i - 30)))), (1, .int (zI bs)), (4, .int (zI (absz (c_t0 (M 1) i - 30)))), (0, .ref (q 0))]) hx hb dX6_even_63 hl (k := 4) rfl (zI_add _ _) (by decide) rfl (fun ls hl => ?_)
            refine lv_goto (tgt := 7) hx hb dX6_even_66 (by decide) ?_
            exact ih7 (i + 1, bs, absz (c_t0 (M 1) i - 30)) ls ⟨(show 0 ≤ (i + 1) ∧ (i + 1) ≤ 30 from by omega), (show (bs, (absz (c_t0 (M 1) i - 30))) = itR (mevS (M 1)) (0, 1000000) (i + 1) from by rw [itR_s (by omega), ← hs]; unfold mevS; first | (rw [if_pos (show mevX (M 1) i < bo from by unfold mevX; omega)]; rfl) | (rw [if_pos (show mevX (M 1) i < bo from by unfold mevX; omega)]; done) | (rw [if_neg (show ¬ mevX (M 1) i < bo from by unfold mevX; omega)]; done) | (exfalso; omega)), (show 0 ≤ (absz (c_t0 (M 1) i - 30)) ∧ (absz (c_t0 (M 1) i - 30)) ≤ 1000000 from by omega), lv_sub hl [4, 2, 1, 0] rfl⟩ (by show (30 - (i + 1)).toNat < (30 - i).toNat; omega)
        · refine lv_iload_n hx hb dX6_even_44 rfl (lv_at hl 4 rfl) ?_
          refine lv_goto (tgt := 49) hx hb dX6_even_45 (by decide) ?_
          refine lv_istore_n (lv' := [(1, .int (zI i)), (4, .int (zI (absz (c_t0 (M 1) i - 30)))), (0, .ref (q 0)), (2, .int (zI bo)), (3, .int (zI i))]) hx hb dX6_even_49 rfl hl (by decide) rfl (fun ls hl => ?_)
          refine lv_iload hx hb dX6_even_50 (lv_at hl 1 rfl) ?_
          refine lv_iload_n hx hb dX6_even_52 rfl (lv_at hl 3 rfl) ?_
          refine q_icmp_ge (tgt := 61) hx hb dX6_even_53 (by decide) (by omega) (fun c_5 => ?_) (fun c_5 => ?_)
          · refine lv_iload_n hx hb dX6_even_61 rfl (lv_at hl 3 rfl) ?_
            refine lv_istore_n (lv' := [(2, .int (zI bo)), (1, .int (zI i)), (4, .int (zI (absz (c_t0 (M 1) i - 30)))), (0, .ref (q 0)), (3, .int (zI i))]) hx hb dX6_even_62 rfl hl (by decide) rfl (fun ls hl => ?_)
            refine lv_iinc (v := zI (i + 1)) (lv' := [(3, .int (zI (i + 1))), (2, .int (zI bo)), (1, .int (zI i)), (4, .int (zI (absz (c_t0 (M 1) i - 30)))), (0, .ref (q 0))]) hx hb dX6_even_63 hl (k := 4) rfl (zI_add _ _) (by decide) rfl (fun ls hl => ?_)
            refine lv_goto (tgt := 7) hx hb dX6_even_66 (by decide) ?_
            exact ih7 (i + 1, i, bo) ls ⟨(show 0 ≤ (i + 1) ∧ (i + 1) ≤ 30 from by omega), (show (i, bo) = itR (mevS (M 1)) (0, 1000000) (i + 1) from by rw [itR_s (by omega), ← hs]; unfold mevS; first | (rw [if_pos (show mevX (M 1) i < bo from by unfold mevX; omega)]; rfl) | (rw [if_pos (show mevX (M 1) i < bo from by unfold mevX; omega)]; done) | (rw [if_neg (show ¬ mevX (M 1) i < bo from by unfold mevX; omega)]; done) | (exfalso; omega)), (show 0 ≤ bo ∧ bo ≤ 1000000 from by omega), lv_sub hl [4, 2, 1, 0] rfl⟩ (by show (30 - (i + 1)).toNat < (30 - i).toNat; omega)
          · refine lv_iload hx hb dX6_even_56 (lv_at hl 1 rfl) ?_
            refine lv_goto (tgt := 62) hx hb dX6_even_58 (by decide) ?_
            refine lv_istore_n (lv' := [(2, .int (zI (absz (c_t0 (M 1) i - 30)))), (1, .int (zI i)), (4, .int (zI (absz (c_t0 (M 1) i - 30)))), (0, .ref (q 0)), (3, .int (zI i))]) hx hb dX6_even_62 rfl hl (by decide) rfl (fun ls hl => ?_)
            refine lv_iinc (v := zI (i + 1)) (lv' := [(3, .int (zI (i + 1))), (2, .int (zI (absz (c_t0 (M 1) i - 30)))), (1, .int (zI i)), (4, .int (zI (absz (c_t0 (M 1) i - 30)))), (0, .ref (q 0))]) hx hb dX6_even_63 hl (k := 4) rfl (zI_add _ _) (by decide) rfl (fun ls hl => ?_)
            refine lv_goto (tgt := 7) hx hb dX6_even_66 (by decide) ?_
            exact ih7 (i + 1, i, absz (c_t0 (M 1) i - 30)) ls ⟨(show 0 ≤ (i + 1) ∧ (i + 1) ≤ 30 from by omega), (show (i, (absz (c_t0 (M 1) i - 30))) = itR (mevS (M 1)) (0, 1000000) (i + 1) from by rw [itR_s (by omega), ← hs]; unfold mevS; first | (rw [if_pos (show mevX (M 1) i < bo from by unfold mevX; omega)]; rfl) | (rw [if_pos (show mevX (M 1) i < bo from by unfold mevX; omega)]; done) | (rw [if_neg (show ¬ mevX (M 1) i < bo from by unfold mevX; omega)]; done) | (exfalso; omega)), (show 0 ≤ (absz (c_t0 (M 1) i - 30)) ∧ (absz (c_t0 (M 1) i - 30)) ≤ 1000000 from by omega), lv_sub hl [4, 2, 1, 0] rfl⟩ (by show (30 - (i + 1)).toNat < (30 - i).toNat; omega)
      · refine lv_iload hx hb dX6_even_28 (lv_at hl 0 rfl) ?_
        refine q_ineg hx hb dX6_even_30 ?_
        refine lv_goto (tgt := 36) hx hb dX6_even_31 (by decide) ?_
        have hae := absz_r (a := c_t0 (M 1) i - 30) (b := 30) (by omega)
        rw [show -((c_t0 (M 1) i) - 30) = absz (c_t0 (M 1) i - 30) from by unfold absz; split <;> omega]
        refine lv_istore (lv' := [(4, .int (zI (absz (c_t0 (M 1) i - 30)))), (0, .ref (q 0)), (1, .int (zI bs)), (2, .int (zI bo)), (3, .int (zI i))]) hx hb dX6_even_36 hl (by decide) rfl (fun ls hl => ?_)
        refine lv_iload hx hb dX6_even_38 (lv_at hl 0 rfl) ?_
        refine lv_iload_n hx hb dX6_even_40 rfl (lv_at hl 3 rfl) ?_
        refine q_icmp_ge (tgt := 48) hx hb dX6_even_41 (by decide) (by omega) (fun c_6 => ?_) (fun c_6 => ?_)
        · refine lv_iload_n hx hb dX6_even_48 rfl (lv_at hl 2 rfl) ?_
          refine lv_istore_n (lv' := [(1, .int (zI bs)), (4, .int (zI (absz (c_t0 (M 1) i - 30)))), (0, .ref (q 0)), (2, .int (zI bo)), (3, .int (zI i))]) hx hb dX6_even_49 rfl hl (by decide) rfl (fun ls hl => ?_)
          refine lv_iload hx hb dX6_even_50 (lv_at hl 1 rfl) ?_
          refine lv_iload_n hx hb dX6_even_52 rfl (lv_at hl 3 rfl) ?_
          refine q_icmp_ge (tgt := 61) hx hb dX6_even_53 (by decide) (by omega) (fun c_7 => ?_) (fun c_7 => ?_)
          · refine lv_iload_n hx hb dX6_even_61 rfl (lv_at hl 3 rfl) ?_
            refine lv_istore_n (lv' := [(2, .int (zI bo)), (1, .int (zI bs)), (4, .int (zI (absz (c_t0 (M 1) i - 30)))), (0, .ref (q 0)), (3, .int (zI i))]) hx hb dX6_even_62 rfl hl (by decide) rfl (fun ls hl => ?_)
            refine lv_iinc (v := zI (i + 1)) (lv' := [(3, .int (zI (i + 1))), (2, .int (zI bo)), (1, .int (zI bs)), (4, .int (zI (absz (c_t0 (M 1) i - 30)))), (0, .ref (q 0))]) hx hb dX6_even_63 hl (k := 4) rfl (zI_add _ _) (by decide) rfl (fun ls hl => ?_)
            refine lv_goto (tgt := 7) hx hb dX6_even_66 (by decide) ?_
            exact ih7 (i + 1, bs, bo) ls ⟨(show 0 ≤ (i + 1) ∧ (i + 1) ≤ 30 from by omega), (show (bs, bo) = itR (mevS (M 1)) (0, 1000000) (i + 1) from by rw [itR_s (by omega), ← hs]; unfold mevS; first | (rw [if_pos (show mevX (M 1) i < bo from by unfold mevX; omega)]; rfl) | (rw [if_pos (show mevX (M 1) i < bo from by unfold mevX; omega)]; done) | (rw [if_neg (show ¬ mevX (M 1) i < bo from by unfold mevX; omega)]; done) | (exfalso; omega)), (show 0 ≤ bo ∧ bo ≤ 1000000 from by omega), lv_sub hl [4, 2, 1, 0] rfl⟩ (by show (30 - (i + 1)).toNat < (30 - i).toNat; omega)
          · refine lv_iload hx hb dX6_even_56 (lv_at hl 1 rfl) ?_
            refine lv_goto (tgt := 62) hx hb dX6_even_58 (by decide) ?_
            refine lv_istore_n (lv' := [(2, .int (zI (absz (c_t0 (M 1) i - 30)))), (1, .int (zI bs)), (4, .int (zI (absz (c_t0 (M 1) i - 30)))), (0, .ref (q 0)), (3, .int (zI i))]) hx hb dX6_even_62 rfl hl (by decide) rfl (fun ls hl => ?_)
            refine lv_iinc (v := zI (i + 1)) (lv' := [(3, .int (zI (i + 1))), (2, .int (zI (absz (c_t0 (M 1) i - 30)))), (1, .int (zI bs)), (4, .int (zI (absz (c_t0 (M 1) i - 30)))), (0, .ref (q 0))]) hx hb dX6_even_63 hl (k := 4) rfl (zI_add _ _) (by decide) rfl (fun ls hl => ?_)
            refine lv_goto (tgt := 7) hx hb dX6_even_66 (by decide) ?_
            exact ih7 (i + 1, bs, absz (c_t0 (M 1) i - 30)) ls ⟨(show 0 ≤ (i + 1) ∧ (i + 1) ≤ 30 from by omega), (show (bs, (absz (c_t0 (M 1) i - 30))) = itR (mevS (M 1)) (0, 1000000) (i + 1) from by rw [itR_s (by omega), ← hs]; unfold mevS; first | (rw [if_pos (show mevX (M 1) i < bo from by unfold mevX; omega)]; rfl) | (rw [if_pos (show mevX (M 1) i < bo from by unfold mevX; omega)]; done) | (rw [if_neg (show ¬ mevX (M 1) i < bo from by unfold mevX; omega)]; done) | (exfalso; omega)), (show 0 ≤ (absz (c_t0 (M 1) i - 30)) ∧ (absz (c_t0 (M 1) i - 30)) ≤ 1000000 from by omega), lv_sub hl [4, 2, 1, 0] rfl⟩ (by show (30 - (i + 1)).toNat < (30 - i).toNat; omega)
        · refine lv_iload_n hx hb dX6_even_44 rfl (lv_at hl 4 rfl) ?_
          refine lv_goto (tgt := 49) hx hb dX6_even_45 (by decide) ?_
          refine lv_istore_n (lv' := [(1, .int (zI i)), (4, .int (zI (absz (c_t0 (M 1) i - 30)))), (0, .ref (q 0)), (2, .int (zI bo)), (3, .int (zI i))]) hx hb dX6_even_49 rfl hl (by decide) rfl (fun ls hl => ?_)
          refine lv_iload hx hb dX6_even_50 (lv_at hl 1 rfl) ?_
          refine lv_iload_n hx hb dX6_even_52 rfl (lv_at hl 3 rfl) ?_
          refine q_icmp_ge (tgt := 61) hx hb dX6_even_53 (by decide) (by omega) (fun c_8 => ?_) (fun c_8 => ?_)
          · refine lv_iload_n hx hb dX6_even_61 rfl (lv_at hl 3 rfl) ?_
            refine lv_istore_n (lv' := [(2, .int (zI bo)), (1, .int (zI i)), (4, .int (zI (absz (c_t0 (M 1) i - 30)))), (0, .ref (q 0)), (3, .int (zI i))]) hx hb dX6_even_62 rfl hl (by decide) rfl (fun ls hl => ?_)
            refine lv_iinc (v := zI (i + 1)) (lv' := [(3, .int (zI (i + 1))), (2, .int (zI bo)), (1, .int (zI i)), (4, .int (zI (absz (c_t0 (M 1) i - 30)))), (0, .ref (q 0))]) hx hb dX6_even_63 hl (k := 4) rfl (zI_add _ _) (by decide) rfl (fun ls hl => ?_)
            refine lv_goto (tgt := 7) hx hb dX6_even_66 (by decide) ?_
            exact ih7 (i + 1, i, bo) ls ⟨(show 0 ≤ (i + 1) ∧ (i + 1) ≤ 30 from by omega), (show (i, bo) = itR (mevS (M 1)) (0, 1000000) (i + 1) from by rw [itR_s (by omega), ← hs]; unfold mevS; first | (rw [if_pos (show mevX (M 1) i < bo from by unfold mevX; omega)]; rfl) | (rw [if_pos (show mevX (M 1) i < bo from by unfold mevX; omega)]; done) | (rw [if_neg (show ¬ mevX (M 1) i < bo from by unfold mevX; omega)]; done) | (exfalso; omega)), (show 0 ≤ bo ∧ bo ≤ 1000000 from by omega), lv_sub hl [4, 2, 1, 0] rfl⟩ (by show (30 - (i + 1)).toNat < (30 - i).toNat; omega)
          · refine lv_iload hx hb dX6_even_56 (lv_at hl 1 rfl) ?_
            refine lv_goto (tgt := 62) hx hb dX6_even_58 (by decide) ?_
            refine lv_istore_n (lv' := [(2, .int (zI (absz (c_t0 (M 1) i - 30)))), (1, .int (zI i)), (4, .int (zI (absz (c_t0 (M 1) i - 30)))), (0, .ref (q 0)), (3, .int (zI i))]) hx hb dX6_even_62 rfl hl (by decide) rfl (fun ls hl => ?_)
            refine lv_iinc (v := zI (i + 1)) (lv' := [(3, .int (zI (i + 1))), (2, .int (zI (absz (c_t0 (M 1) i - 30)))), (1, .int (zI i)), (4, .int (zI (absz (c_t0 (M 1) i - 30)))), (0, .ref (q 0))]) hx hb dX6_even_63 hl (k := 4) rfl (zI_add _ _) (by decide) rfl (fun ls hl => ?_)
            refine lv_goto (tgt := 7) hx hb dX6_even_66 (by decide) ?_
            exact ih7 (i + 1, i, absz (c_t0 (M 1) i - 30)) ls ⟨(show 0 ≤ (i + 1) ∧ (i + 1) ≤ 30 from by omega), (show (i, (absz (c_t0 (M 1) i - 30))) = itR (mevS (M 1)) (0, 1000000) (i + 1) from by rw [itR_s (by omega), ← hs]; unfold mevS; first | (rw [if_pos (show mevX (M 1) i < bo from by unfold mevX; omega)]; rfl) | (rw [if_pos (show mevX (M 1) i < bo from by unfold mevX; omega)]; done) | (rw [if_neg (show ¬ mevX (M 1) i < bo from by unfold mevX; omega)]; done) | (exfalso; omega)), (show 0 ≤ (absz (c_t0 (M 1) i - 30)) ∧ (absz (c_t0 (M 1) i - 30)) ≤ 1000000 from by omega), lv_sub hl [4, 2, 1, 0] rfl⟩ (by show (30 - (i + 1)).toNat < (30 - i).toNat; omega)
  · exact ⟨(show 0 ≤ 0 ∧ 0 ≤ 30 from by omega), (show (0, 1000000) = itR (mevS (M 1)) (0, 1000000) 0 from rfl), (show 0 ≤ 1000000 ∧ 1000000 ≤ 1000000 from by omega), lv_sub hl [3, 2, 1, 0] rfl⟩
set_option maxHeartbeats 4000000 in
set_option maxRecDepth 100000 in
theorem kX6_passes (l : Launch) (dC : Nat → ClassId) (dI : Nat → Nat → Nat) (g : Nat → ClassId) (tt : Nat → Nat) (sz : Nat) (q : Nat → Nat) (M : Nat → Int → Int) (x1 : Int) (hw : hok (M 1)) (h1 : rI x1) : Met l yX6_passes wsX6_passes ({ frames := 1, cells := 0, slots := 0, locals := 25 }) (va_Pc [.ref (q 0), .int (zI x1)] (eQ (dC, dI) (wTy g) (wMo g q M) tt sz)) (va_Qi (fun r (_ : Unit) => r = zI (ca_passes (M 1) x1)) (fQ (dC, dI) (wTy g) (va_A (wMo g q M) sz) (wMo g q (m_passes M x1))) (va_A (wMo g q M) sz)) 0 0 (va_A (wMo g q M) sz) := by
  refine Met.ofW (cc := cX6_passes) (maxL := 3) (ret := (some .int)) (by decide) rfl ?_
  intro p e s m args below meth c s₁ B hml hv
  obtain ⟨rfl, hsz, hP, hK, hD0, hT⟩ := hv
  have hx := B.exec
  have hb := B.bytes
  have hr := B.returns
  have hts := atoms_spec (ws := wsX6_passes) B.pre
  have hown : s.vm.findClass RX6 = some m.cls := findClass_of_methodNamed B.named
  have hlocks := B.notSynchronized
  subst hsz
  have hD := hD0.self (sz := s.heap.size)
  generalize hAe : va_A (wMo g q M) s.heap.size = A at hD hT ⊢
  have hA : ∀ q : Nat, s.heap.size ≤ q → A q := fun q h => by rw [← hAe]; exact Or.inr h
  have hS : va_S A s.heap s.heap [] := va_S.rf
  have hl := lv_entry ([.ref (q 0), .int (zI x1)]) (n := 3) (Nat.le_of_ble_eq_true rfl)
  rw [lg_entry_eq]
  generalize (lg_sl ([.ref (q 0), .int (zI x1)]) ++ List.replicate (3 - (lg_sl ([.ref (q 0), .int (zI x1)])).length) Slot.unset).toArray = ls at hl ⊢
  have hl : lv_has ls 3 [(0, .ref (q 0)), (1, .int (zI x1))] := hl
  have kc48 := hts (.constantLong RX6 48 (99)) (by decide +kernel)
  have kf7 := hts (.fieldLink RX6 7 "WrongWayModel" "w" "[I") (by decide +kernel)
  have iX6 := (fun w h => List.mem_cons_of_mem _ (List.mem_append_right _ h) : ∀ w ∈ u_ws RX6 TX6 15, w ∈ wsX6_passes)
  have hb0 := hw.b
  refine lv_iload_n hx hb dX6_passes_0 rfl (lv_at hl 1 rfl) ?_
  refine q_i2l hx hb dX6_passes_1 (by omega) ?_
  refine q_lconst hx hb 1 dX6_passes_2 rfl ?_
  refine q_ldc2 hx hb 99 hown kc48 (by decide) dX6_passes_3 ?_
  refine q_cSi (z := bz (1 ≤ x1 ∧ x1 ≤ 99)) (As := [.long (zL x1), .long (zL 1), .long (zL 99)]) (rest := []) ⟨hx, hb, hml, hown, hts⟩ (kX6_in l dC dI g tt x1 1 99 (by omega)) (va_cwS 3 hts gX6_passes_X6_in rfl rfl rfl (by decide +kernel) ⟨Nat.le_of_ble_eq_true rfl, Nat.le_of_ble_eq_true rfl⟩) (hP.sub (ws' := []) [] rfl) hK hT hS rfl hl.1 rfl (Nat.le_of_ble_eq_true rfl) dX6_passes_6 ⟨Nat.le_of_ble_eq_true rfl, Nat.le_of_ble_eq_true rfl⟩ ?_
  refine q_bz_ne (tgt := 17) hx hb dX6_passes_9 (by decide) (fun c_1 => ?_) (fun c_1 => ?_)
  · refine lv_aload_n hx hb dX6_passes_17 rfl (lv_at hl 0 rfl) ?_
    refine va_get (D := (dC, dI)) (ci := 5) (v := .ref (q 1)) (C := RX6) (T := TX6) (N := 15) hx hb hts iX6 hown hK hP 0 rfl rfl 0 (by decide) kf7 (fun _ h9 => h9) rfl dX6_passes_18 ?_
    refine q_iconst hx hb dX6_passes_21 ?_
    refine q_iald (F := fun k9 => M 1 k9) (v := M 1 4) hx hb hK hP 1 0 rfl rfl (by decide) (by omega) (rfl) dX6_passes_22 ?_
    refine q_bipush hx hb dX6_passes_23 rfl ?_
    refine q_icmp_ne (tgt := 72) hx hb dX6_passes_25 (by decide) (by omega) (fun c_2 => ?_) (fun c_2 => ?_)
    · refine lv_aload_n hx hb dX6_passes_72 rfl (lv_at hl 0 rfl) ?_
      refine va_get (D := (dC, dI)) (ci := 5) (v := .ref (q 1)) (C := RX6) (T := TX6) (N := 15) hx hb hts iX6 hown hK hP 0 rfl rfl 0 (by decide) kf7 (fun _ h9 => h9) rfl dX6_passes_73 ?_
      refine q_bipush hx hb dX6_passes_76 rfl ?_
      refine lv_aload_n hx hb dX6_passes_78 rfl (lv_at hl 0 rfl) ?_
      refine va_get (D := (dC, dI)) (ci := 5) (v := .ref (q 1)) (C := RX6) (T := TX6) (N := 15) hx hb hts iX6 hown hK hP 0 rfl rfl 0 (by decide) kf7 (fun _ h9 => h9) rfl dX6_passes_79 ?_
      refine q_iconst hx hb dX6_passes_82 ?_
      refine q_iald (F := fun k9 => M 1 k9) (v := M 1 4) hx hb hK hP 1 0 rfl rfl (by decide) (by omega) (rfl) dX6_passes_83 ?_
      refine q_iadd hx hb dX6_passes_84 ?_
      refine lv_aload_n hx hb dX6_passes_85 rfl (lv_at hl 0 rfl) ?_
      refine va_get (D := (dC, dI)) (ci := 5) (v := .ref (q 1)) (C := RX6) (T := TX6) (N := 15) hx hb hts iX6 hown hK hP 0 rfl rfl 0 (by decide) kf7 (fun _ h9 => h9) rfl dX6_passes_86 ?_
      refine q_iconst hx hb dX6_passes_89 ?_
      refine q_iald (F := fun k9 => M 1 k9) (v := M 1 2) hx hb hK hP 1 0 rfl rfl (by decide) (by omega) (rfl) dX6_passes_90 ?_
      refine q_iast (F := fun k9 => M 1 k9) (v := (M 1 2)) hx hb hK hP hD hS 1 0 rfl rfl (by decide) (by omega) dX6_passes_91 (fun H locs hP hD hS => ?_)
      have hP : va_P (dC, dI) vwCl (wMo g q (mset M 1 (41 + (M 1 4)) (M 1 2))) H := hP
      have hD : va_D A (wMo g q (mset M 1 (41 + (M 1 4)) (M 1 2))) := hD
      refine lv_aload_n hx hb dX6_passes_92 rfl (lv_at hl 0 rfl) ?_
      refine va_get (D := (dC, dI)) (ci := 5) (v := .ref (q 1)) (C := RX6) (T := TX6) (N := 15) hx hb hts iX6 hown hK hP 0 rfl rfl 0 (by decide) kf7 (fun _ h9 => h9) rfl dX6_passes_93 ?_
      refine q_iconst hx hb dX6_passes_96 ?_
      refine lv_dup2_11 hx hb dX6_passes_97 rfl rfl ?_
      refine q_iald (F := fun k9 => (mset M 1 (41 + (M 1 4)) (M 1 2)) 1 k9) (v := M 1 4) hx hb hK hP 1 0 rfl rfl (by decide) (by omega) (by first | rfl | (show (mset M 1 (41 + (M 1 4)) (M 1 2)) 1 4 = M 1 4; exact (mset_ne (by omega)).trans rfl) | (show (mset M 1 (41 + (M 1 4)) (M 1 2)) 1 4 = M 1 4; exact (mset_ne (by omega)).trans ((mset_ne (by omega)).trans rfl)) | (show (mset M 1 (41 + (M 1 4)) (M 1 2)) 1 4 = M 1 4; simp only [mset]; (repeat' split) <;> first | rfl | omega)) dX6_passes_98 ?_
      refine q_iconst hx hb dX6_passes_99 ?_
      refine q_iadd hx hb dX6_passes_100 ?_
      refine q_iast (F := fun k9 => (mset M 1 (41 + (M 1 4)) (M 1 2)) 1 k9) (v := ((M 1 4) + 1)) hx hb hK hP hD hS 1 0 rfl rfl (by decide) (by omega) dX6_passes_101 (fun H locs hP hD hS => ?_)
      have hP : va_P (dC, dI) vwCl (wMo g q (mset (mset M 1 (41 + (M 1 4)) (M 1 2)) 1 4 ((M 1 4) + 1))) H := hP
      have hD : va_D A (wMo g q (mset (mset M 1 (41 + (M 1 4)) (M 1 2)) 1 4 ((M 1 4) + 1))) := hD
      refine lv_aload_n hx hb dX6_passes_102 rfl (lv_at hl 0 rfl) ?_
      refine va_get (D := (dC, dI)) (ci := 5) (v := .ref (q 1)) (C := RX6) (T := TX6) (N := 15) hx hb hts iX6 hown hK hP 0 rfl rfl 0 (by decide) kf7 (fun _ h9 => h9) rfl dX6_passes_103 ?_
      refine q_iconst hx hb dX6_passes_106 ?_
      refine lv_aload_n hx hb dX6_passes_107 rfl (lv_at hl 0 rfl) ?_
      refine va_get (D := (dC, dI)) (ci := 5) (v := .ref (q 1)) (C := RX6) (T := TX6) (N := 15) hx hb hts iX6 hown hK hP 0 rfl rfl 0 (by decide) kf7 (fun _ h9 => h9) rfl dX6_passes_108 ?_
      refine q_iconst hx hb dX6_passes_111 ?_
      refine q_iald (F := fun k9 => (mset (mset M 1 (41 + (M 1 4)) (M 1 2)) 1 4 ((M 1 4) + 1)) 1 k9) (v := M 1 2) hx hb hK hP 1 0 rfl rfl (by decide) (by omega) (by first | rfl | (show (mset (mset M 1 (41 + (M 1 4)) (M 1 2)) 1 4 ((M 1 4) + 1)) 1 2 = M 1 2; exact (mset_ne (by omega)).trans rfl) | (show (mset (mset M 1 (41 + (M 1 4)) (M 1 2)) 1 4 ((M 1 4) + 1)) 1 2 = M 1 2; exact (mset_ne (by omega)).trans ((mset_ne (by omega)).trans rfl)) | (show (mset (mset M 1 (41 + (M 1 4)) (M 1 2)) 1 4 ((M 1 4) + 1)) 1 2 = M 1 2; simp only [mset]; (repeat' split) <;> first | rfl | omega)) dX6_passes_112 ?_
      refine lv_iload_n hx hb dX6_passes_113 rfl (lv_at hl 1 rfl) ?_
      refine q_iadd hx hb dX6_passes_114 ?_
      refine q_sipush hx hb dX6_passes_115 rfl ?_
      refine q_icmp_le (tgt := 127) hx hb dX6_passes_118 (by decide) (by omega) (fun c_3 => ?_) (fun c_3 => ?_)
      · refine lv_aload_n hx hb dX6_passes_127 rfl (lv_at hl 0 rfl) ?_
        refine va_get (D := (dC, dI)) (ci := 5) (v := .ref (q 1)) (C := RX6) (T := TX6) (N := 15) hx hb hts iX6 hown hK hP 0 rfl rfl 0 (by decide) kf7 (fun _ h9 => h9) rfl dX6_passes_128 ?_
        refine q_iconst hx hb dX6_passes_131 ?_
        refine q_iald (F := fun k9 => (mset (mset M 1 (41 + (M 1 4)) (M 1 2)) 1 4 ((M 1 4) + 1)) 1 k9) (v := M 1 2) hx hb hK hP 1 0 rfl rfl (by decide) (by omega) (by first | rfl | (show (mset (mset M 1 (41 + (M 1 4)) (M 1 2)) 1 4 ((M 1 4) + 1)) 1 2 = M 1 2; exact (mset_ne (by omega)).trans rfl) | (show (mset (mset M 1 (41 + (M 1 4)) (M 1 2)) 1 4 ((M 1 4) + 1)) 1 2 = M 1 2; exact (mset_ne (by omega)).trans ((mset_ne (by omega)).trans rfl)) | (show (mset (mset M 1 (41 + (M 1 4)) (M 1 2)) 1 4 ((M 1 4) + 1)) 1 2 = M 1 2; simp only [mset]; (repeat' split) <;> first | rfl | omega)) dX6_passes_132 ?_
        refine lv_iload_n hx hb dX6_passes_133 rfl (lv_at hl 1 rfl) ?_
        refine q_iadd hx hb dX6_passes_134 ?_
        refine q_iast (F := fun k9 => (mset (mset M 1 (41 + (M 1 4)) (M 1 2)) 1 4 ((M 1 4) + 1)) 1 k9) (v := ((M 1 2) + x1)) hx hb hK hP hD hS 1 0 rfl rfl (by decide) (by omega) dX6_passes_135 (fun H locs hP hD hS => ?_)
        have hP : va_P (dC, dI) vwCl (wMo g q (mset (mset (mset M 1 (41 + (M 1 4)) (M 1 2)) 1 4 ((M 1 4) + 1)) 1 2 ((M 1 2) + x1))) H := hP
        have hD : va_D A (wMo g q (mset (mset (mset M 1 (41 + (M 1 4)) (M 1 2)) 1 4 ((M 1 4) + 1)) 1 2 ((M 1 2) + x1))) := hD
        refine lv_aload_n hx hb dX6_passes_136 rfl (lv_at hl 0 rfl) ?_
        refine va_get (D := (dC, dI)) (ci := 5) (v := .ref (q 1)) (C := RX6) (T := TX6) (N := 15) hx hb hts iX6 hown hK hP 0 rfl rfl 0 (by decide) kf7 (fun _ h9 => h9) rfl dX6_passes_137 ?_
        refine q_iconst hx hb dX6_passes_140 ?_
        refine q_iald (F := fun k9 => (mset (mset (mset M 1 (41 + (M 1 4)) (M 1 2)) 1 4 ((M 1 4) + 1)) 1 2 ((M 1 2) + x1)) 1 k9) (v := (M 1 2) + x1) hx hb hK hP 1 0 rfl rfl (by decide) (by omega) (by first | rfl | (show (mset (mset (mset M 1 (41 + (M 1 4)) (M 1 2)) 1 4 ((M 1 4) + 1)) 1 2 ((M 1 2) + x1)) 1 2 = (M 1 2) + x1; exact (mset_ne (by omega)).trans rfl) | (show (mset (mset (mset M 1 (41 + (M 1 4)) (M 1 2)) 1 4 ((M 1 4) + 1)) 1 2 ((M 1 2) + x1)) 1 2 = (M 1 2) + x1; exact (mset_ne (by omega)).trans ((mset_ne (by omega)).trans rfl)) | (show (mset (mset (mset M 1 (41 + (M 1 4)) (M 1 2)) 1 4 ((M 1 4) + 1)) 1 2 ((M 1 2) + x1)) 1 2 = (M 1 2) + x1; simp only [mset]; (repeat' split) <;> first | rfl | omega)) dX6_passes_141 ?_
        have hPf : va_P (dC, dI) vwCl (wMo g q (m_passes M x1)) H := by rw [(show (m_passes M x1) = mset (mset (mset M 1 (41 + (M 1 4)) (M 1 2)) 1 4 ((M 1 4) + 1)) 1 2 ((M 1 2) + x1) from by first | (have e7 : k = 7 := by omega; subst e7; unfold m_passes m_pas2; (repeat' split) <;> first | rfl | (exfalso; omega)) | (unfold m_passes m_pas2; (repeat' split) <;> first | rfl | (exfalso; omega)))]; exact hP
        have hDf : va_D A (wMo g q (m_passes M x1)) := by rw [(show (m_passes M x1) = mset (mset (mset M 1 (41 + (M 1 4)) (M 1 2)) 1 4 ((M 1 4) + 1)) 1 2 ((M 1 2) + x1) from by first | (have e7 : k = 7 := by omega; subst e7; unfold m_passes m_pas2; (repeat' split) <;> first | rfl | (exfalso; omega)) | (unfold m_passes m_pas2; (repeat' split) <;> first | rfl | (exfalso; omega)))]; exact hD
        exact W.iret hx hb hr (fun t9 ht9 hW9 => ⟨⟨_, (), rfl, congrArg zI (show (M 1 2) + x1 = ca_passes (M 1) x1 from by unfold ca_passes; (repeat' split) <;> omega), by rw [ht9]; exact hPf, va_K.moved hW9.alike hK, hDf⟩, hS.F ht9⟩) hS.2.2 dX6_passes_142
      · refine q_sipush hx hb dX6_passes_121 rfl ?_
        refine lv_goto (tgt := 135) hx hb dX6_passes_124 (by decide) ?_
        refine q_iast (F := fun k9 => (mset (mset M 1 (41 + (M 1 4)) (M 1 2)) 1 4 ((M 1 4) + 1)) 1 k9) (v := 999) hx hb hK hP hD hS 1 0 rfl rfl (by decide) (by omega) dX6_passes_135 (fun H locs hP hD hS => ?_)
        have hP : va_P (dC, dI) vwCl (wMo g q (mset (mset (mset M 1 (41 + (M 1 4)) (M 1 2)) 1 4 ((M 1 4) + 1)) 1 2 999)) H := hP
        have hD : va_D A (wMo g q (mset (mset (mset M 1 (41 + (M 1 4)) (M 1 2)) 1 4 ((M 1 4) + 1)) 1 2 999)) := hD
        refine lv_aload_n hx hb dX6_passes_136 rfl (lv_at hl 0 rfl) ?_
        refine va_get (D := (dC, dI)) (ci := 5) (v := .ref (q 1)) (C := RX6) (T := TX6) (N := 15) hx hb hts iX6 hown hK hP 0 rfl rfl 0 (by decide) kf7 (fun _ h9 => h9) rfl dX6_passes_137 ?_
        refine q_iconst hx hb dX6_passes_140 ?_
        refine q_iald (F := fun k9 => (mset (mset (mset M 1 (41 + (M 1 4)) (M 1 2)) 1 4 ((M 1 4) + 1)) 1 2 999) 1 k9) (v := 999) hx hb hK hP 1 0 rfl rfl (by decide) (by omega) (by first | rfl | (show (mset (mset (mset M 1 (41 + (M 1 4)) (M 1 2)) 1 4 ((M 1 4) + 1)) 1 2 999) 1 2 = 999; exact (mset_ne (by omega)).trans rfl) | (show (mset (mset (mset M 1 (41 + (M 1 4)) (M 1 2)) 1 4 ((M 1 4) + 1)) 1 2 999) 1 2 = 999; exact (mset_ne (by omega)).trans ((mset_ne (by omega)).trans rfl)) | (show (mset (mset (mset M 1 (41 + (M 1 4)) (M 1 2)) 1 4 ((M 1 4) + 1)) 1 2 999) 1 2 = 999; simp only [mset]; (repeat' split) <;> first | rfl | omega)) dX6_passes_141 ?_
        have hPf : va_P (dC, dI) vwCl (wMo g q (m_passes M x1)) H := by rw [(show (m_passes M x1) = mset (mset (mset M 1 (41 + (M 1 4)) (M 1 2)) 1 4 ((M 1 4) + 1)) 1 2 999 from by first | (have e7 : k = 7 := by omega; subst e7; unfold m_passes m_pas2; (repeat' split) <;> first | rfl | (exfalso; omega)) | (unfold m_passes m_pas2; (repeat' split) <;> first | rfl | (exfalso; omega)))]; exact hP
        have hDf : va_D A (wMo g q (m_passes M x1)) := by rw [(show (m_passes M x1) = mset (mset (mset M 1 (41 + (M 1 4)) (M 1 2)) 1 4 ((M 1 4) + 1)) 1 2 999 from by first | (have e7 : k = 7 := by omega; subst e7; unfold m_passes m_pas2; (repeat' split) <;> first | rfl | (exfalso; omega)) | (unfold m_passes m_pas2; (repeat' split) <;> first | rfl | (exfalso; omega)))]; exact hD
        exact W.iret hx hb hr (fun t9 ht9 hW9 => ⟨⟨_, (), rfl, congrArg zI (show 999 = ca_passes (M 1) x1 from by unfold ca_passes; (repeat' split) <;> omega), by rw [ht9]; exact hPf, va_K.moved hW9.alike hK, hDf⟩, hS.F ht9⟩) hS.2.2 dX6_passes_142
    · refine q_iconst hx hb dX6_passes_28 ?_
      refine lv_istore_n (lv' := [(2, .int (zI 0)), (0, .ref (q 0)), (1, .int (zI x1))]) hx hb dX6_passes_29 rfl hl (by decide) rfl (fun ls hl => ?_)
      refine w_loopQ (σ := Int) (fun a9 H locs ls => (0 ≤ a9 ∧ a9 ≤ 7) ∧ va_P (dC, dI) vwCl (wMo g q (m_shN M a9)) H ∧ va_D A (wMo g q (m_shN M a9)) ∧ va_S A s.heap H locs ∧ lv_has ls 3 [(0, .ref (q 0)), (1, .int (zI x1)), (2, .int (zI a9))]) (fun a9 => (7 - a9).toNat) ?_ (0) ?_
      · rintro k H locs ls ⟨hk, hP, hD, hS, hl⟩ ih30
        have hk : 0 ≤ k ∧ k ≤ 7 := hk
        have hP : va_P (dC, dI) vwCl (wMo g q (m_shN M k)) H := hP
        have hD : va_D A (wMo g q (m_shN M k)) := hD
        have hl : lv_has ls 3 [(0, .ref (q 0)), (1, .int (zI x1)), (2, .int (zI k))] := hl
        refine lv_iload_n hx hb dX6_passes_30 rfl (lv_at hl 2 rfl) ?_
        refine q_bipush hx hb dX6_passes_31 rfl ?_
        refine q_icmp_ge (tgt := 62) hx hb dX6_passes_33 (by decide) (by omega) (fun c_4 => ?_) (fun c_4 => ?_)
        · have e4 : m_shN M 7 1 4 = M 1 4 := rfl
          have e2 : m_shN M 7 1 2 = M 1 2 := rfl
          have hP : va_P (dC, dI) vwCl (wMo g q (m_shN M 7)) H := by rw [show (m_shN M 7) = m_shN M k from by rw [show k = 7 from by omega]]; exact hP
          have hD : va_D A (wMo g q (m_shN M 7)) := by rw [show (m_shN M 7) = m_shN M k from by rw [show k = 7 from by omega]]; exact hD
          refine lv_aload_n hx hb dX6_passes_62 rfl (lv_at hl 0 rfl) ?_
          refine va_get (D := (dC, dI)) (ci := 5) (v := .ref (q 1)) (C := RX6) (T := TX6) (N := 15) hx hb hts iX6 hown hK hP 0 rfl rfl 0 (by decide) kf7 (fun _ h9 => h9) rfl dX6_passes_63 ?_
          refine q_iconst hx hb dX6_passes_66 ?_
          refine lv_dup2_11 hx hb dX6_passes_67 rfl rfl ?_
          refine q_iald (F := fun k9 => (m_shN M 7) 1 k9) (v := (m_shN M 7) 1 4) hx hb hK hP 1 0 rfl rfl (by decide) (by omega) (rfl) dX6_passes_68 ?_
          refine q_iconst hx hb dX6_passes_69 ?_
          refine q_isub hx hb dX6_passes_70 ?_
          refine q_iast (F := fun k9 => (m_shN M 7) 1 k9) (v := (((m_shN M 7) 1 4) - 1)) hx hb hK hP hD hS 1 0 rfl rfl (by decide) (by omega) dX6_passes_71 (fun H locs hP hD hS => ?_)
          have hP : va_P (dC, dI) vwCl (wMo g q (mset (m_shN M 7) 1 4 (((m_shN M 7) 1 4) - 1))) H := hP
          have hD : va_D A (wMo g q (mset (m_shN M 7) 1 4 (((m_shN M 7) 1 4) - 1))) := hD
          refine lv_aload_n hx hb dX6_passes_72 rfl (lv_at hl 0 rfl) ?_
          refine va_get (D := (dC, dI)) (ci := 5) (v := .ref (q 1)) (C := RX6) (T := TX6) (N := 15) hx hb hts iX6 hown hK hP 0 rfl rfl 0 (by decide) kf7 (fun _ h9 => h9) rfl dX6_passes_73 ?_
          refine q_bipush hx hb dX6_passes_76 rfl ?_
          refine lv_aload_n hx hb dX6_passes_78 rfl (lv_at hl 0 rfl) ?_
          refine va_get (D := (dC, dI)) (ci := 5) (v := .ref (q 1)) (C := RX6) (T := TX6) (N := 15) hx hb hts iX6 hown hK hP 0 rfl rfl 0 (by decide) kf7 (fun _ h9 => h9) rfl dX6_passes_79 ?_
          refine q_iconst hx hb dX6_passes_82 ?_
          refine q_iald (F := fun k9 => (mset (m_shN M 7) 1 4 (((m_shN M 7) 1 4) - 1)) 1 k9) (v := ((m_shN M 7) 1 4) - 1) hx hb hK hP 1 0 rfl rfl (by decide) (by omega) (by first | rfl | (show (mset (m_shN M 7) 1 4 (((m_shN M 7) 1 4) - 1)) 1 4 = ((m_shN M 7) 1 4) - 1; exact (mset_ne (by omega)).trans rfl) | (show (mset (m_shN M 7) 1 4 (((m_shN M 7) 1 4) - 1)) 1 4 = ((m_shN M 7) 1 4) - 1; exact (mset_ne (by omega)).trans ((mset_ne (by omega)).trans rfl)) | (show (mset (m_shN M 7) 1 4 (((m_shN M 7) 1 4) - 1)) 1 4 = ((m_shN M 7) 1 4) - 1; simp only [mset]; (repeat' split) <;> first | rfl | omega)) dX6_passes_83 ?_
          refine q_iadd hx hb dX6_passes_84 ?_
          refine lv_aload_n hx hb dX6_passes_85 rfl (lv_at hl 0 rfl) ?_
          refine va_get (D := (dC, dI)) (ci := 5) (v := .ref (q 1)) (C := RX6) (T := TX6) (N := 15) hx hb hts iX6 hown hK hP 0 rfl rfl 0 (by decide) kf7 (fun _ h9 => h9) rfl dX6_passes_86 ?_
          refine q_iconst hx hb dX6_passes_89 ?_
          refine q_iald (F := fun k9 => (mset (m_shN M 7) 1 4 (((m_shN M 7) 1 4) - 1)) 1 k9) (v := (m_shN M 7) 1 2) hx hb hK hP 1 0 rfl rfl (by decide) (by omega) (by first | rfl | (show (mset (m_shN M 7) 1 4 (((m_shN M 7) 1 4) - 1)) 1 2 = (m_shN M 7) 1 2; exact (mset_ne (by omega)).trans rfl) | (show (mset (m_shN M 7) 1 4 (((m_shN M 7) 1 4) - 1)) 1 2 = (m_shN M 7) 1 2; exact (mset_ne (by omega)).trans ((mset_ne (by omega)).trans rfl)) | (show (mset (m_shN M 7) 1 4 (((m_shN M 7) 1 4) - 1)) 1 2 = (m_shN M 7) 1 2; simp only [mset]; (repeat' split) <;> first | rfl | omega)) dX6_passes_90 ?_
          refine q_iast (F := fun k9 => (mset (m_shN M 7) 1 4 (((m_shN M 7) 1 4) - 1)) 1 k9) (v := ((m_shN M 7) 1 2)) hx hb hK hP hD hS 1 0 rfl rfl (by decide) (by omega) dX6_passes_91 (fun H locs hP hD hS => ?_)
          have hP : va_P (dC, dI) vwCl (wMo g q (mset (mset (m_shN M 7) 1 4 (((m_shN M 7) 1 4) - 1)) 1 (41 + (((m_shN M 7) 1 4) - 1)) ((m_shN M 7) 1 2))) H := hP
          have hD : va_D A (wMo g q (mset (mset (m_shN M 7) 1 4 (((m_shN M 7) 1 4) - 1)) 1 (41 + (((m_shN M 7) 1 4) - 1)) ((m_shN M 7) 1 2))) := hD
          refine lv_aload_n hx hb dX6_passes_92 rfl (lv_at hl 0 rfl) ?_
          refine va_get (D := (dC, dI)) (ci := 5) (v := .ref (q 1)) (C := RX6) (T := TX6) (N := 15) hx hb hts iX6 hown hK hP 0 rfl rfl 0 (by decide) kf7 (fun _ h9 => h9) rfl dX6_passes_93 ?_
          refine q_iconst hx hb dX6_passes_96 ?_
          refine lv_dup2_11 hx hb dX6_passes_97 rfl rfl ?_
          refine q_iald (F := fun k9 => (mset (mset (m_shN M 7) 1 4 (((m_shN M 7) 1 4) - 1)) 1 (41 + (((m_shN M 7) 1 4) - 1)) ((m_shN M 7) 1 2)) 1 k9) (v := ((m_shN M 7) 1 4) - 1) hx hb hK hP 1 0 rfl rfl (by decide) (by omega) (by first | rfl | (show (mset (mset (m_shN M 7) 1 4 (((m_shN M 7) 1 4) - 1)) 1 (41 + (((m_shN M 7) 1 4) - 1)) ((m_shN M 7) 1 2)) 1 4 = ((m_shN M 7) 1 4) - 1; exact (mset_ne (by omega)).trans rfl) | (show (mset (mset (m_shN M 7) 1 4 (((m_shN M 7) 1 4) - 1)) 1 (41 + (((m_shN M 7) 1 4) - 1)) ((m_shN M 7) 1 2)) 1 4 = ((m_shN M 7) 1 4) - 1; exact (mset_ne (by omega)).trans ((mset_ne (by omega)).trans rfl)) | (show (mset (mset (m_shN M 7) 1 4 (((m_shN M 7) 1 4) - 1)) 1 (41 + (((m_shN M 7) 1 4) - 1)) ((m_shN M 7) 1 2)) 1 4 = ((m_shN M 7) 1 4) - 1; simp only [mset]; (repeat' split) <;> first | rfl | omega)) dX6_passes_98 ?_
          refine q_iconst hx hb dX6_passes_99 ?_
          refine q_iadd hx hb dX6_passes_100 ?_
          refine q_iast (F := fun k9 => (mset (mset (m_shN M 7) 1 4 (((m_shN M 7) 1 4) - 1)) 1 (41 + (((m_shN M 7) 1 4) - 1)) ((m_shN M 7) 1 2)) 1 k9) (v := ((((m_shN M 7) 1 4) - 1) + 1)) hx hb hK hP hD hS 1 0 rfl rfl (by decide) (by omega) dX6_passes_101 (fun H locs hP hD hS => ?_)
          have hP : va_P (dC, dI) vwCl (wMo g q (mset (mset (mset (m_shN M 7) 1 4 (((m_shN M 7) 1 4) - 1)) 1 (41 + (((m_shN M 7) 1 4) - 1)) ((m_shN M 7) 1 2)) 1 4 ((((m_shN M 7) 1 4) - 1) + 1))) H := hP
          have hD : va_D A (wMo g q (mset (mset (mset (m_shN M 7) 1 4 (((m_shN M 7) 1 4) - 1)) 1 (41 + (((m_shN M 7) 1 4) - 1)) ((m_shN M 7) 1 2)) 1 4 ((((m_shN M 7) 1 4) - 1) + 1))) := hD
          refine lv_aload_n hx hb dX6_passes_102 rfl (lv_at hl 0 rfl) ?_
          refine va_get (D := (dC, dI)) (ci := 5) (v := .ref (q 1)) (C := RX6) (T := TX6) (N := 15) hx hb hts iX6 hown hK hP 0 rfl rfl 0 (by decide) kf7 (fun _ h9 => h9) rfl dX6_passes_103 ?_
          refine q_iconst hx hb dX6_passes_106 ?_
          refine lv_aload_n hx hb dX6_passes_107 rfl (lv_at hl 0 rfl) ?_
          refine va_get (D := (dC, dI)) (ci := 5) (v := .ref (q 1)) (C := RX6) (T := TX6) (N := 15) hx hb hts iX6 hown hK hP 0 rfl rfl 0 (by decide) kf7 (fun _ h9 => h9) rfl dX6_passes_108 ?_
          refine q_iconst hx hb dX6_passes_111 ?_
          refine q_iald (F := fun k9 => (mset (mset (mset (m_shN M 7) 1 4 (((m_shN M 7) 1 4) - 1)) 1 (41 + (((m_shN M 7) 1 4) - 1)) ((m_shN M 7) 1 2)) 1 4 ((((m_shN M 7) 1 4) - 1) + 1)) 1 k9) (v := (m_shN M 7) 1 2) hx hb hK hP 1 0 rfl rfl (by decide) (by omega) (by first | rfl | (show (mset (mset (mset (m_shN M 7) 1 4 (((m_shN M 7) 1 4) - 1)) 1 (41 + (((m_shN M 7) 1 4) - 1)) ((m_shN M 7) 1 2)) 1 4 ((((m_shN M 7) 1 4) - 1) + 1)) 1 2 = (m_shN M 7) 1 2; exact (mset_ne (by omega)).trans rfl) | (show (mset (mset (mset (m_shN M 7) 1 4 (((m_shN M 7) 1 4) - 1)) 1 (41 + (((m_shN M 7) 1 4) - 1)) ((m_shN M 7) 1 2)) 1 4 ((((m_shN M 7) 1 4) - 1) + 1)) 1 2 = (m_shN M 7) 1 2; exact (mset_ne (by omega)).trans ((mset_ne (by omega)).trans rfl)) | (show (mset (mset (mset (m_shN M 7) 1 4 (((m_shN M 7) 1 4) - 1)) 1 (41 + (((m_shN M 7) 1 4) - 1)) ((m_shN M 7) 1 2)) 1 4 ((((m_shN M 7) 1 4) - 1) + 1)) 1 2 = (m_shN M 7) 1 2; simp only [mset]; (repeat' split) <;> first | rfl | omega)) dX6_passes_112 ?_
          refine lv_iload_n hx hb dX6_passes_113 rfl (lv_at hl 1 rfl) ?_
          refine q_iadd hx hb dX6_passes_114 ?_
          refine q_sipush hx hb dX6_passes_115 rfl ?_
          refine q_icmp_le (tgt := 127) hx hb dX6_passes_118 (by decide) (by omega) (fun c_5 => ?_) (fun c_5 => ?_)
          · refine lv_aload_n hx hb dX6_passes_127 rfl (lv_at hl 0 rfl) ?_
            refine va_get (D := (dC, dI)) (ci := 5) (v := .ref (q 1)) (C := RX6) (T := TX6) (N := 15) hx hb hts iX6 hown hK hP 0 rfl rfl 0 (by decide) kf7 (fun _ h9 => h9) rfl dX6_passes_128 ?_
            refine q_iconst hx hb dX6_passes_131 ?_
            refine q_iald (F := fun k9 => (mset (mset (mset (m_shN M 7) 1 4 (((m_shN M 7) 1 4) - 1)) 1 (41 + (((m_shN M 7) 1 4) - 1)) ((m_shN M 7) 1 2)) 1 4 ((((m_shN M 7) 1 4) - 1) + 1)) 1 k9) (v := (m_shN M 7) 1 2) hx hb hK hP 1 0 rfl rfl (by decide) (by omega) (by first | rfl | (show (mset (mset (mset (m_shN M 7) 1 4 (((m_shN M 7) 1 4) - 1)) 1 (41 + (((m_shN M 7) 1 4) - 1)) ((m_shN M 7) 1 2)) 1 4 ((((m_shN M 7) 1 4) - 1) + 1)) 1 2 = (m_shN M 7) 1 2; exact (mset_ne (by omega)).trans rfl) | (show (mset (mset (mset (m_shN M 7) 1 4 (((m_shN M 7) 1 4) - 1)) 1 (41 + (((m_shN M 7) 1 4) - 1)) ((m_shN M 7) 1 2)) 1 4 ((((m_shN M 7) 1 4) - 1) + 1)) 1 2 = (m_shN M 7) 1 2; exact (mset_ne (by omega)).trans ((mset_ne (by omega)).trans rfl)) | (show (mset (mset (mset (m_shN M 7) 1 4 (((m_shN M 7) 1 4) - 1)) 1 (41 + (((m_shN M 7) 1 4) - 1)) ((m_shN M 7) 1 2)) 1 4 ((((m_shN M 7) 1 4) - 1) + 1)) 1 2 = (m_shN M 7) 1 2; simp only [mset]; (repeat' split) <;> first | rfl | omega)) dX6_passes_132 ?_
            refine lv_iload_n hx hb dX6_passes_133 rfl (lv_at hl 1 rfl) ?_
            refine q_iadd hx hb dX6_passes_134 ?_
            refine q_iast (F := fun k9 => (mset (mset (mset (m_shN M 7) 1 4 (((m_shN M 7) 1 4) - 1)) 1 (41 + (((m_shN M 7) 1 4) - 1)) ((m_shN M 7) 1 2)) 1 4 ((((m_shN M 7) 1 4) - 1) + 1)) 1 k9) (v := (((m_shN M 7) 1 2) + x1)) hx hb hK hP hD hS 1 0 rfl rfl (by decide) (by omega) dX6_passes_135 (fun H locs hP hD hS => ?_)
            have hP : va_P (dC, dI) vwCl (wMo g q (mset (mset (mset (mset (m_shN M 7) 1 4 (((m_shN M 7) 1 4) - 1)) 1 (41 + (((m_shN M 7) 1 4) - 1)) ((m_shN M 7) 1 2)) 1 4 ((((m_shN M 7) 1 4) - 1) + 1)) 1 2 (((m_shN M 7) 1 2) + x1))) H := hP
            have hD : va_D A (wMo g q (mset (mset (mset (mset (m_shN M 7) 1 4 (((m_shN M 7) 1 4) - 1)) 1 (41 + (((m_shN M 7) 1 4) - 1)) ((m_shN M 7) 1 2)) 1 4 ((((m_shN M 7) 1 4) - 1) + 1)) 1 2 (((m_shN M 7) 1 2) + x1))) := hD
            refine lv_aload_n hx hb dX6_passes_136 rfl (lv_at hl 0 rfl) ?_
            refine va_get (D := (dC, dI)) (ci := 5) (v := .ref (q 1)) (C := RX6) (T := TX6) (N := 15) hx hb hts iX6 hown hK hP 0 rfl rfl 0 (by decide) kf7 (fun _ h9 => h9) rfl dX6_passes_137 ?_
            refine q_iconst hx hb dX6_passes_140 ?_
            refine q_iald (F := fun k9 => (mset (mset (mset (mset (m_shN M 7) 1 4 (((m_shN M 7) 1 4) - 1)) 1 (41 + (((m_shN M 7) 1 4) - 1)) ((m_shN M 7) 1 2)) 1 4 ((((m_shN M 7) 1 4) - 1) + 1)) 1 2 (((m_shN M 7) 1 2) + x1)) 1 k9) (v := ((m_shN M 7) 1 2) + x1) hx hb hK hP 1 0 rfl rfl (by decide) (by omega) (by first | rfl | (show (mset (mset (mset (mset (m_shN M 7) 1 4 (((m_shN M 7) 1 4) - 1)) 1 (41 + (((m_shN M 7) 1 4) - 1)) ((m_shN M 7) 1 2)) 1 4 ((((m_shN M 7) 1 4) - 1) + 1)) 1 2 (((m_shN M 7) 1 2) + x1)) 1 2 = ((m_shN M 7) 1 2) + x1; exact (mset_ne (by omega)).trans rfl) | (show (mset (mset (mset (mset (m_shN M 7) 1 4 (((m_shN M 7) 1 4) - 1)) 1 (41 + (((m_shN M 7) 1 4) - 1)) ((m_shN M 7) 1 2)) 1 4 ((((m_shN M 7) 1 4) - 1) + 1)) 1 2 (((m_shN M 7) 1 2) + x1)) 1 2 = ((m_shN M 7) 1 2) + x1; exact (mset_ne (by omega)).trans ((mset_ne (by omega)).trans rfl)) | (show (mset (mset (mset (mset (m_shN M 7) 1 4 (((m_shN M 7) 1 4) - 1)) 1 (41 + (((m_shN M 7) 1 4) - 1)) ((m_shN M 7) 1 2)) 1 4 ((((m_shN M 7) 1 4) - 1) + 1)) 1 2 (((m_shN M 7) 1 2) + x1)) 1 2 = ((m_shN M 7) 1 2) + x1; simp only [mset]; (repeat' split) <;> first | rfl | omega)) dX6_passes_141 ?_
            have hPf : va_P (dC, dI) vwCl (wMo g q (m_passes M x1)) H := by rw [(show (m_passes M x1) = mset (mset (mset (mset (m_shN M 7) 1 4 (((m_shN M 7) 1 4) - 1)) 1 (41 + (((m_shN M 7) 1 4) - 1)) ((m_shN M 7) 1 2)) 1 4 ((((m_shN M 7) 1 4) - 1) + 1)) 1 2 (((m_shN M 7) 1 2) + x1) from by first | (have e7 : k = 7 := by omega; subst e7; unfold m_passes m_pas2; (repeat' split) <;> first | rfl | (exfalso; omega)) | (unfold m_passes m_pas2; (repeat' split) <;> first | rfl | (exfalso; omega)))]; exact hP
            have hDf : va_D A (wMo g q (m_passes M x1)) := by rw [(show (m_passes M x1) = mset (mset (mset (mset (m_shN M 7) 1 4 (((m_shN M 7) 1 4) - 1)) 1 (41 + (((m_shN M 7) 1 4) - 1)) ((m_shN M 7) 1 2)) 1 4 ((((m_shN M 7) 1 4) - 1) + 1)) 1 2 (((m_shN M 7) 1 2) + x1) from by first | (have e7 : k = 7 := by omega; subst e7; unfold m_passes m_pas2; (repeat' split) <;> first | rfl | (exfalso; omega)) | (unfold m_passes m_pas2; (repeat' split) <;> first | rfl | (exfalso; omega)))]; exact hD
            exact W.iret hx hb hr (fun t9 ht9 hW9 => ⟨⟨_, (), rfl, congrArg zI (show ((m_shN M 7) 1 2) + x1 = ca_passes (M 1) x1 from by unfold ca_passes; (repeat' split) <;> omega), by rw [ht9]; exact hPf, va_K.moved hW9.alike hK, hDf⟩, hS.F ht9⟩) hS.2.2 dX6_passes_142
          · refine q_sipush hx hb dX6_passes_121 rfl ?_
            refine lv_goto (tgt := 135) hx hb dX6_passes_124 (by decide) ?_
            refine q_iast (F := fun k9 => (mset (mset (mset (m_shN M 7) 1 4 (((m_shN M 7) 1 4) - 1)) 1 (41 + (((m_shN M 7) 1 4) - 1)) ((m_shN M 7) 1 2)) 1 4 ((((m_shN M 7) 1 4) - 1) + 1)) 1 k9) (v := 999) hx hb hK hP hD hS 1 0 rfl rfl (by decide) (by omega) dX6_passes_135 (fun H locs hP hD hS => ?_)
            have hP : va_P (dC, dI) vwCl (wMo g q (mset (mset (mset (mset (m_shN M 7) 1 4 (((m_shN M 7) 1 4) - 1)) 1 (41 + (((m_shN M 7) 1 4) - 1)) ((m_shN M 7) 1 2)) 1 4 ((((m_shN M 7) 1 4) - 1) + 1)) 1 2 999)) H := hP
            have hD : va_D A (wMo g q (mset (mset (mset (mset (m_shN M 7) 1 4 (((m_shN M 7) 1 4) - 1)) 1 (41 + (((m_shN M 7) 1 4) - 1)) ((m_shN M 7) 1 2)) 1 4 ((((m_shN M 7) 1 4) - 1) + 1)) 1 2 999)) := hD
            refine lv_aload_n hx hb dX6_passes_136 rfl (lv_at hl 0 rfl) ?_
            refine va_get (D := (dC, dI)) (ci := 5) (v := .ref (q 1)) (C := RX6) (T := TX6) (N := 15) hx hb hts iX6 hown hK hP 0 rfl rfl 0 (by decide) kf7 (fun _ h9 => h9) rfl dX6_passes_137 ?_
            refine q_iconst hx hb dX6_passes_140 ?_
            refine q_iald (F := fun k9 => (mset (mset (mset (mset (m_shN M 7) 1 4 (((m_shN M 7) 1 4) - 1)) 1 (41 + (((m_shN M 7) 1 4) - 1)) ((m_shN M 7) 1 2)) 1 4 ((((m_shN M 7) 1 4) - 1) + 1)) 1 2 999) 1 k9) (v := 999) hx hb hK hP 1 0 rfl rfl (by decide) (by omega) (by first | rfl | (show (mset (mset (mset (mset (m_shN M 7) 1 4 (((m_shN M 7) 1 4) - 1)) 1 (41 + (((m_shN M 7) 1 4) - 1)) ((m_shN M 7) 1 2)) 1 4 ((((m_shN M 7) 1 4) - 1) + 1)) 1 2 999) 1 2 = 999; exact (mset_ne (by omega)).trans rfl) | (show (mset (mset (mset (mset (m_shN M 7) 1 4 (((m_shN M 7) 1 4) - 1)) 1 (41 + (((m_shN M 7) 1 4) - 1)) ((m_shN M 7) 1 2)) 1 4 ((((m_shN M 7) 1 4) - 1) + 1)) 1 2 999) 1 2 = 999; exact (mset_ne (by omega)).trans ((mset_ne (by omega)).trans rfl)) | (show (mset (mset (mset (mset (m_shN M 7) 1 4 (((m_shN M 7) 1 4) - 1)) 1 (41 + (((m_shN M 7) 1 4) - 1)) ((m_shN M 7) 1 2)) 1 4 ((((m_shN M 7) 1 4) - 1) + 1)) 1 2 999) 1 2 = 999; simp only [mset]; (repeat' split) <;> first | rfl | omega)) dX6_passes_141 ?_
            have hPf : va_P (dC, dI) vwCl (wMo g q (m_passes M x1)) H := by rw [(show (m_passes M x1) = mset (mset (mset (mset (m_shN M 7) 1 4 (((m_shN M 7) 1 4) - 1)) 1 (41 + (((m_shN M 7) 1 4) - 1)) ((m_shN M 7) 1 2)) 1 4 ((((m_shN M 7) 1 4) - 1) + 1)) 1 2 999 from by first | (have e7 : k = 7 := by omega; subst e7; unfold m_passes m_pas2; (repeat' split) <;> first | rfl | (exfalso; omega)) | (unfold m_passes m_pas2; (repeat' split) <;> first | rfl | (exfalso; omega)))]; exact hP
            have hDf : va_D A (wMo g q (m_passes M x1)) := by rw [(show (m_passes M x1) = mset (mset (mset (mset (m_shN M 7) 1 4 (((m_shN M 7) 1 4) - 1)) 1 (41 + (((m_shN M 7) 1 4) - 1)) ((m_shN M 7) 1 2)) 1 4 ((((m_shN M 7) 1 4) - 1) + 1)) 1 2 999 from by first | (have e7 : k = 7 := by omega; subst e7; unfold m_passes m_pas2; (repeat' split) <;> first | rfl | (exfalso; omega)) | (unfold m_passes m_pas2; (repeat' split) <;> first | rfl | (exfalso; omega)))]; exact hD
            exact W.iret hx hb hr (fun t9 ht9 hW9 => ⟨⟨_, (), rfl, congrArg zI (show 999 = ca_passes (M 1) x1 from by unfold ca_passes; (repeat' split) <;> omega), by rw [ht9]; exact hPf, va_K.moved hW9.alike hK, hDf⟩, hS.F ht9⟩) hS.2.2 dX6_passes_142
        · refine lv_aload_n hx hb dX6_passes_36 rfl (lv_at hl 0 rfl) ?_
          refine va_get (D := (dC, dI)) (ci := 5) (v := .ref (q 1)) (C := RX6) (T := TX6) (N := 15) hx hb hts iX6 hown hK hP 0 rfl rfl 0 (by decide) kf7 (fun _ h9 => h9) rfl dX6_passes_37 ?_
          refine q_bipush hx hb dX6_passes_40 rfl ?_
          refine lv_iload_n hx hb dX6_passes_42 rfl (lv_at hl 2 rfl) ?_
          refine q_iadd hx hb dX6_passes_43 ?_
          refine lv_aload_n hx hb dX6_passes_44 rfl (lv_at hl 0 rfl) ?_
          refine va_get (D := (dC, dI)) (ci := 5) (v := .ref (q 1)) (C := RX6) (T := TX6) (N := 15) hx hb hts iX6 hown hK hP 0 rfl rfl 0 (by decide) kf7 (fun _ h9 => h9) rfl dX6_passes_45 ?_
          refine q_bipush hx hb dX6_passes_48 rfl ?_
          refine lv_iload_n hx hb dX6_passes_50 rfl (lv_at hl 2 rfl) ?_
          refine q_iadd hx hb dX6_passes_51 ?_
          refine q_iconst hx hb dX6_passes_52 ?_
          refine q_iadd hx hb dX6_passes_53 ?_
          refine q_iald (F := fun k9 => (m_shN M k) 1 k9) (v := (m_shN M k) 1 ((41 + k) + 1)) hx hb hK hP 1 0 rfl rfl (by decide) (by omega) (rfl) dX6_passes_54 ?_
          refine q_iast (F := fun k9 => (m_shN M k) 1 k9) (v := ((m_shN M k) 1 ((41 + k) + 1))) hx hb hK hP hD hS 1 0 rfl rfl (by decide) (by omega) dX6_passes_55 (fun H locs hP hD hS => ?_)
          have hP : va_P (dC, dI) vwCl (wMo g q (mset (m_shN M k) 1 (41 + k) ((m_shN M k) 1 ((41 + k) + 1)))) H := hP
          have hD : va_D A (wMo g q (mset (m_shN M k) 1 (41 + k) ((m_shN M k) 1 ((41 + k) + 1)))) := hD
          refine lv_iinc (v := zI (k + 1)) (lv' := [(2, .int (zI (k + 1))), (0, .ref (q 0)), (1, .int (zI x1))]) hx hb dX6_passes_56 hl (k := 2) rfl (zI_add _ _) (by decide) rfl (fun ls hl => ?_)
          refine lv_goto (tgt := 30) hx hb dX6_passes_59 (by decide) ?_
          exact ih30 (k + 1) _ _ ls ⟨(show 0 ≤ (k + 1) ∧ (k + 1) ≤ 7 from by omega), (show va_P (dC, dI) vwCl (wMo g q (m_shN M (k + 1))) H from by rw [show (m_shN M (k + 1)) = mset (m_shN M k) 1 (41 + k) ((m_shN M k) 1 ((41 + k) + 1)) from m_shS (by omega)]; exact hP), (show va_D A (wMo g q (m_shN M (k + 1))) from by rw [show (m_shN M (k + 1)) = mset (m_shN M k) 1 (41 + k) ((m_shN M k) 1 ((41 + k) + 1)) from m_shS (by omega)]; exact hD), hS, lv_sub hl [1, 2, 0] rfl⟩ (by show (7 - (k + 1)).toNat < (7 - k).toNat; omega)
      · exact ⟨(show 0 ≤ 0 ∧ 0 ≤ 7 from by omega), (show va_P (dC, dI) vwCl (wMo g q (m_shN M 0)) s.heap from by rw [show (m_shN M 0) = M from m_sh0]; exact hP), (show va_D A (wMo g q (m_shN M 0)) from by rw [show (m_shN M 0) = M from m_sh0]; exact hD), hS, lv_sub hl [1, 2, 0] rfl⟩
  · refine lv_aload_n hx hb dX6_passes_12 rfl (lv_at hl 0 rfl) ?_
    refine q_cEi (z := -2) (b := (q 0)) (As := []) (rest := []) (w1 := wMo g q (mbad M)) ⟨hx, hb, hml, hown, hts⟩ hP hD hK hT hS hA (kX6_bad l dC dI g tt _ q M) (cwV 0 hts gX6_passes_X6_bad rfl rfl rfl (by decide +kernel) ⟨Nat.le_of_ble_eq_true rfl, Nat.le_of_ble_eq_true rfl⟩) 0 5 rfl rfl rfl rfl hl.1 rfl (Nat.le_of_ble_eq_true rfl) dX6_passes_13 ⟨Nat.le_of_ble_eq_true rfl, Nat.le_of_ble_eq_true rfl⟩ (fun H locs hP hD hS => ?_)
    have hPf : va_P (dC, dI) vwCl (wMo g q (m_passes M x1)) H := by rw [(show (m_passes M x1) = mbad M from by first | (have e7 : k = 7 := by omega; subst e7; unfold m_passes m_pas2; (repeat' split) <;> first | rfl | (exfalso; omega)) | (unfold m_passes m_pas2; (repeat' split) <;> first | rfl | (exfalso; omega)))]; exact hP
    have hDf : va_D A (wMo g q (m_passes M x1)) := by rw [(show (m_passes M x1) = mbad M from by first | (have e7 : k = 7 := by omega; subst e7; unfold m_passes m_pas2; (repeat' split) <;> first | rfl | (exfalso; omega)) | (unfold m_passes m_pas2; (repeat' split) <;> first | rfl | (exfalso; omega)))]; exact hD
    exact W.iret hx hb hr (fun t9 ht9 hW9 => ⟨⟨_, (), rfl, congrArg zI (show -2 = ca_passes (M 1) x1 from by unfold ca_passes; (repeat' split) <;> omega), by rw [ht9]; exact hPf, va_K.moved hW9.alike hK, hDf⟩, hS.F ht9⟩) hS.2.2 dX6_passes_16
set_option maxHeartbeats 4000000 in
set_option maxRecDepth 100000 in
theorem kX6_undo (l : Launch) (dC : Nat → ClassId) (dI : Nat → Nat → Nat) (g : Nat → ClassId) (tt : Nat → Nat) (sz : Nat) (q : Nat → Nat) (M : Nat → Int → Int) (hw : hok (M 1)) : Met l yX6_undo wsX6_undo ({ frames := 1, cells := 0, slots := 0, locals := 20 }) (va_Pc [.ref (q 0)] (eQ (dC, dI) (wTy g) (wMo g q M) tt sz)) (va_Qi (fun r (_ : Unit) => r = zI (ca_undo (M 1))) (fQ (dC, dI) (wTy g) (va_A (wMo g q M) sz) (wMo g q (m_undo M))) (va_A (wMo g q M) sz)) 0 0 (va_A (wMo g q M) sz) := by
  refine Met.ofW (cc := cX6_undo) (maxL := 1) (ret := (some .int)) (by decide) rfl ?_
  intro p e s m args below meth c s₁ B hml hv
  obtain ⟨rfl, hsz, hP, hK, hD0, hT⟩ := hv
  have hx := B.exec
  have hb := B.bytes
  have hr := B.returns
  have hts := atoms_spec (ws := wsX6_undo) B.pre
  have hown : s.vm.findClass RX6 = some m.cls := findClass_of_methodNamed B.named
  have hlocks := B.notSynchronized
  subst hsz
  have hD := hD0.self (sz := s.heap.size)
  generalize hAe : va_A (wMo g q M) s.heap.size = A at hD hT ⊢
  have hA : ∀ q : Nat, s.heap.size ≤ q → A q := fun q h => by rw [← hAe]; exact Or.inr h
  have hS : va_S A s.heap s.heap [] := va_S.rf
  have hl := lv_entry ([.ref (q 0)]) (n := 1) (Nat.le_of_ble_eq_true rfl)
  rw [lg_entry_eq]
  generalize (lg_sl ([.ref (q 0)]) ++ List.replicate (1 - (lg_sl ([.ref (q 0)])).length) Slot.unset).toArray = ls at hl ⊢
  have hl : lv_has ls 1 [(0, .ref (q 0))] := hl
  have kf7 := hts (.fieldLink RX6 7 "WrongWayModel" "w" "[I") (by decide +kernel)
  have iX6 := (fun w h => List.mem_cons_of_mem _ (List.mem_append_right _ h) : ∀ w ∈ u_ws RX6 TX6 15, w ∈ wsX6_undo)
  have hb0 := hw.b
  refine lv_aload_n hx hb dX6_undo_0 rfl (lv_at hl 0 rfl) ?_
  refine va_get (D := (dC, dI)) (ci := 5) (v := .ref (q 1)) (C := RX6) (T := TX6) (N := 15) hx hb hts iX6 hown hK hP 0 rfl rfl 0 (by decide) kf7 (fun _ h9 => h9) rfl dX6_undo_1 ?_
  refine q_iconst hx hb dX6_undo_4 ?_
  refine q_iald (F := fun k9 => M 1 k9) (v := M 1 4) hx hb hK hP 1 0 rfl rfl (by decide) (by omega) (rfl) dX6_undo_5 ?_
  refine q_if_ne (tgt := 14) hx hb dX6_undo_6 (by decide) (by omega) (fun c_1 => ?_) (fun c_1 => ?_)
  · refine lv_aload_n hx hb dX6_undo_14 rfl (lv_at hl 0 rfl) ?_
    refine va_get (D := (dC, dI)) (ci := 5) (v := .ref (q 1)) (C := RX6) (T := TX6) (N := 15) hx hb hts iX6 hown hK hP 0 rfl rfl 0 (by decide) kf7 (fun _ h9 => h9) rfl dX6_undo_15 ?_
    refine q_iconst hx hb dX6_undo_18 ?_
    refine lv_dup2_11 hx hb dX6_undo_19 rfl rfl ?_
    refine q_iald (F := fun k9 => M 1 k9) (v := M 1 4) hx hb hK hP 1 0 rfl rfl (by decide) (by omega) (rfl) dX6_undo_20 ?_
    refine q_iconst hx hb dX6_undo_21 ?_
    refine q_isub hx hb dX6_undo_22 ?_
    refine q_iast (F := fun k9 => M 1 k9) (v := ((M 1 4) - 1)) hx hb hK hP hD hS 1 0 rfl rfl (by decide) (by omega) dX6_undo_23 (fun H locs hP hD hS => ?_)
    have hP : va_P (dC, dI) vwCl (wMo g q (mset M 1 4 ((M 1 4) - 1))) H := hP
    have hD : va_D A (wMo g q (mset M 1 4 ((M 1 4) - 1))) := hD
    refine lv_aload_n hx hb dX6_undo_24 rfl (lv_at hl 0 rfl) ?_
    refine va_get (D := (dC, dI)) (ci := 5) (v := .ref (q 1)) (C := RX6) (T := TX6) (N := 15) hx hb hts iX6 hown hK hP 0 rfl rfl 0 (by decide) kf7 (fun _ h9 => h9) rfl dX6_undo_25 ?_
    refine q_iconst hx hb dX6_undo_28 ?_
    refine lv_aload_n hx hb dX6_undo_29 rfl (lv_at hl 0 rfl) ?_
    refine va_get (D := (dC, dI)) (ci := 5) (v := .ref (q 1)) (C := RX6) (T := TX6) (N := 15) hx hb hts iX6 hown hK hP 0 rfl rfl 0 (by decide) kf7 (fun _ h9 => h9) rfl dX6_undo_30 ?_
    refine q_bipush hx hb dX6_undo_33 rfl ?_
    refine lv_aload_n hx hb dX6_undo_35 rfl (lv_at hl 0 rfl) ?_
    refine va_get (D := (dC, dI)) (ci := 5) (v := .ref (q 1)) (C := RX6) (T := TX6) (N := 15) hx hb hts iX6 hown hK hP 0 rfl rfl 0 (by decide) kf7 (fun _ h9 => h9) rfl dX6_undo_36 ?_
    refine q_iconst hx hb dX6_undo_39 ?_
    refine q_iald (F := fun k9 => (mset M 1 4 ((M 1 4) - 1)) 1 k9) (v := (M 1 4) - 1) hx hb hK hP 1 0 rfl rfl (by decide) (by omega) (by first | rfl | (show (mset M 1 4 ((M 1 4) - 1)) 1 4 = (M 1 4) - 1; exact (mset_ne (by omega)).trans rfl) | (show (mset M 1 4 ((M 1 4) - 1)) 1 4 = (M 1 4) - 1; exact (mset_ne (by omega)).trans ((mset_ne (by omega)).trans rfl)) | (show (mset M 1 4 ((M 1 4) - 1)) 1 4 = (M 1 4) - 1; simp only [mset]; (repeat' split) <;> first | rfl | omega)) dX6_undo_40 ?_
    refine q_iadd hx hb dX6_undo_41 ?_
    refine q_iald (F := fun k9 => (mset M 1 4 ((M 1 4) - 1)) 1 k9) (v := M 1 (41 + ((M 1 4) - 1))) hx hb hK hP 1 0 rfl rfl (by decide) (by omega) (by first | rfl | (show (mset M 1 4 ((M 1 4) - 1)) 1 (41 + ((M 1 4) - 1)) = M 1 (41 + ((M 1 4) - 1)); exact (mset_ne (by omega)).trans rfl) | (show (mset M 1 4 ((M 1 4) - 1)) 1 (41 + ((M 1 4) - 1)) = M 1 (41 + ((M 1 4) - 1)); exact (mset_ne (by omega)).trans ((mset_ne (by omega)).trans rfl)) | (show (mset M 1 4 ((M 1 4) - 1)) 1 (41 + ((M 1 4) - 1)) = M 1 (41 + ((M 1 4) - 1)); simp only [mset]; (repeat' split) <;> first | rfl | omega)) dX6_undo_42 ?_
    refine q_iast (F := fun k9 => (mset M 1 4 ((M 1 4) - 1)) 1 k9) (v := (M 1 (41 + ((M 1 4) - 1)))) hx hb hK hP hD hS 1 0 rfl rfl (by decide) (by omega) dX6_undo_43 (fun H locs hP hD hS => ?_)
    have hP : va_P (dC, dI) vwCl (wMo g q (mset (mset M 1 4 ((M 1 4) - 1)) 1 2 (M 1 (41 + ((M 1 4) - 1))))) H := hP
    have hD : va_D A (wMo g q (mset (mset M 1 4 ((M 1 4) - 1)) 1 2 (M 1 (41 + ((M 1 4) - 1))))) := hD
    refine lv_aload_n hx hb dX6_undo_44 rfl (lv_at hl 0 rfl) ?_
    refine va_get (D := (dC, dI)) (ci := 5) (v := .ref (q 1)) (C := RX6) (T := TX6) (N := 15) hx hb hts iX6 hown hK hP 0 rfl rfl 0 (by decide) kf7 (fun _ h9 => h9) rfl dX6_undo_45 ?_
    refine q_iconst hx hb dX6_undo_48 ?_
    refine q_iald (F := fun k9 => (mset (mset M 1 4 ((M 1 4) - 1)) 1 2 (M 1 (41 + ((M 1 4) - 1)))) 1 k9) (v := M 1 (41 + ((M 1 4) - 1))) hx hb hK hP 1 0 rfl rfl (by decide) (by omega) (by first | rfl | (show (mset (mset M 1 4 ((M 1 4) - 1)) 1 2 (M 1 (41 + ((M 1 4) - 1)))) 1 2 = M 1 (41 + ((M 1 4) - 1)); exact (mset_ne (by omega)).trans rfl) | (show (mset (mset M 1 4 ((M 1 4) - 1)) 1 2 (M 1 (41 + ((M 1 4) - 1)))) 1 2 = M 1 (41 + ((M 1 4) - 1)); exact (mset_ne (by omega)).trans ((mset_ne (by omega)).trans rfl)) | (show (mset (mset M 1 4 ((M 1 4) - 1)) 1 2 (M 1 (41 + ((M 1 4) - 1)))) 1 2 = M 1 (41 + ((M 1 4) - 1)); simp only [mset]; (repeat' split) <;> first | rfl | omega)) dX6_undo_49 ?_
    have hPf : va_P (dC, dI) vwCl (wMo g q (m_undo M)) H := by rw [(show (m_undo M) = mset (mset M 1 4 ((M 1 4) - 1)) 1 2 (M 1 (41 + ((M 1 4) - 1))) from by unfold m_undo; (repeat' split) <;> first | rfl | (exfalso; omega))]; exact hP
    have hDf : va_D A (wMo g q (m_undo M)) := by rw [(show (m_undo M) = mset (mset M 1 4 ((M 1 4) - 1)) 1 2 (M 1 (41 + ((M 1 4) - 1))) from by unfold m_undo; (repeat' split) <;> first | rfl | (exfalso; omega))]; exact hD
    exact W.iret hx hb hr (fun t9 ht9 hW9 => ⟨⟨_, (), rfl, congrArg zI (show M 1 (41 + ((M 1 4) - 1)) = ca_undo (M 1) from by unfold ca_undo h_goBack; first | (rw [if_pos (by assumption)]; done) | (rw [if_neg (by assumption), if_neg (by omega)]; exact (wset_ne (by omega)).symm)), by rw [ht9]; exact hPf, va_K.moved hW9.alike hK, hDf⟩, hS.F ht9⟩) hS.2.2 dX6_undo_50
  · refine lv_aload_n hx hb dX6_undo_9 rfl (lv_at hl 0 rfl) ?_
    refine q_cEi (z := -3) (b := (q 0)) (As := []) (rest := []) (w1 := wMo g q (mno M)) ⟨hx, hb, hml, hown, hts⟩ hP hD hK hT hS hA (kX6_no l dC dI g tt _ q M) (cwV 0 hts gX6_undo_X6_no rfl rfl rfl (by decide +kernel) ⟨Nat.le_of_ble_eq_true rfl, Nat.le_of_ble_eq_true rfl⟩) 0 5 rfl rfl rfl rfl hl.1 rfl (Nat.le_of_ble_eq_true rfl) dX6_undo_10 ⟨Nat.le_of_ble_eq_true rfl, Nat.le_of_ble_eq_true rfl⟩ (fun H locs hP hD hS => ?_)
    have hPf : va_P (dC, dI) vwCl (wMo g q (m_undo M)) H := by rw [(show (m_undo M) = mno M from by unfold m_undo; (repeat' split) <;> first | rfl | (exfalso; omega))]; exact hP
    have hDf : va_D A (wMo g q (m_undo M)) := by rw [(show (m_undo M) = mno M from by unfold m_undo; (repeat' split) <;> first | rfl | (exfalso; omega))]; exact hD
    exact W.iret hx hb hr (fun t9 ht9 hW9 => ⟨⟨_, (), rfl, congrArg zI (show -3 = ca_undo (M 1) from by unfold ca_undo h_goBack; first | (rw [if_pos (by assumption)]; done) | (rw [if_neg (by assumption), if_neg (by omega)]; exact (wset_ne (by omega)).symm)), by rw [ht9]; exact hPf, va_K.moved hW9.alike hK, hDf⟩, hS.F ht9⟩) hS.2.2 dX6_undo_13
set_option maxHeartbeats 4000000 in
set_option maxRecDepth 100000 in
theorem kX6_of (l : Launch) (dC : Nat → ClassId) (dI : Nat → Nat → Nat) (g : Nat → ClassId) (tt : Nat → Nat) (sz : Nat) (q : Nat → Nat) (M : Nat → Int → Int) (x1 x2 : Int) (hw : hok (M 1)) (h1 : rI x1 ∧ rI x2) : Met l yX6_of wsX6_of ({ frames := 5, cells := 0, slots := 0, locals := 115 }) (va_Pc [.ref (q 0), .int (zI x1), .int (zI x2)] (eQ (dC, dI) (wTy g) (wMo g q M) tt sz)) (va_Qi (fun r (_ : Unit) => r = zI (ca_of (M 1) x1 x2)) (fQ (dC, dI) (wTy g) (va_A (wMo g q M) sz) (wMo g q (m_of M x1 x2))) (va_A (wMo g q M) sz)) 0 0 (va_A (wMo g q M) sz) := by
  refine Met.ofW (cc := cX6_of) (maxL := 4) (ret := (some .int)) (by decide) rfl ?_
  intro p e s m args below meth c s₁ B hml hv
  obtain ⟨rfl, hsz, hP, hK, hD0, hT⟩ := hv
  have hx := B.exec
  have hb := B.bytes
  have hr := B.returns
  have hts := atoms_spec (ws := wsX6_of) B.pre
  have hown : s.vm.findClass RX6 = some m.cls := findClass_of_methodNamed B.named
  have hlocks := B.notSynchronized
  subst hsz
  have hD := hD0.self (sz := s.heap.size)
  generalize hAe : va_A (wMo g q M) s.heap.size = A at hD hT ⊢
  have hA : ∀ q : Nat, s.heap.size ≤ q → A q := fun q h => by rw [← hAe]; exact Or.inr h
  have hS : va_S A s.heap s.heap [] := va_S.rf
  have hl := lv_entry ([.ref (q 0), .int (zI x1), .int (zI x2)]) (n := 4) (Nat.le_of_ble_eq_true rfl)
  rw [lg_entry_eq]
  generalize (lg_sl ([.ref (q 0), .int (zI x1), .int (zI x2)]) ++ List.replicate (4 - (lg_sl ([.ref (q 0), .int (zI x1), .int (zI x2)])).length) Slot.unset).toArray = ls at hl ⊢
  have hl : lv_has ls 4 [(0, .ref (q 0)), (1, .int (zI x1)), (2, .int (zI x2))] := hl
  have kc46 := hts (.constantLong RX6 46 (5)) (by decide +kernel)
  have kf7 := hts (.fieldLink RX6 7 "WrongWayModel" "w" "[I") (by decide +kernel)
  have iX6 := (fun w h => List.mem_cons_of_mem _ (List.mem_append_right _ h) : ∀ w ∈ u_ws RX6 TX6 15, w ∈ wsX6_of)
  have hb0 := hw.b
  refine lv_aload_n hx hb dX6_of_0 rfl (lv_at hl 0 rfl) ?_
  refine lv_iload_n hx hb dX6_of_1 rfl (lv_at hl 1 rfl) ?_
  refine q_cVi (z := bz (0 ≤ x1 ∧ x1 ≤ M 1 0 - 1)) (b := (q 0)) (As := [.int (zI x1)]) (rest := []) ⟨hx, hb, hml, hown, hts⟩ (kX6_isLift l dC dI g tt q M x1 (hw) (by omega)) (cwV 1 hts gX6_of_X6_isLift rfl rfl rfl (by decide +kernel) ⟨Nat.le_of_ble_eq_true rfl, Nat.le_of_ble_eq_true rfl⟩) hP hK hT hS 0 5 rfl rfl rfl rfl hl.1 rfl (Nat.le_of_ble_eq_true rfl) dX6_of_2 ⟨Nat.le_of_ble_eq_true rfl, Nat.le_of_ble_eq_true rfl⟩ ?_
  refine q_bz_eq (tgt := 20) hx hb dX6_of_5 (by decide) (fun c_1 => ?_) (fun c_1 => ?_)
  · refine lv_aload_n hx hb dX6_of_20 rfl (lv_at hl 0 rfl) ?_
    refine q_cEi (z := -2) (b := (q 0)) (As := []) (rest := []) (w1 := wMo g q (mbad M)) ⟨hx, hb, hml, hown, hts⟩ hP hD hK hT hS hA (kX6_bad l dC dI g tt _ q M) (cwV 0 hts gX6_of_X6_bad rfl rfl rfl (by decide +kernel) ⟨Nat.le_of_ble_eq_true rfl, Nat.le_of_ble_eq_true rfl⟩) 0 5 rfl rfl rfl rfl hl.1 rfl (Nat.le_of_ble_eq_true rfl) dX6_of_21 ⟨Nat.le_of_ble_eq_true rfl, Nat.le_of_ble_eq_true rfl⟩ (fun H locs hP hD hS => ?_)
    have hPf : va_P (dC, dI) vwCl (wMo g q (m_of M x1 x2)) H := by rw [(show (m_of M x1 x2) = mbad M from by unfold m_of; (repeat' split) <;> first | rfl | (exfalso; omega))]; exact hP
    have hDf : va_D A (wMo g q (m_of M x1 x2)) := by rw [(show (m_of M x1 x2) = mbad M from by unfold m_of; (repeat' split) <;> first | rfl | (exfalso; omega))]; exact hD
    exact W.iret hx hb hr (fun t9 ht9 hW9 => ⟨⟨_, (), rfl, congrArg zI (show -2 = ca_of (M 1) x1 x2 from by unfold ca_of; (repeat' split) <;> first | rfl | (exfalso; omega) | (exact (bz_t (by assumption)).symm) | (exact (bz_f (by assumption)).symm)), by rw [ht9]; exact hPf, va_K.moved hW9.alike hK, hDf⟩, hS.F ht9⟩) hS.2.2 dX6_of_24
  · refine lv_iload_n hx hb dX6_of_8 rfl (lv_at hl 2 rfl) ?_
    refine q_i2l hx hb dX6_of_9 (by omega) ?_
    refine q_lconst hx hb 0 dX6_of_10 rfl ?_
    refine q_ldc2 hx hb 5 hown kc46 (by decide) dX6_of_11 ?_
    refine q_cSi (z := bz (0 ≤ x2 ∧ x2 ≤ 5)) (As := [.long (zL x2), .long (zL 0), .long (zL 5)]) (rest := []) ⟨hx, hb, hml, hown, hts⟩ (kX6_in l dC dI g tt x2 0 5 (by omega)) (va_cwS 3 hts gX6_of_X6_in rfl rfl rfl (by decide +kernel) ⟨Nat.le_of_ble_eq_true rfl, Nat.le_of_ble_eq_true rfl⟩) (hP.sub (ws' := []) [] rfl) hK hT hS rfl hl.1 rfl (Nat.le_of_ble_eq_true rfl) dX6_of_14 ⟨Nat.le_of_ble_eq_true rfl, Nat.le_of_ble_eq_true rfl⟩ ?_
    refine q_bz_ne (tgt := 25) hx hb dX6_of_17 (by decide) (fun c_2 => ?_) (fun c_2 => ?_)
    · refine lv_aload_n hx hb dX6_of_25 rfl (lv_at hl 0 rfl) ?_
      refine lv_iload_n hx hb dX6_of_26 rfl (lv_at hl 1 rfl) ?_
      refine lv_aload_n hx hb dX6_of_27 rfl (lv_at hl 0 rfl) ?_
      have hk0 := hw.k (k := x1) (by omega) (by omega)
      refine va_get (D := (dC, dI)) (ci := 5) (v := .ref (q 1)) (C := RX6) (T := TX6) (N := 15) hx hb hts iX6 hown hK hP 0 rfl rfl 0 (by decide) kf7 (fun _ h9 => h9) rfl dX6_of_28 ?_
      refine q_iconst hx hb dX6_of_31 ?_
      refine q_iald (F := fun k9 => M 1 k9) (v := M 1 2) hx hb hK hP 1 0 rfl rfl (by decide) (by omega) (rfl) dX6_of_32 ?_
      refine q_cVi (z := c_floor (M 1 (5 + x1)) (M 1 1) (M 1 (9 + x1)) (M 1 2)) (b := (q 0)) (As := [.int (zI x1), .int (zI (M 1 2))]) (rest := []) ⟨hx, hb, hml, hown, hts⟩ (kX6_floorIn l dC dI g tt q M x1 (M 1 2) (hw) (by omega) (by omega)) (cwV 2 hts gX6_of_X6_floorIn rfl rfl rfl (by decide +kernel) ⟨Nat.le_of_ble_eq_true rfl, Nat.le_of_ble_eq_true rfl⟩) hP hK hT hS 0 5 rfl rfl rfl rfl hl.1 rfl (Nat.le_of_ble_eq_true rfl) dX6_of_33 ⟨Nat.le_of_ble_eq_true rfl, Nat.le_of_ble_eq_true rfl⟩ ?_
      have := c_fl_r hw (L := x1) (m := (M 1 2)) (by omega) (by omega)
      have : 0 ≤ c_floor (M 1 (5 + x1)) (M 1 1) (M 1 (9 + x1)) (M 1 2) ∧ c_floor (M 1 (5 + x1)) (M 1 1) (M 1 (9 + x1)) (M 1 2) ≤ M 1 1 := this
      refine lv_istore_n (lv' := [(3, .int (zI (c_floor (M 1 (5 + x1)) (M 1 1) (M 1 (9 + x1)) (M 1 2)))), (0, .ref (q 0)), (1, .int (zI x1)), (2, .int (zI x2))]) hx hb dX6_of_36 rfl hl (by decide) rfl (fun ls hl => ?_)
      refine lv_iload_n hx hb dX6_of_37 rfl (lv_at hl 3 rfl) ?_
      rcases (show x2 = 0 ∨ x2 = 1 ∨ x2 = 2 ∨ x2 = 3 ∨ x2 = 4 ∨ (x2 < 0 ∨ 4 < x2) from by omega) with c_3 | c_3 | c_3 | c_3 | c_3 | c_3
      · refine q_tabIn (off := 34) (tgt := 72) (j := 0) hx hb dX6_of_38 c_3 (by decide) (by decide) (by decide) (by decide) (by decide) ?_
        refine lv_aload_n hx hb dX6_of_72 rfl (lv_at hl 1 rfl) ?_
        refine va_get (D := (dC, dI)) (ci := 5) (v := .ref (q 1)) (C := RX6) (T := TX6) (N := 15) hx hb hts iX6 hown hK hP 0 rfl rfl 0 (by decide) kf7 (fun _ h9 => h9) rfl dX6_of_73 ?_
        refine q_iconst hx hb dX6_of_76 ?_
        refine lv_iload_n hx hb dX6_of_77 rfl (lv_at hl 2 rfl) ?_
        refine q_iadd hx hb dX6_of_78 ?_
        refine q_iald (F := fun k9 => M 1 k9) (v := M 1 (5 + x1)) hx hb hK hP 1 0 rfl rfl (by decide) (by omega) (rfl) dX6_of_79 ?_
        have hPf : va_P (dC, dI) vwCl (wMo g q (m_of M x1 x2)) s.heap := by rw [(show (m_of M x1 x2) = M from by unfold m_of; (repeat' split) <;> first | rfl | (exfalso; omega))]; exact hP
        have hDf : va_D A (wMo g q (m_of M x1 x2)) := by rw [(show (m_of M x1 x2) = M from by unfold m_of; (repeat' split) <;> first | rfl | (exfalso; omega))]; exact hD
        exact W.iret hx hb hr (fun t9 ht9 hW9 => ⟨⟨_, (), rfl, congrArg zI (show M 1 (5 + x1) = ca_of (M 1) x1 x2 from by unfold ca_of; (repeat' split) <;> first | rfl | (exfalso; omega) | (exact (bz_t (by assumption)).symm) | (exact (bz_f (by assumption)).symm)), by rw [ht9]; exact hPf, va_K.moved hW9.alike hK, hDf⟩, hS.F ht9⟩) hS.2.2 dX6_of_80
      · refine q_tabIn (off := 43) (tgt := 81) (j := 1) hx hb dX6_of_38 c_3 (by decide) (by decide) (by decide) (by decide) (by decide) ?_
        refine lv_aload_n hx hb dX6_of_81 rfl (lv_at hl 1 rfl) ?_
        refine va_get (D := (dC, dI)) (ci := 5) (v := .ref (q 1)) (C := RX6) (T := TX6) (N := 15) hx hb hts iX6 hown hK hP 0 rfl rfl 0 (by decide) kf7 (fun _ h9 => h9) rfl dX6_of_82 ?_
        refine q_bipush hx hb dX6_of_85 rfl ?_
        refine lv_iload_n hx hb dX6_of_87 rfl (lv_at hl 2 rfl) ?_
        refine q_iadd hx hb dX6_of_88 ?_
        refine q_iald (F := fun k9 => M 1 k9) (v := M 1 (9 + x1)) hx hb hK hP 1 0 rfl rfl (by decide) (by omega) (rfl) dX6_of_89 ?_
        have hPf : va_P (dC, dI) vwCl (wMo g q (m_of M x1 x2)) s.heap := by rw [(show (m_of M x1 x2) = M from by unfold m_of; (repeat' split) <;> first | rfl | (exfalso; omega))]; exact hP
        have hDf : va_D A (wMo g q (m_of M x1 x2)) := by rw [(show (m_of M x1 x2) = M from by unfold m_of; (repeat' split) <;> first | rfl | (exfalso; omega))]; exact hD
        exact W.iret hx hb hr (fun t9 ht9 hW9 => ⟨⟨_, (), rfl, congrArg zI (show M 1 (9 + x1) = ca_of (M 1) x1 x2 from by unfold ca_of; (repeat' split) <;> first | rfl | (exfalso; omega) | (exact (bz_t (by assumption)).symm) | (exact (bz_f (by assumption)).symm)), by rw [ht9]; exact hPf, va_K.moved hW9.alike hK, hDf⟩, hS.F ht9⟩) hS.2.2 dX6_of_90
      · refine q_tabIn (off := 53) (tgt := 91) (j := 2) hx hb dX6_of_38 c_3 (by decide) (by decide) (by decide) (by decide) (by decide) ?_
        refine lv_aload_n hx hb dX6_of_91 rfl (lv_at hl 1 rfl) ?_
        refine lv_aload_n hx hb dX6_of_92 rfl (lv_at hl 1 rfl) ?_
        refine va_get (D := (dC, dI)) (ci := 5) (v := .ref (q 1)) (C := RX6) (T := TX6) (N := 15) hx hb hts iX6 hown hK hP 0 rfl rfl 0 (by decide) kf7 (fun _ h9 => h9) rfl dX6_of_93 ?_
        refine q_iconst hx hb dX6_of_96 ?_
        refine lv_iload_n hx hb dX6_of_97 rfl (lv_at hl 2 rfl) ?_
        refine q_iadd hx hb dX6_of_98 ?_
        refine q_iald (F := fun k9 => M 1 k9) (v := M 1 (5 + x1)) hx hb hK hP 1 0 rfl rfl (by decide) (by omega) (rfl) dX6_of_99 ?_
        refine q_cVi (z := c_round (M 1 (5 + x1)) (M 1 1)) (b := (q 0)) (As := [.int (zI (M 1 (5 + x1)))]) (rest := []) ⟨hx, hb, hml, hown, hts⟩ (kX6_roundOf l dC dI g tt q M (M 1 (5 + x1)) (hw) (by omega)) (cwV 1 hts gX6_of_X6_roundOf rfl rfl rfl (by decide +kernel) ⟨Nat.le_of_ble_eq_true rfl, Nat.le_of_ble_eq_true rfl⟩) hP hK hT hS 0 5 rfl rfl rfl rfl hl.1 rfl (Nat.le_of_ble_eq_true rfl) dX6_of_100 ⟨Nat.le_of_ble_eq_true rfl, Nat.le_of_ble_eq_true rfl⟩ ?_
        have := c_round_r (M 1 (5 + x1)) (t := M 1 1) (by omega)
        have hPf : va_P (dC, dI) vwCl (wMo g q (m_of M x1 x2)) s.heap := by rw [(show (m_of M x1 x2) = M from by unfold m_of; (repeat' split) <;> first | rfl | (exfalso; omega))]; exact hP
        have hDf : va_D A (wMo g q (m_of M x1 x2)) := by rw [(show (m_of M x1 x2) = M from by unfold m_of; (repeat' split) <;> first | rfl | (exfalso; omega))]; exact hD
        exact W.iret hx hb hr (fun t9 ht9 hW9 => ⟨⟨_, (), rfl, congrArg zI (show c_round (M 1 (5 + x1)) (M 1 1) = ca_of (M 1) x1 x2 from by unfold ca_of; (repeat' split) <;> first | rfl | (exfalso; omega) | (exact (bz_t (by assumption)).symm) | (exact (bz_f (by assumption)).symm)), by rw [ht9]; exact hPf, va_K.moved hW9.alike hK, hDf⟩, hS.F ht9⟩) hS.2.2 dX6_of_103
      · refine q_tabIn (off := 66) (tgt := 104) (j := 3) hx hb dX6_of_38 c_3 (by decide) (by decide) (by decide) (by decide) (by decide) ?_
        refine lv_iload_n hx hb dX6_of_104 rfl (lv_at hl 0 rfl) ?_
        have hPf : va_P (dC, dI) vwCl (wMo g q (m_of M x1 x2)) s.heap := by rw [(show (m_of M x1 x2) = M from by unfold m_of; (repeat' split) <;> first | rfl | (exfalso; omega))]; exact hP
        have hDf : va_D A (wMo g q (m_of M x1 x2)) := by rw [(show (m_of M x1 x2) = M from by unfold m_of; (repeat' split) <;> first | rfl | (exfalso; omega))]; exact hD
        exact W.iret hx hb hr (fun t9 ht9 hW9 => ⟨⟨_, (), rfl, congrArg zI (show c_floor (M 1 (5 + x1)) (M 1 1) (M 1 (9 + x1)) (M 1 2) = ca_of (M 1) x1 x2 from by unfold ca_of; (repeat' split) <;> first | rfl | (exfalso; omega) | (exact (bz_t (by assumption)).symm) | (exact (bz_f (by assumption)).symm)), by rw [ht9]; exact hPf, va_K.moved hW9.alike hK, hDf⟩, hS.F ht9⟩) hS.2.2 dX6_of_105
      · refine q_tabIn (off := 68) (tgt := 106) (j := 4) hx hb dX6_of_38 c_3 (by decide) (by decide) (by decide) (by decide) (by decide) ?_
        refine lv_aload_n hx hb dX6_of_106 rfl (lv_at hl 1 rfl) ?_
        refine lv_iload_n hx hb dX6_of_107 rfl (lv_at hl 2 rfl) ?_
        refine lv_aload_n hx hb dX6_of_108 rfl (lv_at hl 1 rfl) ?_
        refine va_get (D := (dC, dI)) (ci := 5) (v := .ref (q 1)) (C := RX6) (T := TX6) (N := 15) hx hb hts iX6 hown hK hP 0 rfl rfl 0 (by decide) kf7 (fun _ h9 => h9) rfl dX6_of_109 ?_
        refine q_iconst hx hb dX6_of_112 ?_
        refine q_iald (F := fun k9 => M 1 k9) (v := M 1 2) hx hb hK hP 1 0 rfl rfl (by decide) (by omega) (rfl) dX6_of_113 ?_
        refine q_cVi (z := c_wy (M 1) x1 (M 1 2)) (b := (q 0)) (As := [.int (zI x1), .int (zI (M 1 2))]) (rest := []) ⟨hx, hb, hml, hown, hts⟩ (kX6_wayIn l dC dI g tt q M x1 (M 1 2) (hw) (by omega) (by omega)) (cwV 2 hts gX6_of_X6_wayIn rfl rfl rfl (by decide +kernel) ⟨Nat.le_of_ble_eq_true rfl, Nat.le_of_ble_eq_true rfl⟩) hP hK hT hS 0 5 rfl rfl rfl rfl hl.1 rfl (Nat.le_of_ble_eq_true rfl) dX6_of_114 ⟨Nat.le_of_ble_eq_true rfl, Nat.le_of_ble_eq_true rfl⟩ ?_
        have := c_wy_r (M 1) x1 (M 1 2)
        have hPf : va_P (dC, dI) vwCl (wMo g q (m_of M x1 x2)) s.heap := by rw [(show (m_of M x1 x2) = M from by unfold m_of; (repeat' split) <;> first | rfl | (exfalso; omega))]; exact hP
        have hDf : va_D A (wMo g q (m_of M x1 x2)) := by rw [(show (m_of M x1 x2) = M from by unfold m_of; (repeat' split) <;> first | rfl | (exfalso; omega))]; exact hD
        exact W.iret hx hb hr (fun t9 ht9 hW9 => ⟨⟨_, (), rfl, congrArg zI (show c_wy (M 1) x1 (M 1 2) = ca_of (M 1) x1 x2 from by unfold ca_of; (repeat' split) <;> first | rfl | (exfalso; omega) | (exact (bz_t (by assumption)).symm) | (exact (bz_f (by assumption)).symm)), by rw [ht9]; exact hPf, va_K.moved hW9.alike hK, hDf⟩, hS.F ht9⟩) hS.2.2 dX6_of_117
      · refine q_tabOut (tgt := 118) hx hb dX6_of_38 (by omega) c_3 (by decide) ?_
        refine lv_aload_n hx hb dX6_of_118 rfl (lv_at hl 1 rfl) ?_
        refine lv_iload_n hx hb dX6_of_119 rfl (lv_at hl 2 rfl) ?_
        refine lv_iload_n hx hb dX6_of_120 rfl (lv_at hl 0 rfl) ?_
        refine q_cVi (z := bz (c_opens (M 1 (5 + x1)) (M 1 1) (c_floor (M 1 (5 + x1)) (M 1 1) (M 1 (9 + x1)) (M 1 2)) = true)) (b := (q 0)) (As := [.int (zI x1), .int (zI (c_floor (M 1 (5 + x1)) (M 1 1) (M 1 (9 + x1)) (M 1 2)))]) (rest := []) ⟨hx, hb, hml, hown, hts⟩ (kX6_isTaken l dC dI g tt q M x1 (c_floor (M 1 (5 + x1)) (M 1 1) (M 1 (9 + x1)) (M 1 2)) (hw) (by omega) (by omega)) (cwV 2 hts gX6_of_X6_isTaken rfl rfl rfl (by decide +kernel) ⟨Nat.le_of_ble_eq_true rfl, Nat.le_of_ble_eq_true rfl⟩) hP hK hT hS 0 5 rfl rfl rfl rfl hl.1 rfl (Nat.le_of_ble_eq_true rfl) dX6_of_121 ⟨Nat.le_of_ble_eq_true rfl, Nat.le_of_ble_eq_true rfl⟩ ?_
        refine q_bz_eq (tgt := 131) hx hb dX6_of_124 (by decide) (fun c_4 => ?_) (fun c_4 => ?_)
        · refine q_iconst hx hb dX6_of_131 ?_
          have hPf : va_P (dC, dI) vwCl (wMo g q (m_of M x1 x2)) s.heap := by rw [(show (m_of M x1 x2) = M from by unfold m_of; (repeat' split) <;> first | rfl | (exfalso; omega))]; exact hP
          have hDf : va_D A (wMo g q (m_of M x1 x2)) := by rw [(show (m_of M x1 x2) = M from by unfold m_of; (repeat' split) <;> first | rfl | (exfalso; omega))]; exact hD
          exact W.iret hx hb hr (fun t9 ht9 hW9 => ⟨⟨_, (), rfl, congrArg zI (show 0 = ca_of (M 1) x1 x2 from by unfold ca_of; (repeat' split) <;> first | rfl | (exfalso; omega) | (exact (bz_t (by assumption)).symm) | (exact (bz_f (by assumption)).symm)), by rw [ht9]; exact hPf, va_K.moved hW9.alike hK, hDf⟩, hS.F ht9⟩) hS.2.2 dX6_of_132
        · refine q_iconst hx hb dX6_of_127 ?_
          refine lv_goto (tgt := 132) hx hb dX6_of_128 (by decide) ?_
          have hPf : va_P (dC, dI) vwCl (wMo g q (m_of M x1 x2)) s.heap := by rw [(show (m_of M x1 x2) = M from by unfold m_of; (repeat' split) <;> first | rfl | (exfalso; omega))]; exact hP
          have hDf : va_D A (wMo g q (m_of M x1 x2)) := by rw [(show (m_of M x1 x2) = M from by unfold m_of; (repeat' split) <;> first | rfl | (exfalso; omega))]; exact hD
          exact W.iret hx hb hr (fun t9 ht9 hW9 => ⟨⟨_, (), rfl, congrArg zI (show 1 = ca_of (M 1) x1 x2 from by unfold ca_of; (repeat' split) <;> first | rfl | (exfalso; omega) | (exact (bz_t (by assumption)).symm) | (exact (bz_f (by assumption)).symm)), by rw [ht9]; exact hPf, va_K.moved hW9.alike hK, hDf⟩, hS.F ht9⟩) hS.2.2 dX6_of_132
    · refine lv_aload_n hx hb dX6_of_20 rfl (lv_at hl 0 rfl) ?_
      refine q_cEi (z := -2) (b := (q 0)) (As := []) (rest := []) (w1 := wMo g q (mbad M)) ⟨hx, hb, hml, hown, hts⟩ hP hD hK hT hS hA (kX6_bad l dC dI g tt _ q M) (cwV 0 hts gX6_of_X6_bad rfl rfl rfl (by decide +kernel) ⟨Nat.le_of_ble_eq_true rfl, Nat.le_of_ble_eq_true rfl⟩) 0 5 rfl rfl rfl rfl hl.1 rfl (Nat.le_of_ble_eq_true rfl) dX6_of_21 ⟨Nat.le_of_ble_eq_true rfl, Nat.le_of_ble_eq_true rfl⟩ (fun H locs hP hD hS => ?_)
      have hPf : va_P (dC, dI) vwCl (wMo g q (m_of M x1 x2)) H := by rw [(show (m_of M x1 x2) = mbad M from by unfold m_of; (repeat' split) <;> first | rfl | (exfalso; omega))]; exact hP
      have hDf : va_D A (wMo g q (m_of M x1 x2)) := by rw [(show (m_of M x1 x2) = mbad M from by unfold m_of; (repeat' split) <;> first | rfl | (exfalso; omega))]; exact hD
      exact W.iret hx hb hr (fun t9 ht9 hW9 => ⟨⟨_, (), rfl, congrArg zI (show -2 = ca_of (M 1) x1 x2 from by unfold ca_of; (repeat' split) <;> first | rfl | (exfalso; omega) | (exact (bz_t (by assumption)).symm) | (exact (bz_f (by assumption)).symm)), by rw [ht9]; exact hPf, va_K.moved hW9.alike hK, hDf⟩, hS.F ht9⟩) hS.2.2 dX6_of_24
set_option maxHeartbeats 4000000 in
set_option maxRecDepth 100000 in
theorem kX6_where (l : Launch) (dC : Nat → ClassId) (dI : Nat → Nat → Nat) (g : Nat → ClassId) (tt : Nat → Nat) (sz : Nat) (q : Nat → Nat) (M : Nat → Int → Int) (x1 x2 : Int) (hw : hok (M 1)) (h1 : rI x1 ∧ rI x2) : Met l yX6_where wsX6_where ({ frames := 4, cells := 0, slots := 0, locals := 90 }) (va_Pc [.ref (q 0), .int (zI x1), .int (zI x2)] (eQ (dC, dI) (wTy g) (wMo g q M) tt sz)) (va_Qi (fun r (_ : Unit) => r = zI (ca_where (M 1) x1 x2)) (fQ (dC, dI) (wTy g) (va_A (wMo g q M) sz) (wMo g q (m_where M x1 x2))) (va_A (wMo g q M) sz)) 0 0 (va_A (wMo g q M) sz) := by
  refine Met.ofW (cc := cX6_where) (maxL := 3) (ret := (some .int)) (by decide) rfl ?_
  intro p e s m args below meth c s₁ B hml hv
  obtain ⟨rfl, hsz, hP, hK, hD0, hT⟩ := hv
  have hx := B.exec
  have hb := B.bytes
  have hr := B.returns
  have hts := atoms_spec (ws := wsX6_where) B.pre
  have hown : s.vm.findClass RX6 = some m.cls := findClass_of_methodNamed B.named
  have hlocks := B.notSynchronized
  subst hsz
  have hD := hD0.self (sz := s.heap.size)
  generalize hAe : va_A (wMo g q M) s.heap.size = A at hD hT ⊢
  have hA : ∀ q : Nat, s.heap.size ≤ q → A q := fun q h => by rw [← hAe]; exact Or.inr h
  have hS : va_S A s.heap s.heap [] := va_S.rf
  have hl := lv_entry ([.ref (q 0), .int (zI x1), .int (zI x2)]) (n := 3) (Nat.le_of_ble_eq_true rfl)
  rw [lg_entry_eq]
  generalize (lg_sl ([.ref (q 0), .int (zI x1), .int (zI x2)]) ++ List.replicate (3 - (lg_sl ([.ref (q 0), .int (zI x1), .int (zI x2)])).length) Slot.unset).toArray = ls at hl ⊢
  have hl : lv_has ls 3 [(0, .ref (q 0)), (1, .int (zI x1)), (2, .int (zI x2))] := hl
  have hb0 := hw.b
  refine lv_aload_n hx hb dX6_where_0 rfl (lv_at hl 0 rfl) ?_
  refine lv_iload_n hx hb dX6_where_1 rfl (lv_at hl 1 rfl) ?_
  refine q_cVi (z := bz (0 ≤ x1 ∧ x1 ≤ M 1 0 - 1)) (b := (q 0)) (As := [.int (zI x1)]) (rest := []) ⟨hx, hb, hml, hown, hts⟩ (kX6_isLift l dC dI g tt q M x1 (hw) (by omega)) (cwV 1 hts gX6_where_X6_isLift rfl rfl rfl (by decide +kernel) ⟨Nat.le_of_ble_eq_true rfl, Nat.le_of_ble_eq_true rfl⟩) hP hK hT hS 0 5 rfl rfl rfl rfl hl.1 rfl (Nat.le_of_ble_eq_true rfl) dX6_where_2 ⟨Nat.le_of_ble_eq_true rfl, Nat.le_of_ble_eq_true rfl⟩ ?_
  refine q_bz_eq (tgt := 24) hx hb dX6_where_5 (by decide) (fun c_1 => ?_) (fun c_1 => ?_)
  · refine lv_aload_n hx hb dX6_where_24 rfl (lv_at hl 0 rfl) ?_
    refine q_cEi (z := -2) (b := (q 0)) (As := []) (rest := []) (w1 := wMo g q (mbad M)) ⟨hx, hb, hml, hown, hts⟩ hP hD hK hT hS hA (kX6_bad l dC dI g tt _ q M) (cwV 0 hts gX6_where_X6_bad rfl rfl rfl (by decide +kernel) ⟨Nat.le_of_ble_eq_true rfl, Nat.le_of_ble_eq_true rfl⟩) 0 5 rfl rfl rfl rfl hl.1 rfl (Nat.le_of_ble_eq_true rfl) dX6_where_25 ⟨Nat.le_of_ble_eq_true rfl, Nat.le_of_ble_eq_true rfl⟩ (fun H locs hP hD hS => ?_)
    have hPf : va_P (dC, dI) vwCl (wMo g q (m_where M x1 x2)) H := by rw [(show (m_where M x1 x2) = mbad M from by unfold m_where; (repeat' split) <;> first | rfl | (exfalso; omega))]; exact hP
    have hDf : va_D A (wMo g q (m_where M x1 x2)) := by rw [(show (m_where M x1 x2) = mbad M from by unfold m_where; (repeat' split) <;> first | rfl | (exfalso; omega))]; exact hD
    exact W.iret hx hb hr (fun t9 ht9 hW9 => ⟨⟨_, (), rfl, congrArg zI (show -2 = ca_where (M 1) x1 x2 from by unfold ca_where; (repeat' split) <;> first | rfl | (exfalso; omega)), by rw [ht9]; exact hPf, va_K.moved hW9.alike hK, hDf⟩, hS.F ht9⟩) hS.2.2 dX6_where_28
  · refine lv_iload_n hx hb dX6_where_8 rfl (lv_at hl 2 rfl) ?_
    refine q_cSi (z := bz (0 ≤ x2 ∧ x2 ≤ 999)) (As := [.int (zI x2)]) (rest := []) ⟨hx, hb, hml, hown, hts⟩ (kX6_isMinute l dC dI g tt x2 (by omega)) (va_cwS 1 hts gX6_where_X6_isMinute rfl rfl rfl (by decide +kernel) ⟨Nat.le_of_ble_eq_true rfl, Nat.le_of_ble_eq_true rfl⟩) (hP.sub (ws' := []) [] rfl) hK hT hS rfl hl.1 rfl (Nat.le_of_ble_eq_true rfl) dX6_where_9 ⟨Nat.le_of_ble_eq_true rfl, Nat.le_of_ble_eq_true rfl⟩ ?_
    refine q_bz_eq (tgt := 24) hx hb dX6_where_12 (by decide) (fun c_2 => ?_) (fun c_2 => ?_)
    · refine lv_aload_n hx hb dX6_where_24 rfl (lv_at hl 0 rfl) ?_
      refine q_cEi (z := -2) (b := (q 0)) (As := []) (rest := []) (w1 := wMo g q (mbad M)) ⟨hx, hb, hml, hown, hts⟩ hP hD hK hT hS hA (kX6_bad l dC dI g tt _ q M) (cwV 0 hts gX6_where_X6_bad rfl rfl rfl (by decide +kernel) ⟨Nat.le_of_ble_eq_true rfl, Nat.le_of_ble_eq_true rfl⟩) 0 5 rfl rfl rfl rfl hl.1 rfl (Nat.le_of_ble_eq_true rfl) dX6_where_25 ⟨Nat.le_of_ble_eq_true rfl, Nat.le_of_ble_eq_true rfl⟩ (fun H locs hP hD hS => ?_)
      have hPf : va_P (dC, dI) vwCl (wMo g q (m_where M x1 x2)) H := by rw [(show (m_where M x1 x2) = mbad M from by unfold m_where; (repeat' split) <;> first | rfl | (exfalso; omega))]; exact hP
      have hDf : va_D A (wMo g q (m_where M x1 x2)) := by rw [(show (m_where M x1 x2) = mbad M from by unfold m_where; (repeat' split) <;> first | rfl | (exfalso; omega))]; exact hD
      exact W.iret hx hb hr (fun t9 ht9 hW9 => ⟨⟨_, (), rfl, congrArg zI (show -2 = ca_where (M 1) x1 x2 from by unfold ca_where; (repeat' split) <;> first | rfl | (exfalso; omega)), by rw [ht9]; exact hPf, va_K.moved hW9.alike hK, hDf⟩, hS.F ht9⟩) hS.2.2 dX6_where_28
    · refine lv_aload_n hx hb dX6_where_15 rfl (lv_at hl 0 rfl) ?_
      refine lv_iload_n hx hb dX6_where_16 rfl (lv_at hl 1 rfl) ?_
      refine lv_iload_n hx hb dX6_where_17 rfl (lv_at hl 2 rfl) ?_
      refine q_cVi (z := c_floor (M 1 (5 + x1)) (M 1 1) (M 1 (9 + x1)) x2) (b := (q 0)) (As := [.int (zI x1), .int (zI x2)]) (rest := []) ⟨hx, hb, hml, hown, hts⟩ (kX6_floorIn l dC dI g tt q M x1 x2 (hw) (by omega) (by omega)) (cwV 2 hts gX6_where_X6_floorIn rfl rfl rfl (by decide +kernel) ⟨Nat.le_of_ble_eq_true rfl, Nat.le_of_ble_eq_true rfl⟩) hP hK hT hS 0 5 rfl rfl rfl rfl hl.1 rfl (Nat.le_of_ble_eq_true rfl) dX6_where_18 ⟨Nat.le_of_ble_eq_true rfl, Nat.le_of_ble_eq_true rfl⟩ ?_
      have := c_fl_r hw (L := x1) (m := x2) (by omega) (by omega)
      have : 0 ≤ c_floor (M 1 (5 + x1)) (M 1 1) (M 1 (9 + x1)) x2 ∧ c_floor (M 1 (5 + x1)) (M 1 1) (M 1 (9 + x1)) x2 ≤ M 1 1 := this
      refine lv_goto (tgt := 28) hx hb dX6_where_21 (by decide) ?_
      have hPf : va_P (dC, dI) vwCl (wMo g q (m_where M x1 x2)) s.heap := by rw [(show (m_where M x1 x2) = M from by unfold m_where; (repeat' split) <;> first | rfl | (exfalso; omega))]; exact hP
      have hDf : va_D A (wMo g q (m_where M x1 x2)) := by rw [(show (m_where M x1 x2) = M from by unfold m_where; (repeat' split) <;> first | rfl | (exfalso; omega))]; exact hD
      exact W.iret hx hb hr (fun t9 ht9 hW9 => ⟨⟨_, (), rfl, congrArg zI (show c_floor (M 1 (5 + x1)) (M 1 1) (M 1 (9 + x1)) x2 = ca_where (M 1) x1 x2 from by unfold ca_where; (repeat' split) <;> first | rfl | (exfalso; omega)), by rw [ht9]; exact hPf, va_K.moved hW9.alike hK, hDf⟩, hS.F ht9⟩) hS.2.2 dX6_where_28
set_option maxHeartbeats 4000000 in
set_option maxRecDepth 100000 in
theorem kX6_note (l : Launch) (dC : Nat → ClassId) (dI : Nat → Nat → Nat) (g : Nat → ClassId) (tt : Nat → Nat) (sz : Nat) (q : Nat → Nat) (M : Nat → Int → Int) (x1 x2 x3 x4 : Int) (hw : hok (M 1)) (h1 : rI x1 ∧ rI x2 ∧ rI x3 ∧ rI x4) : Met l yX6_note wsX6_note ({ frames := 2, cells := 0, slots := 0, locals := 46 }) (va_Pc [.ref (q 0), .int (zI x1), .int (zI x2), .int (zI x3), .int (zI x4)] (eQ (dC, dI) (wTy g) (wMo g q M) tt sz)) (va_Qi (fun r (_ : Unit) => r = zI (ca_note (M 1) x1 x2 x3 x4)) (fQ (dC, dI) (wTy g) (va_A (wMo g q M) sz) (wMo g q (m_note M x1 x2 x3 x4))) (va_A (wMo g q M) sz)) 0 0 (va_A (wMo g q M) sz) := by
  refine Met.ofW (cc := cX6_note) (maxL := 6) (ret := (some .int)) (by decide) rfl ?_
  intro p e s m args below meth c s₁ B hml hv
  obtain ⟨rfl, hsz, hP, hK, hD0, hT⟩ := hv
  have hx := B.exec
  have hb := B.bytes
  have hr := B.returns
  have hts := atoms_spec (ws := wsX6_note) B.pre
  have hown : s.vm.findClass RX6 = some m.cls := findClass_of_methodNamed B.named
  have hlocks := B.notSynchronized
  subst hsz
  have hD := hD0.self (sz := s.heap.size)
  generalize hAe : va_A (wMo g q M) s.heap.size = A at hD hT ⊢
  have hA : ∀ q : Nat, s.heap.size ≤ q → A q := fun q h => by rw [← hAe]; exact Or.inr h
  have hS : va_S A s.heap s.heap [] := va_S.rf
  have hl := lv_entry ([.ref (q 0), .int (zI x1), .int (zI x2), .int (zI x3), .int (zI x4)]) (n := 6) (Nat.le_of_ble_eq_true rfl)
  rw [lg_entry_eq]
  generalize (lg_sl ([.ref (q 0), .int (zI x1), .int (zI x2), .int (zI x3), .int (zI x4)]) ++ List.replicate (6 - (lg_sl ([.ref (q 0), .int (zI x1), .int (zI x2), .int (zI x3), .int (zI x4)])).length) Slot.unset).toArray = ls at hl ⊢
  have hl : lv_has ls 6 [(0, .ref (q 0)), (1, .int (zI x1)), (2, .int (zI x2)), (3, .int (zI x3)), (4, .int (zI x4))] := hl
  have kc48 := hts (.constantLong RX6 48 (99)) (by decide +kernel)
  have kf7 := hts (.fieldLink RX6 7 "WrongWayModel" "w" "[I") (by decide +kernel)
  have iX6 := (fun w h => List.mem_cons_of_mem _ (List.mem_append_right _ h) : ∀ w ∈ u_ws RX6 TX6 15, w ∈ wsX6_note)
  have hb0 := hw.b
  refine lv_aload_n hx hb dX6_note_0 rfl (lv_at hl 0 rfl) ?_
  refine lv_iload_n hx hb dX6_note_1 rfl (lv_at hl 1 rfl) ?_
  refine q_cVi (z := bz (0 ≤ x1 ∧ x1 ≤ M 1 0 - 1)) (b := (q 0)) (As := [.int (zI x1)]) (rest := []) ⟨hx, hb, hml, hown, hts⟩ (kX6_isLift l dC dI g tt q M x1 (hw) (by omega)) (cwV 1 hts gX6_note_X6_isLift rfl rfl rfl (by decide +kernel) ⟨Nat.le_of_ble_eq_true rfl, Nat.le_of_ble_eq_true rfl⟩) hP hK hT hS 0 5 rfl rfl rfl rfl hl.1 rfl (Nat.le_of_ble_eq_true rfl) dX6_note_2 ⟨Nat.le_of_ble_eq_true rfl, Nat.le_of_ble_eq_true rfl⟩ ?_
  refine q_bz_eq (tgt := 39) hx hb dX6_note_5 (by decide) (fun c_1 => ?_) (fun c_1 => ?_)
  · refine lv_aload_n hx hb dX6_note_39 rfl (lv_at hl 0 rfl) ?_
    refine q_cEi (z := -2) (b := (q 0)) (As := []) (rest := []) (w1 := wMo g q (mbad M)) ⟨hx, hb, hml, hown, hts⟩ hP hD hK hT hS hA (kX6_bad l dC dI g tt _ q M) (cwV 0 hts gX6_note_X6_bad rfl rfl rfl (by decide +kernel) ⟨Nat.le_of_ble_eq_true rfl, Nat.le_of_ble_eq_true rfl⟩) 0 5 rfl rfl rfl rfl hl.1 rfl (Nat.le_of_ble_eq_true rfl) dX6_note_40 ⟨Nat.le_of_ble_eq_true rfl, Nat.le_of_ble_eq_true rfl⟩ (fun H locs hP hD hS => ?_)
    have hPf : va_P (dC, dI) vwCl (wMo g q (m_note M x1 x2 x3 x4)) H := by rw [(show (m_note M x1 x2 x3 x4) = mbad M from by unfold m_note; (repeat' split) <;> first | rfl | (exfalso; omega))]; exact hP
    have hDf : va_D A (wMo g q (m_note M x1 x2 x3 x4)) := by rw [(show (m_note M x1 x2 x3 x4) = mbad M from by unfold m_note; (repeat' split) <;> first | rfl | (exfalso; omega))]; exact hD
    exact W.iret hx hb hr (fun t9 ht9 hW9 => ⟨⟨_, (), rfl, congrArg zI (show -2 = ca_note (M 1) x1 x2 x3 x4 from by unfold ca_note; (repeat' split) <;> first | rfl | omega | (exfalso; omega)), by rw [ht9]; exact hPf, va_K.moved hW9.alike hK, hDf⟩, hS.F ht9⟩) hS.2.2 dX6_note_43
  · refine lv_aload_n hx hb dX6_note_8 rfl (lv_at hl 0 rfl) ?_
    refine lv_iload_n hx hb dX6_note_9 rfl (lv_at hl 2 rfl) ?_
    refine q_cVi (z := bz (0 ≤ x2 ∧ x2 ≤ M 1 1)) (b := (q 0)) (As := [.int (zI x2)]) (rest := []) ⟨hx, hb, hml, hown, hts⟩ (kX6_isFloor l dC dI g tt q M x2 (hw) (by omega)) (cwV 1 hts gX6_note_X6_isFloor rfl rfl rfl (by decide +kernel) ⟨Nat.le_of_ble_eq_true rfl, Nat.le_of_ble_eq_true rfl⟩) hP hK hT hS 0 5 rfl rfl rfl rfl hl.1 rfl (Nat.le_of_ble_eq_true rfl) dX6_note_10 ⟨Nat.le_of_ble_eq_true rfl, Nat.le_of_ble_eq_true rfl⟩ ?_
    refine q_bz_eq (tgt := 39) hx hb dX6_note_13 (by decide) (fun c_2 => ?_) (fun c_2 => ?_)
    · refine lv_aload_n hx hb dX6_note_39 rfl (lv_at hl 0 rfl) ?_
      refine q_cEi (z := -2) (b := (q 0)) (As := []) (rest := []) (w1 := wMo g q (mbad M)) ⟨hx, hb, hml, hown, hts⟩ hP hD hK hT hS hA (kX6_bad l dC dI g tt _ q M) (cwV 0 hts gX6_note_X6_bad rfl rfl rfl (by decide +kernel) ⟨Nat.le_of_ble_eq_true rfl, Nat.le_of_ble_eq_true rfl⟩) 0 5 rfl rfl rfl rfl hl.1 rfl (Nat.le_of_ble_eq_true rfl) dX6_note_40 ⟨Nat.le_of_ble_eq_true rfl, Nat.le_of_ble_eq_true rfl⟩ (fun H locs hP hD hS => ?_)
      have hPf : va_P (dC, dI) vwCl (wMo g q (m_note M x1 x2 x3 x4)) H := by rw [(show (m_note M x1 x2 x3 x4) = mbad M from by unfold m_note; (repeat' split) <;> first | rfl | (exfalso; omega))]; exact hP
      have hDf : va_D A (wMo g q (m_note M x1 x2 x3 x4)) := by rw [(show (m_note M x1 x2 x3 x4) = mbad M from by unfold m_note; (repeat' split) <;> first | rfl | (exfalso; omega))]; exact hD
      exact W.iret hx hb hr (fun t9 ht9 hW9 => ⟨⟨_, (), rfl, congrArg zI (show -2 = ca_note (M 1) x1 x2 x3 x4 from by unfold ca_note; (repeat' split) <;> first | rfl | omega | (exfalso; omega)), by rw [ht9]; exact hPf, va_K.moved hW9.alike hK, hDf⟩, hS.F ht9⟩) hS.2.2 dX6_note_43
    · refine lv_iload_n hx hb dX6_note_16 rfl (lv_at hl 3 rfl) ?_
      refine q_i2l hx hb dX6_note_17 (by omega) ?_
      refine q_lconst hx hb 0 dX6_note_18 rfl ?_
      refine q_ldc2 hx hb 99 hown kc48 (by decide) dX6_note_19 ?_
      refine q_cSi (z := bz (0 ≤ x3 ∧ x3 ≤ 99)) (As := [.long (zL x3), .long (zL 0), .long (zL 99)]) (rest := []) ⟨hx, hb, hml, hown, hts⟩ (kX6_in l dC dI g tt x3 0 99 (by omega)) (va_cwS 3 hts gX6_note_X6_in rfl rfl rfl (by decide +kernel) ⟨Nat.le_of_ble_eq_true rfl, Nat.le_of_ble_eq_true rfl⟩) (hP.sub (ws' := []) [] rfl) hK hT hS rfl hl.1 rfl (Nat.le_of_ble_eq_true rfl) dX6_note_22 ⟨Nat.le_of_ble_eq_true rfl, Nat.le_of_ble_eq_true rfl⟩ ?_
      refine q_bz_eq (tgt := 39) hx hb dX6_note_25 (by decide) (fun c_3 => ?_) (fun c_3 => ?_)
      · refine lv_aload_n hx hb dX6_note_39 rfl (lv_at hl 0 rfl) ?_
        refine q_cEi (z := -2) (b := (q 0)) (As := []) (rest := []) (w1 := wMo g q (mbad M)) ⟨hx, hb, hml, hown, hts⟩ hP hD hK hT hS hA (kX6_bad l dC dI g tt _ q M) (cwV 0 hts gX6_note_X6_bad rfl rfl rfl (by decide +kernel) ⟨Nat.le_of_ble_eq_true rfl, Nat.le_of_ble_eq_true rfl⟩) 0 5 rfl rfl rfl rfl hl.1 rfl (Nat.le_of_ble_eq_true rfl) dX6_note_40 ⟨Nat.le_of_ble_eq_true rfl, Nat.le_of_ble_eq_true rfl⟩ (fun H locs hP hD hS => ?_)
        have hPf : va_P (dC, dI) vwCl (wMo g q (m_note M x1 x2 x3 x4)) H := by rw [(show (m_note M x1 x2 x3 x4) = mbad M from by unfold m_note; (repeat' split) <;> first | rfl | (exfalso; omega))]; exact hP
        have hDf : va_D A (wMo g q (m_note M x1 x2 x3 x4)) := by rw [(show (m_note M x1 x2 x3 x4) = mbad M from by unfold m_note; (repeat' split) <;> first | rfl | (exfalso; omega))]; exact hD
        exact W.iret hx hb hr (fun t9 ht9 hW9 => ⟨⟨_, (), rfl, congrArg zI (show -2 = ca_note (M 1) x1 x2 x3 x4 from by unfold ca_note; (repeat' split) <;> first | rfl | omega | (exfalso; omega)), by rw [ht9]; exact hPf, va_K.moved hW9.alike hK, hDf⟩, hS.F ht9⟩) hS.2.2 dX6_note_43
      · refine lv_iload hx hb dX6_note_28 (lv_at hl 4 rfl) ?_
        refine q_i2l hx hb dX6_note_30 (by omega) ?_
        refine q_lconst hx hb 0 dX6_note_31 rfl ?_
        refine q_lconst hx hb 1 dX6_note_32 rfl ?_
        refine q_cSi (z := bz (0 ≤ x4 ∧ x4 ≤ 1)) (As := [.long (zL x4), .long (zL 0), .long (zL 1)]) (rest := []) ⟨hx, hb, hml, hown, hts⟩ (kX6_in l dC dI g tt x4 0 1 (by omega)) (va_cwS 3 hts gX6_note_X6_in rfl rfl rfl (by decide +kernel) ⟨Nat.le_of_ble_eq_true rfl, Nat.le_of_ble_eq_true rfl⟩) (hP.sub (ws' := []) [] rfl) hK hT hS rfl hl.1 rfl (Nat.le_of_ble_eq_true rfl) dX6_note_33 ⟨Nat.le_of_ble_eq_true rfl, Nat.le_of_ble_eq_true rfl⟩ ?_
        refine q_bz_ne (tgt := 44) hx hb dX6_note_36 (by decide) (fun c_4 => ?_) (fun c_4 => ?_)
        · refine lv_aload_n hx hb dX6_note_44 rfl (lv_at hl 0 rfl) ?_
          refine va_get (D := (dC, dI)) (ci := 5) (v := .ref (q 1)) (C := RX6) (T := TX6) (N := 15) hx hb hts iX6 hown hK hP 0 rfl rfl 0 (by decide) kf7 (fun _ h9 => h9) rfl dX6_note_45 ?_
          refine q_iconst hx hb dX6_note_48 ?_
          refine q_iald (F := fun k9 => M 1 k9) (v := M 1 3) hx hb hK hP 1 0 rfl rfl (by decide) (by omega) (rfl) dX6_note_49 ?_
          refine q_bipush hx hb dX6_note_50 rfl ?_
          refine q_icmp_ne (tgt := 60) hx hb dX6_note_52 (by decide) (by omega) (fun c_5 => ?_) (fun c_5 => ?_)
          · refine q_bipush hx hb dX6_note_60 rfl ?_
            refine q_iconst hx hb dX6_note_62 ?_
            refine lv_aload_n hx hb dX6_note_63 rfl (lv_at hl 0 rfl) ?_
            refine va_get (D := (dC, dI)) (ci := 5) (v := .ref (q 1)) (C := RX6) (T := TX6) (N := 15) hx hb hts iX6 hown hK hP 0 rfl rfl 0 (by decide) kf7 (fun _ h9 => h9) rfl dX6_note_64 ?_
            refine q_iconst hx hb dX6_note_67 ?_
            refine q_iald (F := fun k9 => M 1 k9) (v := M 1 3) hx hb hK hP 1 0 rfl rfl (by decide) (by omega) (rfl) dX6_note_68 ?_
            refine q_imul hx hb dX6_note_69 ?_
            refine q_iadd hx hb dX6_note_70 ?_
            refine lv_istore (lv' := [(5, .int (zI (17 + (4 * (M 1 3))))), (0, .ref (q 0)), (1, .int (zI x1)), (2, .int (zI x2)), (3, .int (zI x3)), (4, .int (zI x4))]) hx hb dX6_note_71 hl (by decide) rfl (fun ls hl => ?_)
            refine lv_aload_n hx hb dX6_note_73 rfl (lv_at hl 1 rfl) ?_
            refine va_get (D := (dC, dI)) (ci := 5) (v := .ref (q 1)) (C := RX6) (T := TX6) (N := 15) hx hb hts iX6 hown hK hP 0 rfl rfl 0 (by decide) kf7 (fun _ h9 => h9) rfl dX6_note_74 ?_
            refine lv_iload hx hb dX6_note_77 (lv_at hl 0 rfl) ?_
            refine lv_iload_n hx hb dX6_note_79 rfl (lv_at hl 2 rfl) ?_
            refine q_iast (F := fun k9 => M 1 k9) (v := x1) hx hb hK hP hD hS 1 0 rfl rfl (by decide) (by omega) dX6_note_80 (fun H locs hP hD hS => ?_)
            have hP : va_P (dC, dI) vwCl (wMo g q (mset M 1 (17 + (4 * (M 1 3))) x1)) H := hP
            have hD : va_D A (wMo g q (mset M 1 (17 + (4 * (M 1 3))) x1)) := hD
            refine lv_aload_n hx hb dX6_note_81 rfl (lv_at hl 1 rfl) ?_
            refine va_get (D := (dC, dI)) (ci := 5) (v := .ref (q 1)) (C := RX6) (T := TX6) (N := 15) hx hb hts iX6 hown hK hP 0 rfl rfl 0 (by decide) kf7 (fun _ h9 => h9) rfl dX6_note_82 ?_
            refine lv_iload hx hb dX6_note_85 (lv_at hl 0 rfl) ?_
            refine q_iconst hx hb dX6_note_87 ?_
            refine q_iadd hx hb dX6_note_88 ?_
            refine lv_iload_n hx hb dX6_note_89 rfl (lv_at hl 3 rfl) ?_
            refine q_iast (F := fun k9 => (mset M 1 (17 + (4 * (M 1 3))) x1) 1 k9) (v := x2) hx hb hK hP hD hS 1 0 rfl rfl (by decide) (by omega) dX6_note_90 (fun H locs hP hD hS => ?_)
            have hP : va_P (dC, dI) vwCl (wMo g q (mset (mset M 1 (17 + (4 * (M 1 3))) x1) 1 ((17 + (4 * (M 1 3))) + 1) x2)) H := hP
            have hD : va_D A (wMo g q (mset (mset M 1 (17 + (4 * (M 1 3))) x1) 1 ((17 + (4 * (M 1 3))) + 1) x2)) := hD
            refine lv_aload_n hx hb dX6_note_91 rfl (lv_at hl 1 rfl) ?_
            refine va_get (D := (dC, dI)) (ci := 5) (v := .ref (q 1)) (C := RX6) (T := TX6) (N := 15) hx hb hts iX6 hown hK hP 0 rfl rfl 0 (by decide) kf7 (fun _ h9 => h9) rfl dX6_note_92 ?_
            refine lv_iload hx hb dX6_note_95 (lv_at hl 0 rfl) ?_
            refine q_iconst hx hb dX6_note_97 ?_
            refine q_iadd hx hb dX6_note_98 ?_
            refine lv_iload_n hx hb dX6_note_99 rfl (lv_at hl 4 rfl) ?_
            refine q_iast (F := fun k9 => (mset (mset M 1 (17 + (4 * (M 1 3))) x1) 1 ((17 + (4 * (M 1 3))) + 1) x2) 1 k9) (v := x3) hx hb hK hP hD hS 1 0 rfl rfl (by decide) (by omega) dX6_note_100 (fun H locs hP hD hS => ?_)
            have hP : va_P (dC, dI) vwCl (wMo g q (mset (mset (mset M 1 (17 + (4 * (M 1 3))) x1) 1 ((17 + (4 * (M 1 3))) + 1) x2) 1 ((17 + (4 * (M 1 3))) + 2) x3)) H := hP
            have hD : va_D A (wMo g q (mset (mset (mset M 1 (17 + (4 * (M 1 3))) x1) 1 ((17 + (4 * (M 1 3))) + 1) x2) 1 ((17 + (4 * (M 1 3))) + 2) x3)) := hD
            refine lv_aload_n hx hb dX6_note_101 rfl (lv_at hl 1 rfl) ?_
            refine va_get (D := (dC, dI)) (ci := 5) (v := .ref (q 1)) (C := RX6) (T := TX6) (N := 15) hx hb hts iX6 hown hK hP 0 rfl rfl 0 (by decide) kf7 (fun _ h9 => h9) rfl dX6_note_102 ?_
            refine lv_iload hx hb dX6_note_105 (lv_at hl 0 rfl) ?_
            refine q_iconst hx hb dX6_note_107 ?_
            refine q_iadd hx hb dX6_note_108 ?_
            refine lv_iload hx hb dX6_note_109 (lv_at hl 5 rfl) ?_
            refine q_iast (F := fun k9 => (mset (mset (mset M 1 (17 + (4 * (M 1 3))) x1) 1 ((17 + (4 * (M 1 3))) + 1) x2) 1 ((17 + (4 * (M 1 3))) + 2) x3) 1 k9) (v := x4) hx hb hK hP hD hS 1 0 rfl rfl (by decide) (by omega) dX6_note_111 (fun H locs hP hD hS => ?_)
            have hP : va_P (dC, dI) vwCl (wMo g q (mset (mset (mset (mset M 1 (17 + (4 * (M 1 3))) x1) 1 ((17 + (4 * (M 1 3))) + 1) x2) 1 ((17 + (4 * (M 1 3))) + 2) x3) 1 ((17 + (4 * (M 1 3))) + 3) x4)) H := hP
            have hD : va_D A (wMo g q (mset (mset (mset (mset M 1 (17 + (4 * (M 1 3))) x1) 1 ((17 + (4 * (M 1 3))) + 1) x2) 1 ((17 + (4 * (M 1 3))) + 2) x3) 1 ((17 + (4 * (M 1 3))) + 3) x4)) := hD
            refine lv_aload_n hx hb dX6_note_112 rfl (lv_at hl 1 rfl) ?_
            refine va_get (D := (dC, dI)) (ci := 5) (v := .ref (q 1)) (C := RX6) (T := TX6) (N := 15) hx hb hts iX6 hown hK hP 0 rfl rfl 0 (by decide) kf7 (fun _ h9 => h9) rfl dX6_note_113 ?_
            refine q_iconst hx hb dX6_note_116 ?_
            refine lv_dup2_11 hx hb dX6_note_117 rfl rfl ?_
            refine q_iald (F := fun k9 => (mset (mset (mset (mset M 1 (17 + (4 * (M 1 3))) x1) 1 ((17 + (4 * (M 1 3))) + 1) x2) 1 ((17 + (4 * (M 1 3))) + 2) x3) 1 ((17 + (4 * (M 1 3))) + 3) x4) 1 k9) (v := M 1 3) hx hb hK hP 1 0 rfl rfl (by decide) (by omega) (by first | rfl | (show (mset (mset (mset (mset M 1 (17 + (4 * (M 1 3))) x1) 1 ((17 + (4 * (M 1 3))) + 1) x2) 1 ((17 + (4 * (M 1 3))) + 2) x3) 1 ((17 + (4 * (M 1 3))) + 3) x4) 1 3 = M 1 3; exact (mset_ne (by omega)).trans rfl) | (show (mset (mset (mset (mset M 1 (17 + (4 * (M 1 3))) x1) 1 ((17 + (4 * (M 1 3))) + 1) x2) 1 ((17 + (4 * (M 1 3))) + 2) x3) 1 ((17 + (4 * (M 1 3))) + 3) x4) 1 3 = M 1 3; exact (mset_ne (by omega)).trans ((mset_ne (by omega)).trans rfl)) | (show (mset (mset (mset (mset M 1 (17 + (4 * (M 1 3))) x1) 1 ((17 + (4 * (M 1 3))) + 1) x2) 1 ((17 + (4 * (M 1 3))) + 2) x3) 1 ((17 + (4 * (M 1 3))) + 3) x4) 1 3 = M 1 3; simp only [mset]; (repeat' split) <;> first | rfl | omega)) dX6_note_118 ?_
            refine q_iconst hx hb dX6_note_119 ?_
            refine q_iadd hx hb dX6_note_120 ?_
            refine q_iast (F := fun k9 => (mset (mset (mset (mset M 1 (17 + (4 * (M 1 3))) x1) 1 ((17 + (4 * (M 1 3))) + 1) x2) 1 ((17 + (4 * (M 1 3))) + 2) x3) 1 ((17 + (4 * (M 1 3))) + 3) x4) 1 k9) (v := ((M 1 3) + 1)) hx hb hK hP hD hS 1 0 rfl rfl (by decide) (by omega) dX6_note_121 (fun H locs hP hD hS => ?_)
            have hP : va_P (dC, dI) vwCl (wMo g q (mset (mset (mset (mset (mset M 1 (17 + (4 * (M 1 3))) x1) 1 ((17 + (4 * (M 1 3))) + 1) x2) 1 ((17 + (4 * (M 1 3))) + 2) x3) 1 ((17 + (4 * (M 1 3))) + 3) x4) 1 3 ((M 1 3) + 1))) H := hP
            have hD : va_D A (wMo g q (mset (mset (mset (mset (mset M 1 (17 + (4 * (M 1 3))) x1) 1 ((17 + (4 * (M 1 3))) + 1) x2) 1 ((17 + (4 * (M 1 3))) + 2) x3) 1 ((17 + (4 * (M 1 3))) + 3) x4) 1 3 ((M 1 3) + 1))) := hD
            refine lv_aload_n hx hb dX6_note_122 rfl (lv_at hl 1 rfl) ?_
            refine va_get (D := (dC, dI)) (ci := 5) (v := .ref (q 1)) (C := RX6) (T := TX6) (N := 15) hx hb hts iX6 hown hK hP 0 rfl rfl 0 (by decide) kf7 (fun _ h9 => h9) rfl dX6_note_123 ?_
            refine q_iconst hx hb dX6_note_126 ?_
            refine q_iald (F := fun k9 => (mset (mset (mset (mset (mset M 1 (17 + (4 * (M 1 3))) x1) 1 ((17 + (4 * (M 1 3))) + 1) x2) 1 ((17 + (4 * (M 1 3))) + 2) x3) 1 ((17 + (4 * (M 1 3))) + 3) x4) 1 3 ((M 1 3) + 1)) 1 k9) (v := (M 1 3) + 1) hx hb hK hP 1 0 rfl rfl (by decide) (by omega) (by first | rfl | (show (mset (mset (mset (mset (mset M 1 (17 + (4 * (M 1 3))) x1) 1 ((17 + (4 * (M 1 3))) + 1) x2) 1 ((17 + (4 * (M 1 3))) + 2) x3) 1 ((17 + (4 * (M 1 3))) + 3) x4) 1 3 ((M 1 3) + 1)) 1 3 = (M 1 3) + 1; exact (mset_ne (by omega)).trans rfl) | (show (mset (mset (mset (mset (mset M 1 (17 + (4 * (M 1 3))) x1) 1 ((17 + (4 * (M 1 3))) + 1) x2) 1 ((17 + (4 * (M 1 3))) + 2) x3) 1 ((17 + (4 * (M 1 3))) + 3) x4) 1 3 ((M 1 3) + 1)) 1 3 = (M 1 3) + 1; exact (mset_ne (by omega)).trans ((mset_ne (by omega)).trans rfl)) | (show (mset (mset (mset (mset (mset M 1 (17 + (4 * (M 1 3))) x1) 1 ((17 + (4 * (M 1 3))) + 1) x2) 1 ((17 + (4 * (M 1 3))) + 2) x3) 1 ((17 + (4 * (M 1 3))) + 3) x4) 1 3 ((M 1 3) + 1)) 1 3 = (M 1 3) + 1; simp only [mset]; (repeat' split) <;> first | rfl | omega)) dX6_note_127 ?_
            have hPf : va_P (dC, dI) vwCl (wMo g q (m_note M x1 x2 x3 x4)) H := by rw [(show (m_note M x1 x2 x3 x4) = mset (mset (mset (mset (mset M 1 (17 + (4 * (M 1 3))) x1) 1 ((17 + (4 * (M 1 3))) + 1) x2) 1 ((17 + (4 * (M 1 3))) + 2) x3) 1 ((17 + (4 * (M 1 3))) + 3) x4) 1 3 ((M 1 3) + 1) from by unfold m_note; (repeat' split) <;> first | rfl | (exfalso; omega))]; exact hP
            have hDf : va_D A (wMo g q (m_note M x1 x2 x3 x4)) := by rw [(show (m_note M x1 x2 x3 x4) = mset (mset (mset (mset (mset M 1 (17 + (4 * (M 1 3))) x1) 1 ((17 + (4 * (M 1 3))) + 1) x2) 1 ((17 + (4 * (M 1 3))) + 2) x3) 1 ((17 + (4 * (M 1 3))) + 3) x4) 1 3 ((M 1 3) + 1) from by unfold m_note; (repeat' split) <;> first | rfl | (exfalso; omega))]; exact hD
            exact W.iret hx hb hr (fun t9 ht9 hW9 => ⟨⟨_, (), rfl, congrArg zI (show (M 1 3) + 1 = ca_note (M 1) x1 x2 x3 x4 from by unfold ca_note; (repeat' split) <;> first | rfl | omega | (exfalso; omega)), by rw [ht9]; exact hPf, va_K.moved hW9.alike hK, hDf⟩, hS.F ht9⟩) hS.2.2 dX6_note_128
          · refine lv_aload_n hx hb dX6_note_55 rfl (lv_at hl 0 rfl) ?_
            refine q_cEi (z := -4) (b := (q 0)) (As := []) (rest := []) (w1 := wMo g q (mfull M)) ⟨hx, hb, hml, hown, hts⟩ hP hD hK hT hS hA (kX6_full l dC dI g tt _ q M) (cwV 0 hts gX6_note_X6_full rfl rfl rfl (by decide +kernel) ⟨Nat.le_of_ble_eq_true rfl, Nat.le_of_ble_eq_true rfl⟩) 0 5 rfl rfl rfl rfl hl.1 rfl (Nat.le_of_ble_eq_true rfl) dX6_note_56 ⟨Nat.le_of_ble_eq_true rfl, Nat.le_of_ble_eq_true rfl⟩ (fun H locs hP hD hS => ?_)
            have hPf : va_P (dC, dI) vwCl (wMo g q (m_note M x1 x2 x3 x4)) H := by rw [(show (m_note M x1 x2 x3 x4) = mfull M from by unfold m_note; (repeat' split) <;> first | rfl | (exfalso; omega))]; exact hP
            have hDf : va_D A (wMo g q (m_note M x1 x2 x3 x4)) := by rw [(show (m_note M x1 x2 x3 x4) = mfull M from by unfold m_note; (repeat' split) <;> first | rfl | (exfalso; omega))]; exact hD
            exact W.iret hx hb hr (fun t9 ht9 hW9 => ⟨⟨_, (), rfl, congrArg zI (show -4 = ca_note (M 1) x1 x2 x3 x4 from by unfold ca_note; (repeat' split) <;> first | rfl | omega | (exfalso; omega)), by rw [ht9]; exact hPf, va_K.moved hW9.alike hK, hDf⟩, hS.F ht9⟩) hS.2.2 dX6_note_59
        · refine lv_aload_n hx hb dX6_note_39 rfl (lv_at hl 0 rfl) ?_
          refine q_cEi (z := -2) (b := (q 0)) (As := []) (rest := []) (w1 := wMo g q (mbad M)) ⟨hx, hb, hml, hown, hts⟩ hP hD hK hT hS hA (kX6_bad l dC dI g tt _ q M) (cwV 0 hts gX6_note_X6_bad rfl rfl rfl (by decide +kernel) ⟨Nat.le_of_ble_eq_true rfl, Nat.le_of_ble_eq_true rfl⟩) 0 5 rfl rfl rfl rfl hl.1 rfl (Nat.le_of_ble_eq_true rfl) dX6_note_40 ⟨Nat.le_of_ble_eq_true rfl, Nat.le_of_ble_eq_true rfl⟩ (fun H locs hP hD hS => ?_)
          have hPf : va_P (dC, dI) vwCl (wMo g q (m_note M x1 x2 x3 x4)) H := by rw [(show (m_note M x1 x2 x3 x4) = mbad M from by unfold m_note; (repeat' split) <;> first | rfl | (exfalso; omega))]; exact hP
          have hDf : va_D A (wMo g q (m_note M x1 x2 x3 x4)) := by rw [(show (m_note M x1 x2 x3 x4) = mbad M from by unfold m_note; (repeat' split) <;> first | rfl | (exfalso; omega))]; exact hD
          exact W.iret hx hb hr (fun t9 ht9 hW9 => ⟨⟨_, (), rfl, congrArg zI (show -2 = ca_note (M 1) x1 x2 x3 x4 from by unfold ca_note; (repeat' split) <;> first | rfl | omega | (exfalso; omega)), by rw [ht9]; exact hPf, va_K.moved hW9.alike hK, hDf⟩, hS.F ht9⟩) hS.2.2 dX6_note_43
set_option maxHeartbeats 4000000 in
set_option maxRecDepth 100000 in
theorem kX6_forget (l : Launch) (dC : Nat → ClassId) (dI : Nat → Nat → Nat) (g : Nat → ClassId) (tt : Nat → Nat) (sz : Nat) (q : Nat → Nat) (M : Nat → Int → Int) : Met l yX6_forget wsX6_forget ({ frames := 0, cells := 0, slots := 0, locals := 0 }) (va_Pc [.ref (q 0)] (eQ (dC, dI) (wTy g) (wMo g q M) tt sz)) (va_Qi (fun r (_ : Unit) => r = zI (M 1 3)) (fQ (dC, dI) (wTy g) (va_A (wMo g q M) sz) (wMo g q (mset M 1 3 0))) (va_A (wMo g q M) sz)) 0 0 (va_A (wMo g q M) sz) := by
  refine Met.ofW (cc := cX6_forget) (maxL := 2) (ret := (some .int)) (by decide) rfl ?_
  intro p e s m args below meth c s₁ B hml hv
  obtain ⟨rfl, hsz, hP, hK, hD0, hT⟩ := hv
  have hx := B.exec
  have hb := B.bytes
  have hr := B.returns
  have hts := atoms_spec (ws := wsX6_forget) B.pre
  have hown : s.vm.findClass RX6 = some m.cls := findClass_of_methodNamed B.named
  have hlocks := B.notSynchronized
  subst hsz
  have hD := hD0.self (sz := s.heap.size)
  generalize hAe : va_A (wMo g q M) s.heap.size = A at hD hT ⊢
  have hA : ∀ q : Nat, s.heap.size ≤ q → A q := fun q h => by rw [← hAe]; exact Or.inr h
  have hS : va_S A s.heap s.heap [] := va_S.rf
  have hl := lv_entry ([.ref (q 0)]) (n := 2) (Nat.le_of_ble_eq_true rfl)
  rw [lg_entry_eq]
  generalize (lg_sl ([.ref (q 0)]) ++ List.replicate (2 - (lg_sl ([.ref (q 0)])).length) Slot.unset).toArray = ls at hl ⊢
  have hl : lv_has ls 2 [(0, .ref (q 0))] := hl
  have kf7 := hts (.fieldLink RX6 7 "WrongWayModel" "w" "[I") (by decide +kernel)
  have iX6 := (fun w h => List.mem_cons_of_mem _ (List.mem_append_right _ h) : ∀ w ∈ u_ws RX6 TX6 15, w ∈ wsX6_forget)
  refine lv_aload_n hx hb dX6_forget_0 rfl (lv_at hl 0 rfl) ?_
  refine va_get (D := (dC, dI)) (ci := 5) (v := .ref (q 1)) (C := RX6) (T := TX6) (N := 15) hx hb hts iX6 hown hK hP 0 rfl rfl 0 (by decide) kf7 (fun _ h9 => h9) rfl dX6_forget_1 ?_
  refine q_iconst hx hb dX6_forget_4 ?_
  refine q_iald (F := fun k9 => M 1 k9) (v := M 1 3) hx hb hK hP 1 0 rfl rfl (by decide) (by omega) (rfl) dX6_forget_5 ?_
  refine lv_istore_n (lv' := [(1, .int (zI (M 1 3))), (0, .ref (q 0))]) hx hb dX6_forget_6 rfl hl (by decide) rfl (fun ls hl => ?_)
  refine lv_aload_n hx hb dX6_forget_7 rfl (lv_at hl 1 rfl) ?_
  refine va_get (D := (dC, dI)) (ci := 5) (v := .ref (q 1)) (C := RX6) (T := TX6) (N := 15) hx hb hts iX6 hown hK hP 0 rfl rfl 0 (by decide) kf7 (fun _ h9 => h9) rfl dX6_forget_8 ?_
  refine q_iconst hx hb dX6_forget_11 ?_
  refine q_iconst hx hb dX6_forget_12 ?_
  refine q_iast (F := fun k9 => M 1 k9) (v := 0) hx hb hK hP hD hS 1 0 rfl rfl (by decide) (by omega) dX6_forget_13 (fun H locs hP hD hS => ?_)
  have hP : va_P (dC, dI) vwCl (wMo g q (mset M 1 3 0)) H := hP
  have hD : va_D A (wMo g q (mset M 1 3 0)) := hD
  refine lv_iload_n hx hb dX6_forget_14 rfl (lv_at hl 0 rfl) ?_
  have hPf : va_P (dC, dI) vwCl (wMo g q (mset M 1 3 0)) H := by exact hP
  have hDf : va_D A (wMo g q (mset M 1 3 0)) := by exact hD
  exact W.iret hx hb hr (fun t9 ht9 hW9 => ⟨⟨_, (), rfl, congrArg zI (show M 1 3 = M 1 3 from rfl), by rw [ht9]; exact hPf, va_K.moved hW9.alike hK, hDf⟩, hS.F ht9⟩) hS.2.2 dX6_forget_15
