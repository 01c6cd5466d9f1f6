set_option maxHeartbeats 4000000 in
set_option maxRecDepth 100000 in
theorem kX5_of (l : Launch) (dC : Nat → ClassId) (dI : Nat → Nat → Nat) (g : Nat → ClassId) (tt : Nat → Nat) (sz : Nat) (ob a0 a1 a2 a3 q : Nat → Nat) (w0 w1 w2 w3 kp tx tz : Int → Int) (fa fb : Int) (rf : Int → Int) (x1 x2 : Int) (hw : hok w0) (h1 : rI x1 ∧ rI x2) : Met l yX5_of wsX5_of ({ frames := 3, cells := 0, slots := 0, locals := 75 }) (va_Pc [.ref (ob 0), .int (zI x1), .int (zI x2)] (eQ (dC, dI) (wTy g) (wWW g ob a0 a1 a2 a3 q w0 w1 w2 w3 kp tx tz fa fb rf) tt sz)) (va_Qi (fun r (_ : Unit) => r = zI (ca_of w0 x1 x2)) (fQ (dC, dI) (wTy g) (va_A (wWW g ob a0 a1 a2 a3 q w0 w1 w2 w3 kp tx tz fa fb rf) sz) (wWW g ob a0 a1 a2 a3 q w0 w1 w2 w3 kp tx tz fa fb (rfa rf (cc_of w0 x1 x2)))) (va_A (wWW g ob a0 a1 a2 a3 q w0 w1 w2 w3 kp tx tz fa fb rf) sz)) 0 0 (va_A (wWW g ob a0 a1 a2 a3 q w0 w1 w2 w3 kp tx tz fa fb rf) sz) := by
  refine Met.ofW (cc := cX5_of) (maxL := 5) (ret := (some .int)) (by decide) rfl ?_
  intro p e s m args below meth c s₁ B hml hv
  obtain ⟨rfl, hsz, hP, hK, hD0, hT⟩ := hv
  have hx := B.exec
  have hb := B.bytes
  have hr := B.returns
  have hts := atoms_spec (ws := wsX5_of) B.pre
  have hown : s.vm.findClass RX5 = some m.cls := findClass_of_methodNamed B.named
  have hlocks := B.notSynchronized
  subst hsz
  have hD := hD0.self (sz := s.heap.size)
  generalize hAe : va_A (wWW g ob a0 a1 a2 a3 q w0 w1 w2 w3 kp tx tz fa fb rf) s.heap.size = A at hD hT ⊢
  have hA : ∀ q : Nat, s.heap.size ≤ q → A q := fun q h => by rw [← hAe]; exact Or.inr h
  have hS : va_S A s.heap s.heap [] := va_S.rf
  have hl := lv_entry ([.ref (ob 0), .int (zI x1), .int (zI x2)]) (n := 5) (Nat.le_of_ble_eq_true rfl)
  rw [lg_entry_eq]
  generalize (lg_sl ([.ref (ob 0), .int (zI x1), .int (zI x2)]) ++ List.replicate (5 - (lg_sl ([.ref (ob 0), .int (zI x1), .int (zI x2)])).length) Slot.unset).toArray = ls at hl ⊢
  have hl : lv_has ls 5 [(0, .ref (ob 0)), (1, .int (zI x1)), (2, .int (zI x2))] := hl
  have kf10 := hts (.fieldLink RX5 10 "WrongWay" "now" "LWrongWay$House;") (by decide +kernel)
  have kf121 := hts (.fieldLink RX5 121 "WrongWay$House" "kinds" "[I") (by decide +kernel)
  have kf127 := hts (.fieldLink RX5 127 "WrongWay$House" "starts" "[I") (by decide +kernel)
  have kf130 := hts (.fieldLink RX5 130 "WrongWay$House" "top" "I") (by decide +kernel)
  have kf32 := hts (.fieldLink RX5 32 "WrongWay" "watch" "LWrongWay$Watch;") (by decide +kernel)
  have kf99 := hts (.fieldLink RX5 99 "WrongWay$House" "minute" "I") (by decide +kernel)
  have iX1 := (fun w h => List.mem_cons_of_mem _ (List.mem_append_left _ (List.mem_append_right _ h)) : ∀ w ∈ u_ws RX1 TX1 14, w ∈ wsX5_of)
  have iX5 := (fun w h => List.mem_cons_of_mem _ (List.mem_append_left _ (List.mem_append_left _ (List.mem_append_right _ h))) : ∀ w ∈ u_ws RX5 TX5 8, w ∈ wsX5_of)
  have hb0 := hw.b
  refine lv_aload_n hx hb dX5_of_0 rfl (lv_at hl 0 rfl) ?_
  refine va_get (D := (dC, dI)) (ci := 4) (v := .ref (a0 0)) (C := RX5) (T := TX5) (N := 8) hx hb hts iX5 hown hK hP 0 rfl rfl 0 (by decide) kf10 (fun _ h9 => h9) rfl dX5_of_1 ?_
  refine lv_iload_n hx hb dX5_of_4 rfl (lv_at hl 1 rfl) ?_
  refine q_cVi (z := bz (0 ≤ x1 ∧ x1 < w0 0)) (b := (a0 0)) (As := [.int (zI x1)]) (rest := []) ⟨hx, hb, hml, hown, hts⟩ (kX1_hasLift l dC dI g tt a0 w0 x1 (hw) (by omega)) (cwV 1 hts gX5_of_X1_hasLift rfl rfl rfl (by decide +kernel) ⟨Nat.le_of_ble_eq_true rfl, Nat.le_of_ble_eq_true rfl⟩) (hP.sub (ws' := wHs g a0 w0) [1, 2, 3, 4, 5, 6, 7, 8, 9, 10] rfl) hK hT hS 0 1 rfl rfl rfl rfl hl.1 rfl (Nat.le_of_ble_eq_true rfl) dX5_of_5 ⟨Nat.le_of_ble_eq_true rfl, Nat.le_of_ble_eq_true rfl⟩ ?_
  refine q_bz_eq (tgt := 20) hx hb dX5_of_8 (by decide) (fun c_1 => ?_) (fun c_1 => ?_)
  · refine lv_aload_n hx hb dX5_of_20 rfl (lv_at hl 0 rfl) ?_
    refine q_bipush hx hb dX5_of_21 rfl ?_
    refine q_cEi (z := (-2)) (b := (ob 0)) (As := [.int (zI (-2))]) (rest := []) (w1 := wWW g ob a0 a1 a2 a3 q w0 w1 w2 w3 kp tx tz fa fb (rfu rf (-2))) ⟨hx, hb, hml, hown, hts⟩ hP hD hK hT hS hA (kX5_refuse l dC dI g tt _ ob a0 a1 a2 a3 q w0 w1 w2 w3 kp tx tz fa fb rf (-2) (by decide)) (cwV 1 hts gX5_of_X5_refuse rfl rfl rfl (by decide +kernel) ⟨Nat.le_of_ble_eq_true rfl, Nat.le_of_ble_eq_true rfl⟩) 0 4 rfl rfl rfl rfl hl.1 rfl (Nat.le_of_ble_eq_true rfl) dX5_of_23 ⟨Nat.le_of_ble_eq_true rfl, Nat.le_of_ble_eq_true rfl⟩ (fun H locs hP hD hS => ?_)
    have hPf : va_P (dC, dI) vwCl (wWW g ob a0 a1 a2 a3 q w0 w1 w2 w3 kp tx tz fa fb (rfa rf (cc_of w0 x1 x2))) H := by rw [(show (rfa rf (cc_of w0 x1 x2)) = rfu rf (-2) from by first | exact rfa_0 (by unfold cc_of; (repeat' split) <;> omega) | exact rfa_n (by unfold cc_of; (repeat' split) <;> omega) (by decide))]; exact hP
    have hDf : va_D A (wWW g ob a0 a1 a2 a3 q w0 w1 w2 w3 kp tx tz fa fb (rfa rf (cc_of w0 x1 x2))) := by rw [(show (rfa rf (cc_of w0 x1 x2)) = rfu rf (-2) from by first | exact rfa_0 (by unfold cc_of; (repeat' split) <;> omega) | exact rfa_n (by unfold cc_of; (repeat' split) <;> omega) (by decide))]; exact hD
    exact W.iret hx hb hr (fun t9 ht9 hW9 => ⟨⟨_, (), rfl, congrArg zI (show (-2) = ca_of w0 x1 x2 from by unfold ca_of; (repeat' split) <;> first | rfl | (exfalso; omega) | (rw [bz_t (by assumption)]; done) | (rw [bz_f (by assumption)]; done)), by rw [ht9]; exact hPf, va_K.moved hW9.alike hK, hDf⟩, hS.F ht9⟩) hS.2.2 dX5_of_26
  · refine lv_iload_n hx hb dX5_of_11 rfl (lv_at hl 2 rfl) ?_
    refine q_iconst hx hb dX5_of_12 ?_
    refine q_iconst hx hb dX5_of_13 ?_
    refine q_cSi (z := bz (0 ≤ x2 ∧ x2 ≤ 5)) (As := [.int (zI x2), .int (zI 0), .int (zI 5)]) (rest := []) ⟨hx, hb, hml, hown, hts⟩ (kX5_isWithin l dC dI g tt x2 0 5 (by omega)) (va_cwS 3 hts gX5_of_X5_isWithin rfl rfl rfl (by decide +kernel) ⟨Nat.le_of_ble_eq_true rfl, Nat.le_of_ble_eq_true rfl⟩) (hP.sub (ws' := []) [] rfl) hK hT hS rfl hl.1 rfl (Nat.le_of_ble_eq_true rfl) dX5_of_14 ⟨Nat.le_of_ble_eq_true rfl, Nat.le_of_ble_eq_true rfl⟩ ?_
    refine q_bz_ne (tgt := 27) hx hb dX5_of_17 (by decide) (fun c_2 => ?_) (fun c_2 => ?_)
    · have hk0 := hw.k (k := x1) (by omega) (by omega)
      refine lv_aload_n hx hb dX5_of_27 rfl (lv_at hl 0 rfl) ?_
      refine va_get (D := (dC, dI)) (ci := 4) (v := .ref (a0 0)) (C := RX5) (T := TX5) (N := 8) hx hb hts iX5 hown hK hP 0 rfl rfl 0 (by decide) kf10 (fun _ h9 => h9) rfl dX5_of_28 ?_
      refine va_get (D := (dC, dI)) (ci := 1) (v := .ref (a0 1)) (C := RX1) (T := TX1) (N := 14) hx hb hts iX1 hown hK hP 1 rfl rfl 5 (by decide) kf121 (fun _ h9 => h9) rfl dX5_of_31 ?_
      refine lv_iload_n hx hb dX5_of_34 rfl (lv_at hl 1 rfl) ?_
      refine q_iald (F := fun k => w0 (5 + k)) (v := w0 (5 + x1)) hx hb hK hP 2 0 rfl rfl (by decide) (by omega) rfl dX5_of_35 ?_
      refine lv_istore_n (lv' := [(3, .int (zI (w0 (5 + x1)))), (0, .ref (ob 0)), (1, .int (zI x1)), (2, .int (zI x2))]) hx hb dX5_of_36 rfl hl (by decide) rfl (fun ls hl => ?_)
      refine lv_aload_n hx hb dX5_of_37 rfl (lv_at hl 1 rfl) ?_
      refine va_get (D := (dC, dI)) (ci := 4) (v := .ref (ob 3)) (C := RX5) (T := TX5) (N := 8) hx hb hts iX5 hown hK hP 0 rfl rfl 4 (by decide) kf32 (fun _ h9 => h9) rfl dX5_of_38 ?_
      refine lv_iload_n hx hb dX5_of_41 rfl (lv_at hl 2 rfl) ?_
      refine lv_aload_n hx hb dX5_of_42 rfl (lv_at hl 1 rfl) ?_
      refine va_get (D := (dC, dI)) (ci := 4) (v := .ref (a0 0)) (C := RX5) (T := TX5) (N := 8) hx hb hts iX5 hown hK hP 0 rfl rfl 0 (by decide) kf10 (fun _ h9 => h9) rfl dX5_of_43 ?_
      refine va_get (D := (dC, dI)) (ci := 1) (v := .int (zI (w0 2))) (C := RX1) (T := TX1) (N := 14) hx hb hts iX1 hown hK hP 1 rfl rfl 2 (by decide) kf99 (fun _ h9 => h9) rfl dX5_of_46 ?_
      refine q_cVi (z := c_fl w0 x1 (w0 2)) (b := (ob 3)) (As := [.int (zI x1), .int (zI (w0 2))]) (rest := []) ⟨hx, hb, hml, hown, hts⟩ (kX4_floorOf l dC dI g tt (ob 3) a0 w0 x1 (w0 2) (hw) (by omega) (by omega)) (cwV 2 hts gX5_of_X4_floorOf rfl rfl rfl (by decide +kernel) ⟨Nat.le_of_ble_eq_true rfl, Nat.le_of_ble_eq_true rfl⟩) (hP.sub (ws' := wWa g (ob 3) a0 w0) [43, 1, 2, 3, 4, 5, 6, 7, 8, 9, 10] rfl) hK hT hS 0 3 rfl rfl rfl rfl hl.1 rfl (Nat.le_of_ble_eq_true rfl) dX5_of_49 ⟨Nat.le_of_ble_eq_true rfl, Nat.le_of_ble_eq_true rfl⟩ ?_
      have := c_fl_r hw (L := x1) (m := (w0 2)) (by omega) (by omega)
      refine lv_istore (lv' := [(4, .int (zI (c_fl w0 x1 (w0 2)))), (3, .int (zI (w0 (5 + x1)))), (0, .ref (ob 0)), (1, .int (zI x1)), (2, .int (zI x2))]) hx hb dX5_of_52 hl (by decide) rfl (fun ls hl => ?_)
      refine lv_iload_n hx hb dX5_of_54 rfl (lv_at hl 4 rfl) ?_
      rcases (show x2 = 0 ∨ x2 = 1 ∨ x2 = 2 ∨ x2 = 3 ∨ x2 = 4 ∨ (x2 < 0 ∨ 4 < x2) from by omega) with c_3 | c_3 | c_3 | c_3 | c_3 | c_3
      · refine q_tabIn (off := 33) (tgt := 88) (j := 0) hx hb dX5_of_55 c_3 (by decide) (by decide) (by decide) (by decide) (by decide) ?_
        refine lv_iload_n hx hb dX5_of_88 rfl (lv_at hl 1 rfl) ?_
        have hPf : va_P (dC, dI) vwCl (wWW g ob a0 a1 a2 a3 q w0 w1 w2 w3 kp tx tz fa fb (rfa rf (cc_of w0 x1 x2))) s.heap := by rw [(show (rfa rf (cc_of w0 x1 x2)) = rf from by first | exact rfa_0 (by unfold cc_of; (repeat' split) <;> omega) | exact rfa_n (by unfold cc_of; (repeat' split) <;> omega) (by decide))]; exact hP
        have hDf : va_D A (wWW g ob a0 a1 a2 a3 q w0 w1 w2 w3 kp tx tz fa fb (rfa rf (cc_of w0 x1 x2))) := by rw [(show (rfa rf (cc_of w0 x1 x2)) = rf from by first | exact rfa_0 (by unfold cc_of; (repeat' split) <;> omega) | exact rfa_n (by unfold cc_of; (repeat' split) <;> omega) (by decide))]; exact hD
        exact W.iret hx hb hr (fun t9 ht9 hW9 => ⟨⟨_, (), rfl, congrArg zI (show w0 (5 + x1) = ca_of w0 x1 x2 from by unfold ca_of; (repeat' split) <;> first | rfl | (exfalso; omega) | (rw [bz_t (by assumption)]; done) | (rw [bz_f (by assumption)]; done)), by rw [ht9]; exact hPf, va_K.moved hW9.alike hK, hDf⟩, hS.F ht9⟩) hS.2.2 dX5_of_89
      · refine q_tabIn (off := 35) (tgt := 90) (j := 1) hx hb dX5_of_55 c_3 (by decide) (by decide) (by decide) (by decide) (by decide) ?_
        refine lv_aload_n hx hb dX5_of_90 rfl (lv_at hl 2 rfl) ?_
        refine va_get (D := (dC, dI)) (ci := 4) (v := .ref (a0 0)) (C := RX5) (T := TX5) (N := 8) hx hb hts iX5 hown hK hP 0 rfl rfl 0 (by decide) kf10 (fun _ h9 => h9) rfl dX5_of_91 ?_
        refine va_get (D := (dC, dI)) (ci := 1) (v := .ref (a0 2)) (C := RX1) (T := TX1) (N := 14) hx hb hts iX1 hown hK hP 1 rfl rfl 6 (by decide) kf127 (fun _ h9 => h9) rfl dX5_of_94 ?_
        refine lv_iload_n hx hb dX5_of_97 rfl (lv_at hl 3 rfl) ?_
        refine q_iald (F := fun k => w0 (9 + k)) (v := w0 (9 + x1)) hx hb hK hP 3 0 rfl rfl (by decide) (by omega) rfl dX5_of_98 ?_
        have hPf : va_P (dC, dI) vwCl (wWW g ob a0 a1 a2 a3 q w0 w1 w2 w3 kp tx tz fa fb (rfa rf (cc_of w0 x1 x2))) s.heap := by rw [(show (rfa rf (cc_of w0 x1 x2)) = rf from by first | exact rfa_0 (by unfold cc_of; (repeat' split) <;> omega) | exact rfa_n (by unfold cc_of; (repeat' split) <;> omega) (by decide))]; exact hP
        have hDf : va_D A (wWW g ob a0 a1 a2 a3 q w0 w1 w2 w3 kp tx tz fa fb (rfa rf (cc_of w0 x1 x2))) := by rw [(show (rfa rf (cc_of w0 x1 x2)) = rf from by first | exact rfa_0 (by unfold cc_of; (repeat' split) <;> omega) | exact rfa_n (by unfold cc_of; (repeat' split) <;> omega) (by decide))]; exact hD
        exact W.iret hx hb hr (fun t9 ht9 hW9 => ⟨⟨_, (), rfl, congrArg zI (show w0 (9 + x1) = ca_of w0 x1 x2 from by unfold ca_of; (repeat' split) <;> first | rfl | (exfalso; omega) | (rw [bz_t (by assumption)]; done) | (rw [bz_f (by assumption)]; done)), by rw [ht9]; exact hPf, va_K.moved hW9.alike hK, hDf⟩, hS.F ht9⟩) hS.2.2 dX5_of_99
      · refine q_tabIn (off := 45) (tgt := 100) (j := 2) hx hb dX5_of_55 c_3 (by decide) (by decide) (by decide) (by decide) (by decide) ?_
        refine lv_iload_n hx hb dX5_of_100 rfl (lv_at hl 1 rfl) ?_
        refine lv_aload_n hx hb dX5_of_101 rfl (lv_at hl 2 rfl) ?_
        refine va_get (D := (dC, dI)) (ci := 4) (v := .ref (a0 0)) (C := RX5) (T := TX5) (N := 8) hx hb hts iX5 hown hK hP 0 rfl rfl 0 (by decide) kf10 (fun _ h9 => h9) rfl dX5_of_102 ?_
        refine va_get (D := (dC, dI)) (ci := 1) (v := .int (zI (w0 1))) (C := RX1) (T := TX1) (N := 14) hx hb hts iX1 hown hK hP 1 rfl rfl 0 (by decide) kf130 (fun _ h9 => h9) rfl dX5_of_105 ?_
        refine q_cSi (z := c_round (w0 (5 + x1)) (w0 1)) (As := [.int (zI (w0 (5 + x1))), .int (zI (w0 1))]) (rest := []) ⟨hx, hb, hml, hown, hts⟩ (kX2_round l dC dI g tt (w0 (5 + x1)) (w0 1) (by omega) (by omega)) (va_cwS 2 hts gX5_of_X2_round rfl rfl rfl (by decide +kernel) ⟨Nat.le_of_ble_eq_true rfl, Nat.le_of_ble_eq_true rfl⟩) (hP.sub (ws' := []) [] rfl) hK hT hS rfl hl.1 rfl (Nat.le_of_ble_eq_true rfl) dX5_of_108 ⟨Nat.le_of_ble_eq_true rfl, Nat.le_of_ble_eq_true rfl⟩ ?_
        have := c_round_r (w0 (5 + x1)) (t := (w0 1)) (by omega)
        have hPf : va_P (dC, dI) vwCl (wWW g ob a0 a1 a2 a3 q w0 w1 w2 w3 kp tx tz fa fb (rfa rf (cc_of w0 x1 x2))) s.heap := by rw [(show (rfa rf (cc_of w0 x1 x2)) = rf from by first | exact rfa_0 (by unfold cc_of; (repeat' split) <;> omega) | exact rfa_n (by unfold cc_of; (repeat' split) <;> omega) (by decide))]; exact hP
        have hDf : va_D A (wWW g ob a0 a1 a2 a3 q w0 w1 w2 w3 kp tx tz fa fb (rfa rf (cc_of w0 x1 x2))) := by rw [(show (rfa rf (cc_of w0 x1 x2)) = rf from by first | exact rfa_0 (by unfold cc_of; (repeat' split) <;> omega) | exact rfa_n (by unfold cc_of; (repeat' split) <;> omega) (by decide))]; exact hD
        exact W.iret hx hb hr (fun t9 ht9 hW9 => ⟨⟨_, (), rfl, congrArg zI (show c_round (w0 (5 + x1)) (w0 1) = ca_of w0 x1 x2 from by unfold ca_of; (repeat' split) <;> first | rfl | (exfalso; omega) | (rw [bz_t (by assumption)]; done) | (rw [bz_f (by assumption)]; done)), by rw [ht9]; exact hPf, va_K.moved hW9.alike hK, hDf⟩, hS.F ht9⟩) hS.2.2 dX5_of_111
      · refine q_tabIn (off := 57) (tgt := 112) (j := 3) hx hb dX5_of_55 c_3 (by decide) (by decide) (by decide) (by decide) (by decide) ?_
        refine lv_iload hx hb dX5_of_112 (lv_at hl 0 rfl) ?_
        have hPf : va_P (dC, dI) vwCl (wWW g ob a0 a1 a2 a3 q w0 w1 w2 w3 kp tx tz fa fb (rfa rf (cc_of w0 x1 x2))) s.heap := by rw [(show (rfa rf (cc_of w0 x1 x2)) = rf from by first | exact rfa_0 (by unfold cc_of; (repeat' split) <;> omega) | exact rfa_n (by unfold cc_of; (repeat' split) <;> omega) (by decide))]; exact hP
        have hDf : va_D A (wWW g ob a0 a1 a2 a3 q w0 w1 w2 w3 kp tx tz fa fb (rfa rf (cc_of w0 x1 x2))) := by rw [(show (rfa rf (cc_of w0 x1 x2)) = rf from by first | exact rfa_0 (by unfold cc_of; (repeat' split) <;> omega) | exact rfa_n (by unfold cc_of; (repeat' split) <;> omega) (by decide))]; exact hD
        exact W.iret hx hb hr (fun t9 ht9 hW9 => ⟨⟨_, (), rfl, congrArg zI (show c_fl w0 x1 (w0 2) = ca_of w0 x1 x2 from by unfold ca_of; (repeat' split) <;> first | rfl | (exfalso; omega) | (rw [bz_t (by assumption)]; done) | (rw [bz_f (by assumption)]; done)), by rw [ht9]; exact hPf, va_K.moved hW9.alike hK, hDf⟩, hS.F ht9⟩) hS.2.2 dX5_of_114
      · refine q_tabIn (off := 60) (tgt := 115) (j := 4) hx hb dX5_of_55 c_3 (by decide) (by decide) (by decide) (by decide) (by decide) ?_
        refine lv_aload_n hx hb dX5_of_115 rfl (lv_at hl 2 rfl) ?_
        refine va_get (D := (dC, dI)) (ci := 4) (v := .ref (ob 3)) (C := RX5) (T := TX5) (N := 8) hx hb hts iX5 hown hK hP 0 rfl rfl 4 (by decide) kf32 (fun _ h9 => h9) rfl dX5_of_116 ?_
        refine lv_iload_n hx hb dX5_of_119 rfl (lv_at hl 3 rfl) ?_
        refine lv_aload_n hx hb dX5_of_120 rfl (lv_at hl 2 rfl) ?_
        refine va_get (D := (dC, dI)) (ci := 4) (v := .ref (a0 0)) (C := RX5) (T := TX5) (N := 8) hx hb hts iX5 hown hK hP 0 rfl rfl 0 (by decide) kf10 (fun _ h9 => h9) rfl dX5_of_121 ?_
        refine va_get (D := (dC, dI)) (ci := 1) (v := .int (zI (w0 2))) (C := RX1) (T := TX1) (N := 14) hx hb hts iX1 hown hK hP 1 rfl rfl 2 (by decide) kf99 (fun _ h9 => h9) rfl dX5_of_124 ?_
        refine q_cVi (z := c_wy w0 x1 (w0 2)) (b := (ob 3)) (As := [.int (zI x1), .int (zI (w0 2))]) (rest := []) ⟨hx, hb, hml, hown, hts⟩ (kX4_wayOf l dC dI g tt (ob 3) a0 w0 x1 (w0 2) (hw) (by omega) (by omega)) (cwV 2 hts gX5_of_X4_wayOf rfl rfl rfl (by decide +kernel) ⟨Nat.le_of_ble_eq_true rfl, Nat.le_of_ble_eq_true rfl⟩) (hP.sub (ws' := wWa g (ob 3) a0 w0) [43, 1, 2, 3, 4, 5, 6, 7, 8, 9, 10] rfl) hK hT hS 0 3 rfl rfl rfl rfl hl.1 rfl (Nat.le_of_ble_eq_true rfl) dX5_of_127 ⟨Nat.le_of_ble_eq_true rfl, Nat.le_of_ble_eq_true rfl⟩ ?_
        have := c_wy_r w0 x1 (w0 2)
        have hPf : va_P (dC, dI) vwCl (wWW g ob a0 a1 a2 a3 q w0 w1 w2 w3 kp tx tz fa fb (rfa rf (cc_of w0 x1 x2))) s.heap := by rw [(show (rfa rf (cc_of w0 x1 x2)) = rf from by first | exact rfa_0 (by unfold cc_of; (repeat' split) <;> omega) | exact rfa_n (by unfold cc_of; (repeat' split) <;> omega) (by decide))]; exact hP
        have hDf : va_D A (wWW g ob a0 a1 a2 a3 q w0 w1 w2 w3 kp tx tz fa fb (rfa rf (cc_of w0 x1 x2))) := by rw [(show (rfa rf (cc_of w0 x1 x2)) = rf from by first | exact rfa_0 (by unfold cc_of; (repeat' split) <;> omega) | exact rfa_n (by unfold cc_of; (repeat' split) <;> omega) (by decide))]; exact hD
        exact W.iret hx hb hr (fun t9 ht9 hW9 => ⟨⟨_, (), rfl, congrArg zI (show c_wy w0 x1 (w0 2) = ca_of w0 x1 x2 from by unfold ca_of; (repeat' split) <;> first | rfl | (exfalso; omega) | (rw [bz_t (by assumption)]; done) | (rw [bz_f (by assumption)]; done)), by rw [ht9]; exact hPf, va_K.moved hW9.alike hK, hDf⟩, hS.F ht9⟩) hS.2.2 dX5_of_130
      · refine q_tabOut (tgt := 131) hx hb dX5_of_55 (by omega) c_3 (by decide) ?_
        refine lv_iload_n hx hb dX5_of_131 rfl (lv_at hl 1 rfl) ?_
        refine lv_aload_n hx hb dX5_of_132 rfl (lv_at hl 2 rfl) ?_
        refine va_get (D := (dC, dI)) (ci := 4) (v := .ref (a0 0)) (C := RX5) (T := TX5) (N := 8) hx hb hts iX5 hown hK hP 0 rfl rfl 0 (by decide) kf10 (fun _ h9 => h9) rfl dX5_of_133 ?_
        refine va_get (D := (dC, dI)) (ci := 1) (v := .int (zI (w0 1))) (C := RX1) (T := TX1) (N := 14) hx hb hts iX1 hown hK hP 1 rfl rfl 0 (by decide) kf130 (fun _ h9 => h9) rfl dX5_of_136 ?_
        refine lv_iload hx hb dX5_of_139 (lv_at hl 0 rfl) ?_
        refine q_cSi (z := bz (c_opens (w0 (5 + x1)) (w0 1) (c_fl w0 x1 (w0 2)) = true)) (As := [.int (zI (w0 (5 + x1))), .int (zI (w0 1)), .int (zI (c_fl w0 x1 (w0 2)))]) (rest := []) ⟨hx, hb, hml, hown, hts⟩ (kX2_opens l dC dI g tt (w0 (5 + x1)) (w0 1) (c_fl w0 x1 (w0 2)) (by omega) (by omega) (by omega)) (va_cwS 3 hts gX5_of_X2_opens rfl rfl rfl (by decide +kernel) ⟨Nat.le_of_ble_eq_true rfl, Nat.le_of_ble_eq_true rfl⟩) (hP.sub (ws' := []) [] rfl) hK hT hS rfl hl.1 rfl (Nat.le_of_ble_eq_true rfl) dX5_of_141 ⟨Nat.le_of_ble_eq_true rfl, Nat.le_of_ble_eq_true rfl⟩ ?_
        refine q_bz_eq (tgt := 151) hx hb dX5_of_144 (by decide) (fun c_4 => ?_) (fun c_4 => ?_)
        · refine q_iconst hx hb dX5_of_151 ?_
          have hPf : va_P (dC, dI) vwCl (wWW g ob a0 a1 a2 a3 q w0 w1 w2 w3 kp tx tz fa fb (rfa rf (cc_of w0 x1 x2))) s.heap := by rw [(show (rfa rf (cc_of w0 x1 x2)) = rf from by first | exact rfa_0 (by unfold cc_of; (repeat' split) <;> omega) | exact rfa_n (by unfold cc_of; (repeat' split) <;> omega) (by decide))]; exact hP
          have hDf : va_D A (wWW g ob a0 a1 a2 a3 q w0 w1 w2 w3 kp tx tz fa fb (rfa rf (cc_of w0 x1 x2))) := by rw [(show (rfa rf (cc_of w0 x1 x2)) = rf from by first | exact rfa_0 (by unfold cc_of; (repeat' split) <;> omega) | exact rfa_n (by unfold cc_of; (repeat' split) <;> omega) (by decide))]; exact hD
          exact W.iret hx hb hr (fun t9 ht9 hW9 => ⟨⟨_, (), rfl, congrArg zI (show 0 = ca_of w0 x1 x2 from by unfold ca_of; (repeat' split) <;> first | rfl | (exfalso; omega) | (rw [bz_t (by assumption)]; done) | (rw [bz_f (by assumption)]; done)), by rw [ht9]; exact hPf, va_K.moved hW9.alike hK, hDf⟩, hS.F ht9⟩) hS.2.2 dX5_of_152
        · refine q_iconst hx hb dX5_of_147 ?_
          refine lv_goto (tgt := 152) hx hb dX5_of_148 (by decide) ?_
          have hPf : va_P (dC, dI) vwCl (wWW g ob a0 a1 a2 a3 q w0 w1 w2 w3 kp tx tz fa fb (rfa rf (cc_of w0 x1 x2))) s.heap := by rw [(show (rfa rf (cc_of w0 x1 x2)) = rf from by first | exact rfa_0 (by unfold cc_of; (repeat' split) <;> omega) | exact rfa_n (by unfold cc_of; (repeat' split) <;> omega) (by decide))]; exact hP
          have hDf : va_D A (wWW g ob a0 a1 a2 a3 q w0 w1 w2 w3 kp tx tz fa fb (rfa rf (cc_of w0 x1 x2))) := by rw [(show (rfa rf (cc_of w0 x1 x2)) = rf from by first | exact rfa_0 (by unfold cc_of; (repeat' split) <;> omega) | exact rfa_n (by unfold cc_of; (repeat' split) <;> omega) (by decide))]; exact hD
          exact W.iret hx hb hr (fun t9 ht9 hW9 => ⟨⟨_, (), rfl, congrArg zI (show 1 = ca_of w0 x1 x2 from by unfold ca_of; (repeat' split) <;> first | rfl | (exfalso; omega) | (rw [bz_t (by assumption)]; done) | (rw [bz_f (by assumption)]; done)), by rw [ht9]; exact hPf, va_K.moved hW9.alike hK, hDf⟩, hS.F ht9⟩) hS.2.2 dX5_of_152
    · refine lv_aload_n hx hb dX5_of_20 rfl (lv_at hl 0 rfl) ?_
      refine q_bipush hx hb dX5_of_21 rfl ?_
      refine q_cEi (z := (-2)) (b := (ob 0)) (As := [.int (zI (-2))]) (rest := []) (w1 := wWW g ob a0 a1 a2 a3 q w0 w1 w2 w3 kp tx tz fa fb (rfu rf (-2))) ⟨hx, hb, hml, hown, hts⟩ hP hD hK hT hS hA (kX5_refuse l dC dI g tt _ ob a0 a1 a2 a3 q w0 w1 w2 w3 kp tx tz fa fb rf (-2) (by decide)) (cwV 1 hts gX5_of_X5_refuse rfl rfl rfl (by decide +kernel) ⟨Nat.le_of_ble_eq_true rfl, Nat.le_of_ble_eq_true rfl⟩) 0 4 rfl rfl rfl rfl hl.1 rfl (Nat.le_of_ble_eq_true rfl) dX5_of_23 ⟨Nat.le_of_ble_eq_true rfl, Nat.le_of_ble_eq_true rfl⟩ (fun H locs hP hD hS => ?_)
      have hPf : va_P (dC, dI) vwCl (wWW g ob a0 a1 a2 a3 q w0 w1 w2 w3 kp tx tz fa fb (rfa rf (cc_of w0 x1 x2))) H := by rw [(show (rfa rf (cc_of w0 x1 x2)) = rfu rf (-2) from by first | exact rfa_0 (by unfold cc_of; (repeat' split) <;> omega) | exact rfa_n (by unfold cc_of; (repeat' split) <;> omega) (by decide))]; exact hP
      have hDf : va_D A (wWW g ob a0 a1 a2 a3 q w0 w1 w2 w3 kp tx tz fa fb (rfa rf (cc_of w0 x1 x2))) := by rw [(show (rfa rf (cc_of w0 x1 x2)) = rfu rf (-2) from by first | exact rfa_0 (by unfold cc_of; (repeat' split) <;> omega) | exact rfa_n (by unfold cc_of; (repeat' split) <;> omega) (by decide))]; exact hD
      exact W.iret hx hb hr (fun t9 ht9 hW9 => ⟨⟨_, (), rfl, congrArg zI (show (-2) = ca_of w0 x1 x2 from by unfold ca_of; (repeat' split) <;> first | rfl | (exfalso; omega) | (rw [bz_t (by assumption)]; done) | (rw [bz_f (by assumption)]; done)), by rw [ht9]; exact hPf, va_K.moved hW9.alike hK, hDf⟩, hS.F ht9⟩) hS.2.2 dX5_of_26
set_option maxHeartbeats 4000000 in
set_option maxRecDepth 100000 in
theorem kX5_where (l : Launch) (dC : Nat → ClassId) (dI : Nat → Nat → Nat) (g : Nat → ClassId) (tt : Nat → Nat) (sz : Nat) (ob a0 a1 a2 a3 q : Nat → Nat) (w0 w1 w2 w3 kp tx tz : Int → Int) (fa fb : Int) (rf : Int → Int) (x1 x2 : Int) (hw : hok w0) (h1 : rI x1 ∧ rI x2) : Met l yX5_where wsX5_where ({ frames := 3, cells := 0, slots := 0, locals := 70 }) (va_Pc [.ref (ob 0), .int (zI x1), .int (zI x2)] (eQ (dC, dI) (wTy g) (wWW g ob a0 a1 a2 a3 q w0 w1 w2 w3 kp tx tz fa fb rf) tt sz)) (va_Qi (fun r (_ : Unit) => r = zI (ca_where w0 x1 x2)) (fQ (dC, dI) (wTy g) (va_A (wWW g ob a0 a1 a2 a3 q w0 w1 w2 w3 kp tx tz fa fb rf) sz) (wWW g ob a0 a1 a2 a3 q w0 w1 w2 w3 kp tx tz fa fb (rfa rf (cc_where w0 x1 x2)))) (va_A (wWW g ob a0 a1 a2 a3 q w0 w1 w2 w3 kp tx tz fa fb rf) sz)) 0 0 (va_A (wWW g ob a0 a1 a2 a3 q w0 w1 w2 w3 kp tx tz fa fb rf) sz) := by
  refine Met.ofW (cc := cX5_where) (maxL := 3) (ret := (some .int)) (by decide) rfl ?_
  intro p e s m args below meth c s₁ B hml hv
  obtain ⟨rfl, hsz, hP, hK, hD0, hT⟩ := hv
  have hx := B.exec
  have hb := B.bytes
  have hr := B.returns
  have hts := atoms_spec (ws := wsX5_where) B.pre
  have hown : s.vm.findClass RX5 = some m.cls := findClass_of_methodNamed B.named
  have hlocks := B.notSynchronized
  subst hsz
  have hD := hD0.self (sz := s.heap.size)
  generalize hAe : va_A (wWW g ob a0 a1 a2 a3 q w0 w1 w2 w3 kp tx tz fa fb rf) s.heap.size = A at hD hT ⊢
  have hA : ∀ q : Nat, s.heap.size ≤ q → A q := fun q h => by rw [← hAe]; exact Or.inr h
  have hS : va_S A s.heap s.heap [] := va_S.rf
  have hl := lv_entry ([.ref (ob 0), .int (zI x1), .int (zI x2)]) (n := 3) (Nat.le_of_ble_eq_true rfl)
  rw [lg_entry_eq]
  generalize (lg_sl ([.ref (ob 0), .int (zI x1), .int (zI x2)]) ++ List.replicate (3 - (lg_sl ([.ref (ob 0), .int (zI x1), .int (zI x2)])).length) Slot.unset).toArray = ls at hl ⊢
  have hl : lv_has ls 3 [(0, .ref (ob 0)), (1, .int (zI x1)), (2, .int (zI x2))] := hl
  have kf10 := hts (.fieldLink RX5 10 "WrongWay" "now" "LWrongWay$House;") (by decide +kernel)
  have kf32 := hts (.fieldLink RX5 32 "WrongWay" "watch" "LWrongWay$Watch;") (by decide +kernel)
  have iX5 := (fun w h => List.mem_cons_of_mem _ (List.mem_append_left _ (List.mem_append_left _ (List.mem_append_right _ h))) : ∀ w ∈ u_ws RX5 TX5 8, w ∈ wsX5_where)
  have hb0 := hw.b
  refine lv_aload_n hx hb dX5_where_0 rfl (lv_at hl 0 rfl) ?_
  refine va_get (D := (dC, dI)) (ci := 4) (v := .ref (a0 0)) (C := RX5) (T := TX5) (N := 8) hx hb hts iX5 hown hK hP 0 rfl rfl 0 (by decide) kf10 (fun _ h9 => h9) rfl dX5_where_1 ?_
  refine lv_iload_n hx hb dX5_where_4 rfl (lv_at hl 1 rfl) ?_
  refine q_cVi (z := bz (0 ≤ x1 ∧ x1 < w0 0)) (b := (a0 0)) (As := [.int (zI x1)]) (rest := []) ⟨hx, hb, hml, hown, hts⟩ (kX1_hasLift l dC dI g tt a0 w0 x1 (hw) (by omega)) (cwV 1 hts gX5_where_X1_hasLift rfl rfl rfl (by decide +kernel) ⟨Nat.le_of_ble_eq_true rfl, Nat.le_of_ble_eq_true rfl⟩) (hP.sub (ws' := wHs g a0 w0) [1, 2, 3, 4, 5, 6, 7, 8, 9, 10] rfl) hK hT hS 0 1 rfl rfl rfl rfl hl.1 rfl (Nat.le_of_ble_eq_true rfl) dX5_where_5 ⟨Nat.le_of_ble_eq_true rfl, Nat.le_of_ble_eq_true rfl⟩ ?_
  refine q_bz_eq (tgt := 18) hx hb dX5_where_8 (by decide) (fun c_1 => ?_) (fun c_1 => ?_)
  · refine lv_aload_n hx hb dX5_where_18 rfl (lv_at hl 0 rfl) ?_
    refine q_bipush hx hb dX5_where_19 rfl ?_
    refine q_cEi (z := (-2)) (b := (ob 0)) (As := [.int (zI (-2))]) (rest := []) (w1 := wWW g ob a0 a1 a2 a3 q w0 w1 w2 w3 kp tx tz fa fb (rfu rf (-2))) ⟨hx, hb, hml, hown, hts⟩ hP hD hK hT hS hA (kX5_refuse l dC dI g tt _ ob a0 a1 a2 a3 q w0 w1 w2 w3 kp tx tz fa fb rf (-2) (by decide)) (cwV 1 hts gX5_where_X5_refuse rfl rfl rfl (by decide +kernel) ⟨Nat.le_of_ble_eq_true rfl, Nat.le_of_ble_eq_true rfl⟩) 0 4 rfl rfl rfl rfl hl.1 rfl (Nat.le_of_ble_eq_true rfl) dX5_where_21 ⟨Nat.le_of_ble_eq_true rfl, Nat.le_of_ble_eq_true rfl⟩ (fun H locs hP hD hS => ?_)
    have hPf : va_P (dC, dI) vwCl (wWW g ob a0 a1 a2 a3 q w0 w1 w2 w3 kp tx tz fa fb (rfa rf (cc_where w0 x1 x2))) H := by rw [(show (rfa rf (cc_where w0 x1 x2)) = rfu rf (-2) from by first | exact rfa_0 (by unfold cc_where; (repeat' split) <;> omega) | exact rfa_n (by unfold cc_where; (repeat' split) <;> omega) (by decide))]; exact hP
    have hDf : va_D A (wWW g ob a0 a1 a2 a3 q w0 w1 w2 w3 kp tx tz fa fb (rfa rf (cc_where w0 x1 x2))) := by rw [(show (rfa rf (cc_where w0 x1 x2)) = rfu rf (-2) from by first | exact rfa_0 (by unfold cc_where; (repeat' split) <;> omega) | exact rfa_n (by unfold cc_where; (repeat' split) <;> omega) (by decide))]; exact hD
    exact W.iret hx hb hr (fun t9 ht9 hW9 => ⟨⟨_, (), rfl, congrArg zI (show (-2) = ca_where w0 x1 x2 from by unfold ca_where; (repeat' split) <;> first | rfl | omega | (exfalso; omega)), by rw [ht9]; exact hPf, va_K.moved hW9.alike hK, hDf⟩, hS.F ht9⟩) hS.2.2 dX5_where_24
  · refine lv_iload_n hx hb dX5_where_11 rfl (lv_at hl 2 rfl) ?_
    refine q_cSi (z := bz (0 ≤ x2 ∧ x2 ≤ 999)) (As := [.int (zI x2)]) (rest := []) ⟨hx, hb, hml, hown, hts⟩ (kX5_isMinute l dC dI g tt x2 (by omega)) (va_cwS 1 hts gX5_where_X5_isMinute rfl rfl rfl (by decide +kernel) ⟨Nat.le_of_ble_eq_true rfl, Nat.le_of_ble_eq_true rfl⟩) (hP.sub (ws' := []) [] rfl) hK hT hS rfl hl.1 rfl (Nat.le_of_ble_eq_true rfl) dX5_where_12 ⟨Nat.le_of_ble_eq_true rfl, Nat.le_of_ble_eq_true rfl⟩ ?_
    refine q_bz_ne (tgt := 25) hx hb dX5_where_15 (by decide) (fun c_2 => ?_) (fun c_2 => ?_)
    · refine lv_aload_n hx hb dX5_where_25 rfl (lv_at hl 0 rfl) ?_
      refine va_get (D := (dC, dI)) (ci := 4) (v := .ref (ob 3)) (C := RX5) (T := TX5) (N := 8) hx hb hts iX5 hown hK hP 0 rfl rfl 4 (by decide) kf32 (fun _ h9 => h9) rfl dX5_where_26 ?_
      refine lv_iload_n hx hb dX5_where_29 rfl (lv_at hl 1 rfl) ?_
      refine lv_iload_n hx hb dX5_where_30 rfl (lv_at hl 2 rfl) ?_
      refine q_cVi (z := c_fl w0 x1 x2) (b := (ob 3)) (As := [.int (zI x1), .int (zI x2)]) (rest := []) ⟨hx, hb, hml, hown, hts⟩ (kX4_floorOf l dC dI g tt (ob 3) a0 w0 x1 x2 (hw) (by omega) (by omega)) (cwV 2 hts gX5_where_X4_floorOf rfl rfl rfl (by decide +kernel) ⟨Nat.le_of_ble_eq_true rfl, Nat.le_of_ble_eq_true rfl⟩) (hP.sub (ws' := wWa g (ob 3) a0 w0) [43, 1, 2, 3, 4, 5, 6, 7, 8, 9, 10] rfl) hK hT hS 0 3 rfl rfl rfl rfl hl.1 rfl (Nat.le_of_ble_eq_true rfl) dX5_where_31 ⟨Nat.le_of_ble_eq_true rfl, Nat.le_of_ble_eq_true rfl⟩ ?_
      have := c_fl_r hw (L := x1) (m := x2) (by omega) (by omega)
      have hPf : va_P (dC, dI) vwCl (wWW g ob a0 a1 a2 a3 q w0 w1 w2 w3 kp tx tz fa fb (rfa rf (cc_where w0 x1 x2))) s.heap := by rw [(show (rfa rf (cc_where w0 x1 x2)) = rf from by first | exact rfa_0 (by unfold cc_where; (repeat' split) <;> omega) | exact rfa_n (by unfold cc_where; (repeat' split) <;> omega) (by decide))]; exact hP
      have hDf : va_D A (wWW g ob a0 a1 a2 a3 q w0 w1 w2 w3 kp tx tz fa fb (rfa rf (cc_where w0 x1 x2))) := by rw [(show (rfa rf (cc_where w0 x1 x2)) = rf from by first | exact rfa_0 (by unfold cc_where; (repeat' split) <;> omega) | exact rfa_n (by unfold cc_where; (repeat' split) <;> omega) (by decide))]; exact hD
      exact W.iret hx hb hr (fun t9 ht9 hW9 => ⟨⟨_, (), rfl, congrArg zI (show c_fl w0 x1 x2 = ca_where w0 x1 x2 from by unfold ca_where; (repeat' split) <;> first | rfl | omega | (exfalso; omega)), by rw [ht9]; exact hPf, va_K.moved hW9.alike hK, hDf⟩, hS.F ht9⟩) hS.2.2 dX5_where_34
    · refine lv_aload_n hx hb dX5_where_18 rfl (lv_at hl 0 rfl) ?_
      refine q_bipush hx hb dX5_where_19 rfl ?_
      refine q_cEi (z := (-2)) (b := (ob 0)) (As := [.int (zI (-2))]) (rest := []) (w1 := wWW g ob a0 a1 a2 a3 q w0 w1 w2 w3 kp tx tz fa fb (rfu rf (-2))) ⟨hx, hb, hml, hown, hts⟩ hP hD hK hT hS hA (kX5_refuse l dC dI g tt _ ob a0 a1 a2 a3 q w0 w1 w2 w3 kp tx tz fa fb rf (-2) (by decide)) (cwV 1 hts gX5_where_X5_refuse rfl rfl rfl (by decide +kernel) ⟨Nat.le_of_ble_eq_true rfl, Nat.le_of_ble_eq_true rfl⟩) 0 4 rfl rfl rfl rfl hl.1 rfl (Nat.le_of_ble_eq_true rfl) dX5_where_21 ⟨Nat.le_of_ble_eq_true rfl, Nat.le_of_ble_eq_true rfl⟩ (fun H locs hP hD hS => ?_)
      have hPf : va_P (dC, dI) vwCl (wWW g ob a0 a1 a2 a3 q w0 w1 w2 w3 kp tx tz fa fb (rfa rf (cc_where w0 x1 x2))) H := by rw [(show (rfa rf (cc_where w0 x1 x2)) = rfu rf (-2) from by first | exact rfa_0 (by unfold cc_where; (repeat' split) <;> omega) | exact rfa_n (by unfold cc_where; (repeat' split) <;> omega) (by decide))]; exact hP
      have hDf : va_D A (wWW g ob a0 a1 a2 a3 q w0 w1 w2 w3 kp tx tz fa fb (rfa rf (cc_where w0 x1 x2))) := by rw [(show (rfa rf (cc_where w0 x1 x2)) = rfu rf (-2) from by first | exact rfa_0 (by unfold cc_where; (repeat' split) <;> omega) | exact rfa_n (by unfold cc_where; (repeat' split) <;> omega) (by decide))]; exact hD
      exact W.iret hx hb hr (fun t9 ht9 hW9 => ⟨⟨_, (), rfl, congrArg zI (show (-2) = ca_where w0 x1 x2 from by unfold ca_where; (repeat' split) <;> first | rfl | omega | (exfalso; omega)), by rw [ht9]; exact hPf, va_K.moved hW9.alike hK, hDf⟩, hS.F ht9⟩) hS.2.2 dX5_where_24
set_option maxHeartbeats 4000000 in
set_option maxRecDepth 100000 in
theorem kX5_first (l : Launch) (dC : Nat → ClassId) (dI : Nat → Nat → Nat) (g : Nat → ClassId) (tt : Nat → Nat) (sz : Nat) (ob a0 a1 a2 a3 q : Nat → Nat) (w0 w1 w2 w3 kp tx tz : Int → Int) (fa fb : Int) (rf : Int → Int) (x1 x2 x3 : Int) (hw : hok w0) (h1 : rI x1 ∧ rI x2 ∧ rI x3) : Met l yX5_first wsX5_first ({ frames := 6, cells := 0, slots := 0, locals := 147 }) (va_Pc [.ref (ob 0), .int (zI x1), .int (zI x2), .int (zI x3)] (eQ (dC, dI) (wTy g) (wWW g ob a0 a1 a2 a3 q w0 w1 w2 w3 kp tx tz fa fb rf) tt sz)) (va_Qi (fun r (_ : Unit) => r = zI (ca_first w0 x1 x2 x3)) (fQ (dC, dI) (wTy g) (va_A (wWW g ob a0 a1 a2 a3 q w0 w1 w2 w3 kp tx tz fa fb rf) sz) (wWW g ob a0 a1 a2 a3 q w0 w1 w2 w3 kp tx tz fa fb (rfa rf (cc_first w0 x1 x2 x3)))) (va_A (wWW g ob a0 a1 a2 a3 q w0 w1 w2 w3 kp tx tz fa fb rf) sz)) 0 0 (va_A (wWW g ob a0 a1 a2 a3 q w0 w1 w2 w3 kp tx tz fa fb rf) sz) := by
  refine Met.ofW (cc := cX5_first) (maxL := 5) (ret := (some .int)) (by decide) rfl ?_
  intro p e s m args below meth c s₁ B hml hv
  obtain ⟨rfl, hsz, hP, hK, hD0, hT⟩ := hv
  have hx := B.exec
  have hb := B.bytes
  have hr := B.returns
  have hts := atoms_spec (ws := wsX5_first) B.pre
  have hown : s.vm.findClass RX5 = some m.cls := findClass_of_methodNamed B.named
  have hlocks := B.notSynchronized
  subst hsz
  have hD := hD0.self (sz := s.heap.size)
  generalize hAe : va_A (wWW g ob a0 a1 a2 a3 q w0 w1 w2 w3 kp tx tz fa fb rf) s.heap.size = A at hD hT ⊢
  have hA : ∀ q : Nat, s.heap.size ≤ q → A q := fun q h => by rw [← hAe]; exact Or.inr h
  have hS : va_S A s.heap s.heap [] := va_S.rf
  have hl := lv_entry ([.ref (ob 0), .int (zI x1), .int (zI x2), .int (zI x3)]) (n := 5) (Nat.le_of_ble_eq_true rfl)
  rw [lg_entry_eq]
  generalize (lg_sl ([.ref (ob 0), .int (zI x1), .int (zI x2), .int (zI x3)]) ++ List.replicate (5 - (lg_sl ([.ref (ob 0), .int (zI x1), .int (zI x2), .int (zI x3)])).length) Slot.unset).toArray = ls at hl ⊢
  have hl : lv_has ls 5 [(0, .ref (ob 0)), (1, .int (zI x1)), (2, .int (zI x2)), (3, .int (zI x3))] := hl
  have kf10 := hts (.fieldLink RX5 10 "WrongWay" "now" "LWrongWay$House;") (by decide +kernel)
  have kf32 := hts (.fieldLink RX5 32 "WrongWay" "watch" "LWrongWay$Watch;") (by decide +kernel)
  have iX5 := (fun w h => List.mem_cons_of_mem _ (List.mem_append_left _ (List.mem_append_left _ (List.mem_append_right _ h))) : ∀ w ∈ u_ws RX5 TX5 8, w ∈ wsX5_first)
  have hb0 := hw.b
  refine lv_aload_n hx hb dX5_first_0 rfl (lv_at hl 0 rfl) ?_
  refine va_get (D := (dC, dI)) (ci := 4) (v := .ref (a0 0)) (C := RX5) (T := TX5) (N := 8) hx hb hts iX5 hown hK hP 0 rfl rfl 0 (by decide) kf10 (fun _ h9 => h9) rfl dX5_first_1 ?_
  refine lv_iload_n hx hb dX5_first_4 rfl (lv_at hl 1 rfl) ?_
  refine q_cVi (z := bz (0 ≤ x1 ∧ x1 ≤ w0 1)) (b := (a0 0)) (As := [.int (zI x1)]) (rest := []) ⟨hx, hb, hml, hown, hts⟩ (kX1_hasFloor l dC dI g tt a0 w0 x1 (hw) (by omega)) (cwV 1 hts gX5_first_X1_hasFloor rfl rfl rfl (by decide +kernel) ⟨Nat.le_of_ble_eq_true rfl, Nat.le_of_ble_eq_true rfl⟩) (hP.sub (ws' := wHs g a0 w0) [1, 2, 3, 4, 5, 6, 7, 8, 9, 10] rfl) hK hT hS 0 1 rfl rfl rfl rfl hl.1 rfl (Nat.le_of_ble_eq_true rfl) dX5_first_5 ⟨Nat.le_of_ble_eq_true rfl, Nat.le_of_ble_eq_true rfl⟩ ?_
  refine q_bz_eq (tgt := 27) hx hb dX5_first_8 (by decide) (fun c_1 => ?_) (fun c_1 => ?_)
  · refine lv_aload_n hx hb dX5_first_27 rfl (lv_at hl 0 rfl) ?_
    refine q_bipush hx hb dX5_first_28 rfl ?_
    refine q_cEi (z := (-2)) (b := (ob 0)) (As := [.int (zI (-2))]) (rest := []) (w1 := wWW g ob a0 a1 a2 a3 q w0 w1 w2 w3 kp tx tz fa fb (rfu rf (-2))) ⟨hx, hb, hml, hown, hts⟩ hP hD hK hT hS hA (kX5_refuse l dC dI g tt _ ob a0 a1 a2 a3 q w0 w1 w2 w3 kp tx tz fa fb rf (-2) (by decide)) (cwV 1 hts gX5_first_X5_refuse rfl rfl rfl (by decide +kernel) ⟨Nat.le_of_ble_eq_true rfl, Nat.le_of_ble_eq_true rfl⟩) 0 4 rfl rfl rfl rfl hl.1 rfl (Nat.le_of_ble_eq_true rfl) dX5_first_30 ⟨Nat.le_of_ble_eq_true rfl, Nat.le_of_ble_eq_true rfl⟩ (fun H locs hP hD hS => ?_)
    have hPf : va_P (dC, dI) vwCl (wWW g ob a0 a1 a2 a3 q w0 w1 w2 w3 kp tx tz fa fb (rfa rf (cc_first w0 x1 x2 x3))) H := by rw [(show (rfa rf (cc_first w0 x1 x2 x3)) = rfu rf (-2) from by first | exact rfa_0 (by unfold cc_first; (repeat' split) <;> omega) | exact rfa_n (by unfold cc_first; (repeat' split) <;> omega) (by decide))]; exact hP
    have hDf : va_D A (wWW g ob a0 a1 a2 a3 q w0 w1 w2 w3 kp tx tz fa fb (rfa rf (cc_first w0 x1 x2 x3))) := by rw [(show (rfa rf (cc_first w0 x1 x2 x3)) = rfu rf (-2) from by first | exact rfa_0 (by unfold cc_first; (repeat' split) <;> omega) | exact rfa_n (by unfold cc_first; (repeat' split) <;> omega) (by decide))]; exact hD
    exact W.iret hx hb hr (fun t9 ht9 hW9 => ⟨⟨_, (), rfl, congrArg zI (show (-2) = ca_first w0 x1 x2 x3 from by unfold ca_first; (repeat' split) <;> first | rfl | omega | (exfalso; omega)), by rw [ht9]; exact hPf, va_K.moved hW9.alike hK, hDf⟩, hS.F ht9⟩) hS.2.2 dX5_first_33
  · refine lv_iload_n hx hb dX5_first_11 rfl (lv_at hl 2 rfl) ?_
    refine q_cSi (z := bz (0 ≤ x2 ∧ x2 ≤ 999)) (As := [.int (zI x2)]) (rest := []) ⟨hx, hb, hml, hown, hts⟩ (kX5_isMinute l dC dI g tt x2 (by omega)) (va_cwS 1 hts gX5_first_X5_isMinute rfl rfl rfl (by decide +kernel) ⟨Nat.le_of_ble_eq_true rfl, Nat.le_of_ble_eq_true rfl⟩) (hP.sub (ws' := []) [] rfl) hK hT hS rfl hl.1 rfl (Nat.le_of_ble_eq_true rfl) dX5_first_12 ⟨Nat.le_of_ble_eq_true rfl, Nat.le_of_ble_eq_true rfl⟩ ?_
    refine q_bz_eq (tgt := 27) hx hb dX5_first_15 (by decide) (fun c_2 => ?_) (fun c_2 => ?_)
    · refine lv_aload_n hx hb dX5_first_27 rfl (lv_at hl 0 rfl) ?_
      refine q_bipush hx hb dX5_first_28 rfl ?_
      refine q_cEi (z := (-2)) (b := (ob 0)) (As := [.int (zI (-2))]) (rest := []) (w1 := wWW g ob a0 a1 a2 a3 q w0 w1 w2 w3 kp tx tz fa fb (rfu rf (-2))) ⟨hx, hb, hml, hown, hts⟩ hP hD hK hT hS hA (kX5_refuse l dC dI g tt _ ob a0 a1 a2 a3 q w0 w1 w2 w3 kp tx tz fa fb rf (-2) (by decide)) (cwV 1 hts gX5_first_X5_refuse rfl rfl rfl (by decide +kernel) ⟨Nat.le_of_ble_eq_true rfl, Nat.le_of_ble_eq_true rfl⟩) 0 4 rfl rfl rfl rfl hl.1 rfl (Nat.le_of_ble_eq_true rfl) dX5_first_30 ⟨Nat.le_of_ble_eq_true rfl, Nat.le_of_ble_eq_true rfl⟩ (fun H locs hP hD hS => ?_)
      have hPf : va_P (dC, dI) vwCl (wWW g ob a0 a1 a2 a3 q w0 w1 w2 w3 kp tx tz fa fb (rfa rf (cc_first w0 x1 x2 x3))) H := by rw [(show (rfa rf (cc_first w0 x1 x2 x3)) = rfu rf (-2) from by first | exact rfa_0 (by unfold cc_first; (repeat' split) <;> omega) | exact rfa_n (by unfold cc_first; (repeat' split) <;> omega) (by decide))]; exact hP
      have hDf : va_D A (wWW g ob a0 a1 a2 a3 q w0 w1 w2 w3 kp tx tz fa fb (rfa rf (cc_first w0 x1 x2 x3))) := by rw [(show (rfa rf (cc_first w0 x1 x2 x3)) = rfu rf (-2) from by first | exact rfa_0 (by unfold cc_first; (repeat' split) <;> omega) | exact rfa_n (by unfold cc_first; (repeat' split) <;> omega) (by decide))]; exact hD
      exact W.iret hx hb hr (fun t9 ht9 hW9 => ⟨⟨_, (), rfl, congrArg zI (show (-2) = ca_first w0 x1 x2 x3 from by unfold ca_first; (repeat' split) <;> first | rfl | omega | (exfalso; omega)), by rw [ht9]; exact hPf, va_K.moved hW9.alike hK, hDf⟩, hS.F ht9⟩) hS.2.2 dX5_first_33
    · refine lv_iload_n hx hb dX5_first_18 rfl (lv_at hl 3 rfl) ?_
      refine q_iconst hx hb dX5_first_19 ?_
      refine q_iconst hx hb dX5_first_20 ?_
      refine q_cSi (z := bz (0 ≤ x3 ∧ x3 ≤ 2)) (As := [.int (zI x3), .int (zI 0), .int (zI 2)]) (rest := []) ⟨hx, hb, hml, hown, hts⟩ (kX5_isWithin l dC dI g tt x3 0 2 (by omega)) (va_cwS 3 hts gX5_first_X5_isWithin rfl rfl rfl (by decide +kernel) ⟨Nat.le_of_ble_eq_true rfl, Nat.le_of_ble_eq_true rfl⟩) (hP.sub (ws' := []) [] rfl) hK hT hS rfl hl.1 rfl (Nat.le_of_ble_eq_true rfl) dX5_first_21 ⟨Nat.le_of_ble_eq_true rfl, Nat.le_of_ble_eq_true rfl⟩ ?_
      refine q_bz_ne (tgt := 34) hx hb dX5_first_24 (by decide) (fun c_3 => ?_) (fun c_3 => ?_)
      · refine lv_aload_n hx hb dX5_first_34 rfl (lv_at hl 0 rfl) ?_
        refine va_get (D := (dC, dI)) (ci := 4) (v := .ref (ob 3)) (C := RX5) (T := TX5) (N := 8) hx hb hts iX5 hown hK hP 0 rfl rfl 4 (by decide) kf32 (fun _ h9 => h9) rfl dX5_first_35 ?_
        refine lv_iload_n hx hb dX5_first_38 rfl (lv_at hl 1 rfl) ?_
        refine lv_iload_n hx hb dX5_first_39 rfl (lv_at hl 2 rfl) ?_
        refine q_iconst hx hb dX5_first_40 ?_
        refine q_cVi (z := c_wo w0 x1 x2 (-1)) (b := (ob 3)) (As := [.int (zI x1), .int (zI x2), .int (zI (-1))]) (rest := []) ⟨hx, hb, hml, hown, hts⟩ (kX4_waitOn l dC dI g tt (ob 3) a0 w0 x1 x2 (-1) (hw) (by omega) (by omega) (by omega)) (cwV 3 hts gX5_first_X4_waitOn rfl rfl rfl (by decide +kernel) ⟨Nat.le_of_ble_eq_true rfl, Nat.le_of_ble_eq_true rfl⟩) (hP.sub (ws' := wWa g (ob 3) a0 w0) [43, 1, 2, 3, 4, 5, 6, 7, 8, 9, 10] rfl) hK hT hS 0 3 rfl rfl rfl rfl hl.1 rfl (Nat.le_of_ble_eq_true rfl) dX5_first_41 ⟨Nat.le_of_ble_eq_true rfl, Nat.le_of_ble_eq_true rfl⟩ ?_
        have := c_wo_r w0 x1 x2 (-1)
        refine lv_istore (lv' := [(4, .int (zI (c_wo w0 x1 x2 (-1)))), (0, .ref (ob 0)), (1, .int (zI x1)), (2, .int (zI x2)), (3, .int (zI x3))]) hx hb dX5_first_44 hl (by decide) rfl (fun ls hl => ?_)
        refine lv_iload hx hb dX5_first_46 (lv_at hl 0 rfl) ?_
        refine q_iconst hx hb dX5_first_48 ?_
        refine q_icmp_eq (tgt := 57) hx hb dX5_first_49 (by decide) (by omega) (fun c_4 => ?_) (fun c_4 => ?_)
        · refine lv_iload hx hb dX5_first_57 (lv_at hl 0 rfl) ?_
          have hPf : va_P (dC, dI) vwCl (wWW g ob a0 a1 a2 a3 q w0 w1 w2 w3 kp tx tz fa fb (rfa rf (cc_first w0 x1 x2 x3))) s.heap := by rw [(show (rfa rf (cc_first w0 x1 x2 x3)) = rf from by first | exact rfa_0 (by unfold cc_first; (repeat' split) <;> omega) | exact rfa_n (by unfold cc_first; (repeat' split) <;> omega) (by decide))]; exact hP
          have hDf : va_D A (wWW g ob a0 a1 a2 a3 q w0 w1 w2 w3 kp tx tz fa fb (rfa rf (cc_first w0 x1 x2 x3))) := by rw [(show (rfa rf (cc_first w0 x1 x2 x3)) = rf from by first | exact rfa_0 (by unfold cc_first; (repeat' split) <;> omega) | exact rfa_n (by unfold cc_first; (repeat' split) <;> omega) (by decide))]; exact hD
          exact W.iret hx hb hr (fun t9 ht9 hW9 => ⟨⟨_, (), rfl, congrArg zI (show c_wo w0 x1 x2 (-1) = ca_first w0 x1 x2 x3 from by unfold ca_first; (repeat' split) <;> first | rfl | omega | (exfalso; omega)), by rw [ht9]; exact hPf, va_K.moved hW9.alike hK, hDf⟩, hS.F ht9⟩) hS.2.2 dX5_first_59
        · refine lv_iload_n hx hb dX5_first_52 rfl (lv_at hl 4 rfl) ?_
          refine q_iconst hx hb dX5_first_53 ?_
          refine q_icmp_ne (tgt := 60) hx hb dX5_first_54 (by decide) (by omega) (fun c_5 => ?_) (fun c_5 => ?_)
          · refine lv_iload_n hx hb dX5_first_60 rfl (lv_at hl 4 rfl) ?_
            refine q_if_ne (tgt := 80) hx hb dX5_first_61 (by decide) (by omega) (fun c_6 => ?_) (fun c_6 => ?_)
            · refine lv_aload_n hx hb dX5_first_80 rfl (lv_at hl 1 rfl) ?_
              refine va_get (D := (dC, dI)) (ci := 4) (v := .ref (ob 3)) (C := RX5) (T := TX5) (N := 8) hx hb hts iX5 hown hK hP 0 rfl rfl 4 (by decide) kf32 (fun _ h9 => h9) rfl dX5_first_81 ?_
              refine lv_iload_n hx hb dX5_first_84 rfl (lv_at hl 2 rfl) ?_
              refine lv_iload_n hx hb dX5_first_85 rfl (lv_at hl 3 rfl) ?_
              refine q_cVi (z := c_w1 w0 x1 x2) (b := (ob 3)) (As := [.int (zI x1), .int (zI x2)]) (rest := []) ⟨hx, hb, hml, hown, hts⟩ (kX4_wayOfFirst l dC dI g tt (ob 3) a0 w0 x1 x2 (hw) (by omega) (by omega)) (cwV 2 hts gX5_first_X4_wayOfFirst rfl rfl rfl (by decide +kernel) ⟨Nat.le_of_ble_eq_true rfl, Nat.le_of_ble_eq_true rfl⟩) (hP.sub (ws' := wWa g (ob 3) a0 w0) [43, 1, 2, 3, 4, 5, 6, 7, 8, 9, 10] rfl) hK hT hS 0 3 rfl rfl rfl rfl hl.1 rfl (Nat.le_of_ble_eq_true rfl) dX5_first_86 ⟨Nat.le_of_ble_eq_true rfl, Nat.le_of_ble_eq_true rfl⟩ ?_
              have := c_w1_r w0 x1 x2
              have hPf : va_P (dC, dI) vwCl (wWW g ob a0 a1 a2 a3 q w0 w1 w2 w3 kp tx tz fa fb (rfa rf (cc_first w0 x1 x2 x3))) s.heap := by rw [(show (rfa rf (cc_first w0 x1 x2 x3)) = rf from by first | exact rfa_0 (by unfold cc_first; (repeat' split) <;> omega) | exact rfa_n (by unfold cc_first; (repeat' split) <;> omega) (by decide))]; exact hP
              have hDf : va_D A (wWW g ob a0 a1 a2 a3 q w0 w1 w2 w3 kp tx tz fa fb (rfa rf (cc_first w0 x1 x2 x3))) := by rw [(show (rfa rf (cc_first w0 x1 x2 x3)) = rf from by first | exact rfa_0 (by unfold cc_first; (repeat' split) <;> omega) | exact rfa_n (by unfold cc_first; (repeat' split) <;> omega) (by decide))]; exact hD
              exact W.iret hx hb hr (fun t9 ht9 hW9 => ⟨⟨_, (), rfl, congrArg zI (show c_w1 w0 x1 x2 = ca_first w0 x1 x2 x3 from by unfold ca_first; (repeat' split) <;> first | rfl | omega | (exfalso; omega)), by rw [ht9]; exact hPf, va_K.moved hW9.alike hK, hDf⟩, hS.F ht9⟩) hS.2.2 dX5_first_89
            · refine lv_aload_n hx hb dX5_first_64 rfl (lv_at hl 1 rfl) ?_
              refine va_get (D := (dC, dI)) (ci := 4) (v := .ref (ob 3)) (C := RX5) (T := TX5) (N := 8) hx hb hts iX5 hown hK hP 0 rfl rfl 4 (by decide) kf32 (fun _ h9 => h9) rfl dX5_first_65 ?_
              refine lv_iload_n hx hb dX5_first_68 rfl (lv_at hl 2 rfl) ?_
              refine lv_iload_n hx hb dX5_first_69 rfl (lv_at hl 3 rfl) ?_
              refine lv_iload hx hb dX5_first_70 (lv_at hl 0 rfl) ?_
              refine q_iadd hx hb dX5_first_72 ?_
              refine q_iconst hx hb dX5_first_73 ?_
              refine q_cVi (z := c_sf w0 x1 (x2 + (c_wo w0 x1 x2 (-1))) (-1)) (b := (ob 3)) (As := [.int (zI x1), .int (zI (x2 + (c_wo w0 x1 x2 (-1)))), .int (zI (-1))]) (rest := []) ⟨hx, hb, hml, hown, hts⟩ (kX4_seenFrom l dC dI g tt (ob 3) a0 w0 x1 (x2 + (c_wo w0 x1 x2 (-1))) (-1) (hw) (by omega) (by omega) (by omega)) (cwV 3 hts gX5_first_X4_seenFrom rfl rfl rfl (by decide +kernel) ⟨Nat.le_of_ble_eq_true rfl, Nat.le_of_ble_eq_true rfl⟩) (hP.sub (ws' := wWa g (ob 3) a0 w0) [43, 1, 2, 3, 4, 5, 6, 7, 8, 9, 10] rfl) hK hT hS 0 3 rfl rfl rfl rfl hl.1 rfl (Nat.le_of_ble_eq_true rfl) dX5_first_74 ⟨Nat.le_of_ble_eq_true rfl, Nat.le_of_ble_eq_true rfl⟩ ?_
              have := c_sf_r w0 x1 (x2 + (c_wo w0 x1 x2 (-1))) (-1)
              refine lv_goto (tgt := 89) hx hb dX5_first_77 (by decide) ?_
              have hPf : va_P (dC, dI) vwCl (wWW g ob a0 a1 a2 a3 q w0 w1 w2 w3 kp tx tz fa fb (rfa rf (cc_first w0 x1 x2 x3))) s.heap := by rw [(show (rfa rf (cc_first w0 x1 x2 x3)) = rf from by first | exact rfa_0 (by unfold cc_first; (repeat' split) <;> omega) | exact rfa_n (by unfold cc_first; (repeat' split) <;> omega) (by decide))]; exact hP
              have hDf : va_D A (wWW g ob a0 a1 a2 a3 q w0 w1 w2 w3 kp tx tz fa fb (rfa rf (cc_first w0 x1 x2 x3))) := by rw [(show (rfa rf (cc_first w0 x1 x2 x3)) = rf from by first | exact rfa_0 (by unfold cc_first; (repeat' split) <;> omega) | exact rfa_n (by unfold cc_first; (repeat' split) <;> omega) (by decide))]; exact hD
              exact W.iret hx hb hr (fun t9 ht9 hW9 => ⟨⟨_, (), rfl, congrArg zI (show c_sf w0 x1 (x2 + (c_wo w0 x1 x2 (-1))) (-1) = ca_first w0 x1 x2 x3 from by unfold ca_first; (repeat' split) <;> first | rfl | omega | (exfalso; omega)), by rw [ht9]; exact hPf, va_K.moved hW9.alike hK, hDf⟩, hS.F ht9⟩) hS.2.2 dX5_first_89
          · refine lv_iload hx hb dX5_first_57 (lv_at hl 0 rfl) ?_
            have hPf : va_P (dC, dI) vwCl (wWW g ob a0 a1 a2 a3 q w0 w1 w2 w3 kp tx tz fa fb (rfa rf (cc_first w0 x1 x2 x3))) s.heap := by rw [(show (rfa rf (cc_first w0 x1 x2 x3)) = rf from by first | exact rfa_0 (by unfold cc_first; (repeat' split) <;> omega) | exact rfa_n (by unfold cc_first; (repeat' split) <;> omega) (by decide))]; exact hP
            have hDf : va_D A (wWW g ob a0 a1 a2 a3 q w0 w1 w2 w3 kp tx tz fa fb (rfa rf (cc_first w0 x1 x2 x3))) := by rw [(show (rfa rf (cc_first w0 x1 x2 x3)) = rf from by first | exact rfa_0 (by unfold cc_first; (repeat' split) <;> omega) | exact rfa_n (by unfold cc_first; (repeat' split) <;> omega) (by decide))]; exact hD
            exact W.iret hx hb hr (fun t9 ht9 hW9 => ⟨⟨_, (), rfl, congrArg zI (show c_wo w0 x1 x2 (-1) = ca_first w0 x1 x2 x3 from by unfold ca_first; (repeat' split) <;> first | rfl | omega | (exfalso; omega)), by rw [ht9]; exact hPf, va_K.moved hW9.alike hK, hDf⟩, hS.F ht9⟩) hS.2.2 dX5_first_59
      · refine lv_aload_n hx hb dX5_first_27 rfl (lv_at hl 0 rfl) ?_
        refine q_bipush hx hb dX5_first_28 rfl ?_
        refine q_cEi (z := (-2)) (b := (ob 0)) (As := [.int (zI (-2))]) (rest := []) (w1 := wWW g ob a0 a1 a2 a3 q w0 w1 w2 w3 kp tx tz fa fb (rfu rf (-2))) ⟨hx, hb, hml, hown, hts⟩ hP hD hK hT hS hA (kX5_refuse l dC dI g tt _ ob a0 a1 a2 a3 q w0 w1 w2 w3 kp tx tz fa fb rf (-2) (by decide)) (cwV 1 hts gX5_first_X5_refuse rfl rfl rfl (by decide +kernel) ⟨Nat.le_of_ble_eq_true rfl, Nat.le_of_ble_eq_true rfl⟩) 0 4 rfl rfl rfl rfl hl.1 rfl (Nat.le_of_ble_eq_true rfl) dX5_first_30 ⟨Nat.le_of_ble_eq_true rfl, Nat.le_of_ble_eq_true rfl⟩ (fun H locs hP hD hS => ?_)
        have hPf : va_P (dC, dI) vwCl (wWW g ob a0 a1 a2 a3 q w0 w1 w2 w3 kp tx tz fa fb (rfa rf (cc_first w0 x1 x2 x3))) H := by rw [(show (rfa rf (cc_first w0 x1 x2 x3)) = rfu rf (-2) from by first | exact rfa_0 (by unfold cc_first; (repeat' split) <;> omega) | exact rfa_n (by unfold cc_first; (repeat' split) <;> omega) (by decide))]; exact hP
        have hDf : va_D A (wWW g ob a0 a1 a2 a3 q w0 w1 w2 w3 kp tx tz fa fb (rfa rf (cc_first w0 x1 x2 x3))) := by rw [(show (rfa rf (cc_first w0 x1 x2 x3)) = rfu rf (-2) from by first | exact rfa_0 (by unfold cc_first; (repeat' split) <;> omega) | exact rfa_n (by unfold cc_first; (repeat' split) <;> omega) (by decide))]; exact hD
        exact W.iret hx hb hr (fun t9 ht9 hW9 => ⟨⟨_, (), rfl, congrArg zI (show (-2) = ca_first w0 x1 x2 x3 from by unfold ca_first; (repeat' split) <;> first | rfl | omega | (exfalso; omega)), by rw [ht9]; exact hPf, va_K.moved hW9.alike hK, hDf⟩, hS.F ht9⟩) hS.2.2 dX5_first_33
set_option maxHeartbeats 4000000 in
set_option maxRecDepth 100000 in
theorem kX5_setMean (l : Launch) (dC : Nat → ClassId) (dI : Nat → Nat → Nat) (g : Nat → ClassId) (tt : Nat → Nat) (sz : Nat) (ob a0 a1 a2 a3 q : Nat → Nat) (w0 w1 w2 w3 kp tx tz : Int → Int) (fa fb : Int) (rf : Int → Int) (x1 x2 : Int) (h1 : (0 ≤ x1 ∧ x1 ≤ 100000) ∧ (0 ≤ x2 ∧ x2 ≤ 100000)) : Met l yX5_setMean wsX5_setMean ({ frames := 2, cells := 0, slots := 0, locals := 56 }) (va_Pc [.ref (ob 0), .int (zI x1), .int (zI x2)] (eQ (dC, dI) (wTy g) (wWW g ob a0 a1 a2 a3 q w0 w1 w2 w3 kp tx tz fa fb rf) tt sz)) (va_Qi (fun r (_ : Unit) => r = zI (mnA x1 x2)) (fQ (dC, dI) (wTy g) (va_A (wWW g ob a0 a1 a2 a3 q w0 w1 w2 w3 kp tx tz fa fb rf) sz) (wWW g ob a0 a1 a2 a3 q w0 w1 w2 w3 kp tx tz (mnF x1 x2 fa) (mnG x1 x2 fb) (rfa rf (mnC x2)))) (va_A (wWW g ob a0 a1 a2 a3 q w0 w1 w2 w3 kp tx tz fa fb rf) sz)) 0 0 (va_A (wWW g ob a0 a1 a2 a3 q w0 w1 w2 w3 kp tx tz fa fb rf) sz) := by
  refine Met.ofW (cc := cX5_setMean) (maxL := 3) (ret := (some .int)) (by decide) rfl ?_
  intro p e s m args below meth c s₁ B hml hv
  obtain ⟨rfl, hsz, hP, hK, hD0, hT⟩ := hv
  have hx := B.exec
  have hb := B.bytes
  have hr := B.returns
  have hts := atoms_spec (ws := wsX5_setMean) B.pre
  have hown : s.vm.findClass RX5 = some m.cls := findClass_of_methodNamed B.named
  have hlocks := B.notSynchronized
  subst hsz
  have hD := hD0.self (sz := s.heap.size)
  generalize hAe : va_A (wWW g ob a0 a1 a2 a3 q w0 w1 w2 w3 kp tx tz fa fb rf) s.heap.size = A at hD hT ⊢
  have hA : ∀ q : Nat, s.heap.size ≤ q → A q := fun q h => by rw [← hAe]; exact Or.inr h
  have hS : va_S A s.heap s.heap [] := va_S.rf
  have hl := lv_entry ([.ref (ob 0), .int (zI x1), .int (zI x2)]) (n := 3) (Nat.le_of_ble_eq_true rfl)
  rw [lg_entry_eq]
  generalize (lg_sl ([.ref (ob 0), .int (zI x1), .int (zI x2)]) ++ List.replicate (3 - (lg_sl ([.ref (ob 0), .int (zI x1), .int (zI x2)])).length) Slot.unset).toArray = ls at hl ⊢
  have hl : lv_has ls 3 [(0, .ref (ob 0)), (1, .int (zI x1)), (2, .int (zI x2))] := hl
  have kf46 := hts (.fieldLink RX5 46 "WrongWay" "fraction" "LWrongWay$Fraction;") (by decide +kernel)
  have iX5 := (fun w h => List.mem_cons_of_mem _ (List.mem_append_left _ (List.mem_append_right _ h)) : ∀ w ∈ u_ws RX5 TX5 8, w ∈ wsX5_setMean)
  refine lv_iload_n hx hb dX5_setMean_0 rfl (lv_at hl 2 rfl) ?_
  refine q_if_ne (tgt := 11) hx hb dX5_setMean_1 (by decide) (by omega) (fun c_1 => ?_) (fun c_1 => ?_)
  · refine lv_aload_n hx hb dX5_setMean_11 rfl (lv_at hl 0 rfl) ?_
    refine va_get (D := (dC, dI)) (ci := 4) (v := .ref (ob 4)) (C := RX5) (T := TX5) (N := 8) hx hb hts iX5 hown hK hP 0 rfl rfl 6 (by decide) kf46 (fun _ h9 => h9) rfl dX5_setMean_12 ?_
    refine lv_iload_n hx hb dX5_setMean_15 rfl (lv_at hl 1 rfl) ?_
    refine q_i2l hx hb dX5_setMean_16 (by omega) ?_
    refine lv_iload_n hx hb dX5_setMean_17 rfl (lv_at hl 2 rfl) ?_
    refine q_i2l hx hb dX5_setMean_18 (by omega) ?_
    refine q_cVqv (b := (ob 4)) (As := [.long (zL x1), .long (zL x2)]) (rest := []) (wc := wFr (ob 4) fa fb) (w1 := wFr (ob 4) (if 0 < c_gd x1 x2 then x1 / c_gd x1 x2 else fa) (if 0 < c_gd x1 x2 then x2 / c_gd x1 x2 else fb)) (wr := [(ob 0, .inr (4, [.ref (a0 0), .ref (a1 0), .ref (ob 1), .ref (ob 2), .ref (ob 3), .ref (q 0), .ref (ob 4), .ref (ob 5)])), (a0 0, .inr (1, [.int (zI (w0 1)), .int (zI (w0 0)), .int (zI (w0 2)), .int (zI (w0 3)), .int (zI (w0 4)), .ref (a0 1), .ref (a0 2), .ref (a0 3), .ref (a0 4), .ref (a0 5), .ref (a0 6), .ref (a0 7), .ref (a0 8), .ref (a0 9)])), (a0 1, .inl (g 0, 4, .inl (fun k => zI (w0 (5 + k))))), (a0 2, .inl (g 0, 4, .inl (fun k => zI (w0 (9 + k))))), (a0 3, .inl (g 0, 2, .inl (fun k => zI (w0 (13 + k))))), (a0 4, .inl (g 0, 2, .inl (fun k => zI (w0 (15 + k))))), (a0 5, .inl (g 0, 6, .inl (fun k => zI (w0 (17 + 4 * k))))), (a0 6, .inl (g 0, 6, .inl (fun k => zI (w0 (18 + 4 * k))))), (a0 7, .inl (g 0, 6, .inl (fun k => zI (w0 (19 + 4 * k))))), (a0 8, .inl (g 0, 6, .inl (fun k => zI (w0 (20 + 4 * k))))), (a0 9, .inl (g 0, 8, .inl (fun k => zI (w0 (41 + k))))), (a1 0, .inr (1, [.int (zI (w1 1)), .int (zI (w1 0)), .int (zI (w1 2)), .int (zI (w1 3)), .int (zI (w1 4)), .ref (a1 1), .ref (a1 2), .ref (a1 3), .ref (a1 4), .ref (a1 5), .ref (a1 6), .ref (a1 7), .ref (a1 8), .ref (a1 9)])), (a1 1, .inl (g 0, 4, .inl (fun k => zI (w1 (5 + k))))), (a1 2, .inl (g 0, 4, .inl (fun k => zI (w1 (9 + k))))), (a1 3, .inl (g 0, 2, .inl (fun k => zI (w1 (13 + k))))), (a1 4, .inl (g 0, 2, .inl (fun k => zI (w1 (15 + k))))), (a1 5, .inl (g 0, 6, .inl (fun k => zI (w1 (17 + 4 * k))))), (a1 6, .inl (g 0, 6, .inl (fun k => zI (w1 (18 + 4 * k))))), (a1 7, .inl (g 0, 6, .inl (fun k => zI (w1 (19 + 4 * k))))), (a1 8, .inl (g 0, 6, .inl (fun k => zI (w1 (20 + 4 * k))))), (a1 9, .inl (g 0, 8, .inl (fun k => zI (w1 (41 + k))))), (a2 0, .inr (1, [.int (zI (w2 1)), .int (zI (w2 0)), .int (zI (w2 2)), .int (zI (w2 3)), .int (zI (w2 4)), .ref (a2 1), .ref (a2 2), .ref (a2 3), .ref (a2 4), .ref (a2 5), .ref (a2 6), .ref (a2 7), .ref (a2 8), .ref (a2 9)])), (a2 1, .inl (g 0, 4, .inl (fun k => zI (w2 (5 + k))))), (a2 2, .inl (g 0, 4, .inl (fun k => zI (w2 (9 + k))))), (a2 3, .inl (g 0, 2, .inl (fun k => zI (w2 (13 + k))))), (a2 4, .inl (g 0, 2, .inl (fun k => zI (w2 (15 + k))))), (a2 5, .inl (g 0, 6, .inl (fun k => zI (w2 (17 + 4 * k))))), (a2 6, .inl (g 0, 6, .inl (fun k => zI (w2 (18 + 4 * k))))), (a2 7, .inl (g 0, 6, .inl (fun k => zI (w2 (19 + 4 * k))))), (a2 8, .inl (g 0, 6, .inl (fun k => zI (w2 (20 + 4 * k))))), (a2 9, .inl (g 0, 8, .inl (fun k => zI (w2 (41 + k))))), (a3 0, .inr (1, [.int (zI (w3 1)), .int (zI (w3 0)), .int (zI (w3 2)), .int (zI (w3 3)), .int (zI (w3 4)), .ref (a3 1), .ref (a3 2), .ref (a3 3), .ref (a3 4), .ref (a3 5), .ref (a3 6), .ref (a3 7), .ref (a3 8), .ref (a3 9)])), (a3 1, .inl (g 0, 4, .inl (fun k => zI (w3 (5 + k))))), (a3 2, .inl (g 0, 4, .inl (fun k => zI (w3 (9 + k))))), (a3 3, .inl (g 0, 2, .inl (fun k => zI (w3 (13 + k))))), (a3 4, .inl (g 0, 2, .inl (fun k => zI (w3 (15 + k))))), (a3 5, .inl (g 0, 6, .inl (fun k => zI (w3 (17 + 4 * k))))), (a3 6, .inl (g 0, 6, .inl (fun k => zI (w3 (18 + 4 * k))))), (a3 7, .inl (g 0, 6, .inl (fun k => zI (w3 (19 + 4 * k))))), (a3 8, .inl (g 0, 6, .inl (fun k => zI (w3 (20 + 4 * k))))), (a3 9, .inl (g 0, 8, .inl (fun k => zI (w3 (41 + k))))), (ob 1, .inl (g 3, 2, .inr (.inr (.inr (.inr (im2 (a2 0) (a3 0))))))), (ob 2, .inl (g 2, 2, .inl (fun k => zI (kp k)))), (ob 3, .inr (3, [.ref (a0 0)])), (q 0, .inr (2, [.ref (q 1), .int (zI (tz 0)), .int (zI (tz 1)), .int (zI (tz 2)), .int (zI (tz 3)), .int (zI (tz 4))])), (q 1, .inl (g 1, 150, .inl (fun k => zI (tx k)))), (ob 5, .inl (g 0, 3, .inl (fun k => zI (rf k))))]) [46] [0, 1, 2, 3, 4, 5, 6, 7, 8, 9, 10, 11, 12, 13, 14, 15, 16, 17, 18, 19, 20, 21, 22, 23, 24, 25, 26, 27, 28, 29, 30, 31, 32, 33, 34, 35, 36, 37, 38, 39, 40, 41, 42, 43, 44, 45, 47] ⟨hx, hb, hml, hown, hts⟩ hP hD hK hT hS hA (kX0_set l dC dI g tt _ (ob 4) fa fb x1 x2 (by omega)) (cwV 2 hts gX5_setMean_X0_set rfl rfl rfl (by decide +kernel) ⟨Nat.le_of_ble_eq_true rfl, Nat.le_of_ble_eq_true rfl⟩) rfl rfl (by decide) (by decide) (by decide) 0 0 rfl rfl rfl rfl hl.1 rfl (Nat.le_of_ble_eq_true rfl) dX5_setMean_19 ⟨Nat.le_of_ble_eq_true rfl, Nat.le_of_ble_eq_true rfl⟩ (fun H locs hP hD hS => ?_)
    have hP : va_P (dC, dI) vwCl (wWW g ob a0 a1 a2 a3 q w0 w1 w2 w3 kp tx tz (if 0 < c_gd x1 x2 then x1 / c_gd x1 x2 else fa) (if 0 < c_gd x1 x2 then x2 / c_gd x1 x2 else fb) rf) H := hP.sub [0, 1, 2, 3, 4, 5, 6, 7, 8, 9, 10, 11, 12, 13, 14, 15, 16, 17, 18, 19, 20, 21, 22, 23, 24, 25, 26, 27, 28, 29, 30, 31, 32, 33, 34, 35, 36, 37, 38, 39, 40, 41, 42, 43, 44, 45, 47, 46] rfl
    have hD : va_D A (wWW g ob a0 a1 a2 a3 q w0 w1 w2 w3 kp tx tz (if 0 < c_gd x1 x2 then x1 / c_gd x1 x2 else fa) (if 0 < c_gd x1 x2 then x2 / c_gd x1 x2 else fb) rf) := hD.sub [0, 1, 2, 3, 4, 5, 6, 7, 8, 9, 10, 11, 12, 13, 14, 15, 16, 17, 18, 19, 20, 21, 22, 23, 24, 25, 26, 27, 28, 29, 30, 31, 32, 33, 34, 35, 36, 37, 38, 39, 40, 41, 42, 43, 44, 45, 47, 46] (by decide) rfl
    refine q_iconst hx hb dX5_setMean_22 ?_
    have hPf : va_P (dC, dI) vwCl (wWW g ob a0 a1 a2 a3 q w0 w1 w2 w3 kp tx tz (mnF x1 x2 fa) (mnG x1 x2 fb) (rfa rf (mnC x2))) H := by rw [(show (mnF x1 x2 fa) = if 0 < c_gd x1 x2 then x1 / c_gd x1 x2 else fa from by unfold mnF fsA; (repeat' split) <;> first | rfl | (exfalso; omega)), (show (mnG x1 x2 fb) = if 0 < c_gd x1 x2 then x2 / c_gd x1 x2 else fb from by unfold mnG fsB; (repeat' split) <;> first | rfl | (exfalso; omega)), (show (rfa rf (mnC x2)) = rf from by first | exact rfa_0 (by unfold mnC; (repeat' split) <;> omega) | exact rfa_n (by unfold mnC; (repeat' split) <;> omega) (by decide))]; exact hP
    have hDf : va_D A (wWW g ob a0 a1 a2 a3 q w0 w1 w2 w3 kp tx tz (mnF x1 x2 fa) (mnG x1 x2 fb) (rfa rf (mnC x2))) := by rw [(show (mnF x1 x2 fa) = if 0 < c_gd x1 x2 then x1 / c_gd x1 x2 else fa from by unfold mnF fsA; (repeat' split) <;> first | rfl | (exfalso; omega)), (show (mnG x1 x2 fb) = if 0 < c_gd x1 x2 then x2 / c_gd x1 x2 else fb from by unfold mnG fsB; (repeat' split) <;> first | rfl | (exfalso; omega)), (show (rfa rf (mnC x2)) = rf from by first | exact rfa_0 (by unfold mnC; (repeat' split) <;> omega) | exact rfa_n (by unfold mnC; (repeat' split) <;> omega) (by decide))]; exact hD
    exact W.iret hx hb hr (fun t9 ht9 hW9 => ⟨⟨_, (), rfl, congrArg zI (show 1 = mnA x1 x2 from by unfold mnA; (repeat' split) <;> first | rfl | omega | (exfalso; omega)), by rw [ht9]; exact hPf, va_K.moved hW9.alike hK, hDf⟩, hS.F ht9⟩) hS.2.2 dX5_setMean_23
  · refine lv_aload_n hx hb dX5_setMean_4 rfl (lv_at hl 0 rfl) ?_
    refine q_bipush hx hb dX5_setMean_5 rfl ?_
    refine q_cEi (z := (-3)) (b := (ob 0)) (As := [.int (zI (-3))]) (rest := []) (w1 := wWW g ob a0 a1 a2 a3 q w0 w1 w2 w3 kp tx tz fa fb (rfu rf (-3))) ⟨hx, hb, hml, hown, hts⟩ hP hD hK hT hS hA (kX5_refuse l dC dI g tt _ ob a0 a1 a2 a3 q w0 w1 w2 w3 kp tx tz fa fb rf (-3) (by decide)) (cwV 1 hts gX5_setMean_X5_refuse rfl rfl rfl (by decide +kernel) ⟨Nat.le_of_ble_eq_true rfl, Nat.le_of_ble_eq_true rfl⟩) 0 4 rfl rfl rfl rfl hl.1 rfl (Nat.le_of_ble_eq_true rfl) dX5_setMean_7 ⟨Nat.le_of_ble_eq_true rfl, Nat.le_of_ble_eq_true rfl⟩ (fun H locs hP hD hS => ?_)
    have hPf : va_P (dC, dI) vwCl (wWW g ob a0 a1 a2 a3 q w0 w1 w2 w3 kp tx tz (mnF x1 x2 fa) (mnG x1 x2 fb) (rfa rf (mnC x2))) H := by rw [(show (mnF x1 x2 fa) = fa from by unfold mnF fsA; (repeat' split) <;> first | rfl | (exfalso; omega)), (show (mnG x1 x2 fb) = fb from by unfold mnG fsB; (repeat' split) <;> first | rfl | (exfalso; omega)), (show (rfa rf (mnC x2)) = rfu rf (-3) from by first | exact rfa_0 (by unfold mnC; (repeat' split) <;> omega) | exact rfa_n (by unfold mnC; (repeat' split) <;> omega) (by decide))]; exact hP
    have hDf : va_D A (wWW g ob a0 a1 a2 a3 q w0 w1 w2 w3 kp tx tz (mnF x1 x2 fa) (mnG x1 x2 fb) (rfa rf (mnC x2))) := by rw [(show (mnF x1 x2 fa) = fa from by unfold mnF fsA; (repeat' split) <;> first | rfl | (exfalso; omega)), (show (mnG x1 x2 fb) = fb from by unfold mnG fsB; (repeat' split) <;> first | rfl | (exfalso; omega)), (show (rfa rf (mnC x2)) = rfu rf (-3) from by first | exact rfa_0 (by unfold mnC; (repeat' split) <;> omega) | exact rfa_n (by unfold mnC; (repeat' split) <;> omega) (by decide))]; exact hD
    exact W.iret hx hb hr (fun t9 ht9 hW9 => ⟨⟨_, (), rfl, congrArg zI (show (-3) = mnA x1 x2 from by unfold mnA; (repeat' split) <;> first | rfl | omega | (exfalso; omega)), by rw [ht9]; exact hPf, va_K.moved hW9.alike hK, hDf⟩, hS.F ht9⟩) hS.2.2 dX5_setMean_10
set_option maxHeartbeats 4000000 in
set_option maxRecDepth 100000 in
theorem kX5_chanceOfUp (l : Launch) (dC : Nat → ClassId) (dI : Nat → Nat → Nat) (g : Nat → ClassId) (tt : Nat → Nat) (sz : Nat) (ob a0 a1 a2 a3 q : Nat → Nat) (w0 w1 w2 w3 kp tx tz : Int → Int) (fa fb : Int) (rf : Int → Int) (x1 : Int) (hw : hok w0) (h1 : 0 ≤ x1 ∧ x1 ≤ w0 1) : Met l yX5_chanceOfUp wsX5_chanceOfUp ({ frames := 6, cells := 0, slots := 0, locals := 147 }) (va_Pc [.ref (ob 0), .int (zI x1)] (eQ (dC, dI) (wTy g) (wWW g ob a0 a1 a2 a3 q w0 w1 w2 w3 kp tx tz fa fb rf) tt sz)) (va_Qi (fun r (_ : Unit) => r = zI (mnA (upS w0 x1) (upN w0 x1))) (fQ (dC, dI) (wTy g) (va_A (wWW g ob a0 a1 a2 a3 q w0 w1 w2 w3 kp tx tz fa fb rf) sz) (wWW g ob a0 a1 a2 a3 q w0 w1 w2 w3 kp tx tz (mnF (upS w0 x1) (upN w0 x1) fa) (mnG (upS w0 x1) (upN w0 x1) fb) (rfa rf (mnC (upN w0 x1))))) (va_A (wWW g ob a0 a1 a2 a3 q w0 w1 w2 w3 kp tx tz fa fb rf) sz)) 0 0 (va_A (wWW g ob a0 a1 a2 a3 q w0 w1 w2 w3 kp tx tz fa fb rf) sz) := by
  refine Met.ofW (cc := cX5_chanceOfUp) (maxL := 6) (ret := (some .int)) (by decide) rfl ?_
  intro p e s m args below meth c s₁ B hml hv
  obtain ⟨rfl, hsz, hP, hK, hD0, hT⟩ := hv
  have hx := B.exec
  have hb := B.bytes
  have hr := B.returns
  have hts := atoms_spec (ws := wsX5_chanceOfUp) B.pre
  have hown : s.vm.findClass RX5 = some m.cls := findClass_of_methodNamed B.named
  have hlocks := B.notSynchronized
  subst hsz
  have hD := hD0.self (sz := s.heap.size)
  generalize hAe : va_A (wWW g ob a0 a1 a2 a3 q w0 w1 w2 w3 kp tx tz fa fb rf) s.heap.size = A at hD hT ⊢
  have hA : ∀ q : Nat, s.heap.size ≤ q → A q := fun q h => by rw [← hAe]; exact Or.inr h
  have hS : va_S A s.heap s.heap [] := va_S.rf
  have hl := lv_entry ([.ref (ob 0), .int (zI x1)]) (n := 6) (Nat.le_of_ble_eq_true rfl)
  rw [lg_entry_eq]
  generalize (lg_sl ([.ref (ob 0), .int (zI x1)]) ++ List.replicate (6 - (lg_sl ([.ref (ob 0), .int (zI x1)])).length) Slot.unset).toArray = ls at hl ⊢
  have hl : lv_has ls 6 [(0, .ref (ob 0)), (1, .int (zI x1))] := hl
  have kf32 := hts (.fieldLink RX5 32 "WrongWay" "watch" "LWrongWay$Watch;") (by decide +kernel)
  have iX5 := (fun w h => List.mem_cons_of_mem _ (List.mem_append_left _ (List.mem_append_left _ (List.mem_append_left _ (List.mem_append_right _ h)))) : ∀ w ∈ u_ws RX5 TX5 8, w ∈ wsX5_chanceOfUp)
  have hb0 := hw.b
  refine q_iconst hx hb dX5_chanceOfUp_0 ?_
  refine lv_istore_n (lv' := [(2, .int (zI 0)), (0, .ref (ob 0)), (1, .int (zI x1))]) hx hb dX5_chanceOfUp_1 rfl hl (by decide) rfl (fun ls hl => ?_)
  refine q_iconst hx hb dX5_chanceOfUp_2 ?_
  refine lv_istore_n (lv' := [(3, .int (zI 0)), (2, .int (zI 0)), (0, .ref (ob 0)), (1, .int (zI x1))]) hx hb dX5_chanceOfUp_3 rfl hl (by decide) rfl (fun ls hl => ?_)
  refine q_iconst hx hb dX5_chanceOfUp_4 ?_
  refine lv_istore (lv' := [(4, .int (zI 0)), (3, .int (zI 0)), (2, .int (zI 0)), (0, .ref (ob 0)), (1, .int (zI x1))]) hx hb dX5_chanceOfUp_5 hl (by decide) rfl (fun ls hl => ?_)
  refine w_loopP (σ := Int × Int × Int) (fun a9 ls => (0 ≤ a9.1 ∧ a9.1 ≤ 120) ∧ (a9.2.1 = sumR (c_upN w0 x1) a9.1) ∧ (a9.2.2 = sumR (c_upF w0 x1) a9.1) ∧ lv_has ls 6 [(0, .ref (ob 0)), (1, .int (zI x1)), (2, .int (zI a9.2.1)), (3, .int (zI a9.2.2)), (4, .int (zI a9.1))]) (fun a9 => (120 - a9.1).toNat) ?_ (0, 0, 0) ?_
  · rintro ⟨i, n, u⟩ ls ⟨hi, hn, hu, hl⟩ ih7
    have hi : 0 ≤ i ∧ i ≤ 120 := hi
    have hn : n = sumR (c_upN w0 x1) i := hn
    have hu : u = sumR (c_upF w0 x1) i := hu
    have hl : lv_has ls 6 [(0, .ref (ob 0)), (1, .int (zI x1)), (2, .int (zI n)), (3, .int (zI u)), (4, .int (zI i))] := hl
    refine lv_iload hx hb dX5_chanceOfUp_7 (lv_at hl 4 rfl) ?_
    refine q_bipush hx hb dX5_chanceOfUp_9 rfl ?_
    refine q_icmp_ge (tgt := 46) hx hb dX5_chanceOfUp_11 (by decide) (by omega) (fun c_1 => ?_) (fun c_1 => ?_)
    · have hbd := c_up_b w0 x1 (N := i) (by omega)
      have h120 : i = 120 := by omega
      refine lv_aload_n hx hb dX5_chanceOfUp_46 rfl (lv_at hl 0 rfl) ?_
      refine lv_iload_n hx hb dX5_chanceOfUp_47 rfl (lv_at hl 3 rfl) ?_
      refine lv_iload_n hx hb dX5_chanceOfUp_48 rfl (lv_at hl 2 rfl) ?_
      refine q_cEi (z := mnA u n) (b := (ob 0)) (As := [.int (zI u), .int (zI n)]) (rest := []) (w1 := wWW g ob a0 a1 a2 a3 q w0 w1 w2 w3 kp tx tz (mnF u n fa) (mnG u n fb) (rfa rf (mnC n))) ⟨hx, hb, hml, hown, hts⟩ hP hD hK hT hS hA (kX5_setMean l dC dI g tt _ ob a0 a1 a2 a3 q w0 w1 w2 w3 kp tx tz fa fb rf u n (by omega)) (cwV 2 hts gX5_chanceOfUp_X5_setMean rfl rfl rfl (by decide +kernel) ⟨Nat.le_of_ble_eq_true rfl, Nat.le_of_ble_eq_true rfl⟩) 0 4 rfl rfl rfl rfl hl.1 rfl (Nat.le_of_ble_eq_true rfl) dX5_chanceOfUp_49 ⟨Nat.le_of_ble_eq_true rfl, Nat.le_of_ble_eq_true rfl⟩ (fun H locs hP hD hS => ?_)
      have hPf : va_P (dC, dI) vwCl (wWW g ob a0 a1 a2 a3 q w0 w1 w2 w3 kp tx tz (mnF (upS w0 x1) (upN w0 x1) fa) (mnG (upS w0 x1) (upN w0 x1) fb) (rfa rf (mnC (upN w0 x1)))) H := by rw [(show (mnF (upS w0 x1) (upN w0 x1) fa) = mnF u n fa from by rw [hn, hu, h120]), (show (mnG (upS w0 x1) (upN w0 x1) fb) = mnG u n fb from by rw [hn, hu, h120]), (show (rfa rf (mnC (upN w0 x1))) = rfa rf (mnC n) from by rw [hn, h120])]; exact hP
      have hDf : va_D A (wWW g ob a0 a1 a2 a3 q w0 w1 w2 w3 kp tx tz (mnF (upS w0 x1) (upN w0 x1) fa) (mnG (upS w0 x1) (upN w0 x1) fb) (rfa rf (mnC (upN w0 x1)))) := by rw [(show (mnF (upS w0 x1) (upN w0 x1) fa) = mnF u n fa from by rw [hn, hu, h120]), (show (mnG (upS w0 x1) (upN w0 x1) fb) = mnG u n fb from by rw [hn, hu, h120]), (show (rfa rf (mnC (upN w0 x1))) = rfa rf (mnC n) from by rw [hn, h120])]; exact hD
      exact W.iret hx hb hr (fun t9 ht9 hW9 => ⟨⟨_, (), rfl, congrArg zI (show mnA u n = mnA (upS w0 x1) (upN w0 x1) from by rw [hn, hu, h120]), by rw [ht9]; exact hPf, va_K.moved hW9.alike hK, hDf⟩, hS.F ht9⟩) hS.2.2 dX5_chanceOfUp_52
    · refine lv_aload_n hx hb dX5_chanceOfUp_14 rfl (lv_at hl 0 rfl) ?_
      refine va_get (D := (dC, dI)) (ci := 4) (v := .ref (ob 3)) (C := RX5) (T := TX5) (N := 8) hx hb hts iX5 hown hK hP 0 rfl rfl 4 (by decide) kf32 (fun _ h9 => h9) rfl dX5_chanceOfUp_15 ?_
      refine lv_iload_n hx hb dX5_chanceOfUp_18 rfl (lv_at hl 1 rfl) ?_
      refine lv_iload hx hb dX5_chanceOfUp_19 (lv_at hl 4 rfl) ?_
      refine q_cVi (z := c_w1 w0 x1 i) (b := (ob 3)) (As := [.int (zI x1), .int (zI i)]) (rest := []) ⟨hx, hb, hml, hown, hts⟩ (kX4_wayOfFirst l dC dI g tt (ob 3) a0 w0 x1 i (hw) (by omega) (by omega)) (cwV 2 hts gX5_chanceOfUp_X4_wayOfFirst rfl rfl rfl (by decide +kernel) ⟨Nat.le_of_ble_eq_true rfl, Nat.le_of_ble_eq_true rfl⟩) (hP.sub (ws' := wWa g (ob 3) a0 w0) [43, 1, 2, 3, 4, 5, 6, 7, 8, 9, 10] rfl) hK hT hS 0 3 rfl rfl rfl rfl hl.1 rfl (Nat.le_of_ble_eq_true rfl) dX5_chanceOfUp_21 ⟨Nat.le_of_ble_eq_true rfl, Nat.le_of_ble_eq_true rfl⟩ ?_
      have := c_w1_r w0 x1 i
      refine lv_istore (lv' := [(5, .int (zI (c_w1 w0 x1 i))), (0, .ref (ob 0)), (1, .int (zI x1)), (2, .int (zI n)), (3, .int (zI u)), (4, .int (zI i))]) hx hb dX5_chanceOfUp_24 hl (by decide) rfl (fun ls hl => ?_)
      refine lv_iload hx hb dX5_chanceOfUp_26 (lv_at hl 0 rfl) ?_
      refine q_iconst hx hb dX5_chanceOfUp_28 ?_
      refine q_icmp_eq (tgt := 40) hx hb dX5_chanceOfUp_29 (by decide) (by omega) (fun c_2 => ?_) (fun c_2 => ?_)
      · refine lv_iinc (v := zI (i + 1)) (lv' := [(4, .int (zI (i + 1))), (5, .int (zI (c_w1 w0 x1 i))), (0, .ref (ob 0)), (1, .int (zI x1)), (2, .int (zI n)), (3, .int (zI u))]) hx hb dX5_chanceOfUp_40 hl (k := 5) rfl (zI_add _ _) (by decide) rfl (fun ls hl => ?_)
        refine lv_goto (tgt := 7) hx hb dX5_chanceOfUp_43 (by decide) ?_
        exact ih7 (i + 1, n, u) ls ⟨(show 0 ≤ (i + 1) ∧ (i + 1) ≤ 120 from by omega), (show n = sumR (c_upN w0 x1) (i + 1) from by rw [sumR_s (by omega), c_upN, if_pos c_2]; omega), (show u = sumR (c_upF w0 x1) (i + 1) from by rw [sumR_s (by omega), c_upF, if_pos c_2]; omega), lv_sub hl [2, 3, 4, 5, 0] rfl⟩ (by show (120 - (i + 1)).toNat < (120 - i).toNat; omega)
      · refine lv_iinc (v := zI (n + 1)) (lv' := [(2, .int (zI (n + 1))), (5, .int (zI (c_w1 w0 x1 i))), (0, .ref (ob 0)), (1, .int (zI x1)), (3, .int (zI u)), (4, .int (zI i))]) hx hb dX5_chanceOfUp_32 hl (k := 3) rfl (zI_add _ _) (by decide) rfl (fun ls hl => ?_)
        refine lv_iload_n hx hb dX5_chanceOfUp_35 rfl (lv_at hl 4 rfl) ?_
        refine lv_iload hx hb dX5_chanceOfUp_36 (lv_at hl 1 rfl) ?_
        refine q_iadd hx hb dX5_chanceOfUp_38 ?_
        refine lv_istore_n (lv' := [(3, .int (zI (u + (c_w1 w0 x1 i)))), (2, .int (zI (n + 1))), (5, .int (zI (c_w1 w0 x1 i))), (0, .ref (ob 0)), (1, .int (zI x1)), (4, .int (zI i))]) hx hb dX5_chanceOfUp_39 rfl hl (by decide) rfl (fun ls hl => ?_)
        refine lv_iinc (v := zI (i + 1)) (lv' := [(4, .int (zI (i + 1))), (3, .int (zI (u + (c_w1 w0 x1 i)))), (2, .int (zI (n + 1))), (5, .int (zI (c_w1 w0 x1 i))), (0, .ref (ob 0)), (1, .int (zI x1))]) hx hb dX5_chanceOfUp_40 hl (k := 5) rfl (zI_add _ _) (by decide) rfl (fun ls hl => ?_)
        refine lv_goto (tgt := 7) hx hb dX5_chanceOfUp_43 (by decide) ?_
        exact ih7 (i + 1, n + 1, u + (c_w1 w0 x1 i)) ls ⟨(show 0 ≤ (i + 1) ∧ (i + 1) ≤ 120 from by omega), (show (n + 1) = sumR (c_upN w0 x1) (i + 1) from by rw [sumR_s (by omega), c_upN, if_neg c_2]; omega), (show (u + (c_w1 w0 x1 i)) = sumR (c_upF w0 x1) (i + 1) from by rw [sumR_s (by omega), c_upF, if_neg c_2]; omega), lv_sub hl [4, 5, 2, 1, 0] rfl⟩ (by show (120 - (i + 1)).toNat < (120 - i).toNat; omega)
  · exact ⟨(show 0 ≤ 0 ∧ 0 ≤ 120 from by omega), (show 0 = sumR (c_upN w0 x1) 0 from rfl), (show 0 = sumR (c_upF w0 x1) 0 from rfl), lv_sub hl [3, 4, 2, 1, 0] rfl⟩
set_option maxHeartbeats 4000000 in
set_option maxRecDepth 100000 in
theorem kX5_meanWait (l : Launch) (dC : Nat → ClassId) (dI : Nat → Nat → Nat) (g : Nat → ClassId) (tt : Nat → Nat) (sz : Nat) (ob a0 a1 a2 a3 q : Nat → Nat) (w0 w1 w2 w3 kp tx tz : Int → Int) (fa fb : Int) (rf : Int → Int) (x1 x2 : Int) (hw : hok w0) (h1 : 0 ≤ x1 ∧ x1 ≤ w0 1) (h2 : -1 ≤ x2 ∧ x2 ≤ 1) : Met l yX5_meanWait wsX5_meanWait ({ frames := 5, cells := 0, slots := 0, locals := 123 }) (va_Pc [.ref (ob 0), .int (zI x1), .int (zI x2)] (eQ (dC, dI) (wTy g) (wWW g ob a0 a1 a2 a3 q w0 w1 w2 w3 kp tx tz fa fb rf) tt sz)) (va_Qi (fun r (_ : Unit) => r = zI (mnA (mwS w0 x1 x2) (mwN w0 x1 x2))) (fQ (dC, dI) (wTy g) (va_A (wWW g ob a0 a1 a2 a3 q w0 w1 w2 w3 kp tx tz fa fb rf) sz) (wWW g ob a0 a1 a2 a3 q w0 w1 w2 w3 kp tx tz (mnF (mwS w0 x1 x2) (mwN w0 x1 x2) fa) (mnG (mwS w0 x1 x2) (mwN w0 x1 x2) fb) (rfa rf (mnC (mwN w0 x1 x2))))) (va_A (wWW g ob a0 a1 a2 a3 q w0 w1 w2 w3 kp tx tz fa fb rf) sz)) 0 0 (va_A (wWW g ob a0 a1 a2 a3 q w0 w1 w2 w3 kp tx tz fa fb rf) sz) := by
  refine Met.ofW (cc := cX5_meanWait) (maxL := 7) (ret := (some .int)) (by decide) rfl ?_
  intro p e s m args below meth c s₁ B hml hv
  obtain ⟨rfl, hsz, hP, hK, hD0, hT⟩ := hv
  have hx := B.exec
  have hb := B.bytes
  have hr := B.returns
  have hts := atoms_spec (ws := wsX5_meanWait) B.pre
  have hown : s.vm.findClass RX5 = some m.cls := findClass_of_methodNamed B.named
  have hlocks := B.notSynchronized
  subst hsz
  have hD := hD0.self (sz := s.heap.size)
  generalize hAe : va_A (wWW g ob a0 a1 a2 a3 q w0 w1 w2 w3 kp tx tz fa fb rf) s.heap.size = A at hD hT ⊢
  have hA : ∀ q : Nat, s.heap.size ≤ q → A q := fun q h => by rw [← hAe]; exact Or.inr h
  have hS : va_S A s.heap s.heap [] := va_S.rf
  have hl := lv_entry ([.ref (ob 0), .int (zI x1), .int (zI x2)]) (n := 7) (Nat.le_of_ble_eq_true rfl)
  rw [lg_entry_eq]
  generalize (lg_sl ([.ref (ob 0), .int (zI x1), .int (zI x2)]) ++ List.replicate (7 - (lg_sl ([.ref (ob 0), .int (zI x1), .int (zI x2)])).length) Slot.unset).toArray = ls at hl ⊢
  have hl : lv_has ls 7 [(0, .ref (ob 0)), (1, .int (zI x1)), (2, .int (zI x2))] := hl
  have kf32 := hts (.fieldLink RX5 32 "WrongWay" "watch" "LWrongWay$Watch;") (by decide +kernel)
  have iX5 := (fun w h => List.mem_cons_of_mem _ (List.mem_append_left _ (List.mem_append_left _ (List.mem_append_left _ (List.mem_append_right _ h)))) : ∀ w ∈ u_ws RX5 TX5 8, w ∈ wsX5_meanWait)
  have hb0 := hw.b
  refine q_iconst hx hb dX5_meanWait_0 ?_
  refine lv_istore_n (lv' := [(3, .int (zI 0)), (0, .ref (ob 0)), (1, .int (zI x1)), (2, .int (zI x2))]) hx hb dX5_meanWait_1 rfl hl (by decide) rfl (fun ls hl => ?_)
  refine q_iconst hx hb dX5_meanWait_2 ?_
  refine lv_istore (lv' := [(4, .int (zI 0)), (3, .int (zI 0)), (0, .ref (ob 0)), (1, .int (zI x1)), (2, .int (zI x2))]) hx hb dX5_meanWait_3 hl (by decide) rfl (fun ls hl => ?_)
  refine q_iconst hx hb dX5_meanWait_5 ?_
  refine lv_istore (lv' := [(5, .int (zI 0)), (4, .int (zI 0)), (3, .int (zI 0)), (0, .ref (ob 0)), (1, .int (zI x1)), (2, .int (zI x2))]) hx hb dX5_meanWait_6 hl (by decide) rfl (fun ls hl => ?_)
  refine w_loopP (σ := Int × Int × Int) (fun a9 ls => (0 ≤ a9.1 ∧ a9.1 ≤ 120) ∧ (a9.2.1 = sumR (c_mwN w0 x1 x2) a9.1) ∧ (a9.2.2 = sumR (c_mwF w0 x1 x2) a9.1) ∧ lv_has ls 7 [(0, .ref (ob 0)), (1, .int (zI x1)), (2, .int (zI x2)), (3, .int (zI a9.2.1)), (4, .int (zI a9.2.2)), (5, .int (zI a9.1))]) (fun a9 => (120 - a9.1).toNat) ?_ (0, 0, 0) ?_
  · rintro ⟨i, n, u⟩ ls ⟨hi, hn, hu, hl⟩ ih8
    have hi : 0 ≤ i ∧ i ≤ 120 := hi
    have hn : n = sumR (c_mwN w0 x1 x2) i := hn
    have hu : u = sumR (c_mwF w0 x1 x2) i := hu
    have hl : lv_has ls 7 [(0, .ref (ob 0)), (1, .int (zI x1)), (2, .int (zI x2)), (3, .int (zI n)), (4, .int (zI u)), (5, .int (zI i))] := hl
    refine lv_iload hx hb dX5_meanWait_8 (lv_at hl 5 rfl) ?_
    refine q_bipush hx hb dX5_meanWait_10 rfl ?_
    refine q_icmp_ge (tgt := 50) hx hb dX5_meanWait_12 (by decide) (by omega) (fun c_1 => ?_) (fun c_1 => ?_)
    · have hbd := c_mw_b w0 x1 x2 (N := i) (by omega)
      have h120 : i = 120 := by omega
      refine lv_aload_n hx hb dX5_meanWait_50 rfl (lv_at hl 0 rfl) ?_
      refine lv_iload hx hb dX5_meanWait_51 (lv_at hl 4 rfl) ?_
      refine lv_iload_n hx hb dX5_meanWait_53 rfl (lv_at hl 3 rfl) ?_
      refine q_cEi (z := mnA u n) (b := (ob 0)) (As := [.int (zI u), .int (zI n)]) (rest := []) (w1 := wWW g ob a0 a1 a2 a3 q w0 w1 w2 w3 kp tx tz (mnF u n fa) (mnG u n fb) (rfa rf (mnC n))) ⟨hx, hb, hml, hown, hts⟩ hP hD hK hT hS hA (kX5_setMean l dC dI g tt _ ob a0 a1 a2 a3 q w0 w1 w2 w3 kp tx tz fa fb rf u n (by omega)) (cwV 2 hts gX5_meanWait_X5_setMean rfl rfl rfl (by decide +kernel) ⟨Nat.le_of_ble_eq_true rfl, Nat.le_of_ble_eq_true rfl⟩) 0 4 rfl rfl rfl rfl hl.1 rfl (Nat.le_of_ble_eq_true rfl) dX5_meanWait_54 ⟨Nat.le_of_ble_eq_true rfl, Nat.le_of_ble_eq_true rfl⟩ (fun H locs hP hD hS => ?_)
      have hPf : va_P (dC, dI) vwCl (wWW g ob a0 a1 a2 a3 q w0 w1 w2 w3 kp tx tz (mnF (mwS w0 x1 x2) (mwN w0 x1 x2) fa) (mnG (mwS w0 x1 x2) (mwN w0 x1 x2) fb) (rfa rf (mnC (mwN w0 x1 x2)))) H := by rw [(show (mnF (mwS w0 x1 x2) (mwN w0 x1 x2) fa) = mnF u n fa from by rw [hn, hu, h120]), (show (mnG (mwS w0 x1 x2) (mwN w0 x1 x2) fb) = mnG u n fb from by rw [hn, hu, h120]), (show (rfa rf (mnC (mwN w0 x1 x2))) = rfa rf (mnC n) from by rw [hn, h120])]; exact hP
      have hDf : va_D A (wWW g ob a0 a1 a2 a3 q w0 w1 w2 w3 kp tx tz (mnF (mwS w0 x1 x2) (mwN w0 x1 x2) fa) (mnG (mwS w0 x1 x2) (mwN w0 x1 x2) fb) (rfa rf (mnC (mwN w0 x1 x2)))) := by rw [(show (mnF (mwS w0 x1 x2) (mwN w0 x1 x2) fa) = mnF u n fa from by rw [hn, hu, h120]), (show (mnG (mwS w0 x1 x2) (mwN w0 x1 x2) fb) = mnG u n fb from by rw [hn, hu, h120]), (show (rfa rf (mnC (mwN w0 x1 x2))) = rfa rf (mnC n) from by rw [hn, h120])]; exact hD
      exact W.iret hx hb hr (fun t9 ht9 hW9 => ⟨⟨_, (), rfl, congrArg zI (show mnA u n = mnA (mwS w0 x1 x2) (mwN w0 x1 x2) from by rw [hn, hu, h120]), by rw [ht9]; exact hPf, va_K.moved hW9.alike hK, hDf⟩, hS.F ht9⟩) hS.2.2 dX5_meanWait_57
    · refine lv_aload_n hx hb dX5_meanWait_15 rfl (lv_at hl 0 rfl) ?_
      refine va_get (D := (dC, dI)) (ci := 4) (v := .ref (ob 3)) (C := RX5) (T := TX5) (N := 8) hx hb hts iX5 hown hK hP 0 rfl rfl 4 (by decide) kf32 (fun _ h9 => h9) rfl dX5_meanWait_16 ?_
      refine lv_iload_n hx hb dX5_meanWait_19 rfl (lv_at hl 1 rfl) ?_
      refine lv_iload hx hb dX5_meanWait_20 (lv_at hl 5 rfl) ?_
      refine lv_iload_n hx hb dX5_meanWait_22 rfl (lv_at hl 2 rfl) ?_
      refine q_cVi (z := c_wo w0 x1 i x2) (b := (ob 3)) (As := [.int (zI x1), .int (zI i), .int (zI x2)]) (rest := []) ⟨hx, hb, hml, hown, hts⟩ (kX4_waitOn l dC dI g tt (ob 3) a0 w0 x1 i x2 (hw) (by omega) (by omega) (by omega)) (cwV 3 hts gX5_meanWait_X4_waitOn rfl rfl rfl (by decide +kernel) ⟨Nat.le_of_ble_eq_true rfl, Nat.le_of_ble_eq_true rfl⟩) (hP.sub (ws' := wWa g (ob 3) a0 w0) [43, 1, 2, 3, 4, 5, 6, 7, 8, 9, 10] rfl) hK hT hS 0 3 rfl rfl rfl rfl hl.1 rfl (Nat.le_of_ble_eq_true rfl) dX5_meanWait_23 ⟨Nat.le_of_ble_eq_true rfl, Nat.le_of_ble_eq_true rfl⟩ ?_
      have := c_wo_r w0 x1 i x2
      refine lv_istore (lv' := [(6, .int (zI (c_wo w0 x1 i x2))), (0, .ref (ob 0)), (1, .int (zI x1)), (2, .int (zI x2)), (3, .int (zI n)), (4, .int (zI u)), (5, .int (zI i))]) hx hb dX5_meanWait_26 hl (by decide) rfl (fun ls hl => ?_)
      refine lv_iload hx hb dX5_meanWait_28 (lv_at hl 0 rfl) ?_
      refine q_iconst hx hb dX5_meanWait_30 ?_
      refine q_icmp_eq (tgt := 44) hx hb dX5_meanWait_31 (by decide) (by omega) (fun c_2 => ?_) (fun c_2 => ?_)
      · refine lv_iinc (v := zI (i + 1)) (lv' := [(5, .int (zI (i + 1))), (6, .int (zI (c_wo w0 x1 i x2))), (0, .ref (ob 0)), (1, .int (zI x1)), (2, .int (zI x2)), (3, .int (zI n)), (4, .int (zI u))]) hx hb dX5_meanWait_44 hl (k := 6) rfl (zI_add _ _) (by decide) rfl (fun ls hl => ?_)
        refine lv_goto (tgt := 8) hx hb dX5_meanWait_47 (by decide) ?_
        exact ih8 (i + 1, n, u) ls ⟨(show 0 ≤ (i + 1) ∧ (i + 1) ≤ 120 from by omega), (show n = sumR (c_mwN w0 x1 x2) (i + 1) from by rw [sumR_s (by omega), c_mwN, if_pos c_2]; omega), (show u = sumR (c_mwF w0 x1 x2) (i + 1) from by rw [sumR_s (by omega), c_mwF, if_pos c_2]; omega), lv_sub hl [2, 3, 4, 5, 6, 0] rfl⟩ (by show (120 - (i + 1)).toNat < (120 - i).toNat; omega)
      · refine lv_iinc (v := zI (n + 1)) (lv' := [(3, .int (zI (n + 1))), (6, .int (zI (c_wo w0 x1 i x2))), (0, .ref (ob 0)), (1, .int (zI x1)), (2, .int (zI x2)), (4, .int (zI u)), (5, .int (zI i))]) hx hb dX5_meanWait_34 hl (k := 4) rfl (zI_add _ _) (by decide) rfl (fun ls hl => ?_)
        refine lv_iload hx hb dX5_meanWait_37 (lv_at hl 5 rfl) ?_
        refine lv_iload hx hb dX5_meanWait_39 (lv_at hl 1 rfl) ?_
        refine q_iadd hx hb dX5_meanWait_41 ?_
        refine lv_istore (lv' := [(4, .int (zI (u + (c_wo w0 x1 i x2)))), (3, .int (zI (n + 1))), (6, .int (zI (c_wo w0 x1 i x2))), (0, .ref (ob 0)), (1, .int (zI x1)), (2, .int (zI x2)), (5, .int (zI i))]) hx hb dX5_meanWait_42 hl (by decide) rfl (fun ls hl => ?_)
        refine lv_iinc (v := zI (i + 1)) (lv' := [(5, .int (zI (i + 1))), (4, .int (zI (u + (c_wo w0 x1 i x2)))), (3, .int (zI (n + 1))), (6, .int (zI (c_wo w0 x1 i x2))), (0, .ref (ob 0)), (1, .int (zI x1)), (2, .int (zI x2))]) hx hb dX5_meanWait_44 hl (k := 6) rfl (zI_add _ _) (by decide) rfl (fun ls hl => ?_)
        refine lv_goto (tgt := 8) hx hb dX5_meanWait_47 (by decide) ?_
        exact ih8 (i + 1, n + 1, u + (c_wo w0 x1 i x2)) ls ⟨(show 0 ≤ (i + 1) ∧ (i + 1) ≤ 120 from by omega), (show (n + 1) = sumR (c_mwN w0 x1 x2) (i + 1) from by rw [sumR_s (by omega), c_mwN, if_neg c_2]; omega), (show (u + (c_wo w0 x1 i x2)) = sumR (c_mwF w0 x1 x2) (i + 1) from by rw [sumR_s (by omega), c_mwF, if_neg c_2]; omega), lv_sub hl [4, 5, 6, 2, 1, 0] rfl⟩ (by show (120 - (i + 1)).toNat < (120 - i).toNat; omega)
  · exact ⟨(show 0 ≤ 0 ∧ 0 ≤ 120 from by omega), (show 0 = sumR (c_mwN w0 x1 x2) 0 from rfl), (show 0 = sumR (c_mwF w0 x1 x2) 0 from rfl), lv_sub hl [3, 4, 5, 2, 1, 0] rfl⟩
set_option maxHeartbeats 4000000 in
set_option maxRecDepth 100000 in
theorem kX5_often (l : Launch) (dC : Nat → ClassId) (dI : Nat → Nat → Nat) (g : Nat → ClassId) (tt : Nat → Nat) (sz : Nat) (ob a0 a1 a2 a3 q : Nat → Nat) (w0 w1 w2 w3 kp tx tz : Int → Int) (fa fb : Int) (rf : Int → Int) (x1 x2 : Int) (hw : hok w0) (h1 : rI x1 ∧ rI x2) : Met l yX5_often wsX5_often ({ frames := 7, cells := 0, slots := 0, locals := 172 }) (va_Pc [.ref (ob 0), .int (zI x1), .int (zI x2)] (eQ (dC, dI) (wTy g) (wWW g ob a0 a1 a2 a3 q w0 w1 w2 w3 kp tx tz fa fb rf) tt sz)) (va_Qi (fun r (_ : Unit) => r = zI (ca_often w0 x1 x2)) (fQ (dC, dI) (wTy g) (va_A (wWW g ob a0 a1 a2 a3 q w0 w1 w2 w3 kp tx tz fa fb rf) sz) (wWW g ob a0 a1 a2 a3 q w0 w1 w2 w3 kp tx tz (cf_often w0 x1 x2 fa) (cg_often w0 x1 x2 fb) (rfa rf (cc_often w0 x1 x2)))) (va_A (wWW g ob a0 a1 a2 a3 q w0 w1 w2 w3 kp tx tz fa fb rf) sz)) 0 0 (va_A (wWW g ob a0 a1 a2 a3 q w0 w1 w2 w3 kp tx tz fa fb rf) sz) := by
  refine Met.ofW (cc := cX5_often) (maxL := 3) (ret := (some .int)) (by decide) rfl ?_
  intro p e s m args below meth c s₁ B hml hv
  obtain ⟨rfl, hsz, hP, hK, hD0, hT⟩ := hv
  have hx := B.exec
  have hb := B.bytes
  have hr := B.returns
  have hts := atoms_spec (ws := wsX5_often) B.pre
  have hown : s.vm.findClass RX5 = some m.cls := findClass_of_methodNamed B.named
  have hlocks := B.notSynchronized
  subst hsz
  have hD := hD0.self (sz := s.heap.size)
  generalize hAe : va_A (wWW g ob a0 a1 a2 a3 q w0 w1 w2 w3 kp tx tz fa fb rf) s.heap.size = A at hD hT ⊢
  have hA : ∀ q : Nat, s.heap.size ≤ q → A q := fun q h => by rw [← hAe]; exact Or.inr h
  have hS : va_S A s.heap s.heap [] := va_S.rf
  have hl := lv_entry ([.ref (ob 0), .int (zI x1), .int (zI x2)]) (n := 3) (Nat.le_of_ble_eq_true rfl)
  rw [lg_entry_eq]
  generalize (lg_sl ([.ref (ob 0), .int (zI x1), .int (zI x2)]) ++ List.replicate (3 - (lg_sl ([.ref (ob 0), .int (zI x1), .int (zI x2)])).length) Slot.unset).toArray = ls at hl ⊢
  have hl : lv_has ls 3 [(0, .ref (ob 0)), (1, .int (zI x1)), (2, .int (zI x2))] := hl
  have kf10 := hts (.fieldLink RX5 10 "WrongWay" "now" "LWrongWay$House;") (by decide +kernel)
  have iX5 := (fun w h => List.mem_cons_of_mem _ (List.mem_append_left _ (List.mem_append_left _ (List.mem_append_left _ (List.mem_append_right _ h)))) : ∀ w ∈ u_ws RX5 TX5 8, w ∈ wsX5_often)
  have hb0 := hw.b
  refine lv_aload_n hx hb dX5_often_0 rfl (lv_at hl 0 rfl) ?_
  refine va_get (D := (dC, dI)) (ci := 4) (v := .ref (a0 0)) (C := RX5) (T := TX5) (N := 8) hx hb hts iX5 hown hK hP 0 rfl rfl 0 (by decide) kf10 (fun _ h9 => h9) rfl dX5_often_1 ?_
  refine lv_iload_n hx hb dX5_often_4 rfl (lv_at hl 1 rfl) ?_
  refine q_cVi (z := bz (0 ≤ x1 ∧ x1 ≤ w0 1)) (b := (a0 0)) (As := [.int (zI x1)]) (rest := []) ⟨hx, hb, hml, hown, hts⟩ (kX1_hasFloor l dC dI g tt a0 w0 x1 (hw) (by omega)) (cwV 1 hts gX5_often_X1_hasFloor rfl rfl rfl (by decide +kernel) ⟨Nat.le_of_ble_eq_true rfl, Nat.le_of_ble_eq_true rfl⟩) (hP.sub (ws' := wHs g a0 w0) [1, 2, 3, 4, 5, 6, 7, 8, 9, 10] rfl) hK hT hS 0 1 rfl rfl rfl rfl hl.1 rfl (Nat.le_of_ble_eq_true rfl) dX5_often_5 ⟨Nat.le_of_ble_eq_true rfl, Nat.le_of_ble_eq_true rfl⟩ ?_
  refine q_bz_eq (tgt := 20) hx hb dX5_often_8 (by decide) (fun c_1 => ?_) (fun c_1 => ?_)
  · refine lv_aload_n hx hb dX5_often_20 rfl (lv_at hl 0 rfl) ?_
    refine q_bipush hx hb dX5_often_21 rfl ?_
    refine q_cEi (z := (-2)) (b := (ob 0)) (As := [.int (zI (-2))]) (rest := []) (w1 := wWW g ob a0 a1 a2 a3 q w0 w1 w2 w3 kp tx tz fa fb (rfu rf (-2))) ⟨hx, hb, hml, hown, hts⟩ hP hD hK hT hS hA (kX5_refuse l dC dI g tt _ ob a0 a1 a2 a3 q w0 w1 w2 w3 kp tx tz fa fb rf (-2) (by decide)) (cwV 1 hts gX5_often_X5_refuse rfl rfl rfl (by decide +kernel) ⟨Nat.le_of_ble_eq_true rfl, Nat.le_of_ble_eq_true rfl⟩) 0 4 rfl rfl rfl rfl hl.1 rfl (Nat.le_of_ble_eq_true rfl) dX5_often_23 ⟨Nat.le_of_ble_eq_true rfl, Nat.le_of_ble_eq_true rfl⟩ (fun H locs hP hD hS => ?_)
    have hPf : va_P (dC, dI) vwCl (wWW g ob a0 a1 a2 a3 q w0 w1 w2 w3 kp tx tz (cf_often w0 x1 x2 fa) (cg_often w0 x1 x2 fb) (rfa rf (cc_often w0 x1 x2))) H := by rw [(show (cf_often w0 x1 x2 fa) = fa from by unfold cf_often ofS ofN; (repeat' split) <;> first | rfl | (exfalso; omega)), (show (cg_often w0 x1 x2 fb) = fb from by unfold cg_often ofS ofN; (repeat' split) <;> first | rfl | (exfalso; omega)), (show (rfa rf (cc_often w0 x1 x2)) = rfu rf (-2) from by first | exact rfa_n (by unfold cc_often; rw [if_neg (by omega)]) (by decide) | (congr 1; unfold cc_often ofN; (repeat' split) <;> first | rfl | (exfalso; omega)))]; exact hP
    have hDf : va_D A (wWW g ob a0 a1 a2 a3 q w0 w1 w2 w3 kp tx tz (cf_often w0 x1 x2 fa) (cg_often w0 x1 x2 fb) (rfa rf (cc_often w0 x1 x2))) := by rw [(show (cf_often w0 x1 x2 fa) = fa from by unfold cf_often ofS ofN; (repeat' split) <;> first | rfl | (exfalso; omega)), (show (cg_often w0 x1 x2 fb) = fb from by unfold cg_often ofS ofN; (repeat' split) <;> first | rfl | (exfalso; omega)), (show (rfa rf (cc_often w0 x1 x2)) = rfu rf (-2) from by first | exact rfa_n (by unfold cc_often; rw [if_neg (by omega)]) (by decide) | (congr 1; unfold cc_often ofN; (repeat' split) <;> first | rfl | (exfalso; omega)))]; exact hD
    exact W.iret hx hb hr (fun t9 ht9 hW9 => ⟨⟨_, (), rfl, congrArg zI (show (-2) = ca_often w0 x1 x2 from by unfold ca_often ofS ofN; (repeat' split) <;> first | rfl | (exfalso; omega)), by rw [ht9]; exact hPf, va_K.moved hW9.alike hK, hDf⟩, hS.F ht9⟩) hS.2.2 dX5_often_26
  · refine lv_iload_n hx hb dX5_often_11 rfl (lv_at hl 2 rfl) ?_
    refine q_iconst hx hb dX5_often_12 ?_
    refine q_iconst hx hb dX5_often_13 ?_
    refine q_cSi (z := bz (0 ≤ x2 ∧ x2 ≤ 1)) (As := [.int (zI x2), .int (zI 0), .int (zI 1)]) (rest := []) ⟨hx, hb, hml, hown, hts⟩ (kX5_isWithin l dC dI g tt x2 0 1 (by omega)) (va_cwS 3 hts gX5_often_X5_isWithin rfl rfl rfl (by decide +kernel) ⟨Nat.le_of_ble_eq_true rfl, Nat.le_of_ble_eq_true rfl⟩) (hP.sub (ws' := []) [] rfl) hK hT hS rfl hl.1 rfl (Nat.le_of_ble_eq_true rfl) dX5_often_14 ⟨Nat.le_of_ble_eq_true rfl, Nat.le_of_ble_eq_true rfl⟩ ?_
    refine q_bz_ne (tgt := 27) hx hb dX5_often_17 (by decide) (fun c_2 => ?_) (fun c_2 => ?_)
    · refine lv_iload_n hx hb dX5_often_27 rfl (lv_at hl 2 rfl) ?_
      refine q_if_ne (tgt := 39) hx hb dX5_often_28 (by decide) (by omega) (fun c_3 => ?_) (fun c_3 => ?_)
      · refine lv_aload_n hx hb dX5_often_39 rfl (lv_at hl 0 rfl) ?_
        refine lv_iload_n hx hb dX5_often_40 rfl (lv_at hl 1 rfl) ?_
        refine q_iconst hx hb dX5_often_41 ?_
        refine q_cEi (z := mnA (mwS w0 x1 (-1)) (mwN w0 x1 (-1))) (b := (ob 0)) (As := [.int (zI x1), .int (zI (-1))]) (rest := []) (w1 := wWW g ob a0 a1 a2 a3 q w0 w1 w2 w3 kp tx tz (mnF (mwS w0 x1 (-1)) (mwN w0 x1 (-1)) fa) (mnG (mwS w0 x1 (-1)) (mwN w0 x1 (-1)) fb) (rfa rf (mnC (mwN w0 x1 (-1))))) ⟨hx, hb, hml, hown, hts⟩ hP hD hK hT hS hA (kX5_meanWait l dC dI g tt _ ob a0 a1 a2 a3 q w0 w1 w2 w3 kp tx tz fa fb rf x1 (-1) (hw) (by omega) (by omega)) (cwV 2 hts gX5_often_X5_meanWait rfl rfl rfl (by decide +kernel) ⟨Nat.le_of_ble_eq_true rfl, Nat.le_of_ble_eq_true rfl⟩) 0 4 rfl rfl rfl rfl hl.1 rfl (Nat.le_of_ble_eq_true rfl) dX5_often_42 ⟨Nat.le_of_ble_eq_true rfl, Nat.le_of_ble_eq_true rfl⟩ (fun H locs hP hD hS => ?_)
        have hPf : va_P (dC, dI) vwCl (wWW g ob a0 a1 a2 a3 q w0 w1 w2 w3 kp tx tz (cf_often w0 x1 x2 fa) (cg_often w0 x1 x2 fb) (rfa rf (cc_often w0 x1 x2))) H := by rw [(show (cf_often w0 x1 x2 fa) = mnF (mwS w0 x1 (-1)) (mwN w0 x1 (-1)) fa from by unfold cf_often ofS ofN; (repeat' split) <;> first | rfl | (exfalso; omega)), (show (cg_often w0 x1 x2 fb) = mnG (mwS w0 x1 (-1)) (mwN w0 x1 (-1)) fb from by unfold cg_often ofS ofN; (repeat' split) <;> first | rfl | (exfalso; omega)), (show (rfa rf (cc_often w0 x1 x2)) = rfa rf (mnC (mwN w0 x1 (-1))) from by first | exact rfa_n (by unfold cc_often; rw [if_neg (by omega)]) (by decide) | (congr 1; unfold cc_often ofN; (repeat' split) <;> first | rfl | (exfalso; omega)))]; exact hP
        have hDf : va_D A (wWW g ob a0 a1 a2 a3 q w0 w1 w2 w3 kp tx tz (cf_often w0 x1 x2 fa) (cg_often w0 x1 x2 fb) (rfa rf (cc_often w0 x1 x2))) := by rw [(show (cf_often w0 x1 x2 fa) = mnF (mwS w0 x1 (-1)) (mwN w0 x1 (-1)) fa from by unfold cf_often ofS ofN; (repeat' split) <;> first | rfl | (exfalso; omega)), (show (cg_often w0 x1 x2 fb) = mnG (mwS w0 x1 (-1)) (mwN w0 x1 (-1)) fb from by unfold cg_often ofS ofN; (repeat' split) <;> first | rfl | (exfalso; omega)), (show (rfa rf (cc_often w0 x1 x2)) = rfa rf (mnC (mwN w0 x1 (-1))) from by first | exact rfa_n (by unfold cc_often; rw [if_neg (by omega)]) (by decide) | (congr 1; unfold cc_often ofN; (repeat' split) <;> first | rfl | (exfalso; omega)))]; exact hD
        exact W.iret hx hb hr (fun t9 ht9 hW9 => ⟨⟨_, (), rfl, congrArg zI (show mnA (mwS w0 x1 (-1)) (mwN w0 x1 (-1)) = ca_often w0 x1 x2 from by unfold ca_often ofS ofN; (repeat' split) <;> first | rfl | (exfalso; omega)), by rw [ht9]; exact hPf, va_K.moved hW9.alike hK, hDf⟩, hS.F ht9⟩) hS.2.2 dX5_often_45
      · refine lv_aload_n hx hb dX5_often_31 rfl (lv_at hl 0 rfl) ?_
        refine lv_iload_n hx hb dX5_often_32 rfl (lv_at hl 1 rfl) ?_
        refine q_cEi (z := mnA (upS w0 x1) (upN w0 x1)) (b := (ob 0)) (As := [.int (zI x1)]) (rest := []) (w1 := wWW g ob a0 a1 a2 a3 q w0 w1 w2 w3 kp tx tz (mnF (upS w0 x1) (upN w0 x1) fa) (mnG (upS w0 x1) (upN w0 x1) fb) (rfa rf (mnC (upN w0 x1)))) ⟨hx, hb, hml, hown, hts⟩ hP hD hK hT hS hA (kX5_chanceOfUp l dC dI g tt _ ob a0 a1 a2 a3 q w0 w1 w2 w3 kp tx tz fa fb rf x1 (hw) (by omega)) (cwV 1 hts gX5_often_X5_chanceOfUp rfl rfl rfl (by decide +kernel) ⟨Nat.le_of_ble_eq_true rfl, Nat.le_of_ble_eq_true rfl⟩) 0 4 rfl rfl rfl rfl hl.1 rfl (Nat.le_of_ble_eq_true rfl) dX5_often_33 ⟨Nat.le_of_ble_eq_true rfl, Nat.le_of_ble_eq_true rfl⟩ (fun H locs hP hD hS => ?_)
        refine lv_goto (tgt := 45) hx hb dX5_often_36 (by decide) ?_
        have hPf : va_P (dC, dI) vwCl (wWW g ob a0 a1 a2 a3 q w0 w1 w2 w3 kp tx tz (cf_often w0 x1 x2 fa) (cg_often w0 x1 x2 fb) (rfa rf (cc_often w0 x1 x2))) H := by rw [(show (cf_often w0 x1 x2 fa) = mnF (upS w0 x1) (upN w0 x1) fa from by unfold cf_often ofS ofN; (repeat' split) <;> first | rfl | (exfalso; omega)), (show (cg_often w0 x1 x2 fb) = mnG (upS w0 x1) (upN w0 x1) fb from by unfold cg_often ofS ofN; (repeat' split) <;> first | rfl | (exfalso; omega)), (show (rfa rf (cc_often w0 x1 x2)) = rfa rf (mnC (upN w0 x1)) from by first | exact rfa_n (by unfold cc_often; rw [if_neg (by omega)]) (by decide) | (congr 1; unfold cc_often ofN; (repeat' split) <;> first | rfl | (exfalso; omega)))]; exact hP
        have hDf : va_D A (wWW g ob a0 a1 a2 a3 q w0 w1 w2 w3 kp tx tz (cf_often w0 x1 x2 fa) (cg_often w0 x1 x2 fb) (rfa rf (cc_often w0 x1 x2))) := by rw [(show (cf_often w0 x1 x2 fa) = mnF (upS w0 x1) (upN w0 x1) fa from by unfold cf_often ofS ofN; (repeat' split) <;> first | rfl | (exfalso; omega)), (show (cg_often w0 x1 x2 fb) = mnG (upS w0 x1) (upN w0 x1) fb from by unfold cg_often ofS ofN; (repeat' split) <;> first | rfl | (exfalso; omega)), (show (rfa rf (cc_often w0 x1 x2)) = rfa rf (mnC (upN w0 x1)) from by first | exact rfa_n (by unfold cc_often; rw [if_neg (by omega)]) (by decide) | (congr 1; unfold cc_often ofN; (repeat' split) <;> first | rfl | (exfalso; omega)))]; exact hD
        exact W.iret hx hb hr (fun t9 ht9 hW9 => ⟨⟨_, (), rfl, congrArg zI (show mnA (upS w0 x1) (upN w0 x1) = ca_often w0 x1 x2 from by unfold ca_often ofS ofN; (repeat' split) <;> first | rfl | (exfalso; omega)), by rw [ht9]; exact hPf, va_K.moved hW9.alike hK, hDf⟩, hS.F ht9⟩) hS.2.2 dX5_often_45
    · refine lv_aload_n hx hb dX5_often_20 rfl (lv_at hl 0 rfl) ?_
      refine q_bipush hx hb dX5_often_21 rfl ?_
      refine q_cEi (z := (-2)) (b := (ob 0)) (As := [.int (zI (-2))]) (rest := []) (w1 := wWW g ob a0 a1 a2 a3 q w0 w1 w2 w3 kp tx tz fa fb (rfu rf (-2))) ⟨hx, hb, hml, hown, hts⟩ hP hD hK hT hS hA (kX5_refuse l dC dI g tt _ ob a0 a1 a2 a3 q w0 w1 w2 w3 kp tx tz fa fb rf (-2) (by decide)) (cwV 1 hts gX5_often_X5_refuse rfl rfl rfl (by decide +kernel) ⟨Nat.le_of_ble_eq_true rfl, Nat.le_of_ble_eq_true rfl⟩) 0 4 rfl rfl rfl rfl hl.1 rfl (Nat.le_of_ble_eq_true rfl) dX5_often_23 ⟨Nat.le_of_ble_eq_true rfl, Nat.le_of_ble_eq_true rfl⟩ (fun H locs hP hD hS => ?_)
      have hPf : va_P (dC, dI) vwCl (wWW g ob a0 a1 a2 a3 q w0 w1 w2 w3 kp tx tz (cf_often w0 x1 x2 fa) (cg_often w0 x1 x2 fb) (rfa rf (cc_often w0 x1 x2))) H := by rw [(show (cf_often w0 x1 x2 fa) = fa from by unfold cf_often ofS ofN; (repeat' split) <;> first | rfl | (exfalso; omega)), (show (cg_often w0 x1 x2 fb) = fb from by unfold cg_often ofS ofN; (repeat' split) <;> first | rfl | (exfalso; omega)), (show (rfa rf (cc_often w0 x1 x2)) = rfu rf (-2) from by first | exact rfa_n (by unfold cc_often; rw [if_neg (by omega)]) (by decide) | (congr 1; unfold cc_often ofN; (repeat' split) <;> first | rfl | (exfalso; omega)))]; exact hP
      have hDf : va_D A (wWW g ob a0 a1 a2 a3 q w0 w1 w2 w3 kp tx tz (cf_often w0 x1 x2 fa) (cg_often w0 x1 x2 fb) (rfa rf (cc_often w0 x1 x2))) := by rw [(show (cf_often w0 x1 x2 fa) = fa from by unfold cf_often ofS ofN; (repeat' split) <;> first | rfl | (exfalso; omega)), (show (cg_often w0 x1 x2 fb) = fb from by unfold cg_often ofS ofN; (repeat' split) <;> first | rfl | (exfalso; omega)), (show (rfa rf (cc_often w0 x1 x2)) = rfu rf (-2) from by first | exact rfa_n (by unfold cc_often; rw [if_neg (by omega)]) (by decide) | (congr 1; unfold cc_often ofN; (repeat' split) <;> first | rfl | (exfalso; omega)))]; exact hD
      exact W.iret hx hb hr (fun t9 ht9 hW9 => ⟨⟨_, (), rfl, congrArg zI (show (-2) = ca_often w0 x1 x2 from by unfold ca_often ofS ofN; (repeat' split) <;> first | rfl | (exfalso; omega)), by rw [ht9]; exact hPf, va_K.moved hW9.alike hK, hDf⟩, hS.F ht9⟩) hS.2.2 dX5_often_26
set_option maxHeartbeats 4000000 in
set_option maxRecDepth 100000 in
theorem kX5_own (l : Launch) (dC : Nat → ClassId) (dI : Nat → Nat → Nat) (g : Nat → ClassId) (tt : Nat → Nat) (sz : Nat) (ob a0 a1 a2 a3 q : Nat → Nat) (w0 w1 w2 w3 kp tx tz : Int → Int) (fa fb : Int) (rf : Int → Int) (x1 x2 : Int) (hw : hok w0) (h1 : rI x1 ∧ rI x2) : Met l yX5_own wsX5_own ({ frames := 6, cells := 0, slots := 0, locals := 149 }) (va_Pc [.ref (ob 0), .int (zI x1), .int (zI x2)] (eQ (dC, dI) (wTy g) (wWW g ob a0 a1 a2 a3 q w0 w1 w2 w3 kp tx tz fa fb rf) tt sz)) (va_Qi (fun r (_ : Unit) => r = zI (ca_own w0 x1 x2)) (fQ (dC, dI) (wTy g) (va_A (wWW g ob a0 a1 a2 a3 q w0 w1 w2 w3 kp tx tz fa fb rf) sz) (wWW g ob a0 a1 a2 a3 q w0 w1 w2 w3 kp tx tz (cf_own w0 x1 x2 fa) (cg_own w0 x1 x2 fb) (rfa rf (cc_own w0 x1 x2)))) (va_A (wWW g ob a0 a1 a2 a3 q w0 w1 w2 w3 kp tx tz fa fb rf) sz)) 0 0 (va_A (wWW g ob a0 a1 a2 a3 q w0 w1 w2 w3 kp tx tz fa fb rf) sz) := by
  refine Met.ofW (cc := cX5_own) (maxL := 3) (ret := (some .int)) (by decide) rfl ?_
  intro p e s m args below meth c s₁ B hml hv
  obtain ⟨rfl, hsz, hP, hK, hD0, hT⟩ := hv
  have hx := B.exec
  have hb := B.bytes
  have hr := B.returns
  have hts := atoms_spec (ws := wsX5_own) B.pre
  have hown : s.vm.findClass RX5 = some m.cls := findClass_of_methodNamed B.named
  have hlocks := B.notSynchronized
  subst hsz
  have hD := hD0.self (sz := s.heap.size)
  generalize hAe : va_A (wWW g ob a0 a1 a2 a3 q w0 w1 w2 w3 kp tx tz fa fb rf) s.heap.size = A at hD hT ⊢
  have hA : ∀ q : Nat, s.heap.size ≤ q → A q := fun q h => by rw [← hAe]; exact Or.inr h
  have hS : va_S A s.heap s.heap [] := va_S.rf
  have hl := lv_entry ([.ref (ob 0), .int (zI x1), .int (zI x2)]) (n := 3) (Nat.le_of_ble_eq_true rfl)
  rw [lg_entry_eq]
  generalize (lg_sl ([.ref (ob 0), .int (zI x1), .int (zI x2)]) ++ List.replicate (3 - (lg_sl ([.ref (ob 0), .int (zI x1), .int (zI x2)])).length) Slot.unset).toArray = ls at hl ⊢
  have hl : lv_has ls 3 [(0, .ref (ob 0)), (1, .int (zI x1)), (2, .int (zI x2))] := hl
  have kf10 := hts (.fieldLink RX5 10 "WrongWay" "now" "LWrongWay$House;") (by decide +kernel)
  have iX5 := (fun w h => List.mem_cons_of_mem _ (List.mem_append_left _ (List.mem_append_left _ (List.mem_append_left _ (List.mem_append_right _ h)))) : ∀ w ∈ u_ws RX5 TX5 8, w ∈ wsX5_own)
  have hb0 := hw.b
  refine lv_aload_n hx hb dX5_own_0 rfl (lv_at hl 0 rfl) ?_
  refine va_get (D := (dC, dI)) (ci := 4) (v := .ref (a0 0)) (C := RX5) (T := TX5) (N := 8) hx hb hts iX5 hown hK hP 0 rfl rfl 0 (by decide) kf10 (fun _ h9 => h9) rfl dX5_own_1 ?_
  refine lv_iload_n hx hb dX5_own_4 rfl (lv_at hl 1 rfl) ?_
  refine q_cVi (z := bz (0 ≤ x1 ∧ x1 ≤ w0 1)) (b := (a0 0)) (As := [.int (zI x1)]) (rest := []) ⟨hx, hb, hml, hown, hts⟩ (kX1_hasFloor l dC dI g tt a0 w0 x1 (hw) (by omega)) (cwV 1 hts gX5_own_X1_hasFloor rfl rfl rfl (by decide +kernel) ⟨Nat.le_of_ble_eq_true rfl, Nat.le_of_ble_eq_true rfl⟩) (hP.sub (ws' := wHs g a0 w0) [1, 2, 3, 4, 5, 6, 7, 8, 9, 10] rfl) hK hT hS 0 1 rfl rfl rfl rfl hl.1 rfl (Nat.le_of_ble_eq_true rfl) dX5_own_5 ⟨Nat.le_of_ble_eq_true rfl, Nat.le_of_ble_eq_true rfl⟩ ?_
  refine q_bz_eq (tgt := 20) hx hb dX5_own_8 (by decide) (fun c_1 => ?_) (fun c_1 => ?_)
  · refine lv_aload_n hx hb dX5_own_20 rfl (lv_at hl 0 rfl) ?_
    refine q_bipush hx hb dX5_own_21 rfl ?_
    refine q_cEi (z := (-2)) (b := (ob 0)) (As := [.int (zI (-2))]) (rest := []) (w1 := wWW g ob a0 a1 a2 a3 q w0 w1 w2 w3 kp tx tz fa fb (rfu rf (-2))) ⟨hx, hb, hml, hown, hts⟩ hP hD hK hT hS hA (kX5_refuse l dC dI g tt _ ob a0 a1 a2 a3 q w0 w1 w2 w3 kp tx tz fa fb rf (-2) (by decide)) (cwV 1 hts gX5_own_X5_refuse rfl rfl rfl (by decide +kernel) ⟨Nat.le_of_ble_eq_true rfl, Nat.le_of_ble_eq_true rfl⟩) 0 4 rfl rfl rfl rfl hl.1 rfl (Nat.le_of_ble_eq_true rfl) dX5_own_23 ⟨Nat.le_of_ble_eq_true rfl, Nat.le_of_ble_eq_true rfl⟩ (fun H locs hP hD hS => ?_)
    have hPf : va_P (dC, dI) vwCl (wWW g ob a0 a1 a2 a3 q w0 w1 w2 w3 kp tx tz (cf_own w0 x1 x2 fa) (cg_own w0 x1 x2 fb) (rfa rf (cc_own w0 x1 x2))) H := by rw [(show (cf_own w0 x1 x2 fa) = fa from by unfold cf_own; (repeat' split) <;> first | rfl | (exfalso; omega)), (show (cg_own w0 x1 x2 fb) = fb from by unfold cg_own; (repeat' split) <;> first | rfl | (exfalso; omega)), (show (rfa rf (cc_own w0 x1 x2)) = rfu rf (-2) from by first | exact rfa_n (by unfold cc_own; rw [if_neg (by omega)]) (by decide) | (congr 1; unfold cc_own; (repeat' split) <;> first | rfl | (exfalso; omega)))]; exact hP
    have hDf : va_D A (wWW g ob a0 a1 a2 a3 q w0 w1 w2 w3 kp tx tz (cf_own w0 x1 x2 fa) (cg_own w0 x1 x2 fb) (rfa rf (cc_own w0 x1 x2))) := by rw [(show (cf_own w0 x1 x2 fa) = fa from by unfold cf_own; (repeat' split) <;> first | rfl | (exfalso; omega)), (show (cg_own w0 x1 x2 fb) = fb from by unfold cg_own; (repeat' split) <;> first | rfl | (exfalso; omega)), (show (rfa rf (cc_own w0 x1 x2)) = rfu rf (-2) from by first | exact rfa_n (by unfold cc_own; rw [if_neg (by omega)]) (by decide) | (congr 1; unfold cc_own; (repeat' split) <;> first | rfl | (exfalso; omega)))]; exact hD
    exact W.iret hx hb hr (fun t9 ht9 hW9 => ⟨⟨_, (), rfl, congrArg zI (show (-2) = ca_own w0 x1 x2 from by unfold ca_own; (repeat' split) <;> first | rfl | (exfalso; omega)), by rw [ht9]; exact hPf, va_K.moved hW9.alike hK, hDf⟩, hS.F ht9⟩) hS.2.2 dX5_own_26
  · refine lv_iload_n hx hb dX5_own_11 rfl (lv_at hl 2 rfl) ?_
    refine q_iconst hx hb dX5_own_12 ?_
    refine q_iconst hx hb dX5_own_13 ?_
    refine q_cSi (z := bz (0 ≤ x2 ∧ x2 ≤ 1)) (As := [.int (zI x2), .int (zI 0), .int (zI 1)]) (rest := []) ⟨hx, hb, hml, hown, hts⟩ (kX5_isWithin l dC dI g tt x2 0 1 (by omega)) (va_cwS 3 hts gX5_own_X5_isWithin rfl rfl rfl (by decide +kernel) ⟨Nat.le_of_ble_eq_true rfl, Nat.le_of_ble_eq_true rfl⟩) (hP.sub (ws' := []) [] rfl) hK hT hS rfl hl.1 rfl (Nat.le_of_ble_eq_true rfl) dX5_own_14 ⟨Nat.le_of_ble_eq_true rfl, Nat.le_of_ble_eq_true rfl⟩ ?_
    refine q_bz_ne (tgt := 27) hx hb dX5_own_17 (by decide) (fun c_2 => ?_) (fun c_2 => ?_)
    · refine lv_aload_n hx hb dX5_own_27 rfl (lv_at hl 0 rfl) ?_
      refine lv_iload_n hx hb dX5_own_28 rfl (lv_at hl 1 rfl) ?_
      refine lv_iload_n hx hb dX5_own_29 rfl (lv_at hl 2 rfl) ?_
      refine q_cEi (z := mnA (mwS w0 x1 x2) (mwN w0 x1 x2)) (b := (ob 0)) (As := [.int (zI x1), .int (zI x2)]) (rest := []) (w1 := wWW g ob a0 a1 a2 a3 q w0 w1 w2 w3 kp tx tz (mnF (mwS w0 x1 x2) (mwN w0 x1 x2) fa) (mnG (mwS w0 x1 x2) (mwN w0 x1 x2) fb) (rfa rf (mnC (mwN w0 x1 x2)))) ⟨hx, hb, hml, hown, hts⟩ hP hD hK hT hS hA (kX5_meanWait l dC dI g tt _ ob a0 a1 a2 a3 q w0 w1 w2 w3 kp tx tz fa fb rf x1 x2 (hw) (by omega) (by omega)) (cwV 2 hts gX5_own_X5_meanWait rfl rfl rfl (by decide +kernel) ⟨Nat.le_of_ble_eq_true rfl, Nat.le_of_ble_eq_true rfl⟩) 0 4 rfl rfl rfl rfl hl.1 rfl (Nat.le_of_ble_eq_true rfl) dX5_own_30 ⟨Nat.le_of_ble_eq_true rfl, Nat.le_of_ble_eq_true rfl⟩ (fun H locs hP hD hS => ?_)
      have hPf : va_P (dC, dI) vwCl (wWW g ob a0 a1 a2 a3 q w0 w1 w2 w3 kp tx tz (cf_own w0 x1 x2 fa) (cg_own w0 x1 x2 fb) (rfa rf (cc_own w0 x1 x2))) H := by rw [(show (cf_own w0 x1 x2 fa) = mnF (mwS w0 x1 x2) (mwN w0 x1 x2) fa from by unfold cf_own; (repeat' split) <;> first | rfl | (exfalso; omega)), (show (cg_own w0 x1 x2 fb) = mnG (mwS w0 x1 x2) (mwN w0 x1 x2) fb from by unfold cg_own; (repeat' split) <;> first | rfl | (exfalso; omega)), (show (rfa rf (cc_own w0 x1 x2)) = rfa rf (mnC (mwN w0 x1 x2)) from by first | exact rfa_n (by unfold cc_own; rw [if_neg (by omega)]) (by decide) | (congr 1; unfold cc_own; (repeat' split) <;> first | rfl | (exfalso; omega)))]; exact hP
      have hDf : va_D A (wWW g ob a0 a1 a2 a3 q w0 w1 w2 w3 kp tx tz (cf_own w0 x1 x2 fa) (cg_own w0 x1 x2 fb) (rfa rf (cc_own w0 x1 x2))) := by rw [(show (cf_own w0 x1 x2 fa) = mnF (mwS w0 x1 x2) (mwN w0 x1 x2) fa from by unfold cf_own; (repeat' split) <;> first | rfl | (exfalso; omega)), (show (cg_own w0 x1 x2 fb) = mnG (mwS w0 x1 x2) (mwN w0 x1 x2) fb from by unfold cg_own; (repeat' split) <;> first | rfl | (exfalso; omega)), (show (rfa rf (cc_own w0 x1 x2)) = rfa rf (mnC (mwN w0 x1 x2)) from by first | exact rfa_n (by unfold cc_own; rw [if_neg (by omega)]) (by decide) | (congr 1; unfold cc_own; (repeat' split) <;> first | rfl | (exfalso; omega)))]; exact hD
      exact W.iret hx hb hr (fun t9 ht9 hW9 => ⟨⟨_, (), rfl, congrArg zI (show mnA (mwS w0 x1 x2) (mwN w0 x1 x2) = ca_own w0 x1 x2 from by unfold ca_own; (repeat' split) <;> first | rfl | (exfalso; omega)), by rw [ht9]; exact hPf, va_K.moved hW9.alike hK, hDf⟩, hS.F ht9⟩) hS.2.2 dX5_own_33
    · refine lv_aload_n hx hb dX5_own_20 rfl (lv_at hl 0 rfl) ?_
      refine q_bipush hx hb dX5_own_21 rfl ?_
      refine q_cEi (z := (-2)) (b := (ob 0)) (As := [.int (zI (-2))]) (rest := []) (w1 := wWW g ob a0 a1 a2 a3 q w0 w1 w2 w3 kp tx tz fa fb (rfu rf (-2))) ⟨hx, hb, hml, hown, hts⟩ hP hD hK hT hS hA (kX5_refuse l dC dI g tt _ ob a0 a1 a2 a3 q w0 w1 w2 w3 kp tx tz fa fb rf (-2) (by decide)) (cwV 1 hts gX5_own_X5_refuse rfl rfl rfl (by decide +kernel) ⟨Nat.le_of_ble_eq_true rfl, Nat.le_of_ble_eq_true rfl⟩) 0 4 rfl rfl rfl rfl hl.1 rfl (Nat.le_of_ble_eq_true rfl) dX5_own_23 ⟨Nat.le_of_ble_eq_true rfl, Nat.le_of_ble_eq_true rfl⟩ (fun H locs hP hD hS => ?_)
      have hPf : va_P (dC, dI) vwCl (wWW g ob a0 a1 a2 a3 q w0 w1 w2 w3 kp tx tz (cf_own w0 x1 x2 fa) (cg_own w0 x1 x2 fb) (rfa rf (cc_own w0 x1 x2))) H := by rw [(show (cf_own w0 x1 x2 fa) = fa from by unfold cf_own; (repeat' split) <;> first | rfl | (exfalso; omega)), (show (cg_own w0 x1 x2 fb) = fb from by unfold cg_own; (repeat' split) <;> first | rfl | (exfalso; omega)), (show (rfa rf (cc_own w0 x1 x2)) = rfu rf (-2) from by first | exact rfa_n (by unfold cc_own; rw [if_neg (by omega)]) (by decide) | (congr 1; unfold cc_own; (repeat' split) <;> first | rfl | (exfalso; omega)))]; exact hP
      have hDf : va_D A (wWW g ob a0 a1 a2 a3 q w0 w1 w2 w3 kp tx tz (cf_own w0 x1 x2 fa) (cg_own w0 x1 x2 fb) (rfa rf (cc_own w0 x1 x2))) := by rw [(show (cf_own w0 x1 x2 fa) = fa from by unfold cf_own; (repeat' split) <;> first | rfl | (exfalso; omega)), (show (cg_own w0 x1 x2 fb) = fb from by unfold cg_own; (repeat' split) <;> first | rfl | (exfalso; omega)), (show (rfa rf (cc_own w0 x1 x2)) = rfu rf (-2) from by first | exact rfa_n (by unfold cc_own; rw [if_neg (by omega)]) (by decide) | (congr 1; unfold cc_own; (repeat' split) <;> first | rfl | (exfalso; omega)))]; exact hD
      exact W.iret hx hb hr (fun t9 ht9 hW9 => ⟨⟨_, (), rfl, congrArg zI (show (-2) = ca_own w0 x1 x2 from by unfold ca_own; (repeat' split) <;> first | rfl | (exfalso; omega)), by rw [ht9]; exact hPf, va_K.moved hW9.alike hK, hDf⟩, hS.F ht9⟩) hS.2.2 dX5_own_26
set_option maxHeartbeats 4000000 in
set_option maxRecDepth 100000 in
theorem kX5_ride (l : Launch) (dC : Nat → ClassId) (dI : Nat → Nat → Nat) (g : Nat → ClassId) (tt : Nat → Nat) (sz : Nat) (ob a0 a1 a2 a3 q : Nat → Nat) (w0 w1 w2 w3 kp tx tz : Int → Int) (fa fb : Int) (rf : Int → Int) (x1 x2 x3 x4 : Int) (hw : hok w0) (h1 : rI x1 ∧ rI x2 ∧ rI x3 ∧ rI x4) : Met l yX5_ride wsX5_ride ({ frames := 6, cells := 0, slots := 0, locals := 150 }) (va_Pc [.ref (ob 0), .int (zI x1), .int (zI x2), .int (zI x3), .int (zI x4)] (eQ (dC, dI) (wTy g) (wWW g ob a0 a1 a2 a3 q w0 w1 w2 w3 kp tx tz fa fb rf) tt sz)) (va_Qi (fun r (_ : Unit) => r = zI (ca_ride w0 x1 x2 x3 x4)) (fQ (dC, dI) (wTy g) (va_A (wWW g ob a0 a1 a2 a3 q w0 w1 w2 w3 kp tx tz fa fb rf) sz) (wWW g ob a0 a1 a2 a3 q w0 w1 w2 w3 kp tx tz fa fb (rfa rf (cc_ride w0 x1 x2 x3 x4)))) (va_A (wWW g ob a0 a1 a2 a3 q w0 w1 w2 w3 kp tx tz fa fb rf) sz)) 0 0 (va_A (wWW g ob a0 a1 a2 a3 q w0 w1 w2 w3 kp tx tz fa fb rf) sz) := by
  refine Met.ofW (cc := cX5_ride) (maxL := 6) (ret := (some .int)) (by decide) rfl ?_
  intro p e s m args below meth c s₁ B hml hv
  obtain ⟨rfl, hsz, hP, hK, hD0, hT⟩ := hv
  have hx := B.exec
  have hb := B.bytes
  have hr := B.returns
  have hts := atoms_spec (ws := wsX5_ride) B.pre
  have hown : s.vm.findClass RX5 = some m.cls := findClass_of_methodNamed B.named
  have hlocks := B.notSynchronized
  subst hsz
  have hD := hD0.self (sz := s.heap.size)
  generalize hAe : va_A (wWW g ob a0 a1 a2 a3 q w0 w1 w2 w3 kp tx tz fa fb rf) s.heap.size = A at hD hT ⊢
  have hA : ∀ q : Nat, s.heap.size ≤ q → A q := fun q h => by rw [← hAe]; exact Or.inr h
  have hS : va_S A s.heap s.heap [] := va_S.rf
  have hl := lv_entry ([.ref (ob 0), .int (zI x1), .int (zI x2), .int (zI x3), .int (zI x4)]) (n := 6) (Nat.le_of_ble_eq_true rfl)
  rw [lg_entry_eq]
  generalize (lg_sl ([.ref (ob 0), .int (zI x1), .int (zI x2), .int (zI x3), .int (zI x4)]) ++ List.replicate (6 - (lg_sl ([.ref (ob 0), .int (zI x1), .int (zI x2), .int (zI x3), .int (zI x4)])).length) Slot.unset).toArray = ls at hl ⊢
  have hl : lv_has ls 6 [(0, .ref (ob 0)), (1, .int (zI x1)), (2, .int (zI x2)), (3, .int (zI x3)), (4, .int (zI x4))] := hl
  have kf10 := hts (.fieldLink RX5 10 "WrongWay" "now" "LWrongWay$House;") (by decide +kernel)
  have kf32 := hts (.fieldLink RX5 32 "WrongWay" "watch" "LWrongWay$Watch;") (by decide +kernel)
  have iX5 := (fun w h => List.mem_cons_of_mem _ (List.mem_append_left _ (List.mem_append_left _ (List.mem_append_right _ h))) : ∀ w ∈ u_ws RX5 TX5 8, w ∈ wsX5_ride)
  have hb0 := hw.b
  refine lv_aload_n hx hb dX5_ride_0 rfl (lv_at hl 0 rfl) ?_
  refine va_get (D := (dC, dI)) (ci := 4) (v := .ref (a0 0)) (C := RX5) (T := TX5) (N := 8) hx hb hts iX5 hown hK hP 0 rfl rfl 0 (by decide) kf10 (fun _ h9 => h9) rfl dX5_ride_1 ?_
  refine lv_iload_n hx hb dX5_ride_4 rfl (lv_at hl 1 rfl) ?_
  refine q_cVi (z := bz (0 ≤ x1 ∧ x1 ≤ w0 1)) (b := (a0 0)) (As := [.int (zI x1)]) (rest := []) ⟨hx, hb, hml, hown, hts⟩ (kX1_hasFloor l dC dI g tt a0 w0 x1 (hw) (by omega)) (cwV 1 hts gX5_ride_X1_hasFloor rfl rfl rfl (by decide +kernel) ⟨Nat.le_of_ble_eq_true rfl, Nat.le_of_ble_eq_true rfl⟩) (hP.sub (ws' := wHs g a0 w0) [1, 2, 3, 4, 5, 6, 7, 8, 9, 10] rfl) hK hT hS 0 1 rfl rfl rfl rfl hl.1 rfl (Nat.le_of_ble_eq_true rfl) dX5_ride_5 ⟨Nat.le_of_ble_eq_true rfl, Nat.le_of_ble_eq_true rfl⟩ ?_
  refine q_bz_eq (tgt := 39) hx hb dX5_ride_8 (by decide) (fun c_1 => ?_) (fun c_1 => ?_)
  · refine lv_aload_n hx hb dX5_ride_39 rfl (lv_at hl 0 rfl) ?_
    refine q_bipush hx hb dX5_ride_40 rfl ?_
    refine q_cEi (z := (-2)) (b := (ob 0)) (As := [.int (zI (-2))]) (rest := []) (w1 := wWW g ob a0 a1 a2 a3 q w0 w1 w2 w3 kp tx tz fa fb (rfu rf (-2))) ⟨hx, hb, hml, hown, hts⟩ hP hD hK hT hS hA (kX5_refuse l dC dI g tt _ ob a0 a1 a2 a3 q w0 w1 w2 w3 kp tx tz fa fb rf (-2) (by decide)) (cwV 1 hts gX5_ride_X5_refuse rfl rfl rfl (by decide +kernel) ⟨Nat.le_of_ble_eq_true rfl, Nat.le_of_ble_eq_true rfl⟩) 0 4 rfl rfl rfl rfl hl.1 rfl (Nat.le_of_ble_eq_true rfl) dX5_ride_42 ⟨Nat.le_of_ble_eq_true rfl, Nat.le_of_ble_eq_true rfl⟩ (fun H locs hP hD hS => ?_)
    have hPf : va_P (dC, dI) vwCl (wWW g ob a0 a1 a2 a3 q w0 w1 w2 w3 kp tx tz fa fb (rfa rf (cc_ride w0 x1 x2 x3 x4))) H := by rw [(show (rfa rf (cc_ride w0 x1 x2 x3 x4)) = rfu rf (-2) from by first | exact rfa_0 (by unfold cc_ride; (repeat' split) <;> omega) | exact rfa_n (by unfold cc_ride; (repeat' split) <;> omega) (by decide))]; exact hP
    have hDf : va_D A (wWW g ob a0 a1 a2 a3 q w0 w1 w2 w3 kp tx tz fa fb (rfa rf (cc_ride w0 x1 x2 x3 x4))) := by rw [(show (rfa rf (cc_ride w0 x1 x2 x3 x4)) = rfu rf (-2) from by first | exact rfa_0 (by unfold cc_ride; (repeat' split) <;> omega) | exact rfa_n (by unfold cc_ride; (repeat' split) <;> omega) (by decide))]; exact hD
    exact W.iret hx hb hr (fun t9 ht9 hW9 => ⟨⟨_, (), rfl, congrArg zI (show (-2) = ca_ride w0 x1 x2 x3 x4 from by unfold ca_ride; (repeat' split) <;> first | rfl | (exfalso; omega)), by rw [ht9]; exact hPf, va_K.moved hW9.alike hK, hDf⟩, hS.F ht9⟩) hS.2.2 dX5_ride_45
  · refine lv_aload_n hx hb dX5_ride_11 rfl (lv_at hl 0 rfl) ?_
    refine va_get (D := (dC, dI)) (ci := 4) (v := .ref (a0 0)) (C := RX5) (T := TX5) (N := 8) hx hb hts iX5 hown hK hP 0 rfl rfl 0 (by decide) kf10 (fun _ h9 => h9) rfl dX5_ride_12 ?_
    refine lv_iload_n hx hb dX5_ride_15 rfl (lv_at hl 2 rfl) ?_
    refine q_cVi (z := bz (0 ≤ x2 ∧ x2 ≤ w0 1)) (b := (a0 0)) (As := [.int (zI x2)]) (rest := []) ⟨hx, hb, hml, hown, hts⟩ (kX1_hasFloor l dC dI g tt a0 w0 x2 (hw) (by omega)) (cwV 1 hts gX5_ride_X1_hasFloor rfl rfl rfl (by decide +kernel) ⟨Nat.le_of_ble_eq_true rfl, Nat.le_of_ble_eq_true rfl⟩) (hP.sub (ws' := wHs g a0 w0) [1, 2, 3, 4, 5, 6, 7, 8, 9, 10] rfl) hK hT hS 0 1 rfl rfl rfl rfl hl.1 rfl (Nat.le_of_ble_eq_true rfl) dX5_ride_16 ⟨Nat.le_of_ble_eq_true rfl, Nat.le_of_ble_eq_true rfl⟩ ?_
    refine q_bz_eq (tgt := 39) hx hb dX5_ride_19 (by decide) (fun c_2 => ?_) (fun c_2 => ?_)
    · refine lv_aload_n hx hb dX5_ride_39 rfl (lv_at hl 0 rfl) ?_
      refine q_bipush hx hb dX5_ride_40 rfl ?_
      refine q_cEi (z := (-2)) (b := (ob 0)) (As := [.int (zI (-2))]) (rest := []) (w1 := wWW g ob a0 a1 a2 a3 q w0 w1 w2 w3 kp tx tz fa fb (rfu rf (-2))) ⟨hx, hb, hml, hown, hts⟩ hP hD hK hT hS hA (kX5_refuse l dC dI g tt _ ob a0 a1 a2 a3 q w0 w1 w2 w3 kp tx tz fa fb rf (-2) (by decide)) (cwV 1 hts gX5_ride_X5_refuse rfl rfl rfl (by decide +kernel) ⟨Nat.le_of_ble_eq_true rfl, Nat.le_of_ble_eq_true rfl⟩) 0 4 rfl rfl rfl rfl hl.1 rfl (Nat.le_of_ble_eq_true rfl) dX5_ride_42 ⟨Nat.le_of_ble_eq_true rfl, Nat.le_of_ble_eq_true rfl⟩ (fun H locs hP hD hS => ?_)
      have hPf : va_P (dC, dI) vwCl (wWW g ob a0 a1 a2 a3 q w0 w1 w2 w3 kp tx tz fa fb (rfa rf (cc_ride w0 x1 x2 x3 x4))) H := by rw [(show (rfa rf (cc_ride w0 x1 x2 x3 x4)) = rfu rf (-2) from by first | exact rfa_0 (by unfold cc_ride; (repeat' split) <;> omega) | exact rfa_n (by unfold cc_ride; (repeat' split) <;> omega) (by decide))]; exact hP
      have hDf : va_D A (wWW g ob a0 a1 a2 a3 q w0 w1 w2 w3 kp tx tz fa fb (rfa rf (cc_ride w0 x1 x2 x3 x4))) := by rw [(show (rfa rf (cc_ride w0 x1 x2 x3 x4)) = rfu rf (-2) from by first | exact rfa_0 (by unfold cc_ride; (repeat' split) <;> omega) | exact rfa_n (by unfold cc_ride; (repeat' split) <;> omega) (by decide))]; exact hD
      exact W.iret hx hb hr (fun t9 ht9 hW9 => ⟨⟨_, (), rfl, congrArg zI (show (-2) = ca_ride w0 x1 x2 x3 x4 from by unfold ca_ride; (repeat' split) <;> first | rfl | (exfalso; omega)), by rw [ht9]; exact hPf, va_K.moved hW9.alike hK, hDf⟩, hS.F ht9⟩) hS.2.2 dX5_ride_45
    · refine lv_iload_n hx hb dX5_ride_22 rfl (lv_at hl 3 rfl) ?_
      refine q_cSi (z := bz (0 ≤ x3 ∧ x3 ≤ 999)) (As := [.int (zI x3)]) (rest := []) ⟨hx, hb, hml, hown, hts⟩ (kX5_isMinute l dC dI g tt x3 (by omega)) (va_cwS 1 hts gX5_ride_X5_isMinute rfl rfl rfl (by decide +kernel) ⟨Nat.le_of_ble_eq_true rfl, Nat.le_of_ble_eq_true rfl⟩) (hP.sub (ws' := []) [] rfl) hK hT hS rfl hl.1 rfl (Nat.le_of_ble_eq_true rfl) dX5_ride_23 ⟨Nat.le_of_ble_eq_true rfl, Nat.le_of_ble_eq_true rfl⟩ ?_
      refine q_bz_eq (tgt := 39) hx hb dX5_ride_26 (by decide) (fun c_3 => ?_) (fun c_3 => ?_)
      · refine lv_aload_n hx hb dX5_ride_39 rfl (lv_at hl 0 rfl) ?_
        refine q_bipush hx hb dX5_ride_40 rfl ?_
        refine q_cEi (z := (-2)) (b := (ob 0)) (As := [.int (zI (-2))]) (rest := []) (w1 := wWW g ob a0 a1 a2 a3 q w0 w1 w2 w3 kp tx tz fa fb (rfu rf (-2))) ⟨hx, hb, hml, hown, hts⟩ hP hD hK hT hS hA (kX5_refuse l dC dI g tt _ ob a0 a1 a2 a3 q w0 w1 w2 w3 kp tx tz fa fb rf (-2) (by decide)) (cwV 1 hts gX5_ride_X5_refuse rfl rfl rfl (by decide +kernel) ⟨Nat.le_of_ble_eq_true rfl, Nat.le_of_ble_eq_true rfl⟩) 0 4 rfl rfl rfl rfl hl.1 rfl (Nat.le_of_ble_eq_true rfl) dX5_ride_42 ⟨Nat.le_of_ble_eq_true rfl, Nat.le_of_ble_eq_true rfl⟩ (fun H locs hP hD hS => ?_)
        have hPf : va_P (dC, dI) vwCl (wWW g ob a0 a1 a2 a3 q w0 w1 w2 w3 kp tx tz fa fb (rfa rf (cc_ride w0 x1 x2 x3 x4))) H := by rw [(show (rfa rf (cc_ride w0 x1 x2 x3 x4)) = rfu rf (-2) from by first | exact rfa_0 (by unfold cc_ride; (repeat' split) <;> omega) | exact rfa_n (by unfold cc_ride; (repeat' split) <;> omega) (by decide))]; exact hP
        have hDf : va_D A (wWW g ob a0 a1 a2 a3 q w0 w1 w2 w3 kp tx tz fa fb (rfa rf (cc_ride w0 x1 x2 x3 x4))) := by rw [(show (rfa rf (cc_ride w0 x1 x2 x3 x4)) = rfu rf (-2) from by first | exact rfa_0 (by unfold cc_ride; (repeat' split) <;> omega) | exact rfa_n (by unfold cc_ride; (repeat' split) <;> omega) (by decide))]; exact hD
        exact W.iret hx hb hr (fun t9 ht9 hW9 => ⟨⟨_, (), rfl, congrArg zI (show (-2) = ca_ride w0 x1 x2 x3 x4 from by unfold ca_ride; (repeat' split) <;> first | rfl | (exfalso; omega)), by rw [ht9]; exact hPf, va_K.moved hW9.alike hK, hDf⟩, hS.F ht9⟩) hS.2.2 dX5_ride_45
      · refine lv_iload hx hb dX5_ride_29 (lv_at hl 4 rfl) ?_
        refine q_iconst hx hb dX5_ride_31 ?_
        refine q_iconst hx hb dX5_ride_32 ?_
        refine q_cSi (z := bz (0 ≤ x4 ∧ x4 ≤ 1)) (As := [.int (zI x4), .int (zI 0), .int (zI 1)]) (rest := []) ⟨hx, hb, hml, hown, hts⟩ (kX5_isWithin l dC dI g tt x4 0 1 (by omega)) (va_cwS 3 hts gX5_ride_X5_isWithin rfl rfl rfl (by decide +kernel) ⟨Nat.le_of_ble_eq_true rfl, Nat.le_of_ble_eq_true rfl⟩) (hP.sub (ws' := []) [] rfl) hK hT hS rfl hl.1 rfl (Nat.le_of_ble_eq_true rfl) dX5_ride_33 ⟨Nat.le_of_ble_eq_true rfl, Nat.le_of_ble_eq_true rfl⟩ ?_
        refine q_bz_ne (tgt := 46) hx hb dX5_ride_36 (by decide) (fun c_4 => ?_) (fun c_4 => ?_)
        · refine lv_iload_n hx hb dX5_ride_46 rfl (lv_at hl 2 rfl) ?_
          refine lv_iload_n hx hb dX5_ride_47 rfl (lv_at hl 1 rfl) ?_
          refine q_icmp_le (tgt := 55) hx hb dX5_ride_48 (by decide) (by omega) (fun c_5 => ?_) (fun c_5 => ?_)
          · refine q_iconst hx hb dX5_ride_55 ?_
            refine lv_istore (lv' := [(5, .int (zI 0)), (0, .ref (ob 0)), (1, .int (zI x1)), (2, .int (zI x2)), (3, .int (zI x3)), (4, .int (zI x4))]) hx hb dX5_ride_56 hl (by decide) rfl (fun ls hl => ?_)
            refine lv_aload_n hx hb dX5_ride_58 rfl (lv_at hl 1 rfl) ?_
            refine va_get (D := (dC, dI)) (ci := 4) (v := .ref (ob 3)) (C := RX5) (T := TX5) (N := 8) hx hb hts iX5 hown hK hP 0 rfl rfl 4 (by decide) kf32 (fun _ h9 => h9) rfl dX5_ride_59 ?_
            refine lv_iload_n hx hb dX5_ride_62 rfl (lv_at hl 2 rfl) ?_
            refine lv_iload_n hx hb dX5_ride_63 rfl (lv_at hl 3 rfl) ?_
            refine lv_iload_n hx hb dX5_ride_64 rfl (lv_at hl 4 rfl) ?_
            refine lv_iload hx hb dX5_ride_65 (lv_at hl 5 rfl) ?_
            refine q_if_ne (tgt := 74) hx hb dX5_ride_67 (by decide) (by omega) (fun c_6 => ?_) (fun c_6 => ?_)
            · refine lv_iload hx hb dX5_ride_74 (lv_at hl 0 rfl) ?_
              refine q_cVi (z := c_rd w0 x1 x2 x3 0) (b := (ob 3)) (As := [.int (zI x1), .int (zI x2), .int (zI x3), .int (zI 0)]) (rest := []) ⟨hx, hb, hml, hown, hts⟩ (kX4_rideTime l dC dI g tt (ob 3) a0 w0 x1 x2 x3 0 (hw) (by omega) (by omega) (by omega) (by omega)) (cwV 4 hts gX5_ride_X4_rideTime rfl rfl rfl (by decide +kernel) ⟨Nat.le_of_ble_eq_true rfl, Nat.le_of_ble_eq_true rfl⟩) (hP.sub (ws' := wWa g (ob 3) a0 w0) [43, 1, 2, 3, 4, 5, 6, 7, 8, 9, 10] rfl) hK hT hS 0 3 rfl rfl rfl rfl hl.1 rfl (Nat.le_of_ble_eq_true rfl) dX5_ride_76 ⟨Nat.le_of_ble_eq_true rfl, Nat.le_of_ble_eq_true rfl⟩ ?_
              have := c_rd_r w0 x1 x2 x3 0
              have hPf : va_P (dC, dI) vwCl (wWW g ob a0 a1 a2 a3 q w0 w1 w2 w3 kp tx tz fa fb (rfa rf (cc_ride w0 x1 x2 x3 x4))) s.heap := by rw [(show (rfa rf (cc_ride w0 x1 x2 x3 x4)) = rf from by first | exact rfa_0 (by unfold cc_ride; (repeat' split) <;> omega) | exact rfa_n (by unfold cc_ride; (repeat' split) <;> omega) (by decide))]; exact hP
              have hDf : va_D A (wWW g ob a0 a1 a2 a3 q w0 w1 w2 w3 kp tx tz fa fb (rfa rf (cc_ride w0 x1 x2 x3 x4))) := by rw [(show (rfa rf (cc_ride w0 x1 x2 x3 x4)) = rf from by first | exact rfa_0 (by unfold cc_ride; (repeat' split) <;> omega) | exact rfa_n (by unfold cc_ride; (repeat' split) <;> omega) (by decide))]; exact hD
              exact W.iret hx hb hr (fun t9 ht9 hW9 => ⟨⟨_, (), rfl, congrArg zI (show c_rd w0 x1 x2 x3 0 = ca_ride w0 x1 x2 x3 x4 from by unfold ca_ride; (repeat' split) <;> first | rfl | (exfalso; omega)), by rw [ht9]; exact hPf, va_K.moved hW9.alike hK, hDf⟩, hS.F ht9⟩) hS.2.2 dX5_ride_79
            · refine q_iconst hx hb dX5_ride_70 ?_
              refine lv_goto (tgt := 76) hx hb dX5_ride_71 (by decide) ?_
              refine q_cVi (z := c_rd w0 x1 x2 x3 (-1)) (b := (ob 3)) (As := [.int (zI x1), .int (zI x2), .int (zI x3), .int (zI (-1))]) (rest := []) ⟨hx, hb, hml, hown, hts⟩ (kX4_rideTime l dC dI g tt (ob 3) a0 w0 x1 x2 x3 (-1) (hw) (by omega) (by omega) (by omega) (by omega)) (cwV 4 hts gX5_ride_X4_rideTime rfl rfl rfl (by decide +kernel) ⟨Nat.le_of_ble_eq_true rfl, Nat.le_of_ble_eq_true rfl⟩) (hP.sub (ws' := wWa g (ob 3) a0 w0) [43, 1, 2, 3, 4, 5, 6, 7, 8, 9, 10] rfl) hK hT hS 0 3 rfl rfl rfl rfl hl.1 rfl (Nat.le_of_ble_eq_true rfl) dX5_ride_76 ⟨Nat.le_of_ble_eq_true rfl, Nat.le_of_ble_eq_true rfl⟩ ?_
              have := c_rd_r w0 x1 x2 x3 (-1)
              have hPf : va_P (dC, dI) vwCl (wWW g ob a0 a1 a2 a3 q w0 w1 w2 w3 kp tx tz fa fb (rfa rf (cc_ride w0 x1 x2 x3 x4))) s.heap := by rw [(show (rfa rf (cc_ride w0 x1 x2 x3 x4)) = rf from by first | exact rfa_0 (by unfold cc_ride; (repeat' split) <;> omega) | exact rfa_n (by unfold cc_ride; (repeat' split) <;> omega) (by decide))]; exact hP
              have hDf : va_D A (wWW g ob a0 a1 a2 a3 q w0 w1 w2 w3 kp tx tz fa fb (rfa rf (cc_ride w0 x1 x2 x3 x4))) := by rw [(show (rfa rf (cc_ride w0 x1 x2 x3 x4)) = rf from by first | exact rfa_0 (by unfold cc_ride; (repeat' split) <;> omega) | exact rfa_n (by unfold cc_ride; (repeat' split) <;> omega) (by decide))]; exact hD
              exact W.iret hx hb hr (fun t9 ht9 hW9 => ⟨⟨_, (), rfl, congrArg zI (show c_rd w0 x1 x2 x3 (-1) = ca_ride w0 x1 x2 x3 x4 from by unfold ca_ride; (repeat' split) <;> first | rfl | (exfalso; omega)), by rw [ht9]; exact hPf, va_K.moved hW9.alike hK, hDf⟩, hS.F ht9⟩) hS.2.2 dX5_ride_79
          · refine q_iconst hx hb dX5_ride_51 ?_
            refine lv_goto (tgt := 56) hx hb dX5_ride_52 (by decide) ?_
            refine lv_istore (lv' := [(5, .int (zI 1)), (0, .ref (ob 0)), (1, .int (zI x1)), (2, .int (zI x2)), (3, .int (zI x3)), (4, .int (zI x4))]) hx hb dX5_ride_56 hl (by decide) rfl (fun ls hl => ?_)
            refine lv_aload_n hx hb dX5_ride_58 rfl (lv_at hl 1 rfl) ?_
            refine va_get (D := (dC, dI)) (ci := 4) (v := .ref (ob 3)) (C := RX5) (T := TX5) (N := 8) hx hb hts iX5 hown hK hP 0 rfl rfl 4 (by decide) kf32 (fun _ h9 => h9) rfl dX5_ride_59 ?_
            refine lv_iload_n hx hb dX5_ride_62 rfl (lv_at hl 2 rfl) ?_
            refine lv_iload_n hx hb dX5_ride_63 rfl (lv_at hl 3 rfl) ?_
            refine lv_iload_n hx hb dX5_ride_64 rfl (lv_at hl 4 rfl) ?_
            refine lv_iload hx hb dX5_ride_65 (lv_at hl 5 rfl) ?_
            refine q_if_ne (tgt := 74) hx hb dX5_ride_67 (by decide) (by omega) (fun c_7 => ?_) (fun c_7 => ?_)
            · refine lv_iload hx hb dX5_ride_74 (lv_at hl 0 rfl) ?_
              refine q_cVi (z := c_rd w0 x1 x2 x3 1) (b := (ob 3)) (As := [.int (zI x1), .int (zI x2), .int (zI x3), .int (zI 1)]) (rest := []) ⟨hx, hb, hml, hown, hts⟩ (kX4_rideTime l dC dI g tt (ob 3) a0 w0 x1 x2 x3 1 (hw) (by omega) (by omega) (by omega) (by omega)) (cwV 4 hts gX5_ride_X4_rideTime rfl rfl rfl (by decide +kernel) ⟨Nat.le_of_ble_eq_true rfl, Nat.le_of_ble_eq_true rfl⟩) (hP.sub (ws' := wWa g (ob 3) a0 w0) [43, 1, 2, 3, 4, 5, 6, 7, 8, 9, 10] rfl) hK hT hS 0 3 rfl rfl rfl rfl hl.1 rfl (Nat.le_of_ble_eq_true rfl) dX5_ride_76 ⟨Nat.le_of_ble_eq_true rfl, Nat.le_of_ble_eq_true rfl⟩ ?_
              have := c_rd_r w0 x1 x2 x3 1
              have hPf : va_P (dC, dI) vwCl (wWW g ob a0 a1 a2 a3 q w0 w1 w2 w3 kp tx tz fa fb (rfa rf (cc_ride w0 x1 x2 x3 x4))) s.heap := by rw [(show (rfa rf (cc_ride w0 x1 x2 x3 x4)) = rf from by first | exact rfa_0 (by unfold cc_ride; (repeat' split) <;> omega) | exact rfa_n (by unfold cc_ride; (repeat' split) <;> omega) (by decide))]; exact hP
              have hDf : va_D A (wWW g ob a0 a1 a2 a3 q w0 w1 w2 w3 kp tx tz fa fb (rfa rf (cc_ride w0 x1 x2 x3 x4))) := by rw [(show (rfa rf (cc_ride w0 x1 x2 x3 x4)) = rf from by first | exact rfa_0 (by unfold cc_ride; (repeat' split) <;> omega) | exact rfa_n (by unfold cc_ride; (repeat' split) <;> omega) (by decide))]; exact hD
              exact W.iret hx hb hr (fun t9 ht9 hW9 => ⟨⟨_, (), rfl, congrArg zI (show c_rd w0 x1 x2 x3 1 = ca_ride w0 x1 x2 x3 x4 from by unfold ca_ride; (repeat' split) <;> first | rfl | (exfalso; omega)), by rw [ht9]; exact hPf, va_K.moved hW9.alike hK, hDf⟩, hS.F ht9⟩) hS.2.2 dX5_ride_79
            · refine q_iconst hx hb dX5_ride_70 ?_
              refine lv_goto (tgt := 76) hx hb dX5_ride_71 (by decide) ?_
              refine q_cVi (z := c_rd w0 x1 x2 x3 (-1)) (b := (ob 3)) (As := [.int (zI x1), .int (zI x2), .int (zI x3), .int (zI (-1))]) (rest := []) ⟨hx, hb, hml, hown, hts⟩ (kX4_rideTime l dC dI g tt (ob 3) a0 w0 x1 x2 x3 (-1) (hw) (by omega) (by omega) (by omega) (by omega)) (cwV 4 hts gX5_ride_X4_rideTime rfl rfl rfl (by decide +kernel) ⟨Nat.le_of_ble_eq_true rfl, Nat.le_of_ble_eq_true rfl⟩) (hP.sub (ws' := wWa g (ob 3) a0 w0) [43, 1, 2, 3, 4, 5, 6, 7, 8, 9, 10] rfl) hK hT hS 0 3 rfl rfl rfl rfl hl.1 rfl (Nat.le_of_ble_eq_true rfl) dX5_ride_76 ⟨Nat.le_of_ble_eq_true rfl, Nat.le_of_ble_eq_true rfl⟩ ?_
              have := c_rd_r w0 x1 x2 x3 (-1)
              have hPf : va_P (dC, dI) vwCl (wWW g ob a0 a1 a2 a3 q w0 w1 w2 w3 kp tx tz fa fb (rfa rf (cc_ride w0 x1 x2 x3 x4))) s.heap := by rw [(show (rfa rf (cc_ride w0 x1 x2 x3 x4)) = rf from by first | exact rfa_0 (by unfold cc_ride; (repeat' split) <;> omega) | exact rfa_n (by unfold cc_ride; (repeat' split) <;> omega) (by decide))]; exact hP
              have hDf : va_D A (wWW g ob a0 a1 a2 a3 q w0 w1 w2 w3 kp tx tz fa fb (rfa rf (cc_ride w0 x1 x2 x3 x4))) := by rw [(show (rfa rf (cc_ride w0 x1 x2 x3 x4)) = rf from by first | exact rfa_0 (by unfold cc_ride; (repeat' split) <;> omega) | exact rfa_n (by unfold cc_ride; (repeat' split) <;> omega) (by decide))]; exact hD
              exact W.iret hx hb hr (fun t9 ht9 hW9 => ⟨⟨_, (), rfl, congrArg zI (show c_rd w0 x1 x2 x3 (-1) = ca_ride w0 x1 x2 x3 x4 from by unfold ca_ride; (repeat' split) <;> first | rfl | (exfalso; omega)), by rw [ht9]; exact hPf, va_K.moved hW9.alike hK, hDf⟩, hS.F ht9⟩) hS.2.2 dX5_ride_79
        · refine lv_aload_n hx hb dX5_ride_39 rfl (lv_at hl 0 rfl) ?_
          refine q_bipush hx hb dX5_ride_40 rfl ?_
          refine q_cEi (z := (-2)) (b := (ob 0)) (As := [.int (zI (-2))]) (rest := []) (w1 := wWW g ob a0 a1 a2 a3 q w0 w1 w2 w3 kp tx tz fa fb (rfu rf (-2))) ⟨hx, hb, hml, hown, hts⟩ hP hD hK hT hS hA (kX5_refuse l dC dI g tt _ ob a0 a1 a2 a3 q w0 w1 w2 w3 kp tx tz fa fb rf (-2) (by decide)) (cwV 1 hts gX5_ride_X5_refuse rfl rfl rfl (by decide +kernel) ⟨Nat.le_of_ble_eq_true rfl, Nat.le_of_ble_eq_true rfl⟩) 0 4 rfl rfl rfl rfl hl.1 rfl (Nat.le_of_ble_eq_true rfl) dX5_ride_42 ⟨Nat.le_of_ble_eq_true rfl, Nat.le_of_ble_eq_true rfl⟩ (fun H locs hP hD hS => ?_)
          have hPf : va_P (dC, dI) vwCl (wWW g ob a0 a1 a2 a3 q w0 w1 w2 w3 kp tx tz fa fb (rfa rf (cc_ride w0 x1 x2 x3 x4))) H := by rw [(show (rfa rf (cc_ride w0 x1 x2 x3 x4)) = rfu rf (-2) from by first | exact rfa_0 (by unfold cc_ride; (repeat' split) <;> omega) | exact rfa_n (by unfold cc_ride; (repeat' split) <;> omega) (by decide))]; exact hP
          have hDf : va_D A (wWW g ob a0 a1 a2 a3 q w0 w1 w2 w3 kp tx tz fa fb (rfa rf (cc_ride w0 x1 x2 x3 x4))) := by rw [(show (rfa rf (cc_ride w0 x1 x2 x3 x4)) = rfu rf (-2) from by first | exact rfa_0 (by unfold cc_ride; (repeat' split) <;> omega) | exact rfa_n (by unfold cc_ride; (repeat' split) <;> omega) (by decide))]; exact hD
          exact W.iret hx hb hr (fun t9 ht9 hW9 => ⟨⟨_, (), rfl, congrArg zI (show (-2) = ca_ride w0 x1 x2 x3 x4 from by unfold ca_ride; (repeat' split) <;> first | rfl | (exfalso; omega)), by rw [ht9]; exact hPf, va_K.moved hW9.alike hK, hDf⟩, hS.F ht9⟩) hS.2.2 dX5_ride_45
