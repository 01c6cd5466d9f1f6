set_option maxHeartbeats 4000000 in
set_option maxRecDepth 100000 in
theorem kX5_porters (l : Launch) (dC : Nat → ClassId) (dI : Nat → Nat → Nat) (g : Nat → ClassId) (tt : Nat → Nat) (sz : Nat) (ob a0 a1 a2 a3 q : Nat → Nat) (w0 w1 w2 w3 kp tx tz : Int → Int) (fa fb : Int) (rf : Int → Int) (x1 x2 x3 x4 : Int) (hw : hok w0) (h1 : rI x1 ∧ rI x2 ∧ rI x3 ∧ rI x4) : Met l yX5_porters wsX5_porters ({ frames := 4, cells := 0, slots := 0, locals := 96 }) (va_Pc [.ref (ob 0), .int (zI x1), .int (zI x2), .int (zI x3), .int (zI x4)] (eQ (dC, dI) (wTy g) (wWW g ob a0 a1 a2 a3 q w0 w1 w2 w3 kp tx tz fa fb rf) tt sz)) (va_Qi (fun r (_ : Unit) => r = zI (ca_po w0 x1 x2 x3 x4)) (fQ (dC, dI) (wTy g) (va_A (wWW g ob a0 a1 a2 a3 q w0 w1 w2 w3 kp tx tz fa fb rf) sz) (wWW g ob a0 a1 a2 a3 q w0 w1 w2 w3 kp tx tz (cf_po w0 x1 x2 x3 x4 fa) (cg_po w0 x1 x2 x3 x4 fb) (rfa rf (cc_po w0 x1 x2 x3 x4)))) (va_A (wWW g ob a0 a1 a2 a3 q w0 w1 w2 w3 kp tx tz fa fb rf) sz)) 0 0 (va_A (wWW g ob a0 a1 a2 a3 q w0 w1 w2 w3 kp tx tz fa fb rf) sz) := by
  refine Met.ofW (cc := cX5_porters) (maxL := 11) (ret := (some .int)) (by decide) rfl ?_
  intro p e s m args below meth c s₁ B hml hv
  obtain ⟨rfl, hsz, hP, hK, hD0, hT⟩ := hv
  have hx := B.exec
  have hb := B.bytes
  have hr := B.returns
  have hts := atoms_spec (ws := wsX5_porters) B.pre
  have hown : s.vm.findClass RX5 = some m.cls := findClass_of_methodNamed B.named
  have hlocks := B.notSynchronized
  subst hsz
  have hD := hD0.self (sz := s.heap.size)
  generalize hAe : va_A (wWW g ob a0 a1 a2 a3 q w0 w1 w2 w3 kp tx tz fa fb rf) s.heap.size = A at hD hT ⊢
  have hA : ∀ q : Nat, s.heap.size ≤ q → A q := fun q h => by rw [← hAe]; exact Or.inr h
  have hS : va_S A s.heap s.heap [] := va_S.rf
  have hl := lv_entry ([.ref (ob 0), .int (zI x1), .int (zI x2), .int (zI x3), .int (zI x4)]) (n := 11) (Nat.le_of_ble_eq_true rfl)
  rw [lg_entry_eq]
  generalize (lg_sl ([.ref (ob 0), .int (zI x1), .int (zI x2), .int (zI x3), .int (zI x4)]) ++ List.replicate (11 - (lg_sl ([.ref (ob 0), .int (zI x1), .int (zI x2), .int (zI x3), .int (zI x4)])).length) Slot.unset).toArray = ls at hl ⊢
  have hl : lv_has ls 11 [(0, .ref (ob 0)), (1, .int (zI x1)), (2, .int (zI x2)), (3, .int (zI x3)), (4, .int (zI x4))] := hl
  have kc199 := hts (.constantLong RX5 199 (10)) (by decide +kernel)
  have kf10 := hts (.fieldLink RX5 10 "WrongWay" "now" "LWrongWay$House;") (by decide +kernel)
  have kf32 := hts (.fieldLink RX5 32 "WrongWay" "watch" "LWrongWay$Watch;") (by decide +kernel)
  have kf46 := hts (.fieldLink RX5 46 "WrongWay" "fraction" "LWrongWay$Fraction;") (by decide +kernel)
  have kf62 := hts (.fieldLink RX5 62 "WrongWay$House" "lifts" "I") (by decide +kernel)
  have iX1 := (fun w h => List.mem_cons_of_mem _ (List.mem_append_left _ (List.mem_append_left _ (List.mem_append_right _ h))) : ∀ w ∈ u_ws RX1 TX1 14, w ∈ wsX5_porters)
  have iX5 := (fun w h => List.mem_cons_of_mem _ (List.mem_append_left _ (List.mem_append_left _ (List.mem_append_left _ (List.mem_append_right _ h)))) : ∀ w ∈ u_ws RX5 TX5 8, w ∈ wsX5_porters)
  have hb0 := hw.b
  refine lv_aload_n hx hb dX5_porters_0 rfl (lv_at hl 0 rfl) ?_
  refine va_get (D := (dC, dI)) (ci := 4) (v := .ref (a0 0)) (C := RX5) (T := TX5) (N := 8) hx hb hts iX5 hown hK hP 0 rfl rfl 0 (by decide) kf10 (fun _ h9 => h9) rfl dX5_porters_1 ?_
  refine lv_iload_n hx hb dX5_porters_4 rfl (lv_at hl 1 rfl) ?_
  refine q_cVi (z := bz (0 ≤ x1 ∧ x1 ≤ w0 1)) (b := (a0 0)) (As := [.int (zI x1)]) (rest := []) ⟨hx, hb, hml, hown, hts⟩ (kX1_hasFloor l dC dI g tt a0 w0 x1 (hw) (by omega)) (cwV 1 hts gX5_porters_X1_hasFloor rfl rfl rfl (by decide +kernel) ⟨Nat.le_of_ble_eq_true rfl, Nat.le_of_ble_eq_true rfl⟩) (hP.sub (ws' := wHs g a0 w0) [1, 2, 3, 4, 5, 6, 7, 8, 9, 10] rfl) hK hT hS 0 1 rfl rfl rfl rfl hl.1 rfl (Nat.le_of_ble_eq_true rfl) dX5_porters_5 ⟨Nat.le_of_ble_eq_true rfl, Nat.le_of_ble_eq_true rfl⟩ ?_
  refine q_bz_eq (tgt := 40) hx hb dX5_porters_8 (by decide) (fun c_1 => ?_) (fun c_1 => ?_)
  · refine lv_aload_n hx hb dX5_porters_40 rfl (lv_at hl 0 rfl) ?_
    refine q_bipush hx hb dX5_porters_41 rfl ?_
    refine q_cEi (z := (-2)) (b := (ob 0)) (As := [.int (zI (-2))]) (rest := []) (w1 := wWW g ob a0 a1 a2 a3 q w0 w1 w2 w3 kp tx tz fa fb (rfu rf (-2))) ⟨hx, hb, hml, hown, hts⟩ hP hD hK hT hS hA (kX5_refuse l dC dI g tt _ ob a0 a1 a2 a3 q w0 w1 w2 w3 kp tx tz fa fb rf (-2) (by decide)) (cwV 1 hts gX5_porters_X5_refuse rfl rfl rfl (by decide +kernel) ⟨Nat.le_of_ble_eq_true rfl, Nat.le_of_ble_eq_true rfl⟩) 0 4 rfl rfl rfl rfl hl.1 rfl (Nat.le_of_ble_eq_true rfl) dX5_porters_43 ⟨Nat.le_of_ble_eq_true rfl, Nat.le_of_ble_eq_true rfl⟩ (fun H locs hP hD hS => ?_)
    have hPf : va_P (dC, dI) vwCl (wWW g ob a0 a1 a2 a3 q w0 w1 w2 w3 kp tx tz (cf_po w0 x1 x2 x3 x4 fa) (cg_po w0 x1 x2 x3 x4 fb) (rfa rf (cc_po w0 x1 x2 x3 x4))) H := by rw [(show (cf_po w0 x1 x2 x3 x4 fa) = fa from by first | (unfold cf_po; rw [if_neg (by omega)]; done) | (unfold cf_po fsA; rw [if_pos (by omega), show w0 0 = k by omega, ← hs]; try rfl)), (show (cg_po w0 x1 x2 x3 x4 fb) = fb from by first | (unfold cg_po; rw [if_neg (by omega)]; done) | (unfold cg_po fsB; rw [if_pos (by omega), show w0 0 = k by omega, ← hs]; try rfl)), (show (rfa rf (cc_po w0 x1 x2 x3 x4)) = rfu rf (-2) from by first | exact rfa_0 (by unfold cc_po; (repeat' split) <;> omega) | exact rfa_n (by unfold cc_po; (repeat' split) <;> omega) (by decide))]; exact hP
    have hDf : va_D A (wWW g ob a0 a1 a2 a3 q w0 w1 w2 w3 kp tx tz (cf_po w0 x1 x2 x3 x4 fa) (cg_po w0 x1 x2 x3 x4 fb) (rfa rf (cc_po w0 x1 x2 x3 x4))) := by rw [(show (cf_po w0 x1 x2 x3 x4 fa) = fa from by first | (unfold cf_po; rw [if_neg (by omega)]; done) | (unfold cf_po fsA; rw [if_pos (by omega), show w0 0 = k by omega, ← hs]; try rfl)), (show (cg_po w0 x1 x2 x3 x4 fb) = fb from by first | (unfold cg_po; rw [if_neg (by omega)]; done) | (unfold cg_po fsB; rw [if_pos (by omega), show w0 0 = k by omega, ← hs]; try rfl)), (show (rfa rf (cc_po w0 x1 x2 x3 x4)) = rfu rf (-2) from by first | exact rfa_0 (by unfold cc_po; (repeat' split) <;> omega) | exact rfa_n (by unfold cc_po; (repeat' split) <;> omega) (by decide))]; exact hD
    exact W.iret hx hb hr (fun t9 ht9 hW9 => ⟨⟨_, (), rfl, congrArg zI (show (-2) = ca_po w0 x1 x2 x3 x4 from by unfold ca_po; (repeat' split) <;> first | rfl | omega | (exfalso; omega)), by rw [ht9]; exact hPf, va_K.moved hW9.alike hK, hDf⟩, hS.F ht9⟩) hS.2.2 dX5_porters_46
  · refine lv_iload_n hx hb dX5_porters_11 rfl (lv_at hl 2 rfl) ?_
    refine q_cSi (z := bz (0 ≤ x2 ∧ x2 ≤ 999)) (As := [.int (zI x2)]) (rest := []) ⟨hx, hb, hml, hown, hts⟩ (kX5_isMinute l dC dI g tt x2 (by omega)) (va_cwS 1 hts gX5_porters_X5_isMinute rfl rfl rfl (by decide +kernel) ⟨Nat.le_of_ble_eq_true rfl, Nat.le_of_ble_eq_true rfl⟩) (hP.sub (ws' := []) [] rfl) hK hT hS rfl hl.1 rfl (Nat.le_of_ble_eq_true rfl) dX5_porters_12 ⟨Nat.le_of_ble_eq_true rfl, Nat.le_of_ble_eq_true rfl⟩ ?_
    refine q_bz_eq (tgt := 40) hx hb dX5_porters_15 (by decide) (fun c_2 => ?_) (fun c_2 => ?_)
    · refine lv_aload_n hx hb dX5_porters_40 rfl (lv_at hl 0 rfl) ?_
      refine q_bipush hx hb dX5_porters_41 rfl ?_
      refine q_cEi (z := (-2)) (b := (ob 0)) (As := [.int (zI (-2))]) (rest := []) (w1 := wWW g ob a0 a1 a2 a3 q w0 w1 w2 w3 kp tx tz fa fb (rfu rf (-2))) ⟨hx, hb, hml, hown, hts⟩ hP hD hK hT hS hA (kX5_refuse l dC dI g tt _ ob a0 a1 a2 a3 q w0 w1 w2 w3 kp tx tz fa fb rf (-2) (by decide)) (cwV 1 hts gX5_porters_X5_refuse rfl rfl rfl (by decide +kernel) ⟨Nat.le_of_ble_eq_true rfl, Nat.le_of_ble_eq_true rfl⟩) 0 4 rfl rfl rfl rfl hl.1 rfl (Nat.le_of_ble_eq_true rfl) dX5_porters_43 ⟨Nat.le_of_ble_eq_true rfl, Nat.le_of_ble_eq_true rfl⟩ (fun H locs hP hD hS => ?_)
      have hPf : va_P (dC, dI) vwCl (wWW g ob a0 a1 a2 a3 q w0 w1 w2 w3 kp tx tz (cf_po w0 x1 x2 x3 x4 fa) (cg_po w0 x1 x2 x3 x4 fb) (rfa rf (cc_po w0 x1 x2 x3 x4))) H := by rw [(show (cf_po w0 x1 x2 x3 x4 fa) = fa from by first | (unfold cf_po; rw [if_neg (by omega)]; done) | (unfold cf_po fsA; rw [if_pos (by omega), show w0 0 = k by omega, ← hs]; try rfl)), (show (cg_po w0 x1 x2 x3 x4 fb) = fb from by first | (unfold cg_po; rw [if_neg (by omega)]; done) | (unfold cg_po fsB; rw [if_pos (by omega), show w0 0 = k by omega, ← hs]; try rfl)), (show (rfa rf (cc_po w0 x1 x2 x3 x4)) = rfu rf (-2) from by first | exact rfa_0 (by unfold cc_po; (repeat' split) <;> omega) | exact rfa_n (by unfold cc_po; (repeat' split) <;> omega) (by decide))]; exact hP
      have hDf : va_D A (wWW g ob a0 a1 a2 a3 q w0 w1 w2 w3 kp tx tz (cf_po w0 x1 x2 x3 x4 fa) (cg_po w0 x1 x2 x3 x4 fb) (rfa rf (cc_po w0 x1 x2 x3 x4))) := by rw [(show (cf_po w0 x1 x2 x3 x4 fa) = fa from by first | (unfold cf_po; rw [if_neg (by omega)]; done) | (unfold cf_po fsA; rw [if_pos (by omega), show w0 0 = k by omega, ← hs]; try rfl)), (show (cg_po w0 x1 x2 x3 x4 fb) = fb from by first | (unfold cg_po; rw [if_neg (by omega)]; done) | (unfold cg_po fsB; rw [if_pos (by omega), show w0 0 = k by omega, ← hs]; try rfl)), (show (rfa rf (cc_po w0 x1 x2 x3 x4)) = rfu rf (-2) from by first | exact rfa_0 (by unfold cc_po; (repeat' split) <;> omega) | exact rfa_n (by unfold cc_po; (repeat' split) <;> omega) (by decide))]; exact hD
      exact W.iret hx hb hr (fun t9 ht9 hW9 => ⟨⟨_, (), rfl, congrArg zI (show (-2) = ca_po w0 x1 x2 x3 x4 from by unfold ca_po; (repeat' split) <;> first | rfl | omega | (exfalso; omega)), by rw [ht9]; exact hPf, va_K.moved hW9.alike hK, hDf⟩, hS.F ht9⟩) hS.2.2 dX5_porters_46
    · refine lv_iload_n hx hb dX5_porters_18 rfl (lv_at hl 3 rfl) ?_
      refine q_iconst hx hb dX5_porters_19 ?_
      refine q_sipush hx hb dX5_porters_20 rfl ?_
      refine q_cSi (z := bz (0 ≤ x3 ∧ x3 ≤ 200)) (As := [.int (zI x3), .int (zI 0), .int (zI 200)]) (rest := []) ⟨hx, hb, hml, hown, hts⟩ (kX5_isWithin l dC dI g tt x3 0 200 (by omega)) (va_cwS 3 hts gX5_porters_X5_isWithin rfl rfl rfl (by decide +kernel) ⟨Nat.le_of_ble_eq_true rfl, Nat.le_of_ble_eq_true rfl⟩) (hP.sub (ws' := []) [] rfl) hK hT hS rfl hl.1 rfl (Nat.le_of_ble_eq_true rfl) dX5_porters_23 ⟨Nat.le_of_ble_eq_true rfl, Nat.le_of_ble_eq_true rfl⟩ ?_
      refine q_bz_eq (tgt := 40) hx hb dX5_porters_26 (by decide) (fun c_3 => ?_) (fun c_3 => ?_)
      · refine lv_aload_n hx hb dX5_porters_40 rfl (lv_at hl 0 rfl) ?_
        refine q_bipush hx hb dX5_porters_41 rfl ?_
        refine q_cEi (z := (-2)) (b := (ob 0)) (As := [.int (zI (-2))]) (rest := []) (w1 := wWW g ob a0 a1 a2 a3 q w0 w1 w2 w3 kp tx tz fa fb (rfu rf (-2))) ⟨hx, hb, hml, hown, hts⟩ hP hD hK hT hS hA (kX5_refuse l dC dI g tt _ ob a0 a1 a2 a3 q w0 w1 w2 w3 kp tx tz fa fb rf (-2) (by decide)) (cwV 1 hts gX5_porters_X5_refuse rfl rfl rfl (by decide +kernel) ⟨Nat.le_of_ble_eq_true rfl, Nat.le_of_ble_eq_true rfl⟩) 0 4 rfl rfl rfl rfl hl.1 rfl (Nat.le_of_ble_eq_true rfl) dX5_porters_43 ⟨Nat.le_of_ble_eq_true rfl, Nat.le_of_ble_eq_true rfl⟩ (fun H locs hP hD hS => ?_)
        have hPf : va_P (dC, dI) vwCl (wWW g ob a0 a1 a2 a3 q w0 w1 w2 w3 kp tx tz (cf_po w0 x1 x2 x3 x4 fa) (cg_po w0 x1 x2 x3 x4 fb) (rfa rf (cc_po w0 x1 x2 x3 x4))) H := by rw [(show (cf_po w0 x1 x2 x3 x4 fa) = fa from by first | (unfold cf_po; rw [if_neg (by omega)]; done) | (unfold cf_po fsA; rw [if_pos (by omega), show w0 0 = k by omega, ← hs]; try rfl)), (show (cg_po w0 x1 x2 x3 x4 fb) = fb from by first | (unfold cg_po; rw [if_neg (by omega)]; done) | (unfold cg_po fsB; rw [if_pos (by omega), show w0 0 = k by omega, ← hs]; try rfl)), (show (rfa rf (cc_po w0 x1 x2 x3 x4)) = rfu rf (-2) from by first | exact rfa_0 (by unfold cc_po; (repeat' split) <;> omega) | exact rfa_n (by unfold cc_po; (repeat' split) <;> omega) (by decide))]; exact hP
        have hDf : va_D A (wWW g ob a0 a1 a2 a3 q w0 w1 w2 w3 kp tx tz (cf_po w0 x1 x2 x3 x4 fa) (cg_po w0 x1 x2 x3 x4 fb) (rfa rf (cc_po w0 x1 x2 x3 x4))) := by rw [(show (cf_po w0 x1 x2 x3 x4 fa) = fa from by first | (unfold cf_po; rw [if_neg (by omega)]; done) | (unfold cf_po fsA; rw [if_pos (by omega), show w0 0 = k by omega, ← hs]; try rfl)), (show (cg_po w0 x1 x2 x3 x4 fb) = fb from by first | (unfold cg_po; rw [if_neg (by omega)]; done) | (unfold cg_po fsB; rw [if_pos (by omega), show w0 0 = k by omega, ← hs]; try rfl)), (show (rfa rf (cc_po w0 x1 x2 x3 x4)) = rfu rf (-2) from by first | exact rfa_0 (by unfold cc_po; (repeat' split) <;> omega) | exact rfa_n (by unfold cc_po; (repeat' split) <;> omega) (by decide))]; exact hD
        exact W.iret hx hb hr (fun t9 ht9 hW9 => ⟨⟨_, (), rfl, congrArg zI (show (-2) = ca_po w0 x1 x2 x3 x4 from by unfold ca_po; (repeat' split) <;> first | rfl | omega | (exfalso; omega)), by rw [ht9]; exact hPf, va_K.moved hW9.alike hK, hDf⟩, hS.F ht9⟩) hS.2.2 dX5_porters_46
      · refine lv_iload hx hb dX5_porters_29 (lv_at hl 4 rfl) ?_
        refine q_iconst hx hb dX5_porters_31 ?_
        refine q_bipush hx hb dX5_porters_32 rfl ?_
        refine q_cSi (z := bz (0 ≤ x4 ∧ x4 ≤ 10)) (As := [.int (zI x4), .int (zI 0), .int (zI 10)]) (rest := []) ⟨hx, hb, hml, hown, hts⟩ (kX5_isWithin l dC dI g tt x4 0 10 (by omega)) (va_cwS 3 hts gX5_porters_X5_isWithin rfl rfl rfl (by decide +kernel) ⟨Nat.le_of_ble_eq_true rfl, Nat.le_of_ble_eq_true rfl⟩) (hP.sub (ws' := []) [] rfl) hK hT hS rfl hl.1 rfl (Nat.le_of_ble_eq_true rfl) dX5_porters_34 ⟨Nat.le_of_ble_eq_true rfl, Nat.le_of_ble_eq_true rfl⟩ ?_
        refine q_bz_ne (tgt := 47) hx hb dX5_porters_37 (by decide) (fun c_4 => ?_) (fun c_4 => ?_)
        · refine q_lconst hx hb 1 dX5_porters_47 rfl ?_
          refine lv_lstore (lv' := [(5, .long (zL 1)), (0, .ref (ob 0)), (1, .int (zI x1)), (2, .int (zI x2)), (3, .int (zI x3)), (4, .int (zI x4))]) hx hb dX5_porters_48 hl (by decide) rfl (fun ls hl => ?_)
          refine q_lconst hx hb 1 dX5_porters_50 rfl ?_
          refine lv_lstore (lv' := [(7, .long (zL 1)), (5, .long (zL 1)), (0, .ref (ob 0)), (1, .int (zI x1)), (2, .int (zI x2)), (3, .int (zI x3)), (4, .int (zI x4))]) hx hb dX5_porters_51 hl (by decide) rfl (fun ls hl => ?_)
          refine q_iconst hx hb dX5_porters_53 ?_
          refine lv_istore (lv' := [(9, .int (zI 0)), (7, .long (zL 1)), (5, .long (zL 1)), (0, .ref (ob 0)), (1, .int (zI x1)), (2, .int (zI x2)), (3, .int (zI x3)), (4, .int (zI x4))]) hx hb dX5_porters_54 hl (by decide) rfl (fun ls hl => ?_)
          refine w_loopP (σ := Int × Int × Int) (fun a9 ls => (0 ≤ a9.1 ∧ a9.1 ≤ w0 0) ∧ ((a9.2.1, a9.2.2) = poR w0 x1 x2 x3 x4 a9.1) ∧ (0 ≤ a9.2.1 ∧ a9.2.1 ≤ a9.2.2 ∧ 1 ≤ a9.2.2) ∧ (a9.2.2 ≤ pw10 a9.1) ∧ lv_has ls 11 [(0, .ref (ob 0)), (1, .int (zI x1)), (2, .int (zI x2)), (3, .int (zI x3)), (4, .int (zI x4)), (5, .long (zL a9.2.1)), (7, .long (zL a9.2.2)), (9, .int (zI a9.1))]) (fun a9 => (w0 0 - a9.1).toNat) ?_ (0, 1, 1) ?_
          · rintro ⟨k, t, al⟩ ls ⟨hk, hs, hb9, hpw, hl⟩ ih56
            have hk : 0 ≤ k ∧ k ≤ w0 0 := hk
            have hs : (t, al) = poR w0 x1 x2 x3 x4 k := hs
            have hb9 : 0 ≤ t ∧ t ≤ al ∧ 1 ≤ al := hb9
            have hpw : al ≤ pw10 k := hpw
            have hl : lv_has ls 11 [(0, .ref (ob 0)), (1, .int (zI x1)), (2, .int (zI x2)), (3, .int (zI x3)), (4, .int (zI x4)), (5, .long (zL t)), (7, .long (zL al)), (9, .int (zI k))] := hl
            refine lv_iload hx hb dX5_porters_56 (lv_at hl 7 rfl) ?_
            refine lv_aload_n hx hb dX5_porters_58 rfl (lv_at hl 0 rfl) ?_
            refine va_get (D := (dC, dI)) (ci := 4) (v := .ref (a0 0)) (C := RX5) (T := TX5) (N := 8) hx hb hts iX5 hown hK hP 0 rfl rfl 0 (by decide) kf10 (fun _ h9 => h9) rfl dX5_porters_59 ?_
            refine va_get (D := (dC, dI)) (ci := 1) (v := .int (zI (w0 0))) (C := RX1) (T := TX1) (N := 14) hx hb hts iX1 hown hK hP 1 rfl rfl 1 (by decide) kf62 (fun _ h9 => h9) rfl dX5_porters_62 ?_
            refine q_icmp_ge (tgt := 115) hx hb dX5_porters_65 (by decide) (by omega) (fun c_5 => ?_) (fun c_5 => ?_)
            · have h4 := pw10_4 hpw
              refine lv_aload_n hx hb dX5_porters_115 rfl (lv_at hl 0 rfl) ?_
              refine va_get (D := (dC, dI)) (ci := 4) (v := .ref (ob 4)) (C := RX5) (T := TX5) (N := 8) hx hb hts iX5 hown hK hP 0 rfl rfl 6 (by decide) kf46 (fun _ h9 => h9) rfl dX5_porters_116 ?_
              refine lv_lload hx hb dX5_porters_119 (lv_at hl 6 rfl) ?_
              refine lv_lload hx hb dX5_porters_121 (lv_at hl 5 rfl) ?_
              refine q_lsub hx hb dX5_porters_123 ?_
              refine lv_lload hx hb dX5_porters_124 (lv_at hl 6 rfl) ?_
              refine q_cVqv (b := (ob 4)) (As := [.long (zL (al - t)), .long (zL al)]) (rest := []) (wc := wFr (ob 4) fa fb) (w1 := wFr (ob 4) (if 0 < c_gd (al - t) al then (al - t) / c_gd (al - t) al else fa) (if 0 < c_gd (al - t) al then al / c_gd (al - t) al else fb)) (wr := [(ob 0, .inr (4, [.ref (a0 0), .ref (a1 0), .ref (ob 1), .ref (ob 2), .ref (ob 3), .ref (q 0), .ref (ob 4), .ref (ob 5)])), (a0 0, .inr (1, [.int (zI (w0 1)), .int (zI (w0 0)), .int (zI (w0 2)), .int (zI (w0 3)), .int (zI (w0 4)), .ref (a0 1), .ref (a0 2), .ref (a0 3), .ref (a0 4), .ref (a0 5), .ref (a0 6), .ref (a0 7), .ref (a0 8), .ref (a0 9)])), (a0 1, .inl (g 0, 4, .inl (fun k => zI (w0 (5 + k))))), (a0 2, .inl (g 0, 4, .inl (fun k => zI (w0 (9 + k))))), (a0 3, .inl (g 0, 2, .inl (fun k => zI (w0 (13 + k))))), (a0 4, .inl (g 0, 2, .inl (fun k => zI (w0 (15 + k))))), (a0 5, .inl (g 0, 6, .inl (fun k => zI (w0 (17 + 4 * k))))), (a0 6, .inl (g 0, 6, .inl (fun k => zI (w0 (18 + 4 * k))))), (a0 7, .inl (g 0, 6, .inl (fun k => zI (w0 (19 + 4 * k))))), (a0 8, .inl (g 0, 6, .inl (fun k => zI (w0 (20 + 4 * k))))), (a0 9, .inl (g 0, 8, .inl (fun k => zI (w0 (41 + k))))), (a1 0, .inr (1, [.int (zI (w1 1)), .int (zI (w1 0)), .int (zI (w1 2)), .int (zI (w1 3)), .int (zI (w1 4)), .ref (a1 1), .ref (a1 2), .ref (a1 3), .ref (a1 4), .ref (a1 5), .ref (a1 6), .ref (a1 7), .ref (a1 8), .ref (a1 9)])), (a1 1, .inl (g 0, 4, .inl (fun k => zI (w1 (5 + k))))), (a1 2, .inl (g 0, 4, .inl (fun k => zI (w1 (9 + k))))), (a1 3, .inl (g 0, 2, .inl (fun k => zI (w1 (13 + k))))), (a1 4, .inl (g 0, 2, .inl (fun k => zI (w1 (15 + k))))), (a1 5, .inl (g 0, 6, .inl (fun k => zI (w1 (17 + 4 * k))))), (a1 6, .inl (g 0, 6, .inl (fun k => zI (w1 (18 + 4 * k))))), (a1 7, .inl (g 0, 6, .inl (fun k => zI (w1 (19 + 4 * k))))), (a1 8, .inl (g 0, 6, .inl (fun k => zI (w1 (20 + 4 * k))))), (a1 9, .inl (g 0, 8, .inl (fun k => zI (w1 (41 + k))))), (a2 0, .inr (1, [.int (zI (w2 1)), .int (zI (w2 0)), .int (zI (w2 2)), .int (zI (w2 3)), .int (zI (w2 4)), .ref (a2 1), .ref (a2 2), .ref (a2 3), .ref (a2 4), .ref (a2 5), .ref (a2 6), .ref (a2 7), .ref (a2 8), .ref (a2 9)])), (a2 1, .inl (g 0, 4, .inl (fun k => zI (w2 (5 + k))))), (a2 2, .inl (g 0, 4, .inl (fun k => zI (w2 (9 + k))))), (a2 3, .inl (g 0, 2, .inl (fun k => zI (w2 (13 + k))))), (a2 4, .inl (g 0, 2, .inl (fun k => zI (w2 (15 + k))))), (a2 5, .inl (g 0, 6, .inl (fun k => zI (w2 (17 + 4 * k))))), (a2 6, .inl (g 0, 6, .inl (fun k => zI (w2 (18 + 4 * k))))), (a2 7, .inl (g 0, 6, .inl (fun k => zI (w2 (19 + 4 * k))))), (a2 8, .inl (g 0, 6, .inl (fun k => zI (w2 (20 + 4 * k))))), (a2 9, .inl (g 0, 8, .inl (fun k => zI (w2 (41 + k))))), (a3 0, .inr (1, [.int (zI (w3 1)), .int (zI (w3 0)), .int (zI (w3 2)), .int (zI (w3 3)), .int (zI (w3 4)), .ref (a3 1), .ref (a3 2), .ref (a3 3), .ref (a3 4), .ref (a3 5), .ref (a3 6), .ref (a3 7), .ref (a3 8), .ref (a3 9)])), (a3 1, .inl (g 0, 4, .inl (fun k => zI (w3 (5 + k))))), (a3 2, .inl (g 0, 4, .inl (fun k => zI (w3 (9 + k))))), (a3 3, .inl (g 0, 2, .inl (fun k => zI (w3 (13 + k))))), (a3 4, .inl (g 0, 2, .inl (fun k => zI (w3 (15 + k))))), (a3 5, .inl (g 0, 6, .inl (fun k => zI (w3 (17 + 4 * k))))), (a3 6, .inl (g 0, 6, .inl (fun k => zI (w3 (18 + 4 * k))))), (a3 7, .inl (g 0, 6, .inl (fun k => zI (w3 (19 + 4 * k))))), (a3 8, .inl (g 0, 6, .inl (fun k => zI (w3 (20 + 4 * k))))), (a3 9, .inl (g 0, 8, .inl (fun k => zI (w3 (41 + k))))), (ob 1, .inl (g 3, 2, .inr (.inr (.inr (.inr (im2 (a2 0) (a3 0))))))), (ob 2, .inl (g 2, 2, .inl (fun k => zI (kp k)))), (ob 3, .inr (3, [.ref (a0 0)])), (q 0, .inr (2, [.ref (q 1), .int (zI (tz 0)), .int (zI (tz 1)), .int (zI (tz 2)), .int (zI (tz 3)), .int (zI (tz 4))])), (q 1, .inl (g 1, 150, .inl (fun k => zI (tx k)))), (ob 5, .inl (g 0, 3, .inl (fun k => zI (rf k))))]) [46] [0, 1, 2, 3, 4, 5, 6, 7, 8, 9, 10, 11, 12, 13, 14, 15, 16, 17, 18, 19, 20, 21, 22, 23, 24, 25, 26, 27, 28, 29, 30, 31, 32, 33, 34, 35, 36, 37, 38, 39, 40, 41, 42, 43, 44, 45, 47] ⟨hx, hb, hml, hown, hts⟩ hP hD hK hT hS hA (kX0_set l dC dI g tt _ (ob 4) fa fb (al - t) al (by omega)) (cwV 2 hts gX5_porters_X0_set rfl rfl rfl (by decide +kernel) ⟨Nat.le_of_ble_eq_true rfl, Nat.le_of_ble_eq_true rfl⟩) rfl rfl (by decide) (by decide) (by decide) 0 0 rfl rfl rfl rfl hl.1 rfl (Nat.le_of_ble_eq_true rfl) dX5_porters_126 ⟨Nat.le_of_ble_eq_true rfl, Nat.le_of_ble_eq_true rfl⟩ (fun H locs hP hD hS => ?_)
              have hP : va_P (dC, dI) vwCl (wWW g ob a0 a1 a2 a3 q w0 w1 w2 w3 kp tx tz (if 0 < c_gd (al - t) al then (al - t) / c_gd (al - t) al else fa) (if 0 < c_gd (al - t) al then al / c_gd (al - t) al else fb) rf) H := hP.sub [0, 1, 2, 3, 4, 5, 6, 7, 8, 9, 10, 11, 12, 13, 14, 15, 16, 17, 18, 19, 20, 21, 22, 23, 24, 25, 26, 27, 28, 29, 30, 31, 32, 33, 34, 35, 36, 37, 38, 39, 40, 41, 42, 43, 44, 45, 47, 46] rfl
              have hD : va_D A (wWW g ob a0 a1 a2 a3 q w0 w1 w2 w3 kp tx tz (if 0 < c_gd (al - t) al then (al - t) / c_gd (al - t) al else fa) (if 0 < c_gd (al - t) al then al / c_gd (al - t) al else fb) rf) := hD.sub [0, 1, 2, 3, 4, 5, 6, 7, 8, 9, 10, 11, 12, 13, 14, 15, 16, 17, 18, 19, 20, 21, 22, 23, 24, 25, 26, 27, 28, 29, 30, 31, 32, 33, 34, 35, 36, 37, 38, 39, 40, 41, 42, 43, 44, 45, 47, 46] (by decide) rfl
              refine q_iconst hx hb dX5_porters_129 ?_
              have hPf : va_P (dC, dI) vwCl (wWW g ob a0 a1 a2 a3 q w0 w1 w2 w3 kp tx tz (cf_po w0 x1 x2 x3 x4 fa) (cg_po w0 x1 x2 x3 x4 fb) (rfa rf (cc_po w0 x1 x2 x3 x4))) H := by rw [(show (cf_po w0 x1 x2 x3 x4 fa) = if 0 < c_gd (al - t) al then (al - t) / c_gd (al - t) al else fa from by first | (unfold cf_po; rw [if_neg (by omega)]; done) | (unfold cf_po fsA; rw [if_pos (by omega), show w0 0 = k by omega, ← hs]; try rfl)), (show (cg_po w0 x1 x2 x3 x4 fb) = if 0 < c_gd (al - t) al then al / c_gd (al - t) al else fb from by first | (unfold cg_po; rw [if_neg (by omega)]; done) | (unfold cg_po fsB; rw [if_pos (by omega), show w0 0 = k by omega, ← hs]; try rfl)), (show (rfa rf (cc_po w0 x1 x2 x3 x4)) = rf from by first | exact rfa_0 (by unfold cc_po; (repeat' split) <;> omega) | exact rfa_n (by unfold cc_po; (repeat' split) <;> omega) (by decide))]; exact hP
              have hDf : va_D A (wWW g ob a0 a1 a2 a3 q w0 w1 w2 w3 kp tx tz (cf_po w0 x1 x2 x3 x4 fa) (cg_po w0 x1 x2 x3 x4 fb) (rfa rf (cc_po w0 x1 x2 x3 x4))) := by rw [(show (cf_po w0 x1 x2 x3 x4 fa) = if 0 < c_gd (al - t) al then (al - t) / c_gd (al - t) al else fa from by first | (unfold cf_po; rw [if_neg (by omega)]; done) | (unfold cf_po fsA; rw [if_pos (by omega), show w0 0 = k by omega, ← hs]; try rfl)), (show (cg_po w0 x1 x2 x3 x4 fb) = if 0 < c_gd (al - t) al then al / c_gd (al - t) al else fb from by first | (unfold cg_po; rw [if_neg (by omega)]; done) | (unfold cg_po fsB; rw [if_pos (by omega), show w0 0 = k by omega, ← hs]; try rfl)), (show (rfa rf (cc_po w0 x1 x2 x3 x4)) = rf from by first | exact rfa_0 (by unfold cc_po; (repeat' split) <;> omega) | exact rfa_n (by unfold cc_po; (repeat' split) <;> omega) (by decide))]; exact hD
              exact W.iret hx hb hr (fun t9 ht9 hW9 => ⟨⟨_, (), rfl, congrArg zI (show 1 = ca_po w0 x1 x2 x3 x4 from by unfold ca_po; (repeat' split) <;> first | rfl | omega | (exfalso; omega)), by rw [ht9]; exact hPf, va_K.moved hW9.alike hK, hDf⟩, hS.F ht9⟩) hS.2.2 dX5_porters_130
            · refine lv_aload_n hx hb dX5_porters_68 rfl (lv_at hl 0 rfl) ?_
              refine va_get (D := (dC, dI)) (ci := 4) (v := .ref (ob 3)) (C := RX5) (T := TX5) (N := 8) hx hb hts iX5 hown hK hP 0 rfl rfl 4 (by decide) kf32 (fun _ h9 => h9) rfl dX5_porters_69 ?_
              refine lv_iload hx hb dX5_porters_72 (lv_at hl 7 rfl) ?_
              refine lv_iload_n hx hb dX5_porters_74 rfl (lv_at hl 1 rfl) ?_
              refine lv_iload_n hx hb dX5_porters_75 rfl (lv_at hl 2 rfl) ?_
              refine q_cVi (z := c_wf w0 k x1 x2) (b := (ob 3)) (As := [.int (zI k), .int (zI x1), .int (zI x2)]) (rest := []) ⟨hx, hb, hml, hown, hts⟩ (kX4_waitForLift l dC dI g tt (ob 3) a0 w0 k x1 x2 (hw) (by omega) (by omega) (by omega)) (cwV 3 hts gX5_porters_X4_waitForLift rfl rfl rfl (by decide +kernel) ⟨Nat.le_of_ble_eq_true rfl, Nat.le_of_ble_eq_true rfl⟩) (hP.sub (ws' := wWa g (ob 3) a0 w0) [43, 1, 2, 3, 4, 5, 6, 7, 8, 9, 10] rfl) hK hT hS 0 3 rfl rfl rfl rfl hl.1 rfl (Nat.le_of_ble_eq_true rfl) dX5_porters_76 ⟨Nat.le_of_ble_eq_true rfl, Nat.le_of_ble_eq_true rfl⟩ ?_
              have := c_wf_r w0 k x1 x2
              refine lv_istore (lv' := [(10, .int (zI (c_wf w0 k x1 x2))), (0, .ref (ob 0)), (1, .int (zI x1)), (2, .int (zI x2)), (3, .int (zI x3)), (4, .int (zI x4)), (5, .long (zL t)), (7, .long (zL al)), (9, .int (zI k))]) hx hb dX5_porters_79 hl (by decide) rfl (fun ls hl => ?_)
              refine lv_iload hx hb dX5_porters_81 (lv_at hl 0 rfl) ?_
              refine q_iconst hx hb dX5_porters_83 ?_
              refine q_icmp_eq (tgt := 109) hx hb dX5_porters_84 (by decide) (by omega) (fun c_6 => ?_) (fun c_6 => ?_)
              · refine lv_iinc (v := zI (k + 1)) (lv' := [(9, .int (zI (k + 1))), (10, .int (zI (c_wf w0 k x1 x2))), (0, .ref (ob 0)), (1, .int (zI x1)), (2, .int (zI x2)), (3, .int (zI x3)), (4, .int (zI x4)), (5, .long (zL t)), (7, .long (zL al))]) hx hb dX5_porters_109 hl (k := 8) rfl (zI_add _ _) (by decide) rfl (fun ls hl => ?_)
                refine lv_goto (tgt := 56) hx hb dX5_porters_112 (by decide) ?_
                exact ih56 (k + 1, t, al) ls ⟨(show 0 ≤ (k + 1) ∧ (k + 1) ≤ w0 0 from by omega), (show (t, al) = poR w0 x1 x2 x3 x4 (k + 1) from by unfold poR at hs ⊢; rw [itR_s (by omega), ← hs]; unfold poS; rw [if_neg (show ¬ (¬ c_wf w0 k x1 x2 = -1 ∧ c_wf w0 k x1 x2 ≤ x3) from by omega)]), (show 0 ≤ t ∧ t ≤ al ∧ 1 ≤ al from by omega), (show al ≤ pw10 (k + 1) from (pw10_s hpw (by omega)).1), lv_sub hl [2, 3, 4, 5, 6, 7, 8, 0] rfl⟩ (by show (w0 0 - (k + 1)).toNat < (w0 0 - k).toNat; omega)
              · refine lv_iload hx hb dX5_porters_87 (lv_at hl 0 rfl) ?_
                refine lv_iload_n hx hb dX5_porters_89 rfl (lv_at hl 4 rfl) ?_
                refine q_icmp_gt (tgt := 109) hx hb dX5_porters_90 (by decide) (by omega) (fun c_7 => ?_) (fun c_7 => ?_)
                · refine lv_iinc (v := zI (k + 1)) (lv' := [(9, .int (zI (k + 1))), (10, .int (zI (c_wf w0 k x1 x2))), (0, .ref (ob 0)), (1, .int (zI x1)), (2, .int (zI x2)), (3, .int (zI x3)), (4, .int (zI x4)), (5, .long (zL t)), (7, .long (zL al))]) hx hb dX5_porters_109 hl (k := 8) rfl (zI_add _ _) (by decide) rfl (fun ls hl => ?_)
                  refine lv_goto (tgt := 56) hx hb dX5_porters_112 (by decide) ?_
                  exact ih56 (k + 1, t, al) ls ⟨(show 0 ≤ (k + 1) ∧ (k + 1) ≤ w0 0 from by omega), (show (t, al) = poR w0 x1 x2 x3 x4 (k + 1) from by unfold poR at hs ⊢; rw [itR_s (by omega), ← hs]; unfold poS; rw [if_neg (show ¬ (¬ c_wf w0 k x1 x2 = -1 ∧ c_wf w0 k x1 x2 ≤ x3) from by omega)]), (show 0 ≤ t ∧ t ≤ al ∧ 1 ≤ al from by omega), (show al ≤ pw10 (k + 1) from (pw10_s hpw (by omega)).1), lv_sub hl [2, 3, 4, 5, 6, 7, 8, 0] rfl⟩ (by show (w0 0 - (k + 1)).toNat < (w0 0 - k).toNat; omega)
                · refine lv_lload hx hb dX5_porters_93 (lv_at hl 6 rfl) ?_
                  refine lv_iload hx hb dX5_porters_95 (lv_at hl 5 rfl) ?_
                  refine q_i2l hx hb dX5_porters_97 (by omega) ?_
                  refine q_lmul hx hb dX5_porters_98 ?_
                  refine lv_lstore (lv' := [(5, .long (zL (t * x4))), (10, .int (zI (c_wf w0 k x1 x2))), (0, .ref (ob 0)), (1, .int (zI x1)), (2, .int (zI x2)), (3, .int (zI x3)), (4, .int (zI x4)), (7, .long (zL al)), (9, .int (zI k))]) hx hb dX5_porters_99 hl (by decide) rfl (fun ls hl => ?_)
                  refine lv_lload hx hb dX5_porters_101 (lv_at hl 7 rfl) ?_
                  refine q_ldc2 hx hb 10 hown kc199 (by decide) dX5_porters_103 ?_
                  refine q_lmul hx hb dX5_porters_106 ?_
                  refine lv_lstore (lv' := [(7, .long (zL (al * 10))), (5, .long (zL (t * x4))), (10, .int (zI (c_wf w0 k x1 x2))), (0, .ref (ob 0)), (1, .int (zI x1)), (2, .int (zI x2)), (3, .int (zI x3)), (4, .int (zI x4)), (9, .int (zI k))]) hx hb dX5_porters_107 hl (by decide) rfl (fun ls hl => ?_)
                  refine lv_iinc (v := zI (k + 1)) (lv' := [(9, .int (zI (k + 1))), (7, .long (zL (al * 10))), (5, .long (zL (t * x4))), (10, .int (zI (c_wf w0 k x1 x2))), (0, .ref (ob 0)), (1, .int (zI x1)), (2, .int (zI x2)), (3, .int (zI x3)), (4, .int (zI x4))]) hx hb dX5_porters_109 hl (k := 8) rfl (zI_add _ _) (by decide) rfl (fun ls hl => ?_)
                  refine lv_goto (tgt := 56) hx hb dX5_porters_112 (by decide) ?_
                  exact ih56 (k + 1, t * x4, al * 10) ls ⟨(show 0 ≤ (k + 1) ∧ (k + 1) ≤ w0 0 from by omega), (show ((t * x4), (al * 10)) = poR w0 x1 x2 x3 x4 (k + 1) from by unfold poR at hs ⊢; rw [itR_s (by omega), ← hs]; unfold poS; rw [if_pos (show (¬ c_wf w0 k x1 x2 = -1 ∧ c_wf w0 k x1 x2 ≤ x3) from by omega)]), (show 0 ≤ (t * x4) ∧ (t * x4) ≤ (al * 10) ∧ 1 ≤ (al * 10) from by have := mulb (t := t) (a := al) (c := x4) (by omega) (by omega); omega), (show (al * 10) ≤ pw10 (k + 1) from (pw10_s hpw (by omega)).2), lv_sub hl [4, 5, 6, 7, 8, 2, 1, 0] rfl⟩ (by show (w0 0 - (k + 1)).toNat < (w0 0 - k).toNat; omega)
          · exact ⟨(show 0 ≤ 0 ∧ 0 ≤ w0 0 from by omega), (show (1, 1) = poR w0 x1 x2 x3 x4 0 from rfl), (show 0 ≤ 1 ∧ 1 ≤ 1 ∧ 1 ≤ 1 from by omega), (show 1 ≤ pw10 0 from by decide), lv_sub hl [3, 4, 5, 6, 7, 2, 1, 0] rfl⟩
        · refine lv_aload_n hx hb dX5_porters_40 rfl (lv_at hl 0 rfl) ?_
          refine q_bipush hx hb dX5_porters_41 rfl ?_
          refine q_cEi (z := (-2)) (b := (ob 0)) (As := [.int (zI (-2))]) (rest := []) (w1 := wWW g ob a0 a1 a2 a3 q w0 w1 w2 w3 kp tx tz fa fb (rfu rf (-2))) ⟨hx, hb, hml, hown, hts⟩ hP hD hK hT hS hA (kX5_refuse l dC dI g tt _ ob a0 a1 a2 a3 q w0 w1 w2 w3 kp tx tz fa fb rf (-2) (by decide)) (cwV 1 hts gX5_porters_X5_refuse rfl rfl rfl (by decide +kernel) ⟨Nat.le_of_ble_eq_true rfl, Nat.le_of_ble_eq_true rfl⟩) 0 4 rfl rfl rfl rfl hl.1 rfl (Nat.le_of_ble_eq_true rfl) dX5_porters_43 ⟨Nat.le_of_ble_eq_true rfl, Nat.le_of_ble_eq_true rfl⟩ (fun H locs hP hD hS => ?_)
          have hPf : va_P (dC, dI) vwCl (wWW g ob a0 a1 a2 a3 q w0 w1 w2 w3 kp tx tz (cf_po w0 x1 x2 x3 x4 fa) (cg_po w0 x1 x2 x3 x4 fb) (rfa rf (cc_po w0 x1 x2 x3 x4))) H := by rw [(show (cf_po w0 x1 x2 x3 x4 fa) = fa from by first | (unfold cf_po; rw [if_neg (by omega)]; done) | (unfold cf_po fsA; rw [if_pos (by omega), show w0 0 = k by omega, ← hs]; try rfl)), (show (cg_po w0 x1 x2 x3 x4 fb) = fb from by first | (unfold cg_po; rw [if_neg (by omega)]; done) | (unfold cg_po fsB; rw [if_pos (by omega), show w0 0 = k by omega, ← hs]; try rfl)), (show (rfa rf (cc_po w0 x1 x2 x3 x4)) = rfu rf (-2) from by first | exact rfa_0 (by unfold cc_po; (repeat' split) <;> omega) | exact rfa_n (by unfold cc_po; (repeat' split) <;> omega) (by decide))]; exact hP
          have hDf : va_D A (wWW g ob a0 a1 a2 a3 q w0 w1 w2 w3 kp tx tz (cf_po w0 x1 x2 x3 x4 fa) (cg_po w0 x1 x2 x3 x4 fb) (rfa rf (cc_po w0 x1 x2 x3 x4))) := by rw [(show (cf_po w0 x1 x2 x3 x4 fa) = fa from by first | (unfold cf_po; rw [if_neg (by omega)]; done) | (unfold cf_po fsA; rw [if_pos (by omega), show w0 0 = k by omega, ← hs]; try rfl)), (show (cg_po w0 x1 x2 x3 x4 fb) = fb from by first | (unfold cg_po; rw [if_neg (by omega)]; done) | (unfold cg_po fsB; rw [if_pos (by omega), show w0 0 = k by omega, ← hs]; try rfl)), (show (rfa rf (cc_po w0 x1 x2 x3 x4)) = rfu rf (-2) from by first | exact rfa_0 (by unfold cc_po; (repeat' split) <;> omega) | exact rfa_n (by unfold cc_po; (repeat' split) <;> omega) (by decide))]; exact hD
          exact W.iret hx hb hr (fun t9 ht9 hW9 => ⟨⟨_, (), rfl, congrArg zI (show (-2) = ca_po w0 x1 x2 x3 x4 from by unfold ca_po; (repeat' split) <;> first | rfl | omega | (exfalso; omega)), by rw [ht9]; exact hPf, va_K.moved hW9.alike hK, hDf⟩, hS.F ht9⟩) hS.2.2 dX5_porters_46
set_option maxHeartbeats 4000000 in
set_option maxRecDepth 100000 in
theorem kX5_days (l : Launch) (dC : Nat → ClassId) (dI : Nat → Nat → Nat) (g : Nat → ClassId) (tt : Nat → Nat) (sz : Nat) (ob a0 a1 a2 a3 q : Nat → Nat) (w0 w1 w2 w3 kp tx tz : Int → Int) (fa fb : Int) (rf : Int → Int) (x1 x2 x3 : Int) (hw : hok w0) (h1 : rI x1 ∧ rI x2 ∧ rI x3) : Met l yX5_days wsX5_days ({ frames := 6, cells := 0, slots := 0, locals := 147 }) (va_Pc [.ref (ob 0), .int (zI x1), .int (zI x2), .int (zI x3)] (eQ (dC, dI) (wTy g) (wWW g ob a0 a1 a2 a3 q w0 w1 w2 w3 kp tx tz fa fb rf) tt sz)) (va_Qi (fun r (_ : Unit) => r = zI (ca_days w0 x1 x2 x3)) (fQ (dC, dI) (wTy g) (va_A (wWW g ob a0 a1 a2 a3 q w0 w1 w2 w3 kp tx tz fa fb rf) sz) (wWW g ob a0 a1 a2 a3 q w0 w1 w2 w3 kp tx tz fa fb (rfa rf (cc_days w0 x1 x2 x3)))) (va_A (wWW g ob a0 a1 a2 a3 q w0 w1 w2 w3 kp tx tz fa fb rf) sz)) 0 0 (va_A (wWW g ob a0 a1 a2 a3 q w0 w1 w2 w3 kp tx tz fa fb rf) sz) := by
  refine Met.ofW (cc := cX5_days) (maxL := 9) (ret := (some .int)) (by decide) rfl ?_
  intro p e s m args below meth c s₁ B hml hv
  obtain ⟨rfl, hsz, hP, hK, hD0, hT⟩ := hv
  have hx := B.exec
  have hb := B.bytes
  have hr := B.returns
  have hts := atoms_spec (ws := wsX5_days) B.pre
  have hown : s.vm.findClass RX5 = some m.cls := findClass_of_methodNamed B.named
  have hlocks := B.notSynchronized
  subst hsz
  have hD := hD0.self (sz := s.heap.size)
  generalize hAe : va_A (wWW g ob a0 a1 a2 a3 q w0 w1 w2 w3 kp tx tz fa fb rf) s.heap.size = A at hD hT ⊢
  have hA : ∀ q : Nat, s.heap.size ≤ q → A q := fun q h => by rw [← hAe]; exact Or.inr h
  have hS : va_S A s.heap s.heap [] := va_S.rf
  have hl := lv_entry ([.ref (ob 0), .int (zI x1), .int (zI x2), .int (zI x3)]) (n := 9) (Nat.le_of_ble_eq_true rfl)
  rw [lg_entry_eq]
  generalize (lg_sl ([.ref (ob 0), .int (zI x1), .int (zI x2), .int (zI x3)]) ++ List.replicate (9 - (lg_sl ([.ref (ob 0), .int (zI x1), .int (zI x2), .int (zI x3)])).length) Slot.unset).toArray = ls at hl ⊢
  have hl : lv_has ls 9 [(0, .ref (ob 0)), (1, .int (zI x1)), (2, .int (zI x2)), (3, .int (zI x3))] := hl
  have kc201 := hts (.constant RX5 201 (999999)) (by decide +kernel)
  have kc202 := hts (.constantLong RX5 202 (1103515245)) (by decide +kernel)
  have kc204 := hts (.constantLong RX5 204 (12345)) (by decide +kernel)
  have kc206 := hts (.constantLong RX5 206 (2147483648)) (by decide +kernel)
  have kc208 := hts (.constantLong RX5 208 (65536)) (by decide +kernel)
  have kc210 := hts (.constantLong RX5 210 (120)) (by decide +kernel)
  have kf10 := hts (.fieldLink RX5 10 "WrongWay" "now" "LWrongWay$House;") (by decide +kernel)
  have kf32 := hts (.fieldLink RX5 32 "WrongWay" "watch" "LWrongWay$Watch;") (by decide +kernel)
  have iX5 := (fun w h => List.mem_cons_of_mem _ (List.mem_append_left _ (List.mem_append_left _ (List.mem_append_right _ h))) : ∀ w ∈ u_ws RX5 TX5 8, w ∈ wsX5_days)
  have hb0 := hw.b
  refine lv_aload_n hx hb dX5_days_0 rfl (lv_at hl 0 rfl) ?_
  refine va_get (D := (dC, dI)) (ci := 4) (v := .ref (a0 0)) (C := RX5) (T := TX5) (N := 8) hx hb hts iX5 hown hK hP 0 rfl rfl 0 (by decide) kf10 (fun _ h9 => h9) rfl dX5_days_1 ?_
  refine lv_iload_n hx hb dX5_days_4 rfl (lv_at hl 1 rfl) ?_
  refine q_cVi (z := bz (0 ≤ x1 ∧ x1 ≤ w0 1)) (b := (a0 0)) (As := [.int (zI x1)]) (rest := []) ⟨hx, hb, hml, hown, hts⟩ (kX1_hasFloor l dC dI g tt a0 w0 x1 (hw) (by omega)) (cwV 1 hts gX5_days_X1_hasFloor rfl rfl rfl (by decide +kernel) ⟨Nat.le_of_ble_eq_true rfl, Nat.le_of_ble_eq_true rfl⟩) (hP.sub (ws' := wHs g a0 w0) [1, 2, 3, 4, 5, 6, 7, 8, 9, 10] rfl) hK hT hS 0 1 rfl rfl rfl rfl hl.1 rfl (Nat.le_of_ble_eq_true rfl) dX5_days_5 ⟨Nat.le_of_ble_eq_true rfl, Nat.le_of_ble_eq_true rfl⟩ ?_
  refine q_bz_eq (tgt := 31) hx hb dX5_days_8 (by decide) (fun c_1 => ?_) (fun c_1 => ?_)
  · refine lv_aload_n hx hb dX5_days_31 rfl (lv_at hl 0 rfl) ?_
    refine q_bipush hx hb dX5_days_32 rfl ?_
    refine q_cEi (z := (-2)) (b := (ob 0)) (As := [.int (zI (-2))]) (rest := []) (w1 := wWW g ob a0 a1 a2 a3 q w0 w1 w2 w3 kp tx tz fa fb (rfu rf (-2))) ⟨hx, hb, hml, hown, hts⟩ hP hD hK hT hS hA (kX5_refuse l dC dI g tt _ ob a0 a1 a2 a3 q w0 w1 w2 w3 kp tx tz fa fb rf (-2) (by decide)) (cwV 1 hts gX5_days_X5_refuse rfl rfl rfl (by decide +kernel) ⟨Nat.le_of_ble_eq_true rfl, Nat.le_of_ble_eq_true rfl⟩) 0 4 rfl rfl rfl rfl hl.1 rfl (Nat.le_of_ble_eq_true rfl) dX5_days_34 ⟨Nat.le_of_ble_eq_true rfl, Nat.le_of_ble_eq_true rfl⟩ (fun H locs hP hD hS => ?_)
    have hPf : va_P (dC, dI) vwCl (wWW g ob a0 a1 a2 a3 q w0 w1 w2 w3 kp tx tz fa fb (rfa rf (cc_days w0 x1 x2 x3))) H := by rw [(show (rfa rf (cc_days w0 x1 x2 x3)) = rfu rf (-2) from by first | exact rfa_0 (by unfold cc_days; (repeat' split) <;> omega) | exact rfa_n (by unfold cc_days; (repeat' split) <;> omega) (by decide))]; exact hP
    have hDf : va_D A (wWW g ob a0 a1 a2 a3 q w0 w1 w2 w3 kp tx tz fa fb (rfa rf (cc_days w0 x1 x2 x3))) := by rw [(show (rfa rf (cc_days w0 x1 x2 x3)) = rfu rf (-2) from by first | exact rfa_0 (by unfold cc_days; (repeat' split) <;> omega) | exact rfa_n (by unfold cc_days; (repeat' split) <;> omega) (by decide))]; exact hD
    exact W.iret hx hb hr (fun t9 ht9 hW9 => ⟨⟨_, (), rfl, congrArg zI (show (-2) = ca_days w0 x1 x2 x3 from by first | (unfold ca_days; rw [if_neg (by omega)]; done) | (unfold ca_days; rw [if_pos (by omega), show x3 = i by omega, ← hs])), by rw [ht9]; exact hPf, va_K.moved hW9.alike hK, hDf⟩, hS.F ht9⟩) hS.2.2 dX5_days_37
  · refine lv_iload_n hx hb dX5_days_11 rfl (lv_at hl 2 rfl) ?_
    refine q_iconst hx hb dX5_days_12 ?_
    refine q_ldc hx hb 999999 hown kc201 (by decide) dX5_days_13 ?_
    refine q_cSi (z := bz (0 ≤ x2 ∧ x2 ≤ 999999)) (As := [.int (zI x2), .int (zI 0), .int (zI 999999)]) (rest := []) ⟨hx, hb, hml, hown, hts⟩ (kX5_isWithin l dC dI g tt x2 0 999999 (by omega)) (va_cwS 3 hts gX5_days_X5_isWithin rfl rfl rfl (by decide +kernel) ⟨Nat.le_of_ble_eq_true rfl, Nat.le_of_ble_eq_true rfl⟩) (hP.sub (ws' := []) [] rfl) hK hT hS rfl hl.1 rfl (Nat.le_of_ble_eq_true rfl) dX5_days_15 ⟨Nat.le_of_ble_eq_true rfl, Nat.le_of_ble_eq_true rfl⟩ ?_
    refine q_bz_eq (tgt := 31) hx hb dX5_days_18 (by decide) (fun c_2 => ?_) (fun c_2 => ?_)
    · refine lv_aload_n hx hb dX5_days_31 rfl (lv_at hl 0 rfl) ?_
      refine q_bipush hx hb dX5_days_32 rfl ?_
      refine q_cEi (z := (-2)) (b := (ob 0)) (As := [.int (zI (-2))]) (rest := []) (w1 := wWW g ob a0 a1 a2 a3 q w0 w1 w2 w3 kp tx tz fa fb (rfu rf (-2))) ⟨hx, hb, hml, hown, hts⟩ hP hD hK hT hS hA (kX5_refuse l dC dI g tt _ ob a0 a1 a2 a3 q w0 w1 w2 w3 kp tx tz fa fb rf (-2) (by decide)) (cwV 1 hts gX5_days_X5_refuse rfl rfl rfl (by decide +kernel) ⟨Nat.le_of_ble_eq_true rfl, Nat.le_of_ble_eq_true rfl⟩) 0 4 rfl rfl rfl rfl hl.1 rfl (Nat.le_of_ble_eq_true rfl) dX5_days_34 ⟨Nat.le_of_ble_eq_true rfl, Nat.le_of_ble_eq_true rfl⟩ (fun H locs hP hD hS => ?_)
      have hPf : va_P (dC, dI) vwCl (wWW g ob a0 a1 a2 a3 q w0 w1 w2 w3 kp tx tz fa fb (rfa rf (cc_days w0 x1 x2 x3))) H := by rw [(show (rfa rf (cc_days w0 x1 x2 x3)) = rfu rf (-2) from by first | exact rfa_0 (by unfold cc_days; (repeat' split) <;> omega) | exact rfa_n (by unfold cc_days; (repeat' split) <;> omega) (by decide))]; exact hP
      have hDf : va_D A (wWW g ob a0 a1 a2 a3 q w0 w1 w2 w3 kp tx tz fa fb (rfa rf (cc_days w0 x1 x2 x3))) := by rw [(show (rfa rf (cc_days w0 x1 x2 x3)) = rfu rf (-2) from by first | exact rfa_0 (by unfold cc_days; (repeat' split) <;> omega) | exact rfa_n (by unfold cc_days; (repeat' split) <;> omega) (by decide))]; exact hD
      exact W.iret hx hb hr (fun t9 ht9 hW9 => ⟨⟨_, (), rfl, congrArg zI (show (-2) = ca_days w0 x1 x2 x3 from by first | (unfold ca_days; rw [if_neg (by omega)]; done) | (unfold ca_days; rw [if_pos (by omega), show x3 = i by omega, ← hs])), by rw [ht9]; exact hPf, va_K.moved hW9.alike hK, hDf⟩, hS.F ht9⟩) hS.2.2 dX5_days_37
    · refine lv_iload_n hx hb dX5_days_21 rfl (lv_at hl 3 rfl) ?_
      refine q_iconst hx hb dX5_days_22 ?_
      refine q_bipush hx hb dX5_days_23 rfl ?_
      refine q_cSi (z := bz (0 ≤ x3 ∧ x3 ≤ 60)) (As := [.int (zI x3), .int (zI 0), .int (zI 60)]) (rest := []) ⟨hx, hb, hml, hown, hts⟩ (kX5_isWithin l dC dI g tt x3 0 60 (by omega)) (va_cwS 3 hts gX5_days_X5_isWithin rfl rfl rfl (by decide +kernel) ⟨Nat.le_of_ble_eq_true rfl, Nat.le_of_ble_eq_true rfl⟩) (hP.sub (ws' := []) [] rfl) hK hT hS rfl hl.1 rfl (Nat.le_of_ble_eq_true rfl) dX5_days_25 ⟨Nat.le_of_ble_eq_true rfl, Nat.le_of_ble_eq_true rfl⟩ ?_
      refine q_bz_ne (tgt := 38) hx hb dX5_days_28 (by decide) (fun c_3 => ?_) (fun c_3 => ?_)
      · refine lv_iload_n hx hb dX5_days_38 rfl (lv_at hl 2 rfl) ?_
        refine q_i2l hx hb dX5_days_39 (by omega) ?_
        refine lv_lstore (lv' := [(4, .long (zL x2)), (0, .ref (ob 0)), (1, .int (zI x1)), (2, .int (zI x2)), (3, .int (zI x3))]) hx hb dX5_days_40 hl (by decide) rfl (fun ls hl => ?_)
        refine q_iconst hx hb dX5_days_42 ?_
        refine lv_istore (lv' := [(6, .int (zI 0)), (4, .long (zL x2)), (0, .ref (ob 0)), (1, .int (zI x1)), (2, .int (zI x2)), (3, .int (zI x3))]) hx hb dX5_days_43 hl (by decide) rfl (fun ls hl => ?_)
        refine q_iconst hx hb dX5_days_45 ?_
        refine lv_istore (lv' := [(7, .int (zI 0)), (6, .int (zI 0)), (4, .long (zL x2)), (0, .ref (ob 0)), (1, .int (zI x1)), (2, .int (zI x2)), (3, .int (zI x3))]) hx hb dX5_days_46 hl (by decide) rfl (fun ls hl => ?_)
        refine w_loopP (σ := Int × Int × Int) (fun a9 ls => (0 ≤ a9.1 ∧ a9.1 ≤ x3) ∧ ((a9.2.1, a9.2.2) = itR (dyS w0 x1) (x2, 0) a9.1) ∧ (0 ≤ a9.2.1 ∧ a9.2.1 < 2147483648) ∧ lv_has ls 9 [(0, .ref (ob 0)), (1, .int (zI x1)), (2, .int (zI x2)), (3, .int (zI x3)), (4, .long (zL a9.2.1)), (6, .int (zI a9.2.2)), (7, .int (zI a9.1))]) (fun a9 => (x3 - a9.1).toNat) ?_ (0, x2, 0) ?_
        · rintro ⟨i, x, u⟩ ls ⟨hi, hs, hx2, hl⟩ ih48
          have hi : 0 ≤ i ∧ i ≤ x3 := hi
          have hs : (x, u) = itR (dyS w0 x1) (x2, 0) i := hs
          have hx2 : 0 ≤ x ∧ x < 2147483648 := hx2
          have hl : lv_has ls 9 [(0, .ref (ob 0)), (1, .int (zI x1)), (2, .int (zI x2)), (3, .int (zI x3)), (4, .long (zL x)), (6, .int (zI u)), (7, .int (zI i))] := hl
          refine lv_iload hx hb dX5_days_48 (lv_at hl 6 rfl) ?_
          refine lv_iload_n hx hb dX5_days_50 rfl (lv_at hl 3 rfl) ?_
          refine q_icmp_ge (tgt := 106) hx hb dX5_days_51 (by decide) (by omega) (fun c_4 => ?_) (fun c_4 => ?_)
          · refine lv_iload hx hb dX5_days_106 (lv_at hl 5 rfl) ?_
            have hPf : va_P (dC, dI) vwCl (wWW g ob a0 a1 a2 a3 q w0 w1 w2 w3 kp tx tz fa fb (rfa rf (cc_days w0 x1 x2 x3))) s.heap := by rw [(show (rfa rf (cc_days w0 x1 x2 x3)) = rf from by first | exact rfa_0 (by unfold cc_days; (repeat' split) <;> omega) | exact rfa_n (by unfold cc_days; (repeat' split) <;> omega) (by decide))]; exact hP
            have hDf : va_D A (wWW g ob a0 a1 a2 a3 q w0 w1 w2 w3 kp tx tz fa fb (rfa rf (cc_days w0 x1 x2 x3))) := by rw [(show (rfa rf (cc_days w0 x1 x2 x3)) = rf from by first | exact rfa_0 (by unfold cc_days; (repeat' split) <;> omega) | exact rfa_n (by unfold cc_days; (repeat' split) <;> omega) (by decide))]; exact hD
            exact W.iret hx hb hr (fun t9 ht9 hW9 => ⟨⟨_, (), rfl, congrArg zI (show u = ca_days w0 x1 x2 x3 from by first | (unfold ca_days; rw [if_neg (by omega)]; done) | (unfold ca_days; rw [if_pos (by omega), show x3 = i by omega, ← hs])), by rw [ht9]; exact hPf, va_K.moved hW9.alike hK, hDf⟩, hS.F ht9⟩) hS.2.2 dX5_days_108
          · refine lv_lload hx hb dX5_days_54 (lv_at hl 4 rfl) ?_
            refine q_ldc2 hx hb 1103515245 hown kc202 (by decide) dX5_days_56 ?_
            refine q_lmul hx hb dX5_days_59 ?_
            refine q_ldc2 hx hb 12345 hown kc204 (by decide) dX5_days_60 ?_
            refine q_ladd hx hb dX5_days_63 ?_
            refine q_ldc2 hx hb 2147483648 hown kc206 (by decide) dX5_days_64 ?_
            refine q_lrem hx hb dX5_days_67 (by omega) ?_
            refine lv_lstore (lv' := [(4, .long (zL (((x * 1103515245) + 12345) % 2147483648))), (0, .ref (ob 0)), (1, .int (zI x1)), (2, .int (zI x2)), (3, .int (zI x3)), (6, .int (zI u)), (7, .int (zI i))]) hx hb dX5_days_68 hl (by decide) rfl (fun ls hl => ?_)
            refine lv_lload hx hb dX5_days_70 (lv_at hl 0 rfl) ?_
            refine q_ldc2 hx hb 65536 hown kc208 (by decide) dX5_days_72 ?_
            refine q_ldiv hx hb dX5_days_75 (by omega) ?_
            refine q_ldc2 hx hb 120 hown kc210 (by decide) dX5_days_76 ?_
            refine q_lrem hx hb dX5_days_79 (by omega) ?_
            refine q_l2i hx hb dX5_days_80 ?_
            refine lv_istore (lv' := [(8, .int (zI (((((x * 1103515245) + 12345) % 2147483648) / 65536) % 120))), (4, .long (zL (((x * 1103515245) + 12345) % 2147483648))), (0, .ref (ob 0)), (1, .int (zI x1)), (2, .int (zI x2)), (3, .int (zI x3)), (6, .int (zI u)), (7, .int (zI i))]) hx hb dX5_days_81 hl (by decide) rfl (fun ls hl => ?_)
            refine lv_aload_n hx hb dX5_days_83 rfl (lv_at hl 2 rfl) ?_
            refine va_get (D := (dC, dI)) (ci := 4) (v := .ref (ob 3)) (C := RX5) (T := TX5) (N := 8) hx hb hts iX5 hown hK hP 0 rfl rfl 4 (by decide) kf32 (fun _ h9 => h9) rfl dX5_days_84 ?_
            refine lv_iload_n hx hb dX5_days_87 rfl (lv_at hl 3 rfl) ?_
            refine lv_iload hx hb dX5_days_88 (lv_at hl 0 rfl) ?_
            refine q_cVi (z := c_w1 w0 x1 (((((x * 1103515245) + 12345) % 2147483648) / 65536) % 120)) (b := (ob 3)) (As := [.int (zI x1), .int (zI (((((x * 1103515245) + 12345) % 2147483648) / 65536) % 120))]) (rest := []) ⟨hx, hb, hml, hown, hts⟩ (kX4_wayOfFirst l dC dI g tt (ob 3) a0 w0 x1 (((((x * 1103515245) + 12345) % 2147483648) / 65536) % 120) (hw) (by omega) (by omega)) (cwV 2 hts gX5_days_X4_wayOfFirst rfl rfl rfl (by decide +kernel) ⟨Nat.le_of_ble_eq_true rfl, Nat.le_of_ble_eq_true rfl⟩) (hP.sub (ws' := wWa g (ob 3) a0 w0) [43, 1, 2, 3, 4, 5, 6, 7, 8, 9, 10] rfl) hK hT hS 0 3 rfl rfl rfl rfl hl.1 rfl (Nat.le_of_ble_eq_true rfl) dX5_days_90 ⟨Nat.le_of_ble_eq_true rfl, Nat.le_of_ble_eq_true rfl⟩ ?_
            have := c_w1_r w0 x1 (((((x * 1103515245) + 12345) % 2147483648) / 65536) % 120)
            refine q_iconst hx hb dX5_days_93 ?_
            refine q_icmp_ne (tgt := 100) hx hb dX5_days_94 (by decide) (by omega) (fun c_5 => ?_) (fun c_5 => ?_)
            · refine lv_iinc (v := zI (i + 1)) (lv' := [(7, .int (zI (i + 1))), (8, .int (zI (((((x * 1103515245) + 12345) % 2147483648) / 65536) % 120))), (4, .long (zL (((x * 1103515245) + 12345) % 2147483648))), (0, .ref (ob 0)), (1, .int (zI x1)), (2, .int (zI x2)), (3, .int (zI x3)), (6, .int (zI u))]) hx hb dX5_days_100 hl (k := 7) rfl (zI_add _ _) (by decide) rfl (fun ls hl => ?_)
              refine lv_goto (tgt := 48) hx hb dX5_days_103 (by decide) ?_
              exact ih48 (i + 1, ((x * 1103515245) + 12345) % 2147483648, u) ls ⟨(show 0 ≤ (i + 1) ∧ (i + 1) ≤ x3 from by omega), (show ((((x * 1103515245) + 12345) % 2147483648), u) = itR (dyS w0 x1) (x2, 0) (i + 1) from by rw [itR_s (by omega), ← hs]; unfold dyS dyM dyX; rw [if_neg c_5]), (show 0 ≤ (((x * 1103515245) + 12345) % 2147483648) ∧ (((x * 1103515245) + 12345) % 2147483648) < 2147483648 from by omega), lv_sub hl [3, 4, 5, 6, 2, 7, 0] rfl⟩ (by show (x3 - (i + 1)).toNat < (x3 - i).toNat; omega)
            · refine lv_iinc (v := zI (u + 1)) (lv' := [(6, .int (zI (u + 1))), (8, .int (zI (((((x * 1103515245) + 12345) % 2147483648) / 65536) % 120))), (4, .long (zL (((x * 1103515245) + 12345) % 2147483648))), (0, .ref (ob 0)), (1, .int (zI x1)), (2, .int (zI x2)), (3, .int (zI x3)), (7, .int (zI i))]) hx hb dX5_days_97 hl (k := 6) rfl (zI_add _ _) (by decide) rfl (fun ls hl => ?_)
              refine lv_iinc (v := zI (i + 1)) (lv' := [(7, .int (zI (i + 1))), (6, .int (zI (u + 1))), (8, .int (zI (((((x * 1103515245) + 12345) % 2147483648) / 65536) % 120))), (4, .long (zL (((x * 1103515245) + 12345) % 2147483648))), (0, .ref (ob 0)), (1, .int (zI x1)), (2, .int (zI x2)), (3, .int (zI x3))]) hx hb dX5_days_100 hl (k := 7) rfl (zI_add _ _) (by decide) rfl (fun ls hl => ?_)
              refine lv_goto (tgt := 48) hx hb dX5_days_103 (by decide) ?_
              exact ih48 (i + 1, ((x * 1103515245) + 12345) % 2147483648, u + 1) ls ⟨(show 0 ≤ (i + 1) ∧ (i + 1) ≤ x3 from by omega), (show ((((x * 1103515245) + 12345) % 2147483648), (u + 1)) = itR (dyS w0 x1) (x2, 0) (i + 1) from by rw [itR_s (by omega), ← hs]; unfold dyS dyM dyX; rw [if_pos c_5]), (show 0 ≤ (((x * 1103515245) + 12345) % 2147483648) ∧ (((x * 1103515245) + 12345) % 2147483648) < 2147483648 from by omega), lv_sub hl [4, 5, 6, 7, 3, 1, 0] rfl⟩ (by show (x3 - (i + 1)).toNat < (x3 - i).toNat; omega)
        · exact ⟨(show 0 ≤ 0 ∧ 0 ≤ x3 from by omega), (show (x2, 0) = itR (dyS w0 x1) (x2, 0) 0 from rfl), (show 0 ≤ x2 ∧ x2 < 2147483648 from by omega), lv_sub hl [3, 4, 5, 6, 2, 1, 0] rfl⟩
      · refine lv_aload_n hx hb dX5_days_31 rfl (lv_at hl 0 rfl) ?_
        refine q_bipush hx hb dX5_days_32 rfl ?_
        refine q_cEi (z := (-2)) (b := (ob 0)) (As := [.int (zI (-2))]) (rest := []) (w1 := wWW g ob a0 a1 a2 a3 q w0 w1 w2 w3 kp tx tz fa fb (rfu rf (-2))) ⟨hx, hb, hml, hown, hts⟩ hP hD hK hT hS hA (kX5_refuse l dC dI g tt _ ob a0 a1 a2 a3 q w0 w1 w2 w3 kp tx tz fa fb rf (-2) (by decide)) (cwV 1 hts gX5_days_X5_refuse rfl rfl rfl (by decide +kernel) ⟨Nat.le_of_ble_eq_true rfl, Nat.le_of_ble_eq_true rfl⟩) 0 4 rfl rfl rfl rfl hl.1 rfl (Nat.le_of_ble_eq_true rfl) dX5_days_34 ⟨Nat.le_of_ble_eq_true rfl, Nat.le_of_ble_eq_true rfl⟩ (fun H locs hP hD hS => ?_)
        have hPf : va_P (dC, dI) vwCl (wWW g ob a0 a1 a2 a3 q w0 w1 w2 w3 kp tx tz fa fb (rfa rf (cc_days w0 x1 x2 x3))) H := by rw [(show (rfa rf (cc_days w0 x1 x2 x3)) = rfu rf (-2) from by first | exact rfa_0 (by unfold cc_days; (repeat' split) <;> omega) | exact rfa_n (by unfold cc_days; (repeat' split) <;> omega) (by decide))]; exact hP
        have hDf : va_D A (wWW g ob a0 a1 a2 a3 q w0 w1 w2 w3 kp tx tz fa fb (rfa rf (cc_days w0 x1 x2 x3))) := by rw [(show (rfa rf (cc_days w0 x1 x2 x3)) = rfu rf (-2) from by first | exact rfa_0 (by unfold cc_days; (repeat' split) <;> omega) | exact rfa_n (by unfold cc_days; (repeat' split) <;> omega) (by decide))]; exact hD
        exact W.iret hx hb hr (fun t9 ht9 hW9 => ⟨⟨_, (), rfl, congrArg zI (show (-2) = ca_days w0 x1 x2 x3 from by first | (unfold ca_days; rw [if_neg (by omega)]; done) | (unfold ca_days; rw [if_pos (by omega), show x3 = i by omega, ← hs])), by rw [ht9]; exact hPf, va_K.moved hW9.alike hK, hDf⟩, hS.F ht9⟩) hS.2.2 dX5_days_37
set_option maxHeartbeats 4000000 in
set_option maxRecDepth 100000 in
theorem kX5_part (l : Launch) (dC : Nat → ClassId) (dI : Nat → Nat → Nat) (g : Nat → ClassId) (tt : Nat → Nat) (sz : Nat) (ob a0 a1 a2 a3 q : Nat → Nat) (w0 w1 w2 w3 kp tx tz : Int → Int) (fa fb : Int) (rf : Int → Int) (x1 : Int) (h1 : rI x1) : Met l yX5_part wsX5_part ({ frames := 2, cells := 0, slots := 0, locals := 44 }) (va_Pc [.ref (ob 0), .int (zI x1)] (eQ (dC, dI) (wTy g) (wWW g ob a0 a1 a2 a3 q w0 w1 w2 w3 kp tx tz fa fb rf) tt sz)) (va_Ql (fun r (_ : Unit) => r = zL (ca_part fa fb x1)) (fQ (dC, dI) (wTy g) (va_A (wWW g ob a0 a1 a2 a3 q w0 w1 w2 w3 kp tx tz fa fb rf) sz) (wWW g ob a0 a1 a2 a3 q w0 w1 w2 w3 kp tx tz fa fb (rfa rf (cc_01 x1)))) (va_A (wWW g ob a0 a1 a2 a3 q w0 w1 w2 w3 kp tx tz fa fb rf) sz)) 0 0 (va_A (wWW g ob a0 a1 a2 a3 q w0 w1 w2 w3 kp tx tz fa fb rf) sz) := by
  refine Met.ofW (cc := cX5_part) (maxL := 2) (ret := (some .long)) (by decide) rfl ?_
  intro p e s m args below meth c s₁ B hml hv
  obtain ⟨rfl, hsz, hP, hK, hD0, hT⟩ := hv
  have hx := B.exec
  have hb := B.bytes
  have hr := B.returns
  have hts := atoms_spec (ws := wsX5_part) B.pre
  have hown : s.vm.findClass RX5 = some m.cls := findClass_of_methodNamed B.named
  have hlocks := B.notSynchronized
  subst hsz
  have hD := hD0.self (sz := s.heap.size)
  generalize hAe : va_A (wWW g ob a0 a1 a2 a3 q w0 w1 w2 w3 kp tx tz fa fb rf) s.heap.size = A at hD hT ⊢
  have hA : ∀ q : Nat, s.heap.size ≤ q → A q := fun q h => by rw [← hAe]; exact Or.inr h
  have hS : va_S A s.heap s.heap [] := va_S.rf
  have hl := lv_entry ([.ref (ob 0), .int (zI x1)]) (n := 2) (Nat.le_of_ble_eq_true rfl)
  rw [lg_entry_eq]
  generalize (lg_sl ([.ref (ob 0), .int (zI x1)]) ++ List.replicate (2 - (lg_sl ([.ref (ob 0), .int (zI x1)])).length) Slot.unset).toArray = ls at hl ⊢
  have hl : lv_has ls 2 [(0, .ref (ob 0)), (1, .int (zI x1))] := hl
  have kf212 := hts (.fieldLink RX5 212 "WrongWay$Fraction" "above" "J") (by decide +kernel)
  have kf216 := hts (.fieldLink RX5 216 "WrongWay$Fraction" "below" "J") (by decide +kernel)
  have kf46 := hts (.fieldLink RX5 46 "WrongWay" "fraction" "LWrongWay$Fraction;") (by decide +kernel)
  have iX0 := (fun w h => List.mem_cons_of_mem _ (List.mem_append_right _ h) : ∀ w ∈ u_ws RX0 TX0 2, w ∈ wsX5_part)
  have iX5 := (fun w h => List.mem_cons_of_mem _ (List.mem_append_left _ (List.mem_append_right _ h)) : ∀ w ∈ u_ws RX5 TX5 8, w ∈ wsX5_part)
  refine lv_iload_n hx hb dX5_part_0 rfl (lv_at hl 1 rfl) ?_
  refine q_iconst hx hb dX5_part_1 ?_
  refine q_iconst hx hb dX5_part_2 ?_
  refine q_cSi (z := bz (0 ≤ x1 ∧ x1 ≤ 1)) (As := [.int (zI x1), .int (zI 0), .int (zI 1)]) (rest := []) ⟨hx, hb, hml, hown, hts⟩ (kX5_isWithin l dC dI g tt x1 0 1 (by omega)) (va_cwS 3 hts gX5_part_X5_isWithin rfl rfl rfl (by decide +kernel) ⟨Nat.le_of_ble_eq_true rfl, Nat.le_of_ble_eq_true rfl⟩) (hP.sub (ws' := []) [] rfl) hK hT hS rfl hl.1 rfl (Nat.le_of_ble_eq_true rfl) dX5_part_3 ⟨Nat.le_of_ble_eq_true rfl, Nat.le_of_ble_eq_true rfl⟩ ?_
  refine q_bz_ne (tgt := 17) hx hb dX5_part_6 (by decide) (fun c_1 => ?_) (fun c_1 => ?_)
  · refine lv_iload_n hx hb dX5_part_17 rfl (lv_at hl 1 rfl) ?_
    refine q_if_ne (tgt := 31) hx hb dX5_part_18 (by decide) (by omega) (fun c_2 => ?_) (fun c_2 => ?_)
    · refine lv_aload_n hx hb dX5_part_31 rfl (lv_at hl 0 rfl) ?_
      refine va_get (D := (dC, dI)) (ci := 4) (v := .ref (ob 4)) (C := RX5) (T := TX5) (N := 8) hx hb hts iX5 hown hK hP 0 rfl rfl 6 (by decide) kf46 (fun _ h9 => h9) rfl dX5_part_32 ?_
      refine va_get (D := (dC, dI)) (ci := 0) (v := .long (zL fb)) (C := RX0) (T := TX0) (N := 2) hx hb hts iX0 hown hK hP 46 rfl rfl 1 (by decide) kf216 (fun _ h9 => h9) rfl dX5_part_35 ?_
      have hPf : va_P (dC, dI) vwCl (wWW g ob a0 a1 a2 a3 q w0 w1 w2 w3 kp tx tz fa fb (rfa rf (cc_01 x1))) s.heap := by rw [(show (rfa rf (cc_01 x1)) = rf from by first | exact rfa_0 (by unfold cc_01; (repeat' split) <;> omega) | exact rfa_n (by unfold cc_01; (repeat' split) <;> omega) (by decide))]; exact hP
      have hDf : va_D A (wWW g ob a0 a1 a2 a3 q w0 w1 w2 w3 kp tx tz fa fb (rfa rf (cc_01 x1))) := by rw [(show (rfa rf (cc_01 x1)) = rf from by first | exact rfa_0 (by unfold cc_01; (repeat' split) <;> omega) | exact rfa_n (by unfold cc_01; (repeat' split) <;> omega) (by decide))]; exact hD
      exact W.lret hx hb hr (fun t9 ht9 hW9 => ⟨⟨_, (), rfl, congrArg zL (show fb = ca_part fa fb x1 from by unfold ca_part; (repeat' split) <;> first | rfl | omega | (exfalso; omega)), by rw [ht9]; exact hPf, va_K.moved hW9.alike hK, hDf⟩, hS.F ht9⟩) hS.2.2 dX5_part_38
    · refine lv_aload_n hx hb dX5_part_21 rfl (lv_at hl 0 rfl) ?_
      refine va_get (D := (dC, dI)) (ci := 4) (v := .ref (ob 4)) (C := RX5) (T := TX5) (N := 8) hx hb hts iX5 hown hK hP 0 rfl rfl 6 (by decide) kf46 (fun _ h9 => h9) rfl dX5_part_22 ?_
      refine va_get (D := (dC, dI)) (ci := 0) (v := .long (zL fa)) (C := RX0) (T := TX0) (N := 2) hx hb hts iX0 hown hK hP 46 rfl rfl 0 (by decide) kf212 (fun _ h9 => h9) rfl dX5_part_25 ?_
      refine lv_goto (tgt := 38) hx hb dX5_part_28 (by decide) ?_
      have hPf : va_P (dC, dI) vwCl (wWW g ob a0 a1 a2 a3 q w0 w1 w2 w3 kp tx tz fa fb (rfa rf (cc_01 x1))) s.heap := by rw [(show (rfa rf (cc_01 x1)) = rf from by first | exact rfa_0 (by unfold cc_01; (repeat' split) <;> omega) | exact rfa_n (by unfold cc_01; (repeat' split) <;> omega) (by decide))]; exact hP
      have hDf : va_D A (wWW g ob a0 a1 a2 a3 q w0 w1 w2 w3 kp tx tz fa fb (rfa rf (cc_01 x1))) := by rw [(show (rfa rf (cc_01 x1)) = rf from by first | exact rfa_0 (by unfold cc_01; (repeat' split) <;> omega) | exact rfa_n (by unfold cc_01; (repeat' split) <;> omega) (by decide))]; exact hD
      exact W.lret hx hb hr (fun t9 ht9 hW9 => ⟨⟨_, (), rfl, congrArg zL (show fa = ca_part fa fb x1 from by unfold ca_part; (repeat' split) <;> first | rfl | omega | (exfalso; omega)), by rw [ht9]; exact hPf, va_K.moved hW9.alike hK, hDf⟩, hS.F ht9⟩) hS.2.2 dX5_part_38
  · refine lv_aload_n hx hb dX5_part_9 rfl (lv_at hl 0 rfl) ?_
    refine q_bipush hx hb dX5_part_10 rfl ?_
    refine q_cEi (z := (-2)) (b := (ob 0)) (As := [.int (zI (-2))]) (rest := []) (w1 := wWW g ob a0 a1 a2 a3 q w0 w1 w2 w3 kp tx tz fa fb (rfu rf (-2))) ⟨hx, hb, hml, hown, hts⟩ hP hD hK hT hS hA (kX5_refuse l dC dI g tt _ ob a0 a1 a2 a3 q w0 w1 w2 w3 kp tx tz fa fb rf (-2) (by decide)) (cwV 1 hts gX5_part_X5_refuse rfl rfl rfl (by decide +kernel) ⟨Nat.le_of_ble_eq_true rfl, Nat.le_of_ble_eq_true rfl⟩) 0 4 rfl rfl rfl rfl hl.1 rfl (Nat.le_of_ble_eq_true rfl) dX5_part_12 ⟨Nat.le_of_ble_eq_true rfl, Nat.le_of_ble_eq_true rfl⟩ (fun H locs hP hD hS => ?_)
    refine q_i2l hx hb dX5_part_15 (by omega) ?_
    have hPf : va_P (dC, dI) vwCl (wWW g ob a0 a1 a2 a3 q w0 w1 w2 w3 kp tx tz fa fb (rfa rf (cc_01 x1))) H := by rw [(show (rfa rf (cc_01 x1)) = rfu rf (-2) from by first | exact rfa_0 (by unfold cc_01; (repeat' split) <;> omega) | exact rfa_n (by unfold cc_01; (repeat' split) <;> omega) (by decide))]; exact hP
    have hDf : va_D A (wWW g ob a0 a1 a2 a3 q w0 w1 w2 w3 kp tx tz fa fb (rfa rf (cc_01 x1))) := by rw [(show (rfa rf (cc_01 x1)) = rfu rf (-2) from by first | exact rfa_0 (by unfold cc_01; (repeat' split) <;> omega) | exact rfa_n (by unfold cc_01; (repeat' split) <;> omega) (by decide))]; exact hD
    exact W.lret hx hb hr (fun t9 ht9 hW9 => ⟨⟨_, (), rfl, congrArg zL (show (-2) = ca_part fa fb x1 from by unfold ca_part; (repeat' split) <;> first | rfl | omega | (exfalso; omega)), by rw [ht9]; exact hPf, va_K.moved hW9.alike hK, hDf⟩, hS.F ht9⟩) hS.2.2 dX5_part_16
set_option maxHeartbeats 4000000 in
set_option maxRecDepth 100000 in
theorem kX5_image (l : Launch) (dC : Nat → ClassId) (dI : Nat → Nat → Nat) (g : Nat → ClassId) (tt : Nat → Nat) (sz : Nat) (ob a0 a1 a2 a3 q : Nat → Nat) (w0 w1 w2 w3 kp tx tz : Int → Int) (fa fb : Int) (rf : Int → Int) (x1 : Int) (h1 : rI x1) : Met l yX5_image wsX5_image ({ frames := 2, cells := 0, slots := 0, locals := 61 }) (va_Pc [.ref (ob 0), .int (zI x1)] (eQ (dC, dI) (wTy g) (wWW g ob a0 a1 a2 a3 q w0 w1 w2 w3 kp tx tz fa fb rf) tt sz)) (va_Qi (fun r (_ : Unit) => r = zI (ca_image x1)) (fQ (dC, dI) (wTy g) (va_A (wWW g ob a0 a1 a2 a3 q w0 w1 w2 w3 kp tx tz fa fb rf) sz) (wWW g ob a0 a1 a2 a3 q w0 w1 (cw_image w0 w2 x1 0) (cw_image w0 w3 x1 1) (ck_image kp x1) tx tz fa fb (rfa rf (cc_01 x1)))) (va_A (wWW g ob a0 a1 a2 a3 q w0 w1 w2 w3 kp tx tz fa fb rf) sz)) 0 0 (va_A (wWW g ob a0 a1 a2 a3 q w0 w1 w2 w3 kp tx tz fa fb rf) sz) := by
  refine Met.ofW (cc := cX5_image) (maxL := 2) (ret := (some .int)) (by decide) rfl ?_
  intro p e s m args below meth c s₁ B hml hv
  obtain ⟨rfl, hsz, hP, hK, hD0, hT⟩ := hv
  have hx := B.exec
  have hb := B.bytes
  have hr := B.returns
  have hts := atoms_spec (ws := wsX5_image) B.pre
  have hown : s.vm.findClass RX5 = some m.cls := findClass_of_methodNamed B.named
  have hlocks := B.notSynchronized
  subst hsz
  have hD := hD0.self (sz := s.heap.size)
  generalize hAe : va_A (wWW g ob a0 a1 a2 a3 q w0 w1 w2 w3 kp tx tz fa fb rf) s.heap.size = A at hD hT ⊢
  have hA : ∀ q : Nat, s.heap.size ≤ q → A q := fun q h => by rw [← hAe]; exact Or.inr h
  have hS : va_S A s.heap s.heap [] := va_S.rf
  have hl := lv_entry ([.ref (ob 0), .int (zI x1)]) (n := 2) (Nat.le_of_ble_eq_true rfl)
  rw [lg_entry_eq]
  generalize (lg_sl ([.ref (ob 0), .int (zI x1)]) ++ List.replicate (2 - (lg_sl ([.ref (ob 0), .int (zI x1)])).length) Slot.unset).toArray = ls at hl ⊢
  have hl : lv_has ls 2 [(0, .ref (ob 0)), (1, .int (zI x1))] := hl
  have kf10 := hts (.fieldLink RX5 10 "WrongWay" "now" "LWrongWay$House;") (by decide +kernel)
  have kf19 := hts (.fieldLink RX5 19 "WrongWay" "images" "[LWrongWay$House;") (by decide +kernel)
  have kf23 := hts (.fieldLink RX5 23 "WrongWay" "kept" "[Z") (by decide +kernel)
  have iX5 := (fun w h => List.mem_cons_of_mem _ (List.mem_append_left _ (List.mem_append_right _ h)) : ∀ w ∈ u_ws RX5 TX5 8, w ∈ wsX5_image)
  refine lv_iload_n hx hb dX5_image_0 rfl (lv_at hl 1 rfl) ?_
  refine q_iconst hx hb dX5_image_1 ?_
  refine q_iconst hx hb dX5_image_2 ?_
  refine q_cSi (z := bz (0 ≤ x1 ∧ x1 ≤ 1)) (As := [.int (zI x1), .int (zI 0), .int (zI 1)]) (rest := []) ⟨hx, hb, hml, hown, hts⟩ (kX5_isWithin l dC dI g tt x1 0 1 (by omega)) (va_cwS 3 hts gX5_image_X5_isWithin rfl rfl rfl (by decide +kernel) ⟨Nat.le_of_ble_eq_true rfl, Nat.le_of_ble_eq_true rfl⟩) (hP.sub (ws' := []) [] rfl) hK hT hS rfl hl.1 rfl (Nat.le_of_ble_eq_true rfl) dX5_image_3 ⟨Nat.le_of_ble_eq_true rfl, Nat.le_of_ble_eq_true rfl⟩ ?_
  refine q_bz_ne (tgt := 16) hx hb dX5_image_6 (by decide) (fun c_1 => ?_) (fun c_1 => ?_)
  · refine lv_aload_n hx hb dX5_image_16 rfl (lv_at hl 0 rfl) ?_
    refine va_get (D := (dC, dI)) (ci := 4) (v := .ref (ob 1)) (C := RX5) (T := TX5) (N := 8) hx hb hts iX5 hown hK hP 0 rfl rfl 2 (by decide) kf19 (fun _ h9 => h9) rfl dX5_image_17 ?_
    refine lv_iload_n hx hb dX5_image_20 rfl (lv_at hl 1 rfl) ?_
    rcases (show x1 = 0 ∨ x1 = 1 from by omega) with c_2 | c_2
    · refine q_imld (j := 0) hx hb hK hP 41 3 rfl rfl c_2 (by decide) dX5_image_21 rfl ?_
      refine lv_aload_n hx hb dX5_image_22 rfl (lv_at hl 0 rfl) ?_
      refine va_get (D := (dC, dI)) (ci := 4) (v := .ref (a0 0)) (C := RX5) (T := TX5) (N := 8) hx hb hts iX5 hown hK hP 0 rfl rfl 0 (by decide) kf10 (fun _ h9 => h9) rfl dX5_image_23 ?_
      refine q_cVqv (b := (a2 0)) (As := [.ref (a0 0)]) (rest := []) (wc := wH2 g a2 w2 a0 w0) (w1 := wH2 g a2 (h_copy w2 w0) a0 w0) (wr := [(ob 0, .inr (4, [.ref (a0 0), .ref (a1 0), .ref (ob 1), .ref (ob 2), .ref (ob 3), .ref (q 0), .ref (ob 4), .ref (ob 5)])), (a1 0, .inr (1, [.int (zI (w1 1)), .int (zI (w1 0)), .int (zI (w1 2)), .int (zI (w1 3)), .int (zI (w1 4)), .ref (a1 1), .ref (a1 2), .ref (a1 3), .ref (a1 4), .ref (a1 5), .ref (a1 6), .ref (a1 7), .ref (a1 8), .ref (a1 9)])), (a1 1, .inl (g 0, 4, .inl (fun k => zI (w1 (5 + k))))), (a1 2, .inl (g 0, 4, .inl (fun k => zI (w1 (9 + k))))), (a1 3, .inl (g 0, 2, .inl (fun k => zI (w1 (13 + k))))), (a1 4, .inl (g 0, 2, .inl (fun k => zI (w1 (15 + k))))), (a1 5, .inl (g 0, 6, .inl (fun k => zI (w1 (17 + 4 * k))))), (a1 6, .inl (g 0, 6, .inl (fun k => zI (w1 (18 + 4 * k))))), (a1 7, .inl (g 0, 6, .inl (fun k => zI (w1 (19 + 4 * k))))), (a1 8, .inl (g 0, 6, .inl (fun k => zI (w1 (20 + 4 * k))))), (a1 9, .inl (g 0, 8, .inl (fun k => zI (w1 (41 + k))))), (a3 0, .inr (1, [.int (zI (w3 1)), .int (zI (w3 0)), .int (zI (w3 2)), .int (zI (w3 3)), .int (zI (w3 4)), .ref (a3 1), .ref (a3 2), .ref (a3 3), .ref (a3 4), .ref (a3 5), .ref (a3 6), .ref (a3 7), .ref (a3 8), .ref (a3 9)])), (a3 1, .inl (g 0, 4, .inl (fun k => zI (w3 (5 + k))))), (a3 2, .inl (g 0, 4, .inl (fun k => zI (w3 (9 + k))))), (a3 3, .inl (g 0, 2, .inl (fun k => zI (w3 (13 + k))))), (a3 4, .inl (g 0, 2, .inl (fun k => zI (w3 (15 + k))))), (a3 5, .inl (g 0, 6, .inl (fun k => zI (w3 (17 + 4 * k))))), (a3 6, .inl (g 0, 6, .inl (fun k => zI (w3 (18 + 4 * k))))), (a3 7, .inl (g 0, 6, .inl (fun k => zI (w3 (19 + 4 * k))))), (a3 8, .inl (g 0, 6, .inl (fun k => zI (w3 (20 + 4 * k))))), (a3 9, .inl (g 0, 8, .inl (fun k => zI (w3 (41 + k))))), (ob 1, .inl (g 3, 2, .inr (.inr (.inr (.inr (im2 (a2 0) (a3 0))))))), (ob 2, .inl (g 2, 2, .inl (fun k => zI (kp k)))), (ob 3, .inr (3, [.ref (a0 0)])), (q 0, .inr (2, [.ref (q 1), .int (zI (tz 0)), .int (zI (tz 1)), .int (zI (tz 2)), .int (zI (tz 3)), .int (zI (tz 4))])), (q 1, .inl (g 1, 150, .inl (fun k => zI (tx k)))), (ob 4, .inr (0, [.long (zL fa), .long (zL fb)])), (ob 5, .inl (g 0, 3, .inl (fun k => zI (rf k))))]) [21, 22, 23, 24, 25, 26, 27, 28, 29, 30, 1, 2, 3, 4, 5, 6, 7, 8, 9, 10] [0, 11, 12, 13, 14, 15, 16, 17, 18, 19, 20, 31, 32, 33, 34, 35, 36, 37, 38, 39, 40, 41, 42, 43, 44, 45, 46, 47] ⟨hx, hb, hml, hown, hts⟩ hP hD hK hT hS hA (kX1_copy l dC dI g tt _ a2 w2 a0 w0) (cwV 1 hts gX5_image_X1_copy rfl rfl rfl (by decide +kernel) ⟨Nat.le_of_ble_eq_true rfl, Nat.le_of_ble_eq_true rfl⟩) rfl rfl (by decide) (by decide) (by decide) 0 1 rfl rfl rfl rfl hl.1 rfl (Nat.le_of_ble_eq_true rfl) dX5_image_26 ⟨Nat.le_of_ble_eq_true rfl, Nat.le_of_ble_eq_true rfl⟩ (fun H locs hP hD hS => ?_)
      have hP : va_P (dC, dI) vwCl (wWW g ob a0 a1 a2 a3 q w0 w1 (h_copy w2 w0) w3 kp tx tz fa fb rf) H := hP.sub [0, 38, 39, 40, 41, 42, 43, 44, 45, 46, 47, 1, 2, 3, 4, 5, 6, 7, 8, 9, 10, 28, 29, 30, 31, 32, 33, 34, 35, 36, 37, 11, 12, 13, 14, 15, 16, 17, 18, 19, 20, 21, 22, 23, 24, 25, 26, 27] rfl
      have hD : va_D A (wWW g ob a0 a1 a2 a3 q w0 w1 (h_copy w2 w0) w3 kp tx tz fa fb rf) := hD.sub [0, 38, 39, 40, 41, 42, 43, 44, 45, 46, 47, 1, 2, 3, 4, 5, 6, 7, 8, 9, 10, 28, 29, 30, 31, 32, 33, 34, 35, 36, 37, 11, 12, 13, 14, 15, 16, 17, 18, 19, 20, 21, 22, 23, 24, 25, 26, 27] (by decide) rfl
      refine lv_aload_n hx hb dX5_image_29 rfl (lv_at hl 0 rfl) ?_
      refine va_get (D := (dC, dI)) (ci := 4) (v := .ref (ob 2)) (C := RX5) (T := TX5) (N := 8) hx hb hts iX5 hown hK hP 0 rfl rfl 3 (by decide) kf23 (fun _ h9 => h9) rfl dX5_image_30 ?_
      refine lv_iload_n hx hb dX5_image_33 rfl (lv_at hl 1 rfl) ?_
      refine q_iconst hx hb dX5_image_34 ?_
      refine q_zast (F := fun k => kp k) (v := 1) hx hb hK hP hD hS 42 2 rfl rfl (by decide) (by omega) (rfl) dX5_image_35 (fun H locs hP hD hS => ?_)
      have hP : va_P (dC, dI) vwCl (wWW g ob a0 a1 a2 a3 q w0 w1 (h_copy w2 w0) w3 (wset kp x1 1) tx tz fa fb rf) H := hP
      have hD : va_D A (wWW g ob a0 a1 a2 a3 q w0 w1 (h_copy w2 w0) w3 (wset kp x1 1) tx tz fa fb rf) := hD
      refine q_iconst hx hb dX5_image_36 ?_
      have hPf : va_P (dC, dI) vwCl (wWW g ob a0 a1 a2 a3 q w0 w1 (cw_image w0 w2 x1 0) (cw_image w0 w3 x1 1) (ck_image kp x1) tx tz fa fb (rfa rf (cc_01 x1))) H := by rw [(show (cw_image w0 w2 x1 0) = h_copy w2 w0 from by unfold cw_image; (repeat' split) <;> first | rfl | (exfalso; omega)), (show (cw_image w0 w3 x1 1) = w3 from by unfold cw_image; (repeat' split) <;> first | rfl | (exfalso; omega)), (show (ck_image kp x1) = wset kp x1 1 from by unfold ck_image; (repeat' split) <;> first | rfl | (exfalso; omega)), (show (rfa rf (cc_01 x1)) = rf from by first | exact rfa_0 (by unfold cc_01; (repeat' split) <;> omega) | exact rfa_n (by unfold cc_01; (repeat' split) <;> omega) (by decide))]; exact hP
      have hDf : va_D A (wWW g ob a0 a1 a2 a3 q w0 w1 (cw_image w0 w2 x1 0) (cw_image w0 w3 x1 1) (ck_image kp x1) tx tz fa fb (rfa rf (cc_01 x1))) := by rw [(show (cw_image w0 w2 x1 0) = h_copy w2 w0 from by unfold cw_image; (repeat' split) <;> first | rfl | (exfalso; omega)), (show (cw_image w0 w3 x1 1) = w3 from by unfold cw_image; (repeat' split) <;> first | rfl | (exfalso; omega)), (show (ck_image kp x1) = wset kp x1 1 from by unfold ck_image; (repeat' split) <;> first | rfl | (exfalso; omega)), (show (rfa rf (cc_01 x1)) = rf from by first | exact rfa_0 (by unfold cc_01; (repeat' split) <;> omega) | exact rfa_n (by unfold cc_01; (repeat' split) <;> omega) (by decide))]; exact hD
      exact W.iret hx hb hr (fun t9 ht9 hW9 => ⟨⟨_, (), rfl, congrArg zI (show 1 = ca_image x1 from by unfold ca_image; (repeat' split) <;> first | rfl | omega | (exfalso; omega)), by rw [ht9]; exact hPf, va_K.moved hW9.alike hK, hDf⟩, hS.F ht9⟩) hS.2.2 dX5_image_37
    · refine q_imld (j := 1) hx hb hK hP 41 3 rfl rfl c_2 (by decide) dX5_image_21 rfl ?_
      refine lv_aload_n hx hb dX5_image_22 rfl (lv_at hl 0 rfl) ?_
      refine va_get (D := (dC, dI)) (ci := 4) (v := .ref (a0 0)) (C := RX5) (T := TX5) (N := 8) hx hb hts iX5 hown hK hP 0 rfl rfl 0 (by decide) kf10 (fun _ h9 => h9) rfl dX5_image_23 ?_
      refine q_cVqv (b := (a3 0)) (As := [.ref (a0 0)]) (rest := []) (wc := wH2 g a3 w3 a0 w0) (w1 := wH2 g a3 (h_copy w3 w0) a0 w0) (wr := [(ob 0, .inr (4, [.ref (a0 0), .ref (a1 0), .ref (ob 1), .ref (ob 2), .ref (ob 3), .ref (q 0), .ref (ob 4), .ref (ob 5)])), (a1 0, .inr (1, [.int (zI (w1 1)), .int (zI (w1 0)), .int (zI (w1 2)), .int (zI (w1 3)), .int (zI (w1 4)), .ref (a1 1), .ref (a1 2), .ref (a1 3), .ref (a1 4), .ref (a1 5), .ref (a1 6), .ref (a1 7), .ref (a1 8), .ref (a1 9)])), (a1 1, .inl (g 0, 4, .inl (fun k => zI (w1 (5 + k))))), (a1 2, .inl (g 0, 4, .inl (fun k => zI (w1 (9 + k))))), (a1 3, .inl (g 0, 2, .inl (fun k => zI (w1 (13 + k))))), (a1 4, .inl (g 0, 2, .inl (fun k => zI (w1 (15 + k))))), (a1 5, .inl (g 0, 6, .inl (fun k => zI (w1 (17 + 4 * k))))), (a1 6, .inl (g 0, 6, .inl (fun k => zI (w1 (18 + 4 * k))))), (a1 7, .inl (g 0, 6, .inl (fun k => zI (w1 (19 + 4 * k))))), (a1 8, .inl (g 0, 6, .inl (fun k => zI (w1 (20 + 4 * k))))), (a1 9, .inl (g 0, 8, .inl (fun k => zI (w1 (41 + k))))), (a2 0, .inr (1, [.int (zI (w2 1)), .int (zI (w2 0)), .int (zI (w2 2)), .int (zI (w2 3)), .int (zI (w2 4)), .ref (a2 1), .ref (a2 2), .ref (a2 3), .ref (a2 4), .ref (a2 5), .ref (a2 6), .ref (a2 7), .ref (a2 8), .ref (a2 9)])), (a2 1, .inl (g 0, 4, .inl (fun k => zI (w2 (5 + k))))), (a2 2, .inl (g 0, 4, .inl (fun k => zI (w2 (9 + k))))), (a2 3, .inl (g 0, 2, .inl (fun k => zI (w2 (13 + k))))), (a2 4, .inl (g 0, 2, .inl (fun k => zI (w2 (15 + k))))), (a2 5, .inl (g 0, 6, .inl (fun k => zI (w2 (17 + 4 * k))))), (a2 6, .inl (g 0, 6, .inl (fun k => zI (w2 (18 + 4 * k))))), (a2 7, .inl (g 0, 6, .inl (fun k => zI (w2 (19 + 4 * k))))), (a2 8, .inl (g 0, 6, .inl (fun k => zI (w2 (20 + 4 * k))))), (a2 9, .inl (g 0, 8, .inl (fun k => zI (w2 (41 + k))))), (ob 1, .inl (g 3, 2, .inr (.inr (.inr (.inr (im2 (a2 0) (a3 0))))))), (ob 2, .inl (g 2, 2, .inl (fun k => zI (kp k)))), (ob 3, .inr (3, [.ref (a0 0)])), (q 0, .inr (2, [.ref (q 1), .int (zI (tz 0)), .int (zI (tz 1)), .int (zI (tz 2)), .int (zI (tz 3)), .int (zI (tz 4))])), (q 1, .inl (g 1, 150, .inl (fun k => zI (tx k)))), (ob 4, .inr (0, [.long (zL fa), .long (zL fb)])), (ob 5, .inl (g 0, 3, .inl (fun k => zI (rf k))))]) [31, 32, 33, 34, 35, 36, 37, 38, 39, 40, 1, 2, 3, 4, 5, 6, 7, 8, 9, 10] [0, 11, 12, 13, 14, 15, 16, 17, 18, 19, 20, 21, 22, 23, 24, 25, 26, 27, 28, 29, 30, 41, 42, 43, 44, 45, 46, 47] ⟨hx, hb, hml, hown, hts⟩ hP hD hK hT hS hA (kX1_copy l dC dI g tt _ a3 w3 a0 w0) (cwV 1 hts gX5_image_X1_copy rfl rfl rfl (by decide +kernel) ⟨Nat.le_of_ble_eq_true rfl, Nat.le_of_ble_eq_true rfl⟩) rfl rfl (by decide) (by decide) (by decide) 0 1 rfl rfl rfl rfl hl.1 rfl (Nat.le_of_ble_eq_true rfl) dX5_image_26 ⟨Nat.le_of_ble_eq_true rfl, Nat.le_of_ble_eq_true rfl⟩ (fun H locs hP hD hS => ?_)
      have hP : va_P (dC, dI) vwCl (wWW g ob a0 a1 a2 a3 q w0 w1 w2 (h_copy w3 w0) kp tx tz fa fb rf) H := hP.sub [0, 38, 39, 40, 41, 42, 43, 44, 45, 46, 47, 1, 2, 3, 4, 5, 6, 7, 8, 9, 10, 11, 12, 13, 14, 15, 16, 17, 18, 19, 20, 28, 29, 30, 31, 32, 33, 34, 35, 36, 37, 21, 22, 23, 24, 25, 26, 27] rfl
      have hD : va_D A (wWW g ob a0 a1 a2 a3 q w0 w1 w2 (h_copy w3 w0) kp tx tz fa fb rf) := hD.sub [0, 38, 39, 40, 41, 42, 43, 44, 45, 46, 47, 1, 2, 3, 4, 5, 6, 7, 8, 9, 10, 11, 12, 13, 14, 15, 16, 17, 18, 19, 20, 28, 29, 30, 31, 32, 33, 34, 35, 36, 37, 21, 22, 23, 24, 25, 26, 27] (by decide) rfl
      refine lv_aload_n hx hb dX5_image_29 rfl (lv_at hl 0 rfl) ?_
      refine va_get (D := (dC, dI)) (ci := 4) (v := .ref (ob 2)) (C := RX5) (T := TX5) (N := 8) hx hb hts iX5 hown hK hP 0 rfl rfl 3 (by decide) kf23 (fun _ h9 => h9) rfl dX5_image_30 ?_
      refine lv_iload_n hx hb dX5_image_33 rfl (lv_at hl 1 rfl) ?_
      refine q_iconst hx hb dX5_image_34 ?_
      refine q_zast (F := fun k => kp k) (v := 1) hx hb hK hP hD hS 42 2 rfl rfl (by decide) (by omega) (rfl) dX5_image_35 (fun H locs hP hD hS => ?_)
      have hP : va_P (dC, dI) vwCl (wWW g ob a0 a1 a2 a3 q w0 w1 w2 (h_copy w3 w0) (wset kp x1 1) tx tz fa fb rf) H := hP
      have hD : va_D A (wWW g ob a0 a1 a2 a3 q w0 w1 w2 (h_copy w3 w0) (wset kp x1 1) tx tz fa fb rf) := hD
      refine q_iconst hx hb dX5_image_36 ?_
      have hPf : va_P (dC, dI) vwCl (wWW g ob a0 a1 a2 a3 q w0 w1 (cw_image w0 w2 x1 0) (cw_image w0 w3 x1 1) (ck_image kp x1) tx tz fa fb (rfa rf (cc_01 x1))) H := by rw [(show (cw_image w0 w2 x1 0) = w2 from by unfold cw_image; (repeat' split) <;> first | rfl | (exfalso; omega)), (show (cw_image w0 w3 x1 1) = h_copy w3 w0 from by unfold cw_image; (repeat' split) <;> first | rfl | (exfalso; omega)), (show (ck_image kp x1) = wset kp x1 1 from by unfold ck_image; (repeat' split) <;> first | rfl | (exfalso; omega)), (show (rfa rf (cc_01 x1)) = rf from by first | exact rfa_0 (by unfold cc_01; (repeat' split) <;> omega) | exact rfa_n (by unfold cc_01; (repeat' split) <;> omega) (by decide))]; exact hP
      have hDf : va_D A (wWW g ob a0 a1 a2 a3 q w0 w1 (cw_image w0 w2 x1 0) (cw_image w0 w3 x1 1) (ck_image kp x1) tx tz fa fb (rfa rf (cc_01 x1))) := by rw [(show (cw_image w0 w2 x1 0) = w2 from by unfold cw_image; (repeat' split) <;> first | rfl | (exfalso; omega)), (show (cw_image w0 w3 x1 1) = h_copy w3 w0 from by unfold cw_image; (repeat' split) <;> first | rfl | (exfalso; omega)), (show (ck_image kp x1) = wset kp x1 1 from by unfold ck_image; (repeat' split) <;> first | rfl | (exfalso; omega)), (show (rfa rf (cc_01 x1)) = rf from by first | exact rfa_0 (by unfold cc_01; (repeat' split) <;> omega) | exact rfa_n (by unfold cc_01; (repeat' split) <;> omega) (by decide))]; exact hD
      exact W.iret hx hb hr (fun t9 ht9 hW9 => ⟨⟨_, (), rfl, congrArg zI (show 1 = ca_image x1 from by unfold ca_image; (repeat' split) <;> first | rfl | omega | (exfalso; omega)), by rw [ht9]; exact hPf, va_K.moved hW9.alike hK, hDf⟩, hS.F ht9⟩) hS.2.2 dX5_image_37
  · refine lv_aload_n hx hb dX5_image_9 rfl (lv_at hl 0 rfl) ?_
    refine q_bipush hx hb dX5_image_10 rfl ?_
    refine q_cEi (z := (-2)) (b := (ob 0)) (As := [.int (zI (-2))]) (rest := []) (w1 := wWW g ob a0 a1 a2 a3 q w0 w1 w2 w3 kp tx tz fa fb (rfu rf (-2))) ⟨hx, hb, hml, hown, hts⟩ hP hD hK hT hS hA (kX5_refuse l dC dI g tt _ ob a0 a1 a2 a3 q w0 w1 w2 w3 kp tx tz fa fb rf (-2) (by decide)) (cwV 1 hts gX5_image_X5_refuse rfl rfl rfl (by decide +kernel) ⟨Nat.le_of_ble_eq_true rfl, Nat.le_of_ble_eq_true rfl⟩) 0 4 rfl rfl rfl rfl hl.1 rfl (Nat.le_of_ble_eq_true rfl) dX5_image_12 ⟨Nat.le_of_ble_eq_true rfl, Nat.le_of_ble_eq_true rfl⟩ (fun H locs hP hD hS => ?_)
    have hPf : va_P (dC, dI) vwCl (wWW g ob a0 a1 a2 a3 q w0 w1 (cw_image w0 w2 x1 0) (cw_image w0 w3 x1 1) (ck_image kp x1) tx tz fa fb (rfa rf (cc_01 x1))) H := by rw [(show (cw_image w0 w2 x1 0) = w2 from by unfold cw_image; (repeat' split) <;> first | rfl | (exfalso; omega)), (show (cw_image w0 w3 x1 1) = w3 from by unfold cw_image; (repeat' split) <;> first | rfl | (exfalso; omega)), (show (ck_image kp x1) = kp from by unfold ck_image; (repeat' split) <;> first | rfl | (exfalso; omega)), (show (rfa rf (cc_01 x1)) = rfu rf (-2) from by first | exact rfa_0 (by unfold cc_01; (repeat' split) <;> omega) | exact rfa_n (by unfold cc_01; (repeat' split) <;> omega) (by decide))]; exact hP
    have hDf : va_D A (wWW g ob a0 a1 a2 a3 q w0 w1 (cw_image w0 w2 x1 0) (cw_image w0 w3 x1 1) (ck_image kp x1) tx tz fa fb (rfa rf (cc_01 x1))) := by rw [(show (cw_image w0 w2 x1 0) = w2 from by unfold cw_image; (repeat' split) <;> first | rfl | (exfalso; omega)), (show (cw_image w0 w3 x1 1) = w3 from by unfold cw_image; (repeat' split) <;> first | rfl | (exfalso; omega)), (show (ck_image kp x1) = kp from by unfold ck_image; (repeat' split) <;> first | rfl | (exfalso; omega)), (show (rfa rf (cc_01 x1)) = rfu rf (-2) from by first | exact rfa_0 (by unfold cc_01; (repeat' split) <;> omega) | exact rfa_n (by unfold cc_01; (repeat' split) <;> omega) (by decide))]; exact hD
    exact W.iret hx hb hr (fun t9 ht9 hW9 => ⟨⟨_, (), rfl, congrArg zI (show (-2) = ca_image x1 from by unfold ca_image; (repeat' split) <;> first | rfl | omega | (exfalso; omega)), by rw [ht9]; exact hPf, va_K.moved hW9.alike hK, hDf⟩, hS.F ht9⟩) hS.2.2 dX5_image_15
set_option maxHeartbeats 4000000 in
set_option maxRecDepth 100000 in
theorem kX5_from (l : Launch) (dC : Nat → ClassId) (dI : Nat → Nat → Nat) (g : Nat → ClassId) (tt : Nat → Nat) (sz : Nat) (ob a0 a1 a2 a3 q : Nat → Nat) (w0 w1 w2 w3 kp tx tz : Int → Int) (fa fb : Int) (rf : Int → Int) (x1 : Int) (h1 : rI x1) (hkp : (0 ≤ kp 0 ∧ kp 0 ≤ 1) ∧ (0 ≤ kp 1 ∧ kp 1 ≤ 1)) : Met l yX5_from wsX5_from ({ frames := 2, cells := 0, slots := 0, locals := 61 }) (va_Pc [.ref (ob 0), .int (zI x1)] (eQ (dC, dI) (wTy g) (wWW g ob a0 a1 a2 a3 q w0 w1 w2 w3 kp tx tz fa fb rf) tt sz)) (va_Qi (fun r (_ : Unit) => r = zI (ca_from kp x1)) (fQ (dC, dI) (wTy g) (va_A (wWW g ob a0 a1 a2 a3 q w0 w1 w2 w3 kp tx tz fa fb rf) sz) (wWW g ob a0 a1 a2 a3 q (cw_from w0 w2 w3 kp x1) w1 w2 w3 kp tx tz fa fb (rfa rf (cc_from kp x1)))) (va_A (wWW g ob a0 a1 a2 a3 q w0 w1 w2 w3 kp tx tz fa fb rf) sz)) 0 0 (va_A (wWW g ob a0 a1 a2 a3 q w0 w1 w2 w3 kp tx tz fa fb rf) sz) := by
  refine Met.ofW (cc := cX5_from) (maxL := 2) (ret := (some .int)) (by decide) rfl ?_
  intro p e s m args below meth c s₁ B hml hv
  obtain ⟨rfl, hsz, hP, hK, hD0, hT⟩ := hv
  have hx := B.exec
  have hb := B.bytes
  have hr := B.returns
  have hts := atoms_spec (ws := wsX5_from) B.pre
  have hown : s.vm.findClass RX5 = some m.cls := findClass_of_methodNamed B.named
  have hlocks := B.notSynchronized
  subst hsz
  have hD := hD0.self (sz := s.heap.size)
  generalize hAe : va_A (wWW g ob a0 a1 a2 a3 q w0 w1 w2 w3 kp tx tz fa fb rf) s.heap.size = A at hD hT ⊢
  have hA : ∀ q : Nat, s.heap.size ≤ q → A q := fun q h => by rw [← hAe]; exact Or.inr h
  have hS : va_S A s.heap s.heap [] := va_S.rf
  have hl := lv_entry ([.ref (ob 0), .int (zI x1)]) (n := 2) (Nat.le_of_ble_eq_true rfl)
  rw [lg_entry_eq]
  generalize (lg_sl ([.ref (ob 0), .int (zI x1)]) ++ List.replicate (2 - (lg_sl ([.ref (ob 0), .int (zI x1)])).length) Slot.unset).toArray = ls at hl ⊢
  have hl : lv_has ls 2 [(0, .ref (ob 0)), (1, .int (zI x1))] := hl
  have kf10 := hts (.fieldLink RX5 10 "WrongWay" "now" "LWrongWay$House;") (by decide +kernel)
  have kf19 := hts (.fieldLink RX5 19 "WrongWay" "images" "[LWrongWay$House;") (by decide +kernel)
  have kf23 := hts (.fieldLink RX5 23 "WrongWay" "kept" "[Z") (by decide +kernel)
  have iX5 := (fun w h => List.mem_cons_of_mem _ (List.mem_append_left _ (List.mem_append_right _ h)) : ∀ w ∈ u_ws RX5 TX5 8, w ∈ wsX5_from)
  refine lv_iload_n hx hb dX5_from_0 rfl (lv_at hl 1 rfl) ?_
  refine q_iconst hx hb dX5_from_1 ?_
  refine q_iconst hx hb dX5_from_2 ?_
  refine q_cSi (z := bz (0 ≤ x1 ∧ x1 ≤ 1)) (As := [.int (zI x1), .int (zI 0), .int (zI 1)]) (rest := []) ⟨hx, hb, hml, hown, hts⟩ (kX5_isWithin l dC dI g tt x1 0 1 (by omega)) (va_cwS 3 hts gX5_from_X5_isWithin rfl rfl rfl (by decide +kernel) ⟨Nat.le_of_ble_eq_true rfl, Nat.le_of_ble_eq_true rfl⟩) (hP.sub (ws' := []) [] rfl) hK hT hS rfl hl.1 rfl (Nat.le_of_ble_eq_true rfl) dX5_from_3 ⟨Nat.le_of_ble_eq_true rfl, Nat.le_of_ble_eq_true rfl⟩ ?_
  refine q_bz_ne (tgt := 16) hx hb dX5_from_6 (by decide) (fun c_1 => ?_) (fun c_1 => ?_)
  · refine lv_aload_n hx hb dX5_from_16 rfl (lv_at hl 0 rfl) ?_
    have hkx : 0 ≤ kp x1 ∧ kp x1 ≤ 1 := by rcases (show x1 = 0 ∨ x1 = 1 by omega) with e | e <;> rw [e] <;> omega
    refine va_get (D := (dC, dI)) (ci := 4) (v := .ref (ob 2)) (C := RX5) (T := TX5) (N := 8) hx hb hts iX5 hown hK hP 0 rfl rfl 3 (by decide) kf23 (fun _ h9 => h9) rfl dX5_from_17 ?_
    refine lv_iload_n hx hb dX5_from_20 rfl (lv_at hl 1 rfl) ?_
    refine q_zald (F := fun k => kp k) (v := kp x1) hx hb hK hP 42 2 rfl rfl (by decide) (by omega) rfl dX5_from_21 ?_
    refine q_if_ne (tgt := 32) hx hb dX5_from_22 (by decide) (by omega) (fun c_2 => ?_) (fun c_2 => ?_)
    · refine lv_aload_n hx hb dX5_from_32 rfl (lv_at hl 0 rfl) ?_
      refine va_get (D := (dC, dI)) (ci := 4) (v := .ref (a0 0)) (C := RX5) (T := TX5) (N := 8) hx hb hts iX5 hown hK hP 0 rfl rfl 0 (by decide) kf10 (fun _ h9 => h9) rfl dX5_from_33 ?_
      refine lv_aload_n hx hb dX5_from_36 rfl (lv_at hl 0 rfl) ?_
      refine va_get (D := (dC, dI)) (ci := 4) (v := .ref (ob 1)) (C := RX5) (T := TX5) (N := 8) hx hb hts iX5 hown hK hP 0 rfl rfl 2 (by decide) kf19 (fun _ h9 => h9) rfl dX5_from_37 ?_
      refine lv_iload_n hx hb dX5_from_40 rfl (lv_at hl 1 rfl) ?_
      rcases (show x1 = 0 ∨ x1 = 1 from by omega) with c_3 | c_3
      · refine q_imld (j := 0) hx hb hK hP 41 3 rfl rfl c_3 (by decide) dX5_from_41 rfl ?_
        refine q_cVqv (b := (a0 0)) (As := [.ref (a2 0)]) (rest := []) (wc := wH2 g a0 w0 a2 w2) (w1 := wH2 g a0 (h_copy w0 w2) a2 w2) (wr := [(ob 0, .inr (4, [.ref (a0 0), .ref (a1 0), .ref (ob 1), .ref (ob 2), .ref (ob 3), .ref (q 0), .ref (ob 4), .ref (ob 5)])), (a1 0, .inr (1, [.int (zI (w1 1)), .int (zI (w1 0)), .int (zI (w1 2)), .int (zI (w1 3)), .int (zI (w1 4)), .ref (a1 1), .ref (a1 2), .ref (a1 3), .ref (a1 4), .ref (a1 5), .ref (a1 6), .ref (a1 7), .ref (a1 8), .ref (a1 9)])), (a1 1, .inl (g 0, 4, .inl (fun k => zI (w1 (5 + k))))), (a1 2, .inl (g 0, 4, .inl (fun k => zI (w1 (9 + k))))), (a1 3, .inl (g 0, 2, .inl (fun k => zI (w1 (13 + k))))), (a1 4, .inl (g 0, 2, .inl (fun k => zI (w1 (15 + k))))), (a1 5, .inl (g 0, 6, .inl (fun k => zI (w1 (17 + 4 * k))))), (a1 6, .inl (g 0, 6, .inl (fun k => zI (w1 (18 + 4 * k))))), (a1 7, .inl (g 0, 6, .inl (fun k => zI (w1 (19 + 4 * k))))), (a1 8, .inl (g 0, 6, .inl (fun k => zI (w1 (20 + 4 * k))))), (a1 9, .inl (g 0, 8, .inl (fun k => zI (w1 (41 + k))))), (a3 0, .inr (1, [.int (zI (w3 1)), .int (zI (w3 0)), .int (zI (w3 2)), .int (zI (w3 3)), .int (zI (w3 4)), .ref (a3 1), .ref (a3 2), .ref (a3 3), .ref (a3 4), .ref (a3 5), .ref (a3 6), .ref (a3 7), .ref (a3 8), .ref (a3 9)])), (a3 1, .inl (g 0, 4, .inl (fun k => zI (w3 (5 + k))))), (a3 2, .inl (g 0, 4, .inl (fun k => zI (w3 (9 + k))))), (a3 3, .inl (g 0, 2, .inl (fun k => zI (w3 (13 + k))))), (a3 4, .inl (g 0, 2, .inl (fun k => zI (w3 (15 + k))))), (a3 5, .inl (g 0, 6, .inl (fun k => zI (w3 (17 + 4 * k))))), (a3 6, .inl (g 0, 6, .inl (fun k => zI (w3 (18 + 4 * k))))), (a3 7, .inl (g 0, 6, .inl (fun k => zI (w3 (19 + 4 * k))))), (a3 8, .inl (g 0, 6, .inl (fun k => zI (w3 (20 + 4 * k))))), (a3 9, .inl (g 0, 8, .inl (fun k => zI (w3 (41 + k))))), (ob 1, .inl (g 3, 2, .inr (.inr (.inr (.inr (im2 (a2 0) (a3 0))))))), (ob 2, .inl (g 2, 2, .inl (fun k => zI (kp k)))), (ob 3, .inr (3, [.ref (a0 0)])), (q 0, .inr (2, [.ref (q 1), .int (zI (tz 0)), .int (zI (tz 1)), .int (zI (tz 2)), .int (zI (tz 3)), .int (zI (tz 4))])), (q 1, .inl (g 1, 150, .inl (fun k => zI (tx k)))), (ob 4, .inr (0, [.long (zL fa), .long (zL fb)])), (ob 5, .inl (g 0, 3, .inl (fun k => zI (rf k))))]) [1, 2, 3, 4, 5, 6, 7, 8, 9, 10, 21, 22, 23, 24, 25, 26, 27, 28, 29, 30] [0, 11, 12, 13, 14, 15, 16, 17, 18, 19, 20, 31, 32, 33, 34, 35, 36, 37, 38, 39, 40, 41, 42, 43, 44, 45, 46, 47] ⟨hx, hb, hml, hown, hts⟩ hP hD hK hT hS hA (kX1_copy l dC dI g tt _ a0 w0 a2 w2) (cwV 1 hts gX5_from_X1_copy rfl rfl rfl (by decide +kernel) ⟨Nat.le_of_ble_eq_true rfl, Nat.le_of_ble_eq_true rfl⟩) rfl rfl (by decide) (by decide) (by decide) 0 1 rfl rfl rfl rfl hl.1 rfl (Nat.le_of_ble_eq_true rfl) dX5_from_42 ⟨Nat.le_of_ble_eq_true rfl, Nat.le_of_ble_eq_true rfl⟩ (fun H locs hP hD hS => ?_)
        have hP : va_P (dC, dI) vwCl (wWW g ob a0 a1 a2 a3 q (h_copy w0 w2) w1 w2 w3 kp tx tz fa fb rf) H := hP.sub [0, 28, 29, 30, 31, 32, 33, 34, 35, 36, 37, 1, 2, 3, 4, 5, 6, 7, 8, 9, 10, 38, 39, 40, 41, 42, 43, 44, 45, 46, 47, 11, 12, 13, 14, 15, 16, 17, 18, 19, 20, 21, 22, 23, 24, 25, 26, 27] rfl
        have hD : va_D A (wWW g ob a0 a1 a2 a3 q (h_copy w0 w2) w1 w2 w3 kp tx tz fa fb rf) := hD.sub [0, 28, 29, 30, 31, 32, 33, 34, 35, 36, 37, 1, 2, 3, 4, 5, 6, 7, 8, 9, 10, 38, 39, 40, 41, 42, 43, 44, 45, 46, 47, 11, 12, 13, 14, 15, 16, 17, 18, 19, 20, 21, 22, 23, 24, 25, 26, 27] (by decide) rfl
        refine q_iconst hx hb dX5_from_45 ?_
        have hPf : va_P (dC, dI) vwCl (wWW g ob a0 a1 a2 a3 q (cw_from w0 w2 w3 kp x1) w1 w2 w3 kp tx tz fa fb (rfa rf (cc_from kp x1))) H := by rw [(show (cw_from w0 w2 w3 kp x1) = h_copy w0 w2 from by unfold cw_from; (repeat' split) <;> first | rfl | (exfalso; omega)), (show (rfa rf (cc_from kp x1)) = rf from by first | exact rfa_0 (by unfold cc_from; (repeat' split) <;> omega) | exact rfa_n (by unfold cc_from; (repeat' split) <;> omega) (by decide))]; exact hP
        have hDf : va_D A (wWW g ob a0 a1 a2 a3 q (cw_from w0 w2 w3 kp x1) w1 w2 w3 kp tx tz fa fb (rfa rf (cc_from kp x1))) := by rw [(show (cw_from w0 w2 w3 kp x1) = h_copy w0 w2 from by unfold cw_from; (repeat' split) <;> first | rfl | (exfalso; omega)), (show (rfa rf (cc_from kp x1)) = rf from by first | exact rfa_0 (by unfold cc_from; (repeat' split) <;> omega) | exact rfa_n (by unfold cc_from; (repeat' split) <;> omega) (by decide))]; exact hD
        exact W.iret hx hb hr (fun t9 ht9 hW9 => ⟨⟨_, (), rfl, congrArg zI (show 1 = ca_from kp x1 from by unfold ca_from; (repeat' split) <;> first | rfl | omega | (exfalso; omega)), by rw [ht9]; exact hPf, va_K.moved hW9.alike hK, hDf⟩, hS.F ht9⟩) hS.2.2 dX5_from_46
      · refine q_imld (j := 1) hx hb hK hP 41 3 rfl rfl c_3 (by decide) dX5_from_41 rfl ?_
        refine q_cVqv (b := (a0 0)) (As := [.ref (a3 0)]) (rest := []) (wc := wH2 g a0 w0 a3 w3) (w1 := wH2 g a0 (h_copy w0 w3) a3 w3) (wr := [(ob 0, .inr (4, [.ref (a0 0), .ref (a1 0), .ref (ob 1), .ref (ob 2), .ref (ob 3), .ref (q 0), .ref (ob 4), .ref (ob 5)])), (a1 0, .inr (1, [.int (zI (w1 1)), .int (zI (w1 0)), .int (zI (w1 2)), .int (zI (w1 3)), .int (zI (w1 4)), .ref (a1 1), .ref (a1 2), .ref (a1 3), .ref (a1 4), .ref (a1 5), .ref (a1 6), .ref (a1 7), .ref (a1 8), .ref (a1 9)])), (a1 1, .inl (g 0, 4, .inl (fun k => zI (w1 (5 + k))))), (a1 2, .inl (g 0, 4, .inl (fun k => zI (w1 (9 + k))))), (a1 3, .inl (g 0, 2, .inl (fun k => zI (w1 (13 + k))))), (a1 4, .inl (g 0, 2, .inl (fun k => zI (w1 (15 + k))))), (a1 5, .inl (g 0, 6, .inl (fun k => zI (w1 (17 + 4 * k))))), (a1 6, .inl (g 0, 6, .inl (fun k => zI (w1 (18 + 4 * k))))), (a1 7, .inl (g 0, 6, .inl (fun k => zI (w1 (19 + 4 * k))))), (a1 8, .inl (g 0, 6, .inl (fun k => zI (w1 (20 + 4 * k))))), (a1 9, .inl (g 0, 8, .inl (fun k => zI (w1 (41 + k))))), (a2 0, .inr (1, [.int (zI (w2 1)), .int (zI (w2 0)), .int (zI (w2 2)), .int (zI (w2 3)), .int (zI (w2 4)), .ref (a2 1), .ref (a2 2), .ref (a2 3), .ref (a2 4), .ref (a2 5), .ref (a2 6), .ref (a2 7), .ref (a2 8), .ref (a2 9)])), (a2 1, .inl (g 0, 4, .inl (fun k => zI (w2 (5 + k))))), (a2 2, .inl (g 0, 4, .inl (fun k => zI (w2 (9 + k))))), (a2 3, .inl (g 0, 2, .inl (fun k => zI (w2 (13 + k))))), (a2 4, .inl (g 0, 2, .inl (fun k => zI (w2 (15 + k))))), (a2 5, .inl (g 0, 6, .inl (fun k => zI (w2 (17 + 4 * k))))), (a2 6, .inl (g 0, 6, .inl (fun k => zI (w2 (18 + 4 * k))))), (a2 7, .inl (g 0, 6, .inl (fun k => zI (w2 (19 + 4 * k))))), (a2 8, .inl (g 0, 6, .inl (fun k => zI (w2 (20 + 4 * k))))), (a2 9, .inl (g 0, 8, .inl (fun k => zI (w2 (41 + k))))), (ob 1, .inl (g 3, 2, .inr (.inr (.inr (.inr (im2 (a2 0) (a3 0))))))), (ob 2, .inl (g 2, 2, .inl (fun k => zI (kp k)))), (ob 3, .inr (3, [.ref (a0 0)])), (q 0, .inr (2, [.ref (q 1), .int (zI (tz 0)), .int (zI (tz 1)), .int (zI (tz 2)), .int (zI (tz 3)), .int (zI (tz 4))])), (q 1, .inl (g 1, 150, .inl (fun k => zI (tx k)))), (ob 4, .inr (0, [.long (zL fa), .long (zL fb)])), (ob 5, .inl (g 0, 3, .inl (fun k => zI (rf k))))]) [1, 2, 3, 4, 5, 6, 7, 8, 9, 10, 31, 32, 33, 34, 35, 36, 37, 38, 39, 40] [0, 11, 12, 13, 14, 15, 16, 17, 18, 19, 20, 21, 22, 23, 24, 25, 26, 27, 28, 29, 30, 41, 42, 43, 44, 45, 46, 47] ⟨hx, hb, hml, hown, hts⟩ hP hD hK hT hS hA (kX1_copy l dC dI g tt _ a0 w0 a3 w3) (cwV 1 hts gX5_from_X1_copy rfl rfl rfl (by decide +kernel) ⟨Nat.le_of_ble_eq_true rfl, Nat.le_of_ble_eq_true rfl⟩) rfl rfl (by decide) (by decide) (by decide) 0 1 rfl rfl rfl rfl hl.1 rfl (Nat.le_of_ble_eq_true rfl) dX5_from_42 ⟨Nat.le_of_ble_eq_true rfl, Nat.le_of_ble_eq_true rfl⟩ (fun H locs hP hD hS => ?_)
        have hP : va_P (dC, dI) vwCl (wWW g ob a0 a1 a2 a3 q (h_copy w0 w3) w1 w2 w3 kp tx tz fa fb rf) H := hP.sub [0, 28, 29, 30, 31, 32, 33, 34, 35, 36, 37, 1, 2, 3, 4, 5, 6, 7, 8, 9, 10, 11, 12, 13, 14, 15, 16, 17, 18, 19, 20, 38, 39, 40, 41, 42, 43, 44, 45, 46, 47, 21, 22, 23, 24, 25, 26, 27] rfl
        have hD : va_D A (wWW g ob a0 a1 a2 a3 q (h_copy w0 w3) w1 w2 w3 kp tx tz fa fb rf) := hD.sub [0, 28, 29, 30, 31, 32, 33, 34, 35, 36, 37, 1, 2, 3, 4, 5, 6, 7, 8, 9, 10, 11, 12, 13, 14, 15, 16, 17, 18, 19, 20, 38, 39, 40, 41, 42, 43, 44, 45, 46, 47, 21, 22, 23, 24, 25, 26, 27] (by decide) rfl
        refine q_iconst hx hb dX5_from_45 ?_
        have hPf : va_P (dC, dI) vwCl (wWW g ob a0 a1 a2 a3 q (cw_from w0 w2 w3 kp x1) w1 w2 w3 kp tx tz fa fb (rfa rf (cc_from kp x1))) H := by rw [(show (cw_from w0 w2 w3 kp x1) = h_copy w0 w3 from by unfold cw_from; (repeat' split) <;> first | rfl | (exfalso; omega)), (show (rfa rf (cc_from kp x1)) = rf from by first | exact rfa_0 (by unfold cc_from; (repeat' split) <;> omega) | exact rfa_n (by unfold cc_from; (repeat' split) <;> omega) (by decide))]; exact hP
        have hDf : va_D A (wWW g ob a0 a1 a2 a3 q (cw_from w0 w2 w3 kp x1) w1 w2 w3 kp tx tz fa fb (rfa rf (cc_from kp x1))) := by rw [(show (cw_from w0 w2 w3 kp x1) = h_copy w0 w3 from by unfold cw_from; (repeat' split) <;> first | rfl | (exfalso; omega)), (show (rfa rf (cc_from kp x1)) = rf from by first | exact rfa_0 (by unfold cc_from; (repeat' split) <;> omega) | exact rfa_n (by unfold cc_from; (repeat' split) <;> omega) (by decide))]; exact hD
        exact W.iret hx hb hr (fun t9 ht9 hW9 => ⟨⟨_, (), rfl, congrArg zI (show 1 = ca_from kp x1 from by unfold ca_from; (repeat' split) <;> first | rfl | omega | (exfalso; omega)), by rw [ht9]; exact hPf, va_K.moved hW9.alike hK, hDf⟩, hS.F ht9⟩) hS.2.2 dX5_from_46
    · refine lv_aload_n hx hb dX5_from_25 rfl (lv_at hl 0 rfl) ?_
      refine q_bipush hx hb dX5_from_26 rfl ?_
      refine q_cEi (z := (-3)) (b := (ob 0)) (As := [.int (zI (-3))]) (rest := []) (w1 := wWW g ob a0 a1 a2 a3 q w0 w1 w2 w3 kp tx tz fa fb (rfu rf (-3))) ⟨hx, hb, hml, hown, hts⟩ hP hD hK hT hS hA (kX5_refuse l dC dI g tt _ ob a0 a1 a2 a3 q w0 w1 w2 w3 kp tx tz fa fb rf (-3) (by decide)) (cwV 1 hts gX5_from_X5_refuse rfl rfl rfl (by decide +kernel) ⟨Nat.le_of_ble_eq_true rfl, Nat.le_of_ble_eq_true rfl⟩) 0 4 rfl rfl rfl rfl hl.1 rfl (Nat.le_of_ble_eq_true rfl) dX5_from_28 ⟨Nat.le_of_ble_eq_true rfl, Nat.le_of_ble_eq_true rfl⟩ (fun H locs hP hD hS => ?_)
      have hPf : va_P (dC, dI) vwCl (wWW g ob a0 a1 a2 a3 q (cw_from w0 w2 w3 kp x1) w1 w2 w3 kp tx tz fa fb (rfa rf (cc_from kp x1))) H := by rw [(show (cw_from w0 w2 w3 kp x1) = w0 from by unfold cw_from; (repeat' split) <;> first | rfl | (exfalso; omega)), (show (rfa rf (cc_from kp x1)) = rfu rf (-3) from by first | exact rfa_0 (by unfold cc_from; (repeat' split) <;> omega) | exact rfa_n (by unfold cc_from; (repeat' split) <;> omega) (by decide))]; exact hP
      have hDf : va_D A (wWW g ob a0 a1 a2 a3 q (cw_from w0 w2 w3 kp x1) w1 w2 w3 kp tx tz fa fb (rfa rf (cc_from kp x1))) := by rw [(show (cw_from w0 w2 w3 kp x1) = w0 from by unfold cw_from; (repeat' split) <;> first | rfl | (exfalso; omega)), (show (rfa rf (cc_from kp x1)) = rfu rf (-3) from by first | exact rfa_0 (by unfold cc_from; (repeat' split) <;> omega) | exact rfa_n (by unfold cc_from; (repeat' split) <;> omega) (by decide))]; exact hD
      exact W.iret hx hb hr (fun t9 ht9 hW9 => ⟨⟨_, (), rfl, congrArg zI (show (-3) = ca_from kp x1 from by unfold ca_from; (repeat' split) <;> first | rfl | omega | (exfalso; omega)), by rw [ht9]; exact hPf, va_K.moved hW9.alike hK, hDf⟩, hS.F ht9⟩) hS.2.2 dX5_from_31
  · refine lv_aload_n hx hb dX5_from_9 rfl (lv_at hl 0 rfl) ?_
    refine q_bipush hx hb dX5_from_10 rfl ?_
    refine q_cEi (z := (-2)) (b := (ob 0)) (As := [.int (zI (-2))]) (rest := []) (w1 := wWW g ob a0 a1 a2 a3 q w0 w1 w2 w3 kp tx tz fa fb (rfu rf (-2))) ⟨hx, hb, hml, hown, hts⟩ hP hD hK hT hS hA (kX5_refuse l dC dI g tt _ ob a0 a1 a2 a3 q w0 w1 w2 w3 kp tx tz fa fb rf (-2) (by decide)) (cwV 1 hts gX5_from_X5_refuse rfl rfl rfl (by decide +kernel) ⟨Nat.le_of_ble_eq_true rfl, Nat.le_of_ble_eq_true rfl⟩) 0 4 rfl rfl rfl rfl hl.1 rfl (Nat.le_of_ble_eq_true rfl) dX5_from_12 ⟨Nat.le_of_ble_eq_true rfl, Nat.le_of_ble_eq_true rfl⟩ (fun H locs hP hD hS => ?_)
    have hPf : va_P (dC, dI) vwCl (wWW g ob a0 a1 a2 a3 q (cw_from w0 w2 w3 kp x1) w1 w2 w3 kp tx tz fa fb (rfa rf (cc_from kp x1))) H := by rw [(show (cw_from w0 w2 w3 kp x1) = w0 from by unfold cw_from; (repeat' split) <;> first | rfl | (exfalso; omega)), (show (rfa rf (cc_from kp x1)) = rfu rf (-2) from by first | exact rfa_0 (by unfold cc_from; (repeat' split) <;> omega) | exact rfa_n (by unfold cc_from; (repeat' split) <;> omega) (by decide))]; exact hP
    have hDf : va_D A (wWW g ob a0 a1 a2 a3 q (cw_from w0 w2 w3 kp x1) w1 w2 w3 kp tx tz fa fb (rfa rf (cc_from kp x1))) := by rw [(show (cw_from w0 w2 w3 kp x1) = w0 from by unfold cw_from; (repeat' split) <;> first | rfl | (exfalso; omega)), (show (rfa rf (cc_from kp x1)) = rfu rf (-2) from by first | exact rfa_0 (by unfold cc_from; (repeat' split) <;> omega) | exact rfa_n (by unfold cc_from; (repeat' split) <;> omega) (by decide))]; exact hD
    exact W.iret hx hb hr (fun t9 ht9 hW9 => ⟨⟨_, (), rfl, congrArg zI (show (-2) = ca_from kp x1 from by unfold ca_from; (repeat' split) <;> first | rfl | omega | (exfalso; omega)), by rw [ht9]; exact hPf, va_K.moved hW9.alike hK, hDf⟩, hS.F ht9⟩) hS.2.2 dX5_from_15
set_option maxHeartbeats 4000000 in
set_option maxRecDepth 100000 in
theorem kX5_status (l : Launch) (dC : Nat → ClassId) (dI : Nat → Nat → Nat) (g : Nat → ClassId) (tt : Nat → Nat) (sz : Nat) (ob a0 a1 a2 a3 q : Nat → Nat) (w0 w1 w2 w3 kp tx tz : Int → Int) (fa fb : Int) (rf : Int → Int) (x1 : Int) (h1 : rI x1) : Met l yX5_status wsX5_status ({ frames := 2, cells := 0, slots := 0, locals := 44 }) (va_Pc [.ref (ob 0), .int (zI x1)] (eQ (dC, dI) (wTy g) (wWW g ob a0 a1 a2 a3 q w0 w1 w2 w3 kp tx tz fa fb rf) tt sz)) (va_Qi (fun r (_ : Unit) => r = zI (ca_st rf x1)) (fQ (dC, dI) (wTy g) (va_A (wWW g ob a0 a1 a2 a3 q w0 w1 w2 w3 kp tx tz fa fb rf) sz) (wWW g ob a0 a1 a2 a3 q w0 w1 w2 w3 kp tx tz fa fb (rfa rf (cc_st x1)))) (va_A (wWW g ob a0 a1 a2 a3 q w0 w1 w2 w3 kp tx tz fa fb rf) sz)) 0 0 (va_A (wWW g ob a0 a1 a2 a3 q w0 w1 w2 w3 kp tx tz fa fb rf) sz) := by
  refine Met.ofW (cc := cX5_status) (maxL := 2) (ret := (some .int)) (by decide) rfl ?_
  intro p e s m args below meth c s₁ B hml hv
  obtain ⟨rfl, hsz, hP, hK, hD0, hT⟩ := hv
  have hx := B.exec
  have hb := B.bytes
  have hr := B.returns
  have hts := atoms_spec (ws := wsX5_status) B.pre
  have hown : s.vm.findClass RX5 = some m.cls := findClass_of_methodNamed B.named
  have hlocks := B.notSynchronized
  subst hsz
  have hD := hD0.self (sz := s.heap.size)
  generalize hAe : va_A (wWW g ob a0 a1 a2 a3 q w0 w1 w2 w3 kp tx tz fa fb rf) s.heap.size = A at hD hT ⊢
  have hA : ∀ q : Nat, s.heap.size ≤ q → A q := fun q h => by rw [← hAe]; exact Or.inr h
  have hS : va_S A s.heap s.heap [] := va_S.rf
  have hl := lv_entry ([.ref (ob 0), .int (zI x1)]) (n := 2) (Nat.le_of_ble_eq_true rfl)
  rw [lg_entry_eq]
  generalize (lg_sl ([.ref (ob 0), .int (zI x1)]) ++ List.replicate (2 - (lg_sl ([.ref (ob 0), .int (zI x1)])).length) Slot.unset).toArray = ls at hl ⊢
  have hl : lv_has ls 2 [(0, .ref (ob 0)), (1, .int (zI x1))] := hl
  have kf50 := hts (.fieldLink RX5 50 "WrongWay" "refusals" "[I") (by decide +kernel)
  have iX5 := (fun w h => List.mem_cons_of_mem _ (List.mem_append_right _ h) : ∀ w ∈ u_ws RX5 TX5 8, w ∈ wsX5_status)
  refine lv_iload_n hx hb dX5_status_0 rfl (lv_at hl 1 rfl) ?_
  refine q_iconst hx hb dX5_status_1 ?_
  refine q_iconst hx hb dX5_status_2 ?_
  refine q_cSi (z := bz (0 ≤ x1 ∧ x1 ≤ 2)) (As := [.int (zI x1), .int (zI 0), .int (zI 2)]) (rest := []) ⟨hx, hb, hml, hown, hts⟩ (kX5_isWithin l dC dI g tt x1 0 2 (by omega)) (va_cwS 3 hts gX5_status_X5_isWithin rfl rfl rfl (by decide +kernel) ⟨Nat.le_of_ble_eq_true rfl, Nat.le_of_ble_eq_true rfl⟩) (hP.sub (ws' := []) [] rfl) hK hT hS rfl hl.1 rfl (Nat.le_of_ble_eq_true rfl) dX5_status_3 ⟨Nat.le_of_ble_eq_true rfl, Nat.le_of_ble_eq_true rfl⟩ ?_
  refine q_bz_ne (tgt := 18) hx hb dX5_status_6 (by decide) (fun c_1 => ?_) (fun c_1 => ?_)
  · refine lv_aload_n hx hb dX5_status_18 rfl (lv_at hl 0 rfl) ?_
    refine va_get (D := (dC, dI)) (ci := 4) (v := .ref (ob 5)) (C := RX5) (T := TX5) (N := 8) hx hb hts iX5 hown hK hP 0 rfl rfl 7 (by decide) kf50 (fun _ h9 => h9) rfl dX5_status_19 ?_
    refine lv_iload_n hx hb dX5_status_22 rfl (lv_at hl 1 rfl) ?_
    refine q_iald (F := fun k => rf k) (v := rf x1) hx hb hK hP 47 0 rfl rfl (by decide) (by omega) rfl dX5_status_23 ?_
    have hPf : va_P (dC, dI) vwCl (wWW g ob a0 a1 a2 a3 q w0 w1 w2 w3 kp tx tz fa fb (rfa rf (cc_st x1))) s.heap := by rw [(show (rfa rf (cc_st x1)) = rf from by first | exact rfa_0 (by unfold cc_st; (repeat' split) <;> omega) | exact rfa_n (by unfold cc_st; (repeat' split) <;> omega) (by decide))]; exact hP
    have hDf : va_D A (wWW g ob a0 a1 a2 a3 q w0 w1 w2 w3 kp tx tz fa fb (rfa rf (cc_st x1))) := by rw [(show (rfa rf (cc_st x1)) = rf from by first | exact rfa_0 (by unfold cc_st; (repeat' split) <;> omega) | exact rfa_n (by unfold cc_st; (repeat' split) <;> omega) (by decide))]; exact hD
    exact W.iret hx hb hr (fun t9 ht9 hW9 => ⟨⟨_, (), rfl, congrArg zI (show rf x1 = ca_st rf x1 from by unfold ca_st; (repeat' split) <;> first | rfl | omega | (exfalso; omega)), by rw [ht9]; exact hPf, va_K.moved hW9.alike hK, hDf⟩, hS.F ht9⟩) hS.2.2 dX5_status_24
  · refine lv_aload_n hx hb dX5_status_9 rfl (lv_at hl 0 rfl) ?_
    refine q_bipush hx hb dX5_status_10 rfl ?_
    refine q_cEi (z := (-2)) (b := (ob 0)) (As := [.int (zI (-2))]) (rest := []) (w1 := wWW g ob a0 a1 a2 a3 q w0 w1 w2 w3 kp tx tz fa fb (rfu rf (-2))) ⟨hx, hb, hml, hown, hts⟩ hP hD hK hT hS hA (kX5_refuse l dC dI g tt _ ob a0 a1 a2 a3 q w0 w1 w2 w3 kp tx tz fa fb rf (-2) (by decide)) (cwV 1 hts gX5_status_X5_refuse rfl rfl rfl (by decide +kernel) ⟨Nat.le_of_ble_eq_true rfl, Nat.le_of_ble_eq_true rfl⟩) 0 4 rfl rfl rfl rfl hl.1 rfl (Nat.le_of_ble_eq_true rfl) dX5_status_12 ⟨Nat.le_of_ble_eq_true rfl, Nat.le_of_ble_eq_true rfl⟩ (fun H locs hP hD hS => ?_)
    refine lv_pop hx hb dX5_status_15 rfl ?_
    refine q_iconst hx hb dX5_status_16 ?_
    have hPf : va_P (dC, dI) vwCl (wWW g ob a0 a1 a2 a3 q w0 w1 w2 w3 kp tx tz fa fb (rfa rf (cc_st x1))) H := by rw [(show (rfa rf (cc_st x1)) = rfu rf (-2) from by first | exact rfa_0 (by unfold cc_st; (repeat' split) <;> omega) | exact rfa_n (by unfold cc_st; (repeat' split) <;> omega) (by decide))]; exact hP
    have hDf : va_D A (wWW g ob a0 a1 a2 a3 q w0 w1 w2 w3 kp tx tz fa fb (rfa rf (cc_st x1))) := by rw [(show (rfa rf (cc_st x1)) = rfu rf (-2) from by first | exact rfa_0 (by unfold cc_st; (repeat' split) <;> omega) | exact rfa_n (by unfold cc_st; (repeat' split) <;> omega) (by decide))]; exact hD
    exact W.iret hx hb hr (fun t9 ht9 hW9 => ⟨⟨_, (), rfl, congrArg zI (show (-1) = ca_st rf x1 from by unfold ca_st; (repeat' split) <;> first | rfl | omega | (exfalso; omega)), by rw [ht9]; exact hPf, va_K.moved hW9.alike hK, hDf⟩, hS.F ht9⟩) hS.2.2 dX5_status_17
set_option maxHeartbeats 4000000 in
set_option maxRecDepth 100000 in
theorem kX5_count (l : Launch) (dC : Nat → ClassId) (dI : Nat → Nat → Nat) (g : Nat → ClassId) (tt : Nat → Nat) (sz : Nat) (ob a0 a1 a2 a3 q : Nat → Nat) (w0 w1 w2 w3 kp tx tz : Int → Int) (fa fb : Int) (rf : Int → Int) (x1 : Int) (h1 : rI x1) : Met l yX5_count wsX5_count ({ frames := 2, cells := 0, slots := 0, locals := 44 }) (va_Pc [.ref (ob 0), .int (zI x1)] (eQ (dC, dI) (wTy g) (wWW g ob a0 a1 a2 a3 q w0 w1 w2 w3 kp tx tz fa fb rf) tt sz)) (va_Qi (fun r (_ : Unit) => r = zI (ca_ct w0 (tz 0) x1)) (fQ (dC, dI) (wTy g) (va_A (wWW g ob a0 a1 a2 a3 q w0 w1 w2 w3 kp tx tz fa fb rf) sz) (wWW g ob a0 a1 a2 a3 q w0 w1 w2 w3 kp tx tz fa fb (rfa rf (cc_ct x1)))) (va_A (wWW g ob a0 a1 a2 a3 q w0 w1 w2 w3 kp tx tz fa fb rf) sz)) 0 0 (va_A (wWW g ob a0 a1 a2 a3 q w0 w1 w2 w3 kp tx tz fa fb rf) sz) := by
  refine Met.ofW (cc := cX5_count) (maxL := 2) (ret := (some .int)) (by decide) rfl ?_
  intro p e s m args below meth c s₁ B hml hv
  obtain ⟨rfl, hsz, hP, hK, hD0, hT⟩ := hv
  have hx := B.exec
  have hb := B.bytes
  have hr := B.returns
  have hts := atoms_spec (ws := wsX5_count) B.pre
  have hown : s.vm.findClass RX5 = some m.cls := findClass_of_methodNamed B.named
  have hlocks := B.notSynchronized
  subst hsz
  have hD := hD0.self (sz := s.heap.size)
  generalize hAe : va_A (wWW g ob a0 a1 a2 a3 q w0 w1 w2 w3 kp tx tz fa fb rf) s.heap.size = A at hD hT ⊢
  have hA : ∀ q : Nat, s.heap.size ≤ q → A q := fun q h => by rw [← hAe]; exact Or.inr h
  have hS : va_S A s.heap s.heap [] := va_S.rf
  have hl := lv_entry ([.ref (ob 0), .int (zI x1)]) (n := 2) (Nat.le_of_ble_eq_true rfl)
  rw [lg_entry_eq]
  generalize (lg_sl ([.ref (ob 0), .int (zI x1)]) ++ List.replicate (2 - (lg_sl ([.ref (ob 0), .int (zI x1)])).length) Slot.unset).toArray = ls at hl ⊢
  have hl : lv_has ls 2 [(0, .ref (ob 0)), (1, .int (zI x1))] := hl
  have kf10 := hts (.fieldLink RX5 10 "WrongWay" "now" "LWrongWay$House;") (by decide +kernel)
  have kf111 := hts (.fieldLink RX5 111 "WrongWay$House" "undos" "I") (by decide +kernel)
  have kf130 := hts (.fieldLink RX5 130 "WrongWay$House" "top" "I") (by decide +kernel)
  have kf180 := hts (.fieldLink RX5 180 "WrongWay$House" "noted" "I") (by decide +kernel)
  have kf39 := hts (.fieldLink RX5 39 "WrongWay" "text" "LWrongWay$Text;") (by decide +kernel)
  have kf62 := hts (.fieldLink RX5 62 "WrongWay$House" "lifts" "I") (by decide +kernel)
  have kf86 := hts (.fieldLink RX5 86 "WrongWay$Text" "length" "I") (by decide +kernel)
  have kf99 := hts (.fieldLink RX5 99 "WrongWay$House" "minute" "I") (by decide +kernel)
  have iX1 := (fun w h => List.mem_cons_of_mem _ (List.mem_append_left _ (List.mem_append_right _ h)) : ∀ w ∈ u_ws RX1 TX1 14, w ∈ wsX5_count)
  have iX3 := (fun w h => List.mem_cons_of_mem _ (List.mem_append_right _ h) : ∀ w ∈ u_ws RX3 TX3 6, w ∈ wsX5_count)
  have iX5 := (fun w h => List.mem_cons_of_mem _ (List.mem_append_left _ (List.mem_append_left _ (List.mem_append_right _ h))) : ∀ w ∈ u_ws RX5 TX5 8, w ∈ wsX5_count)
  refine lv_iload_n hx hb dX5_count_0 rfl (lv_at hl 1 rfl) ?_
  rcases (show x1 = 0 ∨ x1 = 1 ∨ x1 = 2 ∨ x1 = 3 ∨ x1 = 4 ∨ x1 = 5 ∨ (x1 < 0 ∨ 5 < x1) from by omega) with c_1 | c_1 | c_1 | c_1 | c_1 | c_1 | c_1
  · refine q_tabIn (off := 39) (tgt := 40) (j := 0) hx hb dX5_count_1 c_1 (by decide) (by decide) (by decide) (by decide) (by decide) ?_
    refine lv_aload_n hx hb dX5_count_40 rfl (lv_at hl 0 rfl) ?_
    refine va_get (D := (dC, dI)) (ci := 4) (v := .ref (a0 0)) (C := RX5) (T := TX5) (N := 8) hx hb hts iX5 hown hK hP 0 rfl rfl 0 (by decide) kf10 (fun _ h9 => h9) rfl dX5_count_41 ?_
    refine va_get (D := (dC, dI)) (ci := 1) (v := .int (zI (w0 0))) (C := RX1) (T := TX1) (N := 14) hx hb hts iX1 hown hK hP 1 rfl rfl 1 (by decide) kf62 (fun _ h9 => h9) rfl dX5_count_44 ?_
    have hPf : va_P (dC, dI) vwCl (wWW g ob a0 a1 a2 a3 q w0 w1 w2 w3 kp tx tz fa fb (rfa rf (cc_ct x1))) s.heap := by rw [(show (rfa rf (cc_ct x1)) = rf from by first | exact rfa_0 (by unfold cc_ct; (repeat' split) <;> omega) | exact rfa_n (by unfold cc_ct; (repeat' split) <;> omega) (by decide))]; exact hP
    have hDf : va_D A (wWW g ob a0 a1 a2 a3 q w0 w1 w2 w3 kp tx tz fa fb (rfa rf (cc_ct x1))) := by rw [(show (rfa rf (cc_ct x1)) = rf from by first | exact rfa_0 (by unfold cc_ct; (repeat' split) <;> omega) | exact rfa_n (by unfold cc_ct; (repeat' split) <;> omega) (by decide))]; exact hD
    exact W.iret hx hb hr (fun t9 ht9 hW9 => ⟨⟨_, (), rfl, congrArg zI (show w0 0 = ca_ct w0 (tz 0) x1 from by unfold ca_ct ctn; (repeat' split) <;> first | rfl | (exfalso; omega)), by rw [ht9]; exact hPf, va_K.moved hW9.alike hK, hDf⟩, hS.F ht9⟩) hS.2.2 dX5_count_47
  · refine q_tabIn (off := 47) (tgt := 48) (j := 1) hx hb dX5_count_1 c_1 (by decide) (by decide) (by decide) (by decide) (by decide) ?_
    refine lv_aload_n hx hb dX5_count_48 rfl (lv_at hl 0 rfl) ?_
    refine va_get (D := (dC, dI)) (ci := 4) (v := .ref (a0 0)) (C := RX5) (T := TX5) (N := 8) hx hb hts iX5 hown hK hP 0 rfl rfl 0 (by decide) kf10 (fun _ h9 => h9) rfl dX5_count_49 ?_
    refine va_get (D := (dC, dI)) (ci := 1) (v := .int (zI (w0 1))) (C := RX1) (T := TX1) (N := 14) hx hb hts iX1 hown hK hP 1 rfl rfl 0 (by decide) kf130 (fun _ h9 => h9) rfl dX5_count_52 ?_
    have hPf : va_P (dC, dI) vwCl (wWW g ob a0 a1 a2 a3 q w0 w1 w2 w3 kp tx tz fa fb (rfa rf (cc_ct x1))) s.heap := by rw [(show (rfa rf (cc_ct x1)) = rf from by first | exact rfa_0 (by unfold cc_ct; (repeat' split) <;> omega) | exact rfa_n (by unfold cc_ct; (repeat' split) <;> omega) (by decide))]; exact hP
    have hDf : va_D A (wWW g ob a0 a1 a2 a3 q w0 w1 w2 w3 kp tx tz fa fb (rfa rf (cc_ct x1))) := by rw [(show (rfa rf (cc_ct x1)) = rf from by first | exact rfa_0 (by unfold cc_ct; (repeat' split) <;> omega) | exact rfa_n (by unfold cc_ct; (repeat' split) <;> omega) (by decide))]; exact hD
    exact W.iret hx hb hr (fun t9 ht9 hW9 => ⟨⟨_, (), rfl, congrArg zI (show w0 1 = ca_ct w0 (tz 0) x1 from by unfold ca_ct ctn; (repeat' split) <;> first | rfl | (exfalso; omega)), by rw [ht9]; exact hPf, va_K.moved hW9.alike hK, hDf⟩, hS.F ht9⟩) hS.2.2 dX5_count_55
  · refine q_tabIn (off := 55) (tgt := 56) (j := 2) hx hb dX5_count_1 c_1 (by decide) (by decide) (by decide) (by decide) (by decide) ?_
    refine lv_aload_n hx hb dX5_count_56 rfl (lv_at hl 0 rfl) ?_
    refine va_get (D := (dC, dI)) (ci := 4) (v := .ref (a0 0)) (C := RX5) (T := TX5) (N := 8) hx hb hts iX5 hown hK hP 0 rfl rfl 0 (by decide) kf10 (fun _ h9 => h9) rfl dX5_count_57 ?_
    refine va_get (D := (dC, dI)) (ci := 1) (v := .int (zI (w0 2))) (C := RX1) (T := TX1) (N := 14) hx hb hts iX1 hown hK hP 1 rfl rfl 2 (by decide) kf99 (fun _ h9 => h9) rfl dX5_count_60 ?_
    have hPf : va_P (dC, dI) vwCl (wWW g ob a0 a1 a2 a3 q w0 w1 w2 w3 kp tx tz fa fb (rfa rf (cc_ct x1))) s.heap := by rw [(show (rfa rf (cc_ct x1)) = rf from by first | exact rfa_0 (by unfold cc_ct; (repeat' split) <;> omega) | exact rfa_n (by unfold cc_ct; (repeat' split) <;> omega) (by decide))]; exact hP
    have hDf : va_D A (wWW g ob a0 a1 a2 a3 q w0 w1 w2 w3 kp tx tz fa fb (rfa rf (cc_ct x1))) := by rw [(show (rfa rf (cc_ct x1)) = rf from by first | exact rfa_0 (by unfold cc_ct; (repeat' split) <;> omega) | exact rfa_n (by unfold cc_ct; (repeat' split) <;> omega) (by decide))]; exact hD
    exact W.iret hx hb hr (fun t9 ht9 hW9 => ⟨⟨_, (), rfl, congrArg zI (show w0 2 = ca_ct w0 (tz 0) x1 from by unfold ca_ct ctn; (repeat' split) <;> first | rfl | (exfalso; omega)), by rw [ht9]; exact hPf, va_K.moved hW9.alike hK, hDf⟩, hS.F ht9⟩) hS.2.2 dX5_count_63
  · refine q_tabIn (off := 63) (tgt := 64) (j := 3) hx hb dX5_count_1 c_1 (by decide) (by decide) (by decide) (by decide) (by decide) ?_
    refine lv_aload_n hx hb dX5_count_64 rfl (lv_at hl 0 rfl) ?_
    refine va_get (D := (dC, dI)) (ci := 4) (v := .ref (a0 0)) (C := RX5) (T := TX5) (N := 8) hx hb hts iX5 hown hK hP 0 rfl rfl 0 (by decide) kf10 (fun _ h9 => h9) rfl dX5_count_65 ?_
    refine va_get (D := (dC, dI)) (ci := 1) (v := .int (zI (w0 3))) (C := RX1) (T := TX1) (N := 14) hx hb hts iX1 hown hK hP 1 rfl rfl 3 (by decide) kf180 (fun _ h9 => h9) rfl dX5_count_68 ?_
    have hPf : va_P (dC, dI) vwCl (wWW g ob a0 a1 a2 a3 q w0 w1 w2 w3 kp tx tz fa fb (rfa rf (cc_ct x1))) s.heap := by rw [(show (rfa rf (cc_ct x1)) = rf from by first | exact rfa_0 (by unfold cc_ct; (repeat' split) <;> omega) | exact rfa_n (by unfold cc_ct; (repeat' split) <;> omega) (by decide))]; exact hP
    have hDf : va_D A (wWW g ob a0 a1 a2 a3 q w0 w1 w2 w3 kp tx tz fa fb (rfa rf (cc_ct x1))) := by rw [(show (rfa rf (cc_ct x1)) = rf from by first | exact rfa_0 (by unfold cc_ct; (repeat' split) <;> omega) | exact rfa_n (by unfold cc_ct; (repeat' split) <;> omega) (by decide))]; exact hD
    exact W.iret hx hb hr (fun t9 ht9 hW9 => ⟨⟨_, (), rfl, congrArg zI (show w0 3 = ca_ct w0 (tz 0) x1 from by unfold ca_ct ctn; (repeat' split) <;> first | rfl | (exfalso; omega)), by rw [ht9]; exact hPf, va_K.moved hW9.alike hK, hDf⟩, hS.F ht9⟩) hS.2.2 dX5_count_71
  · refine q_tabIn (off := 71) (tgt := 72) (j := 4) hx hb dX5_count_1 c_1 (by decide) (by decide) (by decide) (by decide) (by decide) ?_
    refine lv_aload_n hx hb dX5_count_72 rfl (lv_at hl 0 rfl) ?_
    refine va_get (D := (dC, dI)) (ci := 4) (v := .ref (a0 0)) (C := RX5) (T := TX5) (N := 8) hx hb hts iX5 hown hK hP 0 rfl rfl 0 (by decide) kf10 (fun _ h9 => h9) rfl dX5_count_73 ?_
    refine va_get (D := (dC, dI)) (ci := 1) (v := .int (zI (w0 4))) (C := RX1) (T := TX1) (N := 14) hx hb hts iX1 hown hK hP 1 rfl rfl 4 (by decide) kf111 (fun _ h9 => h9) rfl dX5_count_76 ?_
    have hPf : va_P (dC, dI) vwCl (wWW g ob a0 a1 a2 a3 q w0 w1 w2 w3 kp tx tz fa fb (rfa rf (cc_ct x1))) s.heap := by rw [(show (rfa rf (cc_ct x1)) = rf from by first | exact rfa_0 (by unfold cc_ct; (repeat' split) <;> omega) | exact rfa_n (by unfold cc_ct; (repeat' split) <;> omega) (by decide))]; exact hP
    have hDf : va_D A (wWW g ob a0 a1 a2 a3 q w0 w1 w2 w3 kp tx tz fa fb (rfa rf (cc_ct x1))) := by rw [(show (rfa rf (cc_ct x1)) = rf from by first | exact rfa_0 (by unfold cc_ct; (repeat' split) <;> omega) | exact rfa_n (by unfold cc_ct; (repeat' split) <;> omega) (by decide))]; exact hD
    exact W.iret hx hb hr (fun t9 ht9 hW9 => ⟨⟨_, (), rfl, congrArg zI (show w0 4 = ca_ct w0 (tz 0) x1 from by unfold ca_ct ctn; (repeat' split) <;> first | rfl | (exfalso; omega)), by rw [ht9]; exact hPf, va_K.moved hW9.alike hK, hDf⟩, hS.F ht9⟩) hS.2.2 dX5_count_79
  · refine q_tabIn (off := 79) (tgt := 80) (j := 5) hx hb dX5_count_1 c_1 (by decide) (by decide) (by decide) (by decide) (by decide) ?_
    refine lv_aload_n hx hb dX5_count_80 rfl (lv_at hl 0 rfl) ?_
    refine va_get (D := (dC, dI)) (ci := 4) (v := .ref (q 0)) (C := RX5) (T := TX5) (N := 8) hx hb hts iX5 hown hK hP 0 rfl rfl 5 (by decide) kf39 (fun _ h9 => h9) rfl dX5_count_81 ?_
    refine va_get (D := (dC, dI)) (ci := 2) (v := .int (zI (tz 0))) (C := RX3) (T := TX3) (N := 6) hx hb hts iX3 hown hK hP 44 rfl rfl 1 (by decide) kf86 (fun _ h9 => h9) rfl dX5_count_84 ?_
    have hPf : va_P (dC, dI) vwCl (wWW g ob a0 a1 a2 a3 q w0 w1 w2 w3 kp tx tz fa fb (rfa rf (cc_ct x1))) s.heap := by rw [(show (rfa rf (cc_ct x1)) = rf from by first | exact rfa_0 (by unfold cc_ct; (repeat' split) <;> omega) | exact rfa_n (by unfold cc_ct; (repeat' split) <;> omega) (by decide))]; exact hP
    have hDf : va_D A (wWW g ob a0 a1 a2 a3 q w0 w1 w2 w3 kp tx tz fa fb (rfa rf (cc_ct x1))) := by rw [(show (rfa rf (cc_ct x1)) = rf from by first | exact rfa_0 (by unfold cc_ct; (repeat' split) <;> omega) | exact rfa_n (by unfold cc_ct; (repeat' split) <;> omega) (by decide))]; exact hD
    exact W.iret hx hb hr (fun t9 ht9 hW9 => ⟨⟨_, (), rfl, congrArg zI (show tz 0 = ca_ct w0 (tz 0) x1 from by unfold ca_ct ctn; (repeat' split) <;> first | rfl | (exfalso; omega)), by rw [ht9]; exact hPf, va_K.moved hW9.alike hK, hDf⟩, hS.F ht9⟩) hS.2.2 dX5_count_87
  · refine q_tabOut (tgt := 88) hx hb dX5_count_1 (by omega) c_1 (by decide) ?_
    refine lv_aload_n hx hb dX5_count_88 rfl (lv_at hl 0 rfl) ?_
    refine q_bipush hx hb dX5_count_89 rfl ?_
    refine q_cEi (z := (-2)) (b := (ob 0)) (As := [.int (zI (-2))]) (rest := []) (w1 := wWW g ob a0 a1 a2 a3 q w0 w1 w2 w3 kp tx tz fa fb (rfu rf (-2))) ⟨hx, hb, hml, hown, hts⟩ hP hD hK hT hS hA (kX5_refuse l dC dI g tt _ ob a0 a1 a2 a3 q w0 w1 w2 w3 kp tx tz fa fb rf (-2) (by decide)) (cwV 1 hts gX5_count_X5_refuse rfl rfl rfl (by decide +kernel) ⟨Nat.le_of_ble_eq_true rfl, Nat.le_of_ble_eq_true rfl⟩) 0 4 rfl rfl rfl rfl hl.1 rfl (Nat.le_of_ble_eq_true rfl) dX5_count_91 ⟨Nat.le_of_ble_eq_true rfl, Nat.le_of_ble_eq_true rfl⟩ (fun H locs hP hD hS => ?_)
    have hPf : va_P (dC, dI) vwCl (wWW g ob a0 a1 a2 a3 q w0 w1 w2 w3 kp tx tz fa fb (rfa rf (cc_ct x1))) H := by rw [(show (rfa rf (cc_ct x1)) = rfu rf (-2) from by first | exact rfa_0 (by unfold cc_ct; (repeat' split) <;> omega) | exact rfa_n (by unfold cc_ct; (repeat' split) <;> omega) (by decide))]; exact hP
    have hDf : va_D A (wWW g ob a0 a1 a2 a3 q w0 w1 w2 w3 kp tx tz fa fb (rfa rf (cc_ct x1))) := by rw [(show (rfa rf (cc_ct x1)) = rfu rf (-2) from by first | exact rfa_0 (by unfold cc_ct; (repeat' split) <;> omega) | exact rfa_n (by unfold cc_ct; (repeat' split) <;> omega) (by decide))]; exact hD
    exact W.iret hx hb hr (fun t9 ht9 hW9 => ⟨⟨_, (), rfl, congrArg zI (show (-2) = ca_ct w0 (tz 0) x1 from by unfold ca_ct ctn; (repeat' split) <;> first | rfl | (exfalso; omega)), by rw [ht9]; exact hPf, va_K.moved hW9.alike hK, hDf⟩, hS.F ht9⟩) hS.2.2 dX5_count_94
set_option maxHeartbeats 4000000 in
set_option maxRecDepth 100000 in
theorem kX5_countp (l : Launch) (dC : Nat → ClassId) (dI : Nat → Nat → Nat) (g : Nat → ClassId) (tt : Nat → Nat) (ob a0 a1 a2 a3 q : Nat → Nat) (w0 w1 w2 w3 kp tx tz : Int → Int) (fa fb : Int) (rf : Int → Int) (x1 : Int) (h1 : 0 ≤ x1 ∧ x1 ≤ 5) : Met l yX5_count wsX5_count ({ frames := 2, cells := 0, slots := 0, locals := 44 }) (va_Pc [.ref (ob 0), .int (zI x1)] (eS (dC, dI) (wTy g) (wWW g ob a0 a1 a2 a3 q w0 w1 w2 w3 kp tx tz fa fb rf) tt)) (vp_Si (fun r => r = zI (ctn w0 (tz 0) x1))) 0 0 (fun _ => False) := by
  refine Met.ofW (cc := cX5_count) (maxL := 2) (ret := (some .int)) (by decide) rfl ?_
  intro p e s m args below meth c s₁ B hml hv
  obtain ⟨rfl, hP, hK, hT⟩ := hv
  have hx := B.exec
  have hb := B.bytes
  have hr := B.returns
  have hts := atoms_spec (ws := wsX5_count) B.pre
  have hown : s.vm.findClass RX5 = some m.cls := findClass_of_methodNamed B.named
  have hlocks := B.notSynchronized
  have hS : va_S (fun _ : Nat => False) s.heap s.heap [] := va_S.rf
  have hl := lv_entry ([.ref (ob 0), .int (zI x1)]) (n := 2) (Nat.le_of_ble_eq_true rfl)
  rw [lg_entry_eq]
  generalize (lg_sl ([.ref (ob 0), .int (zI x1)]) ++ List.replicate (2 - (lg_sl ([.ref (ob 0), .int (zI x1)])).length) Slot.unset).toArray = ls at hl ⊢
  have hl : lv_has ls 2 [(0, .ref (ob 0)), (1, .int (zI x1))] := hl
  have kf10 := hts (.fieldLink RX5 10 "WrongWay" "now" "LWrongWay$House;") (by decide +kernel)
  have kf111 := hts (.fieldLink RX5 111 "WrongWay$House" "undos" "I") (by decide +kernel)
  have kf130 := hts (.fieldLink RX5 130 "WrongWay$House" "top" "I") (by decide +kernel)
  have kf180 := hts (.fieldLink RX5 180 "WrongWay$House" "noted" "I") (by decide +kernel)
  have kf39 := hts (.fieldLink RX5 39 "WrongWay" "text" "LWrongWay$Text;") (by decide +kernel)
  have kf62 := hts (.fieldLink RX5 62 "WrongWay$House" "lifts" "I") (by decide +kernel)
  have kf86 := hts (.fieldLink RX5 86 "WrongWay$Text" "length" "I") (by decide +kernel)
  have kf99 := hts (.fieldLink RX5 99 "WrongWay$House" "minute" "I") (by decide +kernel)
  have iX1 := (fun w h => List.mem_cons_of_mem _ (List.mem_append_left _ (List.mem_append_right _ h)) : ∀ w ∈ u_ws RX1 TX1 14, w ∈ wsX5_count)
  have iX3 := (fun w h => List.mem_cons_of_mem _ (List.mem_append_right _ h) : ∀ w ∈ u_ws RX3 TX3 6, w ∈ wsX5_count)
  have iX5 := (fun w h => List.mem_cons_of_mem _ (List.mem_append_left _ (List.mem_append_left _ (List.mem_append_right _ h))) : ∀ w ∈ u_ws RX5 TX5 8, w ∈ wsX5_count)
  refine lv_iload_n hx hb dX5_count_0 rfl (lv_at hl 1 rfl) ?_
  rcases (show x1 = 0 ∨ x1 = 1 ∨ x1 = 2 ∨ x1 = 3 ∨ x1 = 4 ∨ x1 = 5 ∨ (x1 < 0 ∨ 5 < x1) from by omega) with c_1 | c_1 | c_1 | c_1 | c_1 | c_1 | c_1
  · refine q_tabIn (off := 39) (tgt := 40) (j := 0) hx hb dX5_count_1 c_1 (by decide) (by decide) (by decide) (by decide) (by decide) ?_
    refine lv_aload_n hx hb dX5_count_40 rfl (lv_at hl 0 rfl) ?_
    refine va_get (D := (dC, dI)) (ci := 4) (v := .ref (a0 0)) (C := RX5) (T := TX5) (N := 8) hx hb hts iX5 hown hK hP 0 rfl rfl 0 (by decide) kf10 (fun _ h9 => h9) rfl dX5_count_41 ?_
    refine va_get (D := (dC, dI)) (ci := 1) (v := .int (zI (w0 0))) (C := RX1) (T := TX1) (N := 14) hx hb hts iX1 hown hK hP 1 rfl rfl 1 (by decide) kf62 (fun _ h9 => h9) rfl dX5_count_44 ?_
    exact W.iret hx hb hr (fun t9 ht9 hW9 => ⟨_, rfl, congrArg zI (show w0 0 = ctn w0 (tz 0) x1 from by unfold ctn; (repeat' split) <;> first | rfl | (exfalso; omega)), ht9⟩) hS.2.2 dX5_count_47
  · refine q_tabIn (off := 47) (tgt := 48) (j := 1) hx hb dX5_count_1 c_1 (by decide) (by decide) (by decide) (by decide) (by decide) ?_
    refine lv_aload_n hx hb dX5_count_48 rfl (lv_at hl 0 rfl) ?_
    refine va_get (D := (dC, dI)) (ci := 4) (v := .ref (a0 0)) (C := RX5) (T := TX5) (N := 8) hx hb hts iX5 hown hK hP 0 rfl rfl 0 (by decide) kf10 (fun _ h9 => h9) rfl dX5_count_49 ?_
    refine va_get (D := (dC, dI)) (ci := 1) (v := .int (zI (w0 1))) (C := RX1) (T := TX1) (N := 14) hx hb hts iX1 hown hK hP 1 rfl rfl 0 (by decide) kf130 (fun _ h9 => h9) rfl dX5_count_52 ?_
    exact W.iret hx hb hr (fun t9 ht9 hW9 => ⟨_, rfl, congrArg zI (show w0 1 = ctn w0 (tz 0) x1 from by unfold ctn; (repeat' split) <;> first | rfl | (exfalso; omega)), ht9⟩) hS.2.2 dX5_count_55
  · refine q_tabIn (off := 55) (tgt := 56) (j := 2) hx hb dX5_count_1 c_1 (by decide) (by decide) (by decide) (by decide) (by decide) ?_
    refine lv_aload_n hx hb dX5_count_56 rfl (lv_at hl 0 rfl) ?_
    refine va_get (D := (dC, dI)) (ci := 4) (v := .ref (a0 0)) (C := RX5) (T := TX5) (N := 8) hx hb hts iX5 hown hK hP 0 rfl rfl 0 (by decide) kf10 (fun _ h9 => h9) rfl dX5_count_57 ?_
    refine va_get (D := (dC, dI)) (ci := 1) (v := .int (zI (w0 2))) (C := RX1) (T := TX1) (N := 14) hx hb hts iX1 hown hK hP 1 rfl rfl 2 (by decide) kf99 (fun _ h9 => h9) rfl dX5_count_60 ?_
    exact W.iret hx hb hr (fun t9 ht9 hW9 => ⟨_, rfl, congrArg zI (show w0 2 = ctn w0 (tz 0) x1 from by unfold ctn; (repeat' split) <;> first | rfl | (exfalso; omega)), ht9⟩) hS.2.2 dX5_count_63
  · refine q_tabIn (off := 63) (tgt := 64) (j := 3) hx hb dX5_count_1 c_1 (by decide) (by decide) (by decide) (by decide) (by decide) ?_
    refine lv_aload_n hx hb dX5_count_64 rfl (lv_at hl 0 rfl) ?_
    refine va_get (D := (dC, dI)) (ci := 4) (v := .ref (a0 0)) (C := RX5) (T := TX5) (N := 8) hx hb hts iX5 hown hK hP 0 rfl rfl 0 (by decide) kf10 (fun _ h9 => h9) rfl dX5_count_65 ?_
    refine va_get (D := (dC, dI)) (ci := 1) (v := .int (zI (w0 3))) (C := RX1) (T := TX1) (N := 14) hx hb hts iX1 hown hK hP 1 rfl rfl 3 (by decide) kf180 (fun _ h9 => h9) rfl dX5_count_68 ?_
    exact W.iret hx hb hr (fun t9 ht9 hW9 => ⟨_, rfl, congrArg zI (show w0 3 = ctn w0 (tz 0) x1 from by unfold ctn; (repeat' split) <;> first | rfl | (exfalso; omega)), ht9⟩) hS.2.2 dX5_count_71
  · refine q_tabIn (off := 71) (tgt := 72) (j := 4) hx hb dX5_count_1 c_1 (by decide) (by decide) (by decide) (by decide) (by decide) ?_
    refine lv_aload_n hx hb dX5_count_72 rfl (lv_at hl 0 rfl) ?_
    refine va_get (D := (dC, dI)) (ci := 4) (v := .ref (a0 0)) (C := RX5) (T := TX5) (N := 8) hx hb hts iX5 hown hK hP 0 rfl rfl 0 (by decide) kf10 (fun _ h9 => h9) rfl dX5_count_73 ?_
    refine va_get (D := (dC, dI)) (ci := 1) (v := .int (zI (w0 4))) (C := RX1) (T := TX1) (N := 14) hx hb hts iX1 hown hK hP 1 rfl rfl 4 (by decide) kf111 (fun _ h9 => h9) rfl dX5_count_76 ?_
    exact W.iret hx hb hr (fun t9 ht9 hW9 => ⟨_, rfl, congrArg zI (show w0 4 = ctn w0 (tz 0) x1 from by unfold ctn; (repeat' split) <;> first | rfl | (exfalso; omega)), ht9⟩) hS.2.2 dX5_count_79
  · refine q_tabIn (off := 79) (tgt := 80) (j := 5) hx hb dX5_count_1 c_1 (by decide) (by decide) (by decide) (by decide) (by decide) ?_
    refine lv_aload_n hx hb dX5_count_80 rfl (lv_at hl 0 rfl) ?_
    refine va_get (D := (dC, dI)) (ci := 4) (v := .ref (q 0)) (C := RX5) (T := TX5) (N := 8) hx hb hts iX5 hown hK hP 0 rfl rfl 5 (by decide) kf39 (fun _ h9 => h9) rfl dX5_count_81 ?_
    refine va_get (D := (dC, dI)) (ci := 2) (v := .int (zI (tz 0))) (C := RX3) (T := TX3) (N := 6) hx hb hts iX3 hown hK hP 44 rfl rfl 1 (by decide) kf86 (fun _ h9 => h9) rfl dX5_count_84 ?_
    exact W.iret hx hb hr (fun t9 ht9 hW9 => ⟨_, rfl, congrArg zI (show tz 0 = ctn w0 (tz 0) x1 from by unfold ctn; (repeat' split) <;> first | rfl | (exfalso; omega)), ht9⟩) hS.2.2 dX5_count_87
  · exact absurd c_1 (by omega)
set_option maxHeartbeats 4000000 in
set_option maxRecDepth 100000 in
theorem kX5_digest (l : Launch) (dC : Nat → ClassId) (dI : Nat → Nat → Nat) (g : Nat → ClassId) (tt : Nat → Nat) (ob a0 a1 a2 a3 q : Nat → Nat) (w0 w1 w2 w3 kp tx tz : Int → Int) (fa fb : Int) (rf : Int → Int) (hw : hok w0) (hL : 0 ≤ tz 0 ∧ tz 0 ≤ 150) : Met l yX5_digest wsX5_digest ({ frames := 3, cells := 0, slots := 0, locals := 65 }) (va_Pc [.ref (ob 0)] (eS (dC, dI) (wTy g) (wWW g ob a0 a1 a2 a3 q w0 w1 w2 w3 kp tx tz fa fb rf) tt)) (vp_Sl (fun r => r = zL (ca_dg w0 (tz 0) fa fb))) 0 0 (fun _ => False) := by
  refine Met.ofW (cc := cX5_digest) (maxL := 4) (ret := (some .long)) (by decide) rfl ?_
  intro p e s m args below meth c s₁ B hml hv
  obtain ⟨rfl, hP, hK, hT⟩ := hv
  have hx := B.exec
  have hb := B.bytes
  have hr := B.returns
  have hts := atoms_spec (ws := wsX5_digest) B.pre
  have hown : s.vm.findClass RX5 = some m.cls := findClass_of_methodNamed B.named
  have hlocks := B.notSynchronized
  have hS : va_S (fun _ : Nat => False) s.heap s.heap [] := va_S.rf
  have hl := lv_entry ([.ref (ob 0)]) (n := 4) (Nat.le_of_ble_eq_true rfl)
  rw [lg_entry_eq]
  generalize (lg_sl ([.ref (ob 0)]) ++ List.replicate (4 - (lg_sl ([.ref (ob 0)])).length) Slot.unset).toArray = ls at hl ⊢
  have hl : lv_has ls 4 [(0, .ref (ob 0))] := hl
  have kc219 := hts (.constantLong RX5 219 (1123)) (by decide +kernel)
  have kc221 := hts (.constantLong RX5 221 (31)) (by decide +kernel)
  have kf10 := hts (.fieldLink RX5 10 "WrongWay" "now" "LWrongWay$House;") (by decide +kernel)
  have kf212 := hts (.fieldLink RX5 212 "WrongWay$Fraction" "above" "J") (by decide +kernel)
  have kf216 := hts (.fieldLink RX5 216 "WrongWay$Fraction" "below" "J") (by decide +kernel)
  have kf46 := hts (.fieldLink RX5 46 "WrongWay" "fraction" "LWrongWay$Fraction;") (by decide +kernel)
  have iX0 := (fun w h => List.mem_cons_of_mem _ (List.mem_append_left _ (List.mem_append_left _ (List.mem_append_right _ h))) : ∀ w ∈ u_ws RX0 TX0 2, w ∈ wsX5_digest)
  have iX5 := (fun w h => List.mem_cons_of_mem _ (List.mem_append_left _ (List.mem_append_left _ (List.mem_append_left _ (List.mem_append_right _ h)))) : ∀ w ∈ u_ws RX5 TX5 8, w ∈ wsX5_digest)
  have hb0 := hw.b
  refine q_ldc2 hx hb 1123 hown kc219 (by decide) dX5_digest_0 ?_
  refine lv_lstore_n (lv' := [(1, .long (zL 1123)), (0, .ref (ob 0))]) hx hb dX5_digest_3 rfl hl (by decide) rfl (fun ls hl => ?_)
  refine q_iconst hx hb dX5_digest_4 ?_
  refine lv_istore_n (lv' := [(3, .int (zI 0)), (1, .long (zL 1123)), (0, .ref (ob 0))]) hx hb dX5_digest_5 rfl hl (by decide) rfl (fun ls hl => ?_)
  refine w_loopP (σ := Int × Int) (fun a9 ls => (0 ≤ a9.1 ∧ a9.1 ≤ 6) ∧ (a9.2 = itR (fun k9 h9 => 31 * h9 + ctn w0 (tz 0) k9) 1123 a9.1) ∧ lv_has ls 4 [(0, .ref (ob 0)), (1, .long (zL a9.2)), (3, .int (zI a9.1))]) (fun a9 => (6 - a9.1).toNat) ?_ (0, 1123) ?_
  · rintro ⟨i, u⟩ ls ⟨hi, hs, hl⟩ ih6
    have hi : 0 ≤ i ∧ i ≤ 6 := hi
    have hs : u = itR (fun k9 h9 => 31 * h9 + ctn w0 (tz 0) k9) 1123 i := hs
    have hl : lv_has ls 4 [(0, .ref (ob 0)), (1, .long (zL u)), (3, .int (zI i))] := hl
    refine lv_iload_n hx hb dX5_digest_6 rfl (lv_at hl 2 rfl) ?_
    refine q_iconst hx hb dX5_digest_7 ?_
    refine q_icmp_gt (tgt := 30) hx hb dX5_digest_8 (by decide) (by omega) (fun c_1 => ?_) (fun c_1 => ?_)
    · refine lv_aload_n hx hb dX5_digest_30 rfl (lv_at hl 0 rfl) ?_
      refine va_get (D := (dC, dI)) (ci := 4) (v := .ref (a0 0)) (C := RX5) (T := TX5) (N := 8) hx hb hts iX5 hown hK hP 0 rfl rfl 0 (by decide) kf10 (fun _ h9 => h9) rfl dX5_digest_31 ?_
      refine lv_lload_n hx hb dX5_digest_34 rfl (lv_at hl 1 rfl) ?_
      refine q_cVl (z := c_dg w0 u) (b := (a0 0)) (As := [.long (zL u)]) (rest := []) ⟨hx, hb, hml, hown, hts⟩ (kX1_digestOver l dC dI g tt a0 w0 u (hw)) (cwV 1 hts gX5_digest_X1_digestOver rfl rfl rfl (by decide +kernel) ⟨Nat.le_of_ble_eq_true rfl, Nat.le_of_ble_eq_true rfl⟩) (hP.sub (ws' := wHs g a0 w0) [1, 2, 3, 4, 5, 6, 7, 8, 9, 10] rfl) hK hT hS 0 1 rfl rfl rfl rfl hl.1 rfl (Nat.le_of_ble_eq_true rfl) dX5_digest_35 ⟨Nat.le_of_ble_eq_true rfl, Nat.le_of_ble_eq_true rfl⟩ ?_
      refine lv_lstore_n (lv' := [(1, .long (zL (c_dg w0 u))), (0, .ref (ob 0)), (3, .int (zI i))]) hx hb dX5_digest_38 rfl hl (by decide) rfl (fun ls hl => ?_)
      refine q_ldc2 hx hb 31 hown kc221 (by decide) dX5_digest_39 ?_
      refine lv_lload_n hx hb dX5_digest_42 rfl (lv_at hl 0 rfl) ?_
      refine q_lmul hx hb dX5_digest_43 ?_
      refine lv_aload_n hx hb dX5_digest_44 rfl (lv_at hl 1 rfl) ?_
      refine va_get (D := (dC, dI)) (ci := 4) (v := .ref (ob 4)) (C := RX5) (T := TX5) (N := 8) hx hb hts iX5 hown hK hP 0 rfl rfl 6 (by decide) kf46 (fun _ h9 => h9) rfl dX5_digest_45 ?_
      refine va_get (D := (dC, dI)) (ci := 0) (v := .long (zL fa)) (C := RX0) (T := TX0) (N := 2) hx hb hts iX0 hown hK hP 46 rfl rfl 0 (by decide) kf212 (fun _ h9 => h9) rfl dX5_digest_48 ?_
      refine q_ladd hx hb dX5_digest_51 ?_
      refine lv_lstore_n (lv' := [(1, .long (zL ((31 * (c_dg w0 u)) + fa))), (0, .ref (ob 0)), (3, .int (zI i))]) hx hb dX5_digest_52 rfl hl (by decide) rfl (fun ls hl => ?_)
      refine q_ldc2 hx hb 31 hown kc221 (by decide) dX5_digest_53 ?_
      refine lv_lload_n hx hb dX5_digest_56 rfl (lv_at hl 0 rfl) ?_
      refine q_lmul hx hb dX5_digest_57 ?_
      refine lv_aload_n hx hb dX5_digest_58 rfl (lv_at hl 1 rfl) ?_
      refine va_get (D := (dC, dI)) (ci := 4) (v := .ref (ob 4)) (C := RX5) (T := TX5) (N := 8) hx hb hts iX5 hown hK hP 0 rfl rfl 6 (by decide) kf46 (fun _ h9 => h9) rfl dX5_digest_59 ?_
      refine va_get (D := (dC, dI)) (ci := 0) (v := .long (zL fb)) (C := RX0) (T := TX0) (N := 2) hx hb hts iX0 hown hK hP 46 rfl rfl 1 (by decide) kf216 (fun _ h9 => h9) rfl dX5_digest_62 ?_
      refine q_ladd hx hb dX5_digest_65 ?_
      exact W.lret hx hb hr (fun t9 ht9 hW9 => ⟨_, rfl, congrArg zL (show (31 * ((31 * (c_dg w0 u)) + fa)) + fb = ca_dg w0 (tz 0) fa fb from by unfold ca_dg; rw [show (6 : Int) = i by omega, ← hs]), ht9⟩) hS.2.2 dX5_digest_66
    · refine q_ldc2 hx hb 31 hown kc221 (by decide) dX5_digest_11 ?_
      refine lv_lload_n hx hb dX5_digest_14 rfl (lv_at hl 1 rfl) ?_
      refine q_lmul hx hb dX5_digest_15 ?_
      refine lv_aload_n hx hb dX5_digest_16 rfl (lv_at hl 0 rfl) ?_
      refine lv_iload_n hx hb dX5_digest_17 rfl (lv_at hl 2 rfl) ?_
      refine q_cVi (z := ctn w0 (tz 0) i) (b := (ob 0)) (As := [.int (zI i)]) (rest := [.long (zL (31 * u))]) ⟨hx, hb, hml, hown, hts⟩ (kX5_countp l dC dI g tt ob a0 a1 a2 a3 q w0 w1 w2 w3 kp tx tz fa fb rf i (by omega)) (cwV 1 hts gX5_digest_X5_count rfl rfl rfl (by decide +kernel) ⟨Nat.le_of_ble_eq_true rfl, Nat.le_of_ble_eq_true rfl⟩) hP hK hT hS 0 4 rfl rfl rfl rfl hl.1 rfl (Nat.le_of_ble_eq_true rfl) dX5_digest_18 ⟨Nat.le_of_ble_eq_true rfl, Nat.le_of_ble_eq_true rfl⟩ ?_
      have hct := ctn_r (x := i) hw hL
      refine q_i2l hx hb dX5_digest_21 (by omega) ?_
      refine q_ladd hx hb dX5_digest_22 ?_
      refine lv_lstore_n (lv' := [(1, .long (zL ((31 * u) + (ctn w0 (tz 0) i)))), (0, .ref (ob 0)), (3, .int (zI i))]) hx hb dX5_digest_23 rfl hl (by decide) rfl (fun ls hl => ?_)
      refine lv_iinc (v := zI (i + 1)) (lv' := [(3, .int (zI (i + 1))), (1, .long (zL ((31 * u) + (ctn w0 (tz 0) i)))), (0, .ref (ob 0))]) hx hb dX5_digest_24 hl (k := 2) rfl (zI_add _ _) (by decide) rfl (fun ls hl => ?_)
      refine lv_goto (tgt := 6) hx hb dX5_digest_27 (by decide) ?_
      exact ih6 (i + 1, (31 * u) + (ctn w0 (tz 0) i)) ls ⟨(show 0 ≤ (i + 1) ∧ (i + 1) ≤ 6 from by omega), (show ((31 * u) + (ctn w0 (tz 0) i)) = itR (fun k9 h9 => 31 * h9 + ctn w0 (tz 0) k9) 1123 (i + 1) from by rw [itR_s (by omega), ← hs]), lv_sub hl [2, 1, 0] rfl⟩ (by show (6 - (i + 1)).toNat < (6 - i).toNat; omega)
  · exact ⟨(show 0 ≤ 0 ∧ 0 ≤ 6 from by omega), (show 1123 = itR (fun k9 h9 => 31 * h9 + ctn w0 (tz 0) k9) 1123 0 from rfl), lv_sub hl [2, 1, 0] rfl⟩
