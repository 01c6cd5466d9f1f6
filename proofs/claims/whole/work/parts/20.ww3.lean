set_option maxHeartbeats 4000000 in
set_option maxRecDepth 100000 in
theorem kX5_walk (l : Launch) (dC : Nat → ClassId) (dI : Nat → Nat → Nat) (g : Nat → ClassId) (tt : Nat → Nat) (sz : Nat) (ob a0 a1 a2 a3 q : Nat → Nat) (w0 w1 w2 w3 kp tx tz : Int → Int) (fa fb : Int) (rf : Int → Int) (x1 x2 x3 x4 : Int) (hw : hok w0) (h1 : rI x1 ∧ rI x2 ∧ rI x3 ∧ rI x4) : Met l yX5_walk wsX5_walk ({ frames := 6, cells := 0, slots := 0, locals := 150 }) (va_Pc [.ref (ob 0), .int (zI x1), .int (zI x2), .int (zI x3), .int (zI x4)] (eQ (dC, dI) (wTy g) (wWW g ob a0 a1 a2 a3 q w0 w1 w2 w3 kp tx tz fa fb rf) tt sz)) (va_Qi (fun r (_ : Unit) => r = zI (ca_walk w0 x1 x2 x3 x4)) (fQ (dC, dI) (wTy g) (va_A (wWW g ob a0 a1 a2 a3 q w0 w1 w2 w3 kp tx tz fa fb rf) sz) (wWW g ob a0 a1 a2 a3 q w0 w1 w2 w3 kp tx tz fa fb (rfa rf (cc_ride w0 x1 x2 x3 x4)))) (va_A (wWW g ob a0 a1 a2 a3 q w0 w1 w2 w3 kp tx tz fa fb rf) sz)) 0 0 (va_A (wWW g ob a0 a1 a2 a3 q w0 w1 w2 w3 kp tx tz fa fb rf) sz) := by
  refine Met.ofW (cc := cX5_walk) (maxL := 13) (ret := (some .int)) (by decide) rfl ?_
  intro p e s m args below meth c s₁ B hml hv
  obtain ⟨rfl, hsz, hP, hK, hD0, hT⟩ := hv
  have hx := B.exec
  have hb := B.bytes
  have hr := B.returns
  have hts := atoms_spec (ws := wsX5_walk) B.pre
  have hown : s.vm.findClass RX5 = some m.cls := findClass_of_methodNamed B.named
  have hlocks := B.notSynchronized
  subst hsz
  have hD := hD0.self (sz := s.heap.size)
  generalize hAe : va_A (wWW g ob a0 a1 a2 a3 q w0 w1 w2 w3 kp tx tz fa fb rf) s.heap.size = A at hD hT ⊢
  have hA : ∀ q : Nat, s.heap.size ≤ q → A q := fun q h => by rw [← hAe]; exact Or.inr h
  have hS : va_S A s.heap s.heap [] := va_S.rf
  have hl := lv_entry ([.ref (ob 0), .int (zI x1), .int (zI x2), .int (zI x3), .int (zI x4)]) (n := 13) (Nat.le_of_ble_eq_true rfl)
  rw [lg_entry_eq]
  generalize (lg_sl ([.ref (ob 0), .int (zI x1), .int (zI x2), .int (zI x3), .int (zI x4)]) ++ List.replicate (13 - (lg_sl ([.ref (ob 0), .int (zI x1), .int (zI x2), .int (zI x3), .int (zI x4)])).length) Slot.unset).toArray = ls at hl ⊢
  have hl : lv_has ls 13 [(0, .ref (ob 0)), (1, .int (zI x1)), (2, .int (zI x2)), (3, .int (zI x3)), (4, .int (zI x4))] := hl
  have kf10 := hts (.fieldLink RX5 10 "WrongWay" "now" "LWrongWay$House;") (by decide +kernel)
  have kf130 := hts (.fieldLink RX5 130 "WrongWay$House" "top" "I") (by decide +kernel)
  have kf32 := hts (.fieldLink RX5 32 "WrongWay" "watch" "LWrongWay$Watch;") (by decide +kernel)
  have km168 := hts (.methodLink RX5 168 Lib.Math.abs.name) (by decide +kernel)
  have iX1 := (fun w h => List.mem_cons_of_mem _ (List.mem_append_left _ (List.mem_append_right _ h)) : ∀ w ∈ u_ws RX1 TX1 14, w ∈ wsX5_walk)
  have iX5 := (fun w h => List.mem_cons_of_mem _ (List.mem_append_left _ (List.mem_append_left _ (List.mem_append_right _ h))) : ∀ w ∈ u_ws RX5 TX5 8, w ∈ wsX5_walk)
  have hb0 := hw.b
  refine lv_aload_n hx hb dX5_walk_0 rfl (lv_at hl 0 rfl) ?_
  refine va_get (D := (dC, dI)) (ci := 4) (v := .ref (a0 0)) (C := RX5) (T := TX5) (N := 8) hx hb hts iX5 hown hK hP 0 rfl rfl 0 (by decide) kf10 (fun _ h9 => h9) rfl dX5_walk_1 ?_
  refine lv_iload_n hx hb dX5_walk_4 rfl (lv_at hl 1 rfl) ?_
  refine q_cVi (z := bz (0 ≤ x1 ∧ x1 ≤ w0 1)) (b := (a0 0)) (As := [.int (zI x1)]) (rest := []) ⟨hx, hb, hml, hown, hts⟩ (kX1_hasFloor l dC dI g tt a0 w0 x1 (hw) (by omega)) (cwV 1 hts gX5_walk_X1_hasFloor rfl rfl rfl (by decide +kernel) ⟨Nat.le_of_ble_eq_true rfl, Nat.le_of_ble_eq_true rfl⟩) (hP.sub (ws' := wHs g a0 w0) [1, 2, 3, 4, 5, 6, 7, 8, 9, 10] rfl) hK hT hS 0 1 rfl rfl rfl rfl hl.1 rfl (Nat.le_of_ble_eq_true rfl) dX5_walk_5 ⟨Nat.le_of_ble_eq_true rfl, Nat.le_of_ble_eq_true rfl⟩ ?_
  refine q_bz_eq (tgt := 39) hx hb dX5_walk_8 (by decide) (fun c_1 => ?_) (fun c_1 => ?_)
  · refine lv_aload_n hx hb dX5_walk_39 rfl (lv_at hl 0 rfl) ?_
    refine q_bipush hx hb dX5_walk_40 rfl ?_
    refine q_cEi (z := (-2)) (b := (ob 0)) (As := [.int (zI (-2))]) (rest := []) (w1 := wWW g ob a0 a1 a2 a3 q w0 w1 w2 w3 kp tx tz fa fb (rfu rf (-2))) ⟨hx, hb, hml, hown, hts⟩ hP hD hK hT hS hA (kX5_refuse l dC dI g tt _ ob a0 a1 a2 a3 q w0 w1 w2 w3 kp tx tz fa fb rf (-2) (by decide)) (cwV 1 hts gX5_walk_X5_refuse rfl rfl rfl (by decide +kernel) ⟨Nat.le_of_ble_eq_true rfl, Nat.le_of_ble_eq_true rfl⟩) 0 4 rfl rfl rfl rfl hl.1 rfl (Nat.le_of_ble_eq_true rfl) dX5_walk_42 ⟨Nat.le_of_ble_eq_true rfl, Nat.le_of_ble_eq_true rfl⟩ (fun H locs hP hD hS => ?_)
    have hPf : va_P (dC, dI) vwCl (wWW g ob a0 a1 a2 a3 q w0 w1 w2 w3 kp tx tz fa fb (rfa rf (cc_ride w0 x1 x2 x3 x4))) H := by rw [(show (rfa rf (cc_ride w0 x1 x2 x3 x4)) = rfu rf (-2) from by first | exact rfa_0 (by unfold cc_ride; (repeat' split) <;> omega) | exact rfa_n (by unfold cc_ride; (repeat' split) <;> omega) (by decide))]; exact hP
    have hDf : va_D A (wWW g ob a0 a1 a2 a3 q w0 w1 w2 w3 kp tx tz fa fb (rfa rf (cc_ride w0 x1 x2 x3 x4))) := by rw [(show (rfa rf (cc_ride w0 x1 x2 x3 x4)) = rfu rf (-2) from by first | exact rfa_0 (by unfold cc_ride; (repeat' split) <;> omega) | exact rfa_n (by unfold cc_ride; (repeat' split) <;> omega) (by decide))]; exact hD
    exact W.iret hx hb hr (fun t9 ht9 hW9 => ⟨⟨_, (), rfl, congrArg zI (show (-2) = ca_walk w0 x1 x2 x3 x4 from by first | (unfold ca_walk; rw [if_neg (by omega)]; done) | (unfold ca_walk; rw [if_pos (by omega), if_pos (by omega), show w0 1 + 1 = k by omega, ← hs]; done) | (unfold ca_walk; rw [if_pos (by omega), if_neg (by omega), show w0 1 + 1 = k by omega, ← hs]; done)), by rw [ht9]; exact hPf, va_K.moved hW9.alike hK, hDf⟩, hS.F ht9⟩) hS.2.2 dX5_walk_45
  · refine lv_aload_n hx hb dX5_walk_11 rfl (lv_at hl 0 rfl) ?_
    refine va_get (D := (dC, dI)) (ci := 4) (v := .ref (a0 0)) (C := RX5) (T := TX5) (N := 8) hx hb hts iX5 hown hK hP 0 rfl rfl 0 (by decide) kf10 (fun _ h9 => h9) rfl dX5_walk_12 ?_
    refine lv_iload_n hx hb dX5_walk_15 rfl (lv_at hl 2 rfl) ?_
    refine q_cVi (z := bz (0 ≤ x2 ∧ x2 ≤ w0 1)) (b := (a0 0)) (As := [.int (zI x2)]) (rest := []) ⟨hx, hb, hml, hown, hts⟩ (kX1_hasFloor l dC dI g tt a0 w0 x2 (hw) (by omega)) (cwV 1 hts gX5_walk_X1_hasFloor rfl rfl rfl (by decide +kernel) ⟨Nat.le_of_ble_eq_true rfl, Nat.le_of_ble_eq_true rfl⟩) (hP.sub (ws' := wHs g a0 w0) [1, 2, 3, 4, 5, 6, 7, 8, 9, 10] rfl) hK hT hS 0 1 rfl rfl rfl rfl hl.1 rfl (Nat.le_of_ble_eq_true rfl) dX5_walk_16 ⟨Nat.le_of_ble_eq_true rfl, Nat.le_of_ble_eq_true rfl⟩ ?_
    refine q_bz_eq (tgt := 39) hx hb dX5_walk_19 (by decide) (fun c_2 => ?_) (fun c_2 => ?_)
    · refine lv_aload_n hx hb dX5_walk_39 rfl (lv_at hl 0 rfl) ?_
      refine q_bipush hx hb dX5_walk_40 rfl ?_
      refine q_cEi (z := (-2)) (b := (ob 0)) (As := [.int (zI (-2))]) (rest := []) (w1 := wWW g ob a0 a1 a2 a3 q w0 w1 w2 w3 kp tx tz fa fb (rfu rf (-2))) ⟨hx, hb, hml, hown, hts⟩ hP hD hK hT hS hA (kX5_refuse l dC dI g tt _ ob a0 a1 a2 a3 q w0 w1 w2 w3 kp tx tz fa fb rf (-2) (by decide)) (cwV 1 hts gX5_walk_X5_refuse rfl rfl rfl (by decide +kernel) ⟨Nat.le_of_ble_eq_true rfl, Nat.le_of_ble_eq_true rfl⟩) 0 4 rfl rfl rfl rfl hl.1 rfl (Nat.le_of_ble_eq_true rfl) dX5_walk_42 ⟨Nat.le_of_ble_eq_true rfl, Nat.le_of_ble_eq_true rfl⟩ (fun H locs hP hD hS => ?_)
      have hPf : va_P (dC, dI) vwCl (wWW g ob a0 a1 a2 a3 q w0 w1 w2 w3 kp tx tz fa fb (rfa rf (cc_ride w0 x1 x2 x3 x4))) H := by rw [(show (rfa rf (cc_ride w0 x1 x2 x3 x4)) = rfu rf (-2) from by first | exact rfa_0 (by unfold cc_ride; (repeat' split) <;> omega) | exact rfa_n (by unfold cc_ride; (repeat' split) <;> omega) (by decide))]; exact hP
      have hDf : va_D A (wWW g ob a0 a1 a2 a3 q w0 w1 w2 w3 kp tx tz fa fb (rfa rf (cc_ride w0 x1 x2 x3 x4))) := by rw [(show (rfa rf (cc_ride w0 x1 x2 x3 x4)) = rfu rf (-2) from by first | exact rfa_0 (by unfold cc_ride; (repeat' split) <;> omega) | exact rfa_n (by unfold cc_ride; (repeat' split) <;> omega) (by decide))]; exact hD
      exact W.iret hx hb hr (fun t9 ht9 hW9 => ⟨⟨_, (), rfl, congrArg zI (show (-2) = ca_walk w0 x1 x2 x3 x4 from by first | (unfold ca_walk; rw [if_neg (by omega)]; done) | (unfold ca_walk; rw [if_pos (by omega), if_pos (by omega), show w0 1 + 1 = k by omega, ← hs]; done) | (unfold ca_walk; rw [if_pos (by omega), if_neg (by omega), show w0 1 + 1 = k by omega, ← hs]; done)), by rw [ht9]; exact hPf, va_K.moved hW9.alike hK, hDf⟩, hS.F ht9⟩) hS.2.2 dX5_walk_45
    · refine lv_iload_n hx hb dX5_walk_22 rfl (lv_at hl 3 rfl) ?_
      refine q_cSi (z := bz (0 ≤ x3 ∧ x3 ≤ 999)) (As := [.int (zI x3)]) (rest := []) ⟨hx, hb, hml, hown, hts⟩ (kX5_isMinute l dC dI g tt x3 (by omega)) (va_cwS 1 hts gX5_walk_X5_isMinute rfl rfl rfl (by decide +kernel) ⟨Nat.le_of_ble_eq_true rfl, Nat.le_of_ble_eq_true rfl⟩) (hP.sub (ws' := []) [] rfl) hK hT hS rfl hl.1 rfl (Nat.le_of_ble_eq_true rfl) dX5_walk_23 ⟨Nat.le_of_ble_eq_true rfl, Nat.le_of_ble_eq_true rfl⟩ ?_
      refine q_bz_eq (tgt := 39) hx hb dX5_walk_26 (by decide) (fun c_3 => ?_) (fun c_3 => ?_)
      · refine lv_aload_n hx hb dX5_walk_39 rfl (lv_at hl 0 rfl) ?_
        refine q_bipush hx hb dX5_walk_40 rfl ?_
        refine q_cEi (z := (-2)) (b := (ob 0)) (As := [.int (zI (-2))]) (rest := []) (w1 := wWW g ob a0 a1 a2 a3 q w0 w1 w2 w3 kp tx tz fa fb (rfu rf (-2))) ⟨hx, hb, hml, hown, hts⟩ hP hD hK hT hS hA (kX5_refuse l dC dI g tt _ ob a0 a1 a2 a3 q w0 w1 w2 w3 kp tx tz fa fb rf (-2) (by decide)) (cwV 1 hts gX5_walk_X5_refuse rfl rfl rfl (by decide +kernel) ⟨Nat.le_of_ble_eq_true rfl, Nat.le_of_ble_eq_true rfl⟩) 0 4 rfl rfl rfl rfl hl.1 rfl (Nat.le_of_ble_eq_true rfl) dX5_walk_42 ⟨Nat.le_of_ble_eq_true rfl, Nat.le_of_ble_eq_true rfl⟩ (fun H locs hP hD hS => ?_)
        have hPf : va_P (dC, dI) vwCl (wWW g ob a0 a1 a2 a3 q w0 w1 w2 w3 kp tx tz fa fb (rfa rf (cc_ride w0 x1 x2 x3 x4))) H := by rw [(show (rfa rf (cc_ride w0 x1 x2 x3 x4)) = rfu rf (-2) from by first | exact rfa_0 (by unfold cc_ride; (repeat' split) <;> omega) | exact rfa_n (by unfold cc_ride; (repeat' split) <;> omega) (by decide))]; exact hP
        have hDf : va_D A (wWW g ob a0 a1 a2 a3 q w0 w1 w2 w3 kp tx tz fa fb (rfa rf (cc_ride w0 x1 x2 x3 x4))) := by rw [(show (rfa rf (cc_ride w0 x1 x2 x3 x4)) = rfu rf (-2) from by first | exact rfa_0 (by unfold cc_ride; (repeat' split) <;> omega) | exact rfa_n (by unfold cc_ride; (repeat' split) <;> omega) (by decide))]; exact hD
        exact W.iret hx hb hr (fun t9 ht9 hW9 => ⟨⟨_, (), rfl, congrArg zI (show (-2) = ca_walk w0 x1 x2 x3 x4 from by first | (unfold ca_walk; rw [if_neg (by omega)]; done) | (unfold ca_walk; rw [if_pos (by omega), if_pos (by omega), show w0 1 + 1 = k by omega, ← hs]; done) | (unfold ca_walk; rw [if_pos (by omega), if_neg (by omega), show w0 1 + 1 = k by omega, ← hs]; done)), by rw [ht9]; exact hPf, va_K.moved hW9.alike hK, hDf⟩, hS.F ht9⟩) hS.2.2 dX5_walk_45
      · refine lv_iload hx hb dX5_walk_29 (lv_at hl 4 rfl) ?_
        refine q_iconst hx hb dX5_walk_31 ?_
        refine q_iconst hx hb dX5_walk_32 ?_
        refine q_cSi (z := bz (0 ≤ x4 ∧ x4 ≤ 1)) (As := [.int (zI x4), .int (zI 0), .int (zI 1)]) (rest := []) ⟨hx, hb, hml, hown, hts⟩ (kX5_isWithin l dC dI g tt x4 0 1 (by omega)) (va_cwS 3 hts gX5_walk_X5_isWithin rfl rfl rfl (by decide +kernel) ⟨Nat.le_of_ble_eq_true rfl, Nat.le_of_ble_eq_true rfl⟩) (hP.sub (ws' := []) [] rfl) hK hT hS rfl hl.1 rfl (Nat.le_of_ble_eq_true rfl) dX5_walk_33 ⟨Nat.le_of_ble_eq_true rfl, Nat.le_of_ble_eq_true rfl⟩ ?_
        refine q_bz_ne (tgt := 46) hx hb dX5_walk_36 (by decide) (fun c_4 => ?_) (fun c_4 => ?_)
        · refine lv_iload_n hx hb dX5_walk_46 rfl (lv_at hl 2 rfl) ?_
          refine lv_istore (lv' := [(5, .int (zI x2)), (0, .ref (ob 0)), (1, .int (zI x1)), (2, .int (zI x2)), (3, .int (zI x3)), (4, .int (zI x4))]) hx hb dX5_walk_47 hl (by decide) rfl (fun ls hl => ?_)
          have hat := absz_r (a := x2 - x1) (b := 11) (by omega)
          refine q_iconst hx hb dX5_walk_49 ?_
          refine lv_iload_n hx hb dX5_walk_50 rfl (lv_at hl 3 rfl) ?_
          refine lv_iload_n hx hb dX5_walk_51 rfl (lv_at hl 2 rfl) ?_
          refine q_isub hx hb dX5_walk_52 ?_
          refine q_mabs hx hb (hml.trans hl.1.symm) hown km168 (hts (.static Lib.Math.abs.name) (by decide +kernel)) (hts (.initialized "java/lang/Math") (by decide +kernel)) (hts (.code Lib.Math.abs.name Lib.Math.abs.code 1 (some .int)) (by decide +kernel)) (Nat.le_of_ble_eq_true rfl) (Nat.le_of_ble_eq_true rfl) (Nat.le_of_ble_eq_true rfl) (Nat.le_of_ble_eq_true rfl) (by omega) dX5_walk_53 ?_
          refine q_imul hx hb dX5_walk_56 ?_
          refine lv_istore (lv' := [(6, .int (zI (2 * (absz (x2 - x1))))), (5, .int (zI x2)), (0, .ref (ob 0)), (1, .int (zI x1)), (2, .int (zI x2)), (3, .int (zI x3)), (4, .int (zI x4))]) hx hb dX5_walk_57 hl (by decide) rfl (fun ls hl => ?_)
          refine lv_iload hx hb dX5_walk_59 (lv_at hl 0 rfl) ?_
          refine lv_istore (lv' := [(7, .int (zI (2 * (absz (x2 - x1))))), (6, .int (zI (2 * (absz (x2 - x1))))), (5, .int (zI x2)), (0, .ref (ob 0)), (1, .int (zI x1)), (2, .int (zI x2)), (3, .int (zI x3)), (4, .int (zI x4))]) hx hb dX5_walk_61 hl (by decide) rfl (fun ls hl => ?_)
          refine q_iconst hx hb dX5_walk_63 ?_
          refine lv_istore (lv' := [(8, .int (zI 0)), (7, .int (zI (2 * (absz (x2 - x1))))), (6, .int (zI (2 * (absz (x2 - x1))))), (5, .int (zI x2)), (0, .ref (ob 0)), (1, .int (zI x1)), (2, .int (zI x2)), (3, .int (zI x3)), (4, .int (zI x4))]) hx hb dX5_walk_64 hl (by decide) rfl (fun ls hl => ?_)
          refine w_loopP (σ := Int × Int × Int × Int) (fun a9 ls => (0 ≤ a9.1 ∧ a9.1 ≤ w0 1 + 1) ∧ ((a9.2.1, a9.2.2.1, a9.2.2.2) = wkR w0 x1 x2 x3 a9.1) ∧ ((0 ≤ a9.2.2.1 ∧ a9.2.2.1 ≤ 100) ∧ (-1 ≤ a9.2.2.2 ∧ a9.2.2.2 ≤ 100)) ∧ lv_has ls 13 [(0, .ref (ob 0)), (1, .int (zI x1)), (2, .int (zI x2)), (3, .int (zI x3)), (4, .int (zI x4)), (5, .int (zI a9.2.1)), (6, .int (zI a9.2.2.1)), (7, .int (zI a9.2.2.2)), (8, .int (zI a9.1))]) (fun a9 => (w0 1 + 1 - a9.1).toNat) ?_ (0, x2, 2 * (absz (x2 - x1)), 2 * (absz (x2 - x1))) ?_
          · rintro ⟨k, bs, bw, bt⟩ ls ⟨hk, hs, hbt, hl⟩ ih66
            have hk : 0 ≤ k ∧ k ≤ w0 1 + 1 := hk
            have hs : (bs, bw, bt) = wkR w0 x1 x2 x3 k := hs
            have hbt : (0 ≤ bw ∧ bw ≤ 100) ∧ (-1 ≤ bt ∧ bt ≤ 100) := hbt
            have hl : lv_has ls 13 [(0, .ref (ob 0)), (1, .int (zI x1)), (2, .int (zI x2)), (3, .int (zI x3)), (4, .int (zI x4)), (5, .int (zI bs)), (6, .int (zI bw)), (7, .int (zI bt)), (8, .int (zI k))] := hl
            refine lv_iload hx hb dX5_walk_66 (lv_at hl 8 rfl) ?_
            refine lv_aload_n hx hb dX5_walk_68 rfl (lv_at hl 0 rfl) ?_
            refine va_get (D := (dC, dI)) (ci := 4) (v := .ref (a0 0)) (C := RX5) (T := TX5) (N := 8) hx hb hts iX5 hown hK hP 0 rfl rfl 0 (by decide) kf10 (fun _ h9 => h9) rfl dX5_walk_69 ?_
            refine va_get (D := (dC, dI)) (ci := 1) (v := .int (zI (w0 1))) (C := RX1) (T := TX1) (N := 14) hx hb hts iX1 hown hK hP 1 rfl rfl 0 (by decide) kf130 (fun _ h9 => h9) rfl dX5_walk_72 ?_
            refine q_icmp_gt (tgt := 170) hx hb dX5_walk_75 (by decide) (by omega) (fun c_5 => ?_) (fun c_5 => ?_)
            · refine lv_iload hx hb dX5_walk_170 (lv_at hl 4 rfl) ?_
              refine q_if_ne (tgt := 180) hx hb dX5_walk_172 (by decide) (by omega) (fun c_6 => ?_) (fun c_6 => ?_)
              · refine lv_iload hx hb dX5_walk_180 (lv_at hl 7 rfl) ?_
                have hPf : va_P (dC, dI) vwCl (wWW g ob a0 a1 a2 a3 q w0 w1 w2 w3 kp tx tz fa fb (rfa rf (cc_ride w0 x1 x2 x3 x4))) s.heap := by rw [(show (rfa rf (cc_ride w0 x1 x2 x3 x4)) = rf from by first | exact rfa_0 (by unfold cc_ride; (repeat' split) <;> omega) | exact rfa_n (by unfold cc_ride; (repeat' split) <;> omega) (by decide))]; exact hP
                have hDf : va_D A (wWW g ob a0 a1 a2 a3 q w0 w1 w2 w3 kp tx tz fa fb (rfa rf (cc_ride w0 x1 x2 x3 x4))) := by rw [(show (rfa rf (cc_ride w0 x1 x2 x3 x4)) = rf from by first | exact rfa_0 (by unfold cc_ride; (repeat' split) <;> omega) | exact rfa_n (by unfold cc_ride; (repeat' split) <;> omega) (by decide))]; exact hD
                exact W.iret hx hb hr (fun t9 ht9 hW9 => ⟨⟨_, (), rfl, congrArg zI (show bt = ca_walk w0 x1 x2 x3 x4 from by first | (unfold ca_walk; rw [if_neg (by omega)]; done) | (unfold ca_walk; rw [if_pos (by omega), if_pos (by omega), show w0 1 + 1 = k by omega, ← hs]; done) | (unfold ca_walk; rw [if_pos (by omega), if_neg (by omega), show w0 1 + 1 = k by omega, ← hs]; done)), by rw [ht9]; exact hPf, va_K.moved hW9.alike hK, hDf⟩, hS.F ht9⟩) hS.2.2 dX5_walk_182
              · refine lv_iload hx hb dX5_walk_175 (lv_at hl 5 rfl) ?_
                refine lv_goto (tgt := 182) hx hb dX5_walk_177 (by decide) ?_
                have hPf : va_P (dC, dI) vwCl (wWW g ob a0 a1 a2 a3 q w0 w1 w2 w3 kp tx tz fa fb (rfa rf (cc_ride w0 x1 x2 x3 x4))) s.heap := by rw [(show (rfa rf (cc_ride w0 x1 x2 x3 x4)) = rf from by first | exact rfa_0 (by unfold cc_ride; (repeat' split) <;> omega) | exact rfa_n (by unfold cc_ride; (repeat' split) <;> omega) (by decide))]; exact hP
                have hDf : va_D A (wWW g ob a0 a1 a2 a3 q w0 w1 w2 w3 kp tx tz fa fb (rfa rf (cc_ride w0 x1 x2 x3 x4))) := by rw [(show (rfa rf (cc_ride w0 x1 x2 x3 x4)) = rf from by first | exact rfa_0 (by unfold cc_ride; (repeat' split) <;> omega) | exact rfa_n (by unfold cc_ride; (repeat' split) <;> omega) (by decide))]; exact hD
                exact W.iret hx hb hr (fun t9 ht9 hW9 => ⟨⟨_, (), rfl, congrArg zI (show bs = ca_walk w0 x1 x2 x3 x4 from by first | (unfold ca_walk; rw [if_neg (by omega)]; done) | (unfold ca_walk; rw [if_pos (by omega), if_pos (by omega), show w0 1 + 1 = k by omega, ← hs]; done) | (unfold ca_walk; rw [if_pos (by omega), if_neg (by omega), show w0 1 + 1 = k by omega, ← hs]; done)), by rw [ht9]; exact hPf, va_K.moved hW9.alike hK, hDf⟩, hS.F ht9⟩) hS.2.2 dX5_walk_182
            · have ha := absz_r (a := k - x1) (b := 11) (by omega)
              refine q_iconst hx hb dX5_walk_78 ?_
              refine lv_iload hx hb dX5_walk_79 (lv_at hl 8 rfl) ?_
              refine lv_iload_n hx hb dX5_walk_81 rfl (lv_at hl 1 rfl) ?_
              refine q_isub hx hb dX5_walk_82 ?_
              refine q_mabs hx hb (hml.trans hl.1.symm) hown km168 (hts (.static Lib.Math.abs.name) (by decide +kernel)) (hts (.initialized "java/lang/Math") (by decide +kernel)) (hts (.code Lib.Math.abs.name Lib.Math.abs.code 1 (some .int)) (by decide +kernel)) (Nat.le_of_ble_eq_true rfl) (Nat.le_of_ble_eq_true rfl) (Nat.le_of_ble_eq_true rfl) (Nat.le_of_ble_eq_true rfl) (by omega) dX5_walk_83 ?_
              refine q_imul hx hb dX5_walk_86 ?_
              refine lv_istore (lv' := [(9, .int (zI (2 * (absz (k - x1))))), (0, .ref (ob 0)), (1, .int (zI x1)), (2, .int (zI x2)), (3, .int (zI x3)), (4, .int (zI x4)), (5, .int (zI bs)), (6, .int (zI bw)), (7, .int (zI bt)), (8, .int (zI k))]) hx hb dX5_walk_87 hl (by decide) rfl (fun ls hl => ?_)
              refine lv_aload_n hx hb dX5_walk_89 rfl (lv_at hl 1 rfl) ?_
              refine va_get (D := (dC, dI)) (ci := 4) (v := .ref (ob 3)) (C := RX5) (T := TX5) (N := 8) hx hb hts iX5 hown hK hP 0 rfl rfl 4 (by decide) kf32 (fun _ h9 => h9) rfl dX5_walk_90 ?_
              refine lv_iload hx hb dX5_walk_93 (lv_at hl 9 rfl) ?_
              refine lv_iload_n hx hb dX5_walk_95 rfl (lv_at hl 3 rfl) ?_
              refine lv_iload_n hx hb dX5_walk_96 rfl (lv_at hl 4 rfl) ?_
              refine lv_iload hx hb dX5_walk_97 (lv_at hl 0 rfl) ?_
              refine q_iadd hx hb dX5_walk_99 ?_
              refine q_iconst hx hb dX5_walk_100 ?_
              refine q_cVi (z := c_rd w0 k x2 (x3 + (2 * (absz (k - x1)))) (-1)) (b := (ob 3)) (As := [.int (zI k), .int (zI x2), .int (zI (x3 + (2 * (absz (k - x1))))), .int (zI (-1))]) (rest := []) ⟨hx, hb, hml, hown, hts⟩ (kX4_rideTime l dC dI g tt (ob 3) a0 w0 k x2 (x3 + (2 * (absz (k - x1)))) (-1) (hw) (by omega) (by omega) (by omega) (by omega)) (cwV 4 hts gX5_walk_X4_rideTime rfl rfl rfl (by decide +kernel) ⟨Nat.le_of_ble_eq_true rfl, Nat.le_of_ble_eq_true rfl⟩) (hP.sub (ws' := wWa g (ob 3) a0 w0) [43, 1, 2, 3, 4, 5, 6, 7, 8, 9, 10] rfl) hK hT hS 0 3 rfl rfl rfl rfl hl.1 rfl (Nat.le_of_ble_eq_true rfl) dX5_walk_101 ⟨Nat.le_of_ble_eq_true rfl, Nat.le_of_ble_eq_true rfl⟩ ?_
              have := c_rd_r w0 k x2 (x3 + (2 * (absz (k - x1)))) (-1)
              refine lv_istore (lv' := [(10, .int (zI (c_rd w0 k x2 (x3 + (2 * (absz (k - x1)))) (-1)))), (9, .int (zI (2 * (absz (k - x1))))), (0, .ref (ob 0)), (1, .int (zI x1)), (2, .int (zI x2)), (3, .int (zI x3)), (4, .int (zI x4)), (5, .int (zI bs)), (6, .int (zI bw)), (7, .int (zI bt)), (8, .int (zI k))]) hx hb dX5_walk_104 hl (by decide) rfl (fun ls hl => ?_)
              refine lv_iload hx hb dX5_walk_106 (lv_at hl 1 rfl) ?_
              refine lv_iload hx hb dX5_walk_108 (lv_at hl 0 rfl) ?_
              refine q_iadd hx hb dX5_walk_110 ?_
              refine lv_istore (lv' := [(11, .int (zI ((2 * (absz (k - x1))) + (c_rd w0 k x2 (x3 + (2 * (absz (k - x1)))) (-1))))), (10, .int (zI (c_rd w0 k x2 (x3 + (2 * (absz (k - x1)))) (-1)))), (9, .int (zI (2 * (absz (k - x1))))), (0, .ref (ob 0)), (1, .int (zI x1)), (2, .int (zI x2)), (3, .int (zI x3)), (4, .int (zI x4)), (5, .int (zI bs)), (6, .int (zI bw)), (7, .int (zI bt)), (8, .int (zI k))]) hx hb dX5_walk_111 hl (by decide) rfl (fun ls hl => ?_)
              refine lv_iload hx hb dX5_walk_113 (lv_at hl 0 rfl) ?_
              refine lv_iload hx hb dX5_walk_115 (lv_at hl 10 rfl) ?_
              refine q_icmp_lt (tgt := 134) hx hb dX5_walk_117 (by decide) (by omega) (fun c_7 => ?_) (fun c_7 => ?_)
              · refine q_iconst hx hb dX5_walk_134 ?_
                refine lv_goto (tgt := 139) hx hb dX5_walk_135 (by decide) ?_
                refine lv_istore (lv' := [(12, .int (zI 1)), (11, .int (zI ((2 * (absz (k - x1))) + (c_rd w0 k x2 (x3 + (2 * (absz (k - x1)))) (-1))))), (10, .int (zI (c_rd w0 k x2 (x3 + (2 * (absz (k - x1)))) (-1)))), (9, .int (zI (2 * (absz (k - x1))))), (0, .ref (ob 0)), (1, .int (zI x1)), (2, .int (zI x2)), (3, .int (zI x3)), (4, .int (zI x4)), (5, .int (zI bs)), (6, .int (zI bw)), (7, .int (zI bt)), (8, .int (zI k))]) hx hb dX5_walk_139 hl (by decide) rfl (fun ls hl => ?_)
                refine lv_iload hx hb dX5_walk_141 (lv_at hl 2 rfl) ?_
                refine q_iconst hx hb dX5_walk_143 ?_
                refine q_icmp_eq (tgt := 164) hx hb dX5_walk_144 (by decide) (by omega) (fun c_8 => ?_) (fun c_8 => ?_)
                · refine lv_iinc (v := zI (k + 1)) (lv' := [(8, .int (zI (k + 1))), (12, .int (zI 1)), (11, .int (zI ((2 * (absz (k - x1))) + (c_rd w0 k x2 (x3 + (2 * (absz (k - x1)))) (-1))))), (10, .int (zI (c_rd w0 k x2 (x3 + (2 * (absz (k - x1)))) (-1)))), (9, .int (zI (2 * (absz (k - x1))))), (0, .ref (ob 0)), (1, .int (zI x1)), (2, .int (zI x2)), (3, .int (zI x3)), (4, .int (zI x4)), (5, .int (zI bs)), (6, .int (zI bw)), (7, .int (zI bt))]) hx hb dX5_walk_164 hl (k := 12) rfl (zI_add _ _) (by decide) rfl (fun ls hl => ?_)
                  refine lv_goto (tgt := 66) hx hb dX5_walk_167 (by decide) ?_
                  exact ih66 (k + 1, bs, bw, bt) ls ⟨(show 0 ≤ (k + 1) ∧ (k + 1) ≤ w0 1 + 1 from by omega), (show (bs, bw, bt) = wkR w0 x1 x2 x3 (k + 1) from by unfold wkR at hs ⊢; rw [itR_s (by omega), ← hs]; unfold wkS; rw [if_neg (show ¬ (¬ c_rd w0 k x2 (x3 + 2 * absz (k - x1)) (-1) = -1 ∧ (wkT w0 x1 x2 x3 k < bt ∨ (wkT w0 x1 x2 x3 k = bt ∧ 2 * absz (k - x1) < bw))) from by unfold wkT; omega)]), (show (0 ≤ bw ∧ bw ≤ 100) ∧ (-1 ≤ bt ∧ bt ≤ 100) from by omega), lv_sub hl [5, 6, 7, 8, 9, 10, 11, 12, 0] rfl⟩ (by show (w0 1 + 1 - (k + 1)).toNat < (w0 1 + 1 - k).toNat; omega)
                · refine lv_iload hx hb dX5_walk_147 (lv_at hl 0 rfl) ?_
                  refine q_if_eqF (tgt := 164) hx hb dX5_walk_149 (by decide) (by decide) ?_
                  refine lv_iload hx hb dX5_walk_152 (lv_at hl 12 rfl) ?_
                  refine lv_istore (lv' := [(5, .int (zI k)), (12, .int (zI 1)), (11, .int (zI ((2 * (absz (k - x1))) + (c_rd w0 k x2 (x3 + (2 * (absz (k - x1)))) (-1))))), (10, .int (zI (c_rd w0 k x2 (x3 + (2 * (absz (k - x1)))) (-1)))), (9, .int (zI (2 * (absz (k - x1))))), (0, .ref (ob 0)), (1, .int (zI x1)), (2, .int (zI x2)), (3, .int (zI x3)), (4, .int (zI x4)), (6, .int (zI bw)), (7, .int (zI bt)), (8, .int (zI k))]) hx hb dX5_walk_154 hl (by decide) rfl (fun ls hl => ?_)
                  refine lv_iload hx hb dX5_walk_156 (lv_at hl 4 rfl) ?_
                  refine lv_istore (lv' := [(6, .int (zI (2 * (absz (k - x1))))), (5, .int (zI k)), (12, .int (zI 1)), (11, .int (zI ((2 * (absz (k - x1))) + (c_rd w0 k x2 (x3 + (2 * (absz (k - x1)))) (-1))))), (10, .int (zI (c_rd w0 k x2 (x3 + (2 * (absz (k - x1)))) (-1)))), (9, .int (zI (2 * (absz (k - x1))))), (0, .ref (ob 0)), (1, .int (zI x1)), (2, .int (zI x2)), (3, .int (zI x3)), (4, .int (zI x4)), (7, .int (zI bt)), (8, .int (zI k))]) hx hb dX5_walk_158 hl (by decide) rfl (fun ls hl => ?_)
                  refine lv_iload hx hb dX5_walk_160 (lv_at hl 3 rfl) ?_
                  refine lv_istore (lv' := [(7, .int (zI ((2 * (absz (k - x1))) + (c_rd w0 k x2 (x3 + (2 * (absz (k - x1)))) (-1))))), (6, .int (zI (2 * (absz (k - x1))))), (5, .int (zI k)), (12, .int (zI 1)), (11, .int (zI ((2 * (absz (k - x1))) + (c_rd w0 k x2 (x3 + (2 * (absz (k - x1)))) (-1))))), (10, .int (zI (c_rd w0 k x2 (x3 + (2 * (absz (k - x1)))) (-1)))), (9, .int (zI (2 * (absz (k - x1))))), (0, .ref (ob 0)), (1, .int (zI x1)), (2, .int (zI x2)), (3, .int (zI x3)), (4, .int (zI x4)), (8, .int (zI k))]) hx hb dX5_walk_162 hl (by decide) rfl (fun ls hl => ?_)
                  refine lv_iinc (v := zI (k + 1)) (lv' := [(8, .int (zI (k + 1))), (7, .int (zI ((2 * (absz (k - x1))) + (c_rd w0 k x2 (x3 + (2 * (absz (k - x1)))) (-1))))), (6, .int (zI (2 * (absz (k - x1))))), (5, .int (zI k)), (12, .int (zI 1)), (11, .int (zI ((2 * (absz (k - x1))) + (c_rd w0 k x2 (x3 + (2 * (absz (k - x1)))) (-1))))), (10, .int (zI (c_rd w0 k x2 (x3 + (2 * (absz (k - x1)))) (-1)))), (9, .int (zI (2 * (absz (k - x1))))), (0, .ref (ob 0)), (1, .int (zI x1)), (2, .int (zI x2)), (3, .int (zI x3)), (4, .int (zI x4))]) hx hb dX5_walk_164 hl (k := 12) rfl (zI_add _ _) (by decide) rfl (fun ls hl => ?_)
                  refine lv_goto (tgt := 66) hx hb dX5_walk_167 (by decide) ?_
                  exact ih66 (k + 1, k, 2 * (absz (k - x1)), (2 * (absz (k - x1))) + (c_rd w0 k x2 (x3 + (2 * (absz (k - x1)))) (-1))) ls ⟨(show 0 ≤ (k + 1) ∧ (k + 1) ≤ w0 1 + 1 from by omega), (show (k, (2 * (absz (k - x1))), ((2 * (absz (k - x1))) + (c_rd w0 k x2 (x3 + (2 * (absz (k - x1)))) (-1)))) = wkR w0 x1 x2 x3 (k + 1) from by unfold wkR at hs ⊢; rw [itR_s (by omega), ← hs]; unfold wkS; rw [if_pos (show (¬ c_rd w0 k x2 (x3 + 2 * absz (k - x1)) (-1) = -1 ∧ (wkT w0 x1 x2 x3 k < bt ∨ (wkT w0 x1 x2 x3 k = bt ∧ 2 * absz (k - x1) < bw))) from by unfold wkT; omega)]), (show (0 ≤ (2 * (absz (k - x1))) ∧ (2 * (absz (k - x1))) ≤ 100) ∧ (-1 ≤ ((2 * (absz (k - x1))) + (c_rd w0 k x2 (x3 + (2 * (absz (k - x1)))) (-1))) ∧ ((2 * (absz (k - x1))) + (c_rd w0 k x2 (x3 + (2 * (absz (k - x1)))) (-1))) ≤ 100) from by omega), lv_sub hl [8, 9, 10, 11, 12, 3, 2, 1, 0] rfl⟩ (by show (w0 1 + 1 - (k + 1)).toNat < (w0 1 + 1 - k).toNat; omega)
              · refine lv_iload hx hb dX5_walk_120 (lv_at hl 0 rfl) ?_
                refine lv_iload hx hb dX5_walk_122 (lv_at hl 10 rfl) ?_
                refine q_icmp_ne (tgt := 138) hx hb dX5_walk_124 (by decide) (by omega) (fun c_9 => ?_) (fun c_9 => ?_)
                · refine q_iconst hx hb dX5_walk_138 ?_
                  refine lv_istore (lv' := [(12, .int (zI 0)), (11, .int (zI ((2 * (absz (k - x1))) + (c_rd w0 k x2 (x3 + (2 * (absz (k - x1)))) (-1))))), (10, .int (zI (c_rd w0 k x2 (x3 + (2 * (absz (k - x1)))) (-1)))), (9, .int (zI (2 * (absz (k - x1))))), (0, .ref (ob 0)), (1, .int (zI x1)), (2, .int (zI x2)), (3, .int (zI x3)), (4, .int (zI x4)), (5, .int (zI bs)), (6, .int (zI bw)), (7, .int (zI bt)), (8, .int (zI k))]) hx hb dX5_walk_139 hl (by decide) rfl (fun ls hl => ?_)
                  refine lv_iload hx hb dX5_walk_141 (lv_at hl 2 rfl) ?_
                  refine q_iconst hx hb dX5_walk_143 ?_
                  refine q_icmp_eq (tgt := 164) hx hb dX5_walk_144 (by decide) (by omega) (fun c_10 => ?_) (fun c_10 => ?_)
                  · refine lv_iinc (v := zI (k + 1)) (lv' := [(8, .int (zI (k + 1))), (12, .int (zI 0)), (11, .int (zI ((2 * (absz (k - x1))) + (c_rd w0 k x2 (x3 + (2 * (absz (k - x1)))) (-1))))), (10, .int (zI (c_rd w0 k x2 (x3 + (2 * (absz (k - x1)))) (-1)))), (9, .int (zI (2 * (absz (k - x1))))), (0, .ref (ob 0)), (1, .int (zI x1)), (2, .int (zI x2)), (3, .int (zI x3)), (4, .int (zI x4)), (5, .int (zI bs)), (6, .int (zI bw)), (7, .int (zI bt))]) hx hb dX5_walk_164 hl (k := 12) rfl (zI_add _ _) (by decide) rfl (fun ls hl => ?_)
                    refine lv_goto (tgt := 66) hx hb dX5_walk_167 (by decide) ?_
                    exact ih66 (k + 1, bs, bw, bt) ls ⟨(show 0 ≤ (k + 1) ∧ (k + 1) ≤ w0 1 + 1 from by omega), (show (bs, bw, bt) = wkR w0 x1 x2 x3 (k + 1) from by unfold wkR at hs ⊢; rw [itR_s (by omega), ← hs]; unfold wkS; rw [if_neg (show ¬ (¬ c_rd w0 k x2 (x3 + 2 * absz (k - x1)) (-1) = -1 ∧ (wkT w0 x1 x2 x3 k < bt ∨ (wkT w0 x1 x2 x3 k = bt ∧ 2 * absz (k - x1) < bw))) from by unfold wkT; omega)]), (show (0 ≤ bw ∧ bw ≤ 100) ∧ (-1 ≤ bt ∧ bt ≤ 100) from by omega), lv_sub hl [5, 6, 7, 8, 9, 10, 11, 12, 0] rfl⟩ (by show (w0 1 + 1 - (k + 1)).toNat < (w0 1 + 1 - k).toNat; omega)
                  · refine lv_iload hx hb dX5_walk_147 (lv_at hl 0 rfl) ?_
                    refine q_if_eqT (tgt := 164) hx hb dX5_walk_149 (by decide) (by decide) ?_
                    refine lv_iinc (v := zI (k + 1)) (lv' := [(8, .int (zI (k + 1))), (12, .int (zI 0)), (11, .int (zI ((2 * (absz (k - x1))) + (c_rd w0 k x2 (x3 + (2 * (absz (k - x1)))) (-1))))), (10, .int (zI (c_rd w0 k x2 (x3 + (2 * (absz (k - x1)))) (-1)))), (9, .int (zI (2 * (absz (k - x1))))), (0, .ref (ob 0)), (1, .int (zI x1)), (2, .int (zI x2)), (3, .int (zI x3)), (4, .int (zI x4)), (5, .int (zI bs)), (6, .int (zI bw)), (7, .int (zI bt))]) hx hb dX5_walk_164 hl (k := 12) rfl (zI_add _ _) (by decide) rfl (fun ls hl => ?_)
                    refine lv_goto (tgt := 66) hx hb dX5_walk_167 (by decide) ?_
                    exact ih66 (k + 1, bs, bw, bt) ls ⟨(show 0 ≤ (k + 1) ∧ (k + 1) ≤ w0 1 + 1 from by omega), (show (bs, bw, bt) = wkR w0 x1 x2 x3 (k + 1) from by unfold wkR at hs ⊢; rw [itR_s (by omega), ← hs]; unfold wkS; rw [if_neg (show ¬ (¬ c_rd w0 k x2 (x3 + 2 * absz (k - x1)) (-1) = -1 ∧ (wkT w0 x1 x2 x3 k < bt ∨ (wkT w0 x1 x2 x3 k = bt ∧ 2 * absz (k - x1) < bw))) from by unfold wkT; omega)]), (show (0 ≤ bw ∧ bw ≤ 100) ∧ (-1 ≤ bt ∧ bt ≤ 100) from by omega), lv_sub hl [5, 6, 7, 8, 9, 10, 11, 12, 0] rfl⟩ (by show (w0 1 + 1 - (k + 1)).toNat < (w0 1 + 1 - k).toNat; omega)
                · refine lv_iload hx hb dX5_walk_127 (lv_at hl 2 rfl) ?_
                  refine lv_iload hx hb dX5_walk_129 (lv_at hl 9 rfl) ?_
                  refine q_icmp_ge (tgt := 138) hx hb dX5_walk_131 (by decide) (by omega) (fun c_11 => ?_) (fun c_11 => ?_)
                  · refine q_iconst hx hb dX5_walk_138 ?_
                    refine lv_istore (lv' := [(12, .int (zI 0)), (11, .int (zI ((2 * (absz (k - x1))) + (c_rd w0 k x2 (x3 + (2 * (absz (k - x1)))) (-1))))), (10, .int (zI (c_rd w0 k x2 (x3 + (2 * (absz (k - x1)))) (-1)))), (9, .int (zI (2 * (absz (k - x1))))), (0, .ref (ob 0)), (1, .int (zI x1)), (2, .int (zI x2)), (3, .int (zI x3)), (4, .int (zI x4)), (5, .int (zI bs)), (6, .int (zI bw)), (7, .int (zI bt)), (8, .int (zI k))]) hx hb dX5_walk_139 hl (by decide) rfl (fun ls hl => ?_)
                    refine lv_iload hx hb dX5_walk_141 (lv_at hl 2 rfl) ?_
                    refine q_iconst hx hb dX5_walk_143 ?_
                    refine q_icmp_eq (tgt := 164) hx hb dX5_walk_144 (by decide) (by omega) (fun c_12 => ?_) (fun c_12 => ?_)
                    · refine lv_iinc (v := zI (k + 1)) (lv' := [(8, .int (zI (k + 1))), (12, .int (zI 0)), (11, .int (zI ((2 * (absz (k - x1))) + (c_rd w0 k x2 (x3 + (2 * (absz (k - x1)))) (-1))))), (10, .int (zI (c_rd w0 k x2 (x3 + (2 * (absz (k - x1)))) (-1)))), (9, .int (zI (2 * (absz (k - x1))))), (0, .ref (ob 0)), (1, .int (zI x1)), (2, .int (zI x2)), (3, .int (zI x3)), (4, .int (zI x4)), (5, .int (zI bs)), (6, .int (zI bw)), (7, .int (zI bt))]) hx hb dX5_walk_164 hl (k := 12) rfl (zI_add _ _) (by decide) rfl (fun ls hl => ?_)
                      refine lv_goto (tgt := 66) hx hb dX5_walk_167 (by decide) ?_
                      exact ih66 (k + 1, bs, bw, bt) ls ⟨(show 0 ≤ (k + 1) ∧ (k + 1) ≤ w0 1 + 1 from by omega), (show (bs, bw, bt) = wkR w0 x1 x2 x3 (k + 1) from by unfold wkR at hs ⊢; rw [itR_s (by omega), ← hs]; unfold wkS; rw [if_neg (show ¬ (¬ c_rd w0 k x2 (x3 + 2 * absz (k - x1)) (-1) = -1 ∧ (wkT w0 x1 x2 x3 k < bt ∨ (wkT w0 x1 x2 x3 k = bt ∧ 2 * absz (k - x1) < bw))) from by unfold wkT; omega)]), (show (0 ≤ bw ∧ bw ≤ 100) ∧ (-1 ≤ bt ∧ bt ≤ 100) from by omega), lv_sub hl [5, 6, 7, 8, 9, 10, 11, 12, 0] rfl⟩ (by show (w0 1 + 1 - (k + 1)).toNat < (w0 1 + 1 - k).toNat; omega)
                    · refine lv_iload hx hb dX5_walk_147 (lv_at hl 0 rfl) ?_
                      refine q_if_eqT (tgt := 164) hx hb dX5_walk_149 (by decide) (by decide) ?_
                      refine lv_iinc (v := zI (k + 1)) (lv' := [(8, .int (zI (k + 1))), (12, .int (zI 0)), (11, .int (zI ((2 * (absz (k - x1))) + (c_rd w0 k x2 (x3 + (2 * (absz (k - x1)))) (-1))))), (10, .int (zI (c_rd w0 k x2 (x3 + (2 * (absz (k - x1)))) (-1)))), (9, .int (zI (2 * (absz (k - x1))))), (0, .ref (ob 0)), (1, .int (zI x1)), (2, .int (zI x2)), (3, .int (zI x3)), (4, .int (zI x4)), (5, .int (zI bs)), (6, .int (zI bw)), (7, .int (zI bt))]) hx hb dX5_walk_164 hl (k := 12) rfl (zI_add _ _) (by decide) rfl (fun ls hl => ?_)
                      refine lv_goto (tgt := 66) hx hb dX5_walk_167 (by decide) ?_
                      exact ih66 (k + 1, bs, bw, bt) ls ⟨(show 0 ≤ (k + 1) ∧ (k + 1) ≤ w0 1 + 1 from by omega), (show (bs, bw, bt) = wkR w0 x1 x2 x3 (k + 1) from by unfold wkR at hs ⊢; rw [itR_s (by omega), ← hs]; unfold wkS; rw [if_neg (show ¬ (¬ c_rd w0 k x2 (x3 + 2 * absz (k - x1)) (-1) = -1 ∧ (wkT w0 x1 x2 x3 k < bt ∨ (wkT w0 x1 x2 x3 k = bt ∧ 2 * absz (k - x1) < bw))) from by unfold wkT; omega)]), (show (0 ≤ bw ∧ bw ≤ 100) ∧ (-1 ≤ bt ∧ bt ≤ 100) from by omega), lv_sub hl [5, 6, 7, 8, 9, 10, 11, 12, 0] rfl⟩ (by show (w0 1 + 1 - (k + 1)).toNat < (w0 1 + 1 - k).toNat; omega)
                  · refine q_iconst hx hb dX5_walk_134 ?_
                    refine lv_goto (tgt := 139) hx hb dX5_walk_135 (by decide) ?_
                    refine lv_istore (lv' := [(12, .int (zI 1)), (11, .int (zI ((2 * (absz (k - x1))) + (c_rd w0 k x2 (x3 + (2 * (absz (k - x1)))) (-1))))), (10, .int (zI (c_rd w0 k x2 (x3 + (2 * (absz (k - x1)))) (-1)))), (9, .int (zI (2 * (absz (k - x1))))), (0, .ref (ob 0)), (1, .int (zI x1)), (2, .int (zI x2)), (3, .int (zI x3)), (4, .int (zI x4)), (5, .int (zI bs)), (6, .int (zI bw)), (7, .int (zI bt)), (8, .int (zI k))]) hx hb dX5_walk_139 hl (by decide) rfl (fun ls hl => ?_)
                    refine lv_iload hx hb dX5_walk_141 (lv_at hl 2 rfl) ?_
                    refine q_iconst hx hb dX5_walk_143 ?_
                    refine q_icmp_eq (tgt := 164) hx hb dX5_walk_144 (by decide) (by omega) (fun c_13 => ?_) (fun c_13 => ?_)
                    · refine lv_iinc (v := zI (k + 1)) (lv' := [(8, .int (zI (k + 1))), (12, .int (zI 1)), (11, .int (zI ((2 * (absz (k - x1))) + (c_rd w0 k x2 (x3 + (2 * (absz (k - x1)))) (-1))))), (10, .int (zI (c_rd w0 k x2 (x3 + (2 * (absz (k - x1)))) (-1)))), (9, .int (zI (2 * (absz (k - x1))))), (0, .ref (ob 0)), (1, .int (zI x1)), (2, .int (zI x2)), (3, .int (zI x3)), (4, .int (zI x4)), (5, .int (zI bs)), (6, .int (zI bw)), (7, .int (zI bt))]) hx hb dX5_walk_164 hl (k := 12) rfl (zI_add _ _) (by decide) rfl (fun ls hl => ?_)
                      refine lv_goto (tgt := 66) hx hb dX5_walk_167 (by decide) ?_
                      exact ih66 (k + 1, bs, bw, bt) ls ⟨(show 0 ≤ (k + 1) ∧ (k + 1) ≤ w0 1 + 1 from by omega), (show (bs, bw, bt) = wkR w0 x1 x2 x3 (k + 1) from by unfold wkR at hs ⊢; rw [itR_s (by omega), ← hs]; unfold wkS; rw [if_neg (show ¬ (¬ c_rd w0 k x2 (x3 + 2 * absz (k - x1)) (-1) = -1 ∧ (wkT w0 x1 x2 x3 k < bt ∨ (wkT w0 x1 x2 x3 k = bt ∧ 2 * absz (k - x1) < bw))) from by unfold wkT; omega)]), (show (0 ≤ bw ∧ bw ≤ 100) ∧ (-1 ≤ bt ∧ bt ≤ 100) from by omega), lv_sub hl [5, 6, 7, 8, 9, 10, 11, 12, 0] rfl⟩ (by show (w0 1 + 1 - (k + 1)).toNat < (w0 1 + 1 - k).toNat; omega)
                    · refine lv_iload hx hb dX5_walk_147 (lv_at hl 0 rfl) ?_
                      refine q_if_eqF (tgt := 164) hx hb dX5_walk_149 (by decide) (by decide) ?_
                      refine lv_iload hx hb dX5_walk_152 (lv_at hl 12 rfl) ?_
                      refine lv_istore (lv' := [(5, .int (zI k)), (12, .int (zI 1)), (11, .int (zI ((2 * (absz (k - x1))) + (c_rd w0 k x2 (x3 + (2 * (absz (k - x1)))) (-1))))), (10, .int (zI (c_rd w0 k x2 (x3 + (2 * (absz (k - x1)))) (-1)))), (9, .int (zI (2 * (absz (k - x1))))), (0, .ref (ob 0)), (1, .int (zI x1)), (2, .int (zI x2)), (3, .int (zI x3)), (4, .int (zI x4)), (6, .int (zI bw)), (7, .int (zI bt)), (8, .int (zI k))]) hx hb dX5_walk_154 hl (by decide) rfl (fun ls hl => ?_)
                      refine lv_iload hx hb dX5_walk_156 (lv_at hl 4 rfl) ?_
                      refine lv_istore (lv' := [(6, .int (zI (2 * (absz (k - x1))))), (5, .int (zI k)), (12, .int (zI 1)), (11, .int (zI ((2 * (absz (k - x1))) + (c_rd w0 k x2 (x3 + (2 * (absz (k - x1)))) (-1))))), (10, .int (zI (c_rd w0 k x2 (x3 + (2 * (absz (k - x1)))) (-1)))), (9, .int (zI (2 * (absz (k - x1))))), (0, .ref (ob 0)), (1, .int (zI x1)), (2, .int (zI x2)), (3, .int (zI x3)), (4, .int (zI x4)), (7, .int (zI bt)), (8, .int (zI k))]) hx hb dX5_walk_158 hl (by decide) rfl (fun ls hl => ?_)
                      refine lv_iload hx hb dX5_walk_160 (lv_at hl 3 rfl) ?_
                      refine lv_istore (lv' := [(7, .int (zI ((2 * (absz (k - x1))) + (c_rd w0 k x2 (x3 + (2 * (absz (k - x1)))) (-1))))), (6, .int (zI (2 * (absz (k - x1))))), (5, .int (zI k)), (12, .int (zI 1)), (11, .int (zI ((2 * (absz (k - x1))) + (c_rd w0 k x2 (x3 + (2 * (absz (k - x1)))) (-1))))), (10, .int (zI (c_rd w0 k x2 (x3 + (2 * (absz (k - x1)))) (-1)))), (9, .int (zI (2 * (absz (k - x1))))), (0, .ref (ob 0)), (1, .int (zI x1)), (2, .int (zI x2)), (3, .int (zI x3)), (4, .int (zI x4)), (8, .int (zI k))]) hx hb dX5_walk_162 hl (by decide) rfl (fun ls hl => ?_)
                      refine lv_iinc (v := zI (k + 1)) (lv' := [(8, .int (zI (k + 1))), (7, .int (zI ((2 * (absz (k - x1))) + (c_rd w0 k x2 (x3 + (2 * (absz (k - x1)))) (-1))))), (6, .int (zI (2 * (absz (k - x1))))), (5, .int (zI k)), (12, .int (zI 1)), (11, .int (zI ((2 * (absz (k - x1))) + (c_rd w0 k x2 (x3 + (2 * (absz (k - x1)))) (-1))))), (10, .int (zI (c_rd w0 k x2 (x3 + (2 * (absz (k - x1)))) (-1)))), (9, .int (zI (2 * (absz (k - x1))))), (0, .ref (ob 0)), (1, .int (zI x1)), (2, .int (zI x2)), (3, .int (zI x3)), (4, .int (zI x4))]) hx hb dX5_walk_164 hl (k := 12) rfl (zI_add _ _) (by decide) rfl (fun ls hl => ?_)
                      refine lv_goto (tgt := 66) hx hb dX5_walk_167 (by decide) ?_
                      exact ih66 (k + 1, k, 2 * (absz (k - x1)), (2 * (absz (k - x1))) + (c_rd w0 k x2 (x3 + (2 * (absz (k - x1)))) (-1))) ls ⟨(show 0 ≤ (k + 1) ∧ (k + 1) ≤ w0 1 + 1 from by omega), (show (k, (2 * (absz (k - x1))), ((2 * (absz (k - x1))) + (c_rd w0 k x2 (x3 + (2 * (absz (k - x1)))) (-1)))) = wkR w0 x1 x2 x3 (k + 1) from by unfold wkR at hs ⊢; rw [itR_s (by omega), ← hs]; unfold wkS; rw [if_pos (show (¬ c_rd w0 k x2 (x3 + 2 * absz (k - x1)) (-1) = -1 ∧ (wkT w0 x1 x2 x3 k < bt ∨ (wkT w0 x1 x2 x3 k = bt ∧ 2 * absz (k - x1) < bw))) from by unfold wkT; omega)]), (show (0 ≤ (2 * (absz (k - x1))) ∧ (2 * (absz (k - x1))) ≤ 100) ∧ (-1 ≤ ((2 * (absz (k - x1))) + (c_rd w0 k x2 (x3 + (2 * (absz (k - x1)))) (-1))) ∧ ((2 * (absz (k - x1))) + (c_rd w0 k x2 (x3 + (2 * (absz (k - x1)))) (-1))) ≤ 100) from by omega), lv_sub hl [8, 9, 10, 11, 12, 3, 2, 1, 0] rfl⟩ (by show (w0 1 + 1 - (k + 1)).toNat < (w0 1 + 1 - k).toNat; omega)
          · exact ⟨(show 0 ≤ 0 ∧ 0 ≤ w0 1 + 1 from by omega), (show (x2, (2 * (absz (x2 - x1))), (2 * (absz (x2 - x1)))) = wkR w0 x1 x2 x3 0 from rfl), (show (0 ≤ (2 * (absz (x2 - x1))) ∧ (2 * (absz (x2 - x1))) ≤ 100) ∧ (-1 ≤ (2 * (absz (x2 - x1))) ∧ (2 * (absz (x2 - x1))) ≤ 100) from by omega), lv_sub hl [4, 5, 6, 7, 8, 3, 2, 1, 0] rfl⟩
        · refine lv_aload_n hx hb dX5_walk_39 rfl (lv_at hl 0 rfl) ?_
          refine q_bipush hx hb dX5_walk_40 rfl ?_
          refine q_cEi (z := (-2)) (b := (ob 0)) (As := [.int (zI (-2))]) (rest := []) (w1 := wWW g ob a0 a1 a2 a3 q w0 w1 w2 w3 kp tx tz fa fb (rfu rf (-2))) ⟨hx, hb, hml, hown, hts⟩ hP hD hK hT hS hA (kX5_refuse l dC dI g tt _ ob a0 a1 a2 a3 q w0 w1 w2 w3 kp tx tz fa fb rf (-2) (by decide)) (cwV 1 hts gX5_walk_X5_refuse rfl rfl rfl (by decide +kernel) ⟨Nat.le_of_ble_eq_true rfl, Nat.le_of_ble_eq_true rfl⟩) 0 4 rfl rfl rfl rfl hl.1 rfl (Nat.le_of_ble_eq_true rfl) dX5_walk_42 ⟨Nat.le_of_ble_eq_true rfl, Nat.le_of_ble_eq_true rfl⟩ (fun H locs hP hD hS => ?_)
          have hPf : va_P (dC, dI) vwCl (wWW g ob a0 a1 a2 a3 q w0 w1 w2 w3 kp tx tz fa fb (rfa rf (cc_ride w0 x1 x2 x3 x4))) H := by rw [(show (rfa rf (cc_ride w0 x1 x2 x3 x4)) = rfu rf (-2) from by first | exact rfa_0 (by unfold cc_ride; (repeat' split) <;> omega) | exact rfa_n (by unfold cc_ride; (repeat' split) <;> omega) (by decide))]; exact hP
          have hDf : va_D A (wWW g ob a0 a1 a2 a3 q w0 w1 w2 w3 kp tx tz fa fb (rfa rf (cc_ride w0 x1 x2 x3 x4))) := by rw [(show (rfa rf (cc_ride w0 x1 x2 x3 x4)) = rfu rf (-2) from by first | exact rfa_0 (by unfold cc_ride; (repeat' split) <;> omega) | exact rfa_n (by unfold cc_ride; (repeat' split) <;> omega) (by decide))]; exact hD
          exact W.iret hx hb hr (fun t9 ht9 hW9 => ⟨⟨_, (), rfl, congrArg zI (show (-2) = ca_walk w0 x1 x2 x3 x4 from by first | (unfold ca_walk; rw [if_neg (by omega)]; done) | (unfold ca_walk; rw [if_pos (by omega), if_pos (by omega), show w0 1 + 1 = k by omega, ← hs]; done) | (unfold ca_walk; rw [if_pos (by omega), if_neg (by omega), show w0 1 + 1 = k by omega, ← hs]; done)), by rw [ht9]; exact hPf, va_K.moved hW9.alike hK, hDf⟩, hS.F ht9⟩) hS.2.2 dX5_walk_45
set_option maxHeartbeats 4000000 in
set_option maxRecDepth 100000 in
theorem kX5_lines (l : Launch) (dC : Nat → ClassId) (dI : Nat → Nat → Nat) (g : Nat → ClassId) (tt : Nat → Nat) (sz : Nat) (ob a0 a1 a2 a3 q : Nat → Nat) (w0 w1 w2 w3 kp tx tz : Int → Int) (fa fb : Int) (rf : Int → Int) (hw : hok w0) : Met l yX5_lines wsX5_lines ({ frames := 2, cells := 0, slots := 0, locals := 56 }) (va_Pc [.ref (ob 0)] (eQ (dC, dI) (wTy g) (wWW g ob a0 a1 a2 a3 q w0 w1 w2 w3 kp tx tz fa fb rf) tt sz)) (va_Qi (fun r (_ : Unit) => r = zI (1)) (fQ (dC, dI) (wTy g) (va_A (wWW g ob a0 a1 a2 a3 q w0 w1 w2 w3 kp tx tz fa fb rf) sz) (wWW g ob a0 a1 a2 a3 q w0 w1 w2 w3 kp tx tz (fsA (c_t0 w0 0) 60 fa) (fsB (c_t0 w0 0) 60 fb) rf)) (va_A (wWW g ob a0 a1 a2 a3 q w0 w1 w2 w3 kp tx tz fa fb rf) sz)) 0 0 (va_A (wWW g ob a0 a1 a2 a3 q w0 w1 w2 w3 kp tx tz fa fb rf) sz) := by
  refine Met.ofW (cc := cX5_lines) (maxL := 1) (ret := (some .int)) (by decide) rfl ?_
  intro p e s m args below meth c s₁ B hml hv
  obtain ⟨rfl, hsz, hP, hK, hD0, hT⟩ := hv
  have hx := B.exec
  have hb := B.bytes
  have hr := B.returns
  have hts := atoms_spec (ws := wsX5_lines) B.pre
  have hown : s.vm.findClass RX5 = some m.cls := findClass_of_methodNamed B.named
  have hlocks := B.notSynchronized
  subst hsz
  have hD := hD0.self (sz := s.heap.size)
  generalize hAe : va_A (wWW g ob a0 a1 a2 a3 q w0 w1 w2 w3 kp tx tz fa fb rf) s.heap.size = A at hD hT ⊢
  have hA : ∀ q : Nat, s.heap.size ≤ q → A q := fun q h => by rw [← hAe]; exact Or.inr h
  have hS : va_S A s.heap s.heap [] := va_S.rf
  have hl := lv_entry ([.ref (ob 0)]) (n := 1) (Nat.le_of_ble_eq_true rfl)
  rw [lg_entry_eq]
  generalize (lg_sl ([.ref (ob 0)]) ++ List.replicate (1 - (lg_sl ([.ref (ob 0)])).length) Slot.unset).toArray = ls at hl ⊢
  have hl : lv_has ls 1 [(0, .ref (ob 0))] := hl
  have kc174 := hts (.constantLong RX5 174 (60)) (by decide +kernel)
  have kf10 := hts (.fieldLink RX5 10 "WrongWay" "now" "LWrongWay$House;") (by decide +kernel)
  have kf46 := hts (.fieldLink RX5 46 "WrongWay" "fraction" "LWrongWay$Fraction;") (by decide +kernel)
  have iX5 := (fun w h => List.mem_cons_of_mem _ (List.mem_append_left _ (List.mem_append_left _ (List.mem_append_right _ h))) : ∀ w ∈ u_ws RX5 TX5 8, w ∈ wsX5_lines)
  have hb0 := hw.b
  refine lv_aload_n hx hb dX5_lines_0 rfl (lv_at hl 0 rfl) ?_
  refine va_get (D := (dC, dI)) (ci := 4) (v := .ref (ob 4)) (C := RX5) (T := TX5) (N := 8) hx hb hts iX5 hown hK hP 0 rfl rfl 6 (by decide) kf46 (fun _ h9 => h9) rfl dX5_lines_1 ?_
  refine lv_aload_n hx hb dX5_lines_4 rfl (lv_at hl 0 rfl) ?_
  refine va_get (D := (dC, dI)) (ci := 4) (v := .ref (a0 0)) (C := RX5) (T := TX5) (N := 8) hx hb hts iX5 hown hK hP 0 rfl rfl 0 (by decide) kf10 (fun _ h9 => h9) rfl dX5_lines_5 ?_
  refine q_iconst hx hb dX5_lines_8 ?_
  refine q_cVi (z := c_t0 w0 0) (b := (a0 0)) (As := [.int (zI 0)]) (rest := [.ref (ob 4)]) ⟨hx, hb, hml, hown, hts⟩ (kX1_turnsOfLine0 l dC dI g tt a0 w0 0 (hw) (by omega)) (cwV 1 hts gX5_lines_X1_turnsOfLine0 rfl rfl rfl (by decide +kernel) ⟨Nat.le_of_ble_eq_true rfl, Nat.le_of_ble_eq_true rfl⟩) (hP.sub (ws' := wHs g a0 w0) [1, 2, 3, 4, 5, 6, 7, 8, 9, 10] rfl) hK hT hS 0 1 rfl rfl rfl rfl hl.1 rfl (Nat.le_of_ble_eq_true rfl) dX5_lines_9 ⟨Nat.le_of_ble_eq_true rfl, Nat.le_of_ble_eq_true rfl⟩ ?_
  have := c_t0_r w0 0
  refine q_i2l hx hb dX5_lines_12 (by omega) ?_
  refine q_ldc2 hx hb 60 hown kc174 (by decide) dX5_lines_13 ?_
  refine q_cVqv (b := (ob 4)) (As := [.long (zL (c_t0 w0 0)), .long (zL 60)]) (rest := []) (wc := wFr (ob 4) fa fb) (w1 := wFr (ob 4) (if 0 < c_gd (c_t0 w0 0) 60 then (c_t0 w0 0) / c_gd (c_t0 w0 0) 60 else fa) (if 0 < c_gd (c_t0 w0 0) 60 then 60 / c_gd (c_t0 w0 0) 60 else fb)) (wr := [(ob 0, .inr (4, [.ref (a0 0), .ref (a1 0), .ref (ob 1), .ref (ob 2), .ref (ob 3), .ref (q 0), .ref (ob 4), .ref (ob 5)])), (a0 0, .inr (1, [.int (zI (w0 1)), .int (zI (w0 0)), .int (zI (w0 2)), .int (zI (w0 3)), .int (zI (w0 4)), .ref (a0 1), .ref (a0 2), .ref (a0 3), .ref (a0 4), .ref (a0 5), .ref (a0 6), .ref (a0 7), .ref (a0 8), .ref (a0 9)])), (a0 1, .inl (g 0, 4, .inl (fun k => zI (w0 (5 + k))))), (a0 2, .inl (g 0, 4, .inl (fun k => zI (w0 (9 + k))))), (a0 3, .inl (g 0, 2, .inl (fun k => zI (w0 (13 + k))))), (a0 4, .inl (g 0, 2, .inl (fun k => zI (w0 (15 + k))))), (a0 5, .inl (g 0, 6, .inl (fun k => zI (w0 (17 + 4 * k))))), (a0 6, .inl (g 0, 6, .inl (fun k => zI (w0 (18 + 4 * k))))), (a0 7, .inl (g 0, 6, .inl (fun k => zI (w0 (19 + 4 * k))))), (a0 8, .inl (g 0, 6, .inl (fun k => zI (w0 (20 + 4 * k))))), (a0 9, .inl (g 0, 8, .inl (fun k => zI (w0 (41 + k))))), (a1 0, .inr (1, [.int (zI (w1 1)), .int (zI (w1 0)), .int (zI (w1 2)), .int (zI (w1 3)), .int (zI (w1 4)), .ref (a1 1), .ref (a1 2), .ref (a1 3), .ref (a1 4), .ref (a1 5), .ref (a1 6), .ref (a1 7), .ref (a1 8), .ref (a1 9)])), (a1 1, .inl (g 0, 4, .inl (fun k => zI (w1 (5 + k))))), (a1 2, .inl (g 0, 4, .inl (fun k => zI (w1 (9 + k))))), (a1 3, .inl (g 0, 2, .inl (fun k => zI (w1 (13 + k))))), (a1 4, .inl (g 0, 2, .inl (fun k => zI (w1 (15 + k))))), (a1 5, .inl (g 0, 6, .inl (fun k => zI (w1 (17 + 4 * k))))), (a1 6, .inl (g 0, 6, .inl (fun k => zI (w1 (18 + 4 * k))))), (a1 7, .inl (g 0, 6, .inl (fun k => zI (w1 (19 + 4 * k))))), (a1 8, .inl (g 0, 6, .inl (fun k => zI (w1 (20 + 4 * k))))), (a1 9, .inl (g 0, 8, .inl (fun k => zI (w1 (41 + k))))), (a2 0, .inr (1, [.int (zI (w2 1)), .int (zI (w2 0)), .int (zI (w2 2)), .int (zI (w2 3)), .int (zI (w2 4)), .ref (a2 1), .ref (a2 2), .ref (a2 3), .ref (a2 4), .ref (a2 5), .ref (a2 6), .ref (a2 7), .ref (a2 8), .ref (a2 9)])), (a2 1, .inl (g 0, 4, .inl (fun k => zI (w2 (5 + k))))), (a2 2, .inl (g 0, 4, .inl (fun k => zI (w2 (9 + k))))), (a2 3, .inl (g 0, 2, .inl (fun k => zI (w2 (13 + k))))), (a2 4, .inl (g 0, 2, .inl (fun k => zI (w2 (15 + k))))), (a2 5, .inl (g 0, 6, .inl (fun k => zI (w2 (17 + 4 * k))))), (a2 6, .inl (g 0, 6, .inl (fun k => zI (w2 (18 + 4 * k))))), (a2 7, .inl (g 0, 6, .inl (fun k => zI (w2 (19 + 4 * k))))), (a2 8, .inl (g 0, 6, .inl (fun k => zI (w2 (20 + 4 * k))))), (a2 9, .inl (g 0, 8, .inl (fun k => zI (w2 (41 + k))))), (a3 0, .inr (1, [.int (zI (w3 1)), .int (zI (w3 0)), .int (zI (w3 2)), .int (zI (w3 3)), .int (zI (w3 4)), .ref (a3 1), .ref (a3 2), .ref (a3 3), .ref (a3 4), .ref (a3 5), .ref (a3 6), .ref (a3 7), .ref (a3 8), .ref (a3 9)])), (a3 1, .inl (g 0, 4, .inl (fun k => zI (w3 (5 + k))))), (a3 2, .inl (g 0, 4, .inl (fun k => zI (w3 (9 + k))))), (a3 3, .inl (g 0, 2, .inl (fun k => zI (w3 (13 + k))))), (a3 4, .inl (g 0, 2, .inl (fun k => zI (w3 (15 + k))))), (a3 5, .inl (g 0, 6, .inl (fun k => zI (w3 (17 + 4 * k))))), (a3 6, .inl (g 0, 6, .inl (fun k => zI (w3 (18 + 4 * k))))), (a3 7, .inl (g 0, 6, .inl (fun k => zI (w3 (19 + 4 * k))))), (a3 8, .inl (g 0, 6, .inl (fun k => zI (w3 (20 + 4 * k))))), (a3 9, .inl (g 0, 8, .inl (fun k => zI (w3 (41 + k))))), (ob 1, .inl (g 3, 2, .inr (.inr (.inr (.inr (im2 (a2 0) (a3 0))))))), (ob 2, .inl (g 2, 2, .inl (fun k => zI (kp k)))), (ob 3, .inr (3, [.ref (a0 0)])), (q 0, .inr (2, [.ref (q 1), .int (zI (tz 0)), .int (zI (tz 1)), .int (zI (tz 2)), .int (zI (tz 3)), .int (zI (tz 4))])), (q 1, .inl (g 1, 150, .inl (fun k => zI (tx k)))), (ob 5, .inl (g 0, 3, .inl (fun k => zI (rf k))))]) [46] [0, 1, 2, 3, 4, 5, 6, 7, 8, 9, 10, 11, 12, 13, 14, 15, 16, 17, 18, 19, 20, 21, 22, 23, 24, 25, 26, 27, 28, 29, 30, 31, 32, 33, 34, 35, 36, 37, 38, 39, 40, 41, 42, 43, 44, 45, 47] ⟨hx, hb, hml, hown, hts⟩ hP hD hK hT hS hA (kX0_set l dC dI g tt _ (ob 4) fa fb (c_t0 w0 0) 60 (by omega)) (cwV 2 hts gX5_lines_X0_set rfl rfl rfl (by decide +kernel) ⟨Nat.le_of_ble_eq_true rfl, Nat.le_of_ble_eq_true rfl⟩) rfl rfl (by decide) (by decide) (by decide) 0 0 rfl rfl rfl rfl hl.1 rfl (Nat.le_of_ble_eq_true rfl) dX5_lines_16 ⟨Nat.le_of_ble_eq_true rfl, Nat.le_of_ble_eq_true rfl⟩ (fun H locs hP hD hS => ?_)
  have hP : va_P (dC, dI) vwCl (wWW g ob a0 a1 a2 a3 q w0 w1 w2 w3 kp tx tz (if 0 < c_gd (c_t0 w0 0) 60 then (c_t0 w0 0) / c_gd (c_t0 w0 0) 60 else fa) (if 0 < c_gd (c_t0 w0 0) 60 then 60 / c_gd (c_t0 w0 0) 60 else fb) rf) H := hP.sub [0, 1, 2, 3, 4, 5, 6, 7, 8, 9, 10, 11, 12, 13, 14, 15, 16, 17, 18, 19, 20, 21, 22, 23, 24, 25, 26, 27, 28, 29, 30, 31, 32, 33, 34, 35, 36, 37, 38, 39, 40, 41, 42, 43, 44, 45, 47, 46] rfl
  have hD : va_D A (wWW g ob a0 a1 a2 a3 q w0 w1 w2 w3 kp tx tz (if 0 < c_gd (c_t0 w0 0) 60 then (c_t0 w0 0) / c_gd (c_t0 w0 0) 60 else fa) (if 0 < c_gd (c_t0 w0 0) 60 then 60 / c_gd (c_t0 w0 0) 60 else fb) rf) := hD.sub [0, 1, 2, 3, 4, 5, 6, 7, 8, 9, 10, 11, 12, 13, 14, 15, 16, 17, 18, 19, 20, 21, 22, 23, 24, 25, 26, 27, 28, 29, 30, 31, 32, 33, 34, 35, 36, 37, 38, 39, 40, 41, 42, 43, 44, 45, 47, 46] (by decide) rfl
  refine q_iconst hx hb dX5_lines_19 ?_
  have hPf : va_P (dC, dI) vwCl (wWW g ob a0 a1 a2 a3 q w0 w1 w2 w3 kp tx tz (fsA (c_t0 w0 0) 60 fa) (fsB (c_t0 w0 0) 60 fb) rf) H := by rw [(show (fsA (c_t0 w0 0) 60 fa) = if 0 < c_gd (c_t0 w0 0) 60 then (c_t0 w0 0) / c_gd (c_t0 w0 0) 60 else fa from by rfl), (show (fsB (c_t0 w0 0) 60 fb) = if 0 < c_gd (c_t0 w0 0) 60 then 60 / c_gd (c_t0 w0 0) 60 else fb from by rfl)]; exact hP
  have hDf : va_D A (wWW g ob a0 a1 a2 a3 q w0 w1 w2 w3 kp tx tz (fsA (c_t0 w0 0) 60 fa) (fsB (c_t0 w0 0) 60 fb) rf) := by rw [(show (fsA (c_t0 w0 0) 60 fa) = if 0 < c_gd (c_t0 w0 0) 60 then (c_t0 w0 0) / c_gd (c_t0 w0 0) 60 else fa from by rfl), (show (fsB (c_t0 w0 0) 60 fb) = if 0 < c_gd (c_t0 w0 0) 60 then 60 / c_gd (c_t0 w0 0) 60 else fb from by rfl)]; exact hD
  exact W.iret hx hb hr (fun t9 ht9 hW9 => ⟨⟨_, (), rfl, congrArg zI (show 1 = 1 from rfl), by rw [ht9]; exact hPf, va_K.moved hW9.alike hK, hDf⟩, hS.F ht9⟩) hS.2.2 dX5_lines_20
set_option maxHeartbeats 4000000 in
set_option maxRecDepth 100000 in
theorem kX5_even (l : Launch) (dC : Nat → ClassId) (dI : Nat → Nat → Nat) (g : Nat → ClassId) (tt : Nat → Nat) (sz : Nat) (ob a0 a1 a2 a3 q : Nat → Nat) (w0 w1 w2 w3 kp tx tz : Int → Int) (fa fb : Int) (rf : Int → Int) (hw : hok w0) : Met l yX5_even wsX5_even ({ frames := 2, cells := 0, slots := 0, locals := 47 }) (va_Pc [.ref (ob 0)] (eQ (dC, dI) (wTy g) (wWW g ob a0 a1 a2 a3 q w0 w1 w2 w3 kp tx tz fa fb rf) tt sz)) (va_Qi (fun r (_ : Unit) => r = zI (ca_even w0)) (fQ (dC, dI) (wTy g) (va_A (wWW g ob a0 a1 a2 a3 q w0 w1 w2 w3 kp tx tz fa fb rf) sz) (wWW g ob a0 a1 a2 a3 q w0 w1 w2 w3 kp tx tz fa fb rf)) (va_A (wWW g ob a0 a1 a2 a3 q w0 w1 w2 w3 kp tx tz fa fb rf) sz)) 0 0 (va_A (wWW g ob a0 a1 a2 a3 q w0 w1 w2 w3 kp tx tz fa fb rf) sz) := by
  refine Met.ofW (cc := cX5_even) (maxL := 5) (ret := (some .int)) (by decide) rfl ?_
  intro p e s m args below meth c s₁ B hml hv
  obtain ⟨rfl, hsz, hP, hK, hD0, hT⟩ := hv
  have hx := B.exec
  have hb := B.bytes
  have hr := B.returns
  have hts := atoms_spec (ws := wsX5_even) B.pre
  have hown : s.vm.findClass RX5 = some m.cls := findClass_of_methodNamed B.named
  have hlocks := B.notSynchronized
  subst hsz
  have hD := hD0.self (sz := s.heap.size)
  generalize hAe : va_A (wWW g ob a0 a1 a2 a3 q w0 w1 w2 w3 kp tx tz fa fb rf) s.heap.size = A at hD hT ⊢
  have hA : ∀ q : Nat, s.heap.size ≤ q → A q := fun q h => by rw [← hAe]; exact Or.inr h
  have hS : va_S A s.heap s.heap [] := va_S.rf
  have hl := lv_entry ([.ref (ob 0)]) (n := 5) (Nat.le_of_ble_eq_true rfl)
  rw [lg_entry_eq]
  generalize (lg_sl ([.ref (ob 0)]) ++ List.replicate (5 - (lg_sl ([.ref (ob 0)])).length) Slot.unset).toArray = ls at hl ⊢
  have hl : lv_has ls 5 [(0, .ref (ob 0))] := hl
  have kf10 := hts (.fieldLink RX5 10 "WrongWay" "now" "LWrongWay$House;") (by decide +kernel)
  have km168 := hts (.methodLink RX5 168 Lib.Math.abs.name) (by decide +kernel)
  have iX5 := (fun w h => List.mem_cons_of_mem _ (List.mem_append_left _ (List.mem_append_right _ h)) : ∀ w ∈ u_ws RX5 TX5 8, w ∈ wsX5_even)
  have hb0 := hw.b
  refine q_iconst hx hb dX5_even_0 ?_
  refine lv_istore_n (lv' := [(1, .int (zI 0)), (0, .ref (ob 0))]) hx hb dX5_even_1 rfl hl (by decide) rfl (fun ls hl => ?_)
  refine q_bipush hx hb dX5_even_2 rfl ?_
  refine lv_istore_n (lv' := [(2, .int (zI 61)), (1, .int (zI 0)), (0, .ref (ob 0))]) hx hb dX5_even_4 rfl hl (by decide) rfl (fun ls hl => ?_)
  refine q_iconst hx hb dX5_even_5 ?_
  refine lv_istore_n (lv' := [(3, .int (zI 0)), (2, .int (zI 61)), (1, .int (zI 0)), (0, .ref (ob 0))]) hx hb dX5_even_6 rfl hl (by decide) rfl (fun ls hl => ?_)
  refine w_loopP (σ := Int × Int × Int) (fun a9 ls => (0 ≤ a9.1 ∧ a9.1 ≤ 30) ∧ ((a9.2.1, a9.2.2) = itR (evS w0) (0, 61) a9.1) ∧ (0 ≤ a9.2.2 ∧ a9.2.2 ≤ 61) ∧ lv_has ls 5 [(0, .ref (ob 0)), (1, .int (zI a9.2.1)), (2, .int (zI a9.2.2)), (3, .int (zI a9.1))]) (fun a9 => (30 - a9.1).toNat) ?_ (0, 0, 61) ?_
  · rintro ⟨i, bs, bo⟩ ls ⟨hi, hs, ho, hl⟩ ih7
    have hi : 0 ≤ i ∧ i ≤ 30 := hi
    have hs : (bs, bo) = itR (evS w0) (0, 61) i := hs
    have ho : 0 ≤ bo ∧ bo ≤ 61 := ho
    have hl : lv_has ls 5 [(0, .ref (ob 0)), (1, .int (zI bs)), (2, .int (zI bo)), (3, .int (zI i))] := hl
    refine lv_iload_n hx hb dX5_even_7 rfl (lv_at hl 3 rfl) ?_
    refine q_bipush hx hb dX5_even_8 rfl ?_
    refine q_icmp_gt (tgt := 48) hx hb dX5_even_10 (by decide) (by omega) (fun c_1 => ?_) (fun c_1 => ?_)
    · refine lv_iload_n hx hb dX5_even_48 rfl (lv_at hl 1 rfl) ?_
      have hPf : va_P (dC, dI) vwCl (wWW g ob a0 a1 a2 a3 q w0 w1 w2 w3 kp tx tz fa fb rf) s.heap := by exact hP
      have hDf : va_D A (wWW g ob a0 a1 a2 a3 q w0 w1 w2 w3 kp tx tz fa fb rf) := by exact hD
      exact W.iret hx hb hr (fun t9 ht9 hW9 => ⟨⟨_, (), rfl, congrArg zI (show bs = ca_even w0 from by unfold ca_even; rw [show (30 : Int) = i by omega, ← hs]), by rw [ht9]; exact hPf, va_K.moved hW9.alike hK, hDf⟩, hS.F ht9⟩) hS.2.2 dX5_even_49
    · refine q_iconst hx hb dX5_even_13 ?_
      refine lv_aload_n hx hb dX5_even_14 rfl (lv_at hl 0 rfl) ?_
      refine va_get (D := (dC, dI)) (ci := 4) (v := .ref (a0 0)) (C := RX5) (T := TX5) (N := 8) hx hb hts iX5 hown hK hP 0 rfl rfl 0 (by decide) kf10 (fun _ h9 => h9) rfl dX5_even_15 ?_
      refine lv_iload_n hx hb dX5_even_18 rfl (lv_at hl 3 rfl) ?_
      refine q_cVi (z := c_t0 w0 i) (b := (a0 0)) (As := [.int (zI i)]) (rest := [.int (zI 2)]) ⟨hx, hb, hml, hown, hts⟩ (kX1_turnsOfLine0 l dC dI g tt a0 w0 i (hw) (by omega)) (cwV 1 hts gX5_even_X1_turnsOfLine0 rfl rfl rfl (by decide +kernel) ⟨Nat.le_of_ble_eq_true rfl, Nat.le_of_ble_eq_true rfl⟩) (hP.sub (ws' := wHs g a0 w0) [1, 2, 3, 4, 5, 6, 7, 8, 9, 10] rfl) hK hT hS 0 1 rfl rfl rfl rfl hl.1 rfl (Nat.le_of_ble_eq_true rfl) dX5_even_19 ⟨Nat.le_of_ble_eq_true rfl, Nat.le_of_ble_eq_true rfl⟩ ?_
      have := c_t0_r w0 i
      refine q_imul hx hb dX5_even_22 ?_
      refine q_bipush hx hb dX5_even_23 rfl ?_
      refine q_isub hx hb dX5_even_25 ?_
      refine q_mabs hx hb (hml.trans hl.1.symm) hown km168 (hts (.static Lib.Math.abs.name) (by decide +kernel)) (hts (.initialized "java/lang/Math") (by decide +kernel)) (hts (.code Lib.Math.abs.name Lib.Math.abs.code 1 (some .int)) (by decide +kernel)) (Nat.le_of_ble_eq_true rfl) (Nat.le_of_ble_eq_true rfl) (Nat.le_of_ble_eq_true rfl) (Nat.le_of_ble_eq_true rfl) (by omega) dX5_even_26 ?_
      have hae := absz_r (a := 2 * c_t0 w0 i - 60) (b := 60) (by omega)
      refine lv_istore (lv' := [(4, .int (zI (absz ((2 * (c_t0 w0 i)) - 60)))), (0, .ref (ob 0)), (1, .int (zI bs)), (2, .int (zI bo)), (3, .int (zI i))]) hx hb dX5_even_29 hl (by decide) rfl (fun ls hl => ?_)
      refine lv_iload hx hb dX5_even_31 (lv_at hl 0 rfl) ?_
      refine lv_iload_n hx hb dX5_even_33 rfl (lv_at hl 3 rfl) ?_
      refine q_icmp_ge (tgt := 42) hx hb dX5_even_34 (by decide) (by omega) (fun c_2 => ?_) (fun c_2 => ?_)
      · refine lv_iinc (v := zI (i + 1)) (lv' := [(3, .int (zI (i + 1))), (4, .int (zI (absz ((2 * (c_t0 w0 i)) - 60)))), (0, .ref (ob 0)), (1, .int (zI bs)), (2, .int (zI bo))]) hx hb dX5_even_42 hl (k := 4) rfl (zI_add _ _) (by decide) rfl (fun ls hl => ?_)
        refine lv_goto (tgt := 7) hx hb dX5_even_45 (by decide) ?_
        exact ih7 (i + 1, bs, bo) ls ⟨(show 0 ≤ (i + 1) ∧ (i + 1) ≤ 30 from by omega), (show (bs, bo) = itR (evS w0) (0, 61) (i + 1) from by rw [itR_s (by omega), ← hs]; unfold evS; rw [if_neg (show ¬ evX w0 i < bo from by unfold evX; omega)]), (show 0 ≤ bo ∧ bo ≤ 61 from by omega), lv_sub hl [2, 3, 4, 0] rfl⟩ (by show (30 - (i + 1)).toNat < (30 - i).toNat; omega)
      · refine lv_iload_n hx hb dX5_even_37 rfl (lv_at hl 4 rfl) ?_
        refine lv_istore_n (lv' := [(1, .int (zI i)), (4, .int (zI (absz ((2 * (c_t0 w0 i)) - 60)))), (0, .ref (ob 0)), (2, .int (zI bo)), (3, .int (zI i))]) hx hb dX5_even_38 rfl hl (by decide) rfl (fun ls hl => ?_)
        refine lv_iload hx hb dX5_even_39 (lv_at hl 1 rfl) ?_
        refine lv_istore_n (lv' := [(2, .int (zI (absz ((2 * (c_t0 w0 i)) - 60)))), (1, .int (zI i)), (4, .int (zI (absz ((2 * (c_t0 w0 i)) - 60)))), (0, .ref (ob 0)), (3, .int (zI i))]) hx hb dX5_even_41 rfl hl (by decide) rfl (fun ls hl => ?_)
        refine lv_iinc (v := zI (i + 1)) (lv' := [(3, .int (zI (i + 1))), (2, .int (zI (absz ((2 * (c_t0 w0 i)) - 60)))), (1, .int (zI i)), (4, .int (zI (absz ((2 * (c_t0 w0 i)) - 60)))), (0, .ref (ob 0))]) hx hb dX5_even_42 hl (k := 4) rfl (zI_add _ _) (by decide) rfl (fun ls hl => ?_)
        refine lv_goto (tgt := 7) hx hb dX5_even_45 (by decide) ?_
        exact ih7 (i + 1, i, absz ((2 * (c_t0 w0 i)) - 60)) ls ⟨(show 0 ≤ (i + 1) ∧ (i + 1) ≤ 30 from by omega), (show (i, (absz ((2 * (c_t0 w0 i)) - 60))) = itR (evS w0) (0, 61) (i + 1) from by rw [itR_s (by omega), ← hs]; unfold evS; rw [if_pos (show evX w0 i < bo from by unfold evX; omega)]; rfl), (show 0 ≤ (absz ((2 * (c_t0 w0 i)) - 60)) ∧ (absz ((2 * (c_t0 w0 i)) - 60)) ≤ 61 from by omega), lv_sub hl [4, 2, 1, 0] rfl⟩ (by show (30 - (i + 1)).toNat < (30 - i).toNat; omega)
  · exact ⟨(show 0 ≤ 0 ∧ 0 ≤ 30 from by omega), (show (0, 61) = itR (evS w0) (0, 61) 0 from rfl), (show 0 ≤ 61 ∧ 61 ≤ 61 from by omega), lv_sub hl [3, 2, 1, 0] rfl⟩
set_option maxHeartbeats 4000000 in
set_option maxRecDepth 100000 in
theorem kX5_note (l : Launch) (dC : Nat → ClassId) (dI : Nat → Nat → Nat) (g : Nat → ClassId) (tt : Nat → Nat) (sz : Nat) (ob a0 a1 a2 a3 q : Nat → Nat) (w0 w1 w2 w3 kp tx tz : Int → Int) (fa fb : Int) (rf : Int → Int) (x1 x2 x3 x4 : Int) (hw : hok w0) (h1 : rI x1 ∧ rI x2 ∧ rI x3 ∧ rI x4) : Met l yX5_note wsX5_note ({ frames := 2, cells := 0, slots := 0, locals := 44 }) (va_Pc [.ref (ob 0), .int (zI x1), .int (zI x2), .int (zI x3), .int (zI x4)] (eQ (dC, dI) (wTy g) (wWW g ob a0 a1 a2 a3 q w0 w1 w2 w3 kp tx tz fa fb rf) tt sz)) (va_Qi (fun r (_ : Unit) => r = zI (ca_note w0 x1 x2 x3 x4)) (fQ (dC, dI) (wTy g) (va_A (wWW g ob a0 a1 a2 a3 q w0 w1 w2 w3 kp tx tz fa fb rf) sz) (wWW g ob a0 a1 a2 a3 q (cw_note w0 x1 x2 x3 x4) w1 w2 w3 kp tx tz fa fb (rfa rf (cc_note w0 x1 x2 x3 x4)))) (va_A (wWW g ob a0 a1 a2 a3 q w0 w1 w2 w3 kp tx tz fa fb rf) sz)) 0 0 (va_A (wWW g ob a0 a1 a2 a3 q w0 w1 w2 w3 kp tx tz fa fb rf) sz) := by
  refine Met.ofW (cc := cX5_note) (maxL := 5) (ret := (some .int)) (by decide) rfl ?_
  intro p e s m args below meth c s₁ B hml hv
  obtain ⟨rfl, hsz, hP, hK, hD0, hT⟩ := hv
  have hx := B.exec
  have hb := B.bytes
  have hr := B.returns
  have hts := atoms_spec (ws := wsX5_note) B.pre
  have hown : s.vm.findClass RX5 = some m.cls := findClass_of_methodNamed B.named
  have hlocks := B.notSynchronized
  subst hsz
  have hD := hD0.self (sz := s.heap.size)
  generalize hAe : va_A (wWW g ob a0 a1 a2 a3 q w0 w1 w2 w3 kp tx tz fa fb rf) s.heap.size = A at hD hT ⊢
  have hA : ∀ q : Nat, s.heap.size ≤ q → A q := fun q h => by rw [← hAe]; exact Or.inr h
  have hS : va_S A s.heap s.heap [] := va_S.rf
  have hl := lv_entry ([.ref (ob 0), .int (zI x1), .int (zI x2), .int (zI x3), .int (zI x4)]) (n := 5) (Nat.le_of_ble_eq_true rfl)
  rw [lg_entry_eq]
  generalize (lg_sl ([.ref (ob 0), .int (zI x1), .int (zI x2), .int (zI x3), .int (zI x4)]) ++ List.replicate (5 - (lg_sl ([.ref (ob 0), .int (zI x1), .int (zI x2), .int (zI x3), .int (zI x4)])).length) Slot.unset).toArray = ls at hl ⊢
  have hl : lv_has ls 5 [(0, .ref (ob 0)), (1, .int (zI x1)), (2, .int (zI x2)), (3, .int (zI x3)), (4, .int (zI x4))] := hl
  have kf10 := hts (.fieldLink RX5 10 "WrongWay" "now" "LWrongWay$House;") (by decide +kernel)
  have kf180 := hts (.fieldLink RX5 180 "WrongWay$House" "noted" "I") (by decide +kernel)
  have iX1 := (fun w h => List.mem_cons_of_mem _ (List.mem_append_right _ h) : ∀ w ∈ u_ws RX1 TX1 14, w ∈ wsX5_note)
  have iX5 := (fun w h => List.mem_cons_of_mem _ (List.mem_append_left _ (List.mem_append_right _ h)) : ∀ w ∈ u_ws RX5 TX5 8, w ∈ wsX5_note)
  have hb0 := hw.b
  refine lv_aload_n hx hb dX5_note_0 rfl (lv_at hl 0 rfl) ?_
  refine va_get (D := (dC, dI)) (ci := 4) (v := .ref (a0 0)) (C := RX5) (T := TX5) (N := 8) hx hb hts iX5 hown hK hP 0 rfl rfl 0 (by decide) kf10 (fun _ h9 => h9) rfl dX5_note_1 ?_
  refine lv_iload_n hx hb dX5_note_4 rfl (lv_at hl 1 rfl) ?_
  refine q_cVi (z := bz (0 ≤ x1 ∧ x1 < w0 0)) (b := (a0 0)) (As := [.int (zI x1)]) (rest := []) ⟨hx, hb, hml, hown, hts⟩ (kX1_hasLift l dC dI g tt a0 w0 x1 (hw) (by omega)) (cwV 1 hts gX5_note_X1_hasLift rfl rfl rfl (by decide +kernel) ⟨Nat.le_of_ble_eq_true rfl, Nat.le_of_ble_eq_true rfl⟩) (hP.sub (ws' := wHs g a0 w0) [1, 2, 3, 4, 5, 6, 7, 8, 9, 10] rfl) hK hT hS 0 1 rfl rfl rfl rfl hl.1 rfl (Nat.le_of_ble_eq_true rfl) dX5_note_5 ⟨Nat.le_of_ble_eq_true rfl, Nat.le_of_ble_eq_true rfl⟩ ?_
  refine q_bz_eq (tgt := 42) hx hb dX5_note_8 (by decide) (fun c_1 => ?_) (fun c_1 => ?_)
  · refine lv_aload_n hx hb dX5_note_42 rfl (lv_at hl 0 rfl) ?_
    refine q_bipush hx hb dX5_note_43 rfl ?_
    refine q_cEi (z := (-2)) (b := (ob 0)) (As := [.int (zI (-2))]) (rest := []) (w1 := wWW g ob a0 a1 a2 a3 q w0 w1 w2 w3 kp tx tz fa fb (rfu rf (-2))) ⟨hx, hb, hml, hown, hts⟩ hP hD hK hT hS hA (kX5_refuse l dC dI g tt _ ob a0 a1 a2 a3 q w0 w1 w2 w3 kp tx tz fa fb rf (-2) (by decide)) (cwV 1 hts gX5_note_X5_refuse rfl rfl rfl (by decide +kernel) ⟨Nat.le_of_ble_eq_true rfl, Nat.le_of_ble_eq_true rfl⟩) 0 4 rfl rfl rfl rfl hl.1 rfl (Nat.le_of_ble_eq_true rfl) dX5_note_45 ⟨Nat.le_of_ble_eq_true rfl, Nat.le_of_ble_eq_true rfl⟩ (fun H locs hP hD hS => ?_)
    have hPf : va_P (dC, dI) vwCl (wWW g ob a0 a1 a2 a3 q (cw_note w0 x1 x2 x3 x4) w1 w2 w3 kp tx tz fa fb (rfa rf (cc_note w0 x1 x2 x3 x4))) H := by rw [(show (cw_note w0 x1 x2 x3 x4) = w0 from by unfold cw_note; (repeat' split) <;> first | rfl | omega | (exfalso; omega)), (show (rfa rf (cc_note w0 x1 x2 x3 x4)) = rfu rf (-2) from by first | exact rfa_0 (by unfold cc_note; (repeat' split) <;> omega) | exact rfa_n (by unfold cc_note; (repeat' split) <;> omega) (by decide))]; exact hP
    have hDf : va_D A (wWW g ob a0 a1 a2 a3 q (cw_note w0 x1 x2 x3 x4) w1 w2 w3 kp tx tz fa fb (rfa rf (cc_note w0 x1 x2 x3 x4))) := by rw [(show (cw_note w0 x1 x2 x3 x4) = w0 from by unfold cw_note; (repeat' split) <;> first | rfl | omega | (exfalso; omega)), (show (rfa rf (cc_note w0 x1 x2 x3 x4)) = rfu rf (-2) from by first | exact rfa_0 (by unfold cc_note; (repeat' split) <;> omega) | exact rfa_n (by unfold cc_note; (repeat' split) <;> omega) (by decide))]; exact hD
    exact W.iret hx hb hr (fun t9 ht9 hW9 => ⟨⟨_, (), rfl, congrArg zI (show (-2) = ca_note w0 x1 x2 x3 x4 from by first | (rw [h_addNoted_3 (by omega)]; unfold ca_note; (repeat' split) <;> omega) | (unfold ca_note; (repeat' split) <;> omega)), by rw [ht9]; exact hPf, va_K.moved hW9.alike hK, hDf⟩, hS.F ht9⟩) hS.2.2 dX5_note_48
  · refine lv_aload_n hx hb dX5_note_11 rfl (lv_at hl 0 rfl) ?_
    refine va_get (D := (dC, dI)) (ci := 4) (v := .ref (a0 0)) (C := RX5) (T := TX5) (N := 8) hx hb hts iX5 hown hK hP 0 rfl rfl 0 (by decide) kf10 (fun _ h9 => h9) rfl dX5_note_12 ?_
    refine lv_iload_n hx hb dX5_note_15 rfl (lv_at hl 2 rfl) ?_
    refine q_cVi (z := bz (0 ≤ x2 ∧ x2 ≤ w0 1)) (b := (a0 0)) (As := [.int (zI x2)]) (rest := []) ⟨hx, hb, hml, hown, hts⟩ (kX1_hasFloor l dC dI g tt a0 w0 x2 (hw) (by omega)) (cwV 1 hts gX5_note_X1_hasFloor rfl rfl rfl (by decide +kernel) ⟨Nat.le_of_ble_eq_true rfl, Nat.le_of_ble_eq_true rfl⟩) (hP.sub (ws' := wHs g a0 w0) [1, 2, 3, 4, 5, 6, 7, 8, 9, 10] rfl) hK hT hS 0 1 rfl rfl rfl rfl hl.1 rfl (Nat.le_of_ble_eq_true rfl) dX5_note_16 ⟨Nat.le_of_ble_eq_true rfl, Nat.le_of_ble_eq_true rfl⟩ ?_
    refine q_bz_eq (tgt := 42) hx hb dX5_note_19 (by decide) (fun c_2 => ?_) (fun c_2 => ?_)
    · refine lv_aload_n hx hb dX5_note_42 rfl (lv_at hl 0 rfl) ?_
      refine q_bipush hx hb dX5_note_43 rfl ?_
      refine q_cEi (z := (-2)) (b := (ob 0)) (As := [.int (zI (-2))]) (rest := []) (w1 := wWW g ob a0 a1 a2 a3 q w0 w1 w2 w3 kp tx tz fa fb (rfu rf (-2))) ⟨hx, hb, hml, hown, hts⟩ hP hD hK hT hS hA (kX5_refuse l dC dI g tt _ ob a0 a1 a2 a3 q w0 w1 w2 w3 kp tx tz fa fb rf (-2) (by decide)) (cwV 1 hts gX5_note_X5_refuse rfl rfl rfl (by decide +kernel) ⟨Nat.le_of_ble_eq_true rfl, Nat.le_of_ble_eq_true rfl⟩) 0 4 rfl rfl rfl rfl hl.1 rfl (Nat.le_of_ble_eq_true rfl) dX5_note_45 ⟨Nat.le_of_ble_eq_true rfl, Nat.le_of_ble_eq_true rfl⟩ (fun H locs hP hD hS => ?_)
      have hPf : va_P (dC, dI) vwCl (wWW g ob a0 a1 a2 a3 q (cw_note w0 x1 x2 x3 x4) w1 w2 w3 kp tx tz fa fb (rfa rf (cc_note w0 x1 x2 x3 x4))) H := by rw [(show (cw_note w0 x1 x2 x3 x4) = w0 from by unfold cw_note; (repeat' split) <;> first | rfl | omega | (exfalso; omega)), (show (rfa rf (cc_note w0 x1 x2 x3 x4)) = rfu rf (-2) from by first | exact rfa_0 (by unfold cc_note; (repeat' split) <;> omega) | exact rfa_n (by unfold cc_note; (repeat' split) <;> omega) (by decide))]; exact hP
      have hDf : va_D A (wWW g ob a0 a1 a2 a3 q (cw_note w0 x1 x2 x3 x4) w1 w2 w3 kp tx tz fa fb (rfa rf (cc_note w0 x1 x2 x3 x4))) := by rw [(show (cw_note w0 x1 x2 x3 x4) = w0 from by unfold cw_note; (repeat' split) <;> first | rfl | omega | (exfalso; omega)), (show (rfa rf (cc_note w0 x1 x2 x3 x4)) = rfu rf (-2) from by first | exact rfa_0 (by unfold cc_note; (repeat' split) <;> omega) | exact rfa_n (by unfold cc_note; (repeat' split) <;> omega) (by decide))]; exact hD
      exact W.iret hx hb hr (fun t9 ht9 hW9 => ⟨⟨_, (), rfl, congrArg zI (show (-2) = ca_note w0 x1 x2 x3 x4 from by first | (rw [h_addNoted_3 (by omega)]; unfold ca_note; (repeat' split) <;> omega) | (unfold ca_note; (repeat' split) <;> omega)), by rw [ht9]; exact hPf, va_K.moved hW9.alike hK, hDf⟩, hS.F ht9⟩) hS.2.2 dX5_note_48
    · refine lv_iload_n hx hb dX5_note_22 rfl (lv_at hl 3 rfl) ?_
      refine q_iconst hx hb dX5_note_23 ?_
      refine q_bipush hx hb dX5_note_24 rfl ?_
      refine q_cSi (z := bz (0 ≤ x3 ∧ x3 ≤ 99)) (As := [.int (zI x3), .int (zI 0), .int (zI 99)]) (rest := []) ⟨hx, hb, hml, hown, hts⟩ (kX5_isWithin l dC dI g tt x3 0 99 (by omega)) (va_cwS 3 hts gX5_note_X5_isWithin rfl rfl rfl (by decide +kernel) ⟨Nat.le_of_ble_eq_true rfl, Nat.le_of_ble_eq_true rfl⟩) (hP.sub (ws' := []) [] rfl) hK hT hS rfl hl.1 rfl (Nat.le_of_ble_eq_true rfl) dX5_note_26 ⟨Nat.le_of_ble_eq_true rfl, Nat.le_of_ble_eq_true rfl⟩ ?_
      refine q_bz_eq (tgt := 42) hx hb dX5_note_29 (by decide) (fun c_3 => ?_) (fun c_3 => ?_)
      · refine lv_aload_n hx hb dX5_note_42 rfl (lv_at hl 0 rfl) ?_
        refine q_bipush hx hb dX5_note_43 rfl ?_
        refine q_cEi (z := (-2)) (b := (ob 0)) (As := [.int (zI (-2))]) (rest := []) (w1 := wWW g ob a0 a1 a2 a3 q w0 w1 w2 w3 kp tx tz fa fb (rfu rf (-2))) ⟨hx, hb, hml, hown, hts⟩ hP hD hK hT hS hA (kX5_refuse l dC dI g tt _ ob a0 a1 a2 a3 q w0 w1 w2 w3 kp tx tz fa fb rf (-2) (by decide)) (cwV 1 hts gX5_note_X5_refuse rfl rfl rfl (by decide +kernel) ⟨Nat.le_of_ble_eq_true rfl, Nat.le_of_ble_eq_true rfl⟩) 0 4 rfl rfl rfl rfl hl.1 rfl (Nat.le_of_ble_eq_true rfl) dX5_note_45 ⟨Nat.le_of_ble_eq_true rfl, Nat.le_of_ble_eq_true rfl⟩ (fun H locs hP hD hS => ?_)
        have hPf : va_P (dC, dI) vwCl (wWW g ob a0 a1 a2 a3 q (cw_note w0 x1 x2 x3 x4) w1 w2 w3 kp tx tz fa fb (rfa rf (cc_note w0 x1 x2 x3 x4))) H := by rw [(show (cw_note w0 x1 x2 x3 x4) = w0 from by unfold cw_note; (repeat' split) <;> first | rfl | omega | (exfalso; omega)), (show (rfa rf (cc_note w0 x1 x2 x3 x4)) = rfu rf (-2) from by first | exact rfa_0 (by unfold cc_note; (repeat' split) <;> omega) | exact rfa_n (by unfold cc_note; (repeat' split) <;> omega) (by decide))]; exact hP
        have hDf : va_D A (wWW g ob a0 a1 a2 a3 q (cw_note w0 x1 x2 x3 x4) w1 w2 w3 kp tx tz fa fb (rfa rf (cc_note w0 x1 x2 x3 x4))) := by rw [(show (cw_note w0 x1 x2 x3 x4) = w0 from by unfold cw_note; (repeat' split) <;> first | rfl | omega | (exfalso; omega)), (show (rfa rf (cc_note w0 x1 x2 x3 x4)) = rfu rf (-2) from by first | exact rfa_0 (by unfold cc_note; (repeat' split) <;> omega) | exact rfa_n (by unfold cc_note; (repeat' split) <;> omega) (by decide))]; exact hD
        exact W.iret hx hb hr (fun t9 ht9 hW9 => ⟨⟨_, (), rfl, congrArg zI (show (-2) = ca_note w0 x1 x2 x3 x4 from by first | (rw [h_addNoted_3 (by omega)]; unfold ca_note; (repeat' split) <;> omega) | (unfold ca_note; (repeat' split) <;> omega)), by rw [ht9]; exact hPf, va_K.moved hW9.alike hK, hDf⟩, hS.F ht9⟩) hS.2.2 dX5_note_48
      · refine lv_iload hx hb dX5_note_32 (lv_at hl 4 rfl) ?_
        refine q_iconst hx hb dX5_note_34 ?_
        refine q_iconst hx hb dX5_note_35 ?_
        refine q_cSi (z := bz (0 ≤ x4 ∧ x4 ≤ 1)) (As := [.int (zI x4), .int (zI 0), .int (zI 1)]) (rest := []) ⟨hx, hb, hml, hown, hts⟩ (kX5_isWithin l dC dI g tt x4 0 1 (by omega)) (va_cwS 3 hts gX5_note_X5_isWithin rfl rfl rfl (by decide +kernel) ⟨Nat.le_of_ble_eq_true rfl, Nat.le_of_ble_eq_true rfl⟩) (hP.sub (ws' := []) [] rfl) hK hT hS rfl hl.1 rfl (Nat.le_of_ble_eq_true rfl) dX5_note_36 ⟨Nat.le_of_ble_eq_true rfl, Nat.le_of_ble_eq_true rfl⟩ ?_
        refine q_bz_ne (tgt := 49) hx hb dX5_note_39 (by decide) (fun c_4 => ?_) (fun c_4 => ?_)
        · refine lv_aload_n hx hb dX5_note_49 rfl (lv_at hl 0 rfl) ?_
          refine va_get (D := (dC, dI)) (ci := 4) (v := .ref (a0 0)) (C := RX5) (T := TX5) (N := 8) hx hb hts iX5 hown hK hP 0 rfl rfl 0 (by decide) kf10 (fun _ h9 => h9) rfl dX5_note_50 ?_
          refine va_get (D := (dC, dI)) (ci := 1) (v := .int (zI (w0 3))) (C := RX1) (T := TX1) (N := 14) hx hb hts iX1 hown hK hP 1 rfl rfl 3 (by decide) kf180 (fun _ h9 => h9) rfl dX5_note_53 ?_
          refine q_bipush hx hb dX5_note_56 rfl ?_
          refine q_icmp_lt (tgt := 68) hx hb dX5_note_58 (by decide) (by omega) (fun c_5 => ?_) (fun c_5 => ?_)
          · refine lv_aload_n hx hb dX5_note_68 rfl (lv_at hl 0 rfl) ?_
            refine va_get (D := (dC, dI)) (ci := 4) (v := .ref (a0 0)) (C := RX5) (T := TX5) (N := 8) hx hb hts iX5 hown hK hP 0 rfl rfl 0 (by decide) kf10 (fun _ h9 => h9) rfl dX5_note_69 ?_
            refine lv_iload_n hx hb dX5_note_72 rfl (lv_at hl 1 rfl) ?_
            refine lv_iload_n hx hb dX5_note_73 rfl (lv_at hl 2 rfl) ?_
            refine lv_iload_n hx hb dX5_note_74 rfl (lv_at hl 3 rfl) ?_
            refine lv_iload hx hb dX5_note_75 (lv_at hl 4 rfl) ?_
            refine q_cVqv (b := (a0 0)) (As := [.int (zI x1), .int (zI x2), .int (zI x3), .int (zI x4)]) (rest := []) (wc := wHs g a0 w0) (w1 := wHs g a0 (h_addNoted w0 x1 x2 x3 x4)) (wr := [(ob 0, .inr (4, [.ref (a0 0), .ref (a1 0), .ref (ob 1), .ref (ob 2), .ref (ob 3), .ref (q 0), .ref (ob 4), .ref (ob 5)])), (a1 0, .inr (1, [.int (zI (w1 1)), .int (zI (w1 0)), .int (zI (w1 2)), .int (zI (w1 3)), .int (zI (w1 4)), .ref (a1 1), .ref (a1 2), .ref (a1 3), .ref (a1 4), .ref (a1 5), .ref (a1 6), .ref (a1 7), .ref (a1 8), .ref (a1 9)])), (a1 1, .inl (g 0, 4, .inl (fun k => zI (w1 (5 + k))))), (a1 2, .inl (g 0, 4, .inl (fun k => zI (w1 (9 + k))))), (a1 3, .inl (g 0, 2, .inl (fun k => zI (w1 (13 + k))))), (a1 4, .inl (g 0, 2, .inl (fun k => zI (w1 (15 + k))))), (a1 5, .inl (g 0, 6, .inl (fun k => zI (w1 (17 + 4 * k))))), (a1 6, .inl (g 0, 6, .inl (fun k => zI (w1 (18 + 4 * k))))), (a1 7, .inl (g 0, 6, .inl (fun k => zI (w1 (19 + 4 * k))))), (a1 8, .inl (g 0, 6, .inl (fun k => zI (w1 (20 + 4 * k))))), (a1 9, .inl (g 0, 8, .inl (fun k => zI (w1 (41 + k))))), (a2 0, .inr (1, [.int (zI (w2 1)), .int (zI (w2 0)), .int (zI (w2 2)), .int (zI (w2 3)), .int (zI (w2 4)), .ref (a2 1), .ref (a2 2), .ref (a2 3), .ref (a2 4), .ref (a2 5), .ref (a2 6), .ref (a2 7), .ref (a2 8), .ref (a2 9)])), (a2 1, .inl (g 0, 4, .inl (fun k => zI (w2 (5 + k))))), (a2 2, .inl (g 0, 4, .inl (fun k => zI (w2 (9 + k))))), (a2 3, .inl (g 0, 2, .inl (fun k => zI (w2 (13 + k))))), (a2 4, .inl (g 0, 2, .inl (fun k => zI (w2 (15 + k))))), (a2 5, .inl (g 0, 6, .inl (fun k => zI (w2 (17 + 4 * k))))), (a2 6, .inl (g 0, 6, .inl (fun k => zI (w2 (18 + 4 * k))))), (a2 7, .inl (g 0, 6, .inl (fun k => zI (w2 (19 + 4 * k))))), (a2 8, .inl (g 0, 6, .inl (fun k => zI (w2 (20 + 4 * k))))), (a2 9, .inl (g 0, 8, .inl (fun k => zI (w2 (41 + k))))), (a3 0, .inr (1, [.int (zI (w3 1)), .int (zI (w3 0)), .int (zI (w3 2)), .int (zI (w3 3)), .int (zI (w3 4)), .ref (a3 1), .ref (a3 2), .ref (a3 3), .ref (a3 4), .ref (a3 5), .ref (a3 6), .ref (a3 7), .ref (a3 8), .ref (a3 9)])), (a3 1, .inl (g 0, 4, .inl (fun k => zI (w3 (5 + k))))), (a3 2, .inl (g 0, 4, .inl (fun k => zI (w3 (9 + k))))), (a3 3, .inl (g 0, 2, .inl (fun k => zI (w3 (13 + k))))), (a3 4, .inl (g 0, 2, .inl (fun k => zI (w3 (15 + k))))), (a3 5, .inl (g 0, 6, .inl (fun k => zI (w3 (17 + 4 * k))))), (a3 6, .inl (g 0, 6, .inl (fun k => zI (w3 (18 + 4 * k))))), (a3 7, .inl (g 0, 6, .inl (fun k => zI (w3 (19 + 4 * k))))), (a3 8, .inl (g 0, 6, .inl (fun k => zI (w3 (20 + 4 * k))))), (a3 9, .inl (g 0, 8, .inl (fun k => zI (w3 (41 + k))))), (ob 1, .inl (g 3, 2, .inr (.inr (.inr (.inr (im2 (a2 0) (a3 0))))))), (ob 2, .inl (g 2, 2, .inl (fun k => zI (kp k)))), (ob 3, .inr (3, [.ref (a0 0)])), (q 0, .inr (2, [.ref (q 1), .int (zI (tz 0)), .int (zI (tz 1)), .int (zI (tz 2)), .int (zI (tz 3)), .int (zI (tz 4))])), (q 1, .inl (g 1, 150, .inl (fun k => zI (tx k)))), (ob 4, .inr (0, [.long (zL fa), .long (zL fb)])), (ob 5, .inl (g 0, 3, .inl (fun k => zI (rf k))))]) [1, 2, 3, 4, 5, 6, 7, 8, 9, 10] [0, 11, 12, 13, 14, 15, 16, 17, 18, 19, 20, 21, 22, 23, 24, 25, 26, 27, 28, 29, 30, 31, 32, 33, 34, 35, 36, 37, 38, 39, 40, 41, 42, 43, 44, 45, 46, 47] ⟨hx, hb, hml, hown, hts⟩ hP hD hK hT hS hA (kX1_addNoted l dC dI g tt _ a0 w0 x1 x2 x3 x4 (by omega)) (cwV 4 hts gX5_note_X1_addNoted rfl rfl rfl (by decide +kernel) ⟨Nat.le_of_ble_eq_true rfl, Nat.le_of_ble_eq_true rfl⟩) rfl rfl (by decide) (by decide) (by decide) 0 1 rfl rfl rfl rfl hl.1 rfl (Nat.le_of_ble_eq_true rfl) dX5_note_77 ⟨Nat.le_of_ble_eq_true rfl, Nat.le_of_ble_eq_true rfl⟩ (fun H locs hP hD hS => ?_)
            have hP : va_P (dC, dI) vwCl (wWW g ob a0 a1 a2 a3 q (h_addNoted w0 x1 x2 x3 x4) w1 w2 w3 kp tx tz fa fb rf) H := hP.sub [0, 38, 39, 40, 41, 42, 43, 44, 45, 46, 47, 1, 2, 3, 4, 5, 6, 7, 8, 9, 10, 11, 12, 13, 14, 15, 16, 17, 18, 19, 20, 21, 22, 23, 24, 25, 26, 27, 28, 29, 30, 31, 32, 33, 34, 35, 36, 37] rfl
            have hD : va_D A (wWW g ob a0 a1 a2 a3 q (h_addNoted w0 x1 x2 x3 x4) w1 w2 w3 kp tx tz fa fb rf) := hD.sub [0, 38, 39, 40, 41, 42, 43, 44, 45, 46, 47, 1, 2, 3, 4, 5, 6, 7, 8, 9, 10, 11, 12, 13, 14, 15, 16, 17, 18, 19, 20, 21, 22, 23, 24, 25, 26, 27, 28, 29, 30, 31, 32, 33, 34, 35, 36, 37] (by decide) rfl
            refine lv_aload_n hx hb dX5_note_80 rfl (lv_at hl 0 rfl) ?_
            refine va_get (D := (dC, dI)) (ci := 4) (v := .ref (a0 0)) (C := RX5) (T := TX5) (N := 8) hx hb hts iX5 hown hK hP 0 rfl rfl 0 (by decide) kf10 (fun _ h9 => h9) rfl dX5_note_81 ?_
            refine va_get (D := (dC, dI)) (ci := 1) (v := .int (zI ((h_addNoted w0 x1 x2 x3 x4) 3))) (C := RX1) (T := TX1) (N := 14) hx hb hts iX1 hown hK hP 1 rfl rfl 3 (by decide) kf180 (fun _ h9 => h9) rfl dX5_note_84 ?_
            have hPf : va_P (dC, dI) vwCl (wWW g ob a0 a1 a2 a3 q (cw_note w0 x1 x2 x3 x4) w1 w2 w3 kp tx tz fa fb (rfa rf (cc_note w0 x1 x2 x3 x4))) H := by rw [(show (cw_note w0 x1 x2 x3 x4) = h_addNoted w0 x1 x2 x3 x4 from by unfold cw_note; (repeat' split) <;> first | rfl | omega | (exfalso; omega)), (show (rfa rf (cc_note w0 x1 x2 x3 x4)) = rf from by first | exact rfa_0 (by unfold cc_note; (repeat' split) <;> omega) | exact rfa_n (by unfold cc_note; (repeat' split) <;> omega) (by decide))]; exact hP
            have hDf : va_D A (wWW g ob a0 a1 a2 a3 q (cw_note w0 x1 x2 x3 x4) w1 w2 w3 kp tx tz fa fb (rfa rf (cc_note w0 x1 x2 x3 x4))) := by rw [(show (cw_note w0 x1 x2 x3 x4) = h_addNoted w0 x1 x2 x3 x4 from by unfold cw_note; (repeat' split) <;> first | rfl | omega | (exfalso; omega)), (show (rfa rf (cc_note w0 x1 x2 x3 x4)) = rf from by first | exact rfa_0 (by unfold cc_note; (repeat' split) <;> omega) | exact rfa_n (by unfold cc_note; (repeat' split) <;> omega) (by decide))]; exact hD
            exact W.iret hx hb hr (fun t9 ht9 hW9 => ⟨⟨_, (), rfl, congrArg zI (show (h_addNoted w0 x1 x2 x3 x4) 3 = ca_note w0 x1 x2 x3 x4 from by first | (rw [h_addNoted_3 (by omega)]; unfold ca_note; (repeat' split) <;> omega) | (unfold ca_note; (repeat' split) <;> omega)), by rw [ht9]; exact hPf, va_K.moved hW9.alike hK, hDf⟩, hS.F ht9⟩) hS.2.2 dX5_note_87
          · refine lv_aload_n hx hb dX5_note_61 rfl (lv_at hl 0 rfl) ?_
            refine q_bipush hx hb dX5_note_62 rfl ?_
            refine q_cEi (z := (-4)) (b := (ob 0)) (As := [.int (zI (-4))]) (rest := []) (w1 := wWW g ob a0 a1 a2 a3 q w0 w1 w2 w3 kp tx tz fa fb (rfu rf (-4))) ⟨hx, hb, hml, hown, hts⟩ hP hD hK hT hS hA (kX5_refuse l dC dI g tt _ ob a0 a1 a2 a3 q w0 w1 w2 w3 kp tx tz fa fb rf (-4) (by decide)) (cwV 1 hts gX5_note_X5_refuse rfl rfl rfl (by decide +kernel) ⟨Nat.le_of_ble_eq_true rfl, Nat.le_of_ble_eq_true rfl⟩) 0 4 rfl rfl rfl rfl hl.1 rfl (Nat.le_of_ble_eq_true rfl) dX5_note_64 ⟨Nat.le_of_ble_eq_true rfl, Nat.le_of_ble_eq_true rfl⟩ (fun H locs hP hD hS => ?_)
            have hPf : va_P (dC, dI) vwCl (wWW g ob a0 a1 a2 a3 q (cw_note w0 x1 x2 x3 x4) w1 w2 w3 kp tx tz fa fb (rfa rf (cc_note w0 x1 x2 x3 x4))) H := by rw [(show (cw_note w0 x1 x2 x3 x4) = w0 from by unfold cw_note; (repeat' split) <;> first | rfl | omega | (exfalso; omega)), (show (rfa rf (cc_note w0 x1 x2 x3 x4)) = rfu rf (-4) from by first | exact rfa_0 (by unfold cc_note; (repeat' split) <;> omega) | exact rfa_n (by unfold cc_note; (repeat' split) <;> omega) (by decide))]; exact hP
            have hDf : va_D A (wWW g ob a0 a1 a2 a3 q (cw_note w0 x1 x2 x3 x4) w1 w2 w3 kp tx tz fa fb (rfa rf (cc_note w0 x1 x2 x3 x4))) := by rw [(show (cw_note w0 x1 x2 x3 x4) = w0 from by unfold cw_note; (repeat' split) <;> first | rfl | omega | (exfalso; omega)), (show (rfa rf (cc_note w0 x1 x2 x3 x4)) = rfu rf (-4) from by first | exact rfa_0 (by unfold cc_note; (repeat' split) <;> omega) | exact rfa_n (by unfold cc_note; (repeat' split) <;> omega) (by decide))]; exact hD
            exact W.iret hx hb hr (fun t9 ht9 hW9 => ⟨⟨_, (), rfl, congrArg zI (show (-4) = ca_note w0 x1 x2 x3 x4 from by first | (rw [h_addNoted_3 (by omega)]; unfold ca_note; (repeat' split) <;> omega) | (unfold ca_note; (repeat' split) <;> omega)), by rw [ht9]; exact hPf, va_K.moved hW9.alike hK, hDf⟩, hS.F ht9⟩) hS.2.2 dX5_note_67
        · refine lv_aload_n hx hb dX5_note_42 rfl (lv_at hl 0 rfl) ?_
          refine q_bipush hx hb dX5_note_43 rfl ?_
          refine q_cEi (z := (-2)) (b := (ob 0)) (As := [.int (zI (-2))]) (rest := []) (w1 := wWW g ob a0 a1 a2 a3 q w0 w1 w2 w3 kp tx tz fa fb (rfu rf (-2))) ⟨hx, hb, hml, hown, hts⟩ hP hD hK hT hS hA (kX5_refuse l dC dI g tt _ ob a0 a1 a2 a3 q w0 w1 w2 w3 kp tx tz fa fb rf (-2) (by decide)) (cwV 1 hts gX5_note_X5_refuse rfl rfl rfl (by decide +kernel) ⟨Nat.le_of_ble_eq_true rfl, Nat.le_of_ble_eq_true rfl⟩) 0 4 rfl rfl rfl rfl hl.1 rfl (Nat.le_of_ble_eq_true rfl) dX5_note_45 ⟨Nat.le_of_ble_eq_true rfl, Nat.le_of_ble_eq_true rfl⟩ (fun H locs hP hD hS => ?_)
          have hPf : va_P (dC, dI) vwCl (wWW g ob a0 a1 a2 a3 q (cw_note w0 x1 x2 x3 x4) w1 w2 w3 kp tx tz fa fb (rfa rf (cc_note w0 x1 x2 x3 x4))) H := by rw [(show (cw_note w0 x1 x2 x3 x4) = w0 from by unfold cw_note; (repeat' split) <;> first | rfl | omega | (exfalso; omega)), (show (rfa rf (cc_note w0 x1 x2 x3 x4)) = rfu rf (-2) from by first | exact rfa_0 (by unfold cc_note; (repeat' split) <;> omega) | exact rfa_n (by unfold cc_note; (repeat' split) <;> omega) (by decide))]; exact hP
          have hDf : va_D A (wWW g ob a0 a1 a2 a3 q (cw_note w0 x1 x2 x3 x4) w1 w2 w3 kp tx tz fa fb (rfa rf (cc_note w0 x1 x2 x3 x4))) := by rw [(show (cw_note w0 x1 x2 x3 x4) = w0 from by unfold cw_note; (repeat' split) <;> first | rfl | omega | (exfalso; omega)), (show (rfa rf (cc_note w0 x1 x2 x3 x4)) = rfu rf (-2) from by first | exact rfa_0 (by unfold cc_note; (repeat' split) <;> omega) | exact rfa_n (by unfold cc_note; (repeat' split) <;> omega) (by decide))]; exact hD
          exact W.iret hx hb hr (fun t9 ht9 hW9 => ⟨⟨_, (), rfl, congrArg zI (show (-2) = ca_note w0 x1 x2 x3 x4 from by first | (rw [h_addNoted_3 (by omega)]; unfold ca_note; (repeat' split) <;> omega) | (unfold ca_note; (repeat' split) <;> omega)), by rw [ht9]; exact hPf, va_K.moved hW9.alike hK, hDf⟩, hS.F ht9⟩) hS.2.2 dX5_note_48
set_option maxHeartbeats 4000000 in
set_option maxRecDepth 100000 in
theorem kX5_forget (l : Launch) (dC : Nat → ClassId) (dI : Nat → Nat → Nat) (g : Nat → ClassId) (tt : Nat → Nat) (sz : Nat) (ob a0 a1 a2 a3 q : Nat → Nat) (w0 w1 w2 w3 kp tx tz : Int → Int) (fa fb : Int) (rf : Int → Int) : Met l yX5_forget wsX5_forget ({ frames := 0, cells := 0, slots := 0, locals := 0 }) (va_Pc [.ref (ob 0)] (eQ (dC, dI) (wTy g) (wWW g ob a0 a1 a2 a3 q w0 w1 w2 w3 kp tx tz fa fb rf) tt sz)) (va_Qi (fun r (_ : Unit) => r = zI (w0 3)) (fQ (dC, dI) (wTy g) (va_A (wWW g ob a0 a1 a2 a3 q w0 w1 w2 w3 kp tx tz fa fb rf) sz) (wWW g ob a0 a1 a2 a3 q (wset w0 3 0) w1 w2 w3 kp tx tz fa fb rf)) (va_A (wWW g ob a0 a1 a2 a3 q w0 w1 w2 w3 kp tx tz fa fb rf) sz)) 0 0 (va_A (wWW g ob a0 a1 a2 a3 q w0 w1 w2 w3 kp tx tz fa fb rf) sz) := by
  refine Met.ofW (cc := cX5_forget) (maxL := 2) (ret := (some .int)) (by decide) rfl ?_
  intro p e s m args below meth c s₁ B hml hv
  obtain ⟨rfl, hsz, hP, hK, hD0, hT⟩ := hv
  have hx := B.exec
  have hb := B.bytes
  have hr := B.returns
  have hts := atoms_spec (ws := wsX5_forget) B.pre
  have hown : s.vm.findClass RX5 = some m.cls := findClass_of_methodNamed B.named
  have hlocks := B.notSynchronized
  subst hsz
  have hD := hD0.self (sz := s.heap.size)
  generalize hAe : va_A (wWW g ob a0 a1 a2 a3 q w0 w1 w2 w3 kp tx tz fa fb rf) s.heap.size = A at hD hT ⊢
  have hA : ∀ q : Nat, s.heap.size ≤ q → A q := fun q h => by rw [← hAe]; exact Or.inr h
  have hS : va_S A s.heap s.heap [] := va_S.rf
  have hl := lv_entry ([.ref (ob 0)]) (n := 2) (Nat.le_of_ble_eq_true rfl)
  rw [lg_entry_eq]
  generalize (lg_sl ([.ref (ob 0)]) ++ List.replicate (2 - (lg_sl ([.ref (ob 0)])).length) Slot.unset).toArray = ls at hl ⊢
  have hl : lv_has ls 2 [(0, .ref (ob 0))] := hl
  have kf10 := hts (.fieldLink RX5 10 "WrongWay" "now" "LWrongWay$House;") (by decide +kernel)
  have kf180 := hts (.fieldLink RX5 180 "WrongWay$House" "noted" "I") (by decide +kernel)
  have iX1 := (fun w h => List.mem_cons_of_mem _ (List.mem_append_right _ h) : ∀ w ∈ u_ws RX1 TX1 14, w ∈ wsX5_forget)
  have iX5 := (fun w h => List.mem_cons_of_mem _ (List.mem_append_left _ (List.mem_append_right _ h)) : ∀ w ∈ u_ws RX5 TX5 8, w ∈ wsX5_forget)
  refine lv_aload_n hx hb dX5_forget_0 rfl (lv_at hl 0 rfl) ?_
  refine va_get (D := (dC, dI)) (ci := 4) (v := .ref (a0 0)) (C := RX5) (T := TX5) (N := 8) hx hb hts iX5 hown hK hP 0 rfl rfl 0 (by decide) kf10 (fun _ h9 => h9) rfl dX5_forget_1 ?_
  refine va_get (D := (dC, dI)) (ci := 1) (v := .int (zI (w0 3))) (C := RX1) (T := TX1) (N := 14) hx hb hts iX1 hown hK hP 1 rfl rfl 3 (by decide) kf180 (fun _ h9 => h9) rfl dX5_forget_4 ?_
  refine lv_istore_n (lv' := [(1, .int (zI (w0 3))), (0, .ref (ob 0))]) hx hb dX5_forget_7 rfl hl (by decide) rfl (fun ls hl => ?_)
  refine lv_aload_n hx hb dX5_forget_8 rfl (lv_at hl 1 rfl) ?_
  refine va_get (D := (dC, dI)) (ci := 4) (v := .ref (a0 0)) (C := RX5) (T := TX5) (N := 8) hx hb hts iX5 hown hK hP 0 rfl rfl 0 (by decide) kf10 (fun _ h9 => h9) rfl dX5_forget_9 ?_
  refine q_iconst hx hb dX5_forget_12 ?_
  refine va_put (D := (dC, dI)) (ci := 1) (v := .int (zI 0)) (ty := .int) (C := RX1) (T := TX1) (N := 14) hx hb hts iX1 tyX1 tyX1_ok nmX1 hown hK hP hD hS 1 rfl rfl 3 (by decide) kf180 (fun _ h9 => h9) rfl (by decide +kernel) rfl rfl (Nat.le_of_ble_eq_true rfl) dX5_forget_13 (fun H locs hP hD hS => ?_)
  have hP : va_P (dC, dI) vwCl (wWW g ob a0 a1 a2 a3 q (wset w0 3 0) w1 w2 w3 kp tx tz fa fb rf) H := hw_ww3 hP
  have hD : va_D A (wWW g ob a0 a1 a2 a3 q (wset w0 3 0) w1 w2 w3 kp tx tz fa fb rf) := hw_wwD hD
  refine lv_iload_n hx hb dX5_forget_16 rfl (lv_at hl 0 rfl) ?_
  have hPf : va_P (dC, dI) vwCl (wWW g ob a0 a1 a2 a3 q (wset w0 3 0) w1 w2 w3 kp tx tz fa fb rf) H := by exact hP
  have hDf : va_D A (wWW g ob a0 a1 a2 a3 q (wset w0 3 0) w1 w2 w3 kp tx tz fa fb rf) := by exact hD
  exact W.iret hx hb hr (fun t9 ht9 hW9 => ⟨⟨_, (), rfl, congrArg zI (show w0 3 = w0 3 from rfl), by rw [ht9]; exact hPf, va_K.moved hW9.alike hK, hDf⟩, hS.F ht9⟩) hS.2.2 dX5_forget_17
set_option maxHeartbeats 4000000 in
set_option maxRecDepth 100000 in
theorem kX5_is (l : Launch) (dC : Nat → ClassId) (dI : Nat → Nat → Nat) (g : Nat → ClassId) (tt : Nat → Nat) (sz : Nat) (ob a0 a1 a2 a3 q : Nat → Nat) (w0 w1 w2 w3 kp tx tz : Int → Int) (fa fb : Int) (rf : Int → Int) (x1 x2 : Int) (hw : hok w0) (h1 : rI x1 ∧ rI x2) : Met l yX5_is wsX5_is ({ frames := 4, cells := 0, slots := 0, locals := 97 }) (va_Pc [.ref (ob 0), .int (zI x1), .int (zI x2)] (eQ (dC, dI) (wTy g) (wWW g ob a0 a1 a2 a3 q w0 w1 w2 w3 kp tx tz fa fb rf) tt sz)) (va_Qi (fun r (_ : Unit) => r = zI (ca_is w0 x1 x2)) (fQ (dC, dI) (wTy g) (va_A (wWW g ob a0 a1 a2 a3 q w0 w1 w2 w3 kp tx tz fa fb rf) sz) (wWW g ob a0 a1 a2 a3 q w0 w1 w2 w3 kp tx tz fa fb (rfa rf (cc_is w0 x1 x2)))) (va_A (wWW g ob a0 a1 a2 a3 q w0 w1 w2 w3 kp tx tz fa fb rf) sz)) 0 0 (va_A (wWW g ob a0 a1 a2 a3 q w0 w1 w2 w3 kp tx tz fa fb rf) sz) := by
  refine Met.ofW (cc := cX5_is) (maxL := 3) (ret := (some .int)) (by decide) rfl ?_
  intro p e s m args below meth c s₁ B hml hv
  obtain ⟨rfl, hsz, hP, hK, hD0, hT⟩ := hv
  have hx := B.exec
  have hb := B.bytes
  have hr := B.returns
  have hts := atoms_spec (ws := wsX5_is) B.pre
  have hown : s.vm.findClass RX5 = some m.cls := findClass_of_methodNamed B.named
  have hlocks := B.notSynchronized
  subst hsz
  have hD := hD0.self (sz := s.heap.size)
  generalize hAe : va_A (wWW g ob a0 a1 a2 a3 q w0 w1 w2 w3 kp tx tz fa fb rf) s.heap.size = A at hD hT ⊢
  have hA : ∀ q : Nat, s.heap.size ≤ q → A q := fun q h => by rw [← hAe]; exact Or.inr h
  have hS : va_S A s.heap s.heap [] := va_S.rf
  have hl := lv_entry ([.ref (ob 0), .int (zI x1), .int (zI x2)]) (n := 3) (Nat.le_of_ble_eq_true rfl)
  rw [lg_entry_eq]
  generalize (lg_sl ([.ref (ob 0), .int (zI x1), .int (zI x2)]) ++ List.replicate (3 - (lg_sl ([.ref (ob 0), .int (zI x1), .int (zI x2)])).length) Slot.unset).toArray = ls at hl ⊢
  have hl : lv_has ls 3 [(0, .ref (ob 0)), (1, .int (zI x1)), (2, .int (zI x2))] := hl
  have kf10 := hts (.fieldLink RX5 10 "WrongWay" "now" "LWrongWay$House;") (by decide +kernel)
  have kf32 := hts (.fieldLink RX5 32 "WrongWay" "watch" "LWrongWay$Watch;") (by decide +kernel)
  have iX5 := (fun w h => List.mem_cons_of_mem _ (List.mem_append_left _ (List.mem_append_left _ (List.mem_append_right _ h))) : ∀ w ∈ u_ws RX5 TX5 8, w ∈ wsX5_is)
  have hb0 := hw.b
  refine lv_aload_n hx hb dX5_is_0 rfl (lv_at hl 0 rfl) ?_
  refine va_get (D := (dC, dI)) (ci := 4) (v := .ref (a0 0)) (C := RX5) (T := TX5) (N := 8) hx hb hts iX5 hown hK hP 0 rfl rfl 0 (by decide) kf10 (fun _ h9 => h9) rfl dX5_is_1 ?_
  refine lv_iload_n hx hb dX5_is_4 rfl (lv_at hl 1 rfl) ?_
  refine q_cVi (z := bz (0 ≤ x1 ∧ x1 < w0 0)) (b := (a0 0)) (As := [.int (zI x1)]) (rest := []) ⟨hx, hb, hml, hown, hts⟩ (kX1_hasLift l dC dI g tt a0 w0 x1 (hw) (by omega)) (cwV 1 hts gX5_is_X1_hasLift rfl rfl rfl (by decide +kernel) ⟨Nat.le_of_ble_eq_true rfl, Nat.le_of_ble_eq_true rfl⟩) (hP.sub (ws' := wHs g a0 w0) [1, 2, 3, 4, 5, 6, 7, 8, 9, 10] rfl) hK hT hS 0 1 rfl rfl rfl rfl hl.1 rfl (Nat.le_of_ble_eq_true rfl) dX5_is_5 ⟨Nat.le_of_ble_eq_true rfl, Nat.le_of_ble_eq_true rfl⟩ ?_
  refine q_bz_eq (tgt := 20) hx hb dX5_is_8 (by decide) (fun c_1 => ?_) (fun c_1 => ?_)
  · refine lv_aload_n hx hb dX5_is_20 rfl (lv_at hl 0 rfl) ?_
    refine q_bipush hx hb dX5_is_21 rfl ?_
    refine q_cEi (z := (-2)) (b := (ob 0)) (As := [.int (zI (-2))]) (rest := []) (w1 := wWW g ob a0 a1 a2 a3 q w0 w1 w2 w3 kp tx tz fa fb (rfu rf (-2))) ⟨hx, hb, hml, hown, hts⟩ hP hD hK hT hS hA (kX5_refuse l dC dI g tt _ ob a0 a1 a2 a3 q w0 w1 w2 w3 kp tx tz fa fb rf (-2) (by decide)) (cwV 1 hts gX5_is_X5_refuse rfl rfl rfl (by decide +kernel) ⟨Nat.le_of_ble_eq_true rfl, Nat.le_of_ble_eq_true rfl⟩) 0 4 rfl rfl rfl rfl hl.1 rfl (Nat.le_of_ble_eq_true rfl) dX5_is_23 ⟨Nat.le_of_ble_eq_true rfl, Nat.le_of_ble_eq_true rfl⟩ (fun H locs hP hD hS => ?_)
    have hPf : va_P (dC, dI) vwCl (wWW g ob a0 a1 a2 a3 q w0 w1 w2 w3 kp tx tz fa fb (rfa rf (cc_is w0 x1 x2))) H := by rw [(show (rfa rf (cc_is w0 x1 x2)) = rfu rf (-2) from by first | exact rfa_0 (by unfold cc_is; (repeat' split) <;> omega) | exact rfa_n (by unfold cc_is; (repeat' split) <;> omega) (by decide))]; exact hP
    have hDf : va_D A (wWW g ob a0 a1 a2 a3 q w0 w1 w2 w3 kp tx tz fa fb (rfa rf (cc_is w0 x1 x2))) := by rw [(show (rfa rf (cc_is w0 x1 x2)) = rfu rf (-2) from by first | exact rfa_0 (by unfold cc_is; (repeat' split) <;> omega) | exact rfa_n (by unfold cc_is; (repeat' split) <;> omega) (by decide))]; exact hD
    exact W.iret hx hb hr (fun t9 ht9 hW9 => ⟨⟨_, (), rfl, congrArg zI (show (-2) = ca_is w0 x1 x2 from by unfold ca_is; (repeat' split) <;> first | rfl | omega | (exfalso; omega)), by rw [ht9]; exact hPf, va_K.moved hW9.alike hK, hDf⟩, hS.F ht9⟩) hS.2.2 dX5_is_26
  · refine lv_iload_n hx hb dX5_is_11 rfl (lv_at hl 2 rfl) ?_
    refine q_iconst hx hb dX5_is_12 ?_
    refine q_iconst hx hb dX5_is_13 ?_
    refine q_cSi (z := bz (0 ≤ x2 ∧ x2 ≤ 1)) (As := [.int (zI x2), .int (zI 0), .int (zI 1)]) (rest := []) ⟨hx, hb, hml, hown, hts⟩ (kX5_isWithin l dC dI g tt x2 0 1 (by omega)) (va_cwS 3 hts gX5_is_X5_isWithin rfl rfl rfl (by decide +kernel) ⟨Nat.le_of_ble_eq_true rfl, Nat.le_of_ble_eq_true rfl⟩) (hP.sub (ws' := []) [] rfl) hK hT hS rfl hl.1 rfl (Nat.le_of_ble_eq_true rfl) dX5_is_14 ⟨Nat.le_of_ble_eq_true rfl, Nat.le_of_ble_eq_true rfl⟩ ?_
    refine q_bz_ne (tgt := 27) hx hb dX5_is_17 (by decide) (fun c_2 => ?_) (fun c_2 => ?_)
    · refine lv_iload_n hx hb dX5_is_27 rfl (lv_at hl 2 rfl) ?_
      refine q_if_ne (tgt := 42) hx hb dX5_is_28 (by decide) (by omega) (fun c_3 => ?_) (fun c_3 => ?_)
      · refine lv_aload_n hx hb dX5_is_42 rfl (lv_at hl 0 rfl) ?_
        refine va_get (D := (dC, dI)) (ci := 4) (v := .ref (ob 3)) (C := RX5) (T := TX5) (N := 8) hx hb hts iX5 hown hK hP 0 rfl rfl 4 (by decide) kf32 (fun _ h9 => h9) rfl dX5_is_43 ?_
        refine lv_iload_n hx hb dX5_is_46 rfl (lv_at hl 1 rfl) ?_
        refine q_cVi (z := c_fs w0 x1) (b := (ob 3)) (As := [.int (zI x1)]) (rest := []) ⟨hx, hb, hml, hown, hts⟩ (kX4_fittingStarts l dC dI g tt (ob 3) a0 w0 x1 (hw) (by omega)) (cwV 1 hts gX5_is_X4_fittingStarts rfl rfl rfl (by decide +kernel) ⟨Nat.le_of_ble_eq_true rfl, Nat.le_of_ble_eq_true rfl⟩) (hP.sub (ws' := wWa g (ob 3) a0 w0) [43, 1, 2, 3, 4, 5, 6, 7, 8, 9, 10] rfl) hK hT hS 0 3 rfl rfl rfl rfl hl.1 rfl (Nat.le_of_ble_eq_true rfl) dX5_is_47 ⟨Nat.le_of_ble_eq_true rfl, Nat.le_of_ble_eq_true rfl⟩ ?_
        have hPf : va_P (dC, dI) vwCl (wWW g ob a0 a1 a2 a3 q w0 w1 w2 w3 kp tx tz fa fb (rfa rf (cc_is w0 x1 x2))) s.heap := by rw [(show (rfa rf (cc_is w0 x1 x2)) = rf from by first | exact rfa_0 (by unfold cc_is; (repeat' split) <;> omega) | exact rfa_n (by unfold cc_is; (repeat' split) <;> omega) (by decide))]; exact hP
        have hDf : va_D A (wWW g ob a0 a1 a2 a3 q w0 w1 w2 w3 kp tx tz fa fb (rfa rf (cc_is w0 x1 x2))) := by rw [(show (rfa rf (cc_is w0 x1 x2)) = rf from by first | exact rfa_0 (by unfold cc_is; (repeat' split) <;> omega) | exact rfa_n (by unfold cc_is; (repeat' split) <;> omega) (by decide))]; exact hD
        exact W.iret hx hb hr (fun t9 ht9 hW9 => ⟨⟨_, (), rfl, congrArg zI (show c_fs w0 x1 = ca_is w0 x1 x2 from by unfold ca_is; (repeat' split) <;> first | rfl | omega | (exfalso; omega)), by rw [ht9]; exact hPf, va_K.moved hW9.alike hK, hDf⟩, hS.F ht9⟩) hS.2.2 dX5_is_50
      · refine lv_aload_n hx hb dX5_is_31 rfl (lv_at hl 0 rfl) ?_
        refine va_get (D := (dC, dI)) (ci := 4) (v := .ref (ob 3)) (C := RX5) (T := TX5) (N := 8) hx hb hts iX5 hown hK hP 0 rfl rfl 4 (by decide) kf32 (fun _ h9 => h9) rfl dX5_is_32 ?_
        refine lv_iload_n hx hb dX5_is_35 rfl (lv_at hl 1 rfl) ?_
        refine q_cVi (z := c_fk w0 x1 6) (b := (ob 3)) (As := [.int (zI x1)]) (rest := []) ⟨hx, hb, hml, hown, hts⟩ (kX4_fittingKinds l dC dI g tt (ob 3) a0 w0 x1 (hw) (by omega)) (cwV 1 hts gX5_is_X4_fittingKinds rfl rfl rfl (by decide +kernel) ⟨Nat.le_of_ble_eq_true rfl, Nat.le_of_ble_eq_true rfl⟩) (hP.sub (ws' := wWa g (ob 3) a0 w0) [43, 1, 2, 3, 4, 5, 6, 7, 8, 9, 10] rfl) hK hT hS 0 3 rfl rfl rfl rfl hl.1 rfl (Nat.le_of_ble_eq_true rfl) dX5_is_36 ⟨Nat.le_of_ble_eq_true rfl, Nat.le_of_ble_eq_true rfl⟩ ?_
        have := c_fk_64 w0 x1
        refine lv_goto (tgt := 50) hx hb dX5_is_39 (by decide) ?_
        have hPf : va_P (dC, dI) vwCl (wWW g ob a0 a1 a2 a3 q w0 w1 w2 w3 kp tx tz fa fb (rfa rf (cc_is w0 x1 x2))) s.heap := by rw [(show (rfa rf (cc_is w0 x1 x2)) = rf from by first | exact rfa_0 (by unfold cc_is; (repeat' split) <;> omega) | exact rfa_n (by unfold cc_is; (repeat' split) <;> omega) (by decide))]; exact hP
        have hDf : va_D A (wWW g ob a0 a1 a2 a3 q w0 w1 w2 w3 kp tx tz fa fb (rfa rf (cc_is w0 x1 x2))) := by rw [(show (rfa rf (cc_is w0 x1 x2)) = rf from by first | exact rfa_0 (by unfold cc_is; (repeat' split) <;> omega) | exact rfa_n (by unfold cc_is; (repeat' split) <;> omega) (by decide))]; exact hD
        exact W.iret hx hb hr (fun t9 ht9 hW9 => ⟨⟨_, (), rfl, congrArg zI (show c_fk w0 x1 6 = ca_is w0 x1 x2 from by unfold ca_is; (repeat' split) <;> first | rfl | omega | (exfalso; omega)), by rw [ht9]; exact hPf, va_K.moved hW9.alike hK, hDf⟩, hS.F ht9⟩) hS.2.2 dX5_is_50
    · refine lv_aload_n hx hb dX5_is_20 rfl (lv_at hl 0 rfl) ?_
      refine q_bipush hx hb dX5_is_21 rfl ?_
      refine q_cEi (z := (-2)) (b := (ob 0)) (As := [.int (zI (-2))]) (rest := []) (w1 := wWW g ob a0 a1 a2 a3 q w0 w1 w2 w3 kp tx tz fa fb (rfu rf (-2))) ⟨hx, hb, hml, hown, hts⟩ hP hD hK hT hS hA (kX5_refuse l dC dI g tt _ ob a0 a1 a2 a3 q w0 w1 w2 w3 kp tx tz fa fb rf (-2) (by decide)) (cwV 1 hts gX5_is_X5_refuse rfl rfl rfl (by decide +kernel) ⟨Nat.le_of_ble_eq_true rfl, Nat.le_of_ble_eq_true rfl⟩) 0 4 rfl rfl rfl rfl hl.1 rfl (Nat.le_of_ble_eq_true rfl) dX5_is_23 ⟨Nat.le_of_ble_eq_true rfl, Nat.le_of_ble_eq_true rfl⟩ (fun H locs hP hD hS => ?_)
      have hPf : va_P (dC, dI) vwCl (wWW g ob a0 a1 a2 a3 q w0 w1 w2 w3 kp tx tz fa fb (rfa rf (cc_is w0 x1 x2))) H := by rw [(show (rfa rf (cc_is w0 x1 x2)) = rfu rf (-2) from by first | exact rfa_0 (by unfold cc_is; (repeat' split) <;> omega) | exact rfa_n (by unfold cc_is; (repeat' split) <;> omega) (by decide))]; exact hP
      have hDf : va_D A (wWW g ob a0 a1 a2 a3 q w0 w1 w2 w3 kp tx tz fa fb (rfa rf (cc_is w0 x1 x2))) := by rw [(show (rfa rf (cc_is w0 x1 x2)) = rfu rf (-2) from by first | exact rfa_0 (by unfold cc_is; (repeat' split) <;> omega) | exact rfa_n (by unfold cc_is; (repeat' split) <;> omega) (by decide))]; exact hD
      exact W.iret hx hb hr (fun t9 ht9 hW9 => ⟨⟨_, (), rfl, congrArg zI (show (-2) = ca_is w0 x1 x2 from by unfold ca_is; (repeat' split) <;> first | rfl | omega | (exfalso; omega)), by rw [ht9]; exact hPf, va_K.moved hW9.alike hK, hDf⟩, hS.F ht9⟩) hS.2.2 dX5_is_26
set_option maxHeartbeats 4000000 in
set_option maxRecDepth 100000 in
theorem kX5_look (l : Launch) (dC : Nat → ClassId) (dI : Nat → Nat → Nat) (g : Nat → ClassId) (tt : Nat → Nat) (sz : Nat) (ob a0 a1 a2 a3 q : Nat → Nat) (w0 w1 w2 w3 kp tx tz : Int → Int) (fa fb : Int) (rf : Int → Int) (x1 x2 : Int) (hw : hok w0) (h1 : rI x1 ∧ rI x2) : Met l yX5_look wsX5_look ({ frames := 5, cells := 0, slots := 0, locals := 126 }) (va_Pc [.ref (ob 0), .int (zI x1), .int (zI x2)] (eQ (dC, dI) (wTy g) (wWW g ob a0 a1 a2 a3 q w0 w1 w2 w3 kp tx tz fa fb rf) tt sz)) (va_Qi (fun r (_ : Unit) => r = zI (ca_look w0 x1 x2)) (fQ (dC, dI) (wTy g) (va_A (wWW g ob a0 a1 a2 a3 q w0 w1 w2 w3 kp tx tz fa fb rf) sz) (wWW g ob a0 a1 a2 a3 q w0 w1 w2 w3 kp tx tz fa fb (rfa rf (cc_look w0 x1 x2)))) (va_A (wWW g ob a0 a1 a2 a3 q w0 w1 w2 w3 kp tx tz fa fb rf) sz)) 0 0 (va_A (wWW g ob a0 a1 a2 a3 q w0 w1 w2 w3 kp tx tz fa fb rf) sz) := by
  refine Met.ofW (cc := cX5_look) (maxL := 3) (ret := (some .int)) (by decide) rfl ?_
  intro p e s m args below meth c s₁ B hml hv
  obtain ⟨rfl, hsz, hP, hK, hD0, hT⟩ := hv
  have hx := B.exec
  have hb := B.bytes
  have hr := B.returns
  have hts := atoms_spec (ws := wsX5_look) B.pre
  have hown : s.vm.findClass RX5 = some m.cls := findClass_of_methodNamed B.named
  have hlocks := B.notSynchronized
  subst hsz
  have hD := hD0.self (sz := s.heap.size)
  generalize hAe : va_A (wWW g ob a0 a1 a2 a3 q w0 w1 w2 w3 kp tx tz fa fb rf) s.heap.size = A at hD hT ⊢
  have hA : ∀ q : Nat, s.heap.size ≤ q → A q := fun q h => by rw [← hAe]; exact Or.inr h
  have hS : va_S A s.heap s.heap [] := va_S.rf
  have hl := lv_entry ([.ref (ob 0), .int (zI x1), .int (zI x2)]) (n := 3) (Nat.le_of_ble_eq_true rfl)
  rw [lg_entry_eq]
  generalize (lg_sl ([.ref (ob 0), .int (zI x1), .int (zI x2)]) ++ List.replicate (3 - (lg_sl ([.ref (ob 0), .int (zI x1), .int (zI x2)])).length) Slot.unset).toArray = ls at hl ⊢
  have hl : lv_has ls 3 [(0, .ref (ob 0)), (1, .int (zI x1)), (2, .int (zI x2))] := hl
  have kf10 := hts (.fieldLink RX5 10 "WrongWay" "now" "LWrongWay$House;") (by decide +kernel)
  have kf32 := hts (.fieldLink RX5 32 "WrongWay" "watch" "LWrongWay$Watch;") (by decide +kernel)
  have iX5 := (fun w h => List.mem_cons_of_mem _ (List.mem_append_left _ (List.mem_append_left _ (List.mem_append_right _ h))) : ∀ w ∈ u_ws RX5 TX5 8, w ∈ wsX5_look)
  have hb0 := hw.b
  refine lv_aload_n hx hb dX5_look_0 rfl (lv_at hl 0 rfl) ?_
  refine va_get (D := (dC, dI)) (ci := 4) (v := .ref (a0 0)) (C := RX5) (T := TX5) (N := 8) hx hb hts iX5 hown hK hP 0 rfl rfl 0 (by decide) kf10 (fun _ h9 => h9) rfl dX5_look_1 ?_
  refine lv_iload_n hx hb dX5_look_4 rfl (lv_at hl 1 rfl) ?_
  refine q_cVi (z := bz (0 ≤ x1 ∧ x1 < w0 0)) (b := (a0 0)) (As := [.int (zI x1)]) (rest := []) ⟨hx, hb, hml, hown, hts⟩ (kX1_hasLift l dC dI g tt a0 w0 x1 (hw) (by omega)) (cwV 1 hts gX5_look_X1_hasLift rfl rfl rfl (by decide +kernel) ⟨Nat.le_of_ble_eq_true rfl, Nat.le_of_ble_eq_true rfl⟩) (hP.sub (ws' := wHs g a0 w0) [1, 2, 3, 4, 5, 6, 7, 8, 9, 10] rfl) hK hT hS 0 1 rfl rfl rfl rfl hl.1 rfl (Nat.le_of_ble_eq_true rfl) dX5_look_5 ⟨Nat.le_of_ble_eq_true rfl, Nat.le_of_ble_eq_true rfl⟩ ?_
  refine q_bz_eq (tgt := 22) hx hb dX5_look_8 (by decide) (fun c_1 => ?_) (fun c_1 => ?_)
  · refine lv_aload_n hx hb dX5_look_22 rfl (lv_at hl 0 rfl) ?_
    refine q_bipush hx hb dX5_look_23 rfl ?_
    refine q_cEi (z := (-2)) (b := (ob 0)) (As := [.int (zI (-2))]) (rest := []) (w1 := wWW g ob a0 a1 a2 a3 q w0 w1 w2 w3 kp tx tz fa fb (rfu rf (-2))) ⟨hx, hb, hml, hown, hts⟩ hP hD hK hT hS hA (kX5_refuse l dC dI g tt _ ob a0 a1 a2 a3 q w0 w1 w2 w3 kp tx tz fa fb rf (-2) (by decide)) (cwV 1 hts gX5_look_X5_refuse rfl rfl rfl (by decide +kernel) ⟨Nat.le_of_ble_eq_true rfl, Nat.le_of_ble_eq_true rfl⟩) 0 4 rfl rfl rfl rfl hl.1 rfl (Nat.le_of_ble_eq_true rfl) dX5_look_25 ⟨Nat.le_of_ble_eq_true rfl, Nat.le_of_ble_eq_true rfl⟩ (fun H locs hP hD hS => ?_)
    have hPf : va_P (dC, dI) vwCl (wWW g ob a0 a1 a2 a3 q w0 w1 w2 w3 kp tx tz fa fb (rfa rf (cc_look w0 x1 x2))) H := by rw [(show (rfa rf (cc_look w0 x1 x2)) = rfu rf (-2) from by first | exact rfa_0 (by unfold cc_look; (repeat' split) <;> omega) | exact rfa_n (by unfold cc_look; (repeat' split) <;> omega) (by decide))]; exact hP
    have hDf : va_D A (wWW g ob a0 a1 a2 a3 q w0 w1 w2 w3 kp tx tz fa fb (rfa rf (cc_look w0 x1 x2))) := by rw [(show (rfa rf (cc_look w0 x1 x2)) = rfu rf (-2) from by first | exact rfa_0 (by unfold cc_look; (repeat' split) <;> omega) | exact rfa_n (by unfold cc_look; (repeat' split) <;> omega) (by decide))]; exact hD
    exact W.iret hx hb hr (fun t9 ht9 hW9 => ⟨⟨_, (), rfl, congrArg zI (show (-2) = ca_look w0 x1 x2 from by unfold ca_look; (repeat' split) <;> first | rfl | omega | (exfalso; omega)), by rw [ht9]; exact hPf, va_K.moved hW9.alike hK, hDf⟩, hS.F ht9⟩) hS.2.2 dX5_look_28
  · refine lv_aload_n hx hb dX5_look_11 rfl (lv_at hl 0 rfl) ?_
    refine va_get (D := (dC, dI)) (ci := 4) (v := .ref (a0 0)) (C := RX5) (T := TX5) (N := 8) hx hb hts iX5 hown hK hP 0 rfl rfl 0 (by decide) kf10 (fun _ h9 => h9) rfl dX5_look_12 ?_
    refine lv_iload_n hx hb dX5_look_15 rfl (lv_at hl 2 rfl) ?_
    refine q_cVi (z := bz (0 ≤ x2 ∧ x2 ≤ w0 1)) (b := (a0 0)) (As := [.int (zI x2)]) (rest := []) ⟨hx, hb, hml, hown, hts⟩ (kX1_hasFloor l dC dI g tt a0 w0 x2 (hw) (by omega)) (cwV 1 hts gX5_look_X1_hasFloor rfl rfl rfl (by decide +kernel) ⟨Nat.le_of_ble_eq_true rfl, Nat.le_of_ble_eq_true rfl⟩) (hP.sub (ws' := wHs g a0 w0) [1, 2, 3, 4, 5, 6, 7, 8, 9, 10] rfl) hK hT hS 0 1 rfl rfl rfl rfl hl.1 rfl (Nat.le_of_ble_eq_true rfl) dX5_look_16 ⟨Nat.le_of_ble_eq_true rfl, Nat.le_of_ble_eq_true rfl⟩ ?_
    refine q_bz_ne (tgt := 29) hx hb dX5_look_19 (by decide) (fun c_2 => ?_) (fun c_2 => ?_)
    · refine lv_aload_n hx hb dX5_look_29 rfl (lv_at hl 0 rfl) ?_
      refine va_get (D := (dC, dI)) (ci := 4) (v := .ref (ob 3)) (C := RX5) (T := TX5) (N := 8) hx hb hts iX5 hown hK hP 0 rfl rfl 4 (by decide) kf32 (fun _ h9 => h9) rfl dX5_look_30 ?_
      refine lv_iload_n hx hb dX5_look_33 rfl (lv_at hl 1 rfl) ?_
      refine lv_iload_n hx hb dX5_look_34 rfl (lv_at hl 2 rfl) ?_
      refine q_cVi (z := c_tm w0 x1 x2) (b := (ob 3)) (As := [.int (zI x1), .int (zI x2)]) (rest := []) ⟨hx, hb, hml, hown, hts⟩ (kX4_tellingMinute l dC dI g tt (ob 3) a0 w0 x1 x2 (hw) (by omega) (by omega)) (cwV 2 hts gX5_look_X4_tellingMinute rfl rfl rfl (by decide +kernel) ⟨Nat.le_of_ble_eq_true rfl, Nat.le_of_ble_eq_true rfl⟩) (hP.sub (ws' := wWa g (ob 3) a0 w0) [43, 1, 2, 3, 4, 5, 6, 7, 8, 9, 10] rfl) hK hT hS 0 3 rfl rfl rfl rfl hl.1 rfl (Nat.le_of_ble_eq_true rfl) dX5_look_35 ⟨Nat.le_of_ble_eq_true rfl, Nat.le_of_ble_eq_true rfl⟩ ?_
      have hPf : va_P (dC, dI) vwCl (wWW g ob a0 a1 a2 a3 q w0 w1 w2 w3 kp tx tz fa fb (rfa rf (cc_look w0 x1 x2))) s.heap := by rw [(show (rfa rf (cc_look w0 x1 x2)) = rf from by first | exact rfa_0 (by unfold cc_look; (repeat' split) <;> omega) | exact rfa_n (by unfold cc_look; (repeat' split) <;> omega) (by decide))]; exact hP
      have hDf : va_D A (wWW g ob a0 a1 a2 a3 q w0 w1 w2 w3 kp tx tz fa fb (rfa rf (cc_look w0 x1 x2))) := by rw [(show (rfa rf (cc_look w0 x1 x2)) = rf from by first | exact rfa_0 (by unfold cc_look; (repeat' split) <;> omega) | exact rfa_n (by unfold cc_look; (repeat' split) <;> omega) (by decide))]; exact hD
      exact W.iret hx hb hr (fun t9 ht9 hW9 => ⟨⟨_, (), rfl, congrArg zI (show c_tm w0 x1 x2 = ca_look w0 x1 x2 from by unfold ca_look; (repeat' split) <;> first | rfl | omega | (exfalso; omega)), by rw [ht9]; exact hPf, va_K.moved hW9.alike hK, hDf⟩, hS.F ht9⟩) hS.2.2 dX5_look_38
    · refine lv_aload_n hx hb dX5_look_22 rfl (lv_at hl 0 rfl) ?_
      refine q_bipush hx hb dX5_look_23 rfl ?_
      refine q_cEi (z := (-2)) (b := (ob 0)) (As := [.int (zI (-2))]) (rest := []) (w1 := wWW g ob a0 a1 a2 a3 q w0 w1 w2 w3 kp tx tz fa fb (rfu rf (-2))) ⟨hx, hb, hml, hown, hts⟩ hP hD hK hT hS hA (kX5_refuse l dC dI g tt _ ob a0 a1 a2 a3 q w0 w1 w2 w3 kp tx tz fa fb rf (-2) (by decide)) (cwV 1 hts gX5_look_X5_refuse rfl rfl rfl (by decide +kernel) ⟨Nat.le_of_ble_eq_true rfl, Nat.le_of_ble_eq_true rfl⟩) 0 4 rfl rfl rfl rfl hl.1 rfl (Nat.le_of_ble_eq_true rfl) dX5_look_25 ⟨Nat.le_of_ble_eq_true rfl, Nat.le_of_ble_eq_true rfl⟩ (fun H locs hP hD hS => ?_)
      have hPf : va_P (dC, dI) vwCl (wWW g ob a0 a1 a2 a3 q w0 w1 w2 w3 kp tx tz fa fb (rfa rf (cc_look w0 x1 x2))) H := by rw [(show (rfa rf (cc_look w0 x1 x2)) = rfu rf (-2) from by first | exact rfa_0 (by unfold cc_look; (repeat' split) <;> omega) | exact rfa_n (by unfold cc_look; (repeat' split) <;> omega) (by decide))]; exact hP
      have hDf : va_D A (wWW g ob a0 a1 a2 a3 q w0 w1 w2 w3 kp tx tz fa fb (rfa rf (cc_look w0 x1 x2))) := by rw [(show (rfa rf (cc_look w0 x1 x2)) = rfu rf (-2) from by first | exact rfa_0 (by unfold cc_look; (repeat' split) <;> omega) | exact rfa_n (by unfold cc_look; (repeat' split) <;> omega) (by decide))]; exact hD
      exact W.iret hx hb hr (fun t9 ht9 hW9 => ⟨⟨_, (), rfl, congrArg zI (show (-2) = ca_look w0 x1 x2 from by unfold ca_look; (repeat' split) <;> first | rfl | omega | (exfalso; omega)), by rw [ht9]; exact hPf, va_K.moved hW9.alike hK, hDf⟩, hS.F ht9⟩) hS.2.2 dX5_look_28
