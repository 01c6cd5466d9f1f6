set_option maxHeartbeats 4000000 in
set_option maxRecDepth 100000 in
theorem kX4_floorOf (l : Launch) (dC : Nat → ClassId) (dI : Nat → Nat → Nat) (g : Nat → ClassId) (tt : Nat → Nat) (o : Nat) (a : Nat → Nat) (w : Int → Int) (x1 x2 : Int) (hw : hok w) (h1 : 0 ≤ x1 ∧ x1 < w 0) (h2 : 0 ≤ x2 ∧ x2 ≤ 90000) : Met l yX4_floorOf wsX4_floorOf ({ frames := 2, cells := 0, slots := 0, locals := 48 }) (va_Pc [.ref o, .int (zI x1), .int (zI x2)] (eS (dC, dI) (wTy g) (wWa g o a w) tt)) (vp_Si (fun r => r = zI (c_fl w x1 x2))) 0 0 (fun _ => False) := by
  refine Met.ofW (cc := cX4_floorOf) (maxL := 3) (ret := (some .int)) (by decide) rfl ?_
  intro p e s m args below meth c s₁ B hml hv
  obtain ⟨rfl, hP, hK, hT⟩ := hv
  have hx := B.exec
  have hb := B.bytes
  have hr := B.returns
  have hts := atoms_spec (ws := wsX4_floorOf) B.pre
  have hown : s.vm.findClass RX4 = some m.cls := findClass_of_methodNamed B.named
  have hlocks := B.notSynchronized
  have hS : va_S (fun _ : Nat => False) s.heap s.heap [] := va_S.rf
  have hl := lv_entry ([.ref o, .int (zI x1), .int (zI x2)]) (n := 3) (Nat.le_of_ble_eq_true rfl)
  rw [lg_entry_eq]
  generalize (lg_sl ([.ref o, .int (zI x1), .int (zI x2)]) ++ List.replicate (3 - (lg_sl ([.ref o, .int (zI x1), .int (zI x2)])).length) Slot.unset).toArray = ls at hl ⊢
  have hl : lv_has ls 3 [(0, .ref o), (1, .int (zI x1)), (2, .int (zI x2))] := hl
  have kf15 := hts (.fieldLink RX4 15 "WrongWay$House" "kinds" "[I") (by decide +kernel)
  have kf21 := hts (.fieldLink RX4 21 "WrongWay$House" "top" "I") (by decide +kernel)
  have kf25 := hts (.fieldLink RX4 25 "WrongWay$House" "starts" "[I") (by decide +kernel)
  have kf9 := hts (.fieldLink RX4 9 "WrongWay$Watch" "house" "LWrongWay$House;") (by decide +kernel)
  have iX1 := (fun w h => List.mem_cons_of_mem _ (List.mem_append_right _ h) : ∀ w ∈ u_ws RX1 TX1 14, w ∈ wsX4_floorOf)
  have iX4 := (fun w h => List.mem_cons_of_mem _ (List.mem_append_left _ (List.mem_append_right _ h)) : ∀ w ∈ u_ws RX4 TX4 1, w ∈ wsX4_floorOf)
  have hb0 := hw.b
  have hk0 := hw.k h1.1 h1.2
  refine lv_aload_n hx hb dX4_floorOf_0 rfl (lv_at hl 0 rfl) ?_
  refine va_get (D := (dC, dI)) (ci := 3) (v := .ref (a 0)) (C := RX4) (T := TX4) (N := 1) hx hb hts iX4 hown hK hP 0 rfl rfl 0 (by decide) kf9 (fun _ h9 => h9) rfl dX4_floorOf_1 ?_
  refine va_get (D := (dC, dI)) (ci := 1) (v := .ref (a 1)) (C := RX1) (T := TX1) (N := 14) hx hb hts iX1 hown hK hP 1 rfl rfl 5 (by decide) kf15 (fun _ h9 => h9) rfl dX4_floorOf_4 ?_
  refine lv_iload_n hx hb dX4_floorOf_7 rfl (lv_at hl 1 rfl) ?_
  refine q_iald (F := fun k => w (5 + k)) (v := w (5 + x1)) hx hb hK hP 2 0 rfl rfl (by decide) (by omega) rfl dX4_floorOf_8 ?_
  refine lv_aload_n hx hb dX4_floorOf_9 rfl (lv_at hl 0 rfl) ?_
  refine va_get (D := (dC, dI)) (ci := 3) (v := .ref (a 0)) (C := RX4) (T := TX4) (N := 1) hx hb hts iX4 hown hK hP 0 rfl rfl 0 (by decide) kf9 (fun _ h9 => h9) rfl dX4_floorOf_10 ?_
  refine va_get (D := (dC, dI)) (ci := 1) (v := .int (zI (w 1))) (C := RX1) (T := TX1) (N := 14) hx hb hts iX1 hown hK hP 1 rfl rfl 0 (by decide) kf21 (fun _ h9 => h9) rfl dX4_floorOf_13 ?_
  refine lv_aload_n hx hb dX4_floorOf_16 rfl (lv_at hl 0 rfl) ?_
  refine va_get (D := (dC, dI)) (ci := 3) (v := .ref (a 0)) (C := RX4) (T := TX4) (N := 1) hx hb hts iX4 hown hK hP 0 rfl rfl 0 (by decide) kf9 (fun _ h9 => h9) rfl dX4_floorOf_17 ?_
  refine va_get (D := (dC, dI)) (ci := 1) (v := .ref (a 2)) (C := RX1) (T := TX1) (N := 14) hx hb hts iX1 hown hK hP 1 rfl rfl 6 (by decide) kf25 (fun _ h9 => h9) rfl dX4_floorOf_20 ?_
  refine lv_iload_n hx hb dX4_floorOf_23 rfl (lv_at hl 1 rfl) ?_
  refine q_iald (F := fun k => w (9 + k)) (v := w (9 + x1)) hx hb hK hP 3 0 rfl rfl (by decide) (by omega) rfl dX4_floorOf_24 ?_
  refine lv_iload_n hx hb dX4_floorOf_25 rfl (lv_at hl 2 rfl) ?_
  refine q_cSi (z := c_floor (w (5 + x1)) (w 1) (w (9 + x1)) x2) (As := [.int (zI (w (5 + x1))), .int (zI (w 1)), .int (zI (w (9 + x1))), .int (zI x2)]) (rest := []) ⟨hx, hb, hml, hown, hts⟩ (kX2_floorIn l dC dI g tt (w (5 + x1)) (w 1) (w (9 + x1)) x2 (by omega) (by omega) (by omega) (by omega)) (va_cwS 4 hts gX4_floorOf_X2_floorIn rfl rfl rfl (by decide +kernel) ⟨Nat.le_of_ble_eq_true rfl, Nat.le_of_ble_eq_true rfl⟩) (hP.sub (ws' := []) [] rfl) hK hT hS rfl hl.1 rfl (Nat.le_of_ble_eq_true rfl) dX4_floorOf_26 ⟨Nat.le_of_ble_eq_true rfl, Nat.le_of_ble_eq_true rfl⟩ ?_
  have := c_floor_r (w (5 + x1)) (t := (w 1)) (b := (w (9 + x1))) (m := x2) (by omega) (by omega) (by omega)
  exact W.iret hx hb hr (fun t9 ht9 hW9 => ⟨_, rfl, congrArg zI (show c_floor (w (5 + x1)) (w 1) (w (9 + x1)) x2 = c_fl w x1 x2 from by rfl), ht9⟩) hS.2.2 dX4_floorOf_29
set_option maxHeartbeats 4000000 in
set_option maxRecDepth 100000 in
theorem kX4_wayOf (l : Launch) (dC : Nat → ClassId) (dI : Nat → Nat → Nat) (g : Nat → ClassId) (tt : Nat → Nat) (o : Nat) (a : Nat → Nat) (w : Int → Int) (x1 x2 : Int) (hw : hok w) (h1 : 0 ≤ x1 ∧ x1 < w 0) (h2 : 0 ≤ x2 ∧ x2 ≤ 90000) : Met l yX4_wayOf wsX4_wayOf ({ frames := 2, cells := 0, slots := 0, locals := 48 }) (va_Pc [.ref o, .int (zI x1), .int (zI x2)] (eS (dC, dI) (wTy g) (wWa g o a w) tt)) (vp_Si (fun r => r = zI (c_wy w x1 x2))) 0 0 (fun _ => False) := by
  refine Met.ofW (cc := cX4_wayOf) (maxL := 8) (ret := (some .int)) (by decide) rfl ?_
  intro p e s m args below meth c s₁ B hml hv
  obtain ⟨rfl, hP, hK, hT⟩ := hv
  have hx := B.exec
  have hb := B.bytes
  have hr := B.returns
  have hts := atoms_spec (ws := wsX4_wayOf) B.pre
  have hown : s.vm.findClass RX4 = some m.cls := findClass_of_methodNamed B.named
  have hlocks := B.notSynchronized
  have hS : va_S (fun _ : Nat => False) s.heap s.heap [] := va_S.rf
  have hl := lv_entry ([.ref o, .int (zI x1), .int (zI x2)]) (n := 8) (Nat.le_of_ble_eq_true rfl)
  rw [lg_entry_eq]
  generalize (lg_sl ([.ref o, .int (zI x1), .int (zI x2)]) ++ List.replicate (8 - (lg_sl ([.ref o, .int (zI x1), .int (zI x2)])).length) Slot.unset).toArray = ls at hl ⊢
  have hl : lv_has ls 8 [(0, .ref o), (1, .int (zI x1)), (2, .int (zI x2))] := hl
  have kf15 := hts (.fieldLink RX4 15 "WrongWay$House" "kinds" "[I") (by decide +kernel)
  have kf21 := hts (.fieldLink RX4 21 "WrongWay$House" "top" "I") (by decide +kernel)
  have kf25 := hts (.fieldLink RX4 25 "WrongWay$House" "starts" "[I") (by decide +kernel)
  have kf9 := hts (.fieldLink RX4 9 "WrongWay$Watch" "house" "LWrongWay$House;") (by decide +kernel)
  have iX1 := (fun w h => List.mem_cons_of_mem _ (List.mem_append_right _ h) : ∀ w ∈ u_ws RX1 TX1 14, w ∈ wsX4_wayOf)
  have iX4 := (fun w h => List.mem_cons_of_mem _ (List.mem_append_left _ (List.mem_append_right _ h)) : ∀ w ∈ u_ws RX4 TX4 1, w ∈ wsX4_wayOf)
  have hb0 := hw.b
  have hk0 := hw.k h1.1 h1.2
  refine lv_aload_n hx hb dX4_wayOf_0 rfl (lv_at hl 0 rfl) ?_
  refine va_get (D := (dC, dI)) (ci := 3) (v := .ref (a 0)) (C := RX4) (T := TX4) (N := 1) hx hb hts iX4 hown hK hP 0 rfl rfl 0 (by decide) kf9 (fun _ h9 => h9) rfl dX4_wayOf_1 ?_
  refine va_get (D := (dC, dI)) (ci := 1) (v := .ref (a 1)) (C := RX1) (T := TX1) (N := 14) hx hb hts iX1 hown hK hP 1 rfl rfl 5 (by decide) kf15 (fun _ h9 => h9) rfl dX4_wayOf_4 ?_
  refine lv_iload_n hx hb dX4_wayOf_7 rfl (lv_at hl 1 rfl) ?_
  refine q_iald (F := fun k => w (5 + k)) (v := w (5 + x1)) hx hb hK hP 2 0 rfl rfl (by decide) (by omega) rfl dX4_wayOf_8 ?_
  refine lv_istore_n (lv' := [(3, .int (zI (w (5 + x1)))), (0, .ref o), (1, .int (zI x1)), (2, .int (zI x2))]) hx hb dX4_wayOf_9 rfl hl (by decide) rfl (fun ls hl => ?_)
  refine lv_aload_n hx hb dX4_wayOf_10 rfl (lv_at hl 1 rfl) ?_
  refine va_get (D := (dC, dI)) (ci := 3) (v := .ref (a 0)) (C := RX4) (T := TX4) (N := 1) hx hb hts iX4 hown hK hP 0 rfl rfl 0 (by decide) kf9 (fun _ h9 => h9) rfl dX4_wayOf_11 ?_
  refine va_get (D := (dC, dI)) (ci := 1) (v := .ref (a 2)) (C := RX1) (T := TX1) (N := 14) hx hb hts iX1 hown hK hP 1 rfl rfl 6 (by decide) kf25 (fun _ h9 => h9) rfl dX4_wayOf_14 ?_
  refine lv_iload_n hx hb dX4_wayOf_17 rfl (lv_at hl 2 rfl) ?_
  refine q_iald (F := fun k => w (9 + k)) (v := w (9 + x1)) hx hb hK hP 3 0 rfl rfl (by decide) (by omega) rfl dX4_wayOf_18 ?_
  refine lv_istore (lv' := [(4, .int (zI (w (9 + x1)))), (3, .int (zI (w (5 + x1)))), (0, .ref o), (1, .int (zI x1)), (2, .int (zI x2))]) hx hb dX4_wayOf_19 hl (by decide) rfl (fun ls hl => ?_)
  refine lv_iload_n hx hb dX4_wayOf_21 rfl (lv_at hl 1 rfl) ?_
  refine lv_aload_n hx hb dX4_wayOf_22 rfl (lv_at hl 2 rfl) ?_
  refine va_get (D := (dC, dI)) (ci := 3) (v := .ref (a 0)) (C := RX4) (T := TX4) (N := 1) hx hb hts iX4 hown hK hP 0 rfl rfl 0 (by decide) kf9 (fun _ h9 => h9) rfl dX4_wayOf_23 ?_
  refine va_get (D := (dC, dI)) (ci := 1) (v := .int (zI (w 1))) (C := RX1) (T := TX1) (N := 14) hx hb hts iX1 hown hK hP 1 rfl rfl 0 (by decide) kf21 (fun _ h9 => h9) rfl dX4_wayOf_26 ?_
  refine lv_iload hx hb dX4_wayOf_29 (lv_at hl 0 rfl) ?_
  refine lv_iload_n hx hb dX4_wayOf_31 rfl (lv_at hl 4 rfl) ?_
  refine q_cSi (z := c_floor (w (5 + x1)) (w 1) (w (9 + x1)) x2) (As := [.int (zI (w (5 + x1))), .int (zI (w 1)), .int (zI (w (9 + x1))), .int (zI x2)]) (rest := []) ⟨hx, hb, hml, hown, hts⟩ (kX2_floorIn l dC dI g tt (w (5 + x1)) (w 1) (w (9 + x1)) x2 (by omega) (by omega) (by omega) (by omega)) (va_cwS 4 hts gX4_wayOf_X2_floorIn rfl rfl rfl (by decide +kernel) ⟨Nat.le_of_ble_eq_true rfl, Nat.le_of_ble_eq_true rfl⟩) (hP.sub (ws' := []) [] rfl) hK hT hS rfl hl.1 rfl (Nat.le_of_ble_eq_true rfl) dX4_wayOf_32 ⟨Nat.le_of_ble_eq_true rfl, Nat.le_of_ble_eq_true rfl⟩ ?_
  have := c_floor_r (w (5 + x1)) (t := (w 1)) (b := (w (9 + x1))) (m := x2) (by omega) (by omega) (by omega)
  refine lv_istore (lv' := [(5, .int (zI (c_floor (w (5 + x1)) (w 1) (w (9 + x1)) x2))), (4, .int (zI (w (9 + x1)))), (3, .int (zI (w (5 + x1)))), (0, .ref o), (1, .int (zI x1)), (2, .int (zI x2))]) hx hb dX4_wayOf_35 hl (by decide) rfl (fun ls hl => ?_)
  refine q_iconst hx hb dX4_wayOf_37 ?_
  refine lv_istore (lv' := [(6, .int (zI 1)), (5, .int (zI (c_floor (w (5 + x1)) (w 1) (w (9 + x1)) x2))), (4, .int (zI (w (9 + x1)))), (3, .int (zI (w (5 + x1)))), (0, .ref o), (1, .int (zI x1)), (2, .int (zI x2))]) hx hb dX4_wayOf_38 hl (by decide) rfl (fun ls hl => ?_)
  refine w_loopP (σ := Int) (fun a9 ls => (1 ≤ a9 ∧ a9 ≤ 28) ∧ (c_wayB (w (5 + x1)) (w 1) (w (9 + x1)) x2 = srI (c_wayP (w (5 + x1)) (w 1) (w (9 + x1)) x2) 28 a9) ∧ lv_has ls 8 [(0, .ref o), (1, .int (zI x1)), (2, .int (zI x2)), (3, .int (zI (w (5 + x1)))), (4, .int (zI (w (9 + x1)))), (5, .int (zI (c_floor (w (5 + x1)) (w 1) (w (9 + x1)) x2))), (6, .int (zI a9))]) (fun a9 => (28 - a9).toNat) ?_ (1) ?_
  · rintro i ls ⟨hi, hs, hl⟩ ih40
    have hi : 1 ≤ i ∧ i ≤ 28 := hi
    have hs : c_wayB (w (5 + x1)) (w 1) (w (9 + x1)) x2 = srI (c_wayP (w (5 + x1)) (w 1) (w (9 + x1)) x2) 28 i := hs
    have hl : lv_has ls 8 [(0, .ref o), (1, .int (zI x1)), (2, .int (zI x2)), (3, .int (zI (w (5 + x1)))), (4, .int (zI (w (9 + x1)))), (5, .int (zI (c_floor (w (5 + x1)) (w 1) (w (9 + x1)) x2))), (6, .int (zI i))] := hl
    refine lv_iload hx hb dX4_wayOf_40 (lv_at hl 6 rfl) ?_
    refine q_bipush hx hb dX4_wayOf_42 rfl ?_
    refine q_icmp_ge (tgt := 92) hx hb dX4_wayOf_44 (by decide) (by omega) (fun c_1 => ?_) (fun c_1 => ?_)
    · refine q_iconst hx hb dX4_wayOf_92 ?_
      exact W.iret hx hb hr (fun t9 ht9 hW9 => ⟨_, rfl, congrArg zI (show 0 = c_wy w x1 x2 from by have e9 := hs.trans (srI_end (by omega)); show 0 = c_way (w (5 + x1)) (w 1) (w (9 + x1)) x2; unfold c_way; rw [if_pos e9]), ht9⟩) hS.2.2 dX4_wayOf_93
    · refine lv_iload_n hx hb dX4_wayOf_47 rfl (lv_at hl 3 rfl) ?_
      refine lv_aload_n hx hb dX4_wayOf_48 rfl (lv_at hl 0 rfl) ?_
      refine va_get (D := (dC, dI)) (ci := 3) (v := .ref (a 0)) (C := RX4) (T := TX4) (N := 1) hx hb hts iX4 hown hK hP 0 rfl rfl 0 (by decide) kf9 (fun _ h9 => h9) rfl dX4_wayOf_49 ?_
      refine va_get (D := (dC, dI)) (ci := 1) (v := .int (zI (w 1))) (C := RX1) (T := TX1) (N := 14) hx hb hts iX1 hown hK hP 1 rfl rfl 0 (by decide) kf21 (fun _ h9 => h9) rfl dX4_wayOf_52 ?_
      refine lv_iload hx hb dX4_wayOf_55 (lv_at hl 4 rfl) ?_
      refine lv_iload_n hx hb dX4_wayOf_57 rfl (lv_at hl 2 rfl) ?_
      refine lv_iload hx hb dX4_wayOf_58 (lv_at hl 6 rfl) ?_
      refine q_iadd hx hb dX4_wayOf_60 ?_
      refine q_cSi (z := c_floor (w (5 + x1)) (w 1) (w (9 + x1)) (x2 + i)) (As := [.int (zI (w (5 + x1))), .int (zI (w 1)), .int (zI (w (9 + x1))), .int (zI (x2 + i))]) (rest := []) ⟨hx, hb, hml, hown, hts⟩ (kX2_floorIn l dC dI g tt (w (5 + x1)) (w 1) (w (9 + x1)) (x2 + i) (by omega) (by omega) (by omega) (by omega)) (va_cwS 4 hts gX4_wayOf_X2_floorIn rfl rfl rfl (by decide +kernel) ⟨Nat.le_of_ble_eq_true rfl, Nat.le_of_ble_eq_true rfl⟩) (hP.sub (ws' := []) [] rfl) hK hT hS rfl hl.1 rfl (Nat.le_of_ble_eq_true rfl) dX4_wayOf_61 ⟨Nat.le_of_ble_eq_true rfl, Nat.le_of_ble_eq_true rfl⟩ ?_
      have := c_floor_r (w (5 + x1)) (t := (w 1)) (b := (w (9 + x1))) (m := (x2 + i)) (by omega) (by omega) (by omega)
      refine lv_istore (lv' := [(7, .int (zI (c_floor (w (5 + x1)) (w 1) (w (9 + x1)) (x2 + i)))), (0, .ref o), (1, .int (zI x1)), (2, .int (zI x2)), (3, .int (zI (w (5 + x1)))), (4, .int (zI (w (9 + x1)))), (5, .int (zI (c_floor (w (5 + x1)) (w 1) (w (9 + x1)) x2))), (6, .int (zI i))]) hx hb dX4_wayOf_64 hl (by decide) rfl (fun ls hl => ?_)
      refine lv_iload hx hb dX4_wayOf_66 (lv_at hl 0 rfl) ?_
      refine lv_iload hx hb dX4_wayOf_68 (lv_at hl 6 rfl) ?_
      refine q_icmp_eq (tgt := 86) hx hb dX4_wayOf_70 (by decide) (by omega) (fun c_2 => ?_) (fun c_2 => ?_)
      · refine lv_iinc (v := zI (i + 1)) (lv' := [(6, .int (zI (i + 1))), (7, .int (zI (c_floor (w (5 + x1)) (w 1) (w (9 + x1)) (x2 + i)))), (0, .ref o), (1, .int (zI x1)), (2, .int (zI x2)), (3, .int (zI (w (5 + x1)))), (4, .int (zI (w (9 + x1)))), (5, .int (zI (c_floor (w (5 + x1)) (w 1) (w (9 + x1)) x2)))]) hx hb dX4_wayOf_86 hl (k := 7) rfl (zI_add _ _) (by decide) rfl (fun ls hl => ?_)
        refine lv_goto (tgt := 40) hx hb dX4_wayOf_89 (by decide) ?_
        exact ih40 (i + 1) ls ⟨(show 1 ≤ (i + 1) ∧ (i + 1) ≤ 28 from by omega), (show c_wayB (w (5 + x1)) (w 1) (w (9 + x1)) x2 = srI (c_wayP (w (5 + x1)) (w 1) (w (9 + x1)) x2) 28 (i + 1) from hs.trans (srI_next (by omega) (by unfold c_wayP; simp only [decide_eq_true_eq]; omega))), lv_sub hl [2, 3, 4, 5, 6, 7, 0] rfl⟩ (by show (28 - (i + 1)).toNat < (28 - i).toNat; omega)
      · refine lv_iload hx hb dX4_wayOf_73 (lv_at hl 0 rfl) ?_
        refine lv_iload hx hb dX4_wayOf_75 (lv_at hl 6 rfl) ?_
        refine q_icmp_le (tgt := 84) hx hb dX4_wayOf_77 (by decide) (by omega) (fun c_3 => ?_) (fun c_3 => ?_)
        · refine q_iconst hx hb dX4_wayOf_84 ?_
          exact W.iret hx hb hr (fun t9 ht9 hW9 => ⟨_, rfl, congrArg zI (show 0 = c_wy w x1 x2 from by have e9 := hs.trans (srI_hit (by omega) (by unfold c_wayP; simp only [decide_eq_true_eq]; omega)); show _ = c_way (w (5 + x1)) (w 1) (w (9 + x1)) x2; unfold c_way; rw [e9]; (repeat' split) <;> omega), ht9⟩) hS.2.2 dX4_wayOf_85
        · refine q_iconst hx hb dX4_wayOf_80 ?_
          refine lv_goto (tgt := 85) hx hb dX4_wayOf_81 (by decide) ?_
          exact W.iret hx hb hr (fun t9 ht9 hW9 => ⟨_, rfl, congrArg zI (show 1 = c_wy w x1 x2 from by have e9 := hs.trans (srI_hit (by omega) (by unfold c_wayP; simp only [decide_eq_true_eq]; omega)); show _ = c_way (w (5 + x1)) (w 1) (w (9 + x1)) x2; unfold c_way; rw [e9]; (repeat' split) <;> omega), ht9⟩) hS.2.2 dX4_wayOf_85
  · exact ⟨(show 1 ≤ 1 ∧ 1 ≤ 28 from by omega), (show c_wayB (w (5 + x1)) (w 1) (w (9 + x1)) x2 = srI (c_wayP (w (5 + x1)) (w 1) (w (9 + x1)) x2) 28 1 from rfl), lv_sub hl [4, 5, 6, 3, 2, 1, 0] rfl⟩
set_option maxHeartbeats 4000000 in
set_option maxRecDepth 100000 in
theorem kX4_isSeen (l : Launch) (dC : Nat → ClassId) (dI : Nat → Nat → Nat) (g : Nat → ClassId) (tt : Nat → Nat) (o : Nat) (a : Nat → Nat) (w : Int → Int) (x1 x2 x3 : Int) (hw : hok w) (h1 : 0 ≤ x1 ∧ x1 < w 0) (h2 : 0 ≤ x2 ∧ x2 ≤ w 1) (h3 : 0 ≤ x3 ∧ x3 ≤ 90000) : Met l yX4_isSeen wsX4_isSeen ({ frames := 2, cells := 0, slots := 0, locals := 48 }) (va_Pc [.ref o, .int (zI x1), .int (zI x2), .int (zI x3)] (eS (dC, dI) (wTy g) (wWa g o a w) tt)) (vp_Si (fun r => r = zI (bz (c_seen w x1 x2 x3 = true)))) 0 0 (fun _ => False) := by
  refine Met.ofW (cc := cX4_isSeen) (maxL := 5) (ret := (some .boolean)) (by decide) rfl ?_
  intro p e s m args below meth c s₁ B hml hv
  obtain ⟨rfl, hP, hK, hT⟩ := hv
  have hx := B.exec
  have hb := B.bytes
  have hr := B.returns
  have hts := atoms_spec (ws := wsX4_isSeen) B.pre
  have hown : s.vm.findClass RX4 = some m.cls := findClass_of_methodNamed B.named
  have hlocks := B.notSynchronized
  have hS : va_S (fun _ : Nat => False) s.heap s.heap [] := va_S.rf
  have hl := lv_entry ([.ref o, .int (zI x1), .int (zI x2), .int (zI x3)]) (n := 5) (Nat.le_of_ble_eq_true rfl)
  rw [lg_entry_eq]
  generalize (lg_sl ([.ref o, .int (zI x1), .int (zI x2), .int (zI x3)]) ++ List.replicate (5 - (lg_sl ([.ref o, .int (zI x1), .int (zI x2), .int (zI x3)])).length) Slot.unset).toArray = ls at hl ⊢
  have hl : lv_has ls 5 [(0, .ref o), (1, .int (zI x1)), (2, .int (zI x2)), (3, .int (zI x3))] := hl
  have kf15 := hts (.fieldLink RX4 15 "WrongWay$House" "kinds" "[I") (by decide +kernel)
  have kf21 := hts (.fieldLink RX4 21 "WrongWay$House" "top" "I") (by decide +kernel)
  have kf25 := hts (.fieldLink RX4 25 "WrongWay$House" "starts" "[I") (by decide +kernel)
  have kf9 := hts (.fieldLink RX4 9 "WrongWay$Watch" "house" "LWrongWay$House;") (by decide +kernel)
  have iX1 := (fun w h => List.mem_cons_of_mem _ (List.mem_append_right _ h) : ∀ w ∈ u_ws RX1 TX1 14, w ∈ wsX4_isSeen)
  have iX4 := (fun w h => List.mem_cons_of_mem _ (List.mem_append_left _ (List.mem_append_right _ h)) : ∀ w ∈ u_ws RX4 TX4 1, w ∈ wsX4_isSeen)
  have hb0 := hw.b
  have hk0 := hw.k h1.1 h1.2
  refine lv_aload_n hx hb dX4_isSeen_0 rfl (lv_at hl 0 rfl) ?_
  refine va_get (D := (dC, dI)) (ci := 3) (v := .ref (a 0)) (C := RX4) (T := TX4) (N := 1) hx hb hts iX4 hown hK hP 0 rfl rfl 0 (by decide) kf9 (fun _ h9 => h9) rfl dX4_isSeen_1 ?_
  refine va_get (D := (dC, dI)) (ci := 1) (v := .ref (a 1)) (C := RX1) (T := TX1) (N := 14) hx hb hts iX1 hown hK hP 1 rfl rfl 5 (by decide) kf15 (fun _ h9 => h9) rfl dX4_isSeen_4 ?_
  refine lv_iload_n hx hb dX4_isSeen_7 rfl (lv_at hl 1 rfl) ?_
  refine q_iald (F := fun k => w (5 + k)) (v := w (5 + x1)) hx hb hK hP 2 0 rfl rfl (by decide) (by omega) rfl dX4_isSeen_8 ?_
  refine lv_istore (lv' := [(4, .int (zI (w (5 + x1)))), (0, .ref o), (1, .int (zI x1)), (2, .int (zI x2)), (3, .int (zI x3))]) hx hb dX4_isSeen_9 hl (by decide) rfl (fun ls hl => ?_)
  refine lv_iload hx hb dX4_isSeen_11 (lv_at hl 0 rfl) ?_
  refine lv_aload_n hx hb dX4_isSeen_13 rfl (lv_at hl 1 rfl) ?_
  refine va_get (D := (dC, dI)) (ci := 3) (v := .ref (a 0)) (C := RX4) (T := TX4) (N := 1) hx hb hts iX4 hown hK hP 0 rfl rfl 0 (by decide) kf9 (fun _ h9 => h9) rfl dX4_isSeen_14 ?_
  refine va_get (D := (dC, dI)) (ci := 1) (v := .int (zI (w 1))) (C := RX1) (T := TX1) (N := 14) hx hb hts iX1 hown hK hP 1 rfl rfl 0 (by decide) kf21 (fun _ h9 => h9) rfl dX4_isSeen_17 ?_
  refine lv_iload_n hx hb dX4_isSeen_20 rfl (lv_at hl 3 rfl) ?_
  refine q_cSi (z := bz (c_opens (w (5 + x1)) (w 1) x2 = true)) (As := [.int (zI (w (5 + x1))), .int (zI (w 1)), .int (zI x2)]) (rest := []) ⟨hx, hb, hml, hown, hts⟩ (kX2_opens l dC dI g tt (w (5 + x1)) (w 1) x2 (by omega) (by omega) (by omega)) (va_cwS 3 hts gX4_isSeen_X2_opens rfl rfl rfl (by decide +kernel) ⟨Nat.le_of_ble_eq_true rfl, Nat.le_of_ble_eq_true rfl⟩) (hP.sub (ws' := []) [] rfl) hK hT hS rfl hl.1 rfl (Nat.le_of_ble_eq_true rfl) dX4_isSeen_21 ⟨Nat.le_of_ble_eq_true rfl, Nat.le_of_ble_eq_true rfl⟩ ?_
  refine q_bz_eq (tgt := 57) hx hb dX4_isSeen_24 (by decide) (fun c_1 => ?_) (fun c_1 => ?_)
  · refine q_iconst hx hb dX4_isSeen_57 ?_
    exact W.zret hx hb hr rfl (fun t9 ht9 hW9 => ⟨_, rfl, congrArg zI (bz_f (fun h9 => by unfold c_seen at h9; rw [Bool.and_eq_true, decide_eq_true_eq] at h9; first | exact c_1 h9.1 | exact c_2 h9.2)).symm, ht9⟩) hS.2.2 dX4_isSeen_58
  · refine lv_iload hx hb dX4_isSeen_27 (lv_at hl 0 rfl) ?_
    refine lv_aload_n hx hb dX4_isSeen_29 rfl (lv_at hl 1 rfl) ?_
    refine va_get (D := (dC, dI)) (ci := 3) (v := .ref (a 0)) (C := RX4) (T := TX4) (N := 1) hx hb hts iX4 hown hK hP 0 rfl rfl 0 (by decide) kf9 (fun _ h9 => h9) rfl dX4_isSeen_30 ?_
    refine va_get (D := (dC, dI)) (ci := 1) (v := .int (zI (w 1))) (C := RX1) (T := TX1) (N := 14) hx hb hts iX1 hown hK hP 1 rfl rfl 0 (by decide) kf21 (fun _ h9 => h9) rfl dX4_isSeen_33 ?_
    refine lv_aload_n hx hb dX4_isSeen_36 rfl (lv_at hl 1 rfl) ?_
    refine va_get (D := (dC, dI)) (ci := 3) (v := .ref (a 0)) (C := RX4) (T := TX4) (N := 1) hx hb hts iX4 hown hK hP 0 rfl rfl 0 (by decide) kf9 (fun _ h9 => h9) rfl dX4_isSeen_37 ?_
    refine va_get (D := (dC, dI)) (ci := 1) (v := .ref (a 2)) (C := RX1) (T := TX1) (N := 14) hx hb hts iX1 hown hK hP 1 rfl rfl 6 (by decide) kf25 (fun _ h9 => h9) rfl dX4_isSeen_40 ?_
    refine lv_iload_n hx hb dX4_isSeen_43 rfl (lv_at hl 2 rfl) ?_
    refine q_iald (F := fun k => w (9 + k)) (v := w (9 + x1)) hx hb hK hP 3 0 rfl rfl (by decide) (by omega) rfl dX4_isSeen_44 ?_
    refine lv_iload_n hx hb dX4_isSeen_45 rfl (lv_at hl 4 rfl) ?_
    refine q_cSi (z := c_floor (w (5 + x1)) (w 1) (w (9 + x1)) x3) (As := [.int (zI (w (5 + x1))), .int (zI (w 1)), .int (zI (w (9 + x1))), .int (zI x3)]) (rest := []) ⟨hx, hb, hml, hown, hts⟩ (kX2_floorIn l dC dI g tt (w (5 + x1)) (w 1) (w (9 + x1)) x3 (by omega) (by omega) (by omega) (by omega)) (va_cwS 4 hts gX4_isSeen_X2_floorIn rfl rfl rfl (by decide +kernel) ⟨Nat.le_of_ble_eq_true rfl, Nat.le_of_ble_eq_true rfl⟩) (hP.sub (ws' := []) [] rfl) hK hT hS rfl hl.1 rfl (Nat.le_of_ble_eq_true rfl) dX4_isSeen_46 ⟨Nat.le_of_ble_eq_true rfl, Nat.le_of_ble_eq_true rfl⟩ ?_
    have := c_floor_r (w (5 + x1)) (t := (w 1)) (b := (w (9 + x1))) (m := x3) (by omega) (by omega) (by omega)
    refine lv_iload_n hx hb dX4_isSeen_49 rfl (lv_at hl 3 rfl) ?_
    refine q_icmp_ne (tgt := 57) hx hb dX4_isSeen_50 (by decide) (by omega) (fun c_2 => ?_) (fun c_2 => ?_)
    · refine q_iconst hx hb dX4_isSeen_57 ?_
      exact W.zret hx hb hr rfl (fun t9 ht9 hW9 => ⟨_, rfl, congrArg zI (bz_f (fun h9 => by unfold c_seen at h9; rw [Bool.and_eq_true, decide_eq_true_eq] at h9; first | exact c_1 h9.1 | exact c_2 h9.2)).symm, ht9⟩) hS.2.2 dX4_isSeen_58
    · refine q_iconst hx hb dX4_isSeen_53 ?_
      refine lv_goto (tgt := 58) hx hb dX4_isSeen_54 (by decide) ?_
      exact W.zret hx hb hr rfl (fun t9 ht9 hW9 => ⟨_, rfl, congrArg zI (bz_t (by unfold c_seen; rw [Bool.and_eq_true, decide_eq_true_eq]; exact ⟨c_1, c_2⟩)).symm, ht9⟩) hS.2.2 dX4_isSeen_58
set_option maxHeartbeats 4000000 in
set_option maxRecDepth 100000 in
theorem kX4_seenFrom (l : Launch) (dC : Nat → ClassId) (dI : Nat → Nat → Nat) (g : Nat → ClassId) (tt : Nat → Nat) (o : Nat) (a : Nat → Nat) (w : Int → Int) (x1 x2 x3 : Int) (hw : hok w) (h1 : 0 ≤ x1 ∧ x1 ≤ w 1) (h2 : 0 ≤ x2 ∧ x2 ≤ 90000) (h3 : -1 ≤ x3 ∧ x3 ≤ 1) : Met l yX4_seenFrom wsX4_seenFrom ({ frames := 3, cells := 0, slots := 0, locals := 75 }) (va_Pc [.ref o, .int (zI x1), .int (zI x2), .int (zI x3)] (eS (dC, dI) (wTy g) (wWa g o a w) tt)) (vp_Si (fun r => r = zI (c_sf w x1 x2 x3))) 0 0 (fun _ => False) := by
  refine Met.ofW (cc := cX4_seenFrom) (maxL := 5) (ret := (some .int)) (by decide) rfl ?_
  intro p e s m args below meth c s₁ B hml hv
  obtain ⟨rfl, hP, hK, hT⟩ := hv
  have hx := B.exec
  have hb := B.bytes
  have hr := B.returns
  have hts := atoms_spec (ws := wsX4_seenFrom) B.pre
  have hown : s.vm.findClass RX4 = some m.cls := findClass_of_methodNamed B.named
  have hlocks := B.notSynchronized
  have hS : va_S (fun _ : Nat => False) s.heap s.heap [] := va_S.rf
  have hl := lv_entry ([.ref o, .int (zI x1), .int (zI x2), .int (zI x3)]) (n := 5) (Nat.le_of_ble_eq_true rfl)
  rw [lg_entry_eq]
  generalize (lg_sl ([.ref o, .int (zI x1), .int (zI x2), .int (zI x3)]) ++ List.replicate (5 - (lg_sl ([.ref o, .int (zI x1), .int (zI x2), .int (zI x3)])).length) Slot.unset).toArray = ls at hl ⊢
  have hl : lv_has ls 5 [(0, .ref o), (1, .int (zI x1)), (2, .int (zI x2)), (3, .int (zI x3))] := hl
  have kf38 := hts (.fieldLink RX4 38 "WrongWay$House" "lifts" "I") (by decide +kernel)
  have kf9 := hts (.fieldLink RX4 9 "WrongWay$Watch" "house" "LWrongWay$House;") (by decide +kernel)
  have iX1 := (fun w h => List.mem_cons_of_mem _ (List.mem_append_right _ h) : ∀ w ∈ u_ws RX1 TX1 14, w ∈ wsX4_seenFrom)
  have iX4 := (fun w h => List.mem_cons_of_mem _ (List.mem_append_left _ (List.mem_append_right _ h)) : ∀ w ∈ u_ws RX4 TX4 1, w ∈ wsX4_seenFrom)
  have hb0 := hw.b
  refine q_iconst hx hb dX4_seenFrom_0 ?_
  refine lv_istore (lv' := [(4, .int (zI 0)), (0, .ref o), (1, .int (zI x1)), (2, .int (zI x2)), (3, .int (zI x3))]) hx hb dX4_seenFrom_1 hl (by decide) rfl (fun ls hl => ?_)
  refine w_loopP (σ := Int) (fun a9 ls => (0 ≤ a9 ∧ a9 ≤ w 0) ∧ (c_sf w x1 x2 x3 = srI (c_sfP w x1 x2 x3) (w 0) a9) ∧ lv_has ls 5 [(0, .ref o), (1, .int (zI x1)), (2, .int (zI x2)), (3, .int (zI x3)), (4, .int (zI a9))]) (fun a9 => (w 0 - a9).toNat) ?_ (0) ?_
  · rintro i ls ⟨hi, hs, hl⟩ ih3
    have hi : 0 ≤ i ∧ i ≤ w 0 := hi
    have hs : c_sf w x1 x2 x3 = srI (c_sfP w x1 x2 x3) (w 0) i := hs
    have hl : lv_has ls 5 [(0, .ref o), (1, .int (zI x1)), (2, .int (zI x2)), (3, .int (zI x3)), (4, .int (zI i))] := hl
    refine lv_iload hx hb dX4_seenFrom_3 (lv_at hl 4 rfl) ?_
    refine lv_aload_n hx hb dX4_seenFrom_5 rfl (lv_at hl 0 rfl) ?_
    refine va_get (D := (dC, dI)) (ci := 3) (v := .ref (a 0)) (C := RX4) (T := TX4) (N := 1) hx hb hts iX4 hown hK hP 0 rfl rfl 0 (by decide) kf9 (fun _ h9 => h9) rfl dX4_seenFrom_6 ?_
    refine va_get (D := (dC, dI)) (ci := 1) (v := .int (zI (w 0))) (C := RX1) (T := TX1) (N := 14) hx hb hts iX1 hown hK hP 1 rfl rfl 1 (by decide) kf38 (fun _ h9 => h9) rfl dX4_seenFrom_9 ?_
    refine q_icmp_ge (tgt := 51) hx hb dX4_seenFrom_12 (by decide) (by omega) (fun c_1 => ?_) (fun c_1 => ?_)
    · refine q_iconst hx hb dX4_seenFrom_51 ?_
      exact W.iret hx hb hr (fun t9 ht9 hW9 => ⟨_, rfl, congrArg zI (show (-1) = c_sf w x1 x2 x3 from by rw [hs, srI_end (by omega)]), ht9⟩) hS.2.2 dX4_seenFrom_52
    · refine lv_aload_n hx hb dX4_seenFrom_15 rfl (lv_at hl 0 rfl) ?_
      refine lv_iload hx hb dX4_seenFrom_16 (lv_at hl 4 rfl) ?_
      refine lv_iload_n hx hb dX4_seenFrom_18 rfl (lv_at hl 1 rfl) ?_
      refine lv_iload_n hx hb dX4_seenFrom_19 rfl (lv_at hl 2 rfl) ?_
      refine q_cVi (z := bz (c_seen w i x1 x2 = true)) (b := o) (As := [.int (zI i), .int (zI x1), .int (zI x2)]) (rest := []) ⟨hx, hb, hml, hown, hts⟩ (kX4_isSeen l dC dI g tt o a w i x1 x2 (hw) (by omega) (by omega) (by omega)) (cwV 3 hts gX4_seenFrom_X4_isSeen rfl rfl rfl (by decide +kernel) ⟨Nat.le_of_ble_eq_true rfl, Nat.le_of_ble_eq_true rfl⟩) hP hK hT hS 0 3 rfl rfl rfl rfl hl.1 rfl (Nat.le_of_ble_eq_true rfl) dX4_seenFrom_20 ⟨Nat.le_of_ble_eq_true rfl, Nat.le_of_ble_eq_true rfl⟩ ?_
      refine q_bz_eq (tgt := 45) hx hb dX4_seenFrom_23 (by decide) (fun c_2 => ?_) (fun c_2 => ?_)
      · refine lv_iinc (v := zI (i + 1)) (lv' := [(4, .int (zI (i + 1))), (0, .ref o), (1, .int (zI x1)), (2, .int (zI x2)), (3, .int (zI x3))]) hx hb dX4_seenFrom_45 hl (k := 4) rfl (zI_add _ _) (by decide) rfl (fun ls hl => ?_)
        refine lv_goto (tgt := 3) hx hb dX4_seenFrom_48 (by decide) ?_
        exact ih3 (i + 1) ls ⟨(show 0 ≤ (i + 1) ∧ (i + 1) ≤ w 0 from by omega), (show c_sf w x1 x2 x3 = srI (c_sfP w x1 x2 x3) (w 0) (i + 1) from hs.trans (srI_next (by omega) (by unfold c_sfP; simp [c_2]))), lv_sub hl [1, 2, 3, 4, 0] rfl⟩ (by show (w 0 - (i + 1)).toNat < (w 0 - i).toNat; omega)
      · refine lv_iload_n hx hb dX4_seenFrom_26 rfl (lv_at hl 3 rfl) ?_
        refine q_iconst hx hb dX4_seenFrom_27 ?_
        refine q_icmp_eq (tgt := 42) hx hb dX4_seenFrom_28 (by decide) (by omega) (fun c_3 => ?_) (fun c_3 => ?_)
        · refine lv_iload hx hb dX4_seenFrom_42 (lv_at hl 4 rfl) ?_
          exact W.iret hx hb hr (fun t9 ht9 hW9 => ⟨_, rfl, congrArg zI (show i = c_sf w x1 x2 x3 from by rw [hs, srI_hit (by omega) (by unfold c_sfP; simp [c_2, c_3])]), ht9⟩) hS.2.2 dX4_seenFrom_44
        · refine lv_aload_n hx hb dX4_seenFrom_31 rfl (lv_at hl 0 rfl) ?_
          refine lv_iload hx hb dX4_seenFrom_32 (lv_at hl 4 rfl) ?_
          refine lv_iload_n hx hb dX4_seenFrom_34 rfl (lv_at hl 2 rfl) ?_
          refine q_cVi (z := c_wy w i x2) (b := o) (As := [.int (zI i), .int (zI x2)]) (rest := []) ⟨hx, hb, hml, hown, hts⟩ (kX4_wayOf l dC dI g tt o a w i x2 (hw) (by omega) (by omega)) (cwV 2 hts gX4_seenFrom_X4_wayOf rfl rfl rfl (by decide +kernel) ⟨Nat.le_of_ble_eq_true rfl, Nat.le_of_ble_eq_true rfl⟩) hP hK hT hS 0 3 rfl rfl rfl rfl hl.1 rfl (Nat.le_of_ble_eq_true rfl) dX4_seenFrom_35 ⟨Nat.le_of_ble_eq_true rfl, Nat.le_of_ble_eq_true rfl⟩ ?_
          have := c_wy_r w i x2
          refine lv_iload_n hx hb dX4_seenFrom_38 rfl (lv_at hl 3 rfl) ?_
          refine q_icmp_ne (tgt := 45) hx hb dX4_seenFrom_39 (by decide) (by omega) (fun c_4 => ?_) (fun c_4 => ?_)
          · refine lv_iinc (v := zI (i + 1)) (lv' := [(4, .int (zI (i + 1))), (0, .ref o), (1, .int (zI x1)), (2, .int (zI x2)), (3, .int (zI x3))]) hx hb dX4_seenFrom_45 hl (k := 4) rfl (zI_add _ _) (by decide) rfl (fun ls hl => ?_)
            refine lv_goto (tgt := 3) hx hb dX4_seenFrom_48 (by decide) ?_
            exact ih3 (i + 1) ls ⟨(show 0 ≤ (i + 1) ∧ (i + 1) ≤ w 0 from by omega), (show c_sf w x1 x2 x3 = srI (c_sfP w x1 x2 x3) (w 0) (i + 1) from hs.trans (srI_next (by omega) (by unfold c_sfP; simp [c_2, c_3, c_4]))), lv_sub hl [1, 2, 3, 4, 0] rfl⟩ (by show (w 0 - (i + 1)).toNat < (w 0 - i).toNat; omega)
          · refine lv_iload hx hb dX4_seenFrom_42 (lv_at hl 4 rfl) ?_
            exact W.iret hx hb hr (fun t9 ht9 hW9 => ⟨_, rfl, congrArg zI (show i = c_sf w x1 x2 x3 from by rw [hs, srI_hit (by omega) (by unfold c_sfP; simp [c_2, c_4])]), ht9⟩) hS.2.2 dX4_seenFrom_44
  · exact ⟨(show 0 ≤ 0 ∧ 0 ≤ w 0 from by omega), (show c_sf w x1 x2 x3 = srI (c_sfP w x1 x2 x3) (w 0) 0 from rfl), lv_sub hl [1, 2, 3, 4, 0] rfl⟩
set_option maxHeartbeats 4000000 in
set_option maxRecDepth 100000 in
theorem kX4_waitOn (l : Launch) (dC : Nat → ClassId) (dI : Nat → Nat → Nat) (g : Nat → ClassId) (tt : Nat → Nat) (o : Nat) (a : Nat → Nat) (w : Int → Int) (x1 x2 x3 : Int) (hw : hok w) (h1 : 0 ≤ x1 ∧ x1 ≤ w 1) (h2 : 0 ≤ x2 ∧ x2 ≤ 80000) (h3 : -1 ≤ x3 ∧ x3 ≤ 1) : Met l yX4_waitOn wsX4_waitOn ({ frames := 4, cells := 0, slots := 0, locals := 99 }) (va_Pc [.ref o, .int (zI x1), .int (zI x2), .int (zI x3)] (eS (dC, dI) (wTy g) (wWa g o a w) tt)) (vp_Si (fun r => r = zI (c_wo w x1 x2 x3))) 0 0 (fun _ => False) := by
  refine Met.ofW (cc := cX4_waitOn) (maxL := 5) (ret := (some .int)) (by decide) rfl ?_
  intro p e s m args below meth c s₁ B hml hv
  obtain ⟨rfl, hP, hK, hT⟩ := hv
  have hx := B.exec
  have hb := B.bytes
  have hr := B.returns
  have hts := atoms_spec (ws := wsX4_waitOn) B.pre
  have hown : s.vm.findClass RX4 = some m.cls := findClass_of_methodNamed B.named
  have hlocks := B.notSynchronized
  have hS : va_S (fun _ : Nat => False) s.heap s.heap [] := va_S.rf
  have hl := lv_entry ([.ref o, .int (zI x1), .int (zI x2), .int (zI x3)]) (n := 5) (Nat.le_of_ble_eq_true rfl)
  rw [lg_entry_eq]
  generalize (lg_sl ([.ref o, .int (zI x1), .int (zI x2), .int (zI x3)]) ++ List.replicate (5 - (lg_sl ([.ref o, .int (zI x1), .int (zI x2), .int (zI x3)])).length) Slot.unset).toArray = ls at hl ⊢
  have hl : lv_has ls 5 [(0, .ref o), (1, .int (zI x1)), (2, .int (zI x2)), (3, .int (zI x3))] := hl
  have hb0 := hw.b
  refine q_iconst hx hb dX4_waitOn_0 ?_
  refine lv_istore (lv' := [(4, .int (zI 0)), (0, .ref o), (1, .int (zI x1)), (2, .int (zI x2)), (3, .int (zI x3))]) hx hb dX4_waitOn_1 hl (by decide) rfl (fun ls hl => ?_)
  refine w_loopP (σ := Int) (fun a9 ls => (0 ≤ a9 ∧ a9 ≤ 28) ∧ (c_wo w x1 x2 x3 = srI (c_woP w x1 x2 x3) 28 a9) ∧ lv_has ls 5 [(0, .ref o), (1, .int (zI x1)), (2, .int (zI x2)), (3, .int (zI x3)), (4, .int (zI a9))]) (fun a9 => (28 - a9).toNat) ?_ (0) ?_
  · rintro i ls ⟨hi, hs, hl⟩ ih3
    have hi : 0 ≤ i ∧ i ≤ 28 := hi
    have hs : c_wo w x1 x2 x3 = srI (c_woP w x1 x2 x3) 28 i := hs
    have hl : lv_has ls 5 [(0, .ref o), (1, .int (zI x1)), (2, .int (zI x2)), (3, .int (zI x3)), (4, .int (zI i))] := hl
    refine lv_iload hx hb dX4_waitOn_3 (lv_at hl 4 rfl) ?_
    refine q_bipush hx hb dX4_waitOn_5 rfl ?_
    refine q_icmp_ge (tgt := 33) hx hb dX4_waitOn_7 (by decide) (by omega) (fun c_1 => ?_) (fun c_1 => ?_)
    · refine q_iconst hx hb dX4_waitOn_33 ?_
      exact W.iret hx hb hr (fun t9 ht9 hW9 => ⟨_, rfl, congrArg zI (show (-1) = c_wo w x1 x2 x3 from by rw [hs, srI_end (by omega)]), ht9⟩) hS.2.2 dX4_waitOn_34
    · refine lv_aload_n hx hb dX4_waitOn_10 rfl (lv_at hl 0 rfl) ?_
      refine lv_iload_n hx hb dX4_waitOn_11 rfl (lv_at hl 1 rfl) ?_
      refine lv_iload_n hx hb dX4_waitOn_12 rfl (lv_at hl 2 rfl) ?_
      refine lv_iload hx hb dX4_waitOn_13 (lv_at hl 4 rfl) ?_
      refine q_iadd hx hb dX4_waitOn_15 ?_
      refine lv_iload_n hx hb dX4_waitOn_16 rfl (lv_at hl 3 rfl) ?_
      refine q_cVi (z := c_sf w x1 (x2 + i) x3) (b := o) (As := [.int (zI x1), .int (zI (x2 + i)), .int (zI x3)]) (rest := []) ⟨hx, hb, hml, hown, hts⟩ (kX4_seenFrom l dC dI g tt o a w x1 (x2 + i) x3 (hw) (by omega) (by omega) (by omega)) (cwV 3 hts gX4_waitOn_X4_seenFrom rfl rfl rfl (by decide +kernel) ⟨Nat.le_of_ble_eq_true rfl, Nat.le_of_ble_eq_true rfl⟩) hP hK hT hS 0 3 rfl rfl rfl rfl hl.1 rfl (Nat.le_of_ble_eq_true rfl) dX4_waitOn_17 ⟨Nat.le_of_ble_eq_true rfl, Nat.le_of_ble_eq_true rfl⟩ ?_
      have := c_sf_r w x1 (x2 + i) x3
      refine q_iconst hx hb dX4_waitOn_20 ?_
      refine q_icmp_eq (tgt := 27) hx hb dX4_waitOn_21 (by decide) (by omega) (fun c_2 => ?_) (fun c_2 => ?_)
      · refine lv_iinc (v := zI (i + 1)) (lv' := [(4, .int (zI (i + 1))), (0, .ref o), (1, .int (zI x1)), (2, .int (zI x2)), (3, .int (zI x3))]) hx hb dX4_waitOn_27 hl (k := 4) rfl (zI_add _ _) (by decide) rfl (fun ls hl => ?_)
        refine lv_goto (tgt := 3) hx hb dX4_waitOn_30 (by decide) ?_
        exact ih3 (i + 1) ls ⟨(show 0 ≤ (i + 1) ∧ (i + 1) ≤ 28 from by omega), (show c_wo w x1 x2 x3 = srI (c_woP w x1 x2 x3) 28 (i + 1) from hs.trans (srI_next (by omega) (by unfold c_woP; simp [c_2]))), lv_sub hl [1, 2, 3, 4, 0] rfl⟩ (by show (28 - (i + 1)).toNat < (28 - i).toNat; omega)
      · refine lv_iload hx hb dX4_waitOn_24 (lv_at hl 4 rfl) ?_
        exact W.iret hx hb hr (fun t9 ht9 hW9 => ⟨_, rfl, congrArg zI (show i = c_wo w x1 x2 x3 from by rw [hs, srI_hit (by omega) (by unfold c_woP; simp [c_2])]), ht9⟩) hS.2.2 dX4_waitOn_26
  · exact ⟨(show 0 ≤ 0 ∧ 0 ≤ 28 from by omega), (show c_wo w x1 x2 x3 = srI (c_woP w x1 x2 x3) 28 0 from rfl), lv_sub hl [1, 2, 3, 4, 0] rfl⟩
set_option maxHeartbeats 4000000 in
set_option maxRecDepth 100000 in
theorem kX4_waitForLift (l : Launch) (dC : Nat → ClassId) (dI : Nat → Nat → Nat) (g : Nat → ClassId) (tt : Nat → Nat) (o : Nat) (a : Nat → Nat) (w : Int → Int) (x1 x2 x3 : Int) (hw : hok w) (h1 : 0 ≤ x1 ∧ x1 < w 0) (h2 : 0 ≤ x2 ∧ x2 ≤ w 1) (h3 : 0 ≤ x3 ∧ x3 ≤ 80000) : Met l yX4_waitForLift wsX4_waitForLift ({ frames := 3, cells := 0, slots := 0, locals := 72 }) (va_Pc [.ref o, .int (zI x1), .int (zI x2), .int (zI x3)] (eS (dC, dI) (wTy g) (wWa g o a w) tt)) (vp_Si (fun r => r = zI (c_wf w x1 x2 x3))) 0 0 (fun _ => False) := by
  refine Met.ofW (cc := cX4_waitForLift) (maxL := 5) (ret := (some .int)) (by decide) rfl ?_
  intro p e s m args below meth c s₁ B hml hv
  obtain ⟨rfl, hP, hK, hT⟩ := hv
  have hx := B.exec
  have hb := B.bytes
  have hr := B.returns
  have hts := atoms_spec (ws := wsX4_waitForLift) B.pre
  have hown : s.vm.findClass RX4 = some m.cls := findClass_of_methodNamed B.named
  have hlocks := B.notSynchronized
  have hS : va_S (fun _ : Nat => False) s.heap s.heap [] := va_S.rf
  have hl := lv_entry ([.ref o, .int (zI x1), .int (zI x2), .int (zI x3)]) (n := 5) (Nat.le_of_ble_eq_true rfl)
  rw [lg_entry_eq]
  generalize (lg_sl ([.ref o, .int (zI x1), .int (zI x2), .int (zI x3)]) ++ List.replicate (5 - (lg_sl ([.ref o, .int (zI x1), .int (zI x2), .int (zI x3)])).length) Slot.unset).toArray = ls at hl ⊢
  have hl : lv_has ls 5 [(0, .ref o), (1, .int (zI x1)), (2, .int (zI x2)), (3, .int (zI x3))] := hl
  have hb0 := hw.b
  refine q_iconst hx hb dX4_waitForLift_0 ?_
  refine lv_istore (lv' := [(4, .int (zI 0)), (0, .ref o), (1, .int (zI x1)), (2, .int (zI x2)), (3, .int (zI x3))]) hx hb dX4_waitForLift_1 hl (by decide) rfl (fun ls hl => ?_)
  refine w_loopP (σ := Int) (fun a9 ls => (0 ≤ a9 ∧ a9 ≤ 28) ∧ (c_wf w x1 x2 x3 = srI (c_wfP w x1 x2 x3) 28 a9) ∧ lv_has ls 5 [(0, .ref o), (1, .int (zI x1)), (2, .int (zI x2)), (3, .int (zI x3)), (4, .int (zI a9))]) (fun a9 => (28 - a9).toNat) ?_ (0) ?_
  · rintro i ls ⟨hi, hs, hl⟩ ih3
    have hi : 0 ≤ i ∧ i ≤ 28 := hi
    have hs : c_wf w x1 x2 x3 = srI (c_wfP w x1 x2 x3) 28 i := hs
    have hl : lv_has ls 5 [(0, .ref o), (1, .int (zI x1)), (2, .int (zI x2)), (3, .int (zI x3)), (4, .int (zI i))] := hl
    refine lv_iload hx hb dX4_waitForLift_3 (lv_at hl 4 rfl) ?_
    refine q_bipush hx hb dX4_waitForLift_5 rfl ?_
    refine q_icmp_ge (tgt := 32) hx hb dX4_waitForLift_7 (by decide) (by omega) (fun c_1 => ?_) (fun c_1 => ?_)
    · refine q_iconst hx hb dX4_waitForLift_32 ?_
      exact W.iret hx hb hr (fun t9 ht9 hW9 => ⟨_, rfl, congrArg zI (show (-1) = c_wf w x1 x2 x3 from by rw [hs, srI_end (by omega)]), ht9⟩) hS.2.2 dX4_waitForLift_33
    · refine lv_aload_n hx hb dX4_waitForLift_10 rfl (lv_at hl 0 rfl) ?_
      refine lv_iload_n hx hb dX4_waitForLift_11 rfl (lv_at hl 1 rfl) ?_
      refine lv_iload_n hx hb dX4_waitForLift_12 rfl (lv_at hl 2 rfl) ?_
      refine lv_iload_n hx hb dX4_waitForLift_13 rfl (lv_at hl 3 rfl) ?_
      refine lv_iload hx hb dX4_waitForLift_14 (lv_at hl 4 rfl) ?_
      refine q_iadd hx hb dX4_waitForLift_16 ?_
      refine q_cVi (z := bz (c_seen w x1 x2 (x3 + i) = true)) (b := o) (As := [.int (zI x1), .int (zI x2), .int (zI (x3 + i))]) (rest := []) ⟨hx, hb, hml, hown, hts⟩ (kX4_isSeen l dC dI g tt o a w x1 x2 (x3 + i) (hw) (by omega) (by omega) (by omega)) (cwV 3 hts gX4_waitForLift_X4_isSeen rfl rfl rfl (by decide +kernel) ⟨Nat.le_of_ble_eq_true rfl, Nat.le_of_ble_eq_true rfl⟩) hP hK hT hS 0 3 rfl rfl rfl rfl hl.1 rfl (Nat.le_of_ble_eq_true rfl) dX4_waitForLift_17 ⟨Nat.le_of_ble_eq_true rfl, Nat.le_of_ble_eq_true rfl⟩ ?_
      refine q_bz_eq (tgt := 26) hx hb dX4_waitForLift_20 (by decide) (fun c_2 => ?_) (fun c_2 => ?_)
      · refine lv_iinc (v := zI (i + 1)) (lv' := [(4, .int (zI (i + 1))), (0, .ref o), (1, .int (zI x1)), (2, .int (zI x2)), (3, .int (zI x3))]) hx hb dX4_waitForLift_26 hl (k := 4) rfl (zI_add _ _) (by decide) rfl (fun ls hl => ?_)
        refine lv_goto (tgt := 3) hx hb dX4_waitForLift_29 (by decide) ?_
        exact ih3 (i + 1) ls ⟨(show 0 ≤ (i + 1) ∧ (i + 1) ≤ 28 from by omega), (show c_wf w x1 x2 x3 = srI (c_wfP w x1 x2 x3) 28 (i + 1) from hs.trans (srI_next (by omega) c_2)), lv_sub hl [1, 2, 3, 4, 0] rfl⟩ (by show (28 - (i + 1)).toNat < (28 - i).toNat; omega)
      · refine lv_iload hx hb dX4_waitForLift_23 (lv_at hl 4 rfl) ?_
        exact W.iret hx hb hr (fun t9 ht9 hW9 => ⟨_, rfl, congrArg zI (show i = c_wf w x1 x2 x3 from by rw [hs, srI_hit (P := c_wfP w x1 x2 x3) (by omega) c_2]), ht9⟩) hS.2.2 dX4_waitForLift_25
  · exact ⟨(show 0 ≤ 0 ∧ 0 ≤ 28 from by omega), (show c_wf w x1 x2 x3 = srI (c_wfP w x1 x2 x3) 28 0 from rfl), lv_sub hl [1, 2, 3, 4, 0] rfl⟩
set_option maxHeartbeats 4000000 in
set_option maxRecDepth 100000 in
theorem kX4_wayOfFirst (l : Launch) (dC : Nat → ClassId) (dI : Nat → Nat → Nat) (g : Nat → ClassId) (tt : Nat → Nat) (o : Nat) (a : Nat → Nat) (w : Int → Int) (x1 x2 : Int) (hw : hok w) (h1 : 0 ≤ x1 ∧ x1 ≤ w 1) (h2 : 0 ≤ x2 ∧ x2 ≤ 70000) : Met l yX4_wayOfFirst wsX4_wayOfFirst ({ frames := 5, cells := 0, slots := 0, locals := 123 }) (va_Pc [.ref o, .int (zI x1), .int (zI x2)] (eS (dC, dI) (wTy g) (wWa g o a w) tt)) (vp_Si (fun r => r = zI (c_w1 w x1 x2))) 0 0 (fun _ => False) := by
  refine Met.ofW (cc := cX4_wayOfFirst) (maxL := 5) (ret := (some .int)) (by decide) rfl ?_
  intro p e s m args below meth c s₁ B hml hv
  obtain ⟨rfl, hP, hK, hT⟩ := hv
  have hx := B.exec
  have hb := B.bytes
  have hr := B.returns
  have hts := atoms_spec (ws := wsX4_wayOfFirst) B.pre
  have hown : s.vm.findClass RX4 = some m.cls := findClass_of_methodNamed B.named
  have hlocks := B.notSynchronized
  have hS : va_S (fun _ : Nat => False) s.heap s.heap [] := va_S.rf
  have hl := lv_entry ([.ref o, .int (zI x1), .int (zI x2)]) (n := 5) (Nat.le_of_ble_eq_true rfl)
  rw [lg_entry_eq]
  generalize (lg_sl ([.ref o, .int (zI x1), .int (zI x2)]) ++ List.replicate (5 - (lg_sl ([.ref o, .int (zI x1), .int (zI x2)])).length) Slot.unset).toArray = ls at hl ⊢
  have hl : lv_has ls 5 [(0, .ref o), (1, .int (zI x1)), (2, .int (zI x2))] := hl
  have hb0 := hw.b
  refine lv_aload_n hx hb dX4_wayOfFirst_0 rfl (lv_at hl 0 rfl) ?_
  refine lv_iload_n hx hb dX4_wayOfFirst_1 rfl (lv_at hl 1 rfl) ?_
  refine lv_iload_n hx hb dX4_wayOfFirst_2 rfl (lv_at hl 2 rfl) ?_
  refine q_iconst hx hb dX4_wayOfFirst_3 ?_
  refine q_cVi (z := c_wo w x1 x2 (-1)) (b := o) (As := [.int (zI x1), .int (zI x2), .int (zI (-1))]) (rest := []) ⟨hx, hb, hml, hown, hts⟩ (kX4_waitOn l dC dI g tt o a w x1 x2 (-1) (hw) (by omega) (by omega) (by omega)) (cwV 3 hts gX4_wayOfFirst_X4_waitOn rfl rfl rfl (by decide +kernel) ⟨Nat.le_of_ble_eq_true rfl, Nat.le_of_ble_eq_true rfl⟩) hP hK hT hS 0 3 rfl rfl rfl rfl hl.1 rfl (Nat.le_of_ble_eq_true rfl) dX4_wayOfFirst_4 ⟨Nat.le_of_ble_eq_true rfl, Nat.le_of_ble_eq_true rfl⟩ ?_
  have := c_wo_r w x1 x2 (-1)
  refine lv_istore_n (lv' := [(3, .int (zI (c_wo w x1 x2 (-1)))), (0, .ref o), (1, .int (zI x1)), (2, .int (zI x2))]) hx hb dX4_wayOfFirst_7 rfl hl (by decide) rfl (fun ls hl => ?_)
  refine lv_iload_n hx hb dX4_wayOfFirst_8 rfl (lv_at hl 0 rfl) ?_
  refine q_iconst hx hb dX4_wayOfFirst_9 ?_
  refine q_icmp_ne (tgt := 15) hx hb dX4_wayOfFirst_10 (by decide) (by omega) (fun c_1 => ?_) (fun c_1 => ?_)
  · refine lv_aload_n hx hb dX4_wayOfFirst_15 rfl (lv_at hl 1 rfl) ?_
    refine lv_iload_n hx hb dX4_wayOfFirst_16 rfl (lv_at hl 2 rfl) ?_
    refine lv_iload_n hx hb dX4_wayOfFirst_17 rfl (lv_at hl 3 rfl) ?_
    refine lv_iload_n hx hb dX4_wayOfFirst_18 rfl (lv_at hl 0 rfl) ?_
    refine q_iadd hx hb dX4_wayOfFirst_19 ?_
    refine q_iconst hx hb dX4_wayOfFirst_20 ?_
    refine q_cVi (z := c_sf w x1 (x2 + (c_wo w x1 x2 (-1))) (-1)) (b := o) (As := [.int (zI x1), .int (zI (x2 + (c_wo w x1 x2 (-1)))), .int (zI (-1))]) (rest := []) ⟨hx, hb, hml, hown, hts⟩ (kX4_seenFrom l dC dI g tt o a w x1 (x2 + (c_wo w x1 x2 (-1))) (-1) (hw) (by omega) (by omega) (by omega)) (cwV 3 hts gX4_wayOfFirst_X4_seenFrom rfl rfl rfl (by decide +kernel) ⟨Nat.le_of_ble_eq_true rfl, Nat.le_of_ble_eq_true rfl⟩) hP hK hT hS 0 3 rfl rfl rfl rfl hl.1 rfl (Nat.le_of_ble_eq_true rfl) dX4_wayOfFirst_21 ⟨Nat.le_of_ble_eq_true rfl, Nat.le_of_ble_eq_true rfl⟩ ?_
    have := c_sf_r w x1 (x2 + (c_wo w x1 x2 (-1))) (-1)
    refine lv_istore (lv' := [(4, .int (zI (c_sf w x1 (x2 + (c_wo w x1 x2 (-1))) (-1)))), (3, .int (zI (c_wo w x1 x2 (-1)))), (0, .ref o), (1, .int (zI x1)), (2, .int (zI x2))]) hx hb dX4_wayOfFirst_24 hl (by decide) rfl (fun ls hl => ?_)
    refine lv_iload hx hb dX4_wayOfFirst_26 (lv_at hl 0 rfl) ?_
    refine q_iconst hx hb dX4_wayOfFirst_28 ?_
    refine q_icmp_ne (tgt := 36) hx hb dX4_wayOfFirst_29 (by decide) (by omega) (fun c_2 => ?_) (fun c_2 => ?_)
    · refine lv_aload_n hx hb dX4_wayOfFirst_36 rfl (lv_at hl 2 rfl) ?_
      refine lv_iload hx hb dX4_wayOfFirst_37 (lv_at hl 0 rfl) ?_
      refine lv_iload_n hx hb dX4_wayOfFirst_39 rfl (lv_at hl 4 rfl) ?_
      refine lv_iload_n hx hb dX4_wayOfFirst_40 rfl (lv_at hl 1 rfl) ?_
      refine q_iadd hx hb dX4_wayOfFirst_41 ?_
      refine q_cVi (z := c_wy w (c_sf w x1 (x2 + (c_wo w x1 x2 (-1))) (-1)) (x2 + (c_wo w x1 x2 (-1)))) (b := o) (As := [.int (zI (c_sf w x1 (x2 + (c_wo w x1 x2 (-1))) (-1))), .int (zI (x2 + (c_wo w x1 x2 (-1))))]) (rest := []) ⟨hx, hb, hml, hown, hts⟩ (kX4_wayOf l dC dI g tt o a w (c_sf w x1 (x2 + (c_wo w x1 x2 (-1))) (-1)) (x2 + (c_wo w x1 x2 (-1))) (hw) (by omega) (by omega)) (cwV 2 hts gX4_wayOfFirst_X4_wayOf rfl rfl rfl (by decide +kernel) ⟨Nat.le_of_ble_eq_true rfl, Nat.le_of_ble_eq_true rfl⟩) hP hK hT hS 0 3 rfl rfl rfl rfl hl.1 rfl (Nat.le_of_ble_eq_true rfl) dX4_wayOfFirst_42 ⟨Nat.le_of_ble_eq_true rfl, Nat.le_of_ble_eq_true rfl⟩ ?_
      have := c_wy_r w (c_sf w x1 (x2 + (c_wo w x1 x2 (-1))) (-1)) (x2 + (c_wo w x1 x2 (-1)))
      exact W.iret hx hb hr (fun t9 ht9 hW9 => ⟨_, rfl, congrArg zI (show c_wy w (c_sf w x1 (x2 + (c_wo w x1 x2 (-1))) (-1)) (x2 + (c_wo w x1 x2 (-1))) = c_w1 w x1 x2 from by unfold c_w1; rw [if_neg c_1, if_neg c_2]), ht9⟩) hS.2.2 dX4_wayOfFirst_45
    · refine q_iconst hx hb dX4_wayOfFirst_32 ?_
      refine lv_goto (tgt := 45) hx hb dX4_wayOfFirst_33 (by decide) ?_
      exact W.iret hx hb hr (fun t9 ht9 hW9 => ⟨_, rfl, congrArg zI (show (-1) = c_w1 w x1 x2 from by unfold c_w1; rw [if_neg c_1, if_pos c_2]), ht9⟩) hS.2.2 dX4_wayOfFirst_45
  · refine q_iconst hx hb dX4_wayOfFirst_13 ?_
    exact W.iret hx hb hr (fun t9 ht9 hW9 => ⟨_, rfl, congrArg zI (show (-1) = c_w1 w x1 x2 from by unfold c_w1; rw [if_pos c_1]), ht9⟩) hS.2.2 dX4_wayOfFirst_14
set_option maxHeartbeats 4000000 in
set_option maxRecDepth 100000 in
theorem kX4_rideTime (l : Launch) (dC : Nat → ClassId) (dI : Nat → Nat → Nat) (g : Nat → ClassId) (tt : Nat → Nat) (o : Nat) (a : Nat → Nat) (w : Int → Int) (x1 x2 x3 x4 : Int) (hw : hok w) (h1 : 0 ≤ x1 ∧ x1 ≤ w 1) (h2 : 0 ≤ x2 ∧ x2 ≤ w 1) (h3 : 0 ≤ x3 ∧ x3 ≤ 70000) (h4 : -1 ≤ x4 ∧ x4 ≤ 1) : Met l yX4_rideTime wsX4_rideTime ({ frames := 5, cells := 0, slots := 0, locals := 123 }) (va_Pc [.ref o, .int (zI x1), .int (zI x2), .int (zI x3), .int (zI x4)] (eS (dC, dI) (wTy g) (wWa g o a w) tt)) (vp_Si (fun r => r = zI (c_rd w x1 x2 x3 x4))) 0 0 (fun _ => False) := by
  refine Met.ofW (cc := cX4_rideTime) (maxL := 8) (ret := (some .int)) (by decide) rfl ?_
  intro p e s m args below meth c s₁ B hml hv
  obtain ⟨rfl, hP, hK, hT⟩ := hv
  have hx := B.exec
  have hb := B.bytes
  have hr := B.returns
  have hts := atoms_spec (ws := wsX4_rideTime) B.pre
  have hown : s.vm.findClass RX4 = some m.cls := findClass_of_methodNamed B.named
  have hlocks := B.notSynchronized
  have hS : va_S (fun _ : Nat => False) s.heap s.heap [] := va_S.rf
  have hl := lv_entry ([.ref o, .int (zI x1), .int (zI x2), .int (zI x3), .int (zI x4)]) (n := 8) (Nat.le_of_ble_eq_true rfl)
  rw [lg_entry_eq]
  generalize (lg_sl ([.ref o, .int (zI x1), .int (zI x2), .int (zI x3), .int (zI x4)]) ++ List.replicate (8 - (lg_sl ([.ref o, .int (zI x1), .int (zI x2), .int (zI x3), .int (zI x4)])).length) Slot.unset).toArray = ls at hl ⊢
  have hl : lv_has ls 8 [(0, .ref o), (1, .int (zI x1)), (2, .int (zI x2)), (3, .int (zI x3)), (4, .int (zI x4))] := hl
  have hb0 := hw.b
  refine lv_iload_n hx hb dX4_rideTime_0 rfl (lv_at hl 1 rfl) ?_
  refine lv_iload_n hx hb dX4_rideTime_1 rfl (lv_at hl 2 rfl) ?_
  refine q_icmp_ne (tgt := 7) hx hb dX4_rideTime_2 (by decide) (by omega) (fun c_1 => ?_) (fun c_1 => ?_)
  · refine lv_aload_n hx hb dX4_rideTime_7 rfl (lv_at hl 0 rfl) ?_
    refine lv_iload_n hx hb dX4_rideTime_8 rfl (lv_at hl 1 rfl) ?_
    refine lv_iload_n hx hb dX4_rideTime_9 rfl (lv_at hl 3 rfl) ?_
    refine lv_iload hx hb dX4_rideTime_10 (lv_at hl 4 rfl) ?_
    refine q_cVi (z := c_wo w x1 x3 x4) (b := o) (As := [.int (zI x1), .int (zI x3), .int (zI x4)]) (rest := []) ⟨hx, hb, hml, hown, hts⟩ (kX4_waitOn l dC dI g tt o a w x1 x3 x4 (hw) (by omega) (by omega) (by omega)) (cwV 3 hts gX4_rideTime_X4_waitOn rfl rfl rfl (by decide +kernel) ⟨Nat.le_of_ble_eq_true rfl, Nat.le_of_ble_eq_true rfl⟩) hP hK hT hS 0 3 rfl rfl rfl rfl hl.1 rfl (Nat.le_of_ble_eq_true rfl) dX4_rideTime_12 ⟨Nat.le_of_ble_eq_true rfl, Nat.le_of_ble_eq_true rfl⟩ ?_
    have := c_wo_r w x1 x3 x4
    refine lv_istore (lv' := [(5, .int (zI (c_wo w x1 x3 x4))), (0, .ref o), (1, .int (zI x1)), (2, .int (zI x2)), (3, .int (zI x3)), (4, .int (zI x4))]) hx hb dX4_rideTime_15 hl (by decide) rfl (fun ls hl => ?_)
    refine lv_iload hx hb dX4_rideTime_17 (lv_at hl 0 rfl) ?_
    refine q_iconst hx hb dX4_rideTime_19 ?_
    refine q_icmp_ne (tgt := 25) hx hb dX4_rideTime_20 (by decide) (by omega) (fun c_2 => ?_) (fun c_2 => ?_)
    · refine lv_aload_n hx hb dX4_rideTime_25 rfl (lv_at hl 1 rfl) ?_
      refine lv_iload_n hx hb dX4_rideTime_26 rfl (lv_at hl 2 rfl) ?_
      refine lv_iload_n hx hb dX4_rideTime_27 rfl (lv_at hl 4 rfl) ?_
      refine lv_iload hx hb dX4_rideTime_28 (lv_at hl 0 rfl) ?_
      refine q_iadd hx hb dX4_rideTime_30 ?_
      refine lv_iload hx hb dX4_rideTime_31 (lv_at hl 5 rfl) ?_
      refine q_cVi (z := c_sf w x1 (x3 + (c_wo w x1 x3 x4)) x4) (b := o) (As := [.int (zI x1), .int (zI (x3 + (c_wo w x1 x3 x4))), .int (zI x4)]) (rest := []) ⟨hx, hb, hml, hown, hts⟩ (kX4_seenFrom l dC dI g tt o a w x1 (x3 + (c_wo w x1 x3 x4)) x4 (hw) (by omega) (by omega) (by omega)) (cwV 3 hts gX4_rideTime_X4_seenFrom rfl rfl rfl (by decide +kernel) ⟨Nat.le_of_ble_eq_true rfl, Nat.le_of_ble_eq_true rfl⟩) hP hK hT hS 0 3 rfl rfl rfl rfl hl.1 rfl (Nat.le_of_ble_eq_true rfl) dX4_rideTime_33 ⟨Nat.le_of_ble_eq_true rfl, Nat.le_of_ble_eq_true rfl⟩ ?_
      have := c_sf_r w x1 (x3 + (c_wo w x1 x3 x4)) x4
      refine lv_istore (lv' := [(6, .int (zI (c_sf w x1 (x3 + (c_wo w x1 x3 x4)) x4))), (5, .int (zI (c_wo w x1 x3 x4))), (0, .ref o), (1, .int (zI x1)), (2, .int (zI x2)), (3, .int (zI x3)), (4, .int (zI x4))]) hx hb dX4_rideTime_36 hl (by decide) rfl (fun ls hl => ?_)
      refine lv_iload hx hb dX4_rideTime_38 (lv_at hl 0 rfl) ?_
      refine q_iconst hx hb dX4_rideTime_40 ?_
      refine q_icmp_ne (tgt := 48) hx hb dX4_rideTime_41 (by decide) (by omega) (fun c_3 => ?_) (fun c_3 => ?_)
      · refine lv_aload_n hx hb dX4_rideTime_48 rfl (lv_at hl 2 rfl) ?_
        refine lv_iload hx hb dX4_rideTime_49 (lv_at hl 0 rfl) ?_
        refine lv_iload_n hx hb dX4_rideTime_51 rfl (lv_at hl 4 rfl) ?_
        refine lv_iload_n hx hb dX4_rideTime_52 rfl (lv_at hl 5 rfl) ?_
        refine lv_iload hx hb dX4_rideTime_53 (lv_at hl 1 rfl) ?_
        refine q_iadd hx hb dX4_rideTime_55 ?_
        refine q_cVi (z := c_wf w (c_sf w x1 (x3 + (c_wo w x1 x3 x4)) x4) x2 (x3 + (c_wo w x1 x3 x4))) (b := o) (As := [.int (zI (c_sf w x1 (x3 + (c_wo w x1 x3 x4)) x4)), .int (zI x2), .int (zI (x3 + (c_wo w x1 x3 x4)))]) (rest := []) ⟨hx, hb, hml, hown, hts⟩ (kX4_waitForLift l dC dI g tt o a w (c_sf w x1 (x3 + (c_wo w x1 x3 x4)) x4) x2 (x3 + (c_wo w x1 x3 x4)) (hw) (by omega) (by omega) (by omega)) (cwV 3 hts gX4_rideTime_X4_waitForLift rfl rfl rfl (by decide +kernel) ⟨Nat.le_of_ble_eq_true rfl, Nat.le_of_ble_eq_true rfl⟩) hP hK hT hS 0 3 rfl rfl rfl rfl hl.1 rfl (Nat.le_of_ble_eq_true rfl) dX4_rideTime_56 ⟨Nat.le_of_ble_eq_true rfl, Nat.le_of_ble_eq_true rfl⟩ ?_
        have := c_wf_r w (c_sf w x1 (x3 + (c_wo w x1 x3 x4)) x4) x2 (x3 + (c_wo w x1 x3 x4))
        refine lv_istore (lv' := [(7, .int (zI (c_wf w (c_sf w x1 (x3 + (c_wo w x1 x3 x4)) x4) x2 (x3 + (c_wo w x1 x3 x4))))), (6, .int (zI (c_sf w x1 (x3 + (c_wo w x1 x3 x4)) x4))), (5, .int (zI (c_wo w x1 x3 x4))), (0, .ref o), (1, .int (zI x1)), (2, .int (zI x2)), (3, .int (zI x3)), (4, .int (zI x4))]) hx hb dX4_rideTime_59 hl (by decide) rfl (fun ls hl => ?_)
        refine lv_iload hx hb dX4_rideTime_61 (lv_at hl 0 rfl) ?_
        refine q_iconst hx hb dX4_rideTime_63 ?_
        refine q_icmp_ne (tgt := 71) hx hb dX4_rideTime_64 (by decide) (by omega) (fun c_4 => ?_) (fun c_4 => ?_)
        · refine lv_iload hx hb dX4_rideTime_71 (lv_at hl 2 rfl) ?_
          refine lv_iload hx hb dX4_rideTime_73 (lv_at hl 0 rfl) ?_
          refine q_iadd hx hb dX4_rideTime_75 ?_
          exact W.iret hx hb hr (fun t9 ht9 hW9 => ⟨_, rfl, congrArg zI (show (c_wo w x1 x3 x4) + (c_wf w (c_sf w x1 (x3 + (c_wo w x1 x3 x4)) x4) x2 (x3 + (c_wo w x1 x3 x4))) = c_rd w x1 x2 x3 x4 from by unfold c_rd; rw [if_neg c_1, if_neg c_2, if_neg c_3, if_neg c_4]), ht9⟩) hS.2.2 dX4_rideTime_76
        · refine q_iconst hx hb dX4_rideTime_67 ?_
          refine lv_goto (tgt := 76) hx hb dX4_rideTime_68 (by decide) ?_
          exact W.iret hx hb hr (fun t9 ht9 hW9 => ⟨_, rfl, congrArg zI (show (-1) = c_rd w x1 x2 x3 x4 from by unfold c_rd; rw [if_neg c_1, if_neg c_2, if_neg c_3, if_pos c_4]), ht9⟩) hS.2.2 dX4_rideTime_76
      · refine q_iconst hx hb dX4_rideTime_44 ?_
        refine lv_goto (tgt := 59) hx hb dX4_rideTime_45 (by decide) ?_
        refine lv_istore (lv' := [(7, .int (zI (-1))), (6, .int (zI (c_sf w x1 (x3 + (c_wo w x1 x3 x4)) x4))), (5, .int (zI (c_wo w x1 x3 x4))), (0, .ref o), (1, .int (zI x1)), (2, .int (zI x2)), (3, .int (zI x3)), (4, .int (zI x4))]) hx hb dX4_rideTime_59 hl (by decide) rfl (fun ls hl => ?_)
        refine lv_iload hx hb dX4_rideTime_61 (lv_at hl 0 rfl) ?_
        refine q_iconst hx hb dX4_rideTime_63 ?_
        refine q_icmp_ne (tgt := 71) hx hb dX4_rideTime_64 (by decide) (by decide) (fun h9 => absurd (by decide) h9) (fun h9 => ?_)
        refine q_iconst hx hb dX4_rideTime_67 ?_
        refine lv_goto (tgt := 76) hx hb dX4_rideTime_68 (by decide) ?_
        exact W.iret hx hb hr (fun t9 ht9 hW9 => ⟨_, rfl, congrArg zI (show (-1) = c_rd w x1 x2 x3 x4 from by unfold c_rd; rw [if_neg c_1, if_neg c_2, if_pos c_3]), ht9⟩) hS.2.2 dX4_rideTime_76
    · refine q_iconst hx hb dX4_rideTime_23 ?_
      exact W.iret hx hb hr (fun t9 ht9 hW9 => ⟨_, rfl, congrArg zI (show (-1) = c_rd w x1 x2 x3 x4 from by unfold c_rd; rw [if_neg c_1, if_pos c_2]), ht9⟩) hS.2.2 dX4_rideTime_24
  · refine q_iconst hx hb dX4_rideTime_5 ?_
    exact W.iret hx hb hr (fun t9 ht9 hW9 => ⟨_, rfl, congrArg zI (show 0 = c_rd w x1 x2 x3 x4 from by unfold c_rd; rw [if_pos c_1]), ht9⟩) hS.2.2 dX4_rideTime_6
