set_option maxHeartbeats 4000000 in
set_option maxRecDepth 100000 in
theorem kX6_roundOf (l : Launch) (dC : Nat → ClassId) (dI : Nat → Nat → Nat) (g : Nat → ClassId) (tt : Nat → Nat) (q : Nat → Nat) (M : Nat → Int → Int) (x1 : Int) (hw : hok (M 1)) (h1 : 0 ≤ x1 ∧ x1 ≤ 5) : Met l yX6_roundOf wsX6_roundOf ({ frames := 0, cells := 0, slots := 0, locals := 0 }) (va_Pc [.ref (q 0), .int (zI x1)] (eS (dC, dI) (wTy g) (wMo g q M) tt)) (vp_Si (fun r => r = zI (c_round x1 (M 1 1)))) 0 0 (fun _ => False) := by
  refine Met.ofW (cc := cX6_roundOf) (maxL := 3) (ret := (some .int)) (by decide) rfl ?_
  intro p e s m args below meth c s₁ B hml hv
  obtain ⟨rfl, hP, hK, hT⟩ := hv
  have hx := B.exec
  have hb := B.bytes
  have hr := B.returns
  have hts := atoms_spec (ws := wsX6_roundOf) B.pre
  have hown : s.vm.findClass RX6 = some m.cls := findClass_of_methodNamed B.named
  have hlocks := B.notSynchronized
  have hS : va_S (fun _ : Nat => False) s.heap s.heap [] := va_S.rf
  have hl := lv_entry ([.ref (q 0), .int (zI x1)]) (n := 3) (Nat.le_of_ble_eq_true rfl)
  rw [lg_entry_eq]
  generalize (lg_sl ([.ref (q 0), .int (zI x1)]) ++ List.replicate (3 - (lg_sl ([.ref (q 0), .int (zI x1)])).length) Slot.unset).toArray = ls at hl ⊢
  have hl : lv_has ls 3 [(0, .ref (q 0)), (1, .int (zI x1))] := hl
  have kf7 := hts (.fieldLink RX6 7 "WrongWayModel" "w" "[I") (by decide +kernel)
  have iX6 := (fun w h => List.mem_cons_of_mem _ (List.mem_append_right _ h) : ∀ w ∈ u_ws RX6 TX6 15, w ∈ wsX6_roundOf)
  have hb0 := hw.b
  refine lv_aload_n hx hb dX6_roundOf_0 rfl (lv_at hl 0 rfl) ?_
  refine va_get (D := (dC, dI)) (ci := 5) (v := .ref (q 1)) (C := RX6) (T := TX6) (N := 15) hx hb hts iX6 hown hK hP 0 rfl rfl 0 (by decide) kf7 (fun _ h9 => h9) rfl dX6_roundOf_1 ?_
  refine q_iconst hx hb dX6_roundOf_4 ?_
  refine q_iald (F := fun k9 => M 1 k9) (v := M 1 1) hx hb hK hP 1 0 rfl rfl (by decide) (by omega) (rfl) dX6_roundOf_5 ?_
  refine lv_istore_n (lv' := [(2, .int (zI (M 1 1))), (0, .ref (q 0)), (1, .int (zI x1))]) hx hb dX6_roundOf_6 rfl hl (by decide) rfl (fun ls hl => ?_)
  refine lv_iload_n hx hb dX6_roundOf_7 rfl (lv_at hl 2 rfl) ?_
  refine q_iconst hx hb dX6_roundOf_8 ?_
  refine q_icmp_ne (tgt := 16) hx hb dX6_roundOf_9 (by decide) (by omega) (fun c_1 => ?_) (fun c_1 => ?_)
  · refine lv_iload_n hx hb dX6_roundOf_16 rfl (lv_at hl 2 rfl) ?_
    refine q_iconst hx hb dX6_roundOf_17 ?_
    refine q_icmp_ne (tgt := 29) hx hb dX6_roundOf_18 (by decide) (by omega) (fun c_2 => ?_) (fun c_2 => ?_)
    · refine lv_iload_n hx hb dX6_roundOf_29 rfl (lv_at hl 2 rfl) ?_
      refine q_iconst hx hb dX6_roundOf_30 ?_
      refine q_icmp_ne (tgt := 43) hx hb dX6_roundOf_31 (by decide) (by omega) (fun c_3 => ?_) (fun c_3 => ?_)
      · refine q_iconst hx hb dX6_roundOf_43 ?_
        refine lv_iload_n hx hb dX6_roundOf_44 rfl (lv_at hl 0 rfl) ?_
        refine q_imul hx hb dX6_roundOf_45 ?_
        exact W.iret hx hb hr (fun t9 ht9 hW9 => ⟨_, rfl, congrArg zI (show 2 * (M 1 1) = c_round x1 (M 1 1) from by rw [← m_round_eq h1]; unfold m_round; (repeat' split) <;> omega), ht9⟩) hS.2.2 dX6_roundOf_46
      · refine q_iconst hx hb dX6_roundOf_34 ?_
        refine lv_iload_n hx hb dX6_roundOf_35 rfl (lv_at hl 0 rfl) ?_
        refine q_imul hx hb dX6_roundOf_36 ?_
        refine q_bipush hx hb dX6_roundOf_37 rfl ?_
        refine q_iadd hx hb dX6_roundOf_39 ?_
        refine lv_goto (tgt := 46) hx hb dX6_roundOf_40 (by decide) ?_
        exact W.iret hx hb hr (fun t9 ht9 hW9 => ⟨_, rfl, congrArg zI (show (2 * (M 1 1)) + 6 = c_round x1 (M 1 1) from by rw [← m_round_eq h1]; unfold m_round; (repeat' split) <;> omega), ht9⟩) hS.2.2 dX6_roundOf_46
    · refine q_iconst hx hb dX6_roundOf_21 ?_
      refine lv_iload_n hx hb dX6_roundOf_22 rfl (lv_at hl 0 rfl) ?_
      refine q_imul hx hb dX6_roundOf_23 ?_
      refine q_iconst hx hb dX6_roundOf_24 ?_
      refine q_iadd hx hb dX6_roundOf_25 ?_
      refine lv_goto (tgt := 46) hx hb dX6_roundOf_26 (by decide) ?_
      exact W.iret hx hb hr (fun t9 ht9 hW9 => ⟨_, rfl, congrArg zI (show (2 * (M 1 1)) + 4 = c_round x1 (M 1 1) from by rw [← m_round_eq h1]; unfold m_round; (repeat' split) <;> omega), ht9⟩) hS.2.2 dX6_roundOf_46
  · refine lv_iload_n hx hb dX6_roundOf_12 rfl (lv_at hl 0 rfl) ?_
    refine lv_goto (tgt := 46) hx hb dX6_roundOf_13 (by decide) ?_
    exact W.iret hx hb hr (fun t9 ht9 hW9 => ⟨_, rfl, congrArg zI (show M 1 1 = c_round x1 (M 1 1) from by rw [← m_round_eq h1]; unfold m_round; (repeat' split) <;> omega), ht9⟩) hS.2.2 dX6_roundOf_46
set_option maxHeartbeats 4000000 in
set_option maxRecDepth 100000 in
theorem kX6_plain (l : Launch) (dC : Nat → ClassId) (dI : Nat → Nat → Nat) (g : Nat → ClassId) (tt : Nat → Nat) (q : Nat → Nat) (M : Nat → Int → Int) (x1 : Int) (hw : hok (M 1)) (h1 : 0 ≤ x1 ∧ x1 ≤ 100) : Met l yX6_plain wsX6_plain ({ frames := 0, cells := 0, slots := 0, locals := 0 }) (va_Pc [.ref (q 0), .int (zI x1)] (eS (dC, dI) (wTy g) (wMo g q M) tt)) (vp_Si (fun r => r = zI (m_plain (M 1) x1))) 0 0 (fun _ => False) := by
  refine Met.ofW (cc := cX6_plain) (maxL := 3) (ret := (some .int)) (by decide) rfl ?_
  intro p e s m args below meth c s₁ B hml hv
  obtain ⟨rfl, hP, hK, hT⟩ := hv
  have hx := B.exec
  have hb := B.bytes
  have hr := B.returns
  have hts := atoms_spec (ws := wsX6_plain) B.pre
  have hown : s.vm.findClass RX6 = some m.cls := findClass_of_methodNamed B.named
  have hlocks := B.notSynchronized
  have hS : va_S (fun _ : Nat => False) s.heap s.heap [] := va_S.rf
  have hl := lv_entry ([.ref (q 0), .int (zI x1)]) (n := 3) (Nat.le_of_ble_eq_true rfl)
  rw [lg_entry_eq]
  generalize (lg_sl ([.ref (q 0), .int (zI x1)]) ++ List.replicate (3 - (lg_sl ([.ref (q 0), .int (zI x1)])).length) Slot.unset).toArray = ls at hl ⊢
  have hl : lv_has ls 3 [(0, .ref (q 0)), (1, .int (zI x1))] := hl
  have kf7 := hts (.fieldLink RX6 7 "WrongWayModel" "w" "[I") (by decide +kernel)
  have iX6 := (fun w h => List.mem_cons_of_mem _ (List.mem_append_right _ h) : ∀ w ∈ u_ws RX6 TX6 15, w ∈ wsX6_plain)
  have hb0 := hw.b
  refine lv_aload_n hx hb dX6_plain_0 rfl (lv_at hl 0 rfl) ?_
  refine va_get (D := (dC, dI)) (ci := 5) (v := .ref (q 1)) (C := RX6) (T := TX6) (N := 15) hx hb hts iX6 hown hK hP 0 rfl rfl 0 (by decide) kf7 (fun _ h9 => h9) rfl dX6_plain_1 ?_
  refine q_iconst hx hb dX6_plain_4 ?_
  refine q_iald (F := fun k9 => M 1 k9) (v := M 1 1) hx hb hK hP 1 0 rfl rfl (by decide) (by omega) (rfl) dX6_plain_5 ?_
  refine lv_istore_n (lv' := [(2, .int (zI (M 1 1))), (0, .ref (q 0)), (1, .int (zI x1))]) hx hb dX6_plain_6 rfl hl (by decide) rfl (fun ls hl => ?_)
  refine lv_iload_n hx hb dX6_plain_7 rfl (lv_at hl 2 rfl) ?_
  refine lv_iload_n hx hb dX6_plain_8 rfl (lv_at hl 0 rfl) ?_
  refine q_icmp_gt (tgt := 16) hx hb dX6_plain_9 (by decide) (by omega) (fun c_1 => ?_) (fun c_1 => ?_)
  · refine q_iconst hx hb dX6_plain_16 ?_
    refine lv_iload_n hx hb dX6_plain_17 rfl (lv_at hl 0 rfl) ?_
    refine q_imul hx hb dX6_plain_18 ?_
    refine lv_iload_n hx hb dX6_plain_19 rfl (lv_at hl 2 rfl) ?_
    refine q_isub hx hb dX6_plain_20 ?_
    exact W.iret hx hb hr (fun t9 ht9 hW9 => ⟨_, rfl, congrArg zI (show (2 * (M 1 1)) - x1 = m_plain (M 1) x1 from by unfold m_plain; (repeat' split) <;> omega), ht9⟩) hS.2.2 dX6_plain_21
  · refine lv_iload_n hx hb dX6_plain_12 rfl (lv_at hl 2 rfl) ?_
    refine lv_goto (tgt := 21) hx hb dX6_plain_13 (by decide) ?_
    exact W.iret hx hb hr (fun t9 ht9 hW9 => ⟨_, rfl, congrArg zI (show x1 = m_plain (M 1) x1 from by unfold m_plain; (repeat' split) <;> omega), ht9⟩) hS.2.2 dX6_plain_21
set_option maxHeartbeats 4000000 in
set_option maxRecDepth 100000 in
theorem kX6_rests (l : Launch) (dC : Nat → ClassId) (dI : Nat → Nat → Nat) (g : Nat → ClassId) (tt : Nat → Nat) (q : Nat → Nat) (M : Nat → Int → Int) (x1 : Int) (hw : hok (M 1)) (h1 : 0 ≤ x1 ∧ x1 ≤ 100) : Met l yX6_rests wsX6_rests ({ frames := 1, cells := 0, slots := 0, locals := 22 }) (va_Pc [.ref (q 0), .int (zI x1)] (eS (dC, dI) (wTy g) (wMo g q M) tt)) (vp_Si (fun r => r = zI (m_rests (M 1) x1))) 0 0 (fun _ => False) := by
  refine Met.ofW (cc := cX6_rests) (maxL := 2) (ret := (some .int)) (by decide) rfl ?_
  intro p e s m args below meth c s₁ B hml hv
  obtain ⟨rfl, hP, hK, hT⟩ := hv
  have hx := B.exec
  have hb := B.bytes
  have hr := B.returns
  have hts := atoms_spec (ws := wsX6_rests) B.pre
  have hown : s.vm.findClass RX6 = some m.cls := findClass_of_methodNamed B.named
  have hlocks := B.notSynchronized
  have hS : va_S (fun _ : Nat => False) s.heap s.heap [] := va_S.rf
  have hl := lv_entry ([.ref (q 0), .int (zI x1)]) (n := 2) (Nat.le_of_ble_eq_true rfl)
  rw [lg_entry_eq]
  generalize (lg_sl ([.ref (q 0), .int (zI x1)]) ++ List.replicate (2 - (lg_sl ([.ref (q 0), .int (zI x1)])).length) Slot.unset).toArray = ls at hl ⊢
  have hl : lv_has ls 2 [(0, .ref (q 0)), (1, .int (zI x1))] := hl
  have kf7 := hts (.fieldLink RX6 7 "WrongWayModel" "w" "[I") (by decide +kernel)
  have iX6 := (fun w h => List.mem_cons_of_mem _ (List.mem_append_right _ h) : ∀ w ∈ u_ws RX6 TX6 15, w ∈ wsX6_rests)
  have hb0 := hw.b
  refine lv_iload_n hx hb dX6_rests_0 rfl (lv_at hl 1 rfl) ?_
  refine q_iconst hx hb dX6_rests_1 ?_
  refine lv_aload_n hx hb dX6_rests_2 rfl (lv_at hl 0 rfl) ?_
  refine va_get (D := (dC, dI)) (ci := 5) (v := .ref (q 1)) (C := RX6) (T := TX6) (N := 15) hx hb hts iX6 hown hK hP 0 rfl rfl 0 (by decide) kf7 (fun _ h9 => h9) rfl dX6_rests_3 ?_
  refine q_iconst hx hb dX6_rests_6 ?_
  refine q_iald (F := fun k9 => M 1 k9) (v := M 1 1) hx hb hK hP 1 0 rfl rfl (by decide) (by omega) (rfl) dX6_rests_7 ?_
  refine q_imul hx hb dX6_rests_8 ?_
  refine q_icmp_lt (tgt := 16) hx hb dX6_rests_9 (by decide) (by omega) (fun c_1 => ?_) (fun c_1 => ?_)
  · refine lv_aload_n hx hb dX6_rests_16 rfl (lv_at hl 0 rfl) ?_
    refine lv_iload_n hx hb dX6_rests_17 rfl (lv_at hl 1 rfl) ?_
    refine q_cVi (z := m_plain (M 1) x1) (b := (q 0)) (As := [.int (zI x1)]) (rest := []) ⟨hx, hb, hml, hown, hts⟩ (kX6_plain l dC dI g tt q M x1 (hw) (by omega)) (cwV 1 hts gX6_rests_X6_plain rfl rfl rfl (by decide +kernel) ⟨Nat.le_of_ble_eq_true rfl, Nat.le_of_ble_eq_true rfl⟩) hP hK hT hS 0 5 rfl rfl rfl rfl hl.1 rfl (Nat.le_of_ble_eq_true rfl) dX6_rests_18 ⟨Nat.le_of_ble_eq_true rfl, Nat.le_of_ble_eq_true rfl⟩ ?_
    exact W.iret hx hb hr (fun t9 ht9 hW9 => ⟨_, rfl, congrArg zI (show m_plain (M 1) x1 = m_rests (M 1) x1 from by unfold m_rests; (repeat' split) <;> first | rfl | omega), ht9⟩) hS.2.2 dX6_rests_21
  · refine q_iconst hx hb dX6_rests_12 ?_
    refine lv_goto (tgt := 21) hx hb dX6_rests_13 (by decide) ?_
    exact W.iret hx hb hr (fun t9 ht9 hW9 => ⟨_, rfl, congrArg zI (show 0 = m_rests (M 1) x1 from by unfold m_rests; (repeat' split) <;> first | rfl | omega), ht9⟩) hS.2.2 dX6_rests_21
set_option maxHeartbeats 4000000 in
set_option maxRecDepth 100000 in
theorem kX6_floorOf (l : Launch) (dC : Nat → ClassId) (dI : Nat → Nat → Nat) (g : Nat → ClassId) (tt : Nat → Nat) (q : Nat → Nat) (M : Nat → Int → Int) (x1 x2 x3 : Int) (hw : hok (M 1)) (h1 : 0 ≤ x1 ∧ x1 ≤ 5) (h2 : 0 ≤ x2 ∧ x2 ≤ 99) (h3 : 0 ≤ x3 ∧ x3 ≤ 100000) : Met l yX6_floorOf wsX6_floorOf ({ frames := 2, cells := 0, slots := 0, locals := 43 }) (va_Pc [.ref (q 0), .int (zI x1), .int (zI x2), .int (zI x3)] (eS (dC, dI) (wTy g) (wMo g q M) tt)) (vp_Si (fun r => r = zI (c_floor x1 (M 1 1) x2 x3))) 0 0 (fun _ => False) := by
  refine Met.ofW (cc := cX6_floorOf) (maxL := 6) (ret := (some .int)) (by decide) rfl ?_
  intro p e s m args below meth c s₁ B hml hv
  obtain ⟨rfl, hP, hK, hT⟩ := hv
  have hx := B.exec
  have hb := B.bytes
  have hr := B.returns
  have hts := atoms_spec (ws := wsX6_floorOf) B.pre
  have hown : s.vm.findClass RX6 = some m.cls := findClass_of_methodNamed B.named
  have hlocks := B.notSynchronized
  have hS : va_S (fun _ : Nat => False) s.heap s.heap [] := va_S.rf
  have hl := lv_entry ([.ref (q 0), .int (zI x1), .int (zI x2), .int (zI x3)]) (n := 6) (Nat.le_of_ble_eq_true rfl)
  rw [lg_entry_eq]
  generalize (lg_sl ([.ref (q 0), .int (zI x1), .int (zI x2), .int (zI x3)]) ++ List.replicate (6 - (lg_sl ([.ref (q 0), .int (zI x1), .int (zI x2), .int (zI x3)])).length) Slot.unset).toArray = ls at hl ⊢
  have hl : lv_has ls 6 [(0, .ref (q 0)), (1, .int (zI x1)), (2, .int (zI x2)), (3, .int (zI x3))] := hl
  have kf7 := hts (.fieldLink RX6 7 "WrongWayModel" "w" "[I") (by decide +kernel)
  have iX6 := (fun w h => List.mem_cons_of_mem _ (List.mem_append_right _ h) : ∀ w ∈ u_ws RX6 TX6 15, w ∈ wsX6_floorOf)
  have hb0 := hw.b
  refine lv_aload_n hx hb dX6_floorOf_0 rfl (lv_at hl 0 rfl) ?_
  refine va_get (D := (dC, dI)) (ci := 5) (v := .ref (q 1)) (C := RX6) (T := TX6) (N := 15) hx hb hts iX6 hown hK hP 0 rfl rfl 0 (by decide) kf7 (fun _ h9 => h9) rfl dX6_floorOf_1 ?_
  refine q_iconst hx hb dX6_floorOf_4 ?_
  refine q_iald (F := fun k9 => M 1 k9) (v := M 1 1) hx hb hK hP 1 0 rfl rfl (by decide) (by omega) (rfl) dX6_floorOf_5 ?_
  refine lv_istore (lv' := [(4, .int (zI (M 1 1))), (0, .ref (q 0)), (1, .int (zI x1)), (2, .int (zI x2)), (3, .int (zI x3))]) hx hb dX6_floorOf_6 hl (by decide) rfl (fun ls hl => ?_)
  refine lv_iload_n hx hb dX6_floorOf_8 rfl (lv_at hl 4 rfl) ?_
  refine lv_iload_n hx hb dX6_floorOf_9 rfl (lv_at hl 3 rfl) ?_
  refine q_iadd hx hb dX6_floorOf_10 ?_
  refine lv_aload_n hx hb dX6_floorOf_11 rfl (lv_at hl 1 rfl) ?_
  refine lv_iload_n hx hb dX6_floorOf_12 rfl (lv_at hl 2 rfl) ?_
  refine q_cVi (z := c_round x1 (M 1 1)) (b := (q 0)) (As := [.int (zI x1)]) (rest := [.int (zI (x3 + x2))]) ⟨hx, hb, hml, hown, hts⟩ (kX6_roundOf l dC dI g tt q M x1 (hw) (by omega)) (cwV 1 hts gX6_floorOf_X6_roundOf rfl rfl rfl (by decide +kernel) ⟨Nat.le_of_ble_eq_true rfl, Nat.le_of_ble_eq_true rfl⟩) hP hK hT hS 0 5 rfl rfl rfl rfl hl.1 rfl (Nat.le_of_ble_eq_true rfl) dX6_floorOf_13 ⟨Nat.le_of_ble_eq_true rfl, Nat.le_of_ble_eq_true rfl⟩ ?_
  have := c_round_r x1 (t := M 1 1) (by omega)
  refine q_irem hx hb dX6_floorOf_16 (by omega) ?_
  have hm := Int.emod_nonneg (x3 + x2) (show c_round x1 (M 1 1) ≠ 0 by omega)
  have hm2 := Int.emod_lt_of_pos (x3 + x2) (show 0 < c_round x1 (M 1 1) by omega)
  refine lv_istore (lv' := [(5, .int (zI ((x3 + x2) % (c_round x1 (M 1 1))))), (4, .int (zI (M 1 1))), (0, .ref (q 0)), (1, .int (zI x1)), (2, .int (zI x2)), (3, .int (zI x3))]) hx hb dX6_floorOf_17 hl (by decide) rfl (fun ls hl => ?_)
  refine lv_iload_n hx hb dX6_floorOf_19 rfl (lv_at hl 3 rfl) ?_
  rcases (show x1 = 1 ∨ x1 = 2 ∨ x1 = 3 ∨ x1 = 4 ∨ (x1 < 1 ∨ 4 < x1) from by omega) with c_1 | c_1 | c_1 | c_1 | c_1
  · refine q_tabIn (off := 32) (tgt := 52) (j := 1) hx hb dX6_floorOf_20 c_1 (by decide) (by decide) (by decide) (by decide) (by decide) ?_
    refine lv_aload_n hx hb dX6_floorOf_52 rfl (lv_at hl 2 rfl) ?_
    refine q_iconst hx hb dX6_floorOf_53 ?_
    refine lv_iload hx hb dX6_floorOf_54 (lv_at hl 0 rfl) ?_
    refine q_imul hx hb dX6_floorOf_56 ?_
    refine q_cVi (z := m_plain (M 1) (2 * ((x3 + x2) % (c_round x1 (M 1 1))))) (b := (q 0)) (As := [.int (zI (2 * ((x3 + x2) % (c_round x1 (M 1 1)))))]) (rest := []) ⟨hx, hb, hml, hown, hts⟩ (kX6_plain l dC dI g tt q M (2 * ((x3 + x2) % (c_round x1 (M 1 1)))) (hw) (by omega)) (cwV 1 hts gX6_floorOf_X6_plain rfl rfl rfl (by decide +kernel) ⟨Nat.le_of_ble_eq_true rfl, Nat.le_of_ble_eq_true rfl⟩) hP hK hT hS 0 5 rfl rfl rfl rfl hl.1 rfl (Nat.le_of_ble_eq_true rfl) dX6_floorOf_57 ⟨Nat.le_of_ble_eq_true rfl, Nat.le_of_ble_eq_true rfl⟩ ?_
    exact W.iret hx hb hr (fun t9 ht9 hW9 => ⟨_, rfl, congrArg zI (show m_plain (M 1) (2 * ((x3 + x2) % (c_round x1 (M 1 1)))) = c_floor x1 (M 1 1) x2 x3 from by rw [c_floor_u (by omega), m_fl_eq h1 (by omega) ⟨hm, hm2⟩]; (repeat' split) <;> first | rfl | (exfalso; omega)), ht9⟩) hS.2.2 dX6_floorOf_60
  · refine q_tabIn (off := 41) (tgt := 61) (j := 2) hx hb dX6_floorOf_20 c_1 (by decide) (by decide) (by decide) (by decide) (by decide) ?_
    refine lv_aload_n hx hb dX6_floorOf_61 rfl (lv_at hl 2 rfl) ?_
    refine lv_iload hx hb dX6_floorOf_62 (lv_at hl 0 rfl) ?_
    refine q_cVi (z := m_rests (M 1) ((x3 + x2) % (c_round x1 (M 1 1)))) (b := (q 0)) (As := [.int (zI ((x3 + x2) % (c_round x1 (M 1 1))))]) (rest := []) ⟨hx, hb, hml, hown, hts⟩ (kX6_rests l dC dI g tt q M ((x3 + x2) % (c_round x1 (M 1 1))) (hw) (by omega)) (cwV 1 hts gX6_floorOf_X6_rests rfl rfl rfl (by decide +kernel) ⟨Nat.le_of_ble_eq_true rfl, Nat.le_of_ble_eq_true rfl⟩) hP hK hT hS 0 5 rfl rfl rfl rfl hl.1 rfl (Nat.le_of_ble_eq_true rfl) dX6_floorOf_64 ⟨Nat.le_of_ble_eq_true rfl, Nat.le_of_ble_eq_true rfl⟩ ?_
    exact W.iret hx hb hr (fun t9 ht9 hW9 => ⟨_, rfl, congrArg zI (show m_rests (M 1) ((x3 + x2) % (c_round x1 (M 1 1))) = c_floor x1 (M 1 1) x2 x3 from by rw [c_floor_u (by omega), m_fl_eq h1 (by omega) ⟨hm, hm2⟩]; (repeat' split) <;> first | rfl | (exfalso; omega)), ht9⟩) hS.2.2 dX6_floorOf_67
  · refine q_tabIn (off := 98) (tgt := 118) (j := 3) hx hb dX6_floorOf_20 c_1 (by decide) (by decide) (by decide) (by decide) (by decide) ?_
    refine lv_aload_n hx hb dX6_floorOf_118 rfl (lv_at hl 2 rfl) ?_
    refine lv_iload hx hb dX6_floorOf_119 (lv_at hl 0 rfl) ?_
    refine q_cVi (z := m_plain (M 1) ((x3 + x2) % (c_round x1 (M 1 1)))) (b := (q 0)) (As := [.int (zI ((x3 + x2) % (c_round x1 (M 1 1))))]) (rest := []) ⟨hx, hb, hml, hown, hts⟩ (kX6_plain l dC dI g tt q M ((x3 + x2) % (c_round x1 (M 1 1))) (hw) (by omega)) (cwV 1 hts gX6_floorOf_X6_plain rfl rfl rfl (by decide +kernel) ⟨Nat.le_of_ble_eq_true rfl, Nat.le_of_ble_eq_true rfl⟩) hP hK hT hS 0 5 rfl rfl rfl rfl hl.1 rfl (Nat.le_of_ble_eq_true rfl) dX6_floorOf_121 ⟨Nat.le_of_ble_eq_true rfl, Nat.le_of_ble_eq_true rfl⟩ ?_
    exact W.iret hx hb hr (fun t9 ht9 hW9 => ⟨_, rfl, congrArg zI (show m_plain (M 1) ((x3 + x2) % (c_round x1 (M 1 1))) = c_floor x1 (M 1 1) x2 x3 from by rw [c_floor_u (by omega), m_fl_eq h1 (by omega) ⟨hm, hm2⟩]; (repeat' split) <;> first | rfl | (exfalso; omega)), ht9⟩) hS.2.2 dX6_floorOf_124
  · refine q_tabIn (off := 48) (tgt := 68) (j := 4) hx hb dX6_floorOf_20 c_1 (by decide) (by decide) (by decide) (by decide) (by decide) ?_
    refine lv_iload hx hb dX6_floorOf_68 (lv_at hl 0 rfl) ?_
    refine lv_iload hx hb dX6_floorOf_70 (lv_at hl 1 rfl) ?_
    refine q_iconst hx hb dX6_floorOf_72 ?_
    refine q_iadd hx hb dX6_floorOf_73 ?_
    refine q_icmp_eq (tgt := 86) hx hb dX6_floorOf_74 (by decide) (by omega) (fun c_2 => ?_) (fun c_2 => ?_)
    · refine lv_iload hx hb dX6_floorOf_86 (lv_at hl 1 rfl) ?_
      refine lv_goto (tgt := 117) hx hb dX6_floorOf_88 (by decide) ?_
      exact W.iret hx hb hr (fun t9 ht9 hW9 => ⟨_, rfl, congrArg zI (show M 1 1 = c_floor x1 (M 1 1) x2 x3 from by rw [c_floor_u (by omega), m_fl_eq h1 (by omega) ⟨hm, hm2⟩]; (repeat' split) <;> first | rfl | (exfalso; omega)), ht9⟩) hS.2.2 dX6_floorOf_117
    · refine lv_iload hx hb dX6_floorOf_77 (lv_at hl 0 rfl) ?_
      refine lv_iload hx hb dX6_floorOf_79 (lv_at hl 1 rfl) ?_
      refine q_iconst hx hb dX6_floorOf_81 ?_
      refine q_iadd hx hb dX6_floorOf_82 ?_
      refine q_icmp_ne (tgt := 91) hx hb dX6_floorOf_83 (by decide) (by omega) (fun c_3 => ?_) (fun c_3 => ?_)
      · refine lv_iload hx hb dX6_floorOf_91 (lv_at hl 0 rfl) ?_
        refine lv_iload hx hb dX6_floorOf_93 (lv_at hl 1 rfl) ?_
        refine q_iconst hx hb dX6_floorOf_95 ?_
        refine q_iadd hx hb dX6_floorOf_96 ?_
        refine q_icmp_le (tgt := 111) hx hb dX6_floorOf_97 (by decide) (by omega) (fun c_4 => ?_) (fun c_4 => ?_)
        · refine lv_aload_n hx hb dX6_floorOf_111 rfl (lv_at hl 2 rfl) ?_
          refine lv_iload hx hb dX6_floorOf_112 (lv_at hl 0 rfl) ?_
          refine q_cVi (z := m_rests (M 1) ((x3 + x2) % (c_round x1 (M 1 1)))) (b := (q 0)) (As := [.int (zI ((x3 + x2) % (c_round x1 (M 1 1))))]) (rest := []) ⟨hx, hb, hml, hown, hts⟩ (kX6_rests l dC dI g tt q M ((x3 + x2) % (c_round x1 (M 1 1))) (hw) (by omega)) (cwV 1 hts gX6_floorOf_X6_rests rfl rfl rfl (by decide +kernel) ⟨Nat.le_of_ble_eq_true rfl, Nat.le_of_ble_eq_true rfl⟩) hP hK hT hS 0 5 rfl rfl rfl rfl hl.1 rfl (Nat.le_of_ble_eq_true rfl) dX6_floorOf_114 ⟨Nat.le_of_ble_eq_true rfl, Nat.le_of_ble_eq_true rfl⟩ ?_
          exact W.iret hx hb hr (fun t9 ht9 hW9 => ⟨_, rfl, congrArg zI (show m_rests (M 1) ((x3 + x2) % (c_round x1 (M 1 1))) = c_floor x1 (M 1 1) x2 x3 from by rw [c_floor_u (by omega), m_fl_eq h1 (by omega) ⟨hm, hm2⟩]; (repeat' split) <;> first | rfl | (exfalso; omega)), ht9⟩) hS.2.2 dX6_floorOf_117
        · refine lv_aload_n hx hb dX6_floorOf_100 rfl (lv_at hl 2 rfl) ?_
          refine lv_iload hx hb dX6_floorOf_101 (lv_at hl 0 rfl) ?_
          refine q_iconst hx hb dX6_floorOf_103 ?_
          refine q_isub hx hb dX6_floorOf_104 ?_
          refine q_cVi (z := m_rests (M 1) (((x3 + x2) % (c_round x1 (M 1 1))) - 2)) (b := (q 0)) (As := [.int (zI (((x3 + x2) % (c_round x1 (M 1 1))) - 2))]) (rest := []) ⟨hx, hb, hml, hown, hts⟩ (kX6_rests l dC dI g tt q M (((x3 + x2) % (c_round x1 (M 1 1))) - 2) (hw) (by omega)) (cwV 1 hts gX6_floorOf_X6_rests rfl rfl rfl (by decide +kernel) ⟨Nat.le_of_ble_eq_true rfl, Nat.le_of_ble_eq_true rfl⟩) hP hK hT hS 0 5 rfl rfl rfl rfl hl.1 rfl (Nat.le_of_ble_eq_true rfl) dX6_floorOf_105 ⟨Nat.le_of_ble_eq_true rfl, Nat.le_of_ble_eq_true rfl⟩ ?_
          refine lv_goto (tgt := 117) hx hb dX6_floorOf_108 (by decide) ?_
          exact W.iret hx hb hr (fun t9 ht9 hW9 => ⟨_, rfl, congrArg zI (show m_rests (M 1) (((x3 + x2) % (c_round x1 (M 1 1))) - 2) = c_floor x1 (M 1 1) x2 x3 from by rw [c_floor_u (by omega), m_fl_eq h1 (by omega) ⟨hm, hm2⟩]; (repeat' split) <;> first | rfl | (exfalso; omega)), ht9⟩) hS.2.2 dX6_floorOf_117
      · refine lv_iload hx hb dX6_floorOf_86 (lv_at hl 1 rfl) ?_
        refine lv_goto (tgt := 117) hx hb dX6_floorOf_88 (by decide) ?_
        exact W.iret hx hb hr (fun t9 ht9 hW9 => ⟨_, rfl, congrArg zI (show M 1 1 = c_floor x1 (M 1 1) x2 x3 from by rw [c_floor_u (by omega), m_fl_eq h1 (by omega) ⟨hm, hm2⟩]; (repeat' split) <;> first | rfl | (exfalso; omega)), ht9⟩) hS.2.2 dX6_floorOf_117
  · refine q_tabOut (tgt := 118) hx hb dX6_floorOf_20 (by omega) c_1 (by decide) ?_
    refine lv_aload_n hx hb dX6_floorOf_118 rfl (lv_at hl 2 rfl) ?_
    refine lv_iload hx hb dX6_floorOf_119 (lv_at hl 0 rfl) ?_
    refine q_cVi (z := m_plain (M 1) ((x3 + x2) % (c_round x1 (M 1 1)))) (b := (q 0)) (As := [.int (zI ((x3 + x2) % (c_round x1 (M 1 1))))]) (rest := []) ⟨hx, hb, hml, hown, hts⟩ (kX6_plain l dC dI g tt q M ((x3 + x2) % (c_round x1 (M 1 1))) (hw) (by omega)) (cwV 1 hts gX6_floorOf_X6_plain rfl rfl rfl (by decide +kernel) ⟨Nat.le_of_ble_eq_true rfl, Nat.le_of_ble_eq_true rfl⟩) hP hK hT hS 0 5 rfl rfl rfl rfl hl.1 rfl (Nat.le_of_ble_eq_true rfl) dX6_floorOf_121 ⟨Nat.le_of_ble_eq_true rfl, Nat.le_of_ble_eq_true rfl⟩ ?_
    exact W.iret hx hb hr (fun t9 ht9 hW9 => ⟨_, rfl, congrArg zI (show m_plain (M 1) ((x3 + x2) % (c_round x1 (M 1 1))) = c_floor x1 (M 1 1) x2 x3 from by rw [c_floor_u (by omega), m_fl_eq h1 (by omega) ⟨hm, hm2⟩]; (repeat' split) <;> first | rfl | (exfalso; omega)), ht9⟩) hS.2.2 dX6_floorOf_124
set_option maxHeartbeats 4000000 in
set_option maxRecDepth 100000 in
theorem kX6_floorIn (l : Launch) (dC : Nat → ClassId) (dI : Nat → Nat → Nat) (g : Nat → ClassId) (tt : Nat → Nat) (q : Nat → Nat) (M : Nat → Int → Int) (x1 x2 : Int) (hw : hok (M 1)) (h1 : 0 ≤ x1 ∧ x1 < M 1 0) (h2 : 0 ≤ x2 ∧ x2 ≤ 95000) : Met l yX6_floorIn wsX6_floorIn ({ frames := 3, cells := 0, slots := 0, locals := 68 }) (va_Pc [.ref (q 0), .int (zI x1), .int (zI x2)] (eS (dC, dI) (wTy g) (wMo g q M) tt)) (vp_Si (fun r => r = zI (c_floor (M 1 (5 + x1)) (M 1 1) (M 1 (9 + x1)) x2))) 0 0 (fun _ => False) := by
  refine Met.ofW (cc := cX6_floorIn) (maxL := 3) (ret := (some .int)) (by decide) rfl ?_
  intro p e s m args below meth c s₁ B hml hv
  obtain ⟨rfl, hP, hK, hT⟩ := hv
  have hx := B.exec
  have hb := B.bytes
  have hr := B.returns
  have hts := atoms_spec (ws := wsX6_floorIn) B.pre
  have hown : s.vm.findClass RX6 = some m.cls := findClass_of_methodNamed B.named
  have hlocks := B.notSynchronized
  have hS : va_S (fun _ : Nat => False) s.heap s.heap [] := va_S.rf
  have hl := lv_entry ([.ref (q 0), .int (zI x1), .int (zI x2)]) (n := 3) (Nat.le_of_ble_eq_true rfl)
  rw [lg_entry_eq]
  generalize (lg_sl ([.ref (q 0), .int (zI x1), .int (zI x2)]) ++ List.replicate (3 - (lg_sl ([.ref (q 0), .int (zI x1), .int (zI x2)])).length) Slot.unset).toArray = ls at hl ⊢
  have hl : lv_has ls 3 [(0, .ref (q 0)), (1, .int (zI x1)), (2, .int (zI x2))] := hl
  have kf7 := hts (.fieldLink RX6 7 "WrongWayModel" "w" "[I") (by decide +kernel)
  have iX6 := (fun w h => List.mem_cons_of_mem _ (List.mem_append_right _ h) : ∀ w ∈ u_ws RX6 TX6 15, w ∈ wsX6_floorIn)
  have hb0 := hw.b
  have hk0 := hw.k h1.1 h1.2
  refine lv_aload_n hx hb dX6_floorIn_0 rfl (lv_at hl 0 rfl) ?_
  refine lv_aload_n hx hb dX6_floorIn_1 rfl (lv_at hl 0 rfl) ?_
  refine va_get (D := (dC, dI)) (ci := 5) (v := .ref (q 1)) (C := RX6) (T := TX6) (N := 15) hx hb hts iX6 hown hK hP 0 rfl rfl 0 (by decide) kf7 (fun _ h9 => h9) rfl dX6_floorIn_2 ?_
  refine q_iconst hx hb dX6_floorIn_5 ?_
  refine lv_iload_n hx hb dX6_floorIn_6 rfl (lv_at hl 1 rfl) ?_
  refine q_iadd hx hb dX6_floorIn_7 ?_
  refine q_iald (F := fun k9 => M 1 k9) (v := M 1 (5 + x1)) hx hb hK hP 1 0 rfl rfl (by decide) (by omega) (rfl) dX6_floorIn_8 ?_
  refine lv_aload_n hx hb dX6_floorIn_9 rfl (lv_at hl 0 rfl) ?_
  refine va_get (D := (dC, dI)) (ci := 5) (v := .ref (q 1)) (C := RX6) (T := TX6) (N := 15) hx hb hts iX6 hown hK hP 0 rfl rfl 0 (by decide) kf7 (fun _ h9 => h9) rfl dX6_floorIn_10 ?_
  refine q_bipush hx hb dX6_floorIn_13 rfl ?_
  refine lv_iload_n hx hb dX6_floorIn_15 rfl (lv_at hl 1 rfl) ?_
  refine q_iadd hx hb dX6_floorIn_16 ?_
  refine q_iald (F := fun k9 => M 1 k9) (v := M 1 (9 + x1)) hx hb hK hP 1 0 rfl rfl (by decide) (by omega) (rfl) dX6_floorIn_17 ?_
  refine lv_iload_n hx hb dX6_floorIn_18 rfl (lv_at hl 2 rfl) ?_
  refine q_cVi (z := c_floor (M 1 (5 + x1)) (M 1 1) (M 1 (9 + x1)) x2) (b := (q 0)) (As := [.int (zI (M 1 (5 + x1))), .int (zI (M 1 (9 + x1))), .int (zI x2)]) (rest := []) ⟨hx, hb, hml, hown, hts⟩ (kX6_floorOf l dC dI g tt q M (M 1 (5 + x1)) (M 1 (9 + x1)) x2 (hw) (by omega) (by omega) (by omega)) (cwV 3 hts gX6_floorIn_X6_floorOf rfl rfl rfl (by decide +kernel) ⟨Nat.le_of_ble_eq_true rfl, Nat.le_of_ble_eq_true rfl⟩) hP hK hT hS 0 5 rfl rfl rfl rfl hl.1 rfl (Nat.le_of_ble_eq_true rfl) dX6_floorIn_19 ⟨Nat.le_of_ble_eq_true rfl, Nat.le_of_ble_eq_true rfl⟩ ?_
  have := c_floor_r (M 1 (5 + x1)) (t := M 1 1) (b := (M 1 (9 + x1))) (m := x2) (by omega) (by omega) (by omega)
  exact W.iret hx hb hr (fun t9 ht9 hW9 => ⟨_, rfl, congrArg zI (show c_floor (M 1 (5 + x1)) (M 1 1) (M 1 (9 + x1)) x2 = c_floor (M 1 (5 + x1)) (M 1 1) (M 1 (9 + x1)) x2 from by rfl), ht9⟩) hS.2.2 dX6_floorIn_22
set_option maxHeartbeats 4000000 in
set_option maxRecDepth 100000 in
theorem kX6_isTaken (l : Launch) (dC : Nat → ClassId) (dI : Nat → Nat → Nat) (g : Nat → ClassId) (tt : Nat → Nat) (q : Nat → Nat) (M : Nat → Int → Int) (x1 x2 : Int) (hw : hok (M 1)) (h1 : 0 ≤ x1 ∧ x1 < M 1 0) (h2 : 0 ≤ x2 ∧ x2 ≤ M 1 1) : Met l yX6_isTaken wsX6_isTaken ({ frames := 0, cells := 0, slots := 0, locals := 0 }) (va_Pc [.ref (q 0), .int (zI x1), .int (zI x2)] (eS (dC, dI) (wTy g) (wMo g q M) tt)) (vp_Si (fun r => r = zI (bz (c_opens (M 1 (5 + x1)) (M 1 1) x2 = true)))) 0 0 (fun _ => False) := by
  refine Met.ofW (cc := cX6_isTaken) (maxL := 4) (ret := (some .boolean)) (by decide) rfl ?_
  intro p e s m args below meth c s₁ B hml hv
  obtain ⟨rfl, hP, hK, hT⟩ := hv
  have hx := B.exec
  have hb := B.bytes
  have hr := B.returns
  have hts := atoms_spec (ws := wsX6_isTaken) B.pre
  have hown : s.vm.findClass RX6 = some m.cls := findClass_of_methodNamed B.named
  have hlocks := B.notSynchronized
  have hS : va_S (fun _ : Nat => False) s.heap s.heap [] := va_S.rf
  have hl := lv_entry ([.ref (q 0), .int (zI x1), .int (zI x2)]) (n := 4) (Nat.le_of_ble_eq_true rfl)
  rw [lg_entry_eq]
  generalize (lg_sl ([.ref (q 0), .int (zI x1), .int (zI x2)]) ++ List.replicate (4 - (lg_sl ([.ref (q 0), .int (zI x1), .int (zI x2)])).length) Slot.unset).toArray = ls at hl ⊢
  have hl : lv_has ls 4 [(0, .ref (q 0)), (1, .int (zI x1)), (2, .int (zI x2))] := hl
  have kf7 := hts (.fieldLink RX6 7 "WrongWayModel" "w" "[I") (by decide +kernel)
  have iX6 := (fun w h => List.mem_cons_of_mem _ (List.mem_append_right _ h) : ∀ w ∈ u_ws RX6 TX6 15, w ∈ wsX6_isTaken)
  have hb0 := hw.b
  have hk0 := hw.k h1.1 h1.2
  refine lv_aload_n hx hb dX6_isTaken_0 rfl (lv_at hl 0 rfl) ?_
  refine va_get (D := (dC, dI)) (ci := 5) (v := .ref (q 1)) (C := RX6) (T := TX6) (N := 15) hx hb hts iX6 hown hK hP 0 rfl rfl 0 (by decide) kf7 (fun _ h9 => h9) rfl dX6_isTaken_1 ?_
  refine q_iconst hx hb dX6_isTaken_4 ?_
  refine lv_iload_n hx hb dX6_isTaken_5 rfl (lv_at hl 1 rfl) ?_
  refine q_iadd hx hb dX6_isTaken_6 ?_
  refine q_iald (F := fun k9 => M 1 k9) (v := M 1 (5 + x1)) hx hb hK hP 1 0 rfl rfl (by decide) (by omega) (rfl) dX6_isTaken_7 ?_
  refine lv_istore_n (lv' := [(3, .int (zI (M 1 (5 + x1)))), (0, .ref (q 0)), (1, .int (zI x1)), (2, .int (zI x2))]) hx hb dX6_isTaken_8 rfl hl (by decide) rfl (fun ls hl => ?_)
  refine lv_iload_n hx hb dX6_isTaken_9 rfl (lv_at hl 0 rfl) ?_
  refine q_iconst hx hb dX6_isTaken_10 ?_
  refine q_icmp_ne (tgt := 33) hx hb dX6_isTaken_11 (by decide) (by omega) (fun c_1 => ?_) (fun c_1 => ?_)
  · refine lv_iload_n hx hb dX6_isTaken_33 rfl (lv_at hl 0 rfl) ?_
    refine q_iconst hx hb dX6_isTaken_34 ?_
    refine q_icmp_ne (tgt := 52) hx hb dX6_isTaken_35 (by decide) (by omega) (fun c_2 => ?_) (fun c_2 => ?_)
    · refine q_iconst hx hb dX6_isTaken_52 ?_
      refine lv_goto (tgt := 57) hx hb dX6_isTaken_53 (by decide) ?_
      exact W.zret hx hb hr rfl (fun t9 ht9 hW9 => ⟨_, rfl, congrArg zI (bz_t (by unfold c_opens; exact decide_eq_true (by omega))).symm, ht9⟩) hS.2.2 dX6_isTaken_57
    · refine lv_iload_n hx hb dX6_isTaken_38 rfl (lv_at hl 3 rfl) ?_
      refine q_if_eq (tgt := 52) hx hb dX6_isTaken_39 (by decide) (by omega) (fun c_3 => ?_) (fun c_3 => ?_)
      · refine q_iconst hx hb dX6_isTaken_52 ?_
        refine lv_goto (tgt := 57) hx hb dX6_isTaken_53 (by decide) ?_
        exact W.zret hx hb hr rfl (fun t9 ht9 hW9 => ⟨_, rfl, congrArg zI (bz_t (by unfold c_opens; exact decide_eq_true (by omega))).symm, ht9⟩) hS.2.2 dX6_isTaken_57
      · refine lv_iload_n hx hb dX6_isTaken_42 rfl (lv_at hl 3 rfl) ?_
        refine lv_aload_n hx hb dX6_isTaken_43 rfl (lv_at hl 1 rfl) ?_
        refine va_get (D := (dC, dI)) (ci := 5) (v := .ref (q 1)) (C := RX6) (T := TX6) (N := 15) hx hb hts iX6 hown hK hP 0 rfl rfl 0 (by decide) kf7 (fun _ h9 => h9) rfl dX6_isTaken_44 ?_
        refine q_iconst hx hb dX6_isTaken_47 ?_
        refine q_iald (F := fun k9 => M 1 k9) (v := M 1 1) hx hb hK hP 1 0 rfl rfl (by decide) (by omega) (rfl) dX6_isTaken_48 ?_
        refine q_icmp_ne (tgt := 56) hx hb dX6_isTaken_49 (by decide) (by omega) (fun c_4 => ?_) (fun c_4 => ?_)
        · refine q_iconst hx hb dX6_isTaken_56 ?_
          exact W.zret hx hb hr rfl (fun t9 ht9 hW9 => ⟨_, rfl, congrArg zI (bz_f (fun h9 => by unfold c_opens at h9; have := of_decide_eq_true h9; omega)).symm, ht9⟩) hS.2.2 dX6_isTaken_57
        · refine q_iconst hx hb dX6_isTaken_52 ?_
          refine lv_goto (tgt := 57) hx hb dX6_isTaken_53 (by decide) ?_
          exact W.zret hx hb hr rfl (fun t9 ht9 hW9 => ⟨_, rfl, congrArg zI (bz_t (by unfold c_opens; exact decide_eq_true (by omega))).symm, ht9⟩) hS.2.2 dX6_isTaken_57
  · refine lv_iload_n hx hb dX6_isTaken_14 rfl (lv_at hl 3 rfl) ?_
    refine q_if_eq (tgt := 25) hx hb dX6_isTaken_15 (by decide) (by omega) (fun c_5 => ?_) (fun c_5 => ?_)
    · refine q_iconst hx hb dX6_isTaken_25 ?_
      refine lv_goto (tgt := 57) hx hb dX6_isTaken_26 (by decide) ?_
      exact W.zret hx hb hr rfl (fun t9 ht9 hW9 => ⟨_, rfl, congrArg zI (bz_t (by unfold c_opens; exact decide_eq_true (by omega))).symm, ht9⟩) hS.2.2 dX6_isTaken_57
    · refine lv_iload_n hx hb dX6_isTaken_18 rfl (lv_at hl 3 rfl) ?_
      refine q_iconst hx hb dX6_isTaken_19 ?_
      refine q_irem hx hb dX6_isTaken_20 (by omega) ?_
      refine q_iconst hx hb dX6_isTaken_21 ?_
      refine q_icmp_ne (tgt := 29) hx hb dX6_isTaken_22 (by decide) (by omega) (fun c_6 => ?_) (fun c_6 => ?_)
      · refine q_iconst hx hb dX6_isTaken_29 ?_
        refine lv_goto (tgt := 57) hx hb dX6_isTaken_30 (by decide) ?_
        exact W.zret hx hb hr rfl (fun t9 ht9 hW9 => ⟨_, rfl, congrArg zI (bz_f (fun h9 => by unfold c_opens at h9; have := of_decide_eq_true h9; omega)).symm, ht9⟩) hS.2.2 dX6_isTaken_57
      · refine q_iconst hx hb dX6_isTaken_25 ?_
        refine lv_goto (tgt := 57) hx hb dX6_isTaken_26 (by decide) ?_
        exact W.zret hx hb hr rfl (fun t9 ht9 hW9 => ⟨_, rfl, congrArg zI (bz_t (by unfold c_opens; exact decide_eq_true (by omega))).symm, ht9⟩) hS.2.2 dX6_isTaken_57
set_option maxHeartbeats 4000000 in
set_option maxRecDepth 100000 in
theorem kX6_wayIn (l : Launch) (dC : Nat → ClassId) (dI : Nat → Nat → Nat) (g : Nat → ClassId) (tt : Nat → Nat) (q : Nat → Nat) (M : Nat → Int → Int) (x1 x2 : Int) (hw : hok (M 1)) (h1 : 0 ≤ x1 ∧ x1 < M 1 0) (h2 : 0 ≤ x2 ∧ x2 ≤ 90000) : Met l yX6_wayIn wsX6_wayIn ({ frames := 4, cells := 0, slots := 0, locals := 90 }) (va_Pc [.ref (q 0), .int (zI x1), .int (zI x2)] (eS (dC, dI) (wTy g) (wMo g q M) tt)) (vp_Si (fun r => r = zI (c_wy (M 1) x1 x2))) 0 0 (fun _ => False) := by
  refine Met.ofW (cc := cX6_wayIn) (maxL := 6) (ret := (some .int)) (by decide) rfl ?_
  intro p e s m args below meth c s₁ B hml hv
  obtain ⟨rfl, hP, hK, hT⟩ := hv
  have hx := B.exec
  have hb := B.bytes
  have hr := B.returns
  have hts := atoms_spec (ws := wsX6_wayIn) B.pre
  have hown : s.vm.findClass RX6 = some m.cls := findClass_of_methodNamed B.named
  have hlocks := B.notSynchronized
  have hS : va_S (fun _ : Nat => False) s.heap s.heap [] := va_S.rf
  have hl := lv_entry ([.ref (q 0), .int (zI x1), .int (zI x2)]) (n := 6) (Nat.le_of_ble_eq_true rfl)
  rw [lg_entry_eq]
  generalize (lg_sl ([.ref (q 0), .int (zI x1), .int (zI x2)]) ++ List.replicate (6 - (lg_sl ([.ref (q 0), .int (zI x1), .int (zI x2)])).length) Slot.unset).toArray = ls at hl ⊢
  have hl : lv_has ls 6 [(0, .ref (q 0)), (1, .int (zI x1)), (2, .int (zI x2))] := hl
  have kf7 := hts (.fieldLink RX6 7 "WrongWayModel" "w" "[I") (by decide +kernel)
  have iX6 := (fun w h => List.mem_cons_of_mem _ (List.mem_append_right _ h) : ∀ w ∈ u_ws RX6 TX6 15, w ∈ wsX6_wayIn)
  have hb0 := hw.b
  have hk0 := hw.k h1.1 h1.2
  have hcr := c_round_r (M 1 (5 + x1)) (t := M 1 1) (by omega)
  refine lv_aload_n hx hb dX6_wayIn_0 rfl (lv_at hl 0 rfl) ?_
  refine lv_iload_n hx hb dX6_wayIn_1 rfl (lv_at hl 1 rfl) ?_
  refine lv_iload_n hx hb dX6_wayIn_2 rfl (lv_at hl 2 rfl) ?_
  refine q_cVi (z := c_floor (M 1 (5 + x1)) (M 1 1) (M 1 (9 + x1)) x2) (b := (q 0)) (As := [.int (zI x1), .int (zI x2)]) (rest := []) ⟨hx, hb, hml, hown, hts⟩ (kX6_floorIn l dC dI g tt q M x1 x2 (hw) (by omega) (by omega)) (cwV 2 hts gX6_wayIn_X6_floorIn rfl rfl rfl (by decide +kernel) ⟨Nat.le_of_ble_eq_true rfl, Nat.le_of_ble_eq_true rfl⟩) hP hK hT hS 0 5 rfl rfl rfl rfl hl.1 rfl (Nat.le_of_ble_eq_true rfl) dX6_wayIn_3 ⟨Nat.le_of_ble_eq_true rfl, Nat.le_of_ble_eq_true rfl⟩ ?_
  have := c_fl_r hw (L := x1) (m := x2) (by omega) (by omega)
  have : 0 ≤ c_floor (M 1 (5 + x1)) (M 1 1) (M 1 (9 + x1)) x2 ∧ c_floor (M 1 (5 + x1)) (M 1 1) (M 1 (9 + x1)) x2 ≤ M 1 1 := this
  refine lv_istore_n (lv' := [(3, .int (zI (c_floor (M 1 (5 + x1)) (M 1 1) (M 1 (9 + x1)) x2))), (0, .ref (q 0)), (1, .int (zI x1)), (2, .int (zI x2))]) hx hb dX6_wayIn_6 rfl hl (by decide) rfl (fun ls hl => ?_)
  refine q_iconst hx hb dX6_wayIn_7 ?_
  refine lv_istore (lv' := [(4, .int (zI 1)), (3, .int (zI (c_floor (M 1 (5 + x1)) (M 1 1) (M 1 (9 + x1)) x2))), (0, .ref (q 0)), (1, .int (zI x1)), (2, .int (zI x2))]) hx hb dX6_wayIn_8 hl (by decide) rfl (fun ls hl => ?_)
  refine w_loopP (σ := Int) (fun a9 ls => (1 ≤ a9 ∧ a9 ≤ 28) ∧ (c_wayB (M 1 (5 + x1)) (M 1 1) (M 1 (9 + x1)) x2 = srI (c_wayP (M 1 (5 + x1)) (M 1 1) (M 1 (9 + x1)) x2) (c_round (M 1 (5 + x1)) (M 1 1)) a9) ∧ lv_has ls 6 [(0, .ref (q 0)), (1, .int (zI x1)), (2, .int (zI x2)), (3, .int (zI (c_floor (M 1 (5 + x1)) (M 1 1) (M 1 (9 + x1)) x2))), (4, .int (zI a9))]) (fun a9 => (28 - a9).toNat) ?_ (1) ?_
  · rintro i ls ⟨hi, hs, hl⟩ ih10
    have hi : 1 ≤ i ∧ i ≤ 28 := hi
    have hs : c_wayB (M 1 (5 + x1)) (M 1 1) (M 1 (9 + x1)) x2 = srI (c_wayP (M 1 (5 + x1)) (M 1 1) (M 1 (9 + x1)) x2) (c_round (M 1 (5 + x1)) (M 1 1)) i := hs
    have hl : lv_has ls 6 [(0, .ref (q 0)), (1, .int (zI x1)), (2, .int (zI x2)), (3, .int (zI (c_floor (M 1 (5 + x1)) (M 1 1) (M 1 (9 + x1)) x2))), (4, .int (zI i))] := hl
    refine lv_iload hx hb dX6_wayIn_10 (lv_at hl 4 rfl) ?_
    refine lv_aload_n hx hb dX6_wayIn_12 rfl (lv_at hl 0 rfl) ?_
    refine lv_aload_n hx hb dX6_wayIn_13 rfl (lv_at hl 0 rfl) ?_
    refine va_get (D := (dC, dI)) (ci := 5) (v := .ref (q 1)) (C := RX6) (T := TX6) (N := 15) hx hb hts iX6 hown hK hP 0 rfl rfl 0 (by decide) kf7 (fun _ h9 => h9) rfl dX6_wayIn_14 ?_
    refine q_iconst hx hb dX6_wayIn_17 ?_
    refine lv_iload_n hx hb dX6_wayIn_18 rfl (lv_at hl 1 rfl) ?_
    refine q_iadd hx hb dX6_wayIn_19 ?_
    refine q_iald (F := fun k9 => M 1 k9) (v := M 1 (5 + x1)) hx hb hK hP 1 0 rfl rfl (by decide) (by omega) (rfl) dX6_wayIn_20 ?_
    refine q_cVi (z := c_round (M 1 (5 + x1)) (M 1 1)) (b := (q 0)) (As := [.int (zI (M 1 (5 + x1)))]) (rest := [.int (zI i)]) ⟨hx, hb, hml, hown, hts⟩ (kX6_roundOf l dC dI g tt q M (M 1 (5 + x1)) (hw) (by omega)) (cwV 1 hts gX6_wayIn_X6_roundOf rfl rfl rfl (by decide +kernel) ⟨Nat.le_of_ble_eq_true rfl, Nat.le_of_ble_eq_true rfl⟩) hP hK hT hS 0 5 rfl rfl rfl rfl hl.1 rfl (Nat.le_of_ble_eq_true rfl) dX6_wayIn_21 ⟨Nat.le_of_ble_eq_true rfl, Nat.le_of_ble_eq_true rfl⟩ ?_
    have := c_round_r (M 1 (5 + x1)) (t := M 1 1) (by omega)
    refine q_icmp_ge (tgt := 62) hx hb dX6_wayIn_24 (by decide) (by omega) (fun c_1 => ?_) (fun c_1 => ?_)
    · refine q_iconst hx hb dX6_wayIn_62 ?_
      exact W.iret hx hb hr (fun t9 ht9 hW9 => ⟨_, rfl, congrArg zI (show 0 = c_wy (M 1) x1 x2 from by have e9 := hs.trans (srI_end (by omega)); show 0 = c_way (M 1 (5 + x1)) (M 1 1) (M 1 (9 + x1)) x2; unfold c_way; rw [if_pos e9]), ht9⟩) hS.2.2 dX6_wayIn_63
    · refine lv_aload_n hx hb dX6_wayIn_27 rfl (lv_at hl 0 rfl) ?_
      refine lv_iload_n hx hb dX6_wayIn_28 rfl (lv_at hl 1 rfl) ?_
      refine lv_iload_n hx hb dX6_wayIn_29 rfl (lv_at hl 2 rfl) ?_
      refine lv_iload hx hb dX6_wayIn_30 (lv_at hl 4 rfl) ?_
      refine q_iadd hx hb dX6_wayIn_32 ?_
      refine q_cVi (z := c_floor (M 1 (5 + x1)) (M 1 1) (M 1 (9 + x1)) (x2 + i)) (b := (q 0)) (As := [.int (zI x1), .int (zI (x2 + i))]) (rest := []) ⟨hx, hb, hml, hown, hts⟩ (kX6_floorIn l dC dI g tt q M x1 (x2 + i) (hw) (by omega) (by omega)) (cwV 2 hts gX6_wayIn_X6_floorIn rfl rfl rfl (by decide +kernel) ⟨Nat.le_of_ble_eq_true rfl, Nat.le_of_ble_eq_true rfl⟩) hP hK hT hS 0 5 rfl rfl rfl rfl hl.1 rfl (Nat.le_of_ble_eq_true rfl) dX6_wayIn_33 ⟨Nat.le_of_ble_eq_true rfl, Nat.le_of_ble_eq_true rfl⟩ ?_
      have := c_fl_r hw (L := x1) (m := (x2 + i)) (by omega) (by omega)
      have : 0 ≤ c_floor (M 1 (5 + x1)) (M 1 1) (M 1 (9 + x1)) (x2 + i) ∧ c_floor (M 1 (5 + x1)) (M 1 1) (M 1 (9 + x1)) (x2 + i) ≤ M 1 1 := this
      refine lv_istore (lv' := [(5, .int (zI (c_floor (M 1 (5 + x1)) (M 1 1) (M 1 (9 + x1)) (x2 + i)))), (0, .ref (q 0)), (1, .int (zI x1)), (2, .int (zI x2)), (3, .int (zI (c_floor (M 1 (5 + x1)) (M 1 1) (M 1 (9 + x1)) x2))), (4, .int (zI i))]) hx hb dX6_wayIn_36 hl (by decide) rfl (fun ls hl => ?_)
      refine lv_iload hx hb dX6_wayIn_38 (lv_at hl 0 rfl) ?_
      refine lv_iload_n hx hb dX6_wayIn_40 rfl (lv_at hl 4 rfl) ?_
      refine q_icmp_eq (tgt := 56) hx hb dX6_wayIn_41 (by decide) (by omega) (fun c_2 => ?_) (fun c_2 => ?_)
      · refine lv_iinc (v := zI (i + 1)) (lv' := [(4, .int (zI (i + 1))), (5, .int (zI (c_floor (M 1 (5 + x1)) (M 1 1) (M 1 (9 + x1)) (x2 + i)))), (0, .ref (q 0)), (1, .int (zI x1)), (2, .int (zI x2)), (3, .int (zI (c_floor (M 1 (5 + x1)) (M 1 1) (M 1 (9 + x1)) x2)))]) hx hb dX6_wayIn_56 hl (k := 5) rfl (zI_add _ _) (by decide) rfl (fun ls hl => ?_)
        refine lv_goto (tgt := 10) hx hb dX6_wayIn_59 (by decide) ?_
        exact ih10 (i + 1) ls ⟨(show 1 ≤ (i + 1) ∧ (i + 1) ≤ 28 from by omega), (show c_wayB (M 1 (5 + x1)) (M 1 1) (M 1 (9 + x1)) x2 = srI (c_wayP (M 1 (5 + x1)) (M 1 1) (M 1 (9 + x1)) x2) (c_round (M 1 (5 + x1)) (M 1 1)) (i + 1) from hs.trans (srI_next (by omega) (by unfold c_wayP; simp only [decide_eq_true_eq]; omega))), lv_sub hl [2, 3, 4, 5, 0] rfl⟩ (by show (28 - (i + 1)).toNat < (28 - i).toNat; omega)
      · refine lv_iload hx hb dX6_wayIn_44 (lv_at hl 0 rfl) ?_
        refine lv_iload_n hx hb dX6_wayIn_46 rfl (lv_at hl 4 rfl) ?_
        refine q_icmp_le (tgt := 54) hx hb dX6_wayIn_47 (by decide) (by omega) (fun c_3 => ?_) (fun c_3 => ?_)
        · refine q_iconst hx hb dX6_wayIn_54 ?_
          exact W.iret hx hb hr (fun t9 ht9 hW9 => ⟨_, rfl, congrArg zI (show 0 = c_wy (M 1) x1 x2 from by have e9 := hs.trans (srI_hit (by omega) (by unfold c_wayP; simp only [decide_eq_true_eq]; omega)); show _ = c_way (M 1 (5 + x1)) (M 1 1) (M 1 (9 + x1)) x2; unfold c_way; rw [e9]; (repeat' split) <;> omega), ht9⟩) hS.2.2 dX6_wayIn_55
        · refine q_iconst hx hb dX6_wayIn_50 ?_
          refine lv_goto (tgt := 55) hx hb dX6_wayIn_51 (by decide) ?_
          exact W.iret hx hb hr (fun t9 ht9 hW9 => ⟨_, rfl, congrArg zI (show 1 = c_wy (M 1) x1 x2 from by have e9 := hs.trans (srI_hit (by omega) (by unfold c_wayP; simp only [decide_eq_true_eq]; omega)); show _ = c_way (M 1 (5 + x1)) (M 1 1) (M 1 (9 + x1)) x2; unfold c_way; rw [e9]; (repeat' split) <;> omega), ht9⟩) hS.2.2 dX6_wayIn_55
  · exact ⟨(show 1 ≤ 1 ∧ 1 ≤ 28 from by omega), (show c_wayB (M 1 (5 + x1)) (M 1 1) (M 1 (9 + x1)) x2 = srI (c_wayP (M 1 (5 + x1)) (M 1 1) (M 1 (9 + x1)) x2) (c_round (M 1 (5 + x1)) (M 1 1)) 1 from c_wayB_R hb0.1), lv_sub hl [2, 3, 4, 1, 0] rfl⟩
set_option maxHeartbeats 4000000 in
set_option maxRecDepth 100000 in
theorem kX6_isSeen (l : Launch) (dC : Nat → ClassId) (dI : Nat → Nat → Nat) (g : Nat → ClassId) (tt : Nat → Nat) (q : Nat → Nat) (M : Nat → Int → Int) (x1 x2 x3 : Int) (hw : hok (M 1)) (h1 : 0 ≤ x1 ∧ x1 < M 1 0) (h2 : 0 ≤ x2 ∧ x2 ≤ M 1 1) (h3 : 0 ≤ x3 ∧ x3 ≤ 90000) : Met l yX6_isSeen wsX6_isSeen ({ frames := 4, cells := 0, slots := 0, locals := 90 }) (va_Pc [.ref (q 0), .int (zI x1), .int (zI x2), .int (zI x3)] (eS (dC, dI) (wTy g) (wMo g q M) tt)) (vp_Si (fun r => r = zI (bz (c_seen (M 1) x1 x2 x3 = true)))) 0 0 (fun _ => False) := by
  refine Met.ofW (cc := cX6_isSeen) (maxL := 4) (ret := (some .boolean)) (by decide) rfl ?_
  intro p e s m args below meth c s₁ B hml hv
  obtain ⟨rfl, hP, hK, hT⟩ := hv
  have hx := B.exec
  have hb := B.bytes
  have hr := B.returns
  have hts := atoms_spec (ws := wsX6_isSeen) B.pre
  have hown : s.vm.findClass RX6 = some m.cls := findClass_of_methodNamed B.named
  have hlocks := B.notSynchronized
  have hS : va_S (fun _ : Nat => False) s.heap s.heap [] := va_S.rf
  have hl := lv_entry ([.ref (q 0), .int (zI x1), .int (zI x2), .int (zI x3)]) (n := 4) (Nat.le_of_ble_eq_true rfl)
  rw [lg_entry_eq]
  generalize (lg_sl ([.ref (q 0), .int (zI x1), .int (zI x2), .int (zI x3)]) ++ List.replicate (4 - (lg_sl ([.ref (q 0), .int (zI x1), .int (zI x2), .int (zI x3)])).length) Slot.unset).toArray = ls at hl ⊢
  have hl : lv_has ls 4 [(0, .ref (q 0)), (1, .int (zI x1)), (2, .int (zI x2)), (3, .int (zI x3))] := hl
  have hb0 := hw.b
  refine lv_aload_n hx hb dX6_isSeen_0 rfl (lv_at hl 0 rfl) ?_
  refine lv_iload_n hx hb dX6_isSeen_1 rfl (lv_at hl 1 rfl) ?_
  refine lv_iload_n hx hb dX6_isSeen_2 rfl (lv_at hl 3 rfl) ?_
  refine q_cVi (z := c_floor (M 1 (5 + x1)) (M 1 1) (M 1 (9 + x1)) x3) (b := (q 0)) (As := [.int (zI x1), .int (zI x3)]) (rest := []) ⟨hx, hb, hml, hown, hts⟩ (kX6_floorIn l dC dI g tt q M x1 x3 (hw) (by omega) (by omega)) (cwV 2 hts gX6_isSeen_X6_floorIn rfl rfl rfl (by decide +kernel) ⟨Nat.le_of_ble_eq_true rfl, Nat.le_of_ble_eq_true rfl⟩) hP hK hT hS 0 5 rfl rfl rfl rfl hl.1 rfl (Nat.le_of_ble_eq_true rfl) dX6_isSeen_3 ⟨Nat.le_of_ble_eq_true rfl, Nat.le_of_ble_eq_true rfl⟩ ?_
  have := c_fl_r hw (L := x1) (m := x3) (by omega) (by omega)
  have : 0 ≤ c_floor (M 1 (5 + x1)) (M 1 1) (M 1 (9 + x1)) x3 ∧ c_floor (M 1 (5 + x1)) (M 1 1) (M 1 (9 + x1)) x3 ≤ M 1 1 := this
  refine lv_iload_n hx hb dX6_isSeen_6 rfl (lv_at hl 2 rfl) ?_
  refine q_icmp_ne (tgt := 23) hx hb dX6_isSeen_7 (by decide) (by omega) (fun c_1 => ?_) (fun c_1 => ?_)
  · refine q_iconst hx hb dX6_isSeen_23 ?_
    exact W.zret hx hb hr rfl (fun t9 ht9 hW9 => ⟨_, rfl, congrArg zI (bz_f (fun h9 => by unfold c_seen at h9; rw [Bool.and_eq_true, decide_eq_true_eq] at h9; first | exact c_1 h9.2 | exact c_2 h9.1)).symm, ht9⟩) hS.2.2 dX6_isSeen_24
  · refine lv_aload_n hx hb dX6_isSeen_10 rfl (lv_at hl 0 rfl) ?_
    refine lv_iload_n hx hb dX6_isSeen_11 rfl (lv_at hl 1 rfl) ?_
    refine lv_iload_n hx hb dX6_isSeen_12 rfl (lv_at hl 2 rfl) ?_
    refine q_cVi (z := bz (c_opens (M 1 (5 + x1)) (M 1 1) x2 = true)) (b := (q 0)) (As := [.int (zI x1), .int (zI x2)]) (rest := []) ⟨hx, hb, hml, hown, hts⟩ (kX6_isTaken l dC dI g tt q M x1 x2 (hw) (by omega) (by omega)) (cwV 2 hts gX6_isSeen_X6_isTaken rfl rfl rfl (by decide +kernel) ⟨Nat.le_of_ble_eq_true rfl, Nat.le_of_ble_eq_true rfl⟩) hP hK hT hS 0 5 rfl rfl rfl rfl hl.1 rfl (Nat.le_of_ble_eq_true rfl) dX6_isSeen_13 ⟨Nat.le_of_ble_eq_true rfl, Nat.le_of_ble_eq_true rfl⟩ ?_
    refine q_bz_eq (tgt := 23) hx hb dX6_isSeen_16 (by decide) (fun c_2 => ?_) (fun c_2 => ?_)
    · refine q_iconst hx hb dX6_isSeen_23 ?_
      exact W.zret hx hb hr rfl (fun t9 ht9 hW9 => ⟨_, rfl, congrArg zI (bz_f (fun h9 => by unfold c_seen at h9; rw [Bool.and_eq_true, decide_eq_true_eq] at h9; first | exact c_1 h9.2 | exact c_2 h9.1)).symm, ht9⟩) hS.2.2 dX6_isSeen_24
    · refine q_iconst hx hb dX6_isSeen_19 ?_
      refine lv_goto (tgt := 24) hx hb dX6_isSeen_20 (by decide) ?_
      exact W.zret hx hb hr rfl (fun t9 ht9 hW9 => ⟨_, rfl, congrArg zI (bz_t (by unfold c_seen; rw [Bool.and_eq_true, decide_eq_true_eq]; exact ⟨c_2, c_1⟩)).symm, ht9⟩) hS.2.2 dX6_isSeen_24
set_option maxHeartbeats 4000000 in
set_option maxRecDepth 100000 in
theorem kX6_comes (l : Launch) (dC : Nat → ClassId) (dI : Nat → Nat → Nat) (g : Nat → ClassId) (tt : Nat → Nat) (sz : Nat) (q : Nat → Nat) (M : Nat → Int → Int) (x1 x2 x3 x4 : Int) (hw : hok (M 1)) (h1 : 0 ≤ x1 ∧ x1 ≤ M 1 1) (h2 : 0 ≤ x2 ∧ x2 ≤ 2000) (h3 : 0 ≤ x3 ∧ x3 ≤ 15) (h4 : 0 ≤ x4 ∧ x4 ≤ 2) : Met l yX6_comes wsX6_comes ({ frames := 5, cells := 0, slots := 0, locals := 115 }) (va_Pc [.ref (q 0), .int (zI x1), .int (zI x2), .int (zI x3), .int (zI x4)] (eQ (dC, dI) (wTy g) (wMo g q M) tt sz)) (va_Qi (fun r (_ : Unit) => r = zI (bz (¬ m_ck (M 1) x1 x2 x3 x4 = -1))) (fQ (dC, dI) (wTy g) (va_A (wMo g q M) sz) (wMo g q (m_cmM M x1 x2 x3 x4))) (va_A (wMo g q M) sz)) 0 0 (va_A (wMo g q M) sz) := by
  refine Met.ofW (cc := cX6_comes) (maxL := 8) (ret := (some .boolean)) (by decide) rfl ?_
  intro p e s m args below meth c s₁ B hml hv
  obtain ⟨rfl, hsz, hP, hK, hD0, hT⟩ := hv
  have hx := B.exec
  have hb := B.bytes
  have hr := B.returns
  have hts := atoms_spec (ws := wsX6_comes) B.pre
  have hown : s.vm.findClass RX6 = some m.cls := findClass_of_methodNamed B.named
  have hlocks := B.notSynchronized
  subst hsz
  have hD := hD0.self (sz := s.heap.size)
  generalize hAe : va_A (wMo g q M) s.heap.size = A at hD hT ⊢
  have hA : ∀ q : Nat, s.heap.size ≤ q → A q := fun q h => by rw [← hAe]; exact Or.inr h
  have hS : va_S A s.heap s.heap [] := va_S.rf
  have hl := lv_entry ([.ref (q 0), .int (zI x1), .int (zI x2), .int (zI x3), .int (zI x4)]) (n := 8) (Nat.le_of_ble_eq_true rfl)
  rw [lg_entry_eq]
  generalize (lg_sl ([.ref (q 0), .int (zI x1), .int (zI x2), .int (zI x3), .int (zI x4)]) ++ List.replicate (8 - (lg_sl ([.ref (q 0), .int (zI x1), .int (zI x2), .int (zI x3), .int (zI x4)])).length) Slot.unset).toArray = ls at hl ⊢
  have hl : lv_has ls 8 [(0, .ref (q 0)), (1, .int (zI x1)), (2, .int (zI x2)), (3, .int (zI x3)), (4, .int (zI x4))] := hl
  have kf161 := hts (.fieldLink RX6 161 "WrongWayModel" "comer" "I") (by decide +kernel)
  have kf164 := hts (.fieldLink RX6 164 "WrongWayModel" "coming" "I") (by decide +kernel)
  have kf7 := hts (.fieldLink RX6 7 "WrongWayModel" "w" "[I") (by decide +kernel)
  have iX6 := (fun w h => List.mem_cons_of_mem _ (List.mem_append_right _ h) : ∀ w ∈ u_ws RX6 TX6 15, w ∈ wsX6_comes)
  have hb0 := hw.b
  refine q_iconst hx hb dX6_comes_0 ?_
  refine lv_istore (lv' := [(5, .int (zI 0)), (0, .ref (q 0)), (1, .int (zI x1)), (2, .int (zI x2)), (3, .int (zI x3)), (4, .int (zI x4))]) hx hb dX6_comes_1 hl (by decide) rfl (fun ls hl => ?_)
  refine w_loopP (σ := Int) (fun a9 ls => (0 ≤ a9 ∧ a9 ≤ 200) ∧ (m_ck (M 1) x1 x2 x3 x4 = srI (m_ckP (M 1) x1 x2 x3 x4) 200 a9) ∧ lv_has ls 8 [(0, .ref (q 0)), (1, .int (zI x1)), (2, .int (zI x2)), (3, .int (zI x3)), (4, .int (zI x4)), (5, .int (zI a9))]) (fun a9 => (200 - a9).toNat) ?_ (0) ?_
  · rintro k ls ⟨hk, hs, hl⟩ ih3
    have hk : 0 ≤ k ∧ k ≤ 200 := hk
    have hs : m_ck (M 1) x1 x2 x3 x4 = srI (m_ckP (M 1) x1 x2 x3 x4) 200 k := hs
    have hl : lv_has ls 8 [(0, .ref (q 0)), (1, .int (zI x1)), (2, .int (zI x2)), (3, .int (zI x3)), (4, .int (zI x4)), (5, .int (zI k))] := hl
    refine lv_iload hx hb dX6_comes_3 (lv_at hl 5 rfl) ?_
    refine q_sipush hx hb dX6_comes_5 rfl ?_
    refine q_icmp_ge (tgt := 109) hx hb dX6_comes_8 (by decide) (by omega) (fun c_1 => ?_) (fun c_1 => ?_)
    · refine q_iconst hx hb dX6_comes_109 ?_
      have hPf : va_P (dC, dI) vwCl (wMo g q (m_cmM M x1 x2 x3 x4)) s.heap := by rw [(show (m_cmM M x1 x2 x3 x4) = M from by unfold m_cmM; first | (rw [if_pos (hs.trans (srI_end (by omega)))]; done) | (rw [if_neg (by rw [ek]; omega), ek, eL]))]; exact hP
      have hDf : va_D A (wMo g q (m_cmM M x1 x2 x3 x4)) := by rw [(show (m_cmM M x1 x2 x3 x4) = M from by unfold m_cmM; first | (rw [if_pos (hs.trans (srI_end (by omega)))]; done) | (rw [if_neg (by rw [ek]; omega), ek, eL]))]; exact hD
      exact W.zret hx hb hr rfl (fun t9 ht9 hW9 => ⟨⟨_, (), rfl, congrArg zI (bz_f (fun h9 => h9 (hs.trans (srI_end (by omega))))).symm, by rw [ht9]; exact hPf, va_K.moved hW9.alike hK, hDf⟩, hS.F ht9⟩) hS.2.2 dX6_comes_110
    · refine q_iconst hx hb dX6_comes_11 ?_
      refine lv_istore (lv' := [(6, .int (zI 0)), (0, .ref (q 0)), (1, .int (zI x1)), (2, .int (zI x2)), (3, .int (zI x3)), (4, .int (zI x4)), (5, .int (zI k))]) hx hb dX6_comes_12 hl (by decide) rfl (fun ls hl => ?_)
      refine w_loopP (σ := Int) (fun a9 ls => (0 ≤ a9 ∧ a9 ≤ M 1 0) ∧ (m_cm (M 1) x1 x2 x3 x4 k = srI (m_cmP (M 1) x1 x2 x3 x4 k) (M 1 0) a9) ∧ lv_has ls 8 [(0, .ref (q 0)), (1, .int (zI x1)), (2, .int (zI x2)), (3, .int (zI x3)), (4, .int (zI x4)), (5, .int (zI k)), (6, .int (zI a9))]) (fun a9 => (M 1 0 - a9).toNat) ?_ (0) ?_
      · rintro L ls ⟨hL, hsL, hl⟩ ih14
        have hL : 0 ≤ L ∧ L ≤ M 1 0 := hL
        have hsL : m_cm (M 1) x1 x2 x3 x4 k = srI (m_cmP (M 1) x1 x2 x3 x4 k) (M 1 0) L := hsL
        have hl : lv_has ls 8 [(0, .ref (q 0)), (1, .int (zI x1)), (2, .int (zI x2)), (3, .int (zI x3)), (4, .int (zI x4)), (5, .int (zI k)), (6, .int (zI L))] := hl
        refine lv_iload hx hb dX6_comes_14 (lv_at hl 6 rfl) ?_
        refine lv_aload_n hx hb dX6_comes_16 rfl (lv_at hl 0 rfl) ?_
        refine va_get (D := (dC, dI)) (ci := 5) (v := .ref (q 1)) (C := RX6) (T := TX6) (N := 15) hx hb hts iX6 hown hK hP 0 rfl rfl 0 (by decide) kf7 (fun _ h9 => h9) rfl dX6_comes_17 ?_
        refine q_iconst hx hb dX6_comes_20 ?_
        refine q_iald (F := fun k9 => M 1 k9) (v := M 1 0) hx hb hK hP 1 0 rfl rfl (by decide) (by omega) (rfl) dX6_comes_21 ?_
        refine q_icmp_ge (tgt := 103) hx hb dX6_comes_22 (by decide) (by omega) (fun c_2 => ?_) (fun c_2 => ?_)
        · refine lv_iinc (v := zI (k + 1)) (lv' := [(5, .int (zI (k + 1))), (0, .ref (q 0)), (1, .int (zI x1)), (2, .int (zI x2)), (3, .int (zI x3)), (4, .int (zI x4)), (6, .int (zI L))]) hx hb dX6_comes_103 hl (k := 5) rfl (zI_add _ _) (by decide) rfl (fun ls hl => ?_)
          refine lv_goto (tgt := 3) hx hb dX6_comes_106 (by decide) ?_
          exact ih3 (k + 1) ls ⟨(show 0 ≤ (k + 1) ∧ (k + 1) ≤ 200 from by omega), (show m_ck (M 1) x1 x2 x3 x4 = srI (m_ckP (M 1) x1 x2 x3 x4) 200 (k + 1) from hs.trans (srI_next (by omega) (fun h9 => (of_decide_eq_true h9) (hsL.trans (srI_end (by omega)))))), lv_sub hl [1, 2, 3, 4, 5, 0] rfl⟩ (by show (200 - (k + 1)).toNat < (200 - k).toNat; omega)
        · refine lv_iload_n hx hb dX6_comes_25 rfl (lv_at hl 3 rfl) ?_
          refine lv_iload hx hb dX6_comes_26 (lv_at hl 6 rfl) ?_
          refine q_cSi (z := bz (hasB x3 L = true)) (As := [.int (zI x3), .int (zI L)]) (rest := []) ⟨hx, hb, hml, hown, hts⟩ (kX6_has l dC dI g tt x3 L (by omega)) (va_cwS 2 hts gX6_comes_X6_has rfl rfl rfl (by decide +kernel) ⟨Nat.le_of_ble_eq_true rfl, Nat.le_of_ble_eq_true rfl⟩) (hP.sub (ws' := []) [] rfl) hK hT hS rfl hl.1 rfl (Nat.le_of_ble_eq_true rfl) dX6_comes_28 ⟨Nat.le_of_ble_eq_true rfl, Nat.le_of_ble_eq_true rfl⟩ ?_
          refine q_bz_eq (tgt := 52) hx hb dX6_comes_31 (by decide) (fun c_3 => ?_) (fun c_3 => ?_)
          · refine q_iconst hx hb dX6_comes_52 ?_
            refine lv_istore (lv' := [(7, .int (zI 0)), (0, .ref (q 0)), (1, .int (zI x1)), (2, .int (zI x2)), (3, .int (zI x3)), (4, .int (zI x4)), (5, .int (zI k)), (6, .int (zI L))]) hx hb dX6_comes_53 hl (by decide) rfl (fun ls hl => ?_)
            refine lv_iload hx hb dX6_comes_55 (lv_at hl 0 rfl) ?_
            refine q_if_eqT (tgt := 97) hx hb dX6_comes_57 (by decide) (by decide) ?_
            refine lv_iinc (v := zI (L + 1)) (lv' := [(6, .int (zI (L + 1))), (7, .int (zI 0)), (0, .ref (q 0)), (1, .int (zI x1)), (2, .int (zI x2)), (3, .int (zI x3)), (4, .int (zI x4)), (5, .int (zI k))]) hx hb dX6_comes_97 hl (k := 7) rfl (zI_add _ _) (by decide) rfl (fun ls hl => ?_)
            refine lv_goto (tgt := 14) hx hb dX6_comes_100 (by decide) ?_
            exact ih14 (L + 1) ls ⟨(show 0 ≤ (L + 1) ∧ (L + 1) ≤ M 1 0 from by omega), (show m_cm (M 1) x1 x2 x3 x4 k = srI (m_cmP (M 1) x1 x2 x3 x4 k) (M 1 0) (L + 1) from hsL.trans (srI_next (by omega) (by unfold m_cmP; first | (simp [c_3]; done) | (simp [c_3, c_2]; done) | (simp [c_3, c_2, c_1]; done) | (simp [c_3, c_2, c_1, c_0]; done)))), lv_sub hl [2, 3, 4, 5, 6, 7, 0] rfl⟩ (by show (M 1 0 - (L + 1)).toNat < (M 1 0 - L).toNat; omega)
          · refine lv_aload_n hx hb dX6_comes_34 rfl (lv_at hl 0 rfl) ?_
            refine lv_iload hx hb dX6_comes_35 (lv_at hl 6 rfl) ?_
            refine lv_iload_n hx hb dX6_comes_37 rfl (lv_at hl 1 rfl) ?_
            refine lv_iload_n hx hb dX6_comes_38 rfl (lv_at hl 2 rfl) ?_
            refine lv_iload hx hb dX6_comes_39 (lv_at hl 5 rfl) ?_
            refine q_iadd hx hb dX6_comes_41 ?_
            refine q_cVi (z := bz (c_seen (M 1) L x1 (x2 + k) = true)) (b := (q 0)) (As := [.int (zI L), .int (zI x1), .int (zI (x2 + k))]) (rest := []) ⟨hx, hb, hml, hown, hts⟩ (kX6_isSeen l dC dI g tt q M L x1 (x2 + k) (hw) (by omega) (by omega) (by omega)) (cwV 3 hts gX6_comes_X6_isSeen rfl rfl rfl (by decide +kernel) ⟨Nat.le_of_ble_eq_true rfl, Nat.le_of_ble_eq_true rfl⟩) hP hK hT hS 0 5 rfl rfl rfl rfl hl.1 rfl (Nat.le_of_ble_eq_true rfl) dX6_comes_42 ⟨Nat.le_of_ble_eq_true rfl, Nat.le_of_ble_eq_true rfl⟩ ?_
            refine q_bz_eq (tgt := 52) hx hb dX6_comes_45 (by decide) (fun c_4 => ?_) (fun c_4 => ?_)
            · refine q_iconst hx hb dX6_comes_52 ?_
              refine lv_istore (lv' := [(7, .int (zI 0)), (0, .ref (q 0)), (1, .int (zI x1)), (2, .int (zI x2)), (3, .int (zI x3)), (4, .int (zI x4)), (5, .int (zI k)), (6, .int (zI L))]) hx hb dX6_comes_53 hl (by decide) rfl (fun ls hl => ?_)
              refine lv_iload hx hb dX6_comes_55 (lv_at hl 0 rfl) ?_
              refine q_if_eqT (tgt := 97) hx hb dX6_comes_57 (by decide) (by decide) ?_
              refine lv_iinc (v := zI (L + 1)) (lv' := [(6, .int (zI (L + 1))), (7, .int (zI 0)), (0, .ref (q 0)), (1, .int (zI x1)), (2, .int (zI x2)), (3, .int (zI x3)), (4, .int (zI x4)), (5, .int (zI k))]) hx hb dX6_comes_97 hl (k := 7) rfl (zI_add _ _) (by decide) rfl (fun ls hl => ?_)
              refine lv_goto (tgt := 14) hx hb dX6_comes_100 (by decide) ?_
              exact ih14 (L + 1) ls ⟨(show 0 ≤ (L + 1) ∧ (L + 1) ≤ M 1 0 from by omega), (show m_cm (M 1) x1 x2 x3 x4 k = srI (m_cmP (M 1) x1 x2 x3 x4 k) (M 1 0) (L + 1) from hsL.trans (srI_next (by omega) (by unfold m_cmP; first | (simp [c_4]; done) | (simp [c_4, c_3]; done) | (simp [c_4, c_3, c_2]; done) | (simp [c_4, c_3, c_2, c_1]; done)))), lv_sub hl [2, 3, 4, 5, 6, 7, 0] rfl⟩ (by show (M 1 0 - (L + 1)).toNat < (M 1 0 - L).toNat; omega)
            · refine q_iconst hx hb dX6_comes_48 ?_
              refine lv_goto (tgt := 53) hx hb dX6_comes_49 (by decide) ?_
              refine lv_istore (lv' := [(7, .int (zI 1)), (0, .ref (q 0)), (1, .int (zI x1)), (2, .int (zI x2)), (3, .int (zI x3)), (4, .int (zI x4)), (5, .int (zI k)), (6, .int (zI L))]) hx hb dX6_comes_53 hl (by decide) rfl (fun ls hl => ?_)
              refine lv_iload hx hb dX6_comes_55 (lv_at hl 0 rfl) ?_
              refine q_if_eqF (tgt := 97) hx hb dX6_comes_57 (by decide) (by decide) ?_
              refine lv_iload hx hb dX6_comes_60 (lv_at hl 5 rfl) ?_
              refine q_iconst hx hb dX6_comes_62 ?_
              refine q_icmp_eq (tgt := 81) hx hb dX6_comes_63 (by decide) (by omega) (fun c_5 => ?_) (fun c_5 => ?_)
              · have eL := hsL.trans (srI_hit (by omega) (by unfold m_cmP; first | (simp [c_5, c_4, c_3]; done) | (simp [c_5, c_4, c_3, c_2]; done)))
                have ek := hs.trans (srI_hit (by omega) (decide_eq_true (by rw [eL]; omega)))
                refine lv_aload_n hx hb dX6_comes_81 rfl (lv_at hl 1 rfl) ?_
                refine lv_iload hx hb dX6_comes_82 (lv_at hl 7 rfl) ?_
                refine va_put (D := (dC, dI)) (ci := 5) (v := .int (zI L)) (ty := .int) (C := RX6) (T := TX6) (N := 15) hx hb hts iX6 tyX6 tyX6_ok nmX6 hown hK hP hD hS 0 rfl rfl 12 (by decide) kf161 (fun _ h9 => h9) rfl (by decide +kernel) rfl rfl (Nat.le_of_ble_eq_true rfl) dX6_comes_84 (fun H locs hP hD hS => ?_)
                have hP : va_P (dC, dI) vwCl (wMo g q (mset M 0 7 L)) H := hP
                have hD : va_D A (wMo g q (mset M 0 7 L)) := hD
                refine lv_aload_n hx hb dX6_comes_87 rfl (lv_at hl 1 rfl) ?_
                refine lv_iload_n hx hb dX6_comes_88 rfl (lv_at hl 3 rfl) ?_
                refine lv_iload hx hb dX6_comes_89 (lv_at hl 6 rfl) ?_
                refine q_iadd hx hb dX6_comes_91 ?_
                refine va_put (D := (dC, dI)) (ci := 5) (v := .int (zI (x2 + k))) (ty := .int) (C := RX6) (T := TX6) (N := 15) hx hb hts iX6 tyX6 tyX6_ok nmX6 hown hK hP hD hS 0 rfl rfl 13 (by decide) kf164 (fun _ h9 => h9) rfl (by decide +kernel) rfl rfl (Nat.le_of_ble_eq_true rfl) dX6_comes_92 (fun H locs hP hD hS => ?_)
                have hP : va_P (dC, dI) vwCl (wMo g q (mset (mset M 0 7 L) 0 8 (x2 + k))) H := hP
                have hD : va_D A (wMo g q (mset (mset M 0 7 L) 0 8 (x2 + k))) := hD
                refine q_iconst hx hb dX6_comes_95 ?_
                have hPf : va_P (dC, dI) vwCl (wMo g q (m_cmM M x1 x2 x3 x4)) H := by rw [(show (m_cmM M x1 x2 x3 x4) = mset (mset M 0 7 L) 0 8 (x2 + k) from by unfold m_cmM; first | (rw [if_pos (hs.trans (srI_end (by omega)))]; done) | (rw [if_neg (by rw [ek]; omega), ek, eL]))]; exact hP
                have hDf : va_D A (wMo g q (m_cmM M x1 x2 x3 x4)) := by rw [(show (m_cmM M x1 x2 x3 x4) = mset (mset M 0 7 L) 0 8 (x2 + k) from by unfold m_cmM; first | (rw [if_pos (hs.trans (srI_end (by omega)))]; done) | (rw [if_neg (by rw [ek]; omega), ek, eL]))]; exact hD
                exact W.zret hx hb hr rfl (fun t9 ht9 hW9 => ⟨⟨_, (), rfl, congrArg zI (bz_t (by rw [ek]; omega)).symm, by rw [ht9]; exact hPf, va_K.moved hW9.alike hK, hDf⟩, hS.F ht9⟩) hS.2.2 dX6_comes_96
              · refine lv_aload_n hx hb dX6_comes_66 rfl (lv_at hl 1 rfl) ?_
                refine lv_iload hx hb dX6_comes_67 (lv_at hl 7 rfl) ?_
                refine lv_iload_n hx hb dX6_comes_69 rfl (lv_at hl 3 rfl) ?_
                refine lv_iload hx hb dX6_comes_70 (lv_at hl 6 rfl) ?_
                refine q_iadd hx hb dX6_comes_72 ?_
                refine q_cVi (z := c_wy (M 1) L (x2 + k)) (b := (q 0)) (As := [.int (zI L), .int (zI (x2 + k))]) (rest := []) ⟨hx, hb, hml, hown, hts⟩ (kX6_wayIn l dC dI g tt q M L (x2 + k) (hw) (by omega) (by omega)) (cwV 2 hts gX6_comes_X6_wayIn rfl rfl rfl (by decide +kernel) ⟨Nat.le_of_ble_eq_true rfl, Nat.le_of_ble_eq_true rfl⟩) hP hK hT hS 0 5 rfl rfl rfl rfl hl.1 rfl (Nat.le_of_ble_eq_true rfl) dX6_comes_73 ⟨Nat.le_of_ble_eq_true rfl, Nat.le_of_ble_eq_true rfl⟩ ?_
                have := c_wy_r (M 1) L (x2 + k)
                refine lv_iload hx hb dX6_comes_76 (lv_at hl 5 rfl) ?_
                refine q_icmp_ne (tgt := 97) hx hb dX6_comes_78 (by decide) (by omega) (fun c_6 => ?_) (fun c_6 => ?_)
                · refine lv_iinc (v := zI (L + 1)) (lv' := [(6, .int (zI (L + 1))), (7, .int (zI 1)), (0, .ref (q 0)), (1, .int (zI x1)), (2, .int (zI x2)), (3, .int (zI x3)), (4, .int (zI x4)), (5, .int (zI k))]) hx hb dX6_comes_97 hl (k := 7) rfl (zI_add _ _) (by decide) rfl (fun ls hl => ?_)
                  refine lv_goto (tgt := 14) hx hb dX6_comes_100 (by decide) ?_
                  exact ih14 (L + 1) ls ⟨(show 0 ≤ (L + 1) ∧ (L + 1) ≤ M 1 0 from by omega), (show m_cm (M 1) x1 x2 x3 x4 k = srI (m_cmP (M 1) x1 x2 x3 x4 k) (M 1 0) (L + 1) from hsL.trans (srI_next (by omega) (by unfold m_cmP; first | (simp [c_6]; done) | (simp [c_6, c_5]; done) | (simp [c_6, c_5, c_4]; done) | (simp [c_6, c_5, c_4, c_3]; done)))), lv_sub hl [2, 3, 4, 5, 6, 7, 0] rfl⟩ (by show (M 1 0 - (L + 1)).toNat < (M 1 0 - L).toNat; omega)
                · have eL := hsL.trans (srI_hit (by omega) (by unfold m_cmP; first | (simp [c_6, c_5, c_4]; done) | (simp [c_6, c_5, c_4, c_3]; done)))
                  have ek := hs.trans (srI_hit (by omega) (decide_eq_true (by rw [eL]; omega)))
                  refine lv_aload_n hx hb dX6_comes_81 rfl (lv_at hl 1 rfl) ?_
                  refine lv_iload hx hb dX6_comes_82 (lv_at hl 7 rfl) ?_
                  refine va_put (D := (dC, dI)) (ci := 5) (v := .int (zI L)) (ty := .int) (C := RX6) (T := TX6) (N := 15) hx hb hts iX6 tyX6 tyX6_ok nmX6 hown hK hP hD hS 0 rfl rfl 12 (by decide) kf161 (fun _ h9 => h9) rfl (by decide +kernel) rfl rfl (Nat.le_of_ble_eq_true rfl) dX6_comes_84 (fun H locs hP hD hS => ?_)
                  have hP : va_P (dC, dI) vwCl (wMo g q (mset M 0 7 L)) H := hP
                  have hD : va_D A (wMo g q (mset M 0 7 L)) := hD
                  refine lv_aload_n hx hb dX6_comes_87 rfl (lv_at hl 1 rfl) ?_
                  refine lv_iload_n hx hb dX6_comes_88 rfl (lv_at hl 3 rfl) ?_
                  refine lv_iload hx hb dX6_comes_89 (lv_at hl 6 rfl) ?_
                  refine q_iadd hx hb dX6_comes_91 ?_
                  refine va_put (D := (dC, dI)) (ci := 5) (v := .int (zI (x2 + k))) (ty := .int) (C := RX6) (T := TX6) (N := 15) hx hb hts iX6 tyX6 tyX6_ok nmX6 hown hK hP hD hS 0 rfl rfl 13 (by decide) kf164 (fun _ h9 => h9) rfl (by decide +kernel) rfl rfl (Nat.le_of_ble_eq_true rfl) dX6_comes_92 (fun H locs hP hD hS => ?_)
                  have hP : va_P (dC, dI) vwCl (wMo g q (mset (mset M 0 7 L) 0 8 (x2 + k))) H := hP
                  have hD : va_D A (wMo g q (mset (mset M 0 7 L) 0 8 (x2 + k))) := hD
                  refine q_iconst hx hb dX6_comes_95 ?_
                  have hPf : va_P (dC, dI) vwCl (wMo g q (m_cmM M x1 x2 x3 x4)) H := by rw [(show (m_cmM M x1 x2 x3 x4) = mset (mset M 0 7 L) 0 8 (x2 + k) from by unfold m_cmM; first | (rw [if_pos (hs.trans (srI_end (by omega)))]; done) | (rw [if_neg (by rw [ek]; omega), ek, eL]))]; exact hP
                  have hDf : va_D A (wMo g q (m_cmM M x1 x2 x3 x4)) := by rw [(show (m_cmM M x1 x2 x3 x4) = mset (mset M 0 7 L) 0 8 (x2 + k) from by unfold m_cmM; first | (rw [if_pos (hs.trans (srI_end (by omega)))]; done) | (rw [if_neg (by rw [ek]; omega), ek, eL]))]; exact hD
                  exact W.zret hx hb hr rfl (fun t9 ht9 hW9 => ⟨⟨_, (), rfl, congrArg zI (bz_t (by rw [ek]; omega)).symm, by rw [ht9]; exact hPf, va_K.moved hW9.alike hK, hDf⟩, hS.F ht9⟩) hS.2.2 dX6_comes_96
      · exact ⟨(show 0 ≤ 0 ∧ 0 ≤ M 1 0 from by omega), (show m_cm (M 1) x1 x2 x3 x4 k = srI (m_cmP (M 1) x1 x2 x3 x4 k) (M 1 0) 0 from rfl), lv_sub hl [1, 2, 3, 4, 5, 6, 0] rfl⟩
  · exact ⟨(show 0 ≤ 0 ∧ 0 ≤ 200 from by omega), (show m_ck (M 1) x1 x2 x3 x4 = srI (m_ckP (M 1) x1 x2 x3 x4) 200 0 from rfl), lv_sub hl [1, 2, 3, 4, 5, 0] rfl⟩
