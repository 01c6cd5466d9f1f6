set_option maxHeartbeats 4000000 in
set_option maxRecDepth 100000 in
theorem kX5_isWithin (l : Launch) (dC : Nat → ClassId) (dI : Nat → Nat → Nat) (g : Nat → ClassId) (tt : Nat → Nat) (x1 x2 x3 : Int) (h1 : rI x1 ∧ rI x2 ∧ rI x3) : Met l yX5_isWithin wsX5_isWithin ({ frames := 0, cells := 0, slots := 0, locals := 0 }) (va_Pc [.int (zI x1), .int (zI x2), .int (zI x3)] (eS (dC, dI) (wTy g) ([]) tt)) (vp_Si (fun r => r = zI (bz (x2 ≤ x1 ∧ x1 ≤ x3)))) 0 0 (fun _ => False) := by
  refine Met.ofW (cc := cX5_isWithin) (maxL := 3) (ret := (some .boolean)) (by decide) rfl ?_
  intro p e s m args below meth c s₁ B hml hv
  obtain ⟨rfl, hP, hK, hT⟩ := hv
  have hx := B.exec
  have hb := B.bytes
  have hr := B.returns
  have hts := atoms_spec (ws := wsX5_isWithin) B.pre
  have hown : s.vm.findClass RX5 = some m.cls := findClass_of_methodNamed B.named
  have hlocks := B.notSynchronized
  have hS : va_S (fun _ : Nat => False) s.heap s.heap [] := va_S.rf
  have hl := lv_entry ([.int (zI x1), .int (zI x2), .int (zI x3)]) (n := 3) (Nat.le_of_ble_eq_true rfl)
  rw [lg_entry_eq]
  generalize (lg_sl ([.int (zI x1), .int (zI x2), .int (zI x3)]) ++ List.replicate (3 - (lg_sl ([.int (zI x1), .int (zI x2), .int (zI x3)])).length) Slot.unset).toArray = ls at hl ⊢
  have hl : lv_has ls 3 [(0, .int (zI x1)), (1, .int (zI x2)), (2, .int (zI x3))] := hl
  refine lv_iload_n hx hb dX5_isWithin_0 rfl (lv_at hl 0 rfl) ?_
  refine lv_iload_n hx hb dX5_isWithin_1 rfl (lv_at hl 1 rfl) ?_
  refine q_icmp_lt (tgt := 14) hx hb dX5_isWithin_2 (by decide) (by omega) (fun c_1 => ?_) (fun c_1 => ?_)
  · refine q_iconst hx hb dX5_isWithin_14 ?_
    exact W.zret hx hb hr rfl (fun t9 ht9 hW9 => ⟨_, rfl, congrArg zI (bz_f (by omega)).symm, ht9⟩) hS.2.2 dX5_isWithin_15
  · refine lv_iload_n hx hb dX5_isWithin_5 rfl (lv_at hl 0 rfl) ?_
    refine lv_iload_n hx hb dX5_isWithin_6 rfl (lv_at hl 2 rfl) ?_
    refine q_icmp_gt (tgt := 14) hx hb dX5_isWithin_7 (by decide) (by omega) (fun c_2 => ?_) (fun c_2 => ?_)
    · refine q_iconst hx hb dX5_isWithin_14 ?_
      exact W.zret hx hb hr rfl (fun t9 ht9 hW9 => ⟨_, rfl, congrArg zI (bz_f (by omega)).symm, ht9⟩) hS.2.2 dX5_isWithin_15
    · refine q_iconst hx hb dX5_isWithin_10 ?_
      refine lv_goto (tgt := 15) hx hb dX5_isWithin_11 (by decide) ?_
      exact W.zret hx hb hr rfl (fun t9 ht9 hW9 => ⟨_, rfl, congrArg zI (bz_t (by omega)).symm, ht9⟩) hS.2.2 dX5_isWithin_15
set_option maxHeartbeats 4000000 in
set_option maxRecDepth 100000 in
theorem kX3_add (l : Launch) (dC : Nat → ClassId) (dI : Nat → Nat → Nat) (g : Nat → ClassId) (tt : Nat → Nat) (sz : Nat) (q : Nat → Nat) (tx tz : Int → Int) (x1 : Int) (hL : 0 ≤ tz 0 ∧ tz 0 ≤ 150) (h1 : 0 ≤ x1 ∧ x1 ≤ 127) : Met l yX3_add wsX3_add ({ frames := 0, cells := 0, slots := 0, locals := 0 }) (va_Pc [.ref (q 0), .int (zI x1)] (eQ (dC, dI) (wTy g) (wTx g q tx tz) tt sz)) (va_Qv (fun (_ : Unit) => True) (fQ (dC, dI) (wTy g) (va_A (wTx g q tx tz) sz) (wTx g q (if 150 ≤ tz 0 then tx else wset tx (tz 0) x1) (if 150 ≤ tz 0 then tz else wset tz 0 (tz 0 + 1)))) (va_A (wTx g q tx tz) sz)) 0 0 (va_A (wTx g q tx tz) sz) := by
  refine Met.ofW (cc := cX3_add) (maxL := 2) (ret := none) (by decide) rfl ?_
  intro p e s m args below meth c s₁ B hml hv
  obtain ⟨rfl, hsz, hP, hK, hD0, hT⟩ := hv
  have hx := B.exec
  have hb := B.bytes
  have hr := B.returns
  have hts := atoms_spec (ws := wsX3_add) B.pre
  have hown : s.vm.findClass RX3 = some m.cls := findClass_of_methodNamed B.named
  have hlocks := B.notSynchronized
  subst hsz
  have hD := hD0.self (sz := s.heap.size)
  generalize hAe : va_A (wTx g q tx tz) s.heap.size = A at hD hT ⊢
  have hA : ∀ q : Nat, s.heap.size ≤ q → A q := fun q h => by rw [← hAe]; exact Or.inr h
  have hS : va_S A s.heap s.heap [] := va_S.rf
  have hl := lv_entry ([.ref (q 0), .int (zI x1)]) (n := 2) (Nat.le_of_ble_eq_true rfl)
  rw [lg_entry_eq]
  generalize (lg_sl ([.ref (q 0), .int (zI x1)]) ++ List.replicate (2 - (lg_sl ([.ref (q 0), .int (zI x1)])).length) Slot.unset).toArray = ls at hl ⊢
  have hl : lv_has ls 2 [(0, .ref (q 0)), (1, .int (zI x1))] := hl
  have kf11 := hts (.fieldLink RX3 11 "WrongWay$Text" "bytes" "[B") (by decide +kernel)
  have kf15 := hts (.fieldLink RX3 15 "WrongWay$Text" "length" "I") (by decide +kernel)
  have iX3 := (fun w h => List.mem_cons_of_mem _ (List.mem_append_right _ h) : ∀ w ∈ u_ws RX3 TX3 6, w ∈ wsX3_add)
  refine lv_aload_n hx hb dX3_add_0 rfl (lv_at hl 0 rfl) ?_
  refine va_get (D := (dC, dI)) (ci := 2) (v := .int (zI (tz 0))) (C := RX3) (T := TX3) (N := 6) hx hb hts iX3 hown hK hP 0 rfl rfl 1 (by decide) kf15 (fun _ h9 => h9) rfl dX3_add_1 ?_
  refine q_sipush hx hb dX3_add_4 rfl ?_
  refine q_icmp_ge (tgt := 31) hx hb dX3_add_7 (by decide) (by omega) (fun c_1 => ?_) (fun c_1 => ?_)
  · have hPf : va_P (dC, dI) vwCl (wTx g q (if 150 ≤ tz 0 then tx else wset tx (tz 0) x1) (if 150 ≤ tz 0 then tz else wset tz 0 (tz 0 + 1))) s.heap := by rw [(show (if 150 ≤ tz 0 then tx else wset tx (tz 0) x1) = tx from if_pos c_1), (show (if 150 ≤ tz 0 then tz else wset tz 0 (tz 0 + 1)) = tz from if_pos c_1)]; exact hP
    have hDf : va_D A (wTx g q (if 150 ≤ tz 0 then tx else wset tx (tz 0) x1) (if 150 ≤ tz 0 then tz else wset tz 0 (tz 0 + 1))) := by rw [(show (if 150 ≤ tz 0 then tx else wset tx (tz 0) x1) = tx from if_pos c_1), (show (if 150 ≤ tz 0 then tz else wset tz 0 (tz 0 + 1)) = tz from if_pos c_1)]; exact hD
    exact W.vret hx hb hr (fun t9 ht9 hW9 => ⟨⟨(), rfl, trivial, by rw [ht9]; exact hPf, va_K.moved hW9.alike hK, hDf⟩, hS.F ht9⟩) hS.2.2 dX3_add_31
  · refine lv_aload_n hx hb dX3_add_10 rfl (lv_at hl 0 rfl) ?_
    refine va_get (D := (dC, dI)) (ci := 2) (v := .ref (q 1)) (C := RX3) (T := TX3) (N := 6) hx hb hts iX3 hown hK hP 0 rfl rfl 0 (by decide) kf11 (fun _ h9 => h9) rfl dX3_add_11 ?_
    refine lv_aload_n hx hb dX3_add_14 rfl (lv_at hl 0 rfl) ?_
    refine va_get (D := (dC, dI)) (ci := 2) (v := .int (zI (tz 0))) (C := RX3) (T := TX3) (N := 6) hx hb hts iX3 hown hK hP 0 rfl rfl 1 (by decide) kf15 (fun _ h9 => h9) rfl dX3_add_15 ?_
    refine lv_iload_n hx hb dX3_add_18 rfl (lv_at hl 1 rfl) ?_
    refine q_i2b hx hb dX3_add_19 (by omega) ?_
    refine q_bast (F := fun k => tx k) (v := x1) hx hb hK hP hD hS 1 1 rfl rfl (by decide) (by omega) (by omega) dX3_add_20 (fun H locs hP hD hS => ?_)
    have hP : va_P (dC, dI) vwCl (wTx g q (wset tx (tz 0) x1) tz) H := hP
    have hD : va_D A (wTx g q (wset tx (tz 0) x1) tz) := hD
    refine lv_aload_n hx hb dX3_add_21 rfl (lv_at hl 0 rfl) ?_
    refine lv_dup hx hb dX3_add_22 rfl ?_
    refine va_get (D := (dC, dI)) (ci := 2) (v := .int (zI (tz 0))) (C := RX3) (T := TX3) (N := 6) hx hb hts iX3 hown hK hP 0 rfl rfl 1 (by decide) kf15 (fun _ h9 => h9) rfl dX3_add_23 ?_
    refine q_iconst hx hb dX3_add_26 ?_
    refine q_iadd hx hb dX3_add_27 ?_
    refine va_put (D := (dC, dI)) (ci := 2) (v := .int (zI ((tz 0) + 1))) (ty := .int) (C := RX3) (T := TX3) (N := 6) hx hb hts iX3 tyX3 tyX3_ok nmX3 hown hK hP hD hS 0 rfl rfl 1 (by decide) kf15 (fun _ h9 => h9) rfl (by decide +kernel) rfl rfl (Nat.le_of_ble_eq_true rfl) dX3_add_28 (fun H locs hP hD hS => ?_)
    have hP : va_P (dC, dI) vwCl (wTx g q (wset tx (tz 0) x1) (wset tz 0 ((tz 0) + 1))) H := hP
    have hD : va_D A (wTx g q (wset tx (tz 0) x1) (wset tz 0 ((tz 0) + 1))) := hD
    have hPf : va_P (dC, dI) vwCl (wTx g q (if 150 ≤ tz 0 then tx else wset tx (tz 0) x1) (if 150 ≤ tz 0 then tz else wset tz 0 (tz 0 + 1))) H := by rw [(show (if 150 ≤ tz 0 then tx else wset tx (tz 0) x1) = wset tx (tz 0) x1 from if_neg c_1), (show (if 150 ≤ tz 0 then tz else wset tz 0 (tz 0 + 1)) = wset tz 0 ((tz 0) + 1) from if_neg c_1)]; exact hP
    have hDf : va_D A (wTx g q (if 150 ≤ tz 0 then tx else wset tx (tz 0) x1) (if 150 ≤ tz 0 then tz else wset tz 0 (tz 0 + 1))) := by rw [(show (if 150 ≤ tz 0 then tx else wset tx (tz 0) x1) = wset tx (tz 0) x1 from if_neg c_1), (show (if 150 ≤ tz 0 then tz else wset tz 0 (tz 0 + 1)) = wset tz 0 ((tz 0) + 1) from if_neg c_1)]; exact hD
    exact W.vret hx hb hr (fun t9 ht9 hW9 => ⟨⟨(), rfl, trivial, by rw [ht9]; exact hPf, va_K.moved hW9.alike hK, hDf⟩, hS.F ht9⟩) hS.2.2 dX3_add_31
set_option maxHeartbeats 4000000 in
set_option maxRecDepth 100000 in
theorem kX3_isLetter (l : Launch) (dC : Nat → ClassId) (dI : Nat → Nat → Nat) (g : Nat → ClassId) (tt : Nat → Nat) (x1 : Int) (h1 : -128 ≤ x1 ∧ x1 ≤ 127) : Met l yX3_isLetter wsX3_isLetter ({ frames := 0, cells := 0, slots := 0, locals := 0 }) (va_Pc [.int (zI x1)] (eS (dC, dI) (wTy g) ([]) tt)) (vp_Si (fun r => r = zI (bz (97 ≤ x1 ∧ x1 ≤ 122)))) 0 0 (fun _ => False) := by
  refine Met.ofW (cc := cX3_isLetter) (maxL := 1) (ret := (some .boolean)) (by decide) rfl ?_
  intro p e s m args below meth c s₁ B hml hv
  obtain ⟨rfl, hP, hK, hT⟩ := hv
  have hx := B.exec
  have hb := B.bytes
  have hr := B.returns
  have hts := atoms_spec (ws := wsX3_isLetter) B.pre
  have hown : s.vm.findClass RX3 = some m.cls := findClass_of_methodNamed B.named
  have hlocks := B.notSynchronized
  have hS : va_S (fun _ : Nat => False) s.heap s.heap [] := va_S.rf
  have hl := lv_entry ([.int (zI x1)]) (n := 1) (Nat.le_of_ble_eq_true rfl)
  rw [lg_entry_eq]
  generalize (lg_sl ([.int (zI x1)]) ++ List.replicate (1 - (lg_sl ([.int (zI x1)])).length) Slot.unset).toArray = ls at hl ⊢
  have hl : lv_has ls 1 [(0, .int (zI x1))] := hl
  refine lv_iload_n hx hb dX3_isLetter_0 rfl (lv_at hl 0 rfl) ?_
  refine q_bipush hx hb dX3_isLetter_1 rfl ?_
  refine q_icmp_lt (tgt := 16) hx hb dX3_isLetter_3 (by decide) (by omega) (fun c_1 => ?_) (fun c_1 => ?_)
  · refine q_iconst hx hb dX3_isLetter_16 ?_
    exact W.zret hx hb hr rfl (fun t9 ht9 hW9 => ⟨_, rfl, congrArg zI (bz_f (by omega)).symm, ht9⟩) hS.2.2 dX3_isLetter_17
  · refine lv_iload_n hx hb dX3_isLetter_6 rfl (lv_at hl 0 rfl) ?_
    refine q_bipush hx hb dX3_isLetter_7 rfl ?_
    refine q_icmp_gt (tgt := 16) hx hb dX3_isLetter_9 (by decide) (by omega) (fun c_2 => ?_) (fun c_2 => ?_)
    · refine q_iconst hx hb dX3_isLetter_16 ?_
      exact W.zret hx hb hr rfl (fun t9 ht9 hW9 => ⟨_, rfl, congrArg zI (bz_f (by omega)).symm, ht9⟩) hS.2.2 dX3_isLetter_17
    · refine q_iconst hx hb dX3_isLetter_12 ?_
      refine lv_goto (tgt := 17) hx hb dX3_isLetter_13 (by decide) ?_
      exact W.zret hx hb hr rfl (fun t9 ht9 hW9 => ⟨_, rfl, congrArg zI (bz_t (by omega)).symm, ht9⟩) hS.2.2 dX3_isLetter_17
set_option maxHeartbeats 4000000 in
set_option maxRecDepth 100000 in
theorem kX3_isFigure (l : Launch) (dC : Nat → ClassId) (dI : Nat → Nat → Nat) (g : Nat → ClassId) (tt : Nat → Nat) (x1 : Int) (h1 : -128 ≤ x1 ∧ x1 ≤ 127) : Met l yX3_isFigure wsX3_isFigure ({ frames := 0, cells := 0, slots := 0, locals := 0 }) (va_Pc [.int (zI x1)] (eS (dC, dI) (wTy g) ([]) tt)) (vp_Si (fun r => r = zI (bz (48 ≤ x1 ∧ x1 ≤ 57)))) 0 0 (fun _ => False) := by
  refine Met.ofW (cc := cX3_isFigure) (maxL := 1) (ret := (some .boolean)) (by decide) rfl ?_
  intro p e s m args below meth c s₁ B hml hv
  obtain ⟨rfl, hP, hK, hT⟩ := hv
  have hx := B.exec
  have hb := B.bytes
  have hr := B.returns
  have hts := atoms_spec (ws := wsX3_isFigure) B.pre
  have hown : s.vm.findClass RX3 = some m.cls := findClass_of_methodNamed B.named
  have hlocks := B.notSynchronized
  have hS : va_S (fun _ : Nat => False) s.heap s.heap [] := va_S.rf
  have hl := lv_entry ([.int (zI x1)]) (n := 1) (Nat.le_of_ble_eq_true rfl)
  rw [lg_entry_eq]
  generalize (lg_sl ([.int (zI x1)]) ++ List.replicate (1 - (lg_sl ([.int (zI x1)])).length) Slot.unset).toArray = ls at hl ⊢
  have hl : lv_has ls 1 [(0, .int (zI x1))] := hl
  refine lv_iload_n hx hb dX3_isFigure_0 rfl (lv_at hl 0 rfl) ?_
  refine q_bipush hx hb dX3_isFigure_1 rfl ?_
  refine q_icmp_lt (tgt := 16) hx hb dX3_isFigure_3 (by decide) (by omega) (fun c_1 => ?_) (fun c_1 => ?_)
  · refine q_iconst hx hb dX3_isFigure_16 ?_
    exact W.zret hx hb hr rfl (fun t9 ht9 hW9 => ⟨_, rfl, congrArg zI (bz_f (by omega)).symm, ht9⟩) hS.2.2 dX3_isFigure_17
  · refine lv_iload_n hx hb dX3_isFigure_6 rfl (lv_at hl 0 rfl) ?_
    refine q_bipush hx hb dX3_isFigure_7 rfl ?_
    refine q_icmp_gt (tgt := 16) hx hb dX3_isFigure_9 (by decide) (by omega) (fun c_2 => ?_) (fun c_2 => ?_)
    · refine q_iconst hx hb dX3_isFigure_16 ?_
      exact W.zret hx hb hr rfl (fun t9 ht9 hW9 => ⟨_, rfl, congrArg zI (bz_f (by omega)).symm, ht9⟩) hS.2.2 dX3_isFigure_17
    · refine q_iconst hx hb dX3_isFigure_12 ?_
      refine lv_goto (tgt := 17) hx hb dX3_isFigure_13 (by decide) ?_
      exact W.zret hx hb hr rfl (fun t9 ht9 hW9 => ⟨_, rfl, congrArg zI (bz_t (by omega)).symm, ht9⟩) hS.2.2 dX3_isFigure_17
set_option maxHeartbeats 4000000 in
set_option maxRecDepth 100000 in
theorem kX3_endOfWord (l : Launch) (dC : Nat → ClassId) (dI : Nat → Nat → Nat) (g : Nat → ClassId) (tt : Nat → Nat) (q : Nat → Nat) (tx tz : Int → Int) (x1 : Int) (ht : tok tx (tz 0)) (h1 : 0 ≤ x1 ∧ x1 ≤ tz 0) : Met l yX3_endOfWord wsX3_endOfWord ({ frames := 1, cells := 0, slots := 0, locals := 20 }) (va_Pc [.ref (q 0), .int (zI x1)] (eS (dC, dI) (wTy g) (wTx g q tx tz) tt)) (vp_Si (fun r => r = zI (skI (leP tx) (tz 0) x1))) 0 0 (fun _ => False) := by
  refine Met.ofW (cc := cX3_endOfWord) (maxL := 3) (ret := (some .int)) (by decide) rfl ?_
  intro p e s m args below meth c s₁ B hml hv
  obtain ⟨rfl, hP, hK, hT⟩ := hv
  have hx := B.exec
  have hb := B.bytes
  have hr := B.returns
  have hts := atoms_spec (ws := wsX3_endOfWord) B.pre
  have hown : s.vm.findClass RX3 = some m.cls := findClass_of_methodNamed B.named
  have hlocks := B.notSynchronized
  have hS : va_S (fun _ : Nat => False) s.heap s.heap [] := va_S.rf
  have hl := lv_entry ([.ref (q 0), .int (zI x1)]) (n := 3) (Nat.le_of_ble_eq_true rfl)
  rw [lg_entry_eq]
  generalize (lg_sl ([.ref (q 0), .int (zI x1)]) ++ List.replicate (3 - (lg_sl ([.ref (q 0), .int (zI x1)])).length) Slot.unset).toArray = ls at hl ⊢
  have hl : lv_has ls 3 [(0, .ref (q 0)), (1, .int (zI x1))] := hl
  have kf11 := hts (.fieldLink RX3 11 "WrongWay$Text" "bytes" "[B") (by decide +kernel)
  have kf15 := hts (.fieldLink RX3 15 "WrongWay$Text" "length" "I") (by decide +kernel)
  have iX3 := (fun w h => List.mem_cons_of_mem _ (List.mem_append_right _ h) : ∀ w ∈ u_ws RX3 TX3 6, w ∈ wsX3_endOfWord)
  have hL := ht.1
  refine lv_iload_n hx hb dX3_endOfWord_0 rfl (lv_at hl 1 rfl) ?_
  refine lv_istore_n (lv' := [(2, .int (zI x1)), (0, .ref (q 0)), (1, .int (zI x1))]) hx hb dX3_endOfWord_1 rfl hl (by decide) rfl (fun ls hl => ?_)
  refine w_loopP (σ := Int) (fun a9 ls => (x1 ≤ a9 ∧ a9 ≤ tz 0) ∧ (skI (leP tx) (tz 0) x1 = skI (leP tx) (tz 0) a9) ∧ lv_has ls 3 [(0, .ref (q 0)), (1, .int (zI x1)), (2, .int (zI a9))]) (fun a9 => (tz 0 - a9).toNat) ?_ (x1) ?_
  · rintro i ls ⟨hi, hs, hl⟩ ih2
    have hi : x1 ≤ i ∧ i ≤ tz 0 := hi
    have hs : skI (leP tx) (tz 0) x1 = skI (leP tx) (tz 0) i := hs
    have hl : lv_has ls 3 [(0, .ref (q 0)), (1, .int (zI x1)), (2, .int (zI i))] := hl
    refine lv_iload_n hx hb dX3_endOfWord_2 rfl (lv_at hl 2 rfl) ?_
    refine lv_aload_n hx hb dX3_endOfWord_3 rfl (lv_at hl 0 rfl) ?_
    refine va_get (D := (dC, dI)) (ci := 2) (v := .int (zI (tz 0))) (C := RX3) (T := TX3) (N := 6) hx hb hts iX3 hown hK hP 0 rfl rfl 1 (by decide) kf15 (fun _ h9 => h9) rfl dX3_endOfWord_4 ?_
    refine q_icmp_ge (tgt := 28) hx hb dX3_endOfWord_7 (by decide) (by omega) (fun c_1 => ?_) (fun c_1 => ?_)
    · refine lv_iload_n hx hb dX3_endOfWord_28 rfl (lv_at hl 2 rfl) ?_
      exact W.iret hx hb hr (fun t9 ht9 hW9 => ⟨_, rfl, congrArg zI (show i = skI (leP tx) (tz 0) x1 from by rw [hs, skI_end (by omega)]), ht9⟩) hS.2.2 dX3_endOfWord_29
    · have hb0 := ht.2 i (by omega) (by omega)
      refine lv_aload_n hx hb dX3_endOfWord_10 rfl (lv_at hl 0 rfl) ?_
      refine va_get (D := (dC, dI)) (ci := 2) (v := .ref (q 1)) (C := RX3) (T := TX3) (N := 6) hx hb hts iX3 hown hK hP 0 rfl rfl 0 (by decide) kf11 (fun _ h9 => h9) rfl dX3_endOfWord_11 ?_
      refine lv_iload_n hx hb dX3_endOfWord_14 rfl (lv_at hl 2 rfl) ?_
      refine q_bald (F := fun k => tx k) (v := tx i) hx hb hK hP 1 1 rfl rfl (by decide) (by omega) rfl dX3_endOfWord_15 ?_
      refine q_cSi (z := bz (97 ≤ (tx i) ∧ (tx i) ≤ 122)) (As := [.int (zI (tx i))]) (rest := []) ⟨hx, hb, hml, hown, hts⟩ (kX3_isLetter l dC dI g tt (tx i) (by omega)) (va_cwS 1 hts gX3_endOfWord_X3_isLetter rfl rfl rfl (by decide +kernel) ⟨Nat.le_of_ble_eq_true rfl, Nat.le_of_ble_eq_true rfl⟩) (hP.sub (ws' := []) [] rfl) hK hT hS rfl hl.1 rfl (Nat.le_of_ble_eq_true rfl) dX3_endOfWord_16 ⟨Nat.le_of_ble_eq_true rfl, Nat.le_of_ble_eq_true rfl⟩ ?_
      refine q_bz_eq (tgt := 28) hx hb dX3_endOfWord_19 (by decide) (fun c_2 => ?_) (fun c_2 => ?_)
      · refine lv_iload_n hx hb dX3_endOfWord_28 rfl (lv_at hl 2 rfl) ?_
        exact W.iret hx hb hr (fun t9 ht9 hW9 => ⟨_, rfl, congrArg zI (show i = skI (leP tx) (tz 0) x1 from by rw [hs, skI_stop (fun h9 => c_2 (of_decide_eq_true h9))]), ht9⟩) hS.2.2 dX3_endOfWord_29
      · refine lv_iinc (v := zI (i + 1)) (lv' := [(2, .int (zI (i + 1))), (0, .ref (q 0)), (1, .int (zI x1))]) hx hb dX3_endOfWord_22 hl (k := 2) rfl (zI_add _ _) (by decide) rfl (fun ls hl => ?_)
        refine lv_goto (tgt := 2) hx hb dX3_endOfWord_25 (by decide) ?_
        exact ih2 (i + 1) ls ⟨(show x1 ≤ (i + 1) ∧ (i + 1) ≤ tz 0 from by omega), (show skI (leP tx) (tz 0) x1 = skI (leP tx) (tz 0) (i + 1) from hs.trans (skI_next (by omega) (decide_eq_true c_2))), lv_sub hl [1, 2, 0] rfl⟩ (by show (tz 0 - (i + 1)).toNat < (tz 0 - i).toNat; omega)
  · exact ⟨(show x1 ≤ x1 ∧ x1 ≤ tz 0 from by omega), (show skI (leP tx) (tz 0) x1 = skI (leP tx) (tz 0) x1 from rfl), lv_sub hl [1, 2, 0] rfl⟩
set_option maxHeartbeats 4000000 in
set_option maxRecDepth 100000 in
theorem kX3_endOfNumber (l : Launch) (dC : Nat → ClassId) (dI : Nat → Nat → Nat) (g : Nat → ClassId) (tt : Nat → Nat) (q : Nat → Nat) (tx tz : Int → Int) (x1 : Int) (ht : tok tx (tz 0)) (h1 : 0 ≤ x1 ∧ x1 ≤ tz 0) : Met l yX3_endOfNumber wsX3_endOfNumber ({ frames := 1, cells := 0, slots := 0, locals := 20 }) (va_Pc [.ref (q 0), .int (zI x1)] (eS (dC, dI) (wTy g) (wTx g q tx tz) tt)) (vp_Si (fun r => r = zI (skI (fiP tx) (tz 0) x1))) 0 0 (fun _ => False) := by
  refine Met.ofW (cc := cX3_endOfNumber) (maxL := 3) (ret := (some .int)) (by decide) rfl ?_
  intro p e s m args below meth c s₁ B hml hv
  obtain ⟨rfl, hP, hK, hT⟩ := hv
  have hx := B.exec
  have hb := B.bytes
  have hr := B.returns
  have hts := atoms_spec (ws := wsX3_endOfNumber) B.pre
  have hown : s.vm.findClass RX3 = some m.cls := findClass_of_methodNamed B.named
  have hlocks := B.notSynchronized
  have hS : va_S (fun _ : Nat => False) s.heap s.heap [] := va_S.rf
  have hl := lv_entry ([.ref (q 0), .int (zI x1)]) (n := 3) (Nat.le_of_ble_eq_true rfl)
  rw [lg_entry_eq]
  generalize (lg_sl ([.ref (q 0), .int (zI x1)]) ++ List.replicate (3 - (lg_sl ([.ref (q 0), .int (zI x1)])).length) Slot.unset).toArray = ls at hl ⊢
  have hl : lv_has ls 3 [(0, .ref (q 0)), (1, .int (zI x1))] := hl
  have kf11 := hts (.fieldLink RX3 11 "WrongWay$Text" "bytes" "[B") (by decide +kernel)
  have kf15 := hts (.fieldLink RX3 15 "WrongWay$Text" "length" "I") (by decide +kernel)
  have iX3 := (fun w h => List.mem_cons_of_mem _ (List.mem_append_right _ h) : ∀ w ∈ u_ws RX3 TX3 6, w ∈ wsX3_endOfNumber)
  have hL := ht.1
  refine lv_iload_n hx hb dX3_endOfNumber_0 rfl (lv_at hl 1 rfl) ?_
  refine lv_istore_n (lv' := [(2, .int (zI x1)), (0, .ref (q 0)), (1, .int (zI x1))]) hx hb dX3_endOfNumber_1 rfl hl (by decide) rfl (fun ls hl => ?_)
  refine w_loopP (σ := Int) (fun a9 ls => (x1 ≤ a9 ∧ a9 ≤ tz 0) ∧ (skI (fiP tx) (tz 0) x1 = skI (fiP tx) (tz 0) a9) ∧ lv_has ls 3 [(0, .ref (q 0)), (1, .int (zI x1)), (2, .int (zI a9))]) (fun a9 => (tz 0 - a9).toNat) ?_ (x1) ?_
  · rintro i ls ⟨hi, hs, hl⟩ ih2
    have hi : x1 ≤ i ∧ i ≤ tz 0 := hi
    have hs : skI (fiP tx) (tz 0) x1 = skI (fiP tx) (tz 0) i := hs
    have hl : lv_has ls 3 [(0, .ref (q 0)), (1, .int (zI x1)), (2, .int (zI i))] := hl
    refine lv_iload_n hx hb dX3_endOfNumber_2 rfl (lv_at hl 2 rfl) ?_
    refine lv_aload_n hx hb dX3_endOfNumber_3 rfl (lv_at hl 0 rfl) ?_
    refine va_get (D := (dC, dI)) (ci := 2) (v := .int (zI (tz 0))) (C := RX3) (T := TX3) (N := 6) hx hb hts iX3 hown hK hP 0 rfl rfl 1 (by decide) kf15 (fun _ h9 => h9) rfl dX3_endOfNumber_4 ?_
    refine q_icmp_ge (tgt := 28) hx hb dX3_endOfNumber_7 (by decide) (by omega) (fun c_1 => ?_) (fun c_1 => ?_)
    · refine lv_iload_n hx hb dX3_endOfNumber_28 rfl (lv_at hl 2 rfl) ?_
      exact W.iret hx hb hr (fun t9 ht9 hW9 => ⟨_, rfl, congrArg zI (show i = skI (fiP tx) (tz 0) x1 from by rw [hs, skI_end (by omega)]), ht9⟩) hS.2.2 dX3_endOfNumber_29
    · have hb0 := ht.2 i (by omega) (by omega)
      refine lv_aload_n hx hb dX3_endOfNumber_10 rfl (lv_at hl 0 rfl) ?_
      refine va_get (D := (dC, dI)) (ci := 2) (v := .ref (q 1)) (C := RX3) (T := TX3) (N := 6) hx hb hts iX3 hown hK hP 0 rfl rfl 0 (by decide) kf11 (fun _ h9 => h9) rfl dX3_endOfNumber_11 ?_
      refine lv_iload_n hx hb dX3_endOfNumber_14 rfl (lv_at hl 2 rfl) ?_
      refine q_bald (F := fun k => tx k) (v := tx i) hx hb hK hP 1 1 rfl rfl (by decide) (by omega) rfl dX3_endOfNumber_15 ?_
      refine q_cSi (z := bz (48 ≤ (tx i) ∧ (tx i) ≤ 57)) (As := [.int (zI (tx i))]) (rest := []) ⟨hx, hb, hml, hown, hts⟩ (kX3_isFigure l dC dI g tt (tx i) (by omega)) (va_cwS 1 hts gX3_endOfNumber_X3_isFigure rfl rfl rfl (by decide +kernel) ⟨Nat.le_of_ble_eq_true rfl, Nat.le_of_ble_eq_true rfl⟩) (hP.sub (ws' := []) [] rfl) hK hT hS rfl hl.1 rfl (Nat.le_of_ble_eq_true rfl) dX3_endOfNumber_16 ⟨Nat.le_of_ble_eq_true rfl, Nat.le_of_ble_eq_true rfl⟩ ?_
      refine q_bz_eq (tgt := 28) hx hb dX3_endOfNumber_19 (by decide) (fun c_2 => ?_) (fun c_2 => ?_)
      · refine lv_iload_n hx hb dX3_endOfNumber_28 rfl (lv_at hl 2 rfl) ?_
        exact W.iret hx hb hr (fun t9 ht9 hW9 => ⟨_, rfl, congrArg zI (show i = skI (fiP tx) (tz 0) x1 from by rw [hs, skI_stop (fun h9 => c_2 (of_decide_eq_true h9))]), ht9⟩) hS.2.2 dX3_endOfNumber_29
      · refine lv_iinc (v := zI (i + 1)) (lv' := [(2, .int (zI (i + 1))), (0, .ref (q 0)), (1, .int (zI x1))]) hx hb dX3_endOfNumber_22 hl (k := 2) rfl (zI_add _ _) (by decide) rfl (fun ls hl => ?_)
        refine lv_goto (tgt := 2) hx hb dX3_endOfNumber_25 (by decide) ?_
        exact ih2 (i + 1) ls ⟨(show x1 ≤ (i + 1) ∧ (i + 1) ≤ tz 0 from by omega), (show skI (fiP tx) (tz 0) x1 = skI (fiP tx) (tz 0) (i + 1) from hs.trans (skI_next (by omega) (decide_eq_true c_2))), lv_sub hl [1, 2, 0] rfl⟩ (by show (tz 0 - (i + 1)).toNat < (tz 0 - i).toNat; omega)
  · exact ⟨(show x1 ≤ x1 ∧ x1 ≤ tz 0 from by omega), (show skI (fiP tx) (tz 0) x1 = skI (fiP tx) (tz 0) x1 from rfl), lv_sub hl [1, 2, 0] rfl⟩
set_option maxHeartbeats 4000000 in
set_option maxRecDepth 100000 in
theorem kX3_valueOf (l : Launch) (dC : Nat → ClassId) (dI : Nat → Nat → Nat) (g : Nat → ClassId) (tt : Nat → Nat) (q : Nat → Nat) (tx tz : Int → Int) (x1 x2 : Int) (ht : tok tx (tz 0)) (h1 : 0 ≤ x1 ∧ x1 ≤ x2 ∧ x2 ≤ tz 0) : Met l yX3_valueOf wsX3_valueOf ({ frames := 0, cells := 0, slots := 0, locals := 0 }) (va_Pc [.ref (q 0), .int (zI x1), .int (zI x2)] (eS (dC, dI) (wTy g) (wTx g q tx tz) tt)) (vp_Si (fun r => r = zI (t_vl tx x1 x2))) 0 0 (fun _ => False) := by
  refine Met.ofW (cc := cX3_valueOf) (maxL := 5) (ret := (some .int)) (by decide) rfl ?_
  intro p e s m args below meth c s₁ B hml hv
  obtain ⟨rfl, hP, hK, hT⟩ := hv
  have hx := B.exec
  have hb := B.bytes
  have hr := B.returns
  have hts := atoms_spec (ws := wsX3_valueOf) B.pre
  have hown : s.vm.findClass RX3 = some m.cls := findClass_of_methodNamed B.named
  have hlocks := B.notSynchronized
  have hS : va_S (fun _ : Nat => False) s.heap s.heap [] := va_S.rf
  have hl := lv_entry ([.ref (q 0), .int (zI x1), .int (zI x2)]) (n := 5) (Nat.le_of_ble_eq_true rfl)
  rw [lg_entry_eq]
  generalize (lg_sl ([.ref (q 0), .int (zI x1), .int (zI x2)]) ++ List.replicate (5 - (lg_sl ([.ref (q 0), .int (zI x1), .int (zI x2)])).length) Slot.unset).toArray = ls at hl ⊢
  have hl : lv_has ls 5 [(0, .ref (q 0)), (1, .int (zI x1)), (2, .int (zI x2))] := hl
  have kf11 := hts (.fieldLink RX3 11 "WrongWay$Text" "bytes" "[B") (by decide +kernel)
  have iX3 := (fun w h => List.mem_cons_of_mem _ (List.mem_append_right _ h) : ∀ w ∈ u_ws RX3 TX3 6, w ∈ wsX3_valueOf)
  have hL := ht.1
  refine lv_iload_n hx hb dX3_valueOf_0 rfl (lv_at hl 2 rfl) ?_
  refine lv_iload_n hx hb dX3_valueOf_1 rfl (lv_at hl 1 rfl) ?_
  refine q_isub hx hb dX3_valueOf_2 ?_
  refine q_iconst hx hb dX3_valueOf_3 ?_
  refine q_icmp_le (tgt := 9) hx hb dX3_valueOf_4 (by decide) (by omega) (fun c_1 => ?_) (fun c_1 => ?_)
  · refine q_iconst hx hb dX3_valueOf_9 ?_
    refine lv_istore_n (lv' := [(3, .int (zI 0)), (0, .ref (q 0)), (1, .int (zI x1)), (2, .int (zI x2))]) hx hb dX3_valueOf_10 rfl hl (by decide) rfl (fun ls hl => ?_)
    refine lv_iload_n hx hb dX3_valueOf_11 rfl (lv_at hl 2 rfl) ?_
    refine lv_istore (lv' := [(4, .int (zI x1)), (3, .int (zI 0)), (0, .ref (q 0)), (1, .int (zI x1)), (2, .int (zI x2))]) hx hb dX3_valueOf_12 hl (by decide) rfl (fun ls hl => ?_)
    refine w_loopP (σ := Int × Int) (fun a9 ls => (x1 ≤ a9.1 ∧ a9.1 ≤ x2) ∧ (a9.2 = itR (t_vlF tx x1) 0 (a9.1 - x1)) ∧ lv_has ls 5 [(0, .ref (q 0)), (1, .int (zI x1)), (2, .int (zI x2)), (3, .int (zI a9.2)), (4, .int (zI a9.1))]) (fun a9 => (x2 - a9.1).toNat) ?_ (x1, 0) ?_
    · rintro ⟨j, sm⟩ ls ⟨hj, hs, hl⟩ ih14
      have hj : x1 ≤ j ∧ j ≤ x2 := hj
      have hs : sm = itR (t_vlF tx x1) 0 (j - x1) := hs
      have hl : lv_has ls 5 [(0, .ref (q 0)), (1, .int (zI x1)), (2, .int (zI x2)), (3, .int (zI sm)), (4, .int (zI j))] := hl
      refine lv_iload hx hb dX3_valueOf_14 (lv_at hl 4 rfl) ?_
      refine lv_iload_n hx hb dX3_valueOf_16 rfl (lv_at hl 2 rfl) ?_
      refine q_icmp_ge (tgt := 42) hx hb dX3_valueOf_17 (by decide) (by omega) (fun c_2 => ?_) (fun c_2 => ?_)
      · refine lv_iload_n hx hb dX3_valueOf_42 rfl (lv_at hl 3 rfl) ?_
        exact W.iret hx hb hr (fun t9 ht9 hW9 => ⟨_, rfl, congrArg zI (show sm = t_vl tx x1 x2 from by unfold t_vl; rw [if_pos (by omega), hs, show j = x2 by omega]), ht9⟩) hS.2.2 dX3_valueOf_43
      · have hb0 := ht.2 j (by omega) (by omega)
        refine q_bipush hx hb dX3_valueOf_20 rfl ?_
        refine lv_iload_n hx hb dX3_valueOf_22 rfl (lv_at hl 3 rfl) ?_
        refine q_imul hx hb dX3_valueOf_23 ?_
        refine lv_aload_n hx hb dX3_valueOf_24 rfl (lv_at hl 0 rfl) ?_
        refine va_get (D := (dC, dI)) (ci := 2) (v := .ref (q 1)) (C := RX3) (T := TX3) (N := 6) hx hb hts iX3 hown hK hP 0 rfl rfl 0 (by decide) kf11 (fun _ h9 => h9) rfl dX3_valueOf_25 ?_
        refine lv_iload hx hb dX3_valueOf_28 (lv_at hl 4 rfl) ?_
        refine q_bald (F := fun k => tx k) (v := tx j) hx hb hK hP 1 1 rfl rfl (by decide) (by omega) rfl dX3_valueOf_30 ?_
        refine q_iadd hx hb dX3_valueOf_31 ?_
        refine q_bipush hx hb dX3_valueOf_32 rfl ?_
        refine q_isub hx hb dX3_valueOf_34 ?_
        refine lv_istore_n (lv' := [(3, .int (zI (((10 * sm) + (tx j)) - 48))), (0, .ref (q 0)), (1, .int (zI x1)), (2, .int (zI x2)), (4, .int (zI j))]) hx hb dX3_valueOf_35 rfl hl (by decide) rfl (fun ls hl => ?_)
        refine lv_iinc (v := zI (j + 1)) (lv' := [(4, .int (zI (j + 1))), (3, .int (zI (((10 * sm) + (tx j)) - 48))), (0, .ref (q 0)), (1, .int (zI x1)), (2, .int (zI x2))]) hx hb dX3_valueOf_36 hl (k := 4) rfl (zI_add _ _) (by decide) rfl (fun ls hl => ?_)
        refine lv_goto (tgt := 14) hx hb dX3_valueOf_39 (by decide) ?_
        exact ih14 (j + 1, ((10 * sm) + (tx j)) - 48) ls ⟨(show x1 ≤ (j + 1) ∧ (j + 1) ≤ x2 from by omega), (show (((10 * sm) + (tx j)) - 48) = itR (t_vlF tx x1) 0 ((j + 1) - x1) from by rw [show j + 1 - x1 = (j - x1) + 1 by omega, itR_s (by omega), ← hs]; unfold t_vlF; rw [show x1 + (j - x1) = j by omega]), lv_sub hl [2, 3, 4, 1, 0] rfl⟩ (by show (x2 - (j + 1)).toNat < (x2 - j).toNat; omega)
    · exact ⟨(show x1 ≤ x1 ∧ x1 ≤ x2 from by omega), (show 0 = itR (t_vlF tx x1) 0 (x1 - x1) from by rw [show x1 - x1 = 0 by omega]; rfl), lv_sub hl [2, 3, 4, 1, 0] rfl⟩
  · refine q_iconst hx hb dX3_valueOf_7 ?_
    exact W.iret hx hb hr (fun t9 ht9 hW9 => ⟨_, rfl, congrArg zI (show (-1) = t_vl tx x1 x2 from by unfold t_vl; rw [if_neg (by omega)]), ht9⟩) hS.2.2 dX3_valueOf_8
set_option maxHeartbeats 4000000 in
set_option maxRecDepth 100000 in
theorem kX3_nextToken (l : Launch) (dC : Nat → ClassId) (dI : Nat → Nat → Nat) (g : Nat → ClassId) (tt : Nat → Nat) (sz : Nat) (q : Nat → Nat) (tx tz : Int → Int) (ht : tsk tx tz) : Met l yX3_nextToken wsX3_nextToken ({ frames := 2, cells := 0, slots := 0, locals := 42 }) (va_Pc [.ref (q 0)] (eQ (dC, dI) (wTy g) (wTx g q tx tz) tt sz)) (va_Qv (fun (_ : Unit) => True) (fQ (dC, dI) (wTy g) (va_A (wTx g q tx tz) sz) (wTx g q tx (t_next tx tz))) (va_A (wTx g q tx tz) sz)) 0 0 (va_A (wTx g q tx tz) sz) := by
  refine Met.ofW (cc := cX3_nextToken) (maxL := 2) (ret := none) (by decide) rfl ?_
  intro p e s m args below meth c s₁ B hml hv
  obtain ⟨rfl, hsz, hP, hK, hD0, hT⟩ := hv
  have hx := B.exec
  have hb := B.bytes
  have hr := B.returns
  have hts := atoms_spec (ws := wsX3_nextToken) B.pre
  have hown : s.vm.findClass RX3 = some m.cls := findClass_of_methodNamed B.named
  have hlocks := B.notSynchronized
  subst hsz
  have hD := hD0.self (sz := s.heap.size)
  generalize hAe : va_A (wTx g q tx tz) s.heap.size = A at hD hT ⊢
  have hA : ∀ q : Nat, s.heap.size ≤ q → A q := fun q h => by rw [← hAe]; exact Or.inr h
  have hS : va_S A s.heap s.heap [] := va_S.rf
  have hl := lv_entry ([.ref (q 0)]) (n := 2) (Nat.le_of_ble_eq_true rfl)
  rw [lg_entry_eq]
  generalize (lg_sl ([.ref (q 0)]) ++ List.replicate (2 - (lg_sl ([.ref (q 0)])).length) Slot.unset).toArray = ls at hl ⊢
  have hl : lv_has ls 2 [(0, .ref (q 0))] := hl
  have kf11 := hts (.fieldLink RX3 11 "WrongWay$Text" "bytes" "[B") (by decide +kernel)
  have kf15 := hts (.fieldLink RX3 15 "WrongWay$Text" "length" "I") (by decide +kernel)
  have kf19 := hts (.fieldLink RX3 19 "WrongWay$Text" "tokenEnd" "I") (by decide +kernel)
  have kf29 := hts (.fieldLink RX3 29 "WrongWay$Text" "tokenStart" "I") (by decide +kernel)
  have kf32 := hts (.fieldLink RX3 32 "WrongWay$Text" "token" "I") (by decide +kernel)
  have kf50 := hts (.fieldLink RX3 50 "WrongWay$Text" "value" "I") (by decide +kernel)
  have iX3 := (fun w h => List.mem_cons_of_mem _ (List.mem_append_right _ h) : ∀ w ∈ u_ws RX3 TX3 6, w ∈ wsX3_nextToken)
  have hL := ht.1.1
  have hq1 := ht.2.1
  have hq4 := ht.2.2
  refine lv_aload_n hx hb dX3_nextToken_0 rfl (lv_at hl 0 rfl) ?_
  refine va_get (D := (dC, dI)) (ci := 2) (v := .int (zI (tz 3))) (C := RX3) (T := TX3) (N := 6) hx hb hts iX3 hown hK hP 0 rfl rfl 4 (by decide) kf19 (fun _ h9 => h9) rfl dX3_nextToken_1 ?_
  refine lv_istore_n (lv' := [(1, .int (zI (tz 3))), (0, .ref (q 0))]) hx hb dX3_nextToken_4 rfl hl (by decide) rfl (fun ls hl => ?_)
  refine w_loopP (σ := Int) (fun a9 ls => (tz 3 ≤ a9 ∧ a9 ≤ tz 0) ∧ (skI (blP tx) (tz 0) (tz 3) = skI (blP tx) (tz 0) a9) ∧ lv_has ls 2 [(0, .ref (q 0)), (1, .int (zI a9))]) (fun a9 => (tz 0 - a9).toNat) ?_ (tz 3) ?_
  · rintro i ls ⟨hi, hs, hl⟩ ih5
    have hi : tz 3 ≤ i ∧ i ≤ tz 0 := hi
    have hs : skI (blP tx) (tz 0) (tz 3) = skI (blP tx) (tz 0) i := hs
    have hl : lv_has ls 2 [(0, .ref (q 0)), (1, .int (zI i))] := hl
    refine lv_iload_n hx hb dX3_nextToken_5 rfl (lv_at hl 1 rfl) ?_
    refine lv_aload_n hx hb dX3_nextToken_6 rfl (lv_at hl 0 rfl) ?_
    refine va_get (D := (dC, dI)) (ci := 2) (v := .int (zI (tz 0))) (C := RX3) (T := TX3) (N := 6) hx hb hts iX3 hown hK hP 0 rfl rfl 1 (by decide) kf15 (fun _ h9 => h9) rfl dX3_nextToken_7 ?_
    refine q_icmp_ge (tgt := 30) hx hb dX3_nextToken_10 (by decide) (by omega) (fun c_1 => ?_) (fun c_1 => ?_)
    · have he : skI (blP tx) (tz 0) (tz 3) = i := by first | exact hs.trans (skI_end (by omega)) | exact hs.trans (skI_stop (by unfold blP; simp only [decide_eq_true_eq]; omega))
      refine lv_aload_n hx hb dX3_nextToken_30 rfl (lv_at hl 0 rfl) ?_
      refine lv_iload_n hx hb dX3_nextToken_31 rfl (lv_at hl 1 rfl) ?_
      refine va_put (D := (dC, dI)) (ci := 2) (v := .int (zI i)) (ty := .int) (C := RX3) (T := TX3) (N := 6) hx hb hts iX3 tyX3 tyX3_ok nmX3 hown hK hP hD hS 0 rfl rfl 3 (by decide) kf29 (fun _ h9 => h9) rfl (by decide +kernel) rfl rfl (Nat.le_of_ble_eq_true rfl) dX3_nextToken_32 (fun H locs hP hD hS => ?_)
      have hP : va_P (dC, dI) vwCl (wTx g q tx (wset tz 2 i)) H := hP
      have hD : va_D A (wTx g q tx (wset tz 2 i)) := hD
      refine lv_iload_n hx hb dX3_nextToken_35 rfl (lv_at hl 1 rfl) ?_
      refine lv_aload_n hx hb dX3_nextToken_36 rfl (lv_at hl 0 rfl) ?_
      refine va_get (D := (dC, dI)) (ci := 2) (v := .int (zI (tz 0))) (C := RX3) (T := TX3) (N := 6) hx hb hts iX3 hown hK hP 0 rfl rfl 1 (by decide) kf15 (fun _ h9 => h9) rfl dX3_nextToken_37 ?_
      refine q_icmp_lt (tgt := 51) hx hb dX3_nextToken_40 (by decide) (by omega) (fun c_2 => ?_) (fun c_2 => ?_)
      · have hby := ht.1.2 i (by omega) (by omega)
        refine lv_aload_n hx hb dX3_nextToken_51 rfl (lv_at hl 0 rfl) ?_
        refine va_get (D := (dC, dI)) (ci := 2) (v := .ref (q 1)) (C := RX3) (T := TX3) (N := 6) hx hb hts iX3 hown hK hP 0 rfl rfl 0 (by decide) kf11 (fun _ h9 => h9) rfl dX3_nextToken_52 ?_
        refine lv_iload_n hx hb dX3_nextToken_55 rfl (lv_at hl 1 rfl) ?_
        refine q_bald (F := fun k => tx k) (v := tx i) hx hb hK hP 1 1 rfl rfl (by decide) (by omega) rfl dX3_nextToken_56 ?_
        refine q_cSi (z := bz (97 ≤ (tx i) ∧ (tx i) ≤ 122)) (As := [.int (zI (tx i))]) (rest := []) ⟨hx, hb, hml, hown, hts⟩ (kX3_isLetter l dC dI g tt (tx i) (by omega)) (va_cwS 1 hts gX3_nextToken_X3_isLetter rfl rfl rfl (by decide +kernel) ⟨Nat.le_of_ble_eq_true rfl, Nat.le_of_ble_eq_true rfl⟩) (hP.sub (ws' := []) [] rfl) hK hT hS rfl hl.1 rfl (Nat.le_of_ble_eq_true rfl) dX3_nextToken_57 ⟨Nat.le_of_ble_eq_true rfl, Nat.le_of_ble_eq_true rfl⟩ ?_
        refine q_bz_eq (tgt := 77) hx hb dX3_nextToken_60 (by decide) (fun c_3 => ?_) (fun c_3 => ?_)
        · have hby := ht.1.2 i (by omega) (by omega)
          refine lv_aload_n hx hb dX3_nextToken_77 rfl (lv_at hl 0 rfl) ?_
          refine va_get (D := (dC, dI)) (ci := 2) (v := .ref (q 1)) (C := RX3) (T := TX3) (N := 6) hx hb hts iX3 hown hK hP 0 rfl rfl 0 (by decide) kf11 (fun _ h9 => h9) rfl dX3_nextToken_78 ?_
          refine lv_iload_n hx hb dX3_nextToken_81 rfl (lv_at hl 1 rfl) ?_
          refine q_bald (F := fun k => tx k) (v := tx i) hx hb hK hP 1 1 rfl rfl (by decide) (by omega) rfl dX3_nextToken_82 ?_
          refine q_cSi (z := bz (48 ≤ (tx i) ∧ (tx i) ≤ 57)) (As := [.int (zI (tx i))]) (rest := []) ⟨hx, hb, hml, hown, hts⟩ (kX3_isFigure l dC dI g tt (tx i) (by omega)) (va_cwS 1 hts gX3_nextToken_X3_isFigure rfl rfl rfl (by decide +kernel) ⟨Nat.le_of_ble_eq_true rfl, Nat.le_of_ble_eq_true rfl⟩) (hP.sub (ws' := []) [] rfl) hK hT hS rfl hl.1 rfl (Nat.le_of_ble_eq_true rfl) dX3_nextToken_83 ⟨Nat.le_of_ble_eq_true rfl, Nat.le_of_ble_eq_true rfl⟩ ?_
          refine q_bz_eq (tgt := 116) hx hb dX3_nextToken_86 (by decide) (fun c_4 => ?_) (fun c_4 => ?_)
          · have hby := ht.1.2 i (by omega) (by omega)
            refine lv_aload_n hx hb dX3_nextToken_116 rfl (lv_at hl 0 rfl) ?_
            refine lv_aload_n hx hb dX3_nextToken_117 rfl (lv_at hl 0 rfl) ?_
            refine va_get (D := (dC, dI)) (ci := 2) (v := .ref (q 1)) (C := RX3) (T := TX3) (N := 6) hx hb hts iX3 hown hK hP 0 rfl rfl 0 (by decide) kf11 (fun _ h9 => h9) rfl dX3_nextToken_118 ?_
            refine lv_iload_n hx hb dX3_nextToken_121 rfl (lv_at hl 1 rfl) ?_
            refine q_bald (F := fun k => tx k) (v := tx i) hx hb hK hP 1 1 rfl rfl (by decide) (by omega) rfl dX3_nextToken_122 ?_
            refine q_bipush hx hb dX3_nextToken_123 rfl ?_
            refine q_icmp_ne (tgt := 132) hx hb dX3_nextToken_125 (by decide) (by omega) (fun c_5 => ?_) (fun c_5 => ?_)
            · refine q_iconst hx hb dX3_nextToken_132 ?_
              refine va_put (D := (dC, dI)) (ci := 2) (v := .int (zI 4)) (ty := .int) (C := RX3) (T := TX3) (N := 6) hx hb hts iX3 tyX3 tyX3_ok nmX3 hown hK hP hD hS 0 rfl rfl 2 (by decide) kf32 (fun _ h9 => h9) rfl (by decide +kernel) rfl rfl (Nat.le_of_ble_eq_true rfl) dX3_nextToken_133 (fun H locs hP hD hS => ?_)
              have hP : va_P (dC, dI) vwCl (wTx g q tx (wset (wset tz 2 i) 1 4)) H := hP
              have hD : va_D A (wTx g q tx (wset (wset tz 2 i) 1 4)) := hD
              refine lv_iinc (v := zI (i + 1)) (lv' := [(1, .int (zI (i + 1))), (0, .ref (q 0))]) hx hb dX3_nextToken_136 hl (k := 1) rfl (zI_add _ _) (by decide) rfl (fun ls hl => ?_)
              refine lv_aload_n hx hb dX3_nextToken_139 rfl (lv_at hl 1 rfl) ?_
              refine lv_iload_n hx hb dX3_nextToken_140 rfl (lv_at hl 0 rfl) ?_
              refine va_put (D := (dC, dI)) (ci := 2) (v := .int (zI (i + 1))) (ty := .int) (C := RX3) (T := TX3) (N := 6) hx hb hts iX3 tyX3 tyX3_ok nmX3 hown hK hP hD hS 0 rfl rfl 4 (by decide) kf19 (fun _ h9 => h9) rfl (by decide +kernel) rfl rfl (Nat.le_of_ble_eq_true rfl) dX3_nextToken_141 (fun H locs hP hD hS => ?_)
              have hP : va_P (dC, dI) vwCl (wTx g q tx (wset (wset (wset tz 2 i) 1 4) 3 (i + 1))) H := hP
              have hD : va_D A (wTx g q tx (wset (wset (wset tz 2 i) 1 4) 3 (i + 1))) := hD
              have hPf : va_P (dC, dI) vwCl (wTx g q tx (t_next tx tz)) H := by rw [(show (t_next tx tz) = wset (wset (wset tz 2 i) 1 4) 3 (i + 1) from by unfold t_next t_st; rw [he]; unfold t_nx; (repeat' split) <;> first | rfl | (exfalso; omega))]; exact hP
              have hDf : va_D A (wTx g q tx (t_next tx tz)) := by rw [(show (t_next tx tz) = wset (wset (wset tz 2 i) 1 4) 3 (i + 1) from by unfold t_next t_st; rw [he]; unfold t_nx; (repeat' split) <;> first | rfl | (exfalso; omega))]; exact hD
              exact W.vret hx hb hr (fun t9 ht9 hW9 => ⟨⟨(), rfl, trivial, by rw [ht9]; exact hPf, va_K.moved hW9.alike hK, hDf⟩, hS.F ht9⟩) hS.2.2 dX3_nextToken_144
            · refine q_iconst hx hb dX3_nextToken_128 ?_
              refine lv_goto (tgt := 133) hx hb dX3_nextToken_129 (by decide) ?_
              refine va_put (D := (dC, dI)) (ci := 2) (v := .int (zI 3)) (ty := .int) (C := RX3) (T := TX3) (N := 6) hx hb hts iX3 tyX3 tyX3_ok nmX3 hown hK hP hD hS 0 rfl rfl 2 (by decide) kf32 (fun _ h9 => h9) rfl (by decide +kernel) rfl rfl (Nat.le_of_ble_eq_true rfl) dX3_nextToken_133 (fun H locs hP hD hS => ?_)
              have hP : va_P (dC, dI) vwCl (wTx g q tx (wset (wset tz 2 i) 1 3)) H := hP
              have hD : va_D A (wTx g q tx (wset (wset tz 2 i) 1 3)) := hD
              refine lv_iinc (v := zI (i + 1)) (lv' := [(1, .int (zI (i + 1))), (0, .ref (q 0))]) hx hb dX3_nextToken_136 hl (k := 1) rfl (zI_add _ _) (by decide) rfl (fun ls hl => ?_)
              refine lv_aload_n hx hb dX3_nextToken_139 rfl (lv_at hl 1 rfl) ?_
              refine lv_iload_n hx hb dX3_nextToken_140 rfl (lv_at hl 0 rfl) ?_
              refine va_put (D := (dC, dI)) (ci := 2) (v := .int (zI (i + 1))) (ty := .int) (C := RX3) (T := TX3) (N := 6) hx hb hts iX3 tyX3 tyX3_ok nmX3 hown hK hP hD hS 0 rfl rfl 4 (by decide) kf19 (fun _ h9 => h9) rfl (by decide +kernel) rfl rfl (Nat.le_of_ble_eq_true rfl) dX3_nextToken_141 (fun H locs hP hD hS => ?_)
              have hP : va_P (dC, dI) vwCl (wTx g q tx (wset (wset (wset tz 2 i) 1 3) 3 (i + 1))) H := hP
              have hD : va_D A (wTx g q tx (wset (wset (wset tz 2 i) 1 3) 3 (i + 1))) := hD
              have hPf : va_P (dC, dI) vwCl (wTx g q tx (t_next tx tz)) H := by rw [(show (t_next tx tz) = wset (wset (wset tz 2 i) 1 3) 3 (i + 1) from by unfold t_next t_st; rw [he]; unfold t_nx; (repeat' split) <;> first | rfl | (exfalso; omega))]; exact hP
              have hDf : va_D A (wTx g q tx (t_next tx tz)) := by rw [(show (t_next tx tz) = wset (wset (wset tz 2 i) 1 3) 3 (i + 1) from by unfold t_next t_st; rw [he]; unfold t_nx; (repeat' split) <;> first | rfl | (exfalso; omega))]; exact hD
              exact W.vret hx hb hr (fun t9 ht9 hW9 => ⟨⟨(), rfl, trivial, by rw [ht9]; exact hPf, va_K.moved hW9.alike hK, hDf⟩, hS.F ht9⟩) hS.2.2 dX3_nextToken_144
          · refine lv_aload_n hx hb dX3_nextToken_89 rfl (lv_at hl 0 rfl) ?_
            refine q_iconst hx hb dX3_nextToken_90 ?_
            refine va_put (D := (dC, dI)) (ci := 2) (v := .int (zI 2)) (ty := .int) (C := RX3) (T := TX3) (N := 6) hx hb hts iX3 tyX3 tyX3_ok nmX3 hown hK hP hD hS 0 rfl rfl 2 (by decide) kf32 (fun _ h9 => h9) rfl (by decide +kernel) rfl rfl (Nat.le_of_ble_eq_true rfl) dX3_nextToken_91 (fun H locs hP hD hS => ?_)
            have hP : va_P (dC, dI) vwCl (wTx g q tx (wset (wset tz 2 i) 1 2)) H := hP
            have hD : va_D A (wTx g q tx (wset (wset tz 2 i) 1 2)) := hD
            refine lv_aload_n hx hb dX3_nextToken_94 rfl (lv_at hl 0 rfl) ?_
            refine lv_iload_n hx hb dX3_nextToken_95 rfl (lv_at hl 1 rfl) ?_
            refine q_cVi (z := skI (fiP tx) (tz 0) i) (b := (q 0)) (As := [.int (zI i)]) (rest := []) ⟨hx, hb, hml, hown, hts⟩ (kX3_endOfNumber l dC dI g tt q tx (wset (wset tz 2 i) 1 2) i (ht.1) (show 0 ≤ i ∧ i ≤ tz 0 from by omega)) (cwV 1 hts gX3_nextToken_X3_endOfNumber rfl rfl rfl (by decide +kernel) ⟨Nat.le_of_ble_eq_true rfl, Nat.le_of_ble_eq_true rfl⟩) hP hK hT hS 0 2 rfl rfl rfl rfl hl.1 rfl (Nat.le_of_ble_eq_true rfl) dX3_nextToken_96 ⟨Nat.le_of_ble_eq_true rfl, Nat.le_of_ble_eq_true rfl⟩ ?_
            have hsk := skI_r (P := fiP tx) (N := tz 0) (i := i) (by omega)
            refine lv_istore_n (lv' := [(1, .int (zI (skI (fiP tx) (tz 0) i))), (0, .ref (q 0))]) hx hb dX3_nextToken_99 rfl hl (by decide) rfl (fun ls hl => ?_)
            refine lv_aload_n hx hb dX3_nextToken_100 rfl (lv_at hl 1 rfl) ?_
            refine lv_aload_n hx hb dX3_nextToken_101 rfl (lv_at hl 1 rfl) ?_
            refine lv_aload_n hx hb dX3_nextToken_102 rfl (lv_at hl 1 rfl) ?_
            refine va_get (D := (dC, dI)) (ci := 2) (v := .int (zI i)) (C := RX3) (T := TX3) (N := 6) hx hb hts iX3 hown hK hP 0 rfl rfl 3 (by decide) kf29 (fun _ h9 => h9) rfl dX3_nextToken_103 ?_
            refine lv_iload_n hx hb dX3_nextToken_106 rfl (lv_at hl 0 rfl) ?_
            refine q_cVi (z := t_vl tx i (skI (fiP tx) (tz 0) i)) (b := (q 0)) (As := [.int (zI i), .int (zI (skI (fiP tx) (tz 0) i))]) (rest := [.ref (q 0)]) ⟨hx, hb, hml, hown, hts⟩ (kX3_valueOf l dC dI g tt q tx (wset (wset tz 2 i) 1 2) i (skI (fiP tx) (tz 0) i) (ht.1) (show 0 ≤ i ∧ i ≤ skI (fiP tx) (tz 0) i ∧ skI (fiP tx) (tz 0) i ≤ tz 0 from by omega)) (cwV 2 hts gX3_nextToken_X3_valueOf rfl rfl rfl (by decide +kernel) ⟨Nat.le_of_ble_eq_true rfl, Nat.le_of_ble_eq_true rfl⟩) hP hK hT hS 0 2 rfl rfl rfl rfl hl.1 rfl (Nat.le_of_ble_eq_true rfl) dX3_nextToken_107 ⟨Nat.le_of_ble_eq_true rfl, Nat.le_of_ble_eq_true rfl⟩ ?_
            refine va_put (D := (dC, dI)) (ci := 2) (v := .int (zI (t_vl tx i (skI (fiP tx) (tz 0) i)))) (ty := .int) (C := RX3) (T := TX3) (N := 6) hx hb hts iX3 tyX3 tyX3_ok nmX3 hown hK hP hD hS 0 rfl rfl 5 (by decide) kf50 (fun _ h9 => h9) rfl (by decide +kernel) rfl rfl (Nat.le_of_ble_eq_true rfl) dX3_nextToken_110 (fun H locs hP hD hS => ?_)
            have hP : va_P (dC, dI) vwCl (wTx g q tx (wset (wset (wset tz 2 i) 1 2) 4 (t_vl tx i (skI (fiP tx) (tz 0) i)))) H := hP
            have hD : va_D A (wTx g q tx (wset (wset (wset tz 2 i) 1 2) 4 (t_vl tx i (skI (fiP tx) (tz 0) i)))) := hD
            refine lv_goto (tgt := 139) hx hb dX3_nextToken_113 (by decide) ?_
            refine lv_aload_n hx hb dX3_nextToken_139 rfl (lv_at hl 1 rfl) ?_
            refine lv_iload_n hx hb dX3_nextToken_140 rfl (lv_at hl 0 rfl) ?_
            refine va_put (D := (dC, dI)) (ci := 2) (v := .int (zI (skI (fiP tx) (tz 0) i))) (ty := .int) (C := RX3) (T := TX3) (N := 6) hx hb hts iX3 tyX3 tyX3_ok nmX3 hown hK hP hD hS 0 rfl rfl 4 (by decide) kf19 (fun _ h9 => h9) rfl (by decide +kernel) rfl rfl (Nat.le_of_ble_eq_true rfl) dX3_nextToken_141 (fun H locs hP hD hS => ?_)
            have hP : va_P (dC, dI) vwCl (wTx g q tx (wset (wset (wset (wset tz 2 i) 1 2) 4 (t_vl tx i (skI (fiP tx) (tz 0) i))) 3 (skI (fiP tx) (tz 0) i))) H := hP
            have hD : va_D A (wTx g q tx (wset (wset (wset (wset tz 2 i) 1 2) 4 (t_vl tx i (skI (fiP tx) (tz 0) i))) 3 (skI (fiP tx) (tz 0) i))) := hD
            have hPf : va_P (dC, dI) vwCl (wTx g q tx (t_next tx tz)) H := by rw [(show (t_next tx tz) = wset (wset (wset (wset tz 2 i) 1 2) 4 (t_vl tx i (skI (fiP tx) (tz 0) i))) 3 (skI (fiP tx) (tz 0) i) from by unfold t_next t_st; rw [he]; unfold t_nx; (repeat' split) <;> first | rfl | (exfalso; omega))]; exact hP
            have hDf : va_D A (wTx g q tx (t_next tx tz)) := by rw [(show (t_next tx tz) = wset (wset (wset (wset tz 2 i) 1 2) 4 (t_vl tx i (skI (fiP tx) (tz 0) i))) 3 (skI (fiP tx) (tz 0) i) from by unfold t_next t_st; rw [he]; unfold t_nx; (repeat' split) <;> first | rfl | (exfalso; omega))]; exact hD
            exact W.vret hx hb hr (fun t9 ht9 hW9 => ⟨⟨(), rfl, trivial, by rw [ht9]; exact hPf, va_K.moved hW9.alike hK, hDf⟩, hS.F ht9⟩) hS.2.2 dX3_nextToken_144
        · refine lv_aload_n hx hb dX3_nextToken_63 rfl (lv_at hl 0 rfl) ?_
          refine q_iconst hx hb dX3_nextToken_64 ?_
          refine va_put (D := (dC, dI)) (ci := 2) (v := .int (zI 1)) (ty := .int) (C := RX3) (T := TX3) (N := 6) hx hb hts iX3 tyX3 tyX3_ok nmX3 hown hK hP hD hS 0 rfl rfl 2 (by decide) kf32 (fun _ h9 => h9) rfl (by decide +kernel) rfl rfl (Nat.le_of_ble_eq_true rfl) dX3_nextToken_65 (fun H locs hP hD hS => ?_)
          have hP : va_P (dC, dI) vwCl (wTx g q tx (wset (wset tz 2 i) 1 1)) H := hP
          have hD : va_D A (wTx g q tx (wset (wset tz 2 i) 1 1)) := hD
          refine lv_aload_n hx hb dX3_nextToken_68 rfl (lv_at hl 0 rfl) ?_
          refine lv_iload_n hx hb dX3_nextToken_69 rfl (lv_at hl 1 rfl) ?_
          refine q_cVi (z := skI (leP tx) (tz 0) i) (b := (q 0)) (As := [.int (zI i)]) (rest := []) ⟨hx, hb, hml, hown, hts⟩ (kX3_endOfWord l dC dI g tt q tx (wset (wset tz 2 i) 1 1) i (ht.1) (show 0 ≤ i ∧ i ≤ tz 0 from by omega)) (cwV 1 hts gX3_nextToken_X3_endOfWord rfl rfl rfl (by decide +kernel) ⟨Nat.le_of_ble_eq_true rfl, Nat.le_of_ble_eq_true rfl⟩) hP hK hT hS 0 2 rfl rfl rfl rfl hl.1 rfl (Nat.le_of_ble_eq_true rfl) dX3_nextToken_70 ⟨Nat.le_of_ble_eq_true rfl, Nat.le_of_ble_eq_true rfl⟩ ?_
          have hsk := skI_r (P := leP tx) (N := tz 0) (i := i) (by omega)
          refine lv_istore_n (lv' := [(1, .int (zI (skI (leP tx) (tz 0) i))), (0, .ref (q 0))]) hx hb dX3_nextToken_73 rfl hl (by decide) rfl (fun ls hl => ?_)
          refine lv_goto (tgt := 139) hx hb dX3_nextToken_74 (by decide) ?_
          refine lv_aload_n hx hb dX3_nextToken_139 rfl (lv_at hl 1 rfl) ?_
          refine lv_iload_n hx hb dX3_nextToken_140 rfl (lv_at hl 0 rfl) ?_
          refine va_put (D := (dC, dI)) (ci := 2) (v := .int (zI (skI (leP tx) (tz 0) i))) (ty := .int) (C := RX3) (T := TX3) (N := 6) hx hb hts iX3 tyX3 tyX3_ok nmX3 hown hK hP hD hS 0 rfl rfl 4 (by decide) kf19 (fun _ h9 => h9) rfl (by decide +kernel) rfl rfl (Nat.le_of_ble_eq_true rfl) dX3_nextToken_141 (fun H locs hP hD hS => ?_)
          have hP : va_P (dC, dI) vwCl (wTx g q tx (wset (wset (wset tz 2 i) 1 1) 3 (skI (leP tx) (tz 0) i))) H := hP
          have hD : va_D A (wTx g q tx (wset (wset (wset tz 2 i) 1 1) 3 (skI (leP tx) (tz 0) i))) := hD
          have hPf : va_P (dC, dI) vwCl (wTx g q tx (t_next tx tz)) H := by rw [(show (t_next tx tz) = wset (wset (wset tz 2 i) 1 1) 3 (skI (leP tx) (tz 0) i) from by unfold t_next t_st; rw [he]; unfold t_nx; (repeat' split) <;> first | rfl | (exfalso; omega))]; exact hP
          have hDf : va_D A (wTx g q tx (t_next tx tz)) := by rw [(show (t_next tx tz) = wset (wset (wset tz 2 i) 1 1) 3 (skI (leP tx) (tz 0) i) from by unfold t_next t_st; rw [he]; unfold t_nx; (repeat' split) <;> first | rfl | (exfalso; omega))]; exact hD
          exact W.vret hx hb hr (fun t9 ht9 hW9 => ⟨⟨(), rfl, trivial, by rw [ht9]; exact hPf, va_K.moved hW9.alike hK, hDf⟩, hS.F ht9⟩) hS.2.2 dX3_nextToken_144
      · refine lv_aload_n hx hb dX3_nextToken_43 rfl (lv_at hl 0 rfl) ?_
        refine q_iconst hx hb dX3_nextToken_44 ?_
        refine va_put (D := (dC, dI)) (ci := 2) (v := .int (zI 0)) (ty := .int) (C := RX3) (T := TX3) (N := 6) hx hb hts iX3 tyX3 tyX3_ok nmX3 hown hK hP hD hS 0 rfl rfl 2 (by decide) kf32 (fun _ h9 => h9) rfl (by decide +kernel) rfl rfl (Nat.le_of_ble_eq_true rfl) dX3_nextToken_45 (fun H locs hP hD hS => ?_)
        have hP : va_P (dC, dI) vwCl (wTx g q tx (wset (wset tz 2 i) 1 0)) H := hP
        have hD : va_D A (wTx g q tx (wset (wset tz 2 i) 1 0)) := hD
        refine lv_goto (tgt := 139) hx hb dX3_nextToken_48 (by decide) ?_
        refine lv_aload_n hx hb dX3_nextToken_139 rfl (lv_at hl 0 rfl) ?_
        refine lv_iload_n hx hb dX3_nextToken_140 rfl (lv_at hl 1 rfl) ?_
        refine va_put (D := (dC, dI)) (ci := 2) (v := .int (zI i)) (ty := .int) (C := RX3) (T := TX3) (N := 6) hx hb hts iX3 tyX3 tyX3_ok nmX3 hown hK hP hD hS 0 rfl rfl 4 (by decide) kf19 (fun _ h9 => h9) rfl (by decide +kernel) rfl rfl (Nat.le_of_ble_eq_true rfl) dX3_nextToken_141 (fun H locs hP hD hS => ?_)
        have hP : va_P (dC, dI) vwCl (wTx g q tx (wset (wset (wset tz 2 i) 1 0) 3 i)) H := hP
        have hD : va_D A (wTx g q tx (wset (wset (wset tz 2 i) 1 0) 3 i)) := hD
        have hPf : va_P (dC, dI) vwCl (wTx g q tx (t_next tx tz)) H := by rw [(show (t_next tx tz) = wset (wset (wset tz 2 i) 1 0) 3 i from by unfold t_next t_st; rw [he]; unfold t_nx; (repeat' split) <;> first | rfl | (exfalso; omega))]; exact hP
        have hDf : va_D A (wTx g q tx (t_next tx tz)) := by rw [(show (t_next tx tz) = wset (wset (wset tz 2 i) 1 0) 3 i from by unfold t_next t_st; rw [he]; unfold t_nx; (repeat' split) <;> first | rfl | (exfalso; omega))]; exact hD
        exact W.vret hx hb hr (fun t9 ht9 hW9 => ⟨⟨(), rfl, trivial, by rw [ht9]; exact hPf, va_K.moved hW9.alike hK, hDf⟩, hS.F ht9⟩) hS.2.2 dX3_nextToken_144
    · have hby := ht.1.2 i (by omega) (by omega)
      refine lv_aload_n hx hb dX3_nextToken_13 rfl (lv_at hl 0 rfl) ?_
      refine va_get (D := (dC, dI)) (ci := 2) (v := .ref (q 1)) (C := RX3) (T := TX3) (N := 6) hx hb hts iX3 hown hK hP 0 rfl rfl 0 (by decide) kf11 (fun _ h9 => h9) rfl dX3_nextToken_14 ?_
      refine lv_iload_n hx hb dX3_nextToken_17 rfl (lv_at hl 1 rfl) ?_
      refine q_bald (F := fun k => tx k) (v := tx i) hx hb hK hP 1 1 rfl rfl (by decide) (by omega) rfl dX3_nextToken_18 ?_
      refine q_bipush hx hb dX3_nextToken_19 rfl ?_
      refine q_icmp_ne (tgt := 30) hx hb dX3_nextToken_21 (by decide) (by omega) (fun c_6 => ?_) (fun c_6 => ?_)
      · have he : skI (blP tx) (tz 0) (tz 3) = i := by first | exact hs.trans (skI_end (by omega)) | exact hs.trans (skI_stop (by unfold blP; simp only [decide_eq_true_eq]; omega))
        refine lv_aload_n hx hb dX3_nextToken_30 rfl (lv_at hl 0 rfl) ?_
        refine lv_iload_n hx hb dX3_nextToken_31 rfl (lv_at hl 1 rfl) ?_
        refine va_put (D := (dC, dI)) (ci := 2) (v := .int (zI i)) (ty := .int) (C := RX3) (T := TX3) (N := 6) hx hb hts iX3 tyX3 tyX3_ok nmX3 hown hK hP hD hS 0 rfl rfl 3 (by decide) kf29 (fun _ h9 => h9) rfl (by decide +kernel) rfl rfl (Nat.le_of_ble_eq_true rfl) dX3_nextToken_32 (fun H locs hP hD hS => ?_)
        have hP : va_P (dC, dI) vwCl (wTx g q tx (wset tz 2 i)) H := hP
        have hD : va_D A (wTx g q tx (wset tz 2 i)) := hD
        refine lv_iload_n hx hb dX3_nextToken_35 rfl (lv_at hl 1 rfl) ?_
        refine lv_aload_n hx hb dX3_nextToken_36 rfl (lv_at hl 0 rfl) ?_
        refine va_get (D := (dC, dI)) (ci := 2) (v := .int (zI (tz 0))) (C := RX3) (T := TX3) (N := 6) hx hb hts iX3 hown hK hP 0 rfl rfl 1 (by decide) kf15 (fun _ h9 => h9) rfl dX3_nextToken_37 ?_
        refine q_icmp_lt (tgt := 51) hx hb dX3_nextToken_40 (by decide) (by omega) (fun c_7 => ?_) (fun c_7 => ?_)
        · have hby := ht.1.2 i (by omega) (by omega)
          refine lv_aload_n hx hb dX3_nextToken_51 rfl (lv_at hl 0 rfl) ?_
          refine va_get (D := (dC, dI)) (ci := 2) (v := .ref (q 1)) (C := RX3) (T := TX3) (N := 6) hx hb hts iX3 hown hK hP 0 rfl rfl 0 (by decide) kf11 (fun _ h9 => h9) rfl dX3_nextToken_52 ?_
          refine lv_iload_n hx hb dX3_nextToken_55 rfl (lv_at hl 1 rfl) ?_
          refine q_bald (F := fun k => tx k) (v := tx i) hx hb hK hP 1 1 rfl rfl (by decide) (by omega) rfl dX3_nextToken_56 ?_
          refine q_cSi (z := bz (97 ≤ (tx i) ∧ (tx i) ≤ 122)) (As := [.int (zI (tx i))]) (rest := []) ⟨hx, hb, hml, hown, hts⟩ (kX3_isLetter l dC dI g tt (tx i) (by omega)) (va_cwS 1 hts gX3_nextToken_X3_isLetter rfl rfl rfl (by decide +kernel) ⟨Nat.le_of_ble_eq_true rfl, Nat.le_of_ble_eq_true rfl⟩) (hP.sub (ws' := []) [] rfl) hK hT hS rfl hl.1 rfl (Nat.le_of_ble_eq_true rfl) dX3_nextToken_57 ⟨Nat.le_of_ble_eq_true rfl, Nat.le_of_ble_eq_true rfl⟩ ?_
          refine q_bz_eq (tgt := 77) hx hb dX3_nextToken_60 (by decide) (fun c_8 => ?_) (fun c_8 => ?_)
          · have hby := ht.1.2 i (by omega) (by omega)
            refine lv_aload_n hx hb dX3_nextToken_77 rfl (lv_at hl 0 rfl) ?_
            refine va_get (D := (dC, dI)) (ci := 2) (v := .ref (q 1)) (C := RX3) (T := TX3) (N := 6) hx hb hts iX3 hown hK hP 0 rfl rfl 0 (by decide) kf11 (fun _ h9 => h9) rfl dX3_nextToken_78 ?_
            refine lv_iload_n hx hb dX3_nextToken_81 rfl (lv_at hl 1 rfl) ?_
            refine q_bald (F := fun k => tx k) (v := tx i) hx hb hK hP 1 1 rfl rfl (by decide) (by omega) rfl dX3_nextToken_82 ?_
            refine q_cSi (z := bz (48 ≤ (tx i) ∧ (tx i) ≤ 57)) (As := [.int (zI (tx i))]) (rest := []) ⟨hx, hb, hml, hown, hts⟩ (kX3_isFigure l dC dI g tt (tx i) (by omega)) (va_cwS 1 hts gX3_nextToken_X3_isFigure rfl rfl rfl (by decide +kernel) ⟨Nat.le_of_ble_eq_true rfl, Nat.le_of_ble_eq_true rfl⟩) (hP.sub (ws' := []) [] rfl) hK hT hS rfl hl.1 rfl (Nat.le_of_ble_eq_true rfl) dX3_nextToken_83 ⟨Nat.le_of_ble_eq_true rfl, Nat.le_of_ble_eq_true rfl⟩ ?_
            refine q_bz_eq (tgt := 116) hx hb dX3_nextToken_86 (by decide) (fun c_9 => ?_) (fun c_9 => ?_)
            · have hby := ht.1.2 i (by omega) (by omega)
              refine lv_aload_n hx hb dX3_nextToken_116 rfl (lv_at hl 0 rfl) ?_
              refine lv_aload_n hx hb dX3_nextToken_117 rfl (lv_at hl 0 rfl) ?_
              refine va_get (D := (dC, dI)) (ci := 2) (v := .ref (q 1)) (C := RX3) (T := TX3) (N := 6) hx hb hts iX3 hown hK hP 0 rfl rfl 0 (by decide) kf11 (fun _ h9 => h9) rfl dX3_nextToken_118 ?_
              refine lv_iload_n hx hb dX3_nextToken_121 rfl (lv_at hl 1 rfl) ?_
              refine q_bald (F := fun k => tx k) (v := tx i) hx hb hK hP 1 1 rfl rfl (by decide) (by omega) rfl dX3_nextToken_122 ?_
              refine q_bipush hx hb dX3_nextToken_123 rfl ?_
              refine q_icmp_ne (tgt := 132) hx hb dX3_nextToken_125 (by decide) (by omega) (fun c_10 => ?_) (fun c_10 => ?_)
              · refine q_iconst hx hb dX3_nextToken_132 ?_
                refine va_put (D := (dC, dI)) (ci := 2) (v := .int (zI 4)) (ty := .int) (C := RX3) (T := TX3) (N := 6) hx hb hts iX3 tyX3 tyX3_ok nmX3 hown hK hP hD hS 0 rfl rfl 2 (by decide) kf32 (fun _ h9 => h9) rfl (by decide +kernel) rfl rfl (Nat.le_of_ble_eq_true rfl) dX3_nextToken_133 (fun H locs hP hD hS => ?_)
                have hP : va_P (dC, dI) vwCl (wTx g q tx (wset (wset tz 2 i) 1 4)) H := hP
                have hD : va_D A (wTx g q tx (wset (wset tz 2 i) 1 4)) := hD
                refine lv_iinc (v := zI (i + 1)) (lv' := [(1, .int (zI (i + 1))), (0, .ref (q 0))]) hx hb dX3_nextToken_136 hl (k := 1) rfl (zI_add _ _) (by decide) rfl (fun ls hl => ?_)
                refine lv_aload_n hx hb dX3_nextToken_139 rfl (lv_at hl 1 rfl) ?_
                refine lv_iload_n hx hb dX3_nextToken_140 rfl (lv_at hl 0 rfl) ?_
                refine va_put (D := (dC, dI)) (ci := 2) (v := .int (zI (i + 1))) (ty := .int) (C := RX3) (T := TX3) (N := 6) hx hb hts iX3 tyX3 tyX3_ok nmX3 hown hK hP hD hS 0 rfl rfl 4 (by decide) kf19 (fun _ h9 => h9) rfl (by decide +kernel) rfl rfl (Nat.le_of_ble_eq_true rfl) dX3_nextToken_141 (fun H locs hP hD hS => ?_)
                have hP : va_P (dC, dI) vwCl (wTx g q tx (wset (wset (wset tz 2 i) 1 4) 3 (i + 1))) H := hP
                have hD : va_D A (wTx g q tx (wset (wset (wset tz 2 i) 1 4) 3 (i + 1))) := hD
                have hPf : va_P (dC, dI) vwCl (wTx g q tx (t_next tx tz)) H := by rw [(show (t_next tx tz) = wset (wset (wset tz 2 i) 1 4) 3 (i + 1) from by unfold t_next t_st; rw [he]; unfold t_nx; (repeat' split) <;> first | rfl | (exfalso; omega))]; exact hP
                have hDf : va_D A (wTx g q tx (t_next tx tz)) := by rw [(show (t_next tx tz) = wset (wset (wset tz 2 i) 1 4) 3 (i + 1) from by unfold t_next t_st; rw [he]; unfold t_nx; (repeat' split) <;> first | rfl | (exfalso; omega))]; exact hD
                exact W.vret hx hb hr (fun t9 ht9 hW9 => ⟨⟨(), rfl, trivial, by rw [ht9]; exact hPf, va_K.moved hW9.alike hK, hDf⟩, hS.F ht9⟩) hS.2.2 dX3_nextToken_144
              · refine q_iconst hx hb dX3_nextToken_128 ?_
                refine lv_goto (tgt := 133) hx hb dX3_nextToken_129 (by decide) ?_
                refine va_put (D := (dC, dI)) (ci := 2) (v := .int (zI 3)) (ty := .int) (C := RX3) (T := TX3) (N := 6) hx hb hts iX3 tyX3 tyX3_ok nmX3 hown hK hP hD hS 0 rfl rfl 2 (by decide) kf32 (fun _ h9 => h9) rfl (by decide +kernel) rfl rfl (Nat.le_of_ble_eq_true rfl) dX3_nextToken_133 (fun H locs hP hD hS => ?_)
                have hP : va_P (dC, dI) vwCl (wTx g q tx (wset (wset tz 2 i) 1 3)) H := hP
                have hD : va_D A (wTx g q tx (wset (wset tz 2 i) 1 3)) := hD
                refine lv_iinc (v := zI (i + 1)) (lv' := [(1, .int (zI (i + 1))), (0, .ref (q 0))]) hx hb dX3_nextToken_136 hl (k := 1) rfl (zI_add _ _) (by decide) rfl (fun ls hl => ?_)
                refine lv_aload_n hx hb dX3_nextToken_139 rfl (lv_at hl 1 rfl) ?_
                refine lv_iload_n hx hb dX3_nextToken_140 rfl (lv_at hl 0 rfl) ?_
                refine va_put (D := (dC, dI)) (ci := 2) (v := .int (zI (i + 1))) (ty := .int) (C := RX3) (T := TX3) (N := 6) hx hb hts iX3 tyX3 tyX3_ok nmX3 hown hK hP hD hS 0 rfl rfl 4 (by decide) kf19 (fun _ h9 => h9) rfl (by decide +kernel) rfl rfl (Nat.le_of_ble_eq_true rfl) dX3_nextToken_141 (fun H locs hP hD hS => ?_)
                have hP : va_P (dC, dI) vwCl (wTx g q tx (wset (wset (wset tz 2 i) 1 3) 3 (i + 1))) H := hP
                have hD : va_D A (wTx g q tx (wset (wset (wset tz 2 i) 1 3) 3 (i + 1))) := hD
                have hPf : va_P (dC, dI) vwCl (wTx g q tx (t_next tx tz)) H := by rw [(show (t_next tx tz) = wset (wset (wset tz 2 i) 1 3) 3 (i + 1) from by unfold t_next t_st; rw [he]; unfold t_nx; (repeat' split) <;> first | rfl | (exfalso; omega))]; exact hP
                have hDf : va_D A (wTx g q tx (t_next tx tz)) := by rw [(show (t_next tx tz) = wset (wset (wset tz 2 i) 1 3) 3 (i + 1) from by unfold t_next t_st; rw [he]; unfold t_nx; (repeat' split) <;> first | rfl | (exfalso; omega))]; exact hD
                exact W.vret hx hb hr (fun t9 ht9 hW9 => ⟨⟨(), rfl, trivial, by rw [ht9]; exact hPf, va_K.moved hW9.alike hK, hDf⟩, hS.F ht9⟩) hS.2.2 dX3_nextToken_144
            · refine lv_aload_n hx hb dX3_nextToken_89 rfl (lv_at hl 0 rfl) ?_
              refine q_iconst hx hb dX3_nextToken_90 ?_
              refine va_put (D := (dC, dI)) (ci := 2) (v := .int (zI 2)) (ty := .int) (C := RX3) (T := TX3) (N := 6) hx hb hts iX3 tyX3 tyX3_ok nmX3 hown hK hP hD hS 0 rfl rfl 2 (by decide) kf32 (fun _ h9 => h9) rfl (by decide +kernel) rfl rfl (Nat.le_of_ble_eq_true rfl) dX3_nextToken_91 (fun H locs hP hD hS => ?_)
              have hP : va_P (dC, dI) vwCl (wTx g q tx (wset (wset tz 2 i) 1 2)) H := hP
              have hD : va_D A (wTx g q tx (wset (wset tz 2 i) 1 2)) := hD
              refine lv_aload_n hx hb dX3_nextToken_94 rfl (lv_at hl 0 rfl) ?_
              refine lv_iload_n hx hb dX3_nextToken_95 rfl (lv_at hl 1 rfl) ?_
              refine q_cVi (z := skI (fiP tx) (tz 0) i) (b := (q 0)) (As := [.int (zI i)]) (rest := []) ⟨hx, hb, hml, hown, hts⟩ (kX3_endOfNumber l dC dI g tt q tx (wset (wset tz 2 i) 1 2) i (ht.1) (show 0 ≤ i ∧ i ≤ tz 0 from by omega)) (cwV 1 hts gX3_nextToken_X3_endOfNumber rfl rfl rfl (by decide +kernel) ⟨Nat.le_of_ble_eq_true rfl, Nat.le_of_ble_eq_true rfl⟩) hP hK hT hS 0 2 rfl rfl rfl rfl hl.1 rfl (Nat.le_of_ble_eq_true rfl) dX3_nextToken_96 ⟨Nat.le_of_ble_eq_true rfl, Nat.le_of_ble_eq_true rfl⟩ ?_
              have hsk := skI_r (P := fiP tx) (N := tz 0) (i := i) (by omega)
              refine lv_istore_n (lv' := [(1, .int (zI (skI (fiP tx) (tz 0) i))), (0, .ref (q 0))]) hx hb dX3_nextToken_99 rfl hl (by decide) rfl (fun ls hl => ?_)
              refine lv_aload_n hx hb dX3_nextToken_100 rfl (lv_at hl 1 rfl) ?_
              refine lv_aload_n hx hb dX3_nextToken_101 rfl (lv_at hl 1 rfl) ?_
              refine lv_aload_n hx hb dX3_nextToken_102 rfl (lv_at hl 1 rfl) ?_
              refine va_get (D := (dC, dI)) (ci := 2) (v := .int (zI i)) (C := RX3) (T := TX3) (N := 6) hx hb hts iX3 hown hK hP 0 rfl rfl 3 (by decide) kf29 (fun _ h9 => h9) rfl dX3_nextToken_103 ?_
              refine lv_iload_n hx hb dX3_nextToken_106 rfl (lv_at hl 0 rfl) ?_
              refine q_cVi (z := t_vl tx i (skI (fiP tx) (tz 0) i)) (b := (q 0)) (As := [.int (zI i), .int (zI (skI (fiP tx) (tz 0) i))]) (rest := [.ref (q 0)]) ⟨hx, hb, hml, hown, hts⟩ (kX3_valueOf l dC dI g tt q tx (wset (wset tz 2 i) 1 2) i (skI (fiP tx) (tz 0) i) (ht.1) (show 0 ≤ i ∧ i ≤ skI (fiP tx) (tz 0) i ∧ skI (fiP tx) (tz 0) i ≤ tz 0 from by omega)) (cwV 2 hts gX3_nextToken_X3_valueOf rfl rfl rfl (by decide +kernel) ⟨Nat.le_of_ble_eq_true rfl, Nat.le_of_ble_eq_true rfl⟩) hP hK hT hS 0 2 rfl rfl rfl rfl hl.1 rfl (Nat.le_of_ble_eq_true rfl) dX3_nextToken_107 ⟨Nat.le_of_ble_eq_true rfl, Nat.le_of_ble_eq_true rfl⟩ ?_
              refine va_put (D := (dC, dI)) (ci := 2) (v := .int (zI (t_vl tx i (skI (fiP tx) (tz 0) i)))) (ty := .int) (C := RX3) (T := TX3) (N := 6) hx hb hts iX3 tyX3 tyX3_ok nmX3 hown hK hP hD hS 0 rfl rfl 5 (by decide) kf50 (fun _ h9 => h9) rfl (by decide +kernel) rfl rfl (Nat.le_of_ble_eq_true rfl) dX3_nextToken_110 (fun H locs hP hD hS => ?_)
              have hP : va_P (dC, dI) vwCl (wTx g q tx (wset (wset (wset tz 2 i) 1 2) 4 (t_vl tx i (skI (fiP tx) (tz 0) i)))) H := hP
              have hD : va_D A (wTx g q tx (wset (wset (wset tz 2 i) 1 2) 4 (t_vl tx i (skI (fiP tx) (tz 0) i)))) := hD
              refine lv_goto (tgt := 139) hx hb dX3_nextToken_113 (by decide) ?_
              refine lv_aload_n hx hb dX3_nextToken_139 rfl (lv_at hl 1 rfl) ?_
              refine lv_iload_n hx hb dX3_nextToken_140 rfl (lv_at hl 0 rfl) ?_
              refine va_put (D := (dC, dI)) (ci := 2) (v := .int (zI (skI (fiP tx) (tz 0) i))) (ty := .int) (C := RX3) (T := TX3) (N := 6) hx hb hts iX3 tyX3 tyX3_ok nmX3 hown hK hP hD hS 0 rfl rfl 4 (by decide) kf19 (fun _ h9 => h9) rfl (by decide +kernel) rfl rfl (Nat.le_of_ble_eq_true rfl) dX3_nextToken_141 (fun H locs hP hD hS => ?_)
              have hP : va_P (dC, dI) vwCl (wTx g q tx (wset (wset (wset (wset tz 2 i) 1 2) 4 (t_vl tx i (skI (fiP tx) (tz 0) i))) 3 (skI (fiP tx) (tz 0) i))) H := hP
              have hD : va_D A (wTx g q tx (wset (wset (wset (wset tz 2 i) 1 2) 4 (t_vl tx i (skI (fiP tx) (tz 0) i))) 3 (skI (fiP tx) (tz 0) i))) := hD
              have hPf : va_P (dC, dI) vwCl (wTx g q tx (t_next tx tz)) H := by rw [(show (t_next tx tz) = wset (wset (wset (wset tz 2 i) 1 2) 4 (t_vl tx i (skI (fiP tx) (tz 0) i))) 3 (skI (fiP tx) (tz 0) i) from by unfold t_next t_st; rw [he]; unfold t_nx; (repeat' split) <;> first | rfl | (exfalso; omega))]; exact hP
              have hDf : va_D A (wTx g q tx (t_next tx tz)) := by rw [(show (t_next tx tz) = wset (wset (wset (wset tz 2 i) 1 2) 4 (t_vl tx i (skI (fiP tx) (tz 0) i))) 3 (skI (fiP tx) (tz 0) i) from by unfold t_next t_st; rw [he]; unfold t_nx; (repeat' split) <;> first | rfl | (exfalso; omega))]; exact hD
              exact W.vret hx hb hr (fun t9 ht9 hW9 => ⟨⟨(), rfl, trivial, by rw [ht9]; exact hPf, va_K.moved hW9.alike hK, hDf⟩, hS.F ht9⟩) hS.2.2 dX3_nextToken_144
          · refine lv_aload_n hx hb dX3_nextToken_63 rfl (lv_at hl 0 rfl) ?_
            refine q_iconst hx hb dX3_nextToken_64 ?_
            refine va_put (D := (dC, dI)) (ci := 2) (v := .int (zI 1)) (ty := .int) (C := RX3) (T := TX3) (N := 6) hx hb hts iX3 tyX3 tyX3_ok nmX3 hown hK hP hD hS 0 rfl rfl 2 (by decide) kf32 (fun _ h9 => h9) rfl (by decide +kernel) rfl rfl (Nat.le_of_ble_eq_true rfl) dX3_nextToken_65 (fun H locs hP hD hS => ?_)
            have hP : va_P (dC, dI) vwCl (wTx g q tx (wset (wset tz 2 i) 1 1)) H := hP
            have hD : va_D A (wTx g q tx (wset (wset tz 2 i) 1 1)) := hD
            refine lv_aload_n hx hb dX3_nextToken_68 rfl (lv_at hl 0 rfl) ?_
            refine lv_iload_n hx hb dX3_nextToken_69 rfl (lv_at hl 1 rfl) ?_
            refine q_cVi (z := skI (leP tx) (tz 0) i) (b := (q 0)) (As := [.int (zI i)]) (rest := []) ⟨hx, hb, hml, hown, hts⟩ (kX3_endOfWord l dC dI g tt q tx (wset (wset tz 2 i) 1 1) i (ht.1) (show 0 ≤ i ∧ i ≤ tz 0 from by omega)) (cwV 1 hts gX3_nextToken_X3_endOfWord rfl rfl rfl (by decide +kernel) ⟨Nat.le_of_ble_eq_true rfl, Nat.le_of_ble_eq_true rfl⟩) hP hK hT hS 0 2 rfl rfl rfl rfl hl.1 rfl (Nat.le_of_ble_eq_true rfl) dX3_nextToken_70 ⟨Nat.le_of_ble_eq_true rfl, Nat.le_of_ble_eq_true rfl⟩ ?_
            have hsk := skI_r (P := leP tx) (N := tz 0) (i := i) (by omega)
            refine lv_istore_n (lv' := [(1, .int (zI (skI (leP tx) (tz 0) i))), (0, .ref (q 0))]) hx hb dX3_nextToken_73 rfl hl (by decide) rfl (fun ls hl => ?_)
            refine lv_goto (tgt := 139) hx hb dX3_nextToken_74 (by decide) ?_
            refine lv_aload_n hx hb dX3_nextToken_139 rfl (lv_at hl 1 rfl) ?_
            refine lv_iload_n hx hb dX3_nextToken_140 rfl (lv_at hl 0 rfl) ?_
            refine va_put (D := (dC, dI)) (ci := 2) (v := .int (zI (skI (leP tx) (tz 0) i))) (ty := .int) (C := RX3) (T := TX3) (N := 6) hx hb hts iX3 tyX3 tyX3_ok nmX3 hown hK hP hD hS 0 rfl rfl 4 (by decide) kf19 (fun _ h9 => h9) rfl (by decide +kernel) rfl rfl (Nat.le_of_ble_eq_true rfl) dX3_nextToken_141 (fun H locs hP hD hS => ?_)
            have hP : va_P (dC, dI) vwCl (wTx g q tx (wset (wset (wset tz 2 i) 1 1) 3 (skI (leP tx) (tz 0) i))) H := hP
            have hD : va_D A (wTx g q tx (wset (wset (wset tz 2 i) 1 1) 3 (skI (leP tx) (tz 0) i))) := hD
            have hPf : va_P (dC, dI) vwCl (wTx g q tx (t_next tx tz)) H := by rw [(show (t_next tx tz) = wset (wset (wset tz 2 i) 1 1) 3 (skI (leP tx) (tz 0) i) from by unfold t_next t_st; rw [he]; unfold t_nx; (repeat' split) <;> first | rfl | (exfalso; omega))]; exact hP
            have hDf : va_D A (wTx g q tx (t_next tx tz)) := by rw [(show (t_next tx tz) = wset (wset (wset tz 2 i) 1 1) 3 (skI (leP tx) (tz 0) i) from by unfold t_next t_st; rw [he]; unfold t_nx; (repeat' split) <;> first | rfl | (exfalso; omega))]; exact hD
            exact W.vret hx hb hr (fun t9 ht9 hW9 => ⟨⟨(), rfl, trivial, by rw [ht9]; exact hPf, va_K.moved hW9.alike hK, hDf⟩, hS.F ht9⟩) hS.2.2 dX3_nextToken_144
        · refine lv_aload_n hx hb dX3_nextToken_43 rfl (lv_at hl 0 rfl) ?_
          refine q_iconst hx hb dX3_nextToken_44 ?_
          refine va_put (D := (dC, dI)) (ci := 2) (v := .int (zI 0)) (ty := .int) (C := RX3) (T := TX3) (N := 6) hx hb hts iX3 tyX3 tyX3_ok nmX3 hown hK hP hD hS 0 rfl rfl 2 (by decide) kf32 (fun _ h9 => h9) rfl (by decide +kernel) rfl rfl (Nat.le_of_ble_eq_true rfl) dX3_nextToken_45 (fun H locs hP hD hS => ?_)
          have hP : va_P (dC, dI) vwCl (wTx g q tx (wset (wset tz 2 i) 1 0)) H := hP
          have hD : va_D A (wTx g q tx (wset (wset tz 2 i) 1 0)) := hD
          refine lv_goto (tgt := 139) hx hb dX3_nextToken_48 (by decide) ?_
          refine lv_aload_n hx hb dX3_nextToken_139 rfl (lv_at hl 0 rfl) ?_
          refine lv_iload_n hx hb dX3_nextToken_140 rfl (lv_at hl 1 rfl) ?_
          refine va_put (D := (dC, dI)) (ci := 2) (v := .int (zI i)) (ty := .int) (C := RX3) (T := TX3) (N := 6) hx hb hts iX3 tyX3 tyX3_ok nmX3 hown hK hP hD hS 0 rfl rfl 4 (by decide) kf19 (fun _ h9 => h9) rfl (by decide +kernel) rfl rfl (Nat.le_of_ble_eq_true rfl) dX3_nextToken_141 (fun H locs hP hD hS => ?_)
          have hP : va_P (dC, dI) vwCl (wTx g q tx (wset (wset (wset tz 2 i) 1 0) 3 i)) H := hP
          have hD : va_D A (wTx g q tx (wset (wset (wset tz 2 i) 1 0) 3 i)) := hD
          have hPf : va_P (dC, dI) vwCl (wTx g q tx (t_next tx tz)) H := by rw [(show (t_next tx tz) = wset (wset (wset tz 2 i) 1 0) 3 i from by unfold t_next t_st; rw [he]; unfold t_nx; (repeat' split) <;> first | rfl | (exfalso; omega))]; exact hP
          have hDf : va_D A (wTx g q tx (t_next tx tz)) := by rw [(show (t_next tx tz) = wset (wset (wset tz 2 i) 1 0) 3 i from by unfold t_next t_st; rw [he]; unfold t_nx; (repeat' split) <;> first | rfl | (exfalso; omega))]; exact hD
          exact W.vret hx hb hr (fun t9 ht9 hW9 => ⟨⟨(), rfl, trivial, by rw [ht9]; exact hPf, va_K.moved hW9.alike hK, hDf⟩, hS.F ht9⟩) hS.2.2 dX3_nextToken_144
      · refine lv_iinc (v := zI (i + 1)) (lv' := [(1, .int (zI (i + 1))), (0, .ref (q 0))]) hx hb dX3_nextToken_24 hl (k := 1) rfl (zI_add _ _) (by decide) rfl (fun ls hl => ?_)
        refine lv_goto (tgt := 5) hx hb dX3_nextToken_27 (by decide) ?_
        exact ih5 (i + 1) ls ⟨(show tz 3 ≤ (i + 1) ∧ (i + 1) ≤ tz 0 from by omega), (show skI (blP tx) (tz 0) (tz 3) = skI (blP tx) (tz 0) (i + 1) from hs.trans (skI_next (by omega) (decide_eq_true c_6))), lv_sub hl [1, 0] rfl⟩ (by show (tz 0 - (i + 1)).toNat < (tz 0 - i).toNat; omega)
  · exact ⟨(show tz 3 ≤ (tz 3) ∧ (tz 3) ≤ tz 0 from by omega), (show skI (blP tx) (tz 0) (tz 3) = skI (blP tx) (tz 0) (tz 3) from rfl), lv_sub hl [1, 0] rfl⟩
set_option maxHeartbeats 4000000 in
set_option maxRecDepth 100000 in
theorem kX3_nextIsSemicolon (l : Launch) (dC : Nat → ClassId) (dI : Nat → Nat → Nat) (g : Nat → ClassId) (tt : Nat → Nat) (sz : Nat) (q : Nat → Nat) (tx tz : Int → Int) (ht : tsok tx tz) : Met l yX3_nextIsSemicolon wsX3_nextIsSemicolon ({ frames := 3, cells := 0, slots := 0, locals := 63 }) (va_Pc [.ref (q 0)] (eQ (dC, dI) (wTy g) (wTx g q tx tz) tt sz)) (va_Qi (fun r (_ : Unit) => r = zI (bz (t_sem tx tz = true))) (fQ (dC, dI) (wTy g) (va_A (wTx g q tx tz) sz) (wTx g q tx (t_next tx tz))) (va_A (wTx g q tx tz) sz)) 0 0 (va_A (wTx g q tx tz) sz) := by
  refine Met.ofW (cc := cX3_nextIsSemicolon) (maxL := 1) (ret := (some .boolean)) (by decide) rfl ?_
  intro p e s m args below meth c s₁ B hml hv
  obtain ⟨rfl, hsz, hP, hK, hD0, hT⟩ := hv
  have hx := B.exec
  have hb := B.bytes
  have hr := B.returns
  have hts := atoms_spec (ws := wsX3_nextIsSemicolon) B.pre
  have hown : s.vm.findClass RX3 = some m.cls := findClass_of_methodNamed B.named
  have hlocks := B.notSynchronized
  subst hsz
  have hD := hD0.self (sz := s.heap.size)
  generalize hAe : va_A (wTx g q tx tz) s.heap.size = A at hD hT ⊢
  have hA : ∀ q : Nat, s.heap.size ≤ q → A q := fun q h => by rw [← hAe]; exact Or.inr h
  have hS : va_S A s.heap s.heap [] := va_S.rf
  have hl := lv_entry ([.ref (q 0)]) (n := 1) (Nat.le_of_ble_eq_true rfl)
  rw [lg_entry_eq]
  generalize (lg_sl ([.ref (q 0)]) ++ List.replicate (1 - (lg_sl ([.ref (q 0)])).length) Slot.unset).toArray = ls at hl ⊢
  have hl : lv_has ls 1 [(0, .ref (q 0))] := hl
  have kf32 := hts (.fieldLink RX3 32 "WrongWay$Text" "token" "I") (by decide +kernel)
  have iX3 := (fun w h => List.mem_cons_of_mem _ (List.mem_append_right _ h) : ∀ w ∈ u_ws RX3 TX3 6, w ∈ wsX3_nextIsSemicolon)
  refine lv_aload_n hx hb dX3_nextIsSemicolon_0 rfl (lv_at hl 0 rfl) ?_
  refine q_cEv (b := (q 0)) (As := []) (rest := []) (w1 := wTx g q tx (t_next tx tz)) ⟨hx, hb, hml, hown, hts⟩ hP hD hK hT hS hA (kX3_nextToken l dC dI g tt _ q tx tz (ht.k)) (cwV 0 hts gX3_nextIsSemicolon_X3_nextToken rfl rfl rfl (by decide +kernel) ⟨Nat.le_of_ble_eq_true rfl, Nat.le_of_ble_eq_true rfl⟩) 0 2 rfl rfl rfl rfl hl.1 rfl (Nat.le_of_ble_eq_true rfl) dX3_nextIsSemicolon_1 ⟨Nat.le_of_ble_eq_true rfl, Nat.le_of_ble_eq_true rfl⟩ (fun H locs hP hD hS => ?_)
  have hn9 := tsok_next (tx := tx) (tz := tz) ht
  have hna := hn9.2.1
  have hnb := hn9.2.2.1
  have hnc := hn9.2.2.2.1
  have hnd := hn9.2.2.2.2
  refine lv_aload_n hx hb dX3_nextIsSemicolon_4 rfl (lv_at hl 0 rfl) ?_
  refine va_get (D := (dC, dI)) (ci := 2) (v := .int (zI ((t_next tx tz) 1))) (C := RX3) (T := TX3) (N := 6) hx hb hts iX3 hown hK hP 0 rfl rfl 2 (by decide) kf32 (fun _ h9 => h9) rfl dX3_nextIsSemicolon_5 ?_
  refine q_iconst hx hb dX3_nextIsSemicolon_8 ?_
  refine q_icmp_ne (tgt := 16) hx hb dX3_nextIsSemicolon_9 (by decide) (by omega) (fun c_1 => ?_) (fun c_1 => ?_)
  · refine q_iconst hx hb dX3_nextIsSemicolon_16 ?_
    have hPf : va_P (dC, dI) vwCl (wTx g q tx (t_next tx tz)) H := by exact hP
    have hDf : va_D A (wTx g q tx (t_next tx tz)) := by exact hD
    exact W.zret hx hb hr rfl (fun t9 ht9 hW9 => ⟨⟨_, (), rfl, congrArg zI (bz_f (fun h9 => c_1 (of_decide_eq_true h9))).symm, by rw [ht9]; exact hPf, va_K.moved hW9.alike hK, hDf⟩, hS.F ht9⟩) hS.2.2 dX3_nextIsSemicolon_17
  · refine q_iconst hx hb dX3_nextIsSemicolon_12 ?_
    refine lv_goto (tgt := 17) hx hb dX3_nextIsSemicolon_13 (by decide) ?_
    have hPf : va_P (dC, dI) vwCl (wTx g q tx (t_next tx tz)) H := by exact hP
    have hDf : va_D A (wTx g q tx (t_next tx tz)) := by exact hD
    exact W.zret hx hb hr rfl (fun t9 ht9 hW9 => ⟨⟨_, (), rfl, congrArg zI (bz_t (decide_eq_true c_1)).symm, by rw [ht9]; exact hPf, va_K.moved hW9.alike hK, hDf⟩, hS.F ht9⟩) hS.2.2 dX3_nextIsSemicolon_17
set_option maxHeartbeats 4000000 in
set_option maxRecDepth 100000 in
theorem kX3_nextIsNumber (l : Launch) (dC : Nat → ClassId) (dI : Nat → Nat → Nat) (g : Nat → ClassId) (tt : Nat → Nat) (sz : Nat) (q : Nat → Nat) (tx tz : Int → Int) (x1 x2 : Int) (ht : tsok tx tz) (h1 : rI x1 ∧ rI x2) : Met l yX3_nextIsNumber wsX3_nextIsNumber ({ frames := 3, cells := 0, slots := 0, locals := 63 }) (va_Pc [.ref (q 0), .int (zI x1), .int (zI x2)] (eQ (dC, dI) (wTy g) (wTx g q tx tz) tt sz)) (va_Qi (fun r (_ : Unit) => r = zI (bz (t_num tx tz x1 x2 = true))) (fQ (dC, dI) (wTy g) (va_A (wTx g q tx tz) sz) (wTx g q tx (t_next tx tz))) (va_A (wTx g q tx tz) sz)) 0 0 (va_A (wTx g q tx tz) sz) := by
  refine Met.ofW (cc := cX3_nextIsNumber) (maxL := 3) (ret := (some .boolean)) (by decide) rfl ?_
  intro p e s m args below meth c s₁ B hml hv
  obtain ⟨rfl, hsz, hP, hK, hD0, hT⟩ := hv
  have hx := B.exec
  have hb := B.bytes
  have hr := B.returns
  have hts := atoms_spec (ws := wsX3_nextIsNumber) B.pre
  have hown : s.vm.findClass RX3 = some m.cls := findClass_of_methodNamed B.named
  have hlocks := B.notSynchronized
  subst hsz
  have hD := hD0.self (sz := s.heap.size)
  generalize hAe : va_A (wTx g q tx tz) s.heap.size = A at hD hT ⊢
  have hA : ∀ q : Nat, s.heap.size ≤ q → A q := fun q h => by rw [← hAe]; exact Or.inr h
  have hS : va_S A s.heap s.heap [] := va_S.rf
  have hl := lv_entry ([.ref (q 0), .int (zI x1), .int (zI x2)]) (n := 3) (Nat.le_of_ble_eq_true rfl)
  rw [lg_entry_eq]
  generalize (lg_sl ([.ref (q 0), .int (zI x1), .int (zI x2)]) ++ List.replicate (3 - (lg_sl ([.ref (q 0), .int (zI x1), .int (zI x2)])).length) Slot.unset).toArray = ls at hl ⊢
  have hl : lv_has ls 3 [(0, .ref (q 0)), (1, .int (zI x1)), (2, .int (zI x2))] := hl
  have kf32 := hts (.fieldLink RX3 32 "WrongWay$Text" "token" "I") (by decide +kernel)
  have kf50 := hts (.fieldLink RX3 50 "WrongWay$Text" "value" "I") (by decide +kernel)
  have iX3 := (fun w h => List.mem_cons_of_mem _ (List.mem_append_right _ h) : ∀ w ∈ u_ws RX3 TX3 6, w ∈ wsX3_nextIsNumber)
  refine lv_aload_n hx hb dX3_nextIsNumber_0 rfl (lv_at hl 0 rfl) ?_
  refine q_cEv (b := (q 0)) (As := []) (rest := []) (w1 := wTx g q tx (t_next tx tz)) ⟨hx, hb, hml, hown, hts⟩ hP hD hK hT hS hA (kX3_nextToken l dC dI g tt _ q tx tz (ht.k)) (cwV 0 hts gX3_nextIsNumber_X3_nextToken rfl rfl rfl (by decide +kernel) ⟨Nat.le_of_ble_eq_true rfl, Nat.le_of_ble_eq_true rfl⟩) 0 2 rfl rfl rfl rfl hl.1 rfl (Nat.le_of_ble_eq_true rfl) dX3_nextIsNumber_1 ⟨Nat.le_of_ble_eq_true rfl, Nat.le_of_ble_eq_true rfl⟩ (fun H locs hP hD hS => ?_)
  have hn9 := tsok_next (tx := tx) (tz := tz) ht
  have hna := hn9.2.1
  have hnb := hn9.2.2.1
  have hnc := hn9.2.2.2.1
  have hnd := hn9.2.2.2.2
  refine lv_aload_n hx hb dX3_nextIsNumber_4 rfl (lv_at hl 0 rfl) ?_
  refine va_get (D := (dC, dI)) (ci := 2) (v := .int (zI ((t_next tx tz) 1))) (C := RX3) (T := TX3) (N := 6) hx hb hts iX3 hown hK hP 0 rfl rfl 2 (by decide) kf32 (fun _ h9 => h9) rfl dX3_nextIsNumber_5 ?_
  refine q_iconst hx hb dX3_nextIsNumber_8 ?_
  refine q_icmp_ne (tgt := 28) hx hb dX3_nextIsNumber_9 (by decide) (by omega) (fun c_1 => ?_) (fun c_1 => ?_)
  · refine q_iconst hx hb dX3_nextIsNumber_28 ?_
    have hPf : va_P (dC, dI) vwCl (wTx g q tx (t_next tx tz)) H := by exact hP
    have hDf : va_D A (wTx g q tx (t_next tx tz)) := by exact hD
    exact W.zret hx hb hr rfl (fun t9 ht9 hW9 => ⟨⟨_, (), rfl, congrArg zI (bz_f (fun h9 => by have h8 := of_decide_eq_true h9; first | exact c_1 h8.1 | exact c_2 h8.2)).symm, by rw [ht9]; exact hPf, va_K.moved hW9.alike hK, hDf⟩, hS.F ht9⟩) hS.2.2 dX3_nextIsNumber_29
  · refine lv_aload_n hx hb dX3_nextIsNumber_12 rfl (lv_at hl 0 rfl) ?_
    refine va_get (D := (dC, dI)) (ci := 2) (v := .int (zI ((t_next tx tz) 4))) (C := RX3) (T := TX3) (N := 6) hx hb hts iX3 hown hK hP 0 rfl rfl 5 (by decide) kf50 (fun _ h9 => h9) rfl dX3_nextIsNumber_13 ?_
    refine lv_iload_n hx hb dX3_nextIsNumber_16 rfl (lv_at hl 1 rfl) ?_
    refine lv_iload_n hx hb dX3_nextIsNumber_17 rfl (lv_at hl 2 rfl) ?_
    refine q_cNi (z := bz (x1 ≤ ((t_next tx tz) 4) ∧ ((t_next tx tz) 4) ≤ x2)) (As := [.int (zI ((t_next tx tz) 4)), .int (zI x1), .int (zI x2)]) (rest := []) ⟨hx, hb, hml, hown, hts⟩ (kX5_isWithin l dC dI g tt ((t_next tx tz) 4) x1 x2 (by omega)) (va_cnB 3 hts gX3_nextIsNumber_X5_isWithin_n93 rfl rfl rfl hT.2.2.2.2.2.1 (hts (.initialized RX5) (by decide +kernel)) (by decide +kernel) ⟨Nat.le_of_ble_eq_true rfl, Nat.le_of_ble_eq_true rfl⟩) (hts (.static yX5_isWithin) (by decide +kernel)) (hP.sub (ws' := []) [] rfl) hK hT hS rfl hl.1 rfl (Nat.le_of_ble_eq_true rfl) dX3_nextIsNumber_18 ⟨Nat.le_of_ble_eq_true rfl, Nat.le_of_ble_eq_true rfl⟩ ?_
    refine q_bz_eq (tgt := 28) hx hb dX3_nextIsNumber_21 (by decide) (fun c_2 => ?_) (fun c_2 => ?_)
    · refine q_iconst hx hb dX3_nextIsNumber_28 ?_
      have hPf : va_P (dC, dI) vwCl (wTx g q tx (t_next tx tz)) H := by exact hP
      have hDf : va_D A (wTx g q tx (t_next tx tz)) := by exact hD
      exact W.zret hx hb hr rfl (fun t9 ht9 hW9 => ⟨⟨_, (), rfl, congrArg zI (bz_f (fun h9 => by have h8 := of_decide_eq_true h9; first | exact c_1 h8.1 | exact c_2 h8.2)).symm, by rw [ht9]; exact hPf, va_K.moved hW9.alike hK, hDf⟩, hS.F ht9⟩) hS.2.2 dX3_nextIsNumber_29
    · refine q_iconst hx hb dX3_nextIsNumber_24 ?_
      refine lv_goto (tgt := 29) hx hb dX3_nextIsNumber_25 (by decide) ?_
      have hPf : va_P (dC, dI) vwCl (wTx g q tx (t_next tx tz)) H := by exact hP
      have hDf : va_D A (wTx g q tx (t_next tx tz)) := by exact hD
      exact W.zret hx hb hr rfl (fun t9 ht9 hW9 => ⟨⟨_, (), rfl, congrArg zI (bz_t (decide_eq_true ⟨c_1, c_2⟩)).symm, by rw [ht9]; exact hPf, va_K.moved hW9.alike hK, hDf⟩, hS.F ht9⟩) hS.2.2 dX3_nextIsNumber_29
set_option maxHeartbeats 4000000 in
set_option maxRecDepth 100000 in
theorem kX3_isWord (l : Launch) (dC : Nat → ClassId) (dI : Nat → Nat → Nat) (g : Nat → ClassId) (tt : Nat → Nat) (q : Nat → Nat) (tx tz : Int → Int) (i : Nat) (hi : i < 3) (ht : tsok tx tz) : Met l yX3_isWord wsX3_isWord ({ frames := 5, cells := 0, slots := 0, locals := 106 }) (va_Pc [.ref (q 0), .ref (tt (3 + i))] (eS (dC, dI) (wTy g) (wTx g q tx tz) tt)) (vp_Si (fun r => r = zI (bz (t_isw tx tz i = true)))) 0 0 (fun _ => False) := by
  refine Met.ofW (cc := cX3_isWord) (maxL := 3) (ret := (some .boolean)) (by decide) rfl ?_
  intro p e s m args below meth c s₁ B hml hv
  obtain ⟨rfl, hP, hK, hT⟩ := hv
  have hx := B.exec
  have hb := B.bytes
  have hr := B.returns
  have hts := atoms_spec (ws := wsX3_isWord) B.pre
  have hown : s.vm.findClass RX3 = some m.cls := findClass_of_methodNamed B.named
  have hlocks := B.notSynchronized
  have hS : va_S (fun _ : Nat => False) s.heap s.heap [] := va_S.rf
  have hl := lv_entry ([.ref (q 0), .ref (tt (3 + i))]) (n := 3) (Nat.le_of_ble_eq_true rfl)
  rw [lg_entry_eq]
  generalize (lg_sl ([.ref (q 0), .ref (tt (3 + i))]) ++ List.replicate (3 - (lg_sl ([.ref (q 0), .ref (tt (3 + i))])).length) Slot.unset).toArray = ls at hl ⊢
  have hl : lv_has ls 3 [(0, .ref (q 0)), (1, .ref (tt (3 + i)))] := hl
  have kf11 := hts (.fieldLink RX3 11 "WrongWay$Text" "bytes" "[B") (by decide +kernel)
  have kf19 := hts (.fieldLink RX3 19 "WrongWay$Text" "tokenEnd" "I") (by decide +kernel)
  have kf29 := hts (.fieldLink RX3 29 "WrongWay$Text" "tokenStart" "I") (by decide +kernel)
  have kf32 := hts (.fieldLink RX3 32 "WrongWay$Text" "token" "I") (by decide +kernel)
  have iX3 := (fun w h => List.mem_cons_of_mem _ (List.mem_append_right _ h) : ∀ w ∈ u_ws RX3 TX3 6, w ∈ wsX3_isWord)
  have hL := ht.1.1
  have hq1 := ht.2.1
  have hq2 := ht.2.2.1
  have hq3 := ht.2.2.2.1
  have hwl := wl_r hi
  refine lv_aload_n hx hb dX3_isWord_0 rfl (lv_at hl 0 rfl) ?_
  refine va_get (D := (dC, dI)) (ci := 2) (v := .int (zI (tz 1))) (C := RX3) (T := TX3) (N := 6) hx hb hts iX3 hown hK hP 0 rfl rfl 2 (by decide) kf32 (fun _ h9 => h9) rfl dX3_isWord_1 ?_
  refine q_iconst hx hb dX3_isWord_4 ?_
  refine q_icmp_ne (tgt := 24) hx hb dX3_isWord_5 (by decide) (by omega) (fun c_1 => ?_) (fun c_1 => ?_)
  · refine q_iconst hx hb dX3_isWord_24 ?_
    exact W.zret hx hb hr rfl (fun t9 ht9 hW9 => ⟨_, rfl, congrArg zI (bz_f (fun h9 => by unfold t_isw at h9; simp only [Bool.and_eq_true, decide_eq_true_eq] at h9; exact c_1 h9.1.1)).symm, ht9⟩) hS.2.2 dX3_isWord_25
  · refine lv_aload_n hx hb dX3_isWord_8 rfl (lv_at hl 0 rfl) ?_
    refine va_get (D := (dC, dI)) (ci := 2) (v := .int (zI (tz 3))) (C := RX3) (T := TX3) (N := 6) hx hb hts iX3 hown hK hP 0 rfl rfl 4 (by decide) kf19 (fun _ h9 => h9) rfl dX3_isWord_9 ?_
    refine lv_aload_n hx hb dX3_isWord_12 rfl (lv_at hl 0 rfl) ?_
    refine va_get (D := (dC, dI)) (ci := 2) (v := .int (zI (tz 2))) (C := RX3) (T := TX3) (N := 6) hx hb hts iX3 hown hK hP 0 rfl rfl 3 (by decide) kf29 (fun _ h9 => h9) rfl dX3_isWord_13 ?_
    refine q_isub hx hb dX3_isWord_16 ?_
    refine lv_aload_n hx hb dX3_isWord_17 rfl (lv_at hl 1 rfl) ?_
    refine q_cVs (z := wl i) (b := (tt (3 + i))) (As := []) (rest := [.int (zI ((tz 3) - (tz 2)))]) ⟨hx, hb, hml, hown, hts⟩ (kJ0_length_8abf5 l dC dI g tt i (hi)) (cwV 0 hts gX3_isWord_J0_length_8abf5 rfl rfl rfl (by decide +kernel) ⟨Nat.le_of_ble_eq_true rfl, Nat.le_of_ble_eq_true rfl⟩) (hP.sub (ws' := []) [] rfl) hK hT hS (vk_recv (adK := fun i => tt (3 + i)) (i := i) hT.2.2.2.2.1 hi hS) rfl hl.1 rfl (Nat.le_of_ble_eq_true rfl) dX3_isWord_18 ⟨Nat.le_of_ble_eq_true rfl, Nat.le_of_ble_eq_true rfl⟩ ?_
    have := wl_r (i := i) (by omega)
    refine q_icmp_eq (tgt := 26) hx hb dX3_isWord_21 (by decide) (by omega) (fun c_2 => ?_) (fun c_2 => ?_)
    · refine q_iconst hx hb dX3_isWord_26 ?_
      refine lv_istore_n (lv' := [(2, .int (zI 0)), (0, .ref (q 0)), (1, .ref (tt (3 + i)))]) hx hb dX3_isWord_27 rfl hl (by decide) rfl (fun ls hl => ?_)
      refine w_loopP (σ := Int) (fun a9 ls => (0 ≤ a9 ∧ a9 ≤ wl i) ∧ (srI (t_iwP tx tz i) (wl i) 0 = srI (t_iwP tx tz i) (wl i) a9) ∧ lv_has ls 3 [(0, .ref (q 0)), (1, .ref (tt (3 + i))), (2, .int (zI a9))]) (fun a9 => (wl i - a9).toNat) ?_ (0) ?_
      · rintro j ls ⟨hj, hs, hl⟩ ih28
        have hj : 0 ≤ j ∧ j ≤ wl i := hj
        have hs : srI (t_iwP tx tz i) (wl i) 0 = srI (t_iwP tx tz i) (wl i) j := hs
        have hl : lv_has ls 3 [(0, .ref (q 0)), (1, .ref (tt (3 + i))), (2, .int (zI j))] := hl
        refine lv_iload_n hx hb dX3_isWord_28 rfl (lv_at hl 2 rfl) ?_
        refine lv_aload_n hx hb dX3_isWord_29 rfl (lv_at hl 1 rfl) ?_
        refine q_cVs (z := wl i) (b := (tt (3 + i))) (As := []) (rest := [.int (zI j)]) ⟨hx, hb, hml, hown, hts⟩ (kJ0_length_8abf5 l dC dI g tt i (hi)) (cwV 0 hts gX3_isWord_J0_length_8abf5 rfl rfl rfl (by decide +kernel) ⟨Nat.le_of_ble_eq_true rfl, Nat.le_of_ble_eq_true rfl⟩) (hP.sub (ws' := []) [] rfl) hK hT hS (vk_recv (adK := fun i => tt (3 + i)) (i := i) hT.2.2.2.2.1 hi hS) rfl hl.1 rfl (Nat.le_of_ble_eq_true rfl) dX3_isWord_30 ⟨Nat.le_of_ble_eq_true rfl, Nat.le_of_ble_eq_true rfl⟩ ?_
        have := wl_r (i := i) (by omega)
        refine q_icmp_ge (tgt := 63) hx hb dX3_isWord_33 (by decide) (by omega) (fun c_3 => ?_) (fun c_3 => ?_)
        · refine q_iconst hx hb dX3_isWord_63 ?_
          exact W.zret hx hb hr rfl (fun t9 ht9 hW9 => ⟨_, rfl, congrArg zI (bz_t (by unfold t_isw; simp only [Bool.and_eq_true, decide_eq_true_eq]; exact ⟨⟨c_1, c_2⟩, hs.trans (srI_end (by omega))⟩)).symm, ht9⟩) hS.2.2 dX3_isWord_64
        · have hby := ht.1.2 (tz 2 + j) (by omega) (by omega)
          have hwc := wc_r hi (k := j) (by omega)
          refine lv_aload_n hx hb dX3_isWord_36 rfl (lv_at hl 0 rfl) ?_
          refine va_get (D := (dC, dI)) (ci := 2) (v := .ref (q 1)) (C := RX3) (T := TX3) (N := 6) hx hb hts iX3 hown hK hP 0 rfl rfl 0 (by decide) kf11 (fun _ h9 => h9) rfl dX3_isWord_37 ?_
          refine lv_aload_n hx hb dX3_isWord_40 rfl (lv_at hl 0 rfl) ?_
          refine va_get (D := (dC, dI)) (ci := 2) (v := .int (zI (tz 2))) (C := RX3) (T := TX3) (N := 6) hx hb hts iX3 hown hK hP 0 rfl rfl 3 (by decide) kf29 (fun _ h9 => h9) rfl dX3_isWord_41 ?_
          refine lv_iload_n hx hb dX3_isWord_44 rfl (lv_at hl 2 rfl) ?_
          refine q_iadd hx hb dX3_isWord_45 ?_
          refine q_bald (F := fun k => tx k) (v := tx ((tz 2) + j)) hx hb hK hP 1 1 rfl rfl (by decide) (by omega) rfl dX3_isWord_46 ?_
          refine lv_aload_n hx hb dX3_isWord_47 rfl (lv_at hl 1 rfl) ?_
          refine lv_iload_n hx hb dX3_isWord_48 rfl (lv_at hl 2 rfl) ?_
          refine q_cVs (z := wc i j) (b := (tt (3 + i))) (As := [.int (zI j)]) (rest := [.int (zI (tx ((tz 2) + j)))]) ⟨hx, hb, hml, hown, hts⟩ (kJ0_charAt_5068e l dC dI g tt j i (hi) (by omega)) (cwV 1 hts gX3_isWord_J0_charAt_5068e rfl rfl rfl (by decide +kernel) ⟨Nat.le_of_ble_eq_true rfl, Nat.le_of_ble_eq_true rfl⟩) (hP.sub (ws' := []) [] rfl) hK hT hS (vk_recv (adK := fun i => tt (3 + i)) (i := i) hT.2.2.2.2.1 hi hS) rfl hl.1 rfl (Nat.le_of_ble_eq_true rfl) dX3_isWord_49 ⟨Nat.le_of_ble_eq_true rfl, Nat.le_of_ble_eq_true rfl⟩ ?_
          refine q_icmp_eq (tgt := 57) hx hb dX3_isWord_52 (by decide) (by omega) (fun c_4 => ?_) (fun c_4 => ?_)
          · refine lv_iinc (v := zI (j + 1)) (lv' := [(2, .int (zI (j + 1))), (0, .ref (q 0)), (1, .ref (tt (3 + i)))]) hx hb dX3_isWord_57 hl (k := 2) rfl (zI_add _ _) (by decide) rfl (fun ls hl => ?_)
            refine lv_goto (tgt := 28) hx hb dX3_isWord_60 (by decide) ?_
            exact ih28 (j + 1) ls ⟨(show 0 ≤ (j + 1) ∧ (j + 1) ≤ wl i from by omega), (show srI (t_iwP tx tz i) (wl i) 0 = srI (t_iwP tx tz i) (wl i) (j + 1) from hs.trans (srI_next (by omega) (fun h9 => (of_decide_eq_true h9) c_4))), lv_sub hl [1, 2, 0] rfl⟩ (by show (wl i - (j + 1)).toNat < (wl i - j).toNat; omega)
          · refine q_iconst hx hb dX3_isWord_55 ?_
            exact W.zret hx hb hr rfl (fun t9 ht9 hW9 => ⟨_, rfl, congrArg zI (bz_f (fun h9 => by unfold t_isw at h9; simp only [Bool.and_eq_true, decide_eq_true_eq] at h9; have h8 := h9.2; rw [hs, srI_hit (by omega) (decide_eq_true c_4)] at h8; omega)).symm, ht9⟩) hS.2.2 dX3_isWord_56
      · exact ⟨(show 0 ≤ 0 ∧ 0 ≤ wl i from by omega), (show srI (t_iwP tx tz i) (wl i) 0 = srI (t_iwP tx tz i) (wl i) 0 from rfl), lv_sub hl [1, 2, 0] rfl⟩
    · refine q_iconst hx hb dX3_isWord_24 ?_
      exact W.zret hx hb hr rfl (fun t9 ht9 hW9 => ⟨_, rfl, congrArg zI (bz_f (fun h9 => by unfold t_isw at h9; simp only [Bool.and_eq_true, decide_eq_true_eq] at h9; exact c_2 h9.1.2)).symm, ht9⟩) hS.2.2 dX3_isWord_25
set_option maxHeartbeats 4000000 in
set_option maxRecDepth 100000 in
theorem kX3_readHouse (l : Launch) (dC : Nat → ClassId) (dI : Nat → Nat → Nat) (g : Nat → ClassId) (tt : Nat → Nat) (sz : Nat) (q : Nat → Nat) (tx tz : Int → Int) (a : Nat → Nat) (w : Int → Int) (ht : tsok tx tz) : Met l yX3_readHouse wsX3_readHouse ({ frames := 6, cells := 0, slots := 0, locals := 128 }) (va_Pc [.ref (q 0), .ref (a 0)] (eQ (dC, dI) (wTy g) (wTd g q tx tz a w) tt sz)) (va_Qi (fun r (_ : Unit) => r = zI (bz (rh_r tx tz = true))) (fQ (dC, dI) (wTy g) (va_A (wTd g q tx tz a w) sz) (wTd g q tx (rh_tz tx tz) a (rh_w tx tz w))) (va_A (wTd g q tx tz a w) sz)) 0 0 (va_A (wTd g q tx tz a w) sz) := by
  refine Met.ofW (cc := cX3_readHouse) (maxL := 2) (ret := (some .boolean)) (by decide) rfl ?_
  intro p e s m args below meth c s₁ B hml hv
  obtain ⟨rfl, hsz, hP, hK, hD0, hT⟩ := hv
  have hx := B.exec
  have hb := B.bytes
  have hr := B.returns
  have hts := atoms_spec (ws := wsX3_readHouse) B.pre
  have hown : s.vm.findClass RX3 = some m.cls := findClass_of_methodNamed B.named
  have hlocks := B.notSynchronized
  subst hsz
  have hD := hD0.self (sz := s.heap.size)
  generalize hAe : va_A (wTd g q tx tz a w) s.heap.size = A at hD hT ⊢
  have hA : ∀ q : Nat, s.heap.size ≤ q → A q := fun q h => by rw [← hAe]; exact Or.inr h
  have hS : va_S A s.heap s.heap [] := va_S.rf
  have hl := lv_entry ([.ref (q 0), .ref (a 0)]) (n := 2) (Nat.le_of_ble_eq_true rfl)
  rw [lg_entry_eq]
  generalize (lg_sl ([.ref (q 0), .ref (a 0)]) ++ List.replicate (2 - (lg_sl ([.ref (q 0), .ref (a 0)])).length) Slot.unset).toArray = ls at hl ⊢
  have hl : lv_has ls 2 [(0, .ref (q 0)), (1, .ref (a 0))] := hl
  have kf50 := hts (.fieldLink RX3 50 "WrongWay$Text" "value" "I") (by decide +kernel)
  have iX3 := (fun w h => List.mem_cons_of_mem _ (List.mem_append_left _ (List.mem_append_right _ h)) : ∀ w ∈ u_ws RX3 TX3 6, w ∈ wsX3_readHouse)
  refine lv_aload_n hx hb dX3_readHouse_0 rfl (lv_at hl 0 rfl) ?_
  refine va_ldcS (tx := "house") hx hb hown hT.2.2.2.1.1 dX3_readHouse_1 ?_
  refine q_cVi (z := bz (t_isw tx tz 0 = true)) (b := (q 0)) (As := [.ref (tt 3)]) (rest := []) ⟨hx, hb, hml, hown, hts⟩ (kX3_isWord l dC dI g tt q tx tz 0 (by decide) (ht)) (cwV 1 hts gX3_readHouse_X3_isWord rfl rfl rfl (by decide +kernel) ⟨Nat.le_of_ble_eq_true rfl, Nat.le_of_ble_eq_true rfl⟩) (hP.sub (ws' := wTx g q tx tz) [0, 1] rfl) hK hT hS 0 2 rfl rfl rfl rfl hl.1 rfl (Nat.le_of_ble_eq_true rfl) dX3_readHouse_3 ⟨Nat.le_of_ble_eq_true rfl, Nat.le_of_ble_eq_true rfl⟩ ?_
  refine q_bz_eq (tgt := 19) hx hb dX3_readHouse_6 (by decide) (fun c_1 => ?_) (fun c_1 => ?_)
  · refine q_iconst hx hb dX3_readHouse_19 ?_
    have hPf : va_P (dC, dI) vwCl (wTd g q tx (rh_tz tx tz) a (rh_w tx tz w)) s.heap := by rw [(show (rh_tz tx tz) = tz from by unfold rh_tz; first | rw [if_neg c_1] | (rw [if_pos c_1]; first | rw [if_pos c_2] | rw [if_neg c_2])), (show (rh_w tx tz w) = w from by unfold rh_w; first | rw [if_neg c_1] | (rw [if_pos c_1]; first | rw [if_pos c_2] | rw [if_neg c_2]))]; exact hP
    have hDf : va_D A (wTd g q tx (rh_tz tx tz) a (rh_w tx tz w)) := by rw [(show (rh_tz tx tz) = tz from by unfold rh_tz; first | rw [if_neg c_1] | (rw [if_pos c_1]; first | rw [if_pos c_2] | rw [if_neg c_2])), (show (rh_w tx tz w) = w from by unfold rh_w; first | rw [if_neg c_1] | (rw [if_pos c_1]; first | rw [if_pos c_2] | rw [if_neg c_2]))]; exact hD
    exact W.zret hx hb hr rfl (fun t9 ht9 hW9 => ⟨⟨_, (), rfl, congrArg zI (bz_f (by unfold rh_r; first | simp [c_1, c_2] | simp [c_1])).symm, by rw [ht9]; exact hPf, va_K.moved hW9.alike hK, hDf⟩, hS.F ht9⟩) hS.2.2 dX3_readHouse_20
  · refine lv_aload_n hx hb dX3_readHouse_9 rfl (lv_at hl 0 rfl) ?_
    refine q_iconst hx hb dX3_readHouse_10 ?_
    refine q_bipush hx hb dX3_readHouse_11 rfl ?_
    refine q_cVqi (z := bz (t_num tx tz 1 11 = true)) (b := (q 0)) (As := [.int (zI 1), .int (zI 11)]) (rest := []) (wc := wTx g q tx tz) (w1 := wTx g q tx (t_next tx tz)) (wr := [(a 0, .inr (1, [.int (zI (w 1)), .int (zI (w 0)), .int (zI (w 2)), .int (zI (w 3)), .int (zI (w 4)), .ref (a 1), .ref (a 2), .ref (a 3), .ref (a 4), .ref (a 5), .ref (a 6), .ref (a 7), .ref (a 8), .ref (a 9)])), (a 1, .inl (g 0, 4, .inl (fun k => zI (w (5 + k))))), (a 2, .inl (g 0, 4, .inl (fun k => zI (w (9 + k))))), (a 3, .inl (g 0, 2, .inl (fun k => zI (w (13 + k))))), (a 4, .inl (g 0, 2, .inl (fun k => zI (w (15 + k))))), (a 5, .inl (g 0, 6, .inl (fun k => zI (w (17 + 4 * k))))), (a 6, .inl (g 0, 6, .inl (fun k => zI (w (18 + 4 * k))))), (a 7, .inl (g 0, 6, .inl (fun k => zI (w (19 + 4 * k))))), (a 8, .inl (g 0, 6, .inl (fun k => zI (w (20 + 4 * k))))), (a 9, .inl (g 0, 8, .inl (fun k => zI (w (41 + k)))))]) [0, 1] [2, 3, 4, 5, 6, 7, 8, 9, 10, 11] ⟨hx, hb, hml, hown, hts⟩ hP hD hK hT hS hA (kX3_nextIsNumber l dC dI g tt _ q tx tz 1 11 (ht) (by decide)) (cwV 2 hts gX3_readHouse_X3_nextIsNumber rfl rfl rfl (by decide +kernel) ⟨Nat.le_of_ble_eq_true rfl, Nat.le_of_ble_eq_true rfl⟩) rfl rfl (by decide) (by decide) (by decide) 0 2 rfl rfl rfl rfl hl.1 rfl (Nat.le_of_ble_eq_true rfl) dX3_readHouse_13 ⟨Nat.le_of_ble_eq_true rfl, Nat.le_of_ble_eq_true rfl⟩ (fun H locs hP hD hS => ?_)
    have hP : va_P (dC, dI) vwCl (wTd g q tx (t_next tx tz) a w) H := hP.sub [10, 11, 0, 1, 2, 3, 4, 5, 6, 7, 8, 9] rfl
    have hD : va_D A (wTd g q tx (t_next tx tz) a w) := hD.sub [10, 11, 0, 1, 2, 3, 4, 5, 6, 7, 8, 9] (by decide) rfl
    refine q_bz_ne (tgt := 21) hx hb dX3_readHouse_16 (by decide) (fun c_2 => ?_) (fun c_2 => ?_)
    · refine lv_aload_n hx hb dX3_readHouse_21 rfl (lv_at hl 1 rfl) ?_
      refine lv_aload_n hx hb dX3_readHouse_22 rfl (lv_at hl 0 rfl) ?_
      refine va_get (D := (dC, dI)) (ci := 2) (v := .int (zI ((t_next tx tz) 4))) (C := RX3) (T := TX3) (N := 6) hx hb hts iX3 hown hK hP 0 rfl rfl 5 (by decide) kf50 (fun _ h9 => h9) rfl dX3_readHouse_23 ?_
      refine q_cVqv (b := (a 0)) (As := [.int (zI ((t_next tx tz) 4))]) (rest := []) (wc := wHs g a w) (w1 := wHs g a (h_build w ((t_next tx tz) 4))) (wr := [(q 0, .inr (2, [.ref (q 1), .int (zI ((t_next tx tz) 0)), .int (zI ((t_next tx tz) 1)), .int (zI ((t_next tx tz) 2)), .int (zI ((t_next tx tz) 3)), .int (zI ((t_next tx tz) 4))])), (q 1, .inl (g 1, 150, .inl (fun k => zI (tx k))))]) [2, 3, 4, 5, 6, 7, 8, 9, 10, 11] [0, 1] ⟨hx, hb, hml, hown, hts⟩ hP hD hK hT hS hA (kX1_build l dC dI g tt _ a w ((t_next tx tz) 4)) (cwV 1 hts gX3_readHouse_X1_build rfl rfl rfl (by decide +kernel) ⟨Nat.le_of_ble_eq_true rfl, Nat.le_of_ble_eq_true rfl⟩) rfl rfl (by decide) (by decide) (by decide) 0 1 rfl rfl rfl rfl hl.1 rfl (Nat.le_of_ble_eq_true rfl) dX3_readHouse_26 ⟨Nat.le_of_ble_eq_true rfl, Nat.le_of_ble_eq_true rfl⟩ (fun H locs hP hD hS => ?_)
      have hP : va_P (dC, dI) vwCl (wTd g q tx (t_next tx tz) a (h_build w ((t_next tx tz) 4))) H := hP.sub [0, 1, 2, 3, 4, 5, 6, 7, 8, 9, 10, 11] rfl
      have hD : va_D A (wTd g q tx (t_next tx tz) a (h_build w ((t_next tx tz) 4))) := hD.sub [0, 1, 2, 3, 4, 5, 6, 7, 8, 9, 10, 11] (by decide) rfl
      refine lv_aload_n hx hb dX3_readHouse_29 rfl (lv_at hl 0 rfl) ?_
      refine q_cVqi (z := bz (t_sem tx (t_next tx tz) = true)) (b := (q 0)) (As := []) (rest := []) (wc := wTx g q tx (t_next tx tz)) (w1 := wTx g q tx (t_next tx (t_next tx tz))) (wr := [(a 0, .inr (1, [.int (zI ((h_build w ((t_next tx tz) 4)) 1)), .int (zI ((h_build w ((t_next tx tz) 4)) 0)), .int (zI ((h_build w ((t_next tx tz) 4)) 2)), .int (zI ((h_build w ((t_next tx tz) 4)) 3)), .int (zI ((h_build w ((t_next tx tz) 4)) 4)), .ref (a 1), .ref (a 2), .ref (a 3), .ref (a 4), .ref (a 5), .ref (a 6), .ref (a 7), .ref (a 8), .ref (a 9)])), (a 1, .inl (g 0, 4, .inl (fun k => zI ((h_build w ((t_next tx tz) 4)) (5 + k))))), (a 2, .inl (g 0, 4, .inl (fun k => zI ((h_build w ((t_next tx tz) 4)) (9 + k))))), (a 3, .inl (g 0, 2, .inl (fun k => zI ((h_build w ((t_next tx tz) 4)) (13 + k))))), (a 4, .inl (g 0, 2, .inl (fun k => zI ((h_build w ((t_next tx tz) 4)) (15 + k))))), (a 5, .inl (g 0, 6, .inl (fun k => zI ((h_build w ((t_next tx tz) 4)) (17 + 4 * k))))), (a 6, .inl (g 0, 6, .inl (fun k => zI ((h_build w ((t_next tx tz) 4)) (18 + 4 * k))))), (a 7, .inl (g 0, 6, .inl (fun k => zI ((h_build w ((t_next tx tz) 4)) (19 + 4 * k))))), (a 8, .inl (g 0, 6, .inl (fun k => zI ((h_build w ((t_next tx tz) 4)) (20 + 4 * k))))), (a 9, .inl (g 0, 8, .inl (fun k => zI ((h_build w ((t_next tx tz) 4)) (41 + k)))))]) [0, 1] [2, 3, 4, 5, 6, 7, 8, 9, 10, 11] ⟨hx, hb, hml, hown, hts⟩ hP hD hK hT hS hA (kX3_nextIsSemicolon l dC dI g tt _ q tx (t_next tx tz) (tsok_next ht)) (cwV 0 hts gX3_readHouse_X3_nextIsSemicolon rfl rfl rfl (by decide +kernel) ⟨Nat.le_of_ble_eq_true rfl, Nat.le_of_ble_eq_true rfl⟩) rfl rfl (by decide) (by decide) (by decide) 0 2 rfl rfl rfl rfl hl.1 rfl (Nat.le_of_ble_eq_true rfl) dX3_readHouse_30 ⟨Nat.le_of_ble_eq_true rfl, Nat.le_of_ble_eq_true rfl⟩ (fun H locs hP hD hS => ?_)
      have hP : va_P (dC, dI) vwCl (wTd g q tx (t_next tx (t_next tx tz)) a (h_build w ((t_next tx tz) 4))) H := hP.sub [10, 11, 0, 1, 2, 3, 4, 5, 6, 7, 8, 9] rfl
      have hD : va_D A (wTd g q tx (t_next tx (t_next tx tz)) a (h_build w ((t_next tx tz) 4))) := hD.sub [10, 11, 0, 1, 2, 3, 4, 5, 6, 7, 8, 9] (by decide) rfl
      have hPf : va_P (dC, dI) vwCl (wTd g q tx (rh_tz tx tz) a (rh_w tx tz w)) H := by rw [(show (rh_tz tx tz) = t_next tx (t_next tx tz) from by unfold rh_tz; first | rw [if_neg c_1] | (rw [if_pos c_1]; first | rw [if_pos c_2] | rw [if_neg c_2])), (show (rh_w tx tz w) = h_build w ((t_next tx tz) 4) from by unfold rh_w; first | rw [if_neg c_1] | (rw [if_pos c_1]; first | rw [if_pos c_2] | rw [if_neg c_2]))]; exact hP
      have hDf : va_D A (wTd g q tx (rh_tz tx tz) a (rh_w tx tz w)) := by rw [(show (rh_tz tx tz) = t_next tx (t_next tx tz) from by unfold rh_tz; first | rw [if_neg c_1] | (rw [if_pos c_1]; first | rw [if_pos c_2] | rw [if_neg c_2])), (show (rh_w tx tz w) = h_build w ((t_next tx tz) 4) from by unfold rh_w; first | rw [if_neg c_1] | (rw [if_pos c_1]; first | rw [if_pos c_2] | rw [if_neg c_2]))]; exact hD
      exact W.zret hx hb hr bz_nar (fun t9 ht9 hW9 => ⟨⟨_, (), rfl, congrArg zI (bz_c (by unfold rh_r; simp [c_1, c_2])), by rw [ht9]; exact hPf, va_K.moved hW9.alike hK, hDf⟩, hS.F ht9⟩) hS.2.2 dX3_readHouse_33
    · refine q_iconst hx hb dX3_readHouse_19 ?_
      have hPf : va_P (dC, dI) vwCl (wTd g q tx (rh_tz tx tz) a (rh_w tx tz w)) H := by rw [(show (rh_tz tx tz) = t_next tx tz from by unfold rh_tz; first | rw [if_neg c_1] | (rw [if_pos c_1]; first | rw [if_pos c_2] | rw [if_neg c_2])), (show (rh_w tx tz w) = w from by unfold rh_w; first | rw [if_neg c_1] | (rw [if_pos c_1]; first | rw [if_pos c_2] | rw [if_neg c_2]))]; exact hP
      have hDf : va_D A (wTd g q tx (rh_tz tx tz) a (rh_w tx tz w)) := by rw [(show (rh_tz tx tz) = t_next tx tz from by unfold rh_tz; first | rw [if_neg c_1] | (rw [if_pos c_1]; first | rw [if_pos c_2] | rw [if_neg c_2])), (show (rh_w tx tz w) = w from by unfold rh_w; first | rw [if_neg c_1] | (rw [if_pos c_1]; first | rw [if_pos c_2] | rw [if_neg c_2]))]; exact hD
      exact W.zret hx hb hr rfl (fun t9 ht9 hW9 => ⟨⟨_, (), rfl, congrArg zI (bz_f (by unfold rh_r; first | simp [c_1, c_2] | simp [c_1])).symm, by rw [ht9]; exact hPf, va_K.moved hW9.alike hK, hDf⟩, hS.F ht9⟩) hS.2.2 dX3_readHouse_20
set_option maxHeartbeats 4000000 in
set_option maxRecDepth 100000 in
theorem kX3_readLift (l : Launch) (dC : Nat → ClassId) (dI : Nat → Nat → Nat) (g : Nat → ClassId) (tt : Nat → Nat) (sz : Nat) (q : Nat → Nat) (tx tz : Int → Int) (a : Nat → Nat) (w : Int → Int) (ht : tsok tx tz) (hl4 : lok w) : Met l yX3_readLift wsX3_readLift ({ frames := 4, cells := 0, slots := 0, locals := 85 }) (va_Pc [.ref (q 0), .ref (a 0)] (eQ (dC, dI) (wTy g) (wTd g q tx tz a w) tt sz)) (va_Qi (fun r (_ : Unit) => r = zI (bz (rl_r tx tz = true))) (fQ (dC, dI) (wTy g) (va_A (wTd g q tx tz a w) sz) (wTd g q tx (rl_tz tx tz) a (rl_w tx tz w))) (va_A (wTd g q tx tz a w) sz)) 0 0 (va_A (wTd g q tx tz a w) sz) := by
  refine Met.ofW (cc := cX3_readLift) (maxL := 3) (ret := (some .boolean)) (by decide) rfl ?_
  intro p e s m args below meth c s₁ B hml hv
  obtain ⟨rfl, hsz, hP, hK, hD0, hT⟩ := hv
  have hx := B.exec
  have hb := B.bytes
  have hr := B.returns
  have hts := atoms_spec (ws := wsX3_readLift) B.pre
  have hown : s.vm.findClass RX3 = some m.cls := findClass_of_methodNamed B.named
  have hlocks := B.notSynchronized
  subst hsz
  have hD := hD0.self (sz := s.heap.size)
  generalize hAe : va_A (wTd g q tx tz a w) s.heap.size = A at hD hT ⊢
  have hA : ∀ q : Nat, s.heap.size ≤ q → A q := fun q h => by rw [← hAe]; exact Or.inr h
  have hS : va_S A s.heap s.heap [] := va_S.rf
  have hl := lv_entry ([.ref (q 0), .ref (a 0)]) (n := 3) (Nat.le_of_ble_eq_true rfl)
  rw [lg_entry_eq]
  generalize (lg_sl ([.ref (q 0), .ref (a 0)]) ++ List.replicate (3 - (lg_sl ([.ref (q 0), .ref (a 0)])).length) Slot.unset).toArray = ls at hl ⊢
  have hl : lv_has ls 3 [(0, .ref (q 0)), (1, .ref (a 0))] := hl
  have kf50 := hts (.fieldLink RX3 50 "WrongWay$Text" "value" "I") (by decide +kernel)
  have iX3 := (fun w h => List.mem_cons_of_mem _ (List.mem_append_left _ (List.mem_append_right _ h)) : ∀ w ∈ u_ws RX3 TX3 6, w ∈ wsX3_readLift)
  refine lv_aload_n hx hb dX3_readLift_0 rfl (lv_at hl 0 rfl) ?_
  refine q_iconst hx hb dX3_readLift_1 ?_
  refine q_iconst hx hb dX3_readLift_2 ?_
  refine q_cVqi (z := bz (t_num tx tz 0 5 = true)) (b := (q 0)) (As := [.int (zI 0), .int (zI 5)]) (rest := []) (wc := wTx g q tx tz) (w1 := wTx g q tx (t_next tx tz)) (wr := [(a 0, .inr (1, [.int (zI (w 1)), .int (zI (w 0)), .int (zI (w 2)), .int (zI (w 3)), .int (zI (w 4)), .ref (a 1), .ref (a 2), .ref (a 3), .ref (a 4), .ref (a 5), .ref (a 6), .ref (a 7), .ref (a 8), .ref (a 9)])), (a 1, .inl (g 0, 4, .inl (fun k => zI (w (5 + k))))), (a 2, .inl (g 0, 4, .inl (fun k => zI (w (9 + k))))), (a 3, .inl (g 0, 2, .inl (fun k => zI (w (13 + k))))), (a 4, .inl (g 0, 2, .inl (fun k => zI (w (15 + k))))), (a 5, .inl (g 0, 6, .inl (fun k => zI (w (17 + 4 * k))))), (a 6, .inl (g 0, 6, .inl (fun k => zI (w (18 + 4 * k))))), (a 7, .inl (g 0, 6, .inl (fun k => zI (w (19 + 4 * k))))), (a 8, .inl (g 0, 6, .inl (fun k => zI (w (20 + 4 * k))))), (a 9, .inl (g 0, 8, .inl (fun k => zI (w (41 + k)))))]) [0, 1] [2, 3, 4, 5, 6, 7, 8, 9, 10, 11] ⟨hx, hb, hml, hown, hts⟩ hP hD hK hT hS hA (kX3_nextIsNumber l dC dI g tt _ q tx tz 0 5 (ht) (by decide)) (cwV 2 hts gX3_readLift_X3_nextIsNumber rfl rfl rfl (by decide +kernel) ⟨Nat.le_of_ble_eq_true rfl, Nat.le_of_ble_eq_true rfl⟩) rfl rfl (by decide) (by decide) (by decide) 0 2 rfl rfl rfl rfl hl.1 rfl (Nat.le_of_ble_eq_true rfl) dX3_readLift_3 ⟨Nat.le_of_ble_eq_true rfl, Nat.le_of_ble_eq_true rfl⟩ (fun H locs hP hD hS => ?_)
  have hP : va_P (dC, dI) vwCl (wTd g q tx (t_next tx tz) a w) H := hP.sub [10, 11, 0, 1, 2, 3, 4, 5, 6, 7, 8, 9] rfl
  have hD : va_D A (wTd g q tx (t_next tx tz) a w) := hD.sub [10, 11, 0, 1, 2, 3, 4, 5, 6, 7, 8, 9] (by decide) rfl
  refine q_bz_ne (tgt := 11) hx hb dX3_readLift_6 (by decide) (fun c_1 => ?_) (fun c_1 => ?_)
  · refine lv_aload_n hx hb dX3_readLift_11 rfl (lv_at hl 0 rfl) ?_
    refine va_get (D := (dC, dI)) (ci := 2) (v := .int (zI ((t_next tx tz) 4))) (C := RX3) (T := TX3) (N := 6) hx hb hts iX3 hown hK hP 0 rfl rfl 5 (by decide) kf50 (fun _ h9 => h9) rfl dX3_readLift_12 ?_
    refine lv_istore_n (lv' := [(2, .int (zI ((t_next tx tz) 4))), (0, .ref (q 0)), (1, .ref (a 0))]) hx hb dX3_readLift_15 rfl hl (by decide) rfl (fun ls hl => ?_)
    refine lv_aload_n hx hb dX3_readLift_16 rfl (lv_at hl 1 rfl) ?_
    refine q_iconst hx hb dX3_readLift_17 ?_
    refine q_bipush hx hb dX3_readLift_18 rfl ?_
    refine q_cVqi (z := bz (t_num tx (t_next tx tz) 0 99 = true)) (b := (q 0)) (As := [.int (zI 0), .int (zI 99)]) (rest := []) (wc := wTx g q tx (t_next tx tz)) (w1 := wTx g q tx (t_next tx (t_next tx tz))) (wr := [(a 0, .inr (1, [.int (zI (w 1)), .int (zI (w 0)), .int (zI (w 2)), .int (zI (w 3)), .int (zI (w 4)), .ref (a 1), .ref (a 2), .ref (a 3), .ref (a 4), .ref (a 5), .ref (a 6), .ref (a 7), .ref (a 8), .ref (a 9)])), (a 1, .inl (g 0, 4, .inl (fun k => zI (w (5 + k))))), (a 2, .inl (g 0, 4, .inl (fun k => zI (w (9 + k))))), (a 3, .inl (g 0, 2, .inl (fun k => zI (w (13 + k))))), (a 4, .inl (g 0, 2, .inl (fun k => zI (w (15 + k))))), (a 5, .inl (g 0, 6, .inl (fun k => zI (w (17 + 4 * k))))), (a 6, .inl (g 0, 6, .inl (fun k => zI (w (18 + 4 * k))))), (a 7, .inl (g 0, 6, .inl (fun k => zI (w (19 + 4 * k))))), (a 8, .inl (g 0, 6, .inl (fun k => zI (w (20 + 4 * k))))), (a 9, .inl (g 0, 8, .inl (fun k => zI (w (41 + k)))))]) [0, 1] [2, 3, 4, 5, 6, 7, 8, 9, 10, 11] ⟨hx, hb, hml, hown, hts⟩ hP hD hK hT hS hA (kX3_nextIsNumber l dC dI g tt _ q tx (t_next tx tz) 0 99 (tsok_next ht) (by decide)) (cwV 2 hts gX3_readLift_X3_nextIsNumber rfl rfl rfl (by decide +kernel) ⟨Nat.le_of_ble_eq_true rfl, Nat.le_of_ble_eq_true rfl⟩) rfl rfl (by decide) (by decide) (by decide) 0 2 rfl rfl rfl rfl hl.1 rfl (Nat.le_of_ble_eq_true rfl) dX3_readLift_20 ⟨Nat.le_of_ble_eq_true rfl, Nat.le_of_ble_eq_true rfl⟩ (fun H locs hP hD hS => ?_)
    have hP : va_P (dC, dI) vwCl (wTd g q tx (t_next tx (t_next tx tz)) a w) H := hP.sub [10, 11, 0, 1, 2, 3, 4, 5, 6, 7, 8, 9] rfl
    have hD : va_D A (wTd g q tx (t_next tx (t_next tx tz)) a w) := hD.sub [10, 11, 0, 1, 2, 3, 4, 5, 6, 7, 8, 9] (by decide) rfl
    refine q_bz_ne (tgt := 28) hx hb dX3_readLift_23 (by decide) (fun c_2 => ?_) (fun c_2 => ?_)
    · refine lv_aload_n hx hb dX3_readLift_28 rfl (lv_at hl 2 rfl) ?_
      refine lv_iload_n hx hb dX3_readLift_29 rfl (lv_at hl 0 rfl) ?_
      refine lv_aload_n hx hb dX3_readLift_30 rfl (lv_at hl 1 rfl) ?_
      refine va_get (D := (dC, dI)) (ci := 2) (v := .int (zI ((t_next tx (t_next tx tz)) 4))) (C := RX3) (T := TX3) (N := 6) hx hb hts iX3 hown hK hP 0 rfl rfl 5 (by decide) kf50 (fun _ h9 => h9) rfl dX3_readLift_31 ?_
      refine q_cVqv (b := (a 0)) (As := [.int (zI ((t_next tx tz) 4)), .int (zI ((t_next tx (t_next tx tz)) 4))]) (rest := []) (wc := wHs g a w) (w1 := wHs g a (h_addLift w ((t_next tx tz) 4) ((t_next tx (t_next tx tz)) 4))) (wr := [(q 0, .inr (2, [.ref (q 1), .int (zI ((t_next tx (t_next tx tz)) 0)), .int (zI ((t_next tx (t_next tx tz)) 1)), .int (zI ((t_next tx (t_next tx tz)) 2)), .int (zI ((t_next tx (t_next tx tz)) 3)), .int (zI ((t_next tx (t_next tx tz)) 4))])), (q 1, .inl (g 1, 150, .inl (fun k => zI (tx k))))]) [2, 3, 4, 5, 6, 7, 8, 9, 10, 11] [0, 1] ⟨hx, hb, hml, hown, hts⟩ hP hD hK hT hS hA (kX1_addLift l dC dI g tt _ a w ((t_next tx tz) 4) ((t_next tx (t_next tx tz)) 4) (hl4)) (cwV 2 hts gX3_readLift_X1_addLift rfl rfl rfl (by decide +kernel) ⟨Nat.le_of_ble_eq_true rfl, Nat.le_of_ble_eq_true rfl⟩) rfl rfl (by decide) (by decide) (by decide) 0 1 rfl rfl rfl rfl hl.1 rfl (Nat.le_of_ble_eq_true rfl) dX3_readLift_34 ⟨Nat.le_of_ble_eq_true rfl, Nat.le_of_ble_eq_true rfl⟩ (fun H locs hP hD hS => ?_)
      have hP : va_P (dC, dI) vwCl (wTd g q tx (t_next tx (t_next tx tz)) a (h_addLift w ((t_next tx tz) 4) ((t_next tx (t_next tx tz)) 4))) H := hP.sub [0, 1, 2, 3, 4, 5, 6, 7, 8, 9, 10, 11] rfl
      have hD : va_D A (wTd g q tx (t_next tx (t_next tx tz)) a (h_addLift w ((t_next tx tz) 4) ((t_next tx (t_next tx tz)) 4))) := hD.sub [0, 1, 2, 3, 4, 5, 6, 7, 8, 9, 10, 11] (by decide) rfl
      refine lv_aload_n hx hb dX3_readLift_37 rfl (lv_at hl 1 rfl) ?_
      refine q_cVqi (z := bz (t_sem tx (t_next tx (t_next tx tz)) = true)) (b := (q 0)) (As := []) (rest := []) (wc := wTx g q tx (t_next tx (t_next tx tz))) (w1 := wTx g q tx (t_next tx (t_next tx (t_next tx tz)))) (wr := [(a 0, .inr (1, [.int (zI ((h_addLift w ((t_next tx tz) 4) ((t_next tx (t_next tx tz)) 4)) 1)), .int (zI ((h_addLift w ((t_next tx tz) 4) ((t_next tx (t_next tx tz)) 4)) 0)), .int (zI ((h_addLift w ((t_next tx tz) 4) ((t_next tx (t_next tx tz)) 4)) 2)), .int (zI ((h_addLift w ((t_next tx tz) 4) ((t_next tx (t_next tx tz)) 4)) 3)), .int (zI ((h_addLift w ((t_next tx tz) 4) ((t_next tx (t_next tx tz)) 4)) 4)), .ref (a 1), .ref (a 2), .ref (a 3), .ref (a 4), .ref (a 5), .ref (a 6), .ref (a 7), .ref (a 8), .ref (a 9)])), (a 1, .inl (g 0, 4, .inl (fun k => zI ((h_addLift w ((t_next tx tz) 4) ((t_next tx (t_next tx tz)) 4)) (5 + k))))), (a 2, .inl (g 0, 4, .inl (fun k => zI ((h_addLift w ((t_next tx tz) 4) ((t_next tx (t_next tx tz)) 4)) (9 + k))))), (a 3, .inl (g 0, 2, .inl (fun k => zI ((h_addLift w ((t_next tx tz) 4) ((t_next tx (t_next tx tz)) 4)) (13 + k))))), (a 4, .inl (g 0, 2, .inl (fun k => zI ((h_addLift w ((t_next tx tz) 4) ((t_next tx (t_next tx tz)) 4)) (15 + k))))), (a 5, .inl (g 0, 6, .inl (fun k => zI ((h_addLift w ((t_next tx tz) 4) ((t_next tx (t_next tx tz)) 4)) (17 + 4 * k))))), (a 6, .inl (g 0, 6, .inl (fun k => zI ((h_addLift w ((t_next tx tz) 4) ((t_next tx (t_next tx tz)) 4)) (18 + 4 * k))))), (a 7, .inl (g 0, 6, .inl (fun k => zI ((h_addLift w ((t_next tx tz) 4) ((t_next tx (t_next tx tz)) 4)) (19 + 4 * k))))), (a 8, .inl (g 0, 6, .inl (fun k => zI ((h_addLift w ((t_next tx tz) 4) ((t_next tx (t_next tx tz)) 4)) (20 + 4 * k))))), (a 9, .inl (g 0, 8, .inl (fun k => zI ((h_addLift w ((t_next tx tz) 4) ((t_next tx (t_next tx tz)) 4)) (41 + k)))))]) [0, 1] [2, 3, 4, 5, 6, 7, 8, 9, 10, 11] ⟨hx, hb, hml, hown, hts⟩ hP hD hK hT hS hA (kX3_nextIsSemicolon l dC dI g tt _ q tx (t_next tx (t_next tx tz)) (tsok_next (tsok_next ht))) (cwV 0 hts gX3_readLift_X3_nextIsSemicolon rfl rfl rfl (by decide +kernel) ⟨Nat.le_of_ble_eq_true rfl, Nat.le_of_ble_eq_true rfl⟩) rfl rfl (by decide) (by decide) (by decide) 0 2 rfl rfl rfl rfl hl.1 rfl (Nat.le_of_ble_eq_true rfl) dX3_readLift_38 ⟨Nat.le_of_ble_eq_true rfl, Nat.le_of_ble_eq_true rfl⟩ (fun H locs hP hD hS => ?_)
      have hP : va_P (dC, dI) vwCl (wTd g q tx (t_next tx (t_next tx (t_next tx tz))) a (h_addLift w ((t_next tx tz) 4) ((t_next tx (t_next tx tz)) 4))) H := hP.sub [10, 11, 0, 1, 2, 3, 4, 5, 6, 7, 8, 9] rfl
      have hD : va_D A (wTd g q tx (t_next tx (t_next tx (t_next tx tz))) a (h_addLift w ((t_next tx tz) 4) ((t_next tx (t_next tx tz)) 4))) := hD.sub [10, 11, 0, 1, 2, 3, 4, 5, 6, 7, 8, 9] (by decide) rfl
      have hPf : va_P (dC, dI) vwCl (wTd g q tx (rl_tz tx tz) a (rl_w tx tz w)) H := by rw [(show (rl_tz tx tz) = t_next tx (t_next tx (t_next tx tz)) from by unfold rl_tz; first | rw [if_neg c_1] | (rw [if_pos c_1]; first | rw [if_pos c_2] | rw [if_neg c_2])), (show (rl_w tx tz w) = h_addLift w ((t_next tx tz) 4) ((t_next tx (t_next tx tz)) 4) from by unfold rl_w; first | rw [if_neg c_1] | (rw [if_pos c_1]; first | rw [if_pos c_2] | rw [if_neg c_2]))]; exact hP
      have hDf : va_D A (wTd g q tx (rl_tz tx tz) a (rl_w tx tz w)) := by rw [(show (rl_tz tx tz) = t_next tx (t_next tx (t_next tx tz)) from by unfold rl_tz; first | rw [if_neg c_1] | (rw [if_pos c_1]; first | rw [if_pos c_2] | rw [if_neg c_2])), (show (rl_w tx tz w) = h_addLift w ((t_next tx tz) 4) ((t_next tx (t_next tx tz)) 4) from by unfold rl_w; first | rw [if_neg c_1] | (rw [if_pos c_1]; first | rw [if_pos c_2] | rw [if_neg c_2]))]; exact hD
      exact W.zret hx hb hr bz_nar (fun t9 ht9 hW9 => ⟨⟨_, (), rfl, congrArg zI (bz_c (by unfold rl_r; simp [c_1, c_2])), by rw [ht9]; exact hPf, va_K.moved hW9.alike hK, hDf⟩, hS.F ht9⟩) hS.2.2 dX3_readLift_41
    · refine q_iconst hx hb dX3_readLift_26 ?_
      have hPf : va_P (dC, dI) vwCl (wTd g q tx (rl_tz tx tz) a (rl_w tx tz w)) H := by rw [(show (rl_tz tx tz) = t_next tx (t_next tx tz) from by unfold rl_tz; first | rw [if_neg c_1] | (rw [if_pos c_1]; first | rw [if_pos c_2] | rw [if_neg c_2])), (show (rl_w tx tz w) = w from by unfold rl_w; first | rw [if_neg c_1] | (rw [if_pos c_1]; first | rw [if_pos c_2] | rw [if_neg c_2]))]; exact hP
      have hDf : va_D A (wTd g q tx (rl_tz tx tz) a (rl_w tx tz w)) := by rw [(show (rl_tz tx tz) = t_next tx (t_next tx tz) from by unfold rl_tz; first | rw [if_neg c_1] | (rw [if_pos c_1]; first | rw [if_pos c_2] | rw [if_neg c_2])), (show (rl_w tx tz w) = w from by unfold rl_w; first | rw [if_neg c_1] | (rw [if_pos c_1]; first | rw [if_pos c_2] | rw [if_neg c_2]))]; exact hD
      exact W.zret hx hb hr rfl (fun t9 ht9 hW9 => ⟨⟨_, (), rfl, congrArg zI (bz_f (by unfold rl_r; first | simp [c_1, c_2] | simp [c_1])).symm, by rw [ht9]; exact hPf, va_K.moved hW9.alike hK, hDf⟩, hS.F ht9⟩) hS.2.2 dX3_readLift_27
  · refine q_iconst hx hb dX3_readLift_9 ?_
    have hPf : va_P (dC, dI) vwCl (wTd g q tx (rl_tz tx tz) a (rl_w tx tz w)) H := by rw [(show (rl_tz tx tz) = t_next tx tz from by unfold rl_tz; first | rw [if_neg c_1] | (rw [if_pos c_1]; first | rw [if_pos c_2] | rw [if_neg c_2])), (show (rl_w tx tz w) = w from by unfold rl_w; first | rw [if_neg c_1] | (rw [if_pos c_1]; first | rw [if_pos c_2] | rw [if_neg c_2]))]; exact hP
    have hDf : va_D A (wTd g q tx (rl_tz tx tz) a (rl_w tx tz w)) := by rw [(show (rl_tz tx tz) = t_next tx tz from by unfold rl_tz; first | rw [if_neg c_1] | (rw [if_pos c_1]; first | rw [if_pos c_2] | rw [if_neg c_2])), (show (rl_w tx tz w) = w from by unfold rl_w; first | rw [if_neg c_1] | (rw [if_pos c_1]; first | rw [if_pos c_2] | rw [if_neg c_2]))]; exact hD
    exact W.zret hx hb hr rfl (fun t9 ht9 hW9 => ⟨⟨_, (), rfl, congrArg zI (bz_f (by unfold rl_r; first | simp [c_1, c_2] | simp [c_1])).symm, by rw [ht9]; exact hPf, va_K.moved hW9.alike hK, hDf⟩, hS.F ht9⟩) hS.2.2 dX3_readLift_10
set_option maxHeartbeats 4000000 in
set_option maxRecDepth 100000 in
theorem kX3_readLine (l : Launch) (dC : Nat → ClassId) (dI : Nat → Nat → Nat) (g : Nat → ClassId) (tt : Nat → Nat) (sz : Nat) (q : Nat → Nat) (tx tz : Int → Int) (a : Nat → Nat) (w : Int → Int) (ht : tsok tx tz) : Met l yX3_readLine wsX3_readLine ({ frames := 4, cells := 0, slots := 0, locals := 85 }) (va_Pc [.ref (q 0), .ref (a 0)] (eQ (dC, dI) (wTy g) (wTd g q tx tz a w) tt sz)) (va_Qi (fun r (_ : Unit) => r = zI (bz (rn_r tx tz = true))) (fQ (dC, dI) (wTy g) (va_A (wTd g q tx tz a w) sz) (wTd g q tx (rn_tz tx tz) a (rn_w tx tz w))) (va_A (wTd g q tx tz a w) sz)) 0 0 (va_A (wTd g q tx tz a w) sz) := by
  refine Met.ofW (cc := cX3_readLine) (maxL := 4) (ret := (some .boolean)) (by decide) rfl ?_
  intro p e s m args below meth c s₁ B hml hv
  obtain ⟨rfl, hsz, hP, hK, hD0, hT⟩ := hv
  have hx := B.exec
  have hb := B.bytes
  have hr := B.returns
  have hts := atoms_spec (ws := wsX3_readLine) B.pre
  have hown : s.vm.findClass RX3 = some m.cls := findClass_of_methodNamed B.named
  have hlocks := B.notSynchronized
  subst hsz
  have hD := hD0.self (sz := s.heap.size)
  generalize hAe : va_A (wTd g q tx tz a w) s.heap.size = A at hD hT ⊢
  have hA : ∀ q : Nat, s.heap.size ≤ q → A q := fun q h => by rw [← hAe]; exact Or.inr h
  have hS : va_S A s.heap s.heap [] := va_S.rf
  have hl := lv_entry ([.ref (q 0), .ref (a 0)]) (n := 4) (Nat.le_of_ble_eq_true rfl)
  rw [lg_entry_eq]
  generalize (lg_sl ([.ref (q 0), .ref (a 0)]) ++ List.replicate (4 - (lg_sl ([.ref (q 0), .ref (a 0)])).length) Slot.unset).toArray = ls at hl ⊢
  have hl : lv_has ls 4 [(0, .ref (q 0)), (1, .ref (a 0))] := hl
  have kf50 := hts (.fieldLink RX3 50 "WrongWay$Text" "value" "I") (by decide +kernel)
  have iX3 := (fun w h => List.mem_cons_of_mem _ (List.mem_append_left _ (List.mem_append_right _ h)) : ∀ w ∈ u_ws RX3 TX3 6, w ∈ wsX3_readLine)
  refine lv_aload_n hx hb dX3_readLine_0 rfl (lv_at hl 0 rfl) ?_
  refine q_iconst hx hb dX3_readLine_1 ?_
  refine q_iconst hx hb dX3_readLine_2 ?_
  refine q_cVqi (z := bz (t_num tx tz 0 1 = true)) (b := (q 0)) (As := [.int (zI 0), .int (zI 1)]) (rest := []) (wc := wTx g q tx tz) (w1 := wTx g q tx (t_next tx tz)) (wr := [(a 0, .inr (1, [.int (zI (w 1)), .int (zI (w 0)), .int (zI (w 2)), .int (zI (w 3)), .int (zI (w 4)), .ref (a 1), .ref (a 2), .ref (a 3), .ref (a 4), .ref (a 5), .ref (a 6), .ref (a 7), .ref (a 8), .ref (a 9)])), (a 1, .inl (g 0, 4, .inl (fun k => zI (w (5 + k))))), (a 2, .inl (g 0, 4, .inl (fun k => zI (w (9 + k))))), (a 3, .inl (g 0, 2, .inl (fun k => zI (w (13 + k))))), (a 4, .inl (g 0, 2, .inl (fun k => zI (w (15 + k))))), (a 5, .inl (g 0, 6, .inl (fun k => zI (w (17 + 4 * k))))), (a 6, .inl (g 0, 6, .inl (fun k => zI (w (18 + 4 * k))))), (a 7, .inl (g 0, 6, .inl (fun k => zI (w (19 + 4 * k))))), (a 8, .inl (g 0, 6, .inl (fun k => zI (w (20 + 4 * k))))), (a 9, .inl (g 0, 8, .inl (fun k => zI (w (41 + k)))))]) [0, 1] [2, 3, 4, 5, 6, 7, 8, 9, 10, 11] ⟨hx, hb, hml, hown, hts⟩ hP hD hK hT hS hA (kX3_nextIsNumber l dC dI g tt _ q tx tz 0 1 (ht) (by decide)) (cwV 2 hts gX3_readLine_X3_nextIsNumber rfl rfl rfl (by decide +kernel) ⟨Nat.le_of_ble_eq_true rfl, Nat.le_of_ble_eq_true rfl⟩) rfl rfl (by decide) (by decide) (by decide) 0 2 rfl rfl rfl rfl hl.1 rfl (Nat.le_of_ble_eq_true rfl) dX3_readLine_3 ⟨Nat.le_of_ble_eq_true rfl, Nat.le_of_ble_eq_true rfl⟩ (fun H locs hP hD hS => ?_)
  have hP : va_P (dC, dI) vwCl (wTd g q tx (t_next tx tz) a w) H := hP.sub [10, 11, 0, 1, 2, 3, 4, 5, 6, 7, 8, 9] rfl
  have hD : va_D A (wTd g q tx (t_next tx tz) a w) := hD.sub [10, 11, 0, 1, 2, 3, 4, 5, 6, 7, 8, 9] (by decide) rfl
  refine q_bz_ne (tgt := 11) hx hb dX3_readLine_6 (by decide) (fun c_1 => ?_) (fun c_1 => ?_)
  · refine lv_aload_n hx hb dX3_readLine_11 rfl (lv_at hl 0 rfl) ?_
    refine va_get (D := (dC, dI)) (ci := 2) (v := .int (zI ((t_next tx tz) 4))) (C := RX3) (T := TX3) (N := 6) hx hb hts iX3 hown hK hP 0 rfl rfl 5 (by decide) kf50 (fun _ h9 => h9) rfl dX3_readLine_12 ?_
    refine lv_istore_n (lv' := [(2, .int (zI ((t_next tx tz) 4))), (0, .ref (q 0)), (1, .ref (a 0))]) hx hb dX3_readLine_15 rfl hl (by decide) rfl (fun ls hl => ?_)
    refine lv_aload_n hx hb dX3_readLine_16 rfl (lv_at hl 1 rfl) ?_
    refine q_iconst hx hb dX3_readLine_17 ?_
    refine q_bipush hx hb dX3_readLine_18 rfl ?_
    refine q_cVqi (z := bz (t_num tx (t_next tx tz) 1 30 = true)) (b := (q 0)) (As := [.int (zI 1), .int (zI 30)]) (rest := []) (wc := wTx g q tx (t_next tx tz)) (w1 := wTx g q tx (t_next tx (t_next tx tz))) (wr := [(a 0, .inr (1, [.int (zI (w 1)), .int (zI (w 0)), .int (zI (w 2)), .int (zI (w 3)), .int (zI (w 4)), .ref (a 1), .ref (a 2), .ref (a 3), .ref (a 4), .ref (a 5), .ref (a 6), .ref (a 7), .ref (a 8), .ref (a 9)])), (a 1, .inl (g 0, 4, .inl (fun k => zI (w (5 + k))))), (a 2, .inl (g 0, 4, .inl (fun k => zI (w (9 + k))))), (a 3, .inl (g 0, 2, .inl (fun k => zI (w (13 + k))))), (a 4, .inl (g 0, 2, .inl (fun k => zI (w (15 + k))))), (a 5, .inl (g 0, 6, .inl (fun k => zI (w (17 + 4 * k))))), (a 6, .inl (g 0, 6, .inl (fun k => zI (w (18 + 4 * k))))), (a 7, .inl (g 0, 6, .inl (fun k => zI (w (19 + 4 * k))))), (a 8, .inl (g 0, 6, .inl (fun k => zI (w (20 + 4 * k))))), (a 9, .inl (g 0, 8, .inl (fun k => zI (w (41 + k)))))]) [0, 1] [2, 3, 4, 5, 6, 7, 8, 9, 10, 11] ⟨hx, hb, hml, hown, hts⟩ hP hD hK hT hS hA (kX3_nextIsNumber l dC dI g tt _ q tx (t_next tx tz) 1 30 (tsok_next ht) (by decide)) (cwV 2 hts gX3_readLine_X3_nextIsNumber rfl rfl rfl (by decide +kernel) ⟨Nat.le_of_ble_eq_true rfl, Nat.le_of_ble_eq_true rfl⟩) rfl rfl (by decide) (by decide) (by decide) 0 2 rfl rfl rfl rfl hl.1 rfl (Nat.le_of_ble_eq_true rfl) dX3_readLine_20 ⟨Nat.le_of_ble_eq_true rfl, Nat.le_of_ble_eq_true rfl⟩ (fun H locs hP hD hS => ?_)
    have hP : va_P (dC, dI) vwCl (wTd g q tx (t_next tx (t_next tx tz)) a w) H := hP.sub [10, 11, 0, 1, 2, 3, 4, 5, 6, 7, 8, 9] rfl
    have hD : va_D A (wTd g q tx (t_next tx (t_next tx tz)) a w) := hD.sub [10, 11, 0, 1, 2, 3, 4, 5, 6, 7, 8, 9] (by decide) rfl
    refine q_bz_ne (tgt := 28) hx hb dX3_readLine_23 (by decide) (fun c_2 => ?_) (fun c_2 => ?_)
    · refine lv_aload_n hx hb dX3_readLine_28 rfl (lv_at hl 1 rfl) ?_
      refine va_get (D := (dC, dI)) (ci := 2) (v := .int (zI ((t_next tx (t_next tx tz)) 4))) (C := RX3) (T := TX3) (N := 6) hx hb hts iX3 hown hK hP 0 rfl rfl 5 (by decide) kf50 (fun _ h9 => h9) rfl dX3_readLine_29 ?_
      refine lv_istore_n (lv' := [(3, .int (zI ((t_next tx (t_next tx tz)) 4))), (2, .int (zI ((t_next tx tz) 4))), (0, .ref (q 0)), (1, .ref (a 0))]) hx hb dX3_readLine_32 rfl hl (by decide) rfl (fun ls hl => ?_)
      refine lv_aload_n hx hb dX3_readLine_33 rfl (lv_at hl 2 rfl) ?_
      refine q_iconst hx hb dX3_readLine_34 ?_
      refine q_bipush hx hb dX3_readLine_35 rfl ?_
      refine q_cVqi (z := bz (t_num tx (t_next tx (t_next tx tz)) 0 29 = true)) (b := (q 0)) (As := [.int (zI 0), .int (zI 29)]) (rest := []) (wc := wTx g q tx (t_next tx (t_next tx tz))) (w1 := wTx g q tx (t_next tx (t_next tx (t_next tx tz)))) (wr := [(a 0, .inr (1, [.int (zI (w 1)), .int (zI (w 0)), .int (zI (w 2)), .int (zI (w 3)), .int (zI (w 4)), .ref (a 1), .ref (a 2), .ref (a 3), .ref (a 4), .ref (a 5), .ref (a 6), .ref (a 7), .ref (a 8), .ref (a 9)])), (a 1, .inl (g 0, 4, .inl (fun k => zI (w (5 + k))))), (a 2, .inl (g 0, 4, .inl (fun k => zI (w (9 + k))))), (a 3, .inl (g 0, 2, .inl (fun k => zI (w (13 + k))))), (a 4, .inl (g 0, 2, .inl (fun k => zI (w (15 + k))))), (a 5, .inl (g 0, 6, .inl (fun k => zI (w (17 + 4 * k))))), (a 6, .inl (g 0, 6, .inl (fun k => zI (w (18 + 4 * k))))), (a 7, .inl (g 0, 6, .inl (fun k => zI (w (19 + 4 * k))))), (a 8, .inl (g 0, 6, .inl (fun k => zI (w (20 + 4 * k))))), (a 9, .inl (g 0, 8, .inl (fun k => zI (w (41 + k)))))]) [0, 1] [2, 3, 4, 5, 6, 7, 8, 9, 10, 11] ⟨hx, hb, hml, hown, hts⟩ hP hD hK hT hS hA (kX3_nextIsNumber l dC dI g tt _ q tx (t_next tx (t_next tx tz)) 0 29 (tsok_next (tsok_next ht)) (by decide)) (cwV 2 hts gX3_readLine_X3_nextIsNumber rfl rfl rfl (by decide +kernel) ⟨Nat.le_of_ble_eq_true rfl, Nat.le_of_ble_eq_true rfl⟩) rfl rfl (by decide) (by decide) (by decide) 0 2 rfl rfl rfl rfl hl.1 rfl (Nat.le_of_ble_eq_true rfl) dX3_readLine_37 ⟨Nat.le_of_ble_eq_true rfl, Nat.le_of_ble_eq_true rfl⟩ (fun H locs hP hD hS => ?_)
      have hP : va_P (dC, dI) vwCl (wTd g q tx (t_next tx (t_next tx (t_next tx tz))) a w) H := hP.sub [10, 11, 0, 1, 2, 3, 4, 5, 6, 7, 8, 9] rfl
      have hD : va_D A (wTd g q tx (t_next tx (t_next tx (t_next tx tz))) a w) := hD.sub [10, 11, 0, 1, 2, 3, 4, 5, 6, 7, 8, 9] (by decide) rfl
      refine q_bz_ne (tgt := 45) hx hb dX3_readLine_40 (by decide) (fun c_3 => ?_) (fun c_3 => ?_)
      · refine lv_aload_n hx hb dX3_readLine_45 rfl (lv_at hl 3 rfl) ?_
        refine lv_iload_n hx hb dX3_readLine_46 rfl (lv_at hl 1 rfl) ?_
        refine lv_iload_n hx hb dX3_readLine_47 rfl (lv_at hl 0 rfl) ?_
        refine lv_aload_n hx hb dX3_readLine_48 rfl (lv_at hl 2 rfl) ?_
        refine va_get (D := (dC, dI)) (ci := 2) (v := .int (zI ((t_next tx (t_next tx (t_next tx tz))) 4))) (C := RX3) (T := TX3) (N := 6) hx hb hts iX3 hown hK hP 0 rfl rfl 5 (by decide) kf50 (fun _ h9 => h9) rfl dX3_readLine_49 ?_
        refine q_cVqv (b := (a 0)) (As := [.int (zI ((t_next tx tz) 4)), .int (zI ((t_next tx (t_next tx tz)) 4)), .int (zI ((t_next tx (t_next tx (t_next tx tz))) 4))]) (rest := []) (wc := wHs g a w) (w1 := wHs g a (wset (wset w (13 + ((t_next tx tz) 4)) ((t_next tx (t_next tx tz)) 4)) (15 + ((t_next tx tz) 4)) ((t_next tx (t_next tx (t_next tx tz))) 4))) (wr := [(q 0, .inr (2, [.ref (q 1), .int (zI ((t_next tx (t_next tx (t_next tx tz))) 0)), .int (zI ((t_next tx (t_next tx (t_next tx tz))) 1)), .int (zI ((t_next tx (t_next tx (t_next tx tz))) 2)), .int (zI ((t_next tx (t_next tx (t_next tx tz))) 3)), .int (zI ((t_next tx (t_next tx (t_next tx tz))) 4))])), (q 1, .inl (g 1, 150, .inl (fun k => zI (tx k))))]) [2, 3, 4, 5, 6, 7, 8, 9, 10, 11] [0, 1] ⟨hx, hb, hml, hown, hts⟩ hP hD hK hT hS hA (kX1_setLine l dC dI g tt _ a w ((t_next tx tz) 4) ((t_next tx (t_next tx tz)) 4) ((t_next tx (t_next tx (t_next tx tz))) 4) (t_num_4 c_1)) (cwV 3 hts gX3_readLine_X1_setLine rfl rfl rfl (by decide +kernel) ⟨Nat.le_of_ble_eq_true rfl, Nat.le_of_ble_eq_true rfl⟩) rfl rfl (by decide) (by decide) (by decide) 0 1 rfl rfl rfl rfl hl.1 rfl (Nat.le_of_ble_eq_true rfl) dX3_readLine_52 ⟨Nat.le_of_ble_eq_true rfl, Nat.le_of_ble_eq_true rfl⟩ (fun H locs hP hD hS => ?_)
        have hP : va_P (dC, dI) vwCl (wTd g q tx (t_next tx (t_next tx (t_next tx tz))) a (wset (wset w (13 + ((t_next tx tz) 4)) ((t_next tx (t_next tx tz)) 4)) (15 + ((t_next tx tz) 4)) ((t_next tx (t_next tx (t_next tx tz))) 4))) H := hP.sub [0, 1, 2, 3, 4, 5, 6, 7, 8, 9, 10, 11] rfl
        have hD : va_D A (wTd g q tx (t_next tx (t_next tx (t_next tx tz))) a (wset (wset w (13 + ((t_next tx tz) 4)) ((t_next tx (t_next tx tz)) 4)) (15 + ((t_next tx tz) 4)) ((t_next tx (t_next tx (t_next tx tz))) 4))) := hD.sub [0, 1, 2, 3, 4, 5, 6, 7, 8, 9, 10, 11] (by decide) rfl
        refine lv_aload_n hx hb dX3_readLine_55 rfl (lv_at hl 2 rfl) ?_
        refine q_cVqi (z := bz (t_sem tx (t_next tx (t_next tx (t_next tx tz))) = true)) (b := (q 0)) (As := []) (rest := []) (wc := wTx g q tx (t_next tx (t_next tx (t_next tx tz)))) (w1 := wTx g q tx (t_next tx (t_next tx (t_next tx (t_next tx tz))))) (wr := [(a 0, .inr (1, [.int (zI ((wset (wset w (13 + ((t_next tx tz) 4)) ((t_next tx (t_next tx tz)) 4)) (15 + ((t_next tx tz) 4)) ((t_next tx (t_next tx (t_next tx tz))) 4)) 1)), .int (zI ((wset (wset w (13 + ((t_next tx tz) 4)) ((t_next tx (t_next tx tz)) 4)) (15 + ((t_next tx tz) 4)) ((t_next tx (t_next tx (t_next tx tz))) 4)) 0)), .int (zI ((wset (wset w (13 + ((t_next tx tz) 4)) ((t_next tx (t_next tx tz)) 4)) (15 + ((t_next tx tz) 4)) ((t_next tx (t_next tx (t_next tx tz))) 4)) 2)), .int (zI ((wset (wset w (13 + ((t_next tx tz) 4)) ((t_next tx (t_next tx tz)) 4)) (15 + ((t_next tx tz) 4)) ((t_next tx (t_next tx (t_next tx tz))) 4)) 3)), .int (zI ((wset (wset w (13 + ((t_next tx tz) 4)) ((t_next tx (t_next tx tz)) 4)) (15 + ((t_next tx tz) 4)) ((t_next tx (t_next tx (t_next tx tz))) 4)) 4)), .ref (a 1), .ref (a 2), .ref (a 3), .ref (a 4), .ref (a 5), .ref (a 6), .ref (a 7), .ref (a 8), .ref (a 9)])), (a 1, .inl (g 0, 4, .inl (fun k => zI ((wset (wset w (13 + ((t_next tx tz) 4)) ((t_next tx (t_next tx tz)) 4)) (15 + ((t_next tx tz) 4)) ((t_next tx (t_next tx (t_next tx tz))) 4)) (5 + k))))), (a 2, .inl (g 0, 4, .inl (fun k => zI ((wset (wset w (13 + ((t_next tx tz) 4)) ((t_next tx (t_next tx tz)) 4)) (15 + ((t_next tx tz) 4)) ((t_next tx (t_next tx (t_next tx tz))) 4)) (9 + k))))), (a 3, .inl (g 0, 2, .inl (fun k => zI ((wset (wset w (13 + ((t_next tx tz) 4)) ((t_next tx (t_next tx tz)) 4)) (15 + ((t_next tx tz) 4)) ((t_next tx (t_next tx (t_next tx tz))) 4)) (13 + k))))), (a 4, .inl (g 0, 2, .inl (fun k => zI ((wset (wset w (13 + ((t_next tx tz) 4)) ((t_next tx (t_next tx tz)) 4)) (15 + ((t_next tx tz) 4)) ((t_next tx (t_next tx (t_next tx tz))) 4)) (15 + k))))), (a 5, .inl (g 0, 6, .inl (fun k => zI ((wset (wset w (13 + ((t_next tx tz) 4)) ((t_next tx (t_next tx tz)) 4)) (15 + ((t_next tx tz) 4)) ((t_next tx (t_next tx (t_next tx tz))) 4)) (17 + 4 * k))))), (a 6, .inl (g 0, 6, .inl (fun k => zI ((wset (wset w (13 + ((t_next tx tz) 4)) ((t_next tx (t_next tx tz)) 4)) (15 + ((t_next tx tz) 4)) ((t_next tx (t_next tx (t_next tx tz))) 4)) (18 + 4 * k))))), (a 7, .inl (g 0, 6, .inl (fun k => zI ((wset (wset w (13 + ((t_next tx tz) 4)) ((t_next tx (t_next tx tz)) 4)) (15 + ((t_next tx tz) 4)) ((t_next tx (t_next tx (t_next tx tz))) 4)) (19 + 4 * k))))), (a 8, .inl (g 0, 6, .inl (fun k => zI ((wset (wset w (13 + ((t_next tx tz) 4)) ((t_next tx (t_next tx tz)) 4)) (15 + ((t_next tx tz) 4)) ((t_next tx (t_next tx (t_next tx tz))) 4)) (20 + 4 * k))))), (a 9, .inl (g 0, 8, .inl (fun k => zI ((wset (wset w (13 + ((t_next tx tz) 4)) ((t_next tx (t_next tx tz)) 4)) (15 + ((t_next tx tz) 4)) ((t_next tx (t_next tx (t_next tx tz))) 4)) (41 + k)))))]) [0, 1] [2, 3, 4, 5, 6, 7, 8, 9, 10, 11] ⟨hx, hb, hml, hown, hts⟩ hP hD hK hT hS hA (kX3_nextIsSemicolon l dC dI g tt _ q tx (t_next tx (t_next tx (t_next tx tz))) (tsok_next (tsok_next (tsok_next ht)))) (cwV 0 hts gX3_readLine_X3_nextIsSemicolon rfl rfl rfl (by decide +kernel) ⟨Nat.le_of_ble_eq_true rfl, Nat.le_of_ble_eq_true rfl⟩) rfl rfl (by decide) (by decide) (by decide) 0 2 rfl rfl rfl rfl hl.1 rfl (Nat.le_of_ble_eq_true rfl) dX3_readLine_56 ⟨Nat.le_of_ble_eq_true rfl, Nat.le_of_ble_eq_true rfl⟩ (fun H locs hP hD hS => ?_)
        have hP : va_P (dC, dI) vwCl (wTd g q tx (t_next tx (t_next tx (t_next tx (t_next tx tz)))) a (wset (wset w (13 + ((t_next tx tz) 4)) ((t_next tx (t_next tx tz)) 4)) (15 + ((t_next tx tz) 4)) ((t_next tx (t_next tx (t_next tx tz))) 4))) H := hP.sub [10, 11, 0, 1, 2, 3, 4, 5, 6, 7, 8, 9] rfl
        have hD : va_D A (wTd g q tx (t_next tx (t_next tx (t_next tx (t_next tx tz)))) a (wset (wset w (13 + ((t_next tx tz) 4)) ((t_next tx (t_next tx tz)) 4)) (15 + ((t_next tx tz) 4)) ((t_next tx (t_next tx (t_next tx tz))) 4))) := hD.sub [10, 11, 0, 1, 2, 3, 4, 5, 6, 7, 8, 9] (by decide) rfl
        have hPf : va_P (dC, dI) vwCl (wTd g q tx (rn_tz tx tz) a (rn_w tx tz w)) H := by rw [(show (rn_tz tx tz) = t_next tx (t_next tx (t_next tx (t_next tx tz))) from by unfold rn_tz; first | rw [if_neg c_1] | (rw [if_pos c_1]; first | rw [if_neg c_2] | (rw [if_pos c_2]; first | rw [if_pos c_3] | rw [if_neg c_3]))), (show (rn_w tx tz w) = wset (wset w (13 + ((t_next tx tz) 4)) ((t_next tx (t_next tx tz)) 4)) (15 + ((t_next tx tz) 4)) ((t_next tx (t_next tx (t_next tx tz))) 4) from by unfold rn_w; first | rw [if_neg c_1] | (rw [if_pos c_1]; first | rw [if_neg c_2] | (rw [if_pos c_2]; first | rw [if_pos c_3] | rw [if_neg c_3])))]; exact hP
        have hDf : va_D A (wTd g q tx (rn_tz tx tz) a (rn_w tx tz w)) := by rw [(show (rn_tz tx tz) = t_next tx (t_next tx (t_next tx (t_next tx tz))) from by unfold rn_tz; first | rw [if_neg c_1] | (rw [if_pos c_1]; first | rw [if_neg c_2] | (rw [if_pos c_2]; first | rw [if_pos c_3] | rw [if_neg c_3]))), (show (rn_w tx tz w) = wset (wset w (13 + ((t_next tx tz) 4)) ((t_next tx (t_next tx tz)) 4)) (15 + ((t_next tx tz) 4)) ((t_next tx (t_next tx (t_next tx tz))) 4) from by unfold rn_w; first | rw [if_neg c_1] | (rw [if_pos c_1]; first | rw [if_neg c_2] | (rw [if_pos c_2]; first | rw [if_pos c_3] | rw [if_neg c_3])))]; exact hD
        exact W.zret hx hb hr bz_nar (fun t9 ht9 hW9 => ⟨⟨_, (), rfl, congrArg zI (bz_c (by unfold rn_r; simp [c_1, c_2, c_3])), by rw [ht9]; exact hPf, va_K.moved hW9.alike hK, hDf⟩, hS.F ht9⟩) hS.2.2 dX3_readLine_59
      · refine q_iconst hx hb dX3_readLine_43 ?_
        have hPf : va_P (dC, dI) vwCl (wTd g q tx (rn_tz tx tz) a (rn_w tx tz w)) H := by rw [(show (rn_tz tx tz) = t_next tx (t_next tx (t_next tx tz)) from by unfold rn_tz; first | rw [if_neg c_1] | (rw [if_pos c_1]; first | rw [if_neg c_2] | (rw [if_pos c_2]; first | rw [if_pos c_3] | rw [if_neg c_3]))), (show (rn_w tx tz w) = w from by unfold rn_w; first | rw [if_neg c_1] | (rw [if_pos c_1]; first | rw [if_neg c_2] | (rw [if_pos c_2]; first | rw [if_pos c_3] | rw [if_neg c_3])))]; exact hP
        have hDf : va_D A (wTd g q tx (rn_tz tx tz) a (rn_w tx tz w)) := by rw [(show (rn_tz tx tz) = t_next tx (t_next tx (t_next tx tz)) from by unfold rn_tz; first | rw [if_neg c_1] | (rw [if_pos c_1]; first | rw [if_neg c_2] | (rw [if_pos c_2]; first | rw [if_pos c_3] | rw [if_neg c_3]))), (show (rn_w tx tz w) = w from by unfold rn_w; first | rw [if_neg c_1] | (rw [if_pos c_1]; first | rw [if_neg c_2] | (rw [if_pos c_2]; first | rw [if_pos c_3] | rw [if_neg c_3])))]; exact hD
        exact W.zret hx hb hr rfl (fun t9 ht9 hW9 => ⟨⟨_, (), rfl, congrArg zI (bz_f (by unfold rn_r; first | simp [c_1, c_2, c_3] | simp [c_1, c_2] | simp [c_1])).symm, by rw [ht9]; exact hPf, va_K.moved hW9.alike hK, hDf⟩, hS.F ht9⟩) hS.2.2 dX3_readLine_44
    · refine q_iconst hx hb dX3_readLine_26 ?_
      have hPf : va_P (dC, dI) vwCl (wTd g q tx (rn_tz tx tz) a (rn_w tx tz w)) H := by rw [(show (rn_tz tx tz) = t_next tx (t_next tx tz) from by unfold rn_tz; first | rw [if_neg c_1] | (rw [if_pos c_1]; first | rw [if_neg c_2] | (rw [if_pos c_2]; first | rw [if_pos c_3] | rw [if_neg c_3]))), (show (rn_w tx tz w) = w from by unfold rn_w; first | rw [if_neg c_1] | (rw [if_pos c_1]; first | rw [if_neg c_2] | (rw [if_pos c_2]; first | rw [if_pos c_3] | rw [if_neg c_3])))]; exact hP
      have hDf : va_D A (wTd g q tx (rn_tz tx tz) a (rn_w tx tz w)) := by rw [(show (rn_tz tx tz) = t_next tx (t_next tx tz) from by unfold rn_tz; first | rw [if_neg c_1] | (rw [if_pos c_1]; first | rw [if_neg c_2] | (rw [if_pos c_2]; first | rw [if_pos c_3] | rw [if_neg c_3]))), (show (rn_w tx tz w) = w from by unfold rn_w; first | rw [if_neg c_1] | (rw [if_pos c_1]; first | rw [if_neg c_2] | (rw [if_pos c_2]; first | rw [if_pos c_3] | rw [if_neg c_3])))]; exact hD
      exact W.zret hx hb hr rfl (fun t9 ht9 hW9 => ⟨⟨_, (), rfl, congrArg zI (bz_f (by unfold rn_r; first | simp [c_1, c_2, c_3] | simp [c_1, c_2] | simp [c_1])).symm, by rw [ht9]; exact hPf, va_K.moved hW9.alike hK, hDf⟩, hS.F ht9⟩) hS.2.2 dX3_readLine_27
  · refine q_iconst hx hb dX3_readLine_9 ?_
    have hPf : va_P (dC, dI) vwCl (wTd g q tx (rn_tz tx tz) a (rn_w tx tz w)) H := by rw [(show (rn_tz tx tz) = t_next tx tz from by unfold rn_tz; first | rw [if_neg c_1] | (rw [if_pos c_1]; first | rw [if_neg c_2] | (rw [if_pos c_2]; first | rw [if_pos c_3] | rw [if_neg c_3]))), (show (rn_w tx tz w) = w from by unfold rn_w; first | rw [if_neg c_1] | (rw [if_pos c_1]; first | rw [if_neg c_2] | (rw [if_pos c_2]; first | rw [if_pos c_3] | rw [if_neg c_3])))]; exact hP
    have hDf : va_D A (wTd g q tx (rn_tz tx tz) a (rn_w tx tz w)) := by rw [(show (rn_tz tx tz) = t_next tx tz from by unfold rn_tz; first | rw [if_neg c_1] | (rw [if_pos c_1]; first | rw [if_neg c_2] | (rw [if_pos c_2]; first | rw [if_pos c_3] | rw [if_neg c_3]))), (show (rn_w tx tz w) = w from by unfold rn_w; first | rw [if_neg c_1] | (rw [if_pos c_1]; first | rw [if_neg c_2] | (rw [if_pos c_2]; first | rw [if_pos c_3] | rw [if_neg c_3])))]; exact hD
    exact W.zret hx hb hr rfl (fun t9 ht9 hW9 => ⟨⟨_, (), rfl, congrArg zI (bz_f (by unfold rn_r; first | simp [c_1, c_2, c_3] | simp [c_1, c_2] | simp [c_1])).symm, by rw [ht9]; exact hPf, va_K.moved hW9.alike hK, hDf⟩, hS.F ht9⟩) hS.2.2 dX3_readLine_10
