set_option maxHeartbeats 4000000 in
set_option maxRecDepth 100000 in
theorem kX6_byteAt (l : Launch) (dC : Nat → ClassId) (dI : Nat → Nat → Nat) (g : Nat → ClassId) (tt : Nat → Nat) (q : Nat → Nat) (M : Nat → Int → Int) (x1 : Int) (ht : tok (M 3) (M 0 0)) (h1 : 0 ≤ x1 ∧ x1 ≤ 1000) : Met l yX6_byteAt wsX6_byteAt ({ frames := 0, cells := 0, slots := 0, locals := 0 }) (va_Pc [.ref (q 0), .int (zI x1)] (eS (dC, dI) (wTy g) (wMo g q M) tt)) (vp_Si (fun r => r = zI (bAt (M 3) (M 0 0) x1))) 0 0 (fun _ => False) := by
  refine Met.ofW (cc := cX6_byteAt) (maxL := 2) (ret := (some .int)) (by decide) rfl ?_
  intro p e s m args below meth c s₁ B hml hv
  obtain ⟨rfl, hP, hK, hT⟩ := hv
  have hx := B.exec
  have hb := B.bytes
  have hr := B.returns
  have hts := atoms_spec (ws := wsX6_byteAt) B.pre
  have hown : s.vm.findClass RX6 = some m.cls := findClass_of_methodNamed B.named
  have hlocks := B.notSynchronized
  have hS : va_S (fun _ : Nat => False) s.heap s.heap [] := va_S.rf
  have hl := lv_entry ([.ref (q 0), .int (zI x1)]) (n := 2) (Nat.le_of_ble_eq_true rfl)
  rw [lg_entry_eq]
  generalize (lg_sl ([.ref (q 0), .int (zI x1)]) ++ List.replicate (2 - (lg_sl ([.ref (q 0), .int (zI x1)])).length) Slot.unset).toArray = ls at hl ⊢
  have hl : lv_has ls 2 [(0, .ref (q 0)), (1, .int (zI x1))] := hl
  have kf17 := hts (.fieldLink RX6 17 "WrongWayModel" "text" "[I") (by decide +kernel)
  have kf63 := hts (.fieldLink RX6 63 "WrongWayModel" "texted" "I") (by decide +kernel)
  have iX6 := (fun w h => List.mem_cons_of_mem _ (List.mem_append_right _ h) : ∀ w ∈ u_ws RX6 TX6 15, w ∈ wsX6_byteAt)
  have hL := ht.1
  refine lv_iload_n hx hb dX6_byteAt_0 rfl (lv_at hl 1 rfl) ?_
  refine lv_aload_n hx hb dX6_byteAt_1 rfl (lv_at hl 0 rfl) ?_
  refine va_get (D := (dC, dI)) (ci := 5) (v := .int (zI (M 0 0))) (C := RX6) (T := TX6) (N := 15) hx hb hts iX6 hown hK hP 0 rfl rfl 3 (by decide) kf63 (fun _ h9 => h9) rfl dX6_byteAt_2 ?_
  refine q_icmp_ge (tgt := 17) hx hb dX6_byteAt_5 (by decide) (by omega) (fun c_1 => ?_) (fun c_1 => ?_)
  · refine q_iconst hx hb dX6_byteAt_17 ?_
    exact W.iret hx hb hr (fun t9 ht9 hW9 => ⟨_, rfl, congrArg zI (show (-1) = bAt (M 3) (M 0 0) x1 from by unfold bAt; first | (rw [if_neg (by omega)]; done) | (rw [if_pos (by omega)]; done)), ht9⟩) hS.2.2 dX6_byteAt_18
  · have hb0 := ht.2 x1 (by omega) (by omega)
    refine lv_aload_n hx hb dX6_byteAt_8 rfl (lv_at hl 0 rfl) ?_
    refine va_get (D := (dC, dI)) (ci := 5) (v := .ref (q 3)) (C := RX6) (T := TX6) (N := 15) hx hb hts iX6 hown hK hP 0 rfl rfl 2 (by decide) kf17 (fun _ h9 => h9) rfl dX6_byteAt_9 ?_
    refine lv_iload_n hx hb dX6_byteAt_12 rfl (lv_at hl 1 rfl) ?_
    refine q_iald (F := fun k9 => M 3 k9) (v := M 3 x1) hx hb hK hP 3 0 rfl rfl (by decide) (by omega) (rfl) dX6_byteAt_13 ?_
    refine lv_goto (tgt := 18) hx hb dX6_byteAt_14 (by decide) ?_
    exact W.iret hx hb hr (fun t9 ht9 hW9 => ⟨_, rfl, congrArg zI (show M 3 x1 = bAt (M 3) (M 0 0) x1 from by unfold bAt; first | (rw [if_neg (by omega)]; done) | (rw [if_pos (by omega)]; done)), ht9⟩) hS.2.2 dX6_byteAt_18
set_option maxHeartbeats 4000000 in
set_option maxRecDepth 100000 in
theorem kX6_token (l : Launch) (dC : Nat → ClassId) (dI : Nat → Nat → Nat) (g : Nat → ClassId) (tt : Nat → Nat) (sz : Nat) (q : Nat → Nat) (M : Nat → Int → Int) (hm : mtk M) : Met l yX6_token wsX6_token ({ frames := 1, cells := 0, slots := 0, locals := 25 }) (va_Pc [.ref (q 0)] (eQ (dC, dI) (wTy g) (wMo g q M) tt sz)) (va_Qv (fun (_ : Unit) => True) (fQ (dC, dI) (wTy g) (va_A (wMo g q M) sz) (wMo g q (m_tok M))) (va_A (wMo g q M) sz)) 0 0 (va_A (wMo g q M) sz) := by
  refine Met.ofW (cc := cX6_token) (maxL := 1) (ret := none) (by decide) rfl ?_
  intro p e s m args below meth c s₁ B hml hv
  obtain ⟨rfl, hsz, hP, hK, hD0, hT⟩ := hv
  have hx := B.exec
  have hb := B.bytes
  have hr := B.returns
  have hts := atoms_spec (ws := wsX6_token) B.pre
  have hown : s.vm.findClass RX6 = some m.cls := findClass_of_methodNamed B.named
  have hlocks := B.notSynchronized
  subst hsz
  have hD := hD0.self (sz := s.heap.size)
  generalize hAe : va_A (wMo g q M) s.heap.size = A at hD hT ⊢
  have hA : ∀ q : Nat, s.heap.size ≤ q → A q := fun q h => by rw [← hAe]; exact Or.inr h
  have hS : va_S A s.heap s.heap [] := va_S.rf
  have hl := lv_entry ([.ref (q 0)]) (n := 1) (Nat.le_of_ble_eq_true rfl)
  rw [lg_entry_eq]
  generalize (lg_sl ([.ref (q 0)]) ++ List.replicate (1 - (lg_sl ([.ref (q 0)])).length) Slot.unset).toArray = ls at hl ⊢
  have hl : lv_has ls 1 [(0, .ref (q 0))] := hl
  have kc77 := hts (.constantLong RX6 77 (97)) (by decide +kernel)
  have kc79 := hts (.constantLong RX6 79 (122)) (by decide +kernel)
  have kc85 := hts (.constantLong RX6 85 (48)) (by decide +kernel)
  have kc87 := hts (.constantLong RX6 87 (57)) (by decide +kernel)
  have kf63 := hts (.fieldLink RX6 63 "WrongWayModel" "texted" "I") (by decide +kernel)
  have kf67 := hts (.fieldLink RX6 67 "WrongWayModel" "at" "I") (by decide +kernel)
  have kf74 := hts (.fieldLink RX6 74 "WrongWayModel" "start" "I") (by decide +kernel)
  have kf81 := hts (.fieldLink RX6 81 "WrongWayModel" "isWord" "Z") (by decide +kernel)
  have kf89 := hts (.fieldLink RX6 89 "WrongWayModel" "isFigures" "Z") (by decide +kernel)
  have iX6 := (fun w h => List.mem_cons_of_mem _ (List.mem_append_right _ h) : ∀ w ∈ u_ws RX6 TX6 15, w ∈ wsX6_token)
  have ht := hm.1
  have hL := hm.1.1
  have h3 := hm.2
  refine w_loopQ (σ := Int) (fun a9 H locs ls => (M 0 3 ≤ a9 ∧ a9 ≤ M 0 0) ∧ (m_ts M = skI (blP (M 3)) (M 0 0) a9) ∧ va_P (dC, dI) vwCl (wMo g q (mset M 0 3 a9)) H ∧ va_D A (wMo g q (mset M 0 3 a9)) ∧ va_S A s.heap H locs ∧ lv_has ls 1 [(0, .ref (q 0))]) (fun a9 => (M 0 0 - a9).toNat) ?_ (M 0 3) ?_
  · rintro a H locs ls ⟨ha, hs, hP, hD, hS, hl⟩ ih0
    have ha : M 0 3 ≤ a ∧ a ≤ M 0 0 := ha
    have hs : m_ts M = skI (blP (M 3)) (M 0 0) a := hs
    have hP : va_P (dC, dI) vwCl (wMo g q (mset M 0 3 a)) H := hP
    have hD : va_D A (wMo g q (mset M 0 3 a)) := hD
    have hl : lv_has ls 1 [(0, .ref (q 0))] := hl
    refine lv_aload_n hx hb dX6_token_0 rfl (lv_at hl 0 rfl) ?_
    refine lv_aload_n hx hb dX6_token_1 rfl (lv_at hl 0 rfl) ?_
    refine va_get (D := (dC, dI)) (ci := 5) (v := .int (zI a)) (C := RX6) (T := TX6) (N := 15) hx hb hts iX6 hown hK hP 0 rfl rfl 7 (by decide) kf67 (fun _ h9 => h9) rfl dX6_token_2 ?_
    refine q_cVi (z := bAt (M 3) (M 0 0) a) (b := (q 0)) (As := [.int (zI a)]) (rest := []) ⟨hx, hb, hml, hown, hts⟩ (kX6_byteAt l dC dI g tt q (mset M 0 3 a) a (ht) (show 0 ≤ a ∧ a ≤ 1000 from by omega)) (cwV 1 hts gX6_token_X6_byteAt rfl rfl rfl (by decide +kernel) ⟨Nat.le_of_ble_eq_true rfl, Nat.le_of_ble_eq_true rfl⟩) hP hK hT hS 0 5 rfl rfl rfl rfl hl.1 rfl (Nat.le_of_ble_eq_true rfl) dX6_token_5 ⟨Nat.le_of_ble_eq_true rfl, Nat.le_of_ble_eq_true rfl⟩ ?_
    have := bAt_r ht (k := a) (by omega)
    refine q_bipush hx hb dX6_token_8 rfl ?_
    refine q_icmp_ne (tgt := 26) hx hb dX6_token_10 (by decide) (by omega) (fun c_1 => ?_) (fun c_1 => ?_)
    · have htsa : m_ts M = a := hs.trans (ts_stop c_1)
      have hP : va_P (dC, dI) vwCl (wMo g q (mset M 0 3 (m_ts M))) H := by rw [show (mset M 0 3 (m_ts M)) = mset M 0 3 a from by rw [htsa]]; exact hP
      have hD : va_D A (wMo g q (mset M 0 3 (m_ts M))) := by rw [show (mset M 0 3 (m_ts M)) = mset M 0 3 a from by rw [htsa]]; exact hD
      refine lv_aload_n hx hb dX6_token_26 rfl (lv_at hl 0 rfl) ?_
      refine lv_aload_n hx hb dX6_token_27 rfl (lv_at hl 0 rfl) ?_
      refine va_get (D := (dC, dI)) (ci := 5) (v := .int (zI (m_ts M))) (C := RX6) (T := TX6) (N := 15) hx hb hts iX6 hown hK hP 0 rfl rfl 7 (by decide) kf67 (fun _ h9 => h9) rfl dX6_token_28 ?_
      refine va_put (D := (dC, dI)) (ci := 5) (v := .int (zI (m_ts M))) (ty := .int) (C := RX6) (T := TX6) (N := 15) hx hb hts iX6 tyX6 tyX6_ok nmX6 hown hK hP hD hS 0 rfl rfl 8 (by decide) kf74 (fun _ h9 => h9) rfl (by decide +kernel) rfl rfl (Nat.le_of_ble_eq_true rfl) dX6_token_31 (fun H locs hP hD hS => ?_)
      have hP : va_P (dC, dI) vwCl (wMo g q (mset (mset M 0 3 (m_ts M)) 0 4 (m_ts M))) H := hP
      have hD : va_D A (wMo g q (mset (mset M 0 3 (m_ts M)) 0 4 (m_ts M))) := hD
      refine lv_aload_n hx hb dX6_token_34 rfl (lv_at hl 0 rfl) ?_
      refine lv_aload_n hx hb dX6_token_35 rfl (lv_at hl 0 rfl) ?_
      refine lv_aload_n hx hb dX6_token_36 rfl (lv_at hl 0 rfl) ?_
      refine va_get (D := (dC, dI)) (ci := 5) (v := .int (zI (m_ts M))) (C := RX6) (T := TX6) (N := 15) hx hb hts iX6 hown hK hP 0 rfl rfl 7 (by decide) kf67 (fun _ h9 => h9) rfl dX6_token_37 ?_
      refine q_cVi (z := bAt (M 3) (M 0 0) (m_ts M)) (b := (q 0)) (As := [.int (zI (m_ts M))]) (rest := [.ref (q 0)]) ⟨hx, hb, hml, hown, hts⟩ (kX6_byteAt l dC dI g tt q (mset (mset M 0 3 (m_ts M)) 0 4 (m_ts M)) (m_ts M) (ht) (show 0 ≤ (m_ts M) ∧ (m_ts M) ≤ 1000 from by omega)) (cwV 1 hts gX6_token_X6_byteAt rfl rfl rfl (by decide +kernel) ⟨Nat.le_of_ble_eq_true rfl, Nat.le_of_ble_eq_true rfl⟩) hP hK hT hS 0 5 rfl rfl rfl rfl hl.1 rfl (Nat.le_of_ble_eq_true rfl) dX6_token_40 ⟨Nat.le_of_ble_eq_true rfl, Nat.le_of_ble_eq_true rfl⟩ ?_
      have := bAt_r ht (k := (m_ts M)) (by omega)
      refine q_i2l hx hb dX6_token_43 (by omega) ?_
      refine q_ldc2 hx hb 97 hown kc77 (by decide) dX6_token_44 ?_
      refine q_ldc2 hx hb 122 hown kc79 (by decide) dX6_token_47 ?_
      refine q_cSi (z := bz (97 ≤ (bAt (M 3) (M 0 0) (m_ts M)) ∧ (bAt (M 3) (M 0 0) (m_ts M)) ≤ 122)) (As := [.long (zL (bAt (M 3) (M 0 0) (m_ts M))), .long (zL 97), .long (zL 122)]) (rest := [.ref (q 0)]) ⟨hx, hb, hml, hown, hts⟩ (kX6_in l dC dI g tt (bAt (M 3) (M 0 0) (m_ts M)) 97 122 (by omega)) (va_cwS 3 hts gX6_token_X6_in rfl rfl rfl (by decide +kernel) ⟨Nat.le_of_ble_eq_true rfl, Nat.le_of_ble_eq_true rfl⟩) (hP.sub (ws' := []) [] rfl) hK hT hS rfl hl.1 rfl (Nat.le_of_ble_eq_true rfl) dX6_token_50 ⟨Nat.le_of_ble_eq_true rfl, Nat.le_of_ble_eq_true rfl⟩ ?_
      refine va_put (D := (dC, dI)) (ci := 5) (v := .int (zI (bz (97 ≤ (bAt (M 3) (M 0 0) (m_ts M)) ∧ (bAt (M 3) (M 0 0) (m_ts M)) ≤ 122)))) (ty := .boolean) (C := RX6) (T := TX6) (N := 15) hx hb hts iX6 tyX6 tyX6_ok nmX6 hown hK hP hD hS 0 rfl rfl 9 (by decide) kf81 (fun _ h9 => h9) rfl (by decide +kernel) bz_nar bz_fit (Nat.le_of_ble_eq_true rfl) dX6_token_53 (fun H locs hP hD hS => ?_)
      have hP : va_P (dC, dI) vwCl (wMo g q (mset (mset (mset M 0 3 (m_ts M)) 0 4 (m_ts M)) 0 5 (bz (97 ≤ (bAt (M 3) (M 0 0) (m_ts M)) ∧ (bAt (M 3) (M 0 0) (m_ts M)) ≤ 122)))) H := hP
      have hD : va_D A (wMo g q (mset (mset (mset M 0 3 (m_ts M)) 0 4 (m_ts M)) 0 5 (bz (97 ≤ (bAt (M 3) (M 0 0) (m_ts M)) ∧ (bAt (M 3) (M 0 0) (m_ts M)) ≤ 122)))) := hD
      refine lv_aload_n hx hb dX6_token_56 rfl (lv_at hl 0 rfl) ?_
      refine lv_aload_n hx hb dX6_token_57 rfl (lv_at hl 0 rfl) ?_
      refine lv_aload_n hx hb dX6_token_58 rfl (lv_at hl 0 rfl) ?_
      refine va_get (D := (dC, dI)) (ci := 5) (v := .int (zI (m_ts M))) (C := RX6) (T := TX6) (N := 15) hx hb hts iX6 hown hK hP 0 rfl rfl 7 (by decide) kf67 (fun _ h9 => h9) rfl dX6_token_59 ?_
      refine q_cVi (z := bAt (M 3) (M 0 0) (m_ts M)) (b := (q 0)) (As := [.int (zI (m_ts M))]) (rest := [.ref (q 0)]) ⟨hx, hb, hml, hown, hts⟩ (kX6_byteAt l dC dI g tt q (mset (mset (mset M 0 3 (m_ts M)) 0 4 (m_ts M)) 0 5 (bz (97 ≤ (bAt (M 3) (M 0 0) (m_ts M)) ∧ (bAt (M 3) (M 0 0) (m_ts M)) ≤ 122))) (m_ts M) (ht) (show 0 ≤ (m_ts M) ∧ (m_ts M) ≤ 1000 from by omega)) (cwV 1 hts gX6_token_X6_byteAt rfl rfl rfl (by decide +kernel) ⟨Nat.le_of_ble_eq_true rfl, Nat.le_of_ble_eq_true rfl⟩) hP hK hT hS 0 5 rfl rfl rfl rfl hl.1 rfl (Nat.le_of_ble_eq_true rfl) dX6_token_62 ⟨Nat.le_of_ble_eq_true rfl, Nat.le_of_ble_eq_true rfl⟩ ?_
      have := bAt_r ht (k := (m_ts M)) (by omega)
      refine q_i2l hx hb dX6_token_65 (by omega) ?_
      refine q_ldc2 hx hb 48 hown kc85 (by decide) dX6_token_66 ?_
      refine q_ldc2 hx hb 57 hown kc87 (by decide) dX6_token_69 ?_
      refine q_cSi (z := bz (48 ≤ (bAt (M 3) (M 0 0) (m_ts M)) ∧ (bAt (M 3) (M 0 0) (m_ts M)) ≤ 57)) (As := [.long (zL (bAt (M 3) (M 0 0) (m_ts M))), .long (zL 48), .long (zL 57)]) (rest := [.ref (q 0)]) ⟨hx, hb, hml, hown, hts⟩ (kX6_in l dC dI g tt (bAt (M 3) (M 0 0) (m_ts M)) 48 57 (by omega)) (va_cwS 3 hts gX6_token_X6_in rfl rfl rfl (by decide +kernel) ⟨Nat.le_of_ble_eq_true rfl, Nat.le_of_ble_eq_true rfl⟩) (hP.sub (ws' := []) [] rfl) hK hT hS rfl hl.1 rfl (Nat.le_of_ble_eq_true rfl) dX6_token_72 ⟨Nat.le_of_ble_eq_true rfl, Nat.le_of_ble_eq_true rfl⟩ ?_
      refine va_put (D := (dC, dI)) (ci := 5) (v := .int (zI (bz (48 ≤ (bAt (M 3) (M 0 0) (m_ts M)) ∧ (bAt (M 3) (M 0 0) (m_ts M)) ≤ 57)))) (ty := .boolean) (C := RX6) (T := TX6) (N := 15) hx hb hts iX6 tyX6 tyX6_ok nmX6 hown hK hP hD hS 0 rfl rfl 10 (by decide) kf89 (fun _ h9 => h9) rfl (by decide +kernel) bz_nar bz_fit (Nat.le_of_ble_eq_true rfl) dX6_token_75 (fun H locs hP hD hS => ?_)
      have hP : va_P (dC, dI) vwCl (wMo g q (mset (mset (mset (mset M 0 3 (m_ts M)) 0 4 (m_ts M)) 0 5 (bz (97 ≤ (bAt (M 3) (M 0 0) (m_ts M)) ∧ (bAt (M 3) (M 0 0) (m_ts M)) ≤ 122))) 0 6 (bz (48 ≤ (bAt (M 3) (M 0 0) (m_ts M)) ∧ (bAt (M 3) (M 0 0) (m_ts M)) ≤ 57)))) H := hP
      have hD : va_D A (wMo g q (mset (mset (mset (mset M 0 3 (m_ts M)) 0 4 (m_ts M)) 0 5 (bz (97 ≤ (bAt (M 3) (M 0 0) (m_ts M)) ∧ (bAt (M 3) (M 0 0) (m_ts M)) ≤ 122))) 0 6 (bz (48 ≤ (bAt (M 3) (M 0 0) (m_ts M)) ∧ (bAt (M 3) (M 0 0) (m_ts M)) ≤ 57)))) := hD
      refine lv_aload_n hx hb dX6_token_78 rfl (lv_at hl 0 rfl) ?_
      refine lv_dup hx hb dX6_token_79 rfl ?_
      refine va_get (D := (dC, dI)) (ci := 5) (v := .int (zI (m_ts M))) (C := RX6) (T := TX6) (N := 15) hx hb hts iX6 hown hK hP 0 rfl rfl 7 (by decide) kf67 (fun _ h9 => h9) rfl dX6_token_80 ?_
      refine lv_aload_n hx hb dX6_token_83 rfl (lv_at hl 0 rfl) ?_
      refine va_get (D := (dC, dI)) (ci := 5) (v := .int (zI (m_ts M))) (C := RX6) (T := TX6) (N := 15) hx hb hts iX6 hown hK hP 0 rfl rfl 7 (by decide) kf67 (fun _ h9 => h9) rfl dX6_token_84 ?_
      refine lv_aload_n hx hb dX6_token_87 rfl (lv_at hl 0 rfl) ?_
      refine va_get (D := (dC, dI)) (ci := 5) (v := .int (zI (M 0 0))) (C := RX6) (T := TX6) (N := 15) hx hb hts iX6 hown hK hP 0 rfl rfl 3 (by decide) kf63 (fun _ h9 => h9) rfl dX6_token_88 ?_
      refine q_icmp_ge (tgt := 98) hx hb dX6_token_91 (by decide) (by omega) (fun c_2 => ?_) (fun c_2 => ?_)
      · refine q_iconst hx hb dX6_token_98 ?_
        refine q_iadd hx hb dX6_token_99 ?_
        refine va_put (D := (dC, dI)) (ci := 5) (v := .int (zI ((m_ts M) + 0))) (ty := .int) (C := RX6) (T := TX6) (N := 15) hx hb hts iX6 tyX6 tyX6_ok nmX6 hown hK hP hD hS 0 rfl rfl 7 (by decide) kf67 (fun _ h9 => h9) rfl (by decide +kernel) rfl rfl (Nat.le_of_ble_eq_true rfl) dX6_token_100 (fun H locs hP hD hS => ?_)
        have hP : va_P (dC, dI) vwCl (wMo g q (mset (mset (mset (mset (mset M 0 3 (m_ts M)) 0 4 (m_ts M)) 0 5 (bz (97 ≤ (bAt (M 3) (M 0 0) (m_ts M)) ∧ (bAt (M 3) (M 0 0) (m_ts M)) ≤ 122))) 0 6 (bz (48 ≤ (bAt (M 3) (M 0 0) (m_ts M)) ∧ (bAt (M 3) (M 0 0) (m_ts M)) ≤ 57))) 0 3 ((m_ts M) + 0))) H := hP
        have hD : va_D A (wMo g q (mset (mset (mset (mset (mset M 0 3 (m_ts M)) 0 4 (m_ts M)) 0 5 (bz (97 ≤ (bAt (M 3) (M 0 0) (m_ts M)) ∧ (bAt (M 3) (M 0 0) (m_ts M)) ≤ 122))) 0 6 (bz (48 ≤ (bAt (M 3) (M 0 0) (m_ts M)) ∧ (bAt (M 3) (M 0 0) (m_ts M)) ≤ 57))) 0 3 ((m_ts M) + 0))) := hD
        refine w_loopQ (σ := Int) (fun a9 H locs ls => (m_ts M ≤ a9 ∧ a9 ≤ M 0 0) ∧ (m_te M = teI M a9) ∧ va_P (dC, dI) vwCl (wMo g q (mset (mset (mset (mset (mset M 0 3 (m_ts M)) 0 4 (m_ts M)) 0 5 (bz (97 ≤ bAt (M 3) (M 0 0) (m_ts M) ∧ bAt (M 3) (M 0 0) (m_ts M) ≤ 122))) 0 6 (bz (48 ≤ bAt (M 3) (M 0 0) (m_ts M) ∧ bAt (M 3) (M 0 0) (m_ts M) ≤ 57))) 0 3 a9)) H ∧ va_D A (wMo g q (mset (mset (mset (mset (mset M 0 3 (m_ts M)) 0 4 (m_ts M)) 0 5 (bz (97 ≤ bAt (M 3) (M 0 0) (m_ts M) ∧ bAt (M 3) (M 0 0) (m_ts M) ≤ 122))) 0 6 (bz (48 ≤ bAt (M 3) (M 0 0) (m_ts M) ∧ bAt (M 3) (M 0 0) (m_ts M) ≤ 57))) 0 3 a9)) ∧ va_S A s.heap H locs ∧ lv_has ls 1 [(0, .ref (q 0))]) (fun a9 => (M 0 0 - a9).toNat) ?_ ((m_ts M) + 0) ?_
        · rintro b H locs ls ⟨hbb, hs2, hP, hD, hS, hl⟩ ih103
          have hbb : m_ts M ≤ b ∧ b ≤ M 0 0 := hbb
          have hs2 : m_te M = teI M b := hs2
          have hP : va_P (dC, dI) vwCl (wMo g q (mset (mset (mset (mset (mset M 0 3 (m_ts M)) 0 4 (m_ts M)) 0 5 (bz (97 ≤ bAt (M 3) (M 0 0) (m_ts M) ∧ bAt (M 3) (M 0 0) (m_ts M) ≤ 122))) 0 6 (bz (48 ≤ bAt (M 3) (M 0 0) (m_ts M) ∧ bAt (M 3) (M 0 0) (m_ts M) ≤ 57))) 0 3 b)) H := hP
          have hD : va_D A (wMo g q (mset (mset (mset (mset (mset M 0 3 (m_ts M)) 0 4 (m_ts M)) 0 5 (bz (97 ≤ bAt (M 3) (M 0 0) (m_ts M) ∧ bAt (M 3) (M 0 0) (m_ts M) ≤ 122))) 0 6 (bz (48 ≤ bAt (M 3) (M 0 0) (m_ts M) ∧ bAt (M 3) (M 0 0) (m_ts M) ≤ 57))) 0 3 b)) := hD
          have hl : lv_has ls 1 [(0, .ref (q 0))] := hl
          refine lv_aload_n hx hb dX6_token_103 rfl (lv_at hl 0 rfl) ?_
          refine va_get (D := (dC, dI)) (ci := 5) (v := .int (zI (bz (97 ≤ bAt (M 3) (M 0 0) (m_ts M) ∧ bAt (M 3) (M 0 0) (m_ts M) ≤ 122)))) (C := RX6) (T := TX6) (N := 15) hx hb hts iX6 hown hK hP 0 rfl rfl 9 (by decide) kf81 (fun _ h9 => h9) rfl dX6_token_104 ?_
          refine q_bz_eq (tgt := 131) hx hb dX6_token_107 (by decide) (fun c_3 => ?_) (fun c_3 => ?_)
          · refine lv_aload_n hx hb dX6_token_131 rfl (lv_at hl 0 rfl) ?_
            refine va_get (D := (dC, dI)) (ci := 5) (v := .int (zI (bz (48 ≤ bAt (M 3) (M 0 0) (m_ts M) ∧ bAt (M 3) (M 0 0) (m_ts M) ≤ 57)))) (C := RX6) (T := TX6) (N := 15) hx hb hts iX6 hown hK hP 0 rfl rfl 10 (by decide) kf89 (fun _ h9 => h9) rfl dX6_token_132 ?_
            refine q_bz_eq (tgt := 172) hx hb dX6_token_135 (by decide) (fun c_4 => ?_) (fun c_4 => ?_)
            · have hPf : va_P (dC, dI) vwCl (wMo g q (m_tok M)) H := by rw [(show (m_tok M) = mset (mset (mset (mset (mset M 0 3 (m_ts M)) 0 4 (m_ts M)) 0 5 (bz (97 ≤ bAt (M 3) (M 0 0) (m_ts M) ∧ bAt (M 3) (M 0 0) (m_ts M) ≤ 122))) 0 6 (bz (48 ≤ bAt (M 3) (M 0 0) (m_ts M) ∧ bAt (M 3) (M 0 0) (m_ts M) ≤ 57))) 0 3 b from by unfold m_tok; rw [hs2.trans (teI_exit (by first | exact Or.inl (by assumption) | exact Or.inr (by assumption)) (by first | exact Or.inl (by assumption) | exact Or.inr (by assumption)))])]; exact hP
              have hDf : va_D A (wMo g q (m_tok M)) := by rw [(show (m_tok M) = mset (mset (mset (mset (mset M 0 3 (m_ts M)) 0 4 (m_ts M)) 0 5 (bz (97 ≤ bAt (M 3) (M 0 0) (m_ts M) ∧ bAt (M 3) (M 0 0) (m_ts M) ≤ 122))) 0 6 (bz (48 ≤ bAt (M 3) (M 0 0) (m_ts M) ∧ bAt (M 3) (M 0 0) (m_ts M) ≤ 57))) 0 3 b from by unfold m_tok; rw [hs2.trans (teI_exit (by first | exact Or.inl (by assumption) | exact Or.inr (by assumption)) (by first | exact Or.inl (by assumption) | exact Or.inr (by assumption)))])]; exact hD
              exact W.vret hx hb hr (fun t9 ht9 hW9 => ⟨⟨(), rfl, trivial, by rw [ht9]; exact hPf, va_K.moved hW9.alike hK, hDf⟩, hS.F ht9⟩) hS.2.2 dX6_token_172
            · refine lv_aload_n hx hb dX6_token_138 rfl (lv_at hl 0 rfl) ?_
              refine lv_aload_n hx hb dX6_token_139 rfl (lv_at hl 0 rfl) ?_
              refine va_get (D := (dC, dI)) (ci := 5) (v := .int (zI b)) (C := RX6) (T := TX6) (N := 15) hx hb hts iX6 hown hK hP 0 rfl rfl 7 (by decide) kf67 (fun _ h9 => h9) rfl dX6_token_140 ?_
              refine q_cVi (z := bAt (M 3) (M 0 0) b) (b := (q 0)) (As := [.int (zI b)]) (rest := []) ⟨hx, hb, hml, hown, hts⟩ (kX6_byteAt l dC dI g tt q (mset (mset (mset (mset (mset M 0 3 (m_ts M)) 0 4 (m_ts M)) 0 5 (bz (97 ≤ bAt (M 3) (M 0 0) (m_ts M) ∧ bAt (M 3) (M 0 0) (m_ts M) ≤ 122))) 0 6 (bz (48 ≤ bAt (M 3) (M 0 0) (m_ts M) ∧ bAt (M 3) (M 0 0) (m_ts M) ≤ 57))) 0 3 b) b (ht) (show 0 ≤ b ∧ b ≤ 1000 from by omega)) (cwV 1 hts gX6_token_X6_byteAt rfl rfl rfl (by decide +kernel) ⟨Nat.le_of_ble_eq_true rfl, Nat.le_of_ble_eq_true rfl⟩) hP hK hT hS 0 5 rfl rfl rfl rfl hl.1 rfl (Nat.le_of_ble_eq_true rfl) dX6_token_143 ⟨Nat.le_of_ble_eq_true rfl, Nat.le_of_ble_eq_true rfl⟩ ?_
              have := bAt_r ht (k := b) (by omega)
              refine q_i2l hx hb dX6_token_146 (by omega) ?_
              refine q_ldc2 hx hb 48 hown kc85 (by decide) dX6_token_147 ?_
              refine q_ldc2 hx hb 57 hown kc87 (by decide) dX6_token_150 ?_
              refine q_cSi (z := bz (48 ≤ (bAt (M 3) (M 0 0) b) ∧ (bAt (M 3) (M 0 0) b) ≤ 57)) (As := [.long (zL (bAt (M 3) (M 0 0) b)), .long (zL 48), .long (zL 57)]) (rest := []) ⟨hx, hb, hml, hown, hts⟩ (kX6_in l dC dI g tt (bAt (M 3) (M 0 0) b) 48 57 (by omega)) (va_cwS 3 hts gX6_token_X6_in rfl rfl rfl (by decide +kernel) ⟨Nat.le_of_ble_eq_true rfl, Nat.le_of_ble_eq_true rfl⟩) (hP.sub (ws' := []) [] rfl) hK hT hS rfl hl.1 rfl (Nat.le_of_ble_eq_true rfl) dX6_token_153 ⟨Nat.le_of_ble_eq_true rfl, Nat.le_of_ble_eq_true rfl⟩ ?_
              refine q_bz_eq (tgt := 172) hx hb dX6_token_156 (by decide) (fun c_5 => ?_) (fun c_5 => ?_)
              · have hPf : va_P (dC, dI) vwCl (wMo g q (m_tok M)) H := by rw [(show (m_tok M) = mset (mset (mset (mset (mset M 0 3 (m_ts M)) 0 4 (m_ts M)) 0 5 (bz (97 ≤ bAt (M 3) (M 0 0) (m_ts M) ∧ bAt (M 3) (M 0 0) (m_ts M) ≤ 122))) 0 6 (bz (48 ≤ bAt (M 3) (M 0 0) (m_ts M) ∧ bAt (M 3) (M 0 0) (m_ts M) ≤ 57))) 0 3 b from by unfold m_tok; rw [hs2.trans (teI_exit (by first | exact Or.inl (by assumption) | exact Or.inr (by assumption)) (by first | exact Or.inl (by assumption) | exact Or.inr (by assumption)))])]; exact hP
                have hDf : va_D A (wMo g q (m_tok M)) := by rw [(show (m_tok M) = mset (mset (mset (mset (mset M 0 3 (m_ts M)) 0 4 (m_ts M)) 0 5 (bz (97 ≤ bAt (M 3) (M 0 0) (m_ts M) ∧ bAt (M 3) (M 0 0) (m_ts M) ≤ 122))) 0 6 (bz (48 ≤ bAt (M 3) (M 0 0) (m_ts M) ∧ bAt (M 3) (M 0 0) (m_ts M) ≤ 57))) 0 3 b from by unfold m_tok; rw [hs2.trans (teI_exit (by first | exact Or.inl (by assumption) | exact Or.inr (by assumption)) (by first | exact Or.inl (by assumption) | exact Or.inr (by assumption)))])]; exact hD
                exact W.vret hx hb hr (fun t9 ht9 hW9 => ⟨⟨(), rfl, trivial, by rw [ht9]; exact hPf, va_K.moved hW9.alike hK, hDf⟩, hS.F ht9⟩) hS.2.2 dX6_token_172
              · have hlt : b < M 0 0 := bAt_l (show 48 ≤ bAt (M 3) (M 0 0) b by omega)
                refine lv_aload_n hx hb dX6_token_159 rfl (lv_at hl 0 rfl) ?_
                refine lv_dup hx hb dX6_token_160 rfl ?_
                refine va_get (D := (dC, dI)) (ci := 5) (v := .int (zI b)) (C := RX6) (T := TX6) (N := 15) hx hb hts iX6 hown hK hP 0 rfl rfl 7 (by decide) kf67 (fun _ h9 => h9) rfl dX6_token_161 ?_
                refine q_iconst hx hb dX6_token_164 ?_
                refine q_iadd hx hb dX6_token_165 ?_
                refine va_put (D := (dC, dI)) (ci := 5) (v := .int (zI (b + 1))) (ty := .int) (C := RX6) (T := TX6) (N := 15) hx hb hts iX6 tyX6 tyX6_ok nmX6 hown hK hP hD hS 0 rfl rfl 7 (by decide) kf67 (fun _ h9 => h9) rfl (by decide +kernel) rfl rfl (Nat.le_of_ble_eq_true rfl) dX6_token_166 (fun H locs hP hD hS => ?_)
                have hP : va_P (dC, dI) vwCl (wMo g q (mset (mset (mset (mset (mset (mset M 0 3 (m_ts M)) 0 4 (m_ts M)) 0 5 (bz (97 ≤ bAt (M 3) (M 0 0) (m_ts M) ∧ bAt (M 3) (M 0 0) (m_ts M) ≤ 122))) 0 6 (bz (48 ≤ bAt (M 3) (M 0 0) (m_ts M) ∧ bAt (M 3) (M 0 0) (m_ts M) ≤ 57))) 0 3 b) 0 3 (b + 1))) H := hP
                have hD : va_D A (wMo g q (mset (mset (mset (mset (mset (mset M 0 3 (m_ts M)) 0 4 (m_ts M)) 0 5 (bz (97 ≤ bAt (M 3) (M 0 0) (m_ts M) ∧ bAt (M 3) (M 0 0) (m_ts M) ≤ 122))) 0 6 (bz (48 ≤ bAt (M 3) (M 0 0) (m_ts M) ∧ bAt (M 3) (M 0 0) (m_ts M) ≤ 57))) 0 3 b) 0 3 (b + 1))) := hD
                refine lv_goto (tgt := 103) hx hb dX6_token_169 (by decide) ?_
                exact ih103 (b + 1) _ _ ls ⟨(show m_ts M ≤ (b + 1) ∧ (b + 1) ≤ M 0 0 from by omega), (show m_te M = teI M (b + 1) from hs2.trans (teI_step (by first | exact Or.inl ⟨by assumption, by assumption⟩ | exact Or.inr ⟨by assumption, by assumption⟩))), (show va_P (dC, dI) vwCl (wMo g q (mset (mset (mset (mset (mset M 0 3 (m_ts M)) 0 4 (m_ts M)) 0 5 (bz (97 ≤ bAt (M 3) (M 0 0) (m_ts M) ∧ bAt (M 3) (M 0 0) (m_ts M) ≤ 122))) 0 6 (bz (48 ≤ bAt (M 3) (M 0 0) (m_ts M) ∧ bAt (M 3) (M 0 0) (m_ts M) ≤ 57))) 0 3 (b + 1))) H from by rw [show (mset (mset (mset (mset (mset M 0 3 (m_ts M)) 0 4 (m_ts M)) 0 5 (bz (97 ≤ bAt (M 3) (M 0 0) (m_ts M) ∧ bAt (M 3) (M 0 0) (m_ts M) ≤ 122))) 0 6 (bz (48 ≤ bAt (M 3) (M 0 0) (m_ts M) ∧ bAt (M 3) (M 0 0) (m_ts M) ≤ 57))) 0 3 (b + 1)) = mset (mset (mset (mset (mset (mset M 0 3 (m_ts M)) 0 4 (m_ts M)) 0 5 (bz (97 ≤ bAt (M 3) (M 0 0) (m_ts M) ∧ bAt (M 3) (M 0 0) (m_ts M) ≤ 122))) 0 6 (bz (48 ≤ bAt (M 3) (M 0 0) (m_ts M) ∧ bAt (M 3) (M 0 0) (m_ts M) ≤ 57))) 0 3 b) 0 3 (b + 1) from mset_mset.symm]; exact hP), (show va_D A (wMo g q (mset (mset (mset (mset (mset M 0 3 (m_ts M)) 0 4 (m_ts M)) 0 5 (bz (97 ≤ bAt (M 3) (M 0 0) (m_ts M) ∧ bAt (M 3) (M 0 0) (m_ts M) ≤ 122))) 0 6 (bz (48 ≤ bAt (M 3) (M 0 0) (m_ts M) ∧ bAt (M 3) (M 0 0) (m_ts M) ≤ 57))) 0 3 (b + 1))) from by rw [show (mset (mset (mset (mset (mset M 0 3 (m_ts M)) 0 4 (m_ts M)) 0 5 (bz (97 ≤ bAt (M 3) (M 0 0) (m_ts M) ∧ bAt (M 3) (M 0 0) (m_ts M) ≤ 122))) 0 6 (bz (48 ≤ bAt (M 3) (M 0 0) (m_ts M) ∧ bAt (M 3) (M 0 0) (m_ts M) ≤ 57))) 0 3 (b + 1)) = mset (mset (mset (mset (mset (mset M 0 3 (m_ts M)) 0 4 (m_ts M)) 0 5 (bz (97 ≤ bAt (M 3) (M 0 0) (m_ts M) ∧ bAt (M 3) (M 0 0) (m_ts M) ≤ 122))) 0 6 (bz (48 ≤ bAt (M 3) (M 0 0) (m_ts M) ∧ bAt (M 3) (M 0 0) (m_ts M) ≤ 57))) 0 3 b) 0 3 (b + 1) from mset_mset.symm]; exact hD), hS, lv_sub hl [0] rfl⟩ (by show (M 0 0 - (b + 1)).toNat < (M 0 0 - b).toNat; omega)
          · refine lv_aload_n hx hb dX6_token_110 rfl (lv_at hl 0 rfl) ?_
            refine lv_aload_n hx hb dX6_token_111 rfl (lv_at hl 0 rfl) ?_
            refine va_get (D := (dC, dI)) (ci := 5) (v := .int (zI b)) (C := RX6) (T := TX6) (N := 15) hx hb hts iX6 hown hK hP 0 rfl rfl 7 (by decide) kf67 (fun _ h9 => h9) rfl dX6_token_112 ?_
            refine q_cVi (z := bAt (M 3) (M 0 0) b) (b := (q 0)) (As := [.int (zI b)]) (rest := []) ⟨hx, hb, hml, hown, hts⟩ (kX6_byteAt l dC dI g tt q (mset (mset (mset (mset (mset M 0 3 (m_ts M)) 0 4 (m_ts M)) 0 5 (bz (97 ≤ bAt (M 3) (M 0 0) (m_ts M) ∧ bAt (M 3) (M 0 0) (m_ts M) ≤ 122))) 0 6 (bz (48 ≤ bAt (M 3) (M 0 0) (m_ts M) ∧ bAt (M 3) (M 0 0) (m_ts M) ≤ 57))) 0 3 b) b (ht) (show 0 ≤ b ∧ b ≤ 1000 from by omega)) (cwV 1 hts gX6_token_X6_byteAt rfl rfl rfl (by decide +kernel) ⟨Nat.le_of_ble_eq_true rfl, Nat.le_of_ble_eq_true rfl⟩) hP hK hT hS 0 5 rfl rfl rfl rfl hl.1 rfl (Nat.le_of_ble_eq_true rfl) dX6_token_115 ⟨Nat.le_of_ble_eq_true rfl, Nat.le_of_ble_eq_true rfl⟩ ?_
            have := bAt_r ht (k := b) (by omega)
            refine q_i2l hx hb dX6_token_118 (by omega) ?_
            refine q_ldc2 hx hb 97 hown kc77 (by decide) dX6_token_119 ?_
            refine q_ldc2 hx hb 122 hown kc79 (by decide) dX6_token_122 ?_
            refine q_cSi (z := bz (97 ≤ (bAt (M 3) (M 0 0) b) ∧ (bAt (M 3) (M 0 0) b) ≤ 122)) (As := [.long (zL (bAt (M 3) (M 0 0) b)), .long (zL 97), .long (zL 122)]) (rest := []) ⟨hx, hb, hml, hown, hts⟩ (kX6_in l dC dI g tt (bAt (M 3) (M 0 0) b) 97 122 (by omega)) (va_cwS 3 hts gX6_token_X6_in rfl rfl rfl (by decide +kernel) ⟨Nat.le_of_ble_eq_true rfl, Nat.le_of_ble_eq_true rfl⟩) (hP.sub (ws' := []) [] rfl) hK hT hS rfl hl.1 rfl (Nat.le_of_ble_eq_true rfl) dX6_token_125 ⟨Nat.le_of_ble_eq_true rfl, Nat.le_of_ble_eq_true rfl⟩ ?_
            refine q_bz_ne (tgt := 159) hx hb dX6_token_128 (by decide) (fun c_6 => ?_) (fun c_6 => ?_)
            · have hlt : b < M 0 0 := bAt_l (show 48 ≤ bAt (M 3) (M 0 0) b by omega)
              refine lv_aload_n hx hb dX6_token_159 rfl (lv_at hl 0 rfl) ?_
              refine lv_dup hx hb dX6_token_160 rfl ?_
              refine va_get (D := (dC, dI)) (ci := 5) (v := .int (zI b)) (C := RX6) (T := TX6) (N := 15) hx hb hts iX6 hown hK hP 0 rfl rfl 7 (by decide) kf67 (fun _ h9 => h9) rfl dX6_token_161 ?_
              refine q_iconst hx hb dX6_token_164 ?_
              refine q_iadd hx hb dX6_token_165 ?_
              refine va_put (D := (dC, dI)) (ci := 5) (v := .int (zI (b + 1))) (ty := .int) (C := RX6) (T := TX6) (N := 15) hx hb hts iX6 tyX6 tyX6_ok nmX6 hown hK hP hD hS 0 rfl rfl 7 (by decide) kf67 (fun _ h9 => h9) rfl (by decide +kernel) rfl rfl (Nat.le_of_ble_eq_true rfl) dX6_token_166 (fun H locs hP hD hS => ?_)
              have hP : va_P (dC, dI) vwCl (wMo g q (mset (mset (mset (mset (mset (mset M 0 3 (m_ts M)) 0 4 (m_ts M)) 0 5 (bz (97 ≤ bAt (M 3) (M 0 0) (m_ts M) ∧ bAt (M 3) (M 0 0) (m_ts M) ≤ 122))) 0 6 (bz (48 ≤ bAt (M 3) (M 0 0) (m_ts M) ∧ bAt (M 3) (M 0 0) (m_ts M) ≤ 57))) 0 3 b) 0 3 (b + 1))) H := hP
              have hD : va_D A (wMo g q (mset (mset (mset (mset (mset (mset M 0 3 (m_ts M)) 0 4 (m_ts M)) 0 5 (bz (97 ≤ bAt (M 3) (M 0 0) (m_ts M) ∧ bAt (M 3) (M 0 0) (m_ts M) ≤ 122))) 0 6 (bz (48 ≤ bAt (M 3) (M 0 0) (m_ts M) ∧ bAt (M 3) (M 0 0) (m_ts M) ≤ 57))) 0 3 b) 0 3 (b + 1))) := hD
              refine lv_goto (tgt := 103) hx hb dX6_token_169 (by decide) ?_
              exact ih103 (b + 1) _ _ ls ⟨(show m_ts M ≤ (b + 1) ∧ (b + 1) ≤ M 0 0 from by omega), (show m_te M = teI M (b + 1) from hs2.trans (teI_step (by first | exact Or.inl ⟨by assumption, by assumption⟩ | exact Or.inr ⟨by assumption, by assumption⟩))), (show va_P (dC, dI) vwCl (wMo g q (mset (mset (mset (mset (mset M 0 3 (m_ts M)) 0 4 (m_ts M)) 0 5 (bz (97 ≤ bAt (M 3) (M 0 0) (m_ts M) ∧ bAt (M 3) (M 0 0) (m_ts M) ≤ 122))) 0 6 (bz (48 ≤ bAt (M 3) (M 0 0) (m_ts M) ∧ bAt (M 3) (M 0 0) (m_ts M) ≤ 57))) 0 3 (b + 1))) H from by rw [show (mset (mset (mset (mset (mset M 0 3 (m_ts M)) 0 4 (m_ts M)) 0 5 (bz (97 ≤ bAt (M 3) (M 0 0) (m_ts M) ∧ bAt (M 3) (M 0 0) (m_ts M) ≤ 122))) 0 6 (bz (48 ≤ bAt (M 3) (M 0 0) (m_ts M) ∧ bAt (M 3) (M 0 0) (m_ts M) ≤ 57))) 0 3 (b + 1)) = mset (mset (mset (mset (mset (mset M 0 3 (m_ts M)) 0 4 (m_ts M)) 0 5 (bz (97 ≤ bAt (M 3) (M 0 0) (m_ts M) ∧ bAt (M 3) (M 0 0) (m_ts M) ≤ 122))) 0 6 (bz (48 ≤ bAt (M 3) (M 0 0) (m_ts M) ∧ bAt (M 3) (M 0 0) (m_ts M) ≤ 57))) 0 3 b) 0 3 (b + 1) from mset_mset.symm]; exact hP), (show va_D A (wMo g q (mset (mset (mset (mset (mset M 0 3 (m_ts M)) 0 4 (m_ts M)) 0 5 (bz (97 ≤ bAt (M 3) (M 0 0) (m_ts M) ∧ bAt (M 3) (M 0 0) (m_ts M) ≤ 122))) 0 6 (bz (48 ≤ bAt (M 3) (M 0 0) (m_ts M) ∧ bAt (M 3) (M 0 0) (m_ts M) ≤ 57))) 0 3 (b + 1))) from by rw [show (mset (mset (mset (mset (mset M 0 3 (m_ts M)) 0 4 (m_ts M)) 0 5 (bz (97 ≤ bAt (M 3) (M 0 0) (m_ts M) ∧ bAt (M 3) (M 0 0) (m_ts M) ≤ 122))) 0 6 (bz (48 ≤ bAt (M 3) (M 0 0) (m_ts M) ∧ bAt (M 3) (M 0 0) (m_ts M) ≤ 57))) 0 3 (b + 1)) = mset (mset (mset (mset (mset (mset M 0 3 (m_ts M)) 0 4 (m_ts M)) 0 5 (bz (97 ≤ bAt (M 3) (M 0 0) (m_ts M) ∧ bAt (M 3) (M 0 0) (m_ts M) ≤ 122))) 0 6 (bz (48 ≤ bAt (M 3) (M 0 0) (m_ts M) ∧ bAt (M 3) (M 0 0) (m_ts M) ≤ 57))) 0 3 b) 0 3 (b + 1) from mset_mset.symm]; exact hD), hS, lv_sub hl [0] rfl⟩ (by show (M 0 0 - (b + 1)).toNat < (M 0 0 - b).toNat; omega)
            · refine lv_aload_n hx hb dX6_token_131 rfl (lv_at hl 0 rfl) ?_
              refine va_get (D := (dC, dI)) (ci := 5) (v := .int (zI (bz (48 ≤ bAt (M 3) (M 0 0) (m_ts M) ∧ bAt (M 3) (M 0 0) (m_ts M) ≤ 57)))) (C := RX6) (T := TX6) (N := 15) hx hb hts iX6 hown hK hP 0 rfl rfl 10 (by decide) kf89 (fun _ h9 => h9) rfl dX6_token_132 ?_
              refine q_bz_eq (tgt := 172) hx hb dX6_token_135 (by decide) (fun c_7 => ?_) (fun c_7 => ?_)
              · have hPf : va_P (dC, dI) vwCl (wMo g q (m_tok M)) H := by rw [(show (m_tok M) = mset (mset (mset (mset (mset M 0 3 (m_ts M)) 0 4 (m_ts M)) 0 5 (bz (97 ≤ bAt (M 3) (M 0 0) (m_ts M) ∧ bAt (M 3) (M 0 0) (m_ts M) ≤ 122))) 0 6 (bz (48 ≤ bAt (M 3) (M 0 0) (m_ts M) ∧ bAt (M 3) (M 0 0) (m_ts M) ≤ 57))) 0 3 b from by unfold m_tok; rw [hs2.trans (teI_exit (by first | exact Or.inl (by assumption) | exact Or.inr (by assumption)) (by first | exact Or.inl (by assumption) | exact Or.inr (by assumption)))])]; exact hP
                have hDf : va_D A (wMo g q (m_tok M)) := by rw [(show (m_tok M) = mset (mset (mset (mset (mset M 0 3 (m_ts M)) 0 4 (m_ts M)) 0 5 (bz (97 ≤ bAt (M 3) (M 0 0) (m_ts M) ∧ bAt (M 3) (M 0 0) (m_ts M) ≤ 122))) 0 6 (bz (48 ≤ bAt (M 3) (M 0 0) (m_ts M) ∧ bAt (M 3) (M 0 0) (m_ts M) ≤ 57))) 0 3 b from by unfold m_tok; rw [hs2.trans (teI_exit (by first | exact Or.inl (by assumption) | exact Or.inr (by assumption)) (by first | exact Or.inl (by assumption) | exact Or.inr (by assumption)))])]; exact hD
                exact W.vret hx hb hr (fun t9 ht9 hW9 => ⟨⟨(), rfl, trivial, by rw [ht9]; exact hPf, va_K.moved hW9.alike hK, hDf⟩, hS.F ht9⟩) hS.2.2 dX6_token_172
              · refine lv_aload_n hx hb dX6_token_138 rfl (lv_at hl 0 rfl) ?_
                refine lv_aload_n hx hb dX6_token_139 rfl (lv_at hl 0 rfl) ?_
                refine va_get (D := (dC, dI)) (ci := 5) (v := .int (zI b)) (C := RX6) (T := TX6) (N := 15) hx hb hts iX6 hown hK hP 0 rfl rfl 7 (by decide) kf67 (fun _ h9 => h9) rfl dX6_token_140 ?_
                refine q_cVi (z := bAt (M 3) (M 0 0) b) (b := (q 0)) (As := [.int (zI b)]) (rest := []) ⟨hx, hb, hml, hown, hts⟩ (kX6_byteAt l dC dI g tt q (mset (mset (mset (mset (mset M 0 3 (m_ts M)) 0 4 (m_ts M)) 0 5 (bz (97 ≤ bAt (M 3) (M 0 0) (m_ts M) ∧ bAt (M 3) (M 0 0) (m_ts M) ≤ 122))) 0 6 (bz (48 ≤ bAt (M 3) (M 0 0) (m_ts M) ∧ bAt (M 3) (M 0 0) (m_ts M) ≤ 57))) 0 3 b) b (ht) (show 0 ≤ b ∧ b ≤ 1000 from by omega)) (cwV 1 hts gX6_token_X6_byteAt rfl rfl rfl (by decide +kernel) ⟨Nat.le_of_ble_eq_true rfl, Nat.le_of_ble_eq_true rfl⟩) hP hK hT hS 0 5 rfl rfl rfl rfl hl.1 rfl (Nat.le_of_ble_eq_true rfl) dX6_token_143 ⟨Nat.le_of_ble_eq_true rfl, Nat.le_of_ble_eq_true rfl⟩ ?_
                have := bAt_r ht (k := b) (by omega)
                refine q_i2l hx hb dX6_token_146 (by omega) ?_
                refine q_ldc2 hx hb 48 hown kc85 (by decide) dX6_token_147 ?_
                refine q_ldc2 hx hb 57 hown kc87 (by decide) dX6_token_150 ?_
                refine q_cSi (z := bz (48 ≤ (bAt (M 3) (M 0 0) b) ∧ (bAt (M 3) (M 0 0) b) ≤ 57)) (As := [.long (zL (bAt (M 3) (M 0 0) b)), .long (zL 48), .long (zL 57)]) (rest := []) ⟨hx, hb, hml, hown, hts⟩ (kX6_in l dC dI g tt (bAt (M 3) (M 0 0) b) 48 57 (by omega)) (va_cwS 3 hts gX6_token_X6_in rfl rfl rfl (by decide +kernel) ⟨Nat.le_of_ble_eq_true rfl, Nat.le_of_ble_eq_true rfl⟩) (hP.sub (ws' := []) [] rfl) hK hT hS rfl hl.1 rfl (Nat.le_of_ble_eq_true rfl) dX6_token_153 ⟨Nat.le_of_ble_eq_true rfl, Nat.le_of_ble_eq_true rfl⟩ ?_
                refine q_bz_eq (tgt := 172) hx hb dX6_token_156 (by decide) (fun c_8 => ?_) (fun c_8 => ?_)
                · have hPf : va_P (dC, dI) vwCl (wMo g q (m_tok M)) H := by rw [(show (m_tok M) = mset (mset (mset (mset (mset M 0 3 (m_ts M)) 0 4 (m_ts M)) 0 5 (bz (97 ≤ bAt (M 3) (M 0 0) (m_ts M) ∧ bAt (M 3) (M 0 0) (m_ts M) ≤ 122))) 0 6 (bz (48 ≤ bAt (M 3) (M 0 0) (m_ts M) ∧ bAt (M 3) (M 0 0) (m_ts M) ≤ 57))) 0 3 b from by unfold m_tok; rw [hs2.trans (teI_exit (by first | exact Or.inl (by assumption) | exact Or.inr (by assumption)) (by first | exact Or.inl (by assumption) | exact Or.inr (by assumption)))])]; exact hP
                  have hDf : va_D A (wMo g q (m_tok M)) := by rw [(show (m_tok M) = mset (mset (mset (mset (mset M 0 3 (m_ts M)) 0 4 (m_ts M)) 0 5 (bz (97 ≤ bAt (M 3) (M 0 0) (m_ts M) ∧ bAt (M 3) (M 0 0) (m_ts M) ≤ 122))) 0 6 (bz (48 ≤ bAt (M 3) (M 0 0) (m_ts M) ∧ bAt (M 3) (M 0 0) (m_ts M) ≤ 57))) 0 3 b from by unfold m_tok; rw [hs2.trans (teI_exit (by first | exact Or.inl (by assumption) | exact Or.inr (by assumption)) (by first | exact Or.inl (by assumption) | exact Or.inr (by assumption)))])]; exact hD
                  exact W.vret hx hb hr (fun t9 ht9 hW9 => ⟨⟨(), rfl, trivial, by rw [ht9]; exact hPf, va_K.moved hW9.alike hK, hDf⟩, hS.F ht9⟩) hS.2.2 dX6_token_172
                · have hlt : b < M 0 0 := bAt_l (show 48 ≤ bAt (M 3) (M 0 0) b by omega)
                  refine lv_aload_n hx hb dX6_token_159 rfl (lv_at hl 0 rfl) ?_
                  refine lv_dup hx hb dX6_token_160 rfl ?_
                  refine va_get (D := (dC, dI)) (ci := 5) (v := .int (zI b)) (C := RX6) (T := TX6) (N := 15) hx hb hts iX6 hown hK hP 0 rfl rfl 7 (by decide) kf67 (fun _ h9 => h9) rfl dX6_token_161 ?_
                  refine q_iconst hx hb dX6_token_164 ?_
                  refine q_iadd hx hb dX6_token_165 ?_
                  refine va_put (D := (dC, dI)) (ci := 5) (v := .int (zI (b + 1))) (ty := .int) (C := RX6) (T := TX6) (N := 15) hx hb hts iX6 tyX6 tyX6_ok nmX6 hown hK hP hD hS 0 rfl rfl 7 (by decide) kf67 (fun _ h9 => h9) rfl (by decide +kernel) rfl rfl (Nat.le_of_ble_eq_true rfl) dX6_token_166 (fun H locs hP hD hS => ?_)
                  have hP : va_P (dC, dI) vwCl (wMo g q (mset (mset (mset (mset (mset (mset M 0 3 (m_ts M)) 0 4 (m_ts M)) 0 5 (bz (97 ≤ bAt (M 3) (M 0 0) (m_ts M) ∧ bAt (M 3) (M 0 0) (m_ts M) ≤ 122))) 0 6 (bz (48 ≤ bAt (M 3) (M 0 0) (m_ts M) ∧ bAt (M 3) (M 0 0) (m_ts M) ≤ 57))) 0 3 b) 0 3 (b + 1))) H := hP
                  have hD : va_D A (wMo g q (mset (mset (mset (mset (mset (mset M 0 3 (m_ts M)) 0 4 (m_ts M)) 0 5 (bz (97 ≤ bAt (M 3) (M 0 0) (m_ts M) ∧ bAt (M 3) (M 0 0) (m_ts M) ≤ 122))) 0 6 (bz (48 ≤ bAt (M 3) (M 0 0) (m_ts M) ∧ bAt (M 3) (M 0 0) (m_ts M) ≤ 57))) 0 3 b) 0 3 (b + 1))) := hD
                  refine lv_goto (tgt := 103) hx hb dX6_token_169 (by decide) ?_
                  exact ih103 (b + 1) _ _ ls ⟨(show m_ts M ≤ (b + 1) ∧ (b + 1) ≤ M 0 0 from by omega), (show m_te M = teI M (b + 1) from hs2.trans (teI_step (by first | exact Or.inl ⟨by assumption, by assumption⟩ | exact Or.inr ⟨by assumption, by assumption⟩))), (show va_P (dC, dI) vwCl (wMo g q (mset (mset (mset (mset (mset M 0 3 (m_ts M)) 0 4 (m_ts M)) 0 5 (bz (97 ≤ bAt (M 3) (M 0 0) (m_ts M) ∧ bAt (M 3) (M 0 0) (m_ts M) ≤ 122))) 0 6 (bz (48 ≤ bAt (M 3) (M 0 0) (m_ts M) ∧ bAt (M 3) (M 0 0) (m_ts M) ≤ 57))) 0 3 (b + 1))) H from by rw [show (mset (mset (mset (mset (mset M 0 3 (m_ts M)) 0 4 (m_ts M)) 0 5 (bz (97 ≤ bAt (M 3) (M 0 0) (m_ts M) ∧ bAt (M 3) (M 0 0) (m_ts M) ≤ 122))) 0 6 (bz (48 ≤ bAt (M 3) (M 0 0) (m_ts M) ∧ bAt (M 3) (M 0 0) (m_ts M) ≤ 57))) 0 3 (b + 1)) = mset (mset (mset (mset (mset (mset M 0 3 (m_ts M)) 0 4 (m_ts M)) 0 5 (bz (97 ≤ bAt (M 3) (M 0 0) (m_ts M) ∧ bAt (M 3) (M 0 0) (m_ts M) ≤ 122))) 0 6 (bz (48 ≤ bAt (M 3) (M 0 0) (m_ts M) ∧ bAt (M 3) (M 0 0) (m_ts M) ≤ 57))) 0 3 b) 0 3 (b + 1) from mset_mset.symm]; exact hP), (show va_D A (wMo g q (mset (mset (mset (mset (mset M 0 3 (m_ts M)) 0 4 (m_ts M)) 0 5 (bz (97 ≤ bAt (M 3) (M 0 0) (m_ts M) ∧ bAt (M 3) (M 0 0) (m_ts M) ≤ 122))) 0 6 (bz (48 ≤ bAt (M 3) (M 0 0) (m_ts M) ∧ bAt (M 3) (M 0 0) (m_ts M) ≤ 57))) 0 3 (b + 1))) from by rw [show (mset (mset (mset (mset (mset M 0 3 (m_ts M)) 0 4 (m_ts M)) 0 5 (bz (97 ≤ bAt (M 3) (M 0 0) (m_ts M) ∧ bAt (M 3) (M 0 0) (m_ts M) ≤ 122))) 0 6 (bz (48 ≤ bAt (M 3) (M 0 0) (m_ts M) ∧ bAt (M 3) (M 0 0) (m_ts M) ≤ 57))) 0 3 (b + 1)) = mset (mset (mset (mset (mset (mset M 0 3 (m_ts M)) 0 4 (m_ts M)) 0 5 (bz (97 ≤ bAt (M 3) (M 0 0) (m_ts M) ∧ bAt (M 3) (M 0 0) (m_ts M) ≤ 122))) 0 6 (bz (48 ≤ bAt (M 3) (M 0 0) (m_ts M) ∧ bAt (M 3) (M 0 0) (m_ts M) ≤ 57))) 0 3 b) 0 3 (b + 1) from mset_mset.symm]; exact hD), hS, lv_sub hl [0] rfl⟩ (by show (M 0 0 - (b + 1)).toNat < (M 0 0 - b).toNat; omega)
        · exact ⟨(show m_ts M ≤ ((m_ts M) + 0) ∧ ((m_ts M) + 0) ≤ M 0 0 from by omega), (show m_te M = teI M ((m_ts M) + 0) from by first | exact teI_1 (by omega) | exact teI_0 (by omega)), (show va_P (dC, dI) vwCl (wMo g q (mset (mset (mset (mset (mset M 0 3 (m_ts M)) 0 4 (m_ts M)) 0 5 (bz (97 ≤ bAt (M 3) (M 0 0) (m_ts M) ∧ bAt (M 3) (M 0 0) (m_ts M) ≤ 122))) 0 6 (bz (48 ≤ bAt (M 3) (M 0 0) (m_ts M) ∧ bAt (M 3) (M 0 0) (m_ts M) ≤ 57))) 0 3 ((m_ts M) + 0))) H from by rw [show (mset (mset (mset (mset (mset M 0 3 (m_ts M)) 0 4 (m_ts M)) 0 5 (bz (97 ≤ bAt (M 3) (M 0 0) (m_ts M) ∧ bAt (M 3) (M 0 0) (m_ts M) ≤ 122))) 0 6 (bz (48 ≤ bAt (M 3) (M 0 0) (m_ts M) ∧ bAt (M 3) (M 0 0) (m_ts M) ≤ 57))) 0 3 ((m_ts M) + 0)) = mset (mset (mset (mset (mset M 0 3 (m_ts M)) 0 4 (m_ts M)) 0 5 (bz (97 ≤ (bAt (M 3) (M 0 0) (m_ts M)) ∧ (bAt (M 3) (M 0 0) (m_ts M)) ≤ 122))) 0 6 (bz (48 ≤ (bAt (M 3) (M 0 0) (m_ts M)) ∧ (bAt (M 3) (M 0 0) (m_ts M)) ≤ 57))) 0 3 ((m_ts M) + 0) from rfl]; exact hP), (show va_D A (wMo g q (mset (mset (mset (mset (mset M 0 3 (m_ts M)) 0 4 (m_ts M)) 0 5 (bz (97 ≤ bAt (M 3) (M 0 0) (m_ts M) ∧ bAt (M 3) (M 0 0) (m_ts M) ≤ 122))) 0 6 (bz (48 ≤ bAt (M 3) (M 0 0) (m_ts M) ∧ bAt (M 3) (M 0 0) (m_ts M) ≤ 57))) 0 3 ((m_ts M) + 0))) from by rw [show (mset (mset (mset (mset (mset M 0 3 (m_ts M)) 0 4 (m_ts M)) 0 5 (bz (97 ≤ bAt (M 3) (M 0 0) (m_ts M) ∧ bAt (M 3) (M 0 0) (m_ts M) ≤ 122))) 0 6 (bz (48 ≤ bAt (M 3) (M 0 0) (m_ts M) ∧ bAt (M 3) (M 0 0) (m_ts M) ≤ 57))) 0 3 ((m_ts M) + 0)) = mset (mset (mset (mset (mset M 0 3 (m_ts M)) 0 4 (m_ts M)) 0 5 (bz (97 ≤ (bAt (M 3) (M 0 0) (m_ts M)) ∧ (bAt (M 3) (M 0 0) (m_ts M)) ≤ 122))) 0 6 (bz (48 ≤ (bAt (M 3) (M 0 0) (m_ts M)) ∧ (bAt (M 3) (M 0 0) (m_ts M)) ≤ 57))) 0 3 ((m_ts M) + 0) from rfl]; exact hD), hS, lv_sub hl [0] rfl⟩
      · refine q_iconst hx hb dX6_token_94 ?_
        refine lv_goto (tgt := 99) hx hb dX6_token_95 (by decide) ?_
        refine q_iadd hx hb dX6_token_99 ?_
        refine va_put (D := (dC, dI)) (ci := 5) (v := .int (zI ((m_ts M) + 1))) (ty := .int) (C := RX6) (T := TX6) (N := 15) hx hb hts iX6 tyX6 tyX6_ok nmX6 hown hK hP hD hS 0 rfl rfl 7 (by decide) kf67 (fun _ h9 => h9) rfl (by decide +kernel) rfl rfl (Nat.le_of_ble_eq_true rfl) dX6_token_100 (fun H locs hP hD hS => ?_)
        have hP : va_P (dC, dI) vwCl (wMo g q (mset (mset (mset (mset (mset M 0 3 (m_ts M)) 0 4 (m_ts M)) 0 5 (bz (97 ≤ (bAt (M 3) (M 0 0) (m_ts M)) ∧ (bAt (M 3) (M 0 0) (m_ts M)) ≤ 122))) 0 6 (bz (48 ≤ (bAt (M 3) (M 0 0) (m_ts M)) ∧ (bAt (M 3) (M 0 0) (m_ts M)) ≤ 57))) 0 3 ((m_ts M) + 1))) H := hP
        have hD : va_D A (wMo g q (mset (mset (mset (mset (mset M 0 3 (m_ts M)) 0 4 (m_ts M)) 0 5 (bz (97 ≤ (bAt (M 3) (M 0 0) (m_ts M)) ∧ (bAt (M 3) (M 0 0) (m_ts M)) ≤ 122))) 0 6 (bz (48 ≤ (bAt (M 3) (M 0 0) (m_ts M)) ∧ (bAt (M 3) (M 0 0) (m_ts M)) ≤ 57))) 0 3 ((m_ts M) + 1))) := hD
        refine w_loopQ (σ := Int) (fun a9 H locs ls => (m_ts M ≤ a9 ∧ a9 ≤ M 0 0) ∧ (m_te M = teI M a9) ∧ va_P (dC, dI) vwCl (wMo g q (mset (mset (mset (mset (mset M 0 3 (m_ts M)) 0 4 (m_ts M)) 0 5 (bz (97 ≤ bAt (M 3) (M 0 0) (m_ts M) ∧ bAt (M 3) (M 0 0) (m_ts M) ≤ 122))) 0 6 (bz (48 ≤ bAt (M 3) (M 0 0) (m_ts M) ∧ bAt (M 3) (M 0 0) (m_ts M) ≤ 57))) 0 3 a9)) H ∧ va_D A (wMo g q (mset (mset (mset (mset (mset M 0 3 (m_ts M)) 0 4 (m_ts M)) 0 5 (bz (97 ≤ bAt (M 3) (M 0 0) (m_ts M) ∧ bAt (M 3) (M 0 0) (m_ts M) ≤ 122))) 0 6 (bz (48 ≤ bAt (M 3) (M 0 0) (m_ts M) ∧ bAt (M 3) (M 0 0) (m_ts M) ≤ 57))) 0 3 a9)) ∧ va_S A s.heap H locs ∧ lv_has ls 1 [(0, .ref (q 0))]) (fun a9 => (M 0 0 - a9).toNat) ?_ ((m_ts M) + 1) ?_
        · rintro b H locs ls ⟨hbb, hs2, hP, hD, hS, hl⟩ ih103
          have hbb : m_ts M ≤ b ∧ b ≤ M 0 0 := hbb
          have hs2 : m_te M = teI M b := hs2
          have hP : va_P (dC, dI) vwCl (wMo g q (mset (mset (mset (mset (mset M 0 3 (m_ts M)) 0 4 (m_ts M)) 0 5 (bz (97 ≤ bAt (M 3) (M 0 0) (m_ts M) ∧ bAt (M 3) (M 0 0) (m_ts M) ≤ 122))) 0 6 (bz (48 ≤ bAt (M 3) (M 0 0) (m_ts M) ∧ bAt (M 3) (M 0 0) (m_ts M) ≤ 57))) 0 3 b)) H := hP
          have hD : va_D A (wMo g q (mset (mset (mset (mset (mset M 0 3 (m_ts M)) 0 4 (m_ts M)) 0 5 (bz (97 ≤ bAt (M 3) (M 0 0) (m_ts M) ∧ bAt (M 3) (M 0 0) (m_ts M) ≤ 122))) 0 6 (bz (48 ≤ bAt (M 3) (M 0 0) (m_ts M) ∧ bAt (M 3) (M 0 0) (m_ts M) ≤ 57))) 0 3 b)) := hD
          have hl : lv_has ls 1 [(0, .ref (q 0))] := hl
          refine lv_aload_n hx hb dX6_token_103 rfl (lv_at hl 0 rfl) ?_
          refine va_get (D := (dC, dI)) (ci := 5) (v := .int (zI (bz (97 ≤ bAt (M 3) (M 0 0) (m_ts M) ∧ bAt (M 3) (M 0 0) (m_ts M) ≤ 122)))) (C := RX6) (T := TX6) (N := 15) hx hb hts iX6 hown hK hP 0 rfl rfl 9 (by decide) kf81 (fun _ h9 => h9) rfl dX6_token_104 ?_
          refine q_bz_eq (tgt := 131) hx hb dX6_token_107 (by decide) (fun c_9 => ?_) (fun c_9 => ?_)
          · refine lv_aload_n hx hb dX6_token_131 rfl (lv_at hl 0 rfl) ?_
            refine va_get (D := (dC, dI)) (ci := 5) (v := .int (zI (bz (48 ≤ bAt (M 3) (M 0 0) (m_ts M) ∧ bAt (M 3) (M 0 0) (m_ts M) ≤ 57)))) (C := RX6) (T := TX6) (N := 15) hx hb hts iX6 hown hK hP 0 rfl rfl 10 (by decide) kf89 (fun _ h9 => h9) rfl dX6_token_132 ?_
            refine q_bz_eq (tgt := 172) hx hb dX6_token_135 (by decide) (fun c_10 => ?_) (fun c_10 => ?_)
            · have hPf : va_P (dC, dI) vwCl (wMo g q (m_tok M)) H := by rw [(show (m_tok M) = mset (mset (mset (mset (mset M 0 3 (m_ts M)) 0 4 (m_ts M)) 0 5 (bz (97 ≤ bAt (M 3) (M 0 0) (m_ts M) ∧ bAt (M 3) (M 0 0) (m_ts M) ≤ 122))) 0 6 (bz (48 ≤ bAt (M 3) (M 0 0) (m_ts M) ∧ bAt (M 3) (M 0 0) (m_ts M) ≤ 57))) 0 3 b from by unfold m_tok; rw [hs2.trans (teI_exit (by first | exact Or.inl (by assumption) | exact Or.inr (by assumption)) (by first | exact Or.inl (by assumption) | exact Or.inr (by assumption)))])]; exact hP
              have hDf : va_D A (wMo g q (m_tok M)) := by rw [(show (m_tok M) = mset (mset (mset (mset (mset M 0 3 (m_ts M)) 0 4 (m_ts M)) 0 5 (bz (97 ≤ bAt (M 3) (M 0 0) (m_ts M) ∧ bAt (M 3) (M 0 0) (m_ts M) ≤ 122))) 0 6 (bz (48 ≤ bAt (M 3) (M 0 0) (m_ts M) ∧ bAt (M 3) (M 0 0) (m_ts M) ≤ 57))) 0 3 b from by unfold m_tok; rw [hs2.trans (teI_exit (by first | exact Or.inl (by assumption) | exact Or.inr (by assumption)) (by first | exact Or.inl (by assumption) | exact Or.inr (by assumption)))])]; exact hD
              exact W.vret hx hb hr (fun t9 ht9 hW9 => ⟨⟨(), rfl, trivial, by rw [ht9]; exact hPf, va_K.moved hW9.alike hK, hDf⟩, hS.F ht9⟩) hS.2.2 dX6_token_172
            · refine lv_aload_n hx hb dX6_token_138 rfl (lv_at hl 0 rfl) ?_
              refine lv_aload_n hx hb dX6_token_139 rfl (lv_at hl 0 rfl) ?_
              refine va_get (D := (dC, dI)) (ci := 5) (v := .int (zI b)) (C := RX6) (T := TX6) (N := 15) hx hb hts iX6 hown hK hP 0 rfl rfl 7 (by decide) kf67 (fun _ h9 => h9) rfl dX6_token_140 ?_
              refine q_cVi (z := bAt (M 3) (M 0 0) b) (b := (q 0)) (As := [.int (zI b)]) (rest := []) ⟨hx, hb, hml, hown, hts⟩ (kX6_byteAt l dC dI g tt q (mset (mset (mset (mset (mset M 0 3 (m_ts M)) 0 4 (m_ts M)) 0 5 (bz (97 ≤ bAt (M 3) (M 0 0) (m_ts M) ∧ bAt (M 3) (M 0 0) (m_ts M) ≤ 122))) 0 6 (bz (48 ≤ bAt (M 3) (M 0 0) (m_ts M) ∧ bAt (M 3) (M 0 0) (m_ts M) ≤ 57))) 0 3 b) b (ht) (show 0 ≤ b ∧ b ≤ 1000 from by omega)) (cwV 1 hts gX6_token_X6_byteAt rfl rfl rfl (by decide +kernel) ⟨Nat.le_of_ble_eq_true rfl, Nat.le_of_ble_eq_true rfl⟩) hP hK hT hS 0 5 rfl rfl rfl rfl hl.1 rfl (Nat.le_of_ble_eq_true rfl) dX6_token_143 ⟨Nat.le_of_ble_eq_true rfl, Nat.le_of_ble_eq_true rfl⟩ ?_
              have := bAt_r ht (k := b) (by omega)
              refine q_i2l hx hb dX6_token_146 (by omega) ?_
              refine q_ldc2 hx hb 48 hown kc85 (by decide) dX6_token_147 ?_
              refine q_ldc2 hx hb 57 hown kc87 (by decide) dX6_token_150 ?_
              refine q_cSi (z := bz (48 ≤ (bAt (M 3) (M 0 0) b) ∧ (bAt (M 3) (M 0 0) b) ≤ 57)) (As := [.long (zL (bAt (M 3) (M 0 0) b)), .long (zL 48), .long (zL 57)]) (rest := []) ⟨hx, hb, hml, hown, hts⟩ (kX6_in l dC dI g tt (bAt (M 3) (M 0 0) b) 48 57 (by omega)) (va_cwS 3 hts gX6_token_X6_in rfl rfl rfl (by decide +kernel) ⟨Nat.le_of_ble_eq_true rfl, Nat.le_of_ble_eq_true rfl⟩) (hP.sub (ws' := []) [] rfl) hK hT hS rfl hl.1 rfl (Nat.le_of_ble_eq_true rfl) dX6_token_153 ⟨Nat.le_of_ble_eq_true rfl, Nat.le_of_ble_eq_true rfl⟩ ?_
              refine q_bz_eq (tgt := 172) hx hb dX6_token_156 (by decide) (fun c_11 => ?_) (fun c_11 => ?_)
              · have hPf : va_P (dC, dI) vwCl (wMo g q (m_tok M)) H := by rw [(show (m_tok M) = mset (mset (mset (mset (mset M 0 3 (m_ts M)) 0 4 (m_ts M)) 0 5 (bz (97 ≤ bAt (M 3) (M 0 0) (m_ts M) ∧ bAt (M 3) (M 0 0) (m_ts M) ≤ 122))) 0 6 (bz (48 ≤ bAt (M 3) (M 0 0) (m_ts M) ∧ bAt (M 3) (M 0 0) (m_ts M) ≤ 57))) 0 3 b from by unfold m_tok; rw [hs2.trans (teI_exit (by first | exact Or.inl (by assumption) | exact Or.inr (by assumption)) (by first | exact Or.inl (by assumption) | exact Or.inr (by assumption)))])]; exact hP
                have hDf : va_D A (wMo g q (m_tok M)) := by rw [(show (m_tok M) = mset (mset (mset (mset (mset M 0 3 (m_ts M)) 0 4 (m_ts M)) 0 5 (bz (97 ≤ bAt (M 3) (M 0 0) (m_ts M) ∧ bAt (M 3) (M 0 0) (m_ts M) ≤ 122))) 0 6 (bz (48 ≤ bAt (M 3) (M 0 0) (m_ts M) ∧ bAt (M 3) (M 0 0) (m_ts M) ≤ 57))) 0 3 b from by unfold m_tok; rw [hs2.trans (teI_exit (by first | exact Or.inl (by assumption) | exact Or.inr (by assumption)) (by first | exact Or.inl (by assumption) | exact Or.inr (by assumption)))])]; exact hD
                exact W.vret hx hb hr (fun t9 ht9 hW9 => ⟨⟨(), rfl, trivial, by rw [ht9]; exact hPf, va_K.moved hW9.alike hK, hDf⟩, hS.F ht9⟩) hS.2.2 dX6_token_172
              · have hlt : b < M 0 0 := bAt_l (show 48 ≤ bAt (M 3) (M 0 0) b by omega)
                refine lv_aload_n hx hb dX6_token_159 rfl (lv_at hl 0 rfl) ?_
                refine lv_dup hx hb dX6_token_160 rfl ?_
                refine va_get (D := (dC, dI)) (ci := 5) (v := .int (zI b)) (C := RX6) (T := TX6) (N := 15) hx hb hts iX6 hown hK hP 0 rfl rfl 7 (by decide) kf67 (fun _ h9 => h9) rfl dX6_token_161 ?_
                refine q_iconst hx hb dX6_token_164 ?_
                refine q_iadd hx hb dX6_token_165 ?_
                refine va_put (D := (dC, dI)) (ci := 5) (v := .int (zI (b + 1))) (ty := .int) (C := RX6) (T := TX6) (N := 15) hx hb hts iX6 tyX6 tyX6_ok nmX6 hown hK hP hD hS 0 rfl rfl 7 (by decide) kf67 (fun _ h9 => h9) rfl (by decide +kernel) rfl rfl (Nat.le_of_ble_eq_true rfl) dX6_token_166 (fun H locs hP hD hS => ?_)
                have hP : va_P (dC, dI) vwCl (wMo g q (mset (mset (mset (mset (mset (mset M 0 3 (m_ts M)) 0 4 (m_ts M)) 0 5 (bz (97 ≤ bAt (M 3) (M 0 0) (m_ts M) ∧ bAt (M 3) (M 0 0) (m_ts M) ≤ 122))) 0 6 (bz (48 ≤ bAt (M 3) (M 0 0) (m_ts M) ∧ bAt (M 3) (M 0 0) (m_ts M) ≤ 57))) 0 3 b) 0 3 (b + 1))) H := hP
                have hD : va_D A (wMo g q (mset (mset (mset (mset (mset (mset M 0 3 (m_ts M)) 0 4 (m_ts M)) 0 5 (bz (97 ≤ bAt (M 3) (M 0 0) (m_ts M) ∧ bAt (M 3) (M 0 0) (m_ts M) ≤ 122))) 0 6 (bz (48 ≤ bAt (M 3) (M 0 0) (m_ts M) ∧ bAt (M 3) (M 0 0) (m_ts M) ≤ 57))) 0 3 b) 0 3 (b + 1))) := hD
                refine lv_goto (tgt := 103) hx hb dX6_token_169 (by decide) ?_
                exact ih103 (b + 1) _ _ ls ⟨(show m_ts M ≤ (b + 1) ∧ (b + 1) ≤ M 0 0 from by omega), (show m_te M = teI M (b + 1) from hs2.trans (teI_step (by first | exact Or.inl ⟨by assumption, by assumption⟩ | exact Or.inr ⟨by assumption, by assumption⟩))), (show va_P (dC, dI) vwCl (wMo g q (mset (mset (mset (mset (mset M 0 3 (m_ts M)) 0 4 (m_ts M)) 0 5 (bz (97 ≤ bAt (M 3) (M 0 0) (m_ts M) ∧ bAt (M 3) (M 0 0) (m_ts M) ≤ 122))) 0 6 (bz (48 ≤ bAt (M 3) (M 0 0) (m_ts M) ∧ bAt (M 3) (M 0 0) (m_ts M) ≤ 57))) 0 3 (b + 1))) H from by rw [show (mset (mset (mset (mset (mset M 0 3 (m_ts M)) 0 4 (m_ts M)) 0 5 (bz (97 ≤ bAt (M 3) (M 0 0) (m_ts M) ∧ bAt (M 3) (M 0 0) (m_ts M) ≤ 122))) 0 6 (bz (48 ≤ bAt (M 3) (M 0 0) (m_ts M) ∧ bAt (M 3) (M 0 0) (m_ts M) ≤ 57))) 0 3 (b + 1)) = mset (mset (mset (mset (mset (mset M 0 3 (m_ts M)) 0 4 (m_ts M)) 0 5 (bz (97 ≤ bAt (M 3) (M 0 0) (m_ts M) ∧ bAt (M 3) (M 0 0) (m_ts M) ≤ 122))) 0 6 (bz (48 ≤ bAt (M 3) (M 0 0) (m_ts M) ∧ bAt (M 3) (M 0 0) (m_ts M) ≤ 57))) 0 3 b) 0 3 (b + 1) from mset_mset.symm]; exact hP), (show va_D A (wMo g q (mset (mset (mset (mset (mset M 0 3 (m_ts M)) 0 4 (m_ts M)) 0 5 (bz (97 ≤ bAt (M 3) (M 0 0) (m_ts M) ∧ bAt (M 3) (M 0 0) (m_ts M) ≤ 122))) 0 6 (bz (48 ≤ bAt (M 3) (M 0 0) (m_ts M) ∧ bAt (M 3) (M 0 0) (m_ts M) ≤ 57))) 0 3 (b + 1))) from by rw [show (mset (mset (mset (mset (mset M 0 3 (m_ts M)) 0 4 (m_ts M)) 0 5 (bz (97 ≤ bAt (M 3) (M 0 0) (m_ts M) ∧ bAt (M 3) (M 0 0) (m_ts M) ≤ 122))) 0 6 (bz (48 ≤ bAt (M 3) (M 0 0) (m_ts M) ∧ bAt (M 3) (M 0 0) (m_ts M) ≤ 57))) 0 3 (b + 1)) = mset (mset (mset (mset (mset (mset M 0 3 (m_ts M)) 0 4 (m_ts M)) 0 5 (bz (97 ≤ bAt (M 3) (M 0 0) (m_ts M) ∧ bAt (M 3) (M 0 0) (m_ts M) ≤ 122))) 0 6 (bz (48 ≤ bAt (M 3) (M 0 0) (m_ts M) ∧ bAt (M 3) (M 0 0) (m_ts M) ≤ 57))) 0 3 b) 0 3 (b + 1) from mset_mset.symm]; exact hD), hS, lv_sub hl [0] rfl⟩ (by show (M 0 0 - (b + 1)).toNat < (M 0 0 - b).toNat; omega)
          · refine lv_aload_n hx hb dX6_token_110 rfl (lv_at hl 0 rfl) ?_
            refine lv_aload_n hx hb dX6_token_111 rfl (lv_at hl 0 rfl) ?_
            refine va_get (D := (dC, dI)) (ci := 5) (v := .int (zI b)) (C := RX6) (T := TX6) (N := 15) hx hb hts iX6 hown hK hP 0 rfl rfl 7 (by decide) kf67 (fun _ h9 => h9) rfl dX6_token_112 ?_
            refine q_cVi (z := bAt (M 3) (M 0 0) b) (b := (q 0)) (As := [.int (zI b)]) (rest := []) ⟨hx, hb, hml, hown, hts⟩ (kX6_byteAt l dC dI g tt q (mset (mset (mset (mset (mset M 0 3 (m_ts M)) 0 4 (m_ts M)) 0 5 (bz (97 ≤ bAt (M 3) (M 0 0) (m_ts M) ∧ bAt (M 3) (M 0 0) (m_ts M) ≤ 122))) 0 6 (bz (48 ≤ bAt (M 3) (M 0 0) (m_ts M) ∧ bAt (M 3) (M 0 0) (m_ts M) ≤ 57))) 0 3 b) b (ht) (show 0 ≤ b ∧ b ≤ 1000 from by omega)) (cwV 1 hts gX6_token_X6_byteAt rfl rfl rfl (by decide +kernel) ⟨Nat.le_of_ble_eq_true rfl, Nat.le_of_ble_eq_true rfl⟩) hP hK hT hS 0 5 rfl rfl rfl rfl hl.1 rfl (Nat.le_of_ble_eq_true rfl) dX6_token_115 ⟨Nat.le_of_ble_eq_true rfl, Nat.le_of_ble_eq_true rfl⟩ ?_
            have := bAt_r ht (k := b) (by omega)
            refine q_i2l hx hb dX6_token_118 (by omega) ?_
            refine q_ldc2 hx hb 97 hown kc77 (by decide) dX6_token_119 ?_
            refine q_ldc2 hx hb 122 hown kc79 (by decide) dX6_token_122 ?_
            refine q_cSi (z := bz (97 ≤ (bAt (M 3) (M 0 0) b) ∧ (bAt (M 3) (M 0 0) b) ≤ 122)) (As := [.long (zL (bAt (M 3) (M 0 0) b)), .long (zL 97), .long (zL 122)]) (rest := []) ⟨hx, hb, hml, hown, hts⟩ (kX6_in l dC dI g tt (bAt (M 3) (M 0 0) b) 97 122 (by omega)) (va_cwS 3 hts gX6_token_X6_in rfl rfl rfl (by decide +kernel) ⟨Nat.le_of_ble_eq_true rfl, Nat.le_of_ble_eq_true rfl⟩) (hP.sub (ws' := []) [] rfl) hK hT hS rfl hl.1 rfl (Nat.le_of_ble_eq_true rfl) dX6_token_125 ⟨Nat.le_of_ble_eq_true rfl, Nat.le_of_ble_eq_true rfl⟩ ?_
            refine q_bz_ne (tgt := 159) hx hb dX6_token_128 (by decide) (fun c_12 => ?_) (fun c_12 => ?_)
            · have hlt : b < M 0 0 := bAt_l (show 48 ≤ bAt (M 3) (M 0 0) b by omega)
              refine lv_aload_n hx hb dX6_token_159 rfl (lv_at hl 0 rfl) ?_
              refine lv_dup hx hb dX6_token_160 rfl ?_
              refine va_get (D := (dC, dI)) (ci := 5) (v := .int (zI b)) (C := RX6) (T := TX6) (N := 15) hx hb hts iX6 hown hK hP 0 rfl rfl 7 (by decide) kf67 (fun _ h9 => h9) rfl dX6_token_161 ?_
              refine q_iconst hx hb dX6_token_164 ?_
              refine q_iadd hx hb dX6_token_165 ?_
              refine va_put (D := (dC, dI)) (ci := 5) (v := .int (zI (b + 1))) (ty := .int) (C := RX6) (T := TX6) (N := 15) hx hb hts iX6 tyX6 tyX6_ok nmX6 hown hK hP hD hS 0 rfl rfl 7 (by decide) kf67 (fun _ h9 => h9) rfl (by decide +kernel) rfl rfl (Nat.le_of_ble_eq_true rfl) dX6_token_166 (fun H locs hP hD hS => ?_)
              have hP : va_P (dC, dI) vwCl (wMo g q (mset (mset (mset (mset (mset (mset M 0 3 (m_ts M)) 0 4 (m_ts M)) 0 5 (bz (97 ≤ bAt (M 3) (M 0 0) (m_ts M) ∧ bAt (M 3) (M 0 0) (m_ts M) ≤ 122))) 0 6 (bz (48 ≤ bAt (M 3) (M 0 0) (m_ts M) ∧ bAt (M 3) (M 0 0) (m_ts M) ≤ 57))) 0 3 b) 0 3 (b + 1))) H := hP
              have hD : va_D A (wMo g q (mset (mset (mset (mset (mset (mset M 0 3 (m_ts M)) 0 4 (m_ts M)) 0 5 (bz (97 ≤ bAt (M 3) (M 0 0) (m_ts M) ∧ bAt (M 3) (M 0 0) (m_ts M) ≤ 122))) 0 6 (bz (48 ≤ bAt (M 3) (M 0 0) (m_ts M) ∧ bAt (M 3) (M 0 0) (m_ts M) ≤ 57))) 0 3 b) 0 3 (b + 1))) := hD
              refine lv_goto (tgt := 103) hx hb dX6_token_169 (by decide) ?_
              exact ih103 (b + 1) _ _ ls ⟨(show m_ts M ≤ (b + 1) ∧ (b + 1) ≤ M 0 0 from by omega), (show m_te M = teI M (b + 1) from hs2.trans (teI_step (by first | exact Or.inl ⟨by assumption, by assumption⟩ | exact Or.inr ⟨by assumption, by assumption⟩))), (show va_P (dC, dI) vwCl (wMo g q (mset (mset (mset (mset (mset M 0 3 (m_ts M)) 0 4 (m_ts M)) 0 5 (bz (97 ≤ bAt (M 3) (M 0 0) (m_ts M) ∧ bAt (M 3) (M 0 0) (m_ts M) ≤ 122))) 0 6 (bz (48 ≤ bAt (M 3) (M 0 0) (m_ts M) ∧ bAt (M 3) (M 0 0) (m_ts M) ≤ 57))) 0 3 (b + 1))) H from by rw [show (mset (mset (mset (mset (mset M 0 3 (m_ts M)) 0 4 (m_ts M)) 0 5 (bz (97 ≤ bAt (M 3) (M 0 0) (m_ts M) ∧ bAt (M 3) (M 0 0) (m_ts M) ≤ 122))) 0 6 (bz (48 ≤ bAt (M 3) (M 0 0) (m_ts M) ∧ bAt (M 3) (M 0 0) (m_ts M) ≤ 57))) 0 3 (b + 1)) = mset (mset (mset (mset (mset (mset M 0 3 (m_ts M)) 0 4 (m_ts M)) 0 5 (bz (97 ≤ bAt (M 3) (M 0 0) (m_ts M) ∧ bAt (M 3) (M 0 0) (m_ts M) ≤ 122))) 0 6 (bz (48 ≤ bAt (M 3) (M 0 0) (m_ts M) ∧ bAt (M 3) (M 0 0) (m_ts M) ≤ 57))) 0 3 b) 0 3 (b + 1) from mset_mset.symm]; exact hP), (show va_D A (wMo g q (mset (mset (mset (mset (mset M 0 3 (m_ts M)) 0 4 (m_ts M)) 0 5 (bz (97 ≤ bAt (M 3) (M 0 0) (m_ts M) ∧ bAt (M 3) (M 0 0) (m_ts M) ≤ 122))) 0 6 (bz (48 ≤ bAt (M 3) (M 0 0) (m_ts M) ∧ bAt (M 3) (M 0 0) (m_ts M) ≤ 57))) 0 3 (b + 1))) from by rw [show (mset (mset (mset (mset (mset M 0 3 (m_ts M)) 0 4 (m_ts M)) 0 5 (bz (97 ≤ bAt (M 3) (M 0 0) (m_ts M) ∧ bAt (M 3) (M 0 0) (m_ts M) ≤ 122))) 0 6 (bz (48 ≤ bAt (M 3) (M 0 0) (m_ts M) ∧ bAt (M 3) (M 0 0) (m_ts M) ≤ 57))) 0 3 (b + 1)) = mset (mset (mset (mset (mset (mset M 0 3 (m_ts M)) 0 4 (m_ts M)) 0 5 (bz (97 ≤ bAt (M 3) (M 0 0) (m_ts M) ∧ bAt (M 3) (M 0 0) (m_ts M) ≤ 122))) 0 6 (bz (48 ≤ bAt (M 3) (M 0 0) (m_ts M) ∧ bAt (M 3) (M 0 0) (m_ts M) ≤ 57))) 0 3 b) 0 3 (b + 1) from mset_mset.symm]; exact hD), hS, lv_sub hl [0] rfl⟩ (by show (M 0 0 - (b + 1)).toNat < (M 0 0 - b).toNat; omega)
            · refine lv_aload_n hx hb dX6_token_131 rfl (lv_at hl 0 rfl) ?_
              refine va_get (D := (dC, dI)) (ci := 5) (v := .int (zI (bz (48 ≤ bAt (M 3) (M 0 0) (m_ts M) ∧ bAt (M 3) (M 0 0) (m_ts M) ≤ 57)))) (C := RX6) (T := TX6) (N := 15) hx hb hts iX6 hown hK hP 0 rfl rfl 10 (by decide) kf89 (fun _ h9 => h9) rfl dX6_token_132 ?_
              refine q_bz_eq (tgt := 172) hx hb dX6_token_135 (by decide) (fun c_13 => ?_) (fun c_13 => ?_)
              · have hPf : va_P (dC, dI) vwCl (wMo g q (m_tok M)) H := by rw [(show (m_tok M) = mset (mset (mset (mset (mset M 0 3 (m_ts M)) 0 4 (m_ts M)) 0 5 (bz (97 ≤ bAt (M 3) (M 0 0) (m_ts M) ∧ bAt (M 3) (M 0 0) (m_ts M) ≤ 122))) 0 6 (bz (48 ≤ bAt (M 3) (M 0 0) (m_ts M) ∧ bAt (M 3) (M 0 0) (m_ts M) ≤ 57))) 0 3 b from by unfold m_tok; rw [hs2.trans (teI_exit (by first | exact Or.inl (by assumption) | exact Or.inr (by assumption)) (by first | exact Or.inl (by assumption) | exact Or.inr (by assumption)))])]; exact hP
                have hDf : va_D A (wMo g q (m_tok M)) := by rw [(show (m_tok M) = mset (mset (mset (mset (mset M 0 3 (m_ts M)) 0 4 (m_ts M)) 0 5 (bz (97 ≤ bAt (M 3) (M 0 0) (m_ts M) ∧ bAt (M 3) (M 0 0) (m_ts M) ≤ 122))) 0 6 (bz (48 ≤ bAt (M 3) (M 0 0) (m_ts M) ∧ bAt (M 3) (M 0 0) (m_ts M) ≤ 57))) 0 3 b from by unfold m_tok; rw [hs2.trans (teI_exit (by first | exact Or.inl (by assumption) | exact Or.inr (by assumption)) (by first | exact Or.inl (by assumption) | exact Or.inr (by assumption)))])]; exact hD
                exact W.vret hx hb hr (fun t9 ht9 hW9 => ⟨⟨(), rfl, trivial, by rw [ht9]; exact hPf, va_K.moved hW9.alike hK, hDf⟩, hS.F ht9⟩) hS.2.2 dX6_token_172
              · refine lv_aload_n hx hb dX6_token_138 rfl (lv_at hl 0 rfl) ?_
                refine lv_aload_n hx hb dX6_token_139 rfl (lv_at hl 0 rfl) ?_
                refine va_get (D := (dC, dI)) (ci := 5) (v := .int (zI b)) (C := RX6) (T := TX6) (N := 15) hx hb hts iX6 hown hK hP 0 rfl rfl 7 (by decide) kf67 (fun _ h9 => h9) rfl dX6_token_140 ?_
                refine q_cVi (z := bAt (M 3) (M 0 0) b) (b := (q 0)) (As := [.int (zI b)]) (rest := []) ⟨hx, hb, hml, hown, hts⟩ (kX6_byteAt l dC dI g tt q (mset (mset (mset (mset (mset M 0 3 (m_ts M)) 0 4 (m_ts M)) 0 5 (bz (97 ≤ bAt (M 3) (M 0 0) (m_ts M) ∧ bAt (M 3) (M 0 0) (m_ts M) ≤ 122))) 0 6 (bz (48 ≤ bAt (M 3) (M 0 0) (m_ts M) ∧ bAt (M 3) (M 0 0) (m_ts M) ≤ 57))) 0 3 b) b (ht) (show 0 ≤ b ∧ b ≤ 1000 from by omega)) (cwV 1 hts gX6_token_X6_byteAt rfl rfl rfl (by decide +kernel) ⟨Nat.le_of_ble_eq_true rfl, Nat.le_of_ble_eq_true rfl⟩) hP hK hT hS 0 5 rfl rfl rfl rfl hl.1 rfl (Nat.le_of_ble_eq_true rfl) dX6_token_143 ⟨Nat.le_of_ble_eq_true rfl, Nat.le_of_ble_eq_true rfl⟩ ?_
                have := bAt_r ht (k := b) (by omega)
                refine q_i2l hx hb dX6_token_146 (by omega) ?_
                refine q_ldc2 hx hb 48 hown kc85 (by decide) dX6_token_147 ?_
                refine q_ldc2 hx hb 57 hown kc87 (by decide) dX6_token_150 ?_
                refine q_cSi (z := bz (48 ≤ (bAt (M 3) (M 0 0) b) ∧ (bAt (M 3) (M 0 0) b) ≤ 57)) (As := [.long (zL (bAt (M 3) (M 0 0) b)), .long (zL 48), .long (zL 57)]) (rest := []) ⟨hx, hb, hml, hown, hts⟩ (kX6_in l dC dI g tt (bAt (M 3) (M 0 0) b) 48 57 (by omega)) (va_cwS 3 hts gX6_token_X6_in rfl rfl rfl (by decide +kernel) ⟨Nat.le_of_ble_eq_true rfl, Nat.le_of_ble_eq_true rfl⟩) (hP.sub (ws' := []) [] rfl) hK hT hS rfl hl.1 rfl (Nat.le_of_ble_eq_true rfl) dX6_token_153 ⟨Nat.le_of_ble_eq_true rfl, Nat.le_of_ble_eq_true rfl⟩ ?_
                refine q_bz_eq (tgt := 172) hx hb dX6_token_156 (by decide) (fun c_14 => ?_) (fun c_14 => ?_)
                · have hPf : va_P (dC, dI) vwCl (wMo g q (m_tok M)) H := by rw [(show (m_tok M) = mset (mset (mset (mset (mset M 0 3 (m_ts M)) 0 4 (m_ts M)) 0 5 (bz (97 ≤ bAt (M 3) (M 0 0) (m_ts M) ∧ bAt (M 3) (M 0 0) (m_ts M) ≤ 122))) 0 6 (bz (48 ≤ bAt (M 3) (M 0 0) (m_ts M) ∧ bAt (M 3) (M 0 0) (m_ts M) ≤ 57))) 0 3 b from by unfold m_tok; rw [hs2.trans (teI_exit (by first | exact Or.inl (by assumption) | exact Or.inr (by assumption)) (by first | exact Or.inl (by assumption) | exact Or.inr (by assumption)))])]; exact hP
                  have hDf : va_D A (wMo g q (m_tok M)) := by rw [(show (m_tok M) = mset (mset (mset (mset (mset M 0 3 (m_ts M)) 0 4 (m_ts M)) 0 5 (bz (97 ≤ bAt (M 3) (M 0 0) (m_ts M) ∧ bAt (M 3) (M 0 0) (m_ts M) ≤ 122))) 0 6 (bz (48 ≤ bAt (M 3) (M 0 0) (m_ts M) ∧ bAt (M 3) (M 0 0) (m_ts M) ≤ 57))) 0 3 b from by unfold m_tok; rw [hs2.trans (teI_exit (by first | exact Or.inl (by assumption) | exact Or.inr (by assumption)) (by first | exact Or.inl (by assumption) | exact Or.inr (by assumption)))])]; exact hD
                  exact W.vret hx hb hr (fun t9 ht9 hW9 => ⟨⟨(), rfl, trivial, by rw [ht9]; exact hPf, va_K.moved hW9.alike hK, hDf⟩, hS.F ht9⟩) hS.2.2 dX6_token_172
                · have hlt : b < M 0 0 := bAt_l (show 48 ≤ bAt (M 3) (M 0 0) b by omega)
                  refine lv_aload_n hx hb dX6_token_159 rfl (lv_at hl 0 rfl) ?_
                  refine lv_dup hx hb dX6_token_160 rfl ?_
                  refine va_get (D := (dC, dI)) (ci := 5) (v := .int (zI b)) (C := RX6) (T := TX6) (N := 15) hx hb hts iX6 hown hK hP 0 rfl rfl 7 (by decide) kf67 (fun _ h9 => h9) rfl dX6_token_161 ?_
                  refine q_iconst hx hb dX6_token_164 ?_
                  refine q_iadd hx hb dX6_token_165 ?_
                  refine va_put (D := (dC, dI)) (ci := 5) (v := .int (zI (b + 1))) (ty := .int) (C := RX6) (T := TX6) (N := 15) hx hb hts iX6 tyX6 tyX6_ok nmX6 hown hK hP hD hS 0 rfl rfl 7 (by decide) kf67 (fun _ h9 => h9) rfl (by decide +kernel) rfl rfl (Nat.le_of_ble_eq_true rfl) dX6_token_166 (fun H locs hP hD hS => ?_)
                  have hP : va_P (dC, dI) vwCl (wMo g q (mset (mset (mset (mset (mset (mset M 0 3 (m_ts M)) 0 4 (m_ts M)) 0 5 (bz (97 ≤ bAt (M 3) (M 0 0) (m_ts M) ∧ bAt (M 3) (M 0 0) (m_ts M) ≤ 122))) 0 6 (bz (48 ≤ bAt (M 3) (M 0 0) (m_ts M) ∧ bAt (M 3) (M 0 0) (m_ts M) ≤ 57))) 0 3 b) 0 3 (b + 1))) H := hP
                  have hD : va_D A (wMo g q (mset (mset (mset (mset (mset (mset M 0 3 (m_ts M)) 0 4 (m_ts M)) 0 5 (bz (97 ≤ bAt (M 3) (M 0 0) (m_ts M) ∧ bAt (M 3) (M 0 0) (m_ts M) ≤ 122))) 0 6 (bz (48 ≤ bAt (M 3) (M 0 0) (m_ts M) ∧ bAt (M 3) (M 0 0) (m_ts M) ≤ 57))) 0 3 b) 0 3 (b + 1))) := hD
                  refine lv_goto (tgt := 103) hx hb dX6_token_169 (by decide) ?_
                  exact ih103 (b + 1) _ _ ls ⟨(show m_ts M ≤ (b + 1) ∧ (b + 1) ≤ M 0 0 from by omega), (show m_te M = teI M (b + 1) from hs2.trans (teI_step (by first | exact Or.inl ⟨by assumption, by assumption⟩ | exact Or.inr ⟨by assumption, by assumption⟩))), (show va_P (dC, dI) vwCl (wMo g q (mset (mset (mset (mset (mset M 0 3 (m_ts M)) 0 4 (m_ts M)) 0 5 (bz (97 ≤ bAt (M 3) (M 0 0) (m_ts M) ∧ bAt (M 3) (M 0 0) (m_ts M) ≤ 122))) 0 6 (bz (48 ≤ bAt (M 3) (M 0 0) (m_ts M) ∧ bAt (M 3) (M 0 0) (m_ts M) ≤ 57))) 0 3 (b + 1))) H from by rw [show (mset (mset (mset (mset (mset M 0 3 (m_ts M)) 0 4 (m_ts M)) 0 5 (bz (97 ≤ bAt (M 3) (M 0 0) (m_ts M) ∧ bAt (M 3) (M 0 0) (m_ts M) ≤ 122))) 0 6 (bz (48 ≤ bAt (M 3) (M 0 0) (m_ts M) ∧ bAt (M 3) (M 0 0) (m_ts M) ≤ 57))) 0 3 (b + 1)) = mset (mset (mset (mset (mset (mset M 0 3 (m_ts M)) 0 4 (m_ts M)) 0 5 (bz (97 ≤ bAt (M 3) (M 0 0) (m_ts M) ∧ bAt (M 3) (M 0 0) (m_ts M) ≤ 122))) 0 6 (bz (48 ≤ bAt (M 3) (M 0 0) (m_ts M) ∧ bAt (M 3) (M 0 0) (m_ts M) ≤ 57))) 0 3 b) 0 3 (b + 1) from mset_mset.symm]; exact hP), (show va_D A (wMo g q (mset (mset (mset (mset (mset M 0 3 (m_ts M)) 0 4 (m_ts M)) 0 5 (bz (97 ≤ bAt (M 3) (M 0 0) (m_ts M) ∧ bAt (M 3) (M 0 0) (m_ts M) ≤ 122))) 0 6 (bz (48 ≤ bAt (M 3) (M 0 0) (m_ts M) ∧ bAt (M 3) (M 0 0) (m_ts M) ≤ 57))) 0 3 (b + 1))) from by rw [show (mset (mset (mset (mset (mset M 0 3 (m_ts M)) 0 4 (m_ts M)) 0 5 (bz (97 ≤ bAt (M 3) (M 0 0) (m_ts M) ∧ bAt (M 3) (M 0 0) (m_ts M) ≤ 122))) 0 6 (bz (48 ≤ bAt (M 3) (M 0 0) (m_ts M) ∧ bAt (M 3) (M 0 0) (m_ts M) ≤ 57))) 0 3 (b + 1)) = mset (mset (mset (mset (mset (mset M 0 3 (m_ts M)) 0 4 (m_ts M)) 0 5 (bz (97 ≤ bAt (M 3) (M 0 0) (m_ts M) ∧ bAt (M 3) (M 0 0) (m_ts M) ≤ 122))) 0 6 (bz (48 ≤ bAt (M 3) (M 0 0) (m_ts M) ∧ bAt (M 3) (M 0 0) (m_ts M) ≤ 57))) 0 3 b) 0 3 (b + 1) from mset_mset.symm]; exact hD), hS, lv_sub hl [0] rfl⟩ (by show (M 0 0 - (b + 1)).toNat < (M 0 0 - b).toNat; omega)
        · exact ⟨(show m_ts M ≤ ((m_ts M) + 1) ∧ ((m_ts M) + 1) ≤ M 0 0 from by omega), (show m_te M = teI M ((m_ts M) + 1) from by first | exact teI_1 (by omega) | exact teI_0 (by omega)), (show va_P (dC, dI) vwCl (wMo g q (mset (mset (mset (mset (mset M 0 3 (m_ts M)) 0 4 (m_ts M)) 0 5 (bz (97 ≤ bAt (M 3) (M 0 0) (m_ts M) ∧ bAt (M 3) (M 0 0) (m_ts M) ≤ 122))) 0 6 (bz (48 ≤ bAt (M 3) (M 0 0) (m_ts M) ∧ bAt (M 3) (M 0 0) (m_ts M) ≤ 57))) 0 3 ((m_ts M) + 1))) H from by rw [show (mset (mset (mset (mset (mset M 0 3 (m_ts M)) 0 4 (m_ts M)) 0 5 (bz (97 ≤ bAt (M 3) (M 0 0) (m_ts M) ∧ bAt (M 3) (M 0 0) (m_ts M) ≤ 122))) 0 6 (bz (48 ≤ bAt (M 3) (M 0 0) (m_ts M) ∧ bAt (M 3) (M 0 0) (m_ts M) ≤ 57))) 0 3 ((m_ts M) + 1)) = mset (mset (mset (mset (mset M 0 3 (m_ts M)) 0 4 (m_ts M)) 0 5 (bz (97 ≤ (bAt (M 3) (M 0 0) (m_ts M)) ∧ (bAt (M 3) (M 0 0) (m_ts M)) ≤ 122))) 0 6 (bz (48 ≤ (bAt (M 3) (M 0 0) (m_ts M)) ∧ (bAt (M 3) (M 0 0) (m_ts M)) ≤ 57))) 0 3 ((m_ts M) + 1) from rfl]; exact hP), (show va_D A (wMo g q (mset (mset (mset (mset (mset M 0 3 (m_ts M)) 0 4 (m_ts M)) 0 5 (bz (97 ≤ bAt (M 3) (M 0 0) (m_ts M) ∧ bAt (M 3) (M 0 0) (m_ts M) ≤ 122))) 0 6 (bz (48 ≤ bAt (M 3) (M 0 0) (m_ts M) ∧ bAt (M 3) (M 0 0) (m_ts M) ≤ 57))) 0 3 ((m_ts M) + 1))) from by rw [show (mset (mset (mset (mset (mset M 0 3 (m_ts M)) 0 4 (m_ts M)) 0 5 (bz (97 ≤ bAt (M 3) (M 0 0) (m_ts M) ∧ bAt (M 3) (M 0 0) (m_ts M) ≤ 122))) 0 6 (bz (48 ≤ bAt (M 3) (M 0 0) (m_ts M) ∧ bAt (M 3) (M 0 0) (m_ts M) ≤ 57))) 0 3 ((m_ts M) + 1)) = mset (mset (mset (mset (mset M 0 3 (m_ts M)) 0 4 (m_ts M)) 0 5 (bz (97 ≤ (bAt (M 3) (M 0 0) (m_ts M)) ∧ (bAt (M 3) (M 0 0) (m_ts M)) ≤ 122))) 0 6 (bz (48 ≤ (bAt (M 3) (M 0 0) (m_ts M)) ∧ (bAt (M 3) (M 0 0) (m_ts M)) ≤ 57))) 0 3 ((m_ts M) + 1) from rfl]; exact hD), hS, lv_sub hl [0] rfl⟩
    · have hbe := bAt_e c_1 (by decide)
      refine lv_aload_n hx hb dX6_token_13 rfl (lv_at hl 0 rfl) ?_
      refine lv_dup hx hb dX6_token_14 rfl ?_
      refine va_get (D := (dC, dI)) (ci := 5) (v := .int (zI a)) (C := RX6) (T := TX6) (N := 15) hx hb hts iX6 hown hK hP 0 rfl rfl 7 (by decide) kf67 (fun _ h9 => h9) rfl dX6_token_15 ?_
      refine q_iconst hx hb dX6_token_18 ?_
      refine q_iadd hx hb dX6_token_19 ?_
      refine va_put (D := (dC, dI)) (ci := 5) (v := .int (zI (a + 1))) (ty := .int) (C := RX6) (T := TX6) (N := 15) hx hb hts iX6 tyX6 tyX6_ok nmX6 hown hK hP hD hS 0 rfl rfl 7 (by decide) kf67 (fun _ h9 => h9) rfl (by decide +kernel) rfl rfl (Nat.le_of_ble_eq_true rfl) dX6_token_20 (fun H locs hP hD hS => ?_)
      have hP : va_P (dC, dI) vwCl (wMo g q (mset (mset M 0 3 a) 0 3 (a + 1))) H := hP
      have hD : va_D A (wMo g q (mset (mset M 0 3 a) 0 3 (a + 1))) := hD
      refine lv_goto (tgt := 0) hx hb dX6_token_23 (by decide) ?_
      exact ih0 (a + 1) _ _ ls ⟨(show M 0 3 ≤ (a + 1) ∧ (a + 1) ≤ M 0 0 from by omega), (show m_ts M = skI (blP (M 3)) (M 0 0) (a + 1) from hs.trans (skI_next hbe.1 (decide_eq_true hbe.2))), (show va_P (dC, dI) vwCl (wMo g q (mset M 0 3 (a + 1))) H from by rw [show (mset M 0 3 (a + 1)) = mset (mset M 0 3 a) 0 3 (a + 1) from mset_mset.symm]; exact hP), (show va_D A (wMo g q (mset M 0 3 (a + 1))) from by rw [show (mset M 0 3 (a + 1)) = mset (mset M 0 3 a) 0 3 (a + 1) from mset_mset.symm]; exact hD), hS, lv_sub hl [0] rfl⟩ (by show (M 0 0 - (a + 1)).toNat < (M 0 0 - a).toNat; omega)
  · exact ⟨(show M 0 3 ≤ (M 0 3) ∧ (M 0 3) ≤ M 0 0 from by omega), (show m_ts M = skI (blP (M 3)) (M 0 0) (M 0 3) from rfl), (show va_P (dC, dI) vwCl (wMo g q (mset M 0 3 (M 0 3))) s.heap from by rw [show (mset M 0 3 (M 0 3)) = M from mset_self]; exact hP), (show va_D A (wMo g q (mset M 0 3 (M 0 3))) from by rw [show (mset M 0 3 (M 0 3)) = M from mset_self]; exact hD), hS, lv_sub hl [0] rfl⟩
set_option maxHeartbeats 4000000 in
set_option maxRecDepth 100000 in
theorem kX6_isNamed (l : Launch) (dC : Nat → ClassId) (dI : Nat → Nat → Nat) (g : Nat → ClassId) (tt : Nat → Nat) (q : Nat → Nat) (M : Nat → Int → Int) (x1 x2 x3 x4 x5 : Int) (hm : mtok M) (h1 : (0 ≤ x1 ∧ x1 ≤ 127) ∧ (0 ≤ x2 ∧ x2 ≤ 127) ∧ (0 ≤ x3 ∧ x3 ≤ 127) ∧ (0 ≤ x4 ∧ x4 ≤ 127) ∧ (0 ≤ x5 ∧ x5 ≤ 127)) : Met l yX6_isNamed wsX6_isNamed ({ frames := 1, cells := 0, slots := 0, locals := 21 }) (va_Pc [.ref (q 0), .int (zI x1), .int (zI x2), .int (zI x3), .int (zI x4), .int (zI x5)] (eS (dC, dI) (wTy g) (wMo g q M) tt)) (vp_Si (fun r => r = zI (bz (m_nm M x1 x2 x3 x4 x5 = true)))) 0 0 (fun _ => False) := by
  refine Met.ofW (cc := cX6_isNamed) (maxL := 7) (ret := (some .boolean)) (by decide) rfl ?_
  intro p e s m args below meth c s₁ B hml hv
  obtain ⟨rfl, hP, hK, hT⟩ := hv
  have hx := B.exec
  have hb := B.bytes
  have hr := B.returns
  have hts := atoms_spec (ws := wsX6_isNamed) B.pre
  have hown : s.vm.findClass RX6 = some m.cls := findClass_of_methodNamed B.named
  have hlocks := B.notSynchronized
  have hS : va_S (fun _ : Nat => False) s.heap s.heap [] := va_S.rf
  have hl := lv_entry ([.ref (q 0), .int (zI x1), .int (zI x2), .int (zI x3), .int (zI x4), .int (zI x5)]) (n := 7) (Nat.le_of_ble_eq_true rfl)
  rw [lg_entry_eq]
  generalize (lg_sl ([.ref (q 0), .int (zI x1), .int (zI x2), .int (zI x3), .int (zI x4), .int (zI x5)]) ++ List.replicate (7 - (lg_sl ([.ref (q 0), .int (zI x1), .int (zI x2), .int (zI x3), .int (zI x4), .int (zI x5)])).length) Slot.unset).toArray = ls at hl ⊢
  have hl : lv_has ls 7 [(0, .ref (q 0)), (1, .int (zI x1)), (2, .int (zI x2)), (3, .int (zI x3)), (4, .int (zI x4)), (5, .int (zI x5))] := hl
  have kf67 := hts (.fieldLink RX6 67 "WrongWayModel" "at" "I") (by decide +kernel)
  have kf74 := hts (.fieldLink RX6 74 "WrongWayModel" "start" "I") (by decide +kernel)
  have kf81 := hts (.fieldLink RX6 81 "WrongWayModel" "isWord" "Z") (by decide +kernel)
  have iX6 := (fun w h => List.mem_cons_of_mem _ (List.mem_append_right _ h) : ∀ w ∈ u_ws RX6 TX6 15, w ∈ wsX6_isNamed)
  have ht := hm.1.1
  have hL := ht.1
  have h3 := hm.1.2
  have h4 := hm.2.1
  have h5 := hm.2.2
  refine lv_aload_n hx hb dX6_isNamed_0 rfl (lv_at hl 0 rfl) ?_
  refine va_get (D := (dC, dI)) (ci := 5) (v := .int (zI (M 0 5))) (C := RX6) (T := TX6) (N := 15) hx hb hts iX6 hown hK hP 0 rfl rfl 9 (by decide) kf81 (fun _ h9 => h9) rfl dX6_isNamed_1 ?_
  refine q_if_eq (tgt := 33) hx hb dX6_isNamed_4 (by decide) (by omega) (fun c_1 => ?_) (fun c_1 => ?_)
  · refine q_iconst hx hb dX6_isNamed_33 ?_
    refine lv_istore (lv' := [(6, .int (zI 0)), (0, .ref (q 0)), (1, .int (zI x1)), (2, .int (zI x2)), (3, .int (zI x3)), (4, .int (zI x4)), (5, .int (zI x5))]) hx hb dX6_isNamed_34 hl (by decide) rfl (fun ls hl => ?_)
    refine lv_iload hx hb dX6_isNamed_36 (lv_at hl 0 rfl) ?_
    refine q_if_eqT (tgt := 120) hx hb dX6_isNamed_38 (by decide) (by decide) ?_
    refine q_iconst hx hb dX6_isNamed_120 ?_
    exact W.zret hx hb hr rfl (fun t9 ht9 hW9 => ⟨_, rfl, congrArg zI (bz_f (fun h9 => by unfold m_nm at h9; simp only [Bool.and_eq_true, decide_eq_true_eq] at h9; obtain ⟨a1, a2, a3, a4, a5, a6, a7⟩ := h9; split at a2 <;> omega)).symm, ht9⟩) hS.2.2 dX6_isNamed_121
  · refine lv_aload_n hx hb dX6_isNamed_7 rfl (lv_at hl 0 rfl) ?_
    refine va_get (D := (dC, dI)) (ci := 5) (v := .int (zI (M 0 3))) (C := RX6) (T := TX6) (N := 15) hx hb hts iX6 hown hK hP 0 rfl rfl 7 (by decide) kf67 (fun _ h9 => h9) rfl dX6_isNamed_8 ?_
    refine lv_aload_n hx hb dX6_isNamed_11 rfl (lv_at hl 0 rfl) ?_
    refine va_get (D := (dC, dI)) (ci := 5) (v := .int (zI (M 0 4))) (C := RX6) (T := TX6) (N := 15) hx hb hts iX6 hown hK hP 0 rfl rfl 8 (by decide) kf74 (fun _ h9 => h9) rfl dX6_isNamed_12 ?_
    refine q_isub hx hb dX6_isNamed_15 ?_
    refine lv_iload hx hb dX6_isNamed_16 (lv_at hl 5 rfl) ?_
    refine q_if_ne (tgt := 25) hx hb dX6_isNamed_18 (by decide) (by omega) (fun c_2 => ?_) (fun c_2 => ?_)
    · refine q_iconst hx hb dX6_isNamed_25 ?_
      refine q_icmp_ne (tgt := 33) hx hb dX6_isNamed_26 (by decide) (by omega) (fun c_3 => ?_) (fun c_3 => ?_)
      · refine q_iconst hx hb dX6_isNamed_33 ?_
        refine lv_istore (lv' := [(6, .int (zI 0)), (0, .ref (q 0)), (1, .int (zI x1)), (2, .int (zI x2)), (3, .int (zI x3)), (4, .int (zI x4)), (5, .int (zI x5))]) hx hb dX6_isNamed_34 hl (by decide) rfl (fun ls hl => ?_)
        refine lv_iload hx hb dX6_isNamed_36 (lv_at hl 0 rfl) ?_
        refine q_if_eqT (tgt := 120) hx hb dX6_isNamed_38 (by decide) (by decide) ?_
        refine q_iconst hx hb dX6_isNamed_120 ?_
        exact W.zret hx hb hr rfl (fun t9 ht9 hW9 => ⟨_, rfl, congrArg zI (bz_f (fun h9 => by unfold m_nm at h9; simp only [Bool.and_eq_true, decide_eq_true_eq] at h9; obtain ⟨a1, a2, a3, a4, a5, a6, a7⟩ := h9; split at a2 <;> omega)).symm, ht9⟩) hS.2.2 dX6_isNamed_121
      · refine q_iconst hx hb dX6_isNamed_29 ?_
        refine lv_goto (tgt := 34) hx hb dX6_isNamed_30 (by decide) ?_
        refine lv_istore (lv' := [(6, .int (zI 1)), (0, .ref (q 0)), (1, .int (zI x1)), (2, .int (zI x2)), (3, .int (zI x3)), (4, .int (zI x4)), (5, .int (zI x5))]) hx hb dX6_isNamed_34 hl (by decide) rfl (fun ls hl => ?_)
        refine lv_iload hx hb dX6_isNamed_36 (lv_at hl 0 rfl) ?_
        refine q_if_eqF (tgt := 120) hx hb dX6_isNamed_38 (by decide) (by decide) ?_
        refine lv_aload_n hx hb dX6_isNamed_41 rfl (lv_at hl 1 rfl) ?_
        refine lv_aload_n hx hb dX6_isNamed_42 rfl (lv_at hl 1 rfl) ?_
        refine va_get (D := (dC, dI)) (ci := 5) (v := .int (zI (M 0 4))) (C := RX6) (T := TX6) (N := 15) hx hb hts iX6 hown hK hP 0 rfl rfl 8 (by decide) kf74 (fun _ h9 => h9) rfl dX6_isNamed_43 ?_
        refine q_cVi (z := bAt (M 3) (M 0 0) (M 0 4)) (b := (q 0)) (As := [.int (zI (M 0 4))]) (rest := []) ⟨hx, hb, hml, hown, hts⟩ (kX6_byteAt l dC dI g tt q M (M 0 4) (ht) (by omega)) (cwV 1 hts gX6_isNamed_X6_byteAt rfl rfl rfl (by decide +kernel) ⟨Nat.le_of_ble_eq_true rfl, Nat.le_of_ble_eq_true rfl⟩) hP hK hT hS 0 5 rfl rfl rfl rfl hl.1 rfl (Nat.le_of_ble_eq_true rfl) dX6_isNamed_46 ⟨Nat.le_of_ble_eq_true rfl, Nat.le_of_ble_eq_true rfl⟩ ?_
        have := bAt_r ht (k := (M 0 4)) (by omega)
        refine lv_iload_n hx hb dX6_isNamed_49 rfl (lv_at hl 2 rfl) ?_
        refine q_icmp_ne (tgt := 120) hx hb dX6_isNamed_50 (by decide) (by omega) (fun c_4 => ?_) (fun c_4 => ?_)
        · refine q_iconst hx hb dX6_isNamed_120 ?_
          exact W.zret hx hb hr rfl (fun t9 ht9 hW9 => ⟨_, rfl, congrArg zI (bz_f (fun h9 => by unfold m_nm at h9; simp only [Bool.and_eq_true, decide_eq_true_eq] at h9; obtain ⟨a1, a2, a3, a4, a5, a6, a7⟩ := h9; split at a2 <;> omega)).symm, ht9⟩) hS.2.2 dX6_isNamed_121
        · refine lv_aload_n hx hb dX6_isNamed_53 rfl (lv_at hl 1 rfl) ?_
          refine lv_aload_n hx hb dX6_isNamed_54 rfl (lv_at hl 1 rfl) ?_
          refine va_get (D := (dC, dI)) (ci := 5) (v := .int (zI (M 0 4))) (C := RX6) (T := TX6) (N := 15) hx hb hts iX6 hown hK hP 0 rfl rfl 8 (by decide) kf74 (fun _ h9 => h9) rfl dX6_isNamed_55 ?_
          refine q_iconst hx hb dX6_isNamed_58 ?_
          refine q_iadd hx hb dX6_isNamed_59 ?_
          refine q_cVi (z := bAt (M 3) (M 0 0) ((M 0 4) + 1)) (b := (q 0)) (As := [.int (zI ((M 0 4) + 1))]) (rest := []) ⟨hx, hb, hml, hown, hts⟩ (kX6_byteAt l dC dI g tt q M ((M 0 4) + 1) (ht) (by omega)) (cwV 1 hts gX6_isNamed_X6_byteAt rfl rfl rfl (by decide +kernel) ⟨Nat.le_of_ble_eq_true rfl, Nat.le_of_ble_eq_true rfl⟩) hP hK hT hS 0 5 rfl rfl rfl rfl hl.1 rfl (Nat.le_of_ble_eq_true rfl) dX6_isNamed_60 ⟨Nat.le_of_ble_eq_true rfl, Nat.le_of_ble_eq_true rfl⟩ ?_
          have := bAt_r ht (k := ((M 0 4) + 1)) (by omega)
          refine lv_iload_n hx hb dX6_isNamed_63 rfl (lv_at hl 3 rfl) ?_
          refine q_icmp_ne (tgt := 120) hx hb dX6_isNamed_64 (by decide) (by omega) (fun c_5 => ?_) (fun c_5 => ?_)
          · refine q_iconst hx hb dX6_isNamed_120 ?_
            exact W.zret hx hb hr rfl (fun t9 ht9 hW9 => ⟨_, rfl, congrArg zI (bz_f (fun h9 => by unfold m_nm at h9; simp only [Bool.and_eq_true, decide_eq_true_eq] at h9; obtain ⟨a1, a2, a3, a4, a5, a6, a7⟩ := h9; split at a2 <;> omega)).symm, ht9⟩) hS.2.2 dX6_isNamed_121
          · refine lv_aload_n hx hb dX6_isNamed_67 rfl (lv_at hl 1 rfl) ?_
            refine lv_aload_n hx hb dX6_isNamed_68 rfl (lv_at hl 1 rfl) ?_
            refine va_get (D := (dC, dI)) (ci := 5) (v := .int (zI (M 0 4))) (C := RX6) (T := TX6) (N := 15) hx hb hts iX6 hown hK hP 0 rfl rfl 8 (by decide) kf74 (fun _ h9 => h9) rfl dX6_isNamed_69 ?_
            refine q_iconst hx hb dX6_isNamed_72 ?_
            refine q_iadd hx hb dX6_isNamed_73 ?_
            refine q_cVi (z := bAt (M 3) (M 0 0) ((M 0 4) + 2)) (b := (q 0)) (As := [.int (zI ((M 0 4) + 2))]) (rest := []) ⟨hx, hb, hml, hown, hts⟩ (kX6_byteAt l dC dI g tt q M ((M 0 4) + 2) (ht) (by omega)) (cwV 1 hts gX6_isNamed_X6_byteAt rfl rfl rfl (by decide +kernel) ⟨Nat.le_of_ble_eq_true rfl, Nat.le_of_ble_eq_true rfl⟩) hP hK hT hS 0 5 rfl rfl rfl rfl hl.1 rfl (Nat.le_of_ble_eq_true rfl) dX6_isNamed_74 ⟨Nat.le_of_ble_eq_true rfl, Nat.le_of_ble_eq_true rfl⟩ ?_
            have := bAt_r ht (k := ((M 0 4) + 2)) (by omega)
            refine lv_iload_n hx hb dX6_isNamed_77 rfl (lv_at hl 4 rfl) ?_
            refine q_icmp_ne (tgt := 120) hx hb dX6_isNamed_78 (by decide) (by omega) (fun c_6 => ?_) (fun c_6 => ?_)
            · refine q_iconst hx hb dX6_isNamed_120 ?_
              exact W.zret hx hb hr rfl (fun t9 ht9 hW9 => ⟨_, rfl, congrArg zI (bz_f (fun h9 => by unfold m_nm at h9; simp only [Bool.and_eq_true, decide_eq_true_eq] at h9; obtain ⟨a1, a2, a3, a4, a5, a6, a7⟩ := h9; split at a2 <;> omega)).symm, ht9⟩) hS.2.2 dX6_isNamed_121
            · refine lv_aload_n hx hb dX6_isNamed_81 rfl (lv_at hl 1 rfl) ?_
              refine lv_aload_n hx hb dX6_isNamed_82 rfl (lv_at hl 1 rfl) ?_
              refine va_get (D := (dC, dI)) (ci := 5) (v := .int (zI (M 0 4))) (C := RX6) (T := TX6) (N := 15) hx hb hts iX6 hown hK hP 0 rfl rfl 8 (by decide) kf74 (fun _ h9 => h9) rfl dX6_isNamed_83 ?_
              refine q_iconst hx hb dX6_isNamed_86 ?_
              refine q_iadd hx hb dX6_isNamed_87 ?_
              refine q_cVi (z := bAt (M 3) (M 0 0) ((M 0 4) + 3)) (b := (q 0)) (As := [.int (zI ((M 0 4) + 3))]) (rest := []) ⟨hx, hb, hml, hown, hts⟩ (kX6_byteAt l dC dI g tt q M ((M 0 4) + 3) (ht) (by omega)) (cwV 1 hts gX6_isNamed_X6_byteAt rfl rfl rfl (by decide +kernel) ⟨Nat.le_of_ble_eq_true rfl, Nat.le_of_ble_eq_true rfl⟩) hP hK hT hS 0 5 rfl rfl rfl rfl hl.1 rfl (Nat.le_of_ble_eq_true rfl) dX6_isNamed_88 ⟨Nat.le_of_ble_eq_true rfl, Nat.le_of_ble_eq_true rfl⟩ ?_
              have := bAt_r ht (k := ((M 0 4) + 3)) (by omega)
              refine lv_iload hx hb dX6_isNamed_91 (lv_at hl 5 rfl) ?_
              refine q_icmp_ne (tgt := 120) hx hb dX6_isNamed_93 (by decide) (by omega) (fun c_7 => ?_) (fun c_7 => ?_)
              · refine q_iconst hx hb dX6_isNamed_120 ?_
                exact W.zret hx hb hr rfl (fun t9 ht9 hW9 => ⟨_, rfl, congrArg zI (bz_f (fun h9 => by unfold m_nm at h9; simp only [Bool.and_eq_true, decide_eq_true_eq] at h9; obtain ⟨a1, a2, a3, a4, a5, a6, a7⟩ := h9; split at a2 <;> omega)).symm, ht9⟩) hS.2.2 dX6_isNamed_121
              · refine lv_iload hx hb dX6_isNamed_96 (lv_at hl 6 rfl) ?_
                refine q_if_eq (tgt := 116) hx hb dX6_isNamed_98 (by decide) (by omega) (fun c_8 => ?_) (fun c_8 => ?_)
                · refine q_iconst hx hb dX6_isNamed_116 ?_
                  refine lv_goto (tgt := 121) hx hb dX6_isNamed_117 (by decide) ?_
                  exact W.zret hx hb hr rfl (fun t9 ht9 hW9 => ⟨_, rfl, congrArg zI (bz_t (by unfold m_nm; simp only [Bool.and_eq_true, decide_eq_true_eq]; refine ⟨by omega, ?_, by omega, by omega, by omega, by omega, by omega⟩; split <;> omega)).symm, ht9⟩) hS.2.2 dX6_isNamed_121
                · refine lv_aload_n hx hb dX6_isNamed_101 rfl (lv_at hl 1 rfl) ?_
                  refine lv_aload_n hx hb dX6_isNamed_102 rfl (lv_at hl 1 rfl) ?_
                  refine va_get (D := (dC, dI)) (ci := 5) (v := .int (zI (M 0 4))) (C := RX6) (T := TX6) (N := 15) hx hb hts iX6 hown hK hP 0 rfl rfl 8 (by decide) kf74 (fun _ h9 => h9) rfl dX6_isNamed_103 ?_
                  refine q_iconst hx hb dX6_isNamed_106 ?_
                  refine q_iadd hx hb dX6_isNamed_107 ?_
                  refine q_cVi (z := bAt (M 3) (M 0 0) ((M 0 4) + 4)) (b := (q 0)) (As := [.int (zI ((M 0 4) + 4))]) (rest := []) ⟨hx, hb, hml, hown, hts⟩ (kX6_byteAt l dC dI g tt q M ((M 0 4) + 4) (ht) (by omega)) (cwV 1 hts gX6_isNamed_X6_byteAt rfl rfl rfl (by decide +kernel) ⟨Nat.le_of_ble_eq_true rfl, Nat.le_of_ble_eq_true rfl⟩) hP hK hT hS 0 5 rfl rfl rfl rfl hl.1 rfl (Nat.le_of_ble_eq_true rfl) dX6_isNamed_108 ⟨Nat.le_of_ble_eq_true rfl, Nat.le_of_ble_eq_true rfl⟩ ?_
                  have := bAt_r ht (k := ((M 0 4) + 4)) (by omega)
                  refine lv_iload hx hb dX6_isNamed_111 (lv_at hl 6 rfl) ?_
                  refine q_icmp_ne (tgt := 120) hx hb dX6_isNamed_113 (by decide) (by omega) (fun c_9 => ?_) (fun c_9 => ?_)
                  · refine q_iconst hx hb dX6_isNamed_120 ?_
                    exact W.zret hx hb hr rfl (fun t9 ht9 hW9 => ⟨_, rfl, congrArg zI (bz_f (fun h9 => by unfold m_nm at h9; simp only [Bool.and_eq_true, decide_eq_true_eq] at h9; obtain ⟨a1, a2, a3, a4, a5, a6, a7⟩ := h9; split at a2 <;> omega)).symm, ht9⟩) hS.2.2 dX6_isNamed_121
                  · refine q_iconst hx hb dX6_isNamed_116 ?_
                    refine lv_goto (tgt := 121) hx hb dX6_isNamed_117 (by decide) ?_
                    exact W.zret hx hb hr rfl (fun t9 ht9 hW9 => ⟨_, rfl, congrArg zI (bz_t (by unfold m_nm; simp only [Bool.and_eq_true, decide_eq_true_eq]; refine ⟨by omega, ?_, by omega, by omega, by omega, by omega, by omega⟩; split <;> omega)).symm, ht9⟩) hS.2.2 dX6_isNamed_121
    · refine q_iconst hx hb dX6_isNamed_21 ?_
      refine lv_goto (tgt := 26) hx hb dX6_isNamed_22 (by decide) ?_
      refine q_icmp_ne (tgt := 33) hx hb dX6_isNamed_26 (by decide) (by omega) (fun c_10 => ?_) (fun c_10 => ?_)
      · refine q_iconst hx hb dX6_isNamed_33 ?_
        refine lv_istore (lv' := [(6, .int (zI 0)), (0, .ref (q 0)), (1, .int (zI x1)), (2, .int (zI x2)), (3, .int (zI x3)), (4, .int (zI x4)), (5, .int (zI x5))]) hx hb dX6_isNamed_34 hl (by decide) rfl (fun ls hl => ?_)
        refine lv_iload hx hb dX6_isNamed_36 (lv_at hl 0 rfl) ?_
        refine q_if_eqT (tgt := 120) hx hb dX6_isNamed_38 (by decide) (by decide) ?_
        refine q_iconst hx hb dX6_isNamed_120 ?_
        exact W.zret hx hb hr rfl (fun t9 ht9 hW9 => ⟨_, rfl, congrArg zI (bz_f (fun h9 => by unfold m_nm at h9; simp only [Bool.and_eq_true, decide_eq_true_eq] at h9; obtain ⟨a1, a2, a3, a4, a5, a6, a7⟩ := h9; split at a2 <;> omega)).symm, ht9⟩) hS.2.2 dX6_isNamed_121
      · refine q_iconst hx hb dX6_isNamed_29 ?_
        refine lv_goto (tgt := 34) hx hb dX6_isNamed_30 (by decide) ?_
        refine lv_istore (lv' := [(6, .int (zI 1)), (0, .ref (q 0)), (1, .int (zI x1)), (2, .int (zI x2)), (3, .int (zI x3)), (4, .int (zI x4)), (5, .int (zI x5))]) hx hb dX6_isNamed_34 hl (by decide) rfl (fun ls hl => ?_)
        refine lv_iload hx hb dX6_isNamed_36 (lv_at hl 0 rfl) ?_
        refine q_if_eqF (tgt := 120) hx hb dX6_isNamed_38 (by decide) (by decide) ?_
        refine lv_aload_n hx hb dX6_isNamed_41 rfl (lv_at hl 1 rfl) ?_
        refine lv_aload_n hx hb dX6_isNamed_42 rfl (lv_at hl 1 rfl) ?_
        refine va_get (D := (dC, dI)) (ci := 5) (v := .int (zI (M 0 4))) (C := RX6) (T := TX6) (N := 15) hx hb hts iX6 hown hK hP 0 rfl rfl 8 (by decide) kf74 (fun _ h9 => h9) rfl dX6_isNamed_43 ?_
        refine q_cVi (z := bAt (M 3) (M 0 0) (M 0 4)) (b := (q 0)) (As := [.int (zI (M 0 4))]) (rest := []) ⟨hx, hb, hml, hown, hts⟩ (kX6_byteAt l dC dI g tt q M (M 0 4) (ht) (by omega)) (cwV 1 hts gX6_isNamed_X6_byteAt rfl rfl rfl (by decide +kernel) ⟨Nat.le_of_ble_eq_true rfl, Nat.le_of_ble_eq_true rfl⟩) hP hK hT hS 0 5 rfl rfl rfl rfl hl.1 rfl (Nat.le_of_ble_eq_true rfl) dX6_isNamed_46 ⟨Nat.le_of_ble_eq_true rfl, Nat.le_of_ble_eq_true rfl⟩ ?_
        have := bAt_r ht (k := (M 0 4)) (by omega)
        refine lv_iload_n hx hb dX6_isNamed_49 rfl (lv_at hl 2 rfl) ?_
        refine q_icmp_ne (tgt := 120) hx hb dX6_isNamed_50 (by decide) (by omega) (fun c_11 => ?_) (fun c_11 => ?_)
        · refine q_iconst hx hb dX6_isNamed_120 ?_
          exact W.zret hx hb hr rfl (fun t9 ht9 hW9 => ⟨_, rfl, congrArg zI (bz_f (fun h9 => by unfold m_nm at h9; simp only [Bool.and_eq_true, decide_eq_true_eq] at h9; obtain ⟨a1, a2, a3, a4, a5, a6, a7⟩ := h9; split at a2 <;> omega)).symm, ht9⟩) hS.2.2 dX6_isNamed_121
        · refine lv_aload_n hx hb dX6_isNamed_53 rfl (lv_at hl 1 rfl) ?_
          refine lv_aload_n hx hb dX6_isNamed_54 rfl (lv_at hl 1 rfl) ?_
          refine va_get (D := (dC, dI)) (ci := 5) (v := .int (zI (M 0 4))) (C := RX6) (T := TX6) (N := 15) hx hb hts iX6 hown hK hP 0 rfl rfl 8 (by decide) kf74 (fun _ h9 => h9) rfl dX6_isNamed_55 ?_
          refine q_iconst hx hb dX6_isNamed_58 ?_
          refine q_iadd hx hb dX6_isNamed_59 ?_
          refine q_cVi (z := bAt (M 3) (M 0 0) ((M 0 4) + 1)) (b := (q 0)) (As := [.int (zI ((M 0 4) + 1))]) (rest := []) ⟨hx, hb, hml, hown, hts⟩ (kX6_byteAt l dC dI g tt q M ((M 0 4) + 1) (ht) (by omega)) (cwV 1 hts gX6_isNamed_X6_byteAt rfl rfl rfl (by decide +kernel) ⟨Nat.le_of_ble_eq_true rfl, Nat.le_of_ble_eq_true rfl⟩) hP hK hT hS 0 5 rfl rfl rfl rfl hl.1 rfl (Nat.le_of_ble_eq_true rfl) dX6_isNamed_60 ⟨Nat.le_of_ble_eq_true rfl, Nat.le_of_ble_eq_true rfl⟩ ?_
          have := bAt_r ht (k := ((M 0 4) + 1)) (by omega)
          refine lv_iload_n hx hb dX6_isNamed_63 rfl (lv_at hl 3 rfl) ?_
          refine q_icmp_ne (tgt := 120) hx hb dX6_isNamed_64 (by decide) (by omega) (fun c_12 => ?_) (fun c_12 => ?_)
          · refine q_iconst hx hb dX6_isNamed_120 ?_
            exact W.zret hx hb hr rfl (fun t9 ht9 hW9 => ⟨_, rfl, congrArg zI (bz_f (fun h9 => by unfold m_nm at h9; simp only [Bool.and_eq_true, decide_eq_true_eq] at h9; obtain ⟨a1, a2, a3, a4, a5, a6, a7⟩ := h9; split at a2 <;> omega)).symm, ht9⟩) hS.2.2 dX6_isNamed_121
          · refine lv_aload_n hx hb dX6_isNamed_67 rfl (lv_at hl 1 rfl) ?_
            refine lv_aload_n hx hb dX6_isNamed_68 rfl (lv_at hl 1 rfl) ?_
            refine va_get (D := (dC, dI)) (ci := 5) (v := .int (zI (M 0 4))) (C := RX6) (T := TX6) (N := 15) hx hb hts iX6 hown hK hP 0 rfl rfl 8 (by decide) kf74 (fun _ h9 => h9) rfl dX6_isNamed_69 ?_
            refine q_iconst hx hb dX6_isNamed_72 ?_
            refine q_iadd hx hb dX6_isNamed_73 ?_
            refine q_cVi (z := bAt (M 3) (M 0 0) ((M 0 4) + 2)) (b := (q 0)) (As := [.int (zI ((M 0 4) + 2))]) (rest := []) ⟨hx, hb, hml, hown, hts⟩ (kX6_byteAt l dC dI g tt q M ((M 0 4) + 2) (ht) (by omega)) (cwV 1 hts gX6_isNamed_X6_byteAt rfl rfl rfl (by decide +kernel) ⟨Nat.le_of_ble_eq_true rfl, Nat.le_of_ble_eq_true rfl⟩) hP hK hT hS 0 5 rfl rfl rfl rfl hl.1 rfl (Nat.le_of_ble_eq_true rfl) dX6_isNamed_74 ⟨Nat.le_of_ble_eq_true rfl, Nat.le_of_ble_eq_true rfl⟩ ?_
            have := bAt_r ht (k := ((M 0 4) + 2)) (by omega)
            refine lv_iload_n hx hb dX6_isNamed_77 rfl (lv_at hl 4 rfl) ?_
            refine q_icmp_ne (tgt := 120) hx hb dX6_isNamed_78 (by decide) (by omega) (fun c_13 => ?_) (fun c_13 => ?_)
            · refine q_iconst hx hb dX6_isNamed_120 ?_
              exact W.zret hx hb hr rfl (fun t9 ht9 hW9 => ⟨_, rfl, congrArg zI (bz_f (fun h9 => by unfold m_nm at h9; simp only [Bool.and_eq_true, decide_eq_true_eq] at h9; obtain ⟨a1, a2, a3, a4, a5, a6, a7⟩ := h9; split at a2 <;> omega)).symm, ht9⟩) hS.2.2 dX6_isNamed_121
            · refine lv_aload_n hx hb dX6_isNamed_81 rfl (lv_at hl 1 rfl) ?_
              refine lv_aload_n hx hb dX6_isNamed_82 rfl (lv_at hl 1 rfl) ?_
              refine va_get (D := (dC, dI)) (ci := 5) (v := .int (zI (M 0 4))) (C := RX6) (T := TX6) (N := 15) hx hb hts iX6 hown hK hP 0 rfl rfl 8 (by decide) kf74 (fun _ h9 => h9) rfl dX6_isNamed_83 ?_
              refine q_iconst hx hb dX6_isNamed_86 ?_
              refine q_iadd hx hb dX6_isNamed_87 ?_
              refine q_cVi (z := bAt (M 3) (M 0 0) ((M 0 4) + 3)) (b := (q 0)) (As := [.int (zI ((M 0 4) + 3))]) (rest := []) ⟨hx, hb, hml, hown, hts⟩ (kX6_byteAt l dC dI g tt q M ((M 0 4) + 3) (ht) (by omega)) (cwV 1 hts gX6_isNamed_X6_byteAt rfl rfl rfl (by decide +kernel) ⟨Nat.le_of_ble_eq_true rfl, Nat.le_of_ble_eq_true rfl⟩) hP hK hT hS 0 5 rfl rfl rfl rfl hl.1 rfl (Nat.le_of_ble_eq_true rfl) dX6_isNamed_88 ⟨Nat.le_of_ble_eq_true rfl, Nat.le_of_ble_eq_true rfl⟩ ?_
              have := bAt_r ht (k := ((M 0 4) + 3)) (by omega)
              refine lv_iload hx hb dX6_isNamed_91 (lv_at hl 5 rfl) ?_
              refine q_icmp_ne (tgt := 120) hx hb dX6_isNamed_93 (by decide) (by omega) (fun c_14 => ?_) (fun c_14 => ?_)
              · refine q_iconst hx hb dX6_isNamed_120 ?_
                exact W.zret hx hb hr rfl (fun t9 ht9 hW9 => ⟨_, rfl, congrArg zI (bz_f (fun h9 => by unfold m_nm at h9; simp only [Bool.and_eq_true, decide_eq_true_eq] at h9; obtain ⟨a1, a2, a3, a4, a5, a6, a7⟩ := h9; split at a2 <;> omega)).symm, ht9⟩) hS.2.2 dX6_isNamed_121
              · refine lv_iload hx hb dX6_isNamed_96 (lv_at hl 6 rfl) ?_
                refine q_if_eq (tgt := 116) hx hb dX6_isNamed_98 (by decide) (by omega) (fun c_15 => ?_) (fun c_15 => ?_)
                · refine q_iconst hx hb dX6_isNamed_116 ?_
                  refine lv_goto (tgt := 121) hx hb dX6_isNamed_117 (by decide) ?_
                  exact W.zret hx hb hr rfl (fun t9 ht9 hW9 => ⟨_, rfl, congrArg zI (bz_t (by unfold m_nm; simp only [Bool.and_eq_true, decide_eq_true_eq]; refine ⟨by omega, ?_, by omega, by omega, by omega, by omega, by omega⟩; split <;> omega)).symm, ht9⟩) hS.2.2 dX6_isNamed_121
                · refine lv_aload_n hx hb dX6_isNamed_101 rfl (lv_at hl 1 rfl) ?_
                  refine lv_aload_n hx hb dX6_isNamed_102 rfl (lv_at hl 1 rfl) ?_
                  refine va_get (D := (dC, dI)) (ci := 5) (v := .int (zI (M 0 4))) (C := RX6) (T := TX6) (N := 15) hx hb hts iX6 hown hK hP 0 rfl rfl 8 (by decide) kf74 (fun _ h9 => h9) rfl dX6_isNamed_103 ?_
                  refine q_iconst hx hb dX6_isNamed_106 ?_
                  refine q_iadd hx hb dX6_isNamed_107 ?_
                  refine q_cVi (z := bAt (M 3) (M 0 0) ((M 0 4) + 4)) (b := (q 0)) (As := [.int (zI ((M 0 4) + 4))]) (rest := []) ⟨hx, hb, hml, hown, hts⟩ (kX6_byteAt l dC dI g tt q M ((M 0 4) + 4) (ht) (by omega)) (cwV 1 hts gX6_isNamed_X6_byteAt rfl rfl rfl (by decide +kernel) ⟨Nat.le_of_ble_eq_true rfl, Nat.le_of_ble_eq_true rfl⟩) hP hK hT hS 0 5 rfl rfl rfl rfl hl.1 rfl (Nat.le_of_ble_eq_true rfl) dX6_isNamed_108 ⟨Nat.le_of_ble_eq_true rfl, Nat.le_of_ble_eq_true rfl⟩ ?_
                  have := bAt_r ht (k := ((M 0 4) + 4)) (by omega)
                  refine lv_iload hx hb dX6_isNamed_111 (lv_at hl 6 rfl) ?_
                  refine q_icmp_ne (tgt := 120) hx hb dX6_isNamed_113 (by decide) (by omega) (fun c_16 => ?_) (fun c_16 => ?_)
                  · refine q_iconst hx hb dX6_isNamed_120 ?_
                    exact W.zret hx hb hr rfl (fun t9 ht9 hW9 => ⟨_, rfl, congrArg zI (bz_f (fun h9 => by unfold m_nm at h9; simp only [Bool.and_eq_true, decide_eq_true_eq] at h9; obtain ⟨a1, a2, a3, a4, a5, a6, a7⟩ := h9; split at a2 <;> omega)).symm, ht9⟩) hS.2.2 dX6_isNamed_121
                  · refine q_iconst hx hb dX6_isNamed_116 ?_
                    refine lv_goto (tgt := 121) hx hb dX6_isNamed_117 (by decide) ?_
                    exact W.zret hx hb hr rfl (fun t9 ht9 hW9 => ⟨_, rfl, congrArg zI (bz_t (by unfold m_nm; simp only [Bool.and_eq_true, decide_eq_true_eq]; refine ⟨by omega, ?_, by omega, by omega, by omega, by omega, by omega⟩; split <;> omega)).symm, ht9⟩) hS.2.2 dX6_isNamed_121
set_option maxHeartbeats 4000000 in
set_option maxRecDepth 100000 in
theorem kX6_wordNow (l : Launch) (dC : Nat → ClassId) (dI : Nat → Nat → Nat) (g : Nat → ClassId) (tt : Nat → Nat) (q : Nat → Nat) (M : Nat → Int → Int) (hm : mtok M) : Met l yX6_wordNow wsX6_wordNow ({ frames := 2, cells := 0, slots := 0, locals := 47 }) (va_Pc [.ref (q 0)] (eS (dC, dI) (wTy g) (wMo g q M) tt)) (vp_Si (fun r => r = zI (m_wn M))) 0 0 (fun _ => False) := by
  refine Met.ofW (cc := cX6_wordNow) (maxL := 1) (ret := (some .int)) (by decide) rfl ?_
  intro p e s m args below meth c s₁ B hml hv
  obtain ⟨rfl, hP, hK, hT⟩ := hv
  have hx := B.exec
  have hb := B.bytes
  have hr := B.returns
  have hts := atoms_spec (ws := wsX6_wordNow) B.pre
  have hown : s.vm.findClass RX6 = some m.cls := findClass_of_methodNamed B.named
  have hlocks := B.notSynchronized
  have hS : va_S (fun _ : Nat => False) s.heap s.heap [] := va_S.rf
  have hl := lv_entry ([.ref (q 0)]) (n := 1) (Nat.le_of_ble_eq_true rfl)
  rw [lg_entry_eq]
  generalize (lg_sl ([.ref (q 0)]) ++ List.replicate (1 - (lg_sl ([.ref (q 0)])).length) Slot.unset).toArray = ls at hl ⊢
  have hl : lv_has ls 1 [(0, .ref (q 0))] := hl
  refine lv_aload_n hx hb dX6_wordNow_0 rfl (lv_at hl 0 rfl) ?_
  refine q_bipush hx hb dX6_wordNow_1 rfl ?_
  refine q_bipush hx hb dX6_wordNow_3 rfl ?_
  refine q_bipush hx hb dX6_wordNow_5 rfl ?_
  refine q_bipush hx hb dX6_wordNow_7 rfl ?_
  refine q_bipush hx hb dX6_wordNow_9 rfl ?_
  refine q_cVi (z := bz (m_nm M 104 111 117 115 101 = true)) (b := (q 0)) (As := [.int (zI 104), .int (zI 111), .int (zI 117), .int (zI 115), .int (zI 101)]) (rest := []) ⟨hx, hb, hml, hown, hts⟩ (kX6_isNamed l dC dI g tt q M 104 111 117 115 101 (hm) (by decide)) (cwV 5 hts gX6_wordNow_X6_isNamed rfl rfl rfl (by decide +kernel) ⟨Nat.le_of_ble_eq_true rfl, Nat.le_of_ble_eq_true rfl⟩) hP hK hT hS 0 5 rfl rfl rfl rfl hl.1 rfl (Nat.le_of_ble_eq_true rfl) dX6_wordNow_11 ⟨Nat.le_of_ble_eq_true rfl, Nat.le_of_ble_eq_true rfl⟩ ?_
  refine q_bz_eq (tgt := 19) hx hb dX6_wordNow_14 (by decide) (fun c_1 => ?_) (fun c_1 => ?_)
  · refine lv_aload_n hx hb dX6_wordNow_19 rfl (lv_at hl 0 rfl) ?_
    refine q_bipush hx hb dX6_wordNow_20 rfl ?_
    refine q_bipush hx hb dX6_wordNow_22 rfl ?_
    refine q_bipush hx hb dX6_wordNow_24 rfl ?_
    refine q_bipush hx hb dX6_wordNow_26 rfl ?_
    refine q_iconst hx hb dX6_wordNow_28 ?_
    refine q_cVi (z := bz (m_nm M 108 105 102 116 0 = true)) (b := (q 0)) (As := [.int (zI 108), .int (zI 105), .int (zI 102), .int (zI 116), .int (zI 0)]) (rest := []) ⟨hx, hb, hml, hown, hts⟩ (kX6_isNamed l dC dI g tt q M 108 105 102 116 0 (hm) (by decide)) (cwV 5 hts gX6_wordNow_X6_isNamed rfl rfl rfl (by decide +kernel) ⟨Nat.le_of_ble_eq_true rfl, Nat.le_of_ble_eq_true rfl⟩) hP hK hT hS 0 5 rfl rfl rfl rfl hl.1 rfl (Nat.le_of_ble_eq_true rfl) dX6_wordNow_29 ⟨Nat.le_of_ble_eq_true rfl, Nat.le_of_ble_eq_true rfl⟩ ?_
    refine q_bz_eq (tgt := 39) hx hb dX6_wordNow_32 (by decide) (fun c_2 => ?_) (fun c_2 => ?_)
    · refine lv_aload_n hx hb dX6_wordNow_39 rfl (lv_at hl 0 rfl) ?_
      refine q_bipush hx hb dX6_wordNow_40 rfl ?_
      refine q_bipush hx hb dX6_wordNow_42 rfl ?_
      refine q_bipush hx hb dX6_wordNow_44 rfl ?_
      refine q_bipush hx hb dX6_wordNow_46 rfl ?_
      refine q_iconst hx hb dX6_wordNow_48 ?_
      refine q_cVi (z := bz (m_nm M 108 105 110 101 0 = true)) (b := (q 0)) (As := [.int (zI 108), .int (zI 105), .int (zI 110), .int (zI 101), .int (zI 0)]) (rest := []) ⟨hx, hb, hml, hown, hts⟩ (kX6_isNamed l dC dI g tt q M 108 105 110 101 0 (hm) (by decide)) (cwV 5 hts gX6_wordNow_X6_isNamed rfl rfl rfl (by decide +kernel) ⟨Nat.le_of_ble_eq_true rfl, Nat.le_of_ble_eq_true rfl⟩) hP hK hT hS 0 5 rfl rfl rfl rfl hl.1 rfl (Nat.le_of_ble_eq_true rfl) dX6_wordNow_49 ⟨Nat.le_of_ble_eq_true rfl, Nat.le_of_ble_eq_true rfl⟩ ?_
      refine q_bz_eq (tgt := 59) hx hb dX6_wordNow_52 (by decide) (fun c_3 => ?_) (fun c_3 => ?_)
      · refine q_iconst hx hb dX6_wordNow_59 ?_
        exact W.iret hx hb hr (fun t9 ht9 hW9 => ⟨_, rfl, congrArg zI (show (-1) = m_wn M from by unfold m_wn; (repeat' split) <;> first | rfl | contradiction), ht9⟩) hS.2.2 dX6_wordNow_60
      · refine q_iconst hx hb dX6_wordNow_55 ?_
        refine lv_goto (tgt := 60) hx hb dX6_wordNow_56 (by decide) ?_
        exact W.iret hx hb hr (fun t9 ht9 hW9 => ⟨_, rfl, congrArg zI (show 2 = m_wn M from by unfold m_wn; (repeat' split) <;> first | rfl | contradiction), ht9⟩) hS.2.2 dX6_wordNow_60
    · refine q_iconst hx hb dX6_wordNow_35 ?_
      refine lv_goto (tgt := 60) hx hb dX6_wordNow_36 (by decide) ?_
      exact W.iret hx hb hr (fun t9 ht9 hW9 => ⟨_, rfl, congrArg zI (show 1 = m_wn M from by unfold m_wn; (repeat' split) <;> first | rfl | contradiction), ht9⟩) hS.2.2 dX6_wordNow_60
  · refine q_iconst hx hb dX6_wordNow_17 ?_
    exact W.iret hx hb hr (fun t9 ht9 hW9 => ⟨_, rfl, congrArg zI (show 0 = m_wn M from by unfold m_wn; (repeat' split) <;> first | rfl | contradiction), ht9⟩) hS.2.2 dX6_wordNow_18
set_option maxHeartbeats 4000000 in
set_option maxRecDepth 100000 in
theorem kX6_takes (l : Launch) (dC : Nat → ClassId) (dI : Nat → Nat → Nat) (g : Nat → ClassId) (tt : Nat → Nat) (sz : Nat) (q : Nat → Nat) (M : Nat → Int → Int) (x1 x2 x3 : Int) (hm : mtk M) (h1 : (0 ≤ x1 ∧ x1 ≤ 2) ∧ (0 ≤ x2 ∧ x2 ≤ 127) ∧ (0 ≤ x3 ∧ x3 ≤ 127)) : Met l yX6_takes wsX6_takes ({ frames := 2, cells := 0, slots := 0, locals := 45 }) (va_Pc [.ref (q 0), .int (zI x1), .int (zI x2), .int (zI x3)] (eQ (dC, dI) (wTy g) (wMo g q M) tt sz)) (va_Qi (fun r (_ : Unit) => r = zI (bz (m_tkR M x2 x3 = true))) (fQ (dC, dI) (wTy g) (va_A (wMo g q M) sz) (wMo g q (m_tkM M x1))) (va_A (wMo g q M) sz)) 0 0 (va_A (wMo g q M) sz) := by
  refine Met.ofW (cc := cX6_takes) (maxL := 6) (ret := (some .boolean)) (by decide) rfl ?_
  intro p e s m args below meth c s₁ B hml hv
  obtain ⟨rfl, hsz, hP, hK, hD0, hT⟩ := hv
  have hx := B.exec
  have hb := B.bytes
  have hr := B.returns
  have hts := atoms_spec (ws := wsX6_takes) B.pre
  have hown : s.vm.findClass RX6 = some m.cls := findClass_of_methodNamed B.named
  have hlocks := B.notSynchronized
  subst hsz
  have hD := hD0.self (sz := s.heap.size)
  generalize hAe : va_A (wMo g q M) s.heap.size = A at hD hT ⊢
  have hA : ∀ q : Nat, s.heap.size ≤ q → A q := fun q h => by rw [← hAe]; exact Or.inr h
  have hS : va_S A s.heap s.heap [] := va_S.rf
  have hl := lv_entry ([.ref (q 0), .int (zI x1), .int (zI x2), .int (zI x3)]) (n := 6) (Nat.le_of_ble_eq_true rfl)
  rw [lg_entry_eq]
  generalize (lg_sl ([.ref (q 0), .int (zI x1), .int (zI x2), .int (zI x3)]) ++ List.replicate (6 - (lg_sl ([.ref (q 0), .int (zI x1), .int (zI x2), .int (zI x3)])).length) Slot.unset).toArray = ls at hl ⊢
  have hl : lv_has ls 6 [(0, .ref (q 0)), (1, .int (zI x1)), (2, .int (zI x2)), (3, .int (zI x3))] := hl
  have kf27 := hts (.fieldLink RX6 27 "WrongWayModel" "numbers" "[I") (by decide +kernel)
  have kf67 := hts (.fieldLink RX6 67 "WrongWayModel" "at" "I") (by decide +kernel)
  have kf74 := hts (.fieldLink RX6 74 "WrongWayModel" "start" "I") (by decide +kernel)
  have kf89 := hts (.fieldLink RX6 89 "WrongWayModel" "isFigures" "Z") (by decide +kernel)
  have iX6 := (fun w h => List.mem_cons_of_mem _ (List.mem_append_right _ h) : ∀ w ∈ u_ws RX6 TX6 15, w ∈ wsX6_takes)
  have hmt := mtok_next hm
  have ht := hm.1
  have hL := ht.1
  have h3 : 0 ≤ m_tok M 0 3 ∧ m_tok M 0 3 ≤ M 0 0 := hmt.1.2
  have h4 := hmt.2.1
  have h5 := hmt.2.2
  refine lv_aload_n hx hb dX6_takes_0 rfl (lv_at hl 0 rfl) ?_
  refine q_cEv (b := (q 0)) (As := []) (rest := []) (w1 := wMo g q (m_tok M)) ⟨hx, hb, hml, hown, hts⟩ hP hD hK hT hS hA (kX6_token l dC dI g tt _ q M (hm)) (cwV 0 hts gX6_takes_X6_token rfl rfl rfl (by decide +kernel) ⟨Nat.le_of_ble_eq_true rfl, Nat.le_of_ble_eq_true rfl⟩) 0 5 rfl rfl rfl rfl hl.1 rfl (Nat.le_of_ble_eq_true rfl) dX6_takes_1 ⟨Nat.le_of_ble_eq_true rfl, Nat.le_of_ble_eq_true rfl⟩ (fun H locs hP hD hS => ?_)
  refine lv_aload_n hx hb dX6_takes_4 rfl (lv_at hl 0 rfl) ?_
  refine va_get (D := (dC, dI)) (ci := 5) (v := .int (zI ((m_tok M) 0 6))) (C := RX6) (T := TX6) (N := 15) hx hb hts iX6 hown hK hP 0 rfl rfl 10 (by decide) kf89 (fun _ h9 => h9) rfl dX6_takes_5 ?_
  refine q_if_eq (tgt := 24) hx hb dX6_takes_8 (by decide) (by omega) (fun c_1 => ?_) (fun c_1 => ?_)
  · refine q_iconst hx hb dX6_takes_24 ?_
    have hPf : va_P (dC, dI) vwCl (wMo g q (m_tkM M x1)) H := by rw [(show (m_tkM M x1) = m_tok M from by unfold m_tkM; first | (rw [if_neg (by omega)]; done) | (rw [if_pos (by omega), ← hvl]; done))]; exact hP
    have hDf : va_D A (wMo g q (m_tkM M x1)) := by rw [(show (m_tkM M x1) = m_tok M from by unfold m_tkM; first | (rw [if_neg (by omega)]; done) | (rw [if_pos (by omega), ← hvl]; done))]; exact hD
    exact W.zret hx hb hr rfl (fun t9 ht9 hW9 => ⟨⟨_, (), rfl, congrArg zI (bz_f (fun h9 => by unfold m_tkR at h9; simp only [Bool.and_eq_true, decide_eq_true_eq] at h9; omega)).symm, by rw [ht9]; exact hPf, va_K.moved hW9.alike hK, hDf⟩, hS.F ht9⟩) hS.2.2 dX6_takes_25
  · refine lv_aload_n hx hb dX6_takes_11 rfl (lv_at hl 0 rfl) ?_
    refine va_get (D := (dC, dI)) (ci := 5) (v := .int (zI ((m_tok M) 0 3))) (C := RX6) (T := TX6) (N := 15) hx hb hts iX6 hown hK hP 0 rfl rfl 7 (by decide) kf67 (fun _ h9 => h9) rfl dX6_takes_12 ?_
    refine lv_aload_n hx hb dX6_takes_15 rfl (lv_at hl 0 rfl) ?_
    refine va_get (D := (dC, dI)) (ci := 5) (v := .int (zI ((m_tok M) 0 4))) (C := RX6) (T := TX6) (N := 15) hx hb hts iX6 hown hK hP 0 rfl rfl 8 (by decide) kf74 (fun _ h9 => h9) rfl dX6_takes_16 ?_
    refine q_isub hx hb dX6_takes_19 ?_
    refine q_iconst hx hb dX6_takes_20 ?_
    refine q_icmp_le (tgt := 26) hx hb dX6_takes_21 (by decide) (by omega) (fun c_2 => ?_) (fun c_2 => ?_)
    · refine q_iconst hx hb dX6_takes_26 ?_
      refine lv_istore (lv' := [(4, .int (zI 0)), (0, .ref (q 0)), (1, .int (zI x1)), (2, .int (zI x2)), (3, .int (zI x3))]) hx hb dX6_takes_27 hl (by decide) rfl (fun ls hl => ?_)
      refine lv_aload_n hx hb dX6_takes_29 rfl (lv_at hl 1 rfl) ?_
      refine va_get (D := (dC, dI)) (ci := 5) (v := .int (zI ((m_tok M) 0 4))) (C := RX6) (T := TX6) (N := 15) hx hb hts iX6 hown hK hP 0 rfl rfl 8 (by decide) kf74 (fun _ h9 => h9) rfl dX6_takes_30 ?_
      refine lv_istore (lv' := [(5, .int (zI ((m_tok M) 0 4))), (4, .int (zI 0)), (0, .ref (q 0)), (1, .int (zI x1)), (2, .int (zI x2)), (3, .int (zI x3))]) hx hb dX6_takes_33 hl (by decide) rfl (fun ls hl => ?_)
      refine w_loopP (σ := Int × Int) (fun a9 ls => (m_tok M 0 4 ≤ a9.1 ∧ a9.1 ≤ m_tok M 0 3) ∧ (a9.2 = itR (m_vlF (M 3) (M 0 0) (m_tok M 0 4)) 0 (a9.1 - m_tok M 0 4)) ∧ ((a9.1 = m_tok M 0 4 ∧ a9.2 = 0) ∨ (a9.1 = m_tok M 0 4 + 1 ∧ -49 ≤ a9.2 ∧ a9.2 ≤ 79) ∨ (a9.1 = m_tok M 0 4 + 2 ∧ -539 ≤ a9.2 ∧ a9.2 ≤ 869)) ∧ lv_has ls 6 [(0, .ref (q 0)), (1, .int (zI x1)), (2, .int (zI x2)), (3, .int (zI x3)), (4, .int (zI a9.2)), (5, .int (zI a9.1))]) (fun a9 => (m_tok M 0 3 - a9.1).toNat) ?_ ((m_tok M) 0 4, 0) ?_
      · rintro ⟨j, v⟩ ls ⟨hj, hv, hvb, hl⟩ ih35
        have hj : m_tok M 0 4 ≤ j ∧ j ≤ m_tok M 0 3 := hj
        have hv : v = itR (m_vlF (M 3) (M 0 0) (m_tok M 0 4)) 0 (j - m_tok M 0 4) := hv
        have hvb : (j = m_tok M 0 4 ∧ v = 0) ∨ (j = m_tok M 0 4 + 1 ∧ -49 ≤ v ∧ v ≤ 79) ∨ (j = m_tok M 0 4 + 2 ∧ -539 ≤ v ∧ v ≤ 869) := hvb
        have hl : lv_has ls 6 [(0, .ref (q 0)), (1, .int (zI x1)), (2, .int (zI x2)), (3, .int (zI x3)), (4, .int (zI v)), (5, .int (zI j))] := hl
        refine lv_iload hx hb dX6_takes_35 (lv_at hl 5 rfl) ?_
        refine lv_aload_n hx hb dX6_takes_37 rfl (lv_at hl 0 rfl) ?_
        refine va_get (D := (dC, dI)) (ci := 5) (v := .int (zI ((m_tok M) 0 3))) (C := RX6) (T := TX6) (N := 15) hx hb hts iX6 hown hK hP 0 rfl rfl 7 (by decide) kf67 (fun _ h9 => h9) rfl dX6_takes_38 ?_
        refine q_icmp_ge (tgt := 67) hx hb dX6_takes_41 (by decide) (by omega) (fun c_3 => ?_) (fun c_3 => ?_)
        · have ej : j = m_tok M 0 3 := by omega
          have hvl : v = m_vl (M 3) (M 0 0) (m_tok M 0 4) (m_tok M 0 3) := by unfold m_vl; rw [hv, ej]
          refine lv_aload_n hx hb dX6_takes_67 rfl (lv_at hl 0 rfl) ?_
          refine va_get (D := (dC, dI)) (ci := 5) (v := .ref (q 5)) (C := RX6) (T := TX6) (N := 15) hx hb hts iX6 hown hK hP 0 rfl rfl 11 (by decide) kf27 (fun _ h9 => h9) rfl dX6_takes_68 ?_
          refine lv_iload_n hx hb dX6_takes_71 rfl (lv_at hl 1 rfl) ?_
          refine lv_iload hx hb dX6_takes_72 (lv_at hl 4 rfl) ?_
          refine q_iast (F := fun k9 => (m_tok M) 5 k9) (v := v) hx hb hK hP hD hS 5 0 rfl rfl (by decide) (by omega) dX6_takes_74 (fun H locs hP hD hS => ?_)
          have hP : va_P (dC, dI) vwCl (wMo g q (mset (m_tok M) 5 x1 v)) H := hP
          have hD : va_D A (wMo g q (mset (m_tok M) 5 x1 v)) := hD
          refine lv_iload hx hb dX6_takes_75 (lv_at hl 4 rfl) ?_
          refine q_i2l hx hb dX6_takes_77 (by omega) ?_
          refine lv_iload_n hx hb dX6_takes_78 rfl (lv_at hl 2 rfl) ?_
          refine q_i2l hx hb dX6_takes_79 (by omega) ?_
          refine lv_iload_n hx hb dX6_takes_80 rfl (lv_at hl 3 rfl) ?_
          refine q_i2l hx hb dX6_takes_81 (by omega) ?_
          refine q_cSi (z := bz (x2 ≤ v ∧ v ≤ x3)) (As := [.long (zL v), .long (zL x2), .long (zL x3)]) (rest := []) ⟨hx, hb, hml, hown, hts⟩ (kX6_in l dC dI g tt v x2 x3 (by omega)) (va_cwS 3 hts gX6_takes_X6_in rfl rfl rfl (by decide +kernel) ⟨Nat.le_of_ble_eq_true rfl, Nat.le_of_ble_eq_true rfl⟩) (hP.sub (ws' := []) [] rfl) hK hT hS rfl hl.1 rfl (Nat.le_of_ble_eq_true rfl) dX6_takes_82 ⟨Nat.le_of_ble_eq_true rfl, Nat.le_of_ble_eq_true rfl⟩ ?_
          have hPf : va_P (dC, dI) vwCl (wMo g q (m_tkM M x1)) H := by rw [(show (m_tkM M x1) = mset (m_tok M) 5 x1 v from by unfold m_tkM; first | (rw [if_neg (by omega)]; done) | (rw [if_pos (by omega), ← hvl]; done))]; exact hP
          have hDf : va_D A (wMo g q (m_tkM M x1)) := by rw [(show (m_tkM M x1) = mset (m_tok M) 5 x1 v from by unfold m_tkM; first | (rw [if_neg (by omega)]; done) | (rw [if_pos (by omega), ← hvl]; done))]; exact hD
          exact W.zret hx hb hr bz_nar (fun t9 ht9 hW9 => ⟨⟨_, (), rfl, congrArg zI (bz_c (by unfold m_tkR; simp only [Bool.and_eq_true, decide_eq_true_eq]; rw [← hvl]; constructor; (intro h9; exact ⟨by omega, by omega, h9⟩); (intro h9; exact h9.2.2))), by rw [ht9]; exact hPf, va_K.moved hW9.alike hK, hDf⟩, hS.F ht9⟩) hS.2.2 dX6_takes_85
        · refine q_bipush hx hb dX6_takes_44 rfl ?_
          refine lv_iload hx hb dX6_takes_46 (lv_at hl 4 rfl) ?_
          refine q_imul hx hb dX6_takes_48 ?_
          refine lv_aload_n hx hb dX6_takes_49 rfl (lv_at hl 0 rfl) ?_
          refine lv_iload hx hb dX6_takes_50 (lv_at hl 5 rfl) ?_
          refine q_cVi (z := bAt ((m_tok M) 3) ((m_tok M) 0 0) j) (b := (q 0)) (As := [.int (zI j)]) (rest := [.int (zI (10 * v))]) ⟨hx, hb, hml, hown, hts⟩ (kX6_byteAt l dC dI g tt q (m_tok M) j (ht) (show 0 ≤ j ∧ j ≤ 1000 from by omega)) (cwV 1 hts gX6_takes_X6_byteAt rfl rfl rfl (by decide +kernel) ⟨Nat.le_of_ble_eq_true rfl, Nat.le_of_ble_eq_true rfl⟩) hP hK hT hS 0 5 rfl rfl rfl rfl hl.1 rfl (Nat.le_of_ble_eq_true rfl) dX6_takes_52 ⟨Nat.le_of_ble_eq_true rfl, Nat.le_of_ble_eq_true rfl⟩ ?_
          have := bAt_r ht (k := j) (by omega)
          have hbj := bAt_r ht (k := j) (by omega)
          rw [show bAt ((m_tok M) 3) ((m_tok M) 0 0) j = bAt (M 3) (M 0 0) j from rfl]
          refine q_iadd hx hb dX6_takes_55 ?_
          refine q_bipush hx hb dX6_takes_56 rfl ?_
          refine q_isub hx hb dX6_takes_58 ?_
          refine lv_istore (lv' := [(4, .int (zI (((10 * v) + (bAt (M 3) (M 0 0) j)) - 48))), (0, .ref (q 0)), (1, .int (zI x1)), (2, .int (zI x2)), (3, .int (zI x3)), (5, .int (zI j))]) hx hb dX6_takes_59 hl (by decide) rfl (fun ls hl => ?_)
          refine lv_iinc (v := zI (j + 1)) (lv' := [(5, .int (zI (j + 1))), (4, .int (zI (((10 * v) + (bAt (M 3) (M 0 0) j)) - 48))), (0, .ref (q 0)), (1, .int (zI x1)), (2, .int (zI x2)), (3, .int (zI x3))]) hx hb dX6_takes_61 hl (k := 5) rfl (zI_add _ _) (by decide) rfl (fun ls hl => ?_)
          refine lv_goto (tgt := 35) hx hb dX6_takes_64 (by decide) ?_
          exact ih35 (j + 1, ((10 * v) + (bAt (M 3) (M 0 0) j)) - 48) ls ⟨(show m_tok M 0 4 ≤ (j + 1) ∧ (j + 1) ≤ m_tok M 0 3 from by omega), (show (((10 * v) + (bAt (M 3) (M 0 0) j)) - 48) = itR (m_vlF (M 3) (M 0 0) (m_tok M 0 4)) 0 ((j + 1) - m_tok M 0 4) from by rw [show j + 1 - m_tok M 0 4 = (j - m_tok M 0 4) + 1 by omega, itR_s (by omega), ← hv]; unfold m_vlF; rw [show m_tok M 0 4 + (j - m_tok M 0 4) = j by omega]), (show ((j + 1) = m_tok M 0 4 ∧ (((10 * v) + (bAt (M 3) (M 0 0) j)) - 48) = 0) ∨ ((j + 1) = m_tok M 0 4 + 1 ∧ -49 ≤ (((10 * v) + (bAt (M 3) (M 0 0) j)) - 48) ∧ (((10 * v) + (bAt (M 3) (M 0 0) j)) - 48) ≤ 79) ∨ ((j + 1) = m_tok M 0 4 + 2 ∧ -539 ≤ (((10 * v) + (bAt (M 3) (M 0 0) j)) - 48) ∧ (((10 * v) + (bAt (M 3) (M 0 0) j)) - 48) ≤ 869) from by omega), lv_sub hl [2, 3, 4, 5, 1, 0] rfl⟩ (by show (m_tok M 0 3 - (j + 1)).toNat < (m_tok M 0 3 - j).toNat; omega)
      · exact ⟨(show m_tok M 0 4 ≤ ((m_tok M) 0 4) ∧ ((m_tok M) 0 4) ≤ m_tok M 0 3 from by omega), (show 0 = itR (m_vlF (M 3) (M 0 0) (m_tok M 0 4)) 0 (((m_tok M) 0 4) - m_tok M 0 4) from by rw [Int.sub_self]; rfl), (show (((m_tok M) 0 4) = m_tok M 0 4 ∧ 0 = 0) ∨ (((m_tok M) 0 4) = m_tok M 0 4 + 1 ∧ -49 ≤ 0 ∧ 0 ≤ 79) ∨ (((m_tok M) 0 4) = m_tok M 0 4 + 2 ∧ -539 ≤ 0 ∧ 0 ≤ 869) from by omega), lv_sub hl [2, 3, 4, 5, 1, 0] rfl⟩
    · refine q_iconst hx hb dX6_takes_24 ?_
      have hPf : va_P (dC, dI) vwCl (wMo g q (m_tkM M x1)) H := by rw [(show (m_tkM M x1) = m_tok M from by unfold m_tkM; first | (rw [if_neg (by omega)]; done) | (rw [if_pos (by omega), ← hvl]; done))]; exact hP
      have hDf : va_D A (wMo g q (m_tkM M x1)) := by rw [(show (m_tkM M x1) = m_tok M from by unfold m_tkM; first | (rw [if_neg (by omega)]; done) | (rw [if_pos (by omega), ← hvl]; done))]; exact hD
      exact W.zret hx hb hr rfl (fun t9 ht9 hW9 => ⟨⟨_, (), rfl, congrArg zI (bz_f (fun h9 => by unfold m_tkR at h9; simp only [Bool.and_eq_true, decide_eq_true_eq] at h9; omega)).symm, by rw [ht9]; exact hPf, va_K.moved hW9.alike hK, hDf⟩, hS.F ht9⟩) hS.2.2 dX6_takes_25
