set_option maxHeartbeats 4000000 in
set_option maxRecDepth 100000 in
theorem kX6_porters (l : Launch) (dC : Nat → ClassId) (dI : Nat → Nat → Nat) (g : Nat → ClassId) (tt : Nat → Nat) (sz : Nat) (q : Nat → Nat) (M : Nat → Int → Int) (x1 x2 x3 x4 : Int) (hw : hok (M 1)) (h1 : rI x1 ∧ rI x2 ∧ rI x3 ∧ rI x4) : Met l yX6_porters wsX6_porters ({ frames := 6, cells := 0, slots := 0, locals := 142 }) (va_Pc [.ref (q 0), .int (zI x1), .int (zI x2), .int (zI x3), .int (zI x4)] (eQ (dC, dI) (wTy g) (wMo g q M) tt sz)) (va_Qi (fun r (_ : Unit) => r = zI (ca_po (M 1) x1 x2 x3 x4)) (fQ (dC, dI) (wTy g) (va_A (wMo g q M) sz) (wMo g q (m_po M x1 x2 x3 x4))) (va_A (wMo g q M) sz)) 0 0 (va_A (wMo g q M) sz) := by
  refine Met.ofW (cc := cX6_porters) (maxL := 10) (ret := (some .int)) (by decide) rfl ?_
  intro p e s m args below meth c s₁ B hml hv
  obtain ⟨rfl, hsz, hP, hK, hD0, hT⟩ := hv
  have hx := B.exec
  have hb := B.bytes
  have hr := B.returns
  have hts := atoms_spec (ws := wsX6_porters) B.pre
  have hown : s.vm.findClass RX6 = some m.cls := findClass_of_methodNamed B.named
  have hlocks := B.notSynchronized
  subst hsz
  have hD := hD0.self (sz := s.heap.size)
  generalize hAe : va_A (wMo g q M) s.heap.size = A at hD hT ⊢
  have hA : ∀ q : Nat, s.heap.size ≤ q → A q := fun q h => by rw [← hAe]; exact Or.inr h
  have hS : va_S A s.heap s.heap [] := va_S.rf
  have hl := lv_entry ([.ref (q 0), .int (zI x1), .int (zI x2), .int (zI x3), .int (zI x4)]) (n := 10) (Nat.le_of_ble_eq_true rfl)
  rw [lg_entry_eq]
  generalize (lg_sl ([.ref (q 0), .int (zI x1), .int (zI x2), .int (zI x3), .int (zI x4)]) ++ List.replicate (10 - (lg_sl ([.ref (q 0), .int (zI x1), .int (zI x2), .int (zI x3), .int (zI x4)])).length) Slot.unset).toArray = ls at hl ⊢
  have hl : lv_has ls 10 [(0, .ref (q 0)), (1, .int (zI x1)), (2, .int (zI x2)), (3, .int (zI x3)), (4, .int (zI x4))] := hl
  have kc202 := hts (.constantLong RX6 202 (200)) (by decide +kernel)
  have kc204 := hts (.constantLong RX6 204 (10)) (by decide +kernel)
  have kf164 := hts (.fieldLink RX6 164 "WrongWayModel" "coming" "I") (by decide +kernel)
  have kf7 := hts (.fieldLink RX6 7 "WrongWayModel" "w" "[I") (by decide +kernel)
  have iX6 := (fun w h => List.mem_cons_of_mem _ (List.mem_append_right _ h) : ∀ w ∈ u_ws RX6 TX6 15, w ∈ wsX6_porters)
  have hb0 := hw.b
  refine lv_aload_n hx hb dX6_porters_0 rfl (lv_at hl 0 rfl) ?_
  refine lv_iload_n hx hb dX6_porters_1 rfl (lv_at hl 1 rfl) ?_
  refine q_cVi (z := bz (0 ≤ x1 ∧ x1 ≤ M 1 1)) (b := (q 0)) (As := [.int (zI x1)]) (rest := []) ⟨hx, hb, hml, hown, hts⟩ (kX6_isFloor l dC dI g tt q M x1 (hw) (by omega)) (cwV 1 hts gX6_porters_X6_isFloor rfl rfl rfl (by decide +kernel) ⟨Nat.le_of_ble_eq_true rfl, Nat.le_of_ble_eq_true rfl⟩) hP hK hT hS 0 5 rfl rfl rfl rfl hl.1 rfl (Nat.le_of_ble_eq_true rfl) dX6_porters_2 ⟨Nat.le_of_ble_eq_true rfl, Nat.le_of_ble_eq_true rfl⟩ ?_
  refine q_bz_eq (tgt := 40) hx hb dX6_porters_5 (by decide) (fun c_1 => ?_) (fun c_1 => ?_)
  · refine lv_aload_n hx hb dX6_porters_40 rfl (lv_at hl 0 rfl) ?_
    refine q_cEi (z := -2) (b := (q 0)) (As := []) (rest := []) (w1 := wMo g q (mbad M)) ⟨hx, hb, hml, hown, hts⟩ hP hD hK hT hS hA (kX6_bad l dC dI g tt _ q M) (cwV 0 hts gX6_porters_X6_bad rfl rfl rfl (by decide +kernel) ⟨Nat.le_of_ble_eq_true rfl, Nat.le_of_ble_eq_true rfl⟩) 0 5 rfl rfl rfl rfl hl.1 rfl (Nat.le_of_ble_eq_true rfl) dX6_porters_41 ⟨Nat.le_of_ble_eq_true rfl, Nat.le_of_ble_eq_true rfl⟩ (fun H locs hP hD hS => ?_)
    have hPf : va_P (dC, dI) vwCl (wMo g q (m_po M x1 x2 x3 x4)) H := by rw [(show (m_po M x1 x2 x3 x4) = mbad M from by unfold m_po; first | (rw [if_neg (by omega)]; done) | (rw [if_pos (by omega), ← eB, ← ht, ← hal]; done))]; exact hP
    have hDf : va_D A (wMo g q (m_po M x1 x2 x3 x4)) := by rw [(show (m_po M x1 x2 x3 x4) = mbad M from by unfold m_po; first | (rw [if_neg (by omega)]; done) | (rw [if_pos (by omega), ← eB, ← ht, ← hal]; done))]; exact hD
    exact W.iret hx hb hr (fun t9 ht9 hW9 => ⟨⟨_, (), rfl, congrArg zI (show -2 = ca_po (M 1) x1 x2 x3 x4 from by unfold ca_po; first | (rw [if_neg (by omega)]; done) | (rw [if_pos (by omega)]; done)), by rw [ht9]; exact hPf, va_K.moved hW9.alike hK, hDf⟩, hS.F ht9⟩) hS.2.2 dX6_porters_44
  · refine lv_iload_n hx hb dX6_porters_8 rfl (lv_at hl 2 rfl) ?_
    refine q_cSi (z := bz (0 ≤ x2 ∧ x2 ≤ 999)) (As := [.int (zI x2)]) (rest := []) ⟨hx, hb, hml, hown, hts⟩ (kX6_isMinute l dC dI g tt x2 (by omega)) (va_cwS 1 hts gX6_porters_X6_isMinute rfl rfl rfl (by decide +kernel) ⟨Nat.le_of_ble_eq_true rfl, Nat.le_of_ble_eq_true rfl⟩) (hP.sub (ws' := []) [] rfl) hK hT hS rfl hl.1 rfl (Nat.le_of_ble_eq_true rfl) dX6_porters_9 ⟨Nat.le_of_ble_eq_true rfl, Nat.le_of_ble_eq_true rfl⟩ ?_
    refine q_bz_eq (tgt := 40) hx hb dX6_porters_12 (by decide) (fun c_2 => ?_) (fun c_2 => ?_)
    · refine lv_aload_n hx hb dX6_porters_40 rfl (lv_at hl 0 rfl) ?_
      refine q_cEi (z := -2) (b := (q 0)) (As := []) (rest := []) (w1 := wMo g q (mbad M)) ⟨hx, hb, hml, hown, hts⟩ hP hD hK hT hS hA (kX6_bad l dC dI g tt _ q M) (cwV 0 hts gX6_porters_X6_bad rfl rfl rfl (by decide +kernel) ⟨Nat.le_of_ble_eq_true rfl, Nat.le_of_ble_eq_true rfl⟩) 0 5 rfl rfl rfl rfl hl.1 rfl (Nat.le_of_ble_eq_true rfl) dX6_porters_41 ⟨Nat.le_of_ble_eq_true rfl, Nat.le_of_ble_eq_true rfl⟩ (fun H locs hP hD hS => ?_)
      have hPf : va_P (dC, dI) vwCl (wMo g q (m_po M x1 x2 x3 x4)) H := by rw [(show (m_po M x1 x2 x3 x4) = mbad M from by unfold m_po; first | (rw [if_neg (by omega)]; done) | (rw [if_pos (by omega), ← eB, ← ht, ← hal]; done))]; exact hP
      have hDf : va_D A (wMo g q (m_po M x1 x2 x3 x4)) := by rw [(show (m_po M x1 x2 x3 x4) = mbad M from by unfold m_po; first | (rw [if_neg (by omega)]; done) | (rw [if_pos (by omega), ← eB, ← ht, ← hal]; done))]; exact hD
      exact W.iret hx hb hr (fun t9 ht9 hW9 => ⟨⟨_, (), rfl, congrArg zI (show -2 = ca_po (M 1) x1 x2 x3 x4 from by unfold ca_po; first | (rw [if_neg (by omega)]; done) | (rw [if_pos (by omega)]; done)), by rw [ht9]; exact hPf, va_K.moved hW9.alike hK, hDf⟩, hS.F ht9⟩) hS.2.2 dX6_porters_44
    · refine lv_iload_n hx hb dX6_porters_15 rfl (lv_at hl 3 rfl) ?_
      refine q_i2l hx hb dX6_porters_16 (by omega) ?_
      refine q_lconst hx hb 0 dX6_porters_17 rfl ?_
      refine q_ldc2 hx hb 200 hown kc202 (by decide) dX6_porters_18 ?_
      refine q_cSi (z := bz (0 ≤ x3 ∧ x3 ≤ 200)) (As := [.long (zL x3), .long (zL 0), .long (zL 200)]) (rest := []) ⟨hx, hb, hml, hown, hts⟩ (kX6_in l dC dI g tt x3 0 200 (by omega)) (va_cwS 3 hts gX6_porters_X6_in rfl rfl rfl (by decide +kernel) ⟨Nat.le_of_ble_eq_true rfl, Nat.le_of_ble_eq_true rfl⟩) (hP.sub (ws' := []) [] rfl) hK hT hS rfl hl.1 rfl (Nat.le_of_ble_eq_true rfl) dX6_porters_21 ⟨Nat.le_of_ble_eq_true rfl, Nat.le_of_ble_eq_true rfl⟩ ?_
      refine q_bz_eq (tgt := 40) hx hb dX6_porters_24 (by decide) (fun c_3 => ?_) (fun c_3 => ?_)
      · refine lv_aload_n hx hb dX6_porters_40 rfl (lv_at hl 0 rfl) ?_
        refine q_cEi (z := -2) (b := (q 0)) (As := []) (rest := []) (w1 := wMo g q (mbad M)) ⟨hx, hb, hml, hown, hts⟩ hP hD hK hT hS hA (kX6_bad l dC dI g tt _ q M) (cwV 0 hts gX6_porters_X6_bad rfl rfl rfl (by decide +kernel) ⟨Nat.le_of_ble_eq_true rfl, Nat.le_of_ble_eq_true rfl⟩) 0 5 rfl rfl rfl rfl hl.1 rfl (Nat.le_of_ble_eq_true rfl) dX6_porters_41 ⟨Nat.le_of_ble_eq_true rfl, Nat.le_of_ble_eq_true rfl⟩ (fun H locs hP hD hS => ?_)
        have hPf : va_P (dC, dI) vwCl (wMo g q (m_po M x1 x2 x3 x4)) H := by rw [(show (m_po M x1 x2 x3 x4) = mbad M from by unfold m_po; first | (rw [if_neg (by omega)]; done) | (rw [if_pos (by omega), ← eB, ← ht, ← hal]; done))]; exact hP
        have hDf : va_D A (wMo g q (m_po M x1 x2 x3 x4)) := by rw [(show (m_po M x1 x2 x3 x4) = mbad M from by unfold m_po; first | (rw [if_neg (by omega)]; done) | (rw [if_pos (by omega), ← eB, ← ht, ← hal]; done))]; exact hD
        exact W.iret hx hb hr (fun t9 ht9 hW9 => ⟨⟨_, (), rfl, congrArg zI (show -2 = ca_po (M 1) x1 x2 x3 x4 from by unfold ca_po; first | (rw [if_neg (by omega)]; done) | (rw [if_pos (by omega)]; done)), by rw [ht9]; exact hPf, va_K.moved hW9.alike hK, hDf⟩, hS.F ht9⟩) hS.2.2 dX6_porters_44
      · refine lv_iload hx hb dX6_porters_27 (lv_at hl 4 rfl) ?_
        refine q_i2l hx hb dX6_porters_29 (by omega) ?_
        refine q_lconst hx hb 0 dX6_porters_30 rfl ?_
        refine q_ldc2 hx hb 10 hown kc204 (by decide) dX6_porters_31 ?_
        refine q_cSi (z := bz (0 ≤ x4 ∧ x4 ≤ 10)) (As := [.long (zL x4), .long (zL 0), .long (zL 10)]) (rest := []) ⟨hx, hb, hml, hown, hts⟩ (kX6_in l dC dI g tt x4 0 10 (by omega)) (va_cwS 3 hts gX6_porters_X6_in rfl rfl rfl (by decide +kernel) ⟨Nat.le_of_ble_eq_true rfl, Nat.le_of_ble_eq_true rfl⟩) (hP.sub (ws' := []) [] rfl) hK hT hS rfl hl.1 rfl (Nat.le_of_ble_eq_true rfl) dX6_porters_34 ⟨Nat.le_of_ble_eq_true rfl, Nat.le_of_ble_eq_true rfl⟩ ?_
        refine q_bz_ne (tgt := 45) hx hb dX6_porters_37 (by decide) (fun c_4 => ?_) (fun c_4 => ?_)
        · have h2n := p2_b (n := M 1 0) (by omega)
          refine q_iconst hx hb dX6_porters_45 ?_
          refine lv_istore (lv' := [(5, .int (zI 0)), (0, .ref (q 0)), (1, .int (zI x1)), (2, .int (zI x2)), (3, .int (zI x3)), (4, .int (zI x4))]) hx hb dX6_porters_46 hl (by decide) rfl (fun ls hl => ?_)
          refine q_iconst hx hb dX6_porters_48 ?_
          refine lv_istore (lv' := [(6, .int (zI 1)), (5, .int (zI 0)), (0, .ref (q 0)), (1, .int (zI x1)), (2, .int (zI x2)), (3, .int (zI x3)), (4, .int (zI x4))]) hx hb dX6_porters_49 hl (by decide) rfl (fun ls hl => ?_)
          refine q_iconst hx hb dX6_porters_51 ?_
          refine lv_istore (lv' := [(7, .int (zI 0)), (6, .int (zI 1)), (5, .int (zI 0)), (0, .ref (q 0)), (1, .int (zI x1)), (2, .int (zI x2)), (3, .int (zI x3)), (4, .int (zI x4))]) hx hb dX6_porters_52 hl (by decide) rfl (fun ls hl => ?_)
          refine w_loopP (σ := Int × Int) (fun a9 ls => (0 ≤ a9.1 ∧ a9.1 ≤ M 1 0) ∧ (a9.2 = pw10 a9.1) ∧ lv_has ls 10 [(0, .ref (q 0)), (1, .int (zI x1)), (2, .int (zI x2)), (3, .int (zI x3)), (4, .int (zI x4)), (5, .int (zI 0)), (6, .int (zI a9.2)), (7, .int (zI a9.1))]) (fun a9 => (M 1 0 - a9.1).toNat) ?_ (0, 1) ?_
          · rintro ⟨i, al⟩ ls ⟨hi, ha, hl⟩ ih54
            have hi : 0 ≤ i ∧ i ≤ M 1 0 := hi
            have ha : al = pw10 i := ha
            have hl : lv_has ls 10 [(0, .ref (q 0)), (1, .int (zI x1)), (2, .int (zI x2)), (3, .int (zI x3)), (4, .int (zI x4)), (5, .int (zI 0)), (6, .int (zI al)), (7, .int (zI i))] := hl
            refine lv_iload hx hb dX6_porters_54 (lv_at hl 7 rfl) ?_
            refine lv_aload_n hx hb dX6_porters_56 rfl (lv_at hl 0 rfl) ?_
            refine va_get (D := (dC, dI)) (ci := 5) (v := .ref (q 1)) (C := RX6) (T := TX6) (N := 15) hx hb hts iX6 hown hK hP 0 rfl rfl 0 (by decide) kf7 (fun _ h9 => h9) rfl dX6_porters_57 ?_
            refine q_iconst hx hb dX6_porters_60 ?_
            refine q_iald (F := fun k9 => M 1 k9) (v := M 1 0) hx hb hK hP 1 0 rfl rfl (by decide) (by omega) (rfl) dX6_porters_61 ?_
            refine q_icmp_ge (tgt := 78) hx hb dX6_porters_62 (by decide) (by omega) (fun c_5 => ?_) (fun c_5 => ?_)
            · refine q_iconst hx hb dX6_porters_78 ?_
              refine lv_istore (lv' := [(7, .int (zI 0)), (0, .ref (q 0)), (1, .int (zI x1)), (2, .int (zI x2)), (3, .int (zI x3)), (4, .int (zI x4)), (5, .int (zI 0)), (6, .int (zI al))]) hx hb dX6_porters_79 hl (by decide) rfl (fun ls hl => ?_)
              refine w_loopQ (σ := Int × Int) (fun a9 H locs ls => (0 ≤ a9.1 ∧ a9.1 ≤ 2 ^ (M 1 0).toNat) ∧ (a9.2 = sumR (poF (M 1) x1 x2 x3 x4) a9.1) ∧ (0 ≤ a9.2 ∧ a9.2 ≤ 10000 * a9.1) ∧ va_P (dC, dI) vwCl (wMo g q (m78 M (itR (poS7 (M 1) x1 x2) (M 0 7, M 0 8) a9.1))) H ∧ va_D A (wMo g q (m78 M (itR (poS7 (M 1) x1 x2) (M 0 7, M 0 8) a9.1))) ∧ va_S A s.heap H locs ∧ lv_has ls 10 [(0, .ref (q 0)), (1, .int (zI x1)), (2, .int (zI x2)), (3, .int (zI x3)), (4, .int (zI x4)), (5, .int (zI a9.2)), (6, .int (zI al)), (7, .int (zI a9.1))]) (fun a9 => (2 ^ (M 1 0).toNat - a9.1).toNat) ?_ (0, 0) ?_
              · rintro ⟨B, t⟩ H locs ls ⟨hB, ht, htb, hP, hD, hS, hl⟩ ih81
                have hB : 0 ≤ B ∧ B ≤ 2 ^ (M 1 0).toNat := hB
                have ht : t = sumR (poF (M 1) x1 x2 x3 x4) B := ht
                have htb : 0 ≤ t ∧ t ≤ 10000 * B := htb
                have hP : va_P (dC, dI) vwCl (wMo g q (m78 M (itR (poS7 (M 1) x1 x2) (M 0 7, M 0 8) B))) H := hP
                have hD : va_D A (wMo g q (m78 M (itR (poS7 (M 1) x1 x2) (M 0 7, M 0 8) B))) := hD
                have hl : lv_has ls 10 [(0, .ref (q 0)), (1, .int (zI x1)), (2, .int (zI x2)), (3, .int (zI x3)), (4, .int (zI x4)), (5, .int (zI t)), (6, .int (zI al)), (7, .int (zI B))] := hl
                refine lv_iload hx hb dX6_porters_81 (lv_at hl 7 rfl) ?_
                refine q_iconst hx hb dX6_porters_83 ?_
                refine lv_aload_n hx hb dX6_porters_84 rfl (lv_at hl 0 rfl) ?_
                refine va_get (D := (dC, dI)) (ci := 5) (v := .ref (q 1)) (C := RX6) (T := TX6) (N := 15) hx hb hts iX6 hown hK hP 0 rfl rfl 0 (by decide) kf7 (fun _ h9 => h9) rfl dX6_porters_85 ?_
                refine q_iconst hx hb dX6_porters_88 ?_
                refine q_iald (F := fun k9 => (m78 M (itR (poS7 (M 1) x1 x2) (M 0 7, M 0 8) B)) 1 k9) (v := M 1 0) hx hb hK hP 1 0 rfl rfl (by decide) (by omega) (by first | rfl | (show (m78 M (itR (poS7 (M 1) x1 x2) (M 0 7, M 0 8) B)) 1 0 = M 1 0; exact (mset_ne (by omega)).trans rfl) | (show (m78 M (itR (poS7 (M 1) x1 x2) (M 0 7, M 0 8) B)) 1 0 = M 1 0; exact (mset_ne (by omega)).trans ((mset_ne (by omega)).trans rfl)) | (show (m78 M (itR (poS7 (M 1) x1 x2) (M 0 7, M 0 8) B)) 1 0 = M 1 0; simp only [mset]; (repeat' split) <;> first | rfl | omega)) dX6_porters_89 ?_
                refine q_ishl (z := 2 ^ (M 1 0).toNat) hx hb dX6_porters_90 (zI_shl1 (by omega)) ?_
                refine q_icmp_ge (tgt := 181) hx hb dX6_porters_91 (by decide) (by omega) (fun c_6 => ?_) (fun c_6 => ?_)
                · have eB : B = 2 ^ (M 1 0).toNat := by omega
                  have hai := pw10_b (M 1 0)
                  have hal : al = pw10 (M 1 0) := by rw [ha, show i = M 1 0 by omega]
                  refine lv_aload_n hx hb dX6_porters_181 rfl (lv_at hl 0 rfl) ?_
                  refine lv_iload hx hb dX6_porters_182 (lv_at hl 5 rfl) ?_
                  refine q_i2l hx hb dX6_porters_184 (by omega) ?_
                  refine lv_iload hx hb dX6_porters_185 (lv_at hl 6 rfl) ?_
                  refine q_i2l hx hb dX6_porters_187 (by omega) ?_
                  refine q_cEi (z := 1) (b := (q 0)) (As := [.long (zL t), .long (zL al)]) (rest := []) (w1 := wMo g q (m_tel (m78 M (itR (poS7 (M 1) x1 x2) (M 0 7, M 0 8) B)) t al)) ⟨hx, hb, hml, hown, hts⟩ hP hD hK hT hS hA (kX6_tells l dC dI g tt _ q (m78 M (itR (poS7 (M 1) x1 x2) (M 0 7, M 0 8) B)) t al (show (0 ≤ t ∧ t < 1000000000) ∧ (1 ≤ al ∧ al < 1000000000) from by omega)) (cwV 2 hts gX6_porters_X6_tells rfl rfl rfl (by decide +kernel) ⟨Nat.le_of_ble_eq_true rfl, Nat.le_of_ble_eq_true rfl⟩) 0 5 rfl rfl rfl rfl hl.1 rfl (Nat.le_of_ble_eq_true rfl) dX6_porters_188 ⟨Nat.le_of_ble_eq_true rfl, Nat.le_of_ble_eq_true rfl⟩ (fun H locs hP hD hS => ?_)
                  have hPf : va_P (dC, dI) vwCl (wMo g q (m_po M x1 x2 x3 x4)) H := by rw [(show (m_po M x1 x2 x3 x4) = m_tel (m78 M (itR (poS7 (M 1) x1 x2) (M 0 7, M 0 8) B)) t al from by unfold m_po; first | (rw [if_neg (by omega)]; done) | (rw [if_pos (by omega), ← eB, ← ht, ← hal]; done))]; exact hP
                  have hDf : va_D A (wMo g q (m_po M x1 x2 x3 x4)) := by rw [(show (m_po M x1 x2 x3 x4) = m_tel (m78 M (itR (poS7 (M 1) x1 x2) (M 0 7, M 0 8) B)) t al from by unfold m_po; first | (rw [if_neg (by omega)]; done) | (rw [if_pos (by omega), ← eB, ← ht, ← hal]; done))]; exact hD
                  exact W.iret hx hb hr (fun t9 ht9 hW9 => ⟨⟨_, (), rfl, congrArg zI (show 1 = ca_po (M 1) x1 x2 x3 x4 from by unfold ca_po; first | (rw [if_neg (by omega)]; done) | (rw [if_pos (by omega)]; done)), by rw [ht9]; exact hPf, va_K.moved hW9.alike hK, hDf⟩, hS.F ht9⟩) hS.2.2 dX6_porters_191
                · refine q_iconst hx hb dX6_porters_94 ?_
                  refine lv_istore (lv' := [(8, .int (zI 1)), (0, .ref (q 0)), (1, .int (zI x1)), (2, .int (zI x2)), (3, .int (zI x3)), (4, .int (zI x4)), (5, .int (zI t)), (6, .int (zI al)), (7, .int (zI B))]) hx hb dX6_porters_95 hl (by decide) rfl (fun ls hl => ?_)
                  refine q_iconst hx hb dX6_porters_97 ?_
                  refine lv_istore (lv' := [(9, .int (zI 0)), (8, .int (zI 1)), (0, .ref (q 0)), (1, .int (zI x1)), (2, .int (zI x2)), (3, .int (zI x3)), (4, .int (zI x4)), (5, .int (zI t)), (6, .int (zI al)), (7, .int (zI B))]) hx hb dX6_porters_98 hl (by decide) rfl (fun ls hl => ?_)
                  refine w_loopP (σ := Int × Int) (fun a9 ls => (0 ≤ a9.1 ∧ a9.1 ≤ M 1 0) ∧ (a9.2 = poP x4 B a9.1) ∧ (0 ≤ a9.2 ∧ a9.2 ≤ pw10 a9.1) ∧ lv_has ls 10 [(0, .ref (q 0)), (1, .int (zI x1)), (2, .int (zI x2)), (3, .int (zI x3)), (4, .int (zI x4)), (5, .int (zI t)), (6, .int (zI al)), (7, .int (zI B)), (8, .int (zI a9.2)), (9, .int (zI a9.1))]) (fun a9 => (M 1 0 - a9.1).toNat) ?_ (0, 1) ?_
                  · rintro ⟨j, p⟩ ls ⟨hj, hp, hpp, hl⟩ ih100
                    have hj : 0 ≤ j ∧ j ≤ M 1 0 := hj
                    have hp : p = poP x4 B j := hp
                    have hpp : 0 ≤ p ∧ p ≤ pw10 j := hpp
                    have hl : lv_has ls 10 [(0, .ref (q 0)), (1, .int (zI x1)), (2, .int (zI x2)), (3, .int (zI x3)), (4, .int (zI x4)), (5, .int (zI t)), (6, .int (zI al)), (7, .int (zI B)), (8, .int (zI p)), (9, .int (zI j))] := hl
                    refine lv_iload hx hb dX6_porters_100 (lv_at hl 9 rfl) ?_
                    refine lv_aload_n hx hb dX6_porters_102 rfl (lv_at hl 0 rfl) ?_
                    refine va_get (D := (dC, dI)) (ci := 5) (v := .ref (q 1)) (C := RX6) (T := TX6) (N := 15) hx hb hts iX6 hown hK hP 0 rfl rfl 0 (by decide) kf7 (fun _ h9 => h9) rfl dX6_porters_103 ?_
                    refine q_iconst hx hb dX6_porters_106 ?_
                    refine q_iald (F := fun k9 => (m78 M (itR (poS7 (M 1) x1 x2) (M 0 7, M 0 8) B)) 1 k9) (v := M 1 0) hx hb hK hP 1 0 rfl rfl (by decide) (by omega) (by first | rfl | (show (m78 M (itR (poS7 (M 1) x1 x2) (M 0 7, M 0 8) B)) 1 0 = M 1 0; exact (mset_ne (by omega)).trans rfl) | (show (m78 M (itR (poS7 (M 1) x1 x2) (M 0 7, M 0 8) B)) 1 0 = M 1 0; exact (mset_ne (by omega)).trans ((mset_ne (by omega)).trans rfl)) | (show (m78 M (itR (poS7 (M 1) x1 x2) (M 0 7, M 0 8) B)) 1 0 = M 1 0; simp only [mset]; (repeat' split) <;> first | rfl | omega)) dX6_porters_107 ?_
                    refine q_icmp_ge (tgt := 142) hx hb dX6_porters_108 (by decide) (by omega) (fun c_7 => ?_) (fun c_7 => ?_)
                    · have hpj := pw10_b j
                      have hpe : poP x4 B (M 1 0) = p := by rw [hp, show j = M 1 0 by omega]
                      have hmr := m_ck_r (M 1) x1 x2 B 2
                      refine lv_iload hx hb dX6_porters_142 (lv_at hl 5 rfl) ?_
                      refine lv_aload_n hx hb dX6_porters_144 rfl (lv_at hl 0 rfl) ?_
                      refine lv_iload_n hx hb dX6_porters_145 rfl (lv_at hl 1 rfl) ?_
                      refine lv_iload_n hx hb dX6_porters_146 rfl (lv_at hl 2 rfl) ?_
                      refine lv_iload hx hb dX6_porters_147 (lv_at hl 7 rfl) ?_
                      refine q_iconst hx hb dX6_porters_149 ?_
                      refine q_cEi (z := bz (¬ m_ck (M 1) x1 x2 B 2 = -1)) (b := (q 0)) (As := [.int (zI x1), .int (zI x2), .int (zI B), .int (zI 2)]) (rest := [.int (zI t)]) (w1 := wMo g q (m78 (m78 M (itR (poS7 (M 1) x1 x2) (M 0 7, M 0 8) B)) (cmS (M 1) x1 x2 B 2 (((itR (poS7 (M 1) x1 x2) (M 0 7, M 0 8) B).1), ((itR (poS7 (M 1) x1 x2) (M 0 7, M 0 8) B).2))))) ⟨hx, hb, hml, hown, hts⟩ hP hD hK hT hS hA (kX6_comess l dC dI g tt _ q (m78 M (itR (poS7 (M 1) x1 x2) (M 0 7, M 0 8) B)) x1 x2 B 2 (hw) (show 0 ≤ x1 ∧ x1 ≤ M 1 1 from by omega) (show 0 ≤ x2 ∧ x2 ≤ 2000 from by omega) (show 0 ≤ B ∧ B ≤ 15 from by omega) (show 0 ≤ 2 ∧ 2 ≤ 2 from by omega)) (cwV 4 hts gX6_porters_X6_comes rfl rfl rfl (by decide +kernel) ⟨Nat.le_of_ble_eq_true rfl, Nat.le_of_ble_eq_true rfl⟩) 0 5 rfl rfl rfl rfl hl.1 rfl (Nat.le_of_ble_eq_true rfl) dX6_porters_150 ⟨Nat.le_of_ble_eq_true rfl, Nat.le_of_ble_eq_true rfl⟩ (fun H locs hP hD hS => ?_)
                      have hP : va_P (dC, dI) vwCl (wMo g q (m78 M (poS7 (M 1) x1 x2 B (itR (poS7 (M 1) x1 x2) (M 0 7, M 0 8) B)))) H := by rw [show (m78 M (poS7 (M 1) x1 x2 B (itR (poS7 (M 1) x1 x2) (M 0 7, M 0 8) B))) = m78 (m78 M (itR (poS7 (M 1) x1 x2) (M 0 7, M 0 8) B)) (cmS (M 1) x1 x2 B 2 (((itR (poS7 (M 1) x1 x2) (M 0 7, M 0 8) B).1), ((itR (poS7 (M 1) x1 x2) (M 0 7, M 0 8) B).2))) from m78_78.symm]; exact hP
                      have hD : va_D A (wMo g q (m78 M (poS7 (M 1) x1 x2 B (itR (poS7 (M 1) x1 x2) (M 0 7, M 0 8) B)))) := by rw [show (m78 M (poS7 (M 1) x1 x2 B (itR (poS7 (M 1) x1 x2) (M 0 7, M 0 8) B))) = m78 (m78 M (itR (poS7 (M 1) x1 x2) (M 0 7, M 0 8) B)) (cmS (M 1) x1 x2 B 2 (((itR (poS7 (M 1) x1 x2) (M 0 7, M 0 8) B).1), ((itR (poS7 (M 1) x1 x2) (M 0 7, M 0 8) B).2))) from m78_78.symm]; exact hD
                      refine q_bz_eq (tgt := 171) hx hb dX6_porters_153 (by decide) (fun c_8 => ?_) (fun c_8 => ?_)
                      · refine q_iconst hx hb dX6_porters_171 ?_
                        refine q_iadd hx hb dX6_porters_172 ?_
                        refine lv_istore (lv' := [(5, .int (zI (t + 0))), (0, .ref (q 0)), (1, .int (zI x1)), (2, .int (zI x2)), (3, .int (zI x3)), (4, .int (zI x4)), (6, .int (zI al)), (7, .int (zI B)), (8, .int (zI p)), (9, .int (zI j))]) hx hb dX6_porters_173 hl (by decide) rfl (fun ls hl => ?_)
                        refine lv_iinc (v := zI (B + 1)) (lv' := [(7, .int (zI (B + 1))), (5, .int (zI (t + 0))), (0, .ref (q 0)), (1, .int (zI x1)), (2, .int (zI x2)), (3, .int (zI x3)), (4, .int (zI x4)), (6, .int (zI al)), (8, .int (zI p)), (9, .int (zI j))]) hx hb dX6_porters_175 hl (k := 7) rfl (zI_add _ _) (by decide) rfl (fun ls hl => ?_)
                        refine lv_goto (tgt := 81) hx hb dX6_porters_178 (by decide) ?_
                        exact ih81 (B + 1, t + 0) _ _ ls ⟨(show 0 ≤ (B + 1) ∧ (B + 1) ≤ 2 ^ (M 1 0).toNat from by omega), (show (t + 0) = sumR (poF (M 1) x1 x2 x3 x4) (B + 1) from by rw [sumR_s (by omega), ← ht]; show _ = t + (if ¬ m_ck (M 1) x1 x2 B 2 = -1 ∧ m_ck (M 1) x1 x2 B 2 ≤ x3 then poP x4 B (M 1 0) else 0); split <;> omega), (show 0 ≤ (t + 0) ∧ (t + 0) ≤ 10000 * (B + 1) from by omega), (show va_P (dC, dI) vwCl (wMo g q (m78 M (itR (poS7 (M 1) x1 x2) (M 0 7, M 0 8) (B + 1)))) H from by rw [show (m78 M (itR (poS7 (M 1) x1 x2) (M 0 7, M 0 8) (B + 1))) = m78 M (poS7 (M 1) x1 x2 B (itR (poS7 (M 1) x1 x2) (M 0 7, M 0 8) B)) from by rw [itR_s (by omega)]]; exact hP), (show va_D A (wMo g q (m78 M (itR (poS7 (M 1) x1 x2) (M 0 7, M 0 8) (B + 1)))) from by rw [show (m78 M (itR (poS7 (M 1) x1 x2) (M 0 7, M 0 8) (B + 1))) = m78 M (poS7 (M 1) x1 x2 B (itR (poS7 (M 1) x1 x2) (M 0 7, M 0 8) B)) from by rw [itR_s (by omega)]]; exact hD), hS, lv_sub hl [2, 3, 4, 5, 6, 1, 7, 0] rfl⟩ (by show (2 ^ (M 1 0).toNat - (B + 1)).toNat < (2 ^ (M 1 0).toNat - B).toNat; omega)
                      · have e9 : poS7 (M 1) x1 x2 B (itR (poS7 (M 1) x1 x2) (M 0 7, M 0 8) B) = (m_cm (M 1) x1 x2 B 2 (m_ck (M 1) x1 x2 B 2), x2 + m_ck (M 1) x1 x2 B 2) := if_neg c_8
                        have hP : va_P (dC, dI) vwCl (wMo g q (m78 M (m_cm (M 1) x1 x2 B 2 (m_ck (M 1) x1 x2 B 2), x2 + m_ck (M 1) x1 x2 B 2))) H := by rw [show (m78 M (m_cm (M 1) x1 x2 B 2 (m_ck (M 1) x1 x2 B 2), x2 + m_ck (M 1) x1 x2 B 2)) = m78 M (poS7 (M 1) x1 x2 B (itR (poS7 (M 1) x1 x2) (M 0 7, M 0 8) B)) from by rw [e9]]; exact hP
                        have hD : va_D A (wMo g q (m78 M (m_cm (M 1) x1 x2 B 2 (m_ck (M 1) x1 x2 B 2), x2 + m_ck (M 1) x1 x2 B 2))) := by rw [show (m78 M (m_cm (M 1) x1 x2 B 2 (m_ck (M 1) x1 x2 B 2), x2 + m_ck (M 1) x1 x2 B 2)) = m78 M (poS7 (M 1) x1 x2 B (itR (poS7 (M 1) x1 x2) (M 0 7, M 0 8) B)) from by rw [e9]]; exact hD
                        refine lv_aload_n hx hb dX6_porters_156 rfl (lv_at hl 0 rfl) ?_
                        refine va_get (D := (dC, dI)) (ci := 5) (v := .int (zI (x2 + m_ck (M 1) x1 x2 B 2))) (C := RX6) (T := TX6) (N := 15) hx hb hts iX6 hown hK hP 0 rfl rfl 13 (by decide) kf164 (fun _ h9 => h9) rfl dX6_porters_157 ?_
                        refine lv_iload_n hx hb dX6_porters_160 rfl (lv_at hl 2 rfl) ?_
                        refine q_isub hx hb dX6_porters_161 ?_
                        refine lv_iload_n hx hb dX6_porters_162 rfl (lv_at hl 3 rfl) ?_
                        refine q_icmp_gt (tgt := 171) hx hb dX6_porters_163 (by decide) (by omega) (fun c_9 => ?_) (fun c_9 => ?_)
                        · refine q_iconst hx hb dX6_porters_171 ?_
                          refine q_iadd hx hb dX6_porters_172 ?_
                          refine lv_istore (lv' := [(5, .int (zI (t + 0))), (0, .ref (q 0)), (1, .int (zI x1)), (2, .int (zI x2)), (3, .int (zI x3)), (4, .int (zI x4)), (6, .int (zI al)), (7, .int (zI B)), (8, .int (zI p)), (9, .int (zI j))]) hx hb dX6_porters_173 hl (by decide) rfl (fun ls hl => ?_)
                          refine lv_iinc (v := zI (B + 1)) (lv' := [(7, .int (zI (B + 1))), (5, .int (zI (t + 0))), (0, .ref (q 0)), (1, .int (zI x1)), (2, .int (zI x2)), (3, .int (zI x3)), (4, .int (zI x4)), (6, .int (zI al)), (8, .int (zI p)), (9, .int (zI j))]) hx hb dX6_porters_175 hl (k := 7) rfl (zI_add _ _) (by decide) rfl (fun ls hl => ?_)
                          refine lv_goto (tgt := 81) hx hb dX6_porters_178 (by decide) ?_
                          exact ih81 (B + 1, t + 0) _ _ ls ⟨(show 0 ≤ (B + 1) ∧ (B + 1) ≤ 2 ^ (M 1 0).toNat from by omega), (show (t + 0) = sumR (poF (M 1) x1 x2 x3 x4) (B + 1) from by rw [sumR_s (by omega), ← ht]; show _ = t + (if ¬ m_ck (M 1) x1 x2 B 2 = -1 ∧ m_ck (M 1) x1 x2 B 2 ≤ x3 then poP x4 B (M 1 0) else 0); split <;> omega), (show 0 ≤ (t + 0) ∧ (t + 0) ≤ 10000 * (B + 1) from by omega), (show va_P (dC, dI) vwCl (wMo g q (m78 M (itR (poS7 (M 1) x1 x2) (M 0 7, M 0 8) (B + 1)))) H from by rw [show (m78 M (itR (poS7 (M 1) x1 x2) (M 0 7, M 0 8) (B + 1))) = m78 M (m_cm (M 1) x1 x2 B 2 (m_ck (M 1) x1 x2 B 2), x2 + m_ck (M 1) x1 x2 B 2) from by rw [itR_s (by omega), e9]]; exact hP), (show va_D A (wMo g q (m78 M (itR (poS7 (M 1) x1 x2) (M 0 7, M 0 8) (B + 1)))) from by rw [show (m78 M (itR (poS7 (M 1) x1 x2) (M 0 7, M 0 8) (B + 1))) = m78 M (m_cm (M 1) x1 x2 B 2 (m_ck (M 1) x1 x2 B 2), x2 + m_ck (M 1) x1 x2 B 2) from by rw [itR_s (by omega), e9]]; exact hD), hS, lv_sub hl [2, 3, 4, 5, 6, 1, 7, 0] rfl⟩ (by show (2 ^ (M 1 0).toNat - (B + 1)).toNat < (2 ^ (M 1 0).toNat - B).toNat; omega)
                        · refine lv_iload hx hb dX6_porters_166 (lv_at hl 8 rfl) ?_
                          refine lv_goto (tgt := 172) hx hb dX6_porters_168 (by decide) ?_
                          refine q_iadd hx hb dX6_porters_172 ?_
                          refine lv_istore (lv' := [(5, .int (zI (t + p))), (0, .ref (q 0)), (1, .int (zI x1)), (2, .int (zI x2)), (3, .int (zI x3)), (4, .int (zI x4)), (6, .int (zI al)), (7, .int (zI B)), (8, .int (zI p)), (9, .int (zI j))]) hx hb dX6_porters_173 hl (by decide) rfl (fun ls hl => ?_)
                          refine lv_iinc (v := zI (B + 1)) (lv' := [(7, .int (zI (B + 1))), (5, .int (zI (t + p))), (0, .ref (q 0)), (1, .int (zI x1)), (2, .int (zI x2)), (3, .int (zI x3)), (4, .int (zI x4)), (6, .int (zI al)), (8, .int (zI p)), (9, .int (zI j))]) hx hb dX6_porters_175 hl (k := 7) rfl (zI_add _ _) (by decide) rfl (fun ls hl => ?_)
                          refine lv_goto (tgt := 81) hx hb dX6_porters_178 (by decide) ?_
                          exact ih81 (B + 1, t + p) _ _ ls ⟨(show 0 ≤ (B + 1) ∧ (B + 1) ≤ 2 ^ (M 1 0).toNat from by omega), (show (t + p) = sumR (poF (M 1) x1 x2 x3 x4) (B + 1) from by rw [sumR_s (by omega), ← ht]; show _ = t + (if ¬ m_ck (M 1) x1 x2 B 2 = -1 ∧ m_ck (M 1) x1 x2 B 2 ≤ x3 then poP x4 B (M 1 0) else 0); split <;> omega), (show 0 ≤ (t + p) ∧ (t + p) ≤ 10000 * (B + 1) from by omega), (show va_P (dC, dI) vwCl (wMo g q (m78 M (itR (poS7 (M 1) x1 x2) (M 0 7, M 0 8) (B + 1)))) H from by rw [show (m78 M (itR (poS7 (M 1) x1 x2) (M 0 7, M 0 8) (B + 1))) = m78 M (m_cm (M 1) x1 x2 B 2 (m_ck (M 1) x1 x2 B 2), x2 + m_ck (M 1) x1 x2 B 2) from by rw [itR_s (by omega), e9]]; exact hP), (show va_D A (wMo g q (m78 M (itR (poS7 (M 1) x1 x2) (M 0 7, M 0 8) (B + 1)))) from by rw [show (m78 M (itR (poS7 (M 1) x1 x2) (M 0 7, M 0 8) (B + 1))) = m78 M (m_cm (M 1) x1 x2 B 2 (m_ck (M 1) x1 x2 B 2), x2 + m_ck (M 1) x1 x2 B 2) from by rw [itR_s (by omega), e9]]; exact hD), hS, lv_sub hl [2, 3, 4, 5, 6, 1, 7, 0] rfl⟩ (by show (2 ^ (M 1 0).toNat - (B + 1)).toNat < (2 ^ (M 1 0).toNat - B).toNat; omega)
                    · refine lv_iload hx hb dX6_porters_111 (lv_at hl 8 rfl) ?_
                      refine lv_iload hx hb dX6_porters_113 (lv_at hl 7 rfl) ?_
                      refine lv_iload hx hb dX6_porters_115 (lv_at hl 9 rfl) ?_
                      refine q_cSi (z := bz (hasB B j = true)) (As := [.int (zI B), .int (zI j)]) (rest := [.int (zI p)]) ⟨hx, hb, hml, hown, hts⟩ (kX6_has l dC dI g tt B j (by omega)) (va_cwS 2 hts gX6_porters_X6_has rfl rfl rfl (by decide +kernel) ⟨Nat.le_of_ble_eq_true rfl, Nat.le_of_ble_eq_true rfl⟩) (hP.sub (ws' := []) [] rfl) hK hT hS rfl hl.1 rfl (Nat.le_of_ble_eq_true rfl) dX6_porters_117 ⟨Nat.le_of_ble_eq_true rfl, Nat.le_of_ble_eq_true rfl⟩ ?_
                      refine q_bz_eq (tgt := 131) hx hb dX6_porters_120 (by decide) (fun c_10 => ?_) (fun c_10 => ?_)
                      · refine lv_iload hx hb dX6_porters_131 (lv_at hl 4 rfl) ?_
                        refine q_imul hx hb dX6_porters_133 ?_
                        refine lv_istore (lv' := [(8, .int (zI (p * x4))), (0, .ref (q 0)), (1, .int (zI x1)), (2, .int (zI x2)), (3, .int (zI x3)), (4, .int (zI x4)), (5, .int (zI t)), (6, .int (zI al)), (7, .int (zI B)), (9, .int (zI j))]) hx hb dX6_porters_134 hl (by decide) rfl (fun ls hl => ?_)
                        refine lv_iinc (v := zI (j + 1)) (lv' := [(9, .int (zI (j + 1))), (8, .int (zI (p * x4))), (0, .ref (q 0)), (1, .int (zI x1)), (2, .int (zI x2)), (3, .int (zI x3)), (4, .int (zI x4)), (5, .int (zI t)), (6, .int (zI al)), (7, .int (zI B))]) hx hb dX6_porters_136 hl (k := 9) rfl (zI_add _ _) (by decide) rfl (fun ls hl => ?_)
                        refine lv_goto (tgt := 100) hx hb dX6_porters_139 (by decide) ?_
                        exact ih100 (j + 1, p * x4) ls ⟨(show 0 ≤ (j + 1) ∧ (j + 1) ≤ M 1 0 from by omega), (show (p * x4) = poP x4 B (j + 1) from by unfold poP at hp ⊢; rw [itR_s (by omega), ← hp]; unfold poQ; rw [if_neg c_10]), (show 0 ≤ (p * x4) ∧ (p * x4) ≤ pw10 (j + 1) from mulpw hpp (by omega) (by omega)), lv_sub hl [2, 3, 4, 5, 6, 7, 8, 9, 1, 0] rfl⟩ (by show (M 1 0 - (j + 1)).toNat < (M 1 0 - j).toNat; omega)
                      · refine q_bipush hx hb dX6_porters_123 rfl ?_
                        refine lv_iload hx hb dX6_porters_125 (lv_at hl 4 rfl) ?_
                        refine q_isub hx hb dX6_porters_127 ?_
                        refine lv_goto (tgt := 133) hx hb dX6_porters_128 (by decide) ?_
                        refine q_imul hx hb dX6_porters_133 ?_
                        refine lv_istore (lv' := [(8, .int (zI (p * (10 - x4)))), (0, .ref (q 0)), (1, .int (zI x1)), (2, .int (zI x2)), (3, .int (zI x3)), (4, .int (zI x4)), (5, .int (zI t)), (6, .int (zI al)), (7, .int (zI B)), (9, .int (zI j))]) hx hb dX6_porters_134 hl (by decide) rfl (fun ls hl => ?_)
                        refine lv_iinc (v := zI (j + 1)) (lv' := [(9, .int (zI (j + 1))), (8, .int (zI (p * (10 - x4)))), (0, .ref (q 0)), (1, .int (zI x1)), (2, .int (zI x2)), (3, .int (zI x3)), (4, .int (zI x4)), (5, .int (zI t)), (6, .int (zI al)), (7, .int (zI B))]) hx hb dX6_porters_136 hl (k := 9) rfl (zI_add _ _) (by decide) rfl (fun ls hl => ?_)
                        refine lv_goto (tgt := 100) hx hb dX6_porters_139 (by decide) ?_
                        exact ih100 (j + 1, p * (10 - x4)) ls ⟨(show 0 ≤ (j + 1) ∧ (j + 1) ≤ M 1 0 from by omega), (show (p * (10 - x4)) = poP x4 B (j + 1) from by unfold poP at hp ⊢; rw [itR_s (by omega), ← hp]; unfold poQ; rw [if_pos c_10]), (show 0 ≤ (p * (10 - x4)) ∧ (p * (10 - x4)) ≤ pw10 (j + 1) from mulpw hpp (by omega) (by omega)), lv_sub hl [2, 3, 4, 5, 6, 7, 8, 9, 1, 0] rfl⟩ (by show (M 1 0 - (j + 1)).toNat < (M 1 0 - j).toNat; omega)
                  · exact ⟨(show 0 ≤ 0 ∧ 0 ≤ M 1 0 from by omega), (show 1 = poP x4 B 0 from rfl), (show 0 ≤ 1 ∧ 1 ≤ pw10 0 from by decide), lv_sub hl [2, 3, 4, 5, 6, 7, 8, 9, 1, 0] rfl⟩
              · exact ⟨(show 0 ≤ 0 ∧ 0 ≤ 2 ^ (M 1 0).toNat from by omega), (show 0 = sumR (poF (M 1) x1 x2 x3 x4) 0 from rfl), (show 0 ≤ 0 ∧ 0 ≤ 10000 * 0 from by omega), (show va_P (dC, dI) vwCl (wMo g q (m78 M (itR (poS7 (M 1) x1 x2) (M 0 7, M 0 8) 0))) s.heap from by rw [show (m78 M (itR (poS7 (M 1) x1 x2) (M 0 7, M 0 8) 0)) = M from m78_id]; exact hP), (show va_D A (wMo g q (m78 M (itR (poS7 (M 1) x1 x2) (M 0 7, M 0 8) 0))) from by rw [show (m78 M (itR (poS7 (M 1) x1 x2) (M 0 7, M 0 8) 0)) = M from m78_id]; exact hD), hS, lv_sub hl [1, 2, 3, 4, 5, 6, 7, 0] rfl⟩
            · have hpb := pw10_b i
              refine lv_iload hx hb dX6_porters_65 (lv_at hl 6 rfl) ?_
              refine q_bipush hx hb dX6_porters_67 rfl ?_
              refine q_imul hx hb dX6_porters_69 ?_
              refine lv_istore (lv' := [(6, .int (zI (al * 10))), (0, .ref (q 0)), (1, .int (zI x1)), (2, .int (zI x2)), (3, .int (zI x3)), (4, .int (zI x4)), (5, .int (zI 0)), (7, .int (zI i))]) hx hb dX6_porters_70 hl (by decide) rfl (fun ls hl => ?_)
              refine lv_iinc (v := zI (i + 1)) (lv' := [(7, .int (zI (i + 1))), (6, .int (zI (al * 10))), (0, .ref (q 0)), (1, .int (zI x1)), (2, .int (zI x2)), (3, .int (zI x3)), (4, .int (zI x4)), (5, .int (zI 0))]) hx hb dX6_porters_72 hl (k := 7) rfl (zI_add _ _) (by decide) rfl (fun ls hl => ?_)
              refine lv_goto (tgt := 54) hx hb dX6_porters_75 (by decide) ?_
              exact ih54 (i + 1, al * 10) ls ⟨(show 0 ≤ (i + 1) ∧ (i + 1) ≤ M 1 0 from by omega), (show (al * 10) = pw10 (i + 1) from by rw [ha]; exact pw10_m (by omega)), lv_sub hl [2, 3, 4, 5, 6, 7, 1, 0] rfl⟩ (by show (M 1 0 - (i + 1)).toNat < (M 1 0 - i).toNat; omega)
          · exact ⟨(show 0 ≤ 0 ∧ 0 ≤ M 1 0 from by omega), (show 1 = pw10 0 from rfl), lv_sub hl [3, 4, 5, 6, 7, 2, 1, 0] rfl⟩
        · refine lv_aload_n hx hb dX6_porters_40 rfl (lv_at hl 0 rfl) ?_
          refine q_cEi (z := -2) (b := (q 0)) (As := []) (rest := []) (w1 := wMo g q (mbad M)) ⟨hx, hb, hml, hown, hts⟩ hP hD hK hT hS hA (kX6_bad l dC dI g tt _ q M) (cwV 0 hts gX6_porters_X6_bad rfl rfl rfl (by decide +kernel) ⟨Nat.le_of_ble_eq_true rfl, Nat.le_of_ble_eq_true rfl⟩) 0 5 rfl rfl rfl rfl hl.1 rfl (Nat.le_of_ble_eq_true rfl) dX6_porters_41 ⟨Nat.le_of_ble_eq_true rfl, Nat.le_of_ble_eq_true rfl⟩ (fun H locs hP hD hS => ?_)
          have hPf : va_P (dC, dI) vwCl (wMo g q (m_po M x1 x2 x3 x4)) H := by rw [(show (m_po M x1 x2 x3 x4) = mbad M from by unfold m_po; first | (rw [if_neg (by omega)]; done) | (rw [if_pos (by omega), ← eB, ← ht, ← hal]; done))]; exact hP
          have hDf : va_D A (wMo g q (m_po M x1 x2 x3 x4)) := by rw [(show (m_po M x1 x2 x3 x4) = mbad M from by unfold m_po; first | (rw [if_neg (by omega)]; done) | (rw [if_pos (by omega), ← eB, ← ht, ← hal]; done))]; exact hD
          exact W.iret hx hb hr (fun t9 ht9 hW9 => ⟨⟨_, (), rfl, congrArg zI (show -2 = ca_po (M 1) x1 x2 x3 x4 from by unfold ca_po; first | (rw [if_neg (by omega)]; done) | (rw [if_pos (by omega)]; done)), by rw [ht9]; exact hPf, va_K.moved hW9.alike hK, hDf⟩, hS.F ht9⟩) hS.2.2 dX6_porters_44
