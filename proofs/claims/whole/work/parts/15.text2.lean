set_option maxHeartbeats 4000000 in
set_option maxRecDepth 100000 in
theorem kX3_readItem (l : Launch) (dC : Nat → ClassId) (dI : Nat → Nat → Nat) (g : Nat → ClassId) (tt : Nat → Nat) (sz : Nat) (q : Nat → Nat) (tx tz : Int → Int) (a : Nat → Nat) (w : Int → Int) (ht : tsok tx tz) (hl4 : lok w) : Met l yX3_readItem wsX3_readItem ({ frames := 6, cells := 0, slots := 0, locals := 128 }) (va_Pc [.ref (q 0), .ref (a 0)] (eQ (dC, dI) (wTy g) (wTd g q tx tz a w) tt sz)) (va_Qi (fun r (_ : Unit) => r = zI (bz (it_r tx tz w = true))) (fQ (dC, dI) (wTy g) (va_A (wTd g q tx tz a w) sz) (wTd g q tx (it_tz tx tz w) a (it_w tx tz w))) (va_A (wTd g q tx tz a w) sz)) 0 0 (va_A (wTd g q tx tz a w) sz) := by
  refine Met.ofW (cc := cX3_readItem) (maxL := 2) (ret := (some .boolean)) (by decide) rfl ?_
  intro p e s m args below meth c s₁ B hml hv
  obtain ⟨rfl, hsz, hP, hK, hD0, hT⟩ := hv
  have hx := B.exec
  have hb := B.bytes
  have hr := B.returns
  have hts := atoms_spec (ws := wsX3_readItem) B.pre
  have hown : s.vm.findClass RX3 = some m.cls := findClass_of_methodNamed B.named
  have hlocks := B.notSynchronized
  subst hsz
  have hD := hD0.self (sz := s.heap.size)
  generalize hAe : va_A (wTd g q tx tz a w) s.heap.size = A at hD hT ⊢
  have hA : ∀ q : Nat, s.heap.size ≤ q → A q := fun q h => by rw [← hAe]; exact Or.inr h
  have hS : va_S A s.heap s.heap [] := va_S.rf
  have hl := lv_entry ([.ref (q 0), .ref (a 0)]) (n := 2) (Nat.le_of_ble_eq_true rfl)
  rw [lg_entry_eq]
  generalize (lg_sl ([.ref (q 0), .ref (a 0)]) ++ List.replicate (2 - (lg_sl ([.ref (q 0), .ref (a 0)])).length) Slot.unset).toArray = ls at hl ⊢
  have hl : lv_has ls 2 [(0, .ref (q 0)), (1, .ref (a 0))] := hl
  have kf63 := hts (.fieldLink RX3 63 "WrongWay$House" "lifts" "I") (by decide +kernel)
  have iX1 := (fun w h => List.mem_cons_of_mem _ (List.mem_append_left _ (List.mem_append_right _ h)) : ∀ w ∈ u_ws RX1 TX1 14, w ∈ wsX3_readItem)
  have hl5 : 0 ≤ w 0 ∧ w 0 ≤ 4 := hl4
  refine lv_aload_n hx hb dX3_readItem_0 rfl (lv_at hl 0 rfl) ?_
  refine va_ldcS (tx := "lift") hx hb hown hT.2.2.2.1.2.1 dX3_readItem_1 ?_
  refine q_cVi (z := bz (t_isw tx tz 1 = true)) (b := (q 0)) (As := [.ref (tt 4)]) (rest := []) ⟨hx, hb, hml, hown, hts⟩ (kX3_isWord l dC dI g tt q tx tz 1 (by decide) (ht)) (cwV 1 hts gX3_readItem_X3_isWord rfl rfl rfl (by decide +kernel) ⟨Nat.le_of_ble_eq_true rfl, Nat.le_of_ble_eq_true rfl⟩) (hP.sub (ws' := wTx g q tx tz) [0, 1] rfl) hK hT hS 0 2 rfl rfl rfl rfl hl.1 rfl (Nat.le_of_ble_eq_true rfl) dX3_readItem_3 ⟨Nat.le_of_ble_eq_true rfl, Nat.le_of_ble_eq_true rfl⟩ ?_
  refine q_bz_eq (tgt := 23) hx hb dX3_readItem_6 (by decide) (fun c_1 => ?_) (fun c_1 => ?_)
  · have hnc : ¬ (t_isw tx tz 1 = true ∧ w 0 < 4) := by first | exact fun h9 => c_1 h9.1 | exact fun h9 => by omega
    refine lv_aload_n hx hb dX3_readItem_23 rfl (lv_at hl 0 rfl) ?_
    refine va_ldcS (tx := "line") hx hb hown hT.2.2.2.1.2.2 dX3_readItem_24 ?_
    refine q_cVi (z := bz (t_isw tx tz 2 = true)) (b := (q 0)) (As := [.ref (tt 5)]) (rest := []) ⟨hx, hb, hml, hown, hts⟩ (kX3_isWord l dC dI g tt q tx tz 2 (by decide) (ht)) (cwV 1 hts gX3_readItem_X3_isWord rfl rfl rfl (by decide +kernel) ⟨Nat.le_of_ble_eq_true rfl, Nat.le_of_ble_eq_true rfl⟩) (hP.sub (ws' := wTx g q tx tz) [0, 1] rfl) hK hT hS 0 2 rfl rfl rfl rfl hl.1 rfl (Nat.le_of_ble_eq_true rfl) dX3_readItem_26 ⟨Nat.le_of_ble_eq_true rfl, Nat.le_of_ble_eq_true rfl⟩ ?_
    refine q_bz_eq (tgt := 44) hx hb dX3_readItem_29 (by decide) (fun c_2 => ?_) (fun c_2 => ?_)
    · refine q_iconst hx hb dX3_readItem_44 ?_
      have hPf : va_P (dC, dI) vwCl (wTd g q tx (it_tz tx tz w) a (it_w tx tz w)) s.heap := by rw [(show (it_tz tx tz w) = tz from by unfold it_tz; rw [if_neg hnc, if_neg c_2]), (show (it_w tx tz w) = w from by unfold it_w; rw [if_neg hnc, if_neg c_2])]; exact hP
      have hDf : va_D A (wTd g q tx (it_tz tx tz w) a (it_w tx tz w)) := by rw [(show (it_tz tx tz w) = tz from by unfold it_tz; rw [if_neg hnc, if_neg c_2]), (show (it_w tx tz w) = w from by unfold it_w; rw [if_neg hnc, if_neg c_2])]; exact hD
      exact W.zret hx hb hr rfl (fun t9 ht9 hW9 => ⟨⟨_, (), rfl, congrArg zI (bz_f (by unfold it_r; rw [if_neg hnc]; simp [c_2])).symm, by rw [ht9]; exact hPf, va_K.moved hW9.alike hK, hDf⟩, hS.F ht9⟩) hS.2.2 dX3_readItem_45
    · refine lv_aload_n hx hb dX3_readItem_32 rfl (lv_at hl 0 rfl) ?_
      refine lv_aload_n hx hb dX3_readItem_33 rfl (lv_at hl 1 rfl) ?_
      refine q_cEi (z := bz (rn_r tx tz = true)) (b := (q 0)) (As := [.ref (a 0)]) (rest := []) (w1 := wTd g q tx (rn_tz tx tz) a (rn_w tx tz w)) ⟨hx, hb, hml, hown, hts⟩ hP hD hK hT hS hA (kX3_readLine l dC dI g tt _ q tx tz a w (ht)) (cwV 1 hts gX3_readItem_X3_readLine rfl rfl rfl (by decide +kernel) ⟨Nat.le_of_ble_eq_true rfl, Nat.le_of_ble_eq_true rfl⟩) 0 2 rfl rfl rfl rfl hl.1 rfl (Nat.le_of_ble_eq_true rfl) dX3_readItem_34 ⟨Nat.le_of_ble_eq_true rfl, Nat.le_of_ble_eq_true rfl⟩ (fun H locs hP hD hS => ?_)
      refine q_bz_eq (tgt := 44) hx hb dX3_readItem_37 (by decide) (fun c_3 => ?_) (fun c_3 => ?_)
      · refine q_iconst hx hb dX3_readItem_44 ?_
        have hPf : va_P (dC, dI) vwCl (wTd g q tx (it_tz tx tz w) a (it_w tx tz w)) H := by rw [(show (it_tz tx tz w) = rn_tz tx tz from by unfold it_tz; rw [if_neg hnc, if_pos c_2]), (show (it_w tx tz w) = rn_w tx tz w from by unfold it_w; rw [if_neg hnc, if_pos c_2])]; exact hP
        have hDf : va_D A (wTd g q tx (it_tz tx tz w) a (it_w tx tz w)) := by rw [(show (it_tz tx tz w) = rn_tz tx tz from by unfold it_tz; rw [if_neg hnc, if_pos c_2]), (show (it_w tx tz w) = rn_w tx tz w from by unfold it_w; rw [if_neg hnc, if_pos c_2])]; exact hD
        exact W.zret hx hb hr rfl (fun t9 ht9 hW9 => ⟨⟨_, (), rfl, congrArg zI (bz_f (by unfold it_r; rw [if_neg hnc]; simp [c_2, c_3])).symm, by rw [ht9]; exact hPf, va_K.moved hW9.alike hK, hDf⟩, hS.F ht9⟩) hS.2.2 dX3_readItem_45
      · refine q_iconst hx hb dX3_readItem_40 ?_
        refine lv_goto (tgt := 45) hx hb dX3_readItem_41 (by decide) ?_
        have hPf : va_P (dC, dI) vwCl (wTd g q tx (it_tz tx tz w) a (it_w tx tz w)) H := by rw [(show (it_tz tx tz w) = rn_tz tx tz from by unfold it_tz; rw [if_neg hnc, if_pos c_2]), (show (it_w tx tz w) = rn_w tx tz w from by unfold it_w; rw [if_neg hnc, if_pos c_2])]; exact hP
        have hDf : va_D A (wTd g q tx (it_tz tx tz w) a (it_w tx tz w)) := by rw [(show (it_tz tx tz w) = rn_tz tx tz from by unfold it_tz; rw [if_neg hnc, if_pos c_2]), (show (it_w tx tz w) = rn_w tx tz w from by unfold it_w; rw [if_neg hnc, if_pos c_2])]; exact hD
        exact W.zret hx hb hr rfl (fun t9 ht9 hW9 => ⟨⟨_, (), rfl, congrArg zI (bz_t (by unfold it_r; rw [if_neg hnc]; simp [c_2, c_3])).symm, by rw [ht9]; exact hPf, va_K.moved hW9.alike hK, hDf⟩, hS.F ht9⟩) hS.2.2 dX3_readItem_45
  · refine lv_aload_n hx hb dX3_readItem_9 rfl (lv_at hl 1 rfl) ?_
    refine va_get (D := (dC, dI)) (ci := 1) (v := .int (zI (w 0))) (C := RX1) (T := TX1) (N := 14) hx hb hts iX1 hown hK hP 2 rfl rfl 1 (by decide) kf63 (fun _ h9 => h9) rfl dX3_readItem_10 ?_
    refine q_iconst hx hb dX3_readItem_13 ?_
    refine q_icmp_ge (tgt := 23) hx hb dX3_readItem_14 (by decide) (by omega) (fun c_4 => ?_) (fun c_4 => ?_)
    · have hnc : ¬ (t_isw tx tz 1 = true ∧ w 0 < 4) := by first | exact fun h9 => c_1 h9.1 | exact fun h9 => by omega
      refine lv_aload_n hx hb dX3_readItem_23 rfl (lv_at hl 0 rfl) ?_
      refine va_ldcS (tx := "line") hx hb hown hT.2.2.2.1.2.2 dX3_readItem_24 ?_
      refine q_cVi (z := bz (t_isw tx tz 2 = true)) (b := (q 0)) (As := [.ref (tt 5)]) (rest := []) ⟨hx, hb, hml, hown, hts⟩ (kX3_isWord l dC dI g tt q tx tz 2 (by decide) (ht)) (cwV 1 hts gX3_readItem_X3_isWord rfl rfl rfl (by decide +kernel) ⟨Nat.le_of_ble_eq_true rfl, Nat.le_of_ble_eq_true rfl⟩) (hP.sub (ws' := wTx g q tx tz) [0, 1] rfl) hK hT hS 0 2 rfl rfl rfl rfl hl.1 rfl (Nat.le_of_ble_eq_true rfl) dX3_readItem_26 ⟨Nat.le_of_ble_eq_true rfl, Nat.le_of_ble_eq_true rfl⟩ ?_
      refine q_bz_eq (tgt := 44) hx hb dX3_readItem_29 (by decide) (fun c_5 => ?_) (fun c_5 => ?_)
      · refine q_iconst hx hb dX3_readItem_44 ?_
        have hPf : va_P (dC, dI) vwCl (wTd g q tx (it_tz tx tz w) a (it_w tx tz w)) s.heap := by rw [(show (it_tz tx tz w) = tz from by unfold it_tz; rw [if_neg hnc, if_neg c_5]), (show (it_w tx tz w) = w from by unfold it_w; rw [if_neg hnc, if_neg c_5])]; exact hP
        have hDf : va_D A (wTd g q tx (it_tz tx tz w) a (it_w tx tz w)) := by rw [(show (it_tz tx tz w) = tz from by unfold it_tz; rw [if_neg hnc, if_neg c_5]), (show (it_w tx tz w) = w from by unfold it_w; rw [if_neg hnc, if_neg c_5])]; exact hD
        exact W.zret hx hb hr rfl (fun t9 ht9 hW9 => ⟨⟨_, (), rfl, congrArg zI (bz_f (by unfold it_r; rw [if_neg hnc]; simp [c_5])).symm, by rw [ht9]; exact hPf, va_K.moved hW9.alike hK, hDf⟩, hS.F ht9⟩) hS.2.2 dX3_readItem_45
      · refine lv_aload_n hx hb dX3_readItem_32 rfl (lv_at hl 0 rfl) ?_
        refine lv_aload_n hx hb dX3_readItem_33 rfl (lv_at hl 1 rfl) ?_
        refine q_cEi (z := bz (rn_r tx tz = true)) (b := (q 0)) (As := [.ref (a 0)]) (rest := []) (w1 := wTd g q tx (rn_tz tx tz) a (rn_w tx tz w)) ⟨hx, hb, hml, hown, hts⟩ hP hD hK hT hS hA (kX3_readLine l dC dI g tt _ q tx tz a w (ht)) (cwV 1 hts gX3_readItem_X3_readLine rfl rfl rfl (by decide +kernel) ⟨Nat.le_of_ble_eq_true rfl, Nat.le_of_ble_eq_true rfl⟩) 0 2 rfl rfl rfl rfl hl.1 rfl (Nat.le_of_ble_eq_true rfl) dX3_readItem_34 ⟨Nat.le_of_ble_eq_true rfl, Nat.le_of_ble_eq_true rfl⟩ (fun H locs hP hD hS => ?_)
        refine q_bz_eq (tgt := 44) hx hb dX3_readItem_37 (by decide) (fun c_6 => ?_) (fun c_6 => ?_)
        · refine q_iconst hx hb dX3_readItem_44 ?_
          have hPf : va_P (dC, dI) vwCl (wTd g q tx (it_tz tx tz w) a (it_w tx tz w)) H := by rw [(show (it_tz tx tz w) = rn_tz tx tz from by unfold it_tz; rw [if_neg hnc, if_pos c_5]), (show (it_w tx tz w) = rn_w tx tz w from by unfold it_w; rw [if_neg hnc, if_pos c_5])]; exact hP
          have hDf : va_D A (wTd g q tx (it_tz tx tz w) a (it_w tx tz w)) := by rw [(show (it_tz tx tz w) = rn_tz tx tz from by unfold it_tz; rw [if_neg hnc, if_pos c_5]), (show (it_w tx tz w) = rn_w tx tz w from by unfold it_w; rw [if_neg hnc, if_pos c_5])]; exact hD
          exact W.zret hx hb hr rfl (fun t9 ht9 hW9 => ⟨⟨_, (), rfl, congrArg zI (bz_f (by unfold it_r; rw [if_neg hnc]; simp [c_5, c_6])).symm, by rw [ht9]; exact hPf, va_K.moved hW9.alike hK, hDf⟩, hS.F ht9⟩) hS.2.2 dX3_readItem_45
        · refine q_iconst hx hb dX3_readItem_40 ?_
          refine lv_goto (tgt := 45) hx hb dX3_readItem_41 (by decide) ?_
          have hPf : va_P (dC, dI) vwCl (wTd g q tx (it_tz tx tz w) a (it_w tx tz w)) H := by rw [(show (it_tz tx tz w) = rn_tz tx tz from by unfold it_tz; rw [if_neg hnc, if_pos c_5]), (show (it_w tx tz w) = rn_w tx tz w from by unfold it_w; rw [if_neg hnc, if_pos c_5])]; exact hP
          have hDf : va_D A (wTd g q tx (it_tz tx tz w) a (it_w tx tz w)) := by rw [(show (it_tz tx tz w) = rn_tz tx tz from by unfold it_tz; rw [if_neg hnc, if_pos c_5]), (show (it_w tx tz w) = rn_w tx tz w from by unfold it_w; rw [if_neg hnc, if_pos c_5])]; exact hD
          exact W.zret hx hb hr rfl (fun t9 ht9 hW9 => ⟨⟨_, (), rfl, congrArg zI (bz_t (by unfold it_r; rw [if_neg hnc]; simp [c_5, c_6])).symm, by rw [ht9]; exact hPf, va_K.moved hW9.alike hK, hDf⟩, hS.F ht9⟩) hS.2.2 dX3_readItem_45
    · have hpc : t_isw tx tz 1 = true ∧ w 0 < 4 := ⟨c_1, by omega⟩
      refine lv_aload_n hx hb dX3_readItem_17 rfl (lv_at hl 0 rfl) ?_
      refine lv_aload_n hx hb dX3_readItem_18 rfl (lv_at hl 1 rfl) ?_
      refine q_cEi (z := bz (rl_r tx tz = true)) (b := (q 0)) (As := [.ref (a 0)]) (rest := []) (w1 := wTd g q tx (rl_tz tx tz) a (rl_w tx tz w)) ⟨hx, hb, hml, hown, hts⟩ hP hD hK hT hS hA (kX3_readLift l dC dI g tt _ q tx tz a w (ht) (hl4)) (cwV 1 hts gX3_readItem_X3_readLift rfl rfl rfl (by decide +kernel) ⟨Nat.le_of_ble_eq_true rfl, Nat.le_of_ble_eq_true rfl⟩) 0 2 rfl rfl rfl rfl hl.1 rfl (Nat.le_of_ble_eq_true rfl) dX3_readItem_19 ⟨Nat.le_of_ble_eq_true rfl, Nat.le_of_ble_eq_true rfl⟩ (fun H locs hP hD hS => ?_)
      have hPf : va_P (dC, dI) vwCl (wTd g q tx (it_tz tx tz w) a (it_w tx tz w)) H := by rw [(show (it_tz tx tz w) = rl_tz tx tz from by unfold it_tz; rw [if_pos hpc]), (show (it_w tx tz w) = rl_w tx tz w from by unfold it_w; rw [if_pos hpc])]; exact hP
      have hDf : va_D A (wTd g q tx (it_tz tx tz w) a (it_w tx tz w)) := by rw [(show (it_tz tx tz w) = rl_tz tx tz from by unfold it_tz; rw [if_pos hpc]), (show (it_w tx tz w) = rl_w tx tz w from by unfold it_w; rw [if_pos hpc])]; exact hD
      exact W.zret hx hb hr bz_nar (fun t9 ht9 hW9 => ⟨⟨_, (), rfl, congrArg zI (bz_c (by unfold it_r; rw [if_pos hpc])), by rw [ht9]; exact hPf, va_K.moved hW9.alike hK, hDf⟩, hS.F ht9⟩) hS.2.2 dX3_readItem_22
set_option maxHeartbeats 4000000 in
set_option maxRecDepth 100000 in
theorem kX3_readInto (l : Launch) (dC : Nat → ClassId) (dI : Nat → Nat → Nat) (g : Nat → ClassId) (tt : Nat → Nat) (sz : Nat) (q : Nat → Nat) (tx tz : Int → Int) (a : Nat → Nat) (w : Int → Int) (ht : tok tx (tz 0)) (h4 : -1 ≤ tz 4 ∧ tz 4 ≤ 99) : Met l yX3_readInto wsX3_readInto ({ frames := 7, cells := 0, slots := 0, locals := 149 }) (va_Pc [.ref (q 0), .ref (a 0)] (eQ (dC, dI) (wTy g) (wTd g q tx tz a w) tt sz)) (va_Qi (fun r (_ : Unit) => r = zI ((rd tx tz w).1)) (fQ (dC, dI) (wTy g) (va_A (wTd g q tx tz a w) sz) (wTd g q tx ((rd tx tz w).2.1) a ((rd tx tz w).2.2))) (va_A (wTd g q tx tz a w) sz)) 0 0 (va_A (wTd g q tx tz a w) sz) := by
  refine Met.ofW (cc := cX3_readInto) (maxL := 3) (ret := (some .int)) (by decide) rfl ?_
  intro p e s m args below meth c s₁ B hml hv
  obtain ⟨rfl, hsz, hP, hK, hD0, hT⟩ := hv
  have hx := B.exec
  have hb := B.bytes
  have hr := B.returns
  have hts := atoms_spec (ws := wsX3_readInto) B.pre
  have hown : s.vm.findClass RX3 = some m.cls := findClass_of_methodNamed B.named
  have hlocks := B.notSynchronized
  subst hsz
  have hD := hD0.self (sz := s.heap.size)
  generalize hAe : va_A (wTd g q tx tz a w) s.heap.size = A at hD hT ⊢
  have hA : ∀ q : Nat, s.heap.size ≤ q → A q := fun q h => by rw [← hAe]; exact Or.inr h
  have hS : va_S A s.heap s.heap [] := va_S.rf
  have hl := lv_entry ([.ref (q 0), .ref (a 0)]) (n := 3) (Nat.le_of_ble_eq_true rfl)
  rw [lg_entry_eq]
  generalize (lg_sl ([.ref (q 0), .ref (a 0)]) ++ List.replicate (3 - (lg_sl ([.ref (q 0), .ref (a 0)])).length) Slot.unset).toArray = ls at hl ⊢
  have hl : lv_has ls 3 [(0, .ref (q 0)), (1, .ref (a 0))] := hl
  have kf19 := hts (.fieldLink RX3 19 "WrongWay$Text" "tokenEnd" "I") (by decide +kernel)
  have kf29 := hts (.fieldLink RX3 29 "WrongWay$Text" "tokenStart" "I") (by decide +kernel)
  have kf32 := hts (.fieldLink RX3 32 "WrongWay$Text" "token" "I") (by decide +kernel)
  have iX3 := (fun w h => List.mem_cons_of_mem _ (List.mem_append_left _ (List.mem_append_right _ h)) : ∀ w ∈ u_ws RX3 TX3 6, w ∈ wsX3_readInto)
  have hr0 := tsok_rd0 ht h4
  refine lv_aload_n hx hb dX3_readInto_0 rfl (lv_at hl 0 rfl) ?_
  refine q_iconst hx hb dX3_readInto_1 ?_
  refine va_put (D := (dC, dI)) (ci := 2) (v := .int (zI 0)) (ty := .int) (C := RX3) (T := TX3) (N := 6) hx hb hts iX3 tyX3 tyX3_ok nmX3 hown hK hP hD hS 0 rfl rfl 4 (by decide) kf19 (fun _ h9 => h9) rfl (by decide +kernel) rfl rfl (Nat.le_of_ble_eq_true rfl) dX3_readInto_2 (fun H locs hP hD hS => ?_)
  have hP : va_P (dC, dI) vwCl (wTd g q tx (wset tz 3 0) a w) H := hP
  have hD : va_D A (wTd g q tx (wset tz 3 0) a w) := hD
  refine lv_aload_n hx hb dX3_readInto_5 rfl (lv_at hl 0 rfl) ?_
  refine q_cVqv (b := (q 0)) (As := []) (rest := []) (wc := wTx g q tx (wset tz 3 0)) (w1 := wTx g q tx (t_next tx (wset tz 3 0))) (wr := [(a 0, .inr (1, [.int (zI (w 1)), .int (zI (w 0)), .int (zI (w 2)), .int (zI (w 3)), .int (zI (w 4)), .ref (a 1), .ref (a 2), .ref (a 3), .ref (a 4), .ref (a 5), .ref (a 6), .ref (a 7), .ref (a 8), .ref (a 9)])), (a 1, .inl (g 0, 4, .inl (fun k => zI (w (5 + k))))), (a 2, .inl (g 0, 4, .inl (fun k => zI (w (9 + k))))), (a 3, .inl (g 0, 2, .inl (fun k => zI (w (13 + k))))), (a 4, .inl (g 0, 2, .inl (fun k => zI (w (15 + k))))), (a 5, .inl (g 0, 6, .inl (fun k => zI (w (17 + 4 * k))))), (a 6, .inl (g 0, 6, .inl (fun k => zI (w (18 + 4 * k))))), (a 7, .inl (g 0, 6, .inl (fun k => zI (w (19 + 4 * k))))), (a 8, .inl (g 0, 6, .inl (fun k => zI (w (20 + 4 * k))))), (a 9, .inl (g 0, 8, .inl (fun k => zI (w (41 + k)))))]) [0, 1] [2, 3, 4, 5, 6, 7, 8, 9, 10, 11] ⟨hx, hb, hml, hown, hts⟩ hP hD hK hT hS hA (kX3_nextToken l dC dI g tt _ q tx (wset tz 3 0) (⟨ht, ⟨(by decide : (0 : Int) ≤ 0), ht.1.1⟩, h4⟩)) (cwV 0 hts gX3_readInto_X3_nextToken rfl rfl rfl (by decide +kernel) ⟨Nat.le_of_ble_eq_true rfl, Nat.le_of_ble_eq_true rfl⟩) rfl rfl (by decide) (by decide) (by decide) 0 2 rfl rfl rfl rfl hl.1 rfl (Nat.le_of_ble_eq_true rfl) dX3_readInto_6 ⟨Nat.le_of_ble_eq_true rfl, Nat.le_of_ble_eq_true rfl⟩ (fun H locs hP hD hS => ?_)
  have hP : va_P (dC, dI) vwCl (wTd g q tx (t_next tx (wset tz 3 0)) a w) H := hP.sub [10, 11, 0, 1, 2, 3, 4, 5, 6, 7, 8, 9] rfl
  have hD : va_D A (wTd g q tx (t_next tx (wset tz 3 0)) a w) := hD.sub [10, 11, 0, 1, 2, 3, 4, 5, 6, 7, 8, 9] (by decide) rfl
  refine lv_aload_n hx hb dX3_readInto_9 rfl (lv_at hl 0 rfl) ?_
  refine lv_aload_n hx hb dX3_readInto_10 rfl (lv_at hl 1 rfl) ?_
  refine q_cEi (z := bz (rh_r tx (t_next tx (wset tz 3 0)) = true)) (b := (q 0)) (As := [.ref (a 0)]) (rest := []) (w1 := wTd g q tx (rh_tz tx (t_next tx (wset tz 3 0))) a (rh_w tx (t_next tx (wset tz 3 0)) w)) ⟨hx, hb, hml, hown, hts⟩ hP hD hK hT hS hA (kX3_readHouse l dC dI g tt _ q tx (t_next tx (wset tz 3 0)) a w (hr0)) (cwV 1 hts gX3_readInto_X3_readHouse rfl rfl rfl (by decide +kernel) ⟨Nat.le_of_ble_eq_true rfl, Nat.le_of_ble_eq_true rfl⟩) 0 2 rfl rfl rfl rfl hl.1 rfl (Nat.le_of_ble_eq_true rfl) dX3_readInto_11 ⟨Nat.le_of_ble_eq_true rfl, Nat.le_of_ble_eq_true rfl⟩ (fun H locs hP hD hS => ?_)
  refine q_bz_ne (tgt := 25) hx hb dX3_readInto_14 (by decide) (fun c_1 => ?_) (fun c_1 => ?_)
  · refine q_iconst hx hb dX3_readInto_25 ?_
    refine lv_istore_n (lv' := [(2, .int (zI 1)), (0, .ref (q 0)), (1, .ref (a 0))]) hx hb dX3_readInto_26 rfl hl (by decide) rfl (fun ls hl => ?_)
    refine lv_aload_n hx hb dX3_readInto_27 rfl (lv_at hl 1 rfl) ?_
    refine q_cVqv (b := (q 0)) (As := []) (rest := []) (wc := wTx g q tx (rh_tz tx (t_next tx (wset tz 3 0)))) (w1 := wTx g q tx (t_next tx (rh_tz tx (t_next tx (wset tz 3 0))))) (wr := [(a 0, .inr (1, [.int (zI ((rh_w tx (t_next tx (wset tz 3 0)) w) 1)), .int (zI ((rh_w tx (t_next tx (wset tz 3 0)) w) 0)), .int (zI ((rh_w tx (t_next tx (wset tz 3 0)) w) 2)), .int (zI ((rh_w tx (t_next tx (wset tz 3 0)) w) 3)), .int (zI ((rh_w tx (t_next tx (wset tz 3 0)) w) 4)), .ref (a 1), .ref (a 2), .ref (a 3), .ref (a 4), .ref (a 5), .ref (a 6), .ref (a 7), .ref (a 8), .ref (a 9)])), (a 1, .inl (g 0, 4, .inl (fun k => zI ((rh_w tx (t_next tx (wset tz 3 0)) w) (5 + k))))), (a 2, .inl (g 0, 4, .inl (fun k => zI ((rh_w tx (t_next tx (wset tz 3 0)) w) (9 + k))))), (a 3, .inl (g 0, 2, .inl (fun k => zI ((rh_w tx (t_next tx (wset tz 3 0)) w) (13 + k))))), (a 4, .inl (g 0, 2, .inl (fun k => zI ((rh_w tx (t_next tx (wset tz 3 0)) w) (15 + k))))), (a 5, .inl (g 0, 6, .inl (fun k => zI ((rh_w tx (t_next tx (wset tz 3 0)) w) (17 + 4 * k))))), (a 6, .inl (g 0, 6, .inl (fun k => zI ((rh_w tx (t_next tx (wset tz 3 0)) w) (18 + 4 * k))))), (a 7, .inl (g 0, 6, .inl (fun k => zI ((rh_w tx (t_next tx (wset tz 3 0)) w) (19 + 4 * k))))), (a 8, .inl (g 0, 6, .inl (fun k => zI ((rh_w tx (t_next tx (wset tz 3 0)) w) (20 + 4 * k))))), (a 9, .inl (g 0, 8, .inl (fun k => zI ((rh_w tx (t_next tx (wset tz 3 0)) w) (41 + k)))))]) [0, 1] [2, 3, 4, 5, 6, 7, 8, 9, 10, 11] ⟨hx, hb, hml, hown, hts⟩ hP hD hK hT hS hA (kX3_nextToken l dC dI g tt _ q tx (rh_tz tx (t_next tx (wset tz 3 0))) ((tsok_rh hr0).k)) (cwV 0 hts gX3_readInto_X3_nextToken rfl rfl rfl (by decide +kernel) ⟨Nat.le_of_ble_eq_true rfl, Nat.le_of_ble_eq_true rfl⟩) rfl rfl (by decide) (by decide) (by decide) 0 2 rfl rfl rfl rfl hl.1 rfl (Nat.le_of_ble_eq_true rfl) dX3_readInto_28 ⟨Nat.le_of_ble_eq_true rfl, Nat.le_of_ble_eq_true rfl⟩ (fun H locs hP hD hS => ?_)
    have hP : va_P (dC, dI) vwCl (wTd g q tx (t_next tx (rh_tz tx (t_next tx (wset tz 3 0)))) a (rh_w tx (t_next tx (wset tz 3 0)) w)) H := hP.sub [10, 11, 0, 1, 2, 3, 4, 5, 6, 7, 8, 9] rfl
    have hD : va_D A (wTd g q tx (t_next tx (rh_tz tx (t_next tx (wset tz 3 0)))) a (rh_w tx (t_next tx (wset tz 3 0)) w)) := hD.sub [10, 11, 0, 1, 2, 3, 4, 5, 6, 7, 8, 9] (by decide) rfl
    refine w_loopQ (σ := Int × (Int → Int) × (Int → Int)) (fun a9 H locs ls => (1 ≤ a9.1 ∧ a9.1 ≤ 150) ∧ (tsok tx a9.2.1) ∧ (lok a9.2.2) ∧ (rd tx tz w = riI tx a9.2.1 a9.2.2 a9.1) ∧ va_P (dC, dI) vwCl (wTd g q tx a9.2.1 a a9.2.2) H ∧ va_D A (wTd g q tx a9.2.1 a a9.2.2) ∧ va_S A s.heap H locs ∧ lv_has ls 3 [(0, .ref (q 0)), (1, .ref (a 0)), (2, .int (zI a9.1))]) (fun a9 => (150 - a9.1).toNat) ?_ (1, t_next tx (rh_tz tx (t_next tx (wset tz 3 0))), rh_w tx (t_next tx (wset tz 3 0)) w) ?_
    · rintro ⟨n, z, v⟩ H locs ls ⟨hn, hz, hl4, hs, hP, hD, hS, hl⟩ ih31
      have hn : 1 ≤ n ∧ n ≤ 150 := hn
      have hz : tsok tx z := hz
      have hl4 : lok v := hl4
      have hs : rd tx tz w = riI tx z v n := hs
      have hP : va_P (dC, dI) vwCl (wTd g q tx z a v) H := hP
      have hD : va_D A (wTd g q tx z a v) := hD
      have hl : lv_has ls 3 [(0, .ref (q 0)), (1, .ref (a 0)), (2, .int (zI n))] := hl
      have hq1 := hz.2.1
      refine lv_aload_n hx hb dX3_readInto_31 rfl (lv_at hl 0 rfl) ?_
      refine va_get (D := (dC, dI)) (ci := 2) (v := .int (zI (z 1))) (C := RX3) (T := TX3) (N := 6) hx hb hts iX3 hown hK hP 0 rfl rfl 2 (by decide) kf32 (fun _ h9 => h9) rfl dX3_readInto_32 ?_
      refine q_if_eq (tgt := 71) hx hb dX3_readInto_35 (by decide) (by omega) (fun c_2 => ?_) (fun c_2 => ?_)
      · refine lv_iload_n hx hb dX3_readInto_71 rfl (lv_at hl 2 rfl) ?_
        have hPf : va_P (dC, dI) vwCl (wTd g q tx ((rd tx tz w).2.1) a ((rd tx tz w).2.2)) H := by rw [(show ((rd tx tz w).2.1) = z from by first | rw [hs, riI_0 c_2] | rw [hs, riI_end (by omega)] | rw [hs, riI_f (by omega) c_0 c_2] | (unfold rd rd0; rw [if_neg c_2])), (show ((rd tx tz w).2.2) = v from by first | rw [hs, riI_0 c_2] | rw [hs, riI_end (by omega)] | rw [hs, riI_f (by omega) c_0 c_2] | (unfold rd rd0; rw [if_neg c_2]))]; exact hP
        have hDf : va_D A (wTd g q tx ((rd tx tz w).2.1) a ((rd tx tz w).2.2)) := by rw [(show ((rd tx tz w).2.1) = z from by first | rw [hs, riI_0 c_2] | rw [hs, riI_end (by omega)] | rw [hs, riI_f (by omega) c_0 c_2] | (unfold rd rd0; rw [if_neg c_2])), (show ((rd tx tz w).2.2) = v from by first | rw [hs, riI_0 c_2] | rw [hs, riI_end (by omega)] | rw [hs, riI_f (by omega) c_0 c_2] | (unfold rd rd0; rw [if_neg c_2]))]; exact hD
        exact W.iret hx hb hr (fun t9 ht9 hW9 => ⟨⟨_, (), rfl, congrArg zI (show n = (rd tx tz w).1 from by first | rw [hs, riI_0 c_2] | rw [hs, riI_end (by omega)] | rw [hs, riI_f (by omega) c_0 c_2] | (unfold rd rd0; rw [if_neg c_2])), by rw [ht9]; exact hPf, va_K.moved hW9.alike hK, hDf⟩, hS.F ht9⟩) hS.2.2 dX3_readInto_72
      · refine lv_iload_n hx hb dX3_readInto_38 rfl (lv_at hl 2 rfl) ?_
        refine q_sipush hx hb dX3_readInto_39 rfl ?_
        refine q_icmp_ge (tgt := 71) hx hb dX3_readInto_42 (by decide) (by omega) (fun c_3 => ?_) (fun c_3 => ?_)
        · refine lv_iload_n hx hb dX3_readInto_71 rfl (lv_at hl 2 rfl) ?_
          have hPf : va_P (dC, dI) vwCl (wTd g q tx ((rd tx tz w).2.1) a ((rd tx tz w).2.2)) H := by rw [(show ((rd tx tz w).2.1) = z from by first | rw [hs, riI_0 c_3] | rw [hs, riI_end (by omega)] | rw [hs, riI_f (by omega) c_1 c_3] | (unfold rd rd0; rw [if_neg c_3])), (show ((rd tx tz w).2.2) = v from by first | rw [hs, riI_0 c_3] | rw [hs, riI_end (by omega)] | rw [hs, riI_f (by omega) c_1 c_3] | (unfold rd rd0; rw [if_neg c_3]))]; exact hP
          have hDf : va_D A (wTd g q tx ((rd tx tz w).2.1) a ((rd tx tz w).2.2)) := by rw [(show ((rd tx tz w).2.1) = z from by first | rw [hs, riI_0 c_3] | rw [hs, riI_end (by omega)] | rw [hs, riI_f (by omega) c_1 c_3] | (unfold rd rd0; rw [if_neg c_3])), (show ((rd tx tz w).2.2) = v from by first | rw [hs, riI_0 c_3] | rw [hs, riI_end (by omega)] | rw [hs, riI_f (by omega) c_1 c_3] | (unfold rd rd0; rw [if_neg c_3]))]; exact hD
          exact W.iret hx hb hr (fun t9 ht9 hW9 => ⟨⟨_, (), rfl, congrArg zI (show n = (rd tx tz w).1 from by first | rw [hs, riI_0 c_3] | rw [hs, riI_end (by omega)] | rw [hs, riI_f (by omega) c_1 c_3] | (unfold rd rd0; rw [if_neg c_3])), by rw [ht9]; exact hPf, va_K.moved hW9.alike hK, hDf⟩, hS.F ht9⟩) hS.2.2 dX3_readInto_72
        · refine lv_aload_n hx hb dX3_readInto_45 rfl (lv_at hl 0 rfl) ?_
          refine lv_aload_n hx hb dX3_readInto_46 rfl (lv_at hl 1 rfl) ?_
          refine q_cEi (z := bz (it_r tx z v = true)) (b := (q 0)) (As := [.ref (a 0)]) (rest := []) (w1 := wTd g q tx (it_tz tx z v) a (it_w tx z v)) ⟨hx, hb, hml, hown, hts⟩ hP hD hK hT hS hA (kX3_readItem l dC dI g tt _ q tx z a v (hz) (hl4)) (cwV 1 hts gX3_readInto_X3_readItem rfl rfl rfl (by decide +kernel) ⟨Nat.le_of_ble_eq_true rfl, Nat.le_of_ble_eq_true rfl⟩) 0 2 rfl rfl rfl rfl hl.1 rfl (Nat.le_of_ble_eq_true rfl) dX3_readInto_47 ⟨Nat.le_of_ble_eq_true rfl, Nat.le_of_ble_eq_true rfl⟩ (fun H locs hP hD hS => ?_)
          refine q_bz_ne (tgt := 61) hx hb dX3_readInto_50 (by decide) (fun c_4 => ?_) (fun c_4 => ?_)
          · refine lv_iinc (v := zI (n + 1)) (lv' := [(2, .int (zI (n + 1))), (0, .ref (q 0)), (1, .ref (a 0))]) hx hb dX3_readInto_61 hl (k := 2) rfl (zI_add _ _) (by decide) rfl (fun ls hl => ?_)
            refine lv_aload_n hx hb dX3_readInto_64 rfl (lv_at hl 1 rfl) ?_
            refine q_cVqv (b := (q 0)) (As := []) (rest := []) (wc := wTx g q tx (it_tz tx z v)) (w1 := wTx g q tx (t_next tx (it_tz tx z v))) (wr := [(a 0, .inr (1, [.int (zI ((it_w tx z v) 1)), .int (zI ((it_w tx z v) 0)), .int (zI ((it_w tx z v) 2)), .int (zI ((it_w tx z v) 3)), .int (zI ((it_w tx z v) 4)), .ref (a 1), .ref (a 2), .ref (a 3), .ref (a 4), .ref (a 5), .ref (a 6), .ref (a 7), .ref (a 8), .ref (a 9)])), (a 1, .inl (g 0, 4, .inl (fun k => zI ((it_w tx z v) (5 + k))))), (a 2, .inl (g 0, 4, .inl (fun k => zI ((it_w tx z v) (9 + k))))), (a 3, .inl (g 0, 2, .inl (fun k => zI ((it_w tx z v) (13 + k))))), (a 4, .inl (g 0, 2, .inl (fun k => zI ((it_w tx z v) (15 + k))))), (a 5, .inl (g 0, 6, .inl (fun k => zI ((it_w tx z v) (17 + 4 * k))))), (a 6, .inl (g 0, 6, .inl (fun k => zI ((it_w tx z v) (18 + 4 * k))))), (a 7, .inl (g 0, 6, .inl (fun k => zI ((it_w tx z v) (19 + 4 * k))))), (a 8, .inl (g 0, 6, .inl (fun k => zI ((it_w tx z v) (20 + 4 * k))))), (a 9, .inl (g 0, 8, .inl (fun k => zI ((it_w tx z v) (41 + k)))))]) [0, 1] [2, 3, 4, 5, 6, 7, 8, 9, 10, 11] ⟨hx, hb, hml, hown, hts⟩ hP hD hK hT hS hA (kX3_nextToken l dC dI g tt _ q tx (it_tz tx z v) ((tsok_it hz).k)) (cwV 0 hts gX3_readInto_X3_nextToken rfl rfl rfl (by decide +kernel) ⟨Nat.le_of_ble_eq_true rfl, Nat.le_of_ble_eq_true rfl⟩) rfl rfl (by decide) (by decide) (by decide) 0 2 rfl rfl rfl rfl hl.1 rfl (Nat.le_of_ble_eq_true rfl) dX3_readInto_65 ⟨Nat.le_of_ble_eq_true rfl, Nat.le_of_ble_eq_true rfl⟩ (fun H locs hP hD hS => ?_)
            have hP : va_P (dC, dI) vwCl (wTd g q tx (t_next tx (it_tz tx z v)) a (it_w tx z v)) H := hP.sub [10, 11, 0, 1, 2, 3, 4, 5, 6, 7, 8, 9] rfl
            have hD : va_D A (wTd g q tx (t_next tx (it_tz tx z v)) a (it_w tx z v)) := hD.sub [10, 11, 0, 1, 2, 3, 4, 5, 6, 7, 8, 9] (by decide) rfl
            refine lv_goto (tgt := 31) hx hb dX3_readInto_68 (by decide) ?_
            exact ih31 (n + 1, t_next tx (it_tz tx z v), it_w tx z v) _ _ ls ⟨(show 1 ≤ (n + 1) ∧ (n + 1) ≤ 150 from by omega), (show tsok tx (t_next tx (it_tz tx z v)) from tsok_next (tsok_it hz)), (show lok (it_w tx z v) from lok_it hl4), (show rd tx tz w = riI tx (t_next tx (it_tz tx z v)) (it_w tx z v) (n + 1) from hs.trans (riI_s (by omega) c_2 c_4)), hP, hD, hS, lv_sub hl [1, 2, 0] rfl⟩ (by show (150 - (n + 1)).toNat < (150 - n).toNat; omega)
          · refine q_bipush hx hb dX3_readInto_53 rfl ?_
            refine lv_aload_n hx hb dX3_readInto_55 rfl (lv_at hl 0 rfl) ?_
            refine va_get (D := (dC, dI)) (ci := 2) (v := .int (zI ((it_tz tx z v) 2))) (C := RX3) (T := TX3) (N := 6) hx hb hts iX3 hown hK hP 0 rfl rfl 3 (by decide) kf29 (fun _ h9 => h9) rfl dX3_readInto_56 ?_
            refine q_isub hx hb dX3_readInto_59 ?_
            have hPf : va_P (dC, dI) vwCl (wTd g q tx ((rd tx tz w).2.1) a ((rd tx tz w).2.2)) H := by rw [(show ((rd tx tz w).2.1) = it_tz tx z v from by first | rw [hs, riI_0 c_4] | rw [hs, riI_end (by omega)] | rw [hs, riI_f (by omega) c_2 c_4] | (unfold rd rd0; rw [if_neg c_4])), (show ((rd tx tz w).2.2) = it_w tx z v from by first | rw [hs, riI_0 c_4] | rw [hs, riI_end (by omega)] | rw [hs, riI_f (by omega) c_2 c_4] | (unfold rd rd0; rw [if_neg c_4]))]; exact hP
            have hDf : va_D A (wTd g q tx ((rd tx tz w).2.1) a ((rd tx tz w).2.2)) := by rw [(show ((rd tx tz w).2.1) = it_tz tx z v from by first | rw [hs, riI_0 c_4] | rw [hs, riI_end (by omega)] | rw [hs, riI_f (by omega) c_2 c_4] | (unfold rd rd0; rw [if_neg c_4])), (show ((rd tx tz w).2.2) = it_w tx z v from by first | rw [hs, riI_0 c_4] | rw [hs, riI_end (by omega)] | rw [hs, riI_f (by omega) c_2 c_4] | (unfold rd rd0; rw [if_neg c_4]))]; exact hD
            exact W.iret hx hb hr (fun t9 ht9 hW9 => ⟨⟨_, (), rfl, congrArg zI (show (-10) - ((it_tz tx z v) 2) = (rd tx tz w).1 from by first | rw [hs, riI_0 c_4] | rw [hs, riI_end (by omega)] | rw [hs, riI_f (by omega) c_2 c_4] | (unfold rd rd0; rw [if_neg c_4])), by rw [ht9]; exact hPf, va_K.moved hW9.alike hK, hDf⟩, hS.F ht9⟩) hS.2.2 dX3_readInto_60
    · exact ⟨(show 1 ≤ 1 ∧ 1 ≤ 150 from by omega), (show tsok tx (t_next tx (rh_tz tx (t_next tx (wset tz 3 0)))) from tsok_next (tsok_rh hr0)), (show lok (rh_w tx (t_next tx (wset tz 3 0)) w) from lok_rh c_1), (show rd tx tz w = riI tx (t_next tx (rh_tz tx (t_next tx (wset tz 3 0)))) (rh_w tx (t_next tx (wset tz 3 0)) w) 1 from by unfold rd rd0; rw [if_pos c_1]), hP, hD, hS, lv_sub hl [1, 2, 0] rfl⟩
  · refine q_bipush hx hb dX3_readInto_17 rfl ?_
    refine lv_aload_n hx hb dX3_readInto_19 rfl (lv_at hl 0 rfl) ?_
    refine va_get (D := (dC, dI)) (ci := 2) (v := .int (zI ((rh_tz tx (t_next tx (wset tz 3 0))) 2))) (C := RX3) (T := TX3) (N := 6) hx hb hts iX3 hown hK hP 0 rfl rfl 3 (by decide) kf29 (fun _ h9 => h9) rfl dX3_readInto_20 ?_
    refine q_isub hx hb dX3_readInto_23 ?_
    have hPf : va_P (dC, dI) vwCl (wTd g q tx ((rd tx tz w).2.1) a ((rd tx tz w).2.2)) H := by rw [(show ((rd tx tz w).2.1) = rh_tz tx (t_next tx (wset tz 3 0)) from by first | rw [hs, riI_0 c_1] | rw [hs, riI_end (by omega)] | rw [hs, riI_f (by omega) c_0 c_1] | (unfold rd rd0; rw [if_neg c_1])), (show ((rd tx tz w).2.2) = rh_w tx (t_next tx (wset tz 3 0)) w from by first | rw [hs, riI_0 c_1] | rw [hs, riI_end (by omega)] | rw [hs, riI_f (by omega) c_0 c_1] | (unfold rd rd0; rw [if_neg c_1]))]; exact hP
    have hDf : va_D A (wTd g q tx ((rd tx tz w).2.1) a ((rd tx tz w).2.2)) := by rw [(show ((rd tx tz w).2.1) = rh_tz tx (t_next tx (wset tz 3 0)) from by first | rw [hs, riI_0 c_1] | rw [hs, riI_end (by omega)] | rw [hs, riI_f (by omega) c_0 c_1] | (unfold rd rd0; rw [if_neg c_1])), (show ((rd tx tz w).2.2) = rh_w tx (t_next tx (wset tz 3 0)) w from by first | rw [hs, riI_0 c_1] | rw [hs, riI_end (by omega)] | rw [hs, riI_f (by omega) c_0 c_1] | (unfold rd rd0; rw [if_neg c_1]))]; exact hD
    exact W.iret hx hb hr (fun t9 ht9 hW9 => ⟨⟨_, (), rfl, congrArg zI (show (-10) - ((rh_tz tx (t_next tx (wset tz 3 0))) 2) = (rd tx tz w).1 from by first | rw [hs, riI_0 c_1] | rw [hs, riI_end (by omega)] | rw [hs, riI_f (by omega) c_0 c_1] | (unfold rd rd0; rw [if_neg c_1])), by rw [ht9]; exact hPf, va_K.moved hW9.alike hK, hDf⟩, hS.F ht9⟩) hS.2.2 dX3_readInto_24
