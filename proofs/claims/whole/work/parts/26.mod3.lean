set_option maxHeartbeats 4000000 in
set_option maxRecDepth 100000 in
theorem kX6_comess (l : Launch) (dC : Nat → ClassId) (dI : Nat → Nat → Nat) (g : Nat → ClassId) (tt : Nat → Nat) (sz : Nat) (q : Nat → Nat) (M : Nat → Int → Int) (x1 x2 x3 x4 : Int) (hw : hok (M 1)) (h1 : 0 ≤ x1 ∧ x1 ≤ M 1 1) (h2 : 0 ≤ x2 ∧ x2 ≤ 2000) (h3 : 0 ≤ x3 ∧ x3 ≤ 15) (h4 : 0 ≤ x4 ∧ x4 ≤ 2) : Met l yX6_comes wsX6_comes ({ frames := 5, cells := 0, slots := 0, locals := 115 }) (va_Pc [.ref (q 0), .int (zI x1), .int (zI x2), .int (zI x3), .int (zI x4)] (eQ (dC, dI) (wTy g) (wMo g q M) tt sz)) (va_Qi (fun r (_ : Unit) => r = zI (bz (¬ m_ck (M 1) x1 x2 x3 x4 = -1))) (fQ (dC, dI) (wTy g) (va_A (wMo g q M) sz) (wMo g q (m78 M (cmS (M 1) x1 x2 x3 x4 (M 0 7, M 0 8))))) (va_A (wMo g q M) sz)) 0 0 (va_A (wMo g q M) sz) := by
  have h := kX6_comes l dC dI g tt sz q M x1 x2 x3 x4 hw h1 h2 h3 h4
  rw [m_cmM_78] at h
  exact h
set_option maxHeartbeats 4000000 in
set_option maxRecDepth 100000 in
theorem kX6_comesf (l : Launch) (dC : Nat → ClassId) (dI : Nat → Nat → Nat) (g : Nat → ClassId) (tt : Nat → Nat) (sz : Nat) (q : Nat → Nat) (M : Nat → Int → Int) (x1 x2 x3 x4 : Int) (hw : hok (M 1)) (h1 : 0 ≤ x1 ∧ x1 ≤ M 1 1) (h2 : 0 ≤ x2 ∧ x2 ≤ 2000) (h3 : x3 = 15) (h4 : 0 ≤ x4 ∧ x4 ≤ 2) : Met l yX6_comes wsX6_comes ({ frames := 5, cells := 0, slots := 0, locals := 115 }) (va_Pc [.ref (q 0), .int (zI x1), .int (zI x2), .int (zI x3), .int (zI x4)] (eQ (dC, dI) (wTy g) (wMo g q M) tt sz)) (va_Qi (fun r (_ : Unit) => r = zI (bz (¬ c_wo (M 1) x1 x2 (wyy x4) = -1))) (fQ (dC, dI) (wTy g) (va_A (wMo g q M) sz) (wMo g q (m78 M (cgS (M 1) x1 (wyy x4) x2 (M 0 7, M 0 8))))) (va_A (wMo g q M) sz)) 0 0 (va_A (wMo g q M) sz) := by
  subst h3
  have h := kX6_comes l dC dI g tt sz q M x1 x2 15 x4 hw h1 h2 (by decide) h4
  rw [m_cmM_eq hw h4, m_cf_78] at h
  simp only [m_ck_wo hw h4] at h
  exact h
set_option maxHeartbeats 4000000 in
set_option maxRecDepth 100000 in
theorem kX6_comesa (l : Launch) (dC : Nat → ClassId) (dI : Nat → Nat → Nat) (g : Nat → ClassId) (tt : Nat → Nat) (sz : Nat) (q : Nat → Nat) (M : Nat → Int → Int) (x1 x2 x3 x4 : Int) (hw : hok (M 1)) (h1 : 0 ≤ x1 ∧ x1 ≤ M 1 1) (h2 : 0 ≤ x2 ∧ x2 ≤ 2000) (h3 : x3 = 15) (h4 : x4 = 2) : Met l yX6_comes wsX6_comes ({ frames := 5, cells := 0, slots := 0, locals := 115 }) (va_Pc [.ref (q 0), .int (zI x1), .int (zI x2), .int (zI x3), .int (zI x4)] (eQ (dC, dI) (wTy g) (wMo g q M) tt sz)) (va_Qi (fun r (_ : Unit) => r = zI (bz (¬ c_wo (M 1) x1 x2 (-1) = -1))) (fQ (dC, dI) (wTy g) (va_A (wMo g q M) sz) (wMo g q (m78 M (cgS (M 1) x1 (-1) x2 (M 0 7, M 0 8))))) (va_A (wMo g q M) sz)) 0 0 (va_A (wMo g q M) sz) := by
  subst h4
  exact kX6_comesf l dC dI g tt sz q M x1 x2 x3 2 hw h1 h2 h3 (by decide)
set_option maxHeartbeats 4000000 in
set_option maxRecDepth 100000 in
theorem kX6_comesw (l : Launch) (dC : Nat → ClassId) (dI : Nat → Nat → Nat) (g : Nat → ClassId) (tt : Nat → Nat) (sz : Nat) (q : Nat → Nat) (M : Nat → Int → Int) (x1 x2 x3 x4 : Int) (hw : hok (M 1)) (h1 : 0 ≤ x1 ∧ x1 ≤ M 1 1) (h2 : 0 ≤ x2 ∧ x2 ≤ 2000) (h3 : x3 = 15) (h4 : 0 ≤ x4 ∧ x4 ≤ 1) : Met l yX6_comes wsX6_comes ({ frames := 5, cells := 0, slots := 0, locals := 115 }) (va_Pc [.ref (q 0), .int (zI x1), .int (zI x2), .int (zI x3), .int (zI x4)] (eQ (dC, dI) (wTy g) (wMo g q M) tt sz)) (va_Qi (fun r (_ : Unit) => r = zI (bz (¬ c_wo (M 1) x1 x2 x4 = -1))) (fQ (dC, dI) (wTy g) (va_A (wMo g q M) sz) (wMo g q (m78 M (cgS (M 1) x1 x4 x2 (M 0 7, M 0 8))))) (va_A (wMo g q M) sz)) 0 0 (va_A (wMo g q M) sz) := by
  have h := kX6_comesf l dC dI g tt sz q M x1 x2 x3 x4 hw h1 h2 h3 (by omega)
  rw [show wyy x4 = x4 from if_neg (by omega)] at h
  exact h
theorem of_S {w : Int → Int} {x1 x2 : Int} : sumR (ofF w x1 x2) 120 = ofS w x1 x2 := by
  unfold ofS
  split
  · rename_i h; congr 1; funext m; unfold ofF; rw [if_pos h]
  · rename_i h; congr 1; funext m; unfold ofF; rw [if_neg h]
theorem of_N {w : Int → Int} {x1 x2 : Int} : sumR (c_mwN w x1 (-1)) 120 = ofN w x1 x2 := by
  unfold ofN
  split
  · congr 1
    funext m
    unfold c_mwN c_upN
    by_cases h : c_wo w x1 m (-1) = -1
    · rw [if_pos h, if_pos (c_w1_no h)]
    · rw [if_neg h, if_neg (fun h9 => h (c_w1_ne.mp h9))]
  · rfl
theorem of_b (w : Int → Int) (x1 x2 : Int) {N : Int} (h : 0 ≤ N ∧ N ≤ 120) : 0 ≤ sumR (ofF w x1 x2) N ∧ sumR (ofF w x1 x2) N ≤ 3240 := by
  have h1 := sumR_b (f := ofF w x1 x2) (a := 0) (b := 27) h.1 (fun k _ _ => by
    have := c_wo_r w x1 k (-1); have := c_w1_r w x1 k
    unfold ofF c_upF c_mwF
    (repeat' split) <;> omega)
  omega
set_option maxHeartbeats 4000000 in
set_option maxRecDepth 100000 in
theorem kX6_tells (l : Launch) (dC : Nat → ClassId) (dI : Nat → Nat → Nat) (g : Nat → ClassId) (tt : Nat → Nat) (sz : Nat) (q : Nat → Nat) (M : Nat → Int → Int) (x1 x2 : Int) (h1 : (0 ≤ x1 ∧ x1 < 1000000000) ∧ (1 ≤ x2 ∧ x2 < 1000000000)) : Met l yX6_tells wsX6_tells ({ frames := 0, cells := 0, slots := 0, locals := 0 }) (va_Pc [.ref (q 0), .long (zL x1), .long (zL x2)] (eQ (dC, dI) (wTy g) (wMo g q M) tt sz)) (va_Qi (fun r (_ : Unit) => r = zI (1)) (fQ (dC, dI) (wTy g) (va_A (wMo g q M) sz) (wMo g q (m_tel M x1 x2))) (va_A (wMo g q M) sz)) 0 0 (va_A (wMo g q M) sz) := by
  refine Met.ofW (cc := cX6_tells) (maxL := 11) (ret := (some .int)) (by decide) rfl ?_
  intro p e s m args below meth c s₁ B hml hv
  obtain ⟨rfl, hsz, hP, hK, hD0, hT⟩ := hv
  have hx := B.exec
  have hb := B.bytes
  have hr := B.returns
  have hts := atoms_spec (ws := wsX6_tells) B.pre
  have hown : s.vm.findClass RX6 = some m.cls := findClass_of_methodNamed B.named
  have hlocks := B.notSynchronized
  subst hsz
  have hD := hD0.self (sz := s.heap.size)
  generalize hAe : va_A (wMo g q M) s.heap.size = A at hD hT ⊢
  have hA : ∀ q : Nat, s.heap.size ≤ q → A q := fun q h => by rw [← hAe]; exact Or.inr h
  have hS : va_S A s.heap s.heap [] := va_S.rf
  have hl := lv_entry ([.ref (q 0), .long (zL x1), .long (zL x2)]) (n := 11) (Nat.le_of_ble_eq_true rfl)
  rw [lg_entry_eq]
  generalize (lg_sl ([.ref (q 0), .long (zL x1), .long (zL x2)]) ++ List.replicate (11 - (lg_sl ([.ref (q 0), .long (zL x1), .long (zL x2)])).length) Slot.unset).toArray = ls at hl ⊢
  have hl : lv_has ls 11 [(0, .ref (q 0)), (1, .long (zL x1)), (3, .long (zL x2))] := hl
  have kf176 := hts (.fieldLink RX6 176 "WrongWayModel" "above" "J") (by decide +kernel)
  have kf23 := hts (.fieldLink RX6 23 "WrongWayModel" "below" "J") (by decide +kernel)
  have iX6 := (fun w h => List.mem_cons_of_mem _ (List.mem_append_right _ h) : ∀ w ∈ u_ws RX6 TX6 15, w ∈ wsX6_tells)
  refine lv_lload_n hx hb dX6_tells_0 rfl (lv_at hl 1 rfl) ?_
  refine lv_lstore (lv' := [(5, .long (zL x1)), (0, .ref (q 0)), (1, .long (zL x1)), (3, .long (zL x2))]) hx hb dX6_tells_1 hl (by decide) rfl (fun ls hl => ?_)
  refine lv_lload_n hx hb dX6_tells_3 rfl (lv_at hl 3 rfl) ?_
  refine lv_lstore (lv' := [(7, .long (zL x2)), (5, .long (zL x1)), (0, .ref (q 0)), (1, .long (zL x1)), (3, .long (zL x2))]) hx hb dX6_tells_4 hl (by decide) rfl (fun ls hl => ?_)
  refine w_loopP (σ := Int × Int) (fun a9 ls => ((0 ≤ a9.1 ∧ a9.1 < 1000000000) ∧ (0 ≤ a9.2 ∧ a9.2 < 1000000000)) ∧ (gz x1 x2 = gz a9.1 a9.2) ∧ lv_has ls 11 [(0, .ref (q 0)), (1, .long (zL x1)), (3, .long (zL x2)), (5, .long (zL a9.1)), (7, .long (zL a9.2))]) (fun a9 => a9.2.toNat) ?_ (x1, x2) ?_
  · rintro ⟨u, v⟩ ls ⟨hu, hs, hl⟩ ih6
    have hu : (0 ≤ u ∧ u < 1000000000) ∧ (0 ≤ v ∧ v < 1000000000) := hu
    have hs : gz x1 x2 = gz u v := hs
    have hl : lv_has ls 11 [(0, .ref (q 0)), (1, .long (zL x1)), (3, .long (zL x2)), (5, .long (zL u)), (7, .long (zL v))] := hl
    refine lv_lload hx hb dX6_tells_6 (lv_at hl 4 rfl) ?_
    refine q_lconst hx hb 0 dX6_tells_8 rfl ?_
    refine q_lcmp hx hb dX6_tells_9 (by omega) ?_
    have := cmpz_r v 0
    have := cmpz_s v 0
    refine q_if_eq (tgt := 31) hx hb dX6_tells_10 (by decide) (by omega) (fun c_1 => ?_) (fun c_1 => ?_)
    · have hv0 : v = 0 := by omega
      have hg : gz x1 x2 = u := by rw [hs, hv0, gz_0 (by omega)]
      have hgp := gz_pos (a := x1) (b := x2) (by omega)
      refine lv_aload_n hx hb dX6_tells_31 rfl (lv_at hl 0 rfl) ?_
      refine lv_lload_n hx hb dX6_tells_32 rfl (lv_at hl 1 rfl) ?_
      refine lv_lload hx hb dX6_tells_33 (lv_at hl 3 rfl) ?_
      refine q_ldiv hx hb dX6_tells_35 (by omega) ?_
      refine va_put (D := (dC, dI)) (ci := 5) (v := .long (zL (x1 / u))) (ty := .long) (C := RX6) (T := TX6) (N := 15) hx hb hts iX6 tyX6 tyX6_ok nmX6 hown hK hP hD hS 0 rfl rfl 5 (by decide) kf176 (fun _ h9 => h9) rfl (by decide +kernel) rfl rfl (Nat.le_of_ble_eq_true rfl) dX6_tells_36 (fun H locs hP hD hS => ?_)
      have hP : va_P (dC, dI) vwCl (wMo g q (mset M 0 1 (x1 / u))) H := hP
      have hD : va_D A (wMo g q (mset M 0 1 (x1 / u))) := hD
      refine lv_aload_n hx hb dX6_tells_39 rfl (lv_at hl 0 rfl) ?_
      refine lv_lload_n hx hb dX6_tells_40 rfl (lv_at hl 2 rfl) ?_
      refine lv_lload hx hb dX6_tells_41 (lv_at hl 3 rfl) ?_
      refine q_ldiv hx hb dX6_tells_43 (by omega) ?_
      refine va_put (D := (dC, dI)) (ci := 5) (v := .long (zL (x2 / u))) (ty := .long) (C := RX6) (T := TX6) (N := 15) hx hb hts iX6 tyX6 tyX6_ok nmX6 hown hK hP hD hS 0 rfl rfl 6 (by decide) kf23 (fun _ h9 => h9) rfl (by decide +kernel) rfl rfl (Nat.le_of_ble_eq_true rfl) dX6_tells_44 (fun H locs hP hD hS => ?_)
      have hP : va_P (dC, dI) vwCl (wMo g q (mset (mset M 0 1 (x1 / u)) 0 2 (x2 / u))) H := hP
      have hD : va_D A (wMo g q (mset (mset M 0 1 (x1 / u)) 0 2 (x2 / u))) := hD
      refine q_iconst hx hb dX6_tells_47 ?_
      have hPf : va_P (dC, dI) vwCl (wMo g q (m_tel M x1 x2)) H := by rw [(show (m_tel M x1 x2) = mset (mset M 0 1 (x1 / u)) 0 2 (x2 / u) from by unfold m_tel; rw [hg])]; exact hP
      have hDf : va_D A (wMo g q (m_tel M x1 x2)) := by rw [(show (m_tel M x1 x2) = mset (mset M 0 1 (x1 / u)) 0 2 (x2 / u) from by unfold m_tel; rw [hg])]; exact hD
      exact W.iret hx hb hr (fun t9 ht9 hW9 => ⟨⟨_, (), rfl, congrArg zI (show 1 = 1 from rfl), by rw [ht9]; exact hPf, va_K.moved hW9.alike hK, hDf⟩, hS.F ht9⟩) hS.2.2 dX6_tells_48
    · refine lv_lload hx hb dX6_tells_13 (lv_at hl 3 rfl) ?_
      refine lv_lload hx hb dX6_tells_15 (lv_at hl 4 rfl) ?_
      refine q_lrem hx hb dX6_tells_17 (by omega) ?_
      refine lv_lstore (lv' := [(9, .long (zL (u % v))), (0, .ref (q 0)), (1, .long (zL x1)), (3, .long (zL x2)), (5, .long (zL u)), (7, .long (zL v))]) hx hb dX6_tells_18 hl (by decide) rfl (fun ls hl => ?_)
      refine lv_lload hx hb dX6_tells_20 (lv_at hl 5 rfl) ?_
      refine lv_lstore (lv' := [(5, .long (zL v)), (9, .long (zL (u % v))), (0, .ref (q 0)), (1, .long (zL x1)), (3, .long (zL x2)), (7, .long (zL v))]) hx hb dX6_tells_22 hl (by decide) rfl (fun ls hl => ?_)
      refine lv_lload hx hb dX6_tells_24 (lv_at hl 1 rfl) ?_
      refine lv_lstore (lv' := [(7, .long (zL (u % v))), (5, .long (zL v)), (9, .long (zL (u % v))), (0, .ref (q 0)), (1, .long (zL x1)), (3, .long (zL x2))]) hx hb dX6_tells_26 hl (by decide) rfl (fun ls hl => ?_)
      refine lv_goto (tgt := 6) hx hb dX6_tells_28 (by decide) ?_
      exact ih6 (v, u % v) ls ⟨(show (0 ≤ v ∧ v < 1000000000) ∧ (0 ≤ (u % v) ∧ (u % v) < 1000000000) from by have h8 := Int.emod_nonneg u (show v ≠ 0 by omega); have h7 := Int.emod_lt_of_pos u (show 0 < v by omega); omega), (show gz x1 x2 = gz v (u % v) from hs.trans (gz_s (by omega) (by omega)).symm), lv_sub hl [3, 4, 5, 1, 0] rfl⟩ (by show (u % v).toNat < v.toNat; have h7 := Int.emod_lt_of_pos u (show 0 < v by omega); have h8 := Int.emod_nonneg u (show v ≠ 0 by omega); omega)
  · exact ⟨(show (0 ≤ x1 ∧ x1 < 1000000000) ∧ (0 ≤ x2 ∧ x2 < 1000000000) from by omega), (show gz x1 x2 = gz x1 x2 from rfl), lv_sub hl [2, 3, 4, 1, 0] rfl⟩
set_option maxHeartbeats 4000000 in
set_option maxRecDepth 100000 in
theorem kX6_first (l : Launch) (dC : Nat → ClassId) (dI : Nat → Nat → Nat) (g : Nat → ClassId) (tt : Nat → Nat) (sz : Nat) (q : Nat → Nat) (M : Nat → Int → Int) (x1 x2 x3 : Int) (hw : hok (M 1)) (h1 : rI x1 ∧ rI x2 ∧ rI x3) : Met l yX6_first wsX6_first ({ frames := 6, cells := 0, slots := 0, locals := 142 }) (va_Pc [.ref (q 0), .int (zI x1), .int (zI x2), .int (zI x3)] (eQ (dC, dI) (wTy g) (wMo g q M) tt sz)) (va_Qi (fun r (_ : Unit) => r = zI (ca_first (M 1) x1 x2 x3)) (fQ (dC, dI) (wTy g) (va_A (wMo g q M) sz) (wMo g q (m_first M x1 x2 x3))) (va_A (wMo g q M) sz)) 0 0 (va_A (wMo g q M) sz) := by
  refine Met.ofW (cc := cX6_first) (maxL := 4) (ret := (some .int)) (by decide) rfl ?_
  intro p e s m args below meth c s₁ B hml hv
  obtain ⟨rfl, hsz, hP, hK, hD0, hT⟩ := hv
  have hx := B.exec
  have hb := B.bytes
  have hr := B.returns
  have hts := atoms_spec (ws := wsX6_first) B.pre
  have hown : s.vm.findClass RX6 = some m.cls := findClass_of_methodNamed B.named
  have hlocks := B.notSynchronized
  subst hsz
  have hD := hD0.self (sz := s.heap.size)
  generalize hAe : va_A (wMo g q M) s.heap.size = A at hD hT ⊢
  have hA : ∀ q : Nat, s.heap.size ≤ q → A q := fun q h => by rw [← hAe]; exact Or.inr h
  have hS : va_S A s.heap s.heap [] := va_S.rf
  have hl := lv_entry ([.ref (q 0), .int (zI x1), .int (zI x2), .int (zI x3)]) (n := 4) (Nat.le_of_ble_eq_true rfl)
  rw [lg_entry_eq]
  generalize (lg_sl ([.ref (q 0), .int (zI x1), .int (zI x2), .int (zI x3)]) ++ List.replicate (4 - (lg_sl ([.ref (q 0), .int (zI x1), .int (zI x2), .int (zI x3)])).length) Slot.unset).toArray = ls at hl ⊢
  have hl : lv_has ls 4 [(0, .ref (q 0)), (1, .int (zI x1)), (2, .int (zI x2)), (3, .int (zI x3))] := hl
  have kc170 := hts (.constantLong RX6 170 (2)) (by decide +kernel)
  have kf161 := hts (.fieldLink RX6 161 "WrongWayModel" "comer" "I") (by decide +kernel)
  have kf164 := hts (.fieldLink RX6 164 "WrongWayModel" "coming" "I") (by decide +kernel)
  have iX6 := (fun w h => List.mem_cons_of_mem _ (List.mem_append_right _ h) : ∀ w ∈ u_ws RX6 TX6 15, w ∈ wsX6_first)
  have hb0 := hw.b
  refine lv_aload_n hx hb dX6_first_0 rfl (lv_at hl 0 rfl) ?_
  refine lv_iload_n hx hb dX6_first_1 rfl (lv_at hl 1 rfl) ?_
  refine q_cVi (z := bz (0 ≤ x1 ∧ x1 ≤ M 1 1)) (b := (q 0)) (As := [.int (zI x1)]) (rest := []) ⟨hx, hb, hml, hown, hts⟩ (kX6_isFloor l dC dI g tt q M x1 (hw) (by omega)) (cwV 1 hts gX6_first_X6_isFloor rfl rfl rfl (by decide +kernel) ⟨Nat.le_of_ble_eq_true rfl, Nat.le_of_ble_eq_true rfl⟩) hP hK hT hS 0 5 rfl rfl rfl rfl hl.1 rfl (Nat.le_of_ble_eq_true rfl) dX6_first_2 ⟨Nat.le_of_ble_eq_true rfl, Nat.le_of_ble_eq_true rfl⟩ ?_
  refine q_bz_eq (tgt := 27) hx hb dX6_first_5 (by decide) (fun c_1 => ?_) (fun c_1 => ?_)
  · refine lv_aload_n hx hb dX6_first_27 rfl (lv_at hl 0 rfl) ?_
    refine q_cEi (z := -2) (b := (q 0)) (As := []) (rest := []) (w1 := wMo g q (mbad M)) ⟨hx, hb, hml, hown, hts⟩ hP hD hK hT hS hA (kX6_bad l dC dI g tt _ q M) (cwV 0 hts gX6_first_X6_bad rfl rfl rfl (by decide +kernel) ⟨Nat.le_of_ble_eq_true rfl, Nat.le_of_ble_eq_true rfl⟩) 0 5 rfl rfl rfl rfl hl.1 rfl (Nat.le_of_ble_eq_true rfl) dX6_first_28 ⟨Nat.le_of_ble_eq_true rfl, Nat.le_of_ble_eq_true rfl⟩ (fun H locs hP hD hS => ?_)
    have hPf : va_P (dC, dI) vwCl (wMo g q (m_first M x1 x2 x3)) H := by rw [(show (m_first M x1 x2 x3) = mbad M from by unfold m_first; first | (rw [if_neg (by omega)]; done) | (rw [if_pos (by omega), e9]; done) | (rw [if_pos (by omega)]; done))]; exact hP
    have hDf : va_D A (wMo g q (m_first M x1 x2 x3)) := by rw [(show (m_first M x1 x2 x3) = mbad M from by unfold m_first; first | (rw [if_neg (by omega)]; done) | (rw [if_pos (by omega), e9]; done) | (rw [if_pos (by omega)]; done))]; exact hD
    exact W.iret hx hb hr (fun t9 ht9 hW9 => ⟨⟨_, (), rfl, congrArg zI (show -2 = ca_first (M 1) x1 x2 x3 from by unfold ca_first; (repeat' split) <;> first | rfl | omega | (exfalso; omega) | (rw [c_w1_eq (by assumption)])), by rw [ht9]; exact hPf, va_K.moved hW9.alike hK, hDf⟩, hS.F ht9⟩) hS.2.2 dX6_first_31
  · refine lv_iload_n hx hb dX6_first_8 rfl (lv_at hl 2 rfl) ?_
    refine q_cSi (z := bz (0 ≤ x2 ∧ x2 ≤ 999)) (As := [.int (zI x2)]) (rest := []) ⟨hx, hb, hml, hown, hts⟩ (kX6_isMinute l dC dI g tt x2 (by omega)) (va_cwS 1 hts gX6_first_X6_isMinute rfl rfl rfl (by decide +kernel) ⟨Nat.le_of_ble_eq_true rfl, Nat.le_of_ble_eq_true rfl⟩) (hP.sub (ws' := []) [] rfl) hK hT hS rfl hl.1 rfl (Nat.le_of_ble_eq_true rfl) dX6_first_9 ⟨Nat.le_of_ble_eq_true rfl, Nat.le_of_ble_eq_true rfl⟩ ?_
    refine q_bz_eq (tgt := 27) hx hb dX6_first_12 (by decide) (fun c_2 => ?_) (fun c_2 => ?_)
    · refine lv_aload_n hx hb dX6_first_27 rfl (lv_at hl 0 rfl) ?_
      refine q_cEi (z := -2) (b := (q 0)) (As := []) (rest := []) (w1 := wMo g q (mbad M)) ⟨hx, hb, hml, hown, hts⟩ hP hD hK hT hS hA (kX6_bad l dC dI g tt _ q M) (cwV 0 hts gX6_first_X6_bad rfl rfl rfl (by decide +kernel) ⟨Nat.le_of_ble_eq_true rfl, Nat.le_of_ble_eq_true rfl⟩) 0 5 rfl rfl rfl rfl hl.1 rfl (Nat.le_of_ble_eq_true rfl) dX6_first_28 ⟨Nat.le_of_ble_eq_true rfl, Nat.le_of_ble_eq_true rfl⟩ (fun H locs hP hD hS => ?_)
      have hPf : va_P (dC, dI) vwCl (wMo g q (m_first M x1 x2 x3)) H := by rw [(show (m_first M x1 x2 x3) = mbad M from by unfold m_first; first | (rw [if_neg (by omega)]; done) | (rw [if_pos (by omega), e9]; done) | (rw [if_pos (by omega)]; done))]; exact hP
      have hDf : va_D A (wMo g q (m_first M x1 x2 x3)) := by rw [(show (m_first M x1 x2 x3) = mbad M from by unfold m_first; first | (rw [if_neg (by omega)]; done) | (rw [if_pos (by omega), e9]; done) | (rw [if_pos (by omega)]; done))]; exact hD
      exact W.iret hx hb hr (fun t9 ht9 hW9 => ⟨⟨_, (), rfl, congrArg zI (show -2 = ca_first (M 1) x1 x2 x3 from by unfold ca_first; (repeat' split) <;> first | rfl | omega | (exfalso; omega) | (rw [c_w1_eq (by assumption)])), by rw [ht9]; exact hPf, va_K.moved hW9.alike hK, hDf⟩, hS.F ht9⟩) hS.2.2 dX6_first_31
    · refine lv_iload_n hx hb dX6_first_15 rfl (lv_at hl 3 rfl) ?_
      refine q_i2l hx hb dX6_first_16 (by omega) ?_
      refine q_lconst hx hb 0 dX6_first_17 rfl ?_
      refine q_ldc2 hx hb 2 hown kc170 (by decide) dX6_first_18 ?_
      refine q_cSi (z := bz (0 ≤ x3 ∧ x3 ≤ 2)) (As := [.long (zL x3), .long (zL 0), .long (zL 2)]) (rest := []) ⟨hx, hb, hml, hown, hts⟩ (kX6_in l dC dI g tt x3 0 2 (by omega)) (va_cwS 3 hts gX6_first_X6_in rfl rfl rfl (by decide +kernel) ⟨Nat.le_of_ble_eq_true rfl, Nat.le_of_ble_eq_true rfl⟩) (hP.sub (ws' := []) [] rfl) hK hT hS rfl hl.1 rfl (Nat.le_of_ble_eq_true rfl) dX6_first_21 ⟨Nat.le_of_ble_eq_true rfl, Nat.le_of_ble_eq_true rfl⟩ ?_
      refine q_bz_ne (tgt := 32) hx hb dX6_first_24 (by decide) (fun c_3 => ?_) (fun c_3 => ?_)
      · refine lv_aload_n hx hb dX6_first_32 rfl (lv_at hl 0 rfl) ?_
        refine lv_iload_n hx hb dX6_first_33 rfl (lv_at hl 1 rfl) ?_
        refine lv_iload_n hx hb dX6_first_34 rfl (lv_at hl 2 rfl) ?_
        refine q_bipush hx hb dX6_first_35 rfl ?_
        refine q_iconst hx hb dX6_first_37 ?_
        refine q_cEi (z := bz (¬ c_wo (M 1) x1 x2 (-1) = -1)) (b := (q 0)) (As := [.int (zI x1), .int (zI x2), .int (zI 15), .int (zI 2)]) (rest := []) (w1 := wMo g q (m78 M (cgS (M 1) x1 (-1) x2 (M 0 7, M 0 8)))) ⟨hx, hb, hml, hown, hts⟩ hP hD hK hT hS hA (kX6_comesa l dC dI g tt _ q M x1 x2 15 2 (hw) (by omega) (by omega) (rfl) (rfl)) (cwV 4 hts gX6_first_X6_comes rfl rfl rfl (by decide +kernel) ⟨Nat.le_of_ble_eq_true rfl, Nat.le_of_ble_eq_true rfl⟩) 0 5 rfl rfl rfl rfl hl.1 rfl (Nat.le_of_ble_eq_true rfl) dX6_first_38 ⟨Nat.le_of_ble_eq_true rfl, Nat.le_of_ble_eq_true rfl⟩ (fun H locs hP hD hS => ?_)
        refine q_bz_ne (tgt := 46) hx hb dX6_first_41 (by decide) (fun c_4 => ?_) (fun c_4 => ?_)
        · have hne := c_sf_ne (w := M 1) (f := x1) (m := x2) (y := (-1)) c_4
          have hwr := c_wo_r (M 1) x1 x2 (-1)
          have e9 : cgS (M 1) x1 (-1) x2 (M 0 7, M 0 8) = (c_sf (M 1) x1 (x2 + c_wo (M 1) x1 x2 (-1)) (-1), x2 + c_wo (M 1) x1 x2 (-1)) := if_neg c_4
          have hP : va_P (dC, dI) vwCl (wMo g q (m78 M (c_sf (M 1) x1 (x2 + c_wo (M 1) x1 x2 (-1)) (-1), x2 + c_wo (M 1) x1 x2 (-1)))) H := by rw [show (m78 M (c_sf (M 1) x1 (x2 + c_wo (M 1) x1 x2 (-1)) (-1), x2 + c_wo (M 1) x1 x2 (-1))) = m78 M (cgS (M 1) x1 (-1) x2 (M 0 7, M 0 8)) from by rw [e9]]; exact hP
          have hD : va_D A (wMo g q (m78 M (c_sf (M 1) x1 (x2 + c_wo (M 1) x1 x2 (-1)) (-1), x2 + c_wo (M 1) x1 x2 (-1)))) := by rw [show (m78 M (c_sf (M 1) x1 (x2 + c_wo (M 1) x1 x2 (-1)) (-1), x2 + c_wo (M 1) x1 x2 (-1))) = m78 M (cgS (M 1) x1 (-1) x2 (M 0 7, M 0 8)) from by rw [e9]]; exact hD
          refine lv_iload_n hx hb dX6_first_46 rfl (lv_at hl 3 rfl) ?_
          refine q_if_ne (tgt := 57) hx hb dX6_first_47 (by decide) (by omega) (fun c_5 => ?_) (fun c_5 => ?_)
          · refine lv_iload_n hx hb dX6_first_57 rfl (lv_at hl 3 rfl) ?_
            refine q_iconst hx hb dX6_first_58 ?_
            refine q_icmp_ne (tgt := 77) hx hb dX6_first_59 (by decide) (by omega) (fun c_6 => ?_) (fun c_6 => ?_)
            · refine lv_aload_n hx hb dX6_first_77 rfl (lv_at hl 0 rfl) ?_
              refine va_get (D := (dC, dI)) (ci := 5) (v := .int (zI (x2 + c_wo (M 1) x1 x2 (-1)))) (C := RX6) (T := TX6) (N := 15) hx hb hts iX6 hown hK hP 0 rfl rfl 13 (by decide) kf164 (fun _ h9 => h9) rfl dX6_first_78 ?_
              refine lv_iload_n hx hb dX6_first_81 rfl (lv_at hl 2 rfl) ?_
              refine q_isub hx hb dX6_first_82 ?_
              have hPf : va_P (dC, dI) vwCl (wMo g q (m_first M x1 x2 x3)) H := by rw [(show (m_first M x1 x2 x3) = m78 M (c_sf (M 1) x1 (x2 + c_wo (M 1) x1 x2 (-1)) (-1), x2 + c_wo (M 1) x1 x2 (-1)) from by unfold m_first; first | (rw [if_neg (by omega)]; done) | (rw [if_pos (by omega), e9]; done) | (rw [if_pos (by omega)]; done))]; exact hP
              have hDf : va_D A (wMo g q (m_first M x1 x2 x3)) := by rw [(show (m_first M x1 x2 x3) = m78 M (c_sf (M 1) x1 (x2 + c_wo (M 1) x1 x2 (-1)) (-1), x2 + c_wo (M 1) x1 x2 (-1)) from by unfold m_first; first | (rw [if_neg (by omega)]; done) | (rw [if_pos (by omega), e9]; done) | (rw [if_pos (by omega)]; done))]; exact hD
              exact W.iret hx hb hr (fun t9 ht9 hW9 => ⟨⟨_, (), rfl, congrArg zI (show (x2 + c_wo (M 1) x1 x2 (-1)) - x2 = ca_first (M 1) x1 x2 x3 from by unfold ca_first; (repeat' split) <;> first | rfl | omega | (exfalso; omega) | (rw [c_w1_eq (by assumption)])), by rw [ht9]; exact hPf, va_K.moved hW9.alike hK, hDf⟩, hS.F ht9⟩) hS.2.2 dX6_first_83
            · refine lv_aload_n hx hb dX6_first_62 rfl (lv_at hl 0 rfl) ?_
              refine lv_aload_n hx hb dX6_first_63 rfl (lv_at hl 0 rfl) ?_
              refine va_get (D := (dC, dI)) (ci := 5) (v := .int (zI (c_sf (M 1) x1 (x2 + c_wo (M 1) x1 x2 (-1)) (-1)))) (C := RX6) (T := TX6) (N := 15) hx hb hts iX6 hown hK hP 0 rfl rfl 12 (by decide) kf161 (fun _ h9 => h9) rfl dX6_first_64 ?_
              refine lv_aload_n hx hb dX6_first_67 rfl (lv_at hl 0 rfl) ?_
              refine va_get (D := (dC, dI)) (ci := 5) (v := .int (zI (x2 + c_wo (M 1) x1 x2 (-1)))) (C := RX6) (T := TX6) (N := 15) hx hb hts iX6 hown hK hP 0 rfl rfl 13 (by decide) kf164 (fun _ h9 => h9) rfl dX6_first_68 ?_
              refine q_cVi (z := c_wy (M 1) (c_sf (M 1) x1 (x2 + c_wo (M 1) x1 x2 (-1)) (-1)) (x2 + c_wo (M 1) x1 x2 (-1))) (b := (q 0)) (As := [.int (zI (c_sf (M 1) x1 (x2 + c_wo (M 1) x1 x2 (-1)) (-1))), .int (zI (x2 + c_wo (M 1) x1 x2 (-1)))]) (rest := []) ⟨hx, hb, hml, hown, hts⟩ (kX6_wayIn l dC dI g tt q (m78 M (c_sf (M 1) x1 (x2 + c_wo (M 1) x1 x2 (-1)) (-1), x2 + c_wo (M 1) x1 x2 (-1))) (c_sf (M 1) x1 (x2 + c_wo (M 1) x1 x2 (-1)) (-1)) (x2 + c_wo (M 1) x1 x2 (-1)) (hw) (show 0 ≤ (c_sf (M 1) x1 (x2 + c_wo (M 1) x1 x2 (-1)) (-1)) ∧ (c_sf (M 1) x1 (x2 + c_wo (M 1) x1 x2 (-1)) (-1)) < M 1 0 from by omega) (show 0 ≤ (x2 + c_wo (M 1) x1 x2 (-1)) ∧ (x2 + c_wo (M 1) x1 x2 (-1)) ≤ 90000 from by omega)) (cwV 2 hts gX6_first_X6_wayIn rfl rfl rfl (by decide +kernel) ⟨Nat.le_of_ble_eq_true rfl, Nat.le_of_ble_eq_true rfl⟩) hP hK hT hS 0 5 rfl rfl rfl rfl hl.1 rfl (Nat.le_of_ble_eq_true rfl) dX6_first_71 ⟨Nat.le_of_ble_eq_true rfl, Nat.le_of_ble_eq_true rfl⟩ ?_
              have := c_wy_r (M 1) (c_sf (M 1) x1 (x2 + c_wo (M 1) x1 x2 (-1)) (-1)) (x2 + c_wo (M 1) x1 x2 (-1))
              refine lv_goto (tgt := 83) hx hb dX6_first_74 (by decide) ?_
              have hPf : va_P (dC, dI) vwCl (wMo g q (m_first M x1 x2 x3)) H := by rw [(show (m_first M x1 x2 x3) = m78 M (c_sf (M 1) x1 (x2 + c_wo (M 1) x1 x2 (-1)) (-1), x2 + c_wo (M 1) x1 x2 (-1)) from by unfold m_first; first | (rw [if_neg (by omega)]; done) | (rw [if_pos (by omega), e9]; done) | (rw [if_pos (by omega)]; done))]; exact hP
              have hDf : va_D A (wMo g q (m_first M x1 x2 x3)) := by rw [(show (m_first M x1 x2 x3) = m78 M (c_sf (M 1) x1 (x2 + c_wo (M 1) x1 x2 (-1)) (-1), x2 + c_wo (M 1) x1 x2 (-1)) from by unfold m_first; first | (rw [if_neg (by omega)]; done) | (rw [if_pos (by omega), e9]; done) | (rw [if_pos (by omega)]; done))]; exact hD
              exact W.iret hx hb hr (fun t9 ht9 hW9 => ⟨⟨_, (), rfl, congrArg zI (show c_wy (M 1) (c_sf (M 1) x1 (x2 + c_wo (M 1) x1 x2 (-1)) (-1)) (x2 + c_wo (M 1) x1 x2 (-1)) = ca_first (M 1) x1 x2 x3 from by unfold ca_first; (repeat' split) <;> first | rfl | omega | (exfalso; omega) | (rw [c_w1_eq (by assumption)])), by rw [ht9]; exact hPf, va_K.moved hW9.alike hK, hDf⟩, hS.F ht9⟩) hS.2.2 dX6_first_83
          · refine lv_aload_n hx hb dX6_first_50 rfl (lv_at hl 0 rfl) ?_
            refine va_get (D := (dC, dI)) (ci := 5) (v := .int (zI (c_sf (M 1) x1 (x2 + c_wo (M 1) x1 x2 (-1)) (-1)))) (C := RX6) (T := TX6) (N := 15) hx hb hts iX6 hown hK hP 0 rfl rfl 12 (by decide) kf161 (fun _ h9 => h9) rfl dX6_first_51 ?_
            refine lv_goto (tgt := 83) hx hb dX6_first_54 (by decide) ?_
            have hPf : va_P (dC, dI) vwCl (wMo g q (m_first M x1 x2 x3)) H := by rw [(show (m_first M x1 x2 x3) = m78 M (c_sf (M 1) x1 (x2 + c_wo (M 1) x1 x2 (-1)) (-1), x2 + c_wo (M 1) x1 x2 (-1)) from by unfold m_first; first | (rw [if_neg (by omega)]; done) | (rw [if_pos (by omega), e9]; done) | (rw [if_pos (by omega)]; done))]; exact hP
            have hDf : va_D A (wMo g q (m_first M x1 x2 x3)) := by rw [(show (m_first M x1 x2 x3) = m78 M (c_sf (M 1) x1 (x2 + c_wo (M 1) x1 x2 (-1)) (-1), x2 + c_wo (M 1) x1 x2 (-1)) from by unfold m_first; first | (rw [if_neg (by omega)]; done) | (rw [if_pos (by omega), e9]; done) | (rw [if_pos (by omega)]; done))]; exact hD
            exact W.iret hx hb hr (fun t9 ht9 hW9 => ⟨⟨_, (), rfl, congrArg zI (show c_sf (M 1) x1 (x2 + c_wo (M 1) x1 x2 (-1)) (-1) = ca_first (M 1) x1 x2 x3 from by unfold ca_first; (repeat' split) <;> first | rfl | omega | (exfalso; omega) | (rw [c_w1_eq (by assumption)])), by rw [ht9]; exact hPf, va_K.moved hW9.alike hK, hDf⟩, hS.F ht9⟩) hS.2.2 dX6_first_83
        · refine q_iconst hx hb dX6_first_44 ?_
          have hPf : va_P (dC, dI) vwCl (wMo g q (m_first M x1 x2 x3)) H := by rw [(show (m_first M x1 x2 x3) = m78 M (cgS (M 1) x1 (-1) x2 (M 0 7, M 0 8)) from by unfold m_first; first | (rw [if_neg (by omega)]; done) | (rw [if_pos (by omega), e9]; done) | (rw [if_pos (by omega)]; done))]; exact hP
          have hDf : va_D A (wMo g q (m_first M x1 x2 x3)) := by rw [(show (m_first M x1 x2 x3) = m78 M (cgS (M 1) x1 (-1) x2 (M 0 7, M 0 8)) from by unfold m_first; first | (rw [if_neg (by omega)]; done) | (rw [if_pos (by omega), e9]; done) | (rw [if_pos (by omega)]; done))]; exact hD
          exact W.iret hx hb hr (fun t9 ht9 hW9 => ⟨⟨_, (), rfl, congrArg zI (show (-1) = ca_first (M 1) x1 x2 x3 from by unfold ca_first; (repeat' split) <;> first | rfl | omega | (exfalso; omega) | (rw [c_w1_eq (by assumption)])), by rw [ht9]; exact hPf, va_K.moved hW9.alike hK, hDf⟩, hS.F ht9⟩) hS.2.2 dX6_first_45
      · refine lv_aload_n hx hb dX6_first_27 rfl (lv_at hl 0 rfl) ?_
        refine q_cEi (z := -2) (b := (q 0)) (As := []) (rest := []) (w1 := wMo g q (mbad M)) ⟨hx, hb, hml, hown, hts⟩ hP hD hK hT hS hA (kX6_bad l dC dI g tt _ q M) (cwV 0 hts gX6_first_X6_bad rfl rfl rfl (by decide +kernel) ⟨Nat.le_of_ble_eq_true rfl, Nat.le_of_ble_eq_true rfl⟩) 0 5 rfl rfl rfl rfl hl.1 rfl (Nat.le_of_ble_eq_true rfl) dX6_first_28 ⟨Nat.le_of_ble_eq_true rfl, Nat.le_of_ble_eq_true rfl⟩ (fun H locs hP hD hS => ?_)
        have hPf : va_P (dC, dI) vwCl (wMo g q (m_first M x1 x2 x3)) H := by rw [(show (m_first M x1 x2 x3) = mbad M from by unfold m_first; first | (rw [if_neg (by omega)]; done) | (rw [if_pos (by omega), e9]; done) | (rw [if_pos (by omega)]; done))]; exact hP
        have hDf : va_D A (wMo g q (m_first M x1 x2 x3)) := by rw [(show (m_first M x1 x2 x3) = mbad M from by unfold m_first; first | (rw [if_neg (by omega)]; done) | (rw [if_pos (by omega), e9]; done) | (rw [if_pos (by omega)]; done))]; exact hD
        exact W.iret hx hb hr (fun t9 ht9 hW9 => ⟨⟨_, (), rfl, congrArg zI (show -2 = ca_first (M 1) x1 x2 x3 from by unfold ca_first; (repeat' split) <;> first | rfl | omega | (exfalso; omega) | (rw [c_w1_eq (by assumption)])), by rw [ht9]; exact hPf, va_K.moved hW9.alike hK, hDf⟩, hS.F ht9⟩) hS.2.2 dX6_first_31
set_option maxHeartbeats 4000000 in
set_option maxRecDepth 100000 in
theorem kX6_often (l : Launch) (dC : Nat → ClassId) (dI : Nat → Nat → Nat) (g : Nat → ClassId) (tt : Nat → Nat) (sz : Nat) (q : Nat → Nat) (M : Nat → Int → Int) (x1 x2 : Int) (hw : hok (M 1)) (h1 : rI x1 ∧ rI x2) : Met l yX6_often wsX6_often ({ frames := 6, cells := 0, slots := 0, locals := 142 }) (va_Pc [.ref (q 0), .int (zI x1), .int (zI x2)] (eQ (dC, dI) (wTy g) (wMo g q M) tt sz)) (va_Qi (fun r (_ : Unit) => r = zI (ca_often (M 1) x1 x2)) (fQ (dC, dI) (wTy g) (va_A (wMo g q M) sz) (wMo g q (m_often M x1 x2))) (va_A (wMo g q M) sz)) 0 0 (va_A (wMo g q M) sz) := by
  refine Met.ofW (cc := cX6_often) (maxL := 6) (ret := (some .int)) (by decide) rfl ?_
  intro p e s m args below meth c s₁ B hml hv
  obtain ⟨rfl, hsz, hP, hK, hD0, hT⟩ := hv
  have hx := B.exec
  have hb := B.bytes
  have hr := B.returns
  have hts := atoms_spec (ws := wsX6_often) B.pre
  have hown : s.vm.findClass RX6 = some m.cls := findClass_of_methodNamed B.named
  have hlocks := B.notSynchronized
  subst hsz
  have hD := hD0.self (sz := s.heap.size)
  generalize hAe : va_A (wMo g q M) s.heap.size = A at hD hT ⊢
  have hA : ∀ q : Nat, s.heap.size ≤ q → A q := fun q h => by rw [← hAe]; exact Or.inr h
  have hS : va_S A s.heap s.heap [] := va_S.rf
  have hl := lv_entry ([.ref (q 0), .int (zI x1), .int (zI x2)]) (n := 6) (Nat.le_of_ble_eq_true rfl)
  rw [lg_entry_eq]
  generalize (lg_sl ([.ref (q 0), .int (zI x1), .int (zI x2)]) ++ List.replicate (6 - (lg_sl ([.ref (q 0), .int (zI x1), .int (zI x2)])).length) Slot.unset).toArray = ls at hl ⊢
  have hl : lv_has ls 6 [(0, .ref (q 0)), (1, .int (zI x1)), (2, .int (zI x2))] := hl
  have kf161 := hts (.fieldLink RX6 161 "WrongWayModel" "comer" "I") (by decide +kernel)
  have kf164 := hts (.fieldLink RX6 164 "WrongWayModel" "coming" "I") (by decide +kernel)
  have iX6 := (fun w h => List.mem_cons_of_mem _ (List.mem_append_right _ h) : ∀ w ∈ u_ws RX6 TX6 15, w ∈ wsX6_often)
  have hb0 := hw.b
  refine lv_aload_n hx hb dX6_often_0 rfl (lv_at hl 0 rfl) ?_
  refine lv_iload_n hx hb dX6_often_1 rfl (lv_at hl 1 rfl) ?_
  refine q_cVi (z := bz (0 ≤ x1 ∧ x1 ≤ M 1 1)) (b := (q 0)) (As := [.int (zI x1)]) (rest := []) ⟨hx, hb, hml, hown, hts⟩ (kX6_isFloor l dC dI g tt q M x1 (hw) (by omega)) (cwV 1 hts gX6_often_X6_isFloor rfl rfl rfl (by decide +kernel) ⟨Nat.le_of_ble_eq_true rfl, Nat.le_of_ble_eq_true rfl⟩) hP hK hT hS 0 5 rfl rfl rfl rfl hl.1 rfl (Nat.le_of_ble_eq_true rfl) dX6_often_2 ⟨Nat.le_of_ble_eq_true rfl, Nat.le_of_ble_eq_true rfl⟩ ?_
  refine q_bz_eq (tgt := 18) hx hb dX6_often_5 (by decide) (fun c_1 => ?_) (fun c_1 => ?_)
  · refine lv_aload_n hx hb dX6_often_18 rfl (lv_at hl 0 rfl) ?_
    refine q_cEi (z := -2) (b := (q 0)) (As := []) (rest := []) (w1 := wMo g q (mbad M)) ⟨hx, hb, hml, hown, hts⟩ hP hD hK hT hS hA (kX6_bad l dC dI g tt _ q M) (cwV 0 hts gX6_often_X6_bad rfl rfl rfl (by decide +kernel) ⟨Nat.le_of_ble_eq_true rfl, Nat.le_of_ble_eq_true rfl⟩) 0 5 rfl rfl rfl rfl hl.1 rfl (Nat.le_of_ble_eq_true rfl) dX6_often_19 ⟨Nat.le_of_ble_eq_true rfl, Nat.le_of_ble_eq_true rfl⟩ (fun H locs hP hD hS => ?_)
    have hPf : va_P (dC, dI) vwCl (wMo g q (m_often M x1 x2)) H := by rw [(show (m_often M x1 x2) = mbad M from by unfold m_often; first | (rw [if_neg (by omega)]; done) | (rw [if_pos (by omega), ← of_S, ← of_N, ← h120, ← hn, ← hu]; unfold mn_M; first | (rw [if_pos (by omega)]; done) | (rw [if_neg (by omega)]; done)))]; exact hP
    have hDf : va_D A (wMo g q (m_often M x1 x2)) := by rw [(show (m_often M x1 x2) = mbad M from by unfold m_often; first | (rw [if_neg (by omega)]; done) | (rw [if_pos (by omega), ← of_S, ← of_N, ← h120, ← hn, ← hu]; unfold mn_M; first | (rw [if_pos (by omega)]; done) | (rw [if_neg (by omega)]; done)))]; exact hD
    exact W.iret hx hb hr (fun t9 ht9 hW9 => ⟨⟨_, (), rfl, congrArg zI (show -2 = ca_often (M 1) x1 x2 from by unfold ca_often; first | (rw [if_neg (by omega)]; done) | (rw [if_pos (by omega), ← of_S, ← of_N, ← h120, ← hn, ← hu]; unfold mnA; first | (rw [if_pos (by omega)]; done) | (rw [if_neg (by omega)]; done))), by rw [ht9]; exact hPf, va_K.moved hW9.alike hK, hDf⟩, hS.F ht9⟩) hS.2.2 dX6_often_22
  · refine lv_iload_n hx hb dX6_often_8 rfl (lv_at hl 2 rfl) ?_
    refine q_i2l hx hb dX6_often_9 (by omega) ?_
    refine q_lconst hx hb 0 dX6_often_10 rfl ?_
    refine q_lconst hx hb 1 dX6_often_11 rfl ?_
    refine q_cSi (z := bz (0 ≤ x2 ∧ x2 ≤ 1)) (As := [.long (zL x2), .long (zL 0), .long (zL 1)]) (rest := []) ⟨hx, hb, hml, hown, hts⟩ (kX6_in l dC dI g tt x2 0 1 (by omega)) (va_cwS 3 hts gX6_often_X6_in rfl rfl rfl (by decide +kernel) ⟨Nat.le_of_ble_eq_true rfl, Nat.le_of_ble_eq_true rfl⟩) (hP.sub (ws' := []) [] rfl) hK hT hS rfl hl.1 rfl (Nat.le_of_ble_eq_true rfl) dX6_often_12 ⟨Nat.le_of_ble_eq_true rfl, Nat.le_of_ble_eq_true rfl⟩ ?_
    refine q_bz_ne (tgt := 23) hx hb dX6_often_15 (by decide) (fun c_2 => ?_) (fun c_2 => ?_)
    · refine q_iconst hx hb dX6_often_23 ?_
      refine lv_istore_n (lv' := [(3, .int (zI 0)), (0, .ref (q 0)), (1, .int (zI x1)), (2, .int (zI x2))]) hx hb dX6_often_24 rfl hl (by decide) rfl (fun ls hl => ?_)
      refine q_iconst hx hb dX6_often_25 ?_
      refine lv_istore (lv' := [(4, .int (zI 0)), (3, .int (zI 0)), (0, .ref (q 0)), (1, .int (zI x1)), (2, .int (zI x2))]) hx hb dX6_often_26 hl (by decide) rfl (fun ls hl => ?_)
      refine q_iconst hx hb dX6_often_28 ?_
      refine lv_istore (lv' := [(5, .int (zI 0)), (4, .int (zI 0)), (3, .int (zI 0)), (0, .ref (q 0)), (1, .int (zI x1)), (2, .int (zI x2))]) hx hb dX6_often_29 hl (by decide) rfl (fun ls hl => ?_)
      refine w_loopQ (σ := Int × Int × Int) (fun a9 H locs ls => (0 ≤ a9.1 ∧ a9.1 ≤ 120) ∧ (a9.2.1 = sumR (c_mwN (M 1) x1 (-1)) a9.1) ∧ (a9.2.2 = sumR (ofF (M 1) x1 x2) a9.1) ∧ va_P (dC, dI) vwCl (wMo g q (m78 M (itR (cgS (M 1) x1 (-1)) (M 0 7, M 0 8) a9.1))) H ∧ va_D A (wMo g q (m78 M (itR (cgS (M 1) x1 (-1)) (M 0 7, M 0 8) a9.1))) ∧ va_S A s.heap H locs ∧ lv_has ls 6 [(0, .ref (q 0)), (1, .int (zI x1)), (2, .int (zI x2)), (3, .int (zI a9.2.1)), (4, .int (zI a9.2.2)), (5, .int (zI a9.1))]) (fun a9 => (120 - a9.1).toNat) ?_ (0, 0, 0) ?_
      · rintro ⟨i, n, u⟩ H locs ls ⟨hi, hn, hu, hP, hD, hS, hl⟩ ih31
        have hi : 0 ≤ i ∧ i ≤ 120 := hi
        have hn : n = sumR (c_mwN (M 1) x1 (-1)) i := hn
        have hu : u = sumR (ofF (M 1) x1 x2) i := hu
        have hP : va_P (dC, dI) vwCl (wMo g q (m78 M (itR (cgS (M 1) x1 (-1)) (M 0 7, M 0 8) i))) H := hP
        have hD : va_D A (wMo g q (m78 M (itR (cgS (M 1) x1 (-1)) (M 0 7, M 0 8) i))) := hD
        have hl : lv_has ls 6 [(0, .ref (q 0)), (1, .int (zI x1)), (2, .int (zI x2)), (3, .int (zI n)), (4, .int (zI u)), (5, .int (zI i))] := hl
        refine lv_iload hx hb dX6_often_31 (lv_at hl 5 rfl) ?_
        refine q_bipush hx hb dX6_often_33 rfl ?_
        refine q_icmp_ge (tgt := 91) hx hb dX6_often_35 (by decide) (by omega) (fun c_3 => ?_) (fun c_3 => ?_)
        · have h120 : i = 120 := by omega
          have hbn := c_mw_b (M 1) x1 (-1) (N := i) (by omega)
          have hbo := of_b (M 1) x1 x2 (N := i) (by omega)
          refine lv_iload_n hx hb dX6_often_91 rfl (lv_at hl 3 rfl) ?_
          refine q_if_ne (tgt := 102) hx hb dX6_often_92 (by decide) (by omega) (fun c_4 => ?_) (fun c_4 => ?_)
          · refine lv_aload_n hx hb dX6_often_102 rfl (lv_at hl 0 rfl) ?_
            refine lv_iload hx hb dX6_often_103 (lv_at hl 4 rfl) ?_
            refine q_i2l hx hb dX6_often_105 (by omega) ?_
            refine lv_iload_n hx hb dX6_often_106 rfl (lv_at hl 3 rfl) ?_
            refine q_i2l hx hb dX6_often_107 (by omega) ?_
            refine q_cEi (z := 1) (b := (q 0)) (As := [.long (zL u), .long (zL n)]) (rest := []) (w1 := wMo g q (m_tel (m78 M (itR (cgS (M 1) x1 (-1)) (M 0 7, M 0 8) i)) u n)) ⟨hx, hb, hml, hown, hts⟩ hP hD hK hT hS hA (kX6_tells l dC dI g tt _ q (m78 M (itR (cgS (M 1) x1 (-1)) (M 0 7, M 0 8) i)) u n (show (0 ≤ u ∧ u < 1000000000) ∧ (1 ≤ n ∧ n < 1000000000) from by omega)) (cwV 2 hts gX6_often_X6_tells rfl rfl rfl (by decide +kernel) ⟨Nat.le_of_ble_eq_true rfl, Nat.le_of_ble_eq_true rfl⟩) 0 5 rfl rfl rfl rfl hl.1 rfl (Nat.le_of_ble_eq_true rfl) dX6_often_108 ⟨Nat.le_of_ble_eq_true rfl, Nat.le_of_ble_eq_true rfl⟩ (fun H locs hP hD hS => ?_)
            have hPf : va_P (dC, dI) vwCl (wMo g q (m_often M x1 x2)) H := by rw [(show (m_often M x1 x2) = m_tel (m78 M (itR (cgS (M 1) x1 (-1)) (M 0 7, M 0 8) i)) u n from by unfold m_often; first | (rw [if_neg (by omega)]; done) | (rw [if_pos (by omega), ← of_S, ← of_N, ← h120, ← hn, ← hu]; unfold mn_M; first | (rw [if_pos (by omega)]; done) | (rw [if_neg (by omega)]; done)))]; exact hP
            have hDf : va_D A (wMo g q (m_often M x1 x2)) := by rw [(show (m_often M x1 x2) = m_tel (m78 M (itR (cgS (M 1) x1 (-1)) (M 0 7, M 0 8) i)) u n from by unfold m_often; first | (rw [if_neg (by omega)]; done) | (rw [if_pos (by omega), ← of_S, ← of_N, ← h120, ← hn, ← hu]; unfold mn_M; first | (rw [if_pos (by omega)]; done) | (rw [if_neg (by omega)]; done)))]; exact hD
            exact W.iret hx hb hr (fun t9 ht9 hW9 => ⟨⟨_, (), rfl, congrArg zI (show 1 = ca_often (M 1) x1 x2 from by unfold ca_often; first | (rw [if_neg (by omega)]; done) | (rw [if_pos (by omega), ← of_S, ← of_N, ← h120, ← hn, ← hu]; unfold mnA; first | (rw [if_pos (by omega)]; done) | (rw [if_neg (by omega)]; done))), by rw [ht9]; exact hPf, va_K.moved hW9.alike hK, hDf⟩, hS.F ht9⟩) hS.2.2 dX6_often_111
          · refine lv_aload_n hx hb dX6_often_95 rfl (lv_at hl 0 rfl) ?_
            refine q_cEi (z := -3) (b := (q 0)) (As := []) (rest := []) (w1 := wMo g q (mno (m78 M (itR (cgS (M 1) x1 (-1)) (M 0 7, M 0 8) i)))) ⟨hx, hb, hml, hown, hts⟩ hP hD hK hT hS hA (kX6_no l dC dI g tt _ q (m78 M (itR (cgS (M 1) x1 (-1)) (M 0 7, M 0 8) i))) (cwV 0 hts gX6_often_X6_no rfl rfl rfl (by decide +kernel) ⟨Nat.le_of_ble_eq_true rfl, Nat.le_of_ble_eq_true rfl⟩) 0 5 rfl rfl rfl rfl hl.1 rfl (Nat.le_of_ble_eq_true rfl) dX6_often_96 ⟨Nat.le_of_ble_eq_true rfl, Nat.le_of_ble_eq_true rfl⟩ (fun H locs hP hD hS => ?_)
            refine lv_goto (tgt := 111) hx hb dX6_often_99 (by decide) ?_
            have hPf : va_P (dC, dI) vwCl (wMo g q (m_often M x1 x2)) H := by rw [(show (m_often M x1 x2) = mno (m78 M (itR (cgS (M 1) x1 (-1)) (M 0 7, M 0 8) i)) from by unfold m_often; first | (rw [if_neg (by omega)]; done) | (rw [if_pos (by omega), ← of_S, ← of_N, ← h120, ← hn, ← hu]; unfold mn_M; first | (rw [if_pos (by omega)]; done) | (rw [if_neg (by omega)]; done)))]; exact hP
            have hDf : va_D A (wMo g q (m_often M x1 x2)) := by rw [(show (m_often M x1 x2) = mno (m78 M (itR (cgS (M 1) x1 (-1)) (M 0 7, M 0 8) i)) from by unfold m_often; first | (rw [if_neg (by omega)]; done) | (rw [if_pos (by omega), ← of_S, ← of_N, ← h120, ← hn, ← hu]; unfold mn_M; first | (rw [if_pos (by omega)]; done) | (rw [if_neg (by omega)]; done)))]; exact hD
            exact W.iret hx hb hr (fun t9 ht9 hW9 => ⟨⟨_, (), rfl, congrArg zI (show -3 = ca_often (M 1) x1 x2 from by unfold ca_often; first | (rw [if_neg (by omega)]; done) | (rw [if_pos (by omega), ← of_S, ← of_N, ← h120, ← hn, ← hu]; unfold mnA; first | (rw [if_pos (by omega)]; done) | (rw [if_neg (by omega)]; done))), by rw [ht9]; exact hPf, va_K.moved hW9.alike hK, hDf⟩, hS.F ht9⟩) hS.2.2 dX6_often_111
        · refine lv_aload_n hx hb dX6_often_38 rfl (lv_at hl 0 rfl) ?_
          refine lv_iload_n hx hb dX6_often_39 rfl (lv_at hl 1 rfl) ?_
          refine lv_iload hx hb dX6_often_40 (lv_at hl 5 rfl) ?_
          refine q_bipush hx hb dX6_often_42 rfl ?_
          refine q_iconst hx hb dX6_often_44 ?_
          refine q_cEi (z := bz (¬ c_wo (M 1) x1 i (-1) = -1)) (b := (q 0)) (As := [.int (zI x1), .int (zI i), .int (zI 15), .int (zI 2)]) (rest := []) (w1 := wMo g q (m78 (m78 M (itR (cgS (M 1) x1 (-1)) (M 0 7, M 0 8) i)) (cgS (M 1) x1 (-1) i (((itR (cgS (M 1) x1 (-1)) (M 0 7, M 0 8) i).1), ((itR (cgS (M 1) x1 (-1)) (M 0 7, M 0 8) i).2))))) ⟨hx, hb, hml, hown, hts⟩ hP hD hK hT hS hA (kX6_comesa l dC dI g tt _ q (m78 M (itR (cgS (M 1) x1 (-1)) (M 0 7, M 0 8) i)) x1 i 15 2 (hw) (show 0 ≤ x1 ∧ x1 ≤ M 1 1 from by omega) (show 0 ≤ i ∧ i ≤ 2000 from by omega) (rfl) (rfl)) (cwV 4 hts gX6_often_X6_comes rfl rfl rfl (by decide +kernel) ⟨Nat.le_of_ble_eq_true rfl, Nat.le_of_ble_eq_true rfl⟩) 0 5 rfl rfl rfl rfl hl.1 rfl (Nat.le_of_ble_eq_true rfl) dX6_often_45 ⟨Nat.le_of_ble_eq_true rfl, Nat.le_of_ble_eq_true rfl⟩ (fun H locs hP hD hS => ?_)
          have hP : va_P (dC, dI) vwCl (wMo g q (m78 M (cgS (M 1) x1 (-1) i (itR (cgS (M 1) x1 (-1)) (M 0 7, M 0 8) i)))) H := by rw [show (m78 M (cgS (M 1) x1 (-1) i (itR (cgS (M 1) x1 (-1)) (M 0 7, M 0 8) i))) = m78 (m78 M (itR (cgS (M 1) x1 (-1)) (M 0 7, M 0 8) i)) (cgS (M 1) x1 (-1) i (((itR (cgS (M 1) x1 (-1)) (M 0 7, M 0 8) i).1), ((itR (cgS (M 1) x1 (-1)) (M 0 7, M 0 8) i).2))) from m78_78.symm]; exact hP
          have hD : va_D A (wMo g q (m78 M (cgS (M 1) x1 (-1) i (itR (cgS (M 1) x1 (-1)) (M 0 7, M 0 8) i)))) := by rw [show (m78 M (cgS (M 1) x1 (-1) i (itR (cgS (M 1) x1 (-1)) (M 0 7, M 0 8) i))) = m78 (m78 M (itR (cgS (M 1) x1 (-1)) (M 0 7, M 0 8) i)) (cgS (M 1) x1 (-1) i (((itR (cgS (M 1) x1 (-1)) (M 0 7, M 0 8) i).1), ((itR (cgS (M 1) x1 (-1)) (M 0 7, M 0 8) i).2))) from m78_78.symm]; exact hD
          refine q_bz_eq (tgt := 85) hx hb dX6_often_48 (by decide) (fun c_5 => ?_) (fun c_5 => ?_)
          · refine lv_iinc (v := zI (i + 1)) (lv' := [(5, .int (zI (i + 1))), (0, .ref (q 0)), (1, .int (zI x1)), (2, .int (zI x2)), (3, .int (zI n)), (4, .int (zI u))]) hx hb dX6_often_85 hl (k := 5) rfl (zI_add _ _) (by decide) rfl (fun ls hl => ?_)
            refine lv_goto (tgt := 31) hx hb dX6_often_88 (by decide) ?_
            exact ih31 (i + 1, n, u) _ _ ls ⟨(show 0 ≤ (i + 1) ∧ (i + 1) ≤ 120 from by omega), (show n = sumR (c_mwN (M 1) x1 (-1)) (i + 1) from by rw [sumR_s (by omega), c_mwN, if_pos (Decidable.not_not.mp c_5)]; omega), (show u = sumR (ofF (M 1) x1 x2) (i + 1) from by rw [sumR_s (by omega), ofF, c_upF, c_mwF, if_pos (Decidable.not_not.mp c_5), if_pos (c_w1_no (Decidable.not_not.mp c_5))]; split <;> omega), (show va_P (dC, dI) vwCl (wMo g q (m78 M (itR (cgS (M 1) x1 (-1)) (M 0 7, M 0 8) (i + 1)))) H from by rw [show (m78 M (itR (cgS (M 1) x1 (-1)) (M 0 7, M 0 8) (i + 1))) = m78 M (cgS (M 1) x1 (-1) i (itR (cgS (M 1) x1 (-1)) (M 0 7, M 0 8) i)) from by rw [itR_s (by omega)]]; exact hP), (show va_D A (wMo g q (m78 M (itR (cgS (M 1) x1 (-1)) (M 0 7, M 0 8) (i + 1)))) from by rw [show (m78 M (itR (cgS (M 1) x1 (-1)) (M 0 7, M 0 8) (i + 1))) = m78 M (cgS (M 1) x1 (-1) i (itR (cgS (M 1) x1 (-1)) (M 0 7, M 0 8) i)) from by rw [itR_s (by omega)]]; exact hD), hS, lv_sub hl [1, 2, 3, 4, 5, 0] rfl⟩ (by show (120 - (i + 1)).toNat < (120 - i).toNat; omega)
          · have hne := c_sf_ne (w := M 1) (f := x1) (m := i) (y := (-1)) c_5
            have hwr := c_wo_r (M 1) x1 i (-1)
            have e9 : cgS (M 1) x1 (-1) i (itR (cgS (M 1) x1 (-1)) (M 0 7, M 0 8) i) = (c_sf (M 1) x1 (i + c_wo (M 1) x1 i (-1)) (-1), i + c_wo (M 1) x1 i (-1)) := if_neg c_5
            have hc9 := c_5
            have hP : va_P (dC, dI) vwCl (wMo g q (m78 M (c_sf (M 1) x1 (i + c_wo (M 1) x1 i (-1)) (-1), i + c_wo (M 1) x1 i (-1)))) H := by rw [show (m78 M (c_sf (M 1) x1 (i + c_wo (M 1) x1 i (-1)) (-1), i + c_wo (M 1) x1 i (-1))) = m78 M (cgS (M 1) x1 (-1) i (itR (cgS (M 1) x1 (-1)) (M 0 7, M 0 8) i)) from by rw [e9]]; exact hP
            have hD : va_D A (wMo g q (m78 M (c_sf (M 1) x1 (i + c_wo (M 1) x1 i (-1)) (-1), i + c_wo (M 1) x1 i (-1)))) := by rw [show (m78 M (c_sf (M 1) x1 (i + c_wo (M 1) x1 i (-1)) (-1), i + c_wo (M 1) x1 i (-1))) = m78 M (cgS (M 1) x1 (-1) i (itR (cgS (M 1) x1 (-1)) (M 0 7, M 0 8) i)) from by rw [e9]]; exact hD
            refine lv_iinc (v := zI (n + 1)) (lv' := [(3, .int (zI (n + 1))), (0, .ref (q 0)), (1, .int (zI x1)), (2, .int (zI x2)), (4, .int (zI u)), (5, .int (zI i))]) hx hb dX6_often_51 hl (k := 3) rfl (zI_add _ _) (by decide) rfl (fun ls hl => ?_)
            refine lv_iload hx hb dX6_often_54 (lv_at hl 4 rfl) ?_
            refine lv_iload_n hx hb dX6_often_56 rfl (lv_at hl 3 rfl) ?_
            refine q_if_ne (tgt := 75) hx hb dX6_often_57 (by decide) (by omega) (fun c_6 => ?_) (fun c_6 => ?_)
            · refine lv_aload_n hx hb dX6_often_75 rfl (lv_at hl 1 rfl) ?_
              refine va_get (D := (dC, dI)) (ci := 5) (v := .int (zI (i + c_wo (M 1) x1 i (-1)))) (C := RX6) (T := TX6) (N := 15) hx hb hts iX6 hown hK hP 0 rfl rfl 13 (by decide) kf164 (fun _ h9 => h9) rfl dX6_often_76 ?_
              refine lv_iload hx hb dX6_often_79 (lv_at hl 5 rfl) ?_
              refine q_isub hx hb dX6_often_81 ?_
              refine q_iadd hx hb dX6_often_82 ?_
              refine lv_istore (lv' := [(4, .int (zI (u + ((i + c_wo (M 1) x1 i (-1)) - i)))), (3, .int (zI (n + 1))), (0, .ref (q 0)), (1, .int (zI x1)), (2, .int (zI x2)), (5, .int (zI i))]) hx hb dX6_often_83 hl (by decide) rfl (fun ls hl => ?_)
              refine lv_iinc (v := zI (i + 1)) (lv' := [(5, .int (zI (i + 1))), (4, .int (zI (u + ((i + c_wo (M 1) x1 i (-1)) - i)))), (3, .int (zI (n + 1))), (0, .ref (q 0)), (1, .int (zI x1)), (2, .int (zI x2))]) hx hb dX6_often_85 hl (k := 5) rfl (zI_add _ _) (by decide) rfl (fun ls hl => ?_)
              refine lv_goto (tgt := 31) hx hb dX6_often_88 (by decide) ?_
              exact ih31 (i + 1, n + 1, u + ((i + c_wo (M 1) x1 i (-1)) - i)) _ _ ls ⟨(show 0 ≤ (i + 1) ∧ (i + 1) ≤ 120 from by omega), (show (n + 1) = sumR (c_mwN (M 1) x1 (-1)) (i + 1) from by rw [sumR_s (by omega), c_mwN, if_neg hc9]; omega), (show (u + ((i + c_wo (M 1) x1 i (-1)) - i)) = sumR (ofF (M 1) x1 x2) (i + 1) from by rw [sumR_s (by omega), ofF, c_upF, c_mwF, if_neg hc9, if_neg (fun h9 => hc9 (c_w1_ne.mp h9)), c_w1_eq hc9]; split <;> omega), (show va_P (dC, dI) vwCl (wMo g q (m78 M (itR (cgS (M 1) x1 (-1)) (M 0 7, M 0 8) (i + 1)))) H from by rw [show (m78 M (itR (cgS (M 1) x1 (-1)) (M 0 7, M 0 8) (i + 1))) = m78 M (c_sf (M 1) x1 (i + c_wo (M 1) x1 i (-1)) (-1), i + c_wo (M 1) x1 i (-1)) from by rw [itR_s (by omega), e9]]; exact hP), (show va_D A (wMo g q (m78 M (itR (cgS (M 1) x1 (-1)) (M 0 7, M 0 8) (i + 1)))) from by rw [show (m78 M (itR (cgS (M 1) x1 (-1)) (M 0 7, M 0 8) (i + 1))) = m78 M (c_sf (M 1) x1 (i + c_wo (M 1) x1 i (-1)) (-1), i + c_wo (M 1) x1 i (-1)) from by rw [itR_s (by omega), e9]]; exact hD), hS, lv_sub hl [3, 4, 5, 2, 1, 0] rfl⟩ (by show (120 - (i + 1)).toNat < (120 - i).toNat; omega)
            · refine lv_aload_n hx hb dX6_often_60 rfl (lv_at hl 1 rfl) ?_
              refine lv_aload_n hx hb dX6_often_61 rfl (lv_at hl 1 rfl) ?_
              refine va_get (D := (dC, dI)) (ci := 5) (v := .int (zI (c_sf (M 1) x1 (i + c_wo (M 1) x1 i (-1)) (-1)))) (C := RX6) (T := TX6) (N := 15) hx hb hts iX6 hown hK hP 0 rfl rfl 12 (by decide) kf161 (fun _ h9 => h9) rfl dX6_often_62 ?_
              refine lv_aload_n hx hb dX6_often_65 rfl (lv_at hl 1 rfl) ?_
              refine va_get (D := (dC, dI)) (ci := 5) (v := .int (zI (i + c_wo (M 1) x1 i (-1)))) (C := RX6) (T := TX6) (N := 15) hx hb hts iX6 hown hK hP 0 rfl rfl 13 (by decide) kf164 (fun _ h9 => h9) rfl dX6_often_66 ?_
              refine q_cVi (z := c_wy (M 1) (c_sf (M 1) x1 (i + c_wo (M 1) x1 i (-1)) (-1)) (i + c_wo (M 1) x1 i (-1))) (b := (q 0)) (As := [.int (zI (c_sf (M 1) x1 (i + c_wo (M 1) x1 i (-1)) (-1))), .int (zI (i + c_wo (M 1) x1 i (-1)))]) (rest := [.int (zI u)]) ⟨hx, hb, hml, hown, hts⟩ (kX6_wayIn l dC dI g tt q (m78 M (c_sf (M 1) x1 (i + c_wo (M 1) x1 i (-1)) (-1), i + c_wo (M 1) x1 i (-1))) (c_sf (M 1) x1 (i + c_wo (M 1) x1 i (-1)) (-1)) (i + c_wo (M 1) x1 i (-1)) (hw) (show 0 ≤ (c_sf (M 1) x1 (i + c_wo (M 1) x1 i (-1)) (-1)) ∧ (c_sf (M 1) x1 (i + c_wo (M 1) x1 i (-1)) (-1)) < M 1 0 from by omega) (show 0 ≤ (i + c_wo (M 1) x1 i (-1)) ∧ (i + c_wo (M 1) x1 i (-1)) ≤ 90000 from by omega)) (cwV 2 hts gX6_often_X6_wayIn rfl rfl rfl (by decide +kernel) ⟨Nat.le_of_ble_eq_true rfl, Nat.le_of_ble_eq_true rfl⟩) hP hK hT hS 0 5 rfl rfl rfl rfl hl.1 rfl (Nat.le_of_ble_eq_true rfl) dX6_often_69 ⟨Nat.le_of_ble_eq_true rfl, Nat.le_of_ble_eq_true rfl⟩ ?_
              have := c_wy_r (M 1) (c_sf (M 1) x1 (i + c_wo (M 1) x1 i (-1)) (-1)) (i + c_wo (M 1) x1 i (-1))
              refine lv_goto (tgt := 82) hx hb dX6_often_72 (by decide) ?_
              refine q_iadd hx hb dX6_often_82 ?_
              refine lv_istore (lv' := [(4, .int (zI (u + (c_wy (M 1) (c_sf (M 1) x1 (i + c_wo (M 1) x1 i (-1)) (-1)) (i + c_wo (M 1) x1 i (-1)))))), (3, .int (zI (n + 1))), (0, .ref (q 0)), (1, .int (zI x1)), (2, .int (zI x2)), (5, .int (zI i))]) hx hb dX6_often_83 hl (by decide) rfl (fun ls hl => ?_)
              refine lv_iinc (v := zI (i + 1)) (lv' := [(5, .int (zI (i + 1))), (4, .int (zI (u + (c_wy (M 1) (c_sf (M 1) x1 (i + c_wo (M 1) x1 i (-1)) (-1)) (i + c_wo (M 1) x1 i (-1)))))), (3, .int (zI (n + 1))), (0, .ref (q 0)), (1, .int (zI x1)), (2, .int (zI x2))]) hx hb dX6_often_85 hl (k := 5) rfl (zI_add _ _) (by decide) rfl (fun ls hl => ?_)
              refine lv_goto (tgt := 31) hx hb dX6_often_88 (by decide) ?_
              exact ih31 (i + 1, n + 1, u + (c_wy (M 1) (c_sf (M 1) x1 (i + c_wo (M 1) x1 i (-1)) (-1)) (i + c_wo (M 1) x1 i (-1)))) _ _ ls ⟨(show 0 ≤ (i + 1) ∧ (i + 1) ≤ 120 from by omega), (show (n + 1) = sumR (c_mwN (M 1) x1 (-1)) (i + 1) from by rw [sumR_s (by omega), c_mwN, if_neg hc9]; omega), (show (u + (c_wy (M 1) (c_sf (M 1) x1 (i + c_wo (M 1) x1 i (-1)) (-1)) (i + c_wo (M 1) x1 i (-1)))) = sumR (ofF (M 1) x1 x2) (i + 1) from by rw [sumR_s (by omega), ofF, c_upF, c_mwF, if_neg hc9, if_neg (fun h9 => hc9 (c_w1_ne.mp h9)), c_w1_eq hc9]; split <;> omega), (show va_P (dC, dI) vwCl (wMo g q (m78 M (itR (cgS (M 1) x1 (-1)) (M 0 7, M 0 8) (i + 1)))) H from by rw [show (m78 M (itR (cgS (M 1) x1 (-1)) (M 0 7, M 0 8) (i + 1))) = m78 M (c_sf (M 1) x1 (i + c_wo (M 1) x1 i (-1)) (-1), i + c_wo (M 1) x1 i (-1)) from by rw [itR_s (by omega), e9]]; exact hP), (show va_D A (wMo g q (m78 M (itR (cgS (M 1) x1 (-1)) (M 0 7, M 0 8) (i + 1)))) from by rw [show (m78 M (itR (cgS (M 1) x1 (-1)) (M 0 7, M 0 8) (i + 1))) = m78 M (c_sf (M 1) x1 (i + c_wo (M 1) x1 i (-1)) (-1), i + c_wo (M 1) x1 i (-1)) from by rw [itR_s (by omega), e9]]; exact hD), hS, lv_sub hl [3, 4, 5, 2, 1, 0] rfl⟩ (by show (120 - (i + 1)).toNat < (120 - i).toNat; omega)
      · exact ⟨(show 0 ≤ 0 ∧ 0 ≤ 120 from by omega), (show 0 = sumR (c_mwN (M 1) x1 (-1)) 0 from rfl), (show 0 = sumR (ofF (M 1) x1 x2) 0 from rfl), (show va_P (dC, dI) vwCl (wMo g q (m78 M (itR (cgS (M 1) x1 (-1)) (M 0 7, M 0 8) 0))) s.heap from by rw [show (m78 M (itR (cgS (M 1) x1 (-1)) (M 0 7, M 0 8) 0)) = M from m78_id]; exact hP), (show va_D A (wMo g q (m78 M (itR (cgS (M 1) x1 (-1)) (M 0 7, M 0 8) 0))) from by rw [show (m78 M (itR (cgS (M 1) x1 (-1)) (M 0 7, M 0 8) 0)) = M from m78_id]; exact hD), hS, lv_sub hl [3, 4, 5, 2, 1, 0] rfl⟩
    · refine lv_aload_n hx hb dX6_often_18 rfl (lv_at hl 0 rfl) ?_
      refine q_cEi (z := -2) (b := (q 0)) (As := []) (rest := []) (w1 := wMo g q (mbad M)) ⟨hx, hb, hml, hown, hts⟩ hP hD hK hT hS hA (kX6_bad l dC dI g tt _ q M) (cwV 0 hts gX6_often_X6_bad rfl rfl rfl (by decide +kernel) ⟨Nat.le_of_ble_eq_true rfl, Nat.le_of_ble_eq_true rfl⟩) 0 5 rfl rfl rfl rfl hl.1 rfl (Nat.le_of_ble_eq_true rfl) dX6_often_19 ⟨Nat.le_of_ble_eq_true rfl, Nat.le_of_ble_eq_true rfl⟩ (fun H locs hP hD hS => ?_)
      have hPf : va_P (dC, dI) vwCl (wMo g q (m_often M x1 x2)) H := by rw [(show (m_often M x1 x2) = mbad M from by unfold m_often; first | (rw [if_neg (by omega)]; done) | (rw [if_pos (by omega), ← of_S, ← of_N, ← h120, ← hn, ← hu]; unfold mn_M; first | (rw [if_pos (by omega)]; done) | (rw [if_neg (by omega)]; done)))]; exact hP
      have hDf : va_D A (wMo g q (m_often M x1 x2)) := by rw [(show (m_often M x1 x2) = mbad M from by unfold m_often; first | (rw [if_neg (by omega)]; done) | (rw [if_pos (by omega), ← of_S, ← of_N, ← h120, ← hn, ← hu]; unfold mn_M; first | (rw [if_pos (by omega)]; done) | (rw [if_neg (by omega)]; done)))]; exact hD
      exact W.iret hx hb hr (fun t9 ht9 hW9 => ⟨⟨_, (), rfl, congrArg zI (show -2 = ca_often (M 1) x1 x2 from by unfold ca_often; first | (rw [if_neg (by omega)]; done) | (rw [if_pos (by omega), ← of_S, ← of_N, ← h120, ← hn, ← hu]; unfold mnA; first | (rw [if_pos (by omega)]; done) | (rw [if_neg (by omega)]; done))), by rw [ht9]; exact hPf, va_K.moved hW9.alike hK, hDf⟩, hS.F ht9⟩) hS.2.2 dX6_often_22
set_option maxHeartbeats 4000000 in
set_option maxRecDepth 100000 in
theorem kX6_own (l : Launch) (dC : Nat → ClassId) (dI : Nat → Nat → Nat) (g : Nat → ClassId) (tt : Nat → Nat) (sz : Nat) (q : Nat → Nat) (M : Nat → Int → Int) (x1 x2 : Int) (hw : hok (M 1)) (h1 : rI x1 ∧ rI x2) : Met l yX6_own wsX6_own ({ frames := 6, cells := 0, slots := 0, locals := 142 }) (va_Pc [.ref (q 0), .int (zI x1), .int (zI x2)] (eQ (dC, dI) (wTy g) (wMo g q M) tt sz)) (va_Qi (fun r (_ : Unit) => r = zI (ca_own (M 1) x1 x2)) (fQ (dC, dI) (wTy g) (va_A (wMo g q M) sz) (wMo g q (m_own M x1 x2))) (va_A (wMo g q M) sz)) 0 0 (va_A (wMo g q M) sz) := by
  refine Met.ofW (cc := cX6_own) (maxL := 6) (ret := (some .int)) (by decide) rfl ?_
  intro p e s m args below meth c s₁ B hml hv
  obtain ⟨rfl, hsz, hP, hK, hD0, hT⟩ := hv
  have hx := B.exec
  have hb := B.bytes
  have hr := B.returns
  have hts := atoms_spec (ws := wsX6_own) B.pre
  have hown : s.vm.findClass RX6 = some m.cls := findClass_of_methodNamed B.named
  have hlocks := B.notSynchronized
  subst hsz
  have hD := hD0.self (sz := s.heap.size)
  generalize hAe : va_A (wMo g q M) s.heap.size = A at hD hT ⊢
  have hA : ∀ q : Nat, s.heap.size ≤ q → A q := fun q h => by rw [← hAe]; exact Or.inr h
  have hS : va_S A s.heap s.heap [] := va_S.rf
  have hl := lv_entry ([.ref (q 0), .int (zI x1), .int (zI x2)]) (n := 6) (Nat.le_of_ble_eq_true rfl)
  rw [lg_entry_eq]
  generalize (lg_sl ([.ref (q 0), .int (zI x1), .int (zI x2)]) ++ List.replicate (6 - (lg_sl ([.ref (q 0), .int (zI x1), .int (zI x2)])).length) Slot.unset).toArray = ls at hl ⊢
  have hl : lv_has ls 6 [(0, .ref (q 0)), (1, .int (zI x1)), (2, .int (zI x2))] := hl
  have kf164 := hts (.fieldLink RX6 164 "WrongWayModel" "coming" "I") (by decide +kernel)
  have iX6 := (fun w h => List.mem_cons_of_mem _ (List.mem_append_right _ h) : ∀ w ∈ u_ws RX6 TX6 15, w ∈ wsX6_own)
  have hb0 := hw.b
  refine lv_aload_n hx hb dX6_own_0 rfl (lv_at hl 0 rfl) ?_
  refine lv_iload_n hx hb dX6_own_1 rfl (lv_at hl 1 rfl) ?_
  refine q_cVi (z := bz (0 ≤ x1 ∧ x1 ≤ M 1 1)) (b := (q 0)) (As := [.int (zI x1)]) (rest := []) ⟨hx, hb, hml, hown, hts⟩ (kX6_isFloor l dC dI g tt q M x1 (hw) (by omega)) (cwV 1 hts gX6_own_X6_isFloor rfl rfl rfl (by decide +kernel) ⟨Nat.le_of_ble_eq_true rfl, Nat.le_of_ble_eq_true rfl⟩) hP hK hT hS 0 5 rfl rfl rfl rfl hl.1 rfl (Nat.le_of_ble_eq_true rfl) dX6_own_2 ⟨Nat.le_of_ble_eq_true rfl, Nat.le_of_ble_eq_true rfl⟩ ?_
  refine q_bz_eq (tgt := 18) hx hb dX6_own_5 (by decide) (fun c_1 => ?_) (fun c_1 => ?_)
  · refine lv_aload_n hx hb dX6_own_18 rfl (lv_at hl 0 rfl) ?_
    refine q_cEi (z := -2) (b := (q 0)) (As := []) (rest := []) (w1 := wMo g q (mbad M)) ⟨hx, hb, hml, hown, hts⟩ hP hD hK hT hS hA (kX6_bad l dC dI g tt _ q M) (cwV 0 hts gX6_own_X6_bad rfl rfl rfl (by decide +kernel) ⟨Nat.le_of_ble_eq_true rfl, Nat.le_of_ble_eq_true rfl⟩) 0 5 rfl rfl rfl rfl hl.1 rfl (Nat.le_of_ble_eq_true rfl) dX6_own_19 ⟨Nat.le_of_ble_eq_true rfl, Nat.le_of_ble_eq_true rfl⟩ (fun H locs hP hD hS => ?_)
    have hPf : va_P (dC, dI) vwCl (wMo g q (m_own M x1 x2)) H := by rw [(show (m_own M x1 x2) = mbad M from by unfold m_own mwS mwN; first | (rw [if_neg (by omega)]; done) | (rw [if_pos (by omega), ← h120, ← hn, ← hu]; unfold mn_M; first | (rw [if_pos (by omega)]; done) | (rw [if_neg (by omega)]; done)))]; exact hP
    have hDf : va_D A (wMo g q (m_own M x1 x2)) := by rw [(show (m_own M x1 x2) = mbad M from by unfold m_own mwS mwN; first | (rw [if_neg (by omega)]; done) | (rw [if_pos (by omega), ← h120, ← hn, ← hu]; unfold mn_M; first | (rw [if_pos (by omega)]; done) | (rw [if_neg (by omega)]; done)))]; exact hD
    exact W.iret hx hb hr (fun t9 ht9 hW9 => ⟨⟨_, (), rfl, congrArg zI (show -2 = ca_own (M 1) x1 x2 from by unfold ca_own mwS mwN; first | (rw [if_neg (by omega)]; done) | (rw [if_pos (by omega), ← h120, ← hn, ← hu]; unfold mnA; first | (rw [if_pos (by omega)]; done) | (rw [if_neg (by omega)]; done))), by rw [ht9]; exact hPf, va_K.moved hW9.alike hK, hDf⟩, hS.F ht9⟩) hS.2.2 dX6_own_22
  · refine lv_iload_n hx hb dX6_own_8 rfl (lv_at hl 2 rfl) ?_
    refine q_i2l hx hb dX6_own_9 (by omega) ?_
    refine q_lconst hx hb 0 dX6_own_10 rfl ?_
    refine q_lconst hx hb 1 dX6_own_11 rfl ?_
    refine q_cSi (z := bz (0 ≤ x2 ∧ x2 ≤ 1)) (As := [.long (zL x2), .long (zL 0), .long (zL 1)]) (rest := []) ⟨hx, hb, hml, hown, hts⟩ (kX6_in l dC dI g tt x2 0 1 (by omega)) (va_cwS 3 hts gX6_own_X6_in rfl rfl rfl (by decide +kernel) ⟨Nat.le_of_ble_eq_true rfl, Nat.le_of_ble_eq_true rfl⟩) (hP.sub (ws' := []) [] rfl) hK hT hS rfl hl.1 rfl (Nat.le_of_ble_eq_true rfl) dX6_own_12 ⟨Nat.le_of_ble_eq_true rfl, Nat.le_of_ble_eq_true rfl⟩ ?_
    refine q_bz_ne (tgt := 23) hx hb dX6_own_15 (by decide) (fun c_2 => ?_) (fun c_2 => ?_)
    · refine q_iconst hx hb dX6_own_23 ?_
      refine lv_istore_n (lv' := [(3, .int (zI 0)), (0, .ref (q 0)), (1, .int (zI x1)), (2, .int (zI x2))]) hx hb dX6_own_24 rfl hl (by decide) rfl (fun ls hl => ?_)
      refine q_iconst hx hb dX6_own_25 ?_
      refine lv_istore (lv' := [(4, .int (zI 0)), (3, .int (zI 0)), (0, .ref (q 0)), (1, .int (zI x1)), (2, .int (zI x2))]) hx hb dX6_own_26 hl (by decide) rfl (fun ls hl => ?_)
      refine q_iconst hx hb dX6_own_28 ?_
      refine lv_istore (lv' := [(5, .int (zI 0)), (4, .int (zI 0)), (3, .int (zI 0)), (0, .ref (q 0)), (1, .int (zI x1)), (2, .int (zI x2))]) hx hb dX6_own_29 hl (by decide) rfl (fun ls hl => ?_)
      refine w_loopQ (σ := Int × Int × Int) (fun a9 H locs ls => (0 ≤ a9.1 ∧ a9.1 ≤ 120) ∧ (a9.2.1 = sumR (c_mwN (M 1) x1 x2) a9.1) ∧ (a9.2.2 = sumR (c_mwF (M 1) x1 x2) a9.1) ∧ va_P (dC, dI) vwCl (wMo g q (m78 M (itR (cgS (M 1) x1 x2) (M 0 7, M 0 8) a9.1))) H ∧ va_D A (wMo g q (m78 M (itR (cgS (M 1) x1 x2) (M 0 7, M 0 8) a9.1))) ∧ va_S A s.heap H locs ∧ lv_has ls 6 [(0, .ref (q 0)), (1, .int (zI x1)), (2, .int (zI x2)), (3, .int (zI a9.2.1)), (4, .int (zI a9.2.2)), (5, .int (zI a9.1))]) (fun a9 => (120 - a9.1).toNat) ?_ (0, 0, 0) ?_
      · rintro ⟨i, n, u⟩ H locs ls ⟨hi, hn, hu, hP, hD, hS, hl⟩ ih31
        have hi : 0 ≤ i ∧ i ≤ 120 := hi
        have hn : n = sumR (c_mwN (M 1) x1 x2) i := hn
        have hu : u = sumR (c_mwF (M 1) x1 x2) i := hu
        have hP : va_P (dC, dI) vwCl (wMo g q (m78 M (itR (cgS (M 1) x1 x2) (M 0 7, M 0 8) i))) H := hP
        have hD : va_D A (wMo g q (m78 M (itR (cgS (M 1) x1 x2) (M 0 7, M 0 8) i))) := hD
        have hl : lv_has ls 6 [(0, .ref (q 0)), (1, .int (zI x1)), (2, .int (zI x2)), (3, .int (zI n)), (4, .int (zI u)), (5, .int (zI i))] := hl
        refine lv_iload hx hb dX6_own_31 (lv_at hl 5 rfl) ?_
        refine q_bipush hx hb dX6_own_33 rfl ?_
        refine q_icmp_ge (tgt := 72) hx hb dX6_own_35 (by decide) (by omega) (fun c_3 => ?_) (fun c_3 => ?_)
        · have h120 : i = 120 := by omega
          have hbn := c_mw_b (M 1) x1 x2 (N := i) (by omega)
          refine lv_iload_n hx hb dX6_own_72 rfl (lv_at hl 3 rfl) ?_
          refine q_if_ne (tgt := 83) hx hb dX6_own_73 (by decide) (by omega) (fun c_4 => ?_) (fun c_4 => ?_)
          · refine lv_aload_n hx hb dX6_own_83 rfl (lv_at hl 0 rfl) ?_
            refine lv_iload hx hb dX6_own_84 (lv_at hl 4 rfl) ?_
            refine q_i2l hx hb dX6_own_86 (by omega) ?_
            refine lv_iload_n hx hb dX6_own_87 rfl (lv_at hl 3 rfl) ?_
            refine q_i2l hx hb dX6_own_88 (by omega) ?_
            refine q_cEi (z := 1) (b := (q 0)) (As := [.long (zL u), .long (zL n)]) (rest := []) (w1 := wMo g q (m_tel (m78 M (itR (cgS (M 1) x1 x2) (M 0 7, M 0 8) i)) u n)) ⟨hx, hb, hml, hown, hts⟩ hP hD hK hT hS hA (kX6_tells l dC dI g tt _ q (m78 M (itR (cgS (M 1) x1 x2) (M 0 7, M 0 8) i)) u n (show (0 ≤ u ∧ u < 1000000000) ∧ (1 ≤ n ∧ n < 1000000000) from by omega)) (cwV 2 hts gX6_own_X6_tells rfl rfl rfl (by decide +kernel) ⟨Nat.le_of_ble_eq_true rfl, Nat.le_of_ble_eq_true rfl⟩) 0 5 rfl rfl rfl rfl hl.1 rfl (Nat.le_of_ble_eq_true rfl) dX6_own_89 ⟨Nat.le_of_ble_eq_true rfl, Nat.le_of_ble_eq_true rfl⟩ (fun H locs hP hD hS => ?_)
            have hPf : va_P (dC, dI) vwCl (wMo g q (m_own M x1 x2)) H := by rw [(show (m_own M x1 x2) = m_tel (m78 M (itR (cgS (M 1) x1 x2) (M 0 7, M 0 8) i)) u n from by unfold m_own mwS mwN; first | (rw [if_neg (by omega)]; done) | (rw [if_pos (by omega), ← h120, ← hn, ← hu]; unfold mn_M; first | (rw [if_pos (by omega)]; done) | (rw [if_neg (by omega)]; done)))]; exact hP
            have hDf : va_D A (wMo g q (m_own M x1 x2)) := by rw [(show (m_own M x1 x2) = m_tel (m78 M (itR (cgS (M 1) x1 x2) (M 0 7, M 0 8) i)) u n from by unfold m_own mwS mwN; first | (rw [if_neg (by omega)]; done) | (rw [if_pos (by omega), ← h120, ← hn, ← hu]; unfold mn_M; first | (rw [if_pos (by omega)]; done) | (rw [if_neg (by omega)]; done)))]; exact hD
            exact W.iret hx hb hr (fun t9 ht9 hW9 => ⟨⟨_, (), rfl, congrArg zI (show 1 = ca_own (M 1) x1 x2 from by unfold ca_own mwS mwN; first | (rw [if_neg (by omega)]; done) | (rw [if_pos (by omega), ← h120, ← hn, ← hu]; unfold mnA; first | (rw [if_pos (by omega)]; done) | (rw [if_neg (by omega)]; done))), by rw [ht9]; exact hPf, va_K.moved hW9.alike hK, hDf⟩, hS.F ht9⟩) hS.2.2 dX6_own_92
          · refine lv_aload_n hx hb dX6_own_76 rfl (lv_at hl 0 rfl) ?_
            refine q_cEi (z := -3) (b := (q 0)) (As := []) (rest := []) (w1 := wMo g q (mno (m78 M (itR (cgS (M 1) x1 x2) (M 0 7, M 0 8) i)))) ⟨hx, hb, hml, hown, hts⟩ hP hD hK hT hS hA (kX6_no l dC dI g tt _ q (m78 M (itR (cgS (M 1) x1 x2) (M 0 7, M 0 8) i))) (cwV 0 hts gX6_own_X6_no rfl rfl rfl (by decide +kernel) ⟨Nat.le_of_ble_eq_true rfl, Nat.le_of_ble_eq_true rfl⟩) 0 5 rfl rfl rfl rfl hl.1 rfl (Nat.le_of_ble_eq_true rfl) dX6_own_77 ⟨Nat.le_of_ble_eq_true rfl, Nat.le_of_ble_eq_true rfl⟩ (fun H locs hP hD hS => ?_)
            refine lv_goto (tgt := 92) hx hb dX6_own_80 (by decide) ?_
            have hPf : va_P (dC, dI) vwCl (wMo g q (m_own M x1 x2)) H := by rw [(show (m_own M x1 x2) = mno (m78 M (itR (cgS (M 1) x1 x2) (M 0 7, M 0 8) i)) from by unfold m_own mwS mwN; first | (rw [if_neg (by omega)]; done) | (rw [if_pos (by omega), ← h120, ← hn, ← hu]; unfold mn_M; first | (rw [if_pos (by omega)]; done) | (rw [if_neg (by omega)]; done)))]; exact hP
            have hDf : va_D A (wMo g q (m_own M x1 x2)) := by rw [(show (m_own M x1 x2) = mno (m78 M (itR (cgS (M 1) x1 x2) (M 0 7, M 0 8) i)) from by unfold m_own mwS mwN; first | (rw [if_neg (by omega)]; done) | (rw [if_pos (by omega), ← h120, ← hn, ← hu]; unfold mn_M; first | (rw [if_pos (by omega)]; done) | (rw [if_neg (by omega)]; done)))]; exact hD
            exact W.iret hx hb hr (fun t9 ht9 hW9 => ⟨⟨_, (), rfl, congrArg zI (show -3 = ca_own (M 1) x1 x2 from by unfold ca_own mwS mwN; first | (rw [if_neg (by omega)]; done) | (rw [if_pos (by omega), ← h120, ← hn, ← hu]; unfold mnA; first | (rw [if_pos (by omega)]; done) | (rw [if_neg (by omega)]; done))), by rw [ht9]; exact hPf, va_K.moved hW9.alike hK, hDf⟩, hS.F ht9⟩) hS.2.2 dX6_own_92
        · refine lv_aload_n hx hb dX6_own_38 rfl (lv_at hl 0 rfl) ?_
          refine lv_iload_n hx hb dX6_own_39 rfl (lv_at hl 1 rfl) ?_
          refine lv_iload hx hb dX6_own_40 (lv_at hl 5 rfl) ?_
          refine q_bipush hx hb dX6_own_42 rfl ?_
          refine lv_iload_n hx hb dX6_own_44 rfl (lv_at hl 2 rfl) ?_
          refine q_cEi (z := bz (¬ c_wo (M 1) x1 i x2 = -1)) (b := (q 0)) (As := [.int (zI x1), .int (zI i), .int (zI 15), .int (zI x2)]) (rest := []) (w1 := wMo g q (m78 (m78 M (itR (cgS (M 1) x1 x2) (M 0 7, M 0 8) i)) (cgS (M 1) x1 x2 i (((itR (cgS (M 1) x1 x2) (M 0 7, M 0 8) i).1), ((itR (cgS (M 1) x1 x2) (M 0 7, M 0 8) i).2))))) ⟨hx, hb, hml, hown, hts⟩ hP hD hK hT hS hA (kX6_comesw l dC dI g tt _ q (m78 M (itR (cgS (M 1) x1 x2) (M 0 7, M 0 8) i)) x1 i 15 x2 (hw) (show 0 ≤ x1 ∧ x1 ≤ M 1 1 from by omega) (show 0 ≤ i ∧ i ≤ 2000 from by omega) (rfl) (show 0 ≤ x2 ∧ x2 ≤ 1 from by omega)) (cwV 4 hts gX6_own_X6_comes rfl rfl rfl (by decide +kernel) ⟨Nat.le_of_ble_eq_true rfl, Nat.le_of_ble_eq_true rfl⟩) 0 5 rfl rfl rfl rfl hl.1 rfl (Nat.le_of_ble_eq_true rfl) dX6_own_45 ⟨Nat.le_of_ble_eq_true rfl, Nat.le_of_ble_eq_true rfl⟩ (fun H locs hP hD hS => ?_)
          have hP : va_P (dC, dI) vwCl (wMo g q (m78 M (cgS (M 1) x1 x2 i (itR (cgS (M 1) x1 x2) (M 0 7, M 0 8) i)))) H := by rw [show (m78 M (cgS (M 1) x1 x2 i (itR (cgS (M 1) x1 x2) (M 0 7, M 0 8) i))) = m78 (m78 M (itR (cgS (M 1) x1 x2) (M 0 7, M 0 8) i)) (cgS (M 1) x1 x2 i (((itR (cgS (M 1) x1 x2) (M 0 7, M 0 8) i).1), ((itR (cgS (M 1) x1 x2) (M 0 7, M 0 8) i).2))) from m78_78.symm]; exact hP
          have hD : va_D A (wMo g q (m78 M (cgS (M 1) x1 x2 i (itR (cgS (M 1) x1 x2) (M 0 7, M 0 8) i)))) := by rw [show (m78 M (cgS (M 1) x1 x2 i (itR (cgS (M 1) x1 x2) (M 0 7, M 0 8) i))) = m78 (m78 M (itR (cgS (M 1) x1 x2) (M 0 7, M 0 8) i)) (cgS (M 1) x1 x2 i (((itR (cgS (M 1) x1 x2) (M 0 7, M 0 8) i).1), ((itR (cgS (M 1) x1 x2) (M 0 7, M 0 8) i).2))) from m78_78.symm]; exact hD
          refine q_bz_eq (tgt := 66) hx hb dX6_own_48 (by decide) (fun c_5 => ?_) (fun c_5 => ?_)
          · refine lv_iinc (v := zI (i + 1)) (lv' := [(5, .int (zI (i + 1))), (0, .ref (q 0)), (1, .int (zI x1)), (2, .int (zI x2)), (3, .int (zI n)), (4, .int (zI u))]) hx hb dX6_own_66 hl (k := 5) rfl (zI_add _ _) (by decide) rfl (fun ls hl => ?_)
            refine lv_goto (tgt := 31) hx hb dX6_own_69 (by decide) ?_
            exact ih31 (i + 1, n, u) _ _ ls ⟨(show 0 ≤ (i + 1) ∧ (i + 1) ≤ 120 from by omega), (show n = sumR (c_mwN (M 1) x1 x2) (i + 1) from by rw [sumR_s (by omega), c_mwN, if_pos (Decidable.not_not.mp c_5)]; omega), (show u = sumR (c_mwF (M 1) x1 x2) (i + 1) from by rw [sumR_s (by omega), c_mwF, if_pos (Decidable.not_not.mp c_5)]; omega), (show va_P (dC, dI) vwCl (wMo g q (m78 M (itR (cgS (M 1) x1 x2) (M 0 7, M 0 8) (i + 1)))) H from by rw [show (m78 M (itR (cgS (M 1) x1 x2) (M 0 7, M 0 8) (i + 1))) = m78 M (cgS (M 1) x1 x2 i (itR (cgS (M 1) x1 x2) (M 0 7, M 0 8) i)) from by rw [itR_s (by omega)]]; exact hP), (show va_D A (wMo g q (m78 M (itR (cgS (M 1) x1 x2) (M 0 7, M 0 8) (i + 1)))) from by rw [show (m78 M (itR (cgS (M 1) x1 x2) (M 0 7, M 0 8) (i + 1))) = m78 M (cgS (M 1) x1 x2 i (itR (cgS (M 1) x1 x2) (M 0 7, M 0 8) i)) from by rw [itR_s (by omega)]]; exact hD), hS, lv_sub hl [1, 2, 3, 4, 5, 0] rfl⟩ (by show (120 - (i + 1)).toNat < (120 - i).toNat; omega)
          · have hne := c_sf_ne (w := M 1) (f := x1) (m := i) (y := x2) c_5
            have hwr := c_wo_r (M 1) x1 i x2
            have e9 : cgS (M 1) x1 x2 i (itR (cgS (M 1) x1 x2) (M 0 7, M 0 8) i) = (c_sf (M 1) x1 (i + c_wo (M 1) x1 i x2) x2, i + c_wo (M 1) x1 i x2) := if_neg c_5
            have hc9 := c_5
            have hP : va_P (dC, dI) vwCl (wMo g q (m78 M (c_sf (M 1) x1 (i + c_wo (M 1) x1 i x2) x2, i + c_wo (M 1) x1 i x2))) H := by rw [show (m78 M (c_sf (M 1) x1 (i + c_wo (M 1) x1 i x2) x2, i + c_wo (M 1) x1 i x2)) = m78 M (cgS (M 1) x1 x2 i (itR (cgS (M 1) x1 x2) (M 0 7, M 0 8) i)) from by rw [e9]]; exact hP
            have hD : va_D A (wMo g q (m78 M (c_sf (M 1) x1 (i + c_wo (M 1) x1 i x2) x2, i + c_wo (M 1) x1 i x2))) := by rw [show (m78 M (c_sf (M 1) x1 (i + c_wo (M 1) x1 i x2) x2, i + c_wo (M 1) x1 i x2)) = m78 M (cgS (M 1) x1 x2 i (itR (cgS (M 1) x1 x2) (M 0 7, M 0 8) i)) from by rw [e9]]; exact hD
            refine lv_iinc (v := zI (n + 1)) (lv' := [(3, .int (zI (n + 1))), (0, .ref (q 0)), (1, .int (zI x1)), (2, .int (zI x2)), (4, .int (zI u)), (5, .int (zI i))]) hx hb dX6_own_51 hl (k := 3) rfl (zI_add _ _) (by decide) rfl (fun ls hl => ?_)
            refine lv_iload hx hb dX6_own_54 (lv_at hl 4 rfl) ?_
            refine lv_aload_n hx hb dX6_own_56 rfl (lv_at hl 1 rfl) ?_
            refine va_get (D := (dC, dI)) (ci := 5) (v := .int (zI (i + c_wo (M 1) x1 i x2))) (C := RX6) (T := TX6) (N := 15) hx hb hts iX6 hown hK hP 0 rfl rfl 13 (by decide) kf164 (fun _ h9 => h9) rfl dX6_own_57 ?_
            refine lv_iload hx hb dX6_own_60 (lv_at hl 5 rfl) ?_
            refine q_isub hx hb dX6_own_62 ?_
            refine q_iadd hx hb dX6_own_63 ?_
            refine lv_istore (lv' := [(4, .int (zI (u + ((i + c_wo (M 1) x1 i x2) - i)))), (3, .int (zI (n + 1))), (0, .ref (q 0)), (1, .int (zI x1)), (2, .int (zI x2)), (5, .int (zI i))]) hx hb dX6_own_64 hl (by decide) rfl (fun ls hl => ?_)
            refine lv_iinc (v := zI (i + 1)) (lv' := [(5, .int (zI (i + 1))), (4, .int (zI (u + ((i + c_wo (M 1) x1 i x2) - i)))), (3, .int (zI (n + 1))), (0, .ref (q 0)), (1, .int (zI x1)), (2, .int (zI x2))]) hx hb dX6_own_66 hl (k := 5) rfl (zI_add _ _) (by decide) rfl (fun ls hl => ?_)
            refine lv_goto (tgt := 31) hx hb dX6_own_69 (by decide) ?_
            exact ih31 (i + 1, n + 1, u + ((i + c_wo (M 1) x1 i x2) - i)) _ _ ls ⟨(show 0 ≤ (i + 1) ∧ (i + 1) ≤ 120 from by omega), (show (n + 1) = sumR (c_mwN (M 1) x1 x2) (i + 1) from by rw [sumR_s (by omega), c_mwN, if_neg hc9]; omega), (show (u + ((i + c_wo (M 1) x1 i x2) - i)) = sumR (c_mwF (M 1) x1 x2) (i + 1) from by rw [sumR_s (by omega), c_mwF, if_neg hc9]; omega), (show va_P (dC, dI) vwCl (wMo g q (m78 M (itR (cgS (M 1) x1 x2) (M 0 7, M 0 8) (i + 1)))) H from by rw [show (m78 M (itR (cgS (M 1) x1 x2) (M 0 7, M 0 8) (i + 1))) = m78 M (c_sf (M 1) x1 (i + c_wo (M 1) x1 i x2) x2, i + c_wo (M 1) x1 i x2) from by rw [itR_s (by omega), e9]]; exact hP), (show va_D A (wMo g q (m78 M (itR (cgS (M 1) x1 x2) (M 0 7, M 0 8) (i + 1)))) from by rw [show (m78 M (itR (cgS (M 1) x1 x2) (M 0 7, M 0 8) (i + 1))) = m78 M (c_sf (M 1) x1 (i + c_wo (M 1) x1 i x2) x2, i + c_wo (M 1) x1 i x2) from by rw [itR_s (by omega), e9]]; exact hD), hS, lv_sub hl [3, 4, 5, 2, 1, 0] rfl⟩ (by show (120 - (i + 1)).toNat < (120 - i).toNat; omega)
      · exact ⟨(show 0 ≤ 0 ∧ 0 ≤ 120 from by omega), (show 0 = sumR (c_mwN (M 1) x1 x2) 0 from rfl), (show 0 = sumR (c_mwF (M 1) x1 x2) 0 from rfl), (show va_P (dC, dI) vwCl (wMo g q (m78 M (itR (cgS (M 1) x1 x2) (M 0 7, M 0 8) 0))) s.heap from by rw [show (m78 M (itR (cgS (M 1) x1 x2) (M 0 7, M 0 8) 0)) = M from m78_id]; exact hP), (show va_D A (wMo g q (m78 M (itR (cgS (M 1) x1 x2) (M 0 7, M 0 8) 0))) from by rw [show (m78 M (itR (cgS (M 1) x1 x2) (M 0 7, M 0 8) 0)) = M from m78_id]; exact hD), hS, lv_sub hl [3, 4, 5, 2, 1, 0] rfl⟩
    · refine lv_aload_n hx hb dX6_own_18 rfl (lv_at hl 0 rfl) ?_
      refine q_cEi (z := -2) (b := (q 0)) (As := []) (rest := []) (w1 := wMo g q (mbad M)) ⟨hx, hb, hml, hown, hts⟩ hP hD hK hT hS hA (kX6_bad l dC dI g tt _ q M) (cwV 0 hts gX6_own_X6_bad rfl rfl rfl (by decide +kernel) ⟨Nat.le_of_ble_eq_true rfl, Nat.le_of_ble_eq_true rfl⟩) 0 5 rfl rfl rfl rfl hl.1 rfl (Nat.le_of_ble_eq_true rfl) dX6_own_19 ⟨Nat.le_of_ble_eq_true rfl, Nat.le_of_ble_eq_true rfl⟩ (fun H locs hP hD hS => ?_)
      have hPf : va_P (dC, dI) vwCl (wMo g q (m_own M x1 x2)) H := by rw [(show (m_own M x1 x2) = mbad M from by unfold m_own mwS mwN; first | (rw [if_neg (by omega)]; done) | (rw [if_pos (by omega), ← h120, ← hn, ← hu]; unfold mn_M; first | (rw [if_pos (by omega)]; done) | (rw [if_neg (by omega)]; done)))]; exact hP
      have hDf : va_D A (wMo g q (m_own M x1 x2)) := by rw [(show (m_own M x1 x2) = mbad M from by unfold m_own mwS mwN; first | (rw [if_neg (by omega)]; done) | (rw [if_pos (by omega), ← h120, ← hn, ← hu]; unfold mn_M; first | (rw [if_pos (by omega)]; done) | (rw [if_neg (by omega)]; done)))]; exact hD
      exact W.iret hx hb hr (fun t9 ht9 hW9 => ⟨⟨_, (), rfl, congrArg zI (show -2 = ca_own (M 1) x1 x2 from by unfold ca_own mwS mwN; first | (rw [if_neg (by omega)]; done) | (rw [if_pos (by omega), ← h120, ← hn, ← hu]; unfold mnA; first | (rw [if_pos (by omega)]; done) | (rw [if_neg (by omega)]; done))), by rw [ht9]; exact hPf, va_K.moved hW9.alike hK, hDf⟩, hS.F ht9⟩) hS.2.2 dX6_own_22
set_option maxHeartbeats 4000000 in
set_option maxRecDepth 100000 in
theorem kX6_rides (l : Launch) (dC : Nat → ClassId) (dI : Nat → Nat → Nat) (g : Nat → ClassId) (tt : Nat → Nat) (sz : Nat) (q : Nat → Nat) (M : Nat → Int → Int) (x1 x2 x3 x4 : Int) (hw : hok (M 1)) (h1 : 0 ≤ x1 ∧ x1 ≤ M 1 1) (h2 : 0 ≤ x2 ∧ x2 ≤ M 1 1) (h3 : 0 ≤ x3 ∧ x3 ≤ 1200) (h4 : 0 ≤ x4 ∧ x4 ≤ 2) : Met l yX6_rides wsX6_rides ({ frames := 6, cells := 0, slots := 0, locals := 142 }) (va_Pc [.ref (q 0), .int (zI x1), .int (zI x2), .int (zI x3), .int (zI x4)] (eQ (dC, dI) (wTy g) (wMo g q M) tt sz)) (va_Qi (fun r (_ : Unit) => r = zI (mr_rd (M 1) x1 x2 x3 (wyy x4))) (fQ (dC, dI) (wTy g) (va_A (wMo g q M) sz) (wMo g q (rdM M x1 x2 x3 (wyy x4)))) (va_A (wMo g q M) sz)) 0 0 (va_A (wMo g q M) sz) := by
  refine Met.ofW (cc := cX6_rides) (maxL := 6) (ret := (some .int)) (by decide) rfl ?_
  intro p e s m args below meth c s₁ B hml hv
  obtain ⟨rfl, hsz, hP, hK, hD0, hT⟩ := hv
  have hx := B.exec
  have hb := B.bytes
  have hr := B.returns
  have hts := atoms_spec (ws := wsX6_rides) B.pre
  have hown : s.vm.findClass RX6 = some m.cls := findClass_of_methodNamed B.named
  have hlocks := B.notSynchronized
  subst hsz
  have hD := hD0.self (sz := s.heap.size)
  generalize hAe : va_A (wMo g q M) s.heap.size = A at hD hT ⊢
  have hA : ∀ q : Nat, s.heap.size ≤ q → A q := fun q h => by rw [← hAe]; exact Or.inr h
  have hS : va_S A s.heap s.heap [] := va_S.rf
  have hl := lv_entry ([.ref (q 0), .int (zI x1), .int (zI x2), .int (zI x3), .int (zI x4)]) (n := 6) (Nat.le_of_ble_eq_true rfl)
  rw [lg_entry_eq]
  generalize (lg_sl ([.ref (q 0), .int (zI x1), .int (zI x2), .int (zI x3), .int (zI x4)]) ++ List.replicate (6 - (lg_sl ([.ref (q 0), .int (zI x1), .int (zI x2), .int (zI x3), .int (zI x4)])).length) Slot.unset).toArray = ls at hl ⊢
  have hl : lv_has ls 6 [(0, .ref (q 0)), (1, .int (zI x1)), (2, .int (zI x2)), (3, .int (zI x3)), (4, .int (zI x4))] := hl
  have kf161 := hts (.fieldLink RX6 161 "WrongWayModel" "comer" "I") (by decide +kernel)
  have kf164 := hts (.fieldLink RX6 164 "WrongWayModel" "coming" "I") (by decide +kernel)
  have iX6 := (fun w h => List.mem_cons_of_mem _ (List.mem_append_right _ h) : ∀ w ∈ u_ws RX6 TX6 15, w ∈ wsX6_rides)
  have hb0 := hw.b
  refine lv_iload_n hx hb dX6_rides_0 rfl (lv_at hl 1 rfl) ?_
  refine lv_iload_n hx hb dX6_rides_1 rfl (lv_at hl 2 rfl) ?_
  refine q_icmp_ne (tgt := 7) hx hb dX6_rides_2 (by decide) (by omega) (fun c_1 => ?_) (fun c_1 => ?_)
  · refine lv_aload_n hx hb dX6_rides_7 rfl (lv_at hl 0 rfl) ?_
    refine lv_iload_n hx hb dX6_rides_8 rfl (lv_at hl 1 rfl) ?_
    refine lv_iload_n hx hb dX6_rides_9 rfl (lv_at hl 3 rfl) ?_
    refine q_bipush hx hb dX6_rides_10 rfl ?_
    refine lv_iload hx hb dX6_rides_12 (lv_at hl 4 rfl) ?_
    refine q_cEi (z := bz (¬ c_wo (M 1) x1 x3 (wyy x4) = -1)) (b := (q 0)) (As := [.int (zI x1), .int (zI x3), .int (zI 15), .int (zI x4)]) (rest := []) (w1 := wMo g q (m78 M (cgS (M 1) x1 (wyy x4) x3 (M 0 7, M 0 8)))) ⟨hx, hb, hml, hown, hts⟩ hP hD hK hT hS hA (kX6_comesf l dC dI g tt _ q M x1 x3 15 x4 (hw) (by omega) (by omega) (rfl) (by omega)) (cwV 4 hts gX6_rides_X6_comes rfl rfl rfl (by decide +kernel) ⟨Nat.le_of_ble_eq_true rfl, Nat.le_of_ble_eq_true rfl⟩) 0 5 rfl rfl rfl rfl hl.1 rfl (Nat.le_of_ble_eq_true rfl) dX6_rides_14 ⟨Nat.le_of_ble_eq_true rfl, Nat.le_of_ble_eq_true rfl⟩ (fun H locs hP hD hS => ?_)
    refine q_bz_ne (tgt := 22) hx hb dX6_rides_17 (by decide) (fun c_2 => ?_) (fun c_2 => ?_)
    · have hcw := c_2
      have hne := c_sf_ne (w := M 1) (f := x1) (m := x3) (y := wyy x4) hcw
      have hwr := c_wo_r (M 1) x1 x3 (wyy x4)
      have e9 : cgS (M 1) x1 (wyy x4) x3 (M 0 7, M 0 8) = (c_sf (M 1) x1 (x3 + c_wo (M 1) x1 x3 (wyy x4)) (wyy x4), x3 + c_wo (M 1) x1 x3 (wyy x4)) := if_neg hcw
      have hP : va_P (dC, dI) vwCl (wMo g q (m78 M (c_sf (M 1) x1 (x3 + c_wo (M 1) x1 x3 (wyy x4)) (wyy x4), x3 + c_wo (M 1) x1 x3 (wyy x4)))) H := by rw [show (m78 M (c_sf (M 1) x1 (x3 + c_wo (M 1) x1 x3 (wyy x4)) (wyy x4), x3 + c_wo (M 1) x1 x3 (wyy x4))) = m78 M (cgS (M 1) x1 (wyy x4) x3 (M 0 7, M 0 8)) from by rw [e9]]; exact hP
      have hD : va_D A (wMo g q (m78 M (c_sf (M 1) x1 (x3 + c_wo (M 1) x1 x3 (wyy x4)) (wyy x4), x3 + c_wo (M 1) x1 x3 (wyy x4)))) := by rw [show (m78 M (c_sf (M 1) x1 (x3 + c_wo (M 1) x1 x3 (wyy x4)) (wyy x4), x3 + c_wo (M 1) x1 x3 (wyy x4))) = m78 M (cgS (M 1) x1 (wyy x4) x3 (M 0 7, M 0 8)) from by rw [e9]]; exact hD
      refine q_iconst hx hb dX6_rides_22 ?_
      refine lv_istore (lv' := [(5, .int (zI 0)), (0, .ref (q 0)), (1, .int (zI x1)), (2, .int (zI x2)), (3, .int (zI x3)), (4, .int (zI x4))]) hx hb dX6_rides_23 hl (by decide) rfl (fun ls hl => ?_)
      refine w_loopP (σ := Int) (fun a9 ls => (0 ≤ a9 ∧ a9 ≤ 200) ∧ (c_wf (M 1) (c_sf (M 1) x1 (x3 + c_wo (M 1) x1 x3 (wyy x4)) (wyy x4)) x2 (x3 + c_wo (M 1) x1 x3 (wyy x4)) = srI (c_wfP (M 1) (c_sf (M 1) x1 (x3 + c_wo (M 1) x1 x3 (wyy x4)) (wyy x4)) x2 (x3 + c_wo (M 1) x1 x3 (wyy x4))) 200 a9) ∧ lv_has ls 6 [(0, .ref (q 0)), (1, .int (zI x1)), (2, .int (zI x2)), (3, .int (zI x3)), (4, .int (zI x4)), (5, .int (zI a9))]) (fun a9 => (200 - a9).toNat) ?_ (0) ?_
      · rintro k ls ⟨hk, hs, hl⟩ ih25
        have hk : 0 ≤ k ∧ k ≤ 200 := hk
        have hs : c_wf (M 1) (c_sf (M 1) x1 (x3 + c_wo (M 1) x1 x3 (wyy x4)) (wyy x4)) x2 (x3 + c_wo (M 1) x1 x3 (wyy x4)) = srI (c_wfP (M 1) (c_sf (M 1) x1 (x3 + c_wo (M 1) x1 x3 (wyy x4)) (wyy x4)) x2 (x3 + c_wo (M 1) x1 x3 (wyy x4))) 200 k := hs
        have hl : lv_has ls 6 [(0, .ref (q 0)), (1, .int (zI x1)), (2, .int (zI x2)), (3, .int (zI x3)), (4, .int (zI x4)), (5, .int (zI k))] := hl
        refine lv_iload hx hb dX6_rides_25 (lv_at hl 5 rfl) ?_
        refine q_sipush hx hb dX6_rides_27 rfl ?_
        refine q_icmp_ge (tgt := 66) hx hb dX6_rides_30 (by decide) (by omega) (fun c_3 => ?_) (fun c_3 => ?_)
        · refine q_iconst hx hb dX6_rides_66 ?_
          have hPf : va_P (dC, dI) vwCl (wMo g q (rdM M x1 x2 x3 (wyy x4))) H := by rw [(show (rdM M x1 x2 x3 (wyy x4)) = m78 M (c_sf (M 1) x1 (x3 + c_wo (M 1) x1 x3 (wyy x4)) (wyy x4), x3 + c_wo (M 1) x1 x3 (wyy x4)) from by unfold rdM; first | (rw [if_pos c_1]; done) | (rw [if_neg c_1, e9]; done) | (rw [if_neg c_1]; done))]; exact hP
          have hDf : va_D A (wMo g q (rdM M x1 x2 x3 (wyy x4))) := by rw [(show (rdM M x1 x2 x3 (wyy x4)) = m78 M (c_sf (M 1) x1 (x3 + c_wo (M 1) x1 x3 (wyy x4)) (wyy x4), x3 + c_wo (M 1) x1 x3 (wyy x4)) from by unfold rdM; first | (rw [if_pos c_1]; done) | (rw [if_neg c_1, e9]; done) | (rw [if_neg c_1]; done))]; exact hD
          exact W.iret hx hb hr (fun t9 ht9 hW9 => ⟨⟨_, (), rfl, congrArg zI (show (-1) = mr_rd (M 1) x1 x2 x3 (wyy x4) from by unfold mr_rd; first | (rw [c_rd_0 c_1, if_neg (by decide)]; omega) | (rw [c_rd_n c_1 (Decidable.not_not.mp c_3), if_pos rfl]; done) | (rw [c_rd_k c_1 hcw (hs.trans (srI_end (by omega))), if_pos rfl, if_pos rfl]; done) | (rw [c_rd_k c_1 hcw (hs.trans (srI_hit (P := c_wfP (M 1) (c_sf (M 1) x1 (x3 + c_wo (M 1) x1 x3 (wyy x4)) (wyy x4)) x2 (x3 + c_wo (M 1) x1 x3 (wyy x4))) (by omega) c_3)), if_neg (show ¬ k = -1 by omega), if_neg (by omega)]; omega)), by rw [ht9]; exact hPf, va_K.moved hW9.alike hK, hDf⟩, hS.F ht9⟩) hS.2.2 dX6_rides_67
        · refine lv_aload_n hx hb dX6_rides_33 rfl (lv_at hl 0 rfl) ?_
          refine lv_aload_n hx hb dX6_rides_34 rfl (lv_at hl 0 rfl) ?_
          refine va_get (D := (dC, dI)) (ci := 5) (v := .int (zI (c_sf (M 1) x1 (x3 + c_wo (M 1) x1 x3 (wyy x4)) (wyy x4)))) (C := RX6) (T := TX6) (N := 15) hx hb hts iX6 hown hK hP 0 rfl rfl 12 (by decide) kf161 (fun _ h9 => h9) rfl dX6_rides_35 ?_
          refine lv_iload_n hx hb dX6_rides_38 rfl (lv_at hl 2 rfl) ?_
          refine lv_aload_n hx hb dX6_rides_39 rfl (lv_at hl 0 rfl) ?_
          refine va_get (D := (dC, dI)) (ci := 5) (v := .int (zI (x3 + c_wo (M 1) x1 x3 (wyy x4)))) (C := RX6) (T := TX6) (N := 15) hx hb hts iX6 hown hK hP 0 rfl rfl 13 (by decide) kf164 (fun _ h9 => h9) rfl dX6_rides_40 ?_
          refine lv_iload hx hb dX6_rides_43 (lv_at hl 5 rfl) ?_
          refine q_iadd hx hb dX6_rides_45 ?_
          refine q_cVi (z := bz (c_seen (M 1) (c_sf (M 1) x1 (x3 + c_wo (M 1) x1 x3 (wyy x4)) (wyy x4)) x2 ((x3 + c_wo (M 1) x1 x3 (wyy x4)) + k) = true)) (b := (q 0)) (As := [.int (zI (c_sf (M 1) x1 (x3 + c_wo (M 1) x1 x3 (wyy x4)) (wyy x4))), .int (zI x2), .int (zI ((x3 + c_wo (M 1) x1 x3 (wyy x4)) + k))]) (rest := []) ⟨hx, hb, hml, hown, hts⟩ (kX6_isSeen l dC dI g tt q (m78 M (c_sf (M 1) x1 (x3 + c_wo (M 1) x1 x3 (wyy x4)) (wyy x4), x3 + c_wo (M 1) x1 x3 (wyy x4))) (c_sf (M 1) x1 (x3 + c_wo (M 1) x1 x3 (wyy x4)) (wyy x4)) x2 ((x3 + c_wo (M 1) x1 x3 (wyy x4)) + k) (hw) (show 0 ≤ (c_sf (M 1) x1 (x3 + c_wo (M 1) x1 x3 (wyy x4)) (wyy x4)) ∧ (c_sf (M 1) x1 (x3 + c_wo (M 1) x1 x3 (wyy x4)) (wyy x4)) < M 1 0 from by omega) (show 0 ≤ x2 ∧ x2 ≤ M 1 1 from by omega) (show 0 ≤ ((x3 + c_wo (M 1) x1 x3 (wyy x4)) + k) ∧ ((x3 + c_wo (M 1) x1 x3 (wyy x4)) + k) ≤ 90000 from by omega)) (cwV 3 hts gX6_rides_X6_isSeen rfl rfl rfl (by decide +kernel) ⟨Nat.le_of_ble_eq_true rfl, Nat.le_of_ble_eq_true rfl⟩) hP hK hT hS 0 5 rfl rfl rfl rfl hl.1 rfl (Nat.le_of_ble_eq_true rfl) dX6_rides_46 ⟨Nat.le_of_ble_eq_true rfl, Nat.le_of_ble_eq_true rfl⟩ ?_
          refine q_bz_eq (tgt := 60) hx hb dX6_rides_49 (by decide) (fun c_4 => ?_) (fun c_4 => ?_)
          · refine lv_iinc (v := zI (k + 1)) (lv' := [(5, .int (zI (k + 1))), (0, .ref (q 0)), (1, .int (zI x1)), (2, .int (zI x2)), (3, .int (zI x3)), (4, .int (zI x4))]) hx hb dX6_rides_60 hl (k := 5) rfl (zI_add _ _) (by decide) rfl (fun ls hl => ?_)
            refine lv_goto (tgt := 25) hx hb dX6_rides_63 (by decide) ?_
            exact ih25 (k + 1) ls ⟨(show 0 ≤ (k + 1) ∧ (k + 1) ≤ 200 from by omega), (show c_wf (M 1) (c_sf (M 1) x1 (x3 + c_wo (M 1) x1 x3 (wyy x4)) (wyy x4)) x2 (x3 + c_wo (M 1) x1 x3 (wyy x4)) = srI (c_wfP (M 1) (c_sf (M 1) x1 (x3 + c_wo (M 1) x1 x3 (wyy x4)) (wyy x4)) x2 (x3 + c_wo (M 1) x1 x3 (wyy x4))) 200 (k + 1) from hs.trans (srI_next (by omega) c_4)), lv_sub hl [1, 2, 3, 4, 5, 0] rfl⟩ (by show (200 - (k + 1)).toNat < (200 - k).toNat; omega)
          · refine lv_aload_n hx hb dX6_rides_52 rfl (lv_at hl 0 rfl) ?_
            refine va_get (D := (dC, dI)) (ci := 5) (v := .int (zI (x3 + c_wo (M 1) x1 x3 (wyy x4)))) (C := RX6) (T := TX6) (N := 15) hx hb hts iX6 hown hK hP 0 rfl rfl 13 (by decide) kf164 (fun _ h9 => h9) rfl dX6_rides_53 ?_
            refine lv_iload hx hb dX6_rides_56 (lv_at hl 5 rfl) ?_
            refine q_iadd hx hb dX6_rides_58 ?_
            have hPf : va_P (dC, dI) vwCl (wMo g q (rdM M x1 x2 x3 (wyy x4))) H := by rw [(show (rdM M x1 x2 x3 (wyy x4)) = m78 M (c_sf (M 1) x1 (x3 + c_wo (M 1) x1 x3 (wyy x4)) (wyy x4), x3 + c_wo (M 1) x1 x3 (wyy x4)) from by unfold rdM; first | (rw [if_pos c_1]; done) | (rw [if_neg c_1, e9]; done) | (rw [if_neg c_1]; done))]; exact hP
            have hDf : va_D A (wMo g q (rdM M x1 x2 x3 (wyy x4))) := by rw [(show (rdM M x1 x2 x3 (wyy x4)) = m78 M (c_sf (M 1) x1 (x3 + c_wo (M 1) x1 x3 (wyy x4)) (wyy x4), x3 + c_wo (M 1) x1 x3 (wyy x4)) from by unfold rdM; first | (rw [if_pos c_1]; done) | (rw [if_neg c_1, e9]; done) | (rw [if_neg c_1]; done))]; exact hD
            exact W.iret hx hb hr (fun t9 ht9 hW9 => ⟨⟨_, (), rfl, congrArg zI (show (x3 + c_wo (M 1) x1 x3 (wyy x4)) + k = mr_rd (M 1) x1 x2 x3 (wyy x4) from by unfold mr_rd; first | (rw [c_rd_0 c_1, if_neg (by decide)]; omega) | (rw [c_rd_n c_1 (Decidable.not_not.mp c_4), if_pos rfl]; done) | (rw [c_rd_k c_1 hcw (hs.trans (srI_end (by omega))), if_pos rfl, if_pos rfl]; done) | (rw [c_rd_k c_1 hcw (hs.trans (srI_hit (P := c_wfP (M 1) (c_sf (M 1) x1 (x3 + c_wo (M 1) x1 x3 (wyy x4)) (wyy x4)) x2 (x3 + c_wo (M 1) x1 x3 (wyy x4))) (by omega) c_4)), if_neg (show ¬ k = -1 by omega), if_neg (by omega)]; omega)), by rw [ht9]; exact hPf, va_K.moved hW9.alike hK, hDf⟩, hS.F ht9⟩) hS.2.2 dX6_rides_59
      · exact ⟨(show 0 ≤ 0 ∧ 0 ≤ 200 from by omega), (show c_wf (M 1) (c_sf (M 1) x1 (x3 + c_wo (M 1) x1 x3 (wyy x4)) (wyy x4)) x2 (x3 + c_wo (M 1) x1 x3 (wyy x4)) = srI (c_wfP (M 1) (c_sf (M 1) x1 (x3 + c_wo (M 1) x1 x3 (wyy x4)) (wyy x4)) x2 (x3 + c_wo (M 1) x1 x3 (wyy x4))) 200 0 from (wf_200 hw _ _ _).symm), lv_sub hl [1, 2, 3, 4, 5, 0] rfl⟩
    · refine q_iconst hx hb dX6_rides_20 ?_
      have hPf : va_P (dC, dI) vwCl (wMo g q (rdM M x1 x2 x3 (wyy x4))) H := by rw [(show (rdM M x1 x2 x3 (wyy x4)) = m78 M (cgS (M 1) x1 (wyy x4) x3 (M 0 7, M 0 8)) from by unfold rdM; first | (rw [if_pos c_1]; done) | (rw [if_neg c_1, e9]; done) | (rw [if_neg c_1]; done))]; exact hP
      have hDf : va_D A (wMo g q (rdM M x1 x2 x3 (wyy x4))) := by rw [(show (rdM M x1 x2 x3 (wyy x4)) = m78 M (cgS (M 1) x1 (wyy x4) x3 (M 0 7, M 0 8)) from by unfold rdM; first | (rw [if_pos c_1]; done) | (rw [if_neg c_1, e9]; done) | (rw [if_neg c_1]; done))]; exact hD
      exact W.iret hx hb hr (fun t9 ht9 hW9 => ⟨⟨_, (), rfl, congrArg zI (show (-1) = mr_rd (M 1) x1 x2 x3 (wyy x4) from by unfold mr_rd; first | (rw [c_rd_0 c_1, if_neg (by decide)]; omega) | (rw [c_rd_n c_1 (Decidable.not_not.mp c_2), if_pos rfl]; done) | (rw [c_rd_k c_1 hcw (hs.trans (srI_end (by omega))), if_pos rfl, if_pos rfl]; done) | (rw [c_rd_k c_1 hcw (hs.trans (srI_hit (P := c_wfP (M 1) (c_sf (M 1) x1 (x3 + c_wo (M 1) x1 x3 (wyy x4)) (wyy x4)) x2 (x3 + c_wo (M 1) x1 x3 (wyy x4))) (by omega) c_2)), if_neg (show ¬ k = -1 by omega), if_neg (by omega)]; omega)), by rw [ht9]; exact hPf, va_K.moved hW9.alike hK, hDf⟩, hS.F ht9⟩) hS.2.2 dX6_rides_21
  · refine lv_iload_n hx hb dX6_rides_5 rfl (lv_at hl 3 rfl) ?_
    have hPf : va_P (dC, dI) vwCl (wMo g q (rdM M x1 x2 x3 (wyy x4))) s.heap := by rw [(show (rdM M x1 x2 x3 (wyy x4)) = M from by unfold rdM; first | (rw [if_pos c_1]; done) | (rw [if_neg c_1, e9]; done) | (rw [if_neg c_1]; done))]; exact hP
    have hDf : va_D A (wMo g q (rdM M x1 x2 x3 (wyy x4))) := by rw [(show (rdM M x1 x2 x3 (wyy x4)) = M from by unfold rdM; first | (rw [if_pos c_1]; done) | (rw [if_neg c_1, e9]; done) | (rw [if_neg c_1]; done))]; exact hD
    exact W.iret hx hb hr (fun t9 ht9 hW9 => ⟨⟨_, (), rfl, congrArg zI (show x3 = mr_rd (M 1) x1 x2 x3 (wyy x4) from by unfold mr_rd; first | (rw [c_rd_0 c_1, if_neg (by decide)]; omega) | (rw [c_rd_n c_1 (Decidable.not_not.mp c_1), if_pos rfl]; done) | (rw [c_rd_k c_1 hcw (hs.trans (srI_end (by omega))), if_pos rfl, if_pos rfl]; done) | (rw [c_rd_k c_1 hcw (hs.trans (srI_hit (P := c_wfP (M 1) (c_sf (M 1) x1 (x3 + c_wo (M 1) x1 x3 (wyy x4)) (wyy x4)) x2 (x3 + c_wo (M 1) x1 x3 (wyy x4))) (by omega) c_1)), if_neg (show ¬ k = -1 by omega), if_neg (by omega)]; omega)), by rw [ht9]; exact hPf, va_K.moved hW9.alike hK, hDf⟩, hS.F ht9⟩) hS.2.2 dX6_rides_6
