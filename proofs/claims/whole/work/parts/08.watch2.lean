set_option maxHeartbeats 4000000 in
set_option maxRecDepth 100000 in
theorem kX4_fits (l : Launch) (dC : Nat → ClassId) (dI : Nat → Nat → Nat) (g : Nat → ClassId) (tt : Nat → Nat) (o : Nat) (a : Nat → Nat) (w : Int → Int) (x1 x2 x3 : Int) (hw : hok w) (h1 : 0 ≤ x1 ∧ x1 < w 0) (h2 : 0 ≤ x2 ∧ x2 ≤ 5) (h3 : 0 ≤ x3 ∧ x3 ≤ 99) : Met l yX4_fits wsX4_fits ({ frames := 2, cells := 0, slots := 0, locals := 48 }) (va_Pc [.ref o, .int (zI x1), .int (zI x2), .int (zI x3)] (eS (dC, dI) (wTy g) (wWa g o a w) tt)) (vp_Si (fun r => r = zI (bz (c_fits w x1 x2 x3 = true)))) 0 0 (fun _ => False) := by
  refine Met.ofW (cc := cX4_fits) (maxL := 7) (ret := (some .boolean)) (by decide) rfl ?_
  intro p e s m args below meth c s₁ B hml hv
  obtain ⟨rfl, hP, hK, hT⟩ := hv
  have hx := B.exec
  have hb := B.bytes
  have hr := B.returns
  have hts := atoms_spec (ws := wsX4_fits) B.pre
  have hown : s.vm.findClass RX4 = some m.cls := findClass_of_methodNamed B.named
  have hlocks := B.notSynchronized
  have hS : va_S (fun _ : Nat => False) s.heap s.heap [] := va_S.rf
  have hl := lv_entry ([.ref o, .int (zI x1), .int (zI x2), .int (zI x3)]) (n := 7) (Nat.le_of_ble_eq_true rfl)
  rw [lg_entry_eq]
  generalize (lg_sl ([.ref o, .int (zI x1), .int (zI x2), .int (zI x3)]) ++ List.replicate (7 - (lg_sl ([.ref o, .int (zI x1), .int (zI x2), .int (zI x3)])).length) Slot.unset).toArray = ls at hl ⊢
  have hl : lv_has ls 7 [(0, .ref o), (1, .int (zI x1)), (2, .int (zI x2)), (3, .int (zI x3))] := hl
  have kf21 := hts (.fieldLink RX4 21 "WrongWay$House" "top" "I") (by decide +kernel)
  have kf58 := hts (.fieldLink RX4 58 "WrongWay$House" "noted" "I") (by decide +kernel)
  have kf61 := hts (.fieldLink RX4 61 "WrongWay$House" "notedLifts" "[I") (by decide +kernel)
  have kf64 := hts (.fieldLink RX4 64 "WrongWay$House" "notedMinutes" "[I") (by decide +kernel)
  have kf67 := hts (.fieldLink RX4 67 "WrongWay$House" "notedFloors" "[I") (by decide +kernel)
  have kf70 := hts (.fieldLink RX4 70 "WrongWay$House" "notedThere" "[I") (by decide +kernel)
  have kf9 := hts (.fieldLink RX4 9 "WrongWay$Watch" "house" "LWrongWay$House;") (by decide +kernel)
  have iX1 := (fun w h => List.mem_cons_of_mem _ (List.mem_append_right _ h) : ∀ w ∈ u_ws RX1 TX1 14, w ∈ wsX4_fits)
  have iX4 := (fun w h => List.mem_cons_of_mem _ (List.mem_append_left _ (List.mem_append_right _ h)) : ∀ w ∈ u_ws RX4 TX4 1, w ∈ wsX4_fits)
  have hb0 := hw.b
  refine q_iconst hx hb dX4_fits_0 ?_
  refine lv_istore (lv' := [(4, .int (zI 0)), (0, .ref o), (1, .int (zI x1)), (2, .int (zI x2)), (3, .int (zI x3))]) hx hb dX4_fits_1 hl (by decide) rfl (fun ls hl => ?_)
  refine w_loopP (σ := Int) (fun a9 ls => (0 ≤ a9 ∧ a9 ≤ w 3) ∧ (srI (c_badN w x1 x2 x3) (w 3) 0 = srI (c_badN w x1 x2 x3) (w 3) a9) ∧ lv_has ls 7 [(0, .ref o), (1, .int (zI x1)), (2, .int (zI x2)), (3, .int (zI x3)), (4, .int (zI a9))]) (fun a9 => (w 3 - a9).toNat) ?_ (0) ?_
  · rintro i ls ⟨hi, hs, hl⟩ ih3
    have hi : 0 ≤ i ∧ i ≤ w 3 := hi
    have hs : srI (c_badN w x1 x2 x3) (w 3) 0 = srI (c_badN w x1 x2 x3) (w 3) i := hs
    have hl : lv_has ls 7 [(0, .ref o), (1, .int (zI x1)), (2, .int (zI x2)), (3, .int (zI x3)), (4, .int (zI i))] := hl
    refine lv_iload hx hb dX4_fits_3 (lv_at hl 4 rfl) ?_
    refine lv_aload_n hx hb dX4_fits_5 rfl (lv_at hl 0 rfl) ?_
    refine va_get (D := (dC, dI)) (ci := 3) (v := .ref (a 0)) (C := RX4) (T := TX4) (N := 1) hx hb hts iX4 hown hK hP 0 rfl rfl 0 (by decide) kf9 (fun _ h9 => h9) rfl dX4_fits_6 ?_
    refine va_get (D := (dC, dI)) (ci := 1) (v := .int (zI (w 3))) (C := RX1) (T := TX1) (N := 14) hx hb hts iX1 hown hK hP 1 rfl rfl 3 (by decide) kf58 (fun _ h9 => h9) rfl dX4_fits_9 ?_
    refine q_icmp_ge (tgt := 107) hx hb dX4_fits_12 (by decide) (by omega) (fun c_1 => ?_) (fun c_1 => ?_)
    · refine q_iconst hx hb dX4_fits_107 ?_
      exact W.zret hx hb hr rfl (fun t9 ht9 hW9 => ⟨_, rfl, congrArg zI (bz_t (by unfold c_fits; exact decide_eq_true (hs.trans (srI_end (by omega))))).symm, ht9⟩) hS.2.2 dX4_fits_108
    · have hn0 := hw.n (k := i) (by omega) (by omega)
      refine lv_aload_n hx hb dX4_fits_15 rfl (lv_at hl 0 rfl) ?_
      refine va_get (D := (dC, dI)) (ci := 3) (v := .ref (a 0)) (C := RX4) (T := TX4) (N := 1) hx hb hts iX4 hown hK hP 0 rfl rfl 0 (by decide) kf9 (fun _ h9 => h9) rfl dX4_fits_16 ?_
      refine va_get (D := (dC, dI)) (ci := 1) (v := .ref (a 5)) (C := RX1) (T := TX1) (N := 14) hx hb hts iX1 hown hK hP 1 rfl rfl 9 (by decide) kf61 (fun _ h9 => h9) rfl dX4_fits_19 ?_
      refine lv_iload hx hb dX4_fits_22 (lv_at hl 4 rfl) ?_
      refine q_iald (F := fun k => w (17 + 4 * k)) (v := w (17 + 4 * i)) hx hb hK hP 6 0 rfl rfl (by decide) (by omega) rfl dX4_fits_24 ?_
      refine lv_iload_n hx hb dX4_fits_25 rfl (lv_at hl 1 rfl) ?_
      refine q_icmp_ne (tgt := 101) hx hb dX4_fits_26 (by decide) (by omega) (fun c_2 => ?_) (fun c_2 => ?_)
      · refine lv_iinc (v := zI (i + 1)) (lv' := [(4, .int (zI (i + 1))), (0, .ref o), (1, .int (zI x1)), (2, .int (zI x2)), (3, .int (zI x3))]) hx hb dX4_fits_101 hl (k := 4) rfl (zI_add _ _) (by decide) rfl (fun ls hl => ?_)
        refine lv_goto (tgt := 3) hx hb dX4_fits_104 (by decide) ?_
        exact ih3 (i + 1) ls ⟨(show 0 ≤ (i + 1) ∧ (i + 1) ≤ w 3 from by omega), (show srI (c_badN w x1 x2 x3) (w 3) 0 = srI (c_badN w x1 x2 x3) (w 3) (i + 1) from hs.trans (srI_next (by omega) (by unfold c_badN; simp [c_2]))), lv_sub hl [1, 2, 3, 4, 0] rfl⟩ (by show (w 3 - (i + 1)).toNat < (w 3 - i).toNat; omega)
      · refine lv_iload_n hx hb dX4_fits_29 rfl (lv_at hl 2 rfl) ?_
        refine lv_aload_n hx hb dX4_fits_30 rfl (lv_at hl 0 rfl) ?_
        refine va_get (D := (dC, dI)) (ci := 3) (v := .ref (a 0)) (C := RX4) (T := TX4) (N := 1) hx hb hts iX4 hown hK hP 0 rfl rfl 0 (by decide) kf9 (fun _ h9 => h9) rfl dX4_fits_31 ?_
        refine va_get (D := (dC, dI)) (ci := 1) (v := .int (zI (w 1))) (C := RX1) (T := TX1) (N := 14) hx hb hts iX1 hown hK hP 1 rfl rfl 0 (by decide) kf21 (fun _ h9 => h9) rfl dX4_fits_34 ?_
        refine lv_iload_n hx hb dX4_fits_37 rfl (lv_at hl 3 rfl) ?_
        refine lv_aload_n hx hb dX4_fits_38 rfl (lv_at hl 0 rfl) ?_
        refine va_get (D := (dC, dI)) (ci := 3) (v := .ref (a 0)) (C := RX4) (T := TX4) (N := 1) hx hb hts iX4 hown hK hP 0 rfl rfl 0 (by decide) kf9 (fun _ h9 => h9) rfl dX4_fits_39 ?_
        refine va_get (D := (dC, dI)) (ci := 1) (v := .ref (a 7)) (C := RX1) (T := TX1) (N := 14) hx hb hts iX1 hown hK hP 1 rfl rfl 11 (by decide) kf64 (fun _ h9 => h9) rfl dX4_fits_42 ?_
        refine lv_iload hx hb dX4_fits_45 (lv_at hl 4 rfl) ?_
        refine q_iald (F := fun k => w (19 + 4 * k)) (v := w (19 + 4 * i)) hx hb hK hP 8 0 rfl rfl (by decide) (by omega) rfl dX4_fits_47 ?_
        refine q_cSi (z := c_floor x2 (w 1) x3 (w (19 + 4 * i))) (As := [.int (zI x2), .int (zI (w 1)), .int (zI x3), .int (zI (w (19 + 4 * i)))]) (rest := []) ⟨hx, hb, hml, hown, hts⟩ (kX2_floorIn l dC dI g tt x2 (w 1) x3 (w (19 + 4 * i)) (by omega) (by omega) (by omega) (by omega)) (va_cwS 4 hts gX4_fits_X2_floorIn rfl rfl rfl (by decide +kernel) ⟨Nat.le_of_ble_eq_true rfl, Nat.le_of_ble_eq_true rfl⟩) (hP.sub (ws' := []) [] rfl) hK hT hS rfl hl.1 rfl (Nat.le_of_ble_eq_true rfl) dX4_fits_48 ⟨Nat.le_of_ble_eq_true rfl, Nat.le_of_ble_eq_true rfl⟩ ?_
        have := c_floor_r x2 (t := (w 1)) (b := x3) (m := (w (19 + 4 * i))) (by omega) (by omega) (by omega)
        refine lv_istore (lv' := [(5, .int (zI (c_floor x2 (w 1) x3 (w (19 + 4 * i))))), (0, .ref o), (1, .int (zI x1)), (2, .int (zI x2)), (3, .int (zI x3)), (4, .int (zI i))]) hx hb dX4_fits_51 hl (by decide) rfl (fun ls hl => ?_)
        refine lv_iload hx hb dX4_fits_53 (lv_at hl 0 rfl) ?_
        refine lv_aload_n hx hb dX4_fits_55 rfl (lv_at hl 1 rfl) ?_
        refine va_get (D := (dC, dI)) (ci := 3) (v := .ref (a 0)) (C := RX4) (T := TX4) (N := 1) hx hb hts iX4 hown hK hP 0 rfl rfl 0 (by decide) kf9 (fun _ h9 => h9) rfl dX4_fits_56 ?_
        refine va_get (D := (dC, dI)) (ci := 1) (v := .ref (a 6)) (C := RX1) (T := TX1) (N := 14) hx hb hts iX1 hown hK hP 1 rfl rfl 10 (by decide) kf67 (fun _ h9 => h9) rfl dX4_fits_59 ?_
        refine lv_iload hx hb dX4_fits_62 (lv_at hl 5 rfl) ?_
        refine q_iald (F := fun k => w (18 + 4 * k)) (v := w (18 + 4 * i)) hx hb hK hP 7 0 rfl rfl (by decide) (by omega) rfl dX4_fits_64 ?_
        refine q_icmp_ne (tgt := 72) hx hb dX4_fits_65 (by decide) (by omega) (fun c_3 => ?_) (fun c_3 => ?_)
        · refine q_iconst hx hb dX4_fits_72 ?_
          refine lv_istore (lv' := [(6, .int (zI 0)), (5, .int (zI (c_floor x2 (w 1) x3 (w (19 + 4 * i))))), (0, .ref o), (1, .int (zI x1)), (2, .int (zI x2)), (3, .int (zI x3)), (4, .int (zI i))]) hx hb dX4_fits_73 hl (by decide) rfl (fun ls hl => ?_)
          refine lv_iload hx hb dX4_fits_75 (lv_at hl 0 rfl) ?_
          refine lv_aload_n hx hb dX4_fits_77 rfl (lv_at hl 2 rfl) ?_
          refine va_get (D := (dC, dI)) (ci := 3) (v := .ref (a 0)) (C := RX4) (T := TX4) (N := 1) hx hb hts iX4 hown hK hP 0 rfl rfl 0 (by decide) kf9 (fun _ h9 => h9) rfl dX4_fits_78 ?_
          refine va_get (D := (dC, dI)) (ci := 1) (v := .ref (a 8)) (C := RX1) (T := TX1) (N := 14) hx hb hts iX1 hown hK hP 1 rfl rfl 12 (by decide) kf70 (fun _ h9 => h9) rfl dX4_fits_81 ?_
          refine lv_iload hx hb dX4_fits_84 (lv_at hl 6 rfl) ?_
          refine q_iald (F := fun k => w (20 + 4 * k)) (v := w (20 + 4 * i)) hx hb hK hP 9 0 rfl rfl (by decide) (by omega) rfl dX4_fits_86 ?_
          refine q_iconst hx hb dX4_fits_87 ?_
          refine q_icmp_ne (tgt := 95) hx hb dX4_fits_88 (by decide) (by omega) (fun c_4 => ?_) (fun c_4 => ?_)
          · refine q_iconst hx hb dX4_fits_95 ?_
            refine q_icmp_eq (tgt := 101) hx hb dX4_fits_96 (by decide) (by decide) (fun h9 => ?_) (fun h9 => absurd (by decide) h9)
            refine lv_iinc (v := zI (i + 1)) (lv' := [(4, .int (zI (i + 1))), (6, .int (zI 0)), (5, .int (zI (c_floor x2 (w 1) x3 (w (19 + 4 * i))))), (0, .ref o), (1, .int (zI x1)), (2, .int (zI x2)), (3, .int (zI x3))]) hx hb dX4_fits_101 hl (k := 6) rfl (zI_add _ _) (by decide) rfl (fun ls hl => ?_)
            refine lv_goto (tgt := 3) hx hb dX4_fits_104 (by decide) ?_
            exact ih3 (i + 1) ls ⟨(show 0 ≤ (i + 1) ∧ (i + 1) ≤ w 3 from by omega), (show srI (c_badN w x1 x2 x3) (w 3) 0 = srI (c_badN w x1 x2 x3) (w 3) (i + 1) from hs.trans (srI_next (by omega) (by unfold c_badN; simp [c_2, c_3, c_4]))), lv_sub hl [3, 4, 5, 6, 0] rfl⟩ (by show (w 3 - (i + 1)).toNat < (w 3 - i).toNat; omega)
          · refine q_iconst hx hb dX4_fits_91 ?_
            refine lv_goto (tgt := 96) hx hb dX4_fits_92 (by decide) ?_
            refine q_icmp_eq (tgt := 101) hx hb dX4_fits_96 (by decide) (by decide) (fun h9 => absurd h9 (by decide)) (fun h9 => ?_)
            refine q_iconst hx hb dX4_fits_99 ?_
            exact W.zret hx hb hr rfl (fun t9 ht9 hW9 => ⟨_, rfl, congrArg zI (bz_f (fun h9 => by unfold c_fits at h9; have h8 := of_decide_eq_true h9; rw [hs, srI_hit (by omega) (by unfold c_badN; simp [c_2, c_3, c_4])] at h8; omega)).symm, ht9⟩) hS.2.2 dX4_fits_100
        · refine q_iconst hx hb dX4_fits_68 ?_
          refine lv_goto (tgt := 73) hx hb dX4_fits_69 (by decide) ?_
          refine lv_istore (lv' := [(6, .int (zI 1)), (5, .int (zI (c_floor x2 (w 1) x3 (w (19 + 4 * i))))), (0, .ref o), (1, .int (zI x1)), (2, .int (zI x2)), (3, .int (zI x3)), (4, .int (zI i))]) hx hb dX4_fits_73 hl (by decide) rfl (fun ls hl => ?_)
          refine lv_iload hx hb dX4_fits_75 (lv_at hl 0 rfl) ?_
          refine lv_aload_n hx hb dX4_fits_77 rfl (lv_at hl 2 rfl) ?_
          refine va_get (D := (dC, dI)) (ci := 3) (v := .ref (a 0)) (C := RX4) (T := TX4) (N := 1) hx hb hts iX4 hown hK hP 0 rfl rfl 0 (by decide) kf9 (fun _ h9 => h9) rfl dX4_fits_78 ?_
          refine va_get (D := (dC, dI)) (ci := 1) (v := .ref (a 8)) (C := RX1) (T := TX1) (N := 14) hx hb hts iX1 hown hK hP 1 rfl rfl 12 (by decide) kf70 (fun _ h9 => h9) rfl dX4_fits_81 ?_
          refine lv_iload hx hb dX4_fits_84 (lv_at hl 6 rfl) ?_
          refine q_iald (F := fun k => w (20 + 4 * k)) (v := w (20 + 4 * i)) hx hb hK hP 9 0 rfl rfl (by decide) (by omega) rfl dX4_fits_86 ?_
          refine q_iconst hx hb dX4_fits_87 ?_
          refine q_icmp_ne (tgt := 95) hx hb dX4_fits_88 (by decide) (by omega) (fun c_5 => ?_) (fun c_5 => ?_)
          · refine q_iconst hx hb dX4_fits_95 ?_
            refine q_icmp_eq (tgt := 101) hx hb dX4_fits_96 (by decide) (by decide) (fun h9 => absurd h9 (by decide)) (fun h9 => ?_)
            refine q_iconst hx hb dX4_fits_99 ?_
            exact W.zret hx hb hr rfl (fun t9 ht9 hW9 => ⟨_, rfl, congrArg zI (bz_f (fun h9 => by unfold c_fits at h9; have h8 := of_decide_eq_true h9; rw [hs, srI_hit (by omega) (by unfold c_badN; simp [c_2, c_3, c_5])] at h8; omega)).symm, ht9⟩) hS.2.2 dX4_fits_100
          · refine q_iconst hx hb dX4_fits_91 ?_
            refine lv_goto (tgt := 96) hx hb dX4_fits_92 (by decide) ?_
            refine q_icmp_eq (tgt := 101) hx hb dX4_fits_96 (by decide) (by decide) (fun h9 => ?_) (fun h9 => absurd (by decide) h9)
            refine lv_iinc (v := zI (i + 1)) (lv' := [(4, .int (zI (i + 1))), (6, .int (zI 1)), (5, .int (zI (c_floor x2 (w 1) x3 (w (19 + 4 * i))))), (0, .ref o), (1, .int (zI x1)), (2, .int (zI x2)), (3, .int (zI x3))]) hx hb dX4_fits_101 hl (k := 6) rfl (zI_add _ _) (by decide) rfl (fun ls hl => ?_)
            refine lv_goto (tgt := 3) hx hb dX4_fits_104 (by decide) ?_
            exact ih3 (i + 1) ls ⟨(show 0 ≤ (i + 1) ∧ (i + 1) ≤ w 3 from by omega), (show srI (c_badN w x1 x2 x3) (w 3) 0 = srI (c_badN w x1 x2 x3) (w 3) (i + 1) from hs.trans (srI_next (by omega) (by unfold c_badN; simp [c_2, c_3, c_5]))), lv_sub hl [3, 4, 5, 6, 0] rfl⟩ (by show (w 3 - (i + 1)).toNat < (w 3 - i).toNat; omega)
  · exact ⟨(show 0 ≤ 0 ∧ 0 ≤ w 3 from by omega), (show srI (c_badN w x1 x2 x3) (w 3) 0 = srI (c_badN w x1 x2 x3) (w 3) 0 from rfl), lv_sub hl [1, 2, 3, 4, 0] rfl⟩
set_option maxHeartbeats 4000000 in
set_option maxRecDepth 100000 in
theorem kX4_fittingKinds (l : Launch) (dC : Nat → ClassId) (dI : Nat → Nat → Nat) (g : Nat → ClassId) (tt : Nat → Nat) (o : Nat) (a : Nat → Nat) (w : Int → Int) (x1 : Int) (hw : hok w) (h1 : 0 ≤ x1 ∧ x1 < w 0) : Met l yX4_fittingKinds wsX4_fittingKinds ({ frames := 3, cells := 0, slots := 0, locals := 74 }) (va_Pc [.ref o, .int (zI x1)] (eS (dC, dI) (wTy g) (wWa g o a w) tt)) (vp_Si (fun r => r = zI (c_fk w x1 6))) 0 0 (fun _ => False) := by
  refine Met.ofW (cc := cX4_fittingKinds) (maxL := 4) (ret := (some .int)) (by decide) rfl ?_
  intro p e s m args below meth c s₁ B hml hv
  obtain ⟨rfl, hP, hK, hT⟩ := hv
  have hx := B.exec
  have hb := B.bytes
  have hr := B.returns
  have hts := atoms_spec (ws := wsX4_fittingKinds) B.pre
  have hown : s.vm.findClass RX4 = some m.cls := findClass_of_methodNamed B.named
  have hlocks := B.notSynchronized
  have hS : va_S (fun _ : Nat => False) s.heap s.heap [] := va_S.rf
  have hl := lv_entry ([.ref o, .int (zI x1)]) (n := 4) (Nat.le_of_ble_eq_true rfl)
  rw [lg_entry_eq]
  generalize (lg_sl ([.ref o, .int (zI x1)]) ++ List.replicate (4 - (lg_sl ([.ref o, .int (zI x1)])).length) Slot.unset).toArray = ls at hl ⊢
  have hl : lv_has ls 4 [(0, .ref o), (1, .int (zI x1))] := hl
  have kf25 := hts (.fieldLink RX4 25 "WrongWay$House" "starts" "[I") (by decide +kernel)
  have kf9 := hts (.fieldLink RX4 9 "WrongWay$Watch" "house" "LWrongWay$House;") (by decide +kernel)
  have iX1 := (fun w h => List.mem_cons_of_mem _ (List.mem_append_right _ h) : ∀ w ∈ u_ws RX1 TX1 14, w ∈ wsX4_fittingKinds)
  have iX4 := (fun w h => List.mem_cons_of_mem _ (List.mem_append_left _ (List.mem_append_right _ h)) : ∀ w ∈ u_ws RX4 TX4 1, w ∈ wsX4_fittingKinds)
  have hb0 := hw.b
  have hk0 := hw.k h1.1 h1.2
  refine q_iconst hx hb dX4_fittingKinds_0 ?_
  refine lv_istore_n (lv' := [(2, .int (zI 0)), (0, .ref o), (1, .int (zI x1))]) hx hb dX4_fittingKinds_1 rfl hl (by decide) rfl (fun ls hl => ?_)
  refine q_iconst hx hb dX4_fittingKinds_2 ?_
  refine lv_istore_n (lv' := [(3, .int (zI 0)), (2, .int (zI 0)), (0, .ref o), (1, .int (zI x1))]) hx hb dX4_fittingKinds_3 rfl hl (by decide) rfl (fun ls hl => ?_)
  refine w_loopP (σ := Int × Int) (fun a9 ls => (0 ≤ a9.1 ∧ a9.1 ≤ 6) ∧ (a9.2 = c_fk w x1 a9.1) ∧ lv_has ls 4 [(0, .ref o), (1, .int (zI x1)), (2, .int (zI a9.2)), (3, .int (zI a9.1))]) (fun a9 => (6 - a9.1).toNat) ?_ (0, 0) ?_
  · rintro ⟨i, b⟩ ls ⟨hi, hbv, hl⟩ ih4
    have hi : 0 ≤ i ∧ i ≤ 6 := hi
    have hbv : b = c_fk w x1 i := hbv
    have hl : lv_has ls 4 [(0, .ref o), (1, .int (zI x1)), (2, .int (zI b)), (3, .int (zI i))] := hl
    refine lv_iload_n hx hb dX4_fittingKinds_4 rfl (lv_at hl 3 rfl) ?_
    refine q_iconst hx hb dX4_fittingKinds_5 ?_
    refine q_icmp_gt (tgt := 39) hx hb dX4_fittingKinds_6 (by decide) (by omega) (fun c_1 => ?_) (fun c_1 => ?_)
    · refine lv_iload_n hx hb dX4_fittingKinds_39 rfl (lv_at hl 2 rfl) ?_
      exact W.iret hx hb hr (fun t9 ht9 hW9 => ⟨_, rfl, congrArg zI (show b = c_fk w x1 6 from by rw [hbv, show i = 6 by omega]), ht9⟩) hS.2.2 dX4_fittingKinds_40
    · refine lv_aload_n hx hb dX4_fittingKinds_9 rfl (lv_at hl 0 rfl) ?_
      refine lv_iload_n hx hb dX4_fittingKinds_10 rfl (lv_at hl 1 rfl) ?_
      refine lv_iload_n hx hb dX4_fittingKinds_11 rfl (lv_at hl 3 rfl) ?_
      refine lv_aload_n hx hb dX4_fittingKinds_12 rfl (lv_at hl 0 rfl) ?_
      refine va_get (D := (dC, dI)) (ci := 3) (v := .ref (a 0)) (C := RX4) (T := TX4) (N := 1) hx hb hts iX4 hown hK hP 0 rfl rfl 0 (by decide) kf9 (fun _ h9 => h9) rfl dX4_fittingKinds_13 ?_
      refine va_get (D := (dC, dI)) (ci := 1) (v := .ref (a 2)) (C := RX1) (T := TX1) (N := 14) hx hb hts iX1 hown hK hP 1 rfl rfl 6 (by decide) kf25 (fun _ h9 => h9) rfl dX4_fittingKinds_16 ?_
      refine lv_iload_n hx hb dX4_fittingKinds_19 rfl (lv_at hl 1 rfl) ?_
      refine q_iald (F := fun k => w (9 + k)) (v := w (9 + x1)) hx hb hK hP 3 0 rfl rfl (by decide) (by omega) rfl dX4_fittingKinds_20 ?_
      refine q_cVi (z := bz (c_fits w x1 i (w (9 + x1)) = true)) (b := o) (As := [.int (zI x1), .int (zI i), .int (zI (w (9 + x1)))]) (rest := []) ⟨hx, hb, hml, hown, hts⟩ (kX4_fits l dC dI g tt o a w x1 i (w (9 + x1)) (hw) (by omega) (by omega) (by omega)) (cwV 3 hts gX4_fittingKinds_X4_fits rfl rfl rfl (by decide +kernel) ⟨Nat.le_of_ble_eq_true rfl, Nat.le_of_ble_eq_true rfl⟩) hP hK hT hS 0 3 rfl rfl rfl rfl hl.1 rfl (Nat.le_of_ble_eq_true rfl) dX4_fittingKinds_21 ⟨Nat.le_of_ble_eq_true rfl, Nat.le_of_ble_eq_true rfl⟩ ?_
      refine q_bz_eq (tgt := 33) hx hb dX4_fittingKinds_24 (by decide) (fun c_2 => ?_) (fun c_2 => ?_)
      · refine lv_iinc (v := zI (i + 1)) (lv' := [(3, .int (zI (i + 1))), (0, .ref o), (1, .int (zI x1)), (2, .int (zI b))]) hx hb dX4_fittingKinds_33 hl (k := 3) rfl (zI_add _ _) (by decide) rfl (fun ls hl => ?_)
        refine lv_goto (tgt := 4) hx hb dX4_fittingKinds_36 (by decide) ?_
        exact ih4 (i + 1, b) ls ⟨(show 0 ≤ (i + 1) ∧ (i + 1) ≤ 6 from by omega), (show b = c_fk w x1 (i + 1) from by rw [c_fk_s (by omega), if_neg c_2]; omega), lv_sub hl [1, 2, 3, 0] rfl⟩ (by show (6 - (i + 1)).toNat < (6 - i).toNat; omega)
      · refine lv_iload_n hx hb dX4_fittingKinds_27 rfl (lv_at hl 2 rfl) ?_
        refine q_iconst hx hb dX4_fittingKinds_28 ?_
        refine lv_iload_n hx hb dX4_fittingKinds_29 rfl (lv_at hl 3 rfl) ?_
        refine q_ishl (z := 2 ^ (i).toNat) hx hb dX4_fittingKinds_30 (zI_shl1 (by omega)) ?_
        refine q_ior (z := b + 2 ^ (i).toNat) hx hb dX4_fittingKinds_31 (zI_or6 (by rw [hbv]; exact c_fk_r (by omega)) (by omega)) ?_
        refine lv_istore_n (lv' := [(2, .int (zI (b + 2 ^ (i).toNat))), (0, .ref o), (1, .int (zI x1)), (3, .int (zI i))]) hx hb dX4_fittingKinds_32 rfl hl (by decide) rfl (fun ls hl => ?_)
        refine lv_iinc (v := zI (i + 1)) (lv' := [(3, .int (zI (i + 1))), (2, .int (zI (b + 2 ^ (i).toNat))), (0, .ref o), (1, .int (zI x1))]) hx hb dX4_fittingKinds_33 hl (k := 3) rfl (zI_add _ _) (by decide) rfl (fun ls hl => ?_)
        refine lv_goto (tgt := 4) hx hb dX4_fittingKinds_36 (by decide) ?_
        exact ih4 (i + 1, b + 2 ^ (i).toNat) ls ⟨(show 0 ≤ (i + 1) ∧ (i + 1) ≤ 6 from by omega), (show (b + 2 ^ (i).toNat) = c_fk w x1 (i + 1) from by rw [c_fk_s (by omega), if_pos c_2]; omega), lv_sub hl [2, 3, 1, 0] rfl⟩ (by show (6 - (i + 1)).toNat < (6 - i).toNat; omega)
  · exact ⟨(show 0 ≤ 0 ∧ 0 ≤ 6 from by omega), (show 0 = c_fk w x1 0 from rfl), lv_sub hl [2, 3, 1, 0] rfl⟩
set_option maxHeartbeats 4000000 in
set_option maxRecDepth 100000 in
theorem kX4_fittingStarts (l : Launch) (dC : Nat → ClassId) (dI : Nat → Nat → Nat) (g : Nat → ClassId) (tt : Nat → Nat) (o : Nat) (a : Nat → Nat) (w : Int → Int) (x1 : Int) (hw : hok w) (h1 : 0 ≤ x1 ∧ x1 < w 0) : Met l yX4_fittingStarts wsX4_fittingStarts ({ frames := 3, cells := 0, slots := 0, locals := 74 }) (va_Pc [.ref o, .int (zI x1)] (eS (dC, dI) (wTy g) (wWa g o a w) tt)) (vp_Si (fun r => r = zI (c_fs w x1))) 0 0 (fun _ => False) := by
  refine Met.ofW (cc := cX4_fittingStarts) (maxL := 4) (ret := (some .int)) (by decide) rfl ?_
  intro p e s m args below meth c s₁ B hml hv
  obtain ⟨rfl, hP, hK, hT⟩ := hv
  have hx := B.exec
  have hb := B.bytes
  have hr := B.returns
  have hts := atoms_spec (ws := wsX4_fittingStarts) B.pre
  have hown : s.vm.findClass RX4 = some m.cls := findClass_of_methodNamed B.named
  have hlocks := B.notSynchronized
  have hS : va_S (fun _ : Nat => False) s.heap s.heap [] := va_S.rf
  have hl := lv_entry ([.ref o, .int (zI x1)]) (n := 4) (Nat.le_of_ble_eq_true rfl)
  rw [lg_entry_eq]
  generalize (lg_sl ([.ref o, .int (zI x1)]) ++ List.replicate (4 - (lg_sl ([.ref o, .int (zI x1)])).length) Slot.unset).toArray = ls at hl ⊢
  have hl : lv_has ls 4 [(0, .ref o), (1, .int (zI x1))] := hl
  have kf15 := hts (.fieldLink RX4 15 "WrongWay$House" "kinds" "[I") (by decide +kernel)
  have kf9 := hts (.fieldLink RX4 9 "WrongWay$Watch" "house" "LWrongWay$House;") (by decide +kernel)
  have iX1 := (fun w h => List.mem_cons_of_mem _ (List.mem_append_right _ h) : ∀ w ∈ u_ws RX1 TX1 14, w ∈ wsX4_fittingStarts)
  have iX4 := (fun w h => List.mem_cons_of_mem _ (List.mem_append_left _ (List.mem_append_right _ h)) : ∀ w ∈ u_ws RX4 TX4 1, w ∈ wsX4_fittingStarts)
  have hb0 := hw.b
  have hk0 := hw.k h1.1 h1.2
  refine q_iconst hx hb dX4_fittingStarts_0 ?_
  refine lv_istore_n (lv' := [(2, .int (zI 0)), (0, .ref o), (1, .int (zI x1))]) hx hb dX4_fittingStarts_1 rfl hl (by decide) rfl (fun ls hl => ?_)
  refine q_iconst hx hb dX4_fittingStarts_2 ?_
  refine lv_istore_n (lv' := [(3, .int (zI 0)), (2, .int (zI 0)), (0, .ref o), (1, .int (zI x1))]) hx hb dX4_fittingStarts_3 rfl hl (by decide) rfl (fun ls hl => ?_)
  refine w_loopP (σ := Int × Int) (fun a9 ls => (0 ≤ a9.1 ∧ a9.1 ≤ 100) ∧ (a9.2 = sumR (c_fsF w x1) a9.1) ∧ lv_has ls 4 [(0, .ref o), (1, .int (zI x1)), (2, .int (zI a9.2)), (3, .int (zI a9.1))]) (fun a9 => (100 - a9.1).toNat) ?_ (0, 0) ?_
  · rintro ⟨i, cn⟩ ls ⟨hi, hn, hl⟩ ih4
    have hi : 0 ≤ i ∧ i ≤ 100 := hi
    have hn : cn = sumR (c_fsF w x1) i := hn
    have hl : lv_has ls 4 [(0, .ref o), (1, .int (zI x1)), (2, .int (zI cn)), (3, .int (zI i))] := hl
    refine lv_iload_n hx hb dX4_fittingStarts_4 rfl (lv_at hl 3 rfl) ?_
    refine q_bipush hx hb dX4_fittingStarts_5 rfl ?_
    refine q_icmp_gt (tgt := 37) hx hb dX4_fittingStarts_7 (by decide) (by omega) (fun c_1 => ?_) (fun c_1 => ?_)
    · refine lv_iload_n hx hb dX4_fittingStarts_37 rfl (lv_at hl 2 rfl) ?_
      exact W.iret hx hb hr (fun t9 ht9 hW9 => ⟨_, rfl, congrArg zI (show cn = c_fs w x1 from by rw [hn, show i = 100 by omega]; rfl), ht9⟩) hS.2.2 dX4_fittingStarts_38
    · refine lv_aload_n hx hb dX4_fittingStarts_10 rfl (lv_at hl 0 rfl) ?_
      refine lv_iload_n hx hb dX4_fittingStarts_11 rfl (lv_at hl 1 rfl) ?_
      refine lv_aload_n hx hb dX4_fittingStarts_12 rfl (lv_at hl 0 rfl) ?_
      refine va_get (D := (dC, dI)) (ci := 3) (v := .ref (a 0)) (C := RX4) (T := TX4) (N := 1) hx hb hts iX4 hown hK hP 0 rfl rfl 0 (by decide) kf9 (fun _ h9 => h9) rfl dX4_fittingStarts_13 ?_
      refine va_get (D := (dC, dI)) (ci := 1) (v := .ref (a 1)) (C := RX1) (T := TX1) (N := 14) hx hb hts iX1 hown hK hP 1 rfl rfl 5 (by decide) kf15 (fun _ h9 => h9) rfl dX4_fittingStarts_16 ?_
      refine lv_iload_n hx hb dX4_fittingStarts_19 rfl (lv_at hl 1 rfl) ?_
      refine q_iald (F := fun k => w (5 + k)) (v := w (5 + x1)) hx hb hK hP 2 0 rfl rfl (by decide) (by omega) rfl dX4_fittingStarts_20 ?_
      refine lv_iload_n hx hb dX4_fittingStarts_21 rfl (lv_at hl 3 rfl) ?_
      refine q_cVi (z := bz (c_fits w x1 (w (5 + x1)) i = true)) (b := o) (As := [.int (zI x1), .int (zI (w (5 + x1))), .int (zI i)]) (rest := []) ⟨hx, hb, hml, hown, hts⟩ (kX4_fits l dC dI g tt o a w x1 (w (5 + x1)) i (hw) (by omega) (by omega) (by omega)) (cwV 3 hts gX4_fittingStarts_X4_fits rfl rfl rfl (by decide +kernel) ⟨Nat.le_of_ble_eq_true rfl, Nat.le_of_ble_eq_true rfl⟩) hP hK hT hS 0 3 rfl rfl rfl rfl hl.1 rfl (Nat.le_of_ble_eq_true rfl) dX4_fittingStarts_22 ⟨Nat.le_of_ble_eq_true rfl, Nat.le_of_ble_eq_true rfl⟩ ?_
      refine q_bz_eq (tgt := 31) hx hb dX4_fittingStarts_25 (by decide) (fun c_2 => ?_) (fun c_2 => ?_)
      · refine lv_iinc (v := zI (i + 1)) (lv' := [(3, .int (zI (i + 1))), (0, .ref o), (1, .int (zI x1)), (2, .int (zI cn))]) hx hb dX4_fittingStarts_31 hl (k := 3) rfl (zI_add _ _) (by decide) rfl (fun ls hl => ?_)
        refine lv_goto (tgt := 4) hx hb dX4_fittingStarts_34 (by decide) ?_
        exact ih4 (i + 1, cn) ls ⟨(show 0 ≤ (i + 1) ∧ (i + 1) ≤ 100 from by omega), (show cn = sumR (c_fsF w x1) (i + 1) from by rw [sumR_s (by omega), c_fsF, bz_f c_2]; omega), lv_sub hl [1, 2, 3, 0] rfl⟩ (by show (100 - (i + 1)).toNat < (100 - i).toNat; omega)
      · refine lv_iinc (v := zI (cn + 1)) (lv' := [(2, .int (zI (cn + 1))), (0, .ref o), (1, .int (zI x1)), (3, .int (zI i))]) hx hb dX4_fittingStarts_28 hl (k := 2) rfl (zI_add _ _) (by decide) rfl (fun ls hl => ?_)
        refine lv_iinc (v := zI (i + 1)) (lv' := [(3, .int (zI (i + 1))), (2, .int (zI (cn + 1))), (0, .ref o), (1, .int (zI x1))]) hx hb dX4_fittingStarts_31 hl (k := 3) rfl (zI_add _ _) (by decide) rfl (fun ls hl => ?_)
        refine lv_goto (tgt := 4) hx hb dX4_fittingStarts_34 (by decide) ?_
        exact ih4 (i + 1, cn + 1) ls ⟨(show 0 ≤ (i + 1) ∧ (i + 1) ≤ 100 from by omega), (show (cn + 1) = sumR (c_fsF w x1) (i + 1) from by rw [sumR_s (by omega), c_fsF, bz_t c_2]; omega), lv_sub hl [2, 3, 1, 0] rfl⟩ (by show (100 - (i + 1)).toNat < (100 - i).toNat; omega)
  · exact ⟨(show 0 ≤ 0 ∧ 0 ≤ 100 from by omega), (show 0 = sumR (c_fsF w x1) 0 from rfl), lv_sub hl [2, 3, 1, 0] rfl⟩
set_option maxHeartbeats 4000000 in
set_option maxRecDepth 100000 in
theorem kX4_kindsThere (l : Launch) (dC : Nat → ClassId) (dI : Nat → Nat → Nat) (g : Nat → ClassId) (tt : Nat → Nat) (o : Nat) (a : Nat → Nat) (w : Int → Int) (x1 x2 x3 x4 : Int) (hw : hok w) (h1 : 0 ≤ x1 ∧ x1 < 64) (h2 : 0 ≤ x2 ∧ x2 ≤ 99) (h3 : 0 ≤ x3 ∧ x3 ≤ 11) (h4 : 0 ≤ x4 ∧ x4 ≤ 1000) : Met l yX4_kindsThere wsX4_kindsThere ({ frames := 2, cells := 0, slots := 0, locals := 48 }) (va_Pc [.ref o, .int (zI x1), .int (zI x2), .int (zI x3), .int (zI x4)] (eS (dC, dI) (wTy g) (wWa g o a w) tt)) (vp_Si (fun r => r = zI (c_kt w x1 x2 x3 x4 6))) 0 0 (fun _ => False) := by
  refine Met.ofW (cc := cX4_kindsThere) (maxL := 8) (ret := (some .int)) (by decide) rfl ?_
  intro p e s m args below meth c s₁ B hml hv
  obtain ⟨rfl, hP, hK, hT⟩ := hv
  have hx := B.exec
  have hb := B.bytes
  have hr := B.returns
  have hts := atoms_spec (ws := wsX4_kindsThere) B.pre
  have hown : s.vm.findClass RX4 = some m.cls := findClass_of_methodNamed B.named
  have hlocks := B.notSynchronized
  have hS : va_S (fun _ : Nat => False) s.heap s.heap [] := va_S.rf
  have hl := lv_entry ([.ref o, .int (zI x1), .int (zI x2), .int (zI x3), .int (zI x4)]) (n := 8) (Nat.le_of_ble_eq_true rfl)
  rw [lg_entry_eq]
  generalize (lg_sl ([.ref o, .int (zI x1), .int (zI x2), .int (zI x3), .int (zI x4)]) ++ List.replicate (8 - (lg_sl ([.ref o, .int (zI x1), .int (zI x2), .int (zI x3), .int (zI x4)])).length) Slot.unset).toArray = ls at hl ⊢
  have hl : lv_has ls 8 [(0, .ref o), (1, .int (zI x1)), (2, .int (zI x2)), (3, .int (zI x3)), (4, .int (zI x4))] := hl
  have kf21 := hts (.fieldLink RX4 21 "WrongWay$House" "top" "I") (by decide +kernel)
  have kf9 := hts (.fieldLink RX4 9 "WrongWay$Watch" "house" "LWrongWay$House;") (by decide +kernel)
  have iX1 := (fun w h => List.mem_cons_of_mem _ (List.mem_append_right _ h) : ∀ w ∈ u_ws RX1 TX1 14, w ∈ wsX4_kindsThere)
  have iX4 := (fun w h => List.mem_cons_of_mem _ (List.mem_append_left _ (List.mem_append_right _ h)) : ∀ w ∈ u_ws RX4 TX4 1, w ∈ wsX4_kindsThere)
  have hb0 := hw.b
  refine q_iconst hx hb dX4_kindsThere_0 ?_
  refine lv_istore (lv' := [(5, .int (zI 0)), (0, .ref o), (1, .int (zI x1)), (2, .int (zI x2)), (3, .int (zI x3)), (4, .int (zI x4))]) hx hb dX4_kindsThere_1 hl (by decide) rfl (fun ls hl => ?_)
  refine q_iconst hx hb dX4_kindsThere_3 ?_
  refine lv_istore (lv' := [(6, .int (zI 0)), (5, .int (zI 0)), (0, .ref o), (1, .int (zI x1)), (2, .int (zI x2)), (3, .int (zI x3)), (4, .int (zI x4))]) hx hb dX4_kindsThere_4 hl (by decide) rfl (fun ls hl => ?_)
  refine w_loopP (σ := Int × Int) (fun a9 ls => (0 ≤ a9.1 ∧ a9.1 ≤ 6) ∧ (a9.2 = c_kt w x1 x2 x3 x4 a9.1) ∧ lv_has ls 8 [(0, .ref o), (1, .int (zI x1)), (2, .int (zI x2)), (3, .int (zI x3)), (4, .int (zI x4)), (5, .int (zI a9.2)), (6, .int (zI a9.1))]) (fun a9 => (6 - a9.1).toNat) ?_ (0, 0) ?_
  · rintro ⟨i, cn⟩ ls ⟨hi, hn, hl⟩ ih6
    have hi : 0 ≤ i ∧ i ≤ 6 := hi
    have hn : cn = c_kt w x1 x2 x3 x4 i := hn
    have hl : lv_has ls 8 [(0, .ref o), (1, .int (zI x1)), (2, .int (zI x2)), (3, .int (zI x3)), (4, .int (zI x4)), (5, .int (zI cn)), (6, .int (zI i))] := hl
    refine lv_iload hx hb dX4_kindsThere_6 (lv_at hl 6 rfl) ?_
    refine q_iconst hx hb dX4_kindsThere_8 ?_
    refine q_icmp_gt (tgt := 62) hx hb dX4_kindsThere_9 (by decide) (by omega) (fun c_1 => ?_) (fun c_1 => ?_)
    · refine lv_iload hx hb dX4_kindsThere_62 (lv_at hl 5 rfl) ?_
      exact W.iret hx hb hr (fun t9 ht9 hW9 => ⟨_, rfl, congrArg zI (show cn = c_kt w x1 x2 x3 x4 6 from by rw [hn, show i = 6 by omega]), ht9⟩) hS.2.2 dX4_kindsThere_64
    · refine lv_iload_n hx hb dX4_kindsThere_12 rfl (lv_at hl 1 rfl) ?_
      refine lv_iload hx hb dX4_kindsThere_13 (lv_at hl 6 rfl) ?_
      refine q_ishr (z := x1 / 2 ^ (i).toNat) hx hb dX4_kindsThere_15 (zI_shr6 (by omega) (by omega)) ?_
      refine q_iconst hx hb dX4_kindsThere_16 ?_
      refine q_iand (z := x1 / 2 ^ (i).toNat % 2) hx hb dX4_kindsThere_17 (zI_and1 (div64 (by omega) _)) ?_
      refine q_iconst hx hb dX4_kindsThere_18 ?_
      refine q_icmp_ne (tgt := 26) hx hb dX4_kindsThere_19 (by decide) (by omega) (fun c_2 => ?_) (fun c_2 => ?_)
      · refine q_iconst hx hb dX4_kindsThere_26 ?_
        refine lv_istore (lv' := [(7, .int (zI 0)), (0, .ref o), (1, .int (zI x1)), (2, .int (zI x2)), (3, .int (zI x3)), (4, .int (zI x4)), (5, .int (zI cn)), (6, .int (zI i))]) hx hb dX4_kindsThere_27 hl (by decide) rfl (fun ls hl => ?_)
        refine lv_iload hx hb dX4_kindsThere_29 (lv_at hl 0 rfl) ?_
        refine q_if_eqT (tgt := 56) hx hb dX4_kindsThere_31 (by decide) (by decide) ?_
        refine lv_iinc (v := zI (i + 1)) (lv' := [(6, .int (zI (i + 1))), (7, .int (zI 0)), (0, .ref o), (1, .int (zI x1)), (2, .int (zI x2)), (3, .int (zI x3)), (4, .int (zI x4)), (5, .int (zI cn))]) hx hb dX4_kindsThere_56 hl (k := 7) rfl (zI_add _ _) (by decide) rfl (fun ls hl => ?_)
        refine lv_goto (tgt := 6) hx hb dX4_kindsThere_59 (by decide) ?_
        exact ih6 (i + 1, cn) ls ⟨(show 0 ≤ (i + 1) ∧ (i + 1) ≤ 6 from by omega), (show cn = c_kt w x1 x2 x3 x4 (i + 1) from by rw [c_kt_s (by omega), bz_f (fun h9 => c_2 h9.1)]; omega), lv_sub hl [2, 3, 4, 5, 6, 7, 0] rfl⟩ (by show (6 - (i + 1)).toNat < (6 - i).toNat; omega)
      · refine q_iconst hx hb dX4_kindsThere_22 ?_
        refine lv_goto (tgt := 27) hx hb dX4_kindsThere_23 (by decide) ?_
        refine lv_istore (lv' := [(7, .int (zI 1)), (0, .ref o), (1, .int (zI x1)), (2, .int (zI x2)), (3, .int (zI x3)), (4, .int (zI x4)), (5, .int (zI cn)), (6, .int (zI i))]) hx hb dX4_kindsThere_27 hl (by decide) rfl (fun ls hl => ?_)
        refine lv_iload hx hb dX4_kindsThere_29 (lv_at hl 0 rfl) ?_
        refine q_if_eqF (tgt := 56) hx hb dX4_kindsThere_31 (by decide) (by decide) ?_
        refine lv_iload hx hb dX4_kindsThere_34 (lv_at hl 7 rfl) ?_
        refine lv_aload_n hx hb dX4_kindsThere_36 rfl (lv_at hl 1 rfl) ?_
        refine va_get (D := (dC, dI)) (ci := 3) (v := .ref (a 0)) (C := RX4) (T := TX4) (N := 1) hx hb hts iX4 hown hK hP 0 rfl rfl 0 (by decide) kf9 (fun _ h9 => h9) rfl dX4_kindsThere_37 ?_
        refine va_get (D := (dC, dI)) (ci := 1) (v := .int (zI (w 1))) (C := RX1) (T := TX1) (N := 14) hx hb hts iX1 hown hK hP 1 rfl rfl 0 (by decide) kf21 (fun _ h9 => h9) rfl dX4_kindsThere_40 ?_
        refine lv_iload_n hx hb dX4_kindsThere_43 rfl (lv_at hl 3 rfl) ?_
        refine lv_iload hx hb dX4_kindsThere_44 (lv_at hl 5 rfl) ?_
        refine q_cSi (z := c_floor i (w 1) x2 x4) (As := [.int (zI i), .int (zI (w 1)), .int (zI x2), .int (zI x4)]) (rest := []) ⟨hx, hb, hml, hown, hts⟩ (kX2_floorIn l dC dI g tt i (w 1) x2 x4 (by omega) (by omega) (by omega) (by omega)) (va_cwS 4 hts gX4_kindsThere_X2_floorIn rfl rfl rfl (by decide +kernel) ⟨Nat.le_of_ble_eq_true rfl, Nat.le_of_ble_eq_true rfl⟩) (hP.sub (ws' := []) [] rfl) hK hT hS rfl hl.1 rfl (Nat.le_of_ble_eq_true rfl) dX4_kindsThere_46 ⟨Nat.le_of_ble_eq_true rfl, Nat.le_of_ble_eq_true rfl⟩ ?_
        have := c_floor_r i (t := (w 1)) (b := x2) (m := x4) (by omega) (by omega) (by omega)
        refine lv_iload_n hx hb dX4_kindsThere_49 rfl (lv_at hl 4 rfl) ?_
        refine q_icmp_ne (tgt := 56) hx hb dX4_kindsThere_50 (by decide) (by omega) (fun c_3 => ?_) (fun c_3 => ?_)
        · refine lv_iinc (v := zI (i + 1)) (lv' := [(6, .int (zI (i + 1))), (7, .int (zI 1)), (0, .ref o), (1, .int (zI x1)), (2, .int (zI x2)), (3, .int (zI x3)), (4, .int (zI x4)), (5, .int (zI cn))]) hx hb dX4_kindsThere_56 hl (k := 7) rfl (zI_add _ _) (by decide) rfl (fun ls hl => ?_)
          refine lv_goto (tgt := 6) hx hb dX4_kindsThere_59 (by decide) ?_
          exact ih6 (i + 1, cn) ls ⟨(show 0 ≤ (i + 1) ∧ (i + 1) ≤ 6 from by omega), (show cn = c_kt w x1 x2 x3 x4 (i + 1) from by rw [c_kt_s (by omega), bz_f (fun h9 => c_3 h9.2)]; omega), lv_sub hl [2, 3, 4, 5, 6, 7, 0] rfl⟩ (by show (6 - (i + 1)).toNat < (6 - i).toNat; omega)
        · refine lv_iinc (v := zI (cn + 1)) (lv' := [(5, .int (zI (cn + 1))), (7, .int (zI 1)), (0, .ref o), (1, .int (zI x1)), (2, .int (zI x2)), (3, .int (zI x3)), (4, .int (zI x4)), (6, .int (zI i))]) hx hb dX4_kindsThere_53 hl (k := 6) rfl (zI_add _ _) (by decide) rfl (fun ls hl => ?_)
          refine lv_iinc (v := zI (i + 1)) (lv' := [(6, .int (zI (i + 1))), (5, .int (zI (cn + 1))), (7, .int (zI 1)), (0, .ref o), (1, .int (zI x1)), (2, .int (zI x2)), (3, .int (zI x3)), (4, .int (zI x4))]) hx hb dX4_kindsThere_56 hl (k := 7) rfl (zI_add _ _) (by decide) rfl (fun ls hl => ?_)
          refine lv_goto (tgt := 6) hx hb dX4_kindsThere_59 (by decide) ?_
          exact ih6 (i + 1, cn + 1) ls ⟨(show 0 ≤ (i + 1) ∧ (i + 1) ≤ 6 from by omega), (show (cn + 1) = c_kt w x1 x2 x3 x4 (i + 1) from by rw [c_kt_s (by omega), bz_t ⟨c_2, c_3⟩]; omega), lv_sub hl [3, 4, 5, 6, 7, 1, 0] rfl⟩ (by show (6 - (i + 1)).toNat < (6 - i).toNat; omega)
  · exact ⟨(show 0 ≤ 0 ∧ 0 ≤ 6 from by omega), (show 0 = c_kt w x1 x2 x3 x4 0 from rfl), lv_sub hl [2, 3, 4, 5, 6, 1, 0] rfl⟩
def bcE (z : Int32) : Int32 :=
  let a := z - ((z.toUInt32 >>> (Int32.toUInt32 1 &&& Int32.toUInt32 31)).toInt32 &&& 1431655765)
  let b := (a &&& 858993459) + ((a.toUInt32 >>> (Int32.toUInt32 2 &&& Int32.toUInt32 31)).toInt32 &&& 858993459)
  let c := (b + (b.toUInt32 >>> (Int32.toUInt32 4 &&& Int32.toUInt32 31)).toInt32) &&& 252645135
  let d := c + (c.toUInt32 >>> (Int32.toUInt32 8 &&& Int32.toUInt32 31)).toInt32
  let e := d + (d.toUInt32 >>> (Int32.toUInt32 16 &&& Int32.toUInt32 31)).toInt32
  e &&& 63
theorem bcE_ok : ∀ i : Fin 64, bcE (zI (i.val : Int)) = zI (c_pc (i.val : Int)) := by decide +kernel
set_option maxHeartbeats 4000000 in
set_option maxRecDepth 100000 in
theorem kJ6_bitCount_0f7a4 (l : Launch) (dC : Nat → ClassId) (dI : Nat → Nat → Nat) (g : Nat → ClassId) (tt : Nat → Nat) (x1 : Int) (h1 : 0 ≤ x1 ∧ x1 < 64) : Met l yJ6_bitCount_0f7a4 wsJ6_bitCount_0f7a4 ({ frames := 0, cells := 0, slots := 0, locals := 0 }) (va_Pc [.int (zI x1)] (eS (dC, dI) (wTy g) ([]) tt)) (vp_Si (fun r => r = zI (c_pc x1))) 0 0 (fun _ => False) := by
  refine Met.ofW (cc := cJ6_bitCount_0f7a4) (maxL := 1) (ret := (some .int)) (by decide) rfl ?_
  intro p e s m args below meth c s₁ B hml hv
  obtain ⟨rfl, hP, hK, hT⟩ := hv
  have hx := B.exec
  have hb := B.bytes
  have hr := B.returns
  have hts := atoms_spec (ws := wsJ6_bitCount_0f7a4) B.pre
  have hown : s.vm.findClass RJ6 = some m.cls := findClass_of_methodNamed B.named
  have hlocks := B.notSynchronized
  have hS : va_S (fun _ : Nat => False) s.heap s.heap [] := va_S.rf
  have hl := lv_entry ([.int (zI x1)]) (n := 1) (Nat.le_of_ble_eq_true rfl)
  rw [lg_entry_eq]
  generalize (lg_sl ([.int (zI x1)]) ++ List.replicate (1 - (lg_sl ([.int (zI x1)])).length) Slot.unset).toArray = ls at hl ⊢
  have hl : lv_has ls 1 [(0, .int (zI x1))] := hl
  refine lv_iload_n hx hb dJ6_bitCount_0f7a4_0 rfl (lv_at hl 0 rfl) ?_
  refine lv_iload_n hx hb dJ6_bitCount_0f7a4_1 rfl (lv_at hl 0 rfl) ?_
  refine lv_iconst (v := 1) hx hb dJ6_bitCount_0f7a4_2 (by decide) ?_
  refine lv_iushr hx hb dJ6_bitCount_0f7a4_3 rfl ?_
  refine lv_ldcw hx hb hown (hts (.constant RJ6 265 (1431655765)) (by decide +kernel)) dJ6_bitCount_0f7a4_4 ?_
  refine lv_iand hx hb dJ6_bitCount_0f7a4_7 ?_
  refine lv_isub hx hb dJ6_bitCount_0f7a4_8 ?_
  refine lv_topi (fun r_1 er_1 => ?_)
  refine lv_istore_n (lv' := [(0, .int r_1)]) hx hb dJ6_bitCount_0f7a4_9 rfl hl (by decide) rfl (fun ls hl => ?_)
  refine lv_iload_n hx hb dJ6_bitCount_0f7a4_10 rfl (lv_at hl 0 rfl) ?_
  refine lv_ldcw hx hb hown (hts (.constant RJ6 266 (858993459)) (by decide +kernel)) dJ6_bitCount_0f7a4_11 ?_
  refine lv_iand hx hb dJ6_bitCount_0f7a4_14 ?_
  refine lv_iload_n hx hb dJ6_bitCount_0f7a4_15 rfl (lv_at hl 0 rfl) ?_
  refine lv_iconst (v := 2) hx hb dJ6_bitCount_0f7a4_16 (by decide) ?_
  refine lv_iushr hx hb dJ6_bitCount_0f7a4_17 rfl ?_
  refine lv_ldcw hx hb hown (hts (.constant RJ6 266 (858993459)) (by decide +kernel)) dJ6_bitCount_0f7a4_18 ?_
  refine lv_iand hx hb dJ6_bitCount_0f7a4_21 ?_
  refine lv_iadd hx hb dJ6_bitCount_0f7a4_22 ?_
  refine lv_topi (fun r_2 er_2 => ?_)
  refine lv_istore_n (lv' := [(0, .int r_2)]) hx hb dJ6_bitCount_0f7a4_23 rfl hl (by decide) rfl (fun ls hl => ?_)
  refine lv_iload_n hx hb dJ6_bitCount_0f7a4_24 rfl (lv_at hl 0 rfl) ?_
  refine lv_iload_n hx hb dJ6_bitCount_0f7a4_25 rfl (lv_at hl 0 rfl) ?_
  refine lv_iconst (v := 4) hx hb dJ6_bitCount_0f7a4_26 (by decide) ?_
  refine lv_iushr hx hb dJ6_bitCount_0f7a4_27 rfl ?_
  refine lv_iadd hx hb dJ6_bitCount_0f7a4_28 ?_
  refine lv_ldcw hx hb hown (hts (.constant RJ6 267 (252645135)) (by decide +kernel)) dJ6_bitCount_0f7a4_29 ?_
  refine lv_iand hx hb dJ6_bitCount_0f7a4_32 ?_
  refine lv_topi (fun r_3 er_3 => ?_)
  refine lv_istore_n (lv' := [(0, .int r_3)]) hx hb dJ6_bitCount_0f7a4_33 rfl hl (by decide) rfl (fun ls hl => ?_)
  refine lv_iload_n hx hb dJ6_bitCount_0f7a4_34 rfl (lv_at hl 0 rfl) ?_
  refine lv_iload_n hx hb dJ6_bitCount_0f7a4_35 rfl (lv_at hl 0 rfl) ?_
  refine lv_bipush (v := 8) hx hb dJ6_bitCount_0f7a4_36 (by decide) ?_
  refine lv_iushr hx hb dJ6_bitCount_0f7a4_38 rfl ?_
  refine lv_iadd hx hb dJ6_bitCount_0f7a4_39 ?_
  refine lv_topi (fun r_4 er_4 => ?_)
  refine lv_istore_n (lv' := [(0, .int r_4)]) hx hb dJ6_bitCount_0f7a4_40 rfl hl (by decide) rfl (fun ls hl => ?_)
  refine lv_iload_n hx hb dJ6_bitCount_0f7a4_41 rfl (lv_at hl 0 rfl) ?_
  refine lv_iload_n hx hb dJ6_bitCount_0f7a4_42 rfl (lv_at hl 0 rfl) ?_
  refine lv_bipush (v := 16) hx hb dJ6_bitCount_0f7a4_43 (by decide) ?_
  refine lv_iushr hx hb dJ6_bitCount_0f7a4_45 rfl ?_
  refine lv_iadd hx hb dJ6_bitCount_0f7a4_46 ?_
  refine lv_topi (fun r_5 er_5 => ?_)
  refine lv_istore_n (lv' := [(0, .int r_5)]) hx hb dJ6_bitCount_0f7a4_47 rfl hl (by decide) rfl (fun ls hl => ?_)
  refine lv_iload_n hx hb dJ6_bitCount_0f7a4_48 rfl (lv_at hl 0 rfl) ?_
  refine lv_bipush (v := 63) hx hb dJ6_bitCount_0f7a4_49 (by decide) ?_
  refine lv_iand hx hb dJ6_bitCount_0f7a4_51 ?_
  refine W.iret hx hb hr (fun t9 ht9 hW9 => ⟨_, rfl, ?_, ht9⟩) hS.2.2 dJ6_bitCount_0f7a4_52
  clear hl
  rw [er_5, er_4, er_3, er_2, er_1]
  clear er_1 er_2 er_3 er_4 er_5
  exact fin64 (P := fun x => bcE (zI x) = zI (c_pc x)) bcE_ok h1
set_option maxHeartbeats 4000000 in
set_option maxRecDepth 100000 in
theorem kX4_tellingMinute (l : Launch) (dC : Nat → ClassId) (dI : Nat → Nat → Nat) (g : Nat → ClassId) (tt : Nat → Nat) (o : Nat) (a : Nat → Nat) (w : Int → Int) (x1 x2 : Int) (hw : hok w) (h1 : 0 ≤ x1 ∧ x1 < w 0) (h2 : 0 ≤ x2 ∧ x2 ≤ w 1) : Met l yX4_tellingMinute wsX4_tellingMinute ({ frames := 4, cells := 0, slots := 0, locals := 97 }) (va_Pc [.ref o, .int (zI x1), .int (zI x2)] (eS (dC, dI) (wTy g) (wWa g o a w) tt)) (vp_Si (fun r => r = zI (c_tm w x1 x2))) 0 0 (fun _ => False) := by
  refine Met.ofW (cc := cX4_tellingMinute) (maxL := 10) (ret := (some .int)) (by decide) rfl ?_
  intro p e s m args below meth c s₁ B hml hv
  obtain ⟨rfl, hP, hK, hT⟩ := hv
  have hx := B.exec
  have hb := B.bytes
  have hr := B.returns
  have hts := atoms_spec (ws := wsX4_tellingMinute) B.pre
  have hown : s.vm.findClass RX4 = some m.cls := findClass_of_methodNamed B.named
  have hlocks := B.notSynchronized
  have hS : va_S (fun _ : Nat => False) s.heap s.heap [] := va_S.rf
  have hl := lv_entry ([.ref o, .int (zI x1), .int (zI x2)]) (n := 10) (Nat.le_of_ble_eq_true rfl)
  rw [lg_entry_eq]
  generalize (lg_sl ([.ref o, .int (zI x1), .int (zI x2)]) ++ List.replicate (10 - (lg_sl ([.ref o, .int (zI x1), .int (zI x2)])).length) Slot.unset).toArray = ls at hl ⊢
  have hl : lv_has ls 10 [(0, .ref o), (1, .int (zI x1)), (2, .int (zI x2))] := hl
  have kf25 := hts (.fieldLink RX4 25 "WrongWay$House" "starts" "[I") (by decide +kernel)
  have kf9 := hts (.fieldLink RX4 9 "WrongWay$Watch" "house" "LWrongWay$House;") (by decide +kernel)
  have km88 := hts (.methodLink RX4 88 Lib.Math.max.name) (by decide +kernel)
  have iX1 := (fun w h => List.mem_cons_of_mem _ (List.mem_append_right _ h) : ∀ w ∈ u_ws RX1 TX1 14, w ∈ wsX4_tellingMinute)
  have iX4 := (fun w h => List.mem_cons_of_mem _ (List.mem_append_left _ (List.mem_append_right _ h)) : ∀ w ∈ u_ws RX4 TX4 1, w ∈ wsX4_tellingMinute)
  have hb0 := hw.b
  have hk0 := hw.k h1.1 h1.2
  refine lv_aload_n hx hb dX4_tellingMinute_0 rfl (lv_at hl 0 rfl) ?_
  refine lv_iload_n hx hb dX4_tellingMinute_1 rfl (lv_at hl 1 rfl) ?_
  refine q_cVi (z := c_fk w x1 6) (b := o) (As := [.int (zI x1)]) (rest := []) ⟨hx, hb, hml, hown, hts⟩ (kX4_fittingKinds l dC dI g tt o a w x1 (hw) (by omega)) (cwV 1 hts gX4_tellingMinute_X4_fittingKinds rfl rfl rfl (by decide +kernel) ⟨Nat.le_of_ble_eq_true rfl, Nat.le_of_ble_eq_true rfl⟩) hP hK hT hS 0 3 rfl rfl rfl rfl hl.1 rfl (Nat.le_of_ble_eq_true rfl) dX4_tellingMinute_2 ⟨Nat.le_of_ble_eq_true rfl, Nat.le_of_ble_eq_true rfl⟩ ?_
  have := c_fk_64 w x1
  refine lv_istore_n (lv' := [(3, .int (zI (c_fk w x1 6))), (0, .ref o), (1, .int (zI x1)), (2, .int (zI x2))]) hx hb dX4_tellingMinute_5 rfl hl (by decide) rfl (fun ls hl => ?_)
  refine lv_iload_n hx hb dX4_tellingMinute_6 rfl (lv_at hl 0 rfl) ?_
  refine q_cSi (z := c_pc (c_fk w x1 6)) (As := [.int (zI (c_fk w x1 6))]) (rest := []) ⟨hx, hb, hml, hown, hts⟩ (kJ6_bitCount_0f7a4 l dC dI g tt (c_fk w x1 6) (by omega)) (va_cwS 1 hts gX4_tellingMinute_J6_bitCount_0f7a4 rfl rfl rfl (by decide +kernel) ⟨Nat.le_of_ble_eq_true rfl, Nat.le_of_ble_eq_true rfl⟩) (hP.sub (ws' := []) [] rfl) hK hT hS rfl hl.1 rfl (Nat.le_of_ble_eq_true rfl) dX4_tellingMinute_7 ⟨Nat.le_of_ble_eq_true rfl, Nat.le_of_ble_eq_true rfl⟩ ?_
  have := c_pc_r (c_fk w x1 6)
  refine lv_istore (lv' := [(4, .int (zI (c_pc (c_fk w x1 6)))), (3, .int (zI (c_fk w x1 6))), (0, .ref o), (1, .int (zI x1)), (2, .int (zI x2))]) hx hb dX4_tellingMinute_10 hl (by decide) rfl (fun ls hl => ?_)
  refine q_iconst hx hb dX4_tellingMinute_12 ?_
  refine lv_istore (lv' := [(5, .int (zI (-1))), (4, .int (zI (c_pc (c_fk w x1 6)))), (3, .int (zI (c_fk w x1 6))), (0, .ref o), (1, .int (zI x1)), (2, .int (zI x2))]) hx hb dX4_tellingMinute_13 hl (by decide) rfl (fun ls hl => ?_)
  refine lv_iload hx hb dX4_tellingMinute_15 (lv_at hl 1 rfl) ?_
  refine q_iconst hx hb dX4_tellingMinute_17 ?_
  refine q_iadd hx hb dX4_tellingMinute_18 ?_
  refine lv_istore (lv' := [(6, .int (zI ((c_pc (c_fk w x1 6)) + 1))), (5, .int (zI (-1))), (4, .int (zI (c_pc (c_fk w x1 6)))), (3, .int (zI (c_fk w x1 6))), (0, .ref o), (1, .int (zI x1)), (2, .int (zI x2))]) hx hb dX4_tellingMinute_19 hl (by decide) rfl (fun ls hl => ?_)
  refine q_iconst hx hb dX4_tellingMinute_21 ?_
  refine lv_istore (lv' := [(7, .int (zI 0)), (6, .int (zI ((c_pc (c_fk w x1 6)) + 1))), (5, .int (zI (-1))), (4, .int (zI (c_pc (c_fk w x1 6)))), (3, .int (zI (c_fk w x1 6))), (0, .ref o), (1, .int (zI x1)), (2, .int (zI x2))]) hx hb dX4_tellingMinute_22 hl (by decide) rfl (fun ls hl => ?_)
  refine w_loopP (σ := Int × Int × Int) (fun a9 ls => (0 ≤ a9.1 ∧ a9.1 ≤ 31) ∧ ((a9.2.1, a9.2.2) = itR (c_tmS w x1 x2) (-1, c_pc (c_fk w x1 6) + 1) a9.1) ∧ (c_pc (c_fk w x1 6) ≤ 0 → a9.2.1 = -1) ∧ (-1 ≤ a9.2.2 ∧ a9.2.2 ≤ 7) ∧ lv_has ls 10 [(0, .ref o), (1, .int (zI x1)), (2, .int (zI x2)), (3, .int (zI (c_fk w x1 6))), (4, .int (zI (c_pc (c_fk w x1 6)))), (5, .int (zI a9.2.1)), (6, .int (zI a9.2.2)), (7, .int (zI a9.1))]) (fun a9 => (31 - a9.1).toNat) ?_ (0, (-1), (c_pc (c_fk w x1 6)) + 1) ?_
  · rintro ⟨i, bs, fw⟩ ls ⟨hi, hs, hz, hfw, hl⟩ ih24
    have hi : 0 ≤ i ∧ i ≤ 31 := hi
    have hs : (bs, fw) = itR (c_tmS w x1 x2) (-1, c_pc (c_fk w x1 6) + 1) i := hs
    have hz : c_pc (c_fk w x1 6) ≤ 0 → bs = -1 := hz
    have hfw : -1 ≤ fw ∧ fw ≤ 7 := hfw
    have hl : lv_has ls 10 [(0, .ref o), (1, .int (zI x1)), (2, .int (zI x2)), (3, .int (zI (c_fk w x1 6))), (4, .int (zI (c_pc (c_fk w x1 6)))), (5, .int (zI bs)), (6, .int (zI fw)), (7, .int (zI i))] := hl
    refine lv_iload hx hb dX4_tellingMinute_24 (lv_at hl 4 rfl) ?_
    refine q_if_le (tgt := 88) hx hb dX4_tellingMinute_26 (by decide) (by omega) (fun c_1 => ?_) (fun c_1 => ?_)
    · refine lv_iload hx hb dX4_tellingMinute_88 (lv_at hl 5 rfl) ?_
      exact W.iret hx hb hr (fun t9 ht9 hW9 => ⟨_, rfl, congrArg zI (show bs = c_tm w x1 x2 from by unfold c_tm; rw [if_neg (by omega)]; exact hz (by omega)), ht9⟩) hS.2.2 dX4_tellingMinute_90
    · refine lv_iload hx hb dX4_tellingMinute_29 (lv_at hl 7 rfl) ?_
      refine q_bipush hx hb dX4_tellingMinute_31 rfl ?_
      refine q_icmp_gt (tgt := 88) hx hb dX4_tellingMinute_33 (by decide) (by omega) (fun c_2 => ?_) (fun c_2 => ?_)
      · refine lv_iload hx hb dX4_tellingMinute_88 (lv_at hl 5 rfl) ?_
        exact W.iret hx hb hr (fun t9 ht9 hW9 => ⟨_, rfl, congrArg zI (show bs = c_tm w x1 x2 from by unfold c_tm; rw [if_pos (by omega), show (31 : Int) = i by omega, ← hs]), ht9⟩) hS.2.2 dX4_tellingMinute_90
      · refine lv_aload_n hx hb dX4_tellingMinute_36 rfl (lv_at hl 0 rfl) ?_
        refine lv_iload_n hx hb dX4_tellingMinute_37 rfl (lv_at hl 3 rfl) ?_
        refine lv_aload_n hx hb dX4_tellingMinute_38 rfl (lv_at hl 0 rfl) ?_
        refine va_get (D := (dC, dI)) (ci := 3) (v := .ref (a 0)) (C := RX4) (T := TX4) (N := 1) hx hb hts iX4 hown hK hP 0 rfl rfl 0 (by decide) kf9 (fun _ h9 => h9) rfl dX4_tellingMinute_39 ?_
        refine va_get (D := (dC, dI)) (ci := 1) (v := .ref (a 2)) (C := RX1) (T := TX1) (N := 14) hx hb hts iX1 hown hK hP 1 rfl rfl 6 (by decide) kf25 (fun _ h9 => h9) rfl dX4_tellingMinute_42 ?_
        refine lv_iload_n hx hb dX4_tellingMinute_45 rfl (lv_at hl 1 rfl) ?_
        refine q_iald (F := fun k => w (9 + k)) (v := w (9 + x1)) hx hb hK hP 3 0 rfl rfl (by decide) (by omega) rfl dX4_tellingMinute_46 ?_
        refine lv_iload_n hx hb dX4_tellingMinute_47 rfl (lv_at hl 2 rfl) ?_
        refine lv_iload hx hb dX4_tellingMinute_48 (lv_at hl 7 rfl) ?_
        refine q_cVi (z := c_kt w (c_fk w x1 6) (w (9 + x1)) x2 i 6) (b := o) (As := [.int (zI (c_fk w x1 6)), .int (zI (w (9 + x1))), .int (zI x2), .int (zI i)]) (rest := []) ⟨hx, hb, hml, hown, hts⟩ (kX4_kindsThere l dC dI g tt o a w (c_fk w x1 6) (w (9 + x1)) x2 i (hw) (by omega) (by omega) (by omega) (by omega)) (cwV 4 hts gX4_tellingMinute_X4_kindsThere rfl rfl rfl (by decide +kernel) ⟨Nat.le_of_ble_eq_true rfl, Nat.le_of_ble_eq_true rfl⟩) hP hK hT hS 0 3 rfl rfl rfl rfl hl.1 rfl (Nat.le_of_ble_eq_true rfl) dX4_tellingMinute_50 ⟨Nat.le_of_ble_eq_true rfl, Nat.le_of_ble_eq_true rfl⟩ ?_
        have := c_kt_r w (c_fk w x1 6) (w (9 + x1)) x2 i
        refine lv_istore (lv' := [(8, .int (zI (c_kt w (c_fk w x1 6) (w (9 + x1)) x2 i 6))), (0, .ref o), (1, .int (zI x1)), (2, .int (zI x2)), (3, .int (zI (c_fk w x1 6))), (4, .int (zI (c_pc (c_fk w x1 6)))), (5, .int (zI bs)), (6, .int (zI fw)), (7, .int (zI i))]) hx hb dX4_tellingMinute_53 hl (by decide) rfl (fun ls hl => ?_)
        refine lv_iload hx hb dX4_tellingMinute_55 (lv_at hl 0 rfl) ?_
        refine lv_iload hx hb dX4_tellingMinute_57 (lv_at hl 5 rfl) ?_
        refine lv_iload hx hb dX4_tellingMinute_59 (lv_at hl 0 rfl) ?_
        refine q_isub hx hb dX4_tellingMinute_61 ?_
        refine q_mmax hx hb (hml.trans hl.1.symm) hown km88 (hts (.static Lib.Math.max.name) (by decide +kernel)) (hts (.initialized "java/lang/Math") (by decide +kernel)) (hts (.code Lib.Math.max.name Lib.Math.max.code 2 (some .int)) (by decide +kernel)) (Nat.le_of_ble_eq_true rfl) (Nat.le_of_ble_eq_true rfl) (Nat.le_of_ble_eq_true rfl) (Nat.le_of_ble_eq_true rfl) (by omega) dX4_tellingMinute_62 ?_
        refine lv_istore (lv' := [(9, .int (zI (max (c_kt w (c_fk w x1 6) (w (9 + x1)) x2 i 6) ((c_pc (c_fk w x1 6)) - (c_kt w (c_fk w x1 6) (w (9 + x1)) x2 i 6))))), (8, .int (zI (c_kt w (c_fk w x1 6) (w (9 + x1)) x2 i 6))), (0, .ref o), (1, .int (zI x1)), (2, .int (zI x2)), (3, .int (zI (c_fk w x1 6))), (4, .int (zI (c_pc (c_fk w x1 6)))), (5, .int (zI bs)), (6, .int (zI fw)), (7, .int (zI i))]) hx hb dX4_tellingMinute_65 hl (by decide) rfl (fun ls hl => ?_)
        refine lv_iload hx hb dX4_tellingMinute_67 (lv_at hl 0 rfl) ?_
        refine lv_iload hx hb dX4_tellingMinute_69 (lv_at hl 8 rfl) ?_
        refine q_icmp_ge (tgt := 82) hx hb dX4_tellingMinute_71 (by decide) (by omega) (fun c_3 => ?_) (fun c_3 => ?_)
        · refine lv_iinc (v := zI (i + 1)) (lv' := [(7, .int (zI (i + 1))), (9, .int (zI (max (c_kt w (c_fk w x1 6) (w (9 + x1)) x2 i 6) ((c_pc (c_fk w x1 6)) - (c_kt w (c_fk w x1 6) (w (9 + x1)) x2 i 6))))), (8, .int (zI (c_kt w (c_fk w x1 6) (w (9 + x1)) x2 i 6))), (0, .ref o), (1, .int (zI x1)), (2, .int (zI x2)), (3, .int (zI (c_fk w x1 6))), (4, .int (zI (c_pc (c_fk w x1 6)))), (5, .int (zI bs)), (6, .int (zI fw))]) hx hb dX4_tellingMinute_82 hl (k := 9) rfl (zI_add _ _) (by decide) rfl (fun ls hl => ?_)
          refine lv_goto (tgt := 24) hx hb dX4_tellingMinute_85 (by decide) ?_
          exact ih24 (i + 1, bs, fw) ls ⟨(show 0 ≤ (i + 1) ∧ (i + 1) ≤ 31 from by omega), (show (bs, fw) = itR (c_tmS w x1 x2) (-1, c_pc (c_fk w x1 6) + 1) (i + 1) from by rw [itR_s (by omega), ← hs]; unfold c_tmS; rw [if_neg (show ¬ c_tmX w x1 x2 i < fw by unfold c_tmX; omega)]), (show c_pc (c_fk w x1 6) ≤ 0 → bs = -1 from by omega), (show -1 ≤ fw ∧ fw ≤ 7 from by omega), lv_sub hl [3, 4, 5, 6, 7, 8, 9, 0] rfl⟩ (by show (31 - (i + 1)).toNat < (31 - i).toNat; omega)
        · refine lv_iload hx hb dX4_tellingMinute_74 (lv_at hl 9 rfl) ?_
          refine lv_istore (lv' := [(5, .int (zI i)), (9, .int (zI (max (c_kt w (c_fk w x1 6) (w (9 + x1)) x2 i 6) ((c_pc (c_fk w x1 6)) - (c_kt w (c_fk w x1 6) (w (9 + x1)) x2 i 6))))), (8, .int (zI (c_kt w (c_fk w x1 6) (w (9 + x1)) x2 i 6))), (0, .ref o), (1, .int (zI x1)), (2, .int (zI x2)), (3, .int (zI (c_fk w x1 6))), (4, .int (zI (c_pc (c_fk w x1 6)))), (6, .int (zI fw)), (7, .int (zI i))]) hx hb dX4_tellingMinute_76 hl (by decide) rfl (fun ls hl => ?_)
          refine lv_iload hx hb dX4_tellingMinute_78 (lv_at hl 1 rfl) ?_
          refine lv_istore (lv' := [(6, .int (zI (max (c_kt w (c_fk w x1 6) (w (9 + x1)) x2 i 6) ((c_pc (c_fk w x1 6)) - (c_kt w (c_fk w x1 6) (w (9 + x1)) x2 i 6))))), (5, .int (zI i)), (9, .int (zI (max (c_kt w (c_fk w x1 6) (w (9 + x1)) x2 i 6) ((c_pc (c_fk w x1 6)) - (c_kt w (c_fk w x1 6) (w (9 + x1)) x2 i 6))))), (8, .int (zI (c_kt w (c_fk w x1 6) (w (9 + x1)) x2 i 6))), (0, .ref o), (1, .int (zI x1)), (2, .int (zI x2)), (3, .int (zI (c_fk w x1 6))), (4, .int (zI (c_pc (c_fk w x1 6)))), (7, .int (zI i))]) hx hb dX4_tellingMinute_80 hl (by decide) rfl (fun ls hl => ?_)
          refine lv_iinc (v := zI (i + 1)) (lv' := [(7, .int (zI (i + 1))), (6, .int (zI (max (c_kt w (c_fk w x1 6) (w (9 + x1)) x2 i 6) ((c_pc (c_fk w x1 6)) - (c_kt w (c_fk w x1 6) (w (9 + x1)) x2 i 6))))), (5, .int (zI i)), (9, .int (zI (max (c_kt w (c_fk w x1 6) (w (9 + x1)) x2 i 6) ((c_pc (c_fk w x1 6)) - (c_kt w (c_fk w x1 6) (w (9 + x1)) x2 i 6))))), (8, .int (zI (c_kt w (c_fk w x1 6) (w (9 + x1)) x2 i 6))), (0, .ref o), (1, .int (zI x1)), (2, .int (zI x2)), (3, .int (zI (c_fk w x1 6))), (4, .int (zI (c_pc (c_fk w x1 6))))]) hx hb dX4_tellingMinute_82 hl (k := 9) rfl (zI_add _ _) (by decide) rfl (fun ls hl => ?_)
          refine lv_goto (tgt := 24) hx hb dX4_tellingMinute_85 (by decide) ?_
          exact ih24 (i + 1, i, max (c_kt w (c_fk w x1 6) (w (9 + x1)) x2 i 6) ((c_pc (c_fk w x1 6)) - (c_kt w (c_fk w x1 6) (w (9 + x1)) x2 i 6))) ls ⟨(show 0 ≤ (i + 1) ∧ (i + 1) ≤ 31 from by omega), (show (i, (max (c_kt w (c_fk w x1 6) (w (9 + x1)) x2 i 6) ((c_pc (c_fk w x1 6)) - (c_kt w (c_fk w x1 6) (w (9 + x1)) x2 i 6)))) = itR (c_tmS w x1 x2) (-1, c_pc (c_fk w x1 6) + 1) (i + 1) from by rw [itR_s (by omega), ← hs]; unfold c_tmS; rw [if_pos (show c_tmX w x1 x2 i < fw by unfold c_tmX; omega)]; rfl), (show c_pc (c_fk w x1 6) ≤ 0 → i = -1 from by omega), (show -1 ≤ (max (c_kt w (c_fk w x1 6) (w (9 + x1)) x2 i 6) ((c_pc (c_fk w x1 6)) - (c_kt w (c_fk w x1 6) (w (9 + x1)) x2 i 6))) ∧ (max (c_kt w (c_fk w x1 6) (w (9 + x1)) x2 i 6) ((c_pc (c_fk w x1 6)) - (c_kt w (c_fk w x1 6) (w (9 + x1)) x2 i 6))) ≤ 7 from by omega), lv_sub hl [5, 6, 7, 8, 9, 2, 1, 0] rfl⟩ (by show (31 - (i + 1)).toNat < (31 - i).toNat; omega)
  · exact ⟨(show 0 ≤ 0 ∧ 0 ≤ 31 from by omega), (show ((-1), ((c_pc (c_fk w x1 6)) + 1)) = itR (c_tmS w x1 x2) (-1, c_pc (c_fk w x1 6) + 1) 0 from rfl), (show c_pc (c_fk w x1 6) ≤ 0 → (-1) = -1 from fun _ => rfl), (show -1 ≤ ((c_pc (c_fk w x1 6)) + 1) ∧ ((c_pc (c_fk w x1 6)) + 1) ≤ 7 from by omega), lv_sub hl [5, 6, 7, 4, 3, 2, 1, 0] rfl⟩
