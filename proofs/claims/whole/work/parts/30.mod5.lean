set_option maxHeartbeats 4000000 in
set_option maxRecDepth 100000 in
theorem kX6_isSo (l : Launch) (dC : Nat → ClassId) (dI : Nat → Nat → Nat) (g : Nat → ClassId) (tt : Nat → Nat) (q : Nat → Nat) (M : Nat → Int → Int) (x1 x2 x3 : Int) (hw : hok (M 1)) (h1 : 0 ≤ x1 ∧ x1 < M 1 0) (h2 : 0 ≤ x2 ∧ x2 ≤ 5) (h3 : 0 ≤ x3 ∧ x3 ≤ 99) : Met l yX6_isSo wsX6_isSo ({ frames := 3, cells := 0, slots := 0, locals := 68 }) (va_Pc [.ref (q 0), .int (zI x1), .int (zI x2), .int (zI x3)] (eS (dC, dI) (wTy g) (wMo g q M) tt)) (vp_Si (fun r => r = zI (bz (c_fits (M 1) x1 x2 x3 = true)))) 0 0 (fun _ => False) := by
  refine Met.ofW (cc := cX6_isSo) (maxL := 7) (ret := (some .boolean)) (by decide) rfl ?_
  intro p e s m args below meth c s₁ B hml hv
  obtain ⟨rfl, hP, hK, hT⟩ := hv
  have hx := B.exec
  have hb := B.bytes
  have hr := B.returns
  have hts := atoms_spec (ws := wsX6_isSo) B.pre
  have hown : s.vm.findClass RX6 = some m.cls := findClass_of_methodNamed B.named
  have hlocks := B.notSynchronized
  have hS : va_S (fun _ : Nat => False) s.heap s.heap [] := va_S.rf
  have hl := lv_entry ([.ref (q 0), .int (zI x1), .int (zI x2), .int (zI x3)]) (n := 7) (Nat.le_of_ble_eq_true rfl)
  rw [lg_entry_eq]
  generalize (lg_sl ([.ref (q 0), .int (zI x1), .int (zI x2), .int (zI x3)]) ++ List.replicate (7 - (lg_sl ([.ref (q 0), .int (zI x1), .int (zI x2), .int (zI x3)])).length) Slot.unset).toArray = ls at hl ⊢
  have hl : lv_has ls 7 [(0, .ref (q 0)), (1, .int (zI x1)), (2, .int (zI x2)), (3, .int (zI x3))] := hl
  have kf7 := hts (.fieldLink RX6 7 "WrongWayModel" "w" "[I") (by decide +kernel)
  have iX6 := (fun w h => List.mem_cons_of_mem _ (List.mem_append_right _ h) : ∀ w ∈ u_ws RX6 TX6 15, w ∈ wsX6_isSo)
  have hb0 := hw.b
  refine q_iconst hx hb dX6_isSo_0 ?_
  refine lv_istore (lv' := [(4, .int (zI 1)), (0, .ref (q 0)), (1, .int (zI x1)), (2, .int (zI x2)), (3, .int (zI x3))]) hx hb dX6_isSo_1 hl (by decide) rfl (fun ls hl => ?_)
  refine q_iconst hx hb dX6_isSo_3 ?_
  refine lv_istore (lv' := [(5, .int (zI 0)), (4, .int (zI 1)), (0, .ref (q 0)), (1, .int (zI x1)), (2, .int (zI x2)), (3, .int (zI x3))]) hx hb dX6_isSo_4 hl (by decide) rfl (fun ls hl => ?_)
  refine w_loopP (σ := Int × Int) (fun a9 ls => (0 ≤ a9.1 ∧ a9.1 ≤ M 1 3) ∧ (a9.2 = bz (srI (c_badN (M 1) x1 x2 x3) a9.1 0 = -1)) ∧ (0 ≤ a9.2 ∧ a9.2 ≤ 1) ∧ lv_has ls 7 [(0, .ref (q 0)), (1, .int (zI x1)), (2, .int (zI x2)), (3, .int (zI x3)), (4, .int (zI a9.2)), (5, .int (zI a9.1))]) (fun a9 => (M 1 3 - a9.1).toNat) ?_ (0, 1) ?_
  · rintro ⟨i, ok⟩ ls ⟨hi, ho, ho1, hl⟩ ih6
    have hi : 0 ≤ i ∧ i ≤ M 1 3 := hi
    have ho : ok = bz (srI (c_badN (M 1) x1 x2 x3) i 0 = -1) := ho
    have ho1 : 0 ≤ ok ∧ ok ≤ 1 := ho1
    have hl : lv_has ls 7 [(0, .ref (q 0)), (1, .int (zI x1)), (2, .int (zI x2)), (3, .int (zI x3)), (4, .int (zI ok)), (5, .int (zI i))] := hl
    refine lv_iload hx hb dX6_isSo_6 (lv_at hl 5 rfl) ?_
    refine lv_aload_n hx hb dX6_isSo_8 rfl (lv_at hl 0 rfl) ?_
    refine va_get (D := (dC, dI)) (ci := 5) (v := .ref (q 1)) (C := RX6) (T := TX6) (N := 15) hx hb hts iX6 hown hK hP 0 rfl rfl 0 (by decide) kf7 (fun _ h9 => h9) rfl dX6_isSo_9 ?_
    refine q_iconst hx hb dX6_isSo_12 ?_
    refine q_iald (F := fun k9 => M 1 k9) (v := M 1 3) hx hb hK hP 1 0 rfl rfl (by decide) (by omega) (rfl) dX6_isSo_13 ?_
    refine q_icmp_ge (tgt := 108) hx hb dX6_isSo_14 (by decide) (by omega) (fun c_1 => ?_) (fun c_1 => ?_)
    · refine lv_iload hx hb dX6_isSo_108 (lv_at hl 4 rfl) ?_
      rw [show ok = bz (c_fits (M 1) x1 x2 x3 = true) from by rw [ho]; exact bz_c (by unfold c_fits; rw [decide_eq_true_eq, show i = M 1 3 by omega])]
      exact W.zret hx hb hr bz_nar (fun t9 ht9 hW9 => ⟨_, rfl, congrArg zI (bz_c (Iff.rfl)), ht9⟩) hS.2.2 dX6_isSo_110
    · have hn0 := hw.n (k := i) (by omega) (by omega)
      have en1 : M 1 (17 + 4 * i + 1) = M 1 (18 + 4 * i) := congrArg (M 1) (by omega)
      have en2 : M 1 (17 + 4 * i + 2) = M 1 (19 + 4 * i) := congrArg (M 1) (by omega)
      have en3 : M 1 (17 + 4 * i + 3) = M 1 (20 + 4 * i) := congrArg (M 1) (by omega)
      refine q_bipush hx hb dX6_isSo_17 rfl ?_
      refine q_iconst hx hb dX6_isSo_19 ?_
      refine lv_iload hx hb dX6_isSo_20 (lv_at hl 5 rfl) ?_
      refine q_imul hx hb dX6_isSo_22 ?_
      refine q_iadd hx hb dX6_isSo_23 ?_
      refine lv_istore (lv' := [(6, .int (zI (17 + (4 * i)))), (0, .ref (q 0)), (1, .int (zI x1)), (2, .int (zI x2)), (3, .int (zI x3)), (4, .int (zI ok)), (5, .int (zI i))]) hx hb dX6_isSo_24 hl (by decide) rfl (fun ls hl => ?_)
      refine lv_iload hx hb dX6_isSo_26 (lv_at hl 5 rfl) ?_
      refine q_if_eq (tgt := 99) hx hb dX6_isSo_28 (by decide) (by omega) (fun c_2 => ?_) (fun c_2 => ?_)
      · refine q_iconst hx hb dX6_isSo_99 ?_
        refine lv_istore (lv' := [(4, .int (zI 0)), (6, .int (zI (17 + (4 * i)))), (0, .ref (q 0)), (1, .int (zI x1)), (2, .int (zI x2)), (3, .int (zI x3)), (5, .int (zI i))]) hx hb dX6_isSo_100 hl (by decide) rfl (fun ls hl => ?_)
        refine lv_iinc (v := zI (i + 1)) (lv' := [(5, .int (zI (i + 1))), (4, .int (zI 0)), (6, .int (zI (17 + (4 * i)))), (0, .ref (q 0)), (1, .int (zI x1)), (2, .int (zI x2)), (3, .int (zI x3))]) hx hb dX6_isSo_102 hl (k := 6) rfl (zI_add _ _) (by decide) rfl (fun ls hl => ?_)
        refine lv_goto (tgt := 6) hx hb dX6_isSo_105 (by decide) ?_
        exact ih6 (i + 1, 0) ls ⟨(show 0 ≤ (i + 1) ∧ (i + 1) ≤ M 1 3 from by omega), (show 0 = bz (srI (c_badN (M 1) x1 x2 x3) (i + 1) 0 = -1) from by first | exact fit_no hi.1 ho (by omega) | exact fit_y hi.1 ho (by omega) (fun h9 => by have h8 := badN_i.mp h9; omega) | exact fit_n hi.1 (badN_i.mpr (by omega))), (show 0 ≤ 0 ∧ 0 ≤ 1 from by omega), lv_sub hl [3, 4, 5, 6, 1, 0] rfl⟩ (by show (M 1 3 - (i + 1)).toNat < (M 1 3 - i).toNat; omega)
      · refine lv_aload_n hx hb dX6_isSo_31 rfl (lv_at hl 1 rfl) ?_
        refine va_get (D := (dC, dI)) (ci := 5) (v := .ref (q 1)) (C := RX6) (T := TX6) (N := 15) hx hb hts iX6 hown hK hP 0 rfl rfl 0 (by decide) kf7 (fun _ h9 => h9) rfl dX6_isSo_32 ?_
        refine lv_iload hx hb dX6_isSo_35 (lv_at hl 0 rfl) ?_
        refine q_iald (F := fun k9 => M 1 k9) (v := M 1 (17 + (4 * i))) hx hb hK hP 1 0 rfl rfl (by decide) (by omega) (rfl) dX6_isSo_37 ?_
        refine lv_iload_n hx hb dX6_isSo_38 rfl (lv_at hl 2 rfl) ?_
        refine q_icmp_ne (tgt := 95) hx hb dX6_isSo_39 (by decide) (by omega) (fun c_3 => ?_) (fun c_3 => ?_)
        · refine q_iconst hx hb dX6_isSo_95 ?_
          refine lv_goto (tgt := 100) hx hb dX6_isSo_96 (by decide) ?_
          refine lv_istore (lv' := [(4, .int (zI 1)), (6, .int (zI (17 + (4 * i)))), (0, .ref (q 0)), (1, .int (zI x1)), (2, .int (zI x2)), (3, .int (zI x3)), (5, .int (zI i))]) hx hb dX6_isSo_100 hl (by decide) rfl (fun ls hl => ?_)
          refine lv_iinc (v := zI (i + 1)) (lv' := [(5, .int (zI (i + 1))), (4, .int (zI 1)), (6, .int (zI (17 + (4 * i)))), (0, .ref (q 0)), (1, .int (zI x1)), (2, .int (zI x2)), (3, .int (zI x3))]) hx hb dX6_isSo_102 hl (k := 6) rfl (zI_add _ _) (by decide) rfl (fun ls hl => ?_)
          refine lv_goto (tgt := 6) hx hb dX6_isSo_105 (by decide) ?_
          exact ih6 (i + 1, 1) ls ⟨(show 0 ≤ (i + 1) ∧ (i + 1) ≤ M 1 3 from by omega), (show 1 = bz (srI (c_badN (M 1) x1 x2 x3) (i + 1) 0 = -1) from by first | exact fit_no hi.1 ho (by omega) | exact fit_y hi.1 ho (by omega) (fun h9 => by have h8 := badN_i.mp h9; omega) | exact fit_n hi.1 (badN_i.mpr (by omega))), (show 0 ≤ 1 ∧ 1 ≤ 1 from by omega), lv_sub hl [3, 4, 5, 6, 1, 0] rfl⟩ (by show (M 1 3 - (i + 1)).toNat < (M 1 3 - i).toNat; omega)
        · refine lv_aload_n hx hb dX6_isSo_42 rfl (lv_at hl 1 rfl) ?_
          refine lv_iload_n hx hb dX6_isSo_43 rfl (lv_at hl 3 rfl) ?_
          refine lv_iload_n hx hb dX6_isSo_44 rfl (lv_at hl 4 rfl) ?_
          refine lv_aload_n hx hb dX6_isSo_45 rfl (lv_at hl 1 rfl) ?_
          refine va_get (D := (dC, dI)) (ci := 5) (v := .ref (q 1)) (C := RX6) (T := TX6) (N := 15) hx hb hts iX6 hown hK hP 0 rfl rfl 0 (by decide) kf7 (fun _ h9 => h9) rfl dX6_isSo_46 ?_
          refine lv_iload hx hb dX6_isSo_49 (lv_at hl 0 rfl) ?_
          refine q_iconst hx hb dX6_isSo_51 ?_
          refine q_iadd hx hb dX6_isSo_52 ?_
          refine q_iald (F := fun k9 => M 1 k9) (v := M 1 ((17 + (4 * i)) + 2)) hx hb hK hP 1 0 rfl rfl (by decide) (by omega) (rfl) dX6_isSo_53 ?_
          refine q_cVi (z := c_floor x2 (M 1 1) x3 (M 1 ((17 + (4 * i)) + 2))) (b := (q 0)) (As := [.int (zI x2), .int (zI x3), .int (zI (M 1 ((17 + (4 * i)) + 2)))]) (rest := []) ⟨hx, hb, hml, hown, hts⟩ (kX6_floorOf l dC dI g tt q M x2 x3 (M 1 ((17 + (4 * i)) + 2)) (hw) (by omega) (by omega) (by omega)) (cwV 3 hts gX6_isSo_X6_floorOf rfl rfl rfl (by decide +kernel) ⟨Nat.le_of_ble_eq_true rfl, Nat.le_of_ble_eq_true rfl⟩) hP hK hT hS 0 5 rfl rfl rfl rfl hl.1 rfl (Nat.le_of_ble_eq_true rfl) dX6_isSo_54 ⟨Nat.le_of_ble_eq_true rfl, Nat.le_of_ble_eq_true rfl⟩ ?_
          have := c_floor_r x2 (t := M 1 1) (b := x3) (m := (M 1 ((17 + (4 * i)) + 2))) (by omega) (by omega) (by omega)
          refine lv_aload_n hx hb dX6_isSo_57 rfl (lv_at hl 1 rfl) ?_
          refine va_get (D := (dC, dI)) (ci := 5) (v := .ref (q 1)) (C := RX6) (T := TX6) (N := 15) hx hb hts iX6 hown hK hP 0 rfl rfl 0 (by decide) kf7 (fun _ h9 => h9) rfl dX6_isSo_58 ?_
          refine lv_iload hx hb dX6_isSo_61 (lv_at hl 0 rfl) ?_
          refine q_iconst hx hb dX6_isSo_63 ?_
          refine q_iadd hx hb dX6_isSo_64 ?_
          refine q_iald (F := fun k9 => M 1 k9) (v := M 1 ((17 + (4 * i)) + 1)) hx hb hK hP 1 0 rfl rfl (by decide) (by omega) (rfl) dX6_isSo_65 ?_
          refine q_icmp_ne (tgt := 73) hx hb dX6_isSo_66 (by decide) (by omega) (fun c_4 => ?_) (fun c_4 => ?_)
          · refine q_iconst hx hb dX6_isSo_73 ?_
            refine lv_aload_n hx hb dX6_isSo_74 rfl (lv_at hl 1 rfl) ?_
            refine va_get (D := (dC, dI)) (ci := 5) (v := .ref (q 1)) (C := RX6) (T := TX6) (N := 15) hx hb hts iX6 hown hK hP 0 rfl rfl 0 (by decide) kf7 (fun _ h9 => h9) rfl dX6_isSo_75 ?_
            refine lv_iload hx hb dX6_isSo_78 (lv_at hl 0 rfl) ?_
            refine q_iconst hx hb dX6_isSo_80 ?_
            refine q_iadd hx hb dX6_isSo_81 ?_
            refine q_iald (F := fun k9 => M 1 k9) (v := M 1 ((17 + (4 * i)) + 3)) hx hb hK hP 1 0 rfl rfl (by decide) (by omega) (rfl) dX6_isSo_82 ?_
            refine q_iconst hx hb dX6_isSo_83 ?_
            refine q_icmp_ne (tgt := 91) hx hb dX6_isSo_84 (by decide) (by omega) (fun c_5 => ?_) (fun c_5 => ?_)
            · refine q_iconst hx hb dX6_isSo_91 ?_
              refine q_icmp_ne (tgt := 99) hx hb dX6_isSo_92 (by decide) (by decide) (fun h9 => absurd (by decide) h9) (fun h9 => ?_)
              refine q_iconst hx hb dX6_isSo_95 ?_
              refine lv_goto (tgt := 100) hx hb dX6_isSo_96 (by decide) ?_
              refine lv_istore (lv' := [(4, .int (zI 1)), (6, .int (zI (17 + (4 * i)))), (0, .ref (q 0)), (1, .int (zI x1)), (2, .int (zI x2)), (3, .int (zI x3)), (5, .int (zI i))]) hx hb dX6_isSo_100 hl (by decide) rfl (fun ls hl => ?_)
              refine lv_iinc (v := zI (i + 1)) (lv' := [(5, .int (zI (i + 1))), (4, .int (zI 1)), (6, .int (zI (17 + (4 * i)))), (0, .ref (q 0)), (1, .int (zI x1)), (2, .int (zI x2)), (3, .int (zI x3))]) hx hb dX6_isSo_102 hl (k := 6) rfl (zI_add _ _) (by decide) rfl (fun ls hl => ?_)
              refine lv_goto (tgt := 6) hx hb dX6_isSo_105 (by decide) ?_
              exact ih6 (i + 1, 1) ls ⟨(show 0 ≤ (i + 1) ∧ (i + 1) ≤ M 1 3 from by omega), (show 1 = bz (srI (c_badN (M 1) x1 x2 x3) (i + 1) 0 = -1) from by first | exact fit_no hi.1 ho (by omega) | exact fit_y hi.1 ho (by omega) (fun h9 => by have h8 := badN_i.mp h9; omega) | exact fit_n hi.1 (badN_i.mpr (by omega))), (show 0 ≤ 1 ∧ 1 ≤ 1 from by omega), lv_sub hl [3, 4, 5, 6, 1, 0] rfl⟩ (by show (M 1 3 - (i + 1)).toNat < (M 1 3 - i).toNat; omega)
            · refine q_iconst hx hb dX6_isSo_87 ?_
              refine lv_goto (tgt := 92) hx hb dX6_isSo_88 (by decide) ?_
              refine q_icmp_ne (tgt := 99) hx hb dX6_isSo_92 (by decide) (by decide) (fun h9 => ?_) (fun h9 => absurd h9 (by decide))
              refine q_iconst hx hb dX6_isSo_99 ?_
              refine lv_istore (lv' := [(4, .int (zI 0)), (6, .int (zI (17 + (4 * i)))), (0, .ref (q 0)), (1, .int (zI x1)), (2, .int (zI x2)), (3, .int (zI x3)), (5, .int (zI i))]) hx hb dX6_isSo_100 hl (by decide) rfl (fun ls hl => ?_)
              refine lv_iinc (v := zI (i + 1)) (lv' := [(5, .int (zI (i + 1))), (4, .int (zI 0)), (6, .int (zI (17 + (4 * i)))), (0, .ref (q 0)), (1, .int (zI x1)), (2, .int (zI x2)), (3, .int (zI x3))]) hx hb dX6_isSo_102 hl (k := 6) rfl (zI_add _ _) (by decide) rfl (fun ls hl => ?_)
              refine lv_goto (tgt := 6) hx hb dX6_isSo_105 (by decide) ?_
              exact ih6 (i + 1, 0) ls ⟨(show 0 ≤ (i + 1) ∧ (i + 1) ≤ M 1 3 from by omega), (show 0 = bz (srI (c_badN (M 1) x1 x2 x3) (i + 1) 0 = -1) from by first | exact fit_no hi.1 ho (by omega) | exact fit_y hi.1 ho (by omega) (fun h9 => by have h8 := badN_i.mp h9; omega) | exact fit_n hi.1 (badN_i.mpr (by omega))), (show 0 ≤ 0 ∧ 0 ≤ 1 from by omega), lv_sub hl [3, 4, 5, 6, 1, 0] rfl⟩ (by show (M 1 3 - (i + 1)).toNat < (M 1 3 - i).toNat; omega)
          · refine q_iconst hx hb dX6_isSo_69 ?_
            refine lv_goto (tgt := 74) hx hb dX6_isSo_70 (by decide) ?_
            refine lv_aload_n hx hb dX6_isSo_74 rfl (lv_at hl 1 rfl) ?_
            refine va_get (D := (dC, dI)) (ci := 5) (v := .ref (q 1)) (C := RX6) (T := TX6) (N := 15) hx hb hts iX6 hown hK hP 0 rfl rfl 0 (by decide) kf7 (fun _ h9 => h9) rfl dX6_isSo_75 ?_
            refine lv_iload hx hb dX6_isSo_78 (lv_at hl 0 rfl) ?_
            refine q_iconst hx hb dX6_isSo_80 ?_
            refine q_iadd hx hb dX6_isSo_81 ?_
            refine q_iald (F := fun k9 => M 1 k9) (v := M 1 ((17 + (4 * i)) + 3)) hx hb hK hP 1 0 rfl rfl (by decide) (by omega) (rfl) dX6_isSo_82 ?_
            refine q_iconst hx hb dX6_isSo_83 ?_
            refine q_icmp_ne (tgt := 91) hx hb dX6_isSo_84 (by decide) (by omega) (fun c_6 => ?_) (fun c_6 => ?_)
            · refine q_iconst hx hb dX6_isSo_91 ?_
              refine q_icmp_ne (tgt := 99) hx hb dX6_isSo_92 (by decide) (by decide) (fun h9 => ?_) (fun h9 => absurd h9 (by decide))
              refine q_iconst hx hb dX6_isSo_99 ?_
              refine lv_istore (lv' := [(4, .int (zI 0)), (6, .int (zI (17 + (4 * i)))), (0, .ref (q 0)), (1, .int (zI x1)), (2, .int (zI x2)), (3, .int (zI x3)), (5, .int (zI i))]) hx hb dX6_isSo_100 hl (by decide) rfl (fun ls hl => ?_)
              refine lv_iinc (v := zI (i + 1)) (lv' := [(5, .int (zI (i + 1))), (4, .int (zI 0)), (6, .int (zI (17 + (4 * i)))), (0, .ref (q 0)), (1, .int (zI x1)), (2, .int (zI x2)), (3, .int (zI x3))]) hx hb dX6_isSo_102 hl (k := 6) rfl (zI_add _ _) (by decide) rfl (fun ls hl => ?_)
              refine lv_goto (tgt := 6) hx hb dX6_isSo_105 (by decide) ?_
              exact ih6 (i + 1, 0) ls ⟨(show 0 ≤ (i + 1) ∧ (i + 1) ≤ M 1 3 from by omega), (show 0 = bz (srI (c_badN (M 1) x1 x2 x3) (i + 1) 0 = -1) from by first | exact fit_no hi.1 ho (by omega) | exact fit_y hi.1 ho (by omega) (fun h9 => by have h8 := badN_i.mp h9; omega) | exact fit_n hi.1 (badN_i.mpr (by omega))), (show 0 ≤ 0 ∧ 0 ≤ 1 from by omega), lv_sub hl [3, 4, 5, 6, 1, 0] rfl⟩ (by show (M 1 3 - (i + 1)).toNat < (M 1 3 - i).toNat; omega)
            · refine q_iconst hx hb dX6_isSo_87 ?_
              refine lv_goto (tgt := 92) hx hb dX6_isSo_88 (by decide) ?_
              refine q_icmp_ne (tgt := 99) hx hb dX6_isSo_92 (by decide) (by decide) (fun h9 => absurd (by decide) h9) (fun h9 => ?_)
              refine q_iconst hx hb dX6_isSo_95 ?_
              refine lv_goto (tgt := 100) hx hb dX6_isSo_96 (by decide) ?_
              refine lv_istore (lv' := [(4, .int (zI 1)), (6, .int (zI (17 + (4 * i)))), (0, .ref (q 0)), (1, .int (zI x1)), (2, .int (zI x2)), (3, .int (zI x3)), (5, .int (zI i))]) hx hb dX6_isSo_100 hl (by decide) rfl (fun ls hl => ?_)
              refine lv_iinc (v := zI (i + 1)) (lv' := [(5, .int (zI (i + 1))), (4, .int (zI 1)), (6, .int (zI (17 + (4 * i)))), (0, .ref (q 0)), (1, .int (zI x1)), (2, .int (zI x2)), (3, .int (zI x3))]) hx hb dX6_isSo_102 hl (k := 6) rfl (zI_add _ _) (by decide) rfl (fun ls hl => ?_)
              refine lv_goto (tgt := 6) hx hb dX6_isSo_105 (by decide) ?_
              exact ih6 (i + 1, 1) ls ⟨(show 0 ≤ (i + 1) ∧ (i + 1) ≤ M 1 3 from by omega), (show 1 = bz (srI (c_badN (M 1) x1 x2 x3) (i + 1) 0 = -1) from by first | exact fit_no hi.1 ho (by omega) | exact fit_y hi.1 ho (by omega) (fun h9 => by have h8 := badN_i.mp h9; omega) | exact fit_n hi.1 (badN_i.mpr (by omega))), (show 0 ≤ 1 ∧ 1 ≤ 1 from by omega), lv_sub hl [3, 4, 5, 6, 1, 0] rfl⟩ (by show (M 1 3 - (i + 1)).toNat < (M 1 3 - i).toNat; omega)
  · exact ⟨(show 0 ≤ 0 ∧ 0 ≤ M 1 3 from by omega), (show 1 = bz (srI (c_badN (M 1) x1 x2 x3) 0 0 = -1) from (bz_t rfl).symm), (show 0 ≤ 1 ∧ 1 ≤ 1 from by omega), lv_sub hl [2, 3, 4, 5, 1, 0] rfl⟩
set_option maxHeartbeats 4000000 in
set_option maxRecDepth 100000 in
theorem kX6_kindsOf (l : Launch) (dC : Nat → ClassId) (dI : Nat → Nat → Nat) (g : Nat → ClassId) (tt : Nat → Nat) (q : Nat → Nat) (M : Nat → Int → Int) (x1 : Int) (hw : hok (M 1)) (h1 : 0 ≤ x1 ∧ x1 < M 1 0) : Met l yX6_kindsOf wsX6_kindsOf ({ frames := 4, cells := 0, slots := 0, locals := 94 }) (va_Pc [.ref (q 0), .int (zI x1)] (eS (dC, dI) (wTy g) (wMo g q M) tt)) (vp_Si (fun r => r = zI (c_fk (M 1) x1 6))) 0 0 (fun _ => False) := by
  refine Met.ofW (cc := cX6_kindsOf) (maxL := 4) (ret := (some .int)) (by decide) rfl ?_
  intro p e s m args below meth c s₁ B hml hv
  obtain ⟨rfl, hP, hK, hT⟩ := hv
  have hx := B.exec
  have hb := B.bytes
  have hr := B.returns
  have hts := atoms_spec (ws := wsX6_kindsOf) B.pre
  have hown : s.vm.findClass RX6 = some m.cls := findClass_of_methodNamed B.named
  have hlocks := B.notSynchronized
  have hS : va_S (fun _ : Nat => False) s.heap s.heap [] := va_S.rf
  have hl := lv_entry ([.ref (q 0), .int (zI x1)]) (n := 4) (Nat.le_of_ble_eq_true rfl)
  rw [lg_entry_eq]
  generalize (lg_sl ([.ref (q 0), .int (zI x1)]) ++ List.replicate (4 - (lg_sl ([.ref (q 0), .int (zI x1)])).length) Slot.unset).toArray = ls at hl ⊢
  have hl : lv_has ls 4 [(0, .ref (q 0)), (1, .int (zI x1))] := hl
  have kf7 := hts (.fieldLink RX6 7 "WrongWayModel" "w" "[I") (by decide +kernel)
  have iX6 := (fun w h => List.mem_cons_of_mem _ (List.mem_append_right _ h) : ∀ w ∈ u_ws RX6 TX6 15, w ∈ wsX6_kindsOf)
  have hb0 := hw.b
  have hk0 := hw.k h1.1 h1.2
  refine q_iconst hx hb dX6_kindsOf_0 ?_
  refine lv_istore_n (lv' := [(2, .int (zI 0)), (0, .ref (q 0)), (1, .int (zI x1))]) hx hb dX6_kindsOf_1 rfl hl (by decide) rfl (fun ls hl => ?_)
  refine q_iconst hx hb dX6_kindsOf_2 ?_
  refine lv_istore_n (lv' := [(3, .int (zI 0)), (2, .int (zI 0)), (0, .ref (q 0)), (1, .int (zI x1))]) hx hb dX6_kindsOf_3 rfl hl (by decide) rfl (fun ls hl => ?_)
  refine w_loopP (σ := Int × Int) (fun a9 ls => (0 ≤ a9.1 ∧ a9.1 ≤ 6) ∧ (a9.2 = c_fk (M 1) x1 a9.1) ∧ lv_has ls 4 [(0, .ref (q 0)), (1, .int (zI x1)), (2, .int (zI a9.2)), (3, .int (zI a9.1))]) (fun a9 => (6 - a9.1).toNat) ?_ (0, 0) ?_
  · rintro ⟨i, b⟩ ls ⟨hi, hbv, hl⟩ ih4
    have hi : 0 ≤ i ∧ i ≤ 6 := hi
    have hbv : b = c_fk (M 1) x1 i := hbv
    have hl : lv_has ls 4 [(0, .ref (q 0)), (1, .int (zI x1)), (2, .int (zI b)), (3, .int (zI i))] := hl
    refine lv_iload_n hx hb dX6_kindsOf_4 rfl (lv_at hl 3 rfl) ?_
    refine q_iconst hx hb dX6_kindsOf_5 ?_
    refine q_icmp_gt (tgt := 43) hx hb dX6_kindsOf_6 (by decide) (by omega) (fun c_1 => ?_) (fun c_1 => ?_)
    · refine lv_iload_n hx hb dX6_kindsOf_43 rfl (lv_at hl 2 rfl) ?_
      exact W.iret hx hb hr (fun t9 ht9 hW9 => ⟨_, rfl, congrArg zI (show b = c_fk (M 1) x1 6 from by rw [hbv, show i = 6 by omega]), ht9⟩) hS.2.2 dX6_kindsOf_44
    · refine lv_iload_n hx hb dX6_kindsOf_9 rfl (lv_at hl 2 rfl) ?_
      refine lv_aload_n hx hb dX6_kindsOf_10 rfl (lv_at hl 0 rfl) ?_
      refine lv_iload_n hx hb dX6_kindsOf_11 rfl (lv_at hl 1 rfl) ?_
      refine lv_iload_n hx hb dX6_kindsOf_12 rfl (lv_at hl 3 rfl) ?_
      refine lv_aload_n hx hb dX6_kindsOf_13 rfl (lv_at hl 0 rfl) ?_
      refine va_get (D := (dC, dI)) (ci := 5) (v := .ref (q 1)) (C := RX6) (T := TX6) (N := 15) hx hb hts iX6 hown hK hP 0 rfl rfl 0 (by decide) kf7 (fun _ h9 => h9) rfl dX6_kindsOf_14 ?_
      refine q_bipush hx hb dX6_kindsOf_17 rfl ?_
      refine lv_iload_n hx hb dX6_kindsOf_19 rfl (lv_at hl 1 rfl) ?_
      refine q_iadd hx hb dX6_kindsOf_20 ?_
      refine q_iald (F := fun k9 => M 1 k9) (v := M 1 (9 + x1)) hx hb hK hP 1 0 rfl rfl (by decide) (by omega) (rfl) dX6_kindsOf_21 ?_
      refine q_cVi (z := bz (c_fits (M 1) x1 i (M 1 (9 + x1)) = true)) (b := (q 0)) (As := [.int (zI x1), .int (zI i), .int (zI (M 1 (9 + x1)))]) (rest := [.int (zI b)]) ⟨hx, hb, hml, hown, hts⟩ (kX6_isSo l dC dI g tt q M x1 i (M 1 (9 + x1)) (hw) (by omega) (by omega) (by omega)) (cwV 3 hts gX6_kindsOf_X6_isSo rfl rfl rfl (by decide +kernel) ⟨Nat.le_of_ble_eq_true rfl, Nat.le_of_ble_eq_true rfl⟩) hP hK hT hS 0 5 rfl rfl rfl rfl hl.1 rfl (Nat.le_of_ble_eq_true rfl) dX6_kindsOf_22 ⟨Nat.le_of_ble_eq_true rfl, Nat.le_of_ble_eq_true rfl⟩ ?_
      refine q_bz_eq (tgt := 34) hx hb dX6_kindsOf_25 (by decide) (fun c_2 => ?_) (fun c_2 => ?_)
      · refine q_iconst hx hb dX6_kindsOf_34 ?_
        refine q_ior (z := b) hx hb dX6_kindsOf_35 (zI_or0 _) ?_
        refine lv_istore_n (lv' := [(2, .int (zI b)), (0, .ref (q 0)), (1, .int (zI x1)), (3, .int (zI i))]) hx hb dX6_kindsOf_36 rfl hl (by decide) rfl (fun ls hl => ?_)
        refine lv_iinc (v := zI (i + 1)) (lv' := [(3, .int (zI (i + 1))), (2, .int (zI b)), (0, .ref (q 0)), (1, .int (zI x1))]) hx hb dX6_kindsOf_37 hl (k := 3) rfl (zI_add _ _) (by decide) rfl (fun ls hl => ?_)
        refine lv_goto (tgt := 4) hx hb dX6_kindsOf_40 (by decide) ?_
        exact ih4 (i + 1, b) ls ⟨(show 0 ≤ (i + 1) ∧ (i + 1) ≤ 6 from by omega), (show b = c_fk (M 1) x1 (i + 1) from by rw [c_fk_s (by omega), if_neg c_2]; omega), lv_sub hl [2, 3, 1, 0] rfl⟩ (by show (6 - (i + 1)).toNat < (6 - i).toNat; omega)
      · refine q_iconst hx hb dX6_kindsOf_28 ?_
        refine lv_iload_n hx hb dX6_kindsOf_29 rfl (lv_at hl 3 rfl) ?_
        refine q_ishl (z := 2 ^ (i).toNat) hx hb dX6_kindsOf_30 (zI_shl1 (by omega)) ?_
        refine lv_goto (tgt := 35) hx hb dX6_kindsOf_31 (by decide) ?_
        refine q_ior (z := b + 2 ^ (i).toNat) hx hb dX6_kindsOf_35 (zI_or6 (by rw [hbv]; exact c_fk_r (by omega)) (by omega)) ?_
        refine lv_istore_n (lv' := [(2, .int (zI (b + 2 ^ (i).toNat))), (0, .ref (q 0)), (1, .int (zI x1)), (3, .int (zI i))]) hx hb dX6_kindsOf_36 rfl hl (by decide) rfl (fun ls hl => ?_)
        refine lv_iinc (v := zI (i + 1)) (lv' := [(3, .int (zI (i + 1))), (2, .int (zI (b + 2 ^ (i).toNat))), (0, .ref (q 0)), (1, .int (zI x1))]) hx hb dX6_kindsOf_37 hl (k := 3) rfl (zI_add _ _) (by decide) rfl (fun ls hl => ?_)
        refine lv_goto (tgt := 4) hx hb dX6_kindsOf_40 (by decide) ?_
        exact ih4 (i + 1, b + 2 ^ (i).toNat) ls ⟨(show 0 ≤ (i + 1) ∧ (i + 1) ≤ 6 from by omega), (show (b + 2 ^ (i).toNat) = c_fk (M 1) x1 (i + 1) from by rw [c_fk_s (by omega), if_pos c_2]; omega), lv_sub hl [2, 3, 1, 0] rfl⟩ (by show (6 - (i + 1)).toNat < (6 - i).toNat; omega)
  · exact ⟨(show 0 ≤ 0 ∧ 0 ≤ 6 from by omega), (show 0 = c_fk (M 1) x1 0 from rfl), lv_sub hl [2, 3, 1, 0] rfl⟩
set_option maxHeartbeats 4000000 in
set_option maxRecDepth 100000 in
theorem kX6_is (l : Launch) (dC : Nat → ClassId) (dI : Nat → Nat → Nat) (g : Nat → ClassId) (tt : Nat → Nat) (sz : Nat) (q : Nat → Nat) (M : Nat → Int → Int) (x1 x2 : Int) (hw : hok (M 1)) (h1 : rI x1 ∧ rI x2) : Met l yX6_is wsX6_is ({ frames := 5, cells := 0, slots := 0, locals := 117 }) (va_Pc [.ref (q 0), .int (zI x1), .int (zI x2)] (eQ (dC, dI) (wTy g) (wMo g q M) tt sz)) (va_Qi (fun r (_ : Unit) => r = zI (ca_is (M 1) x1 x2)) (fQ (dC, dI) (wTy g) (va_A (wMo g q M) sz) (wMo g q (m_is M x1 x2))) (va_A (wMo g q M) sz)) 0 0 (va_A (wMo g q M) sz) := by
  refine Met.ofW (cc := cX6_is) (maxL := 5) (ret := (some .int)) (by decide) rfl ?_
  intro p e s m args below meth c s₁ B hml hv
  obtain ⟨rfl, hsz, hP, hK, hD0, hT⟩ := hv
  have hx := B.exec
  have hb := B.bytes
  have hr := B.returns
  have hts := atoms_spec (ws := wsX6_is) B.pre
  have hown : s.vm.findClass RX6 = some m.cls := findClass_of_methodNamed B.named
  have hlocks := B.notSynchronized
  subst hsz
  have hD := hD0.self (sz := s.heap.size)
  generalize hAe : va_A (wMo g q M) s.heap.size = A at hD hT ⊢
  have hA : ∀ q : Nat, s.heap.size ≤ q → A q := fun q h => by rw [← hAe]; exact Or.inr h
  have hS : va_S A s.heap s.heap [] := va_S.rf
  have hl := lv_entry ([.ref (q 0), .int (zI x1), .int (zI x2)]) (n := 5) (Nat.le_of_ble_eq_true rfl)
  rw [lg_entry_eq]
  generalize (lg_sl ([.ref (q 0), .int (zI x1), .int (zI x2)]) ++ List.replicate (5 - (lg_sl ([.ref (q 0), .int (zI x1), .int (zI x2)])).length) Slot.unset).toArray = ls at hl ⊢
  have hl : lv_has ls 5 [(0, .ref (q 0)), (1, .int (zI x1)), (2, .int (zI x2))] := hl
  have kf7 := hts (.fieldLink RX6 7 "WrongWayModel" "w" "[I") (by decide +kernel)
  have iX6 := (fun w h => List.mem_cons_of_mem _ (List.mem_append_right _ h) : ∀ w ∈ u_ws RX6 TX6 15, w ∈ wsX6_is)
  have hb0 := hw.b
  refine lv_aload_n hx hb dX6_is_0 rfl (lv_at hl 0 rfl) ?_
  refine lv_iload_n hx hb dX6_is_1 rfl (lv_at hl 1 rfl) ?_
  refine q_cVi (z := bz (0 ≤ x1 ∧ x1 ≤ M 1 0 - 1)) (b := (q 0)) (As := [.int (zI x1)]) (rest := []) ⟨hx, hb, hml, hown, hts⟩ (kX6_isLift l dC dI g tt q M x1 (hw) (by omega)) (cwV 1 hts gX6_is_X6_isLift rfl rfl rfl (by decide +kernel) ⟨Nat.le_of_ble_eq_true rfl, Nat.le_of_ble_eq_true rfl⟩) hP hK hT hS 0 5 rfl rfl rfl rfl hl.1 rfl (Nat.le_of_ble_eq_true rfl) dX6_is_2 ⟨Nat.le_of_ble_eq_true rfl, Nat.le_of_ble_eq_true rfl⟩ ?_
  refine q_bz_eq (tgt := 18) hx hb dX6_is_5 (by decide) (fun c_1 => ?_) (fun c_1 => ?_)
  · refine lv_aload_n hx hb dX6_is_18 rfl (lv_at hl 0 rfl) ?_
    refine q_cEi (z := -2) (b := (q 0)) (As := []) (rest := []) (w1 := wMo g q (mbad M)) ⟨hx, hb, hml, hown, hts⟩ hP hD hK hT hS hA (kX6_bad l dC dI g tt _ q M) (cwV 0 hts gX6_is_X6_bad rfl rfl rfl (by decide +kernel) ⟨Nat.le_of_ble_eq_true rfl, Nat.le_of_ble_eq_true rfl⟩) 0 5 rfl rfl rfl rfl hl.1 rfl (Nat.le_of_ble_eq_true rfl) dX6_is_19 ⟨Nat.le_of_ble_eq_true rfl, Nat.le_of_ble_eq_true rfl⟩ (fun H locs hP hD hS => ?_)
    have hPf : va_P (dC, dI) vwCl (wMo g q (m_is M x1 x2)) H := by rw [(show (m_is M x1 x2) = mbad M from by unfold m_is; (repeat' split) <;> first | rfl | (exfalso; omega))]; exact hP
    have hDf : va_D A (wMo g q (m_is M x1 x2)) := by rw [(show (m_is M x1 x2) = mbad M from by unfold m_is; (repeat' split) <;> first | rfl | (exfalso; omega))]; exact hD
    exact W.iret hx hb hr (fun t9 ht9 hW9 => ⟨⟨_, (), rfl, congrArg zI (show -2 = ca_is (M 1) x1 x2 from by unfold ca_is; first | (rw [if_neg (by omega)]; done) | (rw [if_pos (by omega), if_pos (by omega)]; done) | (rw [if_pos (by omega), if_neg (by omega), hn, show i = 100 by omega]; rfl)), by rw [ht9]; exact hPf, va_K.moved hW9.alike hK, hDf⟩, hS.F ht9⟩) hS.2.2 dX6_is_22
  · refine lv_iload_n hx hb dX6_is_8 rfl (lv_at hl 2 rfl) ?_
    refine q_i2l hx hb dX6_is_9 (by omega) ?_
    refine q_lconst hx hb 0 dX6_is_10 rfl ?_
    refine q_lconst hx hb 1 dX6_is_11 rfl ?_
    refine q_cSi (z := bz (0 ≤ x2 ∧ x2 ≤ 1)) (As := [.long (zL x2), .long (zL 0), .long (zL 1)]) (rest := []) ⟨hx, hb, hml, hown, hts⟩ (kX6_in l dC dI g tt x2 0 1 (by omega)) (va_cwS 3 hts gX6_is_X6_in rfl rfl rfl (by decide +kernel) ⟨Nat.le_of_ble_eq_true rfl, Nat.le_of_ble_eq_true rfl⟩) (hP.sub (ws' := []) [] rfl) hK hT hS rfl hl.1 rfl (Nat.le_of_ble_eq_true rfl) dX6_is_12 ⟨Nat.le_of_ble_eq_true rfl, Nat.le_of_ble_eq_true rfl⟩ ?_
    refine q_bz_ne (tgt := 23) hx hb dX6_is_15 (by decide) (fun c_2 => ?_) (fun c_2 => ?_)
    · refine lv_iload_n hx hb dX6_is_23 rfl (lv_at hl 2 rfl) ?_
      refine q_if_ne (tgt := 33) hx hb dX6_is_24 (by decide) (by omega) (fun c_3 => ?_) (fun c_3 => ?_)
      · have hk0 := hw.k (k := x1) (by omega) (by omega)
        refine q_iconst hx hb dX6_is_33 ?_
        refine lv_istore_n (lv' := [(3, .int (zI 0)), (0, .ref (q 0)), (1, .int (zI x1)), (2, .int (zI x2))]) hx hb dX6_is_34 rfl hl (by decide) rfl (fun ls hl => ?_)
        refine q_iconst hx hb dX6_is_35 ?_
        refine lv_istore (lv' := [(4, .int (zI 0)), (3, .int (zI 0)), (0, .ref (q 0)), (1, .int (zI x1)), (2, .int (zI x2))]) hx hb dX6_is_36 hl (by decide) rfl (fun ls hl => ?_)
        refine w_loopP (σ := Int × Int) (fun a9 ls => (0 ≤ a9.1 ∧ a9.1 ≤ 100) ∧ (a9.2 = sumR (c_fsF (M 1) x1) a9.1) ∧ (0 ≤ a9.2 ∧ a9.2 ≤ a9.1) ∧ lv_has ls 5 [(0, .ref (q 0)), (1, .int (zI x1)), (2, .int (zI x2)), (3, .int (zI a9.2)), (4, .int (zI a9.1))]) (fun a9 => (100 - a9.1).toNat) ?_ (0, 0) ?_
        · rintro ⟨i, cn⟩ ls ⟨hi, hn, hcn, hl⟩ ih38
          have hi : 0 ≤ i ∧ i ≤ 100 := hi
          have hn : cn = sumR (c_fsF (M 1) x1) i := hn
          have hcn : 0 ≤ cn ∧ cn ≤ i := hcn
          have hl : lv_has ls 5 [(0, .ref (q 0)), (1, .int (zI x1)), (2, .int (zI x2)), (3, .int (zI cn)), (4, .int (zI i))] := hl
          refine lv_iload hx hb dX6_is_38 (lv_at hl 4 rfl) ?_
          refine q_bipush hx hb dX6_is_40 rfl ?_
          refine q_icmp_ge (tgt := 77) hx hb dX6_is_42 (by decide) (by omega) (fun c_4 => ?_) (fun c_4 => ?_)
          · refine lv_iload_n hx hb dX6_is_77 rfl (lv_at hl 3 rfl) ?_
            have hPf : va_P (dC, dI) vwCl (wMo g q (m_is M x1 x2)) s.heap := by rw [(show (m_is M x1 x2) = M from by unfold m_is; (repeat' split) <;> first | rfl | (exfalso; omega))]; exact hP
            have hDf : va_D A (wMo g q (m_is M x1 x2)) := by rw [(show (m_is M x1 x2) = M from by unfold m_is; (repeat' split) <;> first | rfl | (exfalso; omega))]; exact hD
            exact W.iret hx hb hr (fun t9 ht9 hW9 => ⟨⟨_, (), rfl, congrArg zI (show cn = ca_is (M 1) x1 x2 from by unfold ca_is; first | (rw [if_neg (by omega)]; done) | (rw [if_pos (by omega), if_pos (by omega)]; done) | (rw [if_pos (by omega), if_neg (by omega), hn, show i = 100 by omega]; rfl)), by rw [ht9]; exact hPf, va_K.moved hW9.alike hK, hDf⟩, hS.F ht9⟩) hS.2.2 dX6_is_78
          · refine lv_iload_n hx hb dX6_is_45 rfl (lv_at hl 3 rfl) ?_
            refine lv_aload_n hx hb dX6_is_46 rfl (lv_at hl 0 rfl) ?_
            refine lv_iload_n hx hb dX6_is_47 rfl (lv_at hl 1 rfl) ?_
            refine lv_aload_n hx hb dX6_is_48 rfl (lv_at hl 0 rfl) ?_
            refine va_get (D := (dC, dI)) (ci := 5) (v := .ref (q 1)) (C := RX6) (T := TX6) (N := 15) hx hb hts iX6 hown hK hP 0 rfl rfl 0 (by decide) kf7 (fun _ h9 => h9) rfl dX6_is_49 ?_
            refine q_iconst hx hb dX6_is_52 ?_
            refine lv_iload_n hx hb dX6_is_53 rfl (lv_at hl 1 rfl) ?_
            refine q_iadd hx hb dX6_is_54 ?_
            refine q_iald (F := fun k9 => M 1 k9) (v := M 1 (5 + x1)) hx hb hK hP 1 0 rfl rfl (by decide) (by omega) (rfl) dX6_is_55 ?_
            refine lv_iload hx hb dX6_is_56 (lv_at hl 4 rfl) ?_
            refine q_cVi (z := bz (c_fits (M 1) x1 (M 1 (5 + x1)) i = true)) (b := (q 0)) (As := [.int (zI x1), .int (zI (M 1 (5 + x1))), .int (zI i)]) (rest := [.int (zI cn)]) ⟨hx, hb, hml, hown, hts⟩ (kX6_isSo l dC dI g tt q M x1 (M 1 (5 + x1)) i (hw) (by omega) (by omega) (by omega)) (cwV 3 hts gX6_is_X6_isSo rfl rfl rfl (by decide +kernel) ⟨Nat.le_of_ble_eq_true rfl, Nat.le_of_ble_eq_true rfl⟩) hP hK hT hS 0 5 rfl rfl rfl rfl hl.1 rfl (Nat.le_of_ble_eq_true rfl) dX6_is_58 ⟨Nat.le_of_ble_eq_true rfl, Nat.le_of_ble_eq_true rfl⟩ ?_
            refine q_bz_eq (tgt := 68) hx hb dX6_is_61 (by decide) (fun c_5 => ?_) (fun c_5 => ?_)
            · refine q_iconst hx hb dX6_is_68 ?_
              refine q_iadd hx hb dX6_is_69 ?_
              refine lv_istore_n (lv' := [(3, .int (zI (cn + 0))), (0, .ref (q 0)), (1, .int (zI x1)), (2, .int (zI x2)), (4, .int (zI i))]) hx hb dX6_is_70 rfl hl (by decide) rfl (fun ls hl => ?_)
              refine lv_iinc (v := zI (i + 1)) (lv' := [(4, .int (zI (i + 1))), (3, .int (zI (cn + 0))), (0, .ref (q 0)), (1, .int (zI x1)), (2, .int (zI x2))]) hx hb dX6_is_71 hl (k := 4) rfl (zI_add _ _) (by decide) rfl (fun ls hl => ?_)
              refine lv_goto (tgt := 38) hx hb dX6_is_74 (by decide) ?_
              exact ih38 (i + 1, cn + 0) ls ⟨(show 0 ≤ (i + 1) ∧ (i + 1) ≤ 100 from by omega), (show (cn + 0) = sumR (c_fsF (M 1) x1) (i + 1) from by rw [sumR_s (by omega), c_fsF, bz_f c_5]; omega), (show 0 ≤ (cn + 0) ∧ (cn + 0) ≤ (i + 1) from by omega), lv_sub hl [2, 3, 4, 1, 0] rfl⟩ (by show (100 - (i + 1)).toNat < (100 - i).toNat; omega)
            · refine q_iconst hx hb dX6_is_64 ?_
              refine lv_goto (tgt := 69) hx hb dX6_is_65 (by decide) ?_
              refine q_iadd hx hb dX6_is_69 ?_
              refine lv_istore_n (lv' := [(3, .int (zI (cn + 1))), (0, .ref (q 0)), (1, .int (zI x1)), (2, .int (zI x2)), (4, .int (zI i))]) hx hb dX6_is_70 rfl hl (by decide) rfl (fun ls hl => ?_)
              refine lv_iinc (v := zI (i + 1)) (lv' := [(4, .int (zI (i + 1))), (3, .int (zI (cn + 1))), (0, .ref (q 0)), (1, .int (zI x1)), (2, .int (zI x2))]) hx hb dX6_is_71 hl (k := 4) rfl (zI_add _ _) (by decide) rfl (fun ls hl => ?_)
              refine lv_goto (tgt := 38) hx hb dX6_is_74 (by decide) ?_
              exact ih38 (i + 1, cn + 1) ls ⟨(show 0 ≤ (i + 1) ∧ (i + 1) ≤ 100 from by omega), (show (cn + 1) = sumR (c_fsF (M 1) x1) (i + 1) from by rw [sumR_s (by omega), c_fsF, bz_t c_5]; omega), (show 0 ≤ (cn + 1) ∧ (cn + 1) ≤ (i + 1) from by omega), lv_sub hl [2, 3, 4, 1, 0] rfl⟩ (by show (100 - (i + 1)).toNat < (100 - i).toNat; omega)
        · exact ⟨(show 0 ≤ 0 ∧ 0 ≤ 100 from by omega), (show 0 = sumR (c_fsF (M 1) x1) 0 from rfl), (show 0 ≤ 0 ∧ 0 ≤ 0 from by omega), lv_sub hl [2, 3, 4, 1, 0] rfl⟩
      · refine lv_aload_n hx hb dX6_is_27 rfl (lv_at hl 0 rfl) ?_
        refine lv_iload_n hx hb dX6_is_28 rfl (lv_at hl 1 rfl) ?_
        refine q_cVi (z := c_fk (M 1) x1 6) (b := (q 0)) (As := [.int (zI x1)]) (rest := []) ⟨hx, hb, hml, hown, hts⟩ (kX6_kindsOf l dC dI g tt q M x1 (hw) (by omega)) (cwV 1 hts gX6_is_X6_kindsOf rfl rfl rfl (by decide +kernel) ⟨Nat.le_of_ble_eq_true rfl, Nat.le_of_ble_eq_true rfl⟩) hP hK hT hS 0 5 rfl rfl rfl rfl hl.1 rfl (Nat.le_of_ble_eq_true rfl) dX6_is_29 ⟨Nat.le_of_ble_eq_true rfl, Nat.le_of_ble_eq_true rfl⟩ ?_
        have := c_fk_64 (M 1) x1
        have hPf : va_P (dC, dI) vwCl (wMo g q (m_is M x1 x2)) s.heap := by rw [(show (m_is M x1 x2) = M from by unfold m_is; (repeat' split) <;> first | rfl | (exfalso; omega))]; exact hP
        have hDf : va_D A (wMo g q (m_is M x1 x2)) := by rw [(show (m_is M x1 x2) = M from by unfold m_is; (repeat' split) <;> first | rfl | (exfalso; omega))]; exact hD
        exact W.iret hx hb hr (fun t9 ht9 hW9 => ⟨⟨_, (), rfl, congrArg zI (show c_fk (M 1) x1 6 = ca_is (M 1) x1 x2 from by unfold ca_is; first | (rw [if_neg (by omega)]; done) | (rw [if_pos (by omega), if_pos (by omega)]; done) | (rw [if_pos (by omega), if_neg (by omega), hn, show i = 100 by omega]; rfl)), by rw [ht9]; exact hPf, va_K.moved hW9.alike hK, hDf⟩, hS.F ht9⟩) hS.2.2 dX6_is_32
    · refine lv_aload_n hx hb dX6_is_18 rfl (lv_at hl 0 rfl) ?_
      refine q_cEi (z := -2) (b := (q 0)) (As := []) (rest := []) (w1 := wMo g q (mbad M)) ⟨hx, hb, hml, hown, hts⟩ hP hD hK hT hS hA (kX6_bad l dC dI g tt _ q M) (cwV 0 hts gX6_is_X6_bad rfl rfl rfl (by decide +kernel) ⟨Nat.le_of_ble_eq_true rfl, Nat.le_of_ble_eq_true rfl⟩) 0 5 rfl rfl rfl rfl hl.1 rfl (Nat.le_of_ble_eq_true rfl) dX6_is_19 ⟨Nat.le_of_ble_eq_true rfl, Nat.le_of_ble_eq_true rfl⟩ (fun H locs hP hD hS => ?_)
      have hPf : va_P (dC, dI) vwCl (wMo g q (m_is M x1 x2)) H := by rw [(show (m_is M x1 x2) = mbad M from by unfold m_is; (repeat' split) <;> first | rfl | (exfalso; omega))]; exact hP
      have hDf : va_D A (wMo g q (m_is M x1 x2)) := by rw [(show (m_is M x1 x2) = mbad M from by unfold m_is; (repeat' split) <;> first | rfl | (exfalso; omega))]; exact hD
      exact W.iret hx hb hr (fun t9 ht9 hW9 => ⟨⟨_, (), rfl, congrArg zI (show -2 = ca_is (M 1) x1 x2 from by unfold ca_is; first | (rw [if_neg (by omega)]; done) | (rw [if_pos (by omega), if_pos (by omega)]; done) | (rw [if_pos (by omega), if_neg (by omega), hn, show i = 100 by omega]; rfl)), by rw [ht9]; exact hPf, va_K.moved hW9.alike hK, hDf⟩, hS.F ht9⟩) hS.2.2 dX6_is_22
set_option maxHeartbeats 4000000 in
set_option maxRecDepth 100000 in
theorem kX6_look (l : Launch) (dC : Nat → ClassId) (dI : Nat → Nat → Nat) (g : Nat → ClassId) (tt : Nat → Nat) (sz : Nat) (q : Nat → Nat) (M : Nat → Int → Int) (x1 x2 : Int) (hw : hok (M 1)) (h1 : rI x1 ∧ rI x2) : Met l yX6_look wsX6_look ({ frames := 5, cells := 0, slots := 0, locals := 117 }) (va_Pc [.ref (q 0), .int (zI x1), .int (zI x2)] (eQ (dC, dI) (wTy g) (wMo g q M) tt sz)) (va_Qi (fun r (_ : Unit) => r = zI (ma_look (M 1) x1 x2)) (fQ (dC, dI) (wTy g) (va_A (wMo g q M) sz) (wMo g q (m_look M x1 x2))) (va_A (wMo g q M) sz)) 0 0 (va_A (wMo g q M) sz) := by
  refine Met.ofW (cc := cX6_look) (maxL := 11) (ret := (some .int)) (by decide) rfl ?_
  intro p e s m args below meth c s₁ B hml hv
  obtain ⟨rfl, hsz, hP, hK, hD0, hT⟩ := hv
  have hx := B.exec
  have hb := B.bytes
  have hr := B.returns
  have hts := atoms_spec (ws := wsX6_look) B.pre
  have hown : s.vm.findClass RX6 = some m.cls := findClass_of_methodNamed B.named
  have hlocks := B.notSynchronized
  subst hsz
  have hD := hD0.self (sz := s.heap.size)
  generalize hAe : va_A (wMo g q M) s.heap.size = A at hD hT ⊢
  have hA : ∀ q : Nat, s.heap.size ≤ q → A q := fun q h => by rw [← hAe]; exact Or.inr h
  have hS : va_S A s.heap s.heap [] := va_S.rf
  have hl := lv_entry ([.ref (q 0), .int (zI x1), .int (zI x2)]) (n := 11) (Nat.le_of_ble_eq_true rfl)
  rw [lg_entry_eq]
  generalize (lg_sl ([.ref (q 0), .int (zI x1), .int (zI x2)]) ++ List.replicate (11 - (lg_sl ([.ref (q 0), .int (zI x1), .int (zI x2)])).length) Slot.unset).toArray = ls at hl ⊢
  have hl : lv_has ls 11 [(0, .ref (q 0)), (1, .int (zI x1)), (2, .int (zI x2))] := hl
  have kc187 := hts (.constant RX6 187 (1000000)) (by decide +kernel)
  have kf7 := hts (.fieldLink RX6 7 "WrongWayModel" "w" "[I") (by decide +kernel)
  have iX6 := (fun w h => List.mem_cons_of_mem _ (List.mem_append_right _ h) : ∀ w ∈ u_ws RX6 TX6 15, w ∈ wsX6_look)
  have hb0 := hw.b
  refine lv_aload_n hx hb dX6_look_0 rfl (lv_at hl 0 rfl) ?_
  refine lv_iload_n hx hb dX6_look_1 rfl (lv_at hl 1 rfl) ?_
  refine q_cVi (z := bz (0 ≤ x1 ∧ x1 ≤ M 1 0 - 1)) (b := (q 0)) (As := [.int (zI x1)]) (rest := []) ⟨hx, hb, hml, hown, hts⟩ (kX6_isLift l dC dI g tt q M x1 (hw) (by omega)) (cwV 1 hts gX6_look_X6_isLift rfl rfl rfl (by decide +kernel) ⟨Nat.le_of_ble_eq_true rfl, Nat.le_of_ble_eq_true rfl⟩) hP hK hT hS 0 5 rfl rfl rfl rfl hl.1 rfl (Nat.le_of_ble_eq_true rfl) dX6_look_2 ⟨Nat.le_of_ble_eq_true rfl, Nat.le_of_ble_eq_true rfl⟩ ?_
  refine q_bz_eq (tgt := 16) hx hb dX6_look_5 (by decide) (fun c_1 => ?_) (fun c_1 => ?_)
  · refine lv_aload_n hx hb dX6_look_16 rfl (lv_at hl 0 rfl) ?_
    refine q_cEi (z := -2) (b := (q 0)) (As := []) (rest := []) (w1 := wMo g q (mbad M)) ⟨hx, hb, hml, hown, hts⟩ hP hD hK hT hS hA (kX6_bad l dC dI g tt _ q M) (cwV 0 hts gX6_look_X6_bad rfl rfl rfl (by decide +kernel) ⟨Nat.le_of_ble_eq_true rfl, Nat.le_of_ble_eq_true rfl⟩) 0 5 rfl rfl rfl rfl hl.1 rfl (Nat.le_of_ble_eq_true rfl) dX6_look_17 ⟨Nat.le_of_ble_eq_true rfl, Nat.le_of_ble_eq_true rfl⟩ (fun H locs hP hD hS => ?_)
    have hPf : va_P (dC, dI) vwCl (wMo g q (m_look M x1 x2)) H := by rw [(show (m_look M x1 x2) = mbad M from by unfold m_look; (repeat' split) <;> first | rfl | (exfalso; omega))]; exact hP
    have hDf : va_D A (wMo g q (m_look M x1 x2)) := by rw [(show (m_look M x1 x2) = mbad M from by unfold m_look; (repeat' split) <;> first | rfl | (exfalso; omega))]; exact hD
    exact W.iret hx hb hr (fun t9 ht9 hW9 => ⟨⟨_, (), rfl, congrArg zI (show -2 = ma_look (M 1) x1 x2 from by unfold ma_look; first | (rw [if_neg (by omega)]; done) | (rw [if_pos (by omega)]; rcases Decidable.em (c_fk (M 1) x1 6 = 0) with h9 | h9; (rw [if_pos h9]; exact hz h9); (rw [if_neg h9, show (31 : Int) = i by omega, ← hs]))), by rw [ht9]; exact hPf, va_K.moved hW9.alike hK, hDf⟩, hS.F ht9⟩) hS.2.2 dX6_look_20
  · refine lv_aload_n hx hb dX6_look_8 rfl (lv_at hl 0 rfl) ?_
    refine lv_iload_n hx hb dX6_look_9 rfl (lv_at hl 2 rfl) ?_
    refine q_cVi (z := bz (0 ≤ x2 ∧ x2 ≤ M 1 1)) (b := (q 0)) (As := [.int (zI x2)]) (rest := []) ⟨hx, hb, hml, hown, hts⟩ (kX6_isFloor l dC dI g tt q M x2 (hw) (by omega)) (cwV 1 hts gX6_look_X6_isFloor rfl rfl rfl (by decide +kernel) ⟨Nat.le_of_ble_eq_true rfl, Nat.le_of_ble_eq_true rfl⟩) hP hK hT hS 0 5 rfl rfl rfl rfl hl.1 rfl (Nat.le_of_ble_eq_true rfl) dX6_look_10 ⟨Nat.le_of_ble_eq_true rfl, Nat.le_of_ble_eq_true rfl⟩ ?_
    refine q_bz_ne (tgt := 21) hx hb dX6_look_13 (by decide) (fun c_2 => ?_) (fun c_2 => ?_)
    · have hk0 := hw.k (k := x1) (by omega) (by omega)
      have hf6 := c_fk_64 (M 1) x1
      refine lv_aload_n hx hb dX6_look_21 rfl (lv_at hl 0 rfl) ?_
      refine lv_iload_n hx hb dX6_look_22 rfl (lv_at hl 1 rfl) ?_
      refine q_cVi (z := c_fk (M 1) x1 6) (b := (q 0)) (As := [.int (zI x1)]) (rest := []) ⟨hx, hb, hml, hown, hts⟩ (kX6_kindsOf l dC dI g tt q M x1 (hw) (by omega)) (cwV 1 hts gX6_look_X6_kindsOf rfl rfl rfl (by decide +kernel) ⟨Nat.le_of_ble_eq_true rfl, Nat.le_of_ble_eq_true rfl⟩) hP hK hT hS 0 5 rfl rfl rfl rfl hl.1 rfl (Nat.le_of_ble_eq_true rfl) dX6_look_23 ⟨Nat.le_of_ble_eq_true rfl, Nat.le_of_ble_eq_true rfl⟩ ?_
      have := c_fk_64 (M 1) x1
      refine lv_istore_n (lv' := [(3, .int (zI (c_fk (M 1) x1 6))), (0, .ref (q 0)), (1, .int (zI x1)), (2, .int (zI x2))]) hx hb dX6_look_26 rfl hl (by decide) rfl (fun ls hl => ?_)
      refine q_iconst hx hb dX6_look_27 ?_
      refine lv_istore (lv' := [(4, .int (zI (-1))), (3, .int (zI (c_fk (M 1) x1 6))), (0, .ref (q 0)), (1, .int (zI x1)), (2, .int (zI x2))]) hx hb dX6_look_28 hl (by decide) rfl (fun ls hl => ?_)
      refine q_ldc hx hb 1000000 hown kc187 (by decide) dX6_look_30 ?_
      refine lv_istore (lv' := [(5, .int (zI 1000000)), (4, .int (zI (-1))), (3, .int (zI (c_fk (M 1) x1 6))), (0, .ref (q 0)), (1, .int (zI x1)), (2, .int (zI x2))]) hx hb dX6_look_32 hl (by decide) rfl (fun ls hl => ?_)
      refine q_iconst hx hb dX6_look_34 ?_
      refine lv_istore (lv' := [(6, .int (zI 0)), (5, .int (zI 1000000)), (4, .int (zI (-1))), (3, .int (zI (c_fk (M 1) x1 6))), (0, .ref (q 0)), (1, .int (zI x1)), (2, .int (zI x2))]) hx hb dX6_look_35 hl (by decide) rfl (fun ls hl => ?_)
      refine w_loopP (σ := Int × Int × Int) (fun a9 ls => (0 ≤ a9.1 ∧ a9.1 ≤ 31) ∧ ((a9.2.1, a9.2.2) = itR (mlkS (M 1) x1 x2) (-1, 1000000) a9.1) ∧ (c_fk (M 1) x1 6 = 0 → a9.2.1 = -1) ∧ (0 ≤ a9.2.2 ∧ a9.2.2 ≤ 1000000) ∧ lv_has ls 11 [(0, .ref (q 0)), (1, .int (zI x1)), (2, .int (zI x2)), (3, .int (zI (c_fk (M 1) x1 6))), (4, .int (zI a9.2.1)), (5, .int (zI a9.2.2)), (6, .int (zI a9.1))]) (fun a9 => (31 - a9.1).toNat) ?_ (0, (-1), 1000000) ?_
      · rintro ⟨i, bs, fw⟩ ls ⟨hi, hs, hz, hfw, hl⟩ ih37
        have hi : 0 ≤ i ∧ i ≤ 31 := hi
        have hs : (bs, fw) = itR (mlkS (M 1) x1 x2) (-1, 1000000) i := hs
        have hz : c_fk (M 1) x1 6 = 0 → bs = -1 := hz
        have hfw : 0 ≤ fw ∧ fw ≤ 1000000 := hfw
        have hl : lv_has ls 11 [(0, .ref (q 0)), (1, .int (zI x1)), (2, .int (zI x2)), (3, .int (zI (c_fk (M 1) x1 6))), (4, .int (zI bs)), (5, .int (zI fw)), (6, .int (zI i))] := hl
        refine lv_iload hx hb dX6_look_37 (lv_at hl 6 rfl) ?_
        refine q_bipush hx hb dX6_look_39 rfl ?_
        refine q_icmp_gt (tgt := 199) hx hb dX6_look_41 (by decide) (by omega) (fun c_3 => ?_) (fun c_3 => ?_)
        · refine lv_iload hx hb dX6_look_199 (lv_at hl 4 rfl) ?_
          have hPf : va_P (dC, dI) vwCl (wMo g q (m_look M x1 x2)) s.heap := by rw [(show (m_look M x1 x2) = M from by unfold m_look; (repeat' split) <;> first | rfl | (exfalso; omega))]; exact hP
          have hDf : va_D A (wMo g q (m_look M x1 x2)) := by rw [(show (m_look M x1 x2) = M from by unfold m_look; (repeat' split) <;> first | rfl | (exfalso; omega))]; exact hD
          exact W.iret hx hb hr (fun t9 ht9 hW9 => ⟨⟨_, (), rfl, congrArg zI (show bs = ma_look (M 1) x1 x2 from by unfold ma_look; first | (rw [if_neg (by omega)]; done) | (rw [if_pos (by omega)]; rcases Decidable.em (c_fk (M 1) x1 6 = 0) with h9 | h9; (rw [if_pos h9]; exact hz h9); (rw [if_neg h9, show (31 : Int) = i by omega, ← hs]))), by rw [ht9]; exact hPf, va_K.moved hW9.alike hK, hDf⟩, hS.F ht9⟩) hS.2.2 dX6_look_201
        · refine lv_iload_n hx hb dX6_look_44 rfl (lv_at hl 3 rfl) ?_
          refine q_if_eq (tgt := 199) hx hb dX6_look_45 (by decide) (by omega) (fun c_4 => ?_) (fun c_4 => ?_)
          · refine lv_iload hx hb dX6_look_199 (lv_at hl 4 rfl) ?_
            have hPf : va_P (dC, dI) vwCl (wMo g q (m_look M x1 x2)) s.heap := by rw [(show (m_look M x1 x2) = M from by unfold m_look; (repeat' split) <;> first | rfl | (exfalso; omega))]; exact hP
            have hDf : va_D A (wMo g q (m_look M x1 x2)) := by rw [(show (m_look M x1 x2) = M from by unfold m_look; (repeat' split) <;> first | rfl | (exfalso; omega))]; exact hD
            exact W.iret hx hb hr (fun t9 ht9 hW9 => ⟨⟨_, (), rfl, congrArg zI (show bs = ma_look (M 1) x1 x2 from by unfold ma_look; first | (rw [if_neg (by omega)]; done) | (rw [if_pos (by omega)]; rcases Decidable.em (c_fk (M 1) x1 6 = 0) with h9 | h9; (rw [if_pos h9]; exact hz h9); (rw [if_neg h9, show (31 : Int) = i by omega, ← hs]))), by rw [ht9]; exact hPf, va_K.moved hW9.alike hK, hDf⟩, hS.F ht9⟩) hS.2.2 dX6_look_201
          · refine q_iconst hx hb dX6_look_48 ?_
            refine lv_istore (lv' := [(7, .int (zI 0)), (0, .ref (q 0)), (1, .int (zI x1)), (2, .int (zI x2)), (3, .int (zI (c_fk (M 1) x1 6))), (4, .int (zI bs)), (5, .int (zI fw)), (6, .int (zI i))]) hx hb dX6_look_49 hl (by decide) rfl (fun ls hl => ?_)
            refine q_iconst hx hb dX6_look_51 ?_
            refine lv_istore (lv' := [(8, .int (zI 0)), (7, .int (zI 0)), (0, .ref (q 0)), (1, .int (zI x1)), (2, .int (zI x2)), (3, .int (zI (c_fk (M 1) x1 6))), (4, .int (zI bs)), (5, .int (zI fw)), (6, .int (zI i))]) hx hb dX6_look_52 hl (by decide) rfl (fun ls hl => ?_)
            refine q_iconst hx hb dX6_look_54 ?_
            refine lv_istore (lv' := [(9, .int (zI 0)), (8, .int (zI 0)), (7, .int (zI 0)), (0, .ref (q 0)), (1, .int (zI x1)), (2, .int (zI x2)), (3, .int (zI (c_fk (M 1) x1 6))), (4, .int (zI bs)), (5, .int (zI fw)), (6, .int (zI i))]) hx hb dX6_look_55 hl (by decide) rfl (fun ls hl => ?_)
            refine w_loopP (σ := Int × Int × Int) (fun a9 ls => (0 ≤ a9.1 ∧ a9.1 ≤ 6) ∧ (a9.2.1 = c_kt (M 1) (c_fk (M 1) x1 6) (M 1 (9 + x1)) x2 i a9.1) ∧ (a9.2.2 = c_kn (M 1) (c_fk (M 1) x1 6) (M 1 (9 + x1)) x2 i a9.1) ∧ lv_has ls 11 [(0, .ref (q 0)), (1, .int (zI x1)), (2, .int (zI x2)), (3, .int (zI (c_fk (M 1) x1 6))), (4, .int (zI bs)), (5, .int (zI fw)), (6, .int (zI i)), (7, .int (zI a9.2.1)), (8, .int (zI a9.2.2)), (9, .int (zI a9.1))]) (fun a9 => (6 - a9.1).toNat) ?_ (0, 0, 0) ?_
            · rintro ⟨k, nt, nn⟩ ls ⟨hk, hnt, hnn, hl⟩ ih57
              have hk : 0 ≤ k ∧ k ≤ 6 := hk
              have hnt : nt = c_kt (M 1) (c_fk (M 1) x1 6) (M 1 (9 + x1)) x2 i k := hnt
              have hnn : nn = c_kn (M 1) (c_fk (M 1) x1 6) (M 1 (9 + x1)) x2 i k := hnn
              have hl : lv_has ls 11 [(0, .ref (q 0)), (1, .int (zI x1)), (2, .int (zI x2)), (3, .int (zI (c_fk (M 1) x1 6))), (4, .int (zI bs)), (5, .int (zI fw)), (6, .int (zI i)), (7, .int (zI nt)), (8, .int (zI nn)), (9, .int (zI k))] := hl
              refine lv_iload hx hb dX6_look_57 (lv_at hl 9 rfl) ?_
              refine q_iconst hx hb dX6_look_59 ?_
              refine q_icmp_gt (tgt := 145) hx hb dX6_look_60 (by decide) (by omega) (fun c_5 => ?_) (fun c_5 => ?_)
              · have hk6 := c_kn_b (M 1) (c_fk (M 1) x1 6) (M 1 (9 + x1)) x2 i (N := 6) (by decide)
                have ek : k = 6 := by omega
                have hnt6 : nt = c_kt (M 1) (c_fk (M 1) x1 6) (M 1 (9 + x1)) x2 i 6 := by rw [hnt, ek]
                have hnn6 : nn = c_kn (M 1) (c_fk (M 1) x1 6) (M 1 (9 + x1)) x2 i 6 := by rw [hnn, ek]
                have hmx : 0 ≤ mlkX (M 1) x1 x2 i ∧ mlkX (M 1) x1 x2 i ≤ 6 := by unfold mlkX; split <;> omega
                refine lv_iload hx hb dX6_look_145 (lv_at hl 7 rfl) ?_
                refine lv_iload hx hb dX6_look_147 (lv_at hl 8 rfl) ?_
                refine q_icmp_le (tgt := 157) hx hb dX6_look_149 (by decide) (by omega) (fun c_6 => ?_) (fun c_6 => ?_)
                · refine lv_iload hx hb dX6_look_157 (lv_at hl 8 rfl) ?_
                  rw [show nn = mlkX (M 1) x1 x2 i from by unfold mlkX; rw [← hnt6, ← hnn6]; split <;> omega]
                  refine lv_istore (lv' := [(9, .int (zI (mlkX (M 1) x1 x2 i))), (0, .ref (q 0)), (1, .int (zI x1)), (2, .int (zI x2)), (3, .int (zI (c_fk (M 1) x1 6))), (4, .int (zI bs)), (5, .int (zI fw)), (6, .int (zI i)), (7, .int (zI nt)), (8, .int (zI nn))]) hx hb dX6_look_159 hl (by decide) rfl (fun ls hl => ?_)
                  refine lv_iload hx hb dX6_look_161 (lv_at hl 0 rfl) ?_
                  refine lv_iload hx hb dX6_look_163 (lv_at hl 6 rfl) ?_
                  refine q_icmp_ge (tgt := 173) hx hb dX6_look_165 (by decide) (by omega) (fun c_7 => ?_) (fun c_7 => ?_)
                  · refine lv_iload hx hb dX6_look_173 (lv_at hl 5 rfl) ?_
                    refine lv_istore (lv' := [(4, .int (zI bs)), (9, .int (zI (mlkX (M 1) x1 x2 i))), (0, .ref (q 0)), (1, .int (zI x1)), (2, .int (zI x2)), (3, .int (zI (c_fk (M 1) x1 6))), (5, .int (zI fw)), (6, .int (zI i)), (7, .int (zI nt)), (8, .int (zI nn))]) hx hb dX6_look_175 hl (by decide) rfl (fun ls hl => ?_)
                    refine lv_iload hx hb dX6_look_177 (lv_at hl 1 rfl) ?_
                    refine lv_iload hx hb dX6_look_179 (lv_at hl 6 rfl) ?_
                    refine q_icmp_ge (tgt := 189) hx hb dX6_look_181 (by decide) (by omega) (fun c_8 => ?_) (fun c_8 => ?_)
                    · refine lv_iload hx hb dX6_look_189 (lv_at hl 6 rfl) ?_
                      refine lv_istore (lv' := [(5, .int (zI fw)), (4, .int (zI bs)), (9, .int (zI (mlkX (M 1) x1 x2 i))), (0, .ref (q 0)), (1, .int (zI x1)), (2, .int (zI x2)), (3, .int (zI (c_fk (M 1) x1 6))), (6, .int (zI i)), (7, .int (zI nt)), (8, .int (zI nn))]) hx hb dX6_look_191 hl (by decide) rfl (fun ls hl => ?_)
                      refine lv_iinc (v := zI (i + 1)) (lv' := [(6, .int (zI (i + 1))), (5, .int (zI fw)), (4, .int (zI bs)), (9, .int (zI (mlkX (M 1) x1 x2 i))), (0, .ref (q 0)), (1, .int (zI x1)), (2, .int (zI x2)), (3, .int (zI (c_fk (M 1) x1 6))), (7, .int (zI nt)), (8, .int (zI nn))]) hx hb dX6_look_193 hl (k := 7) rfl (zI_add _ _) (by decide) rfl (fun ls hl => ?_)
                      refine lv_goto (tgt := 37) hx hb dX6_look_196 (by decide) ?_
                      exact ih37 (i + 1, bs, fw) ls ⟨(show 0 ≤ (i + 1) ∧ (i + 1) ≤ 31 from by omega), (show (bs, fw) = itR (mlkS (M 1) x1 x2) (-1, 1000000) (i + 1) from by rw [itR_s (by omega), ← hs]; unfold mlkS; first | (rw [if_pos (show mlkX (M 1) x1 x2 i < fw from by omega)]; first | done | rfl) | (rw [if_neg (show ¬ mlkX (M 1) x1 x2 i < fw from by omega)]; done) | (exfalso; omega)), (show c_fk (M 1) x1 6 = 0 → bs = -1 from fun h9 => by omega), (show 0 ≤ fw ∧ fw ≤ 1000000 from by omega), lv_sub hl [4, 5, 6, 7, 2, 1, 0] rfl⟩ (by show (31 - (i + 1)).toNat < (31 - i).toNat; omega)
                    · refine lv_iload hx hb dX6_look_184 (lv_at hl 1 rfl) ?_
                      refine lv_goto (tgt := 191) hx hb dX6_look_186 (by decide) ?_
                      refine lv_istore (lv' := [(5, .int (zI (mlkX (M 1) x1 x2 i))), (4, .int (zI bs)), (9, .int (zI (mlkX (M 1) x1 x2 i))), (0, .ref (q 0)), (1, .int (zI x1)), (2, .int (zI x2)), (3, .int (zI (c_fk (M 1) x1 6))), (6, .int (zI i)), (7, .int (zI nt)), (8, .int (zI nn))]) hx hb dX6_look_191 hl (by decide) rfl (fun ls hl => ?_)
                      refine lv_iinc (v := zI (i + 1)) (lv' := [(6, .int (zI (i + 1))), (5, .int (zI (mlkX (M 1) x1 x2 i))), (4, .int (zI bs)), (9, .int (zI (mlkX (M 1) x1 x2 i))), (0, .ref (q 0)), (1, .int (zI x1)), (2, .int (zI x2)), (3, .int (zI (c_fk (M 1) x1 6))), (7, .int (zI nt)), (8, .int (zI nn))]) hx hb dX6_look_193 hl (k := 7) rfl (zI_add _ _) (by decide) rfl (fun ls hl => ?_)
                      refine lv_goto (tgt := 37) hx hb dX6_look_196 (by decide) ?_
                      exact ih37 (i + 1, bs, mlkX (M 1) x1 x2 i) ls ⟨(show 0 ≤ (i + 1) ∧ (i + 1) ≤ 31 from by omega), (show (bs, (mlkX (M 1) x1 x2 i)) = itR (mlkS (M 1) x1 x2) (-1, 1000000) (i + 1) from by rw [itR_s (by omega), ← hs]; unfold mlkS; first | (rw [if_pos (show mlkX (M 1) x1 x2 i < fw from by omega)]; first | done | rfl) | (rw [if_neg (show ¬ mlkX (M 1) x1 x2 i < fw from by omega)]; done) | (exfalso; omega)), (show c_fk (M 1) x1 6 = 0 → bs = -1 from fun h9 => by omega), (show 0 ≤ (mlkX (M 1) x1 x2 i) ∧ (mlkX (M 1) x1 x2 i) ≤ 1000000 from by omega), lv_sub hl [4, 5, 6, 7, 2, 1, 0] rfl⟩ (by show (31 - (i + 1)).toNat < (31 - i).toNat; omega)
                  · refine lv_iload hx hb dX6_look_168 (lv_at hl 7 rfl) ?_
                    refine lv_goto (tgt := 175) hx hb dX6_look_170 (by decide) ?_
                    refine lv_istore (lv' := [(4, .int (zI i)), (9, .int (zI (mlkX (M 1) x1 x2 i))), (0, .ref (q 0)), (1, .int (zI x1)), (2, .int (zI x2)), (3, .int (zI (c_fk (M 1) x1 6))), (5, .int (zI fw)), (6, .int (zI i)), (7, .int (zI nt)), (8, .int (zI nn))]) hx hb dX6_look_175 hl (by decide) rfl (fun ls hl => ?_)
                    refine lv_iload hx hb dX6_look_177 (lv_at hl 1 rfl) ?_
                    refine lv_iload hx hb dX6_look_179 (lv_at hl 6 rfl) ?_
                    refine q_icmp_ge (tgt := 189) hx hb dX6_look_181 (by decide) (by omega) (fun c_9 => ?_) (fun c_9 => ?_)
                    · refine lv_iload hx hb dX6_look_189 (lv_at hl 6 rfl) ?_
                      refine lv_istore (lv' := [(5, .int (zI fw)), (4, .int (zI i)), (9, .int (zI (mlkX (M 1) x1 x2 i))), (0, .ref (q 0)), (1, .int (zI x1)), (2, .int (zI x2)), (3, .int (zI (c_fk (M 1) x1 6))), (6, .int (zI i)), (7, .int (zI nt)), (8, .int (zI nn))]) hx hb dX6_look_191 hl (by decide) rfl (fun ls hl => ?_)
                      refine lv_iinc (v := zI (i + 1)) (lv' := [(6, .int (zI (i + 1))), (5, .int (zI fw)), (4, .int (zI i)), (9, .int (zI (mlkX (M 1) x1 x2 i))), (0, .ref (q 0)), (1, .int (zI x1)), (2, .int (zI x2)), (3, .int (zI (c_fk (M 1) x1 6))), (7, .int (zI nt)), (8, .int (zI nn))]) hx hb dX6_look_193 hl (k := 7) rfl (zI_add _ _) (by decide) rfl (fun ls hl => ?_)
                      refine lv_goto (tgt := 37) hx hb dX6_look_196 (by decide) ?_
                      exact ih37 (i + 1, i, fw) ls ⟨(show 0 ≤ (i + 1) ∧ (i + 1) ≤ 31 from by omega), (show (i, fw) = itR (mlkS (M 1) x1 x2) (-1, 1000000) (i + 1) from by rw [itR_s (by omega), ← hs]; unfold mlkS; first | (rw [if_pos (show mlkX (M 1) x1 x2 i < fw from by omega)]; first | done | rfl) | (rw [if_neg (show ¬ mlkX (M 1) x1 x2 i < fw from by omega)]; done) | (exfalso; omega)), (show c_fk (M 1) x1 6 = 0 → i = -1 from fun h9 => by omega), (show 0 ≤ fw ∧ fw ≤ 1000000 from by omega), lv_sub hl [4, 5, 6, 7, 2, 1, 0] rfl⟩ (by show (31 - (i + 1)).toNat < (31 - i).toNat; omega)
                    · refine lv_iload hx hb dX6_look_184 (lv_at hl 1 rfl) ?_
                      refine lv_goto (tgt := 191) hx hb dX6_look_186 (by decide) ?_
                      refine lv_istore (lv' := [(5, .int (zI (mlkX (M 1) x1 x2 i))), (4, .int (zI i)), (9, .int (zI (mlkX (M 1) x1 x2 i))), (0, .ref (q 0)), (1, .int (zI x1)), (2, .int (zI x2)), (3, .int (zI (c_fk (M 1) x1 6))), (6, .int (zI i)), (7, .int (zI nt)), (8, .int (zI nn))]) hx hb dX6_look_191 hl (by decide) rfl (fun ls hl => ?_)
                      refine lv_iinc (v := zI (i + 1)) (lv' := [(6, .int (zI (i + 1))), (5, .int (zI (mlkX (M 1) x1 x2 i))), (4, .int (zI i)), (9, .int (zI (mlkX (M 1) x1 x2 i))), (0, .ref (q 0)), (1, .int (zI x1)), (2, .int (zI x2)), (3, .int (zI (c_fk (M 1) x1 6))), (7, .int (zI nt)), (8, .int (zI nn))]) hx hb dX6_look_193 hl (k := 7) rfl (zI_add _ _) (by decide) rfl (fun ls hl => ?_)
                      refine lv_goto (tgt := 37) hx hb dX6_look_196 (by decide) ?_
                      exact ih37 (i + 1, i, mlkX (M 1) x1 x2 i) ls ⟨(show 0 ≤ (i + 1) ∧ (i + 1) ≤ 31 from by omega), (show (i, (mlkX (M 1) x1 x2 i)) = itR (mlkS (M 1) x1 x2) (-1, 1000000) (i + 1) from by rw [itR_s (by omega), ← hs]; unfold mlkS; first | (rw [if_pos (show mlkX (M 1) x1 x2 i < fw from by omega)]; first | done | rfl) | (rw [if_neg (show ¬ mlkX (M 1) x1 x2 i < fw from by omega)]; done) | (exfalso; omega)), (show c_fk (M 1) x1 6 = 0 → i = -1 from fun h9 => by omega), (show 0 ≤ (mlkX (M 1) x1 x2 i) ∧ (mlkX (M 1) x1 x2 i) ≤ 1000000 from by omega), lv_sub hl [4, 5, 6, 7, 2, 1, 0] rfl⟩ (by show (31 - (i + 1)).toNat < (31 - i).toNat; omega)
                · refine lv_iload hx hb dX6_look_152 (lv_at hl 7 rfl) ?_
                  refine lv_goto (tgt := 159) hx hb dX6_look_154 (by decide) ?_
                  rw [show nt = mlkX (M 1) x1 x2 i from by unfold mlkX; rw [← hnt6, ← hnn6]; split <;> omega]
                  refine lv_istore (lv' := [(9, .int (zI (mlkX (M 1) x1 x2 i))), (0, .ref (q 0)), (1, .int (zI x1)), (2, .int (zI x2)), (3, .int (zI (c_fk (M 1) x1 6))), (4, .int (zI bs)), (5, .int (zI fw)), (6, .int (zI i)), (7, .int (zI nt)), (8, .int (zI nn))]) hx hb dX6_look_159 hl (by decide) rfl (fun ls hl => ?_)
                  refine lv_iload hx hb dX6_look_161 (lv_at hl 0 rfl) ?_
                  refine lv_iload hx hb dX6_look_163 (lv_at hl 6 rfl) ?_
                  refine q_icmp_ge (tgt := 173) hx hb dX6_look_165 (by decide) (by omega) (fun c_10 => ?_) (fun c_10 => ?_)
                  · refine lv_iload hx hb dX6_look_173 (lv_at hl 5 rfl) ?_
                    refine lv_istore (lv' := [(4, .int (zI bs)), (9, .int (zI (mlkX (M 1) x1 x2 i))), (0, .ref (q 0)), (1, .int (zI x1)), (2, .int (zI x2)), (3, .int (zI (c_fk (M 1) x1 6))), (5, .int (zI fw)), (6, .int (zI i)), (7, .int (zI nt)), (8, .int (zI nn))]) hx hb dX6_look_175 hl (by decide) rfl (fun ls hl => ?_)
                    refine lv_iload hx hb dX6_look_177 (lv_at hl 1 rfl) ?_
                    refine lv_iload hx hb dX6_look_179 (lv_at hl 6 rfl) ?_
                    refine q_icmp_ge (tgt := 189) hx hb dX6_look_181 (by decide) (by omega) (fun c_11 => ?_) (fun c_11 => ?_)
                    · refine lv_iload hx hb dX6_look_189 (lv_at hl 6 rfl) ?_
                      refine lv_istore (lv' := [(5, .int (zI fw)), (4, .int (zI bs)), (9, .int (zI (mlkX (M 1) x1 x2 i))), (0, .ref (q 0)), (1, .int (zI x1)), (2, .int (zI x2)), (3, .int (zI (c_fk (M 1) x1 6))), (6, .int (zI i)), (7, .int (zI nt)), (8, .int (zI nn))]) hx hb dX6_look_191 hl (by decide) rfl (fun ls hl => ?_)
                      refine lv_iinc (v := zI (i + 1)) (lv' := [(6, .int (zI (i + 1))), (5, .int (zI fw)), (4, .int (zI bs)), (9, .int (zI (mlkX (M 1) x1 x2 i))), (0, .ref (q 0)), (1, .int (zI x1)), (2, .int (zI x2)), (3, .int (zI (c_fk (M 1) x1 6))), (7, .int (zI nt)), (8, .int (zI nn))]) hx hb dX6_look_193 hl (k := 7) rfl (zI_add _ _) (by decide) rfl (fun ls hl => ?_)
                      refine lv_goto (tgt := 37) hx hb dX6_look_196 (by decide) ?_
                      exact ih37 (i + 1, bs, fw) ls ⟨(show 0 ≤ (i + 1) ∧ (i + 1) ≤ 31 from by omega), (show (bs, fw) = itR (mlkS (M 1) x1 x2) (-1, 1000000) (i + 1) from by rw [itR_s (by omega), ← hs]; unfold mlkS; first | (rw [if_pos (show mlkX (M 1) x1 x2 i < fw from by omega)]; first | done | rfl) | (rw [if_neg (show ¬ mlkX (M 1) x1 x2 i < fw from by omega)]; done) | (exfalso; omega)), (show c_fk (M 1) x1 6 = 0 → bs = -1 from fun h9 => by omega), (show 0 ≤ fw ∧ fw ≤ 1000000 from by omega), lv_sub hl [4, 5, 6, 7, 2, 1, 0] rfl⟩ (by show (31 - (i + 1)).toNat < (31 - i).toNat; omega)
                    · refine lv_iload hx hb dX6_look_184 (lv_at hl 1 rfl) ?_
                      refine lv_goto (tgt := 191) hx hb dX6_look_186 (by decide) ?_
                      refine lv_istore (lv' := [(5, .int (zI (mlkX (M 1) x1 x2 i))), (4, .int (zI bs)), (9, .int (zI (mlkX (M 1) x1 x2 i))), (0, .ref (q 0)), (1, .int (zI x1)), (2, .int (zI x2)), (3, .int (zI (c_fk (M 1) x1 6))), (6, .int (zI i)), (7, .int (zI nt)), (8, .int (zI nn))]) hx hb dX6_look_191 hl (by decide) rfl (fun ls hl => ?_)
                      refine lv_iinc (v := zI (i + 1)) (lv' := [(6, .int (zI (i + 1))), (5, .int (zI (mlkX (M 1) x1 x2 i))), (4, .int (zI bs)), (9, .int (zI (mlkX (M 1) x1 x2 i))), (0, .ref (q 0)), (1, .int (zI x1)), (2, .int (zI x2)), (3, .int (zI (c_fk (M 1) x1 6))), (7, .int (zI nt)), (8, .int (zI nn))]) hx hb dX6_look_193 hl (k := 7) rfl (zI_add _ _) (by decide) rfl (fun ls hl => ?_)
                      refine lv_goto (tgt := 37) hx hb dX6_look_196 (by decide) ?_
                      exact ih37 (i + 1, bs, mlkX (M 1) x1 x2 i) ls ⟨(show 0 ≤ (i + 1) ∧ (i + 1) ≤ 31 from by omega), (show (bs, (mlkX (M 1) x1 x2 i)) = itR (mlkS (M 1) x1 x2) (-1, 1000000) (i + 1) from by rw [itR_s (by omega), ← hs]; unfold mlkS; first | (rw [if_pos (show mlkX (M 1) x1 x2 i < fw from by omega)]; first | done | rfl) | (rw [if_neg (show ¬ mlkX (M 1) x1 x2 i < fw from by omega)]; done) | (exfalso; omega)), (show c_fk (M 1) x1 6 = 0 → bs = -1 from fun h9 => by omega), (show 0 ≤ (mlkX (M 1) x1 x2 i) ∧ (mlkX (M 1) x1 x2 i) ≤ 1000000 from by omega), lv_sub hl [4, 5, 6, 7, 2, 1, 0] rfl⟩ (by show (31 - (i + 1)).toNat < (31 - i).toNat; omega)
                  · refine lv_iload hx hb dX6_look_168 (lv_at hl 7 rfl) ?_
                    refine lv_goto (tgt := 175) hx hb dX6_look_170 (by decide) ?_
                    refine lv_istore (lv' := [(4, .int (zI i)), (9, .int (zI (mlkX (M 1) x1 x2 i))), (0, .ref (q 0)), (1, .int (zI x1)), (2, .int (zI x2)), (3, .int (zI (c_fk (M 1) x1 6))), (5, .int (zI fw)), (6, .int (zI i)), (7, .int (zI nt)), (8, .int (zI nn))]) hx hb dX6_look_175 hl (by decide) rfl (fun ls hl => ?_)
                    refine lv_iload hx hb dX6_look_177 (lv_at hl 1 rfl) ?_
                    refine lv_iload hx hb dX6_look_179 (lv_at hl 6 rfl) ?_
                    refine q_icmp_ge (tgt := 189) hx hb dX6_look_181 (by decide) (by omega) (fun c_12 => ?_) (fun c_12 => ?_)
                    · refine lv_iload hx hb dX6_look_189 (lv_at hl 6 rfl) ?_
                      refine lv_istore (lv' := [(5, .int (zI fw)), (4, .int (zI i)), (9, .int (zI (mlkX (M 1) x1 x2 i))), (0, .ref (q 0)), (1, .int (zI x1)), (2, .int (zI x2)), (3, .int (zI (c_fk (M 1) x1 6))), (6, .int (zI i)), (7, .int (zI nt)), (8, .int (zI nn))]) hx hb dX6_look_191 hl (by decide) rfl (fun ls hl => ?_)
                      refine lv_iinc (v := zI (i + 1)) (lv' := [(6, .int (zI (i + 1))), (5, .int (zI fw)), (4, .int (zI i)), (9, .int (zI (mlkX (M 1) x1 x2 i))), (0, .ref (q 0)), (1, .int (zI x1)), (2, .int (zI x2)), (3, .int (zI (c_fk (M 1) x1 6))), (7, .int (zI nt)), (8, .int (zI nn))]) hx hb dX6_look_193 hl (k := 7) rfl (zI_add _ _) (by decide) rfl (fun ls hl => ?_)
                      refine lv_goto (tgt := 37) hx hb dX6_look_196 (by decide) ?_
                      exact ih37 (i + 1, i, fw) ls ⟨(show 0 ≤ (i + 1) ∧ (i + 1) ≤ 31 from by omega), (show (i, fw) = itR (mlkS (M 1) x1 x2) (-1, 1000000) (i + 1) from by rw [itR_s (by omega), ← hs]; unfold mlkS; first | (rw [if_pos (show mlkX (M 1) x1 x2 i < fw from by omega)]; first | done | rfl) | (rw [if_neg (show ¬ mlkX (M 1) x1 x2 i < fw from by omega)]; done) | (exfalso; omega)), (show c_fk (M 1) x1 6 = 0 → i = -1 from fun h9 => by omega), (show 0 ≤ fw ∧ fw ≤ 1000000 from by omega), lv_sub hl [4, 5, 6, 7, 2, 1, 0] rfl⟩ (by show (31 - (i + 1)).toNat < (31 - i).toNat; omega)
                    · refine lv_iload hx hb dX6_look_184 (lv_at hl 1 rfl) ?_
                      refine lv_goto (tgt := 191) hx hb dX6_look_186 (by decide) ?_
                      refine lv_istore (lv' := [(5, .int (zI (mlkX (M 1) x1 x2 i))), (4, .int (zI i)), (9, .int (zI (mlkX (M 1) x1 x2 i))), (0, .ref (q 0)), (1, .int (zI x1)), (2, .int (zI x2)), (3, .int (zI (c_fk (M 1) x1 6))), (6, .int (zI i)), (7, .int (zI nt)), (8, .int (zI nn))]) hx hb dX6_look_191 hl (by decide) rfl (fun ls hl => ?_)
                      refine lv_iinc (v := zI (i + 1)) (lv' := [(6, .int (zI (i + 1))), (5, .int (zI (mlkX (M 1) x1 x2 i))), (4, .int (zI i)), (9, .int (zI (mlkX (M 1) x1 x2 i))), (0, .ref (q 0)), (1, .int (zI x1)), (2, .int (zI x2)), (3, .int (zI (c_fk (M 1) x1 6))), (7, .int (zI nt)), (8, .int (zI nn))]) hx hb dX6_look_193 hl (k := 7) rfl (zI_add _ _) (by decide) rfl (fun ls hl => ?_)
                      refine lv_goto (tgt := 37) hx hb dX6_look_196 (by decide) ?_
                      exact ih37 (i + 1, i, mlkX (M 1) x1 x2 i) ls ⟨(show 0 ≤ (i + 1) ∧ (i + 1) ≤ 31 from by omega), (show (i, (mlkX (M 1) x1 x2 i)) = itR (mlkS (M 1) x1 x2) (-1, 1000000) (i + 1) from by rw [itR_s (by omega), ← hs]; unfold mlkS; first | (rw [if_pos (show mlkX (M 1) x1 x2 i < fw from by omega)]; first | done | rfl) | (rw [if_neg (show ¬ mlkX (M 1) x1 x2 i < fw from by omega)]; done) | (exfalso; omega)), (show c_fk (M 1) x1 6 = 0 → i = -1 from fun h9 => by omega), (show 0 ≤ (mlkX (M 1) x1 x2 i) ∧ (mlkX (M 1) x1 x2 i) ≤ 1000000 from by omega), lv_sub hl [4, 5, 6, 7, 2, 1, 0] rfl⟩ (by show (31 - (i + 1)).toNat < (31 - i).toNat; omega)
              · have hkb := c_kn_b (M 1) (c_fk (M 1) x1 6) (M 1 (9 + x1)) x2 i (N := k) (by omega)
                refine lv_aload_n hx hb dX6_look_63 rfl (lv_at hl 0 rfl) ?_
                refine lv_iload hx hb dX6_look_64 (lv_at hl 9 rfl) ?_
                refine lv_aload_n hx hb dX6_look_66 rfl (lv_at hl 0 rfl) ?_
                refine va_get (D := (dC, dI)) (ci := 5) (v := .ref (q 1)) (C := RX6) (T := TX6) (N := 15) hx hb hts iX6 hown hK hP 0 rfl rfl 0 (by decide) kf7 (fun _ h9 => h9) rfl dX6_look_67 ?_
                refine q_bipush hx hb dX6_look_70 rfl ?_
                refine lv_iload_n hx hb dX6_look_72 rfl (lv_at hl 1 rfl) ?_
                refine q_iadd hx hb dX6_look_73 ?_
                refine q_iald (F := fun k9 => M 1 k9) (v := M 1 (9 + x1)) hx hb hK hP 1 0 rfl rfl (by decide) (by omega) (rfl) dX6_look_74 ?_
                refine lv_iload hx hb dX6_look_75 (lv_at hl 6 rfl) ?_
                refine q_cVi (z := c_floor k (M 1 1) (M 1 (9 + x1)) i) (b := (q 0)) (As := [.int (zI k), .int (zI (M 1 (9 + x1))), .int (zI i)]) (rest := []) ⟨hx, hb, hml, hown, hts⟩ (kX6_floorOf l dC dI g tt q M k (M 1 (9 + x1)) i (hw) (by omega) (by omega) (by omega)) (cwV 3 hts gX6_look_X6_floorOf rfl rfl rfl (by decide +kernel) ⟨Nat.le_of_ble_eq_true rfl, Nat.le_of_ble_eq_true rfl⟩) hP hK hT hS 0 5 rfl rfl rfl rfl hl.1 rfl (Nat.le_of_ble_eq_true rfl) dX6_look_77 ⟨Nat.le_of_ble_eq_true rfl, Nat.le_of_ble_eq_true rfl⟩ ?_
                have := c_floor_r k (t := M 1 1) (b := (M 1 (9 + x1))) (m := i) (by omega) (by omega) (by omega)
                refine lv_iload_n hx hb dX6_look_80 rfl (lv_at hl 2 rfl) ?_
                refine q_icmp_ne (tgt := 88) hx hb dX6_look_81 (by decide) (by omega) (fun c_13 => ?_) (fun c_13 => ?_)
                · refine q_iconst hx hb dX6_look_88 ?_
                  refine lv_istore (lv' := [(10, .int (zI 0)), (0, .ref (q 0)), (1, .int (zI x1)), (2, .int (zI x2)), (3, .int (zI (c_fk (M 1) x1 6))), (4, .int (zI bs)), (5, .int (zI fw)), (6, .int (zI i)), (7, .int (zI nt)), (8, .int (zI nn)), (9, .int (zI k))]) hx hb dX6_look_89 hl (by decide) rfl (fun ls hl => ?_)
                  refine lv_iload hx hb dX6_look_91 (lv_at hl 8 rfl) ?_
                  refine lv_iload_n hx hb dX6_look_93 rfl (lv_at hl 4 rfl) ?_
                  refine lv_iload hx hb dX6_look_94 (lv_at hl 10 rfl) ?_
                  refine q_cSi (z := bz (hasB (c_fk (M 1) x1 6) k = true)) (As := [.int (zI (c_fk (M 1) x1 6)), .int (zI k)]) (rest := [.int (zI nt)]) ⟨hx, hb, hml, hown, hts⟩ (kX6_has l dC dI g tt (c_fk (M 1) x1 6) k (by omega)) (va_cwS 2 hts gX6_look_X6_has rfl rfl rfl (by decide +kernel) ⟨Nat.le_of_ble_eq_true rfl, Nat.le_of_ble_eq_true rfl⟩) (hP.sub (ws' := []) [] rfl) hK hT hS rfl hl.1 rfl (Nat.le_of_ble_eq_true rfl) dX6_look_96 ⟨Nat.le_of_ble_eq_true rfl, Nat.le_of_ble_eq_true rfl⟩ ?_
                  refine q_bz_eq (tgt := 111) hx hb dX6_look_99 (by decide) (fun c_14 => ?_) (fun c_14 => ?_)
                  · refine q_iconst hx hb dX6_look_111 ?_
                    refine q_iadd hx hb dX6_look_112 ?_
                    refine lv_istore (lv' := [(7, .int (zI (nt + 0))), (10, .int (zI 0)), (0, .ref (q 0)), (1, .int (zI x1)), (2, .int (zI x2)), (3, .int (zI (c_fk (M 1) x1 6))), (4, .int (zI bs)), (5, .int (zI fw)), (6, .int (zI i)), (8, .int (zI nn)), (9, .int (zI k))]) hx hb dX6_look_113 hl (by decide) rfl (fun ls hl => ?_)
                    refine lv_iload hx hb dX6_look_115 (lv_at hl 9 rfl) ?_
                    refine lv_iload_n hx hb dX6_look_117 rfl (lv_at hl 5 rfl) ?_
                    refine lv_iload hx hb dX6_look_118 (lv_at hl 10 rfl) ?_
                    refine q_cSi (z := bz (hasB (c_fk (M 1) x1 6) k = true)) (As := [.int (zI (c_fk (M 1) x1 6)), .int (zI k)]) (rest := [.int (zI nn)]) ⟨hx, hb, hml, hown, hts⟩ (kX6_has l dC dI g tt (c_fk (M 1) x1 6) k (by omega)) (va_cwS 2 hts gX6_look_X6_has rfl rfl rfl (by decide +kernel) ⟨Nat.le_of_ble_eq_true rfl, Nat.le_of_ble_eq_true rfl⟩) (hP.sub (ws' := []) [] rfl) hK hT hS rfl hl.1 rfl (Nat.le_of_ble_eq_true rfl) dX6_look_120 ⟨Nat.le_of_ble_eq_true rfl, Nat.le_of_ble_eq_true rfl⟩ ?_
                    refine q_bz_eq (tgt := 135) hx hb dX6_look_123 (by decide) (fun c_15 => ?_) (fun c_15 => ?_)
                    · refine q_iconst hx hb dX6_look_135 ?_
                      refine q_iadd hx hb dX6_look_136 ?_
                      refine lv_istore (lv' := [(8, .int (zI (nn + 0))), (7, .int (zI (nt + 0))), (10, .int (zI 0)), (0, .ref (q 0)), (1, .int (zI x1)), (2, .int (zI x2)), (3, .int (zI (c_fk (M 1) x1 6))), (4, .int (zI bs)), (5, .int (zI fw)), (6, .int (zI i)), (9, .int (zI k))]) hx hb dX6_look_137 hl (by decide) rfl (fun ls hl => ?_)
                      refine lv_iinc (v := zI (k + 1)) (lv' := [(9, .int (zI (k + 1))), (8, .int (zI (nn + 0))), (7, .int (zI (nt + 0))), (10, .int (zI 0)), (0, .ref (q 0)), (1, .int (zI x1)), (2, .int (zI x2)), (3, .int (zI (c_fk (M 1) x1 6))), (4, .int (zI bs)), (5, .int (zI fw)), (6, .int (zI i))]) hx hb dX6_look_139 hl (k := 10) rfl (zI_add _ _) (by decide) rfl (fun ls hl => ?_)
                      refine lv_goto (tgt := 57) hx hb dX6_look_142 (by decide) ?_
                      exact ih57 (k + 1, nt + 0, nn + 0) ls ⟨(show 0 ≤ (k + 1) ∧ (k + 1) ≤ 6 from by omega), (show (nt + 0) = c_kt (M 1) (c_fk (M 1) x1 6) (M 1 (9 + x1)) x2 i (k + 1) from by first | (have h9 := kt1 (by omega) (by assumption) (by assumption) hnt; omega) | (have h9 := kt2 (by omega) (by assumption) hnt; omega) | (have h9 := kt3 (by omega) (by assumption) hnt; omega)), (show (nn + 0) = c_kn (M 1) (c_fk (M 1) x1 6) (M 1 (9 + x1)) x2 i (k + 1) from by first | (have h9 := kn1 (by omega) (by assumption) (by assumption) hnn; omega) | (have h9 := kn2 (by omega) (by assumption) hnn; omega) | (have h9 := kn3 (by omega) (by assumption) hnn; omega)), lv_sub hl [4, 5, 6, 7, 8, 9, 10, 2, 1, 0] rfl⟩ (by show (6 - (k + 1)).toNat < (6 - k).toNat; omega)
                    · refine lv_iload hx hb dX6_look_126 (lv_at hl 1 rfl) ?_
                      refine q_if_neF (tgt := 135) hx hb dX6_look_128 (by decide) (by decide) ?_
                      refine q_iconst hx hb dX6_look_131 ?_
                      refine lv_goto (tgt := 136) hx hb dX6_look_132 (by decide) ?_
                      refine q_iadd hx hb dX6_look_136 ?_
                      refine lv_istore (lv' := [(8, .int (zI (nn + 1))), (7, .int (zI (nt + 0))), (10, .int (zI 0)), (0, .ref (q 0)), (1, .int (zI x1)), (2, .int (zI x2)), (3, .int (zI (c_fk (M 1) x1 6))), (4, .int (zI bs)), (5, .int (zI fw)), (6, .int (zI i)), (9, .int (zI k))]) hx hb dX6_look_137 hl (by decide) rfl (fun ls hl => ?_)
                      refine lv_iinc (v := zI (k + 1)) (lv' := [(9, .int (zI (k + 1))), (8, .int (zI (nn + 1))), (7, .int (zI (nt + 0))), (10, .int (zI 0)), (0, .ref (q 0)), (1, .int (zI x1)), (2, .int (zI x2)), (3, .int (zI (c_fk (M 1) x1 6))), (4, .int (zI bs)), (5, .int (zI fw)), (6, .int (zI i))]) hx hb dX6_look_139 hl (k := 10) rfl (zI_add _ _) (by decide) rfl (fun ls hl => ?_)
                      refine lv_goto (tgt := 57) hx hb dX6_look_142 (by decide) ?_
                      exact ih57 (k + 1, nt + 0, nn + 1) ls ⟨(show 0 ≤ (k + 1) ∧ (k + 1) ≤ 6 from by omega), (show (nt + 0) = c_kt (M 1) (c_fk (M 1) x1 6) (M 1 (9 + x1)) x2 i (k + 1) from by first | (have h9 := kt1 (by omega) (by assumption) (by assumption) hnt; omega) | (have h9 := kt2 (by omega) (by assumption) hnt; omega) | (have h9 := kt3 (by omega) (by assumption) hnt; omega)), (show (nn + 1) = c_kn (M 1) (c_fk (M 1) x1 6) (M 1 (9 + x1)) x2 i (k + 1) from by first | (have h9 := kn1 (by omega) (by assumption) (by assumption) hnn; omega) | (have h9 := kn2 (by omega) (by assumption) hnn; omega) | (have h9 := kn3 (by omega) (by assumption) hnn; omega)), lv_sub hl [4, 5, 6, 7, 8, 9, 10, 2, 1, 0] rfl⟩ (by show (6 - (k + 1)).toNat < (6 - k).toNat; omega)
                  · refine lv_iload hx hb dX6_look_102 (lv_at hl 0 rfl) ?_
                    refine q_if_eqT (tgt := 111) hx hb dX6_look_104 (by decide) (by decide) ?_
                    refine q_iconst hx hb dX6_look_111 ?_
                    refine q_iadd hx hb dX6_look_112 ?_
                    refine lv_istore (lv' := [(7, .int (zI (nt + 0))), (10, .int (zI 0)), (0, .ref (q 0)), (1, .int (zI x1)), (2, .int (zI x2)), (3, .int (zI (c_fk (M 1) x1 6))), (4, .int (zI bs)), (5, .int (zI fw)), (6, .int (zI i)), (8, .int (zI nn)), (9, .int (zI k))]) hx hb dX6_look_113 hl (by decide) rfl (fun ls hl => ?_)
                    refine lv_iload hx hb dX6_look_115 (lv_at hl 9 rfl) ?_
                    refine lv_iload_n hx hb dX6_look_117 rfl (lv_at hl 5 rfl) ?_
                    refine lv_iload hx hb dX6_look_118 (lv_at hl 10 rfl) ?_
                    refine q_cSi (z := bz (hasB (c_fk (M 1) x1 6) k = true)) (As := [.int (zI (c_fk (M 1) x1 6)), .int (zI k)]) (rest := [.int (zI nn)]) ⟨hx, hb, hml, hown, hts⟩ (kX6_has l dC dI g tt (c_fk (M 1) x1 6) k (by omega)) (va_cwS 2 hts gX6_look_X6_has rfl rfl rfl (by decide +kernel) ⟨Nat.le_of_ble_eq_true rfl, Nat.le_of_ble_eq_true rfl⟩) (hP.sub (ws' := []) [] rfl) hK hT hS rfl hl.1 rfl (Nat.le_of_ble_eq_true rfl) dX6_look_120 ⟨Nat.le_of_ble_eq_true rfl, Nat.le_of_ble_eq_true rfl⟩ ?_
                    refine q_bz_eq (tgt := 135) hx hb dX6_look_123 (by decide) (fun c_16 => ?_) (fun c_16 => ?_)
                    · refine q_iconst hx hb dX6_look_135 ?_
                      refine q_iadd hx hb dX6_look_136 ?_
                      refine lv_istore (lv' := [(8, .int (zI (nn + 0))), (7, .int (zI (nt + 0))), (10, .int (zI 0)), (0, .ref (q 0)), (1, .int (zI x1)), (2, .int (zI x2)), (3, .int (zI (c_fk (M 1) x1 6))), (4, .int (zI bs)), (5, .int (zI fw)), (6, .int (zI i)), (9, .int (zI k))]) hx hb dX6_look_137 hl (by decide) rfl (fun ls hl => ?_)
                      refine lv_iinc (v := zI (k + 1)) (lv' := [(9, .int (zI (k + 1))), (8, .int (zI (nn + 0))), (7, .int (zI (nt + 0))), (10, .int (zI 0)), (0, .ref (q 0)), (1, .int (zI x1)), (2, .int (zI x2)), (3, .int (zI (c_fk (M 1) x1 6))), (4, .int (zI bs)), (5, .int (zI fw)), (6, .int (zI i))]) hx hb dX6_look_139 hl (k := 10) rfl (zI_add _ _) (by decide) rfl (fun ls hl => ?_)
                      refine lv_goto (tgt := 57) hx hb dX6_look_142 (by decide) ?_
                      exact ih57 (k + 1, nt + 0, nn + 0) ls ⟨(show 0 ≤ (k + 1) ∧ (k + 1) ≤ 6 from by omega), (show (nt + 0) = c_kt (M 1) (c_fk (M 1) x1 6) (M 1 (9 + x1)) x2 i (k + 1) from by first | (have h9 := kt1 (by omega) (by assumption) (by assumption) hnt; omega) | (have h9 := kt2 (by omega) (by assumption) hnt; omega) | (have h9 := kt3 (by omega) (by assumption) hnt; omega)), (show (nn + 0) = c_kn (M 1) (c_fk (M 1) x1 6) (M 1 (9 + x1)) x2 i (k + 1) from by first | (have h9 := kn1 (by omega) (by assumption) (by assumption) hnn; omega) | (have h9 := kn2 (by omega) (by assumption) hnn; omega) | (have h9 := kn3 (by omega) (by assumption) hnn; omega)), lv_sub hl [4, 5, 6, 7, 8, 9, 10, 2, 1, 0] rfl⟩ (by show (6 - (k + 1)).toNat < (6 - k).toNat; omega)
                    · refine lv_iload hx hb dX6_look_126 (lv_at hl 1 rfl) ?_
                      refine q_if_neF (tgt := 135) hx hb dX6_look_128 (by decide) (by decide) ?_
                      refine q_iconst hx hb dX6_look_131 ?_
                      refine lv_goto (tgt := 136) hx hb dX6_look_132 (by decide) ?_
                      refine q_iadd hx hb dX6_look_136 ?_
                      refine lv_istore (lv' := [(8, .int (zI (nn + 1))), (7, .int (zI (nt + 0))), (10, .int (zI 0)), (0, .ref (q 0)), (1, .int (zI x1)), (2, .int (zI x2)), (3, .int (zI (c_fk (M 1) x1 6))), (4, .int (zI bs)), (5, .int (zI fw)), (6, .int (zI i)), (9, .int (zI k))]) hx hb dX6_look_137 hl (by decide) rfl (fun ls hl => ?_)
                      refine lv_iinc (v := zI (k + 1)) (lv' := [(9, .int (zI (k + 1))), (8, .int (zI (nn + 1))), (7, .int (zI (nt + 0))), (10, .int (zI 0)), (0, .ref (q 0)), (1, .int (zI x1)), (2, .int (zI x2)), (3, .int (zI (c_fk (M 1) x1 6))), (4, .int (zI bs)), (5, .int (zI fw)), (6, .int (zI i))]) hx hb dX6_look_139 hl (k := 10) rfl (zI_add _ _) (by decide) rfl (fun ls hl => ?_)
                      refine lv_goto (tgt := 57) hx hb dX6_look_142 (by decide) ?_
                      exact ih57 (k + 1, nt + 0, nn + 1) ls ⟨(show 0 ≤ (k + 1) ∧ (k + 1) ≤ 6 from by omega), (show (nt + 0) = c_kt (M 1) (c_fk (M 1) x1 6) (M 1 (9 + x1)) x2 i (k + 1) from by first | (have h9 := kt1 (by omega) (by assumption) (by assumption) hnt; omega) | (have h9 := kt2 (by omega) (by assumption) hnt; omega) | (have h9 := kt3 (by omega) (by assumption) hnt; omega)), (show (nn + 1) = c_kn (M 1) (c_fk (M 1) x1 6) (M 1 (9 + x1)) x2 i (k + 1) from by first | (have h9 := kn1 (by omega) (by assumption) (by assumption) hnn; omega) | (have h9 := kn2 (by omega) (by assumption) hnn; omega) | (have h9 := kn3 (by omega) (by assumption) hnn; omega)), lv_sub hl [4, 5, 6, 7, 8, 9, 10, 2, 1, 0] rfl⟩ (by show (6 - (k + 1)).toNat < (6 - k).toNat; omega)
                · refine q_iconst hx hb dX6_look_84 ?_
                  refine lv_goto (tgt := 89) hx hb dX6_look_85 (by decide) ?_
                  refine lv_istore (lv' := [(10, .int (zI 1)), (0, .ref (q 0)), (1, .int (zI x1)), (2, .int (zI x2)), (3, .int (zI (c_fk (M 1) x1 6))), (4, .int (zI bs)), (5, .int (zI fw)), (6, .int (zI i)), (7, .int (zI nt)), (8, .int (zI nn)), (9, .int (zI k))]) hx hb dX6_look_89 hl (by decide) rfl (fun ls hl => ?_)
                  refine lv_iload hx hb dX6_look_91 (lv_at hl 8 rfl) ?_
                  refine lv_iload_n hx hb dX6_look_93 rfl (lv_at hl 4 rfl) ?_
                  refine lv_iload hx hb dX6_look_94 (lv_at hl 10 rfl) ?_
                  refine q_cSi (z := bz (hasB (c_fk (M 1) x1 6) k = true)) (As := [.int (zI (c_fk (M 1) x1 6)), .int (zI k)]) (rest := [.int (zI nt)]) ⟨hx, hb, hml, hown, hts⟩ (kX6_has l dC dI g tt (c_fk (M 1) x1 6) k (by omega)) (va_cwS 2 hts gX6_look_X6_has rfl rfl rfl (by decide +kernel) ⟨Nat.le_of_ble_eq_true rfl, Nat.le_of_ble_eq_true rfl⟩) (hP.sub (ws' := []) [] rfl) hK hT hS rfl hl.1 rfl (Nat.le_of_ble_eq_true rfl) dX6_look_96 ⟨Nat.le_of_ble_eq_true rfl, Nat.le_of_ble_eq_true rfl⟩ ?_
                  refine q_bz_eq (tgt := 111) hx hb dX6_look_99 (by decide) (fun c_17 => ?_) (fun c_17 => ?_)
                  · refine q_iconst hx hb dX6_look_111 ?_
                    refine q_iadd hx hb dX6_look_112 ?_
                    refine lv_istore (lv' := [(7, .int (zI (nt + 0))), (10, .int (zI 1)), (0, .ref (q 0)), (1, .int (zI x1)), (2, .int (zI x2)), (3, .int (zI (c_fk (M 1) x1 6))), (4, .int (zI bs)), (5, .int (zI fw)), (6, .int (zI i)), (8, .int (zI nn)), (9, .int (zI k))]) hx hb dX6_look_113 hl (by decide) rfl (fun ls hl => ?_)
                    refine lv_iload hx hb dX6_look_115 (lv_at hl 9 rfl) ?_
                    refine lv_iload_n hx hb dX6_look_117 rfl (lv_at hl 5 rfl) ?_
                    refine lv_iload hx hb dX6_look_118 (lv_at hl 10 rfl) ?_
                    refine q_cSi (z := bz (hasB (c_fk (M 1) x1 6) k = true)) (As := [.int (zI (c_fk (M 1) x1 6)), .int (zI k)]) (rest := [.int (zI nn)]) ⟨hx, hb, hml, hown, hts⟩ (kX6_has l dC dI g tt (c_fk (M 1) x1 6) k (by omega)) (va_cwS 2 hts gX6_look_X6_has rfl rfl rfl (by decide +kernel) ⟨Nat.le_of_ble_eq_true rfl, Nat.le_of_ble_eq_true rfl⟩) (hP.sub (ws' := []) [] rfl) hK hT hS rfl hl.1 rfl (Nat.le_of_ble_eq_true rfl) dX6_look_120 ⟨Nat.le_of_ble_eq_true rfl, Nat.le_of_ble_eq_true rfl⟩ ?_
                    refine q_bz_eq (tgt := 135) hx hb dX6_look_123 (by decide) (fun c_18 => ?_) (fun c_18 => ?_)
                    · refine q_iconst hx hb dX6_look_135 ?_
                      refine q_iadd hx hb dX6_look_136 ?_
                      refine lv_istore (lv' := [(8, .int (zI (nn + 0))), (7, .int (zI (nt + 0))), (10, .int (zI 1)), (0, .ref (q 0)), (1, .int (zI x1)), (2, .int (zI x2)), (3, .int (zI (c_fk (M 1) x1 6))), (4, .int (zI bs)), (5, .int (zI fw)), (6, .int (zI i)), (9, .int (zI k))]) hx hb dX6_look_137 hl (by decide) rfl (fun ls hl => ?_)
                      refine lv_iinc (v := zI (k + 1)) (lv' := [(9, .int (zI (k + 1))), (8, .int (zI (nn + 0))), (7, .int (zI (nt + 0))), (10, .int (zI 1)), (0, .ref (q 0)), (1, .int (zI x1)), (2, .int (zI x2)), (3, .int (zI (c_fk (M 1) x1 6))), (4, .int (zI bs)), (5, .int (zI fw)), (6, .int (zI i))]) hx hb dX6_look_139 hl (k := 10) rfl (zI_add _ _) (by decide) rfl (fun ls hl => ?_)
                      refine lv_goto (tgt := 57) hx hb dX6_look_142 (by decide) ?_
                      exact ih57 (k + 1, nt + 0, nn + 0) ls ⟨(show 0 ≤ (k + 1) ∧ (k + 1) ≤ 6 from by omega), (show (nt + 0) = c_kt (M 1) (c_fk (M 1) x1 6) (M 1 (9 + x1)) x2 i (k + 1) from by first | (have h9 := kt1 (by omega) (by assumption) (by assumption) hnt; omega) | (have h9 := kt2 (by omega) (by assumption) hnt; omega) | (have h9 := kt3 (by omega) (by assumption) hnt; omega)), (show (nn + 0) = c_kn (M 1) (c_fk (M 1) x1 6) (M 1 (9 + x1)) x2 i (k + 1) from by first | (have h9 := kn1 (by omega) (by assumption) (by assumption) hnn; omega) | (have h9 := kn2 (by omega) (by assumption) hnn; omega) | (have h9 := kn3 (by omega) (by assumption) hnn; omega)), lv_sub hl [4, 5, 6, 7, 8, 9, 10, 2, 1, 0] rfl⟩ (by show (6 - (k + 1)).toNat < (6 - k).toNat; omega)
                    · refine lv_iload hx hb dX6_look_126 (lv_at hl 1 rfl) ?_
                      refine q_if_neT (tgt := 135) hx hb dX6_look_128 (by decide) (by decide) ?_
                      refine q_iconst hx hb dX6_look_135 ?_
                      refine q_iadd hx hb dX6_look_136 ?_
                      refine lv_istore (lv' := [(8, .int (zI (nn + 0))), (7, .int (zI (nt + 0))), (10, .int (zI 1)), (0, .ref (q 0)), (1, .int (zI x1)), (2, .int (zI x2)), (3, .int (zI (c_fk (M 1) x1 6))), (4, .int (zI bs)), (5, .int (zI fw)), (6, .int (zI i)), (9, .int (zI k))]) hx hb dX6_look_137 hl (by decide) rfl (fun ls hl => ?_)
                      refine lv_iinc (v := zI (k + 1)) (lv' := [(9, .int (zI (k + 1))), (8, .int (zI (nn + 0))), (7, .int (zI (nt + 0))), (10, .int (zI 1)), (0, .ref (q 0)), (1, .int (zI x1)), (2, .int (zI x2)), (3, .int (zI (c_fk (M 1) x1 6))), (4, .int (zI bs)), (5, .int (zI fw)), (6, .int (zI i))]) hx hb dX6_look_139 hl (k := 10) rfl (zI_add _ _) (by decide) rfl (fun ls hl => ?_)
                      refine lv_goto (tgt := 57) hx hb dX6_look_142 (by decide) ?_
                      exact ih57 (k + 1, nt + 0, nn + 0) ls ⟨(show 0 ≤ (k + 1) ∧ (k + 1) ≤ 6 from by omega), (show (nt + 0) = c_kt (M 1) (c_fk (M 1) x1 6) (M 1 (9 + x1)) x2 i (k + 1) from by first | (have h9 := kt1 (by omega) (by assumption) (by assumption) hnt; omega) | (have h9 := kt2 (by omega) (by assumption) hnt; omega) | (have h9 := kt3 (by omega) (by assumption) hnt; omega)), (show (nn + 0) = c_kn (M 1) (c_fk (M 1) x1 6) (M 1 (9 + x1)) x2 i (k + 1) from by first | (have h9 := kn1 (by omega) (by assumption) (by assumption) hnn; omega) | (have h9 := kn2 (by omega) (by assumption) hnn; omega) | (have h9 := kn3 (by omega) (by assumption) hnn; omega)), lv_sub hl [4, 5, 6, 7, 8, 9, 10, 2, 1, 0] rfl⟩ (by show (6 - (k + 1)).toNat < (6 - k).toNat; omega)
                  · refine lv_iload hx hb dX6_look_102 (lv_at hl 0 rfl) ?_
                    refine q_if_eqF (tgt := 111) hx hb dX6_look_104 (by decide) (by decide) ?_
                    refine q_iconst hx hb dX6_look_107 ?_
                    refine lv_goto (tgt := 112) hx hb dX6_look_108 (by decide) ?_
                    refine q_iadd hx hb dX6_look_112 ?_
                    refine lv_istore (lv' := [(7, .int (zI (nt + 1))), (10, .int (zI 1)), (0, .ref (q 0)), (1, .int (zI x1)), (2, .int (zI x2)), (3, .int (zI (c_fk (M 1) x1 6))), (4, .int (zI bs)), (5, .int (zI fw)), (6, .int (zI i)), (8, .int (zI nn)), (9, .int (zI k))]) hx hb dX6_look_113 hl (by decide) rfl (fun ls hl => ?_)
                    refine lv_iload hx hb dX6_look_115 (lv_at hl 9 rfl) ?_
                    refine lv_iload_n hx hb dX6_look_117 rfl (lv_at hl 5 rfl) ?_
                    refine lv_iload hx hb dX6_look_118 (lv_at hl 10 rfl) ?_
                    refine q_cSi (z := bz (hasB (c_fk (M 1) x1 6) k = true)) (As := [.int (zI (c_fk (M 1) x1 6)), .int (zI k)]) (rest := [.int (zI nn)]) ⟨hx, hb, hml, hown, hts⟩ (kX6_has l dC dI g tt (c_fk (M 1) x1 6) k (by omega)) (va_cwS 2 hts gX6_look_X6_has rfl rfl rfl (by decide +kernel) ⟨Nat.le_of_ble_eq_true rfl, Nat.le_of_ble_eq_true rfl⟩) (hP.sub (ws' := []) [] rfl) hK hT hS rfl hl.1 rfl (Nat.le_of_ble_eq_true rfl) dX6_look_120 ⟨Nat.le_of_ble_eq_true rfl, Nat.le_of_ble_eq_true rfl⟩ ?_
                    refine q_bz_eq (tgt := 135) hx hb dX6_look_123 (by decide) (fun c_19 => ?_) (fun c_19 => ?_)
                    · refine q_iconst hx hb dX6_look_135 ?_
                      refine q_iadd hx hb dX6_look_136 ?_
                      refine lv_istore (lv' := [(8, .int (zI (nn + 0))), (7, .int (zI (nt + 1))), (10, .int (zI 1)), (0, .ref (q 0)), (1, .int (zI x1)), (2, .int (zI x2)), (3, .int (zI (c_fk (M 1) x1 6))), (4, .int (zI bs)), (5, .int (zI fw)), (6, .int (zI i)), (9, .int (zI k))]) hx hb dX6_look_137 hl (by decide) rfl (fun ls hl => ?_)
                      refine lv_iinc (v := zI (k + 1)) (lv' := [(9, .int (zI (k + 1))), (8, .int (zI (nn + 0))), (7, .int (zI (nt + 1))), (10, .int (zI 1)), (0, .ref (q 0)), (1, .int (zI x1)), (2, .int (zI x2)), (3, .int (zI (c_fk (M 1) x1 6))), (4, .int (zI bs)), (5, .int (zI fw)), (6, .int (zI i))]) hx hb dX6_look_139 hl (k := 10) rfl (zI_add _ _) (by decide) rfl (fun ls hl => ?_)
                      refine lv_goto (tgt := 57) hx hb dX6_look_142 (by decide) ?_
                      exact ih57 (k + 1, nt + 1, nn + 0) ls ⟨(show 0 ≤ (k + 1) ∧ (k + 1) ≤ 6 from by omega), (show (nt + 1) = c_kt (M 1) (c_fk (M 1) x1 6) (M 1 (9 + x1)) x2 i (k + 1) from by first | (have h9 := kt1 (by omega) (by assumption) (by assumption) hnt; omega) | (have h9 := kt2 (by omega) (by assumption) hnt; omega) | (have h9 := kt3 (by omega) (by assumption) hnt; omega)), (show (nn + 0) = c_kn (M 1) (c_fk (M 1) x1 6) (M 1 (9 + x1)) x2 i (k + 1) from by first | (have h9 := kn1 (by omega) (by assumption) (by assumption) hnn; omega) | (have h9 := kn2 (by omega) (by assumption) hnn; omega) | (have h9 := kn3 (by omega) (by assumption) hnn; omega)), lv_sub hl [4, 5, 6, 7, 8, 9, 10, 2, 1, 0] rfl⟩ (by show (6 - (k + 1)).toNat < (6 - k).toNat; omega)
                    · refine lv_iload hx hb dX6_look_126 (lv_at hl 1 rfl) ?_
                      refine q_if_neT (tgt := 135) hx hb dX6_look_128 (by decide) (by decide) ?_
                      refine q_iconst hx hb dX6_look_135 ?_
                      refine q_iadd hx hb dX6_look_136 ?_
                      refine lv_istore (lv' := [(8, .int (zI (nn + 0))), (7, .int (zI (nt + 1))), (10, .int (zI 1)), (0, .ref (q 0)), (1, .int (zI x1)), (2, .int (zI x2)), (3, .int (zI (c_fk (M 1) x1 6))), (4, .int (zI bs)), (5, .int (zI fw)), (6, .int (zI i)), (9, .int (zI k))]) hx hb dX6_look_137 hl (by decide) rfl (fun ls hl => ?_)
                      refine lv_iinc (v := zI (k + 1)) (lv' := [(9, .int (zI (k + 1))), (8, .int (zI (nn + 0))), (7, .int (zI (nt + 1))), (10, .int (zI 1)), (0, .ref (q 0)), (1, .int (zI x1)), (2, .int (zI x2)), (3, .int (zI (c_fk (M 1) x1 6))), (4, .int (zI bs)), (5, .int (zI fw)), (6, .int (zI i))]) hx hb dX6_look_139 hl (k := 10) rfl (zI_add _ _) (by decide) rfl (fun ls hl => ?_)
                      refine lv_goto (tgt := 57) hx hb dX6_look_142 (by decide) ?_
                      exact ih57 (k + 1, nt + 1, nn + 0) ls ⟨(show 0 ≤ (k + 1) ∧ (k + 1) ≤ 6 from by omega), (show (nt + 1) = c_kt (M 1) (c_fk (M 1) x1 6) (M 1 (9 + x1)) x2 i (k + 1) from by first | (have h9 := kt1 (by omega) (by assumption) (by assumption) hnt; omega) | (have h9 := kt2 (by omega) (by assumption) hnt; omega) | (have h9 := kt3 (by omega) (by assumption) hnt; omega)), (show (nn + 0) = c_kn (M 1) (c_fk (M 1) x1 6) (M 1 (9 + x1)) x2 i (k + 1) from by first | (have h9 := kn1 (by omega) (by assumption) (by assumption) hnn; omega) | (have h9 := kn2 (by omega) (by assumption) hnn; omega) | (have h9 := kn3 (by omega) (by assumption) hnn; omega)), lv_sub hl [4, 5, 6, 7, 8, 9, 10, 2, 1, 0] rfl⟩ (by show (6 - (k + 1)).toNat < (6 - k).toNat; omega)
            · exact ⟨(show 0 ≤ 0 ∧ 0 ≤ 6 from by omega), (show 0 = c_kt (M 1) (c_fk (M 1) x1 6) (M 1 (9 + x1)) x2 i 0 from rfl), (show 0 = c_kn (M 1) (c_fk (M 1) x1 6) (M 1 (9 + x1)) x2 i 0 from rfl), lv_sub hl [3, 4, 5, 6, 7, 8, 9, 2, 1, 0] rfl⟩
      · exact ⟨(show 0 ≤ 0 ∧ 0 ≤ 31 from by omega), (show ((-1), 1000000) = itR (mlkS (M 1) x1 x2) (-1, 1000000) 0 from rfl), (show c_fk (M 1) x1 6 = 0 → (-1) = -1 from fun _ => rfl), (show 0 ≤ 1000000 ∧ 1000000 ≤ 1000000 from by omega), lv_sub hl [4, 5, 6, 3, 2, 1, 0] rfl⟩
    · refine lv_aload_n hx hb dX6_look_16 rfl (lv_at hl 0 rfl) ?_
      refine q_cEi (z := -2) (b := (q 0)) (As := []) (rest := []) (w1 := wMo g q (mbad M)) ⟨hx, hb, hml, hown, hts⟩ hP hD hK hT hS hA (kX6_bad l dC dI g tt _ q M) (cwV 0 hts gX6_look_X6_bad rfl rfl rfl (by decide +kernel) ⟨Nat.le_of_ble_eq_true rfl, Nat.le_of_ble_eq_true rfl⟩) 0 5 rfl rfl rfl rfl hl.1 rfl (Nat.le_of_ble_eq_true rfl) dX6_look_17 ⟨Nat.le_of_ble_eq_true rfl, Nat.le_of_ble_eq_true rfl⟩ (fun H locs hP hD hS => ?_)
      have hPf : va_P (dC, dI) vwCl (wMo g q (m_look M x1 x2)) H := by rw [(show (m_look M x1 x2) = mbad M from by unfold m_look; (repeat' split) <;> first | rfl | (exfalso; omega))]; exact hP
      have hDf : va_D A (wMo g q (m_look M x1 x2)) := by rw [(show (m_look M x1 x2) = mbad M from by unfold m_look; (repeat' split) <;> first | rfl | (exfalso; omega))]; exact hD
      exact W.iret hx hb hr (fun t9 ht9 hW9 => ⟨⟨_, (), rfl, congrArg zI (show -2 = ma_look (M 1) x1 x2 from by unfold ma_look; first | (rw [if_neg (by omega)]; done) | (rw [if_pos (by omega)]; rcases Decidable.em (c_fk (M 1) x1 6 = 0) with h9 | h9; (rw [if_pos h9]; exact hz h9); (rw [if_neg h9, show (31 : Int) = i by omega, ← hs]))), by rw [ht9]; exact hPf, va_K.moved hW9.alike hK, hDf⟩, hS.F ht9⟩) hS.2.2 dX6_look_20
set_option maxHeartbeats 4000000 in
set_option maxRecDepth 100000 in
theorem kX6_days (l : Launch) (dC : Nat → ClassId) (dI : Nat → Nat → Nat) (g : Nat → ClassId) (tt : Nat → Nat) (sz : Nat) (q : Nat → Nat) (M : Nat → Int → Int) (x1 x2 x3 : Int) (hw : hok (M 1)) (h1 : rI x1 ∧ rI x2 ∧ rI x3) : Met l yX6_days wsX6_days ({ frames := 6, cells := 0, slots := 0, locals := 142 }) (va_Pc [.ref (q 0), .int (zI x1), .int (zI x2), .int (zI x3)] (eQ (dC, dI) (wTy g) (wMo g q M) tt sz)) (va_Qi (fun r (_ : Unit) => r = zI (ca_days (M 1) x1 x2 x3)) (fQ (dC, dI) (wTy g) (va_A (wMo g q M) sz) (wMo g q (m_days M x1 x2 x3))) (va_A (wMo g q M) sz)) 0 0 (va_A (wMo g q M) sz) := by
  refine Met.ofW (cc := cX6_days) (maxL := 9) (ret := (some .int)) (by decide) rfl ?_
  intro p e s m args below meth c s₁ B hml hv
  obtain ⟨rfl, hsz, hP, hK, hD0, hT⟩ := hv
  have hx := B.exec
  have hb := B.bytes
  have hr := B.returns
  have hts := atoms_spec (ws := wsX6_days) B.pre
  have hown : s.vm.findClass RX6 = some m.cls := findClass_of_methodNamed B.named
  have hlocks := B.notSynchronized
  subst hsz
  have hD := hD0.self (sz := s.heap.size)
  generalize hAe : va_A (wMo g q M) s.heap.size = A at hD hT ⊢
  have hA : ∀ q : Nat, s.heap.size ≤ q → A q := fun q h => by rw [← hAe]; exact Or.inr h
  have hS : va_S A s.heap s.heap [] := va_S.rf
  have hl := lv_entry ([.ref (q 0), .int (zI x1), .int (zI x2), .int (zI x3)]) (n := 9) (Nat.le_of_ble_eq_true rfl)
  rw [lg_entry_eq]
  generalize (lg_sl ([.ref (q 0), .int (zI x1), .int (zI x2), .int (zI x3)]) ++ List.replicate (9 - (lg_sl ([.ref (q 0), .int (zI x1), .int (zI x2), .int (zI x3)])).length) Slot.unset).toArray = ls at hl ⊢
  have hl : lv_has ls 9 [(0, .ref (q 0)), (1, .int (zI x1)), (2, .int (zI x2)), (3, .int (zI x3))] := hl
  have kc194 := hts (.constantLong RX6 194 (60)) (by decide +kernel)
  have kc206 := hts (.constantLong RX6 206 (999999)) (by decide +kernel)
  have kc208 := hts (.constantLong RX6 208 (1103515245)) (by decide +kernel)
  have kc210 := hts (.constantLong RX6 210 (12345)) (by decide +kernel)
  have kc212 := hts (.constantLong RX6 212 (2147483648)) (by decide +kernel)
  have kc214 := hts (.constantLong RX6 214 (65536)) (by decide +kernel)
  have kc216 := hts (.constantLong RX6 216 (120)) (by decide +kernel)
  have kf161 := hts (.fieldLink RX6 161 "WrongWayModel" "comer" "I") (by decide +kernel)
  have kf164 := hts (.fieldLink RX6 164 "WrongWayModel" "coming" "I") (by decide +kernel)
  have iX6 := (fun w h => List.mem_cons_of_mem _ (List.mem_append_right _ h) : ∀ w ∈ u_ws RX6 TX6 15, w ∈ wsX6_days)
  have hb0 := hw.b
  refine lv_aload_n hx hb dX6_days_0 rfl (lv_at hl 0 rfl) ?_
  refine lv_iload_n hx hb dX6_days_1 rfl (lv_at hl 1 rfl) ?_
  refine q_cVi (z := bz (0 ≤ x1 ∧ x1 ≤ M 1 1)) (b := (q 0)) (As := [.int (zI x1)]) (rest := []) ⟨hx, hb, hml, hown, hts⟩ (kX6_isFloor l dC dI g tt q M x1 (hw) (by omega)) (cwV 1 hts gX6_days_X6_isFloor rfl rfl rfl (by decide +kernel) ⟨Nat.le_of_ble_eq_true rfl, Nat.le_of_ble_eq_true rfl⟩) hP hK hT hS 0 5 rfl rfl rfl rfl hl.1 rfl (Nat.le_of_ble_eq_true rfl) dX6_days_2 ⟨Nat.le_of_ble_eq_true rfl, Nat.le_of_ble_eq_true rfl⟩ ?_
  refine q_bz_eq (tgt := 32) hx hb dX6_days_5 (by decide) (fun c_1 => ?_) (fun c_1 => ?_)
  · refine lv_aload_n hx hb dX6_days_32 rfl (lv_at hl 0 rfl) ?_
    refine q_cEi (z := -2) (b := (q 0)) (As := []) (rest := []) (w1 := wMo g q (mbad M)) ⟨hx, hb, hml, hown, hts⟩ hP hD hK hT hS hA (kX6_bad l dC dI g tt _ q M) (cwV 0 hts gX6_days_X6_bad rfl rfl rfl (by decide +kernel) ⟨Nat.le_of_ble_eq_true rfl, Nat.le_of_ble_eq_true rfl⟩) 0 5 rfl rfl rfl rfl hl.1 rfl (Nat.le_of_ble_eq_true rfl) dX6_days_33 ⟨Nat.le_of_ble_eq_true rfl, Nat.le_of_ble_eq_true rfl⟩ (fun H locs hP hD hS => ?_)
    have hPf : va_P (dC, dI) vwCl (wMo g q (m_days M x1 x2 x3)) H := by rw [(show (m_days M x1 x2 x3) = mbad M from by first | (unfold m_days; rw [if_neg (by omega)]; done) | (unfold m_days; rw [if_pos (by omega), show x3 = i by omega]))]; exact hP
    have hDf : va_D A (wMo g q (m_days M x1 x2 x3)) := by rw [(show (m_days M x1 x2 x3) = mbad M from by first | (unfold m_days; rw [if_neg (by omega)]; done) | (unfold m_days; rw [if_pos (by omega), show x3 = i by omega]))]; exact hD
    exact W.iret hx hb hr (fun t9 ht9 hW9 => ⟨⟨_, (), rfl, congrArg zI (show -2 = ca_days (M 1) x1 x2 x3 from by first | (unfold ca_days; rw [if_neg (by omega)]; done) | (unfold ca_days; rw [if_pos (by omega), show x3 = i by omega, ← hs])), by rw [ht9]; exact hPf, va_K.moved hW9.alike hK, hDf⟩, hS.F ht9⟩) hS.2.2 dX6_days_36
  · refine lv_iload_n hx hb dX6_days_8 rfl (lv_at hl 2 rfl) ?_
    refine q_i2l hx hb dX6_days_9 (by omega) ?_
    refine q_lconst hx hb 0 dX6_days_10 rfl ?_
    refine q_ldc2 hx hb 999999 hown kc206 (by decide) dX6_days_11 ?_
    refine q_cSi (z := bz (0 ≤ x2 ∧ x2 ≤ 999999)) (As := [.long (zL x2), .long (zL 0), .long (zL 999999)]) (rest := []) ⟨hx, hb, hml, hown, hts⟩ (kX6_in l dC dI g tt x2 0 999999 (by omega)) (va_cwS 3 hts gX6_days_X6_in rfl rfl rfl (by decide +kernel) ⟨Nat.le_of_ble_eq_true rfl, Nat.le_of_ble_eq_true rfl⟩) (hP.sub (ws' := []) [] rfl) hK hT hS rfl hl.1 rfl (Nat.le_of_ble_eq_true rfl) dX6_days_14 ⟨Nat.le_of_ble_eq_true rfl, Nat.le_of_ble_eq_true rfl⟩ ?_
    refine q_bz_eq (tgt := 32) hx hb dX6_days_17 (by decide) (fun c_2 => ?_) (fun c_2 => ?_)
    · refine lv_aload_n hx hb dX6_days_32 rfl (lv_at hl 0 rfl) ?_
      refine q_cEi (z := -2) (b := (q 0)) (As := []) (rest := []) (w1 := wMo g q (mbad M)) ⟨hx, hb, hml, hown, hts⟩ hP hD hK hT hS hA (kX6_bad l dC dI g tt _ q M) (cwV 0 hts gX6_days_X6_bad rfl rfl rfl (by decide +kernel) ⟨Nat.le_of_ble_eq_true rfl, Nat.le_of_ble_eq_true rfl⟩) 0 5 rfl rfl rfl rfl hl.1 rfl (Nat.le_of_ble_eq_true rfl) dX6_days_33 ⟨Nat.le_of_ble_eq_true rfl, Nat.le_of_ble_eq_true rfl⟩ (fun H locs hP hD hS => ?_)
      have hPf : va_P (dC, dI) vwCl (wMo g q (m_days M x1 x2 x3)) H := by rw [(show (m_days M x1 x2 x3) = mbad M from by first | (unfold m_days; rw [if_neg (by omega)]; done) | (unfold m_days; rw [if_pos (by omega), show x3 = i by omega]))]; exact hP
      have hDf : va_D A (wMo g q (m_days M x1 x2 x3)) := by rw [(show (m_days M x1 x2 x3) = mbad M from by first | (unfold m_days; rw [if_neg (by omega)]; done) | (unfold m_days; rw [if_pos (by omega), show x3 = i by omega]))]; exact hD
      exact W.iret hx hb hr (fun t9 ht9 hW9 => ⟨⟨_, (), rfl, congrArg zI (show -2 = ca_days (M 1) x1 x2 x3 from by first | (unfold ca_days; rw [if_neg (by omega)]; done) | (unfold ca_days; rw [if_pos (by omega), show x3 = i by omega, ← hs])), by rw [ht9]; exact hPf, va_K.moved hW9.alike hK, hDf⟩, hS.F ht9⟩) hS.2.2 dX6_days_36
    · refine lv_iload_n hx hb dX6_days_20 rfl (lv_at hl 3 rfl) ?_
      refine q_i2l hx hb dX6_days_21 (by omega) ?_
      refine q_lconst hx hb 0 dX6_days_22 rfl ?_
      refine q_ldc2 hx hb 60 hown kc194 (by decide) dX6_days_23 ?_
      refine q_cSi (z := bz (0 ≤ x3 ∧ x3 ≤ 60)) (As := [.long (zL x3), .long (zL 0), .long (zL 60)]) (rest := []) ⟨hx, hb, hml, hown, hts⟩ (kX6_in l dC dI g tt x3 0 60 (by omega)) (va_cwS 3 hts gX6_days_X6_in rfl rfl rfl (by decide +kernel) ⟨Nat.le_of_ble_eq_true rfl, Nat.le_of_ble_eq_true rfl⟩) (hP.sub (ws' := []) [] rfl) hK hT hS rfl hl.1 rfl (Nat.le_of_ble_eq_true rfl) dX6_days_26 ⟨Nat.le_of_ble_eq_true rfl, Nat.le_of_ble_eq_true rfl⟩ ?_
      refine q_bz_ne (tgt := 37) hx hb dX6_days_29 (by decide) (fun c_3 => ?_) (fun c_3 => ?_)
      · refine lv_iload_n hx hb dX6_days_37 rfl (lv_at hl 2 rfl) ?_
        refine q_i2l hx hb dX6_days_38 (by omega) ?_
        refine lv_lstore (lv' := [(4, .long (zL x2)), (0, .ref (q 0)), (1, .int (zI x1)), (2, .int (zI x2)), (3, .int (zI x3))]) hx hb dX6_days_39 hl (by decide) rfl (fun ls hl => ?_)
        refine q_iconst hx hb dX6_days_41 ?_
        refine lv_istore (lv' := [(6, .int (zI 0)), (4, .long (zL x2)), (0, .ref (q 0)), (1, .int (zI x1)), (2, .int (zI x2)), (3, .int (zI x3))]) hx hb dX6_days_42 hl (by decide) rfl (fun ls hl => ?_)
        refine q_iconst hx hb dX6_days_44 ?_
        refine lv_istore (lv' := [(7, .int (zI 0)), (6, .int (zI 0)), (4, .long (zL x2)), (0, .ref (q 0)), (1, .int (zI x1)), (2, .int (zI x2)), (3, .int (zI x3))]) hx hb dX6_days_45 hl (by decide) rfl (fun ls hl => ?_)
        refine w_loopQ (σ := Int × Int × Int) (fun a9 H locs ls => (0 ≤ a9.1 ∧ a9.1 ≤ x3) ∧ ((a9.2.1, a9.2.2) = itR (dyS (M 1) x1) (x2, 0) a9.1) ∧ (a9.2.1 = (itR (fun _ s => (dyX s.1, cgS (M 1) x1 (-1) (dyM s.1) s.2)) (x2, (M 0 7, M 0 8)) a9.1).1) ∧ (0 ≤ a9.2.1 ∧ a9.2.1 < 2147483648) ∧ (0 ≤ a9.2.2 ∧ a9.2.2 ≤ a9.1) ∧ va_P (dC, dI) vwCl (wMo g q (m78 M (itR (fun _ s => (dyX s.1, cgS (M 1) x1 (-1) (dyM s.1) s.2)) (x2, (M 0 7, M 0 8)) a9.1).2)) H ∧ va_D A (wMo g q (m78 M (itR (fun _ s => (dyX s.1, cgS (M 1) x1 (-1) (dyM s.1) s.2)) (x2, (M 0 7, M 0 8)) a9.1).2)) ∧ va_S A s.heap H locs ∧ lv_has ls 9 [(0, .ref (q 0)), (1, .int (zI x1)), (2, .int (zI x2)), (3, .int (zI x3)), (4, .long (zL a9.2.1)), (6, .int (zI a9.2.2)), (7, .int (zI a9.1))]) (fun a9 => (x3 - a9.1).toNat) ?_ (0, x2, 0) ?_
        · rintro ⟨i, x, u⟩ H locs ls ⟨hi, hs, hq, hx2, hu, hP, hD, hS, hl⟩ ih47
          have hi : 0 ≤ i ∧ i ≤ x3 := hi
          have hs : (x, u) = itR (dyS (M 1) x1) (x2, 0) i := hs
          have hq : x = (itR (fun _ s => (dyX s.1, cgS (M 1) x1 (-1) (dyM s.1) s.2)) (x2, (M 0 7, M 0 8)) i).1 := hq
          have hx2 : 0 ≤ x ∧ x < 2147483648 := hx2
          have hu : 0 ≤ u ∧ u ≤ i := hu
          have hP : va_P (dC, dI) vwCl (wMo g q (m78 M (itR (fun _ s => (dyX s.1, cgS (M 1) x1 (-1) (dyM s.1) s.2)) (x2, (M 0 7, M 0 8)) i).2)) H := hP
          have hD : va_D A (wMo g q (m78 M (itR (fun _ s => (dyX s.1, cgS (M 1) x1 (-1) (dyM s.1) s.2)) (x2, (M 0 7, M 0 8)) i).2)) := hD
          have hl : lv_has ls 9 [(0, .ref (q 0)), (1, .int (zI x1)), (2, .int (zI x2)), (3, .int (zI x3)), (4, .long (zL x)), (6, .int (zI u)), (7, .int (zI i))] := hl
          refine lv_iload hx hb dX6_days_47 (lv_at hl 6 rfl) ?_
          refine lv_iload_n hx hb dX6_days_49 rfl (lv_at hl 3 rfl) ?_
          refine q_icmp_ge (tgt := 122) hx hb dX6_days_50 (by decide) (by omega) (fun c_4 => ?_) (fun c_4 => ?_)
          · refine lv_iload hx hb dX6_days_122 (lv_at hl 5 rfl) ?_
            have hPf : va_P (dC, dI) vwCl (wMo g q (m_days M x1 x2 x3)) H := by rw [(show (m_days M x1 x2 x3) = m78 M (itR (fun _ s => (dyX s.1, cgS (M 1) x1 (-1) (dyM s.1) s.2)) (x2, (M 0 7, M 0 8)) i).2 from by first | (unfold m_days; rw [if_neg (by omega)]; done) | (unfold m_days; rw [if_pos (by omega), show x3 = i by omega]))]; exact hP
            have hDf : va_D A (wMo g q (m_days M x1 x2 x3)) := by rw [(show (m_days M x1 x2 x3) = m78 M (itR (fun _ s => (dyX s.1, cgS (M 1) x1 (-1) (dyM s.1) s.2)) (x2, (M 0 7, M 0 8)) i).2 from by first | (unfold m_days; rw [if_neg (by omega)]; done) | (unfold m_days; rw [if_pos (by omega), show x3 = i by omega]))]; exact hD
            exact W.iret hx hb hr (fun t9 ht9 hW9 => ⟨⟨_, (), rfl, congrArg zI (show u = ca_days (M 1) x1 x2 x3 from by first | (unfold ca_days; rw [if_neg (by omega)]; done) | (unfold ca_days; rw [if_pos (by omega), show x3 = i by omega, ← hs])), by rw [ht9]; exact hPf, va_K.moved hW9.alike hK, hDf⟩, hS.F ht9⟩) hS.2.2 dX6_days_124
          · have hdx : 0 ≤ dyX x ∧ dyX x < 2147483648 := by unfold dyX; omega
            have hdm : 0 ≤ dyM x ∧ dyM x < 120 := by unfold dyM; omega
            refine lv_lload hx hb dX6_days_53 (lv_at hl 4 rfl) ?_
            refine q_ldc2 hx hb 1103515245 hown kc208 (by decide) dX6_days_55 ?_
            refine q_lmul hx hb dX6_days_58 ?_
            refine q_ldc2 hx hb 12345 hown kc210 (by decide) dX6_days_59 ?_
            refine q_ladd hx hb dX6_days_62 ?_
            refine q_ldc2 hx hb 2147483648 hown kc212 (by decide) dX6_days_63 ?_
            refine q_lrem hx hb dX6_days_66 (by omega) ?_
            rw [show ((x * 1103515245) + 12345) % 2147483648 = dyX x from rfl]
            refine lv_lstore (lv' := [(4, .long (zL (dyX x))), (0, .ref (q 0)), (1, .int (zI x1)), (2, .int (zI x2)), (3, .int (zI x3)), (6, .int (zI u)), (7, .int (zI i))]) hx hb dX6_days_67 hl (by decide) rfl (fun ls hl => ?_)
            refine lv_lload hx hb dX6_days_69 (lv_at hl 0 rfl) ?_
            refine q_ldc2 hx hb 65536 hown kc214 (by decide) dX6_days_71 ?_
            refine q_ldiv hx hb dX6_days_74 (by omega) ?_
            refine q_ldc2 hx hb 120 hown kc216 (by decide) dX6_days_75 ?_
            refine q_lrem hx hb dX6_days_78 (by omega) ?_
            rw [show ((dyX x) / 65536) % 120 = dyM x from rfl]
            refine q_l2i hx hb dX6_days_79 ?_
            refine lv_istore (lv' := [(8, .int (zI (dyM x))), (4, .long (zL (dyX x))), (0, .ref (q 0)), (1, .int (zI x1)), (2, .int (zI x2)), (3, .int (zI x3)), (6, .int (zI u)), (7, .int (zI i))]) hx hb dX6_days_80 hl (by decide) rfl (fun ls hl => ?_)
            refine lv_iload hx hb dX6_days_82 (lv_at hl 6 rfl) ?_
            refine lv_aload_n hx hb dX6_days_84 rfl (lv_at hl 2 rfl) ?_
            refine lv_iload_n hx hb dX6_days_85 rfl (lv_at hl 3 rfl) ?_
            refine lv_iload hx hb dX6_days_86 (lv_at hl 0 rfl) ?_
            refine q_bipush hx hb dX6_days_88 rfl ?_
            refine q_iconst hx hb dX6_days_90 ?_
            refine q_cEi (z := bz (¬ c_wo (M 1) x1 (dyM x) (-1) = -1)) (b := (q 0)) (As := [.int (zI x1), .int (zI (dyM x)), .int (zI 15), .int (zI 2)]) (rest := [.int (zI u)]) (w1 := wMo g q (m78 (m78 M (itR (fun _ s => (dyX s.1, cgS (M 1) x1 (-1) (dyM s.1) s.2)) (x2, (M 0 7, M 0 8)) i).2) (cgS (M 1) x1 (-1) (dyM x) ((((itR (fun _ s => (dyX s.1, cgS (M 1) x1 (-1) (dyM s.1) s.2)) (x2, (M 0 7, M 0 8)) i).2).1), (((itR (fun _ s => (dyX s.1, cgS (M 1) x1 (-1) (dyM s.1) s.2)) (x2, (M 0 7, M 0 8)) i).2).2))))) ⟨hx, hb, hml, hown, hts⟩ hP hD hK hT hS hA (kX6_comesa l dC dI g tt _ q (m78 M (itR (fun _ s => (dyX s.1, cgS (M 1) x1 (-1) (dyM s.1) s.2)) (x2, (M 0 7, M 0 8)) i).2) x1 (dyM x) 15 2 (hw) (show 0 ≤ x1 ∧ x1 ≤ M 1 1 from by omega) (show 0 ≤ (dyM x) ∧ (dyM x) ≤ 2000 from by omega) (rfl) (rfl)) (cwV 4 hts gX6_days_X6_comes rfl rfl rfl (by decide +kernel) ⟨Nat.le_of_ble_eq_true rfl, Nat.le_of_ble_eq_true rfl⟩) 0 5 rfl rfl rfl rfl hl.1 rfl (Nat.le_of_ble_eq_true rfl) dX6_days_91 ⟨Nat.le_of_ble_eq_true rfl, Nat.le_of_ble_eq_true rfl⟩ (fun H locs hP hD hS => ?_)
            have hP : va_P (dC, dI) vwCl (wMo g q (m78 M (cgS (M 1) x1 (-1) (dyM x) (itR (fun _ s => (dyX s.1, cgS (M 1) x1 (-1) (dyM s.1) s.2)) (x2, (M 0 7, M 0 8)) i).2))) H := by rw [show (m78 M (cgS (M 1) x1 (-1) (dyM x) (itR (fun _ s => (dyX s.1, cgS (M 1) x1 (-1) (dyM s.1) s.2)) (x2, (M 0 7, M 0 8)) i).2)) = m78 (m78 M (itR (fun _ s => (dyX s.1, cgS (M 1) x1 (-1) (dyM s.1) s.2)) (x2, (M 0 7, M 0 8)) i).2) (cgS (M 1) x1 (-1) (dyM x) ((((itR (fun _ s => (dyX s.1, cgS (M 1) x1 (-1) (dyM s.1) s.2)) (x2, (M 0 7, M 0 8)) i).2).1), (((itR (fun _ s => (dyX s.1, cgS (M 1) x1 (-1) (dyM s.1) s.2)) (x2, (M 0 7, M 0 8)) i).2).2))) from m78_78.symm]; exact hP
            have hD : va_D A (wMo g q (m78 M (cgS (M 1) x1 (-1) (dyM x) (itR (fun _ s => (dyX s.1, cgS (M 1) x1 (-1) (dyM s.1) s.2)) (x2, (M 0 7, M 0 8)) i).2))) := by rw [show (m78 M (cgS (M 1) x1 (-1) (dyM x) (itR (fun _ s => (dyX s.1, cgS (M 1) x1 (-1) (dyM s.1) s.2)) (x2, (M 0 7, M 0 8)) i).2)) = m78 (m78 M (itR (fun _ s => (dyX s.1, cgS (M 1) x1 (-1) (dyM s.1) s.2)) (x2, (M 0 7, M 0 8)) i).2) (cgS (M 1) x1 (-1) (dyM x) ((((itR (fun _ s => (dyX s.1, cgS (M 1) x1 (-1) (dyM s.1) s.2)) (x2, (M 0 7, M 0 8)) i).2).1), (((itR (fun _ s => (dyX s.1, cgS (M 1) x1 (-1) (dyM s.1) s.2)) (x2, (M 0 7, M 0 8)) i).2).2))) from m78_78.symm]; exact hD
            refine q_bz_eq (tgt := 112) hx hb dX6_days_94 (by decide) (fun c_5 => ?_) (fun c_5 => ?_)
            · refine q_iconst hx hb dX6_days_112 ?_
              refine q_iadd hx hb dX6_days_113 ?_
              refine lv_istore (lv' := [(6, .int (zI (u + 0))), (8, .int (zI (dyM x))), (4, .long (zL (dyX x))), (0, .ref (q 0)), (1, .int (zI x1)), (2, .int (zI x2)), (3, .int (zI x3)), (7, .int (zI i))]) hx hb dX6_days_114 hl (by decide) rfl (fun ls hl => ?_)
              refine lv_iinc (v := zI (i + 1)) (lv' := [(7, .int (zI (i + 1))), (6, .int (zI (u + 0))), (8, .int (zI (dyM x))), (4, .long (zL (dyX x))), (0, .ref (q 0)), (1, .int (zI x1)), (2, .int (zI x2)), (3, .int (zI x3))]) hx hb dX6_days_116 hl (k := 7) rfl (zI_add _ _) (by decide) rfl (fun ls hl => ?_)
              refine lv_goto (tgt := 47) hx hb dX6_days_119 (by decide) ?_
              exact ih47 (i + 1, dyX x, u + 0) _ _ ls ⟨(show 0 ≤ (i + 1) ∧ (i + 1) ≤ x3 from by omega), (show ((dyX x), (u + 0)) = itR (dyS (M 1) x1) (x2, 0) (i + 1) from by rw [itR_s (by omega), ← hs]; show (_, u + 0) = (dyX x, if c_w1 (M 1) x1 (dyM x) = 1 then u + 1 else u); rw [if_neg (show ¬ c_w1 (M 1) x1 (dyM x) = 1 from by rw [c_w1_no (Decidable.not_not.mp c_5)]; decide), Int.add_zero]), (show (dyX x) = (itR (fun _ s => (dyX s.1, cgS (M 1) x1 (-1) (dyM s.1) s.2)) (x2, (M 0 7, M 0 8)) (i + 1)).1 from by rw [itR_s (by omega)]; show dyX x = dyX (itR (fun _ s => (dyX s.1, cgS (M 1) x1 (-1) (dyM s.1) s.2)) (x2, (M 0 7, M 0 8)) i).1; rw [← hq]), (show 0 ≤ (dyX x) ∧ (dyX x) < 2147483648 from by omega), (show 0 ≤ (u + 0) ∧ (u + 0) ≤ (i + 1) from by omega), (show va_P (dC, dI) vwCl (wMo g q (m78 M (itR (fun _ s => (dyX s.1, cgS (M 1) x1 (-1) (dyM s.1) s.2)) (x2, (M 0 7, M 0 8)) (i + 1)).2)) H from by rw [show (m78 M (itR (fun _ s => (dyX s.1, cgS (M 1) x1 (-1) (dyM s.1) s.2)) (x2, (M 0 7, M 0 8)) (i + 1)).2) = m78 M (cgS (M 1) x1 (-1) (dyM x) (itR (fun _ s => (dyX s.1, cgS (M 1) x1 (-1) (dyM s.1) s.2)) (x2, (M 0 7, M 0 8)) i).2) from by rw [itR_s (by omega)]; show m78 M (cgS (M 1) x1 (-1) (dyM (itR (fun _ s => (dyX s.1, cgS (M 1) x1 (-1) (dyM s.1) s.2)) (x2, (M 0 7, M 0 8)) i).1) (itR (fun _ s => (dyX s.1, cgS (M 1) x1 (-1) (dyM s.1) s.2)) (x2, (M 0 7, M 0 8)) i).2) = _; rw [← hq]]; exact hP), (show va_D A (wMo g q (m78 M (itR (fun _ s => (dyX s.1, cgS (M 1) x1 (-1) (dyM s.1) s.2)) (x2, (M 0 7, M 0 8)) (i + 1)).2)) from by rw [show (m78 M (itR (fun _ s => (dyX s.1, cgS (M 1) x1 (-1) (dyM s.1) s.2)) (x2, (M 0 7, M 0 8)) (i + 1)).2) = m78 M (cgS (M 1) x1 (-1) (dyM x) (itR (fun _ s => (dyX s.1, cgS (M 1) x1 (-1) (dyM s.1) s.2)) (x2, (M 0 7, M 0 8)) i).2) from by rw [itR_s (by omega)]; show m78 M (cgS (M 1) x1 (-1) (dyM (itR (fun _ s => (dyX s.1, cgS (M 1) x1 (-1) (dyM s.1) s.2)) (x2, (M 0 7, M 0 8)) i).1) (itR (fun _ s => (dyX s.1, cgS (M 1) x1 (-1) (dyM s.1) s.2)) (x2, (M 0 7, M 0 8)) i).2) = _; rw [← hq]]; exact hD), hS, lv_sub hl [4, 5, 6, 7, 3, 1, 0] rfl⟩ (by show (x3 - (i + 1)).toNat < (x3 - i).toNat; omega)
            · have hne := c_sf_ne (w := M 1) (f := x1) (m := (dyM x)) (y := (-1)) c_5
              have hwr := c_wo_r (M 1) x1 (dyM x) (-1)
              have e9 : cgS (M 1) x1 (-1) (dyM x) (itR (fun _ s => (dyX s.1, cgS (M 1) x1 (-1) (dyM s.1) s.2)) (x2, (M 0 7, M 0 8)) i).2 = (c_sf (M 1) x1 ((dyM x) + c_wo (M 1) x1 (dyM x) (-1)) (-1), (dyM x) + c_wo (M 1) x1 (dyM x) (-1)) := if_neg c_5
              have hc9 := c_5
              have hP : va_P (dC, dI) vwCl (wMo g q (m78 M (c_sf (M 1) x1 (dyM x + c_wo (M 1) x1 (dyM x) (-1)) (-1), dyM x + c_wo (M 1) x1 (dyM x) (-1)))) H := by rw [show (m78 M (c_sf (M 1) x1 (dyM x + c_wo (M 1) x1 (dyM x) (-1)) (-1), dyM x + c_wo (M 1) x1 (dyM x) (-1))) = m78 M (cgS (M 1) x1 (-1) (dyM x) (itR (fun _ s => (dyX s.1, cgS (M 1) x1 (-1) (dyM s.1) s.2)) (x2, (M 0 7, M 0 8)) i).2) from by rw [e9]]; exact hP
              have hD : va_D A (wMo g q (m78 M (c_sf (M 1) x1 (dyM x + c_wo (M 1) x1 (dyM x) (-1)) (-1), dyM x + c_wo (M 1) x1 (dyM x) (-1)))) := by rw [show (m78 M (c_sf (M 1) x1 (dyM x + c_wo (M 1) x1 (dyM x) (-1)) (-1), dyM x + c_wo (M 1) x1 (dyM x) (-1))) = m78 M (cgS (M 1) x1 (-1) (dyM x) (itR (fun _ s => (dyX s.1, cgS (M 1) x1 (-1) (dyM s.1) s.2)) (x2, (M 0 7, M 0 8)) i).2) from by rw [e9]]; exact hD
              refine lv_aload_n hx hb dX6_days_97 rfl (lv_at hl 2 rfl) ?_
              refine lv_aload_n hx hb dX6_days_98 rfl (lv_at hl 2 rfl) ?_
              refine va_get (D := (dC, dI)) (ci := 5) (v := .int (zI (c_sf (M 1) x1 (dyM x + c_wo (M 1) x1 (dyM x) (-1)) (-1)))) (C := RX6) (T := TX6) (N := 15) hx hb hts iX6 hown hK hP 0 rfl rfl 12 (by decide) kf161 (fun _ h9 => h9) rfl dX6_days_99 ?_
              refine lv_aload_n hx hb dX6_days_102 rfl (lv_at hl 2 rfl) ?_
              refine va_get (D := (dC, dI)) (ci := 5) (v := .int (zI (dyM x + c_wo (M 1) x1 (dyM x) (-1)))) (C := RX6) (T := TX6) (N := 15) hx hb hts iX6 hown hK hP 0 rfl rfl 13 (by decide) kf164 (fun _ h9 => h9) rfl dX6_days_103 ?_
              refine q_cVi (z := c_wy (M 1) (c_sf (M 1) x1 (dyM x + c_wo (M 1) x1 (dyM x) (-1)) (-1)) (dyM x + c_wo (M 1) x1 (dyM x) (-1))) (b := (q 0)) (As := [.int (zI (c_sf (M 1) x1 (dyM x + c_wo (M 1) x1 (dyM x) (-1)) (-1))), .int (zI (dyM x + c_wo (M 1) x1 (dyM x) (-1)))]) (rest := [.int (zI u)]) ⟨hx, hb, hml, hown, hts⟩ (kX6_wayIn l dC dI g tt q (m78 M (c_sf (M 1) x1 (dyM x + c_wo (M 1) x1 (dyM x) (-1)) (-1), dyM x + c_wo (M 1) x1 (dyM x) (-1))) (c_sf (M 1) x1 (dyM x + c_wo (M 1) x1 (dyM x) (-1)) (-1)) (dyM x + c_wo (M 1) x1 (dyM x) (-1)) (hw) (show 0 ≤ (c_sf (M 1) x1 (dyM x + c_wo (M 1) x1 (dyM x) (-1)) (-1)) ∧ (c_sf (M 1) x1 (dyM x + c_wo (M 1) x1 (dyM x) (-1)) (-1)) < M 1 0 from by omega) (show 0 ≤ (dyM x + c_wo (M 1) x1 (dyM x) (-1)) ∧ (dyM x + c_wo (M 1) x1 (dyM x) (-1)) ≤ 90000 from by omega)) (cwV 2 hts gX6_days_X6_wayIn rfl rfl rfl (by decide +kernel) ⟨Nat.le_of_ble_eq_true rfl, Nat.le_of_ble_eq_true rfl⟩) hP hK hT hS 0 5 rfl rfl rfl rfl hl.1 rfl (Nat.le_of_ble_eq_true rfl) dX6_days_106 ⟨Nat.le_of_ble_eq_true rfl, Nat.le_of_ble_eq_true rfl⟩ ?_
              have := c_wy_r (M 1) (c_sf (M 1) x1 (dyM x + c_wo (M 1) x1 (dyM x) (-1)) (-1)) (dyM x + c_wo (M 1) x1 (dyM x) (-1))
              refine lv_goto (tgt := 113) hx hb dX6_days_109 (by decide) ?_
              refine q_iadd hx hb dX6_days_113 ?_
              refine lv_istore (lv' := [(6, .int (zI (u + (c_wy (M 1) (c_sf (M 1) x1 (dyM x + c_wo (M 1) x1 (dyM x) (-1)) (-1)) (dyM x + c_wo (M 1) x1 (dyM x) (-1)))))), (8, .int (zI (dyM x))), (4, .long (zL (dyX x))), (0, .ref (q 0)), (1, .int (zI x1)), (2, .int (zI x2)), (3, .int (zI x3)), (7, .int (zI i))]) hx hb dX6_days_114 hl (by decide) rfl (fun ls hl => ?_)
              refine lv_iinc (v := zI (i + 1)) (lv' := [(7, .int (zI (i + 1))), (6, .int (zI (u + (c_wy (M 1) (c_sf (M 1) x1 (dyM x + c_wo (M 1) x1 (dyM x) (-1)) (-1)) (dyM x + c_wo (M 1) x1 (dyM x) (-1)))))), (8, .int (zI (dyM x))), (4, .long (zL (dyX x))), (0, .ref (q 0)), (1, .int (zI x1)), (2, .int (zI x2)), (3, .int (zI x3))]) hx hb dX6_days_116 hl (k := 7) rfl (zI_add _ _) (by decide) rfl (fun ls hl => ?_)
              refine lv_goto (tgt := 47) hx hb dX6_days_119 (by decide) ?_
              exact ih47 (i + 1, dyX x, u + (c_wy (M 1) (c_sf (M 1) x1 (dyM x + c_wo (M 1) x1 (dyM x) (-1)) (-1)) (dyM x + c_wo (M 1) x1 (dyM x) (-1)))) _ _ ls ⟨(show 0 ≤ (i + 1) ∧ (i + 1) ≤ x3 from by omega), (show ((dyX x), (u + (c_wy (M 1) (c_sf (M 1) x1 (dyM x + c_wo (M 1) x1 (dyM x) (-1)) (-1)) (dyM x + c_wo (M 1) x1 (dyM x) (-1))))) = itR (dyS (M 1) x1) (x2, 0) (i + 1) from by rw [itR_s (by omega), ← hs]; show (_, _) = (dyX x, if c_w1 (M 1) x1 (dyM x) = 1 then u + 1 else u); rw [c_w1_eq hc9]; congr 1; split <;> omega), (show (dyX x) = (itR (fun _ s => (dyX s.1, cgS (M 1) x1 (-1) (dyM s.1) s.2)) (x2, (M 0 7, M 0 8)) (i + 1)).1 from by rw [itR_s (by omega)]; show dyX x = dyX (itR (fun _ s => (dyX s.1, cgS (M 1) x1 (-1) (dyM s.1) s.2)) (x2, (M 0 7, M 0 8)) i).1; rw [← hq]), (show 0 ≤ (dyX x) ∧ (dyX x) < 2147483648 from by omega), (show 0 ≤ (u + (c_wy (M 1) (c_sf (M 1) x1 (dyM x + c_wo (M 1) x1 (dyM x) (-1)) (-1)) (dyM x + c_wo (M 1) x1 (dyM x) (-1)))) ∧ (u + (c_wy (M 1) (c_sf (M 1) x1 (dyM x + c_wo (M 1) x1 (dyM x) (-1)) (-1)) (dyM x + c_wo (M 1) x1 (dyM x) (-1)))) ≤ (i + 1) from by omega), (show va_P (dC, dI) vwCl (wMo g q (m78 M (itR (fun _ s => (dyX s.1, cgS (M 1) x1 (-1) (dyM s.1) s.2)) (x2, (M 0 7, M 0 8)) (i + 1)).2)) H from by rw [show (m78 M (itR (fun _ s => (dyX s.1, cgS (M 1) x1 (-1) (dyM s.1) s.2)) (x2, (M 0 7, M 0 8)) (i + 1)).2) = m78 M (c_sf (M 1) x1 (dyM x + c_wo (M 1) x1 (dyM x) (-1)) (-1), dyM x + c_wo (M 1) x1 (dyM x) (-1)) from by rw [itR_s (by omega)]; show m78 M (cgS (M 1) x1 (-1) (dyM (itR (fun _ s => (dyX s.1, cgS (M 1) x1 (-1) (dyM s.1) s.2)) (x2, (M 0 7, M 0 8)) i).1) (itR (fun _ s => (dyX s.1, cgS (M 1) x1 (-1) (dyM s.1) s.2)) (x2, (M 0 7, M 0 8)) i).2) = _; rw [← hq, e9]]; exact hP), (show va_D A (wMo g q (m78 M (itR (fun _ s => (dyX s.1, cgS (M 1) x1 (-1) (dyM s.1) s.2)) (x2, (M 0 7, M 0 8)) (i + 1)).2)) from by rw [show (m78 M (itR (fun _ s => (dyX s.1, cgS (M 1) x1 (-1) (dyM s.1) s.2)) (x2, (M 0 7, M 0 8)) (i + 1)).2) = m78 M (c_sf (M 1) x1 (dyM x + c_wo (M 1) x1 (dyM x) (-1)) (-1), dyM x + c_wo (M 1) x1 (dyM x) (-1)) from by rw [itR_s (by omega)]; show m78 M (cgS (M 1) x1 (-1) (dyM (itR (fun _ s => (dyX s.1, cgS (M 1) x1 (-1) (dyM s.1) s.2)) (x2, (M 0 7, M 0 8)) i).1) (itR (fun _ s => (dyX s.1, cgS (M 1) x1 (-1) (dyM s.1) s.2)) (x2, (M 0 7, M 0 8)) i).2) = _; rw [← hq, e9]]; exact hD), hS, lv_sub hl [4, 5, 6, 7, 3, 1, 0] rfl⟩ (by show (x3 - (i + 1)).toNat < (x3 - i).toNat; omega)
        · exact ⟨(show 0 ≤ 0 ∧ 0 ≤ x3 from by omega), (show (x2, 0) = itR (dyS (M 1) x1) (x2, 0) 0 from rfl), (show x2 = (itR (fun _ s => (dyX s.1, cgS (M 1) x1 (-1) (dyM s.1) s.2)) (x2, (M 0 7, M 0 8)) 0).1 from rfl), (show 0 ≤ x2 ∧ x2 < 2147483648 from by omega), (show 0 ≤ 0 ∧ 0 ≤ 0 from by omega), (show va_P (dC, dI) vwCl (wMo g q (m78 M (itR (fun _ s => (dyX s.1, cgS (M 1) x1 (-1) (dyM s.1) s.2)) (x2, (M 0 7, M 0 8)) 0).2)) s.heap from by rw [show (m78 M (itR (fun _ s => (dyX s.1, cgS (M 1) x1 (-1) (dyM s.1) s.2)) (x2, (M 0 7, M 0 8)) 0).2) = M from m78_id]; exact hP), (show va_D A (wMo g q (m78 M (itR (fun _ s => (dyX s.1, cgS (M 1) x1 (-1) (dyM s.1) s.2)) (x2, (M 0 7, M 0 8)) 0).2)) from by rw [show (m78 M (itR (fun _ s => (dyX s.1, cgS (M 1) x1 (-1) (dyM s.1) s.2)) (x2, (M 0 7, M 0 8)) 0).2) = M from m78_id]; exact hD), hS, lv_sub hl [3, 4, 5, 6, 2, 1, 0] rfl⟩
      · refine lv_aload_n hx hb dX6_days_32 rfl (lv_at hl 0 rfl) ?_
        refine q_cEi (z := -2) (b := (q 0)) (As := []) (rest := []) (w1 := wMo g q (mbad M)) ⟨hx, hb, hml, hown, hts⟩ hP hD hK hT hS hA (kX6_bad l dC dI g tt _ q M) (cwV 0 hts gX6_days_X6_bad rfl rfl rfl (by decide +kernel) ⟨Nat.le_of_ble_eq_true rfl, Nat.le_of_ble_eq_true rfl⟩) 0 5 rfl rfl rfl rfl hl.1 rfl (Nat.le_of_ble_eq_true rfl) dX6_days_33 ⟨Nat.le_of_ble_eq_true rfl, Nat.le_of_ble_eq_true rfl⟩ (fun H locs hP hD hS => ?_)
        have hPf : va_P (dC, dI) vwCl (wMo g q (m_days M x1 x2 x3)) H := by rw [(show (m_days M x1 x2 x3) = mbad M from by first | (unfold m_days; rw [if_neg (by omega)]; done) | (unfold m_days; rw [if_pos (by omega), show x3 = i by omega]))]; exact hP
        have hDf : va_D A (wMo g q (m_days M x1 x2 x3)) := by rw [(show (m_days M x1 x2 x3) = mbad M from by first | (unfold m_days; rw [if_neg (by omega)]; done) | (unfold m_days; rw [if_pos (by omega), show x3 = i by omega]))]; exact hD
        exact W.iret hx hb hr (fun t9 ht9 hW9 => ⟨⟨_, (), rfl, congrArg zI (show -2 = ca_days (M 1) x1 x2 x3 from by first | (unfold ca_days; rw [if_neg (by omega)]; done) | (unfold ca_days; rw [if_pos (by omega), show x3 = i by omega, ← hs])), by rw [ht9]; exact hPf, va_K.moved hW9.alike hK, hDf⟩, hS.F ht9⟩) hS.2.2 dX6_days_36
set_option maxHeartbeats 4000000 in
set_option maxRecDepth 100000 in
theorem kX6_part (l : Launch) (dC : Nat → ClassId) (dI : Nat → Nat → Nat) (g : Nat → ClassId) (tt : Nat → Nat) (sz : Nat) (q : Nat → Nat) (M : Nat → Int → Int) (x1 : Int) (h1 : rI x1) : Met l yX6_part wsX6_part ({ frames := 1, cells := 0, slots := 0, locals := 20 }) (va_Pc [.ref (q 0), .int (zI x1)] (eQ (dC, dI) (wTy g) (wMo g q M) tt sz)) (va_Ql (fun r (_ : Unit) => r = zL (ca_part (M 0 1) (M 0 2) x1)) (fQ (dC, dI) (wTy g) (va_A (wMo g q M) sz) (wMo g q (m_part M x1))) (va_A (wMo g q M) sz)) 0 0 (va_A (wMo g q M) sz) := by
  refine Met.ofW (cc := cX6_part) (maxL := 2) (ret := (some .long)) (by decide) rfl ?_
  intro p e s m args below meth c s₁ B hml hv
  obtain ⟨rfl, hsz, hP, hK, hD0, hT⟩ := hv
  have hx := B.exec
  have hb := B.bytes
  have hr := B.returns
  have hts := atoms_spec (ws := wsX6_part) B.pre
  have hown : s.vm.findClass RX6 = some m.cls := findClass_of_methodNamed B.named
  have hlocks := B.notSynchronized
  subst hsz
  have hD := hD0.self (sz := s.heap.size)
  generalize hAe : va_A (wMo g q M) s.heap.size = A at hD hT ⊢
  have hA : ∀ q : Nat, s.heap.size ≤ q → A q := fun q h => by rw [← hAe]; exact Or.inr h
  have hS : va_S A s.heap s.heap [] := va_S.rf
  have hl := lv_entry ([.ref (q 0), .int (zI x1)]) (n := 2) (Nat.le_of_ble_eq_true rfl)
  rw [lg_entry_eq]
  generalize (lg_sl ([.ref (q 0), .int (zI x1)]) ++ List.replicate (2 - (lg_sl ([.ref (q 0), .int (zI x1)])).length) Slot.unset).toArray = ls at hl ⊢
  have hl : lv_has ls 2 [(0, .ref (q 0)), (1, .int (zI x1))] := hl
  have kf176 := hts (.fieldLink RX6 176 "WrongWayModel" "above" "J") (by decide +kernel)
  have kf23 := hts (.fieldLink RX6 23 "WrongWayModel" "below" "J") (by decide +kernel)
  have iX6 := (fun w h => List.mem_cons_of_mem _ (List.mem_append_right _ h) : ∀ w ∈ u_ws RX6 TX6 15, w ∈ wsX6_part)
  refine lv_iload_n hx hb dX6_part_0 rfl (lv_at hl 1 rfl) ?_
  refine q_if_ne (tgt := 11) hx hb dX6_part_1 (by decide) (by omega) (fun c_1 => ?_) (fun c_1 => ?_)
  · refine lv_iload_n hx hb dX6_part_11 rfl (lv_at hl 1 rfl) ?_
    refine q_iconst hx hb dX6_part_12 ?_
    refine q_icmp_ne (tgt := 23) hx hb dX6_part_13 (by decide) (by omega) (fun c_2 => ?_) (fun c_2 => ?_)
    · refine lv_aload_n hx hb dX6_part_23 rfl (lv_at hl 0 rfl) ?_
      refine q_cEi (z := -2) (b := (q 0)) (As := []) (rest := []) (w1 := wMo g q (mbad M)) ⟨hx, hb, hml, hown, hts⟩ hP hD hK hT hS hA (kX6_bad l dC dI g tt _ q M) (cwV 0 hts gX6_part_X6_bad rfl rfl rfl (by decide +kernel) ⟨Nat.le_of_ble_eq_true rfl, Nat.le_of_ble_eq_true rfl⟩) 0 5 rfl rfl rfl rfl hl.1 rfl (Nat.le_of_ble_eq_true rfl) dX6_part_24 ⟨Nat.le_of_ble_eq_true rfl, Nat.le_of_ble_eq_true rfl⟩ (fun H locs hP hD hS => ?_)
      refine q_i2l hx hb dX6_part_27 (by omega) ?_
      have hPf : va_P (dC, dI) vwCl (wMo g q (m_part M x1)) H := by rw [(show (m_part M x1) = mbad M from by unfold m_part; (repeat' split) <;> first | rfl | (exfalso; omega))]; exact hP
      have hDf : va_D A (wMo g q (m_part M x1)) := by rw [(show (m_part M x1) = mbad M from by unfold m_part; (repeat' split) <;> first | rfl | (exfalso; omega))]; exact hD
      exact W.lret hx hb hr (fun t9 ht9 hW9 => ⟨⟨_, (), rfl, congrArg zL (show -2 = ca_part (M 0 1) (M 0 2) x1 from by unfold ca_part; (repeat' split) <;> first | rfl | omega | (exfalso; omega)), by rw [ht9]; exact hPf, va_K.moved hW9.alike hK, hDf⟩, hS.F ht9⟩) hS.2.2 dX6_part_28
    · refine lv_aload_n hx hb dX6_part_16 rfl (lv_at hl 0 rfl) ?_
      refine va_get (D := (dC, dI)) (ci := 5) (v := .long (zL (M 0 2))) (C := RX6) (T := TX6) (N := 15) hx hb hts iX6 hown hK hP 0 rfl rfl 6 (by decide) kf23 (fun _ h9 => h9) rfl dX6_part_17 ?_
      refine lv_goto (tgt := 28) hx hb dX6_part_20 (by decide) ?_
      have hPf : va_P (dC, dI) vwCl (wMo g q (m_part M x1)) s.heap := by rw [(show (m_part M x1) = M from by unfold m_part; (repeat' split) <;> first | rfl | (exfalso; omega))]; exact hP
      have hDf : va_D A (wMo g q (m_part M x1)) := by rw [(show (m_part M x1) = M from by unfold m_part; (repeat' split) <;> first | rfl | (exfalso; omega))]; exact hD
      exact W.lret hx hb hr (fun t9 ht9 hW9 => ⟨⟨_, (), rfl, congrArg zL (show M 0 2 = ca_part (M 0 1) (M 0 2) x1 from by unfold ca_part; (repeat' split) <;> first | rfl | omega | (exfalso; omega)), by rw [ht9]; exact hPf, va_K.moved hW9.alike hK, hDf⟩, hS.F ht9⟩) hS.2.2 dX6_part_28
  · refine lv_aload_n hx hb dX6_part_4 rfl (lv_at hl 0 rfl) ?_
    refine va_get (D := (dC, dI)) (ci := 5) (v := .long (zL (M 0 1))) (C := RX6) (T := TX6) (N := 15) hx hb hts iX6 hown hK hP 0 rfl rfl 5 (by decide) kf176 (fun _ h9 => h9) rfl dX6_part_5 ?_
    refine lv_goto (tgt := 28) hx hb dX6_part_8 (by decide) ?_
    have hPf : va_P (dC, dI) vwCl (wMo g q (m_part M x1)) s.heap := by rw [(show (m_part M x1) = M from by unfold m_part; (repeat' split) <;> first | rfl | (exfalso; omega))]; exact hP
    have hDf : va_D A (wMo g q (m_part M x1)) := by rw [(show (m_part M x1) = M from by unfold m_part; (repeat' split) <;> first | rfl | (exfalso; omega))]; exact hD
    exact W.lret hx hb hr (fun t9 ht9 hW9 => ⟨⟨_, (), rfl, congrArg zL (show M 0 1 = ca_part (M 0 1) (M 0 2) x1 from by unfold ca_part; (repeat' split) <;> first | rfl | omega | (exfalso; omega)), by rw [ht9]; exact hPf, va_K.moved hW9.alike hK, hDf⟩, hS.F ht9⟩) hS.2.2 dX6_part_28
set_option maxHeartbeats 4000000 in
set_option maxRecDepth 100000 in
theorem kX6_image (l : Launch) (dC : Nat → ClassId) (dI : Nat → Nat → Nat) (g : Nat → ClassId) (tt : Nat → Nat) (sz : Nat) (q : Nat → Nat) (M : Nat → Int → Int) (x1 : Int) (h1 : rI x1) : Met l yX6_image wsX6_image ({ frames := 1, cells := 0, slots := 0, locals := 25 }) (va_Pc [.ref (q 0), .int (zI x1)] (eQ (dC, dI) (wTy g) (wMo g q M) tt sz)) (va_Qi (fun r (_ : Unit) => r = zI (ca_image x1)) (fQ (dC, dI) (wTy g) (va_A (wMo g q M) sz) (wMo g q (m_image M x1))) (va_A (wMo g q M) sz)) 0 0 (va_A (wMo g q M) sz) := by
  refine Met.ofW (cc := cX6_image) (maxL := 2) (ret := (some .int)) (by decide) rfl ?_
  intro p e s m args below meth c s₁ B hml hv
  obtain ⟨rfl, hsz, hP, hK, hD0, hT⟩ := hv
  have hx := B.exec
  have hb := B.bytes
  have hr := B.returns
  have hts := atoms_spec (ws := wsX6_image) B.pre
  have hown : s.vm.findClass RX6 = some m.cls := findClass_of_methodNamed B.named
  have hlocks := B.notSynchronized
  subst hsz
  have hD := hD0.self (sz := s.heap.size)
  generalize hAe : va_A (wMo g q M) s.heap.size = A at hD hT ⊢
  have hA : ∀ q : Nat, s.heap.size ≤ q → A q := fun q h => by rw [← hAe]; exact Or.inr h
  have hS : va_S A s.heap s.heap [] := va_S.rf
  have hl := lv_entry ([.ref (q 0), .int (zI x1)]) (n := 2) (Nat.le_of_ble_eq_true rfl)
  rw [lg_entry_eq]
  generalize (lg_sl ([.ref (q 0), .int (zI x1)]) ++ List.replicate (2 - (lg_sl ([.ref (q 0), .int (zI x1)])).length) Slot.unset).toArray = ls at hl ⊢
  have hl : lv_has ls 2 [(0, .ref (q 0)), (1, .int (zI x1))] := hl
  have kf13 := hts (.fieldLink RX6 13 "WrongWayModel" "isKept" "[Z") (by decide +kernel)
  have iX6 := (fun w h => List.mem_cons_of_mem _ (List.mem_append_right _ h) : ∀ w ∈ u_ws RX6 TX6 15, w ∈ wsX6_image)
  refine lv_iload_n hx hb dX6_image_0 rfl (lv_at hl 1 rfl) ?_
  refine q_i2l hx hb dX6_image_1 (by omega) ?_
  refine q_lconst hx hb 0 dX6_image_2 rfl ?_
  refine q_lconst hx hb 1 dX6_image_3 rfl ?_
  refine q_cSi (z := bz (0 ≤ x1 ∧ x1 ≤ 1)) (As := [.long (zL x1), .long (zL 0), .long (zL 1)]) (rest := []) ⟨hx, hb, hml, hown, hts⟩ (kX6_in l dC dI g tt x1 0 1 (by omega)) (va_cwS 3 hts gX6_image_X6_in rfl rfl rfl (by decide +kernel) ⟨Nat.le_of_ble_eq_true rfl, Nat.le_of_ble_eq_true rfl⟩) (hP.sub (ws' := []) [] rfl) hK hT hS rfl hl.1 rfl (Nat.le_of_ble_eq_true rfl) dX6_image_4 ⟨Nat.le_of_ble_eq_true rfl, Nat.le_of_ble_eq_true rfl⟩ ?_
  refine q_bz_ne (tgt := 15) hx hb dX6_image_7 (by decide) (fun c_1 => ?_) (fun c_1 => ?_)
  · refine lv_aload_n hx hb dX6_image_15 rfl (lv_at hl 0 rfl) ?_
    refine q_iconst hx hb dX6_image_16 ?_
    refine q_bipush hx hb dX6_image_17 rfl ?_
    refine q_iconst hx hb dX6_image_19 ?_
    refine lv_iload_n hx hb dX6_image_20 rfl (lv_at hl 1 rfl) ?_
    refine q_iadd hx hb dX6_image_21 ?_
    refine q_imul hx hb dX6_image_22 ?_
    refine q_cEv (b := (q 0)) (As := [.int (zI 0), .int (zI (49 * (1 + x1)))]) (rest := []) (w1 := wMo g q (m_copy M 0 (49 * (1 + x1)))) ⟨hx, hb, hml, hown, hts⟩ hP hD hK hT hS hA (kX6_copy l dC dI g tt _ q M 0 (49 * (1 + x1)) (by omega) (by omega)) (cwV 2 hts gX6_image_X6_copy rfl rfl rfl (by decide +kernel) ⟨Nat.le_of_ble_eq_true rfl, Nat.le_of_ble_eq_true rfl⟩) 0 5 rfl rfl rfl rfl hl.1 rfl (Nat.le_of_ble_eq_true rfl) dX6_image_23 ⟨Nat.le_of_ble_eq_true rfl, Nat.le_of_ble_eq_true rfl⟩ (fun H locs hP hD hS => ?_)
    refine lv_aload_n hx hb dX6_image_26 rfl (lv_at hl 0 rfl) ?_
    refine va_get (D := (dC, dI)) (ci := 5) (v := .ref (q 2)) (C := RX6) (T := TX6) (N := 15) hx hb hts iX6 hown hK hP 0 rfl rfl 1 (by decide) kf13 (fun _ h9 => h9) rfl dX6_image_27 ?_
    refine lv_iload_n hx hb dX6_image_30 rfl (lv_at hl 1 rfl) ?_
    refine q_iconst hx hb dX6_image_31 ?_
    refine q_zast (F := fun k9 => (m_copy M 0 (49 * (1 + x1))) 2 k9) (v := 1) hx hb hK hP hD hS 2 2 rfl rfl (by decide) (by omega) (rfl) dX6_image_32 (fun H locs hP hD hS => ?_)
    have hP : va_P (dC, dI) vwCl (wMo g q (mset (m_copy M 0 (49 * (1 + x1))) 2 x1 1)) H := hP
    have hD : va_D A (wMo g q (mset (m_copy M 0 (49 * (1 + x1))) 2 x1 1)) := hD
    refine q_iconst hx hb dX6_image_33 ?_
    have hPf : va_P (dC, dI) vwCl (wMo g q (m_image M x1)) H := by rw [(show (m_image M x1) = mset (m_copy M 0 (49 * (1 + x1))) 2 x1 1 from by unfold m_image; (repeat' split) <;> first | rfl | (exfalso; omega))]; exact hP
    have hDf : va_D A (wMo g q (m_image M x1)) := by rw [(show (m_image M x1) = mset (m_copy M 0 (49 * (1 + x1))) 2 x1 1 from by unfold m_image; (repeat' split) <;> first | rfl | (exfalso; omega))]; exact hD
    exact W.iret hx hb hr (fun t9 ht9 hW9 => ⟨⟨_, (), rfl, congrArg zI (show 1 = ca_image x1 from by unfold ca_image; (repeat' split) <;> first | rfl | omega | (exfalso; omega)), by rw [ht9]; exact hPf, va_K.moved hW9.alike hK, hDf⟩, hS.F ht9⟩) hS.2.2 dX6_image_34
  · refine lv_aload_n hx hb dX6_image_10 rfl (lv_at hl 0 rfl) ?_
    refine q_cEi (z := -2) (b := (q 0)) (As := []) (rest := []) (w1 := wMo g q (mbad M)) ⟨hx, hb, hml, hown, hts⟩ hP hD hK hT hS hA (kX6_bad l dC dI g tt _ q M) (cwV 0 hts gX6_image_X6_bad rfl rfl rfl (by decide +kernel) ⟨Nat.le_of_ble_eq_true rfl, Nat.le_of_ble_eq_true rfl⟩) 0 5 rfl rfl rfl rfl hl.1 rfl (Nat.le_of_ble_eq_true rfl) dX6_image_11 ⟨Nat.le_of_ble_eq_true rfl, Nat.le_of_ble_eq_true rfl⟩ (fun H locs hP hD hS => ?_)
    have hPf : va_P (dC, dI) vwCl (wMo g q (m_image M x1)) H := by rw [(show (m_image M x1) = mbad M from by unfold m_image; (repeat' split) <;> first | rfl | (exfalso; omega))]; exact hP
    have hDf : va_D A (wMo g q (m_image M x1)) := by rw [(show (m_image M x1) = mbad M from by unfold m_image; (repeat' split) <;> first | rfl | (exfalso; omega))]; exact hD
    exact W.iret hx hb hr (fun t9 ht9 hW9 => ⟨⟨_, (), rfl, congrArg zI (show -2 = ca_image x1 from by unfold ca_image; (repeat' split) <;> first | rfl | omega | (exfalso; omega)), by rw [ht9]; exact hPf, va_K.moved hW9.alike hK, hDf⟩, hS.F ht9⟩) hS.2.2 dX6_image_14
set_option maxHeartbeats 4000000 in
set_option maxRecDepth 100000 in
theorem kX6_from (l : Launch) (dC : Nat → ClassId) (dI : Nat → Nat → Nat) (g : Nat → ClassId) (tt : Nat → Nat) (sz : Nat) (q : Nat → Nat) (M : Nat → Int → Int) (x1 : Int) (h1 : rI x1) (hkp : (0 ≤ M 2 0 ∧ M 2 0 ≤ 1) ∧ (0 ≤ M 2 1 ∧ M 2 1 ≤ 1)) : Met l yX6_from wsX6_from ({ frames := 1, cells := 0, slots := 0, locals := 25 }) (va_Pc [.ref (q 0), .int (zI x1)] (eQ (dC, dI) (wTy g) (wMo g q M) tt sz)) (va_Qi (fun r (_ : Unit) => r = zI (ca_from (M 2) x1)) (fQ (dC, dI) (wTy g) (va_A (wMo g q M) sz) (wMo g q (m_from M x1))) (va_A (wMo g q M) sz)) 0 0 (va_A (wMo g q M) sz) := by
  refine Met.ofW (cc := cX6_from) (maxL := 2) (ret := (some .int)) (by decide) rfl ?_
  intro p e s m args below meth c s₁ B hml hv
  obtain ⟨rfl, hsz, hP, hK, hD0, hT⟩ := hv
  have hx := B.exec
  have hb := B.bytes
  have hr := B.returns
  have hts := atoms_spec (ws := wsX6_from) B.pre
  have hown : s.vm.findClass RX6 = some m.cls := findClass_of_methodNamed B.named
  have hlocks := B.notSynchronized
  subst hsz
  have hD := hD0.self (sz := s.heap.size)
  generalize hAe : va_A (wMo g q M) s.heap.size = A at hD hT ⊢
  have hA : ∀ q : Nat, s.heap.size ≤ q → A q := fun q h => by rw [← hAe]; exact Or.inr h
  have hS : va_S A s.heap s.heap [] := va_S.rf
  have hl := lv_entry ([.ref (q 0), .int (zI x1)]) (n := 2) (Nat.le_of_ble_eq_true rfl)
  rw [lg_entry_eq]
  generalize (lg_sl ([.ref (q 0), .int (zI x1)]) ++ List.replicate (2 - (lg_sl ([.ref (q 0), .int (zI x1)])).length) Slot.unset).toArray = ls at hl ⊢
  have hl : lv_has ls 2 [(0, .ref (q 0)), (1, .int (zI x1))] := hl
  have kf13 := hts (.fieldLink RX6 13 "WrongWayModel" "isKept" "[Z") (by decide +kernel)
  have iX6 := (fun w h => List.mem_cons_of_mem _ (List.mem_append_right _ h) : ∀ w ∈ u_ws RX6 TX6 15, w ∈ wsX6_from)
  refine lv_iload_n hx hb dX6_from_0 rfl (lv_at hl 1 rfl) ?_
  refine q_i2l hx hb dX6_from_1 (by omega) ?_
  refine q_lconst hx hb 0 dX6_from_2 rfl ?_
  refine q_lconst hx hb 1 dX6_from_3 rfl ?_
  refine q_cSi (z := bz (0 ≤ x1 ∧ x1 ≤ 1)) (As := [.long (zL x1), .long (zL 0), .long (zL 1)]) (rest := []) ⟨hx, hb, hml, hown, hts⟩ (kX6_in l dC dI g tt x1 0 1 (by omega)) (va_cwS 3 hts gX6_from_X6_in rfl rfl rfl (by decide +kernel) ⟨Nat.le_of_ble_eq_true rfl, Nat.le_of_ble_eq_true rfl⟩) (hP.sub (ws' := []) [] rfl) hK hT hS rfl hl.1 rfl (Nat.le_of_ble_eq_true rfl) dX6_from_4 ⟨Nat.le_of_ble_eq_true rfl, Nat.le_of_ble_eq_true rfl⟩ ?_
  refine q_bz_ne (tgt := 15) hx hb dX6_from_7 (by decide) (fun c_1 => ?_) (fun c_1 => ?_)
  · have hkx : 0 ≤ M 2 x1 ∧ M 2 x1 ≤ 1 := by rcases (show x1 = 0 ∨ x1 = 1 by omega) with e | e <;> rw [e] <;> omega
    refine lv_aload_n hx hb dX6_from_15 rfl (lv_at hl 0 rfl) ?_
    refine va_get (D := (dC, dI)) (ci := 5) (v := .ref (q 2)) (C := RX6) (T := TX6) (N := 15) hx hb hts iX6 hown hK hP 0 rfl rfl 1 (by decide) kf13 (fun _ h9 => h9) rfl dX6_from_16 ?_
    refine lv_iload_n hx hb dX6_from_19 rfl (lv_at hl 1 rfl) ?_
    refine q_zald (F := fun k9 => M 2 k9) (v := M 2 x1) hx hb hK hP 2 2 rfl rfl (by decide) (by omega) (rfl) dX6_from_20 ?_
    refine q_if_ne (tgt := 29) hx hb dX6_from_21 (by decide) (by omega) (fun c_2 => ?_) (fun c_2 => ?_)
    · refine lv_aload_n hx hb dX6_from_29 rfl (lv_at hl 0 rfl) ?_
      refine q_bipush hx hb dX6_from_30 rfl ?_
      refine q_iconst hx hb dX6_from_32 ?_
      refine lv_iload_n hx hb dX6_from_33 rfl (lv_at hl 1 rfl) ?_
      refine q_iadd hx hb dX6_from_34 ?_
      refine q_imul hx hb dX6_from_35 ?_
      refine q_iconst hx hb dX6_from_36 ?_
      refine q_cEv (b := (q 0)) (As := [.int (zI (49 * (1 + x1))), .int (zI 0)]) (rest := []) (w1 := wMo g q (m_copy M (49 * (1 + x1)) 0)) ⟨hx, hb, hml, hown, hts⟩ hP hD hK hT hS hA (kX6_copy l dC dI g tt _ q M (49 * (1 + x1)) 0 (by omega) (by omega)) (cwV 2 hts gX6_from_X6_copy rfl rfl rfl (by decide +kernel) ⟨Nat.le_of_ble_eq_true rfl, Nat.le_of_ble_eq_true rfl⟩) 0 5 rfl rfl rfl rfl hl.1 rfl (Nat.le_of_ble_eq_true rfl) dX6_from_37 ⟨Nat.le_of_ble_eq_true rfl, Nat.le_of_ble_eq_true rfl⟩ (fun H locs hP hD hS => ?_)
      refine q_iconst hx hb dX6_from_40 ?_
      have hPf : va_P (dC, dI) vwCl (wMo g q (m_from M x1)) H := by rw [(show (m_from M x1) = m_copy M (49 * (1 + x1)) 0 from by unfold m_from; (repeat' split) <;> first | rfl | (exfalso; omega))]; exact hP
      have hDf : va_D A (wMo g q (m_from M x1)) := by rw [(show (m_from M x1) = m_copy M (49 * (1 + x1)) 0 from by unfold m_from; (repeat' split) <;> first | rfl | (exfalso; omega))]; exact hD
      exact W.iret hx hb hr (fun t9 ht9 hW9 => ⟨⟨_, (), rfl, congrArg zI (show 1 = ca_from (M 2) x1 from by unfold ca_from; (repeat' split) <;> first | rfl | omega | (exfalso; omega)), by rw [ht9]; exact hPf, va_K.moved hW9.alike hK, hDf⟩, hS.F ht9⟩) hS.2.2 dX6_from_41
    · refine lv_aload_n hx hb dX6_from_24 rfl (lv_at hl 0 rfl) ?_
      refine q_cEi (z := -3) (b := (q 0)) (As := []) (rest := []) (w1 := wMo g q (mno M)) ⟨hx, hb, hml, hown, hts⟩ hP hD hK hT hS hA (kX6_no l dC dI g tt _ q M) (cwV 0 hts gX6_from_X6_no rfl rfl rfl (by decide +kernel) ⟨Nat.le_of_ble_eq_true rfl, Nat.le_of_ble_eq_true rfl⟩) 0 5 rfl rfl rfl rfl hl.1 rfl (Nat.le_of_ble_eq_true rfl) dX6_from_25 ⟨Nat.le_of_ble_eq_true rfl, Nat.le_of_ble_eq_true rfl⟩ (fun H locs hP hD hS => ?_)
      have hPf : va_P (dC, dI) vwCl (wMo g q (m_from M x1)) H := by rw [(show (m_from M x1) = mno M from by unfold m_from; (repeat' split) <;> first | rfl | (exfalso; omega))]; exact hP
      have hDf : va_D A (wMo g q (m_from M x1)) := by rw [(show (m_from M x1) = mno M from by unfold m_from; (repeat' split) <;> first | rfl | (exfalso; omega))]; exact hD
      exact W.iret hx hb hr (fun t9 ht9 hW9 => ⟨⟨_, (), rfl, congrArg zI (show -3 = ca_from (M 2) x1 from by unfold ca_from; (repeat' split) <;> first | rfl | omega | (exfalso; omega)), by rw [ht9]; exact hPf, va_K.moved hW9.alike hK, hDf⟩, hS.F ht9⟩) hS.2.2 dX6_from_28
  · refine lv_aload_n hx hb dX6_from_10 rfl (lv_at hl 0 rfl) ?_
    refine q_cEi (z := -2) (b := (q 0)) (As := []) (rest := []) (w1 := wMo g q (mbad M)) ⟨hx, hb, hml, hown, hts⟩ hP hD hK hT hS hA (kX6_bad l dC dI g tt _ q M) (cwV 0 hts gX6_from_X6_bad rfl rfl rfl (by decide +kernel) ⟨Nat.le_of_ble_eq_true rfl, Nat.le_of_ble_eq_true rfl⟩) 0 5 rfl rfl rfl rfl hl.1 rfl (Nat.le_of_ble_eq_true rfl) dX6_from_11 ⟨Nat.le_of_ble_eq_true rfl, Nat.le_of_ble_eq_true rfl⟩ (fun H locs hP hD hS => ?_)
    have hPf : va_P (dC, dI) vwCl (wMo g q (m_from M x1)) H := by rw [(show (m_from M x1) = mbad M from by unfold m_from; (repeat' split) <;> first | rfl | (exfalso; omega))]; exact hP
    have hDf : va_D A (wMo g q (m_from M x1)) := by rw [(show (m_from M x1) = mbad M from by unfold m_from; (repeat' split) <;> first | rfl | (exfalso; omega))]; exact hD
    exact W.iret hx hb hr (fun t9 ht9 hW9 => ⟨⟨_, (), rfl, congrArg zI (show -2 = ca_from (M 2) x1 from by unfold ca_from; (repeat' split) <;> first | rfl | omega | (exfalso; omega)), by rw [ht9]; exact hPf, va_K.moved hW9.alike hK, hDf⟩, hS.F ht9⟩) hS.2.2 dX6_from_14
set_option maxHeartbeats 4000000 in
set_option maxRecDepth 100000 in
theorem kX6_status (l : Launch) (dC : Nat → ClassId) (dI : Nat → Nat → Nat) (g : Nat → ClassId) (tt : Nat → Nat) (sz : Nat) (q : Nat → Nat) (M : Nat → Int → Int) (x1 : Int) (h1 : rI x1) : Met l yX6_status wsX6_status ({ frames := 1, cells := 0, slots := 0, locals := 25 }) (va_Pc [.ref (q 0), .int (zI x1)] (eQ (dC, dI) (wTy g) (wMo g q M) tt sz)) (va_Qi (fun r (_ : Unit) => r = zI (ca_st (M 4) x1)) (fQ (dC, dI) (wTy g) (va_A (wMo g q M) sz) (wMo g q (m_st M x1))) (va_A (wMo g q M) sz)) 0 0 (va_A (wMo g q M) sz) := by
  refine Met.ofW (cc := cX6_status) (maxL := 2) (ret := (some .int)) (by decide) rfl ?_
  intro p e s m args below meth c s₁ B hml hv
  obtain ⟨rfl, hsz, hP, hK, hD0, hT⟩ := hv
  have hx := B.exec
  have hb := B.bytes
  have hr := B.returns
  have hts := atoms_spec (ws := wsX6_status) B.pre
  have hown : s.vm.findClass RX6 = some m.cls := findClass_of_methodNamed B.named
  have hlocks := B.notSynchronized
  subst hsz
  have hD := hD0.self (sz := s.heap.size)
  generalize hAe : va_A (wMo g q M) s.heap.size = A at hD hT ⊢
  have hA : ∀ q : Nat, s.heap.size ≤ q → A q := fun q h => by rw [← hAe]; exact Or.inr h
  have hS : va_S A s.heap s.heap [] := va_S.rf
  have hl := lv_entry ([.ref (q 0), .int (zI x1)]) (n := 2) (Nat.le_of_ble_eq_true rfl)
  rw [lg_entry_eq]
  generalize (lg_sl ([.ref (q 0), .int (zI x1)]) ++ List.replicate (2 - (lg_sl ([.ref (q 0), .int (zI x1)])).length) Slot.unset).toArray = ls at hl ⊢
  have hl : lv_has ls 2 [(0, .ref (q 0)), (1, .int (zI x1))] := hl
  have kc170 := hts (.constantLong RX6 170 (2)) (by decide +kernel)
  have kf20 := hts (.fieldLink RX6 20 "WrongWayModel" "refused" "[I") (by decide +kernel)
  have iX6 := (fun w h => List.mem_cons_of_mem _ (List.mem_append_right _ h) : ∀ w ∈ u_ws RX6 TX6 15, w ∈ wsX6_status)
  refine lv_iload_n hx hb dX6_status_0 rfl (lv_at hl 1 rfl) ?_
  refine q_i2l hx hb dX6_status_1 (by omega) ?_
  refine q_lconst hx hb 0 dX6_status_2 rfl ?_
  refine q_ldc2 hx hb 2 hown kc170 (by decide) dX6_status_3 ?_
  refine q_cSi (z := bz (0 ≤ x1 ∧ x1 ≤ 2)) (As := [.long (zL x1), .long (zL 0), .long (zL 2)]) (rest := []) ⟨hx, hb, hml, hown, hts⟩ (kX6_in l dC dI g tt x1 0 2 (by omega)) (va_cwS 3 hts gX6_status_X6_in rfl rfl rfl (by decide +kernel) ⟨Nat.le_of_ble_eq_true rfl, Nat.le_of_ble_eq_true rfl⟩) (hP.sub (ws' := []) [] rfl) hK hT hS rfl hl.1 rfl (Nat.le_of_ble_eq_true rfl) dX6_status_6 ⟨Nat.le_of_ble_eq_true rfl, Nat.le_of_ble_eq_true rfl⟩ ?_
  refine q_bz_eq (tgt := 21) hx hb dX6_status_9 (by decide) (fun c_1 => ?_) (fun c_1 => ?_)
  · refine lv_aload_n hx hb dX6_status_21 rfl (lv_at hl 0 rfl) ?_
    refine q_iconst hx hb dX6_status_22 ?_
    refine q_cEi (z := (-1)) (b := (q 0)) (As := [.int (zI (-1))]) (rest := []) (w1 := wMo g q (mbad M)) ⟨hx, hb, hml, hown, hts⟩ hP hD hK hT hS hA (kX6_badAs l dC dI g tt _ q M (-1)) (cwV 1 hts gX6_status_X6_badAs rfl rfl rfl (by decide +kernel) ⟨Nat.le_of_ble_eq_true rfl, Nat.le_of_ble_eq_true rfl⟩) 0 5 rfl rfl rfl rfl hl.1 rfl (Nat.le_of_ble_eq_true rfl) dX6_status_23 ⟨Nat.le_of_ble_eq_true rfl, Nat.le_of_ble_eq_true rfl⟩ (fun H locs hP hD hS => ?_)
    have hPf : va_P (dC, dI) vwCl (wMo g q (m_st M x1)) H := by rw [(show (m_st M x1) = mbad M from by unfold m_st; (repeat' split) <;> first | rfl | (exfalso; omega))]; exact hP
    have hDf : va_D A (wMo g q (m_st M x1)) := by rw [(show (m_st M x1) = mbad M from by unfold m_st; (repeat' split) <;> first | rfl | (exfalso; omega))]; exact hD
    exact W.iret hx hb hr (fun t9 ht9 hW9 => ⟨⟨_, (), rfl, congrArg zI (show (-1) = ca_st (M 4) x1 from by unfold ca_st; (repeat' split) <;> first | rfl | omega | (exfalso; omega)), by rw [ht9]; exact hPf, va_K.moved hW9.alike hK, hDf⟩, hS.F ht9⟩) hS.2.2 dX6_status_26
  · refine lv_aload_n hx hb dX6_status_12 rfl (lv_at hl 0 rfl) ?_
    refine va_get (D := (dC, dI)) (ci := 5) (v := .ref (q 4)) (C := RX6) (T := TX6) (N := 15) hx hb hts iX6 hown hK hP 0 rfl rfl 4 (by decide) kf20 (fun _ h9 => h9) rfl dX6_status_13 ?_
    refine lv_iload_n hx hb dX6_status_16 rfl (lv_at hl 1 rfl) ?_
    refine q_iald (F := fun k9 => M 4 k9) (v := M 4 x1) hx hb hK hP 4 0 rfl rfl (by decide) (by omega) (rfl) dX6_status_17 ?_
    refine lv_goto (tgt := 26) hx hb dX6_status_18 (by decide) ?_
    have hPf : va_P (dC, dI) vwCl (wMo g q (m_st M x1)) s.heap := by rw [(show (m_st M x1) = M from by unfold m_st; (repeat' split) <;> first | rfl | (exfalso; omega))]; exact hP
    have hDf : va_D A (wMo g q (m_st M x1)) := by rw [(show (m_st M x1) = M from by unfold m_st; (repeat' split) <;> first | rfl | (exfalso; omega))]; exact hD
    exact W.iret hx hb hr (fun t9 ht9 hW9 => ⟨⟨_, (), rfl, congrArg zI (show M 4 x1 = ca_st (M 4) x1 from by unfold ca_st; (repeat' split) <;> first | rfl | omega | (exfalso; omega)), by rw [ht9]; exact hPf, va_K.moved hW9.alike hK, hDf⟩, hS.F ht9⟩) hS.2.2 dX6_status_26
set_option maxHeartbeats 4000000 in
set_option maxRecDepth 100000 in
theorem kX6_countOf (l : Launch) (dC : Nat → ClassId) (dI : Nat → Nat → Nat) (g : Nat → ClassId) (tt : Nat → Nat) (q : Nat → Nat) (M : Nat → Int → Int) (x1 : Int) (h1 : 0 ≤ x1 ∧ x1 ≤ 5) : Met l yX6_countOf wsX6_countOf ({ frames := 0, cells := 0, slots := 0, locals := 0 }) (va_Pc [.ref (q 0), .int (zI x1)] (eS (dC, dI) (wTy g) (wMo g q M) tt)) (vp_Si (fun r => r = zI (ctn (M 1) (M 0 0) x1))) 0 0 (fun _ => False) := by
  refine Met.ofW (cc := cX6_countOf) (maxL := 2) (ret := (some .int)) (by decide) rfl ?_
  intro p e s m args below meth c s₁ B hml hv
  obtain ⟨rfl, hP, hK, hT⟩ := hv
  have hx := B.exec
  have hb := B.bytes
  have hr := B.returns
  have hts := atoms_spec (ws := wsX6_countOf) B.pre
  have hown : s.vm.findClass RX6 = some m.cls := findClass_of_methodNamed B.named
  have hlocks := B.notSynchronized
  have hS : va_S (fun _ : Nat => False) s.heap s.heap [] := va_S.rf
  have hl := lv_entry ([.ref (q 0), .int (zI x1)]) (n := 2) (Nat.le_of_ble_eq_true rfl)
  rw [lg_entry_eq]
  generalize (lg_sl ([.ref (q 0), .int (zI x1)]) ++ List.replicate (2 - (lg_sl ([.ref (q 0), .int (zI x1)])).length) Slot.unset).toArray = ls at hl ⊢
  have hl : lv_has ls 2 [(0, .ref (q 0)), (1, .int (zI x1))] := hl
  have kf63 := hts (.fieldLink RX6 63 "WrongWayModel" "texted" "I") (by decide +kernel)
  have kf7 := hts (.fieldLink RX6 7 "WrongWayModel" "w" "[I") (by decide +kernel)
  have iX6 := (fun w h => List.mem_cons_of_mem _ (List.mem_append_right _ h) : ∀ w ∈ u_ws RX6 TX6 15, w ∈ wsX6_countOf)
  refine lv_iload_n hx hb dX6_countOf_0 rfl (lv_at hl 1 rfl) ?_
  refine q_iconst hx hb dX6_countOf_1 ?_
  refine q_icmp_ne (tgt := 12) hx hb dX6_countOf_2 (by decide) (by omega) (fun c_1 => ?_) (fun c_1 => ?_)
  · refine lv_aload_n hx hb dX6_countOf_12 rfl (lv_at hl 0 rfl) ?_
    refine va_get (D := (dC, dI)) (ci := 5) (v := .ref (q 1)) (C := RX6) (T := TX6) (N := 15) hx hb hts iX6 hown hK hP 0 rfl rfl 0 (by decide) kf7 (fun _ h9 => h9) rfl dX6_countOf_13 ?_
    refine lv_iload_n hx hb dX6_countOf_16 rfl (lv_at hl 1 rfl) ?_
    refine q_iald (F := fun k9 => M 1 k9) (v := M 1 x1) hx hb hK hP 1 0 rfl rfl (by decide) (by omega) (rfl) dX6_countOf_17 ?_
    exact W.iret hx hb hr (fun t9 ht9 hW9 => ⟨_, rfl, congrArg zI (show M 1 x1 = ctn (M 1) (M 0 0) x1 from by rcases (show x1 = 0 ∨ x1 = 1 ∨ x1 = 2 ∨ x1 = 3 ∨ x1 = 4 ∨ x1 = 5 by omega) with e | e | e | e | e | e <;> subst e <;> first | rfl | (exfalso; omega)), ht9⟩) hS.2.2 dX6_countOf_18
  · refine lv_aload_n hx hb dX6_countOf_5 rfl (lv_at hl 0 rfl) ?_
    refine va_get (D := (dC, dI)) (ci := 5) (v := .int (zI (M 0 0))) (C := RX6) (T := TX6) (N := 15) hx hb hts iX6 hown hK hP 0 rfl rfl 3 (by decide) kf63 (fun _ h9 => h9) rfl dX6_countOf_6 ?_
    refine lv_goto (tgt := 18) hx hb dX6_countOf_9 (by decide) ?_
    exact W.iret hx hb hr (fun t9 ht9 hW9 => ⟨_, rfl, congrArg zI (show M 0 0 = ctn (M 1) (M 0 0) x1 from by rcases (show x1 = 0 ∨ x1 = 1 ∨ x1 = 2 ∨ x1 = 3 ∨ x1 = 4 ∨ x1 = 5 by omega) with e | e | e | e | e | e <;> subst e <;> first | rfl | (exfalso; omega)), ht9⟩) hS.2.2 dX6_countOf_18
set_option maxHeartbeats 4000000 in
set_option maxRecDepth 100000 in
theorem kX6_count (l : Launch) (dC : Nat → ClassId) (dI : Nat → Nat → Nat) (g : Nat → ClassId) (tt : Nat → Nat) (sz : Nat) (q : Nat → Nat) (M : Nat → Int → Int) (x1 : Int) (h1 : rI x1) : Met l yX6_count wsX6_count ({ frames := 1, cells := 0, slots := 0, locals := 25 }) (va_Pc [.ref (q 0), .int (zI x1)] (eQ (dC, dI) (wTy g) (wMo g q M) tt sz)) (va_Qi (fun r (_ : Unit) => r = zI (ca_ct (M 1) (M 0 0) x1)) (fQ (dC, dI) (wTy g) (va_A (wMo g q M) sz) (wMo g q (m_ct M x1))) (va_A (wMo g q M) sz)) 0 0 (va_A (wMo g q M) sz) := by
  refine Met.ofW (cc := cX6_count) (maxL := 2) (ret := (some .int)) (by decide) rfl ?_
  intro p e s m args below meth c s₁ B hml hv
  obtain ⟨rfl, hsz, hP, hK, hD0, hT⟩ := hv
  have hx := B.exec
  have hb := B.bytes
  have hr := B.returns
  have hts := atoms_spec (ws := wsX6_count) B.pre
  have hown : s.vm.findClass RX6 = some m.cls := findClass_of_methodNamed B.named
  have hlocks := B.notSynchronized
  subst hsz
  have hD := hD0.self (sz := s.heap.size)
  generalize hAe : va_A (wMo g q M) s.heap.size = A at hD hT ⊢
  have hA : ∀ q : Nat, s.heap.size ≤ q → A q := fun q h => by rw [← hAe]; exact Or.inr h
  have hS : va_S A s.heap s.heap [] := va_S.rf
  have hl := lv_entry ([.ref (q 0), .int (zI x1)]) (n := 2) (Nat.le_of_ble_eq_true rfl)
  rw [lg_entry_eq]
  generalize (lg_sl ([.ref (q 0), .int (zI x1)]) ++ List.replicate (2 - (lg_sl ([.ref (q 0), .int (zI x1)])).length) Slot.unset).toArray = ls at hl ⊢
  have hl : lv_has ls 2 [(0, .ref (q 0)), (1, .int (zI x1))] := hl
  have kc46 := hts (.constantLong RX6 46 (5)) (by decide +kernel)
  refine lv_iload_n hx hb dX6_count_0 rfl (lv_at hl 1 rfl) ?_
  refine q_i2l hx hb dX6_count_1 (by omega) ?_
  refine q_lconst hx hb 0 dX6_count_2 rfl ?_
  refine q_ldc2 hx hb 5 hown kc46 (by decide) dX6_count_3 ?_
  refine q_cSi (z := bz (0 ≤ x1 ∧ x1 ≤ 5)) (As := [.long (zL x1), .long (zL 0), .long (zL 5)]) (rest := []) ⟨hx, hb, hml, hown, hts⟩ (kX6_in l dC dI g tt x1 0 5 (by omega)) (va_cwS 3 hts gX6_count_X6_in rfl rfl rfl (by decide +kernel) ⟨Nat.le_of_ble_eq_true rfl, Nat.le_of_ble_eq_true rfl⟩) (hP.sub (ws' := []) [] rfl) hK hT hS rfl hl.1 rfl (Nat.le_of_ble_eq_true rfl) dX6_count_6 ⟨Nat.le_of_ble_eq_true rfl, Nat.le_of_ble_eq_true rfl⟩ ?_
  refine q_bz_eq (tgt := 20) hx hb dX6_count_9 (by decide) (fun c_1 => ?_) (fun c_1 => ?_)
  · refine lv_aload_n hx hb dX6_count_20 rfl (lv_at hl 0 rfl) ?_
    refine q_cEi (z := -2) (b := (q 0)) (As := []) (rest := []) (w1 := wMo g q (mbad M)) ⟨hx, hb, hml, hown, hts⟩ hP hD hK hT hS hA (kX6_bad l dC dI g tt _ q M) (cwV 0 hts gX6_count_X6_bad rfl rfl rfl (by decide +kernel) ⟨Nat.le_of_ble_eq_true rfl, Nat.le_of_ble_eq_true rfl⟩) 0 5 rfl rfl rfl rfl hl.1 rfl (Nat.le_of_ble_eq_true rfl) dX6_count_21 ⟨Nat.le_of_ble_eq_true rfl, Nat.le_of_ble_eq_true rfl⟩ (fun H locs hP hD hS => ?_)
    have hPf : va_P (dC, dI) vwCl (wMo g q (m_ct M x1)) H := by rw [(show (m_ct M x1) = mbad M from by unfold m_ct; (repeat' split) <;> first | rfl | (exfalso; omega))]; exact hP
    have hDf : va_D A (wMo g q (m_ct M x1)) := by rw [(show (m_ct M x1) = mbad M from by unfold m_ct; (repeat' split) <;> first | rfl | (exfalso; omega))]; exact hD
    exact W.iret hx hb hr (fun t9 ht9 hW9 => ⟨⟨_, (), rfl, congrArg zI (show -2 = ca_ct (M 1) (M 0 0) x1 from by unfold ca_ct; (repeat' split) <;> first | rfl | (exfalso; omega)), by rw [ht9]; exact hPf, va_K.moved hW9.alike hK, hDf⟩, hS.F ht9⟩) hS.2.2 dX6_count_24
  · refine lv_aload_n hx hb dX6_count_12 rfl (lv_at hl 0 rfl) ?_
    refine lv_iload_n hx hb dX6_count_13 rfl (lv_at hl 1 rfl) ?_
    refine q_cVi (z := ctn (M 1) (M 0 0) x1) (b := (q 0)) (As := [.int (zI x1)]) (rest := []) ⟨hx, hb, hml, hown, hts⟩ (kX6_countOf l dC dI g tt q M x1 (by omega)) (cwV 1 hts gX6_count_X6_countOf rfl rfl rfl (by decide +kernel) ⟨Nat.le_of_ble_eq_true rfl, Nat.le_of_ble_eq_true rfl⟩) hP hK hT hS 0 5 rfl rfl rfl rfl hl.1 rfl (Nat.le_of_ble_eq_true rfl) dX6_count_14 ⟨Nat.le_of_ble_eq_true rfl, Nat.le_of_ble_eq_true rfl⟩ ?_
    refine lv_goto (tgt := 24) hx hb dX6_count_17 (by decide) ?_
    have hPf : va_P (dC, dI) vwCl (wMo g q (m_ct M x1)) s.heap := by rw [(show (m_ct M x1) = M from by unfold m_ct; (repeat' split) <;> first | rfl | (exfalso; omega))]; exact hP
    have hDf : va_D A (wMo g q (m_ct M x1)) := by rw [(show (m_ct M x1) = M from by unfold m_ct; (repeat' split) <;> first | rfl | (exfalso; omega))]; exact hD
    exact W.iret hx hb hr (fun t9 ht9 hW9 => ⟨⟨_, (), rfl, congrArg zI (show ctn (M 1) (M 0 0) x1 = ca_ct (M 1) (M 0 0) x1 from by unfold ca_ct; (repeat' split) <;> first | rfl | (exfalso; omega)), by rw [ht9]; exact hPf, va_K.moved hW9.alike hK, hDf⟩, hS.F ht9⟩) hS.2.2 dX6_count_24
set_option maxHeartbeats 4000000 in
set_option maxRecDepth 100000 in
theorem kX6_mix (l : Launch) (dC : Nat → ClassId) (dI : Nat → Nat → Nat) (g : Nat → ClassId) (tt : Nat → Nat) (sz : Nat) (q : Nat → Nat) (M : Nat → Int → Int) (x1 : Int) : Met l yX6_mix wsX6_mix ({ frames := 0, cells := 0, slots := 0, locals := 0 }) (va_Pc [.ref (q 0), .long (zL x1)] (eQ (dC, dI) (wTy g) (wMo g q M) tt sz)) (va_Qv (fun (_ : Unit) => True) (fQ (dC, dI) (wTy g) (va_A (wMo g q M) sz) (wMo g q (mset M 0 9 (31 * M 0 9 + x1)))) (va_A (wMo g q M) sz)) 0 0 (va_A (wMo g q M) sz) := by
  refine Met.ofW (cc := cX6_mix) (maxL := 3) (ret := none) (by decide) rfl ?_
  intro p e s m args below meth c s₁ B hml hv
  obtain ⟨rfl, hsz, hP, hK, hD0, hT⟩ := hv
  have hx := B.exec
  have hb := B.bytes
  have hr := B.returns
  have hts := atoms_spec (ws := wsX6_mix) B.pre
  have hown : s.vm.findClass RX6 = some m.cls := findClass_of_methodNamed B.named
  have hlocks := B.notSynchronized
  subst hsz
  have hD := hD0.self (sz := s.heap.size)
  generalize hAe : va_A (wMo g q M) s.heap.size = A at hD hT ⊢
  have hA : ∀ q : Nat, s.heap.size ≤ q → A q := fun q h => by rw [← hAe]; exact Or.inr h
  have hS : va_S A s.heap s.heap [] := va_S.rf
  have hl := lv_entry ([.ref (q 0), .long (zL x1)]) (n := 3) (Nat.le_of_ble_eq_true rfl)
  rw [lg_entry_eq]
  generalize (lg_sl ([.ref (q 0), .long (zL x1)]) ++ List.replicate (3 - (lg_sl ([.ref (q 0), .long (zL x1)])).length) Slot.unset).toArray = ls at hl ⊢
  have hl : lv_has ls 3 [(0, .ref (q 0)), (1, .long (zL x1))] := hl
  have kc224 := hts (.constantLong RX6 224 (31)) (by decide +kernel)
  have kf226 := hts (.fieldLink RX6 226 "WrongWayModel" "h" "J") (by decide +kernel)
  have iX6 := (fun w h => List.mem_cons_of_mem _ (List.mem_append_right _ h) : ∀ w ∈ u_ws RX6 TX6 15, w ∈ wsX6_mix)
  refine lv_aload_n hx hb dX6_mix_0 rfl (lv_at hl 0 rfl) ?_
  refine q_ldc2 hx hb 31 hown kc224 (by decide) dX6_mix_1 ?_
  refine lv_aload_n hx hb dX6_mix_4 rfl (lv_at hl 0 rfl) ?_
  refine va_get (D := (dC, dI)) (ci := 5) (v := .long (zL (M 0 9))) (C := RX6) (T := TX6) (N := 15) hx hb hts iX6 hown hK hP 0 rfl rfl 14 (by decide) kf226 (fun _ h9 => h9) rfl dX6_mix_5 ?_
  refine q_lmul hx hb dX6_mix_8 ?_
  refine lv_lload_n hx hb dX6_mix_9 rfl (lv_at hl 1 rfl) ?_
  refine q_ladd hx hb dX6_mix_10 ?_
  refine va_put (D := (dC, dI)) (ci := 5) (v := .long (zL ((31 * (M 0 9)) + x1))) (ty := .long) (C := RX6) (T := TX6) (N := 15) hx hb hts iX6 tyX6 tyX6_ok nmX6 hown hK hP hD hS 0 rfl rfl 14 (by decide) kf226 (fun _ h9 => h9) rfl (by decide +kernel) rfl rfl (Nat.le_of_ble_eq_true rfl) dX6_mix_11 (fun H locs hP hD hS => ?_)
  have hP : va_P (dC, dI) vwCl (wMo g q (mset M 0 9 ((31 * (M 0 9)) + x1))) H := hP
  have hD : va_D A (wMo g q (mset M 0 9 ((31 * (M 0 9)) + x1))) := hD
  have hPf : va_P (dC, dI) vwCl (wMo g q (mset M 0 9 (31 * M 0 9 + x1))) H := by rw [(show (mset M 0 9 (31 * M 0 9 + x1)) = mset M 0 9 ((31 * (M 0 9)) + x1) from by rfl)]; exact hP
  have hDf : va_D A (wMo g q (mset M 0 9 (31 * M 0 9 + x1))) := by rw [(show (mset M 0 9 (31 * M 0 9 + x1)) = mset M 0 9 ((31 * (M 0 9)) + x1) from by rfl)]; exact hD
  exact W.vret hx hb hr (fun t9 ht9 hW9 => ⟨⟨(), rfl, trivial, by rw [ht9]; exact hPf, va_K.moved hW9.alike hK, hDf⟩, hS.F ht9⟩) hS.2.2 dX6_mix_14
set_option maxHeartbeats 4000000 in
set_option maxRecDepth 100000 in
theorem kX6_digest (l : Launch) (dC : Nat → ClassId) (dI : Nat → Nat → Nat) (g : Nat → ClassId) (tt : Nat → Nat) (sz : Nat) (q : Nat → Nat) (M : Nat → Int → Int) (hw : hok (M 1)) (hL : 0 ≤ M 0 0 ∧ M 0 0 ≤ 150) : Met l yX6_digest wsX6_digest ({ frames := 1, cells := 0, slots := 0, locals := 22 }) (va_Pc [.ref (q 0)] (eQ (dC, dI) (wTy g) (wMo g q M) tt sz)) (va_Ql (fun r (_ : Unit) => r = zL (ma_dg (M 1) (M 0 0) (M 0 1) (M 0 2))) (fQ (dC, dI) (wTy g) (va_A (wMo g q M) sz) (wMo g q (mset M 0 9 (ma_dg (M 1) (M 0 0) (M 0 1) (M 0 2))))) (va_A (wMo g q M) sz)) 0 0 (va_A (wMo g q M) sz) := by
  refine Met.ofW (cc := cX6_digest) (maxL := 2) (ret := (some .long)) (by decide) rfl ?_
  intro p e s m args below meth c s₁ B hml hv
  obtain ⟨rfl, hsz, hP, hK, hD0, hT⟩ := hv
  have hx := B.exec
  have hb := B.bytes
  have hr := B.returns
  have hts := atoms_spec (ws := wsX6_digest) B.pre
  have hown : s.vm.findClass RX6 = some m.cls := findClass_of_methodNamed B.named
  have hlocks := B.notSynchronized
  subst hsz
  have hD := hD0.self (sz := s.heap.size)
  generalize hAe : va_A (wMo g q M) s.heap.size = A at hD hT ⊢
  have hA : ∀ q : Nat, s.heap.size ≤ q → A q := fun q h => by rw [← hAe]; exact Or.inr h
  have hS : va_S A s.heap s.heap [] := va_S.rf
  have hl := lv_entry ([.ref (q 0)]) (n := 2) (Nat.le_of_ble_eq_true rfl)
  rw [lg_entry_eq]
  generalize (lg_sl ([.ref (q 0)]) ++ List.replicate (2 - (lg_sl ([.ref (q 0)])).length) Slot.unset).toArray = ls at hl ⊢
  have hl : lv_has ls 2 [(0, .ref (q 0))] := hl
  have kc229 := hts (.constantLong RX6 229 (1123)) (by decide +kernel)
  have kf176 := hts (.fieldLink RX6 176 "WrongWayModel" "above" "J") (by decide +kernel)
  have kf226 := hts (.fieldLink RX6 226 "WrongWayModel" "h" "J") (by decide +kernel)
  have kf23 := hts (.fieldLink RX6 23 "WrongWayModel" "below" "J") (by decide +kernel)
  have kf7 := hts (.fieldLink RX6 7 "WrongWayModel" "w" "[I") (by decide +kernel)
  have iX6 := (fun w h => List.mem_cons_of_mem _ (List.mem_append_right _ h) : ∀ w ∈ u_ws RX6 TX6 15, w ∈ wsX6_digest)
  have hb0 := hw.b
  refine lv_aload_n hx hb dX6_digest_0 rfl (lv_at hl 0 rfl) ?_
  refine q_ldc2 hx hb 1123 hown kc229 (by decide) dX6_digest_1 ?_
  refine va_put (D := (dC, dI)) (ci := 5) (v := .long (zL 1123)) (ty := .long) (C := RX6) (T := TX6) (N := 15) hx hb hts iX6 tyX6 tyX6_ok nmX6 hown hK hP hD hS 0 rfl rfl 14 (by decide) kf226 (fun _ h9 => h9) rfl (by decide +kernel) rfl rfl (Nat.le_of_ble_eq_true rfl) dX6_digest_4 (fun H locs hP hD hS => ?_)
  have hP : va_P (dC, dI) vwCl (wMo g q (mset M 0 9 1123)) H := hP
  have hD : va_D A (wMo g q (mset M 0 9 1123)) := hD
  refine q_iconst hx hb dX6_digest_7 ?_
  refine lv_istore_n (lv' := [(1, .int (zI 0)), (0, .ref (q 0))]) hx hb dX6_digest_8 rfl hl (by decide) rfl (fun ls hl => ?_)
  refine w_loopQ (σ := Int) (fun a9 H locs ls => (0 ≤ a9 ∧ a9 ≤ 6) ∧ va_P (dC, dI) vwCl (wMo g q (mset M 0 9 (itR (fun k9 h9 => 31 * h9 + ctn (M 1) (M 0 0) k9) 1123 a9))) H ∧ va_D A (wMo g q (mset M 0 9 (itR (fun k9 h9 => 31 * h9 + ctn (M 1) (M 0 0) k9) 1123 a9))) ∧ va_S A s.heap H locs ∧ lv_has ls 2 [(0, .ref (q 0)), (1, .int (zI a9))]) (fun a9 => (6 - a9).toNat) ?_ (0) ?_
  · rintro i H locs ls ⟨hi, hP, hD, hS, hl⟩ ih9
    have hi : 0 ≤ i ∧ i ≤ 6 := hi
    have hP : va_P (dC, dI) vwCl (wMo g q (mset M 0 9 (itR (fun k9 h9 => 31 * h9 + ctn (M 1) (M 0 0) k9) 1123 i))) H := hP
    have hD : va_D A (wMo g q (mset M 0 9 (itR (fun k9 h9 => 31 * h9 + ctn (M 1) (M 0 0) k9) 1123 i))) := hD
    have hl : lv_has ls 2 [(0, .ref (q 0)), (1, .int (zI i))] := hl
    refine lv_iload_n hx hb dX6_digest_9 rfl (lv_at hl 1 rfl) ?_
    refine q_bipush hx hb dX6_digest_10 rfl ?_
    refine q_icmp_ge (tgt := 31) hx hb dX6_digest_12 (by decide) (by omega) (fun c_1 => ?_) (fun c_1 => ?_)
    · refine q_iconst hx hb dX6_digest_31 ?_
      refine lv_istore_n (lv' := [(1, .int (zI 0)), (0, .ref (q 0))]) hx hb dX6_digest_32 rfl hl (by decide) rfl (fun ls hl => ?_)
      refine w_loopQ (σ := Int) (fun a9 H locs ls => (0 ≤ a9 ∧ a9 ≤ M 1 0) ∧ va_P (dC, dI) vwCl (wMo g q (mset M 0 9 (itR (c_dgL (M 1)) (itR (fun k9 h9 => 31 * h9 + ctn (M 1) (M 0 0) k9) 1123 6) a9))) H ∧ va_D A (wMo g q (mset M 0 9 (itR (c_dgL (M 1)) (itR (fun k9 h9 => 31 * h9 + ctn (M 1) (M 0 0) k9) 1123 6) a9))) ∧ va_S A s.heap H locs ∧ lv_has ls 2 [(0, .ref (q 0)), (1, .int (zI a9))]) (fun a9 => (M 1 0 - a9).toNat) ?_ (0) ?_
      · rintro j H locs ls ⟨hj, hP, hD, hS, hl⟩ ih33
        have hj : 0 ≤ j ∧ j ≤ M 1 0 := hj
        have hP : va_P (dC, dI) vwCl (wMo g q (mset M 0 9 (itR (c_dgL (M 1)) (itR (fun k9 h9 => 31 * h9 + ctn (M 1) (M 0 0) k9) 1123 6) j))) H := hP
        have hD : va_D A (wMo g q (mset M 0 9 (itR (c_dgL (M 1)) (itR (fun k9 h9 => 31 * h9 + ctn (M 1) (M 0 0) k9) 1123 6) j))) := hD
        have hl : lv_has ls 2 [(0, .ref (q 0)), (1, .int (zI j))] := hl
        refine lv_iload_n hx hb dX6_digest_33 rfl (lv_at hl 1 rfl) ?_
        refine lv_aload_n hx hb dX6_digest_34 rfl (lv_at hl 0 rfl) ?_
        refine va_get (D := (dC, dI)) (ci := 5) (v := .ref (q 1)) (C := RX6) (T := TX6) (N := 15) hx hb hts iX6 hown hK hP 0 rfl rfl 0 (by decide) kf7 (fun _ h9 => h9) rfl dX6_digest_35 ?_
        refine q_iconst hx hb dX6_digest_38 ?_
        refine q_iald (F := fun k9 => (mset M 0 9 (itR (c_dgL (M 1)) (itR (fun k9 h9 => 31 * h9 + ctn (M 1) (M 0 0) k9) 1123 6) j)) 1 k9) (v := M 1 0) hx hb hK hP 1 0 rfl rfl (by decide) (by omega) (by first | rfl | (show (mset M 0 9 (itR (c_dgL (M 1)) (itR (fun 0 h9 => 31 * h9 + ctn (M 1) (M 0 0) 0) 1123 6) j)) 1 0 = M 1 0; exact (mset_ne (by omega)).trans rfl) | (show (mset M 0 9 (itR (c_dgL (M 1)) (itR (fun 0 h9 => 31 * h9 + ctn (M 1) (M 0 0) 0) 1123 6) j)) 1 0 = M 1 0; exact (mset_ne (by omega)).trans ((mset_ne (by omega)).trans rfl)) | (show (mset M 0 9 (itR (c_dgL (M 1)) (itR (fun 0 h9 => 31 * h9 + ctn (M 1) (M 0 0) 0) 1123 6) j)) 1 0 = M 1 0; simp only [mset]; (repeat' split) <;> first | rfl | omega)) dX6_digest_39 ?_
        refine q_icmp_ge (tgt := 76) hx hb dX6_digest_40 (by decide) (by omega) (fun c_2 => ?_) (fun c_2 => ?_)
        · refine q_iconst hx hb dX6_digest_76 ?_
          refine lv_istore_n (lv' := [(1, .int (zI 0)), (0, .ref (q 0))]) hx hb dX6_digest_77 rfl hl (by decide) rfl (fun ls hl => ?_)
          refine w_loopQ (σ := Int) (fun a9 H locs ls => (0 ≤ a9 ∧ a9 ≤ 2) ∧ va_P (dC, dI) vwCl (wMo g q (mset M 0 9 (itR (c_dgE (M 1)) (itR (c_dgL (M 1)) (itR (fun k9 h9 => 31 * h9 + ctn (M 1) (M 0 0) k9) 1123 6) (M 1 0)) a9))) H ∧ va_D A (wMo g q (mset M 0 9 (itR (c_dgE (M 1)) (itR (c_dgL (M 1)) (itR (fun k9 h9 => 31 * h9 + ctn (M 1) (M 0 0) k9) 1123 6) (M 1 0)) a9))) ∧ va_S A s.heap H locs ∧ lv_has ls 2 [(0, .ref (q 0)), (1, .int (zI a9))]) (fun a9 => (2 - a9).toNat) ?_ (0) ?_
          · rintro k H locs ls ⟨hk, hP, hD, hS, hl⟩ ih78
            have hk : 0 ≤ k ∧ k ≤ 2 := hk
            have hP : va_P (dC, dI) vwCl (wMo g q (mset M 0 9 (itR (c_dgE (M 1)) (itR (c_dgL (M 1)) (itR (fun k9 h9 => 31 * h9 + ctn (M 1) (M 0 0) k9) 1123 6) (M 1 0)) k))) H := hP
            have hD : va_D A (wMo g q (mset M 0 9 (itR (c_dgE (M 1)) (itR (c_dgL (M 1)) (itR (fun k9 h9 => 31 * h9 + ctn (M 1) (M 0 0) k9) 1123 6) (M 1 0)) k))) := hD
            have hl : lv_has ls 2 [(0, .ref (q 0)), (1, .int (zI k))] := hl
            refine lv_iload_n hx hb dX6_digest_78 rfl (lv_at hl 1 rfl) ?_
            refine q_iconst hx hb dX6_digest_79 ?_
            refine q_icmp_ge (tgt := 117) hx hb dX6_digest_80 (by decide) (by omega) (fun c_3 => ?_) (fun c_3 => ?_)
            · refine q_iconst hx hb dX6_digest_117 ?_
              refine lv_istore_n (lv' := [(1, .int (zI 0)), (0, .ref (q 0))]) hx hb dX6_digest_118 rfl hl (by decide) rfl (fun ls hl => ?_)
              refine w_loopQ (σ := Int) (fun a9 H locs ls => (0 ≤ a9 ∧ a9 ≤ 4 * M 1 3) ∧ va_P (dC, dI) vwCl (wMo g q (mset M 0 9 (itR (fun k9 h9 => 31 * h9 + M 1 (17 + k9)) (itR (c_dgE (M 1)) (itR (c_dgL (M 1)) (itR (fun k9 h9 => 31 * h9 + ctn (M 1) (M 0 0) k9) 1123 6) (M 1 0)) 2) a9))) H ∧ va_D A (wMo g q (mset M 0 9 (itR (fun k9 h9 => 31 * h9 + M 1 (17 + k9)) (itR (c_dgE (M 1)) (itR (c_dgL (M 1)) (itR (fun k9 h9 => 31 * h9 + ctn (M 1) (M 0 0) k9) 1123 6) (M 1 0)) 2) a9))) ∧ va_S A s.heap H locs ∧ lv_has ls 2 [(0, .ref (q 0)), (1, .int (zI a9))]) (fun a9 => (4 * M 1 3 - a9).toNat) ?_ (0) ?_
              · rintro n H locs ls ⟨hn, hP, hD, hS, hl⟩ ih119
                have hn : 0 ≤ n ∧ n ≤ 4 * M 1 3 := hn
                have hP : va_P (dC, dI) vwCl (wMo g q (mset M 0 9 (itR (fun k9 h9 => 31 * h9 + M 1 (17 + k9)) (itR (c_dgE (M 1)) (itR (c_dgL (M 1)) (itR (fun k9 h9 => 31 * h9 + ctn (M 1) (M 0 0) k9) 1123 6) (M 1 0)) 2) n))) H := hP
                have hD : va_D A (wMo g q (mset M 0 9 (itR (fun k9 h9 => 31 * h9 + M 1 (17 + k9)) (itR (c_dgE (M 1)) (itR (c_dgL (M 1)) (itR (fun k9 h9 => 31 * h9 + ctn (M 1) (M 0 0) k9) 1123 6) (M 1 0)) 2) n))) := hD
                have hl : lv_has ls 2 [(0, .ref (q 0)), (1, .int (zI n))] := hl
                refine lv_iload_n hx hb dX6_digest_119 rfl (lv_at hl 1 rfl) ?_
                refine q_iconst hx hb dX6_digest_120 ?_
                refine lv_aload_n hx hb dX6_digest_121 rfl (lv_at hl 0 rfl) ?_
                refine va_get (D := (dC, dI)) (ci := 5) (v := .ref (q 1)) (C := RX6) (T := TX6) (N := 15) hx hb hts iX6 hown hK hP 0 rfl rfl 0 (by decide) kf7 (fun _ h9 => h9) rfl dX6_digest_122 ?_
                refine q_iconst hx hb dX6_digest_125 ?_
                refine q_iald (F := fun k9 => (mset M 0 9 (itR (fun k9 h9 => 31 * h9 + M 1 (17 + k9)) (itR (c_dgE (M 1)) (itR (c_dgL (M 1)) (itR (fun k9 h9 => 31 * h9 + ctn (M 1) (M 0 0) k9) 1123 6) (M 1 0)) 2) n)) 1 k9) (v := M 1 3) hx hb hK hP 1 0 rfl rfl (by decide) (by omega) (by first | rfl | (show (mset M 0 9 (itR (fun 3 h9 => 31 * h9 + M 1 (17 + 3)) (itR (c_dgE (M 1)) (itR (c_dgL (M 1)) (itR (fun 3 h9 => 31 * h9 + ctn (M 1) (M 0 0) 3) 1123 6) (M 1 0)) 2) n)) 1 3 = M 1 3; exact (mset_ne (by omega)).trans rfl) | (show (mset M 0 9 (itR (fun 3 h9 => 31 * h9 + M 1 (17 + 3)) (itR (c_dgE (M 1)) (itR (c_dgL (M 1)) (itR (fun 3 h9 => 31 * h9 + ctn (M 1) (M 0 0) 3) 1123 6) (M 1 0)) 2) n)) 1 3 = M 1 3; exact (mset_ne (by omega)).trans ((mset_ne (by omega)).trans rfl)) | (show (mset M 0 9 (itR (fun 3 h9 => 31 * h9 + M 1 (17 + 3)) (itR (c_dgE (M 1)) (itR (c_dgL (M 1)) (itR (fun 3 h9 => 31 * h9 + ctn (M 1) (M 0 0) 3) 1123 6) (M 1 0)) 2) n)) 1 3 = M 1 3; simp only [mset]; (repeat' split) <;> first | rfl | omega)) dX6_digest_126 ?_
                refine q_imul hx hb dX6_digest_127 ?_
                refine q_icmp_ge (tgt := 151) hx hb dX6_digest_128 (by decide) (by omega) (fun c_4 => ?_) (fun c_4 => ?_)
                · refine lv_aload_n hx hb dX6_digest_151 rfl (lv_at hl 0 rfl) ?_
                  refine lv_aload_n hx hb dX6_digest_152 rfl (lv_at hl 0 rfl) ?_
                  refine va_get (D := (dC, dI)) (ci := 5) (v := .long (zL (M 0 1))) (C := RX6) (T := TX6) (N := 15) hx hb hts iX6 hown hK hP 0 rfl rfl 5 (by decide) kf176 (fun _ h9 => h9) rfl dX6_digest_153 ?_
                  refine q_cEv (b := (q 0)) (As := [.long (zL (M 0 1))]) (rest := []) (w1 := wMo g q (mset (mset M 0 9 (itR (fun k9 h9 => 31 * h9 + M 1 (17 + k9)) (itR (c_dgE (M 1)) (itR (c_dgL (M 1)) (itR (fun k9 h9 => 31 * h9 + ctn (M 1) (M 0 0) k9) 1123 6) (M 1 0)) 2) n)) 0 9 (31 * (itR (fun k9 h9 => 31 * h9 + M 1 (17 + k9)) (itR (c_dgE (M 1)) (itR (c_dgL (M 1)) (itR (fun k9 h9 => 31 * h9 + ctn (M 1) (M 0 0) k9) 1123 6) (M 1 0)) 2) n) + (M 0 1)))) ⟨hx, hb, hml, hown, hts⟩ hP hD hK hT hS hA (kX6_mix l dC dI g tt _ q (mset M 0 9 (itR (fun k9 h9 => 31 * h9 + M 1 (17 + k9)) (itR (c_dgE (M 1)) (itR (c_dgL (M 1)) (itR (fun k9 h9 => 31 * h9 + ctn (M 1) (M 0 0) k9) 1123 6) (M 1 0)) 2) n)) (M 0 1)) (cwV 1 hts gX6_digest_X6_mix rfl rfl rfl (by decide +kernel) ⟨Nat.le_of_ble_eq_true rfl, Nat.le_of_ble_eq_true rfl⟩) 0 5 rfl rfl rfl rfl hl.1 rfl (Nat.le_of_ble_eq_true rfl) dX6_digest_156 ⟨Nat.le_of_ble_eq_true rfl, Nat.le_of_ble_eq_true rfl⟩ (fun H locs hP hD hS => ?_)
                  refine lv_aload_n hx hb dX6_digest_159 rfl (lv_at hl 0 rfl) ?_
                  refine lv_aload_n hx hb dX6_digest_160 rfl (lv_at hl 0 rfl) ?_
                  refine va_get (D := (dC, dI)) (ci := 5) (v := .long (zL (M 0 2))) (C := RX6) (T := TX6) (N := 15) hx hb hts iX6 hown hK hP 0 rfl rfl 6 (by decide) kf23 (fun _ h9 => h9) rfl dX6_digest_161 ?_
                  refine q_cEv (b := (q 0)) (As := [.long (zL (M 0 2))]) (rest := []) (w1 := wMo g q (mset (mset (mset M 0 9 (itR (fun k9 h9 => 31 * h9 + M 1 (17 + k9)) (itR (c_dgE (M 1)) (itR (c_dgL (M 1)) (itR (fun k9 h9 => 31 * h9 + ctn (M 1) (M 0 0) k9) 1123 6) (M 1 0)) 2) n)) 0 9 (31 * (itR (fun k9 h9 => 31 * h9 + M 1 (17 + k9)) (itR (c_dgE (M 1)) (itR (c_dgL (M 1)) (itR (fun k9 h9 => 31 * h9 + ctn (M 1) (M 0 0) k9) 1123 6) (M 1 0)) 2) n) + (M 0 1))) 0 9 (31 * (31 * (itR (fun k9 h9 => 31 * h9 + M 1 (17 + k9)) (itR (c_dgE (M 1)) (itR (c_dgL (M 1)) (itR (fun k9 h9 => 31 * h9 + ctn (M 1) (M 0 0) k9) 1123 6) (M 1 0)) 2) n) + (M 0 1)) + (M 0 2)))) ⟨hx, hb, hml, hown, hts⟩ hP hD hK hT hS hA (kX6_mix l dC dI g tt _ q (mset (mset M 0 9 (itR (fun k9 h9 => 31 * h9 + M 1 (17 + k9)) (itR (c_dgE (M 1)) (itR (c_dgL (M 1)) (itR (fun k9 h9 => 31 * h9 + ctn (M 1) (M 0 0) k9) 1123 6) (M 1 0)) 2) n)) 0 9 (31 * (itR (fun k9 h9 => 31 * h9 + M 1 (17 + k9)) (itR (c_dgE (M 1)) (itR (c_dgL (M 1)) (itR (fun k9 h9 => 31 * h9 + ctn (M 1) (M 0 0) k9) 1123 6) (M 1 0)) 2) n) + (M 0 1))) (M 0 2)) (cwV 1 hts gX6_digest_X6_mix rfl rfl rfl (by decide +kernel) ⟨Nat.le_of_ble_eq_true rfl, Nat.le_of_ble_eq_true rfl⟩) 0 5 rfl rfl rfl rfl hl.1 rfl (Nat.le_of_ble_eq_true rfl) dX6_digest_164 ⟨Nat.le_of_ble_eq_true rfl, Nat.le_of_ble_eq_true rfl⟩ (fun H locs hP hD hS => ?_)
                  refine lv_aload_n hx hb dX6_digest_167 rfl (lv_at hl 0 rfl) ?_
                  refine va_get (D := (dC, dI)) (ci := 5) (v := .long (zL (31 * (31 * (itR (fun k9 h9 => 31 * h9 + M 1 (17 + k9)) (itR (c_dgE (M 1)) (itR (c_dgL (M 1)) (itR (fun k9 h9 => 31 * h9 + ctn (M 1) (M 0 0) k9) 1123 6) (M 1 0)) 2) n) + (M 0 1)) + (M 0 2)))) (C := RX6) (T := TX6) (N := 15) hx hb hts iX6 hown hK hP 0 rfl rfl 14 (by decide) kf226 (fun _ h9 => h9) rfl dX6_digest_168 ?_
                  have hPf : va_P (dC, dI) vwCl (wMo g q (mset M 0 9 (ma_dg (M 1) (M 0 0) (M 0 1) (M 0 2)))) H := by rw [(show (mset M 0 9 (ma_dg (M 1) (M 0 0) (M 0 1) (M 0 2))) = mset (mset (mset M 0 9 (itR (fun k9 h9 => 31 * h9 + M 1 (17 + k9)) (itR (c_dgE (M 1)) (itR (c_dgL (M 1)) (itR (fun k9 h9 => 31 * h9 + ctn (M 1) (M 0 0) k9) 1123 6) (M 1 0)) 2) n)) 0 9 (31 * (itR (fun k9 h9 => 31 * h9 + M 1 (17 + k9)) (itR (c_dgE (M 1)) (itR (c_dgL (M 1)) (itR (fun k9 h9 => 31 * h9 + ctn (M 1) (M 0 0) k9) 1123 6) (M 1 0)) 2) n) + (M 0 1))) 0 9 (31 * (31 * (itR (fun k9 h9 => 31 * h9 + M 1 (17 + k9)) (itR (c_dgE (M 1)) (itR (c_dgL (M 1)) (itR (fun k9 h9 => 31 * h9 + ctn (M 1) (M 0 0) k9) 1123 6) (M 1 0)) 2) n) + (M 0 1)) + (M 0 2)) from by (repeat rw [mset_mset]); unfold ma_dg mdgN; rw [show n = 4 * M 1 3 by omega]; first | done | rfl)]; exact hP
                  have hDf : va_D A (wMo g q (mset M 0 9 (ma_dg (M 1) (M 0 0) (M 0 1) (M 0 2)))) := by rw [(show (mset M 0 9 (ma_dg (M 1) (M 0 0) (M 0 1) (M 0 2))) = mset (mset (mset M 0 9 (itR (fun k9 h9 => 31 * h9 + M 1 (17 + k9)) (itR (c_dgE (M 1)) (itR (c_dgL (M 1)) (itR (fun k9 h9 => 31 * h9 + ctn (M 1) (M 0 0) k9) 1123 6) (M 1 0)) 2) n)) 0 9 (31 * (itR (fun k9 h9 => 31 * h9 + M 1 (17 + k9)) (itR (c_dgE (M 1)) (itR (c_dgL (M 1)) (itR (fun k9 h9 => 31 * h9 + ctn (M 1) (M 0 0) k9) 1123 6) (M 1 0)) 2) n) + (M 0 1))) 0 9 (31 * (31 * (itR (fun k9 h9 => 31 * h9 + M 1 (17 + k9)) (itR (c_dgE (M 1)) (itR (c_dgL (M 1)) (itR (fun k9 h9 => 31 * h9 + ctn (M 1) (M 0 0) k9) 1123 6) (M 1 0)) 2) n) + (M 0 1)) + (M 0 2)) from by (repeat rw [mset_mset]); unfold ma_dg mdgN; rw [show n = 4 * M 1 3 by omega]; first | done | rfl)]; exact hD
                  exact W.lret hx hb hr (fun t9 ht9 hW9 => ⟨⟨_, (), rfl, congrArg zL (show 31 * (31 * (itR (fun k9 h9 => 31 * h9 + M 1 (17 + k9)) (itR (c_dgE (M 1)) (itR (c_dgL (M 1)) (itR (fun k9 h9 => 31 * h9 + ctn (M 1) (M 0 0) k9) 1123 6) (M 1 0)) 2) n) + (M 0 1)) + (M 0 2) = ma_dg (M 1) (M 0 0) (M 0 1) (M 0 2) from by unfold ma_dg mdgN; rw [show n = 4 * M 1 3 by omega]), by rw [ht9]; exact hPf, va_K.moved hW9.alike hK, hDf⟩, hS.F ht9⟩) hS.2.2 dX6_digest_171
                · have hnb : 0 ≤ M 1 (17 + n) ∧ M 1 (17 + n) ≤ 1000 := by have hn0 := hw.n (k := n / 4) (by omega) (by omega); rcases (show 17 + n = 17 + 4 * (n / 4) ∨ 17 + n = 18 + 4 * (n / 4) ∨ 17 + n = 19 + 4 * (n / 4) ∨ 17 + n = 20 + 4 * (n / 4) by omega) with e | e | e | e <;> rw [e] <;> omega
                  refine lv_aload_n hx hb dX6_digest_131 rfl (lv_at hl 0 rfl) ?_
                  refine lv_aload_n hx hb dX6_digest_132 rfl (lv_at hl 0 rfl) ?_
                  refine va_get (D := (dC, dI)) (ci := 5) (v := .ref (q 1)) (C := RX6) (T := TX6) (N := 15) hx hb hts iX6 hown hK hP 0 rfl rfl 0 (by decide) kf7 (fun _ h9 => h9) rfl dX6_digest_133 ?_
                  refine q_bipush hx hb dX6_digest_136 rfl ?_
                  refine lv_iload_n hx hb dX6_digest_138 rfl (lv_at hl 1 rfl) ?_
                  refine q_iadd hx hb dX6_digest_139 ?_
                  refine q_iald (F := fun k9 => (mset M 0 9 (itR (fun k9 h9 => 31 * h9 + M 1 (17 + k9)) (itR (c_dgE (M 1)) (itR (c_dgL (M 1)) (itR (fun k9 h9 => 31 * h9 + ctn (M 1) (M 0 0) k9) 1123 6) (M 1 0)) 2) n)) 1 k9) (v := M 1 (17 + n)) hx hb hK hP 1 0 rfl rfl (by decide) (by omega) (by first | rfl | (show (mset M 0 9 (itR (fun (17 + n) h9 => 31 * h9 + M 1 (17 + (17 + n))) (itR (c_dgE (M 1)) (itR (c_dgL (M 1)) (itR (fun (17 + n) h9 => 31 * h9 + ctn (M 1) (M 0 0) (17 + n)) 1123 6) (M 1 0)) 2) n)) 1 (17 + n) = M 1 (17 + n); exact (mset_ne (by omega)).trans rfl) | (show (mset M 0 9 (itR (fun (17 + n) h9 => 31 * h9 + M 1 (17 + (17 + n))) (itR (c_dgE (M 1)) (itR (c_dgL (M 1)) (itR (fun (17 + n) h9 => 31 * h9 + ctn (M 1) (M 0 0) (17 + n)) 1123 6) (M 1 0)) 2) n)) 1 (17 + n) = M 1 (17 + n); exact (mset_ne (by omega)).trans ((mset_ne (by omega)).trans rfl)) | (show (mset M 0 9 (itR (fun (17 + n) h9 => 31 * h9 + M 1 (17 + (17 + n))) (itR (c_dgE (M 1)) (itR (c_dgL (M 1)) (itR (fun (17 + n) h9 => 31 * h9 + ctn (M 1) (M 0 0) (17 + n)) 1123 6) (M 1 0)) 2) n)) 1 (17 + n) = M 1 (17 + n); simp only [mset]; (repeat' split) <;> first | rfl | omega)) dX6_digest_140 ?_
                  refine q_i2l hx hb dX6_digest_141 (by omega) ?_
                  refine q_cEv (b := (q 0)) (As := [.long (zL (M 1 (17 + n)))]) (rest := []) (w1 := wMo g q (mset (mset M 0 9 (itR (fun k9 h9 => 31 * h9 + M 1 (17 + k9)) (itR (c_dgE (M 1)) (itR (c_dgL (M 1)) (itR (fun k9 h9 => 31 * h9 + ctn (M 1) (M 0 0) k9) 1123 6) (M 1 0)) 2) n)) 0 9 (31 * (itR (fun k9 h9 => 31 * h9 + M 1 (17 + k9)) (itR (c_dgE (M 1)) (itR (c_dgL (M 1)) (itR (fun k9 h9 => 31 * h9 + ctn (M 1) (M 0 0) k9) 1123 6) (M 1 0)) 2) n) + (M 1 (17 + n))))) ⟨hx, hb, hml, hown, hts⟩ hP hD hK hT hS hA (kX6_mix l dC dI g tt _ q (mset M 0 9 (itR (fun k9 h9 => 31 * h9 + M 1 (17 + k9)) (itR (c_dgE (M 1)) (itR (c_dgL (M 1)) (itR (fun k9 h9 => 31 * h9 + ctn (M 1) (M 0 0) k9) 1123 6) (M 1 0)) 2) n)) (M 1 (17 + n))) (cwV 1 hts gX6_digest_X6_mix rfl rfl rfl (by decide +kernel) ⟨Nat.le_of_ble_eq_true rfl, Nat.le_of_ble_eq_true rfl⟩) 0 5 rfl rfl rfl rfl hl.1 rfl (Nat.le_of_ble_eq_true rfl) dX6_digest_142 ⟨Nat.le_of_ble_eq_true rfl, Nat.le_of_ble_eq_true rfl⟩ (fun H locs hP hD hS => ?_)
                  refine lv_iinc (v := zI (n + 1)) (lv' := [(1, .int (zI (n + 1))), (0, .ref (q 0))]) hx hb dX6_digest_145 hl (k := 1) rfl (zI_add _ _) (by decide) rfl (fun ls hl => ?_)
                  refine lv_goto (tgt := 119) hx hb dX6_digest_148 (by decide) ?_
                  exact ih119 (n + 1) _ _ ls ⟨(show 0 ≤ (n + 1) ∧ (n + 1) ≤ 4 * M 1 3 from by omega), (show va_P (dC, dI) vwCl (wMo g q (mset M 0 9 (itR (fun k9 h9 => 31 * h9 + M 1 (17 + k9)) (itR (c_dgE (M 1)) (itR (c_dgL (M 1)) (itR (fun k9 h9 => 31 * h9 + ctn (M 1) (M 0 0) k9) 1123 6) (M 1 0)) 2) (n + 1)))) H from by rw [show (mset M 0 9 (itR (fun k9 h9 => 31 * h9 + M 1 (17 + k9)) (itR (c_dgE (M 1)) (itR (c_dgL (M 1)) (itR (fun k9 h9 => 31 * h9 + ctn (M 1) (M 0 0) k9) 1123 6) (M 1 0)) 2) (n + 1))) = mset (mset M 0 9 (itR (fun k9 h9 => 31 * h9 + M 1 (17 + k9)) (itR (c_dgE (M 1)) (itR (c_dgL (M 1)) (itR (fun k9 h9 => 31 * h9 + ctn (M 1) (M 0 0) k9) 1123 6) (M 1 0)) 2) n)) 0 9 (31 * (itR (fun k9 h9 => 31 * h9 + M 1 (17 + k9)) (itR (c_dgE (M 1)) (itR (c_dgL (M 1)) (itR (fun k9 h9 => 31 * h9 + ctn (M 1) (M 0 0) k9) 1123 6) (M 1 0)) 2) n) + (M 1 (17 + n))) from by rw [itR_s (by omega)]; (repeat rw [mset_mset]); first | done | rfl]; exact hP), (show va_D A (wMo g q (mset M 0 9 (itR (fun k9 h9 => 31 * h9 + M 1 (17 + k9)) (itR (c_dgE (M 1)) (itR (c_dgL (M 1)) (itR (fun k9 h9 => 31 * h9 + ctn (M 1) (M 0 0) k9) 1123 6) (M 1 0)) 2) (n + 1)))) from by rw [show (mset M 0 9 (itR (fun k9 h9 => 31 * h9 + M 1 (17 + k9)) (itR (c_dgE (M 1)) (itR (c_dgL (M 1)) (itR (fun k9 h9 => 31 * h9 + ctn (M 1) (M 0 0) k9) 1123 6) (M 1 0)) 2) (n + 1))) = mset (mset M 0 9 (itR (fun k9 h9 => 31 * h9 + M 1 (17 + k9)) (itR (c_dgE (M 1)) (itR (c_dgL (M 1)) (itR (fun k9 h9 => 31 * h9 + ctn (M 1) (M 0 0) k9) 1123 6) (M 1 0)) 2) n)) 0 9 (31 * (itR (fun k9 h9 => 31 * h9 + M 1 (17 + k9)) (itR (c_dgE (M 1)) (itR (c_dgL (M 1)) (itR (fun k9 h9 => 31 * h9 + ctn (M 1) (M 0 0) k9) 1123 6) (M 1 0)) 2) n) + (M 1 (17 + n))) from by rw [itR_s (by omega)]; (repeat rw [mset_mset]); first | done | rfl]; exact hD), hS, lv_sub hl [1, 0] rfl⟩ (by show (4 * M 1 3 - (n + 1)).toNat < (4 * M 1 3 - n).toNat; omega)
              · exact ⟨(show 0 ≤ 0 ∧ 0 ≤ 4 * M 1 3 from by omega), (show va_P (dC, dI) vwCl (wMo g q (mset M 0 9 (itR (fun k9 h9 => 31 * h9 + M 1 (17 + k9)) (itR (c_dgE (M 1)) (itR (c_dgL (M 1)) (itR (fun k9 h9 => 31 * h9 + ctn (M 1) (M 0 0) k9) 1123 6) (M 1 0)) 2) 0))) H from by rw [show (mset M 0 9 (itR (fun k9 h9 => 31 * h9 + M 1 (17 + k9)) (itR (c_dgE (M 1)) (itR (c_dgL (M 1)) (itR (fun k9 h9 => 31 * h9 + ctn (M 1) (M 0 0) k9) 1123 6) (M 1 0)) 2) 0)) = mset M 0 9 (itR (c_dgE (M 1)) (itR (c_dgL (M 1)) (itR (fun k9 h9 => 31 * h9 + ctn (M 1) (M 0 0) k9) 1123 6) (M 1 0)) k) from by rw [show k = 2 by omega]; rfl]; exact hP), (show va_D A (wMo g q (mset M 0 9 (itR (fun k9 h9 => 31 * h9 + M 1 (17 + k9)) (itR (c_dgE (M 1)) (itR (c_dgL (M 1)) (itR (fun k9 h9 => 31 * h9 + ctn (M 1) (M 0 0) k9) 1123 6) (M 1 0)) 2) 0))) from by rw [show (mset M 0 9 (itR (fun k9 h9 => 31 * h9 + M 1 (17 + k9)) (itR (c_dgE (M 1)) (itR (c_dgL (M 1)) (itR (fun k9 h9 => 31 * h9 + ctn (M 1) (M 0 0) k9) 1123 6) (M 1 0)) 2) 0)) = mset M 0 9 (itR (c_dgE (M 1)) (itR (c_dgL (M 1)) (itR (fun k9 h9 => 31 * h9 + ctn (M 1) (M 0 0) k9) 1123 6) (M 1 0)) k) from by rw [show k = 2 by omega]; rfl]; exact hD), hS, lv_sub hl [1, 0] rfl⟩
            · have hl13 := hw.ln
              have hlb : (0 ≤ M 1 (13 + k) ∧ M 1 (13 + k) ≤ 1000) ∧ (0 ≤ M 1 (15 + k) ∧ M 1 (15 + k) ≤ 1000) := by rcases (show k = 0 ∨ k = 1 by omega) with e | e; (rw [e]; show (0 ≤ M 1 13 ∧ M 1 13 ≤ 1000) ∧ (0 ≤ M 1 15 ∧ M 1 15 ≤ 1000); omega); (rw [e]; show (0 ≤ M 1 14 ∧ M 1 14 ≤ 1000) ∧ (0 ≤ M 1 16 ∧ M 1 16 ≤ 1000); omega)
              refine lv_aload_n hx hb dX6_digest_83 rfl (lv_at hl 0 rfl) ?_
              refine lv_aload_n hx hb dX6_digest_84 rfl (lv_at hl 0 rfl) ?_
              refine va_get (D := (dC, dI)) (ci := 5) (v := .ref (q 1)) (C := RX6) (T := TX6) (N := 15) hx hb hts iX6 hown hK hP 0 rfl rfl 0 (by decide) kf7 (fun _ h9 => h9) rfl dX6_digest_85 ?_
              refine q_bipush hx hb dX6_digest_88 rfl ?_
              refine lv_iload_n hx hb dX6_digest_90 rfl (lv_at hl 1 rfl) ?_
              refine q_iadd hx hb dX6_digest_91 ?_
              refine q_iald (F := fun k9 => (mset M 0 9 (itR (c_dgE (M 1)) (itR (c_dgL (M 1)) (itR (fun k9 h9 => 31 * h9 + ctn (M 1) (M 0 0) k9) 1123 6) (M 1 0)) k)) 1 k9) (v := M 1 (13 + k)) hx hb hK hP 1 0 rfl rfl (by decide) (by omega) (by first | rfl | (show (mset M 0 9 (itR (c_dgE (M 1)) (itR (c_dgL (M 1)) (itR (fun (13 + k) h9 => 31 * h9 + ctn (M 1) (M 0 0) (13 + k)) 1123 6) (M 1 0)) k)) 1 (13 + k) = M 1 (13 + k); exact (mset_ne (by omega)).trans rfl) | (show (mset M 0 9 (itR (c_dgE (M 1)) (itR (c_dgL (M 1)) (itR (fun (13 + k) h9 => 31 * h9 + ctn (M 1) (M 0 0) (13 + k)) 1123 6) (M 1 0)) k)) 1 (13 + k) = M 1 (13 + k); exact (mset_ne (by omega)).trans ((mset_ne (by omega)).trans rfl)) | (show (mset M 0 9 (itR (c_dgE (M 1)) (itR (c_dgL (M 1)) (itR (fun (13 + k) h9 => 31 * h9 + ctn (M 1) (M 0 0) (13 + k)) 1123 6) (M 1 0)) k)) 1 (13 + k) = M 1 (13 + k); simp only [mset]; (repeat' split) <;> first | rfl | omega)) dX6_digest_92 ?_
              refine q_i2l hx hb dX6_digest_93 (by omega) ?_
              refine q_cEv (b := (q 0)) (As := [.long (zL (M 1 (13 + k)))]) (rest := []) (w1 := wMo g q (mset (mset M 0 9 (itR (c_dgE (M 1)) (itR (c_dgL (M 1)) (itR (fun k9 h9 => 31 * h9 + ctn (M 1) (M 0 0) k9) 1123 6) (M 1 0)) k)) 0 9 (31 * (itR (c_dgE (M 1)) (itR (c_dgL (M 1)) (itR (fun k9 h9 => 31 * h9 + ctn (M 1) (M 0 0) k9) 1123 6) (M 1 0)) k) + (M 1 (13 + k))))) ⟨hx, hb, hml, hown, hts⟩ hP hD hK hT hS hA (kX6_mix l dC dI g tt _ q (mset M 0 9 (itR (c_dgE (M 1)) (itR (c_dgL (M 1)) (itR (fun k9 h9 => 31 * h9 + ctn (M 1) (M 0 0) k9) 1123 6) (M 1 0)) k)) (M 1 (13 + k))) (cwV 1 hts gX6_digest_X6_mix rfl rfl rfl (by decide +kernel) ⟨Nat.le_of_ble_eq_true rfl, Nat.le_of_ble_eq_true rfl⟩) 0 5 rfl rfl rfl rfl hl.1 rfl (Nat.le_of_ble_eq_true rfl) dX6_digest_94 ⟨Nat.le_of_ble_eq_true rfl, Nat.le_of_ble_eq_true rfl⟩ (fun H locs hP hD hS => ?_)
              refine lv_aload_n hx hb dX6_digest_97 rfl (lv_at hl 0 rfl) ?_
              refine lv_aload_n hx hb dX6_digest_98 rfl (lv_at hl 0 rfl) ?_
              refine va_get (D := (dC, dI)) (ci := 5) (v := .ref (q 1)) (C := RX6) (T := TX6) (N := 15) hx hb hts iX6 hown hK hP 0 rfl rfl 0 (by decide) kf7 (fun _ h9 => h9) rfl dX6_digest_99 ?_
              refine q_bipush hx hb dX6_digest_102 rfl ?_
              refine lv_iload_n hx hb dX6_digest_104 rfl (lv_at hl 1 rfl) ?_
              refine q_iadd hx hb dX6_digest_105 ?_
              refine q_iald (F := fun k9 => (mset (mset M 0 9 (itR (c_dgE (M 1)) (itR (c_dgL (M 1)) (itR (fun k9 h9 => 31 * h9 + ctn (M 1) (M 0 0) k9) 1123 6) (M 1 0)) k)) 0 9 (31 * (itR (c_dgE (M 1)) (itR (c_dgL (M 1)) (itR (fun k9 h9 => 31 * h9 + ctn (M 1) (M 0 0) k9) 1123 6) (M 1 0)) k) + (M 1 (13 + k)))) 1 k9) (v := M 1 (15 + k)) hx hb hK hP 1 0 rfl rfl (by decide) (by omega) (by first | rfl | (show (mset (mset M 0 9 (itR (c_dgE (M 1)) (itR (c_dgL (M 1)) (itR (fun (15 + k) h9 => 31 * h9 + ctn (M 1) (M 0 0) (15 + k)) 1123 6) (M 1 0)) k)) 0 9 (31 * (itR (c_dgE (M 1)) (itR (c_dgL (M 1)) (itR (fun (15 + k) h9 => 31 * h9 + ctn (M 1) (M 0 0) (15 + k)) 1123 6) (M 1 0)) k) + (M 1 (13 + k)))) 1 (15 + k) = M 1 (15 + k); exact (mset_ne (by omega)).trans rfl) | (show (mset (mset M 0 9 (itR (c_dgE (M 1)) (itR (c_dgL (M 1)) (itR (fun (15 + k) h9 => 31 * h9 + ctn (M 1) (M 0 0) (15 + k)) 1123 6) (M 1 0)) k)) 0 9 (31 * (itR (c_dgE (M 1)) (itR (c_dgL (M 1)) (itR (fun (15 + k) h9 => 31 * h9 + ctn (M 1) (M 0 0) (15 + k)) 1123 6) (M 1 0)) k) + (M 1 (13 + k)))) 1 (15 + k) = M 1 (15 + k); exact (mset_ne (by omega)).trans ((mset_ne (by omega)).trans rfl)) | (show (mset (mset M 0 9 (itR (c_dgE (M 1)) (itR (c_dgL (M 1)) (itR (fun (15 + k) h9 => 31 * h9 + ctn (M 1) (M 0 0) (15 + k)) 1123 6) (M 1 0)) k)) 0 9 (31 * (itR (c_dgE (M 1)) (itR (c_dgL (M 1)) (itR (fun (15 + k) h9 => 31 * h9 + ctn (M 1) (M 0 0) (15 + k)) 1123 6) (M 1 0)) k) + (M 1 (13 + k)))) 1 (15 + k) = M 1 (15 + k); simp only [mset]; (repeat' split) <;> first | rfl | omega)) dX6_digest_106 ?_
              refine q_i2l hx hb dX6_digest_107 (by omega) ?_
              refine q_cEv (b := (q 0)) (As := [.long (zL (M 1 (15 + k)))]) (rest := []) (w1 := wMo g q (mset (mset (mset M 0 9 (itR (c_dgE (M 1)) (itR (c_dgL (M 1)) (itR (fun k9 h9 => 31 * h9 + ctn (M 1) (M 0 0) k9) 1123 6) (M 1 0)) k)) 0 9 (31 * (itR (c_dgE (M 1)) (itR (c_dgL (M 1)) (itR (fun k9 h9 => 31 * h9 + ctn (M 1) (M 0 0) k9) 1123 6) (M 1 0)) k) + (M 1 (13 + k)))) 0 9 (31 * (31 * (itR (c_dgE (M 1)) (itR (c_dgL (M 1)) (itR (fun k9 h9 => 31 * h9 + ctn (M 1) (M 0 0) k9) 1123 6) (M 1 0)) k) + (M 1 (13 + k))) + (M 1 (15 + k))))) ⟨hx, hb, hml, hown, hts⟩ hP hD hK hT hS hA (kX6_mix l dC dI g tt _ q (mset (mset M 0 9 (itR (c_dgE (M 1)) (itR (c_dgL (M 1)) (itR (fun k9 h9 => 31 * h9 + ctn (M 1) (M 0 0) k9) 1123 6) (M 1 0)) k)) 0 9 (31 * (itR (c_dgE (M 1)) (itR (c_dgL (M 1)) (itR (fun k9 h9 => 31 * h9 + ctn (M 1) (M 0 0) k9) 1123 6) (M 1 0)) k) + (M 1 (13 + k)))) (M 1 (15 + k))) (cwV 1 hts gX6_digest_X6_mix rfl rfl rfl (by decide +kernel) ⟨Nat.le_of_ble_eq_true rfl, Nat.le_of_ble_eq_true rfl⟩) 0 5 rfl rfl rfl rfl hl.1 rfl (Nat.le_of_ble_eq_true rfl) dX6_digest_108 ⟨Nat.le_of_ble_eq_true rfl, Nat.le_of_ble_eq_true rfl⟩ (fun H locs hP hD hS => ?_)
              refine lv_iinc (v := zI (k + 1)) (lv' := [(1, .int (zI (k + 1))), (0, .ref (q 0))]) hx hb dX6_digest_111 hl (k := 1) rfl (zI_add _ _) (by decide) rfl (fun ls hl => ?_)
              refine lv_goto (tgt := 78) hx hb dX6_digest_114 (by decide) ?_
              exact ih78 (k + 1) _ _ ls ⟨(show 0 ≤ (k + 1) ∧ (k + 1) ≤ 2 from by omega), (show va_P (dC, dI) vwCl (wMo g q (mset M 0 9 (itR (c_dgE (M 1)) (itR (c_dgL (M 1)) (itR (fun k9 h9 => 31 * h9 + ctn (M 1) (M 0 0) k9) 1123 6) (M 1 0)) (k + 1)))) H from by rw [show (mset M 0 9 (itR (c_dgE (M 1)) (itR (c_dgL (M 1)) (itR (fun k9 h9 => 31 * h9 + ctn (M 1) (M 0 0) k9) 1123 6) (M 1 0)) (k + 1))) = mset (mset (mset M 0 9 (itR (c_dgE (M 1)) (itR (c_dgL (M 1)) (itR (fun k9 h9 => 31 * h9 + ctn (M 1) (M 0 0) k9) 1123 6) (M 1 0)) k)) 0 9 (31 * (itR (c_dgE (M 1)) (itR (c_dgL (M 1)) (itR (fun k9 h9 => 31 * h9 + ctn (M 1) (M 0 0) k9) 1123 6) (M 1 0)) k) + (M 1 (13 + k)))) 0 9 (31 * (31 * (itR (c_dgE (M 1)) (itR (c_dgL (M 1)) (itR (fun k9 h9 => 31 * h9 + ctn (M 1) (M 0 0) k9) 1123 6) (M 1 0)) k) + (M 1 (13 + k))) + (M 1 (15 + k))) from by rw [itR_s (by omega)]; (repeat rw [mset_mset]); first | done | rfl]; exact hP), (show va_D A (wMo g q (mset M 0 9 (itR (c_dgE (M 1)) (itR (c_dgL (M 1)) (itR (fun k9 h9 => 31 * h9 + ctn (M 1) (M 0 0) k9) 1123 6) (M 1 0)) (k + 1)))) from by rw [show (mset M 0 9 (itR (c_dgE (M 1)) (itR (c_dgL (M 1)) (itR (fun k9 h9 => 31 * h9 + ctn (M 1) (M 0 0) k9) 1123 6) (M 1 0)) (k + 1))) = mset (mset (mset M 0 9 (itR (c_dgE (M 1)) (itR (c_dgL (M 1)) (itR (fun k9 h9 => 31 * h9 + ctn (M 1) (M 0 0) k9) 1123 6) (M 1 0)) k)) 0 9 (31 * (itR (c_dgE (M 1)) (itR (c_dgL (M 1)) (itR (fun k9 h9 => 31 * h9 + ctn (M 1) (M 0 0) k9) 1123 6) (M 1 0)) k) + (M 1 (13 + k)))) 0 9 (31 * (31 * (itR (c_dgE (M 1)) (itR (c_dgL (M 1)) (itR (fun k9 h9 => 31 * h9 + ctn (M 1) (M 0 0) k9) 1123 6) (M 1 0)) k) + (M 1 (13 + k))) + (M 1 (15 + k))) from by rw [itR_s (by omega)]; (repeat rw [mset_mset]); first | done | rfl]; exact hD), hS, lv_sub hl [1, 0] rfl⟩ (by show (2 - (k + 1)).toNat < (2 - k).toNat; omega)
          · exact ⟨(show 0 ≤ 0 ∧ 0 ≤ 2 from by omega), (show va_P (dC, dI) vwCl (wMo g q (mset M 0 9 (itR (c_dgE (M 1)) (itR (c_dgL (M 1)) (itR (fun k9 h9 => 31 * h9 + ctn (M 1) (M 0 0) k9) 1123 6) (M 1 0)) 0))) H from by rw [show (mset M 0 9 (itR (c_dgE (M 1)) (itR (c_dgL (M 1)) (itR (fun k9 h9 => 31 * h9 + ctn (M 1) (M 0 0) k9) 1123 6) (M 1 0)) 0)) = mset M 0 9 (itR (c_dgL (M 1)) (itR (fun k9 h9 => 31 * h9 + ctn (M 1) (M 0 0) k9) 1123 6) j) from by rw [show j = M 1 0 by omega]; rfl]; exact hP), (show va_D A (wMo g q (mset M 0 9 (itR (c_dgE (M 1)) (itR (c_dgL (M 1)) (itR (fun k9 h9 => 31 * h9 + ctn (M 1) (M 0 0) k9) 1123 6) (M 1 0)) 0))) from by rw [show (mset M 0 9 (itR (c_dgE (M 1)) (itR (c_dgL (M 1)) (itR (fun k9 h9 => 31 * h9 + ctn (M 1) (M 0 0) k9) 1123 6) (M 1 0)) 0)) = mset M 0 9 (itR (c_dgL (M 1)) (itR (fun k9 h9 => 31 * h9 + ctn (M 1) (M 0 0) k9) 1123 6) j) from by rw [show j = M 1 0 by omega]; rfl]; exact hD), hS, lv_sub hl [1, 0] rfl⟩
        · have hk0 := hw.k (k := j) (by omega) (by omega)
          refine lv_aload_n hx hb dX6_digest_43 rfl (lv_at hl 0 rfl) ?_
          refine lv_aload_n hx hb dX6_digest_44 rfl (lv_at hl 0 rfl) ?_
          refine va_get (D := (dC, dI)) (ci := 5) (v := .ref (q 1)) (C := RX6) (T := TX6) (N := 15) hx hb hts iX6 hown hK hP 0 rfl rfl 0 (by decide) kf7 (fun _ h9 => h9) rfl dX6_digest_45 ?_
          refine q_iconst hx hb dX6_digest_48 ?_
          refine lv_iload_n hx hb dX6_digest_49 rfl (lv_at hl 1 rfl) ?_
          refine q_iadd hx hb dX6_digest_50 ?_
          refine q_iald (F := fun k9 => (mset M 0 9 (itR (c_dgL (M 1)) (itR (fun k9 h9 => 31 * h9 + ctn (M 1) (M 0 0) k9) 1123 6) j)) 1 k9) (v := M 1 (5 + j)) hx hb hK hP 1 0 rfl rfl (by decide) (by omega) (by first | rfl | (show (mset M 0 9 (itR (c_dgL (M 1)) (itR (fun (5 + j) h9 => 31 * h9 + ctn (M 1) (M 0 0) (5 + j)) 1123 6) j)) 1 (5 + j) = M 1 (5 + j); exact (mset_ne (by omega)).trans rfl) | (show (mset M 0 9 (itR (c_dgL (M 1)) (itR (fun (5 + j) h9 => 31 * h9 + ctn (M 1) (M 0 0) (5 + j)) 1123 6) j)) 1 (5 + j) = M 1 (5 + j); exact (mset_ne (by omega)).trans ((mset_ne (by omega)).trans rfl)) | (show (mset M 0 9 (itR (c_dgL (M 1)) (itR (fun (5 + j) h9 => 31 * h9 + ctn (M 1) (M 0 0) (5 + j)) 1123 6) j)) 1 (5 + j) = M 1 (5 + j); simp only [mset]; (repeat' split) <;> first | rfl | omega)) dX6_digest_51 ?_
          refine q_i2l hx hb dX6_digest_52 (by omega) ?_
          refine q_cEv (b := (q 0)) (As := [.long (zL (M 1 (5 + j)))]) (rest := []) (w1 := wMo g q (mset (mset M 0 9 (itR (c_dgL (M 1)) (itR (fun k9 h9 => 31 * h9 + ctn (M 1) (M 0 0) k9) 1123 6) j)) 0 9 (31 * (itR (c_dgL (M 1)) (itR (fun k9 h9 => 31 * h9 + ctn (M 1) (M 0 0) k9) 1123 6) j) + (M 1 (5 + j))))) ⟨hx, hb, hml, hown, hts⟩ hP hD hK hT hS hA (kX6_mix l dC dI g tt _ q (mset M 0 9 (itR (c_dgL (M 1)) (itR (fun k9 h9 => 31 * h9 + ctn (M 1) (M 0 0) k9) 1123 6) j)) (M 1 (5 + j))) (cwV 1 hts gX6_digest_X6_mix rfl rfl rfl (by decide +kernel) ⟨Nat.le_of_ble_eq_true rfl, Nat.le_of_ble_eq_true rfl⟩) 0 5 rfl rfl rfl rfl hl.1 rfl (Nat.le_of_ble_eq_true rfl) dX6_digest_53 ⟨Nat.le_of_ble_eq_true rfl, Nat.le_of_ble_eq_true rfl⟩ (fun H locs hP hD hS => ?_)
          refine lv_aload_n hx hb dX6_digest_56 rfl (lv_at hl 0 rfl) ?_
          refine lv_aload_n hx hb dX6_digest_57 rfl (lv_at hl 0 rfl) ?_
          refine va_get (D := (dC, dI)) (ci := 5) (v := .ref (q 1)) (C := RX6) (T := TX6) (N := 15) hx hb hts iX6 hown hK hP 0 rfl rfl 0 (by decide) kf7 (fun _ h9 => h9) rfl dX6_digest_58 ?_
          refine q_bipush hx hb dX6_digest_61 rfl ?_
          refine lv_iload_n hx hb dX6_digest_63 rfl (lv_at hl 1 rfl) ?_
          refine q_iadd hx hb dX6_digest_64 ?_
          refine q_iald (F := fun k9 => (mset (mset M 0 9 (itR (c_dgL (M 1)) (itR (fun k9 h9 => 31 * h9 + ctn (M 1) (M 0 0) k9) 1123 6) j)) 0 9 (31 * (itR (c_dgL (M 1)) (itR (fun k9 h9 => 31 * h9 + ctn (M 1) (M 0 0) k9) 1123 6) j) + (M 1 (5 + j)))) 1 k9) (v := M 1 (9 + j)) hx hb hK hP 1 0 rfl rfl (by decide) (by omega) (by first | rfl | (show (mset (mset M 0 9 (itR (c_dgL (M 1)) (itR (fun (9 + j) h9 => 31 * h9 + ctn (M 1) (M 0 0) (9 + j)) 1123 6) j)) 0 9 (31 * (itR (c_dgL (M 1)) (itR (fun (9 + j) h9 => 31 * h9 + ctn (M 1) (M 0 0) (9 + j)) 1123 6) j) + (M 1 (5 + j)))) 1 (9 + j) = M 1 (9 + j); exact (mset_ne (by omega)).trans rfl) | (show (mset (mset M 0 9 (itR (c_dgL (M 1)) (itR (fun (9 + j) h9 => 31 * h9 + ctn (M 1) (M 0 0) (9 + j)) 1123 6) j)) 0 9 (31 * (itR (c_dgL (M 1)) (itR (fun (9 + j) h9 => 31 * h9 + ctn (M 1) (M 0 0) (9 + j)) 1123 6) j) + (M 1 (5 + j)))) 1 (9 + j) = M 1 (9 + j); exact (mset_ne (by omega)).trans ((mset_ne (by omega)).trans rfl)) | (show (mset (mset M 0 9 (itR (c_dgL (M 1)) (itR (fun (9 + j) h9 => 31 * h9 + ctn (M 1) (M 0 0) (9 + j)) 1123 6) j)) 0 9 (31 * (itR (c_dgL (M 1)) (itR (fun (9 + j) h9 => 31 * h9 + ctn (M 1) (M 0 0) (9 + j)) 1123 6) j) + (M 1 (5 + j)))) 1 (9 + j) = M 1 (9 + j); simp only [mset]; (repeat' split) <;> first | rfl | omega)) dX6_digest_65 ?_
          refine q_i2l hx hb dX6_digest_66 (by omega) ?_
          refine q_cEv (b := (q 0)) (As := [.long (zL (M 1 (9 + j)))]) (rest := []) (w1 := wMo g q (mset (mset (mset M 0 9 (itR (c_dgL (M 1)) (itR (fun k9 h9 => 31 * h9 + ctn (M 1) (M 0 0) k9) 1123 6) j)) 0 9 (31 * (itR (c_dgL (M 1)) (itR (fun k9 h9 => 31 * h9 + ctn (M 1) (M 0 0) k9) 1123 6) j) + (M 1 (5 + j)))) 0 9 (31 * (31 * (itR (c_dgL (M 1)) (itR (fun k9 h9 => 31 * h9 + ctn (M 1) (M 0 0) k9) 1123 6) j) + (M 1 (5 + j))) + (M 1 (9 + j))))) ⟨hx, hb, hml, hown, hts⟩ hP hD hK hT hS hA (kX6_mix l dC dI g tt _ q (mset (mset M 0 9 (itR (c_dgL (M 1)) (itR (fun k9 h9 => 31 * h9 + ctn (M 1) (M 0 0) k9) 1123 6) j)) 0 9 (31 * (itR (c_dgL (M 1)) (itR (fun k9 h9 => 31 * h9 + ctn (M 1) (M 0 0) k9) 1123 6) j) + (M 1 (5 + j)))) (M 1 (9 + j))) (cwV 1 hts gX6_digest_X6_mix rfl rfl rfl (by decide +kernel) ⟨Nat.le_of_ble_eq_true rfl, Nat.le_of_ble_eq_true rfl⟩) 0 5 rfl rfl rfl rfl hl.1 rfl (Nat.le_of_ble_eq_true rfl) dX6_digest_67 ⟨Nat.le_of_ble_eq_true rfl, Nat.le_of_ble_eq_true rfl⟩ (fun H locs hP hD hS => ?_)
          refine lv_iinc (v := zI (j + 1)) (lv' := [(1, .int (zI (j + 1))), (0, .ref (q 0))]) hx hb dX6_digest_70 hl (k := 1) rfl (zI_add _ _) (by decide) rfl (fun ls hl => ?_)
          refine lv_goto (tgt := 33) hx hb dX6_digest_73 (by decide) ?_
          exact ih33 (j + 1) _ _ ls ⟨(show 0 ≤ (j + 1) ∧ (j + 1) ≤ M 1 0 from by omega), (show va_P (dC, dI) vwCl (wMo g q (mset M 0 9 (itR (c_dgL (M 1)) (itR (fun k9 h9 => 31 * h9 + ctn (M 1) (M 0 0) k9) 1123 6) (j + 1)))) H from by rw [show (mset M 0 9 (itR (c_dgL (M 1)) (itR (fun k9 h9 => 31 * h9 + ctn (M 1) (M 0 0) k9) 1123 6) (j + 1))) = mset (mset (mset M 0 9 (itR (c_dgL (M 1)) (itR (fun k9 h9 => 31 * h9 + ctn (M 1) (M 0 0) k9) 1123 6) j)) 0 9 (31 * (itR (c_dgL (M 1)) (itR (fun k9 h9 => 31 * h9 + ctn (M 1) (M 0 0) k9) 1123 6) j) + (M 1 (5 + j)))) 0 9 (31 * (31 * (itR (c_dgL (M 1)) (itR (fun k9 h9 => 31 * h9 + ctn (M 1) (M 0 0) k9) 1123 6) j) + (M 1 (5 + j))) + (M 1 (9 + j))) from by rw [itR_s (by omega)]; (repeat rw [mset_mset]); first | done | rfl]; exact hP), (show va_D A (wMo g q (mset M 0 9 (itR (c_dgL (M 1)) (itR (fun k9 h9 => 31 * h9 + ctn (M 1) (M 0 0) k9) 1123 6) (j + 1)))) from by rw [show (mset M 0 9 (itR (c_dgL (M 1)) (itR (fun k9 h9 => 31 * h9 + ctn (M 1) (M 0 0) k9) 1123 6) (j + 1))) = mset (mset (mset M 0 9 (itR (c_dgL (M 1)) (itR (fun k9 h9 => 31 * h9 + ctn (M 1) (M 0 0) k9) 1123 6) j)) 0 9 (31 * (itR (c_dgL (M 1)) (itR (fun k9 h9 => 31 * h9 + ctn (M 1) (M 0 0) k9) 1123 6) j) + (M 1 (5 + j)))) 0 9 (31 * (31 * (itR (c_dgL (M 1)) (itR (fun k9 h9 => 31 * h9 + ctn (M 1) (M 0 0) k9) 1123 6) j) + (M 1 (5 + j))) + (M 1 (9 + j))) from by rw [itR_s (by omega)]; (repeat rw [mset_mset]); first | done | rfl]; exact hD), hS, lv_sub hl [1, 0] rfl⟩ (by show (M 1 0 - (j + 1)).toNat < (M 1 0 - j).toNat; omega)
      · exact ⟨(show 0 ≤ 0 ∧ 0 ≤ M 1 0 from by omega), (show va_P (dC, dI) vwCl (wMo g q (mset M 0 9 (itR (c_dgL (M 1)) (itR (fun k9 h9 => 31 * h9 + ctn (M 1) (M 0 0) k9) 1123 6) 0))) H from by rw [show (mset M 0 9 (itR (c_dgL (M 1)) (itR (fun k9 h9 => 31 * h9 + ctn (M 1) (M 0 0) k9) 1123 6) 0)) = mset M 0 9 (itR (fun k9 h9 => 31 * h9 + ctn (M 1) (M 0 0) k9) 1123 i) from by rw [show i = 6 by omega]; rfl]; exact hP), (show va_D A (wMo g q (mset M 0 9 (itR (c_dgL (M 1)) (itR (fun k9 h9 => 31 * h9 + ctn (M 1) (M 0 0) k9) 1123 6) 0))) from by rw [show (mset M 0 9 (itR (c_dgL (M 1)) (itR (fun k9 h9 => 31 * h9 + ctn (M 1) (M 0 0) k9) 1123 6) 0)) = mset M 0 9 (itR (fun k9 h9 => 31 * h9 + ctn (M 1) (M 0 0) k9) 1123 i) from by rw [show i = 6 by omega]; rfl]; exact hD), hS, lv_sub hl [1, 0] rfl⟩
    · refine lv_aload_n hx hb dX6_digest_15 rfl (lv_at hl 0 rfl) ?_
      refine lv_aload_n hx hb dX6_digest_16 rfl (lv_at hl 0 rfl) ?_
      refine lv_iload_n hx hb dX6_digest_17 rfl (lv_at hl 1 rfl) ?_
      refine q_cVi (z := ctn (M 1) (M 0 0) i) (b := (q 0)) (As := [.int (zI i)]) (rest := [.ref (q 0)]) ⟨hx, hb, hml, hown, hts⟩ (kX6_countOf l dC dI g tt q (mset M 0 9 (itR (fun k9 h9 => 31 * h9 + ctn (M 1) (M 0 0) k9) 1123 i)) i (show 0 ≤ i ∧ i ≤ 5 from by omega)) (cwV 1 hts gX6_digest_X6_countOf rfl rfl rfl (by decide +kernel) ⟨Nat.le_of_ble_eq_true rfl, Nat.le_of_ble_eq_true rfl⟩) hP hK hT hS 0 5 rfl rfl rfl rfl hl.1 rfl (Nat.le_of_ble_eq_true rfl) dX6_digest_18 ⟨Nat.le_of_ble_eq_true rfl, Nat.le_of_ble_eq_true rfl⟩ ?_
      have hct := ctn_r (x := i) hw hL
      refine q_i2l hx hb dX6_digest_21 (by omega) ?_
      refine q_cEv (b := (q 0)) (As := [.long (zL (ctn (M 1) (M 0 0) i))]) (rest := []) (w1 := wMo g q (mset (mset M 0 9 (itR (fun k9 h9 => 31 * h9 + ctn (M 1) (M 0 0) k9) 1123 i)) 0 9 (31 * (itR (fun k9 h9 => 31 * h9 + ctn (M 1) (M 0 0) k9) 1123 i) + (ctn (M 1) (M 0 0) i)))) ⟨hx, hb, hml, hown, hts⟩ hP hD hK hT hS hA (kX6_mix l dC dI g tt _ q (mset M 0 9 (itR (fun k9 h9 => 31 * h9 + ctn (M 1) (M 0 0) k9) 1123 i)) (ctn (M 1) (M 0 0) i)) (cwV 1 hts gX6_digest_X6_mix rfl rfl rfl (by decide +kernel) ⟨Nat.le_of_ble_eq_true rfl, Nat.le_of_ble_eq_true rfl⟩) 0 5 rfl rfl rfl rfl hl.1 rfl (Nat.le_of_ble_eq_true rfl) dX6_digest_22 ⟨Nat.le_of_ble_eq_true rfl, Nat.le_of_ble_eq_true rfl⟩ (fun H locs hP hD hS => ?_)
      refine lv_iinc (v := zI (i + 1)) (lv' := [(1, .int (zI (i + 1))), (0, .ref (q 0))]) hx hb dX6_digest_25 hl (k := 1) rfl (zI_add _ _) (by decide) rfl (fun ls hl => ?_)
      refine lv_goto (tgt := 9) hx hb dX6_digest_28 (by decide) ?_
      exact ih9 (i + 1) _ _ ls ⟨(show 0 ≤ (i + 1) ∧ (i + 1) ≤ 6 from by omega), (show va_P (dC, dI) vwCl (wMo g q (mset M 0 9 (itR (fun k9 h9 => 31 * h9 + ctn (M 1) (M 0 0) k9) 1123 (i + 1)))) H from by rw [show (mset M 0 9 (itR (fun k9 h9 => 31 * h9 + ctn (M 1) (M 0 0) k9) 1123 (i + 1))) = mset (mset M 0 9 (itR (fun k9 h9 => 31 * h9 + ctn (M 1) (M 0 0) k9) 1123 i)) 0 9 (31 * (itR (fun k9 h9 => 31 * h9 + ctn (M 1) (M 0 0) k9) 1123 i) + (ctn (M 1) (M 0 0) i)) from by rw [itR_s (by omega)]; (repeat rw [mset_mset]); first | done | rfl]; exact hP), (show va_D A (wMo g q (mset M 0 9 (itR (fun k9 h9 => 31 * h9 + ctn (M 1) (M 0 0) k9) 1123 (i + 1)))) from by rw [show (mset M 0 9 (itR (fun k9 h9 => 31 * h9 + ctn (M 1) (M 0 0) k9) 1123 (i + 1))) = mset (mset M 0 9 (itR (fun k9 h9 => 31 * h9 + ctn (M 1) (M 0 0) k9) 1123 i)) 0 9 (31 * (itR (fun k9 h9 => 31 * h9 + ctn (M 1) (M 0 0) k9) 1123 i) + (ctn (M 1) (M 0 0) i)) from by rw [itR_s (by omega)]; (repeat rw [mset_mset]); first | done | rfl]; exact hD), hS, lv_sub hl [1, 0] rfl⟩ (by show (6 - (i + 1)).toNat < (6 - i).toNat; omega)
  · exact ⟨(show 0 ≤ 0 ∧ 0 ≤ 6 from by omega), (show va_P (dC, dI) vwCl (wMo g q (mset M 0 9 (itR (fun k9 h9 => 31 * h9 + ctn (M 1) (M 0 0) k9) 1123 0))) H from by rw [show (mset M 0 9 (itR (fun k9 h9 => 31 * h9 + ctn (M 1) (M 0 0) k9) 1123 0)) = mset M 0 9 1123 from rfl]; exact hP), (show va_D A (wMo g q (mset M 0 9 (itR (fun k9 h9 => 31 * h9 + ctn (M 1) (M 0 0) k9) 1123 0))) from by rw [show (mset M 0 9 (itR (fun k9 h9 => 31 * h9 + ctn (M 1) (M 0 0) k9) 1123 0)) = mset M 0 9 1123 from rfl]; exact hD), hS, lv_sub hl [1, 0] rfl⟩
