/-! constructors -/
set_option maxHeartbeats 4000000 in
set_option maxRecDepth 100000 in
theorem kX0_init (l : Launch) (dC : Nat → ClassId) (dI : Nat → Nat → Nat) (g : Nat → ClassId) (tt : Nat → Nat) (sz : Nat) (o : Nat) : Met l yX0_init wsX0_init ({ frames := 1, cells := 0, slots := 0, locals := 12 }) (va_Pc [.ref o] (eQ (dC, dI) (wTy g) [(o, .inr (0, [.long (zL 0), .long (zL 0)]))] tt sz)) (va_Qv (fun (u : Unit) => True) (fun u t => fQ (dC, dI) (wTy g) (va_A [(o, .inr (0, [.long (zL 0), .long (zL 0)]))] sz) (wFr o 0 1) () t) (va_A [(o, .inr (0, [.long (zL 0), .long (zL 0)]))] sz)) 0 0 (va_A [(o, .inr (0, [.long (zL 0), .long (zL 0)]))] sz) := by
  refine Met.ofW (cc := cX0_init) (maxL := 1) (ret := none) (by decide) rfl ?_
  intro p e s m args below meth c s₁ Bd hml hv
  obtain ⟨rfl, hsz, hP, hK, hD0, hT⟩ := hv
  have hx := Bd.exec
  have hb := Bd.bytes
  have hr := Bd.returns
  have hts := atoms_spec (ws := wsX0_init) Bd.pre
  have hown : s.vm.findClass RX0 = some m.cls := findClass_of_methodNamed Bd.named
  have hlocks := Bd.notSynchronized
  have hin : meth.name = "<init>" := (name_of_methodNamed Bd.named Bd.method).1
  subst hsz
  have hD := hD0.self (sz := s.heap.size)
  generalize hAe : va_A [(o, .inr (0, [.long (zL 0), .long (zL 0)]))] s.heap.size = A at hD hT ⊢
  have hA : ∀ q : Nat, s.heap.size ≤ q → A q := fun q h => by rw [← hAe]; exact Or.inr h
  have hS : va_S A s.heap s.heap [] := va_S.rf
  have hl := lv_entry ([.ref o]) (n := 1) (Nat.le_of_ble_eq_true rfl)
  rw [lg_entry_eq]
  generalize (lg_sl ([.ref o]) ++ List.replicate (1 - (lg_sl ([.ref o])).length) Slot.unset).toArray = ls at hl ⊢
  have hl : lv_has ls 1 [(0, .ref o)] := hl
  have iX0 := (fun w h => List.mem_cons_of_mem _ (List.mem_append_right _ h) : ∀ w ∈ u_ws RX0 TX0 2, w ∈ wsX0_init)
  refine lv_aload_n hx hb dX0_init_0 rfl (lv_at hl 0 rfl) ?_
  refine W.objInit hx hb hown (hts (.methodLink RX0 1 objectInit) (by decide +kernel)) (hts (.instanceMethod objectInit) (by decide +kernel)) (hts _ (List.mem_cons_of_mem _ (List.mem_append_left _ (List.mem_of_getElem? (i := 2) rfl)))) rfl (by rw [hml]; exact hl.1) rfl dX0_init_1 (Nat.le_of_ble_eq_true rfl) (Nat.le_of_ble_eq_true rfl) ?_
  refine W.eq (g2 := F0 m 4 ls []) rfl ?_
  refine lv_aload_n hx hb dX0_init_4 rfl (lv_at hl 0 rfl) ?_
  refine q_lconst hx hb 0 dX0_init_5 rfl ?_
  refine va_put (D := (dC, dI)) (ci := 0) (v := .long (zL 0)) (ty := .long) (C := RX0) (T := TX0) (N := 2) hx hb hts iX0 tyX0 tyX0_ok nmX0 hown hK hP hD hS 0 rfl rfl 0 (by decide) (hts (.fieldLink RX0 7 "WrongWay$Fraction" "above" "J") (by decide +kernel)) (fun _ h9 => h9) rfl (by decide +kernel) rfl rfl (Nat.le_of_ble_eq_true rfl) dX0_init_6 (fun H locs hP hD hS => ?_)
  have hP : va_P (dC, dI) vwCl [(o, .inr (0, [.long (zL 0), .long (zL 0)]))] H := hP
  have hD : va_D A [(o, .inr (0, [.long (zL 0), .long (zL 0)]))] := hD
  refine lv_aload_n hx hb dX0_init_9 rfl (lv_at hl 0 rfl) ?_
  refine q_lconst hx hb 1 dX0_init_10 rfl ?_
  refine va_put (D := (dC, dI)) (ci := 0) (v := .long (zL 1)) (ty := .long) (C := RX0) (T := TX0) (N := 2) hx hb hts iX0 tyX0 tyX0_ok nmX0 hown hK hP hD hS 0 rfl rfl 1 (by decide) (hts (.fieldLink RX0 13 "WrongWay$Fraction" "below" "J") (by decide +kernel)) (fun _ h9 => h9) rfl (by decide +kernel) rfl rfl (Nat.le_of_ble_eq_true rfl) dX0_init_11 (fun H locs hP hD hS => ?_)
  have hP : va_P (dC, dI) vwCl [(o, .inr (0, [.long (zL 0), .long (zL 1)]))] H := hP
  have hD : va_D A [(o, .inr (0, [.long (zL 0), .long (zL 1)]))] := hD
  have hPf : va_P (dC, dI) vwCl (wFr o 0 1) H := hP
  have hDf : va_D A (wFr o 0 1) := hD
  exact W.vret hx hb hr (fun t9 ht9 hW9 => ⟨⟨(), rfl, trivial, by rw [ht9]; exact hPf, va_K.moved hW9.alike hK, hDf⟩, hS.F ht9⟩) hS.2.2 dX0_init_14
set_option maxHeartbeats 4000000 in
set_option maxRecDepth 100000 in
theorem kX3_init (l : Launch) (dC : Nat → ClassId) (dI : Nat → Nat → Nat) (g : Nat → ClassId) (tt : Nat → Nat) (sz : Nat) (o : Nat) : Met l yX3_init wsX3_init ({ frames := 1, cells := 1, slots := 150, locals := 12 }) (va_Pc [.ref o] (eQ (dC, dI) (wTy g) [(o, .inr (2, [.null, .int (zI 0), .int (zI 0), .int (zI 0), .int (zI 0), .int (zI 0)]))] tt sz)) (va_Qv (fun (u : Nat → Nat) => u 0 = o) (fun u t => fQ (dC, dI) (wTy g) (va_A [(o, .inr (2, [.null, .int (zI 0), .int (zI 0), .int (zI 0), .int (zI 0), .int (zI 0)]))] sz) (wTx g u z0 z0) () t) (va_A [(o, .inr (2, [.null, .int (zI 0), .int (zI 0), .int (zI 0), .int (zI 0), .int (zI 0)]))] sz)) 1 150 (va_A [(o, .inr (2, [.null, .int (zI 0), .int (zI 0), .int (zI 0), .int (zI 0), .int (zI 0)]))] sz) := by
  refine Met.ofW (cc := cX3_init) (maxL := 1) (ret := none) (by decide) rfl ?_
  intro p e s m args below meth c s₁ Bd hml hv
  obtain ⟨rfl, hsz, hP, hK, hD0, hT⟩ := hv
  have hx := Bd.exec
  have hb := Bd.bytes
  have hr := Bd.returns
  have hts := atoms_spec (ws := wsX3_init) Bd.pre
  have hown : s.vm.findClass RX3 = some m.cls := findClass_of_methodNamed Bd.named
  have hlocks := Bd.notSynchronized
  have hin : meth.name = "<init>" := (name_of_methodNamed Bd.named Bd.method).1
  subst hsz
  have hD := hD0.self (sz := s.heap.size)
  generalize hAe : va_A [(o, .inr (2, [.null, .int (zI 0), .int (zI 0), .int (zI 0), .int (zI 0), .int (zI 0)]))] s.heap.size = A at hD hT ⊢
  have hA : ∀ q : Nat, s.heap.size ≤ q → A q := fun q h => by rw [← hAe]; exact Or.inr h
  have hS : va_S A s.heap s.heap [] := va_S.rf
  have hl := lv_entry ([.ref o]) (n := 1) (Nat.le_of_ble_eq_true rfl)
  rw [lg_entry_eq]
  generalize (lg_sl ([.ref o]) ++ List.replicate (1 - (lg_sl ([.ref o])).length) Slot.unset).toArray = ls at hl ⊢
  have hl : lv_has ls 1 [(0, .ref o)] := hl
  have iX3 := (fun w h => List.mem_cons_of_mem _ (List.mem_append_right _ h) : ∀ w ∈ u_ws RX3 TX3 6, w ∈ wsX3_init)
  refine lv_aload_n hx hb dX3_init_0 rfl (lv_at hl 0 rfl) ?_
  refine W.objInit hx hb hown (hts (.methodLink RX3 3 objectInit) (by decide +kernel)) (hts (.instanceMethod objectInit) (by decide +kernel)) (hts _ (List.mem_cons_of_mem _ (List.mem_append_left _ (List.mem_of_getElem? (i := 2) rfl)))) rfl (by rw [hml]; exact hl.1) rfl dX3_init_1 (Nat.le_of_ble_eq_true rfl) (Nat.le_of_ble_eq_true rfl) ?_
  refine W.eq (g2 := F0 m 4 ls []) rfl ?_
  refine lv_aload_n hx hb dX3_init_4 rfl (lv_at hl 0 rfl) ?_
  refine q_sipush hx hb dX3_init_5 rfl ?_
  refine q_newa (atype := .byte) (ty := .byte) hx hb (hts (.arrayClass .byte) (by decide +kernel)) rfl rfl (fun _ _ => ra_byte) hK hP hD hS hA 1 rfl (z := 150) (N := 150) (by decide) rfl (by decide) (Nat.le_of_ble_eq_true rfl) (Nat.le_of_ble_eq_true rfl) dX3_init_8 (fun q1 H hP hD hS => ?_)
  have hP : va_P (dC, dI) vwCl [(o, .inr (2, [.null, .int (zI 0), .int (zI 0), .int (zI 0), .int (zI 0), .int (zI 0)])), (q1, .inl (g 1, 150, .inl (fun _ => zI 0)))] H := hP
  have hD : va_D A [(o, .inr (2, [.null, .int (zI 0), .int (zI 0), .int (zI 0), .int (zI 0), .int (zI 0)])), (q1, .inl (g 1, 150, .inl (fun _ => zI 0)))] := hD
  refine W.widen (k := 1) (n := 150) (Nat.le_refl _) (Nat.le_refl _) ?_
  refine va_putF (D := (dC, dI)) (ci := 2) (v := .ref q1) (ty := .array .byte) (C := RX3) (T := TX3) (N := 6) hx hb hts iX3 tyX3 tyX3_ok nmX3 hown hK hP hD hS 0 rfl rfl 0 (by decide) (hts (.fieldLink RX3 11 "WrongWay$Text" "bytes" "[B") (by decide +kernel)) (fun _ h9 => h9) rfl hin rfl (by decide +kernel) rfl rfl (Nat.le_of_ble_eq_true rfl) dX3_init_10 (fun H locs hP hD hS => ?_)
  have hP : va_P (dC, dI) vwCl [(o, .inr (2, [.ref q1, .int (zI 0), .int (zI 0), .int (zI 0), .int (zI 0), .int (zI 0)])), (q1, .inl (g 1, 150, .inl (fun _ => zI 0)))] H := hP
  have hD : va_D A [(o, .inr (2, [.ref q1, .int (zI 0), .int (zI 0), .int (zI 0), .int (zI 0), .int (zI 0)])), (q1, .inl (g 1, 150, .inl (fun _ => zI 0)))] := hD
  have hPf : va_P (dC, dI) vwCl (wTx g (af o q1 0 0 0 0 0 0 0 0) z0 z0) H := hP
  have hDf : va_D A (wTx g (af o q1 0 0 0 0 0 0 0 0) z0 z0) := hD
  exact W.vret hx hb hr (fun t9 ht9 hW9 => ⟨⟨af o q1 0 0 0 0 0 0 0 0, rfl, rfl, by rw [ht9]; exact hPf, va_K.moved hW9.alike hK, hDf⟩, hS.F ht9⟩) hS.2.2 dX3_init_13
set_option maxHeartbeats 4000000 in
set_option maxRecDepth 100000 in
theorem kX4_init (l : Launch) (dC : Nat → ClassId) (dI : Nat → Nat → Nat) (g : Nat → ClassId) (tt : Nat → Nat) (sz : Nat) (o h : Nat) : Met l yX4_init wsX4_init ({ frames := 1, cells := 0, slots := 0, locals := 12 }) (va_Pc [.ref o, .ref h] (eQ (dC, dI) (wTy g) [(o, .inr (3, [.null]))] tt sz)) (va_Qv (fun (u : Unit) => True) (fun u t => fQ (dC, dI) (wTy g) (va_A [(o, .inr (3, [.null]))] sz) [(o, .inr (3, [.ref h]))] () t) (va_A [(o, .inr (3, [.null]))] sz)) 0 0 (va_A [(o, .inr (3, [.null]))] sz) := by
  refine Met.ofW (cc := cX4_init) (maxL := 2) (ret := none) (by decide) rfl ?_
  intro p e s m args below meth c s₁ Bd hml hv
  obtain ⟨rfl, hsz, hP, hK, hD0, hT⟩ := hv
  have hx := Bd.exec
  have hb := Bd.bytes
  have hr := Bd.returns
  have hts := atoms_spec (ws := wsX4_init) Bd.pre
  have hown : s.vm.findClass RX4 = some m.cls := findClass_of_methodNamed Bd.named
  have hlocks := Bd.notSynchronized
  have hin : meth.name = "<init>" := (name_of_methodNamed Bd.named Bd.method).1
  subst hsz
  have hD := hD0.self (sz := s.heap.size)
  generalize hAe : va_A [(o, .inr (3, [.null]))] s.heap.size = A at hD hT ⊢
  have hA : ∀ q : Nat, s.heap.size ≤ q → A q := fun q h => by rw [← hAe]; exact Or.inr h
  have hS : va_S A s.heap s.heap [] := va_S.rf
  have hl := lv_entry ([.ref o, .ref h]) (n := 2) (Nat.le_of_ble_eq_true rfl)
  rw [lg_entry_eq]
  generalize (lg_sl ([.ref o, .ref h]) ++ List.replicate (2 - (lg_sl ([.ref o, .ref h])).length) Slot.unset).toArray = ls at hl ⊢
  have hl : lv_has ls 2 [(0, .ref o), (1, .ref h)] := hl
  have iX4 := (fun w h => List.mem_cons_of_mem _ (List.mem_append_right _ h) : ∀ w ∈ u_ws RX4 TX4 1, w ∈ wsX4_init)
  refine lv_aload_n hx hb dX4_init_0 rfl (lv_at hl 0 rfl) ?_
  refine W.objInit hx hb hown (hts (.methodLink RX4 3 objectInit) (by decide +kernel)) (hts (.instanceMethod objectInit) (by decide +kernel)) (hts _ (List.mem_cons_of_mem _ (List.mem_append_left _ (List.mem_of_getElem? (i := 2) rfl)))) rfl (by rw [hml]; exact hl.1) rfl dX4_init_1 (Nat.le_of_ble_eq_true rfl) (Nat.le_of_ble_eq_true rfl) ?_
  refine W.eq (g2 := F0 m 4 ls []) rfl ?_
  refine lv_aload_n hx hb dX4_init_4 rfl (lv_at hl 0 rfl) ?_
  refine lv_aload_n hx hb dX4_init_5 rfl (lv_at hl 1 rfl) ?_
  refine va_putF (D := (dC, dI)) (ci := 3) (v := .ref h) (ty := .object "WrongWay$House") (C := RX4) (T := TX4) (N := 1) hx hb hts iX4 tyX4 tyX4_ok nmX4 hown hK hP hD hS 0 rfl rfl 0 (by decide) (hts (.fieldLink RX4 9 "WrongWay$Watch" "house" "LWrongWay$House;") (by decide +kernel)) (fun _ h9 => h9) rfl hin rfl (by decide +kernel) rfl rfl (Nat.le_of_ble_eq_true rfl) dX4_init_6 (fun H locs hP hD hS => ?_)
  have hP : va_P (dC, dI) vwCl [(o, .inr (3, [.ref h]))] H := hP
  have hD : va_D A [(o, .inr (3, [.ref h]))] := hD
  have hPf := hP
  have hDf := hD
  exact W.vret hx hb hr (fun t9 ht9 hW9 => ⟨⟨(), rfl, trivial, by rw [ht9]; exact hPf, va_K.moved hW9.alike hK, hDf⟩, hS.F ht9⟩) hS.2.2 dX4_init_9
set_option maxHeartbeats 4000000 in
set_option maxRecDepth 100000 in
theorem kX1_init (l : Launch) (dC : Nat → ClassId) (dI : Nat → Nat → Nat) (g : Nat → ClassId) (tt : Nat → Nat) (sz : Nat) (o : Nat) (v : Int → Int) (hvv : v = h_build z0 11) : Met l yX1_init wsX1_init ({ frames := 2, cells := 9, slots := 44, locals := 44 }) (va_Pc [.ref o] (eQ (dC, dI) (wTy g) [(o, .inr (1, [.int (zI 0), .int (zI 0), .int (zI 0), .int (zI 0), .int (zI 0), .null, .null, .null, .null, .null, .null, .null, .null, .null]))] tt sz)) (va_Qv (fun (u : Nat → Nat) => u 0 = o) (fun u t => fQ (dC, dI) (wTy g) (va_A [(o, .inr (1, [.int (zI 0), .int (zI 0), .int (zI 0), .int (zI 0), .int (zI 0), .null, .null, .null, .null, .null, .null, .null, .null, .null]))] sz) (wHs g u v) () t) (va_A [(o, .inr (1, [.int (zI 0), .int (zI 0), .int (zI 0), .int (zI 0), .int (zI 0), .null, .null, .null, .null, .null, .null, .null, .null, .null]))] sz)) 9 44 (va_A [(o, .inr (1, [.int (zI 0), .int (zI 0), .int (zI 0), .int (zI 0), .int (zI 0), .null, .null, .null, .null, .null, .null, .null, .null, .null]))] sz) := by
  refine Met.ofW (cc := cX1_init) (maxL := 1) (ret := none) (by decide) rfl ?_
  intro p e s m args below meth c s₁ Bd hml hv
  obtain ⟨rfl, hsz, hP, hK, hD0, hT⟩ := hv
  have hx := Bd.exec
  have hb := Bd.bytes
  have hr := Bd.returns
  have hts := atoms_spec (ws := wsX1_init) Bd.pre
  have hown : s.vm.findClass RX1 = some m.cls := findClass_of_methodNamed Bd.named
  have hlocks := Bd.notSynchronized
  have hin : meth.name = "<init>" := (name_of_methodNamed Bd.named Bd.method).1
  subst hsz
  have hD := hD0.self (sz := s.heap.size)
  generalize hAe : va_A [(o, .inr (1, [.int (zI 0), .int (zI 0), .int (zI 0), .int (zI 0), .int (zI 0), .null, .null, .null, .null, .null, .null, .null, .null, .null]))] s.heap.size = A at hD hT ⊢
  have hA : ∀ q : Nat, s.heap.size ≤ q → A q := fun q h => by rw [← hAe]; exact Or.inr h
  have hS : va_S A s.heap s.heap [] := va_S.rf
  have hl := lv_entry ([.ref o]) (n := 1) (Nat.le_of_ble_eq_true rfl)
  rw [lg_entry_eq]
  generalize (lg_sl ([.ref o]) ++ List.replicate (1 - (lg_sl ([.ref o])).length) Slot.unset).toArray = ls at hl ⊢
  have hl : lv_has ls 1 [(0, .ref o)] := hl
  have iX1 := (fun w h => List.mem_cons_of_mem _ (List.mem_append_right _ h) : ∀ w ∈ u_ws RX1 TX1 14, w ∈ wsX1_init)
  refine lv_aload_n hx hb dX1_init_0 rfl (lv_at hl 0 rfl) ?_
  refine W.objInit hx hb hown (hts (.methodLink RX1 1 objectInit) (by decide +kernel)) (hts (.instanceMethod objectInit) (by decide +kernel)) (hts _ (List.mem_cons_of_mem _ (List.mem_append_left _ (List.mem_append_left _ (List.mem_of_getElem? (i := 2) rfl))))) rfl (by rw [hml]; exact hl.1) rfl dX1_init_1 (Nat.le_of_ble_eq_true rfl) (Nat.le_of_ble_eq_true rfl) ?_
  refine W.eq (g2 := F0 m 4 ls []) rfl ?_
  refine lv_aload_n hx hb dX1_init_4 rfl (lv_at hl 0 rfl) ?_
  refine q_iconst hx hb dX1_init_5 ?_
  refine q_newa (atype := .int) (ty := .int) hx hb (hts (.arrayClass .int) (by decide +kernel)) rfl rfl (fun _ _ => ra_int) hK hP hD hS hA 0 rfl (z := 4) (N := 4) (by decide) rfl (by decide) (Nat.le_of_ble_eq_true rfl) (Nat.le_of_ble_eq_true rfl) dX1_init_6 (fun q1 H hP hD hS => ?_)
  have hP : va_P (dC, dI) vwCl [(o, .inr (1, [.int (zI 0), .int (zI 0), .int (zI 0), .int (zI 0), .int (zI 0), .null, .null, .null, .null, .null, .null, .null, .null, .null])), (q1, .inl (g 0, 4, .inl (fun _ => zI 0)))] H := hP
  have hD : va_D A [(o, .inr (1, [.int (zI 0), .int (zI 0), .int (zI 0), .int (zI 0), .int (zI 0), .null, .null, .null, .null, .null, .null, .null, .null, .null])), (q1, .inl (g 0, 4, .inl (fun _ => zI 0)))] := hD
  refine W.widen (k := 1) (n := 4) (Nat.le_refl _) (Nat.le_refl _) ?_
  refine va_putF (D := (dC, dI)) (ci := 1) (v := .ref q1) (ty := .array .int) (C := RX1) (T := TX1) (N := 14) hx hb hts iX1 tyX1 tyX1_ok nmX1 hown hK hP hD hS 0 rfl rfl 5 (by decide) (hts (.fieldLink RX1 9 "WrongWay$House" "kinds" "[I") (by decide +kernel)) (fun _ h9 => h9) rfl hin rfl (by decide +kernel) rfl rfl (Nat.le_of_ble_eq_true rfl) dX1_init_8 (fun H locs hP hD hS => ?_)
  have hP : va_P (dC, dI) vwCl [(o, .inr (1, [.int (zI 0), .int (zI 0), .int (zI 0), .int (zI 0), .int (zI 0), .ref q1, .null, .null, .null, .null, .null, .null, .null, .null])), (q1, .inl (g 0, 4, .inl (fun _ => zI 0)))] H := hP
  have hD : va_D A [(o, .inr (1, [.int (zI 0), .int (zI 0), .int (zI 0), .int (zI 0), .int (zI 0), .ref q1, .null, .null, .null, .null, .null, .null, .null, .null])), (q1, .inl (g 0, 4, .inl (fun _ => zI 0)))] := hD
  refine lv_aload_n hx hb dX1_init_11 rfl (lv_at hl 0 rfl) ?_
  refine q_iconst hx hb dX1_init_12 ?_
  refine q_newa (atype := .int) (ty := .int) hx hb (hts (.arrayClass .int) (by decide +kernel)) rfl rfl (fun _ _ => ra_int) hK hP hD hS hA 0 rfl (z := 4) (N := 4) (by decide) rfl (by decide) (Nat.le_of_ble_eq_true rfl) (Nat.le_of_ble_eq_true rfl) dX1_init_13 (fun q2 H hP hD hS => ?_)
  have hP : va_P (dC, dI) vwCl [(o, .inr (1, [.int (zI 0), .int (zI 0), .int (zI 0), .int (zI 0), .int (zI 0), .ref q1, .null, .null, .null, .null, .null, .null, .null, .null])), (q1, .inl (g 0, 4, .inl (fun _ => zI 0))), (q2, .inl (g 0, 4, .inl (fun _ => zI 0)))] H := hP
  have hD : va_D A [(o, .inr (1, [.int (zI 0), .int (zI 0), .int (zI 0), .int (zI 0), .int (zI 0), .ref q1, .null, .null, .null, .null, .null, .null, .null, .null])), (q1, .inl (g 0, 4, .inl (fun _ => zI 0))), (q2, .inl (g 0, 4, .inl (fun _ => zI 0)))] := hD
  refine W.widen (k := 2) (n := 8) (Nat.le_refl _) (Nat.le_refl _) ?_
  refine va_putF (D := (dC, dI)) (ci := 1) (v := .ref q2) (ty := .array .int) (C := RX1) (T := TX1) (N := 14) hx hb hts iX1 tyX1 tyX1_ok nmX1 hown hK hP hD hS 0 rfl rfl 6 (by decide) (hts (.fieldLink RX1 13 "WrongWay$House" "starts" "[I") (by decide +kernel)) (fun _ h9 => h9) rfl hin rfl (by decide +kernel) rfl rfl (Nat.le_of_ble_eq_true rfl) dX1_init_15 (fun H locs hP hD hS => ?_)
  have hP : va_P (dC, dI) vwCl [(o, .inr (1, [.int (zI 0), .int (zI 0), .int (zI 0), .int (zI 0), .int (zI 0), .ref q1, .ref q2, .null, .null, .null, .null, .null, .null, .null])), (q1, .inl (g 0, 4, .inl (fun _ => zI 0))), (q2, .inl (g 0, 4, .inl (fun _ => zI 0)))] H := hP
  have hD : va_D A [(o, .inr (1, [.int (zI 0), .int (zI 0), .int (zI 0), .int (zI 0), .int (zI 0), .ref q1, .ref q2, .null, .null, .null, .null, .null, .null, .null])), (q1, .inl (g 0, 4, .inl (fun _ => zI 0))), (q2, .inl (g 0, 4, .inl (fun _ => zI 0)))] := hD
  refine lv_aload_n hx hb dX1_init_18 rfl (lv_at hl 0 rfl) ?_
  refine q_iconst hx hb dX1_init_19 ?_
  refine q_newa (atype := .int) (ty := .int) hx hb (hts (.arrayClass .int) (by decide +kernel)) rfl rfl (fun _ _ => ra_int) hK hP hD hS hA 0 rfl (z := 2) (N := 2) (by decide) rfl (by decide) (Nat.le_of_ble_eq_true rfl) (Nat.le_of_ble_eq_true rfl) dX1_init_20 (fun q3 H hP hD hS => ?_)
  have hP : va_P (dC, dI) vwCl [(o, .inr (1, [.int (zI 0), .int (zI 0), .int (zI 0), .int (zI 0), .int (zI 0), .ref q1, .ref q2, .null, .null, .null, .null, .null, .null, .null])), (q1, .inl (g 0, 4, .inl (fun _ => zI 0))), (q2, .inl (g 0, 4, .inl (fun _ => zI 0))), (q3, .inl (g 0, 2, .inl (fun _ => zI 0)))] H := hP
  have hD : va_D A [(o, .inr (1, [.int (zI 0), .int (zI 0), .int (zI 0), .int (zI 0), .int (zI 0), .ref q1, .ref q2, .null, .null, .null, .null, .null, .null, .null])), (q1, .inl (g 0, 4, .inl (fun _ => zI 0))), (q2, .inl (g 0, 4, .inl (fun _ => zI 0))), (q3, .inl (g 0, 2, .inl (fun _ => zI 0)))] := hD
  refine W.widen (k := 3) (n := 10) (Nat.le_refl _) (Nat.le_refl _) ?_
  refine va_putF (D := (dC, dI)) (ci := 1) (v := .ref q3) (ty := .array .int) (C := RX1) (T := TX1) (N := 14) hx hb hts iX1 tyX1 tyX1_ok nmX1 hown hK hP hD hS 0 rfl rfl 7 (by decide) (hts (.fieldLink RX1 16 "WrongWay$House" "every" "[I") (by decide +kernel)) (fun _ h9 => h9) rfl hin rfl (by decide +kernel) rfl rfl (Nat.le_of_ble_eq_true rfl) dX1_init_22 (fun H locs hP hD hS => ?_)
  have hP : va_P (dC, dI) vwCl [(o, .inr (1, [.int (zI 0), .int (zI 0), .int (zI 0), .int (zI 0), .int (zI 0), .ref q1, .ref q2, .ref q3, .null, .null, .null, .null, .null, .null])), (q1, .inl (g 0, 4, .inl (fun _ => zI 0))), (q2, .inl (g 0, 4, .inl (fun _ => zI 0))), (q3, .inl (g 0, 2, .inl (fun _ => zI 0)))] H := hP
  have hD : va_D A [(o, .inr (1, [.int (zI 0), .int (zI 0), .int (zI 0), .int (zI 0), .int (zI 0), .ref q1, .ref q2, .ref q3, .null, .null, .null, .null, .null, .null])), (q1, .inl (g 0, 4, .inl (fun _ => zI 0))), (q2, .inl (g 0, 4, .inl (fun _ => zI 0))), (q3, .inl (g 0, 2, .inl (fun _ => zI 0)))] := hD
  refine lv_aload_n hx hb dX1_init_25 rfl (lv_at hl 0 rfl) ?_
  refine q_iconst hx hb dX1_init_26 ?_
  refine q_newa (atype := .int) (ty := .int) hx hb (hts (.arrayClass .int) (by decide +kernel)) rfl rfl (fun _ _ => ra_int) hK hP hD hS hA 0 rfl (z := 2) (N := 2) (by decide) rfl (by decide) (Nat.le_of_ble_eq_true rfl) (Nat.le_of_ble_eq_true rfl) dX1_init_27 (fun q4 H hP hD hS => ?_)
  have hP : va_P (dC, dI) vwCl [(o, .inr (1, [.int (zI 0), .int (zI 0), .int (zI 0), .int (zI 0), .int (zI 0), .ref q1, .ref q2, .ref q3, .null, .null, .null, .null, .null, .null])), (q1, .inl (g 0, 4, .inl (fun _ => zI 0))), (q2, .inl (g 0, 4, .inl (fun _ => zI 0))), (q3, .inl (g 0, 2, .inl (fun _ => zI 0))), (q4, .inl (g 0, 2, .inl (fun _ => zI 0)))] H := hP
  have hD : va_D A [(o, .inr (1, [.int (zI 0), .int (zI 0), .int (zI 0), .int (zI 0), .int (zI 0), .ref q1, .ref q2, .ref q3, .null, .null, .null, .null, .null, .null])), (q1, .inl (g 0, 4, .inl (fun _ => zI 0))), (q2, .inl (g 0, 4, .inl (fun _ => zI 0))), (q3, .inl (g 0, 2, .inl (fun _ => zI 0))), (q4, .inl (g 0, 2, .inl (fun _ => zI 0)))] := hD
  refine W.widen (k := 4) (n := 12) (Nat.le_refl _) (Nat.le_refl _) ?_
  refine va_putF (D := (dC, dI)) (ci := 1) (v := .ref q4) (ty := .array .int) (C := RX1) (T := TX1) (N := 14) hx hb hts iX1 tyX1 tyX1_ok nmX1 hown hK hP hD hS 0 rfl rfl 8 (by decide) (hts (.fieldLink RX1 19 "WrongWay$House" "at" "[I") (by decide +kernel)) (fun _ h9 => h9) rfl hin rfl (by decide +kernel) rfl rfl (Nat.le_of_ble_eq_true rfl) dX1_init_29 (fun H locs hP hD hS => ?_)
  have hP : va_P (dC, dI) vwCl [(o, .inr (1, [.int (zI 0), .int (zI 0), .int (zI 0), .int (zI 0), .int (zI 0), .ref q1, .ref q2, .ref q3, .ref q4, .null, .null, .null, .null, .null])), (q1, .inl (g 0, 4, .inl (fun _ => zI 0))), (q2, .inl (g 0, 4, .inl (fun _ => zI 0))), (q3, .inl (g 0, 2, .inl (fun _ => zI 0))), (q4, .inl (g 0, 2, .inl (fun _ => zI 0)))] H := hP
  have hD : va_D A [(o, .inr (1, [.int (zI 0), .int (zI 0), .int (zI 0), .int (zI 0), .int (zI 0), .ref q1, .ref q2, .ref q3, .ref q4, .null, .null, .null, .null, .null])), (q1, .inl (g 0, 4, .inl (fun _ => zI 0))), (q2, .inl (g 0, 4, .inl (fun _ => zI 0))), (q3, .inl (g 0, 2, .inl (fun _ => zI 0))), (q4, .inl (g 0, 2, .inl (fun _ => zI 0)))] := hD
  refine lv_aload_n hx hb dX1_init_32 rfl (lv_at hl 0 rfl) ?_
  refine q_bipush hx hb dX1_init_33 rfl ?_
  refine q_newa (atype := .int) (ty := .int) hx hb (hts (.arrayClass .int) (by decide +kernel)) rfl rfl (fun _ _ => ra_int) hK hP hD hS hA 0 rfl (z := 6) (N := 6) (by decide) rfl (by decide) (Nat.le_of_ble_eq_true rfl) (Nat.le_of_ble_eq_true rfl) dX1_init_35 (fun q5 H hP hD hS => ?_)
  have hP : va_P (dC, dI) vwCl [(o, .inr (1, [.int (zI 0), .int (zI 0), .int (zI 0), .int (zI 0), .int (zI 0), .ref q1, .ref q2, .ref q3, .ref q4, .null, .null, .null, .null, .null])), (q1, .inl (g 0, 4, .inl (fun _ => zI 0))), (q2, .inl (g 0, 4, .inl (fun _ => zI 0))), (q3, .inl (g 0, 2, .inl (fun _ => zI 0))), (q4, .inl (g 0, 2, .inl (fun _ => zI 0))), (q5, .inl (g 0, 6, .inl (fun _ => zI 0)))] H := hP
  have hD : va_D A [(o, .inr (1, [.int (zI 0), .int (zI 0), .int (zI 0), .int (zI 0), .int (zI 0), .ref q1, .ref q2, .ref q3, .ref q4, .null, .null, .null, .null, .null])), (q1, .inl (g 0, 4, .inl (fun _ => zI 0))), (q2, .inl (g 0, 4, .inl (fun _ => zI 0))), (q3, .inl (g 0, 2, .inl (fun _ => zI 0))), (q4, .inl (g 0, 2, .inl (fun _ => zI 0))), (q5, .inl (g 0, 6, .inl (fun _ => zI 0)))] := hD
  refine W.widen (k := 5) (n := 18) (Nat.le_refl _) (Nat.le_refl _) ?_
  refine va_putF (D := (dC, dI)) (ci := 1) (v := .ref q5) (ty := .array .int) (C := RX1) (T := TX1) (N := 14) hx hb hts iX1 tyX1 tyX1_ok nmX1 hown hK hP hD hS 0 rfl rfl 9 (by decide) (hts (.fieldLink RX1 22 "WrongWay$House" "notedLifts" "[I") (by decide +kernel)) (fun _ h9 => h9) rfl hin rfl (by decide +kernel) rfl rfl (Nat.le_of_ble_eq_true rfl) dX1_init_37 (fun H locs hP hD hS => ?_)
  have hP : va_P (dC, dI) vwCl [(o, .inr (1, [.int (zI 0), .int (zI 0), .int (zI 0), .int (zI 0), .int (zI 0), .ref q1, .ref q2, .ref q3, .ref q4, .ref q5, .null, .null, .null, .null])), (q1, .inl (g 0, 4, .inl (fun _ => zI 0))), (q2, .inl (g 0, 4, .inl (fun _ => zI 0))), (q3, .inl (g 0, 2, .inl (fun _ => zI 0))), (q4, .inl (g 0, 2, .inl (fun _ => zI 0))), (q5, .inl (g 0, 6, .inl (fun _ => zI 0)))] H := hP
  have hD : va_D A [(o, .inr (1, [.int (zI 0), .int (zI 0), .int (zI 0), .int (zI 0), .int (zI 0), .ref q1, .ref q2, .ref q3, .ref q4, .ref q5, .null, .null, .null, .null])), (q1, .inl (g 0, 4, .inl (fun _ => zI 0))), (q2, .inl (g 0, 4, .inl (fun _ => zI 0))), (q3, .inl (g 0, 2, .inl (fun _ => zI 0))), (q4, .inl (g 0, 2, .inl (fun _ => zI 0))), (q5, .inl (g 0, 6, .inl (fun _ => zI 0)))] := hD
  refine lv_aload_n hx hb dX1_init_40 rfl (lv_at hl 0 rfl) ?_
  refine q_bipush hx hb dX1_init_41 rfl ?_
  refine q_newa (atype := .int) (ty := .int) hx hb (hts (.arrayClass .int) (by decide +kernel)) rfl rfl (fun _ _ => ra_int) hK hP hD hS hA 0 rfl (z := 6) (N := 6) (by decide) rfl (by decide) (Nat.le_of_ble_eq_true rfl) (Nat.le_of_ble_eq_true rfl) dX1_init_43 (fun q6 H hP hD hS => ?_)
  have hP : va_P (dC, dI) vwCl [(o, .inr (1, [.int (zI 0), .int (zI 0), .int (zI 0), .int (zI 0), .int (zI 0), .ref q1, .ref q2, .ref q3, .ref q4, .ref q5, .null, .null, .null, .null])), (q1, .inl (g 0, 4, .inl (fun _ => zI 0))), (q2, .inl (g 0, 4, .inl (fun _ => zI 0))), (q3, .inl (g 0, 2, .inl (fun _ => zI 0))), (q4, .inl (g 0, 2, .inl (fun _ => zI 0))), (q5, .inl (g 0, 6, .inl (fun _ => zI 0))), (q6, .inl (g 0, 6, .inl (fun _ => zI 0)))] H := hP
  have hD : va_D A [(o, .inr (1, [.int (zI 0), .int (zI 0), .int (zI 0), .int (zI 0), .int (zI 0), .ref q1, .ref q2, .ref q3, .ref q4, .ref q5, .null, .null, .null, .null])), (q1, .inl (g 0, 4, .inl (fun _ => zI 0))), (q2, .inl (g 0, 4, .inl (fun _ => zI 0))), (q3, .inl (g 0, 2, .inl (fun _ => zI 0))), (q4, .inl (g 0, 2, .inl (fun _ => zI 0))), (q5, .inl (g 0, 6, .inl (fun _ => zI 0))), (q6, .inl (g 0, 6, .inl (fun _ => zI 0)))] := hD
  refine W.widen (k := 6) (n := 24) (Nat.le_refl _) (Nat.le_refl _) ?_
  refine va_putF (D := (dC, dI)) (ci := 1) (v := .ref q6) (ty := .array .int) (C := RX1) (T := TX1) (N := 14) hx hb hts iX1 tyX1 tyX1_ok nmX1 hown hK hP hD hS 0 rfl rfl 10 (by decide) (hts (.fieldLink RX1 25 "WrongWay$House" "notedFloors" "[I") (by decide +kernel)) (fun _ h9 => h9) rfl hin rfl (by decide +kernel) rfl rfl (Nat.le_of_ble_eq_true rfl) dX1_init_45 (fun H locs hP hD hS => ?_)
  have hP : va_P (dC, dI) vwCl [(o, .inr (1, [.int (zI 0), .int (zI 0), .int (zI 0), .int (zI 0), .int (zI 0), .ref q1, .ref q2, .ref q3, .ref q4, .ref q5, .ref q6, .null, .null, .null])), (q1, .inl (g 0, 4, .inl (fun _ => zI 0))), (q2, .inl (g 0, 4, .inl (fun _ => zI 0))), (q3, .inl (g 0, 2, .inl (fun _ => zI 0))), (q4, .inl (g 0, 2, .inl (fun _ => zI 0))), (q5, .inl (g 0, 6, .inl (fun _ => zI 0))), (q6, .inl (g 0, 6, .inl (fun _ => zI 0)))] H := hP
  have hD : va_D A [(o, .inr (1, [.int (zI 0), .int (zI 0), .int (zI 0), .int (zI 0), .int (zI 0), .ref q1, .ref q2, .ref q3, .ref q4, .ref q5, .ref q6, .null, .null, .null])), (q1, .inl (g 0, 4, .inl (fun _ => zI 0))), (q2, .inl (g 0, 4, .inl (fun _ => zI 0))), (q3, .inl (g 0, 2, .inl (fun _ => zI 0))), (q4, .inl (g 0, 2, .inl (fun _ => zI 0))), (q5, .inl (g 0, 6, .inl (fun _ => zI 0))), (q6, .inl (g 0, 6, .inl (fun _ => zI 0)))] := hD
  refine lv_aload_n hx hb dX1_init_48 rfl (lv_at hl 0 rfl) ?_
  refine q_bipush hx hb dX1_init_49 rfl ?_
  refine q_newa (atype := .int) (ty := .int) hx hb (hts (.arrayClass .int) (by decide +kernel)) rfl rfl (fun _ _ => ra_int) hK hP hD hS hA 0 rfl (z := 6) (N := 6) (by decide) rfl (by decide) (Nat.le_of_ble_eq_true rfl) (Nat.le_of_ble_eq_true rfl) dX1_init_51 (fun q7 H hP hD hS => ?_)
  have hP : va_P (dC, dI) vwCl [(o, .inr (1, [.int (zI 0), .int (zI 0), .int (zI 0), .int (zI 0), .int (zI 0), .ref q1, .ref q2, .ref q3, .ref q4, .ref q5, .ref q6, .null, .null, .null])), (q1, .inl (g 0, 4, .inl (fun _ => zI 0))), (q2, .inl (g 0, 4, .inl (fun _ => zI 0))), (q3, .inl (g 0, 2, .inl (fun _ => zI 0))), (q4, .inl (g 0, 2, .inl (fun _ => zI 0))), (q5, .inl (g 0, 6, .inl (fun _ => zI 0))), (q6, .inl (g 0, 6, .inl (fun _ => zI 0))), (q7, .inl (g 0, 6, .inl (fun _ => zI 0)))] H := hP
  have hD : va_D A [(o, .inr (1, [.int (zI 0), .int (zI 0), .int (zI 0), .int (zI 0), .int (zI 0), .ref q1, .ref q2, .ref q3, .ref q4, .ref q5, .ref q6, .null, .null, .null])), (q1, .inl (g 0, 4, .inl (fun _ => zI 0))), (q2, .inl (g 0, 4, .inl (fun _ => zI 0))), (q3, .inl (g 0, 2, .inl (fun _ => zI 0))), (q4, .inl (g 0, 2, .inl (fun _ => zI 0))), (q5, .inl (g 0, 6, .inl (fun _ => zI 0))), (q6, .inl (g 0, 6, .inl (fun _ => zI 0))), (q7, .inl (g 0, 6, .inl (fun _ => zI 0)))] := hD
  refine W.widen (k := 7) (n := 30) (Nat.le_refl _) (Nat.le_refl _) ?_
  refine va_putF (D := (dC, dI)) (ci := 1) (v := .ref q7) (ty := .array .int) (C := RX1) (T := TX1) (N := 14) hx hb hts iX1 tyX1 tyX1_ok nmX1 hown hK hP hD hS 0 rfl rfl 11 (by decide) (hts (.fieldLink RX1 28 "WrongWay$House" "notedMinutes" "[I") (by decide +kernel)) (fun _ h9 => h9) rfl hin rfl (by decide +kernel) rfl rfl (Nat.le_of_ble_eq_true rfl) dX1_init_53 (fun H locs hP hD hS => ?_)
  have hP : va_P (dC, dI) vwCl [(o, .inr (1, [.int (zI 0), .int (zI 0), .int (zI 0), .int (zI 0), .int (zI 0), .ref q1, .ref q2, .ref q3, .ref q4, .ref q5, .ref q6, .ref q7, .null, .null])), (q1, .inl (g 0, 4, .inl (fun _ => zI 0))), (q2, .inl (g 0, 4, .inl (fun _ => zI 0))), (q3, .inl (g 0, 2, .inl (fun _ => zI 0))), (q4, .inl (g 0, 2, .inl (fun _ => zI 0))), (q5, .inl (g 0, 6, .inl (fun _ => zI 0))), (q6, .inl (g 0, 6, .inl (fun _ => zI 0))), (q7, .inl (g 0, 6, .inl (fun _ => zI 0)))] H := hP
  have hD : va_D A [(o, .inr (1, [.int (zI 0), .int (zI 0), .int (zI 0), .int (zI 0), .int (zI 0), .ref q1, .ref q2, .ref q3, .ref q4, .ref q5, .ref q6, .ref q7, .null, .null])), (q1, .inl (g 0, 4, .inl (fun _ => zI 0))), (q2, .inl (g 0, 4, .inl (fun _ => zI 0))), (q3, .inl (g 0, 2, .inl (fun _ => zI 0))), (q4, .inl (g 0, 2, .inl (fun _ => zI 0))), (q5, .inl (g 0, 6, .inl (fun _ => zI 0))), (q6, .inl (g 0, 6, .inl (fun _ => zI 0))), (q7, .inl (g 0, 6, .inl (fun _ => zI 0)))] := hD
  refine lv_aload_n hx hb dX1_init_56 rfl (lv_at hl 0 rfl) ?_
  refine q_bipush hx hb dX1_init_57 rfl ?_
  refine q_newa (atype := .int) (ty := .int) hx hb (hts (.arrayClass .int) (by decide +kernel)) rfl rfl (fun _ _ => ra_int) hK hP hD hS hA 0 rfl (z := 6) (N := 6) (by decide) rfl (by decide) (Nat.le_of_ble_eq_true rfl) (Nat.le_of_ble_eq_true rfl) dX1_init_59 (fun q8 H hP hD hS => ?_)
  have hP : va_P (dC, dI) vwCl [(o, .inr (1, [.int (zI 0), .int (zI 0), .int (zI 0), .int (zI 0), .int (zI 0), .ref q1, .ref q2, .ref q3, .ref q4, .ref q5, .ref q6, .ref q7, .null, .null])), (q1, .inl (g 0, 4, .inl (fun _ => zI 0))), (q2, .inl (g 0, 4, .inl (fun _ => zI 0))), (q3, .inl (g 0, 2, .inl (fun _ => zI 0))), (q4, .inl (g 0, 2, .inl (fun _ => zI 0))), (q5, .inl (g 0, 6, .inl (fun _ => zI 0))), (q6, .inl (g 0, 6, .inl (fun _ => zI 0))), (q7, .inl (g 0, 6, .inl (fun _ => zI 0))), (q8, .inl (g 0, 6, .inl (fun _ => zI 0)))] H := hP
  have hD : va_D A [(o, .inr (1, [.int (zI 0), .int (zI 0), .int (zI 0), .int (zI 0), .int (zI 0), .ref q1, .ref q2, .ref q3, .ref q4, .ref q5, .ref q6, .ref q7, .null, .null])), (q1, .inl (g 0, 4, .inl (fun _ => zI 0))), (q2, .inl (g 0, 4, .inl (fun _ => zI 0))), (q3, .inl (g 0, 2, .inl (fun _ => zI 0))), (q4, .inl (g 0, 2, .inl (fun _ => zI 0))), (q5, .inl (g 0, 6, .inl (fun _ => zI 0))), (q6, .inl (g 0, 6, .inl (fun _ => zI 0))), (q7, .inl (g 0, 6, .inl (fun _ => zI 0))), (q8, .inl (g 0, 6, .inl (fun _ => zI 0)))] := hD
  refine W.widen (k := 8) (n := 36) (Nat.le_refl _) (Nat.le_refl _) ?_
  refine va_putF (D := (dC, dI)) (ci := 1) (v := .ref q8) (ty := .array .int) (C := RX1) (T := TX1) (N := 14) hx hb hts iX1 tyX1 tyX1_ok nmX1 hown hK hP hD hS 0 rfl rfl 12 (by decide) (hts (.fieldLink RX1 31 "WrongWay$House" "notedThere" "[I") (by decide +kernel)) (fun _ h9 => h9) rfl hin rfl (by decide +kernel) rfl rfl (Nat.le_of_ble_eq_true rfl) dX1_init_61 (fun H locs hP hD hS => ?_)
  have hP : va_P (dC, dI) vwCl [(o, .inr (1, [.int (zI 0), .int (zI 0), .int (zI 0), .int (zI 0), .int (zI 0), .ref q1, .ref q2, .ref q3, .ref q4, .ref q5, .ref q6, .ref q7, .ref q8, .null])), (q1, .inl (g 0, 4, .inl (fun _ => zI 0))), (q2, .inl (g 0, 4, .inl (fun _ => zI 0))), (q3, .inl (g 0, 2, .inl (fun _ => zI 0))), (q4, .inl (g 0, 2, .inl (fun _ => zI 0))), (q5, .inl (g 0, 6, .inl (fun _ => zI 0))), (q6, .inl (g 0, 6, .inl (fun _ => zI 0))), (q7, .inl (g 0, 6, .inl (fun _ => zI 0))), (q8, .inl (g 0, 6, .inl (fun _ => zI 0)))] H := hP
  have hD : va_D A [(o, .inr (1, [.int (zI 0), .int (zI 0), .int (zI 0), .int (zI 0), .int (zI 0), .ref q1, .ref q2, .ref q3, .ref q4, .ref q5, .ref q6, .ref q7, .ref q8, .null])), (q1, .inl (g 0, 4, .inl (fun _ => zI 0))), (q2, .inl (g 0, 4, .inl (fun _ => zI 0))), (q3, .inl (g 0, 2, .inl (fun _ => zI 0))), (q4, .inl (g 0, 2, .inl (fun _ => zI 0))), (q5, .inl (g 0, 6, .inl (fun _ => zI 0))), (q6, .inl (g 0, 6, .inl (fun _ => zI 0))), (q7, .inl (g 0, 6, .inl (fun _ => zI 0))), (q8, .inl (g 0, 6, .inl (fun _ => zI 0)))] := hD
  refine lv_aload_n hx hb dX1_init_64 rfl (lv_at hl 0 rfl) ?_
  refine q_bipush hx hb dX1_init_65 rfl ?_
  refine q_newa (atype := .int) (ty := .int) hx hb (hts (.arrayClass .int) (by decide +kernel)) rfl rfl (fun _ _ => ra_int) hK hP hD hS hA 0 rfl (z := 8) (N := 8) (by decide) rfl (by decide) (Nat.le_of_ble_eq_true rfl) (Nat.le_of_ble_eq_true rfl) dX1_init_67 (fun q9 H hP hD hS => ?_)
  have hP : va_P (dC, dI) vwCl [(o, .inr (1, [.int (zI 0), .int (zI 0), .int (zI 0), .int (zI 0), .int (zI 0), .ref q1, .ref q2, .ref q3, .ref q4, .ref q5, .ref q6, .ref q7, .ref q8, .null])), (q1, .inl (g 0, 4, .inl (fun _ => zI 0))), (q2, .inl (g 0, 4, .inl (fun _ => zI 0))), (q3, .inl (g 0, 2, .inl (fun _ => zI 0))), (q4, .inl (g 0, 2, .inl (fun _ => zI 0))), (q5, .inl (g 0, 6, .inl (fun _ => zI 0))), (q6, .inl (g 0, 6, .inl (fun _ => zI 0))), (q7, .inl (g 0, 6, .inl (fun _ => zI 0))), (q8, .inl (g 0, 6, .inl (fun _ => zI 0))), (q9, .inl (g 0, 8, .inl (fun _ => zI 0)))] H := hP
  have hD : va_D A [(o, .inr (1, [.int (zI 0), .int (zI 0), .int (zI 0), .int (zI 0), .int (zI 0), .ref q1, .ref q2, .ref q3, .ref q4, .ref q5, .ref q6, .ref q7, .ref q8, .null])), (q1, .inl (g 0, 4, .inl (fun _ => zI 0))), (q2, .inl (g 0, 4, .inl (fun _ => zI 0))), (q3, .inl (g 0, 2, .inl (fun _ => zI 0))), (q4, .inl (g 0, 2, .inl (fun _ => zI 0))), (q5, .inl (g 0, 6, .inl (fun _ => zI 0))), (q6, .inl (g 0, 6, .inl (fun _ => zI 0))), (q7, .inl (g 0, 6, .inl (fun _ => zI 0))), (q8, .inl (g 0, 6, .inl (fun _ => zI 0))), (q9, .inl (g 0, 8, .inl (fun _ => zI 0)))] := hD
  refine W.widen (k := 9) (n := 44) (Nat.le_refl _) (Nat.le_refl _) ?_
  refine va_putF (D := (dC, dI)) (ci := 1) (v := .ref q9) (ty := .array .int) (C := RX1) (T := TX1) (N := 14) hx hb hts iX1 tyX1 tyX1_ok nmX1 hown hK hP hD hS 0 rfl rfl 13 (by decide) (hts (.fieldLink RX1 34 "WrongWay$House" "minutesBefore" "[I") (by decide +kernel)) (fun _ h9 => h9) rfl hin rfl (by decide +kernel) rfl rfl (Nat.le_of_ble_eq_true rfl) dX1_init_69 (fun H locs hP hD hS => ?_)
  have hP : va_P (dC, dI) vwCl [(o, .inr (1, [.int (zI 0), .int (zI 0), .int (zI 0), .int (zI 0), .int (zI 0), .ref q1, .ref q2, .ref q3, .ref q4, .ref q5, .ref q6, .ref q7, .ref q8, .ref q9])), (q1, .inl (g 0, 4, .inl (fun _ => zI 0))), (q2, .inl (g 0, 4, .inl (fun _ => zI 0))), (q3, .inl (g 0, 2, .inl (fun _ => zI 0))), (q4, .inl (g 0, 2, .inl (fun _ => zI 0))), (q5, .inl (g 0, 6, .inl (fun _ => zI 0))), (q6, .inl (g 0, 6, .inl (fun _ => zI 0))), (q7, .inl (g 0, 6, .inl (fun _ => zI 0))), (q8, .inl (g 0, 6, .inl (fun _ => zI 0))), (q9, .inl (g 0, 8, .inl (fun _ => zI 0)))] H := hP
  have hD : va_D A [(o, .inr (1, [.int (zI 0), .int (zI 0), .int (zI 0), .int (zI 0), .int (zI 0), .ref q1, .ref q2, .ref q3, .ref q4, .ref q5, .ref q6, .ref q7, .ref q8, .ref q9])), (q1, .inl (g 0, 4, .inl (fun _ => zI 0))), (q2, .inl (g 0, 4, .inl (fun _ => zI 0))), (q3, .inl (g 0, 2, .inl (fun _ => zI 0))), (q4, .inl (g 0, 2, .inl (fun _ => zI 0))), (q5, .inl (g 0, 6, .inl (fun _ => zI 0))), (q6, .inl (g 0, 6, .inl (fun _ => zI 0))), (q7, .inl (g 0, 6, .inl (fun _ => zI 0))), (q8, .inl (g 0, 6, .inl (fun _ => zI 0))), (q9, .inl (g 0, 8, .inl (fun _ => zI 0)))] := hD
  have hP : va_P (dC, dI) vwCl (wHs g (af o q1 q2 q3 q4 q5 q6 q7 q8 q9) z0) H := hP
  have hD : va_D A (wHs g (af o q1 q2 q3 q4 q5 q6 q7 q8 q9) z0) := hD
  refine lv_aload_n hx hb dX1_init_72 rfl (lv_at hl 0 rfl) ?_
  refine q_bipush hx hb dX1_init_73 rfl ?_
  refine q_cEv (b := o) (As := [.int (zI 11)]) (rest := []) (w1 := wHs g (af o q1 q2 q3 q4 q5 q6 q7 q8 q9) (h_build z0 11)) ⟨hx, hb, hml, hown, hts⟩ hP hD hK hT hS hA (kX1_build l dC dI g tt _ (af o q1 q2 q3 q4 q5 q6 q7 q8 q9) z0 11) (cwV 1 hts gX1_init_X1_build rfl rfl rfl (by decide +kernel) ⟨Nat.le_of_ble_eq_true rfl, Nat.le_of_ble_eq_true rfl⟩) 0 1 rfl rfl rfl rfl hl.1 rfl (Nat.le_of_ble_eq_true rfl) dX1_init_75 ⟨Nat.le_of_ble_eq_true rfl, Nat.le_of_ble_eq_true rfl⟩ (fun H locs hP hD hS => ?_)
  have hPf : va_P (dC, dI) vwCl (wHs g (af o q1 q2 q3 q4 q5 q6 q7 q8 q9) v) H := by rw [hvv]; exact hP
  have hDf : va_D A (wHs g (af o q1 q2 q3 q4 q5 q6 q7 q8 q9) v) := by rw [hvv]; exact hD
  exact W.vret hx hb hr (fun t9 ht9 hW9 => ⟨⟨af o q1 q2 q3 q4 q5 q6 q7 q8 q9, rfl, rfl, by rw [ht9]; exact hPf, va_K.moved hW9.alike hK, hDf⟩, hS.F ht9⟩) hS.2.2 dX1_init_78
def m_new : Nat → Int → Int := mset (fun _ _ => 0) 0 2 1
set_option maxHeartbeats 4000000 in
set_option maxRecDepth 100000 in
theorem kX6_init (l : Launch) (dC : Nat → ClassId) (dI : Nat → Nat → Nat) (g : Nat → ClassId) (tt : Nat → Nat) (sz : Nat) (o : Nat) : Met l yX6_init wsX6_init ({ frames := 1, cells := 5, slots := 354, locals := 23 }) (va_Pc [.ref o] (eQ (dC, dI) (wTy g) [(o, .inr (5, [.null, .null, .null, .int (zI 0), .null, .long (zL 0), .long (zL 0), .int (zI 0), .int (zI 0), .int (zI 0), .int (zI 0), .null, .int (zI 0), .int (zI 0), .long (zL 0)]))] tt sz)) (va_Qv (fun (u : Nat → Nat) => u 0 = o) (fun u t => fQ (dC, dI) (wTy g) (va_A [(o, .inr (5, [.null, .null, .null, .int (zI 0), .null, .long (zL 0), .long (zL 0), .int (zI 0), .int (zI 0), .int (zI 0), .int (zI 0), .null, .int (zI 0), .int (zI 0), .long (zL 0)]))] sz) (wMo g u (m_beg m_new 0 11)) () t) (va_A [(o, .inr (5, [.null, .null, .null, .int (zI 0), .null, .long (zL 0), .long (zL 0), .int (zI 0), .int (zI 0), .int (zI 0), .int (zI 0), .null, .int (zI 0), .int (zI 0), .long (zL 0)]))] sz)) 5 354 (va_A [(o, .inr (5, [.null, .null, .null, .int (zI 0), .null, .long (zL 0), .long (zL 0), .int (zI 0), .int (zI 0), .int (zI 0), .int (zI 0), .null, .int (zI 0), .int (zI 0), .long (zL 0)]))] sz) := by
  refine Met.ofW (cc := cX6_init) (maxL := 1) (ret := none) (by decide) rfl ?_
  intro p e s m args below meth c s₁ Bd hml hv
  obtain ⟨rfl, hsz, hP, hK, hD0, hT⟩ := hv
  have hx := Bd.exec
  have hb := Bd.bytes
  have hr := Bd.returns
  have hts := atoms_spec (ws := wsX6_init) Bd.pre
  have hown : s.vm.findClass RX6 = some m.cls := findClass_of_methodNamed Bd.named
  have hlocks := Bd.notSynchronized
  have hin : meth.name = "<init>" := (name_of_methodNamed Bd.named Bd.method).1
  subst hsz
  have hD := hD0.self (sz := s.heap.size)
  generalize hAe : va_A [(o, .inr (5, [.null, .null, .null, .int (zI 0), .null, .long (zL 0), .long (zL 0), .int (zI 0), .int (zI 0), .int (zI 0), .int (zI 0), .null, .int (zI 0), .int (zI 0), .long (zL 0)]))] s.heap.size = A at hD hT ⊢
  have hA : ∀ q : Nat, s.heap.size ≤ q → A q := fun q h => by rw [← hAe]; exact Or.inr h
  have hS : va_S A s.heap s.heap [] := va_S.rf
  have hl := lv_entry ([.ref o]) (n := 1) (Nat.le_of_ble_eq_true rfl)
  rw [lg_entry_eq]
  generalize (lg_sl ([.ref o]) ++ List.replicate (1 - (lg_sl ([.ref o])).length) Slot.unset).toArray = ls at hl ⊢
  have hl : lv_has ls 1 [(0, .ref o)] := hl
  have iX6 := (fun w h => List.mem_cons_of_mem _ (List.mem_append_right _ h) : ∀ w ∈ u_ws RX6 TX6 15, w ∈ wsX6_init)
  refine lv_aload_n hx hb dX6_init_0 rfl (lv_at hl 0 rfl) ?_
  refine W.objInit hx hb hown (hts (.methodLink RX6 1 objectInit) (by decide +kernel)) (hts (.instanceMethod objectInit) (by decide +kernel)) (hts _ (List.mem_cons_of_mem _ (List.mem_append_left _ (List.mem_of_getElem? (i := 2) rfl)))) rfl (by rw [hml]; exact hl.1) rfl dX6_init_1 (Nat.le_of_ble_eq_true rfl) (Nat.le_of_ble_eq_true rfl) ?_
  refine W.eq (g2 := F0 m 4 ls []) rfl ?_
  refine lv_aload_n hx hb dX6_init_4 rfl (lv_at hl 0 rfl) ?_
  refine q_sipush hx hb dX6_init_5 rfl ?_
  refine q_newa (atype := .int) (ty := .int) hx hb (hts (.arrayClass .int) (by decide +kernel)) rfl rfl (fun _ _ => ra_int) hK hP hD hS hA 0 rfl (z := 196) (N := 196) (by decide) rfl (by decide) (Nat.le_of_ble_eq_true rfl) (Nat.le_of_ble_eq_true rfl) dX6_init_8 (fun q1 H hP hD hS => ?_)
  have hP : va_P (dC, dI) vwCl [(o, .inr (5, [.null, .null, .null, .int (zI 0), .null, .long (zL 0), .long (zL 0), .int (zI 0), .int (zI 0), .int (zI 0), .int (zI 0), .null, .int (zI 0), .int (zI 0), .long (zL 0)])), (q1, .inl (g 0, 196, .inl (fun _ => zI 0)))] H := hP
  have hD : va_D A [(o, .inr (5, [.null, .null, .null, .int (zI 0), .null, .long (zL 0), .long (zL 0), .int (zI 0), .int (zI 0), .int (zI 0), .int (zI 0), .null, .int (zI 0), .int (zI 0), .long (zL 0)])), (q1, .inl (g 0, 196, .inl (fun _ => zI 0)))] := hD
  refine W.widen (k := 1) (n := 196) (Nat.le_refl _) (Nat.le_refl _) ?_
  refine va_putF (D := (dC, dI)) (ci := 5) (v := .ref q1) (ty := .array .int) (C := RX6) (T := TX6) (N := 15) hx hb hts iX6 tyX6 tyX6_ok nmX6 hown hK hP hD hS 0 rfl rfl 0 (by decide) (hts (.fieldLink RX6 7 "WrongWayModel" "w" "[I") (by decide +kernel)) (fun _ h9 => h9) rfl hin rfl (by decide +kernel) rfl rfl (Nat.le_of_ble_eq_true rfl) dX6_init_10 (fun H locs hP hD hS => ?_)
  have hP : va_P (dC, dI) vwCl [(o, .inr (5, [.ref q1, .null, .null, .int (zI 0), .null, .long (zL 0), .long (zL 0), .int (zI 0), .int (zI 0), .int (zI 0), .int (zI 0), .null, .int (zI 0), .int (zI 0), .long (zL 0)])), (q1, .inl (g 0, 196, .inl (fun _ => zI 0)))] H := hP
  have hD : va_D A [(o, .inr (5, [.ref q1, .null, .null, .int (zI 0), .null, .long (zL 0), .long (zL 0), .int (zI 0), .int (zI 0), .int (zI 0), .int (zI 0), .null, .int (zI 0), .int (zI 0), .long (zL 0)])), (q1, .inl (g 0, 196, .inl (fun _ => zI 0)))] := hD
  refine lv_aload_n hx hb dX6_init_13 rfl (lv_at hl 0 rfl) ?_
  refine q_iconst hx hb dX6_init_14 ?_
  refine q_newa (atype := .boolean) (ty := .boolean) hx hb (hts (.arrayClass .boolean) (by decide +kernel)) rfl rfl (fun _ _ => ra_bool) hK hP hD hS hA 2 rfl (z := 2) (N := 2) (by decide) rfl (by decide) (Nat.le_of_ble_eq_true rfl) (Nat.le_of_ble_eq_true rfl) dX6_init_15 (fun q2 H hP hD hS => ?_)
  have hP : va_P (dC, dI) vwCl [(o, .inr (5, [.ref q1, .null, .null, .int (zI 0), .null, .long (zL 0), .long (zL 0), .int (zI 0), .int (zI 0), .int (zI 0), .int (zI 0), .null, .int (zI 0), .int (zI 0), .long (zL 0)])), (q1, .inl (g 0, 196, .inl (fun _ => zI 0))), (q2, .inl (g 2, 2, .inl (fun _ => zI 0)))] H := hP
  have hD : va_D A [(o, .inr (5, [.ref q1, .null, .null, .int (zI 0), .null, .long (zL 0), .long (zL 0), .int (zI 0), .int (zI 0), .int (zI 0), .int (zI 0), .null, .int (zI 0), .int (zI 0), .long (zL 0)])), (q1, .inl (g 0, 196, .inl (fun _ => zI 0))), (q2, .inl (g 2, 2, .inl (fun _ => zI 0)))] := hD
  refine W.widen (k := 2) (n := 198) (Nat.le_refl _) (Nat.le_refl _) ?_
  refine va_putF (D := (dC, dI)) (ci := 5) (v := .ref q2) (ty := .array .boolean) (C := RX6) (T := TX6) (N := 15) hx hb hts iX6 tyX6 tyX6_ok nmX6 hown hK hP hD hS 0 rfl rfl 1 (by decide) (hts (.fieldLink RX6 13 "WrongWayModel" "isKept" "[Z") (by decide +kernel)) (fun _ h9 => h9) rfl hin rfl (by decide +kernel) rfl rfl (Nat.le_of_ble_eq_true rfl) dX6_init_17 (fun H locs hP hD hS => ?_)
  have hP : va_P (dC, dI) vwCl [(o, .inr (5, [.ref q1, .ref q2, .null, .int (zI 0), .null, .long (zL 0), .long (zL 0), .int (zI 0), .int (zI 0), .int (zI 0), .int (zI 0), .null, .int (zI 0), .int (zI 0), .long (zL 0)])), (q1, .inl (g 0, 196, .inl (fun _ => zI 0))), (q2, .inl (g 2, 2, .inl (fun _ => zI 0)))] H := hP
  have hD : va_D A [(o, .inr (5, [.ref q1, .ref q2, .null, .int (zI 0), .null, .long (zL 0), .long (zL 0), .int (zI 0), .int (zI 0), .int (zI 0), .int (zI 0), .null, .int (zI 0), .int (zI 0), .long (zL 0)])), (q1, .inl (g 0, 196, .inl (fun _ => zI 0))), (q2, .inl (g 2, 2, .inl (fun _ => zI 0)))] := hD
  refine lv_aload_n hx hb dX6_init_20 rfl (lv_at hl 0 rfl) ?_
  refine q_sipush hx hb dX6_init_21 rfl ?_
  refine q_newa (atype := .int) (ty := .int) hx hb (hts (.arrayClass .int) (by decide +kernel)) rfl rfl (fun _ _ => ra_int) hK hP hD hS hA 0 rfl (z := 150) (N := 150) (by decide) rfl (by decide) (Nat.le_of_ble_eq_true rfl) (Nat.le_of_ble_eq_true rfl) dX6_init_24 (fun q3 H hP hD hS => ?_)
  have hP : va_P (dC, dI) vwCl [(o, .inr (5, [.ref q1, .ref q2, .null, .int (zI 0), .null, .long (zL 0), .long (zL 0), .int (zI 0), .int (zI 0), .int (zI 0), .int (zI 0), .null, .int (zI 0), .int (zI 0), .long (zL 0)])), (q1, .inl (g 0, 196, .inl (fun _ => zI 0))), (q2, .inl (g 2, 2, .inl (fun _ => zI 0))), (q3, .inl (g 0, 150, .inl (fun _ => zI 0)))] H := hP
  have hD : va_D A [(o, .inr (5, [.ref q1, .ref q2, .null, .int (zI 0), .null, .long (zL 0), .long (zL 0), .int (zI 0), .int (zI 0), .int (zI 0), .int (zI 0), .null, .int (zI 0), .int (zI 0), .long (zL 0)])), (q1, .inl (g 0, 196, .inl (fun _ => zI 0))), (q2, .inl (g 2, 2, .inl (fun _ => zI 0))), (q3, .inl (g 0, 150, .inl (fun _ => zI 0)))] := hD
  refine W.widen (k := 3) (n := 348) (Nat.le_refl _) (Nat.le_refl _) ?_
  refine va_putF (D := (dC, dI)) (ci := 5) (v := .ref q3) (ty := .array .int) (C := RX6) (T := TX6) (N := 15) hx hb hts iX6 tyX6 tyX6_ok nmX6 hown hK hP hD hS 0 rfl rfl 2 (by decide) (hts (.fieldLink RX6 17 "WrongWayModel" "text" "[I") (by decide +kernel)) (fun _ h9 => h9) rfl hin rfl (by decide +kernel) rfl rfl (Nat.le_of_ble_eq_true rfl) dX6_init_26 (fun H locs hP hD hS => ?_)
  have hP : va_P (dC, dI) vwCl [(o, .inr (5, [.ref q1, .ref q2, .ref q3, .int (zI 0), .null, .long (zL 0), .long (zL 0), .int (zI 0), .int (zI 0), .int (zI 0), .int (zI 0), .null, .int (zI 0), .int (zI 0), .long (zL 0)])), (q1, .inl (g 0, 196, .inl (fun _ => zI 0))), (q2, .inl (g 2, 2, .inl (fun _ => zI 0))), (q3, .inl (g 0, 150, .inl (fun _ => zI 0)))] H := hP
  have hD : va_D A [(o, .inr (5, [.ref q1, .ref q2, .ref q3, .int (zI 0), .null, .long (zL 0), .long (zL 0), .int (zI 0), .int (zI 0), .int (zI 0), .int (zI 0), .null, .int (zI 0), .int (zI 0), .long (zL 0)])), (q1, .inl (g 0, 196, .inl (fun _ => zI 0))), (q2, .inl (g 2, 2, .inl (fun _ => zI 0))), (q3, .inl (g 0, 150, .inl (fun _ => zI 0)))] := hD
  refine lv_aload_n hx hb dX6_init_29 rfl (lv_at hl 0 rfl) ?_
  refine q_iconst hx hb dX6_init_30 ?_
  refine q_newa (atype := .int) (ty := .int) hx hb (hts (.arrayClass .int) (by decide +kernel)) rfl rfl (fun _ _ => ra_int) hK hP hD hS hA 0 rfl (z := 3) (N := 3) (by decide) rfl (by decide) (Nat.le_of_ble_eq_true rfl) (Nat.le_of_ble_eq_true rfl) dX6_init_31 (fun q4 H hP hD hS => ?_)
  have hP : va_P (dC, dI) vwCl [(o, .inr (5, [.ref q1, .ref q2, .ref q3, .int (zI 0), .null, .long (zL 0), .long (zL 0), .int (zI 0), .int (zI 0), .int (zI 0), .int (zI 0), .null, .int (zI 0), .int (zI 0), .long (zL 0)])), (q1, .inl (g 0, 196, .inl (fun _ => zI 0))), (q2, .inl (g 2, 2, .inl (fun _ => zI 0))), (q3, .inl (g 0, 150, .inl (fun _ => zI 0))), (q4, .inl (g 0, 3, .inl (fun _ => zI 0)))] H := hP
  have hD : va_D A [(o, .inr (5, [.ref q1, .ref q2, .ref q3, .int (zI 0), .null, .long (zL 0), .long (zL 0), .int (zI 0), .int (zI 0), .int (zI 0), .int (zI 0), .null, .int (zI 0), .int (zI 0), .long (zL 0)])), (q1, .inl (g 0, 196, .inl (fun _ => zI 0))), (q2, .inl (g 2, 2, .inl (fun _ => zI 0))), (q3, .inl (g 0, 150, .inl (fun _ => zI 0))), (q4, .inl (g 0, 3, .inl (fun _ => zI 0)))] := hD
  refine W.widen (k := 4) (n := 351) (Nat.le_refl _) (Nat.le_refl _) ?_
  refine va_putF (D := (dC, dI)) (ci := 5) (v := .ref q4) (ty := .array .int) (C := RX6) (T := TX6) (N := 15) hx hb hts iX6 tyX6 tyX6_ok nmX6 hown hK hP hD hS 0 rfl rfl 4 (by decide) (hts (.fieldLink RX6 20 "WrongWayModel" "refused" "[I") (by decide +kernel)) (fun _ h9 => h9) rfl hin rfl (by decide +kernel) rfl rfl (Nat.le_of_ble_eq_true rfl) dX6_init_33 (fun H locs hP hD hS => ?_)
  have hP : va_P (dC, dI) vwCl [(o, .inr (5, [.ref q1, .ref q2, .ref q3, .int (zI 0), .ref q4, .long (zL 0), .long (zL 0), .int (zI 0), .int (zI 0), .int (zI 0), .int (zI 0), .null, .int (zI 0), .int (zI 0), .long (zL 0)])), (q1, .inl (g 0, 196, .inl (fun _ => zI 0))), (q2, .inl (g 2, 2, .inl (fun _ => zI 0))), (q3, .inl (g 0, 150, .inl (fun _ => zI 0))), (q4, .inl (g 0, 3, .inl (fun _ => zI 0)))] H := hP
  have hD : va_D A [(o, .inr (5, [.ref q1, .ref q2, .ref q3, .int (zI 0), .ref q4, .long (zL 0), .long (zL 0), .int (zI 0), .int (zI 0), .int (zI 0), .int (zI 0), .null, .int (zI 0), .int (zI 0), .long (zL 0)])), (q1, .inl (g 0, 196, .inl (fun _ => zI 0))), (q2, .inl (g 2, 2, .inl (fun _ => zI 0))), (q3, .inl (g 0, 150, .inl (fun _ => zI 0))), (q4, .inl (g 0, 3, .inl (fun _ => zI 0)))] := hD
  refine lv_aload_n hx hb dX6_init_36 rfl (lv_at hl 0 rfl) ?_
  refine q_lconst hx hb 1 dX6_init_37 rfl ?_
  refine va_put (D := (dC, dI)) (ci := 5) (v := .long (zL 1)) (ty := .long) (C := RX6) (T := TX6) (N := 15) hx hb hts iX6 tyX6 tyX6_ok nmX6 hown hK hP hD hS 0 rfl rfl 6 (by decide) (hts (.fieldLink RX6 23 "WrongWayModel" "below" "J") (by decide +kernel)) (fun _ h9 => h9) rfl (by decide +kernel) rfl rfl (Nat.le_of_ble_eq_true rfl) dX6_init_38 (fun H locs hP hD hS => ?_)
  have hP : va_P (dC, dI) vwCl [(o, .inr (5, [.ref q1, .ref q2, .ref q3, .int (zI 0), .ref q4, .long (zL 0), .long (zL 1), .int (zI 0), .int (zI 0), .int (zI 0), .int (zI 0), .null, .int (zI 0), .int (zI 0), .long (zL 0)])), (q1, .inl (g 0, 196, .inl (fun _ => zI 0))), (q2, .inl (g 2, 2, .inl (fun _ => zI 0))), (q3, .inl (g 0, 150, .inl (fun _ => zI 0))), (q4, .inl (g 0, 3, .inl (fun _ => zI 0)))] H := hP
  have hD : va_D A [(o, .inr (5, [.ref q1, .ref q2, .ref q3, .int (zI 0), .ref q4, .long (zL 0), .long (zL 1), .int (zI 0), .int (zI 0), .int (zI 0), .int (zI 0), .null, .int (zI 0), .int (zI 0), .long (zL 0)])), (q1, .inl (g 0, 196, .inl (fun _ => zI 0))), (q2, .inl (g 2, 2, .inl (fun _ => zI 0))), (q3, .inl (g 0, 150, .inl (fun _ => zI 0))), (q4, .inl (g 0, 3, .inl (fun _ => zI 0)))] := hD
  refine lv_aload_n hx hb dX6_init_41 rfl (lv_at hl 0 rfl) ?_
  refine q_iconst hx hb dX6_init_42 ?_
  refine q_newa (atype := .int) (ty := .int) hx hb (hts (.arrayClass .int) (by decide +kernel)) rfl rfl (fun _ _ => ra_int) hK hP hD hS hA 0 rfl (z := 3) (N := 3) (by decide) rfl (by decide) (Nat.le_of_ble_eq_true rfl) (Nat.le_of_ble_eq_true rfl) dX6_init_43 (fun q5 H hP hD hS => ?_)
  have hP : va_P (dC, dI) vwCl [(o, .inr (5, [.ref q1, .ref q2, .ref q3, .int (zI 0), .ref q4, .long (zL 0), .long (zL 1), .int (zI 0), .int (zI 0), .int (zI 0), .int (zI 0), .null, .int (zI 0), .int (zI 0), .long (zL 0)])), (q1, .inl (g 0, 196, .inl (fun _ => zI 0))), (q2, .inl (g 2, 2, .inl (fun _ => zI 0))), (q3, .inl (g 0, 150, .inl (fun _ => zI 0))), (q4, .inl (g 0, 3, .inl (fun _ => zI 0))), (q5, .inl (g 0, 3, .inl (fun _ => zI 0)))] H := hP
  have hD : va_D A [(o, .inr (5, [.ref q1, .ref q2, .ref q3, .int (zI 0), .ref q4, .long (zL 0), .long (zL 1), .int (zI 0), .int (zI 0), .int (zI 0), .int (zI 0), .null, .int (zI 0), .int (zI 0), .long (zL 0)])), (q1, .inl (g 0, 196, .inl (fun _ => zI 0))), (q2, .inl (g 2, 2, .inl (fun _ => zI 0))), (q3, .inl (g 0, 150, .inl (fun _ => zI 0))), (q4, .inl (g 0, 3, .inl (fun _ => zI 0))), (q5, .inl (g 0, 3, .inl (fun _ => zI 0)))] := hD
  refine W.widen (k := 5) (n := 354) (Nat.le_refl _) (Nat.le_refl _) ?_
  refine va_putF (D := (dC, dI)) (ci := 5) (v := .ref q5) (ty := .array .int) (C := RX6) (T := TX6) (N := 15) hx hb hts iX6 tyX6 tyX6_ok nmX6 hown hK hP hD hS 0 rfl rfl 11 (by decide) (hts (.fieldLink RX6 27 "WrongWayModel" "numbers" "[I") (by decide +kernel)) (fun _ h9 => h9) rfl hin rfl (by decide +kernel) rfl rfl (Nat.le_of_ble_eq_true rfl) dX6_init_45 (fun H locs hP hD hS => ?_)
  have hP : va_P (dC, dI) vwCl [(o, .inr (5, [.ref q1, .ref q2, .ref q3, .int (zI 0), .ref q4, .long (zL 0), .long (zL 1), .int (zI 0), .int (zI 0), .int (zI 0), .int (zI 0), .ref q5, .int (zI 0), .int (zI 0), .long (zL 0)])), (q1, .inl (g 0, 196, .inl (fun _ => zI 0))), (q2, .inl (g 2, 2, .inl (fun _ => zI 0))), (q3, .inl (g 0, 150, .inl (fun _ => zI 0))), (q4, .inl (g 0, 3, .inl (fun _ => zI 0))), (q5, .inl (g 0, 3, .inl (fun _ => zI 0)))] H := hP
  have hD : va_D A [(o, .inr (5, [.ref q1, .ref q2, .ref q3, .int (zI 0), .ref q4, .long (zL 0), .long (zL 1), .int (zI 0), .int (zI 0), .int (zI 0), .int (zI 0), .ref q5, .int (zI 0), .int (zI 0), .long (zL 0)])), (q1, .inl (g 0, 196, .inl (fun _ => zI 0))), (q2, .inl (g 2, 2, .inl (fun _ => zI 0))), (q3, .inl (g 0, 150, .inl (fun _ => zI 0))), (q4, .inl (g 0, 3, .inl (fun _ => zI 0))), (q5, .inl (g 0, 3, .inl (fun _ => zI 0)))] := hD
  have hP : va_P (dC, dI) vwCl (wMo g (af o q1 q2 q3 q4 q5 0 0 0 0) m_new) H := hP
  have hD : va_D A (wMo g (af o q1 q2 q3 q4 q5 0 0 0 0) m_new) := hD
  refine lv_aload_n hx hb dX6_init_48 rfl (lv_at hl 0 rfl) ?_
  refine q_iconst hx hb dX6_init_49 ?_
  refine q_bipush hx hb dX6_init_50 rfl ?_
  refine q_cEv (b := o) (As := [.int (zI 0), .int (zI 11)]) (rest := []) (w1 := wMo g (af o q1 q2 q3 q4 q5 0 0 0 0) (m_beg m_new 0 11)) ⟨hx, hb, hml, hown, hts⟩ hP hD hK hT hS hA (kX6_begins l dC dI g tt _ (af o q1 q2 q3 q4 q5 0 0 0 0) m_new 0 11 (by decide)) (cwV 2 hts gX6_init_X6_begins rfl rfl rfl (by decide +kernel) ⟨Nat.le_of_ble_eq_true rfl, Nat.le_of_ble_eq_true rfl⟩) 0 5 rfl rfl rfl rfl hl.1 rfl (Nat.le_of_ble_eq_true rfl) dX6_init_52 ⟨Nat.le_of_ble_eq_true rfl, Nat.le_of_ble_eq_true rfl⟩ (fun H locs hP hD hS => ?_)
  have hPf : va_P (dC, dI) vwCl (wMo g (af o q1 q2 q3 q4 q5 0 0 0 0) (m_beg m_new 0 11)) H := hP
  have hDf : va_D A (wMo g (af o q1 q2 q3 q4 q5 0 0 0 0) (m_beg m_new 0 11)) := hD
  exact W.vret hx hb hr (fun t9 ht9 hW9 => ⟨⟨af o q1 q2 q3 q4 q5 0 0 0 0, rfl, rfl, by rw [ht9]; exact hPf, va_K.moved hW9.alike hK, hDf⟩, hS.F ht9⟩) hS.2.2 dX6_init_55
