/-! the constructor of WrongWay -/
theorem va_at_q {D : va_G} {cl : List vw_C} {H : Heap} {a n : Nat} {cA : ClassId} {f f' : Nat → Option Nat} (h : va_at D cl (a, .inl (cA, n, .inr (.inr (.inr (.inr f))))) H) (e : ∀ k, k < n → f k = f' k) : va_at D cl (a, .inl (cA, n, .inr (.inr (.inr (.inr f'))))) H := by
  have h1 : H[a]? = some (vp_cell cA (n, .inr (.inr (.inr (.inr f))))) := h
  show H[a]? = some (vp_cell cA (n, .inr (.inr (.inr (.inr f')))))
  rw [h1, vp_cell_q, vp_cell_q]
  congr 1
  unfold arrV
  congr 1
  apply Array.ext
  · simp
  · intro i h2 h3
    simp only [Array.getElem_ofFn]
    rw [e i (by simpa using h2)]
theorem vaP_set {D : va_G} {cl : List vw_C} {H : Heap} {ws : va_W} {q0 : Nat} {x x' : Nat × va_E} (hP : va_P D cl (ws.set q0 x) H) (hx : ws.set q0 x' = (ws.set q0 x).set q0 x') (h : (ws.set q0 x)[q0]? = some x → va_at D cl x H → va_at D cl x' H) : va_P D cl (ws.set q0 x') H := by
  rw [hx]
  intro k y hk
  by_cases c : k = q0
  · subst c
    by_cases hl : k < (ws.set k x).length
    · have e1 : (ws.set k x)[k]? = some x := by
        rw [List.length_set] at hl
        rw [List.getElem?_set_self hl]
      rw [List.getElem?_set_self hl] at hk
      cases hk
      exact h e1 (hP k x e1)
    · rw [List.getElem?_eq_none (by rw [List.length_set]; omega)] at hk
      cases hk
  · rw [List.getElem?_set_ne (fun q => c q.symm)] at hk
    exact hP k y hk
def uf (f0 f1 f2 f3 f4 f5 : Nat → Nat) : Nat → Nat → Nat := fun k => match k with
  | 0 => f0
  | 1 => f1
  | 2 => f2
  | 3 => f3
  | 4 => f4
  | _ => f5
set_option maxHeartbeats 4000000 in
set_option maxRecDepth 100000 in
theorem kX5_init (l : Launch) (dC : Nat → ClassId) (dI : Nat → Nat → Nat) (g : Nat → ClassId) (tt : Nat → Nat) (sz : Nat) (o : Nat) (v : Int → Int) (hvv : v = h_build z0 11) : Met l yX5_init wsX5_init ({ frames := 3, cells := 47, slots := 398, locals := 64 }) (va_Pc [.ref o] (eX (dC, dI) (wTy g) [(o, .inr (4, [.null, .null, .null, .null, .null, .null, .null, .null]))] tt sz)) (va_Qv (fun (u : Nat → Nat → Nat) => u 0 0 = o) (fun u t => fQ (dC, dI) (wTy g) (va_A [(o, .inr (4, [.null, .null, .null, .null, .null, .null, .null, .null]))] sz) (wWW g (u 0) (u 1) (u 2) (u 3) (u 4) (u 5) v v v v z0 z0 z0 0 1 z0) () t) (va_A [(o, .inr (4, [.null, .null, .null, .null, .null, .null, .null, .null]))] sz)) 47 398 (va_A [(o, .inr (4, [.null, .null, .null, .null, .null, .null, .null, .null]))] sz) := by
  refine Met.ofW (cc := cX5_init) (maxL := 1) (ret := none) (by decide) rfl ?_
  intro p e s m args below meth c s₁ Bd hml hv
  obtain ⟨rfl, ⟨hsz, hP, hK, hD0, hT⟩, hAO, hN3, hN0⟩ := hv
  have hx := Bd.exec
  have hb := Bd.bytes
  have hr := Bd.returns
  have hts := atoms_spec (ws := wsX5_init) Bd.pre
  have hown : s.vm.findClass RX5 = some m.cls := findClass_of_methodNamed Bd.named
  have hlocks := Bd.notSynchronized
  have hin : meth.name = "<init>" := (name_of_methodNamed Bd.named Bd.method).1
  subst hsz
  have hD := hD0.self (sz := s.heap.size)
  generalize hAe : va_A [(o, .inr (4, [.null, .null, .null, .null, .null, .null, .null, .null]))] s.heap.size = A at hD hT ⊢
  have hA : ∀ q : Nat, s.heap.size ≤ q → A q := fun q h => by rw [← hAe]; exact Or.inr h
  have hS : va_S A s.heap s.heap [] := va_S.rf
  have hl := lv_entry ([.ref o]) (n := 1) (Nat.le_of_ble_eq_true rfl)
  rw [lg_entry_eq]
  generalize (lg_sl ([.ref o]) ++ List.replicate (1 - (lg_sl ([.ref o])).length) Slot.unset).toArray = ls at hl ⊢
  have hl : lv_has ls 1 [(0, .ref o)] := hl
  have iX0 := (fun w h => List.mem_cons_of_mem _ (List.mem_append_right _ h) : ∀ w ∈ u_ws RX0 TX0 2, w ∈ wsX5_init)
  have iX3 := (fun w h => List.mem_cons_of_mem _ (List.mem_append_left _ (List.mem_append_right _ h)) : ∀ w ∈ u_ws RX3 TX3 6, w ∈ wsX5_init)
  have iX4 := (fun w h => List.mem_cons_of_mem _ (List.mem_append_left _ (List.mem_append_left _ (List.mem_append_right _ h))) : ∀ w ∈ u_ws RX4 TX4 1, w ∈ wsX5_init)
  have iX5 := (fun w h => List.mem_cons_of_mem _ (List.mem_append_left _ (List.mem_append_left _ (List.mem_append_left _ (List.mem_append_right _ h)))) : ∀ w ∈ u_ws RX5 TX5 8, w ∈ wsX5_init)
  have iX1 := (fun w h => List.mem_cons_of_mem _ (List.mem_append_left _ (List.mem_append_left _ (List.mem_append_left _ (List.mem_append_left _ (List.mem_append_right _ h))))) : ∀ w ∈ u_ws RX1 TX1 14, w ∈ wsX5_init)
  refine lv_aload_n hx hb dX5_init_0 rfl (lv_at hl 0 rfl) ?_
  refine W.objInit hx hb hown (hts (.methodLink RX5 1 objectInit) (by decide +kernel)) (hts (.instanceMethod objectInit) (by decide +kernel)) (hts _ (List.mem_cons_of_mem _ (List.mem_append_left _ (List.mem_append_left _ (List.mem_append_left _ (List.mem_append_left _ (List.mem_append_left _ (List.mem_append_left _ (List.mem_of_getElem? (i := 2) rfl))))))))) rfl (by rw [hml]; exact hl.1) rfl dX5_init_1 (Nat.le_of_ble_eq_true rfl) (Nat.le_of_ble_eq_true rfl) ?_
  refine W.eq (g2 := F0 m 4 ls []) rfl ?_
  refine lv_aload_n hx hb dX5_init_4 rfl (lv_at hl 0 rfl) ?_
  refine va_new (ci := 1) (fs := [.int (zI 0), .int (zI 0), .int (zI 0), .int (zI 0), .int (zI 0), .null, .null, .null, .null, .null, .null, .null, .null, .null]) (C := RX1) (T := TX1) (N := 14) hx hb hts iX1 tyX1 tyX1_ok hown (hts (.classLink RX5 7 RX1) (by decide +kernel)) (hts (.instantiable RX1 14) (by decide +kernel)) (hts (.initialized RX1) (by decide +kernel)) hK hP hD hS hA rfl (fun j hj => by rcases (show j = 0 ∨ j = 1 ∨ j = 2 ∨ j = 3 ∨ j = 4 ∨ j = 5 ∨ j = 6 ∨ j = 7 ∨ j = 8 ∨ j = 9 ∨ j = 10 ∨ j = 11 ∨ j = 12 ∨ j = 13 by omega) with rfl | rfl | rfl | rfl | rfl | rfl | rfl | rfl | rfl | rfl | rfl | rfl | rfl | rfl <;> rfl) (Nat.le_of_ble_eq_true rfl) (Nat.le_of_ble_eq_true rfl) dX5_init_5 (fun h1 H hP hD hS => ?_)
  have hP : va_P (dC, dI) vwCl ((o, .inr (4, [.null, .null, .null, .null, .null, .null, .null, .null])) :: ([(h1, .inr (1, [.int (zI 0), .int (zI 0), .int (zI 0), .int (zI 0), .int (zI 0), .null, .null, .null, .null, .null, .null, .null, .null, .null]))])) H := hP
  have hD : va_D A ((o, .inr (4, [.null, .null, .null, .null, .null, .null, .null, .null])) :: ([(h1, .inr (1, [.int (zI 0), .int (zI 0), .int (zI 0), .int (zI 0), .int (zI 0), .null, .null, .null, .null, .null, .null, .null, .null, .null]))])) := hD
  refine W.widen (k := 1) (n := 14) (Nat.le_refl _) (Nat.le_refl _) ?_
  refine lv_dup hx hb dX5_init_8 rfl ?_
  refine q_iQ (b := h1) (As := []) (rest := [.ref h1, .ref o]) (post := fun a0 : Nat → Nat => a0 0 = h1) (w1 := fun a0 => wHs g a0 v) (wc := [(h1, .inr (1, [.int (zI 0), .int (zI 0), .int (zI 0), .int (zI 0), .int (zI 0), .null, .null, .null, .null, .null, .null, .null, .null, .null]))]) (wr := [(o, .inr (4, [.null, .null, .null, .null, .null, .null, .null, .null]))]) [1] [0] ⟨hx, hb, hml, hown, hts⟩ hP hD hK hT hS hA (kX1_init l dC dI g tt _ h1 v hvv) (cwI 0 hts gX5_init_X1_init rfl rfl rfl (hts (.initialized RX1) (by decide +kernel)) (hts (.methodLink RX5 9 yX1_init) (by decide +kernel)) (hts (.instanceMethod yX1_init) (by decide +kernel)) rfl (by decide +kernel) ⟨Nat.le_of_ble_eq_true rfl, Nat.le_of_ble_eq_true rfl⟩) rfl rfl rfl rfl (by decide) rfl hl.1 rfl (Nat.le_of_ble_eq_true rfl) dX5_init_9 ⟨Nat.le_of_ble_eq_true rfl, Nat.le_of_ble_eq_true rfl⟩ (fun a0 H9 locs9 hpo hP9 hD9 hS9 => ?_)
  have hpo : a0 0 = h1 := hpo
  subst hpo
  have hP : va_P (dC, dI) vwCl ((o, .inr (4, [.null, .null, .null, .null, .null, .null, .null, .null])) :: (wHs g a0 v)) H9 := hP9
  have hD : va_D A ((o, .inr (4, [.null, .null, .null, .null, .null, .null, .null, .null])) :: (wHs g a0 v)) := hD9
  have hS : va_S A s.heap H9 locs9 := hS9
  refine W.widen (k := 10) (n := 58) (Nat.le_refl _) (Nat.le_refl _) ?_
  refine va_putF (D := (dC, dI)) (ci := 4) (v := .ref (a0 0)) (ty := .object "WrongWay$House") (C := RX5) (T := TX5) (N := 8) hx hb hts iX5 tyX5 tyX5_ok nmX5 hown hK hP hD hS 0 rfl rfl 0 (by decide) (hts (.fieldLink RX5 10 "WrongWay" "now" "LWrongWay$House;") (by decide +kernel)) (fun _ h9 => h9) rfl hin rfl (by decide +kernel) rfl rfl (Nat.le_of_ble_eq_true rfl) dX5_init_12 (fun H locs hP hD hS => ?_)
  have hP : va_P (dC, dI) vwCl ((o, .inr (4, [.ref (a0 0), .null, .null, .null, .null, .null, .null, .null])) :: (wHs g a0 v)) H := hP
  have hD : va_D A ((o, .inr (4, [.ref (a0 0), .null, .null, .null, .null, .null, .null, .null])) :: (wHs g a0 v)) := hD
  refine lv_aload_n hx hb dX5_init_15 rfl (lv_at hl 0 rfl) ?_
  refine va_new (ci := 1) (fs := [.int (zI 0), .int (zI 0), .int (zI 0), .int (zI 0), .int (zI 0), .null, .null, .null, .null, .null, .null, .null, .null, .null]) (C := RX1) (T := TX1) (N := 14) hx hb hts iX1 tyX1 tyX1_ok hown (hts (.classLink RX5 7 RX1) (by decide +kernel)) (hts (.instantiable RX1 14) (by decide +kernel)) (hts (.initialized RX1) (by decide +kernel)) hK hP hD hS hA rfl (fun j hj => by rcases (show j = 0 ∨ j = 1 ∨ j = 2 ∨ j = 3 ∨ j = 4 ∨ j = 5 ∨ j = 6 ∨ j = 7 ∨ j = 8 ∨ j = 9 ∨ j = 10 ∨ j = 11 ∨ j = 12 ∨ j = 13 by omega) with rfl | rfl | rfl | rfl | rfl | rfl | rfl | rfl | rfl | rfl | rfl | rfl | rfl | rfl <;> rfl) (Nat.le_of_ble_eq_true rfl) (Nat.le_of_ble_eq_true rfl) dX5_init_16 (fun h2 H hP hD hS => ?_)
  have hP : va_P (dC, dI) vwCl ((o, .inr (4, [.ref (a0 0), .null, .null, .null, .null, .null, .null, .null])) :: (wHs g a0 v ++ [(h2, .inr (1, [.int (zI 0), .int (zI 0), .int (zI 0), .int (zI 0), .int (zI 0), .null, .null, .null, .null, .null, .null, .null, .null, .null]))])) H := hP
  have hD : va_D A ((o, .inr (4, [.ref (a0 0), .null, .null, .null, .null, .null, .null, .null])) :: (wHs g a0 v ++ [(h2, .inr (1, [.int (zI 0), .int (zI 0), .int (zI 0), .int (zI 0), .int (zI 0), .null, .null, .null, .null, .null, .null, .null, .null, .null]))])) := hD
  refine W.widen (k := 11) (n := 72) (Nat.le_refl _) (Nat.le_refl _) ?_
  refine lv_dup hx hb dX5_init_19 rfl ?_
  refine q_iQ (b := h2) (As := []) (rest := [.ref h2, .ref o]) (post := fun a1 : Nat → Nat => a1 0 = h2) (w1 := fun a1 => wHs g a1 v) (wc := [(h2, .inr (1, [.int (zI 0), .int (zI 0), .int (zI 0), .int (zI 0), .int (zI 0), .null, .null, .null, .null, .null, .null, .null, .null, .null]))]) (wr := ((o, .inr (4, [.ref (a0 0), .null, .null, .null, .null, .null, .null, .null])) :: (wHs g a0 v))) [11] [0, 1, 2, 3, 4, 5, 6, 7, 8, 9, 10] ⟨hx, hb, hml, hown, hts⟩ hP hD hK hT hS hA (kX1_init l dC dI g tt _ h2 v hvv) (cwI 0 hts gX5_init_X1_init rfl rfl rfl (hts (.initialized RX1) (by decide +kernel)) (hts (.methodLink RX5 9 yX1_init) (by decide +kernel)) (hts (.instanceMethod yX1_init) (by decide +kernel)) rfl (by decide +kernel) ⟨Nat.le_of_ble_eq_true rfl, Nat.le_of_ble_eq_true rfl⟩) rfl rfl rfl rfl (by decide) rfl hl.1 rfl (Nat.le_of_ble_eq_true rfl) dX5_init_20 ⟨Nat.le_of_ble_eq_true rfl, Nat.le_of_ble_eq_true rfl⟩ (fun a1 H9 locs9 hpo hP9 hD9 hS9 => ?_)
  have hpo : a1 0 = h2 := hpo
  subst hpo
  have hP : va_P (dC, dI) vwCl ((o, .inr (4, [.ref (a0 0), .null, .null, .null, .null, .null, .null, .null])) :: (wHs g a0 v ++ wHs g a1 v)) H9 := hP9
  have hD : va_D A ((o, .inr (4, [.ref (a0 0), .null, .null, .null, .null, .null, .null, .null])) :: (wHs g a0 v ++ wHs g a1 v)) := hD9
  have hS : va_S A s.heap H9 locs9 := hS9
  refine W.widen (k := 20) (n := 116) (Nat.le_refl _) (Nat.le_refl _) ?_
  refine va_putF (D := (dC, dI)) (ci := 4) (v := .ref (a1 0)) (ty := .object "WrongWay$House") (C := RX5) (T := TX5) (N := 8) hx hb hts iX5 tyX5 tyX5_ok nmX5 hown hK hP hD hS 0 rfl rfl 1 (by decide) (hts (.fieldLink RX5 16 "WrongWay" "draft" "LWrongWay$House;") (by decide +kernel)) (fun _ h9 => h9) rfl hin rfl (by decide +kernel) rfl rfl (Nat.le_of_ble_eq_true rfl) dX5_init_23 (fun H locs hP hD hS => ?_)
  have hP : va_P (dC, dI) vwCl ((o, .inr (4, [.ref (a0 0), .ref (a1 0), .null, .null, .null, .null, .null, .null])) :: (wHs g a0 v ++ wHs g a1 v)) H := hP
  have hD : va_D A ((o, .inr (4, [.ref (a0 0), .ref (a1 0), .null, .null, .null, .null, .null, .null])) :: (wHs g a0 v ++ wHs g a1 v)) := hD
  refine lv_aload_n hx hb dX5_init_26 rfl (lv_at hl 0 rfl) ?_
  refine q_iconst hx hb dX5_init_27 ?_
  refine q_newq (C := RX1) hx hb hown (hts (.classLink RX5 7 RX1) (by decide +kernel)) hAO hK hP hD hS hA 3 rfl (z := 2) (N := 2) (by decide) rfl (by decide) (Nat.le_of_ble_eq_true rfl) (Nat.le_of_ble_eq_true rfl) dX5_init_28 (fun im H hP hD hS => ?_)
  have hP : va_P (dC, dI) vwCl ((o, .inr (4, [.ref (a0 0), .ref (a1 0), .null, .null, .null, .null, .null, .null])) :: (wHs g a0 v ++ wHs g a1 v ++ [(im, .inl (g 3, 2, .inr (.inr (.inr (.inr (fun _ => none))))))])) H := hP
  have hD : va_D A ((o, .inr (4, [.ref (a0 0), .ref (a1 0), .null, .null, .null, .null, .null, .null])) :: (wHs g a0 v ++ wHs g a1 v ++ [(im, .inl (g 3, 2, .inr (.inr (.inr (.inr (fun _ => none))))))])) := hD
  refine W.widen (k := 21) (n := 118) (Nat.le_refl _) (Nat.le_refl _) ?_
  refine lv_dup hx hb dX5_init_31 rfl ?_
  refine q_iconst hx hb dX5_init_32 ?_
  refine va_new (ci := 1) (fs := [.int (zI 0), .int (zI 0), .int (zI 0), .int (zI 0), .int (zI 0), .null, .null, .null, .null, .null, .null, .null, .null, .null]) (C := RX1) (T := TX1) (N := 14) hx hb hts iX1 tyX1 tyX1_ok hown (hts (.classLink RX5 7 RX1) (by decide +kernel)) (hts (.instantiable RX1 14) (by decide +kernel)) (hts (.initialized RX1) (by decide +kernel)) hK hP hD hS hA rfl (fun j hj => by rcases (show j = 0 ∨ j = 1 ∨ j = 2 ∨ j = 3 ∨ j = 4 ∨ j = 5 ∨ j = 6 ∨ j = 7 ∨ j = 8 ∨ j = 9 ∨ j = 10 ∨ j = 11 ∨ j = 12 ∨ j = 13 by omega) with rfl | rfl | rfl | rfl | rfl | rfl | rfl | rfl | rfl | rfl | rfl | rfl | rfl | rfl <;> rfl) (Nat.le_of_ble_eq_true rfl) (Nat.le_of_ble_eq_true rfl) dX5_init_33 (fun h3 H hP hD hS => ?_)
  have hP : va_P (dC, dI) vwCl ((o, .inr (4, [.ref (a0 0), .ref (a1 0), .null, .null, .null, .null, .null, .null])) :: (wHs g a0 v ++ wHs g a1 v ++ [(im, .inl (g 3, 2, .inr (.inr (.inr (.inr (fun _ => none))))))] ++ [(h3, .inr (1, [.int (zI 0), .int (zI 0), .int (zI 0), .int (zI 0), .int (zI 0), .null, .null, .null, .null, .null, .null, .null, .null, .null]))])) H := hP
  have hD : va_D A ((o, .inr (4, [.ref (a0 0), .ref (a1 0), .null, .null, .null, .null, .null, .null])) :: (wHs g a0 v ++ wHs g a1 v ++ [(im, .inl (g 3, 2, .inr (.inr (.inr (.inr (fun _ => none))))))] ++ [(h3, .inr (1, [.int (zI 0), .int (zI 0), .int (zI 0), .int (zI 0), .int (zI 0), .null, .null, .null, .null, .null, .null, .null, .null, .null]))])) := hD
  refine W.widen (k := 22) (n := 132) (Nat.le_refl _) (Nat.le_refl _) ?_
  refine lv_dup hx hb dX5_init_36 rfl ?_
  refine q_iQ (b := h3) (As := []) (rest := [.ref h3, .int (zI 0), .ref im, .ref im, .ref o]) (post := fun a2 : Nat → Nat => a2 0 = h3) (w1 := fun a2 => wHs g a2 v) (wc := [(h3, .inr (1, [.int (zI 0), .int (zI 0), .int (zI 0), .int (zI 0), .int (zI 0), .null, .null, .null, .null, .null, .null, .null, .null, .null]))]) (wr := ((o, .inr (4, [.ref (a0 0), .ref (a1 0), .null, .null, .null, .null, .null, .null])) :: (wHs g a0 v ++ wHs g a1 v ++ [(im, .inl (g 3, 2, .inr (.inr (.inr (.inr (fun _ => none))))))]))) [22] [0, 1, 2, 3, 4, 5, 6, 7, 8, 9, 10, 11, 12, 13, 14, 15, 16, 17, 18, 19, 20, 21] ⟨hx, hb, hml, hown, hts⟩ hP hD hK hT hS hA (kX1_init l dC dI g tt _ h3 v hvv) (cwI 0 hts gX5_init_X1_init rfl rfl rfl (hts (.initialized RX1) (by decide +kernel)) (hts (.methodLink RX5 9 yX1_init) (by decide +kernel)) (hts (.instanceMethod yX1_init) (by decide +kernel)) rfl (by decide +kernel) ⟨Nat.le_of_ble_eq_true rfl, Nat.le_of_ble_eq_true rfl⟩) rfl rfl rfl rfl (by decide) rfl hl.1 rfl (Nat.le_of_ble_eq_true rfl) dX5_init_37 ⟨Nat.le_of_ble_eq_true rfl, Nat.le_of_ble_eq_true rfl⟩ (fun a2 H9 locs9 hpo hP9 hD9 hS9 => ?_)
  have hpo : a2 0 = h3 := hpo
  subst hpo
  have hP : va_P (dC, dI) vwCl ((o, .inr (4, [.ref (a0 0), .ref (a1 0), .null, .null, .null, .null, .null, .null])) :: (wHs g a0 v ++ wHs g a1 v ++ [(im, .inl (g 3, 2, .inr (.inr (.inr (.inr (fun _ => none))))))] ++ wHs g a2 v)) H9 := hP9
  have hD : va_D A ((o, .inr (4, [.ref (a0 0), .ref (a1 0), .null, .null, .null, .null, .null, .null])) :: (wHs g a0 v ++ wHs g a1 v ++ [(im, .inl (g 3, 2, .inr (.inr (.inr (.inr (fun _ => none))))))] ++ wHs g a2 v)) := hD9
  have hS : va_S A s.heap H9 locs9 := hS9
  refine W.widen (k := 31) (n := 176) (Nat.le_refl _) (Nat.le_refl _) ?_
  refine va_astq hx hb hK hP hD hS 21 3 22 1 rfl rfl rfl rfl (zI_in (by decide) (by decide)) dX5_init_40 (fun H locs hP hD hS => ?_)
  have hP : va_P (dC, dI) vwCl ((o, .inr (4, [.ref (a0 0), .ref (a1 0), .null, .null, .null, .null, .null, .null])) :: (wHs g a0 v ++ wHs g a1 v ++ [(im, .inl (g 3, 2, .inr (.inr (.inr (.inr (va_up (fun _ => none) (zI 0).toNatClampNeg (some (a2 0))))))))] ++ wHs g a2 v)) H := hP
  have hD : va_D A ((o, .inr (4, [.ref (a0 0), .ref (a1 0), .null, .null, .null, .null, .null, .null])) :: (wHs g a0 v ++ wHs g a1 v ++ [(im, .inl (g 3, 2, .inr (.inr (.inr (.inr (va_up (fun _ => none) (zI 0).toNatClampNeg (some (a2 0))))))))] ++ wHs g a2 v)) := hD
  refine lv_dup hx hb dX5_init_41 rfl ?_
  refine q_iconst hx hb dX5_init_42 ?_
  refine va_new (ci := 1) (fs := [.int (zI 0), .int (zI 0), .int (zI 0), .int (zI 0), .int (zI 0), .null, .null, .null, .null, .null, .null, .null, .null, .null]) (C := RX1) (T := TX1) (N := 14) hx hb hts iX1 tyX1 tyX1_ok hown (hts (.classLink RX5 7 RX1) (by decide +kernel)) (hts (.instantiable RX1 14) (by decide +kernel)) (hts (.initialized RX1) (by decide +kernel)) hK hP hD hS hA rfl (fun j hj => by rcases (show j = 0 ∨ j = 1 ∨ j = 2 ∨ j = 3 ∨ j = 4 ∨ j = 5 ∨ j = 6 ∨ j = 7 ∨ j = 8 ∨ j = 9 ∨ j = 10 ∨ j = 11 ∨ j = 12 ∨ j = 13 by omega) with rfl | rfl | rfl | rfl | rfl | rfl | rfl | rfl | rfl | rfl | rfl | rfl | rfl | rfl <;> rfl) (Nat.le_of_ble_eq_true rfl) (Nat.le_of_ble_eq_true rfl) dX5_init_43 (fun h4 H hP hD hS => ?_)
  have hP : va_P (dC, dI) vwCl ((o, .inr (4, [.ref (a0 0), .ref (a1 0), .null, .null, .null, .null, .null, .null])) :: (wHs g a0 v ++ wHs g a1 v ++ [(im, .inl (g 3, 2, .inr (.inr (.inr (.inr (va_up (fun _ => none) (zI 0).toNatClampNeg (some (a2 0))))))))] ++ wHs g a2 v ++ [(h4, .inr (1, [.int (zI 0), .int (zI 0), .int (zI 0), .int (zI 0), .int (zI 0), .null, .null, .null, .null, .null, .null, .null, .null, .null]))])) H := hP
  have hD : va_D A ((o, .inr (4, [.ref (a0 0), .ref (a1 0), .null, .null, .null, .null, .null, .null])) :: (wHs g a0 v ++ wHs g a1 v ++ [(im, .inl (g 3, 2, .inr (.inr (.inr (.inr (va_up (fun _ => none) (zI 0).toNatClampNeg (some (a2 0))))))))] ++ wHs g a2 v ++ [(h4, .inr (1, [.int (zI 0), .int (zI 0), .int (zI 0), .int (zI 0), .int (zI 0), .null, .null, .null, .null, .null, .null, .null, .null, .null]))])) := hD
  refine W.widen (k := 32) (n := 190) (Nat.le_refl _) (Nat.le_refl _) ?_
  refine lv_dup hx hb dX5_init_46 rfl ?_
  refine q_iQ (b := h4) (As := []) (rest := [.ref h4, .int (zI 1), .ref im, .ref im, .ref o]) (post := fun a3 : Nat → Nat => a3 0 = h4) (w1 := fun a3 => wHs g a3 v) (wc := [(h4, .inr (1, [.int (zI 0), .int (zI 0), .int (zI 0), .int (zI 0), .int (zI 0), .null, .null, .null, .null, .null, .null, .null, .null, .null]))]) (wr := ((o, .inr (4, [.ref (a0 0), .ref (a1 0), .null, .null, .null, .null, .null, .null])) :: (wHs g a0 v ++ wHs g a1 v ++ [(im, .inl (g 3, 2, .inr (.inr (.inr (.inr (va_up (fun _ => none) (zI 0).toNatClampNeg (some (a2 0))))))))] ++ wHs g a2 v))) [32] [0, 1, 2, 3, 4, 5, 6, 7, 8, 9, 10, 11, 12, 13, 14, 15, 16, 17, 18, 19, 20, 21, 22, 23, 24, 25, 26, 27, 28, 29, 30, 31] ⟨hx, hb, hml, hown, hts⟩ hP hD hK hT hS hA (kX1_init l dC dI g tt _ h4 v hvv) (cwI 0 hts gX5_init_X1_init rfl rfl rfl (hts (.initialized RX1) (by decide +kernel)) (hts (.methodLink RX5 9 yX1_init) (by decide +kernel)) (hts (.instanceMethod yX1_init) (by decide +kernel)) rfl (by decide +kernel) ⟨Nat.le_of_ble_eq_true rfl, Nat.le_of_ble_eq_true rfl⟩) rfl rfl rfl rfl (by decide) rfl hl.1 rfl (Nat.le_of_ble_eq_true rfl) dX5_init_47 ⟨Nat.le_of_ble_eq_true rfl, Nat.le_of_ble_eq_true rfl⟩ (fun a3 H9 locs9 hpo hP9 hD9 hS9 => ?_)
  have hpo : a3 0 = h4 := hpo
  subst hpo
  have hP : va_P (dC, dI) vwCl ((o, .inr (4, [.ref (a0 0), .ref (a1 0), .null, .null, .null, .null, .null, .null])) :: (wHs g a0 v ++ wHs g a1 v ++ [(im, .inl (g 3, 2, .inr (.inr (.inr (.inr (va_up (fun _ => none) (zI 0).toNatClampNeg (some (a2 0))))))))] ++ wHs g a2 v ++ wHs g a3 v)) H9 := hP9
  have hD : va_D A ((o, .inr (4, [.ref (a0 0), .ref (a1 0), .null, .null, .null, .null, .null, .null])) :: (wHs g a0 v ++ wHs g a1 v ++ [(im, .inl (g 3, 2, .inr (.inr (.inr (.inr (va_up (fun _ => none) (zI 0).toNatClampNeg (some (a2 0))))))))] ++ wHs g a2 v ++ wHs g a3 v)) := hD9
  have hS : va_S A s.heap H9 locs9 := hS9
  refine W.widen (k := 41) (n := 234) (Nat.le_refl _) (Nat.le_refl _) ?_
  refine va_astq hx hb hK hP hD hS 21 3 32 1 rfl rfl rfl rfl (zI_in (by decide) (by decide)) dX5_init_50 (fun H locs hP hD hS => ?_)
  have hP := vaP_set (x' := (im, .inl (g 3, 2, .inr (.inr (.inr (.inr (im2 (a2 0) (a3 0)))))))) hP rfl (fun _ h9 => va_at_q h9 (fun k hk => by rcases (show k = 0 ∨ k = 1 by omega) with rfl | rfl <;> rfl))
  have hP : va_P (dC, dI) vwCl ((o, .inr (4, [.ref (a0 0), .ref (a1 0), .null, .null, .null, .null, .null, .null])) :: (wHs g a0 v ++ wHs g a1 v ++ [(im, .inl (g 3, 2, .inr (.inr (.inr (.inr (im2 (a2 0) (a3 0)))))))] ++ wHs g a2 v ++ wHs g a3 v)) H := hP
  have hD : va_D A ((o, .inr (4, [.ref (a0 0), .ref (a1 0), .null, .null, .null, .null, .null, .null])) :: (wHs g a0 v ++ wHs g a1 v ++ [(im, .inl (g 3, 2, .inr (.inr (.inr (.inr (im2 (a2 0) (a3 0)))))))] ++ wHs g a2 v ++ wHs g a3 v)) := hw_D hD rfl
  refine va_putF (D := (dC, dI)) (ci := 4) (v := .ref im) (ty := .array (.object "WrongWay$House")) (C := RX5) (T := TX5) (N := 8) hx hb hts iX5 tyX5 tyX5_ok nmX5 hown hK hP hD hS 0 rfl rfl 2 (by decide) (hts (.fieldLink RX5 19 "WrongWay" "images" "[LWrongWay$House;") (by decide +kernel)) (fun _ h9 => h9) rfl hin rfl (by decide +kernel) rfl rfl (Nat.le_of_ble_eq_true rfl) dX5_init_51 (fun H locs hP hD hS => ?_)
  have hP : va_P (dC, dI) vwCl ((o, .inr (4, [.ref (a0 0), .ref (a1 0), .ref im, .null, .null, .null, .null, .null])) :: (wHs g a0 v ++ wHs g a1 v ++ [(im, .inl (g 3, 2, .inr (.inr (.inr (.inr (im2 (a2 0) (a3 0)))))))] ++ wHs g a2 v ++ wHs g a3 v)) H := hP
  have hD : va_D A ((o, .inr (4, [.ref (a0 0), .ref (a1 0), .ref im, .null, .null, .null, .null, .null])) :: (wHs g a0 v ++ wHs g a1 v ++ [(im, .inl (g 3, 2, .inr (.inr (.inr (.inr (im2 (a2 0) (a3 0)))))))] ++ wHs g a2 v ++ wHs g a3 v)) := hD
  refine lv_aload_n hx hb dX5_init_54 rfl (lv_at hl 0 rfl) ?_
  refine q_iconst hx hb dX5_init_55 ?_
  refine q_newa (atype := .boolean) (ty := .boolean) hx hb (hts (.arrayClass .boolean) (by decide +kernel)) rfl rfl (fun _ _ => ra_bool) hK hP hD hS hA 2 rfl (z := 2) (N := 2) (by decide) rfl (by decide) (Nat.le_of_ble_eq_true rfl) (Nat.le_of_ble_eq_true rfl) dX5_init_56 (fun kp H hP hD hS => ?_)
  have hP : va_P (dC, dI) vwCl ((o, .inr (4, [.ref (a0 0), .ref (a1 0), .ref im, .null, .null, .null, .null, .null])) :: (wHs g a0 v ++ wHs g a1 v ++ [(im, .inl (g 3, 2, .inr (.inr (.inr (.inr (im2 (a2 0) (a3 0)))))))] ++ wHs g a2 v ++ wHs g a3 v ++ [(kp, .inl (g 2, 2, .inl (fun _ => zI 0)))])) H := hP
  have hD : va_D A ((o, .inr (4, [.ref (a0 0), .ref (a1 0), .ref im, .null, .null, .null, .null, .null])) :: (wHs g a0 v ++ wHs g a1 v ++ [(im, .inl (g 3, 2, .inr (.inr (.inr (.inr (im2 (a2 0) (a3 0)))))))] ++ wHs g a2 v ++ wHs g a3 v ++ [(kp, .inl (g 2, 2, .inl (fun _ => zI 0)))])) := hD
  refine W.widen (k := 42) (n := 236) (Nat.le_refl _) (Nat.le_refl _) ?_
  refine va_putF (D := (dC, dI)) (ci := 4) (v := .ref kp) (ty := .array .boolean) (C := RX5) (T := TX5) (N := 8) hx hb hts iX5 tyX5 tyX5_ok nmX5 hown hK hP hD hS 0 rfl rfl 3 (by decide) (hts (.fieldLink RX5 23 "WrongWay" "kept" "[Z") (by decide +kernel)) (fun _ h9 => h9) rfl hin rfl (by decide +kernel) rfl rfl (Nat.le_of_ble_eq_true rfl) dX5_init_58 (fun H locs hP hD hS => ?_)
  have hP : va_P (dC, dI) vwCl ((o, .inr (4, [.ref (a0 0), .ref (a1 0), .ref im, .ref kp, .null, .null, .null, .null])) :: (wHs g a0 v ++ wHs g a1 v ++ [(im, .inl (g 3, 2, .inr (.inr (.inr (.inr (im2 (a2 0) (a3 0)))))))] ++ wHs g a2 v ++ wHs g a3 v ++ [(kp, .inl (g 2, 2, .inl (fun _ => zI 0)))])) H := hP
  have hD : va_D A ((o, .inr (4, [.ref (a0 0), .ref (a1 0), .ref im, .ref kp, .null, .null, .null, .null])) :: (wHs g a0 v ++ wHs g a1 v ++ [(im, .inl (g 3, 2, .inr (.inr (.inr (.inr (im2 (a2 0) (a3 0)))))))] ++ wHs g a2 v ++ wHs g a3 v ++ [(kp, .inl (g 2, 2, .inl (fun _ => zI 0)))])) := hD
  refine lv_aload_n hx hb dX5_init_61 rfl (lv_at hl 0 rfl) ?_
  refine va_new (ci := 3) (fs := [.null]) (C := RX4) (T := TX4) (N := 1) hx hb hts iX4 tyX4 tyX4_ok hown (hts (.classLink RX5 27 RX4) (by decide +kernel)) (hts (.instantiable RX4 1) (by decide +kernel)) (hts (.initialized RX4) (by decide +kernel)) hK hP hD hS hA rfl (fun j hj => by rcases (show j = 0 by omega) with rfl <;> rfl) (Nat.le_of_ble_eq_true rfl) (Nat.le_of_ble_eq_true rfl) dX5_init_62 (fun wa H hP hD hS => ?_)
  have hP : va_P (dC, dI) vwCl ((o, .inr (4, [.ref (a0 0), .ref (a1 0), .ref im, .ref kp, .null, .null, .null, .null])) :: (wHs g a0 v ++ wHs g a1 v ++ [(im, .inl (g 3, 2, .inr (.inr (.inr (.inr (im2 (a2 0) (a3 0)))))))] ++ wHs g a2 v ++ wHs g a3 v ++ [(kp, .inl (g 2, 2, .inl (fun _ => zI 0)))] ++ [(wa, .inr (3, [.null]))])) H := hP
  have hD : va_D A ((o, .inr (4, [.ref (a0 0), .ref (a1 0), .ref im, .ref kp, .null, .null, .null, .null])) :: (wHs g a0 v ++ wHs g a1 v ++ [(im, .inl (g 3, 2, .inr (.inr (.inr (.inr (im2 (a2 0) (a3 0)))))))] ++ wHs g a2 v ++ wHs g a3 v ++ [(kp, .inl (g 2, 2, .inl (fun _ => zI 0)))] ++ [(wa, .inr (3, [.null]))])) := hD
  refine W.widen (k := 43) (n := 237) (Nat.le_refl _) (Nat.le_refl _) ?_
  refine lv_dup hx hb dX5_init_65 rfl ?_
  refine lv_aload_n hx hb dX5_init_66 rfl (lv_at hl 0 rfl) ?_
  refine va_get (D := (dC, dI)) (ci := 4) (v := .ref (a0 0)) (C := RX5) (T := TX5) (N := 8) hx hb hts iX5 hown hK hP 0 rfl rfl 0 (by decide) (hts (.fieldLink RX5 10 "WrongWay" "now" "LWrongWay$House;") (by decide +kernel)) (fun _ h9 => h9) rfl dX5_init_67 ?_
  refine q_iQ (b := wa) (As := [.ref (a0 0)]) (rest := [.ref wa, .ref o]) (post := fun _ : Unit => True) (w1 := fun _ => [(wa, .inr (3, [.ref (a0 0)]))]) (wc := [(wa, .inr (3, [.null]))]) (wr := ((o, .inr (4, [.ref (a0 0), .ref (a1 0), .ref im, .ref kp, .null, .null, .null, .null])) :: (wHs g a0 v ++ wHs g a1 v ++ [(im, .inl (g 3, 2, .inr (.inr (.inr (.inr (im2 (a2 0) (a3 0)))))))] ++ wHs g a2 v ++ wHs g a3 v ++ [(kp, .inl (g 2, 2, .inl (fun _ => zI 0)))]))) [43] [0, 1, 2, 3, 4, 5, 6, 7, 8, 9, 10, 11, 12, 13, 14, 15, 16, 17, 18, 19, 20, 21, 22, 23, 24, 25, 26, 27, 28, 29, 30, 31, 32, 33, 34, 35, 36, 37, 38, 39, 40, 41, 42] ⟨hx, hb, hml, hown, hts⟩ hP hD hK hT hS hA (kX4_init l dC dI g tt _ wa (a0 0)) (cwI 1 hts gX5_init_X4_init rfl rfl rfl (hts (.initialized RX4) (by decide +kernel)) (hts (.methodLink RX5 29 yX4_init) (by decide +kernel)) (hts (.instanceMethod yX4_init) (by decide +kernel)) rfl (by decide +kernel) ⟨Nat.le_of_ble_eq_true rfl, Nat.le_of_ble_eq_true rfl⟩) rfl rfl rfl rfl (by decide) rfl hl.1 rfl (Nat.le_of_ble_eq_true rfl) dX5_init_70 ⟨Nat.le_of_ble_eq_true rfl, Nat.le_of_ble_eq_true rfl⟩ (fun _ H9 locs9 hpo hP9 hD9 hS9 => ?_)
  have hP : va_P (dC, dI) vwCl ((o, .inr (4, [.ref (a0 0), .ref (a1 0), .ref im, .ref kp, .null, .null, .null, .null])) :: (wHs g a0 v ++ wHs g a1 v ++ [(im, .inl (g 3, 2, .inr (.inr (.inr (.inr (im2 (a2 0) (a3 0)))))))] ++ wHs g a2 v ++ wHs g a3 v ++ [(kp, .inl (g 2, 2, .inl (fun _ => zI 0)))] ++ [(wa, .inr (3, [.ref (a0 0)]))])) H9 := hP9
  have hD : va_D A ((o, .inr (4, [.ref (a0 0), .ref (a1 0), .ref im, .ref kp, .null, .null, .null, .null])) :: (wHs g a0 v ++ wHs g a1 v ++ [(im, .inl (g 3, 2, .inr (.inr (.inr (.inr (im2 (a2 0) (a3 0)))))))] ++ wHs g a2 v ++ wHs g a3 v ++ [(kp, .inl (g 2, 2, .inl (fun _ => zI 0)))] ++ [(wa, .inr (3, [.ref (a0 0)]))])) := hD9
  have hS : va_S A s.heap H9 locs9 := hS9
  refine W.widen (k := 43) (n := 237) (Nat.le_refl _) (Nat.le_refl _) ?_
  refine va_putF (D := (dC, dI)) (ci := 4) (v := .ref wa) (ty := .object "WrongWay$Watch") (C := RX5) (T := TX5) (N := 8) hx hb hts iX5 tyX5 tyX5_ok nmX5 hown hK hP hD hS 0 rfl rfl 4 (by decide) (hts (.fieldLink RX5 32 "WrongWay" "watch" "LWrongWay$Watch;") (by decide +kernel)) (fun _ h9 => h9) rfl hin rfl (by decide +kernel) rfl rfl (Nat.le_of_ble_eq_true rfl) dX5_init_73 (fun H locs hP hD hS => ?_)
  have hP : va_P (dC, dI) vwCl ((o, .inr (4, [.ref (a0 0), .ref (a1 0), .ref im, .ref kp, .ref wa, .null, .null, .null])) :: (wHs g a0 v ++ wHs g a1 v ++ [(im, .inl (g 3, 2, .inr (.inr (.inr (.inr (im2 (a2 0) (a3 0)))))))] ++ wHs g a2 v ++ wHs g a3 v ++ [(kp, .inl (g 2, 2, .inl (fun _ => zI 0)))] ++ [(wa, .inr (3, [.ref (a0 0)]))])) H := hP
  have hD : va_D A ((o, .inr (4, [.ref (a0 0), .ref (a1 0), .ref im, .ref kp, .ref wa, .null, .null, .null])) :: (wHs g a0 v ++ wHs g a1 v ++ [(im, .inl (g 3, 2, .inr (.inr (.inr (.inr (im2 (a2 0) (a3 0)))))))] ++ wHs g a2 v ++ wHs g a3 v ++ [(kp, .inl (g 2, 2, .inl (fun _ => zI 0)))] ++ [(wa, .inr (3, [.ref (a0 0)]))])) := hD
  refine lv_aload_n hx hb dX5_init_76 rfl (lv_at hl 0 rfl) ?_
  refine va_new (ci := 2) (fs := [.null, .int (zI 0), .int (zI 0), .int (zI 0), .int (zI 0), .int (zI 0)]) (C := RX3) (T := TX3) (N := 6) hx hb hts iX3 tyX3 tyX3_ok hown (hts (.classLink RX5 36 RX3) (by decide +kernel)) (hts (.instantiable RX3 6) (by decide +kernel)) (hts (.initialized RX3) (by decide +kernel)) hK hP hD hS hA rfl (fun j hj => by rcases (show j = 0 ∨ j = 1 ∨ j = 2 ∨ j = 3 ∨ j = 4 ∨ j = 5 by omega) with rfl | rfl | rfl | rfl | rfl | rfl <;> rfl) (Nat.le_of_ble_eq_true rfl) (Nat.le_of_ble_eq_true rfl) dX5_init_77 (fun te H hP hD hS => ?_)
  have hP : va_P (dC, dI) vwCl ((o, .inr (4, [.ref (a0 0), .ref (a1 0), .ref im, .ref kp, .ref wa, .null, .null, .null])) :: (wHs g a0 v ++ wHs g a1 v ++ [(im, .inl (g 3, 2, .inr (.inr (.inr (.inr (im2 (a2 0) (a3 0)))))))] ++ wHs g a2 v ++ wHs g a3 v ++ [(kp, .inl (g 2, 2, .inl (fun _ => zI 0)))] ++ [(wa, .inr (3, [.ref (a0 0)]))] ++ [(te, .inr (2, [.null, .int (zI 0), .int (zI 0), .int (zI 0), .int (zI 0), .int (zI 0)]))])) H := hP
  have hD : va_D A ((o, .inr (4, [.ref (a0 0), .ref (a1 0), .ref im, .ref kp, .ref wa, .null, .null, .null])) :: (wHs g a0 v ++ wHs g a1 v ++ [(im, .inl (g 3, 2, .inr (.inr (.inr (.inr (im2 (a2 0) (a3 0)))))))] ++ wHs g a2 v ++ wHs g a3 v ++ [(kp, .inl (g 2, 2, .inl (fun _ => zI 0)))] ++ [(wa, .inr (3, [.ref (a0 0)]))] ++ [(te, .inr (2, [.null, .int (zI 0), .int (zI 0), .int (zI 0), .int (zI 0), .int (zI 0)]))])) := hD
  refine W.widen (k := 44) (n := 243) (Nat.le_refl _) (Nat.le_refl _) ?_
  refine lv_dup hx hb dX5_init_80 rfl ?_
  refine q_iN (b := te) (As := []) (rest := [.ref te, .ref o]) (post := fun q : Nat → Nat => q 0 = te) (w1 := fun q => wTx g q z0 z0) (wc := [(te, .inr (2, [.null, .int (zI 0), .int (zI 0), .int (zI 0), .int (zI 0), .int (zI 0)]))]) (wr := ((o, .inr (4, [.ref (a0 0), .ref (a1 0), .ref im, .ref kp, .ref wa, .null, .null, .null])) :: (wHs g a0 v ++ wHs g a1 v ++ [(im, .inl (g 3, 2, .inr (.inr (.inr (.inr (im2 (a2 0) (a3 0)))))))] ++ wHs g a2 v ++ wHs g a3 v ++ [(kp, .inl (g 2, 2, .inl (fun _ => zI 0)))] ++ [(wa, .inr (3, [.ref (a0 0)]))]))) [44] [0, 1, 2, 3, 4, 5, 6, 7, 8, 9, 10, 11, 12, 13, 14, 15, 16, 17, 18, 19, 20, 21, 22, 23, 24, 25, 26, 27, 28, 29, 30, 31, 32, 33, 34, 35, 36, 37, 38, 39, 40, 41, 42, 43] ⟨hx, hb, hml, hown, hts⟩ hP hD hK hT hS hA (kX3_init l dC dI g tt _ te) ⟨va_cnB 0 hts gX5_init_X3_init_n38 rfl rfl rfl hN3 (hts (.initialized RX3) (by decide +kernel)) (by decide +kernel) ⟨Nat.le_of_ble_eq_true rfl, Nat.le_of_ble_eq_true rfl⟩, rfl, hts (.instanceMethod yX3_init) (by decide +kernel)⟩ rfl rfl rfl rfl (by decide) rfl hl.1 rfl (Nat.le_of_ble_eq_true rfl) dX5_init_81 ⟨Nat.le_of_ble_eq_true rfl, Nat.le_of_ble_eq_true rfl⟩ (fun q H9 locs9 hpo hP9 hD9 hS9 => ?_)
  have hpo : q 0 = te := hpo
  subst hpo
  have hP : va_P (dC, dI) vwCl ((o, .inr (4, [.ref (a0 0), .ref (a1 0), .ref im, .ref kp, .ref wa, .null, .null, .null])) :: (wHs g a0 v ++ wHs g a1 v ++ [(im, .inl (g 3, 2, .inr (.inr (.inr (.inr (im2 (a2 0) (a3 0)))))))] ++ wHs g a2 v ++ wHs g a3 v ++ [(kp, .inl (g 2, 2, .inl (fun _ => zI 0)))] ++ [(wa, .inr (3, [.ref (a0 0)]))] ++ wTx g q z0 z0)) H9 := hP9
  have hD : va_D A ((o, .inr (4, [.ref (a0 0), .ref (a1 0), .ref im, .ref kp, .ref wa, .null, .null, .null])) :: (wHs g a0 v ++ wHs g a1 v ++ [(im, .inl (g 3, 2, .inr (.inr (.inr (.inr (im2 (a2 0) (a3 0)))))))] ++ wHs g a2 v ++ wHs g a3 v ++ [(kp, .inl (g 2, 2, .inl (fun _ => zI 0)))] ++ [(wa, .inr (3, [.ref (a0 0)]))] ++ wTx g q z0 z0)) := hD9
  have hS : va_S A s.heap H9 locs9 := hS9
  refine W.widen (k := 45) (n := 393) (Nat.le_refl _) (Nat.le_refl _) ?_
  refine va_putF (D := (dC, dI)) (ci := 4) (v := .ref (q 0)) (ty := .object "WrongWay$Text") (C := RX5) (T := TX5) (N := 8) hx hb hts iX5 tyX5 tyX5_ok nmX5 hown hK hP hD hS 0 rfl rfl 5 (by decide) (hts (.fieldLink RX5 39 "WrongWay" "text" "LWrongWay$Text;") (by decide +kernel)) (fun _ h9 => h9) rfl hin rfl (by decide +kernel) rfl rfl (Nat.le_of_ble_eq_true rfl) dX5_init_84 (fun H locs hP hD hS => ?_)
  have hP : va_P (dC, dI) vwCl ((o, .inr (4, [.ref (a0 0), .ref (a1 0), .ref im, .ref kp, .ref wa, .ref (q 0), .null, .null])) :: (wHs g a0 v ++ wHs g a1 v ++ [(im, .inl (g 3, 2, .inr (.inr (.inr (.inr (im2 (a2 0) (a3 0)))))))] ++ wHs g a2 v ++ wHs g a3 v ++ [(kp, .inl (g 2, 2, .inl (fun _ => zI 0)))] ++ [(wa, .inr (3, [.ref (a0 0)]))] ++ wTx g q z0 z0)) H := hP
  have hD : va_D A ((o, .inr (4, [.ref (a0 0), .ref (a1 0), .ref im, .ref kp, .ref wa, .ref (q 0), .null, .null])) :: (wHs g a0 v ++ wHs g a1 v ++ [(im, .inl (g 3, 2, .inr (.inr (.inr (.inr (im2 (a2 0) (a3 0)))))))] ++ wHs g a2 v ++ wHs g a3 v ++ [(kp, .inl (g 2, 2, .inl (fun _ => zI 0)))] ++ [(wa, .inr (3, [.ref (a0 0)]))] ++ wTx g q z0 z0)) := hD
  refine lv_aload_n hx hb dX5_init_87 rfl (lv_at hl 0 rfl) ?_
  refine va_new (ci := 0) (fs := [.long (zL 0), .long (zL 0)]) (C := RX0) (T := TX0) (N := 2) hx hb hts iX0 tyX0 tyX0_ok hown (hts (.classLink RX5 43 RX0) (by decide +kernel)) (hts (.instantiable RX0 2) (by decide +kernel)) (hts (.initialized RX0) (by decide +kernel)) hK hP hD hS hA rfl (fun j hj => by rcases (show j = 0 ∨ j = 1 by omega) with rfl | rfl <;> rfl) (Nat.le_of_ble_eq_true rfl) (Nat.le_of_ble_eq_true rfl) dX5_init_88 (fun fr H hP hD hS => ?_)
  have hP : va_P (dC, dI) vwCl ((o, .inr (4, [.ref (a0 0), .ref (a1 0), .ref im, .ref kp, .ref wa, .ref (q 0), .null, .null])) :: (wHs g a0 v ++ wHs g a1 v ++ [(im, .inl (g 3, 2, .inr (.inr (.inr (.inr (im2 (a2 0) (a3 0)))))))] ++ wHs g a2 v ++ wHs g a3 v ++ [(kp, .inl (g 2, 2, .inl (fun _ => zI 0)))] ++ [(wa, .inr (3, [.ref (a0 0)]))] ++ wTx g q z0 z0 ++ [(fr, .inr (0, [.long (zL 0), .long (zL 0)]))])) H := hP
  have hD : va_D A ((o, .inr (4, [.ref (a0 0), .ref (a1 0), .ref im, .ref kp, .ref wa, .ref (q 0), .null, .null])) :: (wHs g a0 v ++ wHs g a1 v ++ [(im, .inl (g 3, 2, .inr (.inr (.inr (.inr (im2 (a2 0) (a3 0)))))))] ++ wHs g a2 v ++ wHs g a3 v ++ [(kp, .inl (g 2, 2, .inl (fun _ => zI 0)))] ++ [(wa, .inr (3, [.ref (a0 0)]))] ++ wTx g q z0 z0 ++ [(fr, .inr (0, [.long (zL 0), .long (zL 0)]))])) := hD
  refine W.widen (k := 46) (n := 395) (Nat.le_refl _) (Nat.le_refl _) ?_
  refine lv_dup hx hb dX5_init_91 rfl ?_
  refine q_iN (b := fr) (As := []) (rest := [.ref fr, .ref o]) (post := fun _ : Unit => True) (w1 := fun _ => wFr fr 0 1) (wc := [(fr, .inr (0, [.long (zL 0), .long (zL 0)]))]) (wr := ((o, .inr (4, [.ref (a0 0), .ref (a1 0), .ref im, .ref kp, .ref wa, .ref (q 0), .null, .null])) :: (wHs g a0 v ++ wHs g a1 v ++ [(im, .inl (g 3, 2, .inr (.inr (.inr (.inr (im2 (a2 0) (a3 0)))))))] ++ wHs g a2 v ++ wHs g a3 v ++ [(kp, .inl (g 2, 2, .inl (fun _ => zI 0)))] ++ [(wa, .inr (3, [.ref (a0 0)]))] ++ wTx g q z0 z0))) [46] [0, 1, 2, 3, 4, 5, 6, 7, 8, 9, 10, 11, 12, 13, 14, 15, 16, 17, 18, 19, 20, 21, 22, 23, 24, 25, 26, 27, 28, 29, 30, 31, 32, 33, 34, 35, 36, 37, 38, 39, 40, 41, 42, 43, 44, 45] ⟨hx, hb, hml, hown, hts⟩ hP hD hK hT hS hA (kX0_init l dC dI g tt _ fr) ⟨va_cnB 0 hts gX5_init_X0_init_n45 rfl rfl rfl hN0 (hts (.initialized RX0) (by decide +kernel)) (by decide +kernel) ⟨Nat.le_of_ble_eq_true rfl, Nat.le_of_ble_eq_true rfl⟩, rfl, hts (.instanceMethod yX0_init) (by decide +kernel)⟩ rfl rfl rfl rfl (by decide) rfl hl.1 rfl (Nat.le_of_ble_eq_true rfl) dX5_init_92 ⟨Nat.le_of_ble_eq_true rfl, Nat.le_of_ble_eq_true rfl⟩ (fun _ H9 locs9 hpo hP9 hD9 hS9 => ?_)
  have hP : va_P (dC, dI) vwCl ((o, .inr (4, [.ref (a0 0), .ref (a1 0), .ref im, .ref kp, .ref wa, .ref (q 0), .null, .null])) :: (wHs g a0 v ++ wHs g a1 v ++ [(im, .inl (g 3, 2, .inr (.inr (.inr (.inr (im2 (a2 0) (a3 0)))))))] ++ wHs g a2 v ++ wHs g a3 v ++ [(kp, .inl (g 2, 2, .inl (fun _ => zI 0)))] ++ [(wa, .inr (3, [.ref (a0 0)]))] ++ wTx g q z0 z0 ++ wFr fr 0 1)) H9 := hP9
  have hD : va_D A ((o, .inr (4, [.ref (a0 0), .ref (a1 0), .ref im, .ref kp, .ref wa, .ref (q 0), .null, .null])) :: (wHs g a0 v ++ wHs g a1 v ++ [(im, .inl (g 3, 2, .inr (.inr (.inr (.inr (im2 (a2 0) (a3 0)))))))] ++ wHs g a2 v ++ wHs g a3 v ++ [(kp, .inl (g 2, 2, .inl (fun _ => zI 0)))] ++ [(wa, .inr (3, [.ref (a0 0)]))] ++ wTx g q z0 z0 ++ wFr fr 0 1)) := hD9
  have hS : va_S A s.heap H9 locs9 := hS9
  refine W.widen (k := 46) (n := 395) (Nat.le_refl _) (Nat.le_refl _) ?_
  refine va_putF (D := (dC, dI)) (ci := 4) (v := .ref fr) (ty := .object "WrongWay$Fraction") (C := RX5) (T := TX5) (N := 8) hx hb hts iX5 tyX5 tyX5_ok nmX5 hown hK hP hD hS 0 rfl rfl 6 (by decide) (hts (.fieldLink RX5 46 "WrongWay" "fraction" "LWrongWay$Fraction;") (by decide +kernel)) (fun _ h9 => h9) rfl hin rfl (by decide +kernel) rfl rfl (Nat.le_of_ble_eq_true rfl) dX5_init_95 (fun H locs hP hD hS => ?_)
  have hP : va_P (dC, dI) vwCl ((o, .inr (4, [.ref (a0 0), .ref (a1 0), .ref im, .ref kp, .ref wa, .ref (q 0), .ref fr, .null])) :: (wHs g a0 v ++ wHs g a1 v ++ [(im, .inl (g 3, 2, .inr (.inr (.inr (.inr (im2 (a2 0) (a3 0)))))))] ++ wHs g a2 v ++ wHs g a3 v ++ [(kp, .inl (g 2, 2, .inl (fun _ => zI 0)))] ++ [(wa, .inr (3, [.ref (a0 0)]))] ++ wTx g q z0 z0 ++ wFr fr 0 1)) H := hP
  have hD : va_D A ((o, .inr (4, [.ref (a0 0), .ref (a1 0), .ref im, .ref kp, .ref wa, .ref (q 0), .ref fr, .null])) :: (wHs g a0 v ++ wHs g a1 v ++ [(im, .inl (g 3, 2, .inr (.inr (.inr (.inr (im2 (a2 0) (a3 0)))))))] ++ wHs g a2 v ++ wHs g a3 v ++ [(kp, .inl (g 2, 2, .inl (fun _ => zI 0)))] ++ [(wa, .inr (3, [.ref (a0 0)]))] ++ wTx g q z0 z0 ++ wFr fr 0 1)) := hD
  refine lv_aload_n hx hb dX5_init_98 rfl (lv_at hl 0 rfl) ?_
  refine q_iconst hx hb dX5_init_99 ?_
  refine q_newa (atype := .int) (ty := .int) hx hb (hts (.arrayClass .int) (by decide +kernel)) rfl rfl (fun _ _ => ra_int) hK hP hD hS hA 0 rfl (z := 3) (N := 3) (by decide) rfl (by decide) (Nat.le_of_ble_eq_true rfl) (Nat.le_of_ble_eq_true rfl) dX5_init_100 (fun rf H hP hD hS => ?_)
  have hP : va_P (dC, dI) vwCl ((o, .inr (4, [.ref (a0 0), .ref (a1 0), .ref im, .ref kp, .ref wa, .ref (q 0), .ref fr, .null])) :: (wHs g a0 v ++ wHs g a1 v ++ [(im, .inl (g 3, 2, .inr (.inr (.inr (.inr (im2 (a2 0) (a3 0)))))))] ++ wHs g a2 v ++ wHs g a3 v ++ [(kp, .inl (g 2, 2, .inl (fun _ => zI 0)))] ++ [(wa, .inr (3, [.ref (a0 0)]))] ++ wTx g q z0 z0 ++ wFr fr 0 1 ++ [(rf, .inl (g 0, 3, .inl (fun _ => zI 0)))])) H := hP
  have hD : va_D A ((o, .inr (4, [.ref (a0 0), .ref (a1 0), .ref im, .ref kp, .ref wa, .ref (q 0), .ref fr, .null])) :: (wHs g a0 v ++ wHs g a1 v ++ [(im, .inl (g 3, 2, .inr (.inr (.inr (.inr (im2 (a2 0) (a3 0)))))))] ++ wHs g a2 v ++ wHs g a3 v ++ [(kp, .inl (g 2, 2, .inl (fun _ => zI 0)))] ++ [(wa, .inr (3, [.ref (a0 0)]))] ++ wTx g q z0 z0 ++ wFr fr 0 1 ++ [(rf, .inl (g 0, 3, .inl (fun _ => zI 0)))])) := hD
  refine W.widen (k := 47) (n := 398) (Nat.le_refl _) (Nat.le_refl _) ?_
  refine va_putF (D := (dC, dI)) (ci := 4) (v := .ref rf) (ty := .array .int) (C := RX5) (T := TX5) (N := 8) hx hb hts iX5 tyX5 tyX5_ok nmX5 hown hK hP hD hS 0 rfl rfl 7 (by decide) (hts (.fieldLink RX5 50 "WrongWay" "refusals" "[I") (by decide +kernel)) (fun _ h9 => h9) rfl hin rfl (by decide +kernel) rfl rfl (Nat.le_of_ble_eq_true rfl) dX5_init_102 (fun H locs hP hD hS => ?_)
  have hP : va_P (dC, dI) vwCl ((o, .inr (4, [.ref (a0 0), .ref (a1 0), .ref im, .ref kp, .ref wa, .ref (q 0), .ref fr, .ref rf])) :: (wHs g a0 v ++ wHs g a1 v ++ [(im, .inl (g 3, 2, .inr (.inr (.inr (.inr (im2 (a2 0) (a3 0)))))))] ++ wHs g a2 v ++ wHs g a3 v ++ [(kp, .inl (g 2, 2, .inl (fun _ => zI 0)))] ++ [(wa, .inr (3, [.ref (a0 0)]))] ++ wTx g q z0 z0 ++ wFr fr 0 1 ++ [(rf, .inl (g 0, 3, .inl (fun _ => zI 0)))])) H := hP
  have hD : va_D A ((o, .inr (4, [.ref (a0 0), .ref (a1 0), .ref im, .ref kp, .ref wa, .ref (q 0), .ref fr, .ref rf])) :: (wHs g a0 v ++ wHs g a1 v ++ [(im, .inl (g 3, 2, .inr (.inr (.inr (.inr (im2 (a2 0) (a3 0)))))))] ++ wHs g a2 v ++ wHs g a3 v ++ [(kp, .inl (g 2, 2, .inl (fun _ => zI 0)))] ++ [(wa, .inr (3, [.ref (a0 0)]))] ++ wTx g q z0 z0 ++ wFr fr 0 1 ++ [(rf, .inl (g 0, 3, .inl (fun _ => zI 0)))])) := hD
  have hPf : va_P (dC, dI) vwCl (wWW g (af o im kp wa fr rf 0 0 0 0) a0 a1 a2 a3 q v v v v z0 z0 z0 0 1 z0) H := q_cut [0, 1, 2, 3, 4, 5, 6, 7, 8, 9, 10, 11, 12, 13, 14, 15, 16, 17, 18, 19, 20, 22, 23, 24, 25, 26, 27, 28, 29, 30, 31, 32, 33, 34, 35, 36, 37, 38, 39, 40, 41, 21, 42, 43, 44, 45, 46, 47] hP rfl
  have hDf : va_D A (wWW g (af o im kp wa fr rf 0 0 0 0) a0 a1 a2 a3 q v v v v z0 z0 z0 0 1 z0) := hD.sub [0, 1, 2, 3, 4, 5, 6, 7, 8, 9, 10, 11, 12, 13, 14, 15, 16, 17, 18, 19, 20, 22, 23, 24, 25, 26, 27, 28, 29, 30, 31, 32, 33, 34, 35, 36, 37, 38, 39, 40, 41, 21, 42, 43, 44, 45, 46, 47] (by decide) rfl
  exact W.vret hx hb hr (fun t9 ht9 hW9 => ⟨⟨uf (af o im kp wa fr rf 0 0 0 0) a0 a1 a2 a3 q, rfl, rfl, by rw [ht9]; exact hPf, va_K.moved hW9.alike hK, hDf⟩, hS.F ht9⟩) hS.2.2 dX5_init_105
