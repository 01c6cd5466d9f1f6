/-! the law from its entry -/
set_option maxHeartbeats 4000000 in
set_option maxRecDepth 100000 in
theorem whole_start {p : Program} {e : Env} {s : State} {m : MethodId} {below : List Frame} {meth : Method} {c : Code} (l : Launch) {b L : Nat} {xs : Nat → Int32} (hL : L ≤ 320) (C0 : lw_At p s m meth c b L xs) : W p l e room_1 s m #[Value.ref b] below meth c s.heap [] 0 0 (lw_Z below #[Value.ref b] s) (entryFrame m ([Value.ref b] : List Value).toArray 4) := by
  obtain ⟨hx, hb, hr, hml, hown0, hts0, hX, hbl, hlocks, hgv⟩ := id C0
  have hown : s.vm.findClass RL = some m.cls := hown0
  have hts : ∀ w ∈ wsL_law, w.before #[Value.ref b] s = true := fun w h => hts0 w (wsL_law_in w h)
  have S : CallFix p m c cL_law 4 s #[Value.ref b] wsL_law RL := ⟨hx, hb, hml, hown, hts⟩
  obtain ⟨A, hAe⟩ : ∃ A : Nat → Prop, A = fun q : Nat => s.heap.size ≤ q := ⟨_, rfl⟩
  have hA : ∀ q : Nat, s.heap.size ≤ q → A q := fun q h => by rw [hAe]; exact h
  have hAs : ∀ q : Nat, A q → s.heap.size ≤ q := fun q h => by rw [hAe] at h; exact h
  have hbA : ¬ A b := fun h => absurd (hAs b h) (Nat.not_le.mpr hbl)
  obtain ⟨tt, hT⟩ := st_start (A := A) hts0 hgv (fun a ha h => absurd (hAs a h) (Nat.not_le.mpr ha))
  obtain ⟨dC, dI, g, hK⟩ := K_start hts0
  have hAO : va_AO RX1 s := va_AO.of (A := #[Value.ref b]) (tb 100 hts0 (by decide +kernel))
  have hN3 : va_Nw (.methodLinkNest RX5 38 yX3_init RX5) s := va_Nw.of (A := #[Value.ref b]) rfl (tb 114 hts0 (by decide +kernel))
  have hN0 : va_Nw (.methodLinkNest RX5 45 yX0_init RX5) s := va_Nw.of (A := #[Value.ref b]) rfl (tb 141 hts0 (by decide +kernel))
  obtain ⟨v, hvv⟩ : ∃ v : Int → Int, v = h_build z0 11 := ⟨_, rfl⟩
  have hS : va_S A s.heap s.heap [] := va_S.rf
  have hP : va_P (dC, dI) vwCl [] s.heap := fun k q h => by simp at h
  have hD : va_D A [] := ⟨fun i j p q h => by simp at h, fun k q h => by simp at h⟩
  have hl := lv_entry ([.ref b]) (n := 4) (Nat.le_of_ble_eq_true rfl)
  rw [lg_entry_eq]
  generalize (lg_sl ([.ref b]) ++ List.replicate (4 - (lg_sl ([.ref b])).length) Slot.unset).toArray = ls at hl ⊢
  have hl : lv_has ls 4 [(0, .ref b)] := hl
  refine va_new (ci := 4) (fs := [.null, .null, .null, .null, .null, .null, .null, .null]) (C := RX5) (T := TX5) (N := 8) hx hb hts inlX5 tyX5 tyX5_ok hown (hts (.classLink RL 7 RX5) (by decide +kernel)) (hts (.instantiable RX5 8) (by decide +kernel)) (hts (.initialized RX5) (by decide +kernel)) hK hP hD hS hA rfl (fun j hj => by rcases (show j = 0 ∨ j = 1 ∨ j = 2 ∨ j = 3 ∨ j = 4 ∨ j = 5 ∨ j = 6 ∨ j = 7 by omega) with rfl | rfl | rfl | rfl | rfl | rfl | rfl | rfl <;> rfl) (Nat.le_of_ble_eq_true rfl) (Nat.le_of_ble_eq_true rfl) dL_law_0 (fun o H hP hD hS => ?_)
  have hP : va_P (dC, dI) vwCl [(o, .inr (4, [.null, .null, .null, .null, .null, .null, .null, .null]))] H := hP
  have hD : va_D A [(o, .inr (4, [.null, .null, .null, .null, .null, .null, .null, .null]))] := hD
  refine W.widen (k := 1) (n := 8) (Nat.le_refl _) (Nat.le_refl _) ?_
  refine lv_dup hx hb dL_law_3 rfl ?_
  have hF := va_free (wc := [(o, .inr (4, [.null, .null, .null, .null, .null, .null, .null, .null]))]) hD hS hA [0] rfl
  refine q_mk (tys := wTy g) (post := fun u : Nat → Nat → Nat => u 0 0 = o) (w1 := fun u => wWW g (u 0) (u 1) (u 2) (u 3) (u 4) (u 5) v v v v z0 z0 z0 0 1 z0) (wc := [(o, .inr (4, [.null, .null, .null, .null, .null, .null, .null, .null]))]) (wr := []) [0] [] hP hD hS hA rfl rfl rfl (by decide) (va_runI (b := o) (As := []) (g := F0 m 4 ls [.ref o, .ref o]) (rest := [.ref o]) S (kX5_init l dC dI g tt _ o v hvv) (cwI 0 hts gL_law_X5_init rfl rfl rfl (hts (.initialized RX5) (by decide +kernel)) (hts (.methodLink RL 9 yX5_init) (by decide +kernel)) (hts (.instanceMethod yX5_init) (by decide +kernel)) rfl (by decide +kernel) ⟨(Nat.le_of_ble_eq_true rfl), (Nat.le_of_ble_eq_true rfl)⟩) (eX_pre (av := [.ref o]) hP hK hD hT hS hF hAO hN3 hN0) rfl rfl hl.1 rfl (lv_room (Nat.le_of_ble_eq_true rfl)) dL_law_4 ⟨(Nat.le_of_ble_eq_true rfl), (Nat.le_of_ble_eq_true rfl)⟩) (fun u H9 locs9 hpo hP9 hD9 hS9 => ?_)
  have hpo : u 0 0 = o := hpo
  subst hpo
  have hP : va_P (dC, dI) vwCl (wWW g (u 0) (u 1) (u 2) (u 3) (u 4) (u 5) v v v v z0 z0 z0 0 1 z0) H9 := hP9
  have hD : va_D A (wWW g (u 0) (u 1) (u 2) (u 3) (u 4) (u 5) v v v v z0 z0 z0 0 1 z0) := hD9
  have hS : va_S A s.heap H9 locs9 := hS9
  refine W.widen (k := 48) (n := 406) (Nat.le_refl _) (Nat.le_refl _) ?_
  refine lv_astore_n (lv' := [(1, .ref (u 0 0)), (0, .ref b)]) hx hb dL_law_7 rfl hl (by decide) rfl (fun ls hl => ?_)
  refine va_new (ci := 5) (fs := [.null, .null, .null, .int (zI 0), .null, .long (zL 0), .long (zL 0), .int (zI 0), .int (zI 0), .int (zI 0), .int (zI 0), .null, .int (zI 0), .int (zI 0), .long (zL 0)]) (C := RX6) (T := TX6) (N := 15) hx hb hts inlX6 tyX6 tyX6_ok hown (hts (.classLink RL 10 RX6) (by decide +kernel)) (hts (.instantiable RX6 15) (by decide +kernel)) (hts (.initialized RX6) (by decide +kernel)) hK hP hD hS hA rfl (fun j hj => by rcases (show j = 0 ∨ j = 1 ∨ j = 2 ∨ j = 3 ∨ j = 4 ∨ j = 5 ∨ j = 6 ∨ j = 7 ∨ j = 8 ∨ j = 9 ∨ j = 10 ∨ j = 11 ∨ j = 12 ∨ j = 13 ∨ j = 14 by omega) with rfl | rfl | rfl | rfl | rfl | rfl | rfl | rfl | rfl | rfl | rfl | rfl | rfl | rfl | rfl <;> rfl) (Nat.le_of_ble_eq_true rfl) (Nat.le_of_ble_eq_true rfl) dL_law_8 (fun r H hP hD hS => ?_)
  have hP : va_P (dC, dI) vwCl (wWW g (u 0) (u 1) (u 2) (u 3) (u 4) (u 5) v v v v z0 z0 z0 0 1 z0 ++ [(r, .inr (5, [.null, .null, .null, .int (zI 0), .null, .long (zL 0), .long (zL 0), .int (zI 0), .int (zI 0), .int (zI 0), .int (zI 0), .null, .int (zI 0), .int (zI 0), .long (zL 0)]))]) H := hP
  have hD : va_D A (wWW g (u 0) (u 1) (u 2) (u 3) (u 4) (u 5) v v v v z0 z0 z0 0 1 z0 ++ [(r, .inr (5, [.null, .null, .null, .int (zI 0), .null, .long (zL 0), .long (zL 0), .int (zI 0), .int (zI 0), .int (zI 0), .int (zI 0), .null, .int (zI 0), .int (zI 0), .long (zL 0)]))]) := hD
  have hP := vaP_sw hP
  have hD := vaD_sw hD
  refine W.widen (k := 49) (n := 421) (Nat.le_refl _) (Nat.le_refl _) ?_
  refine lv_dup hx hb dL_law_11 rfl ?_
  refine q_iQ (b := r) (As := []) (rest := [.ref r]) (post := fun u6 : Nat → Nat => u6 0 = r) (w1 := fun u6 => wMo g u6 (m_beg m_new 0 11)) (wc := [(r, .inr (5, [.null, .null, .null, .int (zI 0), .null, .long (zL 0), .long (zL 0), .int (zI 0), .int (zI 0), .int (zI 0), .int (zI 0), .null, .int (zI 0), .int (zI 0), .long (zL 0)]))]) (wr := wWW g (u 0) (u 1) (u 2) (u 3) (u 4) (u 5) v v v v z0 z0 z0 0 1 z0) (isA [(r, .inr (5, [.null, .null, .null, .int (zI 0), .null, .long (zL 0), .long (zL 0), .int (zI 0), .int (zI 0), .int (zI 0), .int (zI 0), .null, .int (zI 0), .int (zI 0), .long (zL 0)]))]) (isB [(r, .inr (5, [.null, .null, .null, .int (zI 0), .null, .long (zL 0), .long (zL 0), .int (zI 0), .int (zI 0), .int (zI 0), .int (zI 0), .null, .int (zI 0), .int (zI 0), .long (zL 0)]))] (wWW g (u 0) (u 1) (u 2) (u 3) (u 4) (u 5) v v v v z0 z0 z0 0 1 z0)) S hP hD hK hT hS hA (kX6_init l dC dI g tt _ r) (cwI 0 hts gL_law_X6_init rfl rfl rfl (hts (.initialized RX6) (by decide +kernel)) (hts (.methodLink RL 12 yX6_init) (by decide +kernel)) (hts (.instanceMethod yX6_init) (by decide +kernel)) rfl (by decide +kernel) ⟨(Nat.le_of_ble_eq_true rfl), (Nat.le_of_ble_eq_true rfl)⟩) (ap_C _ _) (ap_R _ _) (nd_A _) (nd_B _ _) (dis_AB _ _) rfl hl.1 rfl (Nat.le_of_ble_eq_true rfl) dL_law_12 ⟨(Nat.le_of_ble_eq_true rfl), (Nat.le_of_ble_eq_true rfl)⟩ (fun qm H9 locs9 hpo hP9 hD9 hS9 => ?_)
  have hpo : qm 0 = r := hpo
  subst hpo
  refine W.widen (k := 54) (n := 775) (Nat.le_refl _) (Nat.le_refl _) ?_
  refine lv_astore_n (lv' := [(2, .ref (qm 0)), (1, .ref (u 0 0)), (0, .ref b)]) hx hb dL_law_15 rfl hl (by decide) rfl (fun ls hl => ?_)
  refine q_iconst hx hb dL_law_16 ?_
  refine lv_istore_n (lv' := [(3, .int (zI 0)), (2, .ref (qm 0)), (1, .ref (u 0 0)), (0, .ref b)]) hx hb dL_law_17 rfl hl (by decide) rfl (fun ls hl => ?_)
  refine law_loop (dC := dC) (dI := dI) (g := g) (tt := tt) (A := A) (ob := u 0) (a0 := u 1) (a1 := u 2) (a2 := u 3) (a3 := u 4) (q := u 5) (qm := qm) ⟨S, ⟨hK, hT, hA⟩, hX, hbl, hbA, hL⟩ hAs hr hlocks (L + 1) 0 v v v v z0 z0 z0 z0 0 1 (m_beg m_new 0 11) H9 locs9 ls (by omega) (by omega) (by omega) (lv_sub hl [3, 2, 1, 0] rfl) ⟨?_, hP9, hD9, hS9⟩
  exact R_start ⟨z0, hvv⟩ ⟨rfl, rfl⟩ ⟨rfl, rfl⟩ ⟨rfl, rfl, rfl⟩ ⟨⟨rfl, rfl⟩, ⟨rfl, rfl, rfl⟩, ⟨rfl, rfl, rfl⟩⟩
