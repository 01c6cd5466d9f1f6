def c_dgL (w : Int → Int) (k h : Int) : Int := 31 * (31 * h + w (5 + k)) + w (9 + k)
def c_dgE (w : Int → Int) (k h : Int) : Int := 31 * (31 * h + w (13 + k)) + w (15 + k)
def c_dgN (w : Int → Int) (k h : Int) : Int := 31 * (31 * (31 * (31 * h + w (17 + 4 * k)) + w (18 + 4 * k)) + w (19 + 4 * k)) + w (20 + 4 * k)
def c_dg (w : Int → Int) (h : Int) : Int := itR (c_dgN w) (itR (c_dgE w) (itR (c_dgL w) h (w 0)) 2) (w 3)
theorem hok.l {w : Int → Int} (h : hok w) {k : Int} (hk : 0 ≤ k ∧ k < 2) : (1 ≤ w (13 + k) ∧ w (13 + k) ≤ 30) ∧ (0 ≤ w (15 + k) ∧ w (15 + k) ≤ 29) := by
  have := h.ln
  rcases (show k = 0 ∨ k = 1 by omega) with e | e <;> subst e
  · exact ⟨this.1, this.2.2.1⟩
  · exact ⟨this.2.1, this.2.2.2⟩
set_option maxHeartbeats 4000000 in
set_option maxRecDepth 100000 in
theorem kX0_commonDivisor (l : Launch) (dC : Nat → ClassId) (dI : Nat → Nat → Nat) (g : Nat → ClassId) (tt : Nat → Nat) (x1 x2 : Int) (h1 : (0 ≤ x1 ∧ x1 < 1000000000) ∧ (0 ≤ x2 ∧ x2 < 1000000000)) : Met l yX0_commonDivisor wsX0_commonDivisor ({ frames := 0, cells := 0, slots := 0, locals := 0 }) (va_Pc [.long (zL x1), .long (zL x2)] (eS (dC, dI) (wTy g) ([]) tt)) (vp_Sl (fun r => r = zL (c_gd x1 x2))) 0 0 (fun _ => False) := by
  refine Met.ofW (cc := cX0_commonDivisor) (maxL := 11) (ret := (some .long)) (by decide) rfl ?_
  intro p e s m args below meth c s₁ B hml hv
  obtain ⟨rfl, hP, hK, hT⟩ := hv
  have hx := B.exec
  have hb := B.bytes
  have hr := B.returns
  have hts := atoms_spec (ws := wsX0_commonDivisor) B.pre
  have hown : s.vm.findClass RX0 = some m.cls := findClass_of_methodNamed B.named
  have hlocks := B.notSynchronized
  have hS : va_S (fun _ : Nat => False) s.heap s.heap [] := va_S.rf
  have hl := lv_entry ([.long (zL x1), .long (zL x2)]) (n := 11) (Nat.le_of_ble_eq_true rfl)
  rw [lg_entry_eq]
  generalize (lg_sl ([.long (zL x1), .long (zL x2)]) ++ List.replicate (11 - (lg_sl ([.long (zL x1), .long (zL x2)])).length) Slot.unset).toArray = ls at hl ⊢
  have hl : lv_has ls 11 [(0, .long (zL x1)), (2, .long (zL x2))] := hl
  refine lv_lload_n hx hb dX0_commonDivisor_0 rfl (lv_at hl 0 rfl) ?_
  refine lv_lstore (lv' := [(4, .long (zL x1)), (0, .long (zL x1)), (2, .long (zL x2))]) hx hb dX0_commonDivisor_1 hl (by decide) rfl (fun ls hl => ?_)
  refine lv_lload_n hx hb dX0_commonDivisor_3 rfl (lv_at hl 2 rfl) ?_
  refine lv_lstore (lv' := [(6, .long (zL x2)), (4, .long (zL x1)), (0, .long (zL x1)), (2, .long (zL x2))]) hx hb dX0_commonDivisor_4 hl (by decide) rfl (fun ls hl => ?_)
  refine q_iconst hx hb dX0_commonDivisor_6 ?_
  refine lv_istore (lv' := [(8, .int (zI 0)), (6, .long (zL x2)), (4, .long (zL x1)), (0, .long (zL x1)), (2, .long (zL x2))]) hx hb dX0_commonDivisor_7 hl (by decide) rfl (fun ls hl => ?_)
  refine w_loopP (σ := Int × Int × Int) (fun a9 ls => (0 ≤ a9.1 ∧ a9.1 ≤ 100) ∧ ((0 ≤ a9.2.1 ∧ a9.2.1 < 1000000000) ∧ (0 ≤ a9.2.2 ∧ a9.2.2 < 1000000000)) ∧ (c_gd x1 x2 = eu (100 - a9.1 : Int).toNat a9.2.1 a9.2.2) ∧ lv_has ls 11 [(0, .long (zL x1)), (2, .long (zL x2)), (4, .long (zL a9.2.1)), (6, .long (zL a9.2.2)), (8, .int (zI a9.1))]) (fun a9 => (100 - a9.1).toNat) ?_ (0, x1, x2) ?_
  · rintro ⟨i, u, v⟩ ls ⟨hi, hu, hs, hl⟩ ih9
    have hi : 0 ≤ i ∧ i ≤ 100 := hi
    have hu : (0 ≤ u ∧ u < 1000000000) ∧ (0 ≤ v ∧ v < 1000000000) := hu
    have hs : c_gd x1 x2 = eu (100 - i : Int).toNat u v := hs
    have hl : lv_has ls 11 [(0, .long (zL x1)), (2, .long (zL x2)), (4, .long (zL u)), (6, .long (zL v)), (8, .int (zI i))] := hl
    refine lv_iload hx hb dX0_commonDivisor_9 (lv_at hl 4 rfl) ?_
    refine q_bipush hx hb dX0_commonDivisor_11 rfl ?_
    refine q_icmp_ge (tgt := 44) hx hb dX0_commonDivisor_13 (by decide) (by omega) (fun c_1 => ?_) (fun c_1 => ?_)
    · refine lv_lload hx hb dX0_commonDivisor_44 (lv_at hl 2 rfl) ?_
      exact W.lret hx hb hr (fun t9 ht9 hW9 => ⟨_, rfl, congrArg zL (show u = c_gd x1 x2 from by rw [hs, eu_0 (by omega)]), ht9⟩) hS.2.2 dX0_commonDivisor_46
    · refine lv_lload hx hb dX0_commonDivisor_16 (lv_at hl 3 rfl) ?_
      refine q_lconst hx hb 0 dX0_commonDivisor_18 rfl ?_
      refine q_lcmp hx hb dX0_commonDivisor_19 (by omega) ?_
      have := cmpz_r v 0
      refine q_if_eq (tgt := 44) hx hb dX0_commonDivisor_20 (by decide) (by omega) (fun c_2 => ?_) (fun c_2 => ?_)
      · refine lv_lload hx hb dX0_commonDivisor_44 (lv_at hl 2 rfl) ?_
        exact W.lret hx hb hr (fun t9 ht9 hW9 => ⟨_, rfl, congrArg zL (show u = c_gd x1 x2 from by rw [hs, eu_z (by unfold cmpz at c_2; (repeat' split at c_2) <;> omega)]), ht9⟩) hS.2.2 dX0_commonDivisor_46
      · have c_2b : ¬ v = 0 := fun h9 => c_2 (by rw [h9]; rfl)
        refine lv_lload hx hb dX0_commonDivisor_23 (lv_at hl 2 rfl) ?_
        refine lv_lload hx hb dX0_commonDivisor_25 (lv_at hl 3 rfl) ?_
        refine q_lrem hx hb dX0_commonDivisor_27 (by omega) ?_
        refine lv_lstore (lv' := [(9, .long (zL (u % v))), (0, .long (zL x1)), (2, .long (zL x2)), (4, .long (zL u)), (6, .long (zL v)), (8, .int (zI i))]) hx hb dX0_commonDivisor_28 hl (by decide) rfl (fun ls hl => ?_)
        refine lv_lload hx hb dX0_commonDivisor_30 (lv_at hl 4 rfl) ?_
        refine lv_lstore (lv' := [(4, .long (zL v)), (9, .long (zL (u % v))), (0, .long (zL x1)), (2, .long (zL x2)), (6, .long (zL v)), (8, .int (zI i))]) hx hb dX0_commonDivisor_32 hl (by decide) rfl (fun ls hl => ?_)
        refine lv_lload hx hb dX0_commonDivisor_34 (lv_at hl 1 rfl) ?_
        refine lv_lstore (lv' := [(6, .long (zL (u % v))), (4, .long (zL v)), (9, .long (zL (u % v))), (0, .long (zL x1)), (2, .long (zL x2)), (8, .int (zI i))]) hx hb dX0_commonDivisor_36 hl (by decide) rfl (fun ls hl => ?_)
        refine lv_iinc (v := zI (i + 1)) (lv' := [(8, .int (zI (i + 1))), (6, .long (zL (u % v))), (4, .long (zL v)), (9, .long (zL (u % v))), (0, .long (zL x1)), (2, .long (zL x2))]) hx hb dX0_commonDivisor_38 hl (k := 5) rfl (zI_add _ _) (by decide) rfl (fun ls hl => ?_)
        refine lv_goto (tgt := 9) hx hb dX0_commonDivisor_41 (by decide) ?_
        exact ih9 (i + 1, v, u % v) ls ⟨(show 0 ≤ (i + 1) ∧ (i + 1) ≤ 100 from by omega), (show (0 ≤ v ∧ v < 1000000000) ∧ (0 ≤ (u % v) ∧ (u % v) < 1000000000) from by have h8 := Int.emod_nonneg u (show v ≠ 0 by omega); have h7 := Int.emod_lt_of_pos u (show 0 < v by omega); omega), (show c_gd x1 x2 = eu (100 - (i + 1) : Int).toNat v (u % v) from hs.trans (eu_s (by omega) c_2b)), lv_sub hl [4, 5, 2, 1, 0] rfl⟩ (by show (100 - (i + 1)).toNat < (100 - i).toNat; omega)
  · exact ⟨(show 0 ≤ 0 ∧ 0 ≤ 100 from by omega), (show (0 ≤ x1 ∧ x1 < 1000000000) ∧ (0 ≤ x2 ∧ x2 < 1000000000) from by omega), (show c_gd x1 x2 = eu (100 - 0 : Int).toNat x1 x2 from rfl), lv_sub hl [3, 4, 2, 1, 0] rfl⟩
set_option maxHeartbeats 4000000 in
set_option maxRecDepth 100000 in
theorem kX0_set (l : Launch) (dC : Nat → ClassId) (dI : Nat → Nat → Nat) (g : Nat → ClassId) (tt : Nat → Nat) (sz : Nat) (o : Nat) (fa fb : Int) (x1 x2 : Int) (h1 : (0 ≤ x1 ∧ x1 < 1000000000) ∧ (0 ≤ x2 ∧ x2 < 1000000000)) : Met l yX0_set wsX0_set ({ frames := 1, cells := 0, slots := 0, locals := 30 }) (va_Pc [.ref o, .long (zL x1), .long (zL x2)] (eQ (dC, dI) (wTy g) (wFr o fa fb) tt sz)) (va_Qv (fun (_ : Unit) => True) (fQ (dC, dI) (wTy g) (va_A (wFr o fa fb) sz) (wFr o (if 0 < c_gd x1 x2 then x1 / c_gd x1 x2 else fa) (if 0 < c_gd x1 x2 then x2 / c_gd x1 x2 else fb))) (va_A (wFr o fa fb) sz)) 0 0 (va_A (wFr o fa fb) sz) := by
  refine Met.ofW (cc := cX0_set) (maxL := 7) (ret := none) (by decide) rfl ?_
  intro p e s m args below meth c s₁ B hml hv
  obtain ⟨rfl, hsz, hP, hK, hD0, hT⟩ := hv
  have hx := B.exec
  have hb := B.bytes
  have hr := B.returns
  have hts := atoms_spec (ws := wsX0_set) B.pre
  have hown : s.vm.findClass RX0 = some m.cls := findClass_of_methodNamed B.named
  have hlocks := B.notSynchronized
  subst hsz
  have hD := hD0.self (sz := s.heap.size)
  generalize hAe : va_A (wFr o fa fb) s.heap.size = A at hD hT ⊢
  have hA : ∀ q : Nat, s.heap.size ≤ q → A q := fun q h => by rw [← hAe]; exact Or.inr h
  have hS : va_S A s.heap s.heap [] := va_S.rf
  have hl := lv_entry ([.ref o, .long (zL x1), .long (zL x2)]) (n := 7) (Nat.le_of_ble_eq_true rfl)
  rw [lg_entry_eq]
  generalize (lg_sl ([.ref o, .long (zL x1), .long (zL x2)]) ++ List.replicate (7 - (lg_sl ([.ref o, .long (zL x1), .long (zL x2)])).length) Slot.unset).toArray = ls at hl ⊢
  have hl : lv_has ls 7 [(0, .ref o), (1, .long (zL x1)), (3, .long (zL x2))] := hl
  have kf13 := hts (.fieldLink RX0 13 "WrongWay$Fraction" "below" "J") (by decide +kernel)
  have kf7 := hts (.fieldLink RX0 7 "WrongWay$Fraction" "above" "J") (by decide +kernel)
  have iX0 := (fun w h => List.mem_cons_of_mem _ (List.mem_append_right _ h) : ∀ w ∈ u_ws RX0 TX0 2, w ∈ wsX0_set)
  refine lv_lload_n hx hb dX0_set_0 rfl (lv_at hl 1 rfl) ?_
  refine lv_lload_n hx hb dX0_set_1 rfl (lv_at hl 2 rfl) ?_
  refine q_cSl (z := c_gd x1 x2) (As := [.long (zL x1), .long (zL x2)]) (rest := []) ⟨hx, hb, hml, hown, hts⟩ (kX0_commonDivisor l dC dI g tt x1 x2 (by omega)) (va_cwS 2 hts gX0_set_X0_commonDivisor rfl rfl rfl (by decide +kernel) ⟨Nat.le_of_ble_eq_true rfl, Nat.le_of_ble_eq_true rfl⟩) (hP.sub (ws' := []) [] rfl) hK hT hS rfl hl.1 rfl (Nat.le_of_ble_eq_true rfl) dX0_set_2 ⟨Nat.le_of_ble_eq_true rfl, Nat.le_of_ble_eq_true rfl⟩ ?_
  have := c_gd_r (a := x1) (b := x2) (by omega) (by omega)
  refine lv_lstore (lv' := [(5, .long (zL (c_gd x1 x2))), (0, .ref o), (1, .long (zL x1)), (3, .long (zL x2))]) hx hb dX0_set_5 hl (by decide) rfl (fun ls hl => ?_)
  refine lv_lload hx hb dX0_set_7 (lv_at hl 0 rfl) ?_
  refine q_lconst hx hb 0 dX0_set_9 rfl ?_
  refine q_lcmp hx hb dX0_set_10 (by omega) ?_
  have := cmpz_r (c_gd x1 x2) 0
  refine q_if_le (tgt := 30) hx hb dX0_set_11 (by decide) (by omega) (fun c_1 => ?_) (fun c_1 => ?_)
  · have hgp : ¬ 0 < c_gd x1 x2 := by unfold cmpz at c_1; (repeat' split at c_1) <;> omega
    have hPf : va_P (dC, dI) vwCl (wFr o (if 0 < c_gd x1 x2 then x1 / c_gd x1 x2 else fa) (if 0 < c_gd x1 x2 then x2 / c_gd x1 x2 else fb)) s.heap := by rw [(show (if 0 < c_gd x1 x2 then x1 / c_gd x1 x2 else fa) = fa from if_neg hgp), (show (if 0 < c_gd x1 x2 then x2 / c_gd x1 x2 else fb) = fb from if_neg hgp)]; exact hP
    have hDf : va_D A (wFr o (if 0 < c_gd x1 x2 then x1 / c_gd x1 x2 else fa) (if 0 < c_gd x1 x2 then x2 / c_gd x1 x2 else fb)) := by rw [(show (if 0 < c_gd x1 x2 then x1 / c_gd x1 x2 else fa) = fa from if_neg hgp), (show (if 0 < c_gd x1 x2 then x2 / c_gd x1 x2 else fb) = fb from if_neg hgp)]; exact hD
    exact W.vret hx hb hr (fun t9 ht9 hW9 => ⟨⟨(), rfl, trivial, by rw [ht9]; exact hPf, va_K.moved hW9.alike hK, hDf⟩, hS.F ht9⟩) hS.2.2 dX0_set_30
  · have hgp : 0 < c_gd x1 x2 := by unfold cmpz at c_1; (repeat' split at c_1) <;> omega
    refine lv_aload_n hx hb dX0_set_14 rfl (lv_at hl 1 rfl) ?_
    refine lv_lload_n hx hb dX0_set_15 rfl (lv_at hl 2 rfl) ?_
    refine lv_lload hx hb dX0_set_16 (lv_at hl 0 rfl) ?_
    refine q_ldiv hx hb dX0_set_18 (by omega) ?_
    refine va_put (D := (dC, dI)) (ci := 0) (v := .long (zL (x1 / (c_gd x1 x2)))) (ty := .long) (C := RX0) (T := TX0) (N := 2) hx hb hts iX0 tyX0 tyX0_ok nmX0 hown hK hP hD hS 0 rfl rfl 0 (by decide) kf7 (fun _ h9 => h9) rfl (by decide +kernel) rfl rfl (Nat.le_of_ble_eq_true rfl) dX0_set_19 (fun H locs hP hD hS => ?_)
    have hP : va_P (dC, dI) vwCl (wFr o (x1 / (c_gd x1 x2)) fb) H := hP
    have hD : va_D A (wFr o (x1 / (c_gd x1 x2)) fb) := hD
    refine lv_aload_n hx hb dX0_set_22 rfl (lv_at hl 1 rfl) ?_
    refine lv_lload_n hx hb dX0_set_23 rfl (lv_at hl 3 rfl) ?_
    refine lv_lload hx hb dX0_set_24 (lv_at hl 0 rfl) ?_
    refine q_ldiv hx hb dX0_set_26 (by omega) ?_
    refine va_put (D := (dC, dI)) (ci := 0) (v := .long (zL (x2 / (c_gd x1 x2)))) (ty := .long) (C := RX0) (T := TX0) (N := 2) hx hb hts iX0 tyX0 tyX0_ok nmX0 hown hK hP hD hS 0 rfl rfl 1 (by decide) kf13 (fun _ h9 => h9) rfl (by decide +kernel) rfl rfl (Nat.le_of_ble_eq_true rfl) dX0_set_27 (fun H locs hP hD hS => ?_)
    have hP : va_P (dC, dI) vwCl (wFr o (x1 / (c_gd x1 x2)) (x2 / (c_gd x1 x2))) H := hP
    have hD : va_D A (wFr o (x1 / (c_gd x1 x2)) (x2 / (c_gd x1 x2))) := hD
    have hPf : va_P (dC, dI) vwCl (wFr o (if 0 < c_gd x1 x2 then x1 / c_gd x1 x2 else fa) (if 0 < c_gd x1 x2 then x2 / c_gd x1 x2 else fb)) H := by rw [(show (if 0 < c_gd x1 x2 then x1 / c_gd x1 x2 else fa) = x1 / (c_gd x1 x2) from if_pos hgp), (show (if 0 < c_gd x1 x2 then x2 / c_gd x1 x2 else fb) = x2 / (c_gd x1 x2) from if_pos hgp)]; exact hP
    have hDf : va_D A (wFr o (if 0 < c_gd x1 x2 then x1 / c_gd x1 x2 else fa) (if 0 < c_gd x1 x2 then x2 / c_gd x1 x2 else fb)) := by rw [(show (if 0 < c_gd x1 x2 then x1 / c_gd x1 x2 else fa) = x1 / (c_gd x1 x2) from if_pos hgp), (show (if 0 < c_gd x1 x2 then x2 / c_gd x1 x2 else fb) = x2 / (c_gd x1 x2) from if_pos hgp)]; exact hD
    exact W.vret hx hb hr (fun t9 ht9 hW9 => ⟨⟨(), rfl, trivial, by rw [ht9]; exact hPf, va_K.moved hW9.alike hK, hDf⟩, hS.F ht9⟩) hS.2.2 dX0_set_30
set_option maxHeartbeats 4000000 in
set_option maxRecDepth 100000 in
theorem kX1_digestOver (l : Launch) (dC : Nat → ClassId) (dI : Nat → Nat → Nat) (g : Nat → ClassId) (tt : Nat → Nat) (a : Nat → Nat) (w : Int → Int) (x1 : Int) (hw : hok w) : Met l yX1_digestOver wsX1_digestOver ({ frames := 0, cells := 0, slots := 0, locals := 0 }) (va_Pc [.ref (a 0), .long (zL x1)] (eS (dC, dI) (wTy g) (wHs g a w) tt)) (vp_Sl (fun r => r = zL (c_dg w x1))) 0 0 (fun _ => False) := by
  refine Met.ofW (cc := cX1_digestOver) (maxL := 6) (ret := (some .long)) (by decide) rfl ?_
  intro p e s m args below meth c s₁ B hml hv
  obtain ⟨rfl, hP, hK, hT⟩ := hv
  have hx := B.exec
  have hb := B.bytes
  have hr := B.returns
  have hts := atoms_spec (ws := wsX1_digestOver) B.pre
  have hown : s.vm.findClass RX1 = some m.cls := findClass_of_methodNamed B.named
  have hlocks := B.notSynchronized
  have hS : va_S (fun _ : Nat => False) s.heap s.heap [] := va_S.rf
  have hl := lv_entry ([.ref (a 0), .long (zL x1)]) (n := 6) (Nat.le_of_ble_eq_true rfl)
  rw [lg_entry_eq]
  generalize (lg_sl ([.ref (a 0), .long (zL x1)]) ++ List.replicate (6 - (lg_sl ([.ref (a 0), .long (zL x1)])).length) Slot.unset).toArray = ls at hl ⊢
  have hl : lv_has ls 6 [(0, .ref (a 0)), (1, .long (zL x1))] := hl
  have kc71 := hts (.constantLong RX1 71 (31)) (by decide +kernel)
  have kf13 := hts (.fieldLink RX1 13 "WrongWay$House" "starts" "[I") (by decide +kernel)
  have kf16 := hts (.fieldLink RX1 16 "WrongWay$House" "every" "[I") (by decide +kernel)
  have kf19 := hts (.fieldLink RX1 19 "WrongWay$House" "at" "[I") (by decide +kernel)
  have kf22 := hts (.fieldLink RX1 22 "WrongWay$House" "notedLifts" "[I") (by decide +kernel)
  have kf25 := hts (.fieldLink RX1 25 "WrongWay$House" "notedFloors" "[I") (by decide +kernel)
  have kf28 := hts (.fieldLink RX1 28 "WrongWay$House" "notedMinutes" "[I") (by decide +kernel)
  have kf31 := hts (.fieldLink RX1 31 "WrongWay$House" "notedThere" "[I") (by decide +kernel)
  have kf45 := hts (.fieldLink RX1 45 "WrongWay$House" "lifts" "I") (by decide +kernel)
  have kf51 := hts (.fieldLink RX1 51 "WrongWay$House" "noted" "I") (by decide +kernel)
  have kf9 := hts (.fieldLink RX1 9 "WrongWay$House" "kinds" "[I") (by decide +kernel)
  have iX1 := (fun w h => List.mem_cons_of_mem _ (List.mem_append_right _ h) : ∀ w ∈ u_ws RX1 TX1 14, w ∈ wsX1_digestOver)
  have hb0 := hw.b
  refine lv_lload_n hx hb dX1_digestOver_0 rfl (lv_at hl 1 rfl) ?_
  refine lv_lstore_n (lv' := [(3, .long (zL x1)), (0, .ref (a 0)), (1, .long (zL x1))]) hx hb dX1_digestOver_1 rfl hl (by decide) rfl (fun ls hl => ?_)
  refine q_iconst hx hb dX1_digestOver_2 ?_
  refine lv_istore (lv' := [(5, .int (zI 0)), (3, .long (zL x1)), (0, .ref (a 0)), (1, .long (zL x1))]) hx hb dX1_digestOver_3 hl (by decide) rfl (fun ls hl => ?_)
  refine w_loopP (σ := Int × Int) (fun a9 ls => (0 ≤ a9.1 ∧ a9.1 ≤ w 0) ∧ (a9.2 = itR (c_dgL w) x1 a9.1) ∧ lv_has ls 6 [(0, .ref (a 0)), (1, .long (zL x1)), (3, .long (zL a9.2)), (5, .int (zI a9.1))]) (fun a9 => (w 0 - a9.1).toNat) ?_ (0, x1) ?_
  · rintro ⟨i, u⟩ ls ⟨hi, hs, hl⟩ ih5
    have hi : 0 ≤ i ∧ i ≤ w 0 := hi
    have hs : u = itR (c_dgL w) x1 i := hs
    have hl : lv_has ls 6 [(0, .ref (a 0)), (1, .long (zL x1)), (3, .long (zL u)), (5, .int (zI i))] := hl
    refine lv_iload hx hb dX1_digestOver_5 (lv_at hl 3 rfl) ?_
    refine lv_aload_n hx hb dX1_digestOver_7 rfl (lv_at hl 0 rfl) ?_
    refine va_get (D := (dC, dI)) (ci := 1) (v := .int (zI (w 0))) (C := RX1) (T := TX1) (N := 14) hx hb hts iX1 hown hK hP 0 rfl rfl 1 (by decide) kf45 (fun _ h9 => h9) rfl dX1_digestOver_8 ?_
    refine q_icmp_ge (tgt := 50) hx hb dX1_digestOver_11 (by decide) (by omega) (fun c_1 => ?_) (fun c_1 => ?_)
    · refine q_iconst hx hb dX1_digestOver_50 ?_
      refine lv_istore (lv' := [(5, .int (zI 0)), (0, .ref (a 0)), (1, .long (zL x1)), (3, .long (zL u))]) hx hb dX1_digestOver_51 hl (by decide) rfl (fun ls hl => ?_)
      refine w_loopP (σ := Int × Int) (fun a9 ls => (0 ≤ a9.1 ∧ a9.1 ≤ 2) ∧ (a9.2 = itR (c_dgE w) (itR (c_dgL w) x1 (w 0)) a9.1) ∧ lv_has ls 6 [(0, .ref (a 0)), (1, .long (zL x1)), (3, .long (zL a9.2)), (5, .int (zI a9.1))]) (fun a9 => (2 - a9.1).toNat) ?_ (0, u) ?_
      · rintro ⟨i2, u2⟩ ls ⟨hi2, hs2, hl⟩ ih53
        have hi2 : 0 ≤ i2 ∧ i2 ≤ 2 := hi2
        have hs2 : u2 = itR (c_dgE w) (itR (c_dgL w) x1 (w 0)) i2 := hs2
        have hl : lv_has ls 6 [(0, .ref (a 0)), (1, .long (zL x1)), (3, .long (zL u2)), (5, .int (zI i2))] := hl
        refine lv_iload hx hb dX1_digestOver_53 (lv_at hl 3 rfl) ?_
        refine q_iconst hx hb dX1_digestOver_55 ?_
        refine q_icmp_ge (tgt := 95) hx hb dX1_digestOver_56 (by decide) (by omega) (fun c_2 => ?_) (fun c_2 => ?_)
        · refine q_iconst hx hb dX1_digestOver_95 ?_
          refine lv_istore (lv' := [(5, .int (zI 0)), (0, .ref (a 0)), (1, .long (zL x1)), (3, .long (zL u2))]) hx hb dX1_digestOver_96 hl (by decide) rfl (fun ls hl => ?_)
          refine w_loopP (σ := Int × Int) (fun a9 ls => (0 ≤ a9.1 ∧ a9.1 ≤ w 3) ∧ (a9.2 = itR (c_dgN w) (itR (c_dgE w) (itR (c_dgL w) x1 (w 0)) 2) a9.1) ∧ lv_has ls 6 [(0, .ref (a 0)), (1, .long (zL x1)), (3, .long (zL a9.2)), (5, .int (zI a9.1))]) (fun a9 => (w 3 - a9.1).toNat) ?_ (0, u2) ?_
          · rintro ⟨i3, u3⟩ ls ⟨hi3, hs3, hl⟩ ih98
            have hi3 : 0 ≤ i3 ∧ i3 ≤ w 3 := hi3
            have hs3 : u3 = itR (c_dgN w) (itR (c_dgE w) (itR (c_dgL w) x1 (w 0)) 2) i3 := hs3
            have hl : lv_has ls 6 [(0, .ref (a 0)), (1, .long (zL x1)), (3, .long (zL u3)), (5, .int (zI i3))] := hl
            refine lv_iload hx hb dX1_digestOver_98 (lv_at hl 3 rfl) ?_
            refine lv_aload_n hx hb dX1_digestOver_100 rfl (lv_at hl 0 rfl) ?_
            refine va_get (D := (dC, dI)) (ci := 1) (v := .int (zI (w 3))) (C := RX1) (T := TX1) (N := 14) hx hb hts iX1 hown hK hP 0 rfl rfl 3 (by decide) kf51 (fun _ h9 => h9) rfl dX1_digestOver_101 ?_
            refine q_icmp_ge (tgt := 173) hx hb dX1_digestOver_104 (by decide) (by omega) (fun c_3 => ?_) (fun c_3 => ?_)
            · refine lv_lload_n hx hb dX1_digestOver_173 rfl (lv_at hl 2 rfl) ?_
              exact W.lret hx hb hr (fun t9 ht9 hW9 => ⟨_, rfl, congrArg zL (show u3 = c_dg w x1 from by rw [hs3, show i3 = w 3 by omega]; rfl), ht9⟩) hS.2.2 dX1_digestOver_174
            · have hk0 := hw.n (k := i3) (by omega) (by omega)
              refine q_ldc2 hx hb 31 hown kc71 (by decide) dX1_digestOver_107 ?_
              refine lv_lload_n hx hb dX1_digestOver_110 rfl (lv_at hl 2 rfl) ?_
              refine q_lmul hx hb dX1_digestOver_111 ?_
              refine lv_aload_n hx hb dX1_digestOver_112 rfl (lv_at hl 0 rfl) ?_
              refine va_get (D := (dC, dI)) (ci := 1) (v := .ref (a 5)) (C := RX1) (T := TX1) (N := 14) hx hb hts iX1 hown hK hP 0 rfl rfl 9 (by decide) kf22 (fun _ h9 => h9) rfl dX1_digestOver_113 ?_
              refine lv_iload hx hb dX1_digestOver_116 (lv_at hl 3 rfl) ?_
              refine q_iald (F := fun k => w (17 + 4 * k)) (v := w (17 + 4 * i3)) hx hb hK hP 5 0 rfl rfl (by decide) (by omega) rfl dX1_digestOver_118 ?_
              refine q_i2l hx hb dX1_digestOver_119 (by omega) ?_
              refine q_ladd hx hb dX1_digestOver_120 ?_
              refine lv_lstore_n (lv' := [(3, .long (zL ((31 * u3) + (w (17 + 4 * i3))))), (0, .ref (a 0)), (1, .long (zL x1)), (5, .int (zI i3))]) hx hb dX1_digestOver_121 rfl hl (by decide) rfl (fun ls hl => ?_)
              refine q_ldc2 hx hb 31 hown kc71 (by decide) dX1_digestOver_122 ?_
              refine lv_lload_n hx hb dX1_digestOver_125 rfl (lv_at hl 0 rfl) ?_
              refine q_lmul hx hb dX1_digestOver_126 ?_
              refine lv_aload_n hx hb dX1_digestOver_127 rfl (lv_at hl 1 rfl) ?_
              refine va_get (D := (dC, dI)) (ci := 1) (v := .ref (a 6)) (C := RX1) (T := TX1) (N := 14) hx hb hts iX1 hown hK hP 0 rfl rfl 10 (by decide) kf25 (fun _ h9 => h9) rfl dX1_digestOver_128 ?_
              refine lv_iload hx hb dX1_digestOver_131 (lv_at hl 3 rfl) ?_
              refine q_iald (F := fun k => w (18 + 4 * k)) (v := w (18 + 4 * i3)) hx hb hK hP 6 0 rfl rfl (by decide) (by omega) rfl dX1_digestOver_133 ?_
              refine q_i2l hx hb dX1_digestOver_134 (by omega) ?_
              refine q_ladd hx hb dX1_digestOver_135 ?_
              refine lv_lstore_n (lv' := [(3, .long (zL ((31 * ((31 * u3) + (w (17 + 4 * i3)))) + (w (18 + 4 * i3))))), (0, .ref (a 0)), (1, .long (zL x1)), (5, .int (zI i3))]) hx hb dX1_digestOver_136 rfl hl (by decide) rfl (fun ls hl => ?_)
              refine q_ldc2 hx hb 31 hown kc71 (by decide) dX1_digestOver_137 ?_
              refine lv_lload_n hx hb dX1_digestOver_140 rfl (lv_at hl 0 rfl) ?_
              refine q_lmul hx hb dX1_digestOver_141 ?_
              refine lv_aload_n hx hb dX1_digestOver_142 rfl (lv_at hl 1 rfl) ?_
              refine va_get (D := (dC, dI)) (ci := 1) (v := .ref (a 7)) (C := RX1) (T := TX1) (N := 14) hx hb hts iX1 hown hK hP 0 rfl rfl 11 (by decide) kf28 (fun _ h9 => h9) rfl dX1_digestOver_143 ?_
              refine lv_iload hx hb dX1_digestOver_146 (lv_at hl 3 rfl) ?_
              refine q_iald (F := fun k => w (19 + 4 * k)) (v := w (19 + 4 * i3)) hx hb hK hP 7 0 rfl rfl (by decide) (by omega) rfl dX1_digestOver_148 ?_
              refine q_i2l hx hb dX1_digestOver_149 (by omega) ?_
              refine q_ladd hx hb dX1_digestOver_150 ?_
              refine lv_lstore_n (lv' := [(3, .long (zL ((31 * ((31 * ((31 * u3) + (w (17 + 4 * i3)))) + (w (18 + 4 * i3)))) + (w (19 + 4 * i3))))), (0, .ref (a 0)), (1, .long (zL x1)), (5, .int (zI i3))]) hx hb dX1_digestOver_151 rfl hl (by decide) rfl (fun ls hl => ?_)
              refine q_ldc2 hx hb 31 hown kc71 (by decide) dX1_digestOver_152 ?_
              refine lv_lload_n hx hb dX1_digestOver_155 rfl (lv_at hl 0 rfl) ?_
              refine q_lmul hx hb dX1_digestOver_156 ?_
              refine lv_aload_n hx hb dX1_digestOver_157 rfl (lv_at hl 1 rfl) ?_
              refine va_get (D := (dC, dI)) (ci := 1) (v := .ref (a 8)) (C := RX1) (T := TX1) (N := 14) hx hb hts iX1 hown hK hP 0 rfl rfl 12 (by decide) kf31 (fun _ h9 => h9) rfl dX1_digestOver_158 ?_
              refine lv_iload hx hb dX1_digestOver_161 (lv_at hl 3 rfl) ?_
              refine q_iald (F := fun k => w (20 + 4 * k)) (v := w (20 + 4 * i3)) hx hb hK hP 8 0 rfl rfl (by decide) (by omega) rfl dX1_digestOver_163 ?_
              refine q_i2l hx hb dX1_digestOver_164 (by omega) ?_
              refine q_ladd hx hb dX1_digestOver_165 ?_
              refine lv_lstore_n (lv' := [(3, .long (zL ((31 * ((31 * ((31 * ((31 * u3) + (w (17 + 4 * i3)))) + (w (18 + 4 * i3)))) + (w (19 + 4 * i3)))) + (w (20 + 4 * i3))))), (0, .ref (a 0)), (1, .long (zL x1)), (5, .int (zI i3))]) hx hb dX1_digestOver_166 rfl hl (by decide) rfl (fun ls hl => ?_)
              refine lv_iinc (v := zI (i3 + 1)) (lv' := [(5, .int (zI (i3 + 1))), (3, .long (zL ((31 * ((31 * ((31 * ((31 * u3) + (w (17 + 4 * i3)))) + (w (18 + 4 * i3)))) + (w (19 + 4 * i3)))) + (w (20 + 4 * i3))))), (0, .ref (a 0)), (1, .long (zL x1))]) hx hb dX1_digestOver_167 hl (k := 3) rfl (zI_add _ _) (by decide) rfl (fun ls hl => ?_)
              refine lv_goto (tgt := 98) hx hb dX1_digestOver_170 (by decide) ?_
              exact ih98 (i3 + 1, (31 * ((31 * ((31 * ((31 * u3) + (w (17 + 4 * i3)))) + (w (18 + 4 * i3)))) + (w (19 + 4 * i3)))) + (w (20 + 4 * i3))) ls ⟨(show 0 ≤ (i3 + 1) ∧ (i3 + 1) ≤ w 3 from by omega), (show ((31 * ((31 * ((31 * ((31 * u3) + (w (17 + 4 * i3)))) + (w (18 + 4 * i3)))) + (w (19 + 4 * i3)))) + (w (20 + 4 * i3))) = itR (c_dgN w) (itR (c_dgE w) (itR (c_dgL w) x1 (w 0)) 2) (i3 + 1) from by rw [itR_s (by omega), ← hs3]; rfl), lv_sub hl [2, 3, 1, 0] rfl⟩ (by show (w 3 - (i3 + 1)).toNat < (w 3 - i3).toNat; omega)
          · exact ⟨(show 0 ≤ 0 ∧ 0 ≤ w 3 from by omega), (show u2 = itR (c_dgN w) (itR (c_dgE w) (itR (c_dgL w) x1 (w 0)) 2) 0 from by rw [hs2, show i2 = 2 by omega]; rfl), lv_sub hl [1, 2, 3, 0] rfl⟩
        · have hk0 := hw.l (k := i2) (by omega)
          refine q_ldc2 hx hb 31 hown kc71 (by decide) dX1_digestOver_59 ?_
          refine lv_lload_n hx hb dX1_digestOver_62 rfl (lv_at hl 2 rfl) ?_
          refine q_lmul hx hb dX1_digestOver_63 ?_
          refine lv_aload_n hx hb dX1_digestOver_64 rfl (lv_at hl 0 rfl) ?_
          refine va_get (D := (dC, dI)) (ci := 1) (v := .ref (a 3)) (C := RX1) (T := TX1) (N := 14) hx hb hts iX1 hown hK hP 0 rfl rfl 7 (by decide) kf16 (fun _ h9 => h9) rfl dX1_digestOver_65 ?_
          refine lv_iload hx hb dX1_digestOver_68 (lv_at hl 3 rfl) ?_
          refine q_iald (F := fun k => w (13 + k)) (v := w (13 + i2)) hx hb hK hP 3 0 rfl rfl (by decide) (by omega) rfl dX1_digestOver_70 ?_
          refine q_i2l hx hb dX1_digestOver_71 (by omega) ?_
          refine q_ladd hx hb dX1_digestOver_72 ?_
          refine lv_lstore_n (lv' := [(3, .long (zL ((31 * u2) + (w (13 + i2))))), (0, .ref (a 0)), (1, .long (zL x1)), (5, .int (zI i2))]) hx hb dX1_digestOver_73 rfl hl (by decide) rfl (fun ls hl => ?_)
          refine q_ldc2 hx hb 31 hown kc71 (by decide) dX1_digestOver_74 ?_
          refine lv_lload_n hx hb dX1_digestOver_77 rfl (lv_at hl 0 rfl) ?_
          refine q_lmul hx hb dX1_digestOver_78 ?_
          refine lv_aload_n hx hb dX1_digestOver_79 rfl (lv_at hl 1 rfl) ?_
          refine va_get (D := (dC, dI)) (ci := 1) (v := .ref (a 4)) (C := RX1) (T := TX1) (N := 14) hx hb hts iX1 hown hK hP 0 rfl rfl 8 (by decide) kf19 (fun _ h9 => h9) rfl dX1_digestOver_80 ?_
          refine lv_iload hx hb dX1_digestOver_83 (lv_at hl 3 rfl) ?_
          refine q_iald (F := fun k => w (15 + k)) (v := w (15 + i2)) hx hb hK hP 4 0 rfl rfl (by decide) (by omega) rfl dX1_digestOver_85 ?_
          refine q_i2l hx hb dX1_digestOver_86 (by omega) ?_
          refine q_ladd hx hb dX1_digestOver_87 ?_
          refine lv_lstore_n (lv' := [(3, .long (zL ((31 * ((31 * u2) + (w (13 + i2)))) + (w (15 + i2))))), (0, .ref (a 0)), (1, .long (zL x1)), (5, .int (zI i2))]) hx hb dX1_digestOver_88 rfl hl (by decide) rfl (fun ls hl => ?_)
          refine lv_iinc (v := zI (i2 + 1)) (lv' := [(5, .int (zI (i2 + 1))), (3, .long (zL ((31 * ((31 * u2) + (w (13 + i2)))) + (w (15 + i2))))), (0, .ref (a 0)), (1, .long (zL x1))]) hx hb dX1_digestOver_89 hl (k := 3) rfl (zI_add _ _) (by decide) rfl (fun ls hl => ?_)
          refine lv_goto (tgt := 53) hx hb dX1_digestOver_92 (by decide) ?_
          exact ih53 (i2 + 1, (31 * ((31 * u2) + (w (13 + i2)))) + (w (15 + i2))) ls ⟨(show 0 ≤ (i2 + 1) ∧ (i2 + 1) ≤ 2 from by omega), (show ((31 * ((31 * u2) + (w (13 + i2)))) + (w (15 + i2))) = itR (c_dgE w) (itR (c_dgL w) x1 (w 0)) (i2 + 1) from by rw [itR_s (by omega), ← hs2]; rfl), lv_sub hl [2, 3, 1, 0] rfl⟩ (by show (2 - (i2 + 1)).toNat < (2 - i2).toNat; omega)
      · exact ⟨(show 0 ≤ 0 ∧ 0 ≤ 2 from by omega), (show u = itR (c_dgE w) (itR (c_dgL w) x1 (w 0)) 0 from by rw [hs, show i = w 0 by omega]; rfl), lv_sub hl [1, 2, 3, 0] rfl⟩
    · have hk0 := hw.k (k := i) (by omega) (by omega)
      refine q_ldc2 hx hb 31 hown kc71 (by decide) dX1_digestOver_14 ?_
      refine lv_lload_n hx hb dX1_digestOver_17 rfl (lv_at hl 2 rfl) ?_
      refine q_lmul hx hb dX1_digestOver_18 ?_
      refine lv_aload_n hx hb dX1_digestOver_19 rfl (lv_at hl 0 rfl) ?_
      refine va_get (D := (dC, dI)) (ci := 1) (v := .ref (a 1)) (C := RX1) (T := TX1) (N := 14) hx hb hts iX1 hown hK hP 0 rfl rfl 5 (by decide) kf9 (fun _ h9 => h9) rfl dX1_digestOver_20 ?_
      refine lv_iload hx hb dX1_digestOver_23 (lv_at hl 3 rfl) ?_
      refine q_iald (F := fun k => w (5 + k)) (v := w (5 + i)) hx hb hK hP 1 0 rfl rfl (by decide) (by omega) rfl dX1_digestOver_25 ?_
      refine q_i2l hx hb dX1_digestOver_26 (by omega) ?_
      refine q_ladd hx hb dX1_digestOver_27 ?_
      refine lv_lstore_n (lv' := [(3, .long (zL ((31 * u) + (w (5 + i))))), (0, .ref (a 0)), (1, .long (zL x1)), (5, .int (zI i))]) hx hb dX1_digestOver_28 rfl hl (by decide) rfl (fun ls hl => ?_)
      refine q_ldc2 hx hb 31 hown kc71 (by decide) dX1_digestOver_29 ?_
      refine lv_lload_n hx hb dX1_digestOver_32 rfl (lv_at hl 0 rfl) ?_
      refine q_lmul hx hb dX1_digestOver_33 ?_
      refine lv_aload_n hx hb dX1_digestOver_34 rfl (lv_at hl 1 rfl) ?_
      refine va_get (D := (dC, dI)) (ci := 1) (v := .ref (a 2)) (C := RX1) (T := TX1) (N := 14) hx hb hts iX1 hown hK hP 0 rfl rfl 6 (by decide) kf13 (fun _ h9 => h9) rfl dX1_digestOver_35 ?_
      refine lv_iload hx hb dX1_digestOver_38 (lv_at hl 3 rfl) ?_
      refine q_iald (F := fun k => w (9 + k)) (v := w (9 + i)) hx hb hK hP 2 0 rfl rfl (by decide) (by omega) rfl dX1_digestOver_40 ?_
      refine q_i2l hx hb dX1_digestOver_41 (by omega) ?_
      refine q_ladd hx hb dX1_digestOver_42 ?_
      refine lv_lstore_n (lv' := [(3, .long (zL ((31 * ((31 * u) + (w (5 + i)))) + (w (9 + i))))), (0, .ref (a 0)), (1, .long (zL x1)), (5, .int (zI i))]) hx hb dX1_digestOver_43 rfl hl (by decide) rfl (fun ls hl => ?_)
      refine lv_iinc (v := zI (i + 1)) (lv' := [(5, .int (zI (i + 1))), (3, .long (zL ((31 * ((31 * u) + (w (5 + i)))) + (w (9 + i))))), (0, .ref (a 0)), (1, .long (zL x1))]) hx hb dX1_digestOver_44 hl (k := 3) rfl (zI_add _ _) (by decide) rfl (fun ls hl => ?_)
      refine lv_goto (tgt := 5) hx hb dX1_digestOver_47 (by decide) ?_
      exact ih5 (i + 1, (31 * ((31 * u) + (w (5 + i)))) + (w (9 + i))) ls ⟨(show 0 ≤ (i + 1) ∧ (i + 1) ≤ w 0 from by omega), (show ((31 * ((31 * u) + (w (5 + i)))) + (w (9 + i))) = itR (c_dgL w) x1 (i + 1) from by rw [itR_s (by omega), ← hs]; rfl), lv_sub hl [2, 3, 1, 0] rfl⟩ (by show (w 0 - (i + 1)).toNat < (w 0 - i).toNat; omega)
  · exact ⟨(show 0 ≤ 0 ∧ 0 ≤ w 0 from by omega), (show x1 = itR (c_dgL w) x1 0 from rfl), lv_sub hl [2, 3, 1, 0] rfl⟩
