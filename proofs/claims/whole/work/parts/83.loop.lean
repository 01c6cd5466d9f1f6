/-! the law's loop -/
theorem and31 (v : Int32) : 0 ≤ (v &&& 31).toInt ∧ (v &&& 31).toInt < 32 := by
  have h : ∀ w : BitVec 32, 0 ≤ (w &&& 31#32).toInt ∧ (w &&& 31#32).toInt < 32 := by
    intro w
    have h1 : (w &&& 31#32).toNat < 32 := by
      rw [BitVec.toNat_and]
      exact Nat.lt_of_le_of_lt Nat.and_le_right (by decide)
    have h2 : (w &&& 31#32).toInt = ((w &&& 31#32).toNat : Int) := by
      rw [BitVec.toInt_eq_toNat_of_lt (by omega)]
    omega
  exact h v.toBitVec
set_option maxHeartbeats 4000000 in
set_option maxRecDepth 100000 in
theorem law_sw {p : Program} {l : Launch} {e : Env} {s : State} {m : MethodId} {args : Array Value} {below : List Frame} {meth : Method} {c : Code} {dC : Nat → ClassId} {dI : Nat → Nat → Nat} {g : Nat → ClassId} {tt : Nat → Nat} {A : Nat → Prop} {b L : Nat} {xs : Nat → Int32} {Q : State → Prop} {ob a0 a1 a2 a3 q qm : Nat → Nat} {ls : Array Slot} {i : Int} {w0 w1 w2 w3 kp tx tz rf : Int → Int} {fa fb : Int} {M : Nat → Int → Int} {H : Heap} {locs : List Loc} (X : LX p s m c args (dC, dI) g tt A b L xs) (hl : lv_has ls 4 [(0, .ref b), (1, .ref (ob 0)), (2, .ref (qm 0)), (3, .int (zI i))]) (hi : 0 ≤ i ∧ i + 5 ≤ L) (hI : LI (dC, dI) g ob a0 a1 a2 a3 q qm A s.heap w0 w1 w2 w3 kp tx tz rf fa fb M H locs) {v : Int32} (hv : 0 ≤ v.toInt ∧ v.toInt < 32) (kk : ∀ (w0 w1 w2 w3 kp tx tz rf : Int → Int) (fa fb : Int) (M : Nat → Int → Int) (H : Heap) (locs : List Loc), LI (dC, dI) g ob a0 a1 a2 a3 q qm A s.heap w0 w1 w2 w3 kp tx tz rf fa fb M H locs → W p l e room_1 s m args below meth c H locs 54 775 Q (F0 m 1013 ls [])) : W p l e room_1 s m args below meth c H locs 54 775 Q (F0 m 32 ls [.int v]) := by
  have hx := X.1.1
  have hb := X.1.2.1
  by_cases c28 : v.toInt ≤ 28
  · rcases (show v.toInt = 0 ∨ v.toInt = 1 ∨ v.toInt = 2 ∨ v.toInt = 3 ∨ v.toInt = 4 ∨ v.toInt = 5 ∨ v.toInt = 6 ∨ v.toInt = 7 ∨ v.toInt = 8 ∨ v.toInt = 9 ∨ v.toInt = 10 ∨ v.toInt = 11 ∨ v.toInt = 12 ∨ v.toInt = 13 ∨ v.toInt = 14 ∨ v.toInt = 15 ∨ v.toInt = 16 ∨ v.toInt = 17 ∨ v.toInt = 18 ∨ v.toInt = 19 ∨ v.toInt = 20 ∨ v.toInt = 21 ∨ v.toInt = 22 ∨ v.toInt = 23 ∨ v.toInt = 24 ∨ v.toInt = 25 ∨ v.toInt = 26 ∨ v.toInt = 27 ∨ v.toInt = 28 by omega) with hk | hk | hk | hk | hk | hk | hk | hk | hk | hk | hk | hk | hk | hk | hk | hk | hk | hk | hk | hk | hk | hk | hk | hk | hk | hk | hk | hk | hk
    · exact lv_tableIn (off := 132) (tgt := 164) hx hb dL_law_32 (by rw [hk]; decide) (by rw [hk]; decide) (by rw [hk]; rfl) (by decide) (law_c0 X hl hi hI kk)
    · exact lv_tableIn (off := 155) (tgt := 187) hx hb dL_law_32 (by rw [hk]; decide) (by rw [hk]; decide) (by rw [hk]; rfl) (by decide) (law_c1 X hl hi hI kk)
    · exact lv_tableIn (off := 188) (tgt := 220) hx hb dL_law_32 (by rw [hk]; decide) (by rw [hk]; decide) (by rw [hk]; rfl) (by decide) (law_c2 X hl hi hI kk)
    · exact lv_tableIn (off := 231) (tgt := 263) hx hb dL_law_32 (by rw [hk]; decide) (by rw [hk]; decide) (by rw [hk]; rfl) (by decide) (law_c3 X hl hi hI kk)
    · exact lv_tableIn (off := 254) (tgt := 286) hx hb dL_law_32 (by rw [hk]; decide) (by rw [hk]; decide) (by rw [hk]; rfl) (by decide) (law_c4 X hl hi hI kk)
    · exact lv_tableIn (off := 267) (tgt := 299) hx hb dL_law_32 (by rw [hk]; decide) (by rw [hk]; decide) (by rw [hk]; rfl) (by decide) (law_c5 X hl hi hI kk)
    · exact lv_tableIn (off := 280) (tgt := 312) hx hb dL_law_32 (by rw [hk]; decide) (by rw [hk]; decide) (by rw [hk]; rfl) (by decide) (law_c6 X hl hi hI kk)
    · exact lv_tableIn (off := 303) (tgt := 335) hx hb dL_law_32 (by rw [hk]; decide) (by rw [hk]; decide) (by rw [hk]; rfl) (by decide) (law_c7 X hl hi hI kk)
    · exact lv_tableIn (off := 316) (tgt := 348) hx hb dL_law_32 (by rw [hk]; decide) (by rw [hk]; decide) (by rw [hk]; rfl) (by decide) (law_c8 X hl hi hI kk)
    · exact lv_tableIn (off := 349) (tgt := 381) hx hb dL_law_32 (by rw [hk]; decide) (by rw [hk]; decide) (by rw [hk]; rfl) (by decide) (law_c9 X hl hi hI kk)
    · exact lv_tableIn (off := 382) (tgt := 414) hx hb dL_law_32 (by rw [hk]; decide) (by rw [hk]; decide) (by rw [hk]; rfl) (by decide) (law_c10 X hl hi hI kk)
    · exact lv_tableIn (off := 425) (tgt := 457) hx hb dL_law_32 (by rw [hk]; decide) (by rw [hk]; decide) (by rw [hk]; rfl) (by decide) (law_c11 X hl hi hI kk)
    · exact lv_tableIn (off := 458) (tgt := 490) hx hb dL_law_32 (by rw [hk]; decide) (by rw [hk]; decide) (by rw [hk]; rfl) (by decide) (law_c12 X hl hi hI kk)
    · exact lv_tableIn (off := 491) (tgt := 523) hx hb dL_law_32 (by rw [hk]; decide) (by rw [hk]; decide) (by rw [hk]; rfl) (by decide) (law_c13 X hl hi hI kk)
    · exact lv_tableIn (off := 544) (tgt := 576) hx hb dL_law_32 (by rw [hk]; decide) (by rw [hk]; decide) (by rw [hk]; rfl) (by decide) (law_c14 X hl hi hI kk)
    · exact lv_tableIn (off := 597) (tgt := 629) hx hb dL_law_32 (by rw [hk]; decide) (by rw [hk]; decide) (by rw [hk]; rfl) (by decide) (law_c15 X hl hi hI kk)
    · exact lv_tableIn (off := 610) (tgt := 642) hx hb dL_law_32 (by rw [hk]; decide) (by rw [hk]; decide) (by rw [hk]; rfl) (by decide) (law_c16 X hl hi hI kk)
    · exact lv_tableIn (off := 623) (tgt := 655) hx hb dL_law_32 (by rw [hk]; decide) (by rw [hk]; decide) (by rw [hk]; rfl) (by decide) (law_c17 X hl hi hI kk)
    · exact lv_tableIn (off := 676) (tgt := 708) hx hb dL_law_32 (by rw [hk]; decide) (by rw [hk]; decide) (by rw [hk]; rfl) (by decide) (law_c18 X hl hi hI kk)
    · exact lv_tableIn (off := 689) (tgt := 721) hx hb dL_law_32 (by rw [hk]; decide) (by rw [hk]; decide) (by rw [hk]; rfl) (by decide) (law_c19 X hl hi hI kk)
    · exact lv_tableIn (off := 722) (tgt := 754) hx hb dL_law_32 (by rw [hk]; decide) (by rw [hk]; decide) (by rw [hk]; rfl) (by decide) (law_c20 X hl hi hI kk)
    · exact lv_tableIn (off := 755) (tgt := 787) hx hb dL_law_32 (by rw [hk]; decide) (by rw [hk]; decide) (by rw [hk]; rfl) (by decide) (law_c21 X hl hi hI kk)
    · exact lv_tableIn (off := 808) (tgt := 840) hx hb dL_law_32 (by rw [hk]; decide) (by rw [hk]; decide) (by rw [hk]; rfl) (by decide) (law_c22 X hl hi hI kk)
    · exact lv_tableIn (off := 851) (tgt := 883) hx hb dL_law_32 (by rw [hk]; decide) (by rw [hk]; decide) (by rw [hk]; rfl) (by decide) (law_c23 X hl hi hI kk)
    · exact lv_tableIn (off := 875) (tgt := 907) hx hb dL_law_32 (by rw [hk]; decide) (by rw [hk]; decide) (by rw [hk]; rfl) (by decide) (law_c24 X hl hi hI kk)
    · exact lv_tableIn (off := 898) (tgt := 930) hx hb dL_law_32 (by rw [hk]; decide) (by rw [hk]; decide) (by rw [hk]; rfl) (by decide) (law_c25 X hl hi hI kk)
    · exact lv_tableIn (off := 921) (tgt := 953) hx hb dL_law_32 (by rw [hk]; decide) (by rw [hk]; decide) (by rw [hk]; rfl) (by decide) (law_c26 X hl hi hI kk)
    · exact lv_tableIn (off := 944) (tgt := 976) hx hb dL_law_32 (by rw [hk]; decide) (by rw [hk]; decide) (by rw [hk]; rfl) (by decide) (law_c27 X hl hi hI kk)
    · exact lv_tableIn (off := 967) (tgt := 999) hx hb dL_law_32 (by rw [hk]; decide) (by rw [hk]; decide) (by rw [hk]; rfl) (by decide) (law_c28 X hl hi hI kk)
  · exact lv_tableOut (tgt := 1013) hx hb dL_law_32 (Or.inr (by omega)) (by decide) (kk _ _ _ _ _ _ _ _ _ _ _ _ _ hI)
set_option maxHeartbeats 4000000 in
set_option maxRecDepth 100000 in
theorem law_loop {p : Program} {l : Launch} {e : Env} {s : State} {m : MethodId} {below : List Frame} {meth : Method} {c : Code} {dC : Nat → ClassId} {dI : Nat → Nat → Nat} {g : Nat → ClassId} {tt : Nat → Nat} {A : Nat → Prop} {b L : Nat} {xs : Nat → Int32} {ob a0 a1 a2 a3 q qm : Nat → Nat} (X : LX p s m c #[Value.ref b] (dC, dI) g tt A b L xs) (hAs : ∀ q, A q → s.heap.size ≤ q) (hr : meth.sig.returnType = ret) (hlocks : meth.locks = false) : ∀ (n : Nat) (i : Int) (w0 w1 w2 w3 kp tx tz rf : Int → Int) (fa fb : Int) (M : Nat → Int → Int) (H : Heap) (locs : List Loc) (ls : Array Slot), 0 ≤ i → (L : Int) < i + n → i ≤ L + 5 → lv_has ls 4 [(0, .ref b), (1, .ref (ob 0)), (2, .ref (qm 0)), (3, .int (zI i))] → LI (dC, dI) g ob a0 a1 a2 a3 q qm A s.heap w0 w1 w2 w3 kp tx tz rf fa fb M H locs → W p l e room_1 s m #[Value.ref b] below meth c H locs 54 775 (lw_Z below #[Value.ref b] s) (F0 m 18 ls []) := by
  obtain ⟨S, hG, hX, hbl, hbA, hL⟩ := id X
  have hx := S.1
  have hb := S.2.1
  have last : ∀ (H : Heap) (locs : List Loc) (ls : Array Slot), va_S A s.heap H locs → W p l e room_1 s m #[Value.ref b] below meth c H locs 54 775 (lw_Z below #[Value.ref b] s) (F0 m 1019 ls []) := fun H locs ls hS => by
    refine lv_iconst (v := 1) hx hb dL_law_1019 (by decide) ?_
    refine va_forget (fun q hq => hAs _ (hS.2.2 q hq)) ?_
    exact lw_ret hx hb hr hlocks dL_law_1020
  intro n
  induction n with
  | zero =>
    intro i w0 w1 w2 w3 kp tx tz rf fa fb M H locs ls h0 h1 h2 hl hI
    have hS := hI.2.2.2
    refine lv_iload_n hx hb dL_law_18 rfl (lv_at hl 3 rfl) ?_
    refine lv_aload_n hx hb dL_law_19 rfl (lv_at hl 0 rfl) ?_
    refine va_slen hx hb hX hbl hbA hS dL_law_20 ?_
    rw [show Int32.ofNat L = zI L from zI_nat L]
    refine q_iconst hx hb dL_law_21 ?_
    refine q_isub hx hb dL_law_22 ?_
    refine q_icmp_gt (tgt := 1019) hx hb dL_law_23 (by decide) ⟨⟨by omega, by omega⟩, ⟨by omega, by omega⟩⟩ (fun c9 => last H locs ls hS) (fun c9 => absurd c9 (by omega))
  | succ n ih =>
    intro i w0 w1 w2 w3 kp tx tz rf fa fb M H locs ls h0 h1 h2 hl hI
    have hS := hI.2.2.2
    refine lv_iload_n hx hb dL_law_18 rfl (lv_at hl 3 rfl) ?_
    refine lv_aload_n hx hb dL_law_19 rfl (lv_at hl 0 rfl) ?_
    refine va_slen hx hb hX hbl hbA hS dL_law_20 ?_
    rw [show Int32.ofNat L = zI L from zI_nat L]
    refine q_iconst hx hb dL_law_21 ?_
    refine q_isub hx hb dL_law_22 ?_
    refine q_icmp_gt (tgt := 1019) hx hb dL_law_23 (by decide) ⟨⟨by omega, by omega⟩, ⟨by omega, by omega⟩⟩ (fun c9 => last H locs ls hS) (fun c9 => ?_)
    have hi : 0 ≤ i ∧ i + 5 ≤ L := by omega
    refine lv_aload_n hx hb dL_law_26 rfl (lv_at hl 0 rfl) ?_
    refine lv_iload_n hx hb dL_law_27 rfl (lv_at hl 3 rfl) ?_
    refine va_sld hx hb hX hbl hbA hS (zI_in (by omega) (by omega)) dL_law_28 ?_
    refine lv_bipush (v := 31) hx hb dL_law_29 (by decide) ?_
    refine lv_iand hx hb dL_law_31 ?_
    refine law_sw X hl hi hI (and31 _) (fun w0 w1 w2 w3 kp tx tz rf fa fb M H locs hI => ?_)
    refine lv_iinc (v := zI (i + 5)) (lv' := [(3, .int (zI (i + 5))), (0, .ref b), (1, .ref (ob 0)), (2, .ref (qm 0))]) hx hb dL_law_1013 hl (k := 3) rfl ?_ (by decide) rfl (fun ls hl => ?_)
    · exact zI_add i 5
    refine lv_goto (tgt := 18) hx hb dL_law_1016 (by decide) ?_
    exact ih (i + 5) w0 w1 w2 w3 kp tx tz rf fa fb M H locs ls (by omega) (by omega) (by omega) (lv_sub hl [1, 2, 3, 0] rfl) hI
