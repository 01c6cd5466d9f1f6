/-! the law, call by call -/
set_option maxHeartbeats 4000000 in
set_option maxRecDepth 100000 in
theorem law_c8 {p : Program} {l : Launch} {e : Env} {s : State} {m : MethodId} {args : Array Value} {below : List Frame} {meth : Method} {c : Code} {dC : Nat → ClassId} {dI : Nat → Nat → Nat} {g : Nat → ClassId} {tt : Nat → Nat} {A : Nat → Prop} {b L : Nat} {xs : Nat → Int32} {Q : State → Prop} {ob a0 a1 a2 a3 q qm : Nat → Nat} {ls : Array Slot} {i : Int} {w0 w1 w2 w3 kp tx tz rf : Int → Int} {fa fb : Int} {M : Nat → Int → Int} {H : Heap} {locs : List Loc} (X : LX p s m c args (dC, dI) g tt A b L xs) (hl : lv_has ls 4 [(0, .ref b), (1, .ref (ob 0)), (2, .ref (qm 0)), (3, .int (zI i))]) (hi : 0 ≤ i ∧ i + 5 ≤ L) (hI : LI (dC, dI) g ob a0 a1 a2 a3 q qm A s.heap w0 w1 w2 w3 kp tx tz rf fa fb M H locs) (kk : ∀ (w0 w1 w2 w3 kp tx tz rf : Int → Int) (fa fb : Int) (M : Nat → Int → Int) (H : Heap) (locs : List Loc), LI (dC, dI) g ob a0 a1 a2 a3 q qm A s.heap w0 w1 w2 w3 kp tx tz rf fa fb M H locs → W p l e room_1 s m args below meth c H locs 54 775 Q (F0 m 1013 ls [])) : W p l e room_1 s m args below meth c H locs 54 775 Q (F0 m 348 ls []) := by
  obtain ⟨S, ⟨hK, hT, hA⟩, hX, hbl, hbA, hL⟩ := X
  obtain ⟨h, hP, hD, hS⟩ := hI
  have hx := S.1
  have hb := S.2.1
  have hts := S.2.2.2.2
  refine lv_aload_n hx hb dL_law_348 rfl (lv_at hl 1 rfl) ?_
  refine q_arg hx hb hX hbl hbA hS hl hi hL (j := 1) (by decide) dL_law_349 dL_law_350 dL_law_351 dL_law_352 dL_law_353 ?_
  refine q_arg hx hb hX hbl hbA hS hl hi hL (j := 2) (by decide) dL_law_354 dL_law_355 dL_law_356 dL_law_357 dL_law_358 ?_
  refine q_LVi (b := ob 0) (As := [.int (zI (xv xs i 1)), .int (zI (xv xs i 2))]) (rest := []) S hP hD hK hT hS hA (kX5_of l dC dI g tt _ ob a0 a1 a2 a3 q w0 w1 w2 w3 kp tx tz fa fb rf (xv xs i 1) (xv xs i 2) h.ok ⟨(xv_r xs i 1), (xv_r xs i 2)⟩) (cwV 2 hts gL_law_X5_of rfl rfl rfl (by decide +kernel) ⟨Nat.le_of_ble_eq_true rfl, Nat.le_of_ble_eq_true rfl⟩) 0 4 rfl rfl rfl rfl hl.1 rfl (Nat.le_of_ble_eq_true rfl) dL_law_359 ⟨Nat.le_of_ble_eq_true rfl, Nat.le_of_ble_eq_true rfl⟩ (fun H locs hP hD hS => ?_)
  refine lv_aload_n hx hb dL_law_362 rfl (lv_at hl 2 rfl) ?_
  refine q_arg hx hb hX hbl hbA hS hl hi hL (j := 1) (by decide) dL_law_363 dL_law_364 dL_law_365 dL_law_366 dL_law_367 ?_
  refine q_arg hx hb hX hbl hbA hS hl hi hL (j := 2) (by decide) dL_law_368 dL_law_369 dL_law_370 dL_law_371 dL_law_372 ?_
  refine q_LVi (b := qm 0) (As := [.int (zI (xv xs i 1)), .int (zI (xv xs i 2))]) (rest := [.int (zI (ca_of w0 (xv xs i 1) (xv xs i 2)))]) S hP hD hK hT hS hA (kX6_of l dC dI g tt _ qm M (xv xs i 1) (xv xs i 2) h.okM ⟨(xv_r xs i 1), (xv_r xs i 2)⟩) (cwV 2 hts gL_law_X6_of rfl rfl rfl (by decide +kernel) ⟨Nat.le_of_ble_eq_true rfl, Nat.le_of_ble_eq_true rfl⟩) 0 5 rfl rfl rfl rfl hl.1 rfl (Nat.le_of_ble_eq_true rfl) dL_law_373 ⟨Nat.le_of_ble_eq_true rfl, Nat.le_of_ble_eq_true rfl⟩ (fun H locs hP hD hS => ?_)
  rw [show ca_of w0 (xv xs i 1) (xv xs i 2) = ca_of (M 1) (xv xs i 1) (xv xs i 2) from hag_of h.ag (xv xs i 1) (xv xs i 2)]
  refine q_Leq (tgt := 1013) hx hb dL_law_376 (by decide) ?_
  exact kk _ _ _ _ _ _ _ _ _ _ _ _ _ ⟨R_of h (xv xs i 1) (xv xs i 2), hP, hD, hS⟩
set_option maxHeartbeats 4000000 in
set_option maxRecDepth 100000 in
theorem law_c9 {p : Program} {l : Launch} {e : Env} {s : State} {m : MethodId} {args : Array Value} {below : List Frame} {meth : Method} {c : Code} {dC : Nat → ClassId} {dI : Nat → Nat → Nat} {g : Nat → ClassId} {tt : Nat → Nat} {A : Nat → Prop} {b L : Nat} {xs : Nat → Int32} {Q : State → Prop} {ob a0 a1 a2 a3 q qm : Nat → Nat} {ls : Array Slot} {i : Int} {w0 w1 w2 w3 kp tx tz rf : Int → Int} {fa fb : Int} {M : Nat → Int → Int} {H : Heap} {locs : List Loc} (X : LX p s m c args (dC, dI) g tt A b L xs) (hl : lv_has ls 4 [(0, .ref b), (1, .ref (ob 0)), (2, .ref (qm 0)), (3, .int (zI i))]) (hi : 0 ≤ i ∧ i + 5 ≤ L) (hI : LI (dC, dI) g ob a0 a1 a2 a3 q qm A s.heap w0 w1 w2 w3 kp tx tz rf fa fb M H locs) (kk : ∀ (w0 w1 w2 w3 kp tx tz rf : Int → Int) (fa fb : Int) (M : Nat → Int → Int) (H : Heap) (locs : List Loc), LI (dC, dI) g ob a0 a1 a2 a3 q qm A s.heap w0 w1 w2 w3 kp tx tz rf fa fb M H locs → W p l e room_1 s m args below meth c H locs 54 775 Q (F0 m 1013 ls [])) : W p l e room_1 s m args below meth c H locs 54 775 Q (F0 m 381 ls []) := by
  obtain ⟨S, ⟨hK, hT, hA⟩, hX, hbl, hbA, hL⟩ := X
  obtain ⟨h, hP, hD, hS⟩ := hI
  have hx := S.1
  have hb := S.2.1
  have hts := S.2.2.2.2
  refine lv_aload_n hx hb dL_law_381 rfl (lv_at hl 1 rfl) ?_
  refine q_arg hx hb hX hbl hbA hS hl hi hL (j := 1) (by decide) dL_law_382 dL_law_383 dL_law_384 dL_law_385 dL_law_386 ?_
  refine q_arg hx hb hX hbl hbA hS hl hi hL (j := 2) (by decide) dL_law_387 dL_law_388 dL_law_389 dL_law_390 dL_law_391 ?_
  refine q_LVi (b := ob 0) (As := [.int (zI (xv xs i 1)), .int (zI (xv xs i 2))]) (rest := []) S hP hD hK hT hS hA (kX5_where l dC dI g tt _ ob a0 a1 a2 a3 q w0 w1 w2 w3 kp tx tz fa fb rf (xv xs i 1) (xv xs i 2) h.ok ⟨(xv_r xs i 1), (xv_r xs i 2)⟩) (cwV 2 hts gL_law_X5_where rfl rfl rfl (by decide +kernel) ⟨Nat.le_of_ble_eq_true rfl, Nat.le_of_ble_eq_true rfl⟩) 0 4 rfl rfl rfl rfl hl.1 rfl (Nat.le_of_ble_eq_true rfl) dL_law_392 ⟨Nat.le_of_ble_eq_true rfl, Nat.le_of_ble_eq_true rfl⟩ (fun H locs hP hD hS => ?_)
  refine lv_aload_n hx hb dL_law_395 rfl (lv_at hl 2 rfl) ?_
  refine q_arg hx hb hX hbl hbA hS hl hi hL (j := 1) (by decide) dL_law_396 dL_law_397 dL_law_398 dL_law_399 dL_law_400 ?_
  refine q_arg hx hb hX hbl hbA hS hl hi hL (j := 2) (by decide) dL_law_401 dL_law_402 dL_law_403 dL_law_404 dL_law_405 ?_
  refine q_LVi (b := qm 0) (As := [.int (zI (xv xs i 1)), .int (zI (xv xs i 2))]) (rest := [.int (zI (ca_where w0 (xv xs i 1) (xv xs i 2)))]) S hP hD hK hT hS hA (kX6_where l dC dI g tt _ qm M (xv xs i 1) (xv xs i 2) h.okM ⟨(xv_r xs i 1), (xv_r xs i 2)⟩) (cwV 2 hts gL_law_X6_where rfl rfl rfl (by decide +kernel) ⟨Nat.le_of_ble_eq_true rfl, Nat.le_of_ble_eq_true rfl⟩) 0 5 rfl rfl rfl rfl hl.1 rfl (Nat.le_of_ble_eq_true rfl) dL_law_406 ⟨Nat.le_of_ble_eq_true rfl, Nat.le_of_ble_eq_true rfl⟩ (fun H locs hP hD hS => ?_)
  rw [show ca_where w0 (xv xs i 1) (xv xs i 2) = ca_where (M 1) (xv xs i 1) (xv xs i 2) from hag_where h.ag (xv xs i 1) (xv xs i 2)]
  refine q_Leq (tgt := 1013) hx hb dL_law_409 (by decide) ?_
  exact kk _ _ _ _ _ _ _ _ _ _ _ _ _ ⟨R_where h (xv xs i 1) (xv xs i 2), hP, hD, hS⟩
set_option maxHeartbeats 4000000 in
set_option maxRecDepth 100000 in
theorem law_c10 {p : Program} {l : Launch} {e : Env} {s : State} {m : MethodId} {args : Array Value} {below : List Frame} {meth : Method} {c : Code} {dC : Nat → ClassId} {dI : Nat → Nat → Nat} {g : Nat → ClassId} {tt : Nat → Nat} {A : Nat → Prop} {b L : Nat} {xs : Nat → Int32} {Q : State → Prop} {ob a0 a1 a2 a3 q qm : Nat → Nat} {ls : Array Slot} {i : Int} {w0 w1 w2 w3 kp tx tz rf : Int → Int} {fa fb : Int} {M : Nat → Int → Int} {H : Heap} {locs : List Loc} (X : LX p s m c args (dC, dI) g tt A b L xs) (hl : lv_has ls 4 [(0, .ref b), (1, .ref (ob 0)), (2, .ref (qm 0)), (3, .int (zI i))]) (hi : 0 ≤ i ∧ i + 5 ≤ L) (hI : LI (dC, dI) g ob a0 a1 a2 a3 q qm A s.heap w0 w1 w2 w3 kp tx tz rf fa fb M H locs) (kk : ∀ (w0 w1 w2 w3 kp tx tz rf : Int → Int) (fa fb : Int) (M : Nat → Int → Int) (H : Heap) (locs : List Loc), LI (dC, dI) g ob a0 a1 a2 a3 q qm A s.heap w0 w1 w2 w3 kp tx tz rf fa fb M H locs → W p l e room_1 s m args below meth c H locs 54 775 Q (F0 m 1013 ls [])) : W p l e room_1 s m args below meth c H locs 54 775 Q (F0 m 414 ls []) := by
  obtain ⟨S, ⟨hK, hT, hA⟩, hX, hbl, hbA, hL⟩ := X
  obtain ⟨h, hP, hD, hS⟩ := hI
  have hx := S.1
  have hb := S.2.1
  have hts := S.2.2.2.2
  refine lv_aload_n hx hb dL_law_414 rfl (lv_at hl 1 rfl) ?_
  refine q_arg hx hb hX hbl hbA hS hl hi hL (j := 1) (by decide) dL_law_415 dL_law_416 dL_law_417 dL_law_418 dL_law_419 ?_
  refine q_arg hx hb hX hbl hbA hS hl hi hL (j := 2) (by decide) dL_law_420 dL_law_421 dL_law_422 dL_law_423 dL_law_424 ?_
  refine q_arg hx hb hX hbl hbA hS hl hi hL (j := 3) (by decide) dL_law_425 dL_law_426 dL_law_427 dL_law_428 dL_law_429 ?_
  refine q_LVi (b := ob 0) (As := [.int (zI (xv xs i 1)), .int (zI (xv xs i 2)), .int (zI (xv xs i 3))]) (rest := []) S hP hD hK hT hS hA (kX5_first l dC dI g tt _ ob a0 a1 a2 a3 q w0 w1 w2 w3 kp tx tz fa fb rf (xv xs i 1) (xv xs i 2) (xv xs i 3) h.ok ⟨(xv_r xs i 1), (xv_r xs i 2), (xv_r xs i 3)⟩) (cwV 3 hts gL_law_X5_first rfl rfl rfl (by decide +kernel) ⟨Nat.le_of_ble_eq_true rfl, Nat.le_of_ble_eq_true rfl⟩) 0 4 rfl rfl rfl rfl hl.1 rfl (Nat.le_of_ble_eq_true rfl) dL_law_430 ⟨Nat.le_of_ble_eq_true rfl, Nat.le_of_ble_eq_true rfl⟩ (fun H locs hP hD hS => ?_)
  refine lv_aload_n hx hb dL_law_433 rfl (lv_at hl 2 rfl) ?_
  refine q_arg hx hb hX hbl hbA hS hl hi hL (j := 1) (by decide) dL_law_434 dL_law_435 dL_law_436 dL_law_437 dL_law_438 ?_
  refine q_arg hx hb hX hbl hbA hS hl hi hL (j := 2) (by decide) dL_law_439 dL_law_440 dL_law_441 dL_law_442 dL_law_443 ?_
  refine q_arg hx hb hX hbl hbA hS hl hi hL (j := 3) (by decide) dL_law_444 dL_law_445 dL_law_446 dL_law_447 dL_law_448 ?_
  refine q_LVi (b := qm 0) (As := [.int (zI (xv xs i 1)), .int (zI (xv xs i 2)), .int (zI (xv xs i 3))]) (rest := [.int (zI (ca_first w0 (xv xs i 1) (xv xs i 2) (xv xs i 3)))]) S hP hD hK hT hS hA (kX6_first l dC dI g tt _ qm M (xv xs i 1) (xv xs i 2) (xv xs i 3) h.okM ⟨(xv_r xs i 1), (xv_r xs i 2), (xv_r xs i 3)⟩) (cwV 3 hts gL_law_X6_first rfl rfl rfl (by decide +kernel) ⟨Nat.le_of_ble_eq_true rfl, Nat.le_of_ble_eq_true rfl⟩) 0 5 rfl rfl rfl rfl hl.1 rfl (Nat.le_of_ble_eq_true rfl) dL_law_449 ⟨Nat.le_of_ble_eq_true rfl, Nat.le_of_ble_eq_true rfl⟩ (fun H locs hP hD hS => ?_)
  rw [show ca_first w0 (xv xs i 1) (xv xs i 2) (xv xs i 3) = ca_first (M 1) (xv xs i 1) (xv xs i 2) (xv xs i 3) from hag_first h.ag (xv xs i 1) (xv xs i 2) (xv xs i 3)]
  refine q_Leq (tgt := 1013) hx hb dL_law_452 (by decide) ?_
  exact kk _ _ _ _ _ _ _ _ _ _ _ _ _ ⟨R_first h (xv xs i 1) (xv xs i 2) (xv xs i 3), hP, hD, hS⟩
set_option maxHeartbeats 4000000 in
set_option maxRecDepth 100000 in
theorem law_c11 {p : Program} {l : Launch} {e : Env} {s : State} {m : MethodId} {args : Array Value} {below : List Frame} {meth : Method} {c : Code} {dC : Nat → ClassId} {dI : Nat → Nat → Nat} {g : Nat → ClassId} {tt : Nat → Nat} {A : Nat → Prop} {b L : Nat} {xs : Nat → Int32} {Q : State → Prop} {ob a0 a1 a2 a3 q qm : Nat → Nat} {ls : Array Slot} {i : Int} {w0 w1 w2 w3 kp tx tz rf : Int → Int} {fa fb : Int} {M : Nat → Int → Int} {H : Heap} {locs : List Loc} (X : LX p s m c args (dC, dI) g tt A b L xs) (hl : lv_has ls 4 [(0, .ref b), (1, .ref (ob 0)), (2, .ref (qm 0)), (3, .int (zI i))]) (hi : 0 ≤ i ∧ i + 5 ≤ L) (hI : LI (dC, dI) g ob a0 a1 a2 a3 q qm A s.heap w0 w1 w2 w3 kp tx tz rf fa fb M H locs) (kk : ∀ (w0 w1 w2 w3 kp tx tz rf : Int → Int) (fa fb : Int) (M : Nat → Int → Int) (H : Heap) (locs : List Loc), LI (dC, dI) g ob a0 a1 a2 a3 q qm A s.heap w0 w1 w2 w3 kp tx tz rf fa fb M H locs → W p l e room_1 s m args below meth c H locs 54 775 Q (F0 m 1013 ls [])) : W p l e room_1 s m args below meth c H locs 54 775 Q (F0 m 457 ls []) := by
  obtain ⟨S, ⟨hK, hT, hA⟩, hX, hbl, hbA, hL⟩ := X
  obtain ⟨h, hP, hD, hS⟩ := hI
  have hx := S.1
  have hb := S.2.1
  have hts := S.2.2.2.2
  refine lv_aload_n hx hb dL_law_457 rfl (lv_at hl 1 rfl) ?_
  refine q_arg hx hb hX hbl hbA hS hl hi hL (j := 1) (by decide) dL_law_458 dL_law_459 dL_law_460 dL_law_461 dL_law_462 ?_
  refine q_arg hx hb hX hbl hbA hS hl hi hL (j := 2) (by decide) dL_law_463 dL_law_464 dL_law_465 dL_law_466 dL_law_467 ?_
  refine q_LVi (b := ob 0) (As := [.int (zI (xv xs i 1)), .int (zI (xv xs i 2))]) (rest := []) S hP hD hK hT hS hA (kX5_often l dC dI g tt _ ob a0 a1 a2 a3 q w0 w1 w2 w3 kp tx tz fa fb rf (xv xs i 1) (xv xs i 2) h.ok ⟨(xv_r xs i 1), (xv_r xs i 2)⟩) (cwV 2 hts gL_law_X5_often rfl rfl rfl (by decide +kernel) ⟨Nat.le_of_ble_eq_true rfl, Nat.le_of_ble_eq_true rfl⟩) 0 4 rfl rfl rfl rfl hl.1 rfl (Nat.le_of_ble_eq_true rfl) dL_law_468 ⟨Nat.le_of_ble_eq_true rfl, Nat.le_of_ble_eq_true rfl⟩ (fun H locs hP hD hS => ?_)
  refine lv_aload_n hx hb dL_law_471 rfl (lv_at hl 2 rfl) ?_
  refine q_arg hx hb hX hbl hbA hS hl hi hL (j := 1) (by decide) dL_law_472 dL_law_473 dL_law_474 dL_law_475 dL_law_476 ?_
  refine q_arg hx hb hX hbl hbA hS hl hi hL (j := 2) (by decide) dL_law_477 dL_law_478 dL_law_479 dL_law_480 dL_law_481 ?_
  refine q_LVi (b := qm 0) (As := [.int (zI (xv xs i 1)), .int (zI (xv xs i 2))]) (rest := [.int (zI (ca_often w0 (xv xs i 1) (xv xs i 2)))]) S hP hD hK hT hS hA (kX6_often l dC dI g tt _ qm M (xv xs i 1) (xv xs i 2) h.okM ⟨(xv_r xs i 1), (xv_r xs i 2)⟩) (cwV 2 hts gL_law_X6_often rfl rfl rfl (by decide +kernel) ⟨Nat.le_of_ble_eq_true rfl, Nat.le_of_ble_eq_true rfl⟩) 0 5 rfl rfl rfl rfl hl.1 rfl (Nat.le_of_ble_eq_true rfl) dL_law_482 ⟨Nat.le_of_ble_eq_true rfl, Nat.le_of_ble_eq_true rfl⟩ (fun H locs hP hD hS => ?_)
  rw [show ca_often w0 (xv xs i 1) (xv xs i 2) = ca_often (M 1) (xv xs i 1) (xv xs i 2) from hag_often h.ag (xv xs i 1) (xv xs i 2)]
  refine q_Leq (tgt := 1013) hx hb dL_law_485 (by decide) ?_
  exact kk _ _ _ _ _ _ _ _ _ _ _ _ _ ⟨R_often h (xv xs i 1) (xv xs i 2), hP, hD, hS⟩
set_option maxHeartbeats 4000000 in
set_option maxRecDepth 100000 in
theorem law_c12 {p : Program} {l : Launch} {e : Env} {s : State} {m : MethodId} {args : Array Value} {below : List Frame} {meth : Method} {c : Code} {dC : Nat → ClassId} {dI : Nat → Nat → Nat} {g : Nat → ClassId} {tt : Nat → Nat} {A : Nat → Prop} {b L : Nat} {xs : Nat → Int32} {Q : State → Prop} {ob a0 a1 a2 a3 q qm : Nat → Nat} {ls : Array Slot} {i : Int} {w0 w1 w2 w3 kp tx tz rf : Int → Int} {fa fb : Int} {M : Nat → Int → Int} {H : Heap} {locs : List Loc} (X : LX p s m c args (dC, dI) g tt A b L xs) (hl : lv_has ls 4 [(0, .ref b), (1, .ref (ob 0)), (2, .ref (qm 0)), (3, .int (zI i))]) (hi : 0 ≤ i ∧ i + 5 ≤ L) (hI : LI (dC, dI) g ob a0 a1 a2 a3 q qm A s.heap w0 w1 w2 w3 kp tx tz rf fa fb M H locs) (kk : ∀ (w0 w1 w2 w3 kp tx tz rf : Int → Int) (fa fb : Int) (M : Nat → Int → Int) (H : Heap) (locs : List Loc), LI (dC, dI) g ob a0 a1 a2 a3 q qm A s.heap w0 w1 w2 w3 kp tx tz rf fa fb M H locs → W p l e room_1 s m args below meth c H locs 54 775 Q (F0 m 1013 ls [])) : W p l e room_1 s m args below meth c H locs 54 775 Q (F0 m 490 ls []) := by
  obtain ⟨S, ⟨hK, hT, hA⟩, hX, hbl, hbA, hL⟩ := X
  obtain ⟨h, hP, hD, hS⟩ := hI
  have hx := S.1
  have hb := S.2.1
  have hts := S.2.2.2.2
  refine lv_aload_n hx hb dL_law_490 rfl (lv_at hl 1 rfl) ?_
  refine q_arg hx hb hX hbl hbA hS hl hi hL (j := 1) (by decide) dL_law_491 dL_law_492 dL_law_493 dL_law_494 dL_law_495 ?_
  refine q_arg hx hb hX hbl hbA hS hl hi hL (j := 2) (by decide) dL_law_496 dL_law_497 dL_law_498 dL_law_499 dL_law_500 ?_
  refine q_LVi (b := ob 0) (As := [.int (zI (xv xs i 1)), .int (zI (xv xs i 2))]) (rest := []) S hP hD hK hT hS hA (kX5_own l dC dI g tt _ ob a0 a1 a2 a3 q w0 w1 w2 w3 kp tx tz fa fb rf (xv xs i 1) (xv xs i 2) h.ok ⟨(xv_r xs i 1), (xv_r xs i 2)⟩) (cwV 2 hts gL_law_X5_own rfl rfl rfl (by decide +kernel) ⟨Nat.le_of_ble_eq_true rfl, Nat.le_of_ble_eq_true rfl⟩) 0 4 rfl rfl rfl rfl hl.1 rfl (Nat.le_of_ble_eq_true rfl) dL_law_501 ⟨Nat.le_of_ble_eq_true rfl, Nat.le_of_ble_eq_true rfl⟩ (fun H locs hP hD hS => ?_)
  refine lv_aload_n hx hb dL_law_504 rfl (lv_at hl 2 rfl) ?_
  refine q_arg hx hb hX hbl hbA hS hl hi hL (j := 1) (by decide) dL_law_505 dL_law_506 dL_law_507 dL_law_508 dL_law_509 ?_
  refine q_arg hx hb hX hbl hbA hS hl hi hL (j := 2) (by decide) dL_law_510 dL_law_511 dL_law_512 dL_law_513 dL_law_514 ?_
  refine q_LVi (b := qm 0) (As := [.int (zI (xv xs i 1)), .int (zI (xv xs i 2))]) (rest := [.int (zI (ca_own w0 (xv xs i 1) (xv xs i 2)))]) S hP hD hK hT hS hA (kX6_own l dC dI g tt _ qm M (xv xs i 1) (xv xs i 2) h.okM ⟨(xv_r xs i 1), (xv_r xs i 2)⟩) (cwV 2 hts gL_law_X6_own rfl rfl rfl (by decide +kernel) ⟨Nat.le_of_ble_eq_true rfl, Nat.le_of_ble_eq_true rfl⟩) 0 5 rfl rfl rfl rfl hl.1 rfl (Nat.le_of_ble_eq_true rfl) dL_law_515 ⟨Nat.le_of_ble_eq_true rfl, Nat.le_of_ble_eq_true rfl⟩ (fun H locs hP hD hS => ?_)
  rw [show ca_own w0 (xv xs i 1) (xv xs i 2) = ca_own (M 1) (xv xs i 1) (xv xs i 2) from hag_own h.ag (xv xs i 1) (xv xs i 2)]
  refine q_Leq (tgt := 1013) hx hb dL_law_518 (by decide) ?_
  exact kk _ _ _ _ _ _ _ _ _ _ _ _ _ ⟨R_own h (xv xs i 1) (xv xs i 2), hP, hD, hS⟩
set_option maxHeartbeats 4000000 in
set_option maxRecDepth 100000 in
theorem law_c13 {p : Program} {l : Launch} {e : Env} {s : State} {m : MethodId} {args : Array Value} {below : List Frame} {meth : Method} {c : Code} {dC : Nat → ClassId} {dI : Nat → Nat → Nat} {g : Nat → ClassId} {tt : Nat → Nat} {A : Nat → Prop} {b L : Nat} {xs : Nat → Int32} {Q : State → Prop} {ob a0 a1 a2 a3 q qm : Nat → Nat} {ls : Array Slot} {i : Int} {w0 w1 w2 w3 kp tx tz rf : Int → Int} {fa fb : Int} {M : Nat → Int → Int} {H : Heap} {locs : List Loc} (X : LX p s m c args (dC, dI) g tt A b L xs) (hl : lv_has ls 4 [(0, .ref b), (1, .ref (ob 0)), (2, .ref (qm 0)), (3, .int (zI i))]) (hi : 0 ≤ i ∧ i + 5 ≤ L) (hI : LI (dC, dI) g ob a0 a1 a2 a3 q qm A s.heap w0 w1 w2 w3 kp tx tz rf fa fb M H locs) (kk : ∀ (w0 w1 w2 w3 kp tx tz rf : Int → Int) (fa fb : Int) (M : Nat → Int → Int) (H : Heap) (locs : List Loc), LI (dC, dI) g ob a0 a1 a2 a3 q qm A s.heap w0 w1 w2 w3 kp tx tz rf fa fb M H locs → W p l e room_1 s m args below meth c H locs 54 775 Q (F0 m 1013 ls [])) : W p l e room_1 s m args below meth c H locs 54 775 Q (F0 m 523 ls []) := by
  obtain ⟨S, ⟨hK, hT, hA⟩, hX, hbl, hbA, hL⟩ := X
  obtain ⟨h, hP, hD, hS⟩ := hI
  have hx := S.1
  have hb := S.2.1
  have hts := S.2.2.2.2
  refine lv_aload_n hx hb dL_law_523 rfl (lv_at hl 1 rfl) ?_
  refine q_arg hx hb hX hbl hbA hS hl hi hL (j := 1) (by decide) dL_law_524 dL_law_525 dL_law_526 dL_law_527 dL_law_528 ?_
  refine q_arg hx hb hX hbl hbA hS hl hi hL (j := 2) (by decide) dL_law_529 dL_law_530 dL_law_531 dL_law_532 dL_law_533 ?_
  refine q_arg hx hb hX hbl hbA hS hl hi hL (j := 3) (by decide) dL_law_534 dL_law_535 dL_law_536 dL_law_537 dL_law_538 ?_
  refine q_arg hx hb hX hbl hbA hS hl hi hL (j := 4) (by decide) dL_law_539 dL_law_540 dL_law_541 dL_law_542 dL_law_543 ?_
  refine q_LVi (b := ob 0) (As := [.int (zI (xv xs i 1)), .int (zI (xv xs i 2)), .int (zI (xv xs i 3)), .int (zI (xv xs i 4))]) (rest := []) S hP hD hK hT hS hA (kX5_ride l dC dI g tt _ ob a0 a1 a2 a3 q w0 w1 w2 w3 kp tx tz fa fb rf (xv xs i 1) (xv xs i 2) (xv xs i 3) (xv xs i 4) h.ok ⟨(xv_r xs i 1), (xv_r xs i 2), (xv_r xs i 3), (xv_r xs i 4)⟩) (cwV 4 hts gL_law_X5_ride rfl rfl rfl (by decide +kernel) ⟨Nat.le_of_ble_eq_true rfl, Nat.le_of_ble_eq_true rfl⟩) 0 4 rfl rfl rfl rfl hl.1 rfl (Nat.le_of_ble_eq_true rfl) dL_law_544 ⟨Nat.le_of_ble_eq_true rfl, Nat.le_of_ble_eq_true rfl⟩ (fun H locs hP hD hS => ?_)
  refine lv_aload_n hx hb dL_law_547 rfl (lv_at hl 2 rfl) ?_
  refine q_arg hx hb hX hbl hbA hS hl hi hL (j := 1) (by decide) dL_law_548 dL_law_549 dL_law_550 dL_law_551 dL_law_552 ?_
  refine q_arg hx hb hX hbl hbA hS hl hi hL (j := 2) (by decide) dL_law_553 dL_law_554 dL_law_555 dL_law_556 dL_law_557 ?_
  refine q_arg hx hb hX hbl hbA hS hl hi hL (j := 3) (by decide) dL_law_558 dL_law_559 dL_law_560 dL_law_561 dL_law_562 ?_
  refine q_arg hx hb hX hbl hbA hS hl hi hL (j := 4) (by decide) dL_law_563 dL_law_564 dL_law_565 dL_law_566 dL_law_567 ?_
  refine q_LVi (b := qm 0) (As := [.int (zI (xv xs i 1)), .int (zI (xv xs i 2)), .int (zI (xv xs i 3)), .int (zI (xv xs i 4))]) (rest := [.int (zI (ca_ride w0 (xv xs i 1) (xv xs i 2) (xv xs i 3) (xv xs i 4)))]) S hP hD hK hT hS hA (kX6_ride l dC dI g tt _ qm M (xv xs i 1) (xv xs i 2) (xv xs i 3) (xv xs i 4) h.okM ⟨(xv_r xs i 1), (xv_r xs i 2), (xv_r xs i 3), (xv_r xs i 4)⟩) (cwV 4 hts gL_law_X6_ride rfl rfl rfl (by decide +kernel) ⟨Nat.le_of_ble_eq_true rfl, Nat.le_of_ble_eq_true rfl⟩) 0 5 rfl rfl rfl rfl hl.1 rfl (Nat.le_of_ble_eq_true rfl) dL_law_568 ⟨Nat.le_of_ble_eq_true rfl, Nat.le_of_ble_eq_true rfl⟩ (fun H locs hP hD hS => ?_)
  rw [show ca_ride w0 (xv xs i 1) (xv xs i 2) (xv xs i 3) (xv xs i 4) = ca_ride (M 1) (xv xs i 1) (xv xs i 2) (xv xs i 3) (xv xs i 4) from hag_ride h.ag (xv xs i 1) (xv xs i 2) (xv xs i 3) (xv xs i 4)]
  refine q_Leq (tgt := 1013) hx hb dL_law_571 (by decide) ?_
  exact kk _ _ _ _ _ _ _ _ _ _ _ _ _ ⟨R_ride h (xv xs i 1) (xv xs i 2) (xv xs i 3) (xv xs i 4), hP, hD, hS⟩
set_option maxHeartbeats 4000000 in
set_option maxRecDepth 100000 in
theorem law_c14 {p : Program} {l : Launch} {e : Env} {s : State} {m : MethodId} {args : Array Value} {below : List Frame} {meth : Method} {c : Code} {dC : Nat → ClassId} {dI : Nat → Nat → Nat} {g : Nat → ClassId} {tt : Nat → Nat} {A : Nat → Prop} {b L : Nat} {xs : Nat → Int32} {Q : State → Prop} {ob a0 a1 a2 a3 q qm : Nat → Nat} {ls : Array Slot} {i : Int} {w0 w1 w2 w3 kp tx tz rf : Int → Int} {fa fb : Int} {M : Nat → Int → Int} {H : Heap} {locs : List Loc} (X : LX p s m c args (dC, dI) g tt A b L xs) (hl : lv_has ls 4 [(0, .ref b), (1, .ref (ob 0)), (2, .ref (qm 0)), (3, .int (zI i))]) (hi : 0 ≤ i ∧ i + 5 ≤ L) (hI : LI (dC, dI) g ob a0 a1 a2 a3 q qm A s.heap w0 w1 w2 w3 kp tx tz rf fa fb M H locs) (kk : ∀ (w0 w1 w2 w3 kp tx tz rf : Int → Int) (fa fb : Int) (M : Nat → Int → Int) (H : Heap) (locs : List Loc), LI (dC, dI) g ob a0 a1 a2 a3 q qm A s.heap w0 w1 w2 w3 kp tx tz rf fa fb M H locs → W p l e room_1 s m args below meth c H locs 54 775 Q (F0 m 1013 ls [])) : W p l e room_1 s m args below meth c H locs 54 775 Q (F0 m 576 ls []) := by
  obtain ⟨S, ⟨hK, hT, hA⟩, hX, hbl, hbA, hL⟩ := X
  obtain ⟨h, hP, hD, hS⟩ := hI
  have hx := S.1
  have hb := S.2.1
  have hts := S.2.2.2.2
  refine lv_aload_n hx hb dL_law_576 rfl (lv_at hl 1 rfl) ?_
  refine q_arg hx hb hX hbl hbA hS hl hi hL (j := 1) (by decide) dL_law_577 dL_law_578 dL_law_579 dL_law_580 dL_law_581 ?_
  refine q_arg hx hb hX hbl hbA hS hl hi hL (j := 2) (by decide) dL_law_582 dL_law_583 dL_law_584 dL_law_585 dL_law_586 ?_
  refine q_arg hx hb hX hbl hbA hS hl hi hL (j := 3) (by decide) dL_law_587 dL_law_588 dL_law_589 dL_law_590 dL_law_591 ?_
  refine q_arg hx hb hX hbl hbA hS hl hi hL (j := 4) (by decide) dL_law_592 dL_law_593 dL_law_594 dL_law_595 dL_law_596 ?_
  refine q_LVi (b := ob 0) (As := [.int (zI (xv xs i 1)), .int (zI (xv xs i 2)), .int (zI (xv xs i 3)), .int (zI (xv xs i 4))]) (rest := []) S hP hD hK hT hS hA (kX5_walk l dC dI g tt _ ob a0 a1 a2 a3 q w0 w1 w2 w3 kp tx tz fa fb rf (xv xs i 1) (xv xs i 2) (xv xs i 3) (xv xs i 4) h.ok ⟨(xv_r xs i 1), (xv_r xs i 2), (xv_r xs i 3), (xv_r xs i 4)⟩) (cwV 4 hts gL_law_X5_walk rfl rfl rfl (by decide +kernel) ⟨Nat.le_of_ble_eq_true rfl, Nat.le_of_ble_eq_true rfl⟩) 0 4 rfl rfl rfl rfl hl.1 rfl (Nat.le_of_ble_eq_true rfl) dL_law_597 ⟨Nat.le_of_ble_eq_true rfl, Nat.le_of_ble_eq_true rfl⟩ (fun H locs hP hD hS => ?_)
  refine lv_aload_n hx hb dL_law_600 rfl (lv_at hl 2 rfl) ?_
  refine q_arg hx hb hX hbl hbA hS hl hi hL (j := 1) (by decide) dL_law_601 dL_law_602 dL_law_603 dL_law_604 dL_law_605 ?_
  refine q_arg hx hb hX hbl hbA hS hl hi hL (j := 2) (by decide) dL_law_606 dL_law_607 dL_law_608 dL_law_609 dL_law_610 ?_
  refine q_arg hx hb hX hbl hbA hS hl hi hL (j := 3) (by decide) dL_law_611 dL_law_612 dL_law_613 dL_law_614 dL_law_615 ?_
  refine q_arg hx hb hX hbl hbA hS hl hi hL (j := 4) (by decide) dL_law_616 dL_law_617 dL_law_618 dL_law_619 dL_law_620 ?_
  refine q_LVi (b := qm 0) (As := [.int (zI (xv xs i 1)), .int (zI (xv xs i 2)), .int (zI (xv xs i 3)), .int (zI (xv xs i 4))]) (rest := [.int (zI (ca_walk w0 (xv xs i 1) (xv xs i 2) (xv xs i 3) (xv xs i 4)))]) S hP hD hK hT hS hA (kX6_walk l dC dI g tt _ qm M (xv xs i 1) (xv xs i 2) (xv xs i 3) (xv xs i 4) h.okM ⟨(xv_r xs i 1), (xv_r xs i 2), (xv_r xs i 3), (xv_r xs i 4)⟩) (cwV 4 hts gL_law_X6_walk rfl rfl rfl (by decide +kernel) ⟨Nat.le_of_ble_eq_true rfl, Nat.le_of_ble_eq_true rfl⟩) 0 5 rfl rfl rfl rfl hl.1 rfl (Nat.le_of_ble_eq_true rfl) dL_law_621 ⟨Nat.le_of_ble_eq_true rfl, Nat.le_of_ble_eq_true rfl⟩ (fun H locs hP hD hS => ?_)
  rw [show ca_walk w0 (xv xs i 1) (xv xs i 2) (xv xs i 3) (xv xs i 4) = ma_walk (M 1) (xv xs i 1) (xv xs i 2) (xv xs i 3) (xv xs i 4) from A_walk h (xv xs i 1) (xv xs i 2) (xv xs i 3) (xv xs i 4)]
  refine q_Leq (tgt := 1013) hx hb dL_law_624 (by decide) ?_
  exact kk _ _ _ _ _ _ _ _ _ _ _ _ _ ⟨R_walk h (xv xs i 1) (xv xs i 2) (xv xs i 3) (xv xs i 4), hP, hD, hS⟩
