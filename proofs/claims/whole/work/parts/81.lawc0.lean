/-! the law, call by call -/
set_option maxHeartbeats 4000000 in
set_option maxRecDepth 100000 in
theorem law_c0 {p : Program} {l : Launch} {e : Env} {s : State} {m : MethodId} {args : Array Value} {below : List Frame} {meth : Method} {c : Code} {dC : Nat → ClassId} {dI : Nat → Nat → Nat} {g : Nat → ClassId} {tt : Nat → Nat} {A : Nat → Prop} {b L : Nat} {xs : Nat → Int32} {Q : State → Prop} {ob a0 a1 a2 a3 q qm : Nat → Nat} {ls : Array Slot} {i : Int} {w0 w1 w2 w3 kp tx tz rf : Int → Int} {fa fb : Int} {M : Nat → Int → Int} {H : Heap} {locs : List Loc} (X : LX p s m c args (dC, dI) g tt A b L xs) (hl : lv_has ls 4 [(0, .ref b), (1, .ref (ob 0)), (2, .ref (qm 0)), (3, .int (zI i))]) (hi : 0 ≤ i ∧ i + 5 ≤ L) (hI : LI (dC, dI) g ob a0 a1 a2 a3 q qm A s.heap w0 w1 w2 w3 kp tx tz rf fa fb M H locs) (kk : ∀ (w0 w1 w2 w3 kp tx tz rf : Int → Int) (fa fb : Int) (M : Nat → Int → Int) (H : Heap) (locs : List Loc), LI (dC, dI) g ob a0 a1 a2 a3 q qm A s.heap w0 w1 w2 w3 kp tx tz rf fa fb M H locs → W p l e room_1 s m args below meth c H locs 54 775 Q (F0 m 1013 ls [])) : W p l e room_1 s m args below meth c H locs 54 775 Q (F0 m 164 ls []) := by
  obtain ⟨S, ⟨hK, hT, hA⟩, hX, hbl, hbA, hL⟩ := X
  obtain ⟨h, hP, hD, hS⟩ := hI
  have hx := S.1
  have hb := S.2.1
  have hts := S.2.2.2.2
  refine lv_aload_n hx hb dL_law_164 rfl (lv_at hl 1 rfl) ?_
  refine q_arg hx hb hX hbl hbA hS hl hi hL (j := 1) (by decide) dL_law_165 dL_law_166 dL_law_167 dL_law_168 dL_law_169 ?_
  refine q_LVi (b := ob 0) (As := [.int (zI (xv xs i 1))]) (rest := []) S hP hD hK hT hS hA (kX5_house l dC dI g tt _ ob a0 a1 a2 a3 q w0 w1 w2 w3 kp tx tz fa fb rf (xv xs i 1) (xv_r xs i 1)) (cwV 1 hts gL_law_X5_house rfl rfl rfl (by decide +kernel) ⟨Nat.le_of_ble_eq_true rfl, Nat.le_of_ble_eq_true rfl⟩) 0 4 rfl rfl rfl rfl hl.1 rfl (Nat.le_of_ble_eq_true rfl) dL_law_170 ⟨Nat.le_of_ble_eq_true rfl, Nat.le_of_ble_eq_true rfl⟩ (fun H locs hP hD hS => ?_)
  refine lv_aload_n hx hb dL_law_173 rfl (lv_at hl 2 rfl) ?_
  refine q_arg hx hb hX hbl hbA hS hl hi hL (j := 1) (by decide) dL_law_174 dL_law_175 dL_law_176 dL_law_177 dL_law_178 ?_
  refine q_LVi (b := qm 0) (As := [.int (zI (xv xs i 1))]) (rest := [.int (zI (ca_house w0 (xv xs i 1)))]) S hP hD hK hT hS hA (kX6_house l dC dI g tt _ qm M (xv xs i 1) (xv_r xs i 1)) (cwV 1 hts gL_law_X6_house rfl rfl rfl (by decide +kernel) ⟨Nat.le_of_ble_eq_true rfl, Nat.le_of_ble_eq_true rfl⟩) 0 5 rfl rfl rfl rfl hl.1 rfl (Nat.le_of_ble_eq_true rfl) dL_law_179 ⟨Nat.le_of_ble_eq_true rfl, Nat.le_of_ble_eq_true rfl⟩ (fun H locs hP hD hS => ?_)
  rw [show ca_house w0 (xv xs i 1) = ca_house (M 1) (xv xs i 1) from hag_house h.ag (xv xs i 1)]
  refine q_Leq (tgt := 1013) hx hb dL_law_182 (by decide) ?_
  exact kk _ _ _ _ _ _ _ _ _ _ _ _ _ ⟨R_house h (xv xs i 1), hP, hD, hS⟩
set_option maxHeartbeats 4000000 in
set_option maxRecDepth 100000 in
theorem law_c1 {p : Program} {l : Launch} {e : Env} {s : State} {m : MethodId} {args : Array Value} {below : List Frame} {meth : Method} {c : Code} {dC : Nat → ClassId} {dI : Nat → Nat → Nat} {g : Nat → ClassId} {tt : Nat → Nat} {A : Nat → Prop} {b L : Nat} {xs : Nat → Int32} {Q : State → Prop} {ob a0 a1 a2 a3 q qm : Nat → Nat} {ls : Array Slot} {i : Int} {w0 w1 w2 w3 kp tx tz rf : Int → Int} {fa fb : Int} {M : Nat → Int → Int} {H : Heap} {locs : List Loc} (X : LX p s m c args (dC, dI) g tt A b L xs) (hl : lv_has ls 4 [(0, .ref b), (1, .ref (ob 0)), (2, .ref (qm 0)), (3, .int (zI i))]) (hi : 0 ≤ i ∧ i + 5 ≤ L) (hI : LI (dC, dI) g ob a0 a1 a2 a3 q qm A s.heap w0 w1 w2 w3 kp tx tz rf fa fb M H locs) (kk : ∀ (w0 w1 w2 w3 kp tx tz rf : Int → Int) (fa fb : Int) (M : Nat → Int → Int) (H : Heap) (locs : List Loc), LI (dC, dI) g ob a0 a1 a2 a3 q qm A s.heap w0 w1 w2 w3 kp tx tz rf fa fb M H locs → W p l e room_1 s m args below meth c H locs 54 775 Q (F0 m 1013 ls [])) : W p l e room_1 s m args below meth c H locs 54 775 Q (F0 m 187 ls []) := by
  obtain ⟨S, ⟨hK, hT, hA⟩, hX, hbl, hbA, hL⟩ := X
  obtain ⟨h, hP, hD, hS⟩ := hI
  have hx := S.1
  have hb := S.2.1
  have hts := S.2.2.2.2
  refine lv_aload_n hx hb dL_law_187 rfl (lv_at hl 1 rfl) ?_
  refine q_arg hx hb hX hbl hbA hS hl hi hL (j := 1) (by decide) dL_law_188 dL_law_189 dL_law_190 dL_law_191 dL_law_192 ?_
  refine q_arg hx hb hX hbl hbA hS hl hi hL (j := 2) (by decide) dL_law_193 dL_law_194 dL_law_195 dL_law_196 dL_law_197 ?_
  refine q_LVi (b := ob 0) (As := [.int (zI (xv xs i 1)), .int (zI (xv xs i 2))]) (rest := []) S hP hD hK hT hS hA (kX5_lift l dC dI g tt _ ob a0 a1 a2 a3 q w0 w1 w2 w3 kp tx tz fa fb rf (xv xs i 1) (xv xs i 2) h.ok ⟨(xv_r xs i 1), (xv_r xs i 2)⟩) (cwV 2 hts gL_law_X5_lift rfl rfl rfl (by decide +kernel) ⟨Nat.le_of_ble_eq_true rfl, Nat.le_of_ble_eq_true rfl⟩) 0 4 rfl rfl rfl rfl hl.1 rfl (Nat.le_of_ble_eq_true rfl) dL_law_198 ⟨Nat.le_of_ble_eq_true rfl, Nat.le_of_ble_eq_true rfl⟩ (fun H locs hP hD hS => ?_)
  refine lv_aload_n hx hb dL_law_201 rfl (lv_at hl 2 rfl) ?_
  refine q_arg hx hb hX hbl hbA hS hl hi hL (j := 1) (by decide) dL_law_202 dL_law_203 dL_law_204 dL_law_205 dL_law_206 ?_
  refine q_arg hx hb hX hbl hbA hS hl hi hL (j := 2) (by decide) dL_law_207 dL_law_208 dL_law_209 dL_law_210 dL_law_211 ?_
  refine q_LVi (b := qm 0) (As := [.int (zI (xv xs i 1)), .int (zI (xv xs i 2))]) (rest := [.int (zI (ca_lift w0 (xv xs i 1) (xv xs i 2)))]) S hP hD hK hT hS hA (kX6_lift l dC dI g tt _ qm M (xv xs i 1) (xv xs i 2) h.okM ⟨(xv_r xs i 1), (xv_r xs i 2)⟩) (cwV 2 hts gL_law_X6_lift rfl rfl rfl (by decide +kernel) ⟨Nat.le_of_ble_eq_true rfl, Nat.le_of_ble_eq_true rfl⟩) 0 5 rfl rfl rfl rfl hl.1 rfl (Nat.le_of_ble_eq_true rfl) dL_law_212 ⟨Nat.le_of_ble_eq_true rfl, Nat.le_of_ble_eq_true rfl⟩ (fun H locs hP hD hS => ?_)
  rw [show ca_lift w0 (xv xs i 1) (xv xs i 2) = ca_lift (M 1) (xv xs i 1) (xv xs i 2) from hag_lift h.ag (xv xs i 1) (xv xs i 2)]
  refine q_Leq (tgt := 1013) hx hb dL_law_215 (by decide) ?_
  exact kk _ _ _ _ _ _ _ _ _ _ _ _ _ ⟨R_lift h (xv xs i 1) (xv xs i 2), hP, hD, hS⟩
set_option maxHeartbeats 4000000 in
set_option maxRecDepth 100000 in
theorem law_c2 {p : Program} {l : Launch} {e : Env} {s : State} {m : MethodId} {args : Array Value} {below : List Frame} {meth : Method} {c : Code} {dC : Nat → ClassId} {dI : Nat → Nat → Nat} {g : Nat → ClassId} {tt : Nat → Nat} {A : Nat → Prop} {b L : Nat} {xs : Nat → Int32} {Q : State → Prop} {ob a0 a1 a2 a3 q qm : Nat → Nat} {ls : Array Slot} {i : Int} {w0 w1 w2 w3 kp tx tz rf : Int → Int} {fa fb : Int} {M : Nat → Int → Int} {H : Heap} {locs : List Loc} (X : LX p s m c args (dC, dI) g tt A b L xs) (hl : lv_has ls 4 [(0, .ref b), (1, .ref (ob 0)), (2, .ref (qm 0)), (3, .int (zI i))]) (hi : 0 ≤ i ∧ i + 5 ≤ L) (hI : LI (dC, dI) g ob a0 a1 a2 a3 q qm A s.heap w0 w1 w2 w3 kp tx tz rf fa fb M H locs) (kk : ∀ (w0 w1 w2 w3 kp tx tz rf : Int → Int) (fa fb : Int) (M : Nat → Int → Int) (H : Heap) (locs : List Loc), LI (dC, dI) g ob a0 a1 a2 a3 q qm A s.heap w0 w1 w2 w3 kp tx tz rf fa fb M H locs → W p l e room_1 s m args below meth c H locs 54 775 Q (F0 m 1013 ls [])) : W p l e room_1 s m args below meth c H locs 54 775 Q (F0 m 220 ls []) := by
  obtain ⟨S, ⟨hK, hT, hA⟩, hX, hbl, hbA, hL⟩ := X
  obtain ⟨h, hP, hD, hS⟩ := hI
  have hx := S.1
  have hb := S.2.1
  have hts := S.2.2.2.2
  refine lv_aload_n hx hb dL_law_220 rfl (lv_at hl 1 rfl) ?_
  refine q_arg hx hb hX hbl hbA hS hl hi hL (j := 1) (by decide) dL_law_221 dL_law_222 dL_law_223 dL_law_224 dL_law_225 ?_
  refine q_arg hx hb hX hbl hbA hS hl hi hL (j := 2) (by decide) dL_law_226 dL_law_227 dL_law_228 dL_law_229 dL_law_230 ?_
  refine q_arg hx hb hX hbl hbA hS hl hi hL (j := 3) (by decide) dL_law_231 dL_law_232 dL_law_233 dL_law_234 dL_law_235 ?_
  refine q_LVi (b := ob 0) (As := [.int (zI (xv xs i 1)), .int (zI (xv xs i 2)), .int (zI (xv xs i 3))]) (rest := []) S hP hD hK hT hS hA (kX5_line l dC dI g tt _ ob a0 a1 a2 a3 q w0 w1 w2 w3 kp tx tz fa fb rf (xv xs i 1) (xv xs i 2) (xv xs i 3) ⟨(xv_r xs i 1), (xv_r xs i 2), (xv_r xs i 3)⟩) (cwV 3 hts gL_law_X5_line rfl rfl rfl (by decide +kernel) ⟨Nat.le_of_ble_eq_true rfl, Nat.le_of_ble_eq_true rfl⟩) 0 4 rfl rfl rfl rfl hl.1 rfl (Nat.le_of_ble_eq_true rfl) dL_law_236 ⟨Nat.le_of_ble_eq_true rfl, Nat.le_of_ble_eq_true rfl⟩ (fun H locs hP hD hS => ?_)
  refine lv_aload_n hx hb dL_law_239 rfl (lv_at hl 2 rfl) ?_
  refine q_arg hx hb hX hbl hbA hS hl hi hL (j := 1) (by decide) dL_law_240 dL_law_241 dL_law_242 dL_law_243 dL_law_244 ?_
  refine q_arg hx hb hX hbl hbA hS hl hi hL (j := 2) (by decide) dL_law_245 dL_law_246 dL_law_247 dL_law_248 dL_law_249 ?_
  refine q_arg hx hb hX hbl hbA hS hl hi hL (j := 3) (by decide) dL_law_250 dL_law_251 dL_law_252 dL_law_253 dL_law_254 ?_
  refine q_LVi (b := qm 0) (As := [.int (zI (xv xs i 1)), .int (zI (xv xs i 2)), .int (zI (xv xs i 3))]) (rest := [.int (zI (ca_line w0 (xv xs i 1) (xv xs i 2) (xv xs i 3)))]) S hP hD hK hT hS hA (kX6_line l dC dI g tt _ qm M (xv xs i 1) (xv xs i 2) (xv xs i 3) ⟨(xv_r xs i 1), (xv_r xs i 2), (xv_r xs i 3)⟩) (cwV 3 hts gL_law_X6_line rfl rfl rfl (by decide +kernel) ⟨Nat.le_of_ble_eq_true rfl, Nat.le_of_ble_eq_true rfl⟩) 0 5 rfl rfl rfl rfl hl.1 rfl (Nat.le_of_ble_eq_true rfl) dL_law_255 ⟨Nat.le_of_ble_eq_true rfl, Nat.le_of_ble_eq_true rfl⟩ (fun H locs hP hD hS => ?_)
  rw [show ca_line w0 (xv xs i 1) (xv xs i 2) (xv xs i 3) = ca_line (M 1) (xv xs i 1) (xv xs i 2) (xv xs i 3) from hag_line h.ag (xv xs i 1) (xv xs i 2) (xv xs i 3)]
  refine q_Leq (tgt := 1013) hx hb dL_law_258 (by decide) ?_
  exact kk _ _ _ _ _ _ _ _ _ _ _ _ _ ⟨R_line h (xv xs i 1) (xv xs i 2) (xv xs i 3), hP, hD, hS⟩
set_option maxHeartbeats 4000000 in
set_option maxRecDepth 100000 in
theorem law_c3 {p : Program} {l : Launch} {e : Env} {s : State} {m : MethodId} {args : Array Value} {below : List Frame} {meth : Method} {c : Code} {dC : Nat → ClassId} {dI : Nat → Nat → Nat} {g : Nat → ClassId} {tt : Nat → Nat} {A : Nat → Prop} {b L : Nat} {xs : Nat → Int32} {Q : State → Prop} {ob a0 a1 a2 a3 q qm : Nat → Nat} {ls : Array Slot} {i : Int} {w0 w1 w2 w3 kp tx tz rf : Int → Int} {fa fb : Int} {M : Nat → Int → Int} {H : Heap} {locs : List Loc} (X : LX p s m c args (dC, dI) g tt A b L xs) (hl : lv_has ls 4 [(0, .ref b), (1, .ref (ob 0)), (2, .ref (qm 0)), (3, .int (zI i))]) (hi : 0 ≤ i ∧ i + 5 ≤ L) (hI : LI (dC, dI) g ob a0 a1 a2 a3 q qm A s.heap w0 w1 w2 w3 kp tx tz rf fa fb M H locs) (kk : ∀ (w0 w1 w2 w3 kp tx tz rf : Int → Int) (fa fb : Int) (M : Nat → Int → Int) (H : Heap) (locs : List Loc), LI (dC, dI) g ob a0 a1 a2 a3 q qm A s.heap w0 w1 w2 w3 kp tx tz rf fa fb M H locs → W p l e room_1 s m args below meth c H locs 54 775 Q (F0 m 1013 ls [])) : W p l e room_1 s m args below meth c H locs 54 775 Q (F0 m 263 ls []) := by
  obtain ⟨S, ⟨hK, hT, hA⟩, hX, hbl, hbA, hL⟩ := X
  obtain ⟨h, hP, hD, hS⟩ := hI
  have hx := S.1
  have hb := S.2.1
  have hts := S.2.2.2.2
  refine lv_aload_n hx hb dL_law_263 rfl (lv_at hl 1 rfl) ?_
  refine q_arg hx hb hX hbl hbA hS hl hi hL (j := 1) (by decide) dL_law_264 dL_law_265 dL_law_266 dL_law_267 dL_law_268 ?_
  refine q_LVi (b := ob 0) (As := [.int (zI (xv xs i 1))]) (rest := []) S hP hD hK hT hS hA (kX5_type l dC dI g tt _ ob a0 a1 a2 a3 q w0 w1 w2 w3 kp tx tz fa fb rf (xv xs i 1) (xv_r xs i 1) h.Lr.1) (cwV 1 hts gL_law_X5_type rfl rfl rfl (by decide +kernel) ⟨Nat.le_of_ble_eq_true rfl, Nat.le_of_ble_eq_true rfl⟩) 0 4 rfl rfl rfl rfl hl.1 rfl (Nat.le_of_ble_eq_true rfl) dL_law_269 ⟨Nat.le_of_ble_eq_true rfl, Nat.le_of_ble_eq_true rfl⟩ (fun H locs hP hD hS => ?_)
  refine lv_aload_n hx hb dL_law_272 rfl (lv_at hl 2 rfl) ?_
  refine q_arg hx hb hX hbl hbA hS hl hi hL (j := 1) (by decide) dL_law_273 dL_law_274 dL_law_275 dL_law_276 dL_law_277 ?_
  refine q_LVi (b := qm 0) (As := [.int (zI (xv xs i 1))]) (rest := [.int (zI (ca_type (tz 0) (xv xs i 1)))]) S hP hD hK hT hS hA (kX6_type l dC dI g tt _ qm M (xv xs i 1) h.Lr.2 (xv_r xs i 1)) (cwV 1 hts gL_law_X6_type rfl rfl rfl (by decide +kernel) ⟨Nat.le_of_ble_eq_true rfl, Nat.le_of_ble_eq_true rfl⟩) 0 5 rfl rfl rfl rfl hl.1 rfl (Nat.le_of_ble_eq_true rfl) dL_law_278 ⟨Nat.le_of_ble_eq_true rfl, Nat.le_of_ble_eq_true rfl⟩ (fun H locs hP hD hS => ?_)
  rw [show ca_type (tz 0) (xv xs i 1) = ca_type (M 0 0) (xv xs i 1) from A_type h (xv xs i 1)]
  refine q_Leq (tgt := 1013) hx hb dL_law_281 (by decide) ?_
  exact kk _ _ _ _ _ _ _ _ _ _ _ _ _ ⟨R_type h (xv xs i 1), hP, hD, hS⟩
set_option maxHeartbeats 4000000 in
set_option maxRecDepth 100000 in
theorem law_c4 {p : Program} {l : Launch} {e : Env} {s : State} {m : MethodId} {args : Array Value} {below : List Frame} {meth : Method} {c : Code} {dC : Nat → ClassId} {dI : Nat → Nat → Nat} {g : Nat → ClassId} {tt : Nat → Nat} {A : Nat → Prop} {b L : Nat} {xs : Nat → Int32} {Q : State → Prop} {ob a0 a1 a2 a3 q qm : Nat → Nat} {ls : Array Slot} {i : Int} {w0 w1 w2 w3 kp tx tz rf : Int → Int} {fa fb : Int} {M : Nat → Int → Int} {H : Heap} {locs : List Loc} (X : LX p s m c args (dC, dI) g tt A b L xs) (hl : lv_has ls 4 [(0, .ref b), (1, .ref (ob 0)), (2, .ref (qm 0)), (3, .int (zI i))]) (hi : 0 ≤ i ∧ i + 5 ≤ L) (hI : LI (dC, dI) g ob a0 a1 a2 a3 q qm A s.heap w0 w1 w2 w3 kp tx tz rf fa fb M H locs) (kk : ∀ (w0 w1 w2 w3 kp tx tz rf : Int → Int) (fa fb : Int) (M : Nat → Int → Int) (H : Heap) (locs : List Loc), LI (dC, dI) g ob a0 a1 a2 a3 q qm A s.heap w0 w1 w2 w3 kp tx tz rf fa fb M H locs → W p l e room_1 s m args below meth c H locs 54 775 Q (F0 m 1013 ls [])) : W p l e room_1 s m args below meth c H locs 54 775 Q (F0 m 286 ls []) := by
  obtain ⟨S, ⟨hK, hT, hA⟩, hX, hbl, hbA, hL⟩ := X
  obtain ⟨h, hP, hD, hS⟩ := hI
  have hx := S.1
  have hb := S.2.1
  have hts := S.2.2.2.2
  refine lv_aload_n hx hb dL_law_286 rfl (lv_at hl 1 rfl) ?_
  refine q_LVi (b := ob 0) (As := []) (rest := []) S hP hD hK hT hS hA (kX5_clear l dC dI g tt _ ob a0 a1 a2 a3 q w0 w1 w2 w3 kp tx tz fa fb rf  ) (cwV 0 hts gL_law_X5_clear rfl rfl rfl (by decide +kernel) ⟨Nat.le_of_ble_eq_true rfl, Nat.le_of_ble_eq_true rfl⟩) 0 4 rfl rfl rfl rfl hl.1 rfl (Nat.le_of_ble_eq_true rfl) dL_law_287 ⟨Nat.le_of_ble_eq_true rfl, Nat.le_of_ble_eq_true rfl⟩ (fun H locs hP hD hS => ?_)
  refine lv_aload_n hx hb dL_law_290 rfl (lv_at hl 2 rfl) ?_
  refine q_LVi (b := qm 0) (As := []) (rest := [.int (zI (tz 0))]) S hP hD hK hT hS hA (kX6_clear l dC dI g tt _ qm M  ) (cwV 0 hts gL_law_X6_clear rfl rfl rfl (by decide +kernel) ⟨Nat.le_of_ble_eq_true rfl, Nat.le_of_ble_eq_true rfl⟩) 0 5 rfl rfl rfl rfl hl.1 rfl (Nat.le_of_ble_eq_true rfl) dL_law_291 ⟨Nat.le_of_ble_eq_true rfl, Nat.le_of_ble_eq_true rfl⟩ (fun H locs hP hD hS => ?_)
  rw [show tz 0 = M 0 0 from h.L.symm]
  refine q_Leq (tgt := 1013) hx hb dL_law_294 (by decide) ?_
  exact kk _ _ _ _ _ _ _ _ _ _ _ _ _ ⟨R_clear h, hP, hD, hS⟩
set_option maxHeartbeats 4000000 in
set_option maxRecDepth 100000 in
theorem law_c5 {p : Program} {l : Launch} {e : Env} {s : State} {m : MethodId} {args : Array Value} {below : List Frame} {meth : Method} {c : Code} {dC : Nat → ClassId} {dI : Nat → Nat → Nat} {g : Nat → ClassId} {tt : Nat → Nat} {A : Nat → Prop} {b L : Nat} {xs : Nat → Int32} {Q : State → Prop} {ob a0 a1 a2 a3 q qm : Nat → Nat} {ls : Array Slot} {i : Int} {w0 w1 w2 w3 kp tx tz rf : Int → Int} {fa fb : Int} {M : Nat → Int → Int} {H : Heap} {locs : List Loc} (X : LX p s m c args (dC, dI) g tt A b L xs) (hl : lv_has ls 4 [(0, .ref b), (1, .ref (ob 0)), (2, .ref (qm 0)), (3, .int (zI i))]) (hi : 0 ≤ i ∧ i + 5 ≤ L) (hI : LI (dC, dI) g ob a0 a1 a2 a3 q qm A s.heap w0 w1 w2 w3 kp tx tz rf fa fb M H locs) (kk : ∀ (w0 w1 w2 w3 kp tx tz rf : Int → Int) (fa fb : Int) (M : Nat → Int → Int) (H : Heap) (locs : List Loc), LI (dC, dI) g ob a0 a1 a2 a3 q qm A s.heap w0 w1 w2 w3 kp tx tz rf fa fb M H locs → W p l e room_1 s m args below meth c H locs 54 775 Q (F0 m 1013 ls [])) : W p l e room_1 s m args below meth c H locs 54 775 Q (F0 m 299 ls []) := by
  obtain ⟨S, ⟨hK, hT, hA⟩, hX, hbl, hbA, hL⟩ := X
  obtain ⟨h, hP, hD, hS⟩ := hI
  have hx := S.1
  have hb := S.2.1
  have hts := S.2.2.2.2
  refine lv_aload_n hx hb dL_law_299 rfl (lv_at hl 1 rfl) ?_
  refine q_LVi (b := ob 0) (As := []) (rest := []) S hP hD hK hT hS hA (kX5_read l dC dI g tt _ ob a0 a1 a2 a3 q w0 w1 w2 w3 kp tx tz fa fb rf  h.txt.1 h.txt.2) (cwV 0 hts gL_law_X5_read rfl rfl rfl (by decide +kernel) ⟨Nat.le_of_ble_eq_true rfl, Nat.le_of_ble_eq_true rfl⟩) 0 4 rfl rfl rfl rfl hl.1 rfl (Nat.le_of_ble_eq_true rfl) dL_law_300 ⟨Nat.le_of_ble_eq_true rfl, Nat.le_of_ble_eq_true rfl⟩ (fun H locs hP hD hS => ?_)
  refine lv_aload_n hx hb dL_law_303 rfl (lv_at hl 2 rfl) ?_
  refine q_LVi (b := qm 0) (As := []) (rest := [.int (zI ((rd tx tz w1).1))]) S hP hD hK hT hS hA (kX6_read l dC dI g tt _ qm M  h.txM) (cwV 0 hts gL_law_X6_read rfl rfl rfl (by decide +kernel) ⟨Nat.le_of_ble_eq_true rfl, Nat.le_of_ble_eq_true rfl⟩) 0 5 rfl rfl rfl rfl hl.1 rfl (Nat.le_of_ble_eq_true rfl) dL_law_304 ⟨Nat.le_of_ble_eq_true rfl, Nat.le_of_ble_eq_true rfl⟩ (fun H locs hP hD hS => ?_)
  rw [show (rd tx tz w1).1 = (m_read M).1 from (rd_rel (w1 := w1) h).1]
  refine q_Leq (tgt := 1013) hx hb dL_law_307 (by decide) ?_
  exact kk _ _ _ _ _ _ _ _ _ _ _ _ _ ⟨R_read (w1 := w1) h, hP, hD, hS⟩
set_option maxHeartbeats 4000000 in
set_option maxRecDepth 100000 in
theorem law_c6 {p : Program} {l : Launch} {e : Env} {s : State} {m : MethodId} {args : Array Value} {below : List Frame} {meth : Method} {c : Code} {dC : Nat → ClassId} {dI : Nat → Nat → Nat} {g : Nat → ClassId} {tt : Nat → Nat} {A : Nat → Prop} {b L : Nat} {xs : Nat → Int32} {Q : State → Prop} {ob a0 a1 a2 a3 q qm : Nat → Nat} {ls : Array Slot} {i : Int} {w0 w1 w2 w3 kp tx tz rf : Int → Int} {fa fb : Int} {M : Nat → Int → Int} {H : Heap} {locs : List Loc} (X : LX p s m c args (dC, dI) g tt A b L xs) (hl : lv_has ls 4 [(0, .ref b), (1, .ref (ob 0)), (2, .ref (qm 0)), (3, .int (zI i))]) (hi : 0 ≤ i ∧ i + 5 ≤ L) (hI : LI (dC, dI) g ob a0 a1 a2 a3 q qm A s.heap w0 w1 w2 w3 kp tx tz rf fa fb M H locs) (kk : ∀ (w0 w1 w2 w3 kp tx tz rf : Int → Int) (fa fb : Int) (M : Nat → Int → Int) (H : Heap) (locs : List Loc), LI (dC, dI) g ob a0 a1 a2 a3 q qm A s.heap w0 w1 w2 w3 kp tx tz rf fa fb M H locs → W p l e room_1 s m args below meth c H locs 54 775 Q (F0 m 1013 ls [])) : W p l e room_1 s m args below meth c H locs 54 775 Q (F0 m 312 ls []) := by
  obtain ⟨S, ⟨hK, hT, hA⟩, hX, hbl, hbA, hL⟩ := X
  obtain ⟨h, hP, hD, hS⟩ := hI
  have hx := S.1
  have hb := S.2.1
  have hts := S.2.2.2.2
  refine lv_aload_n hx hb dL_law_312 rfl (lv_at hl 1 rfl) ?_
  refine q_arg hx hb hX hbl hbA hS hl hi hL (j := 1) (by decide) dL_law_313 dL_law_314 dL_law_315 dL_law_316 dL_law_317 ?_
  refine q_LVi (b := ob 0) (As := [.int (zI (xv xs i 1))]) (rest := []) S hP hD hK hT hS hA (kX5_passes l dC dI g tt _ ob a0 a1 a2 a3 q w0 w1 w2 w3 kp tx tz fa fb rf (xv xs i 1) h.ok (xv_r xs i 1)) (cwV 1 hts gL_law_X5_passes rfl rfl rfl (by decide +kernel) ⟨Nat.le_of_ble_eq_true rfl, Nat.le_of_ble_eq_true rfl⟩) 0 4 rfl rfl rfl rfl hl.1 rfl (Nat.le_of_ble_eq_true rfl) dL_law_318 ⟨Nat.le_of_ble_eq_true rfl, Nat.le_of_ble_eq_true rfl⟩ (fun H locs hP hD hS => ?_)
  refine lv_aload_n hx hb dL_law_321 rfl (lv_at hl 2 rfl) ?_
  refine q_arg hx hb hX hbl hbA hS hl hi hL (j := 1) (by decide) dL_law_322 dL_law_323 dL_law_324 dL_law_325 dL_law_326 ?_
  refine q_LVi (b := qm 0) (As := [.int (zI (xv xs i 1))]) (rest := [.int (zI (ca_passes w0 (xv xs i 1)))]) S hP hD hK hT hS hA (kX6_passes l dC dI g tt _ qm M (xv xs i 1) h.okM (xv_r xs i 1)) (cwV 1 hts gL_law_X6_passes rfl rfl rfl (by decide +kernel) ⟨Nat.le_of_ble_eq_true rfl, Nat.le_of_ble_eq_true rfl⟩) 0 5 rfl rfl rfl rfl hl.1 rfl (Nat.le_of_ble_eq_true rfl) dL_law_327 ⟨Nat.le_of_ble_eq_true rfl, Nat.le_of_ble_eq_true rfl⟩ (fun H locs hP hD hS => ?_)
  rw [show ca_passes w0 (xv xs i 1) = ca_passes (M 1) (xv xs i 1) from hag_passes h.ag (xv xs i 1)]
  refine q_Leq (tgt := 1013) hx hb dL_law_330 (by decide) ?_
  exact kk _ _ _ _ _ _ _ _ _ _ _ _ _ ⟨R_passes h (xv xs i 1), hP, hD, hS⟩
set_option maxHeartbeats 4000000 in
set_option maxRecDepth 100000 in
theorem law_c7 {p : Program} {l : Launch} {e : Env} {s : State} {m : MethodId} {args : Array Value} {below : List Frame} {meth : Method} {c : Code} {dC : Nat → ClassId} {dI : Nat → Nat → Nat} {g : Nat → ClassId} {tt : Nat → Nat} {A : Nat → Prop} {b L : Nat} {xs : Nat → Int32} {Q : State → Prop} {ob a0 a1 a2 a3 q qm : Nat → Nat} {ls : Array Slot} {i : Int} {w0 w1 w2 w3 kp tx tz rf : Int → Int} {fa fb : Int} {M : Nat → Int → Int} {H : Heap} {locs : List Loc} (X : LX p s m c args (dC, dI) g tt A b L xs) (hl : lv_has ls 4 [(0, .ref b), (1, .ref (ob 0)), (2, .ref (qm 0)), (3, .int (zI i))]) (hi : 0 ≤ i ∧ i + 5 ≤ L) (hI : LI (dC, dI) g ob a0 a1 a2 a3 q qm A s.heap w0 w1 w2 w3 kp tx tz rf fa fb M H locs) (kk : ∀ (w0 w1 w2 w3 kp tx tz rf : Int → Int) (fa fb : Int) (M : Nat → Int → Int) (H : Heap) (locs : List Loc), LI (dC, dI) g ob a0 a1 a2 a3 q qm A s.heap w0 w1 w2 w3 kp tx tz rf fa fb M H locs → W p l e room_1 s m args below meth c H locs 54 775 Q (F0 m 1013 ls [])) : W p l e room_1 s m args below meth c H locs 54 775 Q (F0 m 335 ls []) := by
  obtain ⟨S, ⟨hK, hT, hA⟩, hX, hbl, hbA, hL⟩ := X
  obtain ⟨h, hP, hD, hS⟩ := hI
  have hx := S.1
  have hb := S.2.1
  have hts := S.2.2.2.2
  refine lv_aload_n hx hb dL_law_335 rfl (lv_at hl 1 rfl) ?_
  refine q_LVi (b := ob 0) (As := []) (rest := []) S hP hD hK hT hS hA (kX5_undo l dC dI g tt _ ob a0 a1 a2 a3 q w0 w1 w2 w3 kp tx tz fa fb rf  h.ok) (cwV 0 hts gL_law_X5_undo rfl rfl rfl (by decide +kernel) ⟨Nat.le_of_ble_eq_true rfl, Nat.le_of_ble_eq_true rfl⟩) 0 4 rfl rfl rfl rfl hl.1 rfl (Nat.le_of_ble_eq_true rfl) dL_law_336 ⟨Nat.le_of_ble_eq_true rfl, Nat.le_of_ble_eq_true rfl⟩ (fun H locs hP hD hS => ?_)
  refine lv_aload_n hx hb dL_law_339 rfl (lv_at hl 2 rfl) ?_
  refine q_LVi (b := qm 0) (As := []) (rest := [.int (zI (ca_undo w0))]) S hP hD hK hT hS hA (kX6_undo l dC dI g tt _ qm M  h.okM) (cwV 0 hts gL_law_X6_undo rfl rfl rfl (by decide +kernel) ⟨Nat.le_of_ble_eq_true rfl, Nat.le_of_ble_eq_true rfl⟩) 0 5 rfl rfl rfl rfl hl.1 rfl (Nat.le_of_ble_eq_true rfl) dL_law_340 ⟨Nat.le_of_ble_eq_true rfl, Nat.le_of_ble_eq_true rfl⟩ (fun H locs hP hD hS => ?_)
  rw [show ca_undo w0 = ca_undo (M 1) from hag_undo h.ag h.ok]
  refine q_Leq (tgt := 1013) hx hb dL_law_343 (by decide) ?_
  exact kk _ _ _ _ _ _ _ _ _ _ _ _ _ ⟨R_undo h, hP, hD, hS⟩
