/-! the law, call by call -/
set_option maxHeartbeats 4000000 in
set_option maxRecDepth 100000 in
theorem law_c22 {p : Program} {l : Launch} {e : Env} {s : State} {m : MethodId} {args : Array Value} {below : List Frame} {meth : Method} {c : Code} {dC : Nat → ClassId} {dI : Nat → Nat → Nat} {g : Nat → ClassId} {tt : Nat → Nat} {A : Nat → Prop} {b L : Nat} {xs : Nat → Int32} {Q : State → Prop} {ob a0 a1 a2 a3 q qm : Nat → Nat} {ls : Array Slot} {i : Int} {w0 w1 w2 w3 kp tx tz rf : Int → Int} {fa fb : Int} {M : Nat → Int → Int} {H : Heap} {locs : List Loc} (X : LX p s m c args (dC, dI) g tt A b L xs) (hl : lv_has ls 4 [(0, .ref b), (1, .ref (ob 0)), (2, .ref (qm 0)), (3, .int (zI i))]) (hi : 0 ≤ i ∧ i + 5 ≤ L) (hI : LI (dC, dI) g ob a0 a1 a2 a3 q qm A s.heap w0 w1 w2 w3 kp tx tz rf fa fb M H locs) (kk : ∀ (w0 w1 w2 w3 kp tx tz rf : Int → Int) (fa fb : Int) (M : Nat → Int → Int) (H : Heap) (locs : List Loc), LI (dC, dI) g ob a0 a1 a2 a3 q qm A s.heap w0 w1 w2 w3 kp tx tz rf fa fb M H locs → W p l e room_1 s m args below meth c H locs 54 775 Q (F0 m 1013 ls [])) : W p l e room_1 s m args below meth c H locs 54 775 Q (F0 m 840 ls []) := by
  obtain ⟨S, ⟨hK, hT, hA⟩, hX, hbl, hbA, hL⟩ := X
  obtain ⟨h, hP, hD, hS⟩ := hI
  have hx := S.1
  have hb := S.2.1
  have hts := S.2.2.2.2
  refine lv_aload_n hx hb dL_law_840 rfl (lv_at hl 1 rfl) ?_
  refine q_arg hx hb hX hbl hbA hS hl hi hL (j := 1) (by decide) dL_law_841 dL_law_842 dL_law_843 dL_law_844 dL_law_845 ?_
  refine q_arg hx hb hX hbl hbA hS hl hi hL (j := 2) (by decide) dL_law_846 dL_law_847 dL_law_848 dL_law_849 dL_law_850 ?_
  refine q_arg hx hb hX hbl hbA hS hl hi hL (j := 3) (by decide) dL_law_851 dL_law_852 dL_law_853 dL_law_854 dL_law_855 ?_
  refine q_LVi (b := ob 0) (As := [.int (zI (xv xs i 1)), .int (zI (xv xs i 2)), .int (zI (xv xs i 3))]) (rest := []) S hP hD hK hT hS hA (kX5_days l dC dI g tt _ ob a0 a1 a2 a3 q w0 w1 w2 w3 kp tx tz fa fb rf (xv xs i 1) (xv xs i 2) (xv xs i 3) h.ok ⟨(xv_r xs i 1), (xv_r xs i 2), (xv_r xs i 3)⟩) (cwV 3 hts gL_law_X5_days rfl rfl rfl (by decide +kernel) ⟨Nat.le_of_ble_eq_true rfl, Nat.le_of_ble_eq_true rfl⟩) 0 4 rfl rfl rfl rfl hl.1 rfl (Nat.le_of_ble_eq_true rfl) dL_law_856 ⟨Nat.le_of_ble_eq_true rfl, Nat.le_of_ble_eq_true rfl⟩ (fun H locs hP hD hS => ?_)
  refine lv_aload_n hx hb dL_law_859 rfl (lv_at hl 2 rfl) ?_
  refine q_arg hx hb hX hbl hbA hS hl hi hL (j := 1) (by decide) dL_law_860 dL_law_861 dL_law_862 dL_law_863 dL_law_864 ?_
  refine q_arg hx hb hX hbl hbA hS hl hi hL (j := 2) (by decide) dL_law_865 dL_law_866 dL_law_867 dL_law_868 dL_law_869 ?_
  refine q_arg hx hb hX hbl hbA hS hl hi hL (j := 3) (by decide) dL_law_870 dL_law_871 dL_law_872 dL_law_873 dL_law_874 ?_
  refine q_LVi (b := qm 0) (As := [.int (zI (xv xs i 1)), .int (zI (xv xs i 2)), .int (zI (xv xs i 3))]) (rest := [.int (zI (ca_days w0 (xv xs i 1) (xv xs i 2) (xv xs i 3)))]) S hP hD hK hT hS hA (kX6_days l dC dI g tt _ qm M (xv xs i 1) (xv xs i 2) (xv xs i 3) h.okM ⟨(xv_r xs i 1), (xv_r xs i 2), (xv_r xs i 3)⟩) (cwV 3 hts gL_law_X6_days rfl rfl rfl (by decide +kernel) ⟨Nat.le_of_ble_eq_true rfl, Nat.le_of_ble_eq_true rfl⟩) 0 5 rfl rfl rfl rfl hl.1 rfl (Nat.le_of_ble_eq_true rfl) dL_law_875 ⟨Nat.le_of_ble_eq_true rfl, Nat.le_of_ble_eq_true rfl⟩ (fun H locs hP hD hS => ?_)
  rw [show ca_days w0 (xv xs i 1) (xv xs i 2) (xv xs i 3) = ca_days (M 1) (xv xs i 1) (xv xs i 2) (xv xs i 3) from hag_days h.ag (xv xs i 1) (xv xs i 2) (xv xs i 3)]
  refine q_Leq (tgt := 1013) hx hb dL_law_878 (by decide) ?_
  exact kk _ _ _ _ _ _ _ _ _ _ _ _ _ ⟨R_days h (xv xs i 1) (xv xs i 2) (xv xs i 3), hP, hD, hS⟩
set_option maxHeartbeats 4000000 in
set_option maxRecDepth 100000 in
theorem law_c23 {p : Program} {l : Launch} {e : Env} {s : State} {m : MethodId} {args : Array Value} {below : List Frame} {meth : Method} {c : Code} {dC : Nat → ClassId} {dI : Nat → Nat → Nat} {g : Nat → ClassId} {tt : Nat → Nat} {A : Nat → Prop} {b L : Nat} {xs : Nat → Int32} {Q : State → Prop} {ob a0 a1 a2 a3 q qm : Nat → Nat} {ls : Array Slot} {i : Int} {w0 w1 w2 w3 kp tx tz rf : Int → Int} {fa fb : Int} {M : Nat → Int → Int} {H : Heap} {locs : List Loc} (X : LX p s m c args (dC, dI) g tt A b L xs) (hl : lv_has ls 4 [(0, .ref b), (1, .ref (ob 0)), (2, .ref (qm 0)), (3, .int (zI i))]) (hi : 0 ≤ i ∧ i + 5 ≤ L) (hI : LI (dC, dI) g ob a0 a1 a2 a3 q qm A s.heap w0 w1 w2 w3 kp tx tz rf fa fb M H locs) (kk : ∀ (w0 w1 w2 w3 kp tx tz rf : Int → Int) (fa fb : Int) (M : Nat → Int → Int) (H : Heap) (locs : List Loc), LI (dC, dI) g ob a0 a1 a2 a3 q qm A s.heap w0 w1 w2 w3 kp tx tz rf fa fb M H locs → W p l e room_1 s m args below meth c H locs 54 775 Q (F0 m 1013 ls [])) : W p l e room_1 s m args below meth c H locs 54 775 Q (F0 m 883 ls []) := by
  obtain ⟨S, ⟨hK, hT, hA⟩, hX, hbl, hbA, hL⟩ := X
  obtain ⟨h, hP, hD, hS⟩ := hI
  have hx := S.1
  have hb := S.2.1
  have hts := S.2.2.2.2
  refine lv_aload_n hx hb dL_law_883 rfl (lv_at hl 1 rfl) ?_
  refine q_arg hx hb hX hbl hbA hS hl hi hL (j := 1) (by decide) dL_law_884 dL_law_885 dL_law_886 dL_law_887 dL_law_888 ?_
  refine q_LVl (b := ob 0) (As := [.int (zI (xv xs i 1))]) (rest := []) S hP hD hK hT hS hA (kX5_part l dC dI g tt _ ob a0 a1 a2 a3 q w0 w1 w2 w3 kp tx tz fa fb rf (xv xs i 1) (xv_r xs i 1)) (cwV 1 hts gL_law_X5_part rfl rfl rfl (by decide +kernel) ⟨Nat.le_of_ble_eq_true rfl, Nat.le_of_ble_eq_true rfl⟩) 0 4 rfl rfl rfl rfl hl.1 rfl (Nat.le_of_ble_eq_true rfl) dL_law_889 ⟨Nat.le_of_ble_eq_true rfl, Nat.le_of_ble_eq_true rfl⟩ (fun H locs hP hD hS => ?_)
  refine lv_aload_n hx hb dL_law_892 rfl (lv_at hl 2 rfl) ?_
  refine q_arg hx hb hX hbl hbA hS hl hi hL (j := 1) (by decide) dL_law_893 dL_law_894 dL_law_895 dL_law_896 dL_law_897 ?_
  refine q_LVl (b := qm 0) (As := [.int (zI (xv xs i 1))]) (rest := [.long (zL (ca_part fa fb (xv xs i 1)))]) S hP hD hK hT hS hA (kX6_part l dC dI g tt _ qm M (xv xs i 1) (xv_r xs i 1)) (cwV 1 hts gL_law_X6_part rfl rfl rfl (by decide +kernel) ⟨Nat.le_of_ble_eq_true rfl, Nat.le_of_ble_eq_true rfl⟩) 0 5 rfl rfl rfl rfl hl.1 rfl (Nat.le_of_ble_eq_true rfl) dL_law_898 ⟨Nat.le_of_ble_eq_true rfl, Nat.le_of_ble_eq_true rfl⟩ (fun H locs hP hD hS => ?_)
  rw [show ca_part fa fb (xv xs i 1) = ca_part (M 0 1) (M 0 2) (xv xs i 1) from A_part h (xv xs i 1)]
  refine q_Lle (tgt := 1013) hx hb dL_law_901 dL_law_902 (by decide) ?_
  exact kk _ _ _ _ _ _ _ _ _ _ _ _ _ ⟨R_part h (xv xs i 1), hP, hD, hS⟩
set_option maxHeartbeats 4000000 in
set_option maxRecDepth 100000 in
theorem law_c24 {p : Program} {l : Launch} {e : Env} {s : State} {m : MethodId} {args : Array Value} {below : List Frame} {meth : Method} {c : Code} {dC : Nat → ClassId} {dI : Nat → Nat → Nat} {g : Nat → ClassId} {tt : Nat → Nat} {A : Nat → Prop} {b L : Nat} {xs : Nat → Int32} {Q : State → Prop} {ob a0 a1 a2 a3 q qm : Nat → Nat} {ls : Array Slot} {i : Int} {w0 w1 w2 w3 kp tx tz rf : Int → Int} {fa fb : Int} {M : Nat → Int → Int} {H : Heap} {locs : List Loc} (X : LX p s m c args (dC, dI) g tt A b L xs) (hl : lv_has ls 4 [(0, .ref b), (1, .ref (ob 0)), (2, .ref (qm 0)), (3, .int (zI i))]) (hi : 0 ≤ i ∧ i + 5 ≤ L) (hI : LI (dC, dI) g ob a0 a1 a2 a3 q qm A s.heap w0 w1 w2 w3 kp tx tz rf fa fb M H locs) (kk : ∀ (w0 w1 w2 w3 kp tx tz rf : Int → Int) (fa fb : Int) (M : Nat → Int → Int) (H : Heap) (locs : List Loc), LI (dC, dI) g ob a0 a1 a2 a3 q qm A s.heap w0 w1 w2 w3 kp tx tz rf fa fb M H locs → W p l e room_1 s m args below meth c H locs 54 775 Q (F0 m 1013 ls [])) : W p l e room_1 s m args below meth c H locs 54 775 Q (F0 m 907 ls []) := by
  obtain ⟨S, ⟨hK, hT, hA⟩, hX, hbl, hbA, hL⟩ := X
  obtain ⟨h, hP, hD, hS⟩ := hI
  have hx := S.1
  have hb := S.2.1
  have hts := S.2.2.2.2
  refine lv_aload_n hx hb dL_law_907 rfl (lv_at hl 1 rfl) ?_
  refine q_arg hx hb hX hbl hbA hS hl hi hL (j := 1) (by decide) dL_law_908 dL_law_909 dL_law_910 dL_law_911 dL_law_912 ?_
  refine q_LVi (b := ob 0) (As := [.int (zI (xv xs i 1))]) (rest := []) S hP hD hK hT hS hA (kX5_image l dC dI g tt _ ob a0 a1 a2 a3 q w0 w1 w2 w3 kp tx tz fa fb rf (xv xs i 1) (xv_r xs i 1)) (cwV 1 hts gL_law_X5_image rfl rfl rfl (by decide +kernel) ⟨Nat.le_of_ble_eq_true rfl, Nat.le_of_ble_eq_true rfl⟩) 0 4 rfl rfl rfl rfl hl.1 rfl (Nat.le_of_ble_eq_true rfl) dL_law_913 ⟨Nat.le_of_ble_eq_true rfl, Nat.le_of_ble_eq_true rfl⟩ (fun H locs hP hD hS => ?_)
  refine lv_aload_n hx hb dL_law_916 rfl (lv_at hl 2 rfl) ?_
  refine q_arg hx hb hX hbl hbA hS hl hi hL (j := 1) (by decide) dL_law_917 dL_law_918 dL_law_919 dL_law_920 dL_law_921 ?_
  refine q_LVi (b := qm 0) (As := [.int (zI (xv xs i 1))]) (rest := [.int (zI (ca_image (xv xs i 1)))]) S hP hD hK hT hS hA (kX6_image l dC dI g tt _ qm M (xv xs i 1) (xv_r xs i 1)) (cwV 1 hts gL_law_X6_image rfl rfl rfl (by decide +kernel) ⟨Nat.le_of_ble_eq_true rfl, Nat.le_of_ble_eq_true rfl⟩) 0 5 rfl rfl rfl rfl hl.1 rfl (Nat.le_of_ble_eq_true rfl) dL_law_922 ⟨Nat.le_of_ble_eq_true rfl, Nat.le_of_ble_eq_true rfl⟩ (fun H locs hP hD hS => ?_)
  refine q_Leq (tgt := 1013) hx hb dL_law_925 (by decide) ?_
  exact kk _ _ _ _ _ _ _ _ _ _ _ _ _ ⟨R_image h (xv xs i 1), hP, hD, hS⟩
set_option maxHeartbeats 4000000 in
set_option maxRecDepth 100000 in
theorem law_c25 {p : Program} {l : Launch} {e : Env} {s : State} {m : MethodId} {args : Array Value} {below : List Frame} {meth : Method} {c : Code} {dC : Nat → ClassId} {dI : Nat → Nat → Nat} {g : Nat → ClassId} {tt : Nat → Nat} {A : Nat → Prop} {b L : Nat} {xs : Nat → Int32} {Q : State → Prop} {ob a0 a1 a2 a3 q qm : Nat → Nat} {ls : Array Slot} {i : Int} {w0 w1 w2 w3 kp tx tz rf : Int → Int} {fa fb : Int} {M : Nat → Int → Int} {H : Heap} {locs : List Loc} (X : LX p s m c args (dC, dI) g tt A b L xs) (hl : lv_has ls 4 [(0, .ref b), (1, .ref (ob 0)), (2, .ref (qm 0)), (3, .int (zI i))]) (hi : 0 ≤ i ∧ i + 5 ≤ L) (hI : LI (dC, dI) g ob a0 a1 a2 a3 q qm A s.heap w0 w1 w2 w3 kp tx tz rf fa fb M H locs) (kk : ∀ (w0 w1 w2 w3 kp tx tz rf : Int → Int) (fa fb : Int) (M : Nat → Int → Int) (H : Heap) (locs : List Loc), LI (dC, dI) g ob a0 a1 a2 a3 q qm A s.heap w0 w1 w2 w3 kp tx tz rf fa fb M H locs → W p l e room_1 s m args below meth c H locs 54 775 Q (F0 m 1013 ls [])) : W p l e room_1 s m args below meth c H locs 54 775 Q (F0 m 930 ls []) := by
  obtain ⟨S, ⟨hK, hT, hA⟩, hX, hbl, hbA, hL⟩ := X
  obtain ⟨h, hP, hD, hS⟩ := hI
  have hx := S.1
  have hb := S.2.1
  have hts := S.2.2.2.2
  refine lv_aload_n hx hb dL_law_930 rfl (lv_at hl 1 rfl) ?_
  refine q_arg hx hb hX hbl hbA hS hl hi hL (j := 1) (by decide) dL_law_931 dL_law_932 dL_law_933 dL_law_934 dL_law_935 ?_
  refine q_LVi (b := ob 0) (As := [.int (zI (xv xs i 1))]) (rest := []) S hP hD hK hT hS hA (kX5_from l dC dI g tt _ ob a0 a1 a2 a3 q w0 w1 w2 w3 kp tx tz fa fb rf (xv xs i 1) (xv_r xs i 1) h.kept) (cwV 1 hts gL_law_X5_from rfl rfl rfl (by decide +kernel) ⟨Nat.le_of_ble_eq_true rfl, Nat.le_of_ble_eq_true rfl⟩) 0 4 rfl rfl rfl rfl hl.1 rfl (Nat.le_of_ble_eq_true rfl) dL_law_936 ⟨Nat.le_of_ble_eq_true rfl, Nat.le_of_ble_eq_true rfl⟩ (fun H locs hP hD hS => ?_)
  refine lv_aload_n hx hb dL_law_939 rfl (lv_at hl 2 rfl) ?_
  refine q_arg hx hb hX hbl hbA hS hl hi hL (j := 1) (by decide) dL_law_940 dL_law_941 dL_law_942 dL_law_943 dL_law_944 ?_
  refine q_LVi (b := qm 0) (As := [.int (zI (xv xs i 1))]) (rest := [.int (zI (ca_from kp (xv xs i 1)))]) S hP hD hK hT hS hA (kX6_from l dC dI g tt _ qm M (xv xs i 1) (xv_r xs i 1) h.kpM) (cwV 1 hts gL_law_X6_from rfl rfl rfl (by decide +kernel) ⟨Nat.le_of_ble_eq_true rfl, Nat.le_of_ble_eq_true rfl⟩) 0 5 rfl rfl rfl rfl hl.1 rfl (Nat.le_of_ble_eq_true rfl) dL_law_945 ⟨Nat.le_of_ble_eq_true rfl, Nat.le_of_ble_eq_true rfl⟩ (fun H locs hP hD hS => ?_)
  rw [show ca_from kp (xv xs i 1) = ca_from (M 2) (xv xs i 1) from A_from h (xv xs i 1)]
  refine q_Leq (tgt := 1013) hx hb dL_law_948 (by decide) ?_
  exact kk _ _ _ _ _ _ _ _ _ _ _ _ _ ⟨R_from h (xv xs i 1), hP, hD, hS⟩
set_option maxHeartbeats 4000000 in
set_option maxRecDepth 100000 in
theorem law_c26 {p : Program} {l : Launch} {e : Env} {s : State} {m : MethodId} {args : Array Value} {below : List Frame} {meth : Method} {c : Code} {dC : Nat → ClassId} {dI : Nat → Nat → Nat} {g : Nat → ClassId} {tt : Nat → Nat} {A : Nat → Prop} {b L : Nat} {xs : Nat → Int32} {Q : State → Prop} {ob a0 a1 a2 a3 q qm : Nat → Nat} {ls : Array Slot} {i : Int} {w0 w1 w2 w3 kp tx tz rf : Int → Int} {fa fb : Int} {M : Nat → Int → Int} {H : Heap} {locs : List Loc} (X : LX p s m c args (dC, dI) g tt A b L xs) (hl : lv_has ls 4 [(0, .ref b), (1, .ref (ob 0)), (2, .ref (qm 0)), (3, .int (zI i))]) (hi : 0 ≤ i ∧ i + 5 ≤ L) (hI : LI (dC, dI) g ob a0 a1 a2 a3 q qm A s.heap w0 w1 w2 w3 kp tx tz rf fa fb M H locs) (kk : ∀ (w0 w1 w2 w3 kp tx tz rf : Int → Int) (fa fb : Int) (M : Nat → Int → Int) (H : Heap) (locs : List Loc), LI (dC, dI) g ob a0 a1 a2 a3 q qm A s.heap w0 w1 w2 w3 kp tx tz rf fa fb M H locs → W p l e room_1 s m args below meth c H locs 54 775 Q (F0 m 1013 ls [])) : W p l e room_1 s m args below meth c H locs 54 775 Q (F0 m 953 ls []) := by
  obtain ⟨S, ⟨hK, hT, hA⟩, hX, hbl, hbA, hL⟩ := X
  obtain ⟨h, hP, hD, hS⟩ := hI
  have hx := S.1
  have hb := S.2.1
  have hts := S.2.2.2.2
  refine lv_aload_n hx hb dL_law_953 rfl (lv_at hl 1 rfl) ?_
  refine q_arg hx hb hX hbl hbA hS hl hi hL (j := 1) (by decide) dL_law_954 dL_law_955 dL_law_956 dL_law_957 dL_law_958 ?_
  refine q_LVi (b := ob 0) (As := [.int (zI (xv xs i 1))]) (rest := []) S hP hD hK hT hS hA (kX5_status l dC dI g tt _ ob a0 a1 a2 a3 q w0 w1 w2 w3 kp tx tz fa fb rf (xv xs i 1) (xv_r xs i 1)) (cwV 1 hts gL_law_X5_status rfl rfl rfl (by decide +kernel) ⟨Nat.le_of_ble_eq_true rfl, Nat.le_of_ble_eq_true rfl⟩) 0 4 rfl rfl rfl rfl hl.1 rfl (Nat.le_of_ble_eq_true rfl) dL_law_959 ⟨Nat.le_of_ble_eq_true rfl, Nat.le_of_ble_eq_true rfl⟩ (fun H locs hP hD hS => ?_)
  refine lv_aload_n hx hb dL_law_962 rfl (lv_at hl 2 rfl) ?_
  refine q_arg hx hb hX hbl hbA hS hl hi hL (j := 1) (by decide) dL_law_963 dL_law_964 dL_law_965 dL_law_966 dL_law_967 ?_
  refine q_LVi (b := qm 0) (As := [.int (zI (xv xs i 1))]) (rest := [.int (zI (ca_st rf (xv xs i 1)))]) S hP hD hK hT hS hA (kX6_status l dC dI g tt _ qm M (xv xs i 1) (xv_r xs i 1)) (cwV 1 hts gL_law_X6_status rfl rfl rfl (by decide +kernel) ⟨Nat.le_of_ble_eq_true rfl, Nat.le_of_ble_eq_true rfl⟩) 0 5 rfl rfl rfl rfl hl.1 rfl (Nat.le_of_ble_eq_true rfl) dL_law_968 ⟨Nat.le_of_ble_eq_true rfl, Nat.le_of_ble_eq_true rfl⟩ (fun H locs hP hD hS => ?_)
  rw [show ca_st rf (xv xs i 1) = ca_st (M 4) (xv xs i 1) from A_st h (xv xs i 1)]
  refine q_Leq (tgt := 1013) hx hb dL_law_971 (by decide) ?_
  exact kk _ _ _ _ _ _ _ _ _ _ _ _ _ ⟨R_st h (xv xs i 1), hP, hD, hS⟩
set_option maxHeartbeats 4000000 in
set_option maxRecDepth 100000 in
theorem law_c27 {p : Program} {l : Launch} {e : Env} {s : State} {m : MethodId} {args : Array Value} {below : List Frame} {meth : Method} {c : Code} {dC : Nat → ClassId} {dI : Nat → Nat → Nat} {g : Nat → ClassId} {tt : Nat → Nat} {A : Nat → Prop} {b L : Nat} {xs : Nat → Int32} {Q : State → Prop} {ob a0 a1 a2 a3 q qm : Nat → Nat} {ls : Array Slot} {i : Int} {w0 w1 w2 w3 kp tx tz rf : Int → Int} {fa fb : Int} {M : Nat → Int → Int} {H : Heap} {locs : List Loc} (X : LX p s m c args (dC, dI) g tt A b L xs) (hl : lv_has ls 4 [(0, .ref b), (1, .ref (ob 0)), (2, .ref (qm 0)), (3, .int (zI i))]) (hi : 0 ≤ i ∧ i + 5 ≤ L) (hI : LI (dC, dI) g ob a0 a1 a2 a3 q qm A s.heap w0 w1 w2 w3 kp tx tz rf fa fb M H locs) (kk : ∀ (w0 w1 w2 w3 kp tx tz rf : Int → Int) (fa fb : Int) (M : Nat → Int → Int) (H : Heap) (locs : List Loc), LI (dC, dI) g ob a0 a1 a2 a3 q qm A s.heap w0 w1 w2 w3 kp tx tz rf fa fb M H locs → W p l e room_1 s m args below meth c H locs 54 775 Q (F0 m 1013 ls [])) : W p l e room_1 s m args below meth c H locs 54 775 Q (F0 m 976 ls []) := by
  obtain ⟨S, ⟨hK, hT, hA⟩, hX, hbl, hbA, hL⟩ := X
  obtain ⟨h, hP, hD, hS⟩ := hI
  have hx := S.1
  have hb := S.2.1
  have hts := S.2.2.2.2
  refine lv_aload_n hx hb dL_law_976 rfl (lv_at hl 1 rfl) ?_
  refine q_arg hx hb hX hbl hbA hS hl hi hL (j := 1) (by decide) dL_law_977 dL_law_978 dL_law_979 dL_law_980 dL_law_981 ?_
  refine q_LVi (b := ob 0) (As := [.int (zI (xv xs i 1))]) (rest := []) S hP hD hK hT hS hA (kX5_count l dC dI g tt _ ob a0 a1 a2 a3 q w0 w1 w2 w3 kp tx tz fa fb rf (xv xs i 1) (xv_r xs i 1)) (cwV 1 hts gL_law_X5_count rfl rfl rfl (by decide +kernel) ⟨Nat.le_of_ble_eq_true rfl, Nat.le_of_ble_eq_true rfl⟩) 0 4 rfl rfl rfl rfl hl.1 rfl (Nat.le_of_ble_eq_true rfl) dL_law_982 ⟨Nat.le_of_ble_eq_true rfl, Nat.le_of_ble_eq_true rfl⟩ (fun H locs hP hD hS => ?_)
  refine lv_aload_n hx hb dL_law_985 rfl (lv_at hl 2 rfl) ?_
  refine q_arg hx hb hX hbl hbA hS hl hi hL (j := 1) (by decide) dL_law_986 dL_law_987 dL_law_988 dL_law_989 dL_law_990 ?_
  refine q_LVi (b := qm 0) (As := [.int (zI (xv xs i 1))]) (rest := [.int (zI (ca_ct w0 (tz 0) (xv xs i 1)))]) S hP hD hK hT hS hA (kX6_count l dC dI g tt _ qm M (xv xs i 1) (xv_r xs i 1)) (cwV 1 hts gL_law_X6_count rfl rfl rfl (by decide +kernel) ⟨Nat.le_of_ble_eq_true rfl, Nat.le_of_ble_eq_true rfl⟩) 0 5 rfl rfl rfl rfl hl.1 rfl (Nat.le_of_ble_eq_true rfl) dL_law_991 ⟨Nat.le_of_ble_eq_true rfl, Nat.le_of_ble_eq_true rfl⟩ (fun H locs hP hD hS => ?_)
  rw [show ca_ct w0 (tz 0) (xv xs i 1) = ca_ct (M 1) (M 0 0) (xv xs i 1) from A_ct h (xv xs i 1)]
  refine q_Leq (tgt := 1013) hx hb dL_law_994 (by decide) ?_
  exact kk _ _ _ _ _ _ _ _ _ _ _ _ _ ⟨R_ct h (xv xs i 1), hP, hD, hS⟩
set_option maxHeartbeats 4000000 in
set_option maxRecDepth 100000 in
theorem law_c28 {p : Program} {l : Launch} {e : Env} {s : State} {m : MethodId} {args : Array Value} {below : List Frame} {meth : Method} {c : Code} {dC : Nat → ClassId} {dI : Nat → Nat → Nat} {g : Nat → ClassId} {tt : Nat → Nat} {A : Nat → Prop} {b L : Nat} {xs : Nat → Int32} {Q : State → Prop} {ob a0 a1 a2 a3 q qm : Nat → Nat} {ls : Array Slot} {i : Int} {w0 w1 w2 w3 kp tx tz rf : Int → Int} {fa fb : Int} {M : Nat → Int → Int} {H : Heap} {locs : List Loc} (X : LX p s m c args (dC, dI) g tt A b L xs) (hl : lv_has ls 4 [(0, .ref b), (1, .ref (ob 0)), (2, .ref (qm 0)), (3, .int (zI i))]) (hi : 0 ≤ i ∧ i + 5 ≤ L) (hI : LI (dC, dI) g ob a0 a1 a2 a3 q qm A s.heap w0 w1 w2 w3 kp tx tz rf fa fb M H locs) (kk : ∀ (w0 w1 w2 w3 kp tx tz rf : Int → Int) (fa fb : Int) (M : Nat → Int → Int) (H : Heap) (locs : List Loc), LI (dC, dI) g ob a0 a1 a2 a3 q qm A s.heap w0 w1 w2 w3 kp tx tz rf fa fb M H locs → W p l e room_1 s m args below meth c H locs 54 775 Q (F0 m 1013 ls [])) : W p l e room_1 s m args below meth c H locs 54 775 Q (F0 m 999 ls []) := by
  obtain ⟨S, ⟨hK, hT, hA⟩, hX, hbl, hbA, hL⟩ := X
  obtain ⟨h, hP, hD, hS⟩ := hI
  have hx := S.1
  have hb := S.2.1
  have hts := S.2.2.2.2
  refine lv_aload_n hx hb dL_law_999 rfl (lv_at hl 1 rfl) ?_
  refine q_cVl (b := ob 0) (As := []) (rest := []) S (kX5_digest l dC dI g tt ob a0 a1 a2 a3 q w0 w1 w2 w3 kp tx tz fa fb rf h.ok h.Lr.1) (cwV 0 hts gL_law_X5_digest rfl rfl rfl (by decide +kernel) ⟨Nat.le_of_ble_eq_true rfl, Nat.le_of_ble_eq_true rfl⟩) (vaP_l hP) hK hT hS 0 4 rfl rfl rfl rfl hl.1 rfl (Nat.le_of_ble_eq_true rfl) dL_law_1000 ⟨Nat.le_of_ble_eq_true rfl, Nat.le_of_ble_eq_true rfl⟩ ?_
  have hP := vaP_sw hP
  have hD := vaD_sw hD
  refine lv_aload_n hx hb dL_law_1003 rfl (lv_at hl 2 rfl) ?_
  refine q_LVl (b := qm 0) (As := []) (rest := [.long (zL (ca_dg w0 (tz 0) fa fb))]) S hP hD hK hT hS hA (kX6_digest l dC dI g tt _ qm M  h.okM h.Lr.2) (cwV 0 hts gL_law_X6_digest rfl rfl rfl (by decide +kernel) ⟨Nat.le_of_ble_eq_true rfl, Nat.le_of_ble_eq_true rfl⟩) 0 5 rfl rfl rfl rfl hl.1 rfl (Nat.le_of_ble_eq_true rfl) dL_law_1004 ⟨Nat.le_of_ble_eq_true rfl, Nat.le_of_ble_eq_true rfl⟩ (fun H locs hP hD hS => ?_)
  rw [show ca_dg w0 (tz 0) fa fb = ma_dg (M 1) (M 0 0) (M 0 1) (M 0 2) from A_dg h]
  refine q_Lle (tgt := 1013) hx hb dL_law_1007 dL_law_1008 (by decide) ?_
  exact kk _ _ _ _ _ _ _ _ _ _ _ _ _ ⟨R_dg h _, hP, hD, hS⟩
