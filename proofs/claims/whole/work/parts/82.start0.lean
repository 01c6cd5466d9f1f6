/-! what the Statement gives at the start: statics, String constants, classes -/
theorem tb {args : Array Value} {s : State} {w : Cond} (i : Nat) (hts : ∀ w ∈ lw_tbl, w.before args s = true) (h : tables_1[i]? = some w) : w.before args s = true := hts w (List.mem_append_right _ (List.mem_of_getElem? h))
theorem arr_s {args : Array Value} {s : State} {ty : FieldType} (h : (Cond.arrayClass ty).before args s = true) : ∃ cA : ClassId, ArrOfT s cA ty ∧ s.vm.findClass ("[" ++ ty.toString) = some cA := by
  obtain ⟨cA, kA, comp, h1, h2, h3⟩ := Cond.arrayClass_spec h
  exact ⟨cA, fun n z => ⟨fun k h => (by cases h), kA, h2, comp, h3⟩, h1⟩
theorem arr_o {args : Array Value} {s : State} {C : String} (h : (Cond.arrayOver (.object C)).before args s = true) : ∃ cA : ClassId, ArrOfT s cA (.object C) ∧ va_RA s cA (.object C) := by
  obtain ⟨comp, cA, kA, h1, -, h2, h3, h4⟩ := Cond.arrayOver_spec h
  exact ⟨cA, fun n z => ⟨fun k h => (by cases h), kA, h2, comp, h3⟩, kA, comp, h2, h3, h1, h4⟩
def d6 {α : Type} (f0 f1 f2 f3 f4 f5 : α) : Nat → α := fun k => match k with
  | 0 => f0
  | 1 => f1
  | 2 => f2
  | 3 => f3
  | 4 => f4
  | _ => f5
theorem K_start {args : Array Value} {s : State} (h0 : ∀ w ∈ lw_tbl, w.before args s = true) : ∃ (dC : Nat → ClassId) (dI : Nat → Nat → Nat) (g : Nat → ClassId), va_K (dC, dI) vwCl (wTy g) s := by
  have hts : ∀ w ∈ wsL_law, w.before args s = true := fun w h => h0 w (wsL_law_in w h)
  obtain ⟨c0, i0, k0⟩ := u_known (C := RX0) (T := TX0) (N := 2) (n := 2) hts inlX0 (tb 140 h0 (by decide +kernel))
  obtain ⟨c1, i1, k1⟩ := u_known (C := RX1) (T := TX1) (N := 14) (n := 14) hts inlX1 (tb 24 h0 (by decide +kernel))
  obtain ⟨c2, i2, k2⟩ := u_known (C := RX3) (T := TX3) (N := 6) (n := 6) hts inlX3 (tb 113 h0 (by decide +kernel))
  obtain ⟨c3, i3, k3⟩ := u_known (C := RX4) (T := TX4) (N := 1) (n := 1) hts inlX4 (tb 102 h0 (by decide +kernel))
  obtain ⟨c4, i4, k4⟩ := u_known (C := RX5) (T := TX5) (N := 8) (n := 8) hts inlX5 (tb 16 h0 (by decide +kernel))
  obtain ⟨c5, i5, k5⟩ := u_known (C := RX6) (T := TX6) (N := 15) (n := 15) hts inlX6 (tb 579 h0 (by decide +kernel))
  obtain ⟨g0, r0, n0⟩ := arr_s (ty := .int) (tb 99 h0 (by decide +kernel))
  obtain ⟨g1, r1, n1⟩ := arr_s (ty := .byte) (tb 138 h0 (by decide +kernel))
  obtain ⟨g2, r2, n2⟩ := arr_s (ty := .boolean) (tb 111 h0 (by decide +kernel))
  obtain ⟨g3, r3, n3⟩ := arr_o (C := RX1) (tb 100 h0 (by decide +kernel))
  refine ⟨d6 c0 c1 c2 c3 c4 c5, d6 i0 i1 i2 i3 i4 i5, d6 g0 g1 g2 g3 g3 g3, fun k q hq => ?_, fun k q hq => ?_⟩
  · match k, hq with
    | 0, hq => cases hq; exact k0
    | 1, hq => cases hq; exact k1
    | 2, hq => cases hq; exact k2
    | 3, hq => cases hq; exact k3
    | 4, hq => cases hq; exact k4
    | 5, hq => cases hq; exact k5
    | k + 6, hq => simp [vwCl] at hq
  · match k, hq with
    | 0, hq => cases hq; exact ⟨r0, n0⟩
    | 1, hq => cases hq; exact ⟨r1, n1⟩
    | 2, hq => cases hq; exact ⟨r2, n2⟩
    | 3, hq => cases hq; exact ⟨r3, n3⟩
    | k + 4, hq => simp [wTy] at hq
def ttf (f h : Nat → Nat) : Nat → Nat := fun k => if k < 6 then f (k - 3) else h (k - 6)
def tmS (i : Nat) : Term := .string RX3 (if i = 0 then 38 else if i = 1 then 61 else 69)
set_option maxHeartbeats 4000000 in
set_option maxRecDepth 100000 in
theorem st_start {args : Array Value} {s : State} {A : Nat → Prop} (h0 : ∀ w ∈ lw_tbl, w.before args s = true) (hgv : (Jvm.Cond.and given_1 narrow_1).before args s = true) (hA : ∀ a : Nat, a < s.heap.size → ¬ A a) : ∃ tt, st_ok tt A s s.heap := by
  have hs := flat_of_before _ hgv
  obtain ⟨f, h, E, ev⟩ := vk_Sof (args := args) (s := s) (A := A) (N := 3) (tm := tmS) (len := [5, 4, 4]) (byt := strB)
    (fun i hi => by rcases (show i = 0 ∨ i = 1 ∨ i = 2 by omega) with rfl | rfl | rfl <;> decide)
    (fun i hi => by rcases (show i = 0 ∨ i = 1 ∨ i = 2 by omega) with rfl | rfl | rfl <;> exact hs _ (by decide +kernel))
    (fun i hi => by rcases (show i = 0 ∨ i = 1 ∨ i = 2 by omega) with rfl | rfl | rfl <;> exact hs _ (by decide +kernel))
    (fun i hi => by rcases (show i = 0 ∨ i = 1 ∨ i = 2 by omega) with rfl | rfl | rfl <;> exact hs _ (by decide +kernel))
    (fun i hi => by rcases (show i = 0 ∨ i = 1 ∨ i = 2 by omega) with rfl | rfl | rfl <;> exact hs _ (by decide +kernel))
    (fun i hi j hj => by
      rcases (show i = 0 ∨ i = 1 ∨ i = 2 by omega) with rfl | rfl | rfl
      · have hj' : j < 5 := hj
        rcases (show j = 0 ∨ j = 1 ∨ j = 2 ∨ j = 3 ∨ j = 4 by omega) with rfl | rfl | rfl | rfl | rfl <;> exact hs _ (by decide +kernel)
      · have hj' : j < 4 := hj
        rcases (show j = 0 ∨ j = 1 ∨ j = 2 ∨ j = 3 by omega) with rfl | rfl | rfl | rfl <;> exact hs _ (by decide +kernel)
      · have hj' : j < 4 := hj
        rcases (show j = 0 ∨ j = 1 ∨ j = 2 ∨ j = 3 by omega) with rfl | rfl | rfl | rfl <;> exact hs _ (by decide +kernel))
    (fun i j hi hj hij => by
      rcases (show (i = 0 ∧ j = 1) ∨ (i = 0 ∧ j = 2) ∨ (i = 1 ∧ j = 2) ∨ (i = 1 ∧ j = 0) ∨ (i = 2 ∧ j = 0) ∨ (i = 2 ∧ j = 1) by omega) with ⟨rfl, rfl⟩ | ⟨rfl, rfl⟩ | ⟨rfl, rfl⟩ | ⟨rfl, rfl⟩ | ⟨rfl, rfl⟩ | ⟨rfl, rfl⟩
      · exact Or.inl (hs _ (by decide +kernel))
      · exact Or.inl (hs _ (by decide +kernel))
      · exact Or.inl (hs _ (by decide +kernel))
      · exact Or.inr (hs _ (by decide +kernel))
      · exact Or.inr (hs _ (by decide +kernel))
      · exact Or.inr (hs _ (by decide +kernel))) hA
  have q3 : ∀ i : Nat, i < 3 → ttf f h (3 + i) = f i := fun i hi => by
    unfold ttf
    rw [if_pos (by omega), show 3 + i - 3 = i by omega]
  have q6 : ∀ i : Nat, i < 3 → ttf f h (6 + i) = h i := fun i hi => by
    unfold ttf
    rw [if_neg (by omega), show 6 + i - 6 = i by omega]
  refine ⟨ttf f h, trivial, trivial, trivial, ⟨?_, ?_, ?_⟩, ⟨fun i hi => ?_, fun i j hi hj e => ?_⟩, va_Nw.of (A := args) rfl (tb 307 h0 (by decide +kernel)), va_Zof (tb 264 h0 (by decide +kernel)) (tb 7 h0 (by decide +kernel)) (va_eqt (hs _ (by decide +kernel))) hA, va_Zqof (tb 280 h0 (by decide +kernel)) (tb 9 h0 (by decide +kernel)) (hs _ (by decide +kernel)) hA⟩
  · exact vk_R.of (A := args) (tb 250 h0 (by decide +kernel)) (ev 0 (by decide))
  · exact vk_R.of (A := args) (tb 317 h0 (by decide +kernel)) (ev 1 (by decide))
  · exact vk_R.of (A := args) (tb 323 h0 (by decide +kernel)) (ev 2 (by decide))
  · have E1 := E.1 i hi
    show va_O "java/lang/String" (ttf f h (3 + i)) A s s.heap ∧ va_OF "java/lang/String" "coder" "B" (.int 0) (ttf f h (3 + i)) A s s.heap ∧ va_OF "java/lang/String" "value" "[B" (.ref (ttf f h (6 + i))) (ttf f h (3 + i)) A s s.heap ∧ va_T .byte (ttf f h (6 + i)) _ _ A s s.heap
    rw [q3 i hi, q6 i hi]
    exact E1
  · have e' : ttf f h (3 + i) = ttf f h (3 + j) := e
    rw [q3 i hi, q3 j hj] at e'
    exact E.2 i j hi hj e'
