/-! the law: rows for its two objects, and for its script -/
theorem nd_of : ∀ (l : List Nat), l.Nodup → va_nd l = true
  | [], _ => rfl
  | a :: l, h => by
    have h1 := List.nodup_cons.mp h
    simp only [va_nd, Bool.and_eq_true, decide_eq_true_eq]
    exact ⟨h1.1, nd_of l h1.2⟩
abbrev isA (wc : va_W) : List Nat := List.range wc.length
abbrev isB (wc wr : va_W) : List Nat := (List.range wr.length).map (fun k => wc.length + k)
theorem ap_C (wc wr : va_W) : (isA wc).map (fun i => (wc ++ wr)[i]?) = wc.map some := by
  apply List.ext_getElem
  · simp
  · intro i h1 h2
    have h3 : i < wc.length := by simpa using h1
    simp [h3, List.getElem?_append_left]
theorem ap_R (wc wr : va_W) : (isB wc wr).map (fun i => (wc ++ wr)[i]?) = wr.map some := by
  apply List.ext_getElem
  · simp
  · intro i h1 h2
    have h3 : i < wr.length := by simpa using h1
    simp [h3, List.getElem?_append_right]
theorem nd_A (wc : va_W) : va_nd (isA wc) = true := nd_of _ List.nodup_range
theorem nd_B (wc wr : va_W) : va_nd (isB wc wr) = true := by
  refine nd_of _ ?_
  show ((List.range wr.length).map (fun k => wc.length + k)).Nodup
  exact List.Pairwise.map _ (fun a b (h : a ≠ b) (q : wc.length + a = wc.length + b) => h (by omega)) List.nodup_range
theorem dis_AB (wc wr : va_W) : ∀ i ∈ isB wc wr, i ∉ isA wc := by
  intro i h1 h2
  obtain ⟨k, -, e⟩ := List.mem_map.mp h1
  have h3 := List.mem_range.mp h2
  omega
theorem vaP_l {D : va_G} {cl : List vw_C} {wc wr : va_W} {H : Heap} (h : va_P D cl (wc ++ wr) H) : va_P D cl wc H := fun k x hk => h k x (by rw [List.getElem?_append_left (List.getElem?_eq_some_iff.mp hk).1]; exact hk)
theorem ap_sw {wc wr : va_W} {k : Nat} {x : Nat × va_E} (hk : (wr ++ wc)[k]? = some x) : ∃ j, (wc ++ wr)[j]? = some x ∧ ((k < wr.length ∧ j = wc.length + k) ∨ (wr.length ≤ k ∧ j + wr.length = k ∧ j < wc.length)) := by
  by_cases c : k < wr.length
  · rw [List.getElem?_append_left c] at hk
    exact ⟨wc.length + k, by rw [List.getElem?_append_right (by omega), show wc.length + k - wc.length = k by omega]; exact hk, Or.inl ⟨c, rfl⟩⟩
  · rw [List.getElem?_append_right (by omega)] at hk
    have h1 := (List.getElem?_eq_some_iff.mp hk).1
    exact ⟨k - wr.length, by rw [List.getElem?_append_left h1]; exact hk, Or.inr ⟨by omega, by omega, h1⟩⟩
theorem vaP_sw {D : va_G} {cl : List vw_C} {wc wr : va_W} {H : Heap} (h : va_P D cl (wc ++ wr) H) : va_P D cl (wr ++ wc) H := fun k x hk => by
  obtain ⟨j, h1, -⟩ := ap_sw hk
  exact h j x h1
theorem vaD_sw {A : Nat → Prop} {wc wr : va_W} (h : va_D A (wc ++ wr)) : va_D A (wr ++ wc) := ⟨fun i j x y hi hj hxy => by
  obtain ⟨i', h1, h2⟩ := ap_sw hi
  obtain ⟨j', h3, h4⟩ := ap_sw hj
  have h5 := h.1 i' j' x y h1 h3 hxy
  omega, fun k x hk => by
  obtain ⟨j, h1, -⟩ := ap_sw hk
  exact h.2 j x h1⟩
def xv (xs : Nat → Int32) (i j : Int) : Int := (xs (i + j).toNat).toInt
theorem xv_r (xs : Nat → Int32) (i j : Int) : rI (xv xs i j) := zI_rng _
section QLW
variable {p : Program} {l : Launch} {e : Env} {R : Room} {s : State} {m : MethodId} {args : Array Value} {below : List Frame} {meth : Method} {c : Code} {H : Heap} {locs : List Loc} {cells slots : Nat} {Q : State → Prop} {cc : ByteArray} {pc : Nat} {ls : Array Slot} {rest st0 : List Value}
variable {D : va_G} {tys : List (ClassId × FieldType)} {wc wr w1 : va_W} {tt : Nat → Nat} {A : Nat → Prop} {b : Nat} {H0 : Heap}
variable {y : MethodName} {bytes : ByteArray} {maxL nL n index : Nat} {ret : Option FieldType} {wy : List Cond} {rm : Room} {Ts : List Cond} {own C : String} {As : List Value}
theorem q_LVi {z : Int} (S : CallFix p m c cc nL s args Ts own) (hP : va_P D vwCl (wc ++ wr) H) (hD : va_D A (wc ++ wr)) (hK : va_K D vwCl tys s) (hT : st_ok tt A s s.heap) (hS : va_S A s.heap H locs) (hA : ∀ q, s.heap.size ≤ q → A q)
    (hM : Met l y wy rm (va_Pc (.ref b :: As) (eQ D tys wc tt H.size)) (va_Qi (fun r (_ : Unit) => r = zI z) (fQ D tys (va_A wc H.size) w1) (va_A wc H.size)) 0 0 (va_A wc H.size)) (cw : CallW R s args own C index y bytes maxL ret wy rm 0 0 n)
    (q0 ci : Nat) {q : vw_C} {fs : List Value} (hc : vwCl[ci]? = some q) (hCC : q.1 = C) (he : wc[q0]? = some (b, .inr (ci, fs)))
    (hn : As.length = n) (hsize : ls.size = nL) (hstack : st0 = As.reverse ++ .ref b :: rest) (hW : (rest.map fun v => v.category).sum ≤ 8) (hd : decode cc pc = .ok (.invokevirtual index, 3)) (hf : cells ≤ R.cells ∧ slots ≤ R.slots)
    (kk : ∀ (H1 : Heap) (locs1 : List Loc), va_P D vwCl (wr ++ w1) H1 → va_D A (wr ++ w1) → va_S A s.heap H1 locs1 → W p l e R s m args below meth c H1 locs1 cells slots Q (F0 m (pc + 3) ls (.int (zI z) :: rest))) : W p l e R s m args below meth c H locs cells slots Q (F0 m pc ls st0) :=
  q_cVqi (isA wc) (isB wc wr) S hP hD hK hT hS hA hM cw (ap_C wc wr) (ap_R wc wr) (nd_A wc) (nd_B wc wr) (dis_AB wc wr) q0 ci hc hCC he hn hsize hstack hW hd hf kk
theorem q_LVl {z : Int} (S : CallFix p m c cc nL s args Ts own) (hP : va_P D vwCl (wc ++ wr) H) (hD : va_D A (wc ++ wr)) (hK : va_K D vwCl tys s) (hT : st_ok tt A s s.heap) (hS : va_S A s.heap H locs) (hA : ∀ q, s.heap.size ≤ q → A q)
    (hM : Met l y wy rm (va_Pc (.ref b :: As) (eQ D tys wc tt H.size)) (va_Ql (fun r (_ : Unit) => r = zL z) (fQ D tys (va_A wc H.size) w1) (va_A wc H.size)) 0 0 (va_A wc H.size)) (cw : CallW R s args own C index y bytes maxL ret wy rm 0 0 n)
    (q0 ci : Nat) {q : vw_C} {fs : List Value} (hc : vwCl[ci]? = some q) (hCC : q.1 = C) (he : wc[q0]? = some (b, .inr (ci, fs)))
    (hn : As.length = n) (hsize : ls.size = nL) (hstack : st0 = As.reverse ++ .ref b :: rest) (hW : (rest.map fun v => v.category).sum ≤ 8) (hd : decode cc pc = .ok (.invokevirtual index, 3)) (hf : cells ≤ R.cells ∧ slots ≤ R.slots)
    (kk : ∀ (H1 : Heap) (locs1 : List Loc), va_P D vwCl (wr ++ w1) H1 → va_D A (wr ++ w1) → va_S A s.heap H1 locs1 → W p l e R s m args below meth c H1 locs1 cells slots Q (F0 m (pc + 3) ls (.long (zL z) :: rest))) : W p l e R s m args below meth c H locs cells slots Q (F0 m pc ls st0) := by
  subst hCC
  have hDc := hD.sub (isA wc) (nd_A wc) (ap_C wc wr)
  have hF := va_free hD hS hA (isA wc) (ap_C wc wr)
  have hPc : va_P D vwCl wc H := vaP_l hP
  have hp := eQ_pre (av := .ref b :: As) hPc hK hDc hT hS hF
  refine va_calll (va_runV (g := F0 m pc ls st0) (rest := rest) S hM cw ⟨hp.1, va_recv hK hPc hc he, hp.2⟩ rfl hn hsize hstack (lv_room hW) hd hf) hS (fun q _ h => hF q h) hF (fun r u t H1 locs1 ht hvm hw hB hz1 hk1 hS1 => ?_)
  obtain ⟨hP1, hK1, hD1⟩ := hB
  rw [ht] at hP1
  obtain ⟨hP2, hD2⟩ := va_join (wr := wr) (w1 := w1) hP hD (isA wc) (isB wc wr) (ap_C wc wr) (ap_R wc wr) (nd_B wc wr) (dis_AB wc wr) hk1 hF hP1 hD1
  rw [hw]
  exact kk H1 locs1 hP2 hD2 hS1
theorem q_Leq (hx : p.tables.exec = Jvm.exec) (hb : c.code = cc) {v : Int32} {off : Int} {tgt : Nat} (hd : decode cc pc = .ok (.if_icmp .eq off, 3)) (ht : (pc : Int) + off = (tgt : Int)) (k : W p l e R s m args below meth c H locs cells slots Q (F0 m tgt ls rest)) : W p l e R s m args below meth c H locs cells slots Q (F0 m pc ls (.int v :: .int v :: rest)) := lv_icmp_eq hx hb hd ht (fun _ => k) (fun q => absurd rfl q)
theorem q_Lle (hx : p.tables.exec = Jvm.exec) (hb : c.code = cc) {v : Int64} {off : Int} {tgt : Nat} (hd : decode cc pc = .ok (.lcmp, 1)) (hd2 : decode cc (pc + 1) = .ok (.ifCond .eq off, 3)) (ht : ((pc + 1 : Nat) : Int) + off = (tgt : Int)) (k : W p l e R s m args below meth c H locs cells slots Q (F0 m tgt ls rest)) : W p l e R s m args below meth c H locs cells slots Q (F0 m pc ls (.long v :: .long v :: rest)) := by
  refine W.lcmp hx hb hd ?_
  refine q_if_eqT hx hb hd2 ht ?_ k
  unfold lg_cmp
  simp
/-- an int of the script -/
theorem q_arg {L : Nat} {xs : Nat → Int32} {i : Int} {v1 v2 : Value} (hx : p.tables.exec = Jvm.exec) (hb : c.code = cc) (hX : va_X b L xs s H0) (hbl : b < H0.size) (hbA : ¬ A b) (hS : va_S A H0 H locs) (hl : lv_has ls 4 [(0, .ref b), (1, v1), (2, v2), (3, .int (zI i))]) (hi : 0 ≤ i ∧ i + 5 ≤ L) (hL : L ≤ 320) {j : Int} (hj : 0 ≤ j ∧ j ≤ 4) (d0 : decode cc pc = .ok (.aload_n 0, 1)) (d1 : decode cc (pc + 1) = .ok (.iload_n 3, 1)) (d2 : decode cc (pc + 2) = .ok (.iconst j, 1)) (d3 : decode cc (pc + 3) = .ok (.iadd, 1)) (d4 : decode cc (pc + 4) = .ok (.iaload, 1))
    (k : W p l e R s m args below meth c H locs cells slots Q (F0 m (pc + 5) ls (.int (zI (xv xs i j)) :: rest))) : W p l e R s m args below meth c H locs cells slots Q (F0 m pc ls rest) := by
  refine lv_aload_n hx hb d0 rfl (lv_at hl 0 rfl) ?_
  refine lv_iload_n hx hb d1 rfl (lv_at hl 3 rfl) ?_
  refine q_iconst hx hb d2 ?_
  refine q_iadd hx hb d3 ?_
  refine va_sld hx hb hX hbl hbA hS (zI_in (by omega) (by omega)) d4 ?_
  have e9 : Value.int (xs (zI (i + j)).toNatClampNeg) = .int (zI (xv xs i j)) := by
    unfold xv
    rw [zI_of, zI_clamp (by omega)]
  rw [e9]
  exact k
end QLW
/-- what holds at the head of the law's loop, but for its counter -/
def LI (D : va_G) (g : Nat → ClassId) (ob a0 a1 a2 a3 q qm : Nat → Nat) (A : Nat → Prop) (H0 : Heap) (w0 w1 w2 w3 kp tx tz rf : Int → Int) (fa fb : Int) (M : Nat → Int → Int) (H : Heap) (locs : List Loc) : Prop :=
  Rel w0 w2 w3 kp tx tz fa fb rf M ∧ va_P D vwCl (wWW g ob a0 a1 a2 a3 q w0 w1 w2 w3 kp tx tz fa fb rf ++ wMo g qm M) H ∧ va_D A (wWW g ob a0 a1 a2 a3 q w0 w1 w2 w3 kp tx tz fa fb rf ++ wMo g qm M) ∧ va_S A H0 H locs
/-- what holds through the whole law -/
def LX (p : Program) (s : State) (m : MethodId) (c : Code) (args : Array Value) (D : va_G) (g : Nat → ClassId) (tt : Nat → Nat) (A : Nat → Prop) (b L : Nat) (xs : Nat → Int32) : Prop :=
  CallFix p m c cL_law 4 s args wsL_law RL ∧ (va_K D vwCl (wTy g) s ∧ st_ok tt A s s.heap ∧ (∀ q, s.heap.size ≤ q → A q)) ∧ (va_X b L xs s s.heap ∧ b < s.heap.size ∧ ¬ A b ∧ L ≤ 320)
