/-! what nobody writes: the String constants, the nest link (the first three places are empty: Kinds has no tables any more) -/
def kPace (k : Int) : Int := if k = 1 then 2 else 1
def kRest (k : Int) : Int := if k = 2 then 4 else if k = 4 then 4 else 0
def kStand (k : Int) : Int := if k = 4 then 2 else 0
def strB : List (List Int32) := [[104, 111, 117, 115, 101], [108, 105, 102, 116], [108, 105, 110, 101]]
def st_ok (tt : Nat → Nat) (A : Nat → Prop) (U : State) (H : Heap) : Prop :=
  True ∧ True ∧ True ∧
  (vk_R RX3 38 "house" (tt 3) U ∧ vk_R RX3 61 "lift" (tt 4) U ∧ vk_R RX3 69 "line" (tt 5) U) ∧
  vk_S 3 [5, 4, 4] strB (fun i => tt (3 + i)) (fun i => tt (6 + i)) A U H ∧
  va_Nw (.methodLinkNest RX3 93 yX5_isWithin RX5) U ∧
  va_Z "java/lang/String" "COMPACT_STRINGS" "Z" (.int (zI 1)) A U H ∧
  va_Zq "jdk/internal/util/Preconditions" "SIOOBE_FORMATTER" "Ljava/util/function/BiFunction;" A U H
theorem st_ok.kept {tt : Nat → Nat} {A : Nat → Prop} {U : State} {H H1 : Heap} (h : st_ok tt A U H) (hq : ∀ a : Nat, a < H.size → ¬ A a → H1[a]? = H[a]?) : st_ok tt A U H1 := by
  obtain ⟨a, b, c, d, e, f, g, i⟩ := h
  exact ⟨a, b, c, d, e.kept hq, f, g.kept hq, i.kept hq⟩
theorem st_ok.narrow {tt : Nat → Nat} {A B : Nat → Prop} {U : State} {H : Heap} (h : st_ok tt A U H) (hq : ∀ a : Nat, B a → A a) : st_ok tt B U H := by
  obtain ⟨a, b, c, d, e, f, g, i⟩ := h
  exact ⟨a, b, c, d, e.narrow hq, f, g.narrow hq, i.narrow hq⟩
theorem st_ok.warm {tt : Nat → Nat} {A : Nat → Prop} {s U : State} {H : Heap} (hW : s.WarmedH U.vm) (h : st_ok tt A s H) : st_ok tt A U H := by
  obtain ⟨a, b, c, ⟨d1, d2, d3⟩, e, f, g, i⟩ := h
  have ha := hW.alike
  exact ⟨a, b, c, ⟨d1.warm hW, d2.warm hW, d3.warm hW⟩, e.moved ha, f.warmM hW, g.moved ha, i.moved ha⟩
theorem st_ok.same {tt : Nat → Nat} {A : Nat → Prop} {s U : State} {H : Heap} (hv : U.vm = s.vm) (h : st_ok tt A s H) : st_ok tt A U H := by
  obtain ⟨a, b, c, ⟨d1, d2, d3⟩, e, f, g, i⟩ := h
  have ha : s.vm.Alike U.vm := by rw [hv]; exact Vm.Alike.refl _
  exact ⟨a, b, c, ⟨d1.same hv, d2.same hv, d3.same hv⟩, e.moved ha, va_Nw.same rfl hv.symm f, g.moved ha, i.moved ha⟩
theorem st_ok.pre {tt : Nat → Nat} {A B : Nat → Prop} {s U : State} {H : Heap} {locs : List Loc} (h : st_ok tt A s s.heap) (hS : va_S A s.heap H locs) (hq : ∀ a : Nat, B a → A a) (hU : U.heap = H) (hW : s.WarmedH U.vm) : st_ok tt B U U.heap := by
  rw [hU]
  exact ((h.kept hS.2.1).narrow hq).warm hW
/-- a start that only reads -/
def eS (D : va_G) (tys : List (ClassId × FieldType)) (ws : va_W) (tt : Nat → Nat) (U : State) : Prop := va_P D vwCl ws U.heap ∧ va_K D vwCl tys U ∧ st_ok tt (fun _ => False) U U.heap
/-- a start that writes, and its end -/
def eQ (D : va_G) (tys : List (ClassId × FieldType)) (ws : va_W) (tt : Nat → Nat) (sz : Nat) (U : State) : Prop := U.heap.size = sz ∧ va_P D vwCl ws U.heap ∧ va_K D vwCl tys U ∧ va_D (fun _ => True) ws ∧ st_ok tt (va_A ws sz) U U.heap
def fQ (D : va_G) (tys : List (ClassId × FieldType)) (A : Nat → Prop) (ws : va_W) (_ : Unit) (t : State) : Prop := va_P D vwCl ws t.heap ∧ va_K D vwCl tys t ∧ va_D A ws
theorem eS_blind {D : va_G} {tys : List (ClassId × FieldType)} {ws : va_W} {tt : Nat → Nat} {av : List Value} : FrameBlind (va_Pc av (eS D tys ws tt)) := fun a U g mk h => by
  obtain ⟨h1, h2, h3, h4⟩ := h
  exact ⟨h1, h2, va_K.moved (u := U) (U := U.calling g mk a) (Vm.Alike.refl U.vm) h3, st_ok.same (s := U) (U := U.calling g mk a) rfl h4⟩
theorem eQ_blind {D : va_G} {tys : List (ClassId × FieldType)} {ws : va_W} {tt : Nat → Nat} {sz : Nat} {av : List Value} : FrameBlind (va_Pc av (eQ D tys ws tt sz)) := fun a U g mk h => by
  obtain ⟨h1, h0, h2, h3, h5, h4⟩ := h
  exact ⟨h1, h0, h2, va_K.moved (u := U) (U := U.calling g mk a) (Vm.Alike.refl U.vm) h3, h5, st_ok.same (s := U) (U := U.calling g mk a) rfl h4⟩
theorem eS_pre {D : va_G} {tys : List (ClassId × FieldType)} {ws : va_W} {tt : Nat → Nat} {av : List Value} {A : Nat → Prop} {s : State} {H : Heap} {locs : List Loc} (hP : va_P D vwCl ws H) (hK : va_K D vwCl tys s) (hT : st_ok tt A s s.heap) (hS : va_S A s.heap H locs) : PreS s H (va_Pc av (eS D tys ws tt)) av :=
  ⟨eS_blind, fun U hU hW => ⟨rfl, by rw [hU]; exact hP, va_K.moved hW.alike hK, hT.pre hS (fun _ h => h.elim) hU hW⟩⟩
theorem eQ_pre {D : va_G} {tys : List (ClassId × FieldType)} {ws : va_W} {tt : Nat → Nat} {av : List Value} {A B : Nat → Prop} {s : State} {H : Heap} {locs : List Loc} (hP : va_P D vwCl ws H) (hK : va_K D vwCl tys s) (hD : va_D B ws) (hT : st_ok tt A s s.heap) (hS : va_S A s.heap H locs) (hF : ∀ q, va_A ws H.size q → A q) : PreS s H (va_Pc av (eQ D tys ws tt H.size)) av :=
  ⟨eQ_blind, fun U hU hW => ⟨rfl, by rw [hU], by rw [hU]; exact hP, va_K.moved hW.alike hK, hD.weaken (fun _ _ _ _ => trivial), hT.pre hS hF hU hW⟩⟩
section QL
variable {p : Program} {l : Launch} {e : Env} {R : Room} {s : State} {m : MethodId} {args : Array Value} {below : List Frame} {meth : Method} {c : Code} {H : Heap} {locs : List Loc} {cells slots : Nat} {Q : State → Prop} {cc : ByteArray} {pc : Nat} {ls : Array Slot} {rest st0 : List Value}
/-- a loop that writes nothing -/
theorem w_loopP {σ : Type} (I : σ → Array Slot → Prop) (μ : σ → Nat) (body : ∀ (a : σ) (ls : Array Slot), I a ls → (∀ (a' : σ) (ls' : Array Slot), I a' ls' → μ a' < μ a → W p l e R s m args below meth c H locs cells slots Q (F0 m pc ls' st0)) → W p l e R s m args below meth c H locs cells slots Q (F0 m pc ls st0)) (a : σ) (h : I a ls) : W p l e R s m args below meth c H locs cells slots Q (F0 m pc ls st0) := by
  have key : ∀ (n : Nat) (a : σ) (ls : Array Slot), μ a < n → I a ls → W p l e R s m args below meth c H locs cells slots Q (F0 m pc ls st0) := by
    intro n
    induction n with
    | zero => exact fun a ls hn => absurd hn (Nat.not_lt_zero _)
    | succ n ih => exact fun a ls hn hI => body a ls hI (fun a' ls' hI' hm => ih a' ls' (by omega) hI')
  exact key (μ a + 1) a ls (Nat.lt_succ_self _) h
/-- a loop that writes -/
theorem w_loopQ {σ : Type} (I : σ → Heap → List Loc → Array Slot → Prop) (μ : σ → Nat) (body : ∀ (a : σ) (H : Heap) (locs : List Loc) (ls : Array Slot), I a H locs ls → (∀ (a' : σ) (H' : Heap) (locs' : List Loc) (ls' : Array Slot), I a' H' locs' ls' → μ a' < μ a → W p l e R s m args below meth c H' locs' cells slots Q (F0 m pc ls' st0)) → W p l e R s m args below meth c H locs cells slots Q (F0 m pc ls st0)) (a : σ) (h : I a H locs ls) : W p l e R s m args below meth c H locs cells slots Q (F0 m pc ls st0) := by
  have key : ∀ (n : Nat) (a : σ) (H : Heap) (locs : List Loc) (ls : Array Slot), μ a < n → I a H locs ls → W p l e R s m args below meth c H locs cells slots Q (F0 m pc ls st0) := by
    intro n
    induction n with
    | zero => exact fun a H locs ls hn => absurd hn (Nat.not_lt_zero _)
    | succ n ih => exact fun a H locs ls hn hI => body a H locs ls hI (fun a' H' locs' ls' hI' hm => ih a' H' locs' ls' (by omega) hI')
  exact key (μ a + 1) a H locs ls (Nat.lt_succ_self _) h
variable {D : va_G} {tys : List (ClassId × FieldType)} {ws wc wr w1 : va_W} {tt : Nat → Nat} {A A0 : Nat → Prop} {a b : Nat} {H0 : Heap}
theorem q_iald (hx : p.tables.exec = Jvm.exec) (hb : c.code = cc) (hK : va_K D vwCl tys s) (hP : va_P D vwCl ws H) (q0 t0 : Nat) {cA : ClassId} {n : Nat} {F : Int → Int} (ha : ws[q0]? = some (a, .inl (cA, n, .inl (fun k => zI (F k))))) (ht : tys[t0]? = some (cA, .int)) {i v : Int} (hn : n < 2147483648) (hi : 0 ≤ i ∧ i < n) (hv : F i = v) (hd : decode cc pc = .ok (.iaload, 1))
    (kk : W p l e R s m args below meth c H locs cells slots Q (F0 m (pc + 1) ls (.int (zI v) :: rest))) : W p l e R s m args below meth c H locs cells slots Q (F0 m pc ls (.int (zI i) :: .ref a :: rest)) := by
  refine va_iald hx hb hK hP q0 t0 ha ht (zI_in hi hn) hd ?_
  show W p l e R s m args below meth c H locs cells slots Q (F0 m (pc + 1) ls (.int (zI (F ((zI i).toNatClampNeg : Int))) :: rest))
  rw [zI_clamp ⟨hi.1, by omega⟩, Int.toNat_of_nonneg hi.1, hv]
  exact kk
theorem q_bald (hx : p.tables.exec = Jvm.exec) (hb : c.code = cc) (hK : va_K D vwCl tys s) (hP : va_P D vwCl ws H) (q0 t0 : Nat) {cA : ClassId} {n : Nat} {F : Int → Int} (ha : ws[q0]? = some (a, .inl (cA, n, .inl (fun k => zI (F k))))) (ht : tys[t0]? = some (cA, .byte)) {i v : Int} (hn : n < 2147483648) (hi : 0 ≤ i ∧ i < n) (hv : F i = v) (hd : decode cc pc = .ok (.baload, 1))
    (kk : W p l e R s m args below meth c H locs cells slots Q (F0 m (pc + 1) ls (.int (zI v) :: rest))) : W p l e R s m args below meth c H locs cells slots Q (F0 m pc ls (.int (zI i) :: .ref a :: rest)) := by
  refine va_bald hx hb hK hP q0 t0 ha ht (zI_in hi hn) hd ?_
  show W p l e R s m args below meth c H locs cells slots Q (F0 m (pc + 1) ls (.int (zI (F ((zI i).toNatClampNeg : Int))) :: rest))
  rw [zI_clamp ⟨hi.1, by omega⟩, Int.toNat_of_nonneg hi.1, hv]
  exact kk
theorem q_zald (hx : p.tables.exec = Jvm.exec) (hb : c.code = cc) (hK : va_K D vwCl tys s) (hP : va_P D vwCl ws H) (q0 t0 : Nat) {cA : ClassId} {n : Nat} {F : Int → Int} (ha : ws[q0]? = some (a, .inl (cA, n, .inl (fun k => zI (F k))))) (ht : tys[t0]? = some (cA, .boolean)) {i v : Int} (hn : n < 2147483648) (hi : 0 ≤ i ∧ i < n) (hv : F i = v) (hd : decode cc pc = .ok (.baload, 1))
    (kk : W p l e R s m args below meth c H locs cells slots Q (F0 m (pc + 1) ls (.int (zI v) :: rest))) : W p l e R s m args below meth c H locs cells slots Q (F0 m pc ls (.int (zI i) :: .ref a :: rest)) := by
  refine va_zald hx hb hK hP q0 t0 ha ht (zI_in hi hn) hd ?_
  show W p l e R s m args below meth c H locs cells slots Q (F0 m (pc + 1) ls (.int (zI (F ((zI i).toNatClampNeg : Int))) :: rest))
  rw [zI_clamp ⟨hi.1, by omega⟩, Int.toNat_of_nonneg hi.1, hv]
  exact kk
theorem q_ti (hx : p.tables.exec = Jvm.exec) (hb : c.code = cc) {t n : Nat} {F : Int → Int} (hT : va_T .int t n (fun k => .int (zI (F k))) A s s.heap) (hS : va_S A s.heap H locs) {i : Int} (hn : n < 2147483648) (hi : 0 ≤ i ∧ i < n) (hd : decode cc pc = .ok (.iaload, 1))
    (kk : W p l e R s m args below meth c H locs cells slots Q (F0 m (pc + 1) ls (.int (zI (F i)) :: rest))) : W p l e R s m args below meth c H locs cells slots Q (F0 m pc ls (.int (zI i) :: .ref t :: rest)) := by
  refine va_ti hx hb hT hS (zI_in hi hn) (v := .int (zI (F i))) ?_ hd kk
  show Value.int (zI (F ((zI i).toNatClampNeg : Int))) = _
  rw [zI_clamp ⟨hi.1, by omega⟩, Int.toNat_of_nonneg hi.1]
theorem upd_z {F : Int → Int} {i v : Int} (hi : 0 ≤ i ∧ i < 2147483648) : upd (fun k => zI (F k)) (zI i).toNatClampNeg (zI v) = fun k : Nat => zI (if (k : Int) = i then v else F k) := by
  funext k
  rw [zI_clamp hi]
  unfold upd
  by_cases h : k = i.toNat
  · rw [if_pos h, if_pos (by omega)]
  · rw [if_neg h, if_neg (by omega)]
theorem q_iast (hx : p.tables.exec = Jvm.exec) (hb : c.code = cc) (hK : va_K D vwCl tys s) (hP : va_P D vwCl ws H) (hD : va_D A ws) (hS : va_S A H0 H locs) (q0 t0 : Nat) {cA : ClassId} {n : Nat} {F : Int → Int} (ha : ws[q0]? = some (a, .inl (cA, n, .inl (fun k => zI (F k))))) (ht : tys[t0]? = some (cA, .int)) {i v : Int} (hn : n < 2147483648) (hi : 0 ≤ i ∧ i < n) (hd : decode cc pc = .ok (.iastore, 1))
    (kk : ∀ (H1 : Heap) (locs1 : List Loc), va_P D vwCl (ws.set q0 (a, .inl (cA, n, .inl (fun k => zI (if (k : Int) = i then v else F k))))) H1 → va_D A (ws.set q0 (a, .inl (cA, n, .inl (fun k => zI (if (k : Int) = i then v else F k))))) → va_S A H0 H1 locs1 → W p l e R s m args below meth c H1 locs1 cells slots Q (F0 m (pc + 1) ls rest)) : W p l e R s m args below meth c H locs cells slots Q (F0 m pc ls (.int (zI v) :: .int (zI i) :: .ref a :: rest)) := by
  refine va_iast hx hb hK hP hD hS q0 t0 ha ht (zI_in hi hn) hd ?_
  rw [upd_z ⟨hi.1, by omega⟩]
  exact kk
end QL
section QC
variable {p : Program} {l : Launch} {e : Env} {R : Room} {s : State} {m : MethodId} {args : Array Value} {below : List Frame} {meth : Method} {c : Code} {H : Heap} {locs : List Loc} {cells slots : Nat} {Q : State → Prop} {cc : ByteArray} {pc : Nat} {ls : Array Slot} {rest st0 : List Value}
variable {D : va_G} {tys : List (ClassId × FieldType)} {ws wc wr w1 : va_W} {tt : Nat → Nat} {A A0 : Nat → Prop} {a b : Nat} {H0 : Heap}
variable {y : MethodName} {bytes : ByteArray} {maxL nL n index : Nat} {ret : Option FieldType} {wy : List Cond} {rm : Room} {Ts : List Cond} {own C : String} {As : List Value}
theorem q_cSi {z : Int} (S : CallFix p m c cc nL s args Ts own) (hM : Met l y wy rm (va_Pc As (eS D tys wc tt)) (vp_Si (fun r => r = zI z)) 0 0 (fun _ => False)) (cw : CallB R s args own index y bytes maxL ret wy rm 0 0 n ∧ (Cond.static y).before args s = true) (hP : va_P D vwCl wc H) (hK : va_K D vwCl tys s) (hT : st_ok tt A s s.heap) (hS : va_S A s.heap H locs)
    (hn : As.length = n) (hsize : ls.size = nL) (hstack : st0 = As.reverse ++ rest) (hW : (rest.map fun v => v.category).sum ≤ 8) (hd : decode cc pc = .ok (.invokestatic index, 3)) (hf : cells ≤ R.cells ∧ slots ≤ R.slots)
    (kk : W p l e R s m args below meth c H locs cells slots Q (F0 m (pc + 3) ls (.int (zI z) :: rest))) : W p l e R s m args below meth c H locs cells slots Q (F0 m pc ls st0) := by
  refine vp_callSi (W.runS (g := F0 m pc ls st0) (rest := rest) S hM cw (eS_pre hP hK hT hS) rfl hn hsize hstack (lv_room hW) hd hf) (fun r hr => ?_)
  rw [hr]
  exact kk
theorem q_cSl {z : Int} (S : CallFix p m c cc nL s args Ts own) (hM : Met l y wy rm (va_Pc As (eS D tys wc tt)) (vp_Sl (fun r => r = zL z)) 0 0 (fun _ => False)) (cw : CallB R s args own index y bytes maxL ret wy rm 0 0 n ∧ (Cond.static y).before args s = true) (hP : va_P D vwCl wc H) (hK : va_K D vwCl tys s) (hT : st_ok tt A s s.heap) (hS : va_S A s.heap H locs)
    (hn : As.length = n) (hsize : ls.size = nL) (hstack : st0 = As.reverse ++ rest) (hW : (rest.map fun v => v.category).sum ≤ 8) (hd : decode cc pc = .ok (.invokestatic index, 3)) (hf : cells ≤ R.cells ∧ slots ≤ R.slots)
    (kk : W p l e R s m args below meth c H locs cells slots Q (F0 m (pc + 3) ls (.long (zL z) :: rest))) : W p l e R s m args below meth c H locs cells slots Q (F0 m pc ls st0) := by
  refine vp_callSl (W.runS (g := F0 m pc ls st0) (rest := rest) S hM cw (eS_pre hP hK hT hS) rfl hn hsize hstack (lv_room hW) hd hf) (fun r hr => ?_)
  rw [hr]
  exact kk
theorem q_cVi {z : Int} (S : CallFix p m c cc nL s args Ts own) (hM : Met l y wy rm (va_Pc (.ref b :: As) (eS D tys wc tt)) (vp_Si (fun r => r = zI z)) 0 0 (fun _ => False)) (cw : CallW R s args own C index y bytes maxL ret wy rm 0 0 n) (hP : va_P D vwCl wc H) (hK : va_K D vwCl tys s) (hT : st_ok tt A s s.heap) (hS : va_S A s.heap H locs) (q0 ci : Nat) {q : vw_C} {fs : List Value} (hc : vwCl[ci]? = some q) (hC : q.1 = C) (he : wc[q0]? = some (b, .inr (ci, fs)))
    (hn : As.length = n) (hsize : ls.size = nL) (hstack : st0 = As.reverse ++ .ref b :: rest) (hW : (rest.map fun v => v.category).sum ≤ 8) (hd : decode cc pc = .ok (.invokevirtual index, 3)) (hf : cells ≤ R.cells ∧ slots ≤ R.slots)
    (kk : W p l e R s m args below meth c H locs cells slots Q (F0 m (pc + 3) ls (.int (zI z) :: rest))) : W p l e R s m args below meth c H locs cells slots Q (F0 m pc ls st0) := by
  subst hC
  have hp := eS_pre (av := .ref b :: As) hP hK hT hS
  refine vp_callSi (W.runV (g := F0 m pc ls st0) (rest := rest) S hM cw ⟨hp.1, va_recv hK hP hc he, hp.2⟩ rfl hn hsize hstack (lv_room hW) hd hf) (fun r hr => ?_)
  rw [hr]
  exact kk
theorem q_cVl {z : Int} (S : CallFix p m c cc nL s args Ts own) (hM : Met l y wy rm (va_Pc (.ref b :: As) (eS D tys wc tt)) (vp_Sl (fun r => r = zL z)) 0 0 (fun _ => False)) (cw : CallW R s args own C index y bytes maxL ret wy rm 0 0 n) (hP : va_P D vwCl wc H) (hK : va_K D vwCl tys s) (hT : st_ok tt A s s.heap) (hS : va_S A s.heap H locs) (q0 ci : Nat) {q : vw_C} {fs : List Value} (hc : vwCl[ci]? = some q) (hC : q.1 = C) (he : wc[q0]? = some (b, .inr (ci, fs)))
    (hn : As.length = n) (hsize : ls.size = nL) (hstack : st0 = As.reverse ++ .ref b :: rest) (hW : (rest.map fun v => v.category).sum ≤ 8) (hd : decode cc pc = .ok (.invokevirtual index, 3)) (hf : cells ≤ R.cells ∧ slots ≤ R.slots)
    (kk : W p l e R s m args below meth c H locs cells slots Q (F0 m (pc + 3) ls (.long (zL z) :: rest))) : W p l e R s m args below meth c H locs cells slots Q (F0 m pc ls st0) := by
  subst hC
  have hp := eS_pre (av := .ref b :: As) hP hK hT hS
  refine vp_callSl (W.runV (g := F0 m pc ls st0) (rest := rest) S hM cw ⟨hp.1, va_recv hK hP hc he, hp.2⟩ rfl hn hsize hstack (lv_room hW) hd hf) (fun r hr => ?_)
  rw [hr]
  exact kk
/-- a call that writes: its cells are cut out and put back behind the rest -/
theorem q_cVqi {z : Int} (isC isR : List Nat) (S : CallFix p m c cc nL s args Ts own) (hP : va_P D vwCl ws H) (hD : va_D A ws) (hK : va_K D vwCl tys s) (hT : st_ok tt A s s.heap) (hS : va_S A s.heap H locs) (hA : ∀ q, s.heap.size ≤ q → A q)
    (hM : Met l y wy rm (va_Pc (.ref b :: As) (eQ D tys wc tt H.size)) (va_Qi (fun r (_ : Unit) => r = zI z) (fQ D tys (va_A wc H.size) w1) (va_A wc H.size)) 0 0 (va_A wc H.size)) (cw : CallW R s args own C index y bytes maxL ret wy rm 0 0 n) (hC : isC.map (fun i => ws[i]?) = wc.map some) (hR : isR.map (fun i => ws[i]?) = wr.map some) (hnC : va_nd isC = true) (hnd : va_nd isR = true) (hdis : ∀ i ∈ isR, i ∉ isC)
    (q0 ci : Nat) {q : vw_C} {fs : List Value} (hc : vwCl[ci]? = some q) (hCC : q.1 = C) (he : wc[q0]? = some (b, .inr (ci, fs)))
    (hn : As.length = n) (hsize : ls.size = nL) (hstack : st0 = As.reverse ++ .ref b :: rest) (hW : (rest.map fun v => v.category).sum ≤ 8) (hd : decode cc pc = .ok (.invokevirtual index, 3)) (hf : cells ≤ R.cells ∧ slots ≤ R.slots)
    (kk : ∀ (H1 : Heap) (locs1 : List Loc), va_P D vwCl (wr ++ w1) H1 → va_D A (wr ++ w1) → va_S A s.heap H1 locs1 → W p l e R s m args below meth c H1 locs1 cells slots Q (F0 m (pc + 3) ls (.int (zI z) :: rest))) : W p l e R s m args below meth c H locs cells slots Q (F0 m pc ls st0) := by
  subst hCC
  have hDc := hD.sub isC hnC hC
  have hF := va_free hD hS hA isC hC
  have hPc : va_P D vwCl wc H := by
    intro k x hk
    have h1 : (isC.map (fun i => ws[i]?))[k]? = some (some x) := by rw [hC, List.getElem?_map, hk]; rfl
    rw [List.getElem?_map] at h1
    cases hi : isC[k]? with
    | none => rw [hi] at h1; cases h1
    | some i => rw [hi] at h1; exact hP i x (Option.some.inj h1)
  have hp := eQ_pre (av := .ref b :: As) hPc hK hDc hT hS hF
  refine va_calli (va_runV (g := F0 m pc ls st0) (rest := rest) S hM cw ⟨hp.1, va_recv hK hPc hc he, hp.2⟩ rfl hn hsize hstack (lv_room hW) hd hf) hS (fun q _ h => hF q h) hF (fun r u t H1 locs1 ht hvm hw hB hz1 hk1 hS1 => ?_)
  obtain ⟨hP1, hK1, hD1⟩ := hB
  rw [ht] at hP1
  obtain ⟨hP2, hD2⟩ := va_join (wr := wr) (w1 := w1) hP hD isC isR hC hR hnd hdis hk1 hF hP1 hD1
  rw [hw]
  exact kk H1 locs1 hP2 hD2 hS1
theorem q_cVqv (isC isR : List Nat) (S : CallFix p m c cc nL s args Ts own) (hP : va_P D vwCl ws H) (hD : va_D A ws) (hK : va_K D vwCl tys s) (hT : st_ok tt A s s.heap) (hS : va_S A s.heap H locs) (hA : ∀ q, s.heap.size ≤ q → A q)
    (hM : Met l y wy rm (va_Pc (.ref b :: As) (eQ D tys wc tt H.size)) (va_Qv (fun (_ : Unit) => True) (fQ D tys (va_A wc H.size) w1) (va_A wc H.size)) 0 0 (va_A wc H.size)) (cw : CallW R s args own C index y bytes maxL ret wy rm 0 0 n) (hC : isC.map (fun i => ws[i]?) = wc.map some) (hR : isR.map (fun i => ws[i]?) = wr.map some) (hnC : va_nd isC = true) (hnd : va_nd isR = true) (hdis : ∀ i ∈ isR, i ∉ isC)
    (q0 ci : Nat) {q : vw_C} {fs : List Value} (hc : vwCl[ci]? = some q) (hCC : q.1 = C) (he : wc[q0]? = some (b, .inr (ci, fs)))
    (hn : As.length = n) (hsize : ls.size = nL) (hstack : st0 = As.reverse ++ .ref b :: rest) (hW : (rest.map fun v => v.category).sum ≤ 8) (hd : decode cc pc = .ok (.invokevirtual index, 3)) (hf : cells ≤ R.cells ∧ slots ≤ R.slots)
    (kk : ∀ (H1 : Heap) (locs1 : List Loc), va_P D vwCl (wr ++ w1) H1 → va_D A (wr ++ w1) → va_S A s.heap H1 locs1 → W p l e R s m args below meth c H1 locs1 cells slots Q (F0 m (pc + 3) ls rest)) : W p l e R s m args below meth c H locs cells slots Q (F0 m pc ls st0) := by
  subst hCC
  have hDc := hD.sub isC hnC hC
  have hF := va_free hD hS hA isC hC
  have hPc : va_P D vwCl wc H := by
    intro k x hk
    have h1 : (isC.map (fun i => ws[i]?))[k]? = some (some x) := by rw [hC, List.getElem?_map, hk]; rfl
    rw [List.getElem?_map] at h1
    cases hi : isC[k]? with
    | none => rw [hi] at h1; cases h1
    | some i => rw [hi] at h1; exact hP i x (Option.some.inj h1)
  have hp := eQ_pre (av := .ref b :: As) hPc hK hDc hT hS hF
  refine va_callv (va_runV (g := F0 m pc ls st0) (rest := rest) S hM cw ⟨hp.1, va_recv hK hPc hc he, hp.2⟩ rfl hn hsize hstack (lv_room hW) hd hf) hS (fun q _ h => hF q h) hF (fun u t H1 locs1 ht hvm hw hB hz1 hk1 hS1 => ?_)
  obtain ⟨hP1, hK1, hD1⟩ := hB
  rw [ht] at hP1
  obtain ⟨hP2, hD2⟩ := va_join (wr := wr) (w1 := w1) hP hD isC isR hC hR hnd hdis hk1 hF hP1 hD1
  exact kk H1 locs1 hP2 hD2 hS1
end QC
