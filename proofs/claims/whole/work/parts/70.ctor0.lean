/-! making things: rows for constructors -/
section QN
variable {p : Program} {l : Launch} {e : Env} {R : Room} {s : State} {m : MethodId} {args : Array Value} {below : List Frame} {meth : Method} {c : Code} {H : Heap} {locs : List Loc} {cells slots : Nat} {Q : State → Prop} {cc : ByteArray} {pc : Nat} {ls : Array Slot} {rest st0 : List Value}
variable {D : va_G} {tys : List (ClassId × FieldType)} {ws wc wr : va_W} {tt : Nat → Nat} {A : Nat → Prop} {b : Nat} {H0 : Heap}
variable {y : MethodName} {bytes : ByteArray} {maxL nL n index : Nat} {wy : List Cond} {rm : Room} {Ts : List Cond} {own : String} {As : List Value}
theorem q_newa {atype : ArrayType} {ty : FieldType} (hx : p.tables.exec = Jvm.exec) (hb : c.code = cc) (harr : (Cond.arrayClass (newarray.typeOf atype)).before args s = true) (hty : newarray.typeOf atype = ty) (hdef : defaultValue ty = .int 0) (hu : ∀ c1 c2 : ClassId, va_RA s c1 ty → va_RA s c2 ty → c1 = c2) (hK : va_K D vwCl tys s) (hP : va_P D vwCl ws H) (hD : va_D A ws) (hS : va_S A H0 H locs) (hA : ∀ q, H0.size ≤ q → A q) (t0 : Nat) {cA : ClassId} (ht : tys[t0]? = some (cA, ty)) {z : Int} {N : Nat} (hn : 0 ≤ z ∧ z < 2147483648) (hN : z.toNat = N) (hbytes : N * componentBytes ty ≤ 536870912) (hcells : cells + 1 ≤ R.cells) (hslots : slots + N ≤ R.slots) (hd : decode cc pc = .ok (.newarray atype, 2))
    (kk : ∀ (q : Nat) (H1 : Heap), va_P D vwCl (ws ++ [(q, .inl (cA, N, .inl (fun _ => zI 0)))]) H1 → va_D A (ws ++ [(q, .inl (cA, N, .inl (fun _ => zI 0)))]) → va_S A H0 H1 locs → W p l e R s m args below meth c H1 locs (cells + 1) (slots + N) Q (F0 m (pc + 2) ls (.ref q :: rest))) : W p l e R s m args below meth c H locs cells slots Q (F0 m pc ls (.int (zI z) :: rest)) := by
  refine va_newa (a0 := (N, .inl (fun _ => zI 0))) hx hb harr hty hK hP hD hS hA (fun cB => ?_) (fun h => ?_) ?_ hbytes hcells hslots hd (fun q cB H1 hK1 hP1 hD1 hS1 => ?_)
  · rw [vp_cell_i, hdef]; rfl
  · have h9 : z < 0 := (zI_lt (a := z) (b := 0) ⟨by omega, hn.2⟩ (by decide)).mp h
    omega
  · rw [zI_clamp hn, hN]
  · have e9 : cB = cA := hu _ _ (hK1.2 tys.length (cB, ty) (by simp)).2 (hK.2 t0 _ ht).2
    subst e9
    exact kk q H1 hP1 hD1 hS1
theorem ra_int {c1 c2 : ClassId} (h1 : va_RA s c1 .int) (h2 : va_RA s c2 .int) : c1 = c2 := Option.some.inj ((va_nm_int h1).symm.trans (va_nm_int h2))
theorem ra_byte {c1 c2 : ClassId} (h1 : va_RA s c1 .byte) (h2 : va_RA s c2 .byte) : c1 = c2 := Option.some.inj ((va_nm_byte h1).symm.trans (va_nm_byte h2))
theorem ra_bool {c1 c2 : ClassId} (h1 : va_RA s c1 .boolean) (h2 : va_RA s c2 .boolean) : c1 = c2 := Option.some.inj ((va_nm_boolean h1).symm.trans (va_nm_boolean h2))
theorem ra_obj {C : String} {c1 c2 : ClassId} (h1 : va_RA s c1 (.object C)) (h2 : va_RA s c2 (.object C)) : c1 = c2 := Option.some.inj ((va_nmO h1 rfl).symm.trans (va_nmO h2 rfl))
theorem q_newq {C : String} (hx : p.tables.exec = Jvm.exec) (hb : c.code = cc) (hown : s.vm.findClass own = some m.cls) (hcl : (Cond.classLink own index C).before args s = true) (hov : va_AO C s) (hK : va_K D vwCl tys s) (hP : va_P D vwCl ws H) (hD : va_D A ws) (hS : va_S A H0 H locs) (hA : ∀ q, H0.size ≤ q → A q) (t0 : Nat) {cA : ClassId} (ht : tys[t0]? = some (cA, .object C)) {z : Int} {N : Nat} (hn : 0 ≤ z ∧ z < 2147483648) (hN : z.toNat = N) (hbytes : N * 4 ≤ 536870912) (hcells : cells + 1 ≤ R.cells) (hslots : slots + N ≤ R.slots) (hd : decode cc pc = .ok (.anewarray index, 3))
    (kk : ∀ (q : Nat) (H1 : Heap), va_P D vwCl (ws ++ [(q, .inl (cA, N, .inr (.inr (.inr (.inr (fun _ => none))))))]) H1 → va_D A (ws ++ [(q, .inl (cA, N, .inr (.inr (.inr (.inr (fun _ => none))))))]) → va_S A H0 H1 locs → W p l e R s m args below meth c H1 locs (cells + 1) (slots + N) Q (F0 m (pc + 3) ls (.ref q :: rest))) : W p l e R s m args below meth c H locs cells slots Q (F0 m pc ls (.int (zI z) :: rest)) := by
  refine va_newq hx hb hown hcl hov hK hP hD hS hA (fun h => ?_) ?_ hbytes hcells hslots hd (fun q cB H1 hK1 hP1 hD1 hS1 => ?_)
  · have h9 : z < 0 := (zI_lt (a := z) (b := 0) ⟨by omega, hn.2⟩ (by decide)).mp h
    omega
  · rw [zI_clamp hn, hN]
  · have e9 : cB = cA := ra_obj (hK1.2 tys.length (cB, .object C) (by simp)).2 (hK.2 t0 _ ht).2
    subst e9
    exact kk q H1 hP1 hD1 hS1
/-- a constructor's call: its cells are cut out and put back behind the rest -/
theorem q_mk {σ : Type} {post : σ → Prop} {w1 : σ → va_W} {mc ms : Nat} (isC isR : List Nat) (hP : va_P D vwCl ws H) (hD : va_D A ws) (hS : va_S A s.heap H locs) (hA : ∀ q, s.heap.size ≤ q → A q) (hC : isC.map (fun i => ws[i]?) = wc.map some) (hR : isR.map (fun i => ws[i]?) = wr.map some) (hnd : va_nd isR = true) (hdis : ∀ i ∈ isR, i ∉ isC) {av : Array Value}
    (hr : va_Run p l e R s m args below meth c H locs cells slots mc ms (F0 m pc ls st0) rest (va_Qv post (fun u t => fQ D tys (va_A wc H.size) (w1 u) () t) (va_A wc H.size) av) (va_A wc H.size))
    (kk : ∀ (u : σ) (H1 : Heap) (locs1 : List Loc), post u → va_P D vwCl (wr ++ w1 u) H1 → va_D A (wr ++ w1 u) → va_S A s.heap H1 locs1 → W p l e R s m args below meth c H1 locs1 (cells + mc) (slots + ms) Q (F0 m (pc + 3) ls rest)) : W p l e R s m args below meth c H locs cells slots Q (F0 m pc ls st0) := by
  have hF := va_free hD hS hA isC hC
  refine va_callv hr hS (fun q _ h => hF q h) hF (fun u t H1 locs1 ht hvm hw hB hz1 hk1 hS1 => ?_)
  obtain ⟨hP1, hK1, hD1⟩ := hB
  rw [ht] at hP1
  obtain ⟨hP2, hD2⟩ := va_join (wr := wr) (w1 := w1 u) hP hD isC isR hC hR hnd hdis hk1 hF hP1 hD1
  exact kk u H1 locs1 hw hP2 hD2 hS1
theorem q_cut (isC : List Nat) (hP : va_P D vwCl ws H) (hC : isC.map (fun i => ws[i]?) = wc.map some) : va_P D vwCl wc H := by
  intro k x hk
  have h1 : (isC.map (fun i => ws[i]?))[k]? = some (some x) := by rw [hC, List.getElem?_map, hk]; rfl
  rw [List.getElem?_map] at h1
  cases hi : isC[k]? with
  | none => rw [hi] at h1; cases h1
  | some i => rw [hi] at h1; exact hP i x (Option.some.inj h1)
theorem q_iQ {σ : Type} {post : σ → Prop} {w1 : σ → va_W} {mc ms : Nat} (isC isR : List Nat) (S : CallFix p m c cc nL s args Ts own) (hP : va_P D vwCl ws H) (hD : va_D A ws) (hK : va_K D vwCl tys s) (hT : st_ok tt A s s.heap) (hS : va_S A s.heap H locs) (hA : ∀ q, s.heap.size ≤ q → A q)
    (hM : Met l y wy rm (va_Pc (.ref b :: As) (eQ D tys wc tt H.size)) (va_Qv post (fun u t => fQ D tys (va_A wc H.size) (w1 u) () t) (va_A wc H.size)) mc ms (va_A wc H.size)) (cw : CallB R s args own index y bytes maxL none wy rm mc ms n ∧ y.name = "<init>" ∧ (Cond.instanceMethod y).before args s = true) (hC : isC.map (fun i => ws[i]?) = wc.map some) (hR : isR.map (fun i => ws[i]?) = wr.map some) (hnC : va_nd isC = true) (hnd : va_nd isR = true) (hdis : ∀ i ∈ isR, i ∉ isC)
    (hn : As.length = n) (hsize : ls.size = nL) (hstack : st0 = As.reverse ++ .ref b :: rest) (hW : (rest.map fun v => v.category).sum ≤ 8) (hd : decode cc pc = .ok (.invokespecial index, 3)) (hf : cells + mc ≤ R.cells ∧ slots + ms ≤ R.slots)
    (kk : ∀ (u : σ) (H1 : Heap) (locs1 : List Loc), post u → va_P D vwCl (wr ++ w1 u) H1 → va_D A (wr ++ w1 u) → va_S A s.heap H1 locs1 → W p l e R s m args below meth c H1 locs1 (cells + mc) (slots + ms) Q (F0 m (pc + 3) ls rest)) : W p l e R s m args below meth c H locs cells slots Q (F0 m pc ls st0) :=
  q_mk isC isR hP hD hS hA hC hR hnd hdis (va_runI (g := F0 m pc ls st0) (rest := rest) S hM cw (eQ_pre (av := .ref b :: As) (q_cut isC hP hC) hK (hD.sub isC hnC hC) hT hS (va_free hD hS hA isC hC)) rfl hn hsize hstack (lv_room hW) hd hf) kk
theorem q_iN {host : String} {σ : Type} {post : σ → Prop} {w1 : σ → va_W} {mc ms : Nat} (isC isR : List Nat) (S : CallFix p m c cc nL s args Ts own) (hP : va_P D vwCl ws H) (hD : va_D A ws) (hK : va_K D vwCl tys s) (hT : st_ok tt A s s.heap) (hS : va_S A s.heap H locs) (hA : ∀ q, s.heap.size ≤ q → A q)
    (hM : Met l y wy rm (va_Pc (.ref b :: As) (eQ D tys wc tt H.size)) (va_Qv post (fun u t => fQ D tys (va_A wc H.size) (w1 u) () t) (va_A wc H.size)) mc ms (va_A wc H.size)) (cw : va_CN R s args own index y host bytes maxL none wy rm mc ms n ∧ y.name = "<init>" ∧ (Cond.instanceMethod y).before args s = true) (hC : isC.map (fun i => ws[i]?) = wc.map some) (hR : isR.map (fun i => ws[i]?) = wr.map some) (hnC : va_nd isC = true) (hnd : va_nd isR = true) (hdis : ∀ i ∈ isR, i ∉ isC)
    (hn : As.length = n) (hsize : ls.size = nL) (hstack : st0 = As.reverse ++ .ref b :: rest) (hW : (rest.map fun v => v.category).sum ≤ 8) (hd : decode cc pc = .ok (.invokespecial index, 3)) (hf : cells + mc ≤ R.cells ∧ slots + ms ≤ R.slots)
    (kk : ∀ (u : σ) (H1 : Heap) (locs1 : List Loc), post u → va_P D vwCl (wr ++ w1 u) H1 → va_D A (wr ++ w1 u) → va_S A s.heap H1 locs1 → W p l e R s m args below meth c H1 locs1 (cells + mc) (slots + ms) Q (F0 m (pc + 3) ls rest)) : W p l e R s m args below meth c H locs cells slots Q (F0 m pc ls st0) :=
  q_mk isC isR hP hD hS hA hC hR hnd hdis (va_runIN (g := F0 m pc ls st0) (rest := rest) S hM cw (eQ_pre (av := .ref b :: As) (q_cut isC hP hC) hK (hD.sub isC hnC hC) hT hS (va_free hD hS hA isC hC)) rfl hn hsize hstack (lv_room hW) hd hf) kk
end QN
def z0 : Int → Int := fun _ => 0
def af (h0 h1 h2 h3 h4 h5 h6 h7 h8 h9 : Nat) : Nat → Nat := fun k => match k with
  | 0 => h0
  | 1 => h1
  | 2 => h2
  | 3 => h3
  | 4 => h4
  | 5 => h5
  | 6 => h6
  | 7 => h7
  | 8 => h8
  | _ => h9
/-- what the constructor of WrongWay wants besides -/
def eX (D : va_G) (tys : List (ClassId × FieldType)) (ws : va_W) (tt : Nat → Nat) (sz : Nat) (U : State) : Prop := eQ D tys ws tt sz U ∧ va_AO RX1 U ∧ va_Nw (.methodLinkNest RX5 38 yX3_init RX5) U ∧ va_Nw (.methodLinkNest RX5 45 yX0_init RX5) U
theorem eX_pre {D : va_G} {tys : List (ClassId × FieldType)} {ws : va_W} {tt : Nat → Nat} {av : List Value} {A B : Nat → Prop} {s : State} {H : Heap} {locs : List Loc} (hP : va_P D vwCl ws H) (hK : va_K D vwCl tys s) (hD : va_D B ws) (hT : st_ok tt A s s.heap) (hS : va_S A s.heap H locs) (hF : ∀ q, va_A ws H.size q → A q) (h1 : va_AO RX1 s) (h2 : va_Nw (.methodLinkNest RX5 38 yX3_init RX5) s) (h3 : va_Nw (.methodLinkNest RX5 45 yX0_init RX5) s) : PreS s H (va_Pc av (eX D tys ws tt H.size)) av := by
  have h0 := eQ_pre (av := av) hP hK hD hT hS hF
  refine ⟨fun a U g mk h => ?_, fun U hU hW => ?_⟩
  · obtain ⟨q1, q2, q3, q4, q5⟩ := h
    exact ⟨q1, (h0.1 a U g mk ⟨q1, q2⟩).2, va_AO.moved (u := U) (U := U.calling g mk a) (Vm.Alike.refl U.vm) q3, va_Nw.same (u := U) (U := U.calling g mk a) rfl rfl q4, va_Nw.same (u := U) (U := U.calling g mk a) rfl rfl q5⟩
  · have h9 := h0.2 U hU hW
    exact ⟨h9.1, h9.2, va_AO.moved hW.alike h1, va_Nw.warmM hW h2, va_Nw.warmM hW h3⟩
