/-! the class and the model stand alike -/
def mim (M : Nat → Int → Int) (b : Int) : Int → Int := fun j => M 1 (b + j)
def Rel (w0 w2 w3 kp tx tz : Int → Int) (fa fb : Int) (rf : Int → Int) (M : Nat → Int → Int) : Prop :=
  ((hok w0 ∧ hag w0 (M 1)) ∧ ((0 ≤ kp 0 ∧ kp 0 ≤ 1) ∧ (0 ≤ kp 1 ∧ kp 1 ≤ 1)) ∧ (M 2 0 = kp 0 ∧ M 2 1 = kp 1)) ∧
  ((¬ kp 0 = 0 → hok w2 ∧ hag w2 (mim M 49)) ∧ (¬ kp 1 = 0 → hok w3 ∧ hag w3 (mim M 98))) ∧
  ((tok tx (tz 0) ∧ (-1 ≤ tz 4 ∧ tz 4 ≤ 99)) ∧ (M 0 0 = tz 0 ∧ ∀ k : Int, 0 ≤ k → k < tz 0 → M 3 k = tx k)) ∧
  ((M 0 1 = fa ∧ M 0 2 = fb) ∧ (M 4 0 = rf 0 ∧ M 4 1 = rf 1 ∧ M 4 2 = rf 2))
section RL
variable {w0 w2 w3 kp tx tz rf w0' rf' : Int → Int} {fa fb fa' fb' : Int} {M M' : Nat → Int → Int}
theorem Rel.ok (h : Rel w0 w2 w3 kp tx tz fa fb rf M) : hok w0 := h.1.1.1
theorem Rel.ag (h : Rel w0 w2 w3 kp tx tz fa fb rf M) : hag w0 (M 1) := h.1.1.2
theorem Rel.okM (h : Rel w0 w2 w3 kp tx tz fa fb rf M) : hok (M 1) := hag_ok h.ag h.ok
theorem Rel.kept (h : Rel w0 w2 w3 kp tx tz fa fb rf M) : (0 ≤ kp 0 ∧ kp 0 ≤ 1) ∧ (0 ≤ kp 1 ∧ kp 1 ≤ 1) := h.1.2.1
theorem Rel.kpM (h : Rel w0 w2 w3 kp tx tz fa fb rf M) : (0 ≤ M 2 0 ∧ M 2 0 ≤ 1) ∧ (0 ≤ M 2 1 ∧ M 2 1 ≤ 1) := by
  have h1 := h.1.2.1
  have h2 := h.1.2.2
  omega
theorem Rel.txt (h : Rel w0 w2 w3 kp tx tz fa fb rf M) : tok tx (tz 0) ∧ (-1 ≤ tz 4 ∧ tz 4 ≤ 99) := h.2.2.1.1
theorem Rel.L (h : Rel w0 w2 w3 kp tx tz fa fb rf M) : M 0 0 = tz 0 := h.2.2.1.2.1
theorem Rel.Lr (h : Rel w0 w2 w3 kp tx tz fa fb rf M) : (0 ≤ tz 0 ∧ tz 0 ≤ 150) ∧ (0 ≤ M 0 0 ∧ M 0 0 ≤ 150) := by
  have h1 := h.txt.1.1
  have h2 := h.L
  omega
theorem Rel.txM (h : Rel w0 w2 w3 kp tx tz fa fb rf M) : tok (M 3) (M 0 0) := by
  have h1 := h.txt.1
  have h2 := h.2.2.1.2
  refine ⟨h.Lr.2, fun k k0 k1 => ?_⟩
  rw [h2.2 k k0 (by omega)]
  exact h1.2 k k0 (by omega)
theorem Rel.fr (h : Rel w0 w2 w3 kp tx tz fa fb rf M) : M 0 1 = fa ∧ M 0 2 = fb := h.2.2.2.1
theorem Rel.rfs (h : Rel w0 w2 w3 kp tx tz fa fb rf M) : M 4 0 = rf 0 ∧ M 4 1 = rf 1 ∧ M 4 2 = rf 2 := h.2.2.2.2
/-- what changes is the house now, the fraction, the refusals -/
theorem Rel.upd (h : Rel w0 w2 w3 kp tx tz fa fb rf M) (hw : hok w0' ∧ hag w0' (M' 1)) (h2 : M' 2 = M 2) (hi : ∀ j : Int, 49 ≤ j → j < 147 → M' 1 j = M 1 j) (h3 : M' 3 = M 3) (h0 : M' 0 0 = M 0 0) (hf : M' 0 1 = fa' ∧ M' 0 2 = fb') (hr : M' 4 0 = rf' 0 ∧ M' 4 1 = rf' 1 ∧ M' 4 2 = rf' 2) : Rel w0' w2 w3 kp tx tz fa' fb' rf' M' := by
  obtain ⟨⟨-, a2, a3⟩, ⟨b1, b2⟩, ⟨c1, c2, c3⟩, -⟩ := h
  refine ⟨⟨hw, a2, by rw [h2]; exact a3⟩, ⟨fun q => ?_, fun q => ?_⟩, ⟨c1, h0.trans c2, by rw [h3]; exact c3⟩, hf, hr⟩
  · exact ⟨(b1 q).1, hag_r (b1 q).2 (b1 q).1 (fun j j0 j1 => hi _ (by omega) (by omega))⟩
  · exact ⟨(b2 q).1, hag_r (b2 q).2 (b2 q).1 (fun j j0 j1 => hi _ (by omega) (by omega))⟩
/-- nothing that counts has changed -/
theorem Rel.same (h : Rel w0 w2 w3 kp tx tz fa fb rf M) (h1 : M' 1 = M 1) (h2 : M' 2 = M 2) (h3 : M' 3 = M 3) (h0 : M' 0 0 = M 0 0) (ha : M' 0 1 = M 0 1) (hb : M' 0 2 = M 0 2) (h4 : M' 4 = M 4) : Rel w0 w2 w3 kp tx tz fa fb rf M' :=
  h.upd (by rw [h1]; exact ⟨h.ok, h.ag⟩) h2 (fun j _ _ => by rw [h1]) h3 h0 ⟨ha.trans h.fr.1, hb.trans h.fr.2⟩ (by rw [h4]; exact h.rfs)
theorem Rel.m78 (h : Rel w0 w2 w3 kp tx tz fa fb rf M) (s : Int × Int) : Rel w0 w2 w3 kp tx tz fa fb rf (m78 M s) := h.same rfl rfl rfl rfl rfl rfl rfl
theorem Rel.bad (h : Rel w0 w2 w3 kp tx tz fa fb rf M) : Rel w0 w2 w3 kp tx tz fa fb (rfu rf (-2)) (mbad M) :=
  h.upd ⟨h.ok, h.ag⟩ rfl (fun _ _ _ => rfl) rfl rfl h.fr ⟨(show M 4 0 + 1 = rf 0 + 1 by rw [h.rfs.1]), h.rfs.2.1, h.rfs.2.2⟩
theorem Rel.no (h : Rel w0 w2 w3 kp tx tz fa fb rf M) : Rel w0 w2 w3 kp tx tz fa fb (rfu rf (-3)) (mno M) :=
  h.upd ⟨h.ok, h.ag⟩ rfl (fun _ _ _ => rfl) rfl rfl h.fr ⟨h.rfs.1, (show M 4 1 + 1 = rf 1 + 1 by rw [h.rfs.2.1]), h.rfs.2.2⟩
theorem Rel.full (h : Rel w0 w2 w3 kp tx tz fa fb rf M) : Rel w0 w2 w3 kp tx tz fa fb (rfu rf (-4)) (mfull M) :=
  h.upd ⟨h.ok, h.ag⟩ rfl (fun _ _ _ => rfl) rfl rfl h.fr ⟨h.rfs.1, h.rfs.2.1, (show M 4 2 + 1 = rf 2 + 1 by rw [h.rfs.2.2])⟩
theorem Rel.tel (h : Rel w0 w2 w3 kp tx tz fa fb rf M) {a b : Int} (ha : a / gz a b = fa') (hb : b / gz a b = fb') : Rel w0 w2 w3 kp tx tz fa' fb' rf (m_tel M a b) :=
  h.upd ⟨h.ok, h.ag⟩ rfl (fun _ _ _ => rfl) rfl rfl ⟨ha, hb⟩ h.rfs
theorem rfa_z {c : Int} (h : c = 0) : rfa rf c = rf := rfa_0 h
theorem rfa_2 {c : Int} (h : c = -2) : rfa rf c = rfu rf (-2) := rfa_n h (by decide)
theorem rfa_3 {c : Int} (h : c = -3) : rfa rf c = rfu rf (-3) := rfa_n h (by decide)
theorem rfa_4 {c : Int} (h : c = -4) : rfa rf c = rfu rf (-4) := rfa_n h (by decide)
/-- a call that only asks: the model's state is as it was but for its own notes -/
theorem Rel.ask (h : Rel w0 w2 w3 kp tx tz fa fb rf M) {P Q : Prop} [Decidable P] [Decidable Q] (e : P ↔ Q) {N : Nat → Int → Int} (hN : Rel w0 w2 w3 kp tx tz fa fb rf N) : Rel w0 w2 w3 kp tx tz fa fb (rfa rf (if P then 0 else -2)) (if Q then N else mbad M) := by
  by_cases c : P
  · rw [if_pos c, if_pos (e.mp c), rfa_0 rfl]; exact hN
  · rw [if_neg c, if_neg (fun q => c (e.mpr q)), rfa_2 rfl]; exact h.bad
end RL
theorem mset_1 {M : Nat → Int → Int} {i v : Int} : mset M 1 i v 1 = wset (M 1) i v := by
  funext j
  unfold mset wset
  rw [if_pos rfl]
theorem wset_cg {w v : Int → Int} {i a j : Int} (h : w j = v j) : wset w i a j = wset v i a j := by
  unfold wset
  split
  · rfl
  · exact h
