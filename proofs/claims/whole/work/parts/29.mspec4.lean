/-! the model's watch of notes, counted note by note -/
theorem badN_i {w : Int → Int} {L k b i : Int} : c_badN w L k b i = true ↔ (w (17 + 4 * i) = L ∧ ¬ (c_floor k (w 1) b (w (17 + 4 * i + 2)) = w (17 + 4 * i + 1) ↔ w (17 + 4 * i + 3) = 1)) := by
  have e1 : w (19 + 4 * i) = w (17 + 4 * i + 2) := congrArg w (by omega)
  have e2 : w (18 + 4 * i) = w (17 + 4 * i + 1) := congrArg w (by omega)
  have e3 : w (20 + 4 * i) = w (17 + 4 * i + 3) := congrArg w (by omega)
  unfold c_badN
  rw [e1, e2, e3]
  by_cases a : w (17 + 4 * i) = L <;> by_cases p : c_floor k (w 1) b (w (17 + 4 * i + 2)) = w (17 + 4 * i + 1) <;> by_cases q : w (17 + 4 * i + 3) = 1 <;> simp [a, p, q]
theorem fit_no {w : Int → Int} {L k b i ok : Int} (hi : 0 ≤ i) (ho : ok = bz (srI (c_badN w L k b) i 0 = -1)) (h0 : ok = 0) : 0 = bz (srI (c_badN w L k b) (i + 1) 0 = -1) := by
  symm
  apply bz_f
  intro h
  have h8 := ((srI_last hi).mp h).1
  rw [bz_t h8] at ho
  omega
theorem fit_y {w : Int → Int} {L k b i ok : Int} (hi : 0 ≤ i) (ho : ok = bz (srI (c_badN w L k b) i 0 = -1)) (h1 : ¬ ok = 0) (hb : ¬ c_badN w L k b i = true) : 1 = bz (srI (c_badN w L k b) (i + 1) 0 = -1) := by
  symm
  apply bz_t
  refine (srI_last hi).mpr ⟨?_, hb⟩
  by_cases h : srI (c_badN w L k b) i 0 = -1
  · exact h
  · rw [bz_f h] at ho; exact absurd ho h1
theorem fit_n {w : Int → Int} {L k b i : Int} (hi : 0 ≤ i) (hb : c_badN w L k b i = true) : 0 = bz (srI (c_badN w L k b) (i + 1) 0 = -1) := by
  symm
  apply bz_f
  intro h
  exact ((srI_last hi).mp h).2 hb
theorem kt1 {w : Int → Int} {B b f m i n : Int} (h : 0 ≤ i) (hb : hasB B i = true) (hf : c_floor i (w 1) b m = f) (hn : n = c_kt w B b f m i) : n + 1 = c_kt w B b f m (i + 1) := by
  rw [c_kt_s h, bz_t ⟨of_decide_eq_true hb, hf⟩, hn]
theorem kt2 {w : Int → Int} {B b f m i n : Int} (h : 0 ≤ i) (hb : ¬ hasB B i = true) (hn : n = c_kt w B b f m i) : n = c_kt w B b f m (i + 1) := by
  rw [c_kt_s h, bz_f (fun h9 => hb (decide_eq_true h9.1)), hn]; omega
theorem kt3 {w : Int → Int} {B b f m i n : Int} (h : 0 ≤ i) (hf : ¬ c_floor i (w 1) b m = f) (hn : n = c_kt w B b f m i) : n = c_kt w B b f m (i + 1) := by
  rw [c_kt_s h, bz_f (fun h9 => hf h9.2), hn]; omega
theorem kn1 {w : Int → Int} {B b f m i n : Int} (h : 0 ≤ i) (hb : hasB B i = true) (hf : ¬ c_floor i (w 1) b m = f) (hn : n = c_kn w B b f m i) : n + 1 = c_kn w B b f m (i + 1) := by
  rw [c_kn_s h, bz_t ⟨hb, hf⟩, hn]
theorem kn2 {w : Int → Int} {B b f m i n : Int} (h : 0 ≤ i) (hb : ¬ hasB B i = true) (hn : n = c_kn w B b f m i) : n = c_kn w B b f m (i + 1) := by
  rw [c_kn_s h, bz_f (fun h9 => hb h9.1), hn]; omega
theorem kn3 {w : Int → Int} {B b f m i n : Int} (h : 0 ≤ i) (hf : c_floor i (w 1) b m = f) (hn : n = c_kn w B b f m i) : n = c_kn w B b f m (i + 1) := by
  rw [c_kn_s h, bz_f (fun h9 => h9.2 hf), hn]; omega
/-! porters: sets of lifts, in the model's order -/
def poQ (x4 B j p : Int) : Int := p * (if hasB B j = true then 10 - x4 else x4)
def poP (x4 B n : Int) : Int := itR (poQ x4 B) 1 n
def poF (w : Int → Int) (x1 x2 x3 x4 B : Int) : Int := if ¬ m_ck w x1 x2 B 2 = -1 ∧ m_ck w x1 x2 B 2 ≤ x3 then poP x4 B (w 0) else 0
def poS7 (w : Int → Int) (x1 x2 : Int) (B : Int) (s : Int × Int) : Int × Int := cmS w x1 x2 B 2 s
def ma_po (w : Int → Int) (x1 x2 x3 x4 : Int) : Int := if (0 ≤ x1 ∧ x1 ≤ w 1) ∧ (0 ≤ x2 ∧ x2 ≤ 999) ∧ (0 ≤ x3 ∧ x3 ≤ 200) ∧ (0 ≤ x4 ∧ x4 ≤ 10) then 1 else -2
def m_po (M : Nat → Int → Int) (x1 x2 x3 x4 : Int) : Nat → Int → Int := if (0 ≤ x1 ∧ x1 ≤ M 1 1) ∧ (0 ≤ x2 ∧ x2 ≤ 999) ∧ (0 ≤ x3 ∧ x3 ≤ 200) ∧ (0 ≤ x4 ∧ x4 ≤ 10) then m_tel (m78 M (itR (poS7 (M 1) x1 x2) (M 0 7, M 0 8) (2 ^ (M 1 0).toNat))) (sumR (poF (M 1) x1 x2 x3 x4) (2 ^ (M 1 0).toNat)) (pw10 (M 1 0)) else mbad M
