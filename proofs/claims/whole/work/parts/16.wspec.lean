/-! the calls, as the class answers them -/
def rfu (rf : Int → Int) (r : Int) : Int → Int := wset rf (-2 - r) (rf (-2 - r) + 1)
def rfa (rf : Int → Int) (c : Int) : Int → Int := if c = 0 then rf else rfu rf c
theorem rfa_0 {rf : Int → Int} {c : Int} (h : c = 0) : rfa rf c = rf := if_pos h
theorem rfa_n {rf : Int → Int} {c d : Int} (h : c = d) (hd : d ≠ 0) : rfa rf c = rfu rf d := by rw [h]; exact if_neg hd
def cc_house (x1 : Int) : Int := if 1 ≤ x1 ∧ x1 ≤ 11 then 0 else -2
def ca_house (w : Int → Int) (x1 : Int) : Int := if 1 ≤ x1 ∧ x1 ≤ 11 then w 0 else -2
def cw_house (w : Int → Int) (x1 : Int) : Int → Int := if 1 ≤ x1 ∧ x1 ≤ 11 then h_build w x1 else w
def cc_lift (w : Int → Int) (x1 x2 : Int) : Int := if (0 ≤ x1 ∧ x1 ≤ 5) ∧ (0 ≤ x2 ∧ x2 ≤ 99) then (if w 0 < 4 then 0 else -4) else -2
def ca_lift (w : Int → Int) (x1 x2 : Int) : Int := if (0 ≤ x1 ∧ x1 ≤ 5) ∧ (0 ≤ x2 ∧ x2 ≤ 99) then (if w 0 < 4 then w 0 else -4) else -2
def cw_lift (w : Int → Int) (x1 x2 : Int) : Int → Int := if (0 ≤ x1 ∧ x1 ≤ 5) ∧ (0 ≤ x2 ∧ x2 ≤ 99) then (if w 0 < 4 then h_addLift w x1 x2 else w) else w
def v_line (x1 x2 x3 : Int) : Prop := (0 ≤ x1 ∧ x1 ≤ 1) ∧ (1 ≤ x2 ∧ x2 ≤ 30) ∧ (0 ≤ x3 ∧ x3 ≤ 29)
def cc_line (x1 x2 x3 : Int) : Int := if (0 ≤ x1 ∧ x1 ≤ 1) ∧ (1 ≤ x2 ∧ x2 ≤ 30) ∧ (0 ≤ x3 ∧ x3 ≤ 29) then 0 else -2
def ca_line (w : Int → Int) (x1 x2 x3 : Int) : Int := if (0 ≤ x1 ∧ x1 ≤ 1) ∧ (1 ≤ x2 ∧ x2 ≤ 30) ∧ (0 ≤ x3 ∧ x3 ≤ 29) then 100 * w (13 + x1) + w (15 + x1) else -2
def cw_line (w : Int → Int) (x1 x2 x3 : Int) : Int → Int := if (0 ≤ x1 ∧ x1 ≤ 1) ∧ (1 ≤ x2 ∧ x2 ≤ 30) ∧ (0 ≤ x3 ∧ x3 ≤ 29) then wset (wset w (13 + x1) x2) (15 + x1) x3 else w
def cc_type (L x1 : Int) : Int := if 0 ≤ x1 ∧ x1 ≤ 127 then (if L < 150 then 0 else -4) else -2
def ca_type (L x1 : Int) : Int := if 0 ≤ x1 ∧ x1 ≤ 127 then (if L < 150 then L + 1 else -4) else -2
def ct_type (tx : Int → Int) (L x1 : Int) : Int → Int := if 0 ≤ x1 ∧ x1 ≤ 127 then (if L < 150 then wset tx L x1 else tx) else tx
def cz_type (tz : Int → Int) (x1 : Int) : Int → Int := if 0 ≤ x1 ∧ x1 ≤ 127 then (if tz 0 < 150 then wset tz 0 (tz 0 + 1) else tz) else tz
def cw_read (tx tz w1 w0 : Int → Int) : Int → Int := if (rd tx tz w1).1 ≤ 0 then w0 else h_copy w0 (rd tx tz w1).2.2
def cc_passes (x1 : Int) : Int := if 1 ≤ x1 ∧ x1 ≤ 99 then 0 else -2
def ca_passes (w : Int → Int) (x1 : Int) : Int := if 1 ≤ x1 ∧ x1 ≤ 99 then min 999 (w 2 + x1) else -2
def cw_passes (w : Int → Int) (x1 : Int) : Int → Int := if 1 ≤ x1 ∧ x1 ≤ 99 then h_goOn w (min 999 (w 2 + x1)) else w
def cc_undo (w : Int → Int) : Int := if w 4 = 0 then -3 else 0
def ca_undo (w : Int → Int) : Int := if w 4 = 0 then -3 else h_goBack w 2
def cw_undo (w : Int → Int) : Int → Int := if w 4 = 0 then w else h_goBack w
theorem h_goOn_2 (w : Int → Int) (x : Int) : h_goOn w x 2 = x := by unfold h_goOn; split <;> rfl
theorem h_addLift_0 {w : Int → Int} (h : w 0 < 4) (k b : Int) : h_addLift w k b 0 = w 0 + 1 := by unfold h_addLift; rw [if_pos h]; rfl
theorem h_addNoted_3 {w : Int → Int} (h : w 3 < 6) (L f m t : Int) : h_addNoted w L f m t 3 = w 3 + 1 := by unfold h_addNoted; rw [if_pos h]; rfl
def cc_of (w : Int → Int) (x1 x2 : Int) : Int := if (0 ≤ x1 ∧ x1 < w 0) ∧ (0 ≤ x2 ∧ x2 ≤ 5) then 0 else -2
def ca_of (w : Int → Int) (x1 x2 : Int) : Int := if (0 ≤ x1 ∧ x1 < w 0) ∧ (0 ≤ x2 ∧ x2 ≤ 5) then (if x2 = 0 then w (5 + x1) else if x2 = 1 then w (9 + x1) else if x2 = 2 then c_round (w (5 + x1)) (w 1) else if x2 = 3 then c_fl w x1 (w 2) else if x2 = 4 then c_wy w x1 (w 2) else bz (c_opens (w (5 + x1)) (w 1) (c_fl w x1 (w 2)) = true)) else -2
def cc_where (w : Int → Int) (x1 x2 : Int) : Int := if (0 ≤ x1 ∧ x1 < w 0) ∧ (0 ≤ x2 ∧ x2 ≤ 999) then 0 else -2
def ca_where (w : Int → Int) (x1 x2 : Int) : Int := if (0 ≤ x1 ∧ x1 < w 0) ∧ (0 ≤ x2 ∧ x2 ≤ 999) then c_fl w x1 x2 else -2
def cc_first (w : Int → Int) (x1 x2 x3 : Int) : Int := if (0 ≤ x1 ∧ x1 ≤ w 1) ∧ (0 ≤ x2 ∧ x2 ≤ 999) ∧ (0 ≤ x3 ∧ x3 ≤ 2) then 0 else -2
def ca_first (w : Int → Int) (x1 x2 x3 : Int) : Int := if (0 ≤ x1 ∧ x1 ≤ w 1) ∧ (0 ≤ x2 ∧ x2 ≤ 999) ∧ (0 ≤ x3 ∧ x3 ≤ 2) then (if c_wo w x1 x2 (-1) = -1 then -1 else if x3 = 2 then c_wo w x1 x2 (-1) else if x3 = 0 then c_sf w x1 (x2 + c_wo w x1 x2 (-1)) (-1) else c_w1 w x1 x2) else -2
def fsA (a b fa : Int) : Int := if 0 < c_gd a b then a / c_gd a b else fa
def fsB (a b fb : Int) : Int := if 0 < c_gd a b then b / c_gd a b else fb
def c_upF (w : Int → Int) (f m : Int) : Int := if c_w1 w f m = -1 then 0 else c_w1 w f m
def c_upN (w : Int → Int) (f m : Int) : Int := if c_w1 w f m = -1 then 0 else 1
def c_mwF (w : Int → Int) (f y m : Int) : Int := if c_wo w f m y = -1 then 0 else c_wo w f m y
def c_mwN (w : Int → Int) (f y m : Int) : Int := if c_wo w f m y = -1 then 0 else 1
theorem c_up_b (w : Int → Int) (f : Int) {N : Int} (h : 0 ≤ N ∧ N ≤ 120) : (0 ≤ sumR (c_upF w f) N ∧ sumR (c_upF w f) N ≤ 120) ∧ (0 ≤ sumR (c_upN w f) N ∧ sumR (c_upN w f) N ≤ 120) := by
  have h1 := sumR_b (f := c_upF w f) (a := 0) (b := 1) h.1 (fun k _ _ => by have := c_w1_r w f k; unfold c_upF; split <;> omega)
  have h2 := sumR_b (f := c_upN w f) (a := 0) (b := 1) h.1 (fun k _ _ => by unfold c_upN; split <;> omega)
  omega
theorem c_mw_b (w : Int → Int) (f y : Int) {N : Int} (h : 0 ≤ N ∧ N ≤ 120) : (0 ≤ sumR (c_mwF w f y) N ∧ sumR (c_mwF w f y) N ≤ 3240) ∧ (0 ≤ sumR (c_mwN w f y) N ∧ sumR (c_mwN w f y) N ≤ 120) := by
  have h1 := sumR_b (f := c_mwF w f y) (a := 0) (b := 27) h.1 (fun k _ _ => by have := c_wo_r w f k y; unfold c_mwF; split <;> omega)
  have h2 := sumR_b (f := c_mwN w f y) (a := 0) (b := 1) h.1 (fun k _ _ => by unfold c_mwN; split <;> omega)
  omega
/-- a mean: how many came, how long together -/
def mnA (s n : Int) : Int := if n = 0 then -3 else 1
def mnC (n : Int) : Int := if n = 0 then -3 else 0
def mnF (s n fa : Int) : Int := if n = 0 then fa else fsA s n fa
def mnG (s n fb : Int) : Int := if n = 0 then fb else fsB s n fb
abbrev upS (w : Int → Int) (f : Int) : Int := sumR (c_upF w f) 120
abbrev upN (w : Int → Int) (f : Int) : Int := sumR (c_upN w f) 120
abbrev mwS (w : Int → Int) (f y : Int) : Int := sumR (c_mwF w f y) 120
abbrev mwN (w : Int → Int) (f y : Int) : Int := sumR (c_mwN w f y) 120
def ofS (w : Int → Int) (x1 x2 : Int) : Int := if x2 = 0 then upS w x1 else mwS w x1 (-1)
def ofN (w : Int → Int) (x1 x2 : Int) : Int := if x2 = 0 then upN w x1 else mwN w x1 (-1)
def cc_often (w : Int → Int) (x1 x2 : Int) : Int := if (0 ≤ x1 ∧ x1 ≤ w 1) ∧ (0 ≤ x2 ∧ x2 ≤ 1) then mnC (ofN w x1 x2) else -2
def ca_often (w : Int → Int) (x1 x2 : Int) : Int := if (0 ≤ x1 ∧ x1 ≤ w 1) ∧ (0 ≤ x2 ∧ x2 ≤ 1) then mnA (ofS w x1 x2) (ofN w x1 x2) else -2
def cf_often (w : Int → Int) (x1 x2 fa : Int) : Int := if (0 ≤ x1 ∧ x1 ≤ w 1) ∧ (0 ≤ x2 ∧ x2 ≤ 1) then mnF (ofS w x1 x2) (ofN w x1 x2) fa else fa
def cg_often (w : Int → Int) (x1 x2 fb : Int) : Int := if (0 ≤ x1 ∧ x1 ≤ w 1) ∧ (0 ≤ x2 ∧ x2 ≤ 1) then mnG (ofS w x1 x2) (ofN w x1 x2) fb else fb
def cc_own (w : Int → Int) (x1 x2 : Int) : Int := if (0 ≤ x1 ∧ x1 ≤ w 1) ∧ (0 ≤ x2 ∧ x2 ≤ 1) then mnC (mwN w x1 x2) else -2
def ca_own (w : Int → Int) (x1 x2 : Int) : Int := if (0 ≤ x1 ∧ x1 ≤ w 1) ∧ (0 ≤ x2 ∧ x2 ≤ 1) then mnA (mwS w x1 x2) (mwN w x1 x2) else -2
def cf_own (w : Int → Int) (x1 x2 fa : Int) : Int := if (0 ≤ x1 ∧ x1 ≤ w 1) ∧ (0 ≤ x2 ∧ x2 ≤ 1) then mnF (mwS w x1 x2) (mwN w x1 x2) fa else fa
def cg_own (w : Int → Int) (x1 x2 fb : Int) : Int := if (0 ≤ x1 ∧ x1 ≤ w 1) ∧ (0 ≤ x2 ∧ x2 ≤ 1) then mnG (mwS w x1 x2) (mwN w x1 x2) fb else fb
def cc_ride (w : Int → Int) (x1 x2 x3 x4 : Int) : Int := if (0 ≤ x1 ∧ x1 ≤ w 1) ∧ (0 ≤ x2 ∧ x2 ≤ w 1) ∧ (0 ≤ x3 ∧ x3 ≤ 999) ∧ (0 ≤ x4 ∧ x4 ≤ 1) then 0 else -2
def ca_ride (w : Int → Int) (x1 x2 x3 x4 : Int) : Int := if (0 ≤ x1 ∧ x1 ≤ w 1) ∧ (0 ≤ x2 ∧ x2 ≤ w 1) ∧ (0 ≤ x3 ∧ x3 ≤ 999) ∧ (0 ≤ x4 ∧ x4 ≤ 1) then c_rd w x1 x2 x3 (if x4 = 0 then -1 else if x1 < x2 then 1 else 0) else -2
abbrev wkT (w : Int → Int) (f t m k : Int) : Int := 2 * absz (k - f) + c_rd w k t (m + 2 * absz (k - f)) (-1)
def wkS (w : Int → Int) (f t m k : Int) (s : Int × Int × Int) : Int × Int × Int := if ¬ c_rd w k t (m + 2 * absz (k - f)) (-1) = -1 ∧ (wkT w f t m k < s.2.2 ∨ (wkT w f t m k = s.2.2 ∧ 2 * absz (k - f) < s.2.1)) then (k, 2 * absz (k - f), wkT w f t m k) else s
def wkR (w : Int → Int) (f t m N : Int) : Int × Int × Int := itR (wkS w f t m) (t, 2 * absz (t - f), 2 * absz (t - f)) N
def ca_walk (w : Int → Int) (x1 x2 x3 x4 : Int) : Int := if (0 ≤ x1 ∧ x1 ≤ w 1) ∧ (0 ≤ x2 ∧ x2 ≤ w 1) ∧ (0 ≤ x3 ∧ x3 ≤ 999) ∧ (0 ≤ x4 ∧ x4 ≤ 1) then (if x4 = 0 then (wkR w x1 x2 x3 (w 1 + 1)).1 else (wkR w x1 x2 x3 (w 1 + 1)).2.2) else -2
theorem absz_r {a b : Int} (h : -b ≤ a ∧ a ≤ b) : 0 ≤ absz a ∧ absz a ≤ b := by unfold absz; split <;> omega
def evX (w : Int → Int) (b : Int) : Int := absz (2 * c_t0 w b - 60)
def evS (w : Int → Int) (b : Int) (s : Int × Int) : Int × Int := if evX w b < s.2 then (b, evX w b) else s
def ca_even (w : Int → Int) : Int := (itR (evS w) (0, 61) 30).1
def cc_note (w : Int → Int) (x1 x2 x3 x4 : Int) : Int := if (0 ≤ x1 ∧ x1 < w 0) ∧ (0 ≤ x2 ∧ x2 ≤ w 1) ∧ (0 ≤ x3 ∧ x3 ≤ 99) ∧ (0 ≤ x4 ∧ x4 ≤ 1) then (if w 3 < 6 then 0 else -4) else -2
def ca_note (w : Int → Int) (x1 x2 x3 x4 : Int) : Int := if (0 ≤ x1 ∧ x1 < w 0) ∧ (0 ≤ x2 ∧ x2 ≤ w 1) ∧ (0 ≤ x3 ∧ x3 ≤ 99) ∧ (0 ≤ x4 ∧ x4 ≤ 1) then (if w 3 < 6 then w 3 + 1 else -4) else -2
def cw_note (w : Int → Int) (x1 x2 x3 x4 : Int) : Int → Int := if (0 ≤ x1 ∧ x1 < w 0) ∧ (0 ≤ x2 ∧ x2 ≤ w 1) ∧ (0 ≤ x3 ∧ x3 ≤ 99) ∧ (0 ≤ x4 ∧ x4 ≤ 1) then (if w 3 < 6 then h_addNoted w x1 x2 x3 x4 else w) else w
def cc_is (w : Int → Int) (x1 x2 : Int) : Int := if (0 ≤ x1 ∧ x1 < w 0) ∧ (0 ≤ x2 ∧ x2 ≤ 1) then 0 else -2
def ca_is (w : Int → Int) (x1 x2 : Int) : Int := if (0 ≤ x1 ∧ x1 < w 0) ∧ (0 ≤ x2 ∧ x2 ≤ 1) then (if x2 = 0 then c_fk w x1 6 else c_fs w x1) else -2
def cc_look (w : Int → Int) (x1 x2 : Int) : Int := if (0 ≤ x1 ∧ x1 < w 0) ∧ (0 ≤ x2 ∧ x2 ≤ w 1) then 0 else -2
def ca_look (w : Int → Int) (x1 x2 : Int) : Int := if (0 ≤ x1 ∧ x1 < w 0) ∧ (0 ≤ x2 ∧ x2 ≤ w 1) then c_tm w x1 x2 else -2
def poS (w : Int → Int) (f m n c k : Int) (s : Int × Int) : Int × Int := if ¬ c_wf w k f m = -1 ∧ c_wf w k f m ≤ n then (s.1 * c, s.2 * 10) else s
def poR (w : Int → Int) (f m n c N : Int) : Int × Int := itR (poS w f m n c) (1, 1) N
def cc_po (w : Int → Int) (x1 x2 x3 x4 : Int) : Int := if (0 ≤ x1 ∧ x1 ≤ w 1) ∧ (0 ≤ x2 ∧ x2 ≤ 999) ∧ (0 ≤ x3 ∧ x3 ≤ 200) ∧ (0 ≤ x4 ∧ x4 ≤ 10) then 0 else -2
def ca_po (w : Int → Int) (x1 x2 x3 x4 : Int) : Int := if (0 ≤ x1 ∧ x1 ≤ w 1) ∧ (0 ≤ x2 ∧ x2 ≤ 999) ∧ (0 ≤ x3 ∧ x3 ≤ 200) ∧ (0 ≤ x4 ∧ x4 ≤ 10) then 1 else -2
def cf_po (w : Int → Int) (x1 x2 x3 x4 fa : Int) : Int := if (0 ≤ x1 ∧ x1 ≤ w 1) ∧ (0 ≤ x2 ∧ x2 ≤ 999) ∧ (0 ≤ x3 ∧ x3 ≤ 200) ∧ (0 ≤ x4 ∧ x4 ≤ 10) then fsA ((poR w x1 x2 x3 x4 (w 0)).2 - (poR w x1 x2 x3 x4 (w 0)).1) (poR w x1 x2 x3 x4 (w 0)).2 fa else fa
def cg_po (w : Int → Int) (x1 x2 x3 x4 fb : Int) : Int := if (0 ≤ x1 ∧ x1 ≤ w 1) ∧ (0 ≤ x2 ∧ x2 ≤ 999) ∧ (0 ≤ x3 ∧ x3 ≤ 200) ∧ (0 ≤ x4 ∧ x4 ≤ 10) then fsB ((poR w x1 x2 x3 x4 (w 0)).2 - (poR w x1 x2 x3 x4 (w 0)).1) (poR w x1 x2 x3 x4 (w 0)).2 fb else fb
def dyX (x : Int) : Int := (x * 1103515245 + 12345) % 2147483648
def dyM (x : Int) : Int := dyX x / 65536 % 120
def dyS (w : Int → Int) (f : Int) (_ : Int) (s : Int × Int) : Int × Int := (dyX s.1, if c_w1 w f (dyM s.1) = 1 then s.2 + 1 else s.2)
def cc_days (w : Int → Int) (x1 x2 x3 : Int) : Int := if (0 ≤ x1 ∧ x1 ≤ w 1) ∧ (0 ≤ x2 ∧ x2 ≤ 999999) ∧ (0 ≤ x3 ∧ x3 ≤ 60) then 0 else -2
def ca_days (w : Int → Int) (x1 x2 x3 : Int) : Int := if (0 ≤ x1 ∧ x1 ≤ w 1) ∧ (0 ≤ x2 ∧ x2 ≤ 999999) ∧ (0 ≤ x3 ∧ x3 ≤ 60) then (itR (dyS w x1) (x2, 0) x3).2 else -2
def cc_01 (x1 : Int) : Int := if 0 ≤ x1 ∧ x1 ≤ 1 then 0 else -2
def ca_part (fa fb x1 : Int) : Int := if 0 ≤ x1 ∧ x1 ≤ 1 then (if x1 = 0 then fa else fb) else -2
def ca_image (x1 : Int) : Int := if 0 ≤ x1 ∧ x1 ≤ 1 then 1 else -2
def ck_image (kp : Int → Int) (x1 : Int) : Int → Int := if 0 ≤ x1 ∧ x1 ≤ 1 then wset kp x1 1 else kp
def cw_image (w v : Int → Int) (x1 j : Int) : Int → Int := if x1 = j then h_copy v w else v
def cc_from (kp : Int → Int) (x1 : Int) : Int := if 0 ≤ x1 ∧ x1 ≤ 1 then (if kp x1 = 0 then -3 else 0) else -2
def ca_from (kp : Int → Int) (x1 : Int) : Int := if 0 ≤ x1 ∧ x1 ≤ 1 then (if kp x1 = 0 then -3 else 1) else -2
def cw_from (w0 w2 w3 kp : Int → Int) (x1 : Int) : Int → Int := if 0 ≤ x1 ∧ x1 ≤ 1 then (if kp x1 = 0 then w0 else if x1 = 0 then h_copy w0 w2 else h_copy w0 w3) else w0
def cc_st (x1 : Int) : Int := if 0 ≤ x1 ∧ x1 ≤ 2 then 0 else -2
def ca_st (rf : Int → Int) (x1 : Int) : Int := if 0 ≤ x1 ∧ x1 ≤ 2 then rf x1 else -1
def ctn (w : Int → Int) (L x1 : Int) : Int := if x1 = 0 then w 0 else if x1 = 1 then w 1 else if x1 = 2 then w 2 else if x1 = 3 then w 3 else if x1 = 4 then w 4 else L
def cc_ct (x1 : Int) : Int := if 0 ≤ x1 ∧ x1 ≤ 5 then 0 else -2
def ca_ct (w : Int → Int) (L x1 : Int) : Int := if 0 ≤ x1 ∧ x1 ≤ 5 then ctn w L x1 else -2
def ca_dg (w : Int → Int) (L fa fb : Int) : Int := 31 * (31 * c_dg w (itR (fun k h => 31 * h + ctn w L k) 1123 6) + fa) + fb
theorem ri_r {tx : Int → Int} : ∀ (k : Nat) (tz w : Int → Int) (n : Int), tsok tx tz → 1 ≤ n → n + k ≤ 150 → (-160 ≤ (ri tx k tz w n).1 ∧ (ri tx k tz w n).1 ≤ 150) ∧ tsok tx (ri tx k tz w n).2.1
  | 0, tz, w, n, h, h1, h2 => ⟨⟨by simp only [ri]; omega, by simp only [ri]; omega⟩, h⟩
  | k + 1, tz, w, n, h, h1, h2 => by
    rw [ri]
    split
    · exact ⟨⟨by simp only []; omega, by simp only []; omega⟩, h⟩
    · split
      · exact ri_r k _ _ (n + 1) (tsok_next (tsok_it h)) (by omega) (by omega)
      · have h3 := (tsok_it (w := w) h)
        have h4 := h3.2.2.1; have h5 := h3.2.2.2.1; have h6 := h3.1.1
        exact ⟨⟨by simp only []; omega, by simp only []; omega⟩, h3⟩
theorem rd_r {tx tz w : Int → Int} (h : tok tx (tz 0)) (h4 : -1 ≤ tz 4 ∧ tz 4 ≤ 99) : (-160 ≤ (rd tx tz w).1 ∧ (rd tx tz w).1 ≤ 150) ∧ tsok tx (rd tx tz w).2.1 := by
  have h0 := tsok_rd0 h h4
  unfold rd
  split
  · exact ri_r _ _ _ 1 (tsok_next (tsok_rh h0)) (by omega) (by omega)
  · have h3 := tsok_rh h0
    have h4 := h3.2.2.1; have h5 := h3.2.2.2.1; have h6 := h3.1.1
    exact ⟨⟨by simp only []; omega, by simp only []; omega⟩, h3⟩
section HWW
variable {D : va_G} {A : Nat → Prop} {H : Heap} {g : Nat → ClassId} {ob a0 a1 a2 a3 q : Nat → Nat} {w0 w1 w2 w3 kp tx tz rf : Int → Int} {fa fb v : Int}
theorem hw_ww3 (hP : va_P D vwCl ((wWW g ob a0 a1 a2 a3 q w0 w1 w2 w3 kp tx tz fa fb rf).set 1 (a0 0, .inr (1, [.int (zI (w0 1)), .int (zI (w0 0)), .int (zI (w0 2)), .int (zI v), .int (zI (w0 4)), .ref (a0 1), .ref (a0 2), .ref (a0 3), .ref (a0 4), .ref (a0 5), .ref (a0 6), .ref (a0 7), .ref (a0 8), .ref (a0 9)]))) H) : va_P D vwCl (wWW g ob a0 a1 a2 a3 q (wset w0 3 v) w1 w2 w3 kp tx tz fa fb rf) H := by
  have h1 := vaP_cons (hP 0 _ rfl) (hw_sc3 (g := g) (a := a0) (w := w0) (v := v) (R := (wWW g ob a0 a1 a2 a3 q w0 w1 w2 w3 kp tx tz fa fb rf).drop 11) (fun k x hk => hP (k + 1) x (by rw [← hk]; rfl)))
  exact h1
theorem hw_wwD {w0' : Int → Int} {x : va_E} (hD : va_D A ((wWW g ob a0 a1 a2 a3 q w0 w1 w2 w3 kp tx tz fa fb rf).set 1 (a0 0, x))) : va_D A (wWW g ob a0 a1 a2 a3 q w0' w1 w2 w3 kp tx tz fa fb rf) := hw_D hD rfl
end HWW
