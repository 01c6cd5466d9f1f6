/-! the three words -/
theorem nm_0 {tx tz : Int → Int} {M : Nat → Int → Int} (ht : tsok tx tz) (r : trel1 tx tz M) : m_nm M 104 111 117 115 101 = t_isw tx tz 0 := nm_rel ht r (Or.inl (by decide)) (by decide)
theorem nm_1 {tx tz : Int → Int} {M : Nat → Int → Int} (ht : tsok tx tz) (r : trel1 tx tz M) : m_nm M 108 105 102 116 0 = t_isw tx tz 1 := nm_rel ht r (Or.inr (by decide)) (by decide)
theorem nm_2 {tx tz : Int → Int} {M : Nat → Int → Int} (ht : tsok tx tz) (r : trel1 tx tz M) : m_nm M 108 105 110 101 0 = t_isw tx tz 2 := nm_rel ht r (Or.inr (by decide)) (by decide)
