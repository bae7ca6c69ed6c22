theorem hasL {k : Cf} {p : Int32} (hk : KOK k) (h0 : 0 ≤ p.toInt) (h1 : p.toInt < (k.1 2).toInt) : f_X5_hasLevel k p = 1 := by
  have h2 := hk.2.2.1.2
  unfold f_X5_hasLevel
  rw [if_neg (by rw [fa_lt, i32_0]; omega), if_neg (by rw [fa_le]; omega), if_neg (by rw [fa_le, show (5 : Int32).toInt = 5 by decide]; omega)]
theorem hasS {k : Cf} {p : Int32} (hk : KOK k) (h0 : 0 ≤ p.toInt) (h1 : p.toInt < (k.1 0).toInt) : f_X5_hasSegment k p = 1 := by
  have h2 := hk.1.2
  unfold f_X5_hasSegment
  rw [if_neg (by rw [fa_lt, i32_0]; omega), if_neg (by rw [fa_le]; omega), if_neg (by rw [fa_le, show (30 : Int32).toInt = 30 by decide]; omega)]
theorem bit_eq {k : Cf} {p : Int32} (hk : KOK k) (h0 : 0 ≤ p.toInt) (h1 : p.toInt < (k.1 2).toInt) : f_X5_bitrateOf k p = k.2.1 p.toNatClampNeg := by
  unfold f_X5_bitrateOf
  rw [hasL hk h0 h1, if_neg (by decide)]
theorem var_eq {k : Cf} {p : Int32} (hk : KOK k) (h0 : 0 ≤ p.toInt) (h1 : p.toInt < (k.1 0).toInt) : f_X5_variationOf k p = k.2.2.1 p.toNatClampNeg := by
  unfold f_X5_variationOf
  rw [hasS hk h0 h1, if_neg (by decide)]
theorem size_eq {k : Cf} {p q : Int32} (hk : KOK k) (h0 : 0 ≤ p.toInt) (h1 : p.toInt < (k.1 2).toInt) (h2 : 0 ≤ q.toInt) (h3 : q.toInt < (k.1 0).toInt) : f_X5_sizeOf k p q = f_X7_sizeOf k p q := by
  unfold f_X5_sizeOf f_X7_sizeOf
  rw [bit_eq hk h0 h1, var_eq hk h2 h3]
