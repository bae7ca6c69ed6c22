theorem bl1 : btw (1 : Int32) 0 1 := ⟨by decide, by decide⟩
theorem bl13 : btw (1 : Int32) 0 3 := ⟨by decide, by decide⟩
theorem bl23 : btw (2 : Int32) 0 3 := ⟨by decide, by decide⟩
theorem bl33 : btw (3 : Int32) 0 3 := ⟨by decide, by decide⟩
theorem bl09 : btw (0 : Int32) 0 9000 := ⟨by decide, by decide⟩
theorem nat_of {x : Int32} {a b : Int} (h : btw x a b) (ha : 0 ≤ a) : ∃ n : Nat, x = nI n ∧ x.toInt = n ∧ (n : Int) ≤ b ∧ a ≤ n := by
  have h1 := h.1
  have h2 := h.2
  have h3 := fb_rng x
  refine ⟨x.toInt.toNat, ?_, by omega, by omega, by omega⟩
  rw [fa_eq, nI_toInt (by omega)]
  omega
theorem mul3 {a b c : Nat} (ha : a ≤ 9000) (hb : b ≤ 5000) (hc : c ≤ 300) : a * b * c ≤ 13500000000 := by
  have h1 : a * b ≤ 9000 * 5000 := Nat.mul_le_mul ha hb
  exact Nat.le_trans (Nat.mul_le_mul h1 hc) (by decide)
/-- a segment's size, as a number -/
theorem size_val {x y z : Int32} {a b c : Nat} (hx : x = nI a) (hy : y = nI b) (hz : z = nI c) (ha : a ≤ 9000) (hb : b ≤ 5000) (hc : c ≤ 300) : ((x.toInt64 * y.toInt64 * z.toInt64) / (100 : Int64)).toInt32 = nI (a * b * c / 100) := by
  subst hx hy hz
  have h3 := mul3 ha hb hc
  rw [nI_l (by omega), nI_l (by omega), nI_l (by omega), lN_mul, lN_mul, show (100 : Int64) = lN 100 from rfl, pk_lDiv (by omega) (by decide) (by decide), lN_i]
theorem size_in {k : Cf} (hk : KOK k) {x y : Int32} (hx : vp_in x 5) (hy : vp_in y 30) : btw (f_X7_sizeOf k x y) 0 135000000 := by
  obtain ⟨i, hi, rfl⟩ := vp_in_of hx (by decide)
  obtain ⟨j, hj, rfl⟩ := vp_in_of hy (by decide)
  obtain ⟨a, ea, -, ha, -⟩ := nat_of (hk.2.2.2.2.2.2.2.2.2.2.1 i hi).1 (Int.le_refl 0)
  obtain ⟨b, eb, -, hb, -⟩ := nat_of hk.2.1 (by decide)
  obtain ⟨c, ec, -, hc, -⟩ := nat_of (hk.2.2.2.2.2.2.2.2.2.2.2.1 j hj) (Int.le_refl 0)
  unfold f_X7_sizeOf
  rw [nI_clamp (by omega), nI_clamp (by omega), size_val ea eb ec (by omega) (by omega) (by omega)]
  have h3 := mul3 (a := a) (b := b) (c := c) (by omega) (by omega) (by omega)
  have h4 : a * b * c / 100 ≤ 135000000 := by omega
  exact ⟨by rw [nI_toInt (by omega)]; omega, by rw [nI_toInt (by omega)]; omega⟩
theorem eq_1 {x : Int32} (h : btw x 0 1) (h0 : ¬ x = 0) : x = 1 := by
  rw [fa_eq, i32_0] at h0
  rw [fa_eq, i32_1]
  have h1 := h.1
  have h2 := h.2
  omega
theorem sd_ok {T : Int} {k : Cf} {v : Fn} (hT : 0 ≤ T) (hk : KOK k) (hl : 1 ≤ (k.1 2).toInt) (hN : NOK T k v) (p : Int32) : NOK T k (f_X7_startsDownload k v p) := by
  unfold f_X7_startsDownload
  split
  · split
    · exact hN
    · next a5 =>
      split
      · exact hN
      · next a4 =>
        obtain ⟨n1, n3, n31, n4, n5, n6, n7, n11, n12, n13, n14, n15⟩ := hN
        have hc := ch_in (v := upd v 6 1) hk hl n1 n15 p
        have hh := hi_0 hk hl
        have h4 := hi_4 hk
        have hs : btw (f_X7_sizeOf k (f_X7_chosen k (upd v 6 1) p) (v 5)) 0 135000000 := size_in hk (vp_in_iff.mpr ⟨by omega, by omega⟩) (vp_in_iff.mpr ⟨n5.1, by rw [fa_le] at a5; have := hk.1.2; omega⟩)
        have e1 : (v 1 + k.1 1 : Int32).toInt = (v 1).toInt + (k.1 1).toInt := fb_addI (by have := n1.1; have := hk.2.1.1; omega) (by have := n1.2; have := hk.2.1.2; omega)
        rw [fa_lt, e1] at a4
        rw [fa_le] at a5
        have hm := hk.2.2.2.2.1.2
        refine ⟨n1, n3, n31, n4, n5, bl1, fun _ => ⟨?_, hc.1, ?_, ?_, hs, ?_, ?_, Or.inl rfl, ?_⟩, n11, n12, n13, n14, n15⟩
        · show (v 5).toInt < _
          omega
        · show (f_X7_chosen k (upd v 6 1) p).toInt < _
          omega
        · show (v 1).toInt + _ ≤ _
          omega
        · show 0 ≤ (0 : Int32).toInt
          decide
        · show (0 : Int32).toInt ≤ 9000 * (0 : Int32).toInt
          decide
        · show btw (0 : Int32) 0 T
          exact ⟨by decide, by rw [i32_0]; exact hT⟩
  · exact hN
theorem ra_b {k : Cf} (hk : KOK k) (t : Int32) : ∀ (n j : Nat), (j : Int) < (k.1 3).toInt → btw (f_X7_rateAt_l13 k t n j) 0 9000
  | 0, j, _ => bl09
  | n + 1, j, hj => by
    rw [f_X7_rateAt_l13]
    have h12 := ra_12 hk hj
    split
    · exact hk.2.2.2.2.2.2.2.2.2.2.2.2 j h12
    · next h1 =>
      split
      · exact hk.2.2.2.2.2.2.2.2.2.2.2.2 j h12
      · exact ra_b hk t n (j + 1) (ra_next hk h1 hj)
theorem ra_in {k : Cf} (hk : KOK k) (t : Int32) : btw (f_X7_rateAt k t) 0 9000 := by
  unfold f_X7_rateAt
  split
  · exact ⟨by decide, by decide⟩
  · next h => exact ra_b hk t 13 0 (ra_pos hk h)
theorem cc_o {k : Cf} {v : Fn} {i : Nat} (hi : i < 22) (h : i ≠ 1 ∧ i ≠ 5 ∧ i ≠ 6 ∧ i ≠ 15 ∧ i ≠ 20 ∧ i ≠ 21) : f_X7_completes_c105 k v i = v i := by
  unfold f_X7_completes_c105
  rw [pk_un (by omega), pk_un (by omega), pk_un (by omega), pk_un (by omega), pk_un (by omega), pk_un (by omega), pk_un (by omega)]
theorem cc_1 {k : Cf} {v : Fn} : f_X7_completes_c105 k v 1 = v 1 + k.1 1 := by
  unfold f_X7_completes_c105
  rw [pk_un (by omega), pk_un (by omega), pk_us]
theorem cc_5 {k : Cf} {v : Fn} : f_X7_completes_c105 k v 5 = v 5 + 1 := by
  unfold f_X7_completes_c105
  rw [pk_un (by omega), pk_us]
theorem cc_6 {k : Cf} {v : Fn} : f_X7_completes_c105 k v 6 = 0 := by
  unfold f_X7_completes_c105
  rw [pk_us]
theorem cc_15 {k : Cf} {v : Fn} : f_X7_completes_c105 k v 15 = v 7 := by
  unfold f_X7_completes_c105
  rw [pk_un (by omega), pk_un (by omega), pk_un (by omega), pk_un (by omega), pk_un (by omega), pk_un (by omega), pk_us]
theorem cc_20 {k : Cf} {v : Fn} : f_X7_completes_c105 k v 20 = v 20 + k.2.1 (v 7).toNatClampNeg := by
  unfold f_X7_completes_c105
  rw [pk_un (by omega), pk_un (by omega), pk_un (by omega), pk_un (by omega), pk_us]
theorem cc_21 {k : Cf} {v : Fn} : f_X7_completes_c105 k v 21 = v 21 + 1 := by
  unfold f_X7_completes_c105
  rw [pk_un (by omega), pk_un (by omega), pk_un (by omega), pk_us]
theorem cc_hi {k : Cf} {v : Fn} {i : Nat} : f_X7_completes_c105 k v (22 + i) = if i = (v 5).toNatClampNeg then v 7 else v (22 + i) := by
  unfold f_X7_completes_c105
  rw [pk_un (by omega), pk_un (by omega), pk_un (by omega), pk_un (by omega), pk_un (by omega)]
  split
  · next h => rw [h, pk_us]
  · next h => rw [pk_un (by omega), pk_un (by omega)]
/-- what a completed segment leaves of the session's numbers -/
theorem co_ok {T : Int} {k : Cf} {v : Fn} (hk : KOK k) (n1 : btw (v 1) 0 60000) (n3 : btw (v 3) 0 3) (n31 : v 3 = 1 → 1 ≤ (v 1).toInt) (n4 : btw (v 4) 0 1) (n5 : btw (v 5) 0 (k.1 0).toInt) (a5 : (v 5).toInt < (k.1 0).toInt) (a7 : 0 ≤ (v 7).toInt) (a72 : (v 7).toInt < (k.1 2).toInt) (a1 : (v 1).toInt + (k.1 1).toInt ≤ 60000)
    (n11 : btw (v 11) 0 T) (n12 : btw (v 12) 0 9000) (n13 : btw (v 13) 0 9000) (n14 : btw (v 14) 0 9000) : NOK T k (f_X7_completes_c105 k v) := by
  have e1 : (v 1 + k.1 1 : Int32).toInt = (v 1).toInt + (k.1 1).toInt := fb_addI (by have := n1.1; have := hk.2.1.1; omega) (by omega)
  have e5 : (v 5 + 1 : Int32).toInt = (v 5).toInt + 1 := by
    rw [fb_addI (by rw [i32_1]; have := n5.1; omega) (by rw [i32_1]; have := hk.1.2; omega), i32_1]
  unfold NOK
  rw [cc_1, cc_5, cc_6, cc_15, cc_o (i := 3) (by decide) (by decide), cc_o (i := 4) (by decide) (by decide), cc_o (i := 11) (by decide) (by decide), cc_o (i := 12) (by decide) (by decide), cc_o (i := 13) (by decide) (by decide), cc_o (i := 14) (by decide) (by decide)]
  refine ⟨⟨by rw [e1]; have := n1.1; have := hk.2.1.1; omega, by rw [e1]; exact a1⟩, n3, fun h => by rw [e1]; have := n31 h; have := hk.2.1.1; omega, n4, ⟨by rw [e5]; have := n5.1; omega, by rw [e5]; omega⟩, ⟨by decide, by decide⟩, fun h => absurd h (by decide), n11, n12, n13, n14, Or.inr ⟨a7, by have := hk.2.2.1.2; omega⟩⟩
theorem cp_ok {T : Int} {k : Cf} {v : Fn} (hT : 0 ≤ T) (hT2 : T < 1000000000) (hk : KOK k) (n1 : btw (v 1) 0 60000) (n3 : btw (v 3) 0 3) (n31 : v 3 = 1 → 1 ≤ (v 1).toInt) (n4 : btw (v 4) 0 1) (n5 : btw (v 5) 0 (k.1 0).toInt) (a5 : (v 5).toInt < (k.1 0).toInt) (a7 : 0 ≤ (v 7).toInt) (a72 : (v 7).toInt < (k.1 2).toInt) (a1 : (v 1).toInt + (k.1 1).toInt ≤ 60000)
    (n11 : btw (v 11) 0 T) (n12 : btw (v 12) 0 9000) (n13 : btw (v 13) 0 9000) (a8 : btw (v 8) 0 135000000) (a10 : btw (v 10) 1 (T + 1)) (a9 : (v 8).toInt ≤ 9000 * (v 10).toInt) : NOK (T + 1) k (f_X7_completes k v) := by
  have e11 : (v 11 + 1 : Int32).toInt = (v 11).toInt + 1 := by
    rw [fb_addI (by rw [i32_1]; have := n11.1; omega) (by rw [i32_1]; have := n11.2; omega), i32_1]
  have b11 : btw (v 11 + 1) 0 (T + 1) := ⟨by rw [e11]; have := n11.1; omega, by rw [e11]; have := n11.2; omega⟩
  have b12 : btw (v 8 / v 10) 0 9000 := by
    obtain ⟨a, ea, ia, -, -⟩ := nat_of a8 (Int.le_refl 0)
    obtain ⟨b, eb, ib, -, hb⟩ := nat_of a10 (by decide)
    have h1 := idiv_n ia ib (by omega)
    have h2 : a / b ≤ 9000 := Nat.div_le_of_le_mul (by rw [Nat.mul_comm]; omega)
    exact ⟨by rw [h1]; exact Int.natCast_nonneg _, by rw [h1]; exact Int.ofNat_le.mpr h2⟩
  unfold f_X7_completes
  split
  · exact co_ok hk n1 n3 n31 n4 n5 a5 a7 a72 a1 b11 b12 n12 n13
  · split
    · exact co_ok hk n1 n3 n31 n4 n5 a5 a7 a72 a1 b11 b12 n12 n13
    · exact co_ok hk n1 n3 n31 n4 n5 a5 a7 a72 a1 b11 b12 n12 n13
theorem up_T {T : Int} {k : Cf} {v : Fn} (hN : NOK T k v) (h6 : ¬ v 6 = 1) : NOK (T + 1) k v := by
  obtain ⟨n1, n3, n31, n4, n5, n6, n7, n11, n12, n13, n14, n15⟩ := hN
  exact ⟨n1, n3, n31, n4, n5, n6, fun h => absurd h h6, ⟨n11.1, by have := n11.2; omega⟩, n12, n13, n14, n15⟩
theorem rc_ok {T : Int} {k : Cf} {v : Fn} (hT : 0 ≤ T) (hT2 : T < 1000000000) (hk : KOK k) (hN : NOK T k v) : NOK (T + 1) k (f_X7_receives k v) := by
  unfold f_X7_receives
  split
  · next h6 =>
    have hN' := hN
    obtain ⟨n1, n3, n31, n4, n5, n6, n7, n11, n12, n13, n14, n15⟩ := hN
    obtain ⟨a5, a7, a72, a1, a8, a9, a90, a98, a10⟩ := n7 h6
    have hr := ra_in hk (v 0)
    have e10 : (v 10 + 1 : Int32).toInt = (v 10).toInt + 1 := by
      rw [fb_addI (by rw [i32_1]; have := a10.1; omega) (by rw [i32_1]; have := a10.2; omega), i32_1]
    have h9 : (v 9).toInt ≤ 135000000 := by
      rcases a98 with h | h
      · rw [h, i32_0]; decide
      · have := a8.2; omega
    have e9 : (v 9 + f_X7_rateAt k (v 0) : Int32).toInt = (v 9).toInt + (f_X7_rateAt k (v 0)).toInt := fb_addI (by have := hr.1; omega) (by have := hr.2; omega)
    have r1 := hr.1
    have r2 := hr.2
    split
    · next h =>
      rw [fa_lt, e9] at h
      refine ⟨n1, n3, n31, n4, n5, n6, fun _ => ⟨a5, a7, a72, a1, a8, ?_, ?_, Or.inr ?_, ?_⟩, (show btw (v 11) 0 (T + 1) from ⟨n11.1, by have := n11.2; omega⟩), n12, n13, n14, n15⟩
      · show 0 ≤ (v 9 + f_X7_rateAt k (v 0) : Int32).toInt
        omega
      · show (v 9 + f_X7_rateAt k (v 0) : Int32).toInt ≤ 9000 * (v 10 + 1 : Int32).toInt
        omega
      · show (v 9 + f_X7_rateAt k (v 0) : Int32).toInt < (v 8).toInt
        omega
      · show btw (v 10 + 1 : Int32) 0 (T + 1)
        exact ⟨by have := a10.1; omega, by have := a10.2; omega⟩
    · next h =>
      rw [fa_lt, e9] at h
      refine cp_ok (v := upd (upd v 9 (v 9 + f_X7_rateAt k (v 0))) 10 (v 10 + 1)) hT hT2 hk n1 n3 n31 n4 n5 a5 a7 a72 a1 n11 n12 n13 a8 ?_ ?_
      · show btw (v 10 + 1 : Int32) 1 (T + 1)
        exact ⟨by have := a10.1; omega, by have := a10.2; omega⟩
      · show (v 8).toInt ≤ 9000 * (v 10 + 1 : Int32).toInt
        omega
  · next h6 => exact up_T hN h6
theorem rc_pre {k : Cf} {v : Fn} (p : Int32) (h : PR k v) : f_X7_startsDownload k v p 6 = 1 → ¬ f_X7_startsDownload k v p 10 + 1 = 0 ∧ btw (f_X7_startsDownload k v p 5) 0 29 ∧ vp_in (f_X7_startsDownload k v p 7) 5 := by
  obtain ⟨hk, hl, j, hj, hN, -⟩ := h
  have h2 := sd_ok (Int.natCast_nonneg j) hk hl hN p
  intro h6
  obtain ⟨n1, n3, n31, n4, n5, n6, n7, n11, n12, n13, n14, n15⟩ := h2
  obtain ⟨a5, a7, a72, a1, a8, a9, a90, a98, a10⟩ := n7 h6
  refine ⟨?_, ⟨n5.1, by have := hk.1.2; omega⟩, vp_in_iff.mpr ⟨a7, by have := hk.2.2.1.2; omega⟩⟩
  rw [fa_eq, i32_0, fb_addI (by rw [i32_1]; have := a10.1; omega) (by rw [i32_1]; have := a10.2; omega), i32_1]
  have := a10.1
  omega
theorem pl_ok {T : Int} {k : Cf} {v : Fn} (hk : KOK k) (hN : NOK T k v) (h3 : v 3 = 1) : NOK T k (f_X7_plays k v) := by
  obtain ⟨n1, n3, n31, n4, n5, n6, n7, n11, n12, n13, n14, n15⟩ := hN
  have h1 := n31 h3
  have e1 : (v 1 - 1 : Int32).toInt = (v 1).toInt - 1 := by
    rw [fb_subI (by rw [i32_1]; omega) (by rw [i32_1]; have := n1.2; omega), i32_1]
  have b1 : btw (v 1 - 1) 0 60000 := ⟨by omega, by have := n1.2; omega⟩
  have m7 : v 6 = 1 → (v 5).toInt < (k.1 0).toInt ∧ 0 ≤ (v 7).toInt ∧ (v 7).toInt < (k.1 2).toInt ∧ (v 1 - 1).toInt + (k.1 1).toInt ≤ 60000 ∧ btw (v 8) 0 135000000 ∧ 0 ≤ (v 9).toInt ∧ (v 9).toInt ≤ 9000 * (v 10).toInt ∧ (v 9 = 0 ∨ (v 9).toInt < (v 8).toInt) ∧ btw (v 10) 0 T := fun h => by
    obtain ⟨a5, a7, a72, a1, a8⟩ := n7 h
    exact ⟨a5, a7, a72, by omega, a8⟩
  unfold f_X7_plays
  split
  · split
    · exact ⟨b1, bl23, fun h => absurd (show (2 : Int32) = 1 from h) (by decide), n4, n5, n6, m7, n11, n12, n13, n14, n15⟩
    · exact ⟨b1, bl33, fun h => absurd (show (3 : Int32) = 1 from h) (by decide), n4, n5, n6, m7, n11, n12, n13, n14, n15⟩
  · next h0 =>
    rw [fa_eq, e1, i32_0] at h0
    exact ⟨b1, n3, fun _ => by show 1 ≤ (v 1 - 1 : Int32).toInt; omega, n4, n5, n6, m7, n11, n12, n13, n14, n15⟩
theorem wa49 {T : Int} {k : Cf} {v : Fn} (hk : KOK k) (hN : NOK T k v) : NOK T k (f_X7_waits_c49 k v) := by
  have hN' := hN
  obtain ⟨n1, n3, n31, n4, n5, n6, n7, n11, n12, n13, n14, n15⟩ := hN
  unfold f_X7_waits_c49
  split
  · next h =>
    rw [fa_le] at h
    exact ⟨n1, bl13, fun _ => by show 1 ≤ (v 1).toInt; have := hk.2.2.2.2.2.1.1; omega, n4, n5, n6, n7, n11, n12, n13, n14, n15⟩
  · split
    · exact hN'
    · split
      · exact hN'
      · next h =>
        rw [fa_le, i32_0] at h
        exact ⟨n1, bl13, fun _ => by show 1 ≤ (v 1).toInt; omega, n4, n5, n6, n7, n11, n12, n13, n14, n15⟩
theorem wa_ok {T : Int} {k : Cf} {v : Fn} (hk : KOK k) (hN : NOK T k v) : NOK T k (f_X7_waits k v) := by
  unfold f_X7_waits f_X7_waits_c22 f_X7_waits_c47
  split
  · split
    · exact wa49 hk hN
    · exact wa49 hk hN
  · split
    · exact wa49 hk hN
    · exact wa49 hk hN
theorem sd_0 {k : Cf} {v : Fn} (p : Int32) : f_X7_startsDownload k v p 0 = v 0 := by
  unfold f_X7_startsDownload
  split
  · split
    · rfl
    · split <;> rfl
  · rfl
theorem rc_0 {k : Cf} {v : Fn} : f_X7_receives k v 0 = v 0 := by
  unfold f_X7_receives
  split
  · split
    · rfl
    · unfold f_X7_completes
      split
      · exact cc_o (by decide) (by decide)
      · split
        · exact cc_o (by decide) (by decide)
        · exact cc_o (by decide) (by decide)
  · rfl
theorem pl_0 {k : Cf} {v : Fn} : f_X7_plays k v 0 = v 0 := by
  unfold f_X7_plays
  split
  · split <;> rfl
  · rfl
theorem wa49_0 {k : Cf} {v : Fn} : f_X7_waits_c49 k v 0 = v 0 := by
  unfold f_X7_waits_c49
  split
  · rfl
  · split
    · rfl
    · split <;> rfl
theorem wa_0 {k : Cf} {v : Fn} : f_X7_waits k v 0 = v 0 := by
  unfold f_X7_waits f_X7_waits_c22 f_X7_waits_c47
  split
  · split <;> exact wa49_0
  · split <;> exact wa49_0
