theorem per_6 {k : Cf} {a b : Int32} (hk : KOK k) : f_X6_addPeriod k a b = f_X7_addPeriod k a b := by
  unfold f_X6_addPeriod f_X7_addPeriod f_X0_appendPeriod
  rw [isw, isw]
  have c12 : (12 : Int32).toInt = 12 := by decide
  have h3 := hk.2.2.2.1
  by_cases x : f_X7_within a 1 60000 = 0
  · simp only [if_pos x]
  · by_cases y : f_X7_within b 0 9000 = 0
    · simp only [if_neg x, if_pos y]
    · simp only [if_neg x, if_neg y]
      by_cases z : k.1 3 = 12
      · rw [if_neg (show ¬ k.1 3 < 12 by rw [z]; decide), if_pos z]
      · have z' := z
        rw [fa_eq, c12] at z'
        have l : k.1 3 < 12 := by rw [fa_lt, c12]; have := h3.2; omega
        have l2 : ¬ (12 : Int32) ≤ k.1 3 := by rw [fa_le, c12]; have := h3.2; omega
        rw [if_pos l, if_neg z]
        simp only [if_neg l2]
        by_cases w : k.1 3 = 0
        · have w2 : k.1 3 ≤ 0 := by rw [w]; decide
          simp only [if_pos w, if_pos w2, Int32.zero_add, Int32.add_zero]
          rfl
        · have w2 : ¬ k.1 3 ≤ 0 := by
            rw [fa_le, i32_0]
            rw [fa_eq, i32_0] at w
            have := h3.1
            omega
          simp only [if_neg w, if_neg w2, Int32.add_comm a]
          rfl
theorem per_ok {k : Cf} {a b : Int32} (hk : KOK k) : KOK (f_X7_addPeriod k a b).2 := by
  have key : ∀ (c : Nat → Int32), ¬ f_X7_within b 0 9000 = 0 → ¬ k.1 3 = 12 → KOK (upd k.1 3 (k.1 3 + 1), k.2.1, k.2.2.1, c, upd k.2.2.2.2 (k.1 3).toNatClampNeg b) := by
    intro c y z
    obtain ⟨q0, q1, q2, q3, q4, q5, q6, q7, q8, q10, qb, qv, qr⟩ := hk
    rw [fa_eq, show (12 : Int32).toInt = 12 by decide] at z
    refine ⟨q0, q1, q2, (show btw (k.1 3 + 1) 0 12 from ?_), q4, q5, q6, q7, q8, q10, qb, qv, fun i hi => ?_⟩
    · have := q3.1
      have := q3.2
      exact ⟨by rw [fb_addI (by rw [i32_1]; omega) (by rw [i32_1]; omega), i32_1]; omega, by rw [fb_addI (by rw [i32_1]; omega) (by rw [i32_1]; omega), i32_1]; omega⟩
    · show btw (upd k.2.2.2.2 (k.1 3).toNatClampNeg b i) 0 9000
      by_cases e : i = (k.1 3).toNatClampNeg
      · rw [e, pk_us]
        have w := within_y y
        rw [i32_0, show (9000 : Int32).toInt = 9000 by decide] at w
        exact w
      · rw [pk_un e]
        exact qr i hi
  unfold f_X7_addPeriod
  by_cases x : f_X7_within a 1 60000 = 0
  · rw [if_pos x]
    exact hk
  · rw [if_neg x]
    by_cases y : f_X7_within b 0 9000 = 0
    · rw [if_pos y]
      exact hk
    · rw [if_neg y]
      by_cases z : k.1 3 = 12
      · rw [if_pos z]
        exact hk
      · rw [if_neg z]
        by_cases w : k.1 3 = 0
        · rw [if_pos w]
          exact key _ y z
        · rw [if_neg w]
          exact key _ y z
theorem updT {f : Nat → Int32} : upd (upd (upd f 6 (f 6)) 7 (f 7)) 8 (f 8) = f := by rw [fa_upd_same (f := f) (i := 6) rfl, fa_upd_same (f := f) (i := 7) rfl, fa_upd_same (f := f) (i := 8) rfl]
theorem updT2 {f : Nat → Int32} : upd (upd f 4 (f 4)) 5 (f 5) = f := by rw [fa_upd_same (f := f) (i := 4) rfl, fa_upd_same (f := f) (i := 5) rfl]
theorem buf_6 {k : Cf} {a b : Int32} : f_X6_setBuffer k a b = f_X7_setBuffer k a b := by
  have e : upd (upd (upd (upd (upd k.1 4 a) 5 b) 6 (k.1 6)) 7 (k.1 7)) 8 (k.1 8) = upd (upd k.1 4 a) 5 b := updT (f := upd (upd k.1 4 a) 5 b)
  unfold f_X6_setBuffer f_X7_setBuffer f_X3_changeBuffer
  rw [isw, isw]
  by_cases x : f_X7_within a 100 60000 = 0
  · simp only [if_pos x]
  · by_cases y : f_X7_within b 1 a = 0
    · simp only [if_neg x, if_pos y]
    · simp only [if_neg x, if_neg y]
      by_cases z : k.1 4 = a
      · by_cases w : k.1 5 = b
        · simp only [if_pos z, if_pos w]
          show (f_X6_oneIf 0, (upd (upd (upd (upd (upd k.1 4 a) 5 b) 6 (k.1 6)) 7 (k.1 7)) 8 (k.1 8), k.2.1, k.2.2.1, k.2.2.2.1, k.2.2.2.2)) = _
          rw [e]
          rfl
        · simp only [if_pos z, if_neg w]
          show (f_X6_oneIf 1, (upd (upd (upd (upd (upd k.1 4 a) 5 b) 6 (k.1 6)) 7 (k.1 7)) 8 (k.1 8), k.2.1, k.2.2.1, k.2.2.2.1, k.2.2.2.2)) = _
          rw [e]
          rfl
      · simp only [if_neg z]
        show (f_X6_oneIf 1, (upd (upd (upd (upd (upd k.1 4 a) 5 b) 6 (k.1 6)) 7 (k.1 7)) 8 (k.1 8), k.2.1, k.2.2.1, k.2.2.2.1, k.2.2.2.2)) = _
        rw [e]
        rfl
theorem buf_ok {k : Cf} {a b : Int32} (hk : KOK k) : KOK (f_X7_setBuffer k a b).2 := by
  have key : ¬ f_X7_within a 100 60000 = 0 → ¬ f_X7_within b 1 a = 0 → KOK (upd (upd k.1 4 a) 5 b, k.2.1, k.2.2.1, k.2.2.2.1, k.2.2.2.2) := by
    intro x y
    obtain ⟨q0, q1, q2, q3, q4, q5, q6, q7, q8, q10, qb, qv, qr⟩ := hk
    have w1 := within_y x
    have w2 := within_y y
    rw [show (100 : Int32).toInt = 100 by decide, show (60000 : Int32).toInt = 60000 by decide] at w1
    rw [i32_1] at w2
    exact ⟨q0, q1, q2, q3, w1, (show btw b 1 60000 from ⟨w2.1, by omega⟩), q6, q7, q8, q10, qb, qv, qr⟩
  unfold f_X7_setBuffer
  by_cases x : f_X7_within a 100 60000 = 0
  · simp only [if_pos x]
    exact hk
  · by_cases y : f_X7_within b 1 a = 0
    · simp only [if_neg x, if_pos y]
      exact hk
    · simp only [if_neg x, if_neg y]
      by_cases z : k.1 4 = a
      · by_cases w : k.1 5 = b
        · simp only [if_pos z, if_pos w]
          exact key x y
        · simp only [if_pos z, if_neg w]
          exact key x y
      · simp only [if_neg z]
        exact key x y
theorem pol_6 {k : Cf} {a b c : Int32} : f_X6_setPolicyNumbers k a b c = f_X7_setPolicyNumbers k a b c := by
  have e : upd (upd (upd (upd (upd k.1 4 (k.1 4)) 5 (k.1 5)) 6 a) 7 b) 8 c = upd (upd (upd k.1 6 a) 7 b) 8 c := by rw [updT2]
  unfold f_X6_setPolicyNumbers f_X7_setPolicyNumbers f_X3_changePolicyNumbers
  rw [isw, isw, isw]
  by_cases x : f_X7_within a 1 200 = 0
  · simp only [if_pos x]
  · by_cases y : f_X7_within b 0 60000 = 0
    · simp only [if_neg x, if_pos y]
    · by_cases q : f_X7_within c 1 60000 = 0
      · simp only [if_neg x, if_neg y, if_pos q]
      · simp only [if_neg x, if_neg y, if_neg q]
        by_cases z : k.1 6 = a
        · by_cases w : k.1 7 = b
          · by_cases u : k.1 8 = c
            · simp only [if_pos z, if_pos w, if_pos u]
              show (f_X6_oneIf 0, (upd (upd (upd (upd (upd k.1 4 (k.1 4)) 5 (k.1 5)) 6 a) 7 b) 8 c, k.2.1, k.2.2.1, k.2.2.2.1, k.2.2.2.2)) = _
              rw [e]
              rfl
            · simp only [if_pos z, if_pos w, if_neg u]
              show (f_X6_oneIf 1, (upd (upd (upd (upd (upd k.1 4 (k.1 4)) 5 (k.1 5)) 6 a) 7 b) 8 c, k.2.1, k.2.2.1, k.2.2.2.1, k.2.2.2.2)) = _
              rw [e]
              rfl
          · simp only [if_pos z, if_neg w]
            show (f_X6_oneIf 1, (upd (upd (upd (upd (upd k.1 4 (k.1 4)) 5 (k.1 5)) 6 a) 7 b) 8 c, k.2.1, k.2.2.1, k.2.2.2.1, k.2.2.2.2)) = _
            rw [e]
            rfl
        · simp only [if_neg z]
          show (f_X6_oneIf 1, (upd (upd (upd (upd (upd k.1 4 (k.1 4)) 5 (k.1 5)) 6 a) 7 b) 8 c, k.2.1, k.2.2.1, k.2.2.2.1, k.2.2.2.2)) = _
          rw [e]
          rfl
theorem pol_ok {k : Cf} {a b c : Int32} (hk : KOK k) : KOK (f_X7_setPolicyNumbers k a b c).2 := by
  have key : ¬ f_X7_within a 1 200 = 0 → ¬ f_X7_within b 0 60000 = 0 → ¬ f_X7_within c 1 60000 = 0 → KOK (upd (upd (upd k.1 6 a) 7 b) 8 c, k.2.1, k.2.2.1, k.2.2.2.1, k.2.2.2.2) := by
    intro x y z
    obtain ⟨q0, q1, q2, q3, q4, q5, q6, q7, q8, q10, qb, qv, qr⟩ := hk
    have w1 := within_y x
    have w2 := within_y y
    have w3 := within_y z
    rw [i32_1, show (200 : Int32).toInt = 200 by decide] at w1
    rw [i32_0, show (60000 : Int32).toInt = 60000 by decide] at w2
    rw [i32_1, show (60000 : Int32).toInt = 60000 by decide] at w3
    exact ⟨q0, q1, q2, q3, q4, q5, w1, w2, w3, q10, qb, qv, qr⟩
  unfold f_X7_setPolicyNumbers
  by_cases x : f_X7_within a 1 200 = 0
  · simp only [if_pos x]
    exact hk
  · by_cases y : f_X7_within b 0 60000 = 0
    · simp only [if_neg x, if_pos y]
      exact hk
    · by_cases q : f_X7_within c 1 60000 = 0
      · simp only [if_neg x, if_neg y, if_pos q]
        exact hk
      · simp only [if_neg x, if_neg y, if_neg q]
        by_cases z : k.1 6 = a
        · by_cases w : k.1 7 = b
          · by_cases u : k.1 8 = c
            · simp only [if_pos z, if_pos w, if_pos u]
              exact key x y q
            · simp only [if_pos z, if_pos w, if_neg u]
              exact key x y q
          · simp only [if_pos z, if_neg w]
            exact key x y q
        · simp only [if_neg z]
          exact key x y q
theorem seg_l {k : Cf} {g : Ss} {v : Fn} {p : Int32} (hk : KOK k) (hR : Rel g v) : f_X6_segmentLevel k g p = f_X7_segmentLevel k v p := by
  unfold f_X6_segmentLevel f_X7_segmentLevel
  rw [hs_w hk]
  by_cases x : f_X7_within p 0 (k.1 0 - 1) = 0
  · rw [if_pos x, if_pos x]
  · rw [if_neg x, if_neg x]
    have h := sl_b hk x
    unfold f_X2_completedLevelOf
    rw [if_neg (by rw [fa_lt, i32_0]; have := h.1; omega), if_neg (by rw [fa_le, show (30 : Int32).toInt = 30 by decide]; have := h.2; omega)]
    obtain ⟨n, rfl, -, h2, -⟩ := nat_of h (Int.le_refl 0)
    rw [nI_clamp (by omega)]
    exact hR.2.2.2.2 n (by omega)
theorem seg_s {k : Cf} {p q : Int32} (hk : KOK k) : f_X6_segmentSize k p q = f_X7_segmentSize k p q := by
  unfold f_X6_segmentSize f_X7_segmentSize
  rw [hl_w hk, hs_w hk]
  by_cases x : f_X7_within p 0 (k.1 2 - 1) = 0
  · rw [if_pos x, if_pos x]
  · rw [if_neg x, if_neg x]
    by_cases y : f_X7_within q 0 (k.1 0 - 1) = 0
    · rw [if_pos y, if_pos y]
    · rw [if_neg y, if_neg y]
      unfold f_X5_sizeOf f_X7_sizeOf f_X5_bitrateOf f_X5_variationOf
      rw [hl_w hk, hs_w hk, if_neg x, if_neg y]
