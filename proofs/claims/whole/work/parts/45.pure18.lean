/-! what the calls on the configuration do, of both -/
theorem hs_w {k : Cf} {p : Int32} (hk : KOK k) : f_X5_hasSegment k p = f_X7_within p 0 (k.1 0 - 1) := by
  obtain ⟨a1, a2⟩ := hk.1
  have e : (k.1 0 - 1).toInt = (k.1 0).toInt - 1 := by rw [fb_subI (by rw [i32_1]; omega) (by rw [i32_1]; omega), i32_1]
  unfold f_X5_hasSegment f_X7_within
  by_cases x : p < 0
  · rw [if_pos x, if_pos x]
  · rw [if_neg x, if_neg x]
    by_cases y : k.1 0 ≤ p
    · rw [if_pos y, if_pos (by rw [fa_lt, e]; rw [fa_le] at y; omega)]
    · rw [if_neg y, if_neg (show ¬ (30 : Int32) ≤ p by rw [fa_le, show (30 : Int32).toInt = 30 by decide]; rw [fa_le] at y; omega), if_neg (by rw [fa_lt, e]; rw [fa_le] at y; omega)]
theorem hl_w {k : Cf} {p : Int32} (hk : KOK k) : f_X5_hasLevel k p = f_X7_within p 0 (k.1 2 - 1) := by
  obtain ⟨a1, a2⟩ := hk.2.2.1
  have e : (k.1 2 - 1).toInt = (k.1 2).toInt - 1 := by rw [fb_subI (by rw [i32_1]; omega) (by rw [i32_1]; omega), i32_1]
  unfold f_X5_hasLevel f_X7_within
  by_cases x : p < 0
  · rw [if_pos x, if_pos x]
  · rw [if_neg x, if_neg x]
    by_cases y : k.1 2 ≤ p
    · rw [if_pos y, if_pos (by rw [fa_lt, e]; rw [fa_le] at y; omega)]
    · rw [if_neg y, if_neg (show ¬ (5 : Int32) ≤ p by rw [fa_le, show (5 : Int32).toInt = 5 by decide]; rw [fa_le] at y; omega), if_neg (by rw [fa_lt, e]; rw [fa_le] at y; omega)]
theorem rp_17 : ∀ (n j : Nat) (k : Cf), 30 < j + n → j ≤ 30 → f_X5_replace_l17 n k j = (k.1, k.2.1, (fun i => if j ≤ i ∧ i < 30 then 100 else k.2.2.1 i), k.2.2.2.1, k.2.2.2.2)
  | 0, j, k, h, hj => absurd h (by omega)
  | n + 1, j, k, h, hj => by
    rw [f_X5_replace_l17]
    split
    · next h1 =>
      have h2 := nI_yge (a := 30) h1 (by decide) (by omega)
      rw [show (fun i => if j ≤ i ∧ i < 30 then (100 : Int32) else k.2.2.1 i) = k.2.2.1 from funext fun i => if_neg (by omega)]
    · next h1 =>
      have h2 := nI_nge (a := 30) h1 (by omega)
      rw [rp_17 n (j + 1) _ (by omega) (by omega)]
      have e : (fun i => if j + 1 ≤ i ∧ i < 30 then (100 : Int32) else upd k.2.2.1 j 100 i) = fun i => if j ≤ i ∧ i < 30 then (100 : Int32) else k.2.2.1 i := by
        funext i
        by_cases hi : i = j
        · subst hi
          rw [if_neg (by omega), if_pos (by omega), pk_us]
        · rw [pk_un hi]
          by_cases h3 : j + 1 ≤ i ∧ i < 30
          · rw [if_pos h3, if_pos (by omega)]
          · rw [if_neg h3, if_neg (by omega)]
      exact congrArg (fun f => ((k.1, k.2.1, f, k.2.2.2.1, k.2.2.2.2) : Cf)) e
theorem sv_41 {v : Fn} : ∀ (n j : Nat) (k : Cf), 30 < j + n → j ≤ 30 → f_X7_setVideo_l41 v n k j = (k.1 0 * k.1 1, (k.1, k.2.1, (fun i => if j ≤ i ∧ i < 30 then 100 else k.2.2.1 i), k.2.2.2.1, k.2.2.2.2), f_X7_begins v)
  | 0, j, k, h, hj => absurd h (by omega)
  | n + 1, j, k, h, hj => by
    rw [f_X7_setVideo_l41]
    split
    · next h1 =>
      have h2 := nI_yge (a := 30) h1 (by decide) (by omega)
      rw [show (fun i => if j ≤ i ∧ i < 30 then (100 : Int32) else k.2.2.1 i) = k.2.2.1 from funext fun i => if_neg (by omega)]
    · next h1 =>
      have h2 := nI_nge (a := 30) h1 (by omega)
      rw [sv_41 n (j + 1) _ (by omega) (by omega)]
      have e : (fun i => if j + 1 ≤ i ∧ i < 30 then (100 : Int32) else upd k.2.2.1 j 100 i) = fun i => if j ≤ i ∧ i < 30 then (100 : Int32) else k.2.2.1 i := by
        funext i
        by_cases hi : i = j
        · subst hi
          rw [if_neg (by omega), if_pos (by omega), pk_us]
        · rw [pk_un hi]
          by_cases h3 : j + 1 ≤ i ∧ i < 30
          · rw [if_pos h3, if_pos (by omega)]
          · rw [if_neg h3, if_neg (by omega)]
      exact congrArg (fun f => ((k.1 0 * k.1 1, (k.1, k.2.1, f, k.2.2.2.1, k.2.2.2.2), f_X7_begins v) : Int32 × Cf × Fn)) e
theorem upd3 (f : Nat → Int32) : upd (upd f 0 (f 0)) 1 (f 1) = f := by rw [fa_upd_same (f := f) (i := 0) rfl, fa_upd_same (f := f) (i := 1) rfl]
/-- the configuration behind setVideo -/
def kv (k : Cf) (a b : Int32) : Cf := (upd (upd (upd k.1 0 a) 1 b) 2 0, k.2.1, (fun i => if i < 30 then 100 else k.2.2.1 i), k.2.2.2.1, k.2.2.2.2)
theorem fun0 {f : Nat → Int32} : (fun i => if 0 ≤ i ∧ i < 30 then (100 : Int32) else f i) = fun i => if i < 30 then 100 else f i := by
  funext i
  by_cases h : i < 30
  · rw [if_pos (by omega), if_pos h]
  · rw [if_neg (by omega), if_neg h]
theorem rp_eq {k : Cf} {a b : Int32} : f_X5_replace k a b = kv k a b := by
  unfold f_X5_replace
  rw [rp_17 31 0 _ (by decide) (by decide), fun0]
  rfl
theorem sv_6 {k : Cf} {g : Ss} {a b : Int32} (h1 : ¬ f_X7_within a 1 30 = 0) (h2 : ¬ f_X7_within b 100 5000 = 0) : f_X6_setVideo k g a b = (a * b, kv k a b, f_X2_begin (kv k a b) g) := by
  unfold f_X6_setVideo
  rw [isw, isw, if_neg h1, if_neg h2, rp_eq]
  have e : ((upd (upd (upd k.1 0 ((kv k a b).1 0)) 1 ((kv k a b).1 1)) 2 ((kv k a b).1 2), (kv k a b).2.1, (kv k a b).2.2.1, k.2.2.2.1, k.2.2.2.2) : Cf) = kv k a b := rfl
  rw [e]
theorem sv_7 {k : Cf} {v : Fn} {a b : Int32} (h1 : ¬ f_X7_within a 1 30 = 0) (h2 : ¬ f_X7_within b 100 5000 = 0) : f_X7_setVideo k v a b = (a * b, kv k a b, f_X7_begins v) := by
  unfold f_X7_setVideo
  rw [if_neg h1, if_neg h2, sv_41 31 0 _ (by decide) (by decide), fun0]
  rfl
theorem kv_ok {k : Cf} {a b : Int32} (hk : KOK k) (h1 : ¬ f_X7_within a 1 30 = 0) (h2 : ¬ f_X7_within b 100 5000 = 0) : KOK (kv k a b) := by
  obtain ⟨q0, q1, q2, q3, q4, q5, q6, q7, q8, q10, qb, qv, qr⟩ := hk
  have w1 := within_y h1
  have w2 := within_y h2
  rw [i32_1, show (30 : Int32).toInt = 30 by decide] at w1
  rw [show (100 : Int32).toInt = 100 by decide, show (5000 : Int32).toInt = 5000 by decide] at w2
  refine ⟨w1, w2, (show btw (0 : Int32) 0 5 from ⟨by decide, by decide⟩), q3, q4, q5, q6, q7, q8, q10, fun i hi => ⟨(qb i hi).1, fun hlt => ?_⟩, fun i hi => ?_, qr⟩
  · have hlt : (i : Int) < (0 : Int32).toInt := hlt
    rw [i32_0] at hlt
    omega
  · show btw (if i < 30 then 100 else k.2.2.1 i) 0 300
    rw [if_pos hi]
    exact ⟨by decide, by decide⟩
/-- the configuration behind addLevel -/
def kl (k : Cf) (a : Int32) : Cf := (upd k.1 2 (k.1 2 + 1), upd k.2.1 (k.1 2).toNatClampNeg a, k.2.2.1, k.2.2.2.1, k.2.2.2.2)
theorem al_6 {k : Cf} {g : Ss} {a : Int32} (hk : KOK k) (h1 : ¬ f_X7_within a 1 9000 = 0) (h2 : f_X5_highestBitrate k < a) (h3 : ¬ k.1 2 = 5) : f_X6_addLevel k g a = (k.1 2 + 1 - 1, kl k a, f_X2_begin (kl k a) g) := by
  have h5 : k.1 2 < 5 := by
    rw [fa_eq, show (5 : Int32).toInt = 5 by decide] at h3
    rw [fa_lt, show (5 : Int32).toInt = 5 by decide]
    have := hk.2.2.1.2
    omega
  have e : f_X5_appendLevel k a = kl k a := by
    unfold f_X5_appendLevel
    rw [if_neg (by rw [fa_le]; rw [fa_lt] at h5; omega)]
    rfl
  unfold f_X6_addLevel
  rw [isw, if_neg h1, if_pos h2, if_pos h5, e]
  have e2 : ((upd (upd (upd k.1 0 ((kl k a).1 0)) 1 ((kl k a).1 1)) 2 ((kl k a).1 2), (kl k a).2.1, (kl k a).2.2.1, k.2.2.2.1, k.2.2.2.2) : Cf) = kl k a := by
    show (upd (upd (upd k.1 0 (k.1 0)) 1 (k.1 1)) 2 (k.1 2 + 1), upd k.2.1 (k.1 2).toNatClampNeg a, k.2.2.1, k.2.2.2.1, k.2.2.2.2) = kl k a
    rw [upd3]
    rfl
  rw [e2]
  rfl
theorem al_x {k : Cf} {v : Fn} {a x : Int32} : f_X7_addLevel_c25 k v a x = if f_X7_within a x 9000 = 0 then (-1, k, v) else if k.1 2 = 5 then (-3, k, v) else (k.1 2 + 1 - 1, kl k a, f_X7_begins v) := rfl
theorem al_7 {k : Cf} {v : Fn} {a : Int32} (hk : KOK k) : f_X7_addLevel k v a = if f_X7_within a 1 9000 = 0 then (-1, k, v) else if f_X5_highestBitrate k < a then (if k.1 2 = 5 then (-3, k, v) else (k.1 2 + 1 - 1, kl k a, f_X7_begins v)) else (-1, k, v) := by
  unfold f_X7_addLevel
  rw [al_x, al_x]
  unfold f_X5_highestBitrate f_X5_bitrateOf
  rw [hl_w hk]
  obtain ⟨L, eL, iL, h5, -⟩ := nat_of hk.2.2.1 (Int.le_refl 0)
  by_cases z : k.1 2 = 0
  · rw [if_pos z, z, show f_X7_within ((0 : Int32) - 1) 0 ((0 : Int32) - 1) = 0 by decide, if_pos rfl]
    by_cases x : f_X7_within a 1 9000 = 0
    · rw [if_pos x, if_pos x]
    · rw [if_neg x, if_neg x, if_pos (show (0 : Int32) < a by have h := (within_y x).1; rw [i32_1] at h; rw [fa_lt, i32_0]; omega)]
  · rw [if_neg z]
    have hL : 0 < L := by
      rcases Nat.eq_zero_or_pos L with q | q
      · rw [q] at eL
        exact absurd eL z
      · exact q
    have e1 : k.1 2 - 1 = nI (L - 1) := by rw [eL]; exact pk_sub (a := L) (b := 1) (by omega)
    have hw : ¬ f_X7_within (k.1 2 - 1) 0 (k.1 2 - 1) = 0 := by
      intro q
      have q2 := within_n q
      rw [e1, nI_toInt (by omega), i32_0] at q2
      omega
    rw [if_neg hw, e1, nI_clamp (by omega)]
    obtain ⟨⟨b1, b2⟩, b3⟩ := hk.2.2.2.2.2.2.2.2.2.2.1 (L - 1) (by omega)
    have e2 : (k.2.1 (L - 1) + 1).toInt = (k.2.1 (L - 1)).toInt + 1 := by
      rw [fb_addI (by rw [i32_1]; omega) (by rw [i32_1]; omega), i32_1]
    have c9 : (9000 : Int32).toInt = 9000 := by decide
    by_cases x : f_X7_within a 1 9000 = 0
    · rw [if_pos x]
      have q2 := within_n x
      rw [if_pos (show f_X7_within a (k.2.1 (L - 1) + 1) 9000 = 0 by
        unfold f_X7_within
        rw [i32_1, c9] at q2
        by_cases s : a < k.2.1 (L - 1) + 1
        · rw [if_pos s]
        · rw [if_neg s, if_pos (by rw [fa_lt, c9]; rw [fa_lt, e2] at s; omega)])]
    · rw [if_neg x]
      have q2 := within_y x
      rw [i32_1, c9] at q2
      by_cases y : k.2.1 (L - 1) < a
      · rw [if_pos y, if_neg (show ¬ f_X7_within a (k.2.1 (L - 1) + 1) 9000 = 0 by
          intro s
          have s2 := within_n s
          rw [e2, c9] at s2
          rw [fa_lt] at y
          omega)]
      · rw [if_neg y, if_pos (show f_X7_within a (k.2.1 (L - 1) + 1) 9000 = 0 by
          unfold f_X7_within
          rw [if_pos (by rw [fa_lt, e2]; rw [fa_lt] at y; omega)])]
theorem kl_ok {k : Cf} {a : Int32} (hk : KOK k) (h1 : ¬ f_X7_within a 1 9000 = 0) (h3 : ¬ k.1 2 = 5) : KOK (kl k a) := by
  obtain ⟨q0, q1, q2, q3, q4, q5, q6, q7, q8, q10, qb, qv, qr⟩ := hk
  have w1 := within_y h1
  rw [i32_1, show (9000 : Int32).toInt = 9000 by decide] at w1
  rw [fa_eq, show (5 : Int32).toInt = 5 by decide] at h3
  obtain ⟨L, eL, iL, h5, -⟩ := nat_of q2 (Int.le_refl 0)
  have e : (k.1 2 + 1).toInt = (L : Int) + 1 := by rw [fb_addI (by rw [i32_1]; omega) (by rw [i32_1]; omega), i32_1, iL]
  refine ⟨q0, q1, (show btw (k.1 2 + 1) 0 5 from ⟨by omega, by omega⟩), q3, q4, q5, q6, q7, q8, q10, fun i hi => ?_, qv, qr⟩
  show btw (upd k.2.1 (k.1 2).toNatClampNeg a i) 0 9000 ∧ ((i : Int) < (k.1 2 + 1).toInt → 1 ≤ (upd k.2.1 (k.1 2).toNatClampNeg a i).toInt)
  rw [e, eL, nI_clamp (by omega)]
  by_cases c : i = L
  · subst c
    rw [pk_us]
    exact ⟨⟨by omega, w1.2⟩, fun _ => w1.1⟩
  · rw [pk_un c]
    exact ⟨(qb i hi).1, fun h => (qb i hi).2 (by omega)⟩
theorem var_6 {k : Cf} {a b : Int32} (hk : KOK k) : f_X6_setVariation k a b = f_X7_setVariation k a b := by
  unfold f_X6_setVariation f_X7_setVariation f_X5_variationOf f_X5_changeVariation
  rw [hs_w hk, isw]
  by_cases x : f_X7_within a 0 (k.1 0 - 1) = 0
  · simp only [if_pos x]
  · by_cases y : f_X7_within b 0 300 = 0
    · simp only [if_neg x, if_pos y]
    · simp only [if_neg x, if_neg y]
      show (k.2.2.1 a.toNatClampNeg, (upd (upd (upd k.1 0 (k.1 0)) 1 (k.1 1)) 2 (k.1 2), k.2.1, upd k.2.2.1 a.toNatClampNeg b, k.2.2.2.1, k.2.2.2.2)) = _
      rw [upd3, fa_upd_same (f := k.1) (i := 2) rfl]
theorem var_ok {k : Cf} {a b : Int32} (hk : KOK k) : KOK (f_X7_setVariation k a b).2 := by
  unfold f_X7_setVariation
  by_cases x : f_X7_within a 0 (k.1 0 - 1) = 0
  · rw [if_pos x]
    exact hk
  · rw [if_neg x]
    by_cases y : f_X7_within b 0 300 = 0
    · rw [if_pos y]
      exact hk
    · rw [if_neg y]
      obtain ⟨q0, q1, q2, q3, q4, q5, q6, q7, q8, q10, qb, qv, qr⟩ := hk
      refine ⟨q0, q1, q2, q3, q4, q5, q6, q7, q8, q10, qb, fun i hi => ?_, qr⟩
      show btw (upd k.2.2.1 a.toNatClampNeg b i) 0 300
      by_cases c : i = a.toNatClampNeg
      · rw [c, pk_us]
        have w := within_y y
        rw [i32_0, show (300 : Int32).toInt = 300 by decide] at w
        exact w
      · rw [pk_un c]
        exact qv i hi
