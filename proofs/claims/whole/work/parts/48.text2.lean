/-! the arguments of the command line -/
theorem nI_sub {a b : Nat} (h : b ≤ a) : nI a - nI b = nI (a - b) := pk_sub h
theorem nI_ne {a b : Nat} (h : ¬ a = b) (ha : a < 2 ^ 31) (hb : b < 2 ^ 31) : ¬ nI a = nI b := fun z => h ((nI_eq ha hb).mp z)
theorem cp_sp {k : Cf} {p : Int32} (h : ¬ p = -6) : f_X6_changePolicy k p = f_X7_setsPolicy k p := by
  unfold f_X6_changePolicy f_X7_setsPolicy
  rw [if_neg h]
  rfl
theorem cp_no {k : Cf} : f_X6_changePolicy k (-6) = (-5, k) := if_pos rfl
theorem pf7 {k : Cf} {z f : Nat → Int32} {mw : Nat} (e : z 1 = nI mw) (h7 : 7 ≤ mw) (h16 : mw ≤ 16) : f_X6_changePolicy k (f_X6_policyNamed (mw - 7) (fun t => f (6 + 1 + t))) = f_X7_policyFrom7 k (z, f) := by
  have hm : z 1 - 7 = nI (mw - 7) := by rw [e]; exact nI_sub h7
  have hm' : ((z, f) : Ky).1 1 - 7 = nI (mw - 7) := hm
  unfold f_X7_policyFrom7 f_X6_policyNamed
  rw [hm']
  rcases (show mw = 12 ∨ mw = 11 ∨ mw = 13 ∨ (¬ mw = 12 ∧ ¬ mw = 11 ∧ ¬ mw = 13) by omega) with q | q | q | ⟨q1, q2, q3⟩
  · subst q
    rw [if_pos (show nI (12 - 7) = 5 by decide)]
    rcases h_fixed (f := f) e h16 with ⟨a, b⟩ | ⟨a, -, b⟩
    · rw [a, if_pos rfl, if_neg (show ¬ nI (12 - 7) = 4 by decide), if_neg (show ¬ nI (12 - 7) = 6 by decide), if_neg (show ¬ nI (12 - 7) = 6 by decide)]
      rw [seq_n (m := 5) (fun c => b ⟨by decide, u_fixed c.2⟩), if_pos rfl, seq_n (m := 4) (fun c => absurd c.1 (by decide)), if_pos rfl, seq_n (m := 6) (g := kF 7) (fun c => absurd c.1 (by decide)), if_pos rfl, seq_n (m := 6) (g := kF 8) (fun c => absurd c.1 (by decide)), if_pos rfl, cp_no]
    · rw [a, if_neg (show ¬ (1 : Int32) = 0 by decide), seq_y (m := 5) (by decide) (w_fixed b), if_neg (show ¬ (1 : Int32) = 0 by decide), cp_sp (by decide)]
  · subst q
    rw [if_neg (show ¬ nI (11 - 7) = 5 by decide), if_pos (show nI (11 - 7) = 4 by decide)]
    rw [seq_n (m := 5) (fun c => absurd c.1 (by decide)), if_pos rfl]
    rcases h_rate (f := f) e h16 with ⟨a, b⟩ | ⟨a, -, b⟩
    · rw [a, if_pos rfl, if_neg (show ¬ nI (11 - 7) = 6 by decide), if_neg (show ¬ nI (11 - 7) = 6 by decide)]
      rw [seq_n (m := 4) (fun c => b ⟨by decide, u_rate c.2⟩), if_pos rfl, seq_n (m := 6) (g := kF 7) (fun c => absurd c.1 (by decide)), if_pos rfl, seq_n (m := 6) (g := kF 8) (fun c => absurd c.1 (by decide)), if_pos rfl, cp_no]
    · rw [a, if_neg (show ¬ (1 : Int32) = 0 by decide), seq_y (m := 4) (by decide) (w_rate b), if_neg (show ¬ (1 : Int32) = 0 by decide), cp_sp (by decide)]
  · subst q
    rw [if_neg (show ¬ nI (13 - 7) = 5 by decide), if_neg (show ¬ nI (13 - 7) = 4 by decide), if_pos (show nI (13 - 7) = 6 by decide)]
    rw [seq_n (m := 5) (fun c => absurd c.1 (by decide)), if_pos rfl, seq_n (m := 4) (fun c => absurd c.1 (by decide)), if_pos rfl]
    rcases h_buffer (f := f) e h16 with ⟨a, b⟩ | ⟨a, -, b⟩
    · rw [a, if_pos rfl, if_pos (show nI (13 - 7) = 6 by decide), seq_n (m := 6) (g := kF 7) (fun c => b ⟨by decide, u_buffer c.2⟩), if_pos rfl]
      rcases h_hybrid (f := f) e h16 with ⟨a2, b2⟩ | ⟨a2, -, b2⟩
      · rw [a2, if_pos rfl, seq_n (m := 6) (g := kF 8) (fun c => b2 ⟨by decide, u_hybrid c.2⟩), if_pos rfl, cp_no]
      · rw [a2, if_neg (show ¬ (1 : Int32) = 0 by decide), seq_y (m := 6) (by decide) (w_hybrid b2), if_neg (show ¬ (1 : Int32) = 0 by decide), cp_sp (by decide)]
    · rw [a, if_neg (show ¬ (1 : Int32) = 0 by decide), seq_y (m := 6) (by decide) (w_buffer b), if_neg (show ¬ (1 : Int32) = 0 by decide), cp_sp (by decide)]
  · rw [if_neg (show ¬ nI (mw - 7) = 5 from nI_ne (b := 5) (by omega) (by omega) (by decide)), if_neg (show ¬ nI (mw - 7) = 4 from nI_ne (b := 4) (by omega) (by omega) (by decide)), if_neg (show ¬ nI (mw - 7) = 6 from nI_ne (b := 6) (by omega) (by omega) (by decide)), if_neg (show ¬ nI (mw - 7) = 6 from nI_ne (b := 6) (by omega) (by omega) (by decide))]
    rw [seq_n (m := 5) (fun c => absurd c.1 (by omega)), if_pos rfl, seq_n (m := 4) (fun c => absurd c.1 (by omega)), if_pos rfl, seq_n (m := 6) (g := kF 7) (fun c => absurd c.1 (by omega)), if_pos rfl, seq_n (m := 6) (g := kF 8) (fun c => absurd c.1 (by omega)), if_pos rfl, cp_no]
theorem nin_0 {lm : Nat} {f : Nat → Int32} (h : lm = 0 ∨ (3 ≤ lm ∧ lm ≤ 16)) : f_X6_numberIn lm f = -6 := by
  unfold f_X6_numberIn f_X6_isWithin
  rcases h with rfl | ⟨h1, h2⟩
  · rw [if_pos (show nI 0 < 1 by decide), if_pos rfl]
  · rw [if_neg (show ¬ nI lm < 1 from nI_nlt (b := 1) (by omega) (by omega)), if_pos (show (2 : Int32) < nI lm from nI_lt (a := 2) (by omega) (by omega)), if_pos rfl]
theorem nin_1 {f : Nat → Int32} : f_X6_numberIn 1 f = if f 0 < 48 then -6 else if f 0 ≤ 57 then f 0 - 48 else -6 := by
  unfold f_X6_numberIn
  rw [show f_X6_isWithin (nI 1) 1 2 = 1 by decide, if_neg (by decide), nmb, nmb, Int32.zero_mul, Int32.zero_add]
theorem nin_2 {f : Nat → Int32} : f_X6_numberIn 2 f = if f 0 < 48 then -6 else if f 0 ≤ 57 then (if f 1 < 48 then -6 else if f 1 ≤ 57 then 10 * (f 0 - 48) + f 1 - 48 else -6) else -6 := by
  unfold f_X6_numberIn
  rw [show f_X6_isWithin (nI 2) 1 2 = 1 by decide, if_neg (by decide), nmb, nmb, nmb, Int32.zero_mul, Int32.zero_add, Int32.mul_comm (f 0 - 48) 10, Int32.sub_eq_add_neg (f (0 + 1)) 48, ← Int32.add_assoc, ← Int32.sub_eq_add_neg]
theorem dig {z f : Nat → Int32} {p : Int32} {i : Nat} (e : p.toNatClampNeg = i) : f_X7_isDigit (z, f) p = if f i < 48 then 0 else if f i ≤ 57 then 1 else 0 := by
  subst e
  unfold f_X7_isDigit
  show (if f p.toNatClampNeg < 48 then (0 : Int32) else if 57 < f p.toNatClampNeg then 0 else 1) = _
  by_cases a : f p.toNatClampNeg ≤ 57
  · rw [if_neg (show ¬ 57 < f p.toNatClampNeg by rw [fa_lt]; rw [fa_le] at a; omega), if_pos a]
  · rw [if_pos (show 57 < f p.toNatClampNeg by rw [fa_lt]; rw [fa_le] at a; omega), if_neg a]
theorem dig_y {z f : Nat → Int32} {p : Int32} {i : Nat} (e : p.toNatClampNeg = i) (h1 : ¬ f i < 48) (h2 : f i ≤ 57) : ¬ f_X7_isDigit (z, f) p = 0 := by
  rw [dig e, if_neg h1, if_pos h2]
  decide
theorem dig_n {z f : Nat → Int32} {p : Int32} {i : Nat} (e : p.toNatClampNeg = i) (h : f i < 48 ∨ ¬ f i ≤ 57) : f_X7_isDigit (z, f) p = 0 := by
  rw [dig e]
  by_cases a : f i < 48
  · rw [if_pos a]
  · rw [if_neg a, if_neg (h.resolve_left a)]
theorem nf4 {z f : Nat → Int32} {mw : Nat} (e : z 1 = nI mw) (h : 4 ≤ mw) (h16 : mw ≤ 16) : f_X7_numberFrom4 (z, f) = f_X6_numberIn (mw - 4) (fun t => f (3 + 1 + t)) := by
  have hm : ((z, f) : Ky).1 1 - 4 = nI (mw - 4) := by show z 1 - 4 = _; rw [e]; exact nI_sub h
  have hm1 : ((z, f) : Ky).1 1 - 1 = nI (mw - 1) := by show z 1 - 1 = _; rw [e]; exact nI_sub (b := 1) (by omega)
  unfold f_X7_numberFrom4
  rw [hm, hm1]
  rcases (show mw = 4 ∨ mw = 5 ∨ mw = 6 ∨ 7 ≤ mw by omega) with rfl | rfl | rfl | q
  · rw [if_pos (show nI (4 - 4) < 1 by decide), nin_0 (Or.inl (by decide))]
  · rw [if_neg (show ¬ nI (5 - 4) < 1 by decide), if_neg (show ¬ 2 < nI (5 - 4) by decide), if_pos (show nI (5 - 4) = 1 by decide), show 5 - 4 = 1 from rfl, nin_1]
    show _ = if f 4 < 48 then (-6 : Int32) else if f 4 ≤ 57 then f 4 - 48 else -6
    by_cases a : f 4 < 48
    · rw [dig_n (p := 4) (i := 4) (by decide) (Or.inl a), if_pos rfl, if_pos a]
    · by_cases b : f 4 ≤ 57
      · rw [if_neg (dig_y (p := 4) (i := 4) (by decide) a b), if_neg (dig_y (p := nI (5 - 1)) (i := 4) (by decide) a b), if_neg a, if_pos b]
      · rw [dig_n (p := 4) (i := 4) (by decide) (Or.inr b), if_pos rfl, if_neg a, if_neg b]
  · rw [if_neg (show ¬ nI (6 - 4) < 1 by decide), if_neg (show ¬ 2 < nI (6 - 4) by decide), if_neg (show ¬ nI (6 - 4) = 1 by decide), show 6 - 4 = 2 from rfl, nin_2]
    show _ = if f 4 < 48 then (-6 : Int32) else if f 4 ≤ 57 then (if f 5 < 48 then -6 else if f 5 ≤ 57 then 10 * (f 4 - 48) + f 5 - 48 else -6) else -6
    by_cases a : f 4 < 48
    · rw [dig_n (p := 4) (i := 4) (by decide) (Or.inl a), if_pos rfl, if_pos a]
    · by_cases b : f 4 ≤ 57
      · rw [if_neg (dig_y (p := 4) (i := 4) (by decide) a b), if_neg a, if_pos b]
        by_cases c : f 5 < 48
        · rw [dig_n (p := nI (6 - 1)) (i := 5) (by decide) (Or.inl c), if_pos rfl, if_pos c]
        · by_cases d : f 5 ≤ 57
          · rw [if_neg (dig_y (p := nI (6 - 1)) (i := 5) (by decide) c d), if_neg c, if_pos d]
          · rw [dig_n (p := nI (6 - 1)) (i := 5) (by decide) (Or.inr d), if_pos rfl, if_neg c, if_neg d]
      · rw [dig_n (p := 4) (i := 4) (by decide) (Or.inr b), if_pos rfl, if_neg a, if_neg b]
  · rw [if_neg (show ¬ nI (mw - 4) < 1 from nI_nlt (b := 1) (by omega) (by omega)), if_pos (show (2 : Int32) < nI (mw - 4) from nI_lt (a := 2) (by omega) (by omega)), nin_0 (Or.inr (by omega))]
theorem nf5 {z f : Nat → Int32} {mw : Nat} (e : z 1 = nI mw) (h : 5 ≤ mw) (h16 : mw ≤ 16) : f_X7_numberFrom5 (z, f) = f_X6_numberIn (mw - 5) (fun t => f (4 + 1 + t)) := by
  have hm : ((z, f) : Ky).1 1 - 5 = nI (mw - 5) := by show z 1 - 5 = _; rw [e]; exact nI_sub h
  have hm1 : ((z, f) : Ky).1 1 - 1 = nI (mw - 1) := by show z 1 - 1 = _; rw [e]; exact nI_sub (b := 1) (by omega)
  unfold f_X7_numberFrom5
  rw [hm, hm1]
  rcases (show mw = 5 ∨ mw = 6 ∨ mw = 7 ∨ 8 ≤ mw by omega) with rfl | rfl | rfl | q
  · rw [if_pos (show nI (5 - 5) < 1 by decide), nin_0 (Or.inl (by decide))]
  · rw [if_neg (show ¬ nI (6 - 5) < 1 by decide), if_neg (show ¬ 2 < nI (6 - 5) by decide), if_pos (show nI (6 - 5) = 1 by decide), show 6 - 5 = 1 from rfl, nin_1]
    show _ = if f 5 < 48 then (-6 : Int32) else if f 5 ≤ 57 then f 5 - 48 else -6
    by_cases a : f 5 < 48
    · rw [dig_n (p := 5) (i := 5) (by decide) (Or.inl a), if_pos rfl, if_pos a]
    · by_cases b : f 5 ≤ 57
      · rw [if_neg (dig_y (p := 5) (i := 5) (by decide) a b), if_neg (dig_y (p := nI (6 - 1)) (i := 5) (by decide) a b), if_neg a, if_pos b]
      · rw [dig_n (p := 5) (i := 5) (by decide) (Or.inr b), if_pos rfl, if_neg a, if_neg b]
  · rw [if_neg (show ¬ nI (7 - 5) < 1 by decide), if_neg (show ¬ 2 < nI (7 - 5) by decide), if_neg (show ¬ nI (7 - 5) = 1 by decide), show 7 - 5 = 2 from rfl, nin_2]
    show _ = if f 5 < 48 then (-6 : Int32) else if f 5 ≤ 57 then (if f 6 < 48 then -6 else if f 6 ≤ 57 then 10 * (f 5 - 48) + f 6 - 48 else -6) else -6
    by_cases a : f 5 < 48
    · rw [dig_n (p := 5) (i := 5) (by decide) (Or.inl a), if_pos rfl, if_pos a]
    · by_cases b : f 5 ≤ 57
      · rw [if_neg (dig_y (p := 5) (i := 5) (by decide) a b), if_neg a, if_pos b]
        by_cases c : f 6 < 48
        · rw [dig_n (p := nI (7 - 1)) (i := 6) (by decide) (Or.inl c), if_pos rfl, if_pos c]
        · by_cases d : f 6 ≤ 57
          · rw [if_neg (dig_y (p := nI (7 - 1)) (i := 6) (by decide) c d), if_neg c, if_pos d]
          · rw [dig_n (p := nI (7 - 1)) (i := 6) (by decide) (Or.inr d), if_pos rfl, if_neg c, if_neg d]
      · rw [dig_n (p := 5) (i := 5) (by decide) (Or.inr b), if_pos rfl, if_neg a, if_neg b]
  · rw [if_neg (show ¬ nI (mw - 5) < 1 from nI_nlt (b := 1) (by omega) (by omega)), if_pos (show (2 : Int32) < nI (mw - 5) from nI_lt (a := 2) (by omega) (by omega)), nin_0 (Or.inr (by omega))]
theorem nin_b {lm : Nat} {f : Nat → Int32} (h : lm ≤ 16) : f_X6_numberIn lm f = -6 ∨ btw (f_X6_numberIn lm f) 0 99 := by
  have c48 : (48 : Int32).toInt = 48 := by decide
  have c57 : (57 : Int32).toInt = 57 := by decide
  have c10 : (10 : Int32).toInt = 10 := by decide
  have d : ∀ x : Int32, ¬ x < 48 → x ≤ 57 → (x - 48).toInt = x.toInt - 48 ∧ 48 ≤ x.toInt ∧ x.toInt ≤ 57 := by
    intro x a b
    rw [fa_lt, c48] at a
    rw [fa_le, c57] at b
    exact ⟨by rw [fb_subI (by rw [c48]; omega) (by rw [c48]; omega), c48], by omega, b⟩
  rcases (show lm = 1 ∨ lm = 2 ∨ (lm = 0 ∨ (3 ≤ lm ∧ lm ≤ 16)) by omega) with rfl | rfl | q
  · rw [nin_1]
    by_cases a : f 0 < 48
    · exact Or.inl (if_pos a)
    · rw [if_neg a]
      by_cases b : f 0 ≤ 57
      · rw [if_pos b]
        obtain ⟨e1, e2, e3⟩ := d _ a b
        exact Or.inr ⟨by rw [e1]; omega, by rw [e1]; omega⟩
      · exact Or.inl (if_neg b)
  · rw [nin_2]
    by_cases a : f 0 < 48
    · exact Or.inl (if_pos a)
    · rw [if_neg a]
      by_cases b : f 0 ≤ 57
      · rw [if_pos b]
        by_cases a1 : f 1 < 48
        · exact Or.inl (if_pos a1)
        · rw [if_neg a1]
          by_cases b1 : f 1 ≤ 57
          · rw [if_pos b1]
            obtain ⟨e1, e2, e3⟩ := d _ a b
            obtain ⟨g1, g2, g3⟩ := d _ a1 b1
            have m1 : (10 * (f 0 - 48)).toInt = 10 * ((f 0).toInt - 48) := by rw [fb_mulI (by rw [c10, e1]; omega) (by rw [c10, e1]; omega), c10, e1]
            have m2 : (10 * (f 0 - 48) + f 1).toInt = 10 * ((f 0).toInt - 48) + (f 1).toInt := by rw [fb_addI (by rw [m1]; omega) (by rw [m1]; omega), m1]
            have m3 : (10 * (f 0 - 48) + f 1 - 48).toInt = 10 * ((f 0).toInt - 48) + (f 1).toInt - 48 := by rw [fb_subI (by rw [m2, c48]; omega) (by rw [m2, c48]; omega), m2, c48]
            exact Or.inr ⟨by rw [m3]; omega, by rw [m3]; omega⟩
          · exact Or.inl (if_neg b1)
      · exact Or.inl (if_neg b)
  · exact Or.inl (nin_0 q)
