/-! a completed segment -/
theorem c89_eq {g : Ss} {x : Int32} (h0 : 0 ≤ (g.1 5).toInt) (h1 : (g.1 5).toInt < 30) : f_X2_completeSegment_c89 g x = (upd (upd g.1 15 x) 5 (g.1 5 + 1), g.2.1, upd g.2.2 (g.1 5).toNatClampNeg x) := by
  unfold f_X2_completeSegment_c89
  rw [if_neg (by rw [fa_lt, i32_0]; omega), if_neg (by rw [fa_le, show (30 : Int32).toInt = 30 by decide]; omega)]
  rfl
theorem comp_fin {k : Cf} {g : Ss} {v : Fn} {x : Int32} (h0 : 0 ≤ (v 5).toInt) (h1 : (v 5).toInt < 30)
    (e0 : g.1 0 = v 0) (e1 : g.1 1 = v 1 + k.1 1) (e2 : g.1 2 = v 2) (e3 : g.1 3 = v 3) (e4 : g.1 4 = v 4) (e5 : g.1 5 = v 5) (e6 : g.1 6 = 0) (ex : x = v 7) (e16 : g.1 16 = v 16) (e17 : g.1 17 = v 17) (e18 : g.1 18 = v 18) (e19 : g.1 19 = v 19) (e20 : g.1 20 = v 20 + k.2.1 (v 7).toNatClampNeg)
    (e11 : g.1 11 = (if 3 ≤ v 11 then 3 else v 11)) (e12 : ∀ i : Nat, i < 3 → (i : Int) < (v 11).toInt → g.2.1 i = v (12 + i)) (e22 : ∀ i : Nat, i < 30 → g.2.2 i = v (22 + i)) : Rel (f_X2_completeSegment_c89 g x) (f_X7_completes_c105 k v) := by
  rw [c89_eq (by rw [e5]; exact h0) (by rw [e5]; exact h1)]
  refine ⟨?_, ?_, ?_, ?_, ?_⟩
  · intro i hi
    rcases (show i = 0 ∨ i = 1 ∨ i = 2 ∨ i = 3 ∨ i = 4 ∨ i = 5 ∨ i = 6 ∨ i = 15 ∨ i = 16 ∨ i = 17 ∨ i = 18 ∨ i = 19 ∨ i = 20 by omega) with rfl | rfl | rfl | rfl | rfl | rfl | rfl | rfl | rfl | rfl | rfl | rfl | rfl
    · rw [cc_o (by decide) (by decide)]; exact e0
    · rw [cc_1]; exact e1
    · rw [cc_o (by decide) (by decide)]; exact e2
    · rw [cc_o (by decide) (by decide)]; exact e3
    · rw [cc_o (by decide) (by decide)]; exact e4
    · rw [cc_5, ← e5]; rfl
    · rw [cc_6]; exact e6
    · rw [cc_15]; exact ex
    · rw [cc_o (by decide) (by decide)]; exact e16
    · rw [cc_o (by decide) (by decide)]; exact e17
    · rw [cc_o (by decide) (by decide)]; exact e18
    · rw [cc_o (by decide) (by decide)]; exact e19
    · rw [cc_20]; exact e20
  · intro h
    rw [cc_6] at h
    exact absurd h (by decide)
  · rw [cc_o (by decide) (by decide)]
    exact e11
  · intro i hi hlt
    rw [cc_o (by decide) (by decide)] at hlt
    rw [cc_o (by omega) (by omega)]
    exact e12 i hi hlt
  · intro i hi
    rw [cc_hi]
    show upd g.2.2 (g.1 5).toNatClampNeg x i = _
    unfold upd
    rw [e5, ex, e22 i hi]
theorem ad_11 (g : Ss) (x : Int32) : (f_X4_add g x).1 11 = if 3 ≤ g.1 11 then g.1 11 else g.1 11 + 1 := by
  unfold f_X4_add
  by_cases a : (3 : Int32) ≤ g.1 11
  · rw [if_pos a, if_pos a]
  · rw [if_neg a, if_neg a]
    rfl
theorem ad_21 (g : Ss) (x : Int32) : (f_X4_add g x).2.1 = upd (upd (upd g.2.1 2 (g.2.1 1)) 1 (g.2.1 0)) 0 x := by
  unfold f_X4_add
  by_cases a : (3 : Int32) ≤ g.1 11
  · rw [if_pos a]
  · rw [if_neg a]
theorem cnt_up {x : Int32} {T : Int} (h : btw x 0 T) (hT : T < 1000000000) : (if 3 ≤ (if 3 ≤ x then (3 : Int32) else x) then (if 3 ≤ x then (3 : Int32) else x) else (if 3 ≤ x then (3 : Int32) else x) + 1) = if 3 ≤ x + 1 then 3 else x + 1 := by
  obtain ⟨n, rfl, -, h2, -⟩ := nat_of h (Int.le_refl 0)
  rw [show (1 : Int32) = nI 1 from rfl, nI_add]
  rcases Nat.lt_or_ge n 3 with h3 | h3
  · rcases (show n = 0 ∨ n = 1 ∨ n = 2 by omega) with rfl | rfl | rfl
    · decide
    · decide
    · decide
  · have a : (3 : Int32) ≤ nI n := nI_le (a := 3) h3 (by omega)
    have b : (3 : Int32) ≤ nI (n + 1) := nI_le (a := 3) (by omega) (by omega)
    rw [if_pos a, if_pos b, if_pos (by decide)]
theorem comp_rel {k : Cf} {g : Ss} {v : Fn} {T : Int} (hk : KOK k) (hT : T < 1000000000) (hR : Rel g v) (h6 : v 6 = 1) (h0 : 0 ≤ (v 5).toInt) (h1 : (v 5).toInt < (k.1 0).toInt) (a7 : 0 ≤ (v 7).toInt) (a72 : (v 7).toInt < (k.1 2).toInt) (n11 : btw (v 11) 0 T) (h10 : 1 ≤ (v 10).toInt) : Rel (f_X2_completeSegment k g) (f_X7_completes k v) := by
  obtain ⟨r1, r2, r3, r4, r5⟩ := hR
  obtain ⟨s7, s8, s9, s10⟩ := r2 h6
  have h30 : (v 5).toInt < 30 := by have := hk.1.2; omega
  have q0 : g.1 0 = v 0 := r1 0 (Or.inl (by decide))
  have q1 : g.1 1 = v 1 := r1 1 (Or.inl (by decide))
  have q2 : g.1 2 = v 2 := r1 2 (Or.inl (by decide))
  have q3 : g.1 3 = v 3 := r1 3 (Or.inl (by decide))
  have q4 : g.1 4 = v 4 := r1 4 (Or.inl (by decide))
  have q5 : g.1 5 = v 5 := r1 5 (Or.inl (by decide))
  have q15 : g.1 15 = v 15 := r1 15 (Or.inr (by decide))
  have q16 : g.1 16 = v 16 := r1 16 (Or.inr (by decide))
  have q17 : g.1 17 = v 17 := r1 17 (Or.inr (by decide))
  have q18 : g.1 18 = v 18 := r1 18 (Or.inr (by decide))
  have q19 : g.1 19 = v 19 := r1 19 (Or.inr (by decide))
  have q20 : g.1 20 + f_X5_bitrateOf k (g.1 7) = v 20 + k.2.1 (v 7).toNatClampNeg := by rw [s7, bit_eq hk a7 a72, r1 20 (Or.inr (by decide))]
  have q1' : g.1 1 + k.1 1 = v 1 + k.1 1 := by rw [q1]
  have hthr : f_X1_throughput (upd (upd (upd (upd (upd (g.1) 6 ((f_X1_stop g).1 6)) 7 ((f_X1_stop g).1 7)) 8 ((f_X1_stop g).1 8)) 9 ((f_X1_stop g).1 9)) 10 ((f_X1_stop g).1 10), g.2.1, g.2.2) = v 8 / v 10 := by
    show (if g.1 10 ≤ 0 then (0 : Int32) else g.1 8 / g.1 10) = _
    rw [s10, s8, if_neg (by rw [fa_le, i32_0]; omega)]
  have hc : (f_X4_add (upd (upd (upd (upd (upd (g.1) 6 ((f_X1_stop g).1 6)) 7 ((f_X1_stop g).1 7)) 8 ((f_X1_stop g).1 8)) 9 ((f_X1_stop g).1 9)) 10 ((f_X1_stop g).1 10), g.2.1, g.2.2) (v 8 / v 10)).1 11 = if 3 ≤ v 11 + 1 then 3 else v 11 + 1 := by
    rw [ad_11]
    show (if 3 ≤ g.1 11 then g.1 11 else g.1 11 + 1) = _
    rw [r3]
    exact cnt_up n11 hT
  have e11 : (v 11 + 1 : Int32).toInt = (v 11).toInt + 1 := by
    rw [fb_addI (by rw [i32_1]; have := n11.1; omega) (by rw [i32_1]; have := n11.2; omega), i32_1]
  have hl : ∀ z : Int32, ∀ i : Nat, i < 3 → (i : Int) < (v 11 + 1).toInt → (f_X4_add (upd (upd (upd (upd (upd (g.1) 6 ((f_X1_stop g).1 6)) 7 ((f_X1_stop g).1 7)) 8 ((f_X1_stop g).1 8)) 9 ((f_X1_stop g).1 9)) 10 ((f_X1_stop g).1 10), g.2.1, g.2.2) (v 8 / v 10)).2.1 i = (upd (upd (upd (upd (upd v 14 (v 13)) 13 (v 12)) 12 (v 8 / v 10)) 11 (v 11 + 1)) 16 z) (12 + i) := by
    intro z i hi hlt
    rw [ad_21]
    rw [e11] at hlt
    rcases (show i = 0 ∨ i = 1 ∨ i = 2 by omega) with rfl | rfl | rfl
    · rfl
    · exact r4 0 (by decide) (by omega)
    · exact r4 1 (by decide) (by omega)
  have hv : ∀ z : Int32, ∀ i : Nat, i < 30 → g.2.2 i = (upd (upd (upd (upd (upd v 14 (v 13)) 13 (v 12)) 12 (v 8 / v 10)) 11 (v 11 + 1)) 16 z) (22 + i) := by
    intro z i hi
    rw [r5 i hi, pk_un (f := upd (upd (upd (upd v 14 (v 13)) 13 (v 12)) 12 (v 8 / v 10)) 11 (v 11 + 1)) (by omega), pk_un (f := upd (upd (upd v 14 (v 13)) 13 (v 12)) 12 (v 8 / v 10)) (by omega), pk_un (f := upd (upd v 14 (v 13)) 13 (v 12)) (by omega), pk_un (f := upd v 14 (v 13)) (by omega), pk_un (f := v) (by omega)]
  unfold f_X2_completeSegment f_X7_completes
  rw [hthr, q15]
  by_cases a : v 15 = (-6 : Int32)
  · rw [if_pos a, if_pos a]
    exact comp_fin h0 h30 q0 q1' q2 q3 q4 q5 rfl s7 (q16.trans (Int32.add_zero _).symm) q17 q18 q19 q20 hc (hl _) (hv _)
  · rw [if_neg a, if_neg a, s7]
    by_cases b : v 15 = v 7
    · rw [if_pos b, if_pos b]
      exact comp_fin h0 h30 q0 q1' q2 q3 q4 q5 rfl rfl (q16.trans (Int32.add_zero _).symm) q17 q18 q19 (by rw [s7] at q20; exact q20) hc (hl _) (hv _)
    · rw [if_neg b, if_neg b]
      exact comp_fin h0 h30 q0 q1' q2 q3 q4 q5 rfl rfl (show g.1 16 + 1 = v 16 + 1 by rw [q16]) q17 q18 q19 (by rw [s7] at q20; exact q20) hc (hl _) (hv _)
