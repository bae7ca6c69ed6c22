theorem hi_eq {k : Cf} : (if (k.1 2 - (1 : Int32)) < k.1 10 then (k.1 2 - (1 : Int32)) else k.1 10) = f_X7_highest k := by
  unfold f_X7_highest
  by_cases a : (k.1 2 - (1 : Int32)) < k.1 10
  · rw [if_pos a, if_pos (by rw [fa_lt] at a; rw [fa_le]; omega)]
  · rw [if_neg a]
    by_cases b : (k.1 2 - (1 : Int32)) ≤ k.1 10
    · rw [if_pos b]
      exact Int32.toInt_inj.mp (by rw [fa_lt] at a; rw [fa_le] at b; omega)
    · rw [if_neg b]
theorem bufL_eq {k : Cf} {g : Ss} {v : Fn} (hk : KOK k) (h1 : btw (v 1) 0 60000) (e1 : g.1 1 = v 1) : f_X2_levelByBuffer k g (f_X7_highest k) = f_X7_levelByBuffer k v := by
  obtain ⟨r1, r2⟩ := hk.2.2.2.2.2.2.2.1
  obtain ⟨c1, c2⟩ := hk.2.2.2.2.2.2.2.2.1
  obtain ⟨x1, x2⟩ := h1
  have es : (v 1 - k.1 7).toInt = (v 1).toInt - (k.1 7).toInt := fb_subI (by omega) (by omega)
  have ea : (k.1 7 + k.1 8).toInt = (k.1 7).toInt + (k.1 8).toInt := fb_addI (by omega) (by omega)
  unfold f_X2_levelByBuffer f_X7_levelByBuffer
  rw [e1]
  by_cases a : k.1 7 < v 1
  · rw [if_pos a, if_pos (show (0 : Int32) < v 1 - k.1 7 by rw [fa_lt, i32_0, es]; rw [fa_lt] at a; omega)]
    by_cases b : v 1 < k.1 7 + k.1 8
    · rw [if_pos b, if_pos (by rw [fa_lt, es]; rw [fa_lt, ea] at b; omega)]
    · rw [if_neg b, if_neg (by rw [fa_lt, es]; rw [fa_lt, ea] at b; omega)]
  · rw [if_neg a, if_neg (show ¬ (0 : Int32) < v 1 - k.1 7 by rw [fa_lt, i32_0, es]; rw [fa_lt] at a; omega)]
theorem es_in {v : Fn} {c : Nat} (hc : 0 < c) (h3 : c ≤ 3) (h : ∀ i, i < c → btw (v (12 + i)) 0 9000) : ∀ (n j : Nat) (z : Int32), j ≤ c → c < j + n → btw z 0 (9000 * (j : Int)) → btw (f_X7_estimate_l40 v (nI c) n z j) 0 9000
  | 0, j, z, hj, hn, _ => absurd hn (by omega)
  | n + 1, j, z, hj, hn, hz => by
    rw [f_X7_estimate_l40]
    rcases Nat.lt_or_ge j c with h1 | h1
    · rw [if_neg (nI_gt h1 (by omega))]
      obtain ⟨a1, a2⟩ := h j h1
      obtain ⟨z1, z2⟩ := hz
      refine es_in hc h3 h n (j + 1) _ h1 (by omega) ⟨?_, ?_⟩
      · rw [fb_addI (by omega) (by omega)]; omega
      · rw [fb_addI (by omega) (by omega)]; omega
    · rw [if_pos (nI_le h1 (by omega))]
      obtain rfl : j = c := by omega
      obtain ⟨a, ea, e2, e3, -⟩ := nat_of hz (Int.le_refl 0)
      have e4 := idiv_n (x := z) (y := nI j) e2 (nI_toInt (by omega)) hc
      have h5 : a / j ≤ 9000 := Nat.div_le_of_le_mul (by rw [Nat.mul_comm]; omega)
      generalize a / j = q at e4 h5
      exact ⟨by rw [e4]; omega, by rw [e4]; omega⟩
theorem est_in {v : Fn} {T : Int} (h11 : btw (v 11) 0 T) (h12 : btw (v 12) 0 9000) (h13 : btw (v 13) 0 9000) (h14 : btw (v 14) 0 9000) : f_X7_estimate v = -6 ∨ btw (f_X7_estimate v) 0 9000 := by
  have h : ∀ i, i < 3 → btw (v (12 + i)) 0 9000 := by
    intro i hi
    rcases (show i = 0 ∨ i = 1 ∨ i = 2 by omega) with rfl | rfl | rfl
    · exact h12
    · exact h13
    · exact h14
  unfold f_X7_estimate
  by_cases h0 : v 11 = 0
  · exact Or.inl (if_pos h0)
  · right
    rw [if_neg h0]
    have hp : 0 < (v 11).toInt := by
      rcases Int.lt_or_le 0 (v 11).toInt with z | z
      · exact z
      · exact absurd (Int32.toInt_inj.mp (by rw [i32_0]; have := h11.1; omega)) h0
    unfold f_X7_estimate_c35
    have hz : btw (0 : Int32) 0 (9000 * ((0 : Nat) : Int)) := ⟨by decide, by decide⟩
    by_cases h3 : (3 : Int32) ≤ v 11
    · rw [if_pos h3]
      exact es_in (c := 3) (by decide) (by decide) h 4 0 0 (by decide) (by decide) hz
    · rw [if_neg h3]
      rw [fa_le, show (3 : Int32).toInt = 3 by decide] at h3
      obtain ⟨c, ec, e2, -, -⟩ := nat_of h11 (Int.le_refl 0)
      rw [ec]
      exact es_in (c := c) (by omega) (by omega) (fun i hi => h i (by omega)) 4 0 0 (Nat.zero_le c) (by omega) hz
