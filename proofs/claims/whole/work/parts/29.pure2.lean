/-! ===== the class against the reference: one configuration, two sessions ===== -/
theorem nI_gt {a b : Nat} (h : b < a) (ha : a < 2 ^ 31) : ¬ nI a ≤ nI b := fun z => absurd ((nI_leI ha (by omega)).mp z) (by omega)
theorem rt_min {c : Nat} (h : c ≤ 12) : (if (if (12 : Int32) < (12 : Int32) then (12 : Int32) else (12 : Int32)) < nI c then (if (12 : Int32) < (12 : Int32) then (12 : Int32) else (12 : Int32)) else nI c) = nI c := by
  have e : (if (12 : Int32) < (12 : Int32) then (12 : Int32) else (12 : Int32)) = 12 := by decide
  rw [e]
  exact if_neg (show ¬ nI 12 < nI c from nI_nlt h (by omega))
theorem rt_end {k : Cf} {t : Int32} {c : Nat} (hc : k.1 3 = nI c) (h : c ≤ 12) (n : Nat) (r : Int32) : f_X0_rateAt_l28 k t n r c = r := by
  cases n with
  | zero => rfl
  | succ n => rw [f_X0_rateAt_l28, hc, rt_min h, if_pos (nI_le (Nat.le_refl c) (by omega))]
theorem rt_step {k : Cf} {t : Int32} {c : Nat} (hc : k.1 3 = nI c) (h : c ≤ 12) : ∀ (n j : Nat) (r : Int32), j < c → c < j + n + 1 → f_X0_rateAt_l28 k t (n + 1) r j = f_X7_rateAt_l13 k t (n + 1) j
  | n, j, r, hj, hn => by
    rw [f_X0_rateAt_l28, f_X7_rateAt_l13, hc, rt_min h, if_neg (nI_gt hj (by omega))]
    have e : nI c - 1 = nI (c - 1) := pk_sub (a := c) (b := 1) (by omega)
    rw [e]
    rcases Nat.lt_or_ge (j + 1) c with h1 | h1
    · rw [if_neg (nI_gt (show j < c - 1 by omega) (by omega))]
      by_cases h2 : k.2.2.2.1 j ≤ t
      · rw [if_pos h2, if_neg (fun z => by rw [fa_lt] at z; rw [fa_le] at h2; omega)]
        cases n with
        | zero => omega
        | succ n => exact rt_step hc h n (j + 1) _ h1 (by omega)
      · rw [if_neg h2, if_pos (by rw [fa_lt]; rw [fa_le] at h2; omega)]
    · obtain rfl : c = j + 1 := by omega
      rw [if_pos (nI_le (show j + 1 - 1 ≤ j by omega) (by omega)), rt_end hc h]
      exact ite_self _
theorem rate_eq {k : Cf} (hk : KOK k) (t : Int32) : f_X0_rateAt k t = f_X7_rateAt k t := by
  obtain ⟨c, hc, -, h2, -⟩ := nat_of hk.2.2.2.1 (Int.le_refl 0)
  unfold f_X0_rateAt f_X7_rateAt
  rcases Nat.eq_zero_or_pos c with h0 | h0
  · subst h0
    rw [if_pos (show k.1 3 = 0 from hc), f_X0_rateAt_l28, hc, rt_min (by decide), if_pos (nI_le (Nat.le_refl 0) (by decide))]
  · rw [if_neg (show ¬ k.1 3 = 0 from fun z => absurd ((nI_eq (b := 0) (by omega) (by decide)).mp (hc.symm.trans z)) (by omega))]
    exact rt_step hc (by omega) 12 0 1000 h0 (by omega)
