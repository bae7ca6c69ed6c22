def Rel (g : Ss) (v : Fn) : Prop :=
  (∀ i : Nat, i ≤ 6 ∨ (15 ≤ i ∧ i ≤ 20) → g.1 i = v i) ∧ (v 6 = 1 → g.1 7 = v 7 ∧ g.1 8 = v 8 ∧ g.1 9 = v 9 ∧ g.1 10 = v 10) ∧ g.1 11 = (if 3 ≤ v 11 then 3 else v 11) ∧ (∀ i : Nat, i < 3 → (i : Int) < (v 11).toInt → g.2.1 i = v (12 + i)) ∧ (∀ i : Nat, i < 30 → g.2.2 i = v (22 + i))
theorem es_step {g : Ss} {v : Fn} {c : Nat} (hc : c ≤ 3) (h1 : g.1 11 = nI c) (h2 : ∀ i, i < c → g.2.1 i = v (12 + i)) : ∀ (n j : Nat) (z : Int32), j ≤ c → c < j + n → f_X4_estimate_l14 g n z j = f_X7_estimate_l40 v (nI c) n z j
  | 0, j, z, hj, hn => absurd hn (by omega)
  | n + 1, j, z, hj, hn => by
    rw [f_X4_estimate_l14, f_X7_estimate_l40, h1]
    rcases Nat.lt_or_ge j c with h | h
    · rw [if_neg (nI_gt h (by omega)), if_neg (nI_gt h (by omega)), if_neg (show ¬ (3 : Int32) ≤ nI j from nI_gt (a := 3) (by omega) (by decide)), h2 j h]
      exact es_step hc h1 h2 n (j + 1) _ h (by omega)
    · rw [if_pos (nI_le h (by omega)), if_pos (nI_le h (by omega))]
theorem est_eq {g : Ss} {v : Fn} {T : Int} (hR : Rel g v) (h11 : btw (v 11) 0 T) : f_X4_estimate g = f_X7_estimate v := by
  obtain ⟨-, -, r1, r2, -⟩ := hR
  unfold f_X4_estimate f_X7_estimate
  by_cases h0 : v 11 = 0
  · rw [if_pos h0]
    rw [h0] at r1
    have e : g.1 11 = 0 := r1.trans (by decide)
    rw [e]
    exact if_neg (by decide)
  · rw [if_neg h0]
    have hp : 0 < (v 11).toInt := by
      rcases Int.lt_or_le 0 (v 11).toInt with z | z
      · exact z
      · exact absurd (Int32.toInt_inj.mp (by rw [i32_0]; have := h11.1; omega)) h0
    by_cases h3 : (3 : Int32) ≤ v 11
    · rw [if_pos h3] at r1
      rw [if_pos h3, r1, if_pos (by decide)]
      unfold f_X7_estimate_c35
      rw [fa_le, show (3 : Int32).toInt = 3 by decide] at h3
      exact es_step (c := 3) (by decide) r1 (fun i hi => r2 i hi (by omega)) 4 0 0 (by decide) (by decide)
    · rw [if_neg h3] at r1
      rw [if_neg h3, r1, if_pos (by rw [fa_lt, i32_0]; exact hp)]
      unfold f_X7_estimate_c35
      rw [fa_le, show (3 : Int32).toInt = 3 by decide] at h3
      obtain ⟨c, ec, e2, -, -⟩ := nat_of h11 (Int.le_refl 0)
      rw [ec]
      exact es_step (c := c) (by omega) (r1.trans ec) (fun i hi => r2 i (by omega) (by omega)) 4 0 0 (Nat.zero_le c) (by omega)
