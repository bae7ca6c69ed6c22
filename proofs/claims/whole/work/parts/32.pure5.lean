theorem rb_eq {x y : Int32} (hx : btw x 0 9000) (hy : btw y 1 200) : (x.toInt64 * y.toInt64) / (100 : Int64) = ((x * y) / (100 : Int32)).toInt64 := by
  obtain ⟨a, rfl, e1, a1, -⟩ := nat_of hx (Int.le_refl 0)
  obtain ⟨b, rfl, e2, b1, -⟩ := nat_of hy (by decide)
  have hab : a * b ≤ 9000 * 200 := Nat.mul_le_mul (by omega) (by omega)
  have hm : (nI a * nI b).toInt = (a * b : Nat) := by
    rw [fb_mulI (by rw [e1, e2, ← Int.natCast_mul]; omega) (by rw [e1, e2, ← Int.natCast_mul]; omega), e1, e2, Int.natCast_mul]
  have e3 : (nI a * nI b) / (100 : Int32) = nI (a * b / 100) := by
    apply Int32.toInt_inj.mp
    rw [idiv_n hm (show (100 : Int32).toInt = (100 : Nat) by decide) (by decide), nI_toInt (by omega)]
  rw [e3, nI_l (by omega), nI_l (by omega), nI_l (by omega), lN_mul, show (100 : Int64) = lN 100 from rfl, pk_lDiv (by omega) (by decide) (by decide)]
def top (k : Cf) (B : Int32) : Nat → Int32
  | 0 => 0
  | h + 1 => if B < k.2.1 (h + 1) then top k B h else nI (h + 1)
theorem top_dn {k : Cf} {B : Int32} : ∀ (n h : Nat), h < n → h ≤ 4 → f_X5_highestLevelWithin_l12 k B n (nI h) = top k B h
  | 0, h, hn, _ => absurd hn (Nat.not_lt_zero h)
  | n + 1, 0, hn, _ => by
    rw [f_X5_highestLevelWithin_l12, if_pos (show nI 0 ≤ 0 by decide)]
    rfl
  | n + 1, h + 1, hn, h4 => by
    have e : nI (h + 1) + (-1) = nI h := by
      apply Int32.toInt_inj.mp
      rw [fb_addI (by rw [nI_toInt (by omega), show (-1 : Int32).toInt = -1 by decide]; omega) (by rw [nI_toInt (by omega), show (-1 : Int32).toInt = -1 by decide]; omega), nI_toInt (by omega), nI_toInt (by omega), show (-1 : Int32).toInt = -1 by decide]
      omega
    rw [f_X5_highestLevelWithin_l12, if_neg (show ¬ nI (h + 1) ≤ 0 from nI_nle (by omega) (by omega)), nI_clamp (by omega), e, top_dn n h (by omega) (by omega), top]
theorem top_up {k : Cf} {v : Fn} {B : Int32} {H : Nat} (hH : f_X7_highest k = nI H) (h4 : H ≤ 4) (hne : ¬ f_X7_estimate v = (-6 : Int32)) (hB : ((f_X7_estimate v).toInt64 * (k.1 6).toInt64) / (100 : Int64) = B.toInt64) : ∀ (n i : Nat), i ≤ H → H < i + n → f_X7_levelByRate_l9 k v n (top k B i) (i + 1) = top k B H
  | 0, i, hi, hn => absurd hn (by omega)
  | n + 1, i, hi, hn => by
    rw [f_X7_levelByRate_l9, hH]
    rcases Nat.lt_or_ge i H with h | h
    · rw [if_neg (nI_nlt (show i + 1 ≤ H by omega) (by omega)), if_neg hne, hB]
      by_cases c : B < k.2.1 (i + 1)
      · rw [if_pos ((lg_cmp_gt _ _).mpr ((fa_wide_lt _ _).mpr c))]
        have e : top k B (i + 1) = top k B i := by rw [top, if_pos c]
        rw [← e]
        exact top_up hH h4 hne hB n (i + 1) h (by omega)
      · rw [if_neg (fun z => c ((fa_wide_lt _ _).mp ((lg_cmp_gt _ _).mp z)))]
        have e : top k B (i + 1) = nI (i + 1) := by rw [top, if_neg c]
        rw [← e]
        exact top_up hH h4 hne hB n (i + 1) h (by omega)
    · obtain rfl : i = H := by omega
      rw [if_pos (nI_lt (Nat.lt_succ_self i) (by omega))]
theorem rateL_eq {k : Cf} {g : Ss} {v : Fn} {T : Int} (hk : KOK k) (hl : 1 ≤ (k.1 2).toInt) (hR : Rel g v) (h11 : btw (v 11) 0 T) (h12 : btw (v 12) 0 9000) (h13 : btw (v 13) 0 9000) (h14 : btw (v 14) 0 9000) : f_X2_levelByRate k g (f_X7_highest k) = f_X7_levelByRate k v := by
  unfold f_X2_levelByRate f_X7_levelByRate
  rw [est_eq hR h11]
  obtain ⟨H, eH, e2, e3, -⟩ := nat_of (x := f_X7_highest k) ⟨(hi_0 hk hl).1, hi_4 hk⟩ (Int.le_refl 0)
  by_cases h6 : f_X7_estimate v = (-6 : Int32)
  · rw [if_pos h6, f_X7_levelByRate_l9, if_pos h6, ite_self]
  · rw [if_neg h6]
    have hB := rb_eq (y := k.1 6) ((est_in h11 h12 h13 h14).resolve_left h6) hk.2.2.2.2.2.2.1
    have hu := top_up eH (by omega) h6 hB 5 0 (Nat.zero_le H) (by omega)
    rw [show f_X7_levelByRate_l9 k v 5 (0 : Int32) 1 = top k (f_X7_estimate v * k.1 6 / (100 : Int32)) H from hu]
    unfold f_X5_highestLevelWithin
    rw [eH, if_neg (show ¬ (4 : Int32) < nI H from nI_nlt (a := 4) (by omega) (by decide))]
    exact top_dn 5 H (by omega) (by omega)
