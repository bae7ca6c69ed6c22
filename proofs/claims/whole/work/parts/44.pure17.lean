/-! set aside and taken back; the what-if calls -/
theorem sa_l2 {v : Fn} : ∀ (n j : Nat) (a : Fn), 52 < j + n → j ≤ 52 → ∀ i, f_X7_setsAside_l2 v n a j i = if j ≤ i ∧ i < 52 then v i else a i
  | 0, j, a, h, hj, i => absurd h (by omega)
  | n + 1, j, a, h, hj, i => by
    rw [f_X7_setsAside_l2]
    split
    · next h1 =>
      have h2 := nI_yge (a := 52) h1 (by decide) (by omega)
      rw [if_neg (by omega)]
    · next h1 =>
      have h2 := nI_nge (a := 52) h1 (by omega)
      rw [sa_l2 n (j + 1) _ (by omega) (by omega) i]
      by_cases hi : i = j
      · subst hi
        rw [if_neg (by omega), if_pos (by omega), pk_us]
      · rw [pk_un hi]
        by_cases h3 : j + 1 ≤ i ∧ i < 52
        · rw [if_pos h3, if_pos (by omega)]
        · rw [if_neg h3, if_neg (by omega)]
theorem tb_l2 {a : Fn} : ∀ (n j : Nat) (v : Fn), 52 < j + n → j ≤ 52 → ∀ i, f_X7_takesBack_l2 a n v j i = if j ≤ i ∧ i < 52 then a i else v i
  | 0, j, v, h, hj, i => absurd h (by omega)
  | n + 1, j, v, h, hj, i => by
    rw [f_X7_takesBack_l2]
    split
    · next h1 =>
      have h2 := nI_yge (a := 52) h1 (by decide) (by omega)
      rw [if_neg (by omega)]
    · next h1 =>
      have h2 := nI_nge (a := 52) h1 (by omega)
      rw [tb_l2 n (j + 1) _ (by omega) (by omega) i]
      by_cases hi : i = j
      · subst hi
        rw [if_neg (by omega), if_pos (by omega), pk_us]
      · rw [pk_un hi]
        by_cases h3 : j + 1 ≤ i ∧ i < 52
        · rw [if_pos h3, if_pos (by omega)]
        · rw [if_neg h3, if_neg (by omega)]
theorem back_at {v w a : Fn} {i : Nat} (hi : i < 52) : f_X7_takesBack w (f_X7_setsAside v a) i = v i := by
  unfold f_X7_takesBack f_X7_setsAside
  rw [tb_l2 53 0 w (by decide) (by decide) i, if_pos (by omega), sa_l2 53 0 a (by decide) (by decide) i, if_pos (by omega)]
theorem Rel.like {g : Ss} {v w : Fn} (h : Rel g v) (e : ∀ i, i < 52 → w i = v i) : Rel g w := by
  obtain ⟨h1, h2, h3, h4, h5⟩ := h
  refine ⟨fun i hi => (h1 i hi).trans (e i (by omega)).symm, fun h6 => ?_, ?_, fun i hi hlt => ?_, fun i hi => (h5 i hi).trans (e _ (by omega)).symm⟩
  · rw [e 6 (by decide)] at h6
    rw [e 7 (by decide), e 8 (by decide), e 9 (by decide), e 10 (by decide)]
    exact h2 h6
  · rw [e 11 (by decide)]
    exact h3
  · rw [e 11 (by decide)] at hlt
    exact (h4 i hi hlt).trans (e _ (by omega)).symm
theorem NI.like {k : Cf} {v w : Fn} {j : Nat} (h : NI k v j) (e : ∀ i, i < 52 → w i = v i) : NI k w j := by
  obtain ⟨h1, h2⟩ := h
  refine ⟨?_, (e 0 (by decide)).trans h2⟩
  unfold NOK at h1 ⊢
  rw [e 1 (by decide), e 3 (by decide), e 4 (by decide), e 5 (by decide), e 6 (by decide), e 7 (by decide), e 8 (by decide), e 9 (by decide), e 10 (by decide), e 11 (by decide), e 12 (by decide), e 13 (by decide), e 14 (by decide), e 15 (by decide)]
  exact h1
theorem p_of {p : Int32} (h : ¬ f_X7_within p 0 3 = 0) : btw p 0 3 := by
  obtain ⟨h1, h2⟩ := within_y h
  rw [i32_0] at h1
  rw [show (3 : Int32).toInt = 3 by decide] at h2
  exact ⟨h1, h2⟩
theorem sim18 {k : Cf} {h : Ss} {v a : Fn} {p : Int32} (hk : KOK k) : (f_X6_simulatedStallTime k h p).1 = (f_X7_simulatedStallTime k v a p).1 ∧ ∀ i, i < 52 → (f_X7_simulatedStallTime k v a p).2.1 i = v i := by
  unfold f_X6_simulatedStallTime f_X7_simulatedStallTime f_X7_simulated18 f_X6_simulationError
  rw [isw]
  by_cases x : f_X7_within p 0 3 = 0
  · rw [if_pos x, if_pos x, if_neg (show ¬ (-2 : Int32) = 0 by decide)]
    exact ⟨rfl, fun i _ => rfl⟩
  · rw [if_neg x, if_neg x]
    by_cases z : k.1 2 = 0
    · rw [if_pos z, if_pos z, if_neg (show ¬ (-4 : Int32) = 0 by decide)]
      exact ⟨rfl, fun i _ => rfl⟩
    · rw [if_neg z, if_neg z, if_pos rfl]
      have e := (whole_rel (h := h) (v := v) hk (l1_of hk z) (p_of x)).1 18 (Or.inr (by decide))
      generalize f_X2_playWhole k h p (k.1 10) = q at e ⊢
      generalize f_X7_simulates k v p = w at e ⊢
      exact ⟨e, fun i hi => back_at hi⟩
theorem sim20 {k : Cf} {h : Ss} {v a : Fn} {p : Int32} (hk : KOK k) : (f_X6_simulatedBitrateSum k h p).1 = (f_X7_simulatedBitrateSum k v a p).1 ∧ ∀ i, i < 52 → (f_X7_simulatedBitrateSum k v a p).2.1 i = v i := by
  unfold f_X6_simulatedBitrateSum f_X7_simulatedBitrateSum f_X7_simulated20 f_X6_simulationError
  rw [isw]
  by_cases x : f_X7_within p 0 3 = 0
  · rw [if_pos x, if_pos x, if_neg (show ¬ (-2 : Int32) = 0 by decide)]
    exact ⟨rfl, fun i _ => rfl⟩
  · rw [if_neg x, if_neg x]
    by_cases z : k.1 2 = 0
    · rw [if_pos z, if_pos z, if_neg (show ¬ (-4 : Int32) = 0 by decide)]
      exact ⟨rfl, fun i _ => rfl⟩
    · rw [if_neg z, if_neg z, if_pos rfl]
      have e := (whole_rel (h := h) (v := v) hk (l1_of hk z) (p_of x)).1 20 (Or.inr (by decide))
      generalize f_X2_playWhole k h p (k.1 10) = q at e ⊢
      generalize f_X7_simulates k v p = w at e ⊢
      exact ⟨e, fun i hi => back_at hi⟩
theorem smooth_eq {k : Cf} {h : Ss} {v a : Fn} (hk : KOK k) : (f_X6_bestSmoothLevel k h).1 = (f_X7_bestSmoothLevel k v a).1 ∧ (f_X7_bestSmoothLevel k v a).2.1 = k ∧ ∀ i, i < 52 → (f_X7_bestSmoothLevel k v a).2.2.1 i = v i := by
  unfold f_X6_bestSmoothLevel f_X7_bestSmoothLevel
  by_cases z : k.1 2 = 0
  · rw [if_pos z, if_pos z]
    exact ⟨rfl, rfl, fun i _ => rfl⟩
  · rw [if_neg z, if_neg z]
    have hl := l1_of hk z
    obtain ⟨L, eL, -, h5, -⟩ := nat_of hk.2.2.1 (Int.le_refl 0)
    obtain ⟨b1, b2, w, b3⟩ := best_up (v := v) (a := a) hk hl eL (by omega) 6 0 (k.1 10) v (Nat.zero_le L) (by omega)
    have e : k.1 2 - 1 = nI L + (-1) := by rw [eL, Int32.sub_eq_add_neg]
    have d := best_dn hk hl 6 L h (by omega) (by omega)
    rw [e, d]
    exact ⟨b1.symm, b2, fun i hi => (congrFun b3 i).trans (back_at hi)⟩
