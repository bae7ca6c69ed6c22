/-! one millisecond of both -/
theorem recv_rel {k : Cf} {g : Ss} {v : Fn} (r : Int32) (hR : Rel g v) (h6 : v 6 = 1) : Rel (upd (upd (upd (upd (upd (g.1) 6 ((f_X1_receive g r).1 6)) 7 ((f_X1_receive g r).1 7)) 8 ((f_X1_receive g r).1 8)) 9 ((f_X1_receive g r).1 9)) 10 ((f_X1_receive g r).1 10), g.2.1, g.2.2) (upd (upd v 9 (v 9 + r)) 10 (v 10 + 1)) := by
  obtain ⟨s7, s8, s9, s10⟩ := hR.2.1 h6
  have q6 : g.1 6 = v 6 := hR.1 6 (Or.inl (by decide))
  have h := hR.dl (v 6) (v 7) (v 8) (v 9 + r) (v 10 + 1)
  have e : upd (upd (upd v 6 (v 6)) 7 (v 7)) 8 (v 8) = v := by rw [fa_upd_same (f := v) (i := 6) rfl, fa_upd_same (f := v) (i := 7) rfl, fa_upd_same (f := v) (i := 8) rfl]
  rw [e] at h
  rw [← s9, ← s10]
  rw [← s7, ← s8, ← s9, ← s10, ← q6] at h
  exact h
theorem c80_rel {k : Cf} {g : Ss} {v : Fn} (x : Int32) (hR : Rel g v) (h1 : btw (v 1) 0 60000) (h3 : btw (v 3) 0 3) (h31 : v 3 = 1 → 1 ≤ (v 1).toInt) : (f_X2_passMillisecond_c80 k g x).1 = x ∧ Rel (f_X2_passMillisecond_c80 k g x).2 (f_X7_passes_c9 k v) := by
  have ht : ∀ {g1 : Ss} {v1 : Fn}, Rel g1 v1 → Rel (f_X2_passMillisecond_c91 g1 x).2 (f_X7_passes_c49 v1) := by
    intro g1 v1 h
    exact h.set 0 (Or.inl (by decide)) (by rw [h.1 0 (Or.inl (by decide))])
  unfold f_X2_passMillisecond_c80 f_X7_passes_c9
  rw [hR.1 4 (Or.inl (by decide))]
  by_cases a : v 4 = 0
  · rw [if_pos a, if_pos a]
    refine ⟨rfl, ?_⟩
    have hp := play_rel (k := k) hR h1 h3 h31
    by_cases b : v 3 = (1 : Int32)
    · rw [if_pos b] at hp ⊢
      exact ht hp
    · rw [if_neg b] at hp ⊢
      by_cases c : v 3 = (3 : Int32)
      · rw [if_pos c] at hp ⊢
        exact ht hp
      · rw [if_neg c] at hp ⊢
        exact ht hp
  · rw [if_neg a, if_neg a]
    exact ⟨rfl, ht hR⟩
theorem pl_21 {k : Cf} {v : Fn} : f_X7_plays k v 21 = v 21 := by
  unfold f_X7_plays
  split
  · split <;> rfl
  · rfl
theorem wa49_21 {k : Cf} {v : Fn} : f_X7_waits_c49 k v 21 = v 21 := by
  unfold f_X7_waits_c49
  split
  · rfl
  · split
    · rfl
    · split <;> rfl
theorem wa_21 {k : Cf} {v : Fn} : f_X7_waits k v 21 = v 21 := by
  unfold f_X7_waits f_X7_waits_c22 f_X7_waits_c47
  split
  · split <;> exact wa49_21
  · split <;> exact wa49_21
theorem c9_21 {k : Cf} {v : Fn} : f_X7_passes_c9 k v 21 = v 21 := by
  unfold f_X7_passes_c9
  split
  · split
    · exact pl_21
    · split
      · rfl
      · exact wa_21
  · rfl
theorem co_21 {k : Cf} {v : Fn} : f_X7_completes k v 21 = v 21 + 1 := by
  unfold f_X7_completes
  split
  · exact cc_21
  · split
    · exact cc_21
    · exact cc_21
theorem sd_21 {k : Cf} {v : Fn} (p : Int32) : f_X7_startsDownload k v p 21 = v 21 := by
  unfold f_X7_startsDownload
  split
  · split
    · rfl
    · split <;> rfl
  · rfl
theorem c34_rel {k : Cf} {g : Ss} {v : Fn} {T : Int} (hk : KOK k) (hT0 : 0 ≤ T) (hT : T < 1000000000) (hR : Rel g v) (hN : NOK T k v) : Rel (f_X2_passMillisecond_c34 k g).2 (f_X7_passes_c9 k (f_X7_receives k v)) ∧ (((f_X2_passMillisecond_c34 k g).1 = 0 ∧ f_X7_passes_c9 k (f_X7_receives k v) 21 = v 21) ∨ ((f_X2_passMillisecond_c34 k g).1 = 1 ∧ f_X7_passes_c9 k (f_X7_receives k v) 21 = v 21 + 1)) := by
  have hN2 := rc_ok hT0 hT hk hN
  obtain ⟨n1, n3, n31, n4, n5, n6, n7, n11, n12, n13, n14, n15⟩ := hN
  obtain ⟨m1, m3, m31, -⟩ := hN2
  rw [c9_21]
  unfold f_X2_passMillisecond_c34
  rw [hR.1 6 (Or.inl (by decide))]
  by_cases a : v 6 = 0
  · rw [if_pos a]
    have e : f_X7_receives k v = v := by
      unfold f_X7_receives
      rw [if_neg (by rw [a]; decide)]
    rw [e]
    unfold f_X2_passMillisecond_c72
    rw [if_pos rfl]
    have h := c80_rel (k := k) 0 hR n1 n3 n31
    exact ⟨h.2, Or.inl ⟨h.1, rfl⟩⟩
  · rw [if_neg a]
    have h6 := eq_1 n6 a
    obtain ⟨a5, a7, a72, a1, a8, a9, a90, a98, a10⟩ := n7 h6
    have q0 : g.1 0 = v 0 := hR.1 0 (Or.inl (by decide))
    obtain ⟨s7, s8, s9, s10⟩ := hR.2.1 h6
    rw [q0, rate_eq hk]
    have hr := recv_rel (k := k) (f_X7_rateAt k (v 0)) hR h6
    have hi : f_X1_isComplete (upd (upd (upd (upd (upd (g.1) 6 ((f_X1_receive g (f_X7_rateAt k (v 0))).1 6)) 7 ((f_X1_receive g (f_X7_rateAt k (v 0))).1 7)) 8 ((f_X1_receive g (f_X7_rateAt k (v 0))).1 8)) 9 ((f_X1_receive g (f_X7_rateAt k (v 0))).1 9)) 10 ((f_X1_receive g (f_X7_rateAt k (v 0))).1 10), g.2.1, g.2.2) = if v 9 + f_X7_rateAt k (v 0) < v 8 then 0 else 1 := by
      show (if g.1 9 + f_X7_rateAt k (v 0) < g.1 8 then (0 : Int32) else 1) = _
      rw [s9, s8]
    rw [hi]
    have er : f_X7_receives k v = (if v 9 + f_X7_rateAt k (v 0) < v 8 then upd (upd v 9 (v 9 + f_X7_rateAt k (v 0))) 10 (v 10 + 1) else f_X7_completes k (upd (upd v 9 (v 9 + f_X7_rateAt k (v 0))) 10 (v 10 + 1))) := by
      unfold f_X7_receives
      rw [if_pos h6]
    unfold f_X2_passMillisecond_c72
    by_cases b : v 9 + f_X7_rateAt k (v 0) < v 8
    · rw [if_pos b] at er ⊢
      rw [er] at m1 m3 m31 ⊢
      rw [if_pos rfl]
      have h := c80_rel (k := k) 0 hr m1 m3 m31
      exact ⟨h.2, Or.inl ⟨h.1, rfl⟩⟩
    · rw [if_neg b] at er ⊢
      rw [er] at m1 m3 m31 ⊢
      rw [if_neg (show ¬ (1 : Int32) = 0 by decide)]
      have e10 : (v 10 + 1 : Int32).toInt = (v 10).toInt + 1 := by
        rw [fb_addI (by rw [i32_1]; have := a10.1; omega) (by rw [i32_1]; have := a10.2; omega), i32_1]
      have hc := comp_rel (T := T) hk hT hr h6 n5.1 a5 a7 a72 n11 (show 1 ≤ (v 10 + 1 : Int32).toInt by have := a10.1; omega)
      have h := c80_rel (k := k) 1 hc m1 m3 m31
      exact ⟨h.2, Or.inr ⟨h.1, co_21⟩⟩
theorem pass_rel {k : Cf} {g : Ss} {v : Fn} {j : Nat} {p : Int32} (hk : KOK k) (hl : 1 ≤ (k.1 2).toInt) (hj : j < 1000000000) (hR : Rel g v) (hN : NI k v j) (hp : btw p 0 3) : Rel (f_X2_passMillisecond k g p (k.1 10)).2 (f_X7_passes k v p) ∧ (((f_X2_passMillisecond k g p (k.1 10)).1 = 0 ∧ f_X7_passes k v p 21 = v 21) ∨ ((f_X2_passMillisecond k g p (k.1 10)).1 = 1 ∧ f_X7_passes k v p 21 = v 21 + 1)) := by
  have hs := start_rel hk hl hR hN.1 hp
  have hN1 := sd_ok (Int.natCast_nonneg j) hk hl hN.1 p
  have h := c34_rel hk (Int.natCast_nonneg j) (by omega) hs hN1
  rw [sd_21] at h
  unfold f_X2_passMillisecond f_X7_passes
  by_cases a : f_X2_canStartDownload k g = 0
  · rw [if_pos a] at h ⊢
    exact h
  · rw [if_neg a] at h ⊢
    exact h
