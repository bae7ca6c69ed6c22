/-! what holds between two calls of the law -/
def INV (k : Cf) (g : Ss) (v : Fn) (x : Tx) (y : Ky) (N : Nat) : Prop := KOK k ∧ btw (k.1 9) 0 3 ∧ Rel g v ∧ (∃ t : Nat, t ≤ 60001 * N ∧ NI k v t) ∧ TR x y
section CALLS
variable {k : Cf} {g h : Ss} {v a : Fn} {x : Tx} {y : Ky} {N : Nat} {p q r : Int32}
theorem INV.up (H : INV k g v x y N) : INV k g v x y (N + 1) := by
  obtain ⟨h1, h2, h3, ⟨t, h4, h5⟩, h6⟩ := H
  exact ⟨h1, h2, h3, ⟨t, by omega, h5⟩, h6⟩
theorem INV.like (H : INV k g v x y N) {w : Fn} (e : ∀ i, i < 52 → w i = v i) : INV k g w x y (N + 1) := by
  obtain ⟨h1, h2, h3, ⟨t, h4, h5⟩, h6⟩ := H
  exact ⟨h1, h2, h3.like e, ⟨t, by omega, h5.like e⟩, h6⟩
theorem i_setVideo (H : INV k g v x y N) : (f_X6_setVideo k g p q).1 = (f_X7_setVideo k v p q).1 ∧ (f_X6_setVideo k g p q).2.1 = (f_X7_setVideo k v p q).2.1 ∧ INV (f_X7_setVideo k v p q).2.1 (f_X6_setVideo k g p q).2.2 (f_X7_setVideo k v p q).2.2 x y (N + 1) := by
  by_cases a1 : f_X7_within p 1 30 = 0
  · have e6 : f_X6_setVideo k g p q = (-1, k, g) := by unfold f_X6_setVideo; rw [isw, if_pos a1]
    have e7 : f_X7_setVideo k v p q = (-1, k, v) := by unfold f_X7_setVideo; rw [if_pos a1]
    rw [e6, e7]
    exact ⟨rfl, rfl, H.up⟩
  · by_cases a2 : f_X7_within q 100 5000 = 0
    · have e6 : f_X6_setVideo k g p q = (-1, k, g) := by unfold f_X6_setVideo; rw [isw, isw, if_neg a1, if_pos a2]
      have e7 : f_X7_setVideo k v p q = (-1, k, v) := by unfold f_X7_setVideo; rw [if_neg a1, if_pos a2]
      rw [e6, e7]
      exact ⟨rfl, rfl, H.up⟩
    · rw [sv_6 a1 a2, sv_7 a1 a2]
      dsimp only
      obtain ⟨h1, h2, h3, -, h6⟩ := H
      have hk := kv_ok h1 a1 a2
      exact ⟨rfl, rfl, hk, h2, begin_rel (k := kv k p q) (g := g) (v := v), ⟨0, Nat.zero_le _, bg_ok hk v⟩, h6⟩
theorem i_addLevel (H : INV k g v x y N) : (f_X6_addLevel k g p).1 = (f_X7_addLevel k v p).1 ∧ (f_X6_addLevel k g p).2.1 = (f_X7_addLevel k v p).2.1 ∧ INV (f_X7_addLevel k v p).2.1 (f_X6_addLevel k g p).2.2 (f_X7_addLevel k v p).2.2 x y (N + 1) := by
  have hk := H.1
  rw [al_7 hk]
  by_cases a1 : f_X7_within p 1 9000 = 0
  · have e6 : f_X6_addLevel k g p = (-1, k, g) := by unfold f_X6_addLevel; rw [isw, if_pos a1]
    rw [e6, if_pos a1]
    exact ⟨rfl, rfl, H.up⟩
  · rw [if_neg a1]
    by_cases a2 : f_X5_highestBitrate k < p
    · rw [if_pos a2]
      by_cases a3 : k.1 2 = 5
      · have e6 : f_X6_addLevel k g p = (-3, k, g) := by unfold f_X6_addLevel; rw [isw, if_neg a1, if_pos a2, if_neg (by rw [a3]; decide)]
        rw [e6, if_pos a3]
        exact ⟨rfl, rfl, H.up⟩
      · rw [if_neg a3, al_6 hk a1 a2 a3]
        dsimp only
        obtain ⟨h1, h2, h3, -, h6⟩ := H
        have hk2 := kl_ok h1 a1 a3
        exact ⟨rfl, rfl, hk2, h2, begin_rel (k := kl k p) (g := g) (v := v), ⟨0, Nat.zero_le _, bg_ok hk2 v⟩, h6⟩
    · have e6 : f_X6_addLevel k g p = (-1, k, g) := by unfold f_X6_addLevel; rw [isw, if_neg a1, if_neg a2]
      rw [e6, if_neg a2]
      exact ⟨rfl, rfl, H.up⟩
theorem NI.conf {k' : Cf} {t : Nat} (h : NI k v t) (e0 : k'.1 0 = k.1 0) (e1 : k'.1 1 = k.1 1) (e2 : k'.1 2 = k.1 2) : NI k' v t := by
  obtain ⟨h1, h2⟩ := h
  refine ⟨?_, h2⟩
  unfold NOK at h1 ⊢
  rw [e0, e1, e2]
  exact h1
theorem i_setVariation (H : INV k g v x y N) : f_X6_setVariation k p q = f_X7_setVariation k p q ∧ INV (f_X7_setVariation k p q).2 g v x y (N + 1) := by
  refine ⟨var_6 H.1, ?_⟩
  have hk := var_ok (a := p) (b := q) H.1
  obtain ⟨h1, h2, h3, ⟨t, h4, h5⟩, h6⟩ := H
  have e : (f_X7_setVariation k p q).2.1 = k.1 := by
    unfold f_X7_setVariation
    split
    · rfl
    · split <;> rfl
  exact ⟨hk, by rw [e]; exact h2, h3, ⟨t, by omega, h5.conf (by rw [e]) (by rw [e]) (by rw [e])⟩, h6⟩
theorem i_addPeriod (H : INV k g v x y N) : f_X6_addPeriod k p q = f_X7_addPeriod k p q ∧ INV (f_X7_addPeriod k p q).2 g v x y (N + 1) := by
  refine ⟨per_6 H.1, ?_⟩
  have hk := per_ok (a := p) (b := q) H.1
  obtain ⟨h1, h2, h3, ⟨t, h4, h5⟩, h6⟩ := H
  have e : ∀ i, ¬ i = 3 → (f_X7_addPeriod k p q).2.1 i = k.1 i := by
    intro i hi
    unfold f_X7_addPeriod
    split
    · rfl
    · split
      · rfl
      · split
        · rfl
        · split
          · exact pk_un hi
          · exact pk_un hi
  exact ⟨hk, by rw [e 9 (by decide)]; exact h2, h3, ⟨t, by omega, h5.conf (e 0 (by decide)) (e 1 (by decide)) (e 2 (by decide))⟩, h6⟩
theorem i_setBuffer (H : INV k g v x y N) : f_X6_setBuffer k p q = f_X7_setBuffer k p q ∧ INV (f_X7_setBuffer k p q).2 g v x y (N + 1) := by
  refine ⟨buf_6, ?_⟩
  have hk := buf_ok (a := p) (b := q) H.1
  obtain ⟨h1, h2, h3, ⟨t, h4, h5⟩, h6⟩ := H
  have e : ∀ i, ¬ i = 4 → ¬ i = 5 → (f_X7_setBuffer k p q).2.1 i = k.1 i := by
    intro i h4 h5
    have z : (upd (upd k.1 4 p) 5 q) i = k.1 i := by rw [pk_un h5, pk_un h4]
    unfold f_X7_setBuffer
    split
    · rfl
    · split
      · rfl
      · split
        · split
          · exact z
          · exact z
        · exact z
  exact ⟨hk, by rw [e 9 (by decide) (by decide)]; exact h2, h3, ⟨t, by omega, h5.conf (e 0 (by decide) (by decide)) (e 1 (by decide) (by decide)) (e 2 (by decide) (by decide))⟩, h6⟩
theorem i_setPolicyNumbers (H : INV k g v x y N) : f_X6_setPolicyNumbers k p q r = f_X7_setPolicyNumbers k p q r ∧ INV (f_X7_setPolicyNumbers k p q r).2 g v x y (N + 1) := by
  refine ⟨pol_6, ?_⟩
  have hk := pol_ok (a := p) (b := q) (c := r) H.1
  obtain ⟨h1, h2, h3, ⟨t, h4, h5⟩, h6⟩ := H
  have e : ∀ i, ¬ i = 6 → ¬ i = 7 → ¬ i = 8 → (f_X7_setPolicyNumbers k p q r).2.1 i = k.1 i := by
    intro i h6 h7 h8
    have z : (upd (upd (upd k.1 6 p) 7 q) 8 r) i = k.1 i := by rw [pk_un h8, pk_un h7, pk_un h6]
    unfold f_X7_setPolicyNumbers
    split
    · rfl
    · split
      · rfl
      · split
        · rfl
        · split
          · split
            · split
              · exact z
              · exact z
            · exact z
          · exact z
  exact ⟨hk, by rw [e 9 (by decide) (by decide) (by decide)]; exact h2, h3, ⟨t, by omega, h5.conf (e 0 (by decide) (by decide) (by decide)) (e 1 (by decide) (by decide) (by decide)) (e 2 (by decide) (by decide) (by decide))⟩, h6⟩
theorem i_typeKey (H : INV k g v x y N) : (f_X6_typeKey x p).1 = (f_X7_typeKey y p).1 ∧ INV k g v (f_X6_typeKey x p).2 (f_X7_typeKey y p).2 (N + 1) := by
  obtain ⟨h1, h2, h3, ⟨t, h4, h5⟩, h6⟩ := H
  obtain ⟨z1, z2⟩ := key_rel (p := p) h6
  exact ⟨z1, h1, h2, h3, ⟨t, by omega, h5⟩, z2⟩
theorem i_runCommand (H : INV k g v x y N) {mw : Nat} (ex : x.1 0 = nI mw) (h16 : mw ≤ 16) (zn : Int32) : (f_X6_runCommand k g mw x.2).1 = (f_X7_runCommand k v y).1 ∧ (f_X6_runCommand k g mw x.2).2.1 = (f_X7_runCommand k v y).2.1 ∧ INV (f_X7_runCommand k v y).2.1 (f_X6_runCommand k g mw x.2).2.2 (f_X7_runCommand k v y).2.2.1 (upd (upd x.1 0 0) 1 zn, x.2) (f_X7_runCommand k v y).2.2.2 (N + 1) := by
  obtain ⟨h1, h2, h3, ⟨t, h4, h5⟩, ⟨mw', hm, ex', ey, hs, hb⟩⟩ := H
  obtain rfl : mw' = mw := (nI_eq (by omega) (by omega)).mp (ex'.symm.trans ex)
  obtain ⟨r1, r2, r3, r4, r5, r6, r7⟩ := run_rel h1 h2 h3 h5 ey h16
  rw [rc_c h16 hs]
  refine ⟨r1, r2, r3, r4, r5, ⟨t, by omega, r6⟩, ?_⟩
  rw [r7]
  exact ⟨0, by omega, rfl, rfl, fun t ht => absurd ht (Nat.not_lt_zero t), hb⟩
theorem i_restart (H : INV k g v x y N) : (f_X6_restart k g).1 = (f_X7_restart v).1 ∧ INV k (f_X6_restart k g).2 (f_X7_restart v).2 x y (N + 1) := by
  obtain ⟨h1, h2, h3, -, h6⟩ := H
  unfold f_X6_restart f_X7_restart
  dsimp only
  exact ⟨h3.1 0 (Or.inl (by decide)), h1, h2, begin_rel (k := k) (g := g) (v := v), ⟨0, Nat.zero_le _, bg_ok h1 v⟩, h6⟩
theorem i_advance (H : INV k g v x y N) (hN : N < 512) : (f_X6_advance k g p).1 = (f_X7_advance k v p).1 ∧ INV k (f_X6_advance k g p).2 (f_X7_advance k v p).2 x y (N + 1) := by
  obtain ⟨h1, h2, h3, ⟨t, h4, h5⟩, h6⟩ := H
  obtain ⟨r1, r2, t', r3, r4⟩ := advance_rel (p := p) h1 h2 (by omega) h3 h5
  exact ⟨r1, h1, h2, r2, ⟨t', by omega, r4⟩, h6⟩
theorem i_time (H : INV k g v x y N) : f_X6_time g = f_X7_time v := H.2.2.1.1 0 (Or.inl (by decide))
theorem i_position (H : INV k g v x y N) : f_X6_position g = f_X7_position v := H.2.2.1.1 2 (Or.inl (by decide))
theorem i_bufferLevel (H : INV k g v x y N) : f_X6_bufferLevel g = f_X7_bufferLevel v := H.2.2.1.1 1 (Or.inl (by decide))
theorem i_state (H : INV k g v x y N) : f_X6_state g = f_X7_state v := H.2.2.1.1 3 (Or.inl (by decide))
theorem i_isPaused (H : INV k g v x y N) : f_X6_isPaused g = f_X7_isPaused v := by
  obtain ⟨h1, h2, h3, ⟨t, h4, ⟨n1, n3, n31, n4, -⟩, -⟩, h6⟩ := H
  unfold f_X6_isPaused f_X7_isPaused f_X6_oneIf
  rw [h3.1 4 (Or.inl (by decide))]
  by_cases c : v 4 = 0
  · rw [if_pos c, c]
  · rw [if_neg c, eq_1 n4 c]
theorem i_downloadingSegment (H : INV k g v x y N) : f_X6_downloadingSegment g = f_X7_downloadingSegment v := by
  obtain ⟨h1, h2, h3, ⟨t, h4, ⟨n1, n3, n31, n4, n5, n6, -⟩, -⟩, h6⟩ := H
  unfold f_X6_downloadingSegment f_X7_downloadingSegment
  rw [h3.1 6 (Or.inl (by decide)), h3.1 5 (Or.inl (by decide))]
  by_cases c : v 6 = 0
  · rw [if_pos c, if_neg (by rw [c]; decide)]
  · rw [if_neg c, if_pos (eq_1 n6 c)]
theorem i_segmentLevel (H : INV k g v x y N) : f_X6_segmentLevel k g p = f_X7_segmentLevel k v p := seg_l H.1 H.2.2.1
theorem i_throughputEstimate (H : INV k g v x y N) : f_X6_throughputEstimate g = f_X7_throughputEstimate v := by
  obtain ⟨h1, h2, h3, ⟨t, h4, ⟨n1, n3, n31, n4, n5, n6, n7, n11, -⟩, -⟩, h6⟩ := H
  exact est_eq h3 n11
theorem i_switchCount (H : INV k g v x y N) : f_X6_switchCount g = f_X7_switchCount v := H.2.2.1.1 16 (Or.inr (by decide))
theorem i_stallCount (H : INV k g v x y N) : f_X6_stallCount g = f_X7_stallCount v := H.2.2.1.1 17 (Or.inr (by decide))
theorem i_stallTime (H : INV k g v x y N) : f_X6_stallTime g = f_X7_stallTime v := H.2.2.1.1 18 (Or.inr (by decide))
theorem i_startupTime (H : INV k g v x y N) : f_X6_startupTime g = f_X7_startupTime v := H.2.2.1.1 19 (Or.inr (by decide))
theorem i_bitrateSum (H : INV k g v x y N) : f_X6_bitrateSum g = f_X7_bitrateSum v := H.2.2.1.1 20 (Or.inr (by decide))
theorem i_segmentSize (H : INV k g v x y N) : f_X6_segmentSize k p q = f_X7_segmentSize k p q := seg_s H.1
theorem i_simulatedStallTime (H : INV k g v x y N) : (f_X6_simulatedStallTime k h p).1 = (f_X7_simulatedStallTime k v a p).1 ∧ INV k g (f_X7_simulatedStallTime k v a p).2.1 x y (N + 1) :=
  ⟨(sim18 H.1).1, H.like (sim18 (h := h) H.1).2⟩
theorem i_simulatedBitrateSum (H : INV k g v x y N) : (f_X6_simulatedBitrateSum k h p).1 = (f_X7_simulatedBitrateSum k v a p).1 ∧ INV k g (f_X7_simulatedBitrateSum k v a p).2.1 x y (N + 1) :=
  ⟨(sim20 H.1).1, H.like (sim20 (h := h) H.1).2⟩
theorem i_bestSmoothLevel (H : INV k g v x y N) : (f_X6_bestSmoothLevel k h).1 = (f_X7_bestSmoothLevel k v a).1 ∧ (f_X7_bestSmoothLevel k v a).2.1 = k ∧ INV k g (f_X7_bestSmoothLevel k v a).2.2.1 x y (N + 1) := by
  obtain ⟨e1, e2, e3⟩ := smooth_eq (h := h) (v := v) (a := a) H.1
  exact ⟨e1, e2, H.like e3⟩
end CALLS
/-- the start -/
theorem k67 : k66 = k77 := by
  have e1 : k66.1 = k77.1 := by
    funext i
    show (match i with | 0 => (f_X5_replace k00 10 2000).1 0 | 1 => (f_X5_replace k00 10 2000).1 1 | 2 => (f_X5_replace k00 10 2000).1 2 | 4 => 20000 | 5 => 2000 | 6 => 80 | 7 => 4000 | 8 => 8000 | 10 => 4 | _ => 0) = _
    rw [rp_eq]
    match i with
    | 0 => rfl
    | 1 => rfl
    | 2 => rfl
    | 3 => rfl
    | 4 => rfl
    | 5 => rfl
    | 6 => rfl
    | 7 => rfl
    | 8 => rfl
    | 9 => rfl
    | 10 => rfl
    | n + 11 => rfl
  have e2 : k66.2.1 = k77.2.1 := by
    show (f_X5_replace k00 10 2000).2.1 = _
    rw [rp_eq]
    rfl
  have e3 : k66.2.2.1 = k77.2.2.1 := by
    show (f_X5_replace k00 10 2000).2.2.1 = _
    rw [rp_eq]
    rfl
  exact Prod.ext e1 (Prod.ext e2 (Prod.ext e3 rfl))
theorem k77_ok : KOK k77 := by
  have z : ∀ b : Int, 0 ≤ b → btw (0 : Int32) 0 b := fun b h => bl0 h
  refine ⟨⟨by decide, by decide⟩, ⟨by decide, by decide⟩, ⟨by decide, by decide⟩, ⟨by decide, by decide⟩, ⟨by decide, by decide⟩, ⟨by decide, by decide⟩, ⟨by decide, by decide⟩, ⟨by decide, by decide⟩, ⟨by decide, by decide⟩, ⟨by decide, by decide⟩, fun i hi => ⟨z 9000 (by decide), fun hlt => ?_⟩, fun i hi => ?_, fun i hi => z 9000 (by decide)⟩
  · have hlt : (i : Int) < (0 : Int32).toInt := hlt
    rw [i32_0] at hlt
    omega
  · show btw (fl 30 i) 0 300
    unfold fl
    rw [if_pos hi]
    exact ⟨by decide, by decide⟩
theorem INV.start {g : Ss} {v : Fn} {x : Tx} (ex : x.1 0 = 0) (ex2 : ∀ t, x.2 t = 0) : INV k77 (f_X2_begin k77 g) (f_X7_begins v) x y00 0 :=
  ⟨k77_ok, ⟨by decide, by decide⟩, begin_rel, ⟨0, Nat.le_refl 0, bg_ok k77_ok v⟩, ⟨0, by decide, ex, rfl, fun t ht => absurd ht (Nat.not_lt_zero t), fun t _ => by rw [ex2 t]; exact bl0 (by decide)⟩⟩
