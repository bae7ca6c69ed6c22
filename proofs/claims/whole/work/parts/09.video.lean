def f_X6_isWithin (p0 : Int32) (p1 : Int32) (p2 : Int32) : Int32 := if p0 < p1 then (0 : Int32) else (if p2 < p0 then (0 : Int32) else (1 : Int32))
set_option maxRecDepth 100000 in
set_option maxHeartbeats 4000000 in
theorem c_X6_isWithin {l : Launch} {D : va_G} {cI cB : ClassId}  (p0 : Int32) (p1 : Int32) (p2 : Int32) : CI l X0 D cI cB yX6_isWithin cX6_isWithin 3 (some .boolean) 0 0 0 0 [.int p0, .int p1, .int p2] [] (fun (r : Int32) (_ : Unit) => r = (f_X6_isWithin p0 p1 p2)) (fun _ => []) := by
  refine CI.of (by decide) (Nat.le_of_ble_eq_true rfl) ?_
  intro p e s m below meth c A ls E hr hk hin hA hAA hX Y hl
  have E : EE p c cX6_isWithin 3 s _ m RX6 D cI cB := E
  have hl : lv_has ls 3 [(0, .int p0), (1, .int p1), (2, .int p2)] := hl
  refine lv_iload_n E.1.1 E.1.2.1 dX6_isWithin_0 rfl (lv_at hl 0 rfl) ?_
  refine lv_iload_n E.1.1 E.1.2.1 dX6_isWithin_1 rfl (lv_at hl 1 rfl) ?_
  refine lv_icmp_lt (tgt := 14) E.1.1 E.1.2.1 dX6_isWithin_2 (by decide) (fun c_2 => ?_) (fun c_2 => ?_)
  · skip
    refine lv_iconst (v := 0) E.1.1 E.1.2.1 dX6_isWithin_14 (by decide) ?_
    have e9 : (f_X6_isWithin p0 p1 p2) = (0 : Int32) := (if_pos c_2).trans (rfl)
    exact r_zret E Y hr hk (0 : Int32) rfl () (e9.symm) rfl ⟨Nat.le_of_ble_eq_true rfl, Nat.le_of_ble_eq_true rfl⟩ dX6_isWithin_15
  · skip
    refine lv_iload_n E.1.1 E.1.2.1 dX6_isWithin_5 rfl (lv_at hl 0 rfl) ?_
    refine lv_iload_n E.1.1 E.1.2.1 dX6_isWithin_6 rfl (lv_at hl 2 rfl) ?_
    refine lv_icmp_gt (tgt := 14) E.1.1 E.1.2.1 dX6_isWithin_7 (by decide) (fun c_7 => ?_) (fun c_7 => ?_)
    · skip
      refine lv_iconst (v := 0) E.1.1 E.1.2.1 dX6_isWithin_14 (by decide) ?_
      have e9 : (f_X6_isWithin p0 p1 p2) = (0 : Int32) := (if_neg c_2).trans ((if_pos c_7).trans (rfl))
      exact r_zret E Y hr hk (0 : Int32) rfl () (e9.symm) rfl ⟨Nat.le_of_ble_eq_true rfl, Nat.le_of_ble_eq_true rfl⟩ dX6_isWithin_15
    · skip
      refine lv_iconst (v := 1) E.1.1 E.1.2.1 dX6_isWithin_10 (by decide) ?_
      refine lv_goto (tgt := 15) E.1.1 E.1.2.1 dX6_isWithin_11 (by decide) ?_
      have e9 : (f_X6_isWithin p0 p1 p2) = (1 : Int32) := (if_neg c_2).trans ((if_neg c_7).trans (rfl))
      exact r_zret E Y hr hk (1 : Int32) rfl () (e9.symm) rfl ⟨Nat.le_of_ble_eq_true rfl, Nat.le_of_ble_eq_true rfl⟩ dX6_isWithin_15

def f_X6_oneIf (p0 : Int32) : Int32 := if p0 = 0 then (0 : Int32) else (1 : Int32)
set_option maxRecDepth 100000 in
set_option maxHeartbeats 4000000 in
theorem c_X6_oneIf {l : Launch} {D : va_G} {cI cB : ClassId}  (p0 : Int32) : CI l X0 D cI cB yX6_oneIf cX6_oneIf 1 (some .int) 0 0 0 0 [.int p0] [] (fun (r : Int32) (_ : Unit) => r = (f_X6_oneIf p0)) (fun _ => []) := by
  refine CI.of (by decide) (Nat.le_of_ble_eq_true rfl) ?_
  intro p e s m below meth c A ls E hr hk hin hA hAA hX Y hl
  have E : EE p c cX6_oneIf 1 s _ m RX6 D cI cB := E
  have hl : lv_has ls 1 [(0, .int p0)] := hl
  refine lv_iload_n E.1.1 E.1.2.1 dX6_oneIf_0 rfl (lv_at hl 0 rfl) ?_
  refine lv_if_eq (tgt := 8) E.1.1 E.1.2.1 dX6_oneIf_1 (by decide) (fun c_1 => ?_) (fun c_1 => ?_)
  · skip
    refine lv_iconst (v := 0) E.1.1 E.1.2.1 dX6_oneIf_8 (by decide) ?_
    have e9 : (f_X6_oneIf p0) = (0 : Int32) := (if_pos c_1).trans (rfl)
    exact r_iret E Y hr hk (0 : Int32) () (e9.symm) rfl ⟨Nat.le_of_ble_eq_true rfl, Nat.le_of_ble_eq_true rfl⟩ dX6_oneIf_9
  · skip
    refine lv_iconst (v := 1) E.1.1 E.1.2.1 dX6_oneIf_4 (by decide) ?_
    refine lv_goto (tgt := 9) E.1.1 E.1.2.1 dX6_oneIf_5 (by decide) ?_
    have e9 : (f_X6_oneIf p0) = (1 : Int32) := (if_neg c_1).trans (rfl)
    exact r_iret E Y hr hk (1 : Int32) () (e9.symm) rfl ⟨Nat.le_of_ble_eq_true rfl, Nat.le_of_ble_eq_true rfl⟩ dX6_oneIf_9

def f_X5_hasSegment (k : Cf) (p0 : Int32) : Int32 := if p0 < 0 then (0 : Int32) else (if (k.1 0) ≤ p0 then (0 : Int32) else (if (30 : Int32) ≤ p0 then (0 : Int32) else (1 : Int32)))
set_option maxRecDepth 100000 in
set_option maxHeartbeats 4000000 in
theorem c_X5_hasSegment {l : Launch} {D : va_G} {cI cB : ClassId} (qv qb qa : Nat) (k : Cf) (p0 : Int32) : CI l X0 D cI cB yX5_hasSegment cX5_hasSegment 2 (some .boolean) 0 0 0 0 [.ref qv, .int p0] (wV cI qv qb qa k) (fun (r : Int32) (_ : Unit) => r = (f_X5_hasSegment k p0)) (fun _ => (wV cI qv qb qa k)) := by
  refine CI.of (by decide) (Nat.le_of_ble_eq_true rfl) ?_
  intro p e s m below meth c A ls E hr hk hin hA hAA hX Y hl
  have E : EE p c cX5_hasSegment 2 s _ m RX5 D cI cB := E
  have hl : lv_has ls 2 [(0, .ref qv), (1, .int p0)] := hl
  refine lv_iload_n E.1.1 E.1.2.1 dX5_hasSegment_0 rfl (lv_at hl 1 rfl) ?_
  refine lv_if_lt (tgt := 25) E.1.1 E.1.2.1 dX5_hasSegment_1 (by decide) (fun c_1 => ?_) (fun c_1 => ?_)
  · skip
    refine lv_iconst (v := 0) E.1.1 E.1.2.1 dX5_hasSegment_25 (by decide) ?_
    have e9 : (f_X5_hasSegment k p0) = (0 : Int32) := (if_pos c_1).trans (rfl)
    exact r_zret E Y hr hk (0 : Int32) rfl () (e9.symm) rfl ⟨Nat.le_of_ble_eq_true rfl, Nat.le_of_ble_eq_true rfl⟩ dX5_hasSegment_26
  · skip
    refine lv_iload_n E.1.1 E.1.2.1 dX5_hasSegment_4 rfl (lv_at hl 1 rfl) ?_
    refine lv_aload_n E.1.1 E.1.2.1 dX5_hasSegment_5 rfl (lv_at hl 0 rfl) ?_
    refine gf_X5_22 E Y 0 rfl rfl dX5_hasSegment_6 ?_
    refine lv_icmp_ge (tgt := 25) E.1.1 E.1.2.1 dX5_hasSegment_9 (by decide) (fun c_9 => ?_) (fun c_9 => ?_)
    · skip
      refine lv_iconst (v := 0) E.1.1 E.1.2.1 dX5_hasSegment_25 (by decide) ?_
      have e9 : (f_X5_hasSegment k p0) = (0 : Int32) := (if_neg c_1).trans ((if_pos c_9).trans (rfl))
      exact r_zret E Y hr hk (0 : Int32) rfl () (e9.symm) rfl ⟨Nat.le_of_ble_eq_true rfl, Nat.le_of_ble_eq_true rfl⟩ dX5_hasSegment_26
    · skip
      refine lv_iload_n E.1.1 E.1.2.1 dX5_hasSegment_12 rfl (lv_at hl 1 rfl) ?_
      refine lv_aload_n E.1.1 E.1.2.1 dX5_hasSegment_13 rfl (lv_at hl 0 rfl) ?_
      refine gf_X5_15 E Y 0 rfl rfl dX5_hasSegment_14 ?_
      refine r_alenI (v := 30) E Y 2 rfl (by decide) dX5_hasSegment_17 ?_
      refine lv_icmp_ge (tgt := 25) E.1.1 E.1.2.1 dX5_hasSegment_18 (by decide) (fun c_18 => ?_) (fun c_18 => ?_)
      · skip
        refine lv_iconst (v := 0) E.1.1 E.1.2.1 dX5_hasSegment_25 (by decide) ?_
        have e9 : (f_X5_hasSegment k p0) = (0 : Int32) := (if_neg c_1).trans ((if_neg c_9).trans ((if_pos c_18).trans (rfl)))
        exact r_zret E Y hr hk (0 : Int32) rfl () (e9.symm) rfl ⟨Nat.le_of_ble_eq_true rfl, Nat.le_of_ble_eq_true rfl⟩ dX5_hasSegment_26
      · skip
        refine lv_iconst (v := 1) E.1.1 E.1.2.1 dX5_hasSegment_21 (by decide) ?_
        refine lv_goto (tgt := 26) E.1.1 E.1.2.1 dX5_hasSegment_22 (by decide) ?_
        have e9 : (f_X5_hasSegment k p0) = (1 : Int32) := (if_neg c_1).trans ((if_neg c_9).trans ((if_neg c_18).trans (rfl)))
        exact r_zret E Y hr hk (1 : Int32) rfl () (e9.symm) rfl ⟨Nat.le_of_ble_eq_true rfl, Nat.le_of_ble_eq_true rfl⟩ dX5_hasSegment_26

def f_X5_hasLevel (k : Cf) (p0 : Int32) : Int32 := if p0 < 0 then (0 : Int32) else (if (k.1 2) ≤ p0 then (0 : Int32) else (if (5 : Int32) ≤ p0 then (0 : Int32) else (1 : Int32)))
set_option maxRecDepth 100000 in
set_option maxHeartbeats 4000000 in
theorem c_X5_hasLevel {l : Launch} {D : va_G} {cI cB : ClassId} (qv qb qa : Nat) (k : Cf) (p0 : Int32) : CI l X0 D cI cB yX5_hasLevel cX5_hasLevel 2 (some .boolean) 0 0 0 0 [.ref qv, .int p0] (wV cI qv qb qa k) (fun (r : Int32) (_ : Unit) => r = (f_X5_hasLevel k p0)) (fun _ => (wV cI qv qb qa k)) := by
  refine CI.of (by decide) (Nat.le_of_ble_eq_true rfl) ?_
  intro p e s m below meth c A ls E hr hk hin hA hAA hX Y hl
  have E : EE p c cX5_hasLevel 2 s _ m RX5 D cI cB := E
  have hl : lv_has ls 2 [(0, .ref qv), (1, .int p0)] := hl
  refine lv_iload_n E.1.1 E.1.2.1 dX5_hasLevel_0 rfl (lv_at hl 1 rfl) ?_
  refine lv_if_lt (tgt := 25) E.1.1 E.1.2.1 dX5_hasLevel_1 (by decide) (fun c_1 => ?_) (fun c_1 => ?_)
  · skip
    refine lv_iconst (v := 0) E.1.1 E.1.2.1 dX5_hasLevel_25 (by decide) ?_
    have e9 : (f_X5_hasLevel k p0) = (0 : Int32) := (if_pos c_1).trans (rfl)
    exact r_zret E Y hr hk (0 : Int32) rfl () (e9.symm) rfl ⟨Nat.le_of_ble_eq_true rfl, Nat.le_of_ble_eq_true rfl⟩ dX5_hasLevel_26
  · skip
    refine lv_iload_n E.1.1 E.1.2.1 dX5_hasLevel_4 rfl (lv_at hl 1 rfl) ?_
    refine lv_aload_n E.1.1 E.1.2.1 dX5_hasLevel_5 rfl (lv_at hl 0 rfl) ?_
    refine gf_X5_29 E Y 0 rfl rfl dX5_hasLevel_6 ?_
    refine lv_icmp_ge (tgt := 25) E.1.1 E.1.2.1 dX5_hasLevel_9 (by decide) (fun c_9 => ?_) (fun c_9 => ?_)
    · skip
      refine lv_iconst (v := 0) E.1.1 E.1.2.1 dX5_hasLevel_25 (by decide) ?_
      have e9 : (f_X5_hasLevel k p0) = (0 : Int32) := (if_neg c_1).trans ((if_pos c_9).trans (rfl))
      exact r_zret E Y hr hk (0 : Int32) rfl () (e9.symm) rfl ⟨Nat.le_of_ble_eq_true rfl, Nat.le_of_ble_eq_true rfl⟩ dX5_hasLevel_26
    · skip
      refine lv_iload_n E.1.1 E.1.2.1 dX5_hasLevel_12 rfl (lv_at hl 1 rfl) ?_
      refine lv_aload_n E.1.1 E.1.2.1 dX5_hasLevel_13 rfl (lv_at hl 0 rfl) ?_
      refine gf_X5_9 E Y 0 rfl rfl dX5_hasLevel_14 ?_
      refine r_alenI (v := 5) E Y 1 rfl (by decide) dX5_hasLevel_17 ?_
      refine lv_icmp_ge (tgt := 25) E.1.1 E.1.2.1 dX5_hasLevel_18 (by decide) (fun c_18 => ?_) (fun c_18 => ?_)
      · skip
        refine lv_iconst (v := 0) E.1.1 E.1.2.1 dX5_hasLevel_25 (by decide) ?_
        have e9 : (f_X5_hasLevel k p0) = (0 : Int32) := (if_neg c_1).trans ((if_neg c_9).trans ((if_pos c_18).trans (rfl)))
        exact r_zret E Y hr hk (0 : Int32) rfl () (e9.symm) rfl ⟨Nat.le_of_ble_eq_true rfl, Nat.le_of_ble_eq_true rfl⟩ dX5_hasLevel_26
      · skip
        refine lv_iconst (v := 1) E.1.1 E.1.2.1 dX5_hasLevel_21 (by decide) ?_
        refine lv_goto (tgt := 26) E.1.1 E.1.2.1 dX5_hasLevel_22 (by decide) ?_
        have e9 : (f_X5_hasLevel k p0) = (1 : Int32) := (if_neg c_1).trans ((if_neg c_9).trans ((if_neg c_18).trans (rfl)))
        exact r_zret E Y hr hk (1 : Int32) rfl () (e9.symm) rfl ⟨Nat.le_of_ble_eq_true rfl, Nat.le_of_ble_eq_true rfl⟩ dX5_hasLevel_26

theorem vp0 {x : Int32} (n : Nat) (hn : n < 2 ^ 31) (h0 : ¬ x < 0) (h1 : ¬ nI n ≤ x) : vp_in x n := by
  intro h
  rcases h with h | h
  · exact h0 h
  · obtain ⟨j, hj, rfl⟩ := nI_of h0
    rw [nI_clamp hj] at h
    exact h1 (nI_le h hj)
theorem hasSegment_in {k : Cf} {x : Int32} (h : ¬ f_X5_hasSegment k x = 0) : vp_in x 30 := by
  unfold f_X5_hasSegment at h
  split at h
  · exact absurd rfl h
  · split at h
    · exact absurd rfl h
    · split at h
      · exact absurd rfl h
      · exact vp0 30 (by decide) (by assumption) (by assumption)
theorem hasLevel_in {k : Cf} {x : Int32} (h : ¬ f_X5_hasLevel k x = 0) : vp_in x 5 := by
  unfold f_X5_hasLevel at h
  split at h
  · exact absurd rfl h
  · split at h
    · exact absurd rfl h
    · split at h
      · exact absurd rfl h
      · exact vp0 5 (by decide) (by assumption) (by assumption)

theorem nI_nge {a b : Nat} (h : ¬ nI a ≤ nI b) (hb : b < 2 ^ 31) : b < a := Nat.lt_of_not_le (fun z => h (nI_le z hb))
theorem nI_yge {a b : Nat} (h : nI a ≤ nI b) (ha : a < 2 ^ 31) (hb : b < 2 ^ 31) : a ≤ b := (nI_leI ha hb).mp h

theorem hlw_i (p : Int32) : (if (4 : Int32) < p then (4 : Int32) else p) ≤ 4 := by
  split
  · decide
  · next h => exact fa_of_nlt h
theorem hlw_n {x : Int32} (h : x ≤ 4) : x.toInt.toNat < 5 := by
  have h1 := (fa_le _ _).mp h
  have h2 : (4 : Int32).toInt = 4 := by decide
  omega
theorem hlw_in {x : Int32} (h : x ≤ 4) (h0 : ¬ x ≤ 0) : vp_in x 5 := by
  have h1 := (fa_le _ _).mp h
  have h2 : (4 : Int32).toInt = 4 := by decide
  have h3 : (0 : Int32).toInt = 0 := by decide
  rw [fa_le, h3] at h0
  exact vp_in_iff.mpr ⟨by omega, by omega⟩
theorem hlw_m {x : Int32} (h0 : ¬ x ≤ 0) : (x + (-1)).toInt = x.toInt - 1 := by
  have h3 : (0 : Int32).toInt = 0 := by decide
  have h4 : (-1 : Int32).toInt = -1 := by decide
  rw [fa_le, h3] at h0
  have h5 := fb_rng x
  rw [fb_addI (by omega) (by omega), h4]
  omega
theorem hlw_b {x : Int32} (h : x ≤ 4) (h0 : ¬ x ≤ 0) : x + (-1) ≤ 4 := by
  have h1 := (fa_le _ _).mp h
  rw [fa_le, hlw_m h0]
  omega
theorem hlw_c {x : Int32} {n : Nat} (h : x.toInt.toNat < n + 1) (h0 : ¬ x ≤ 0) : (x + (-1)).toInt.toNat < n := by
  have h3 : (0 : Int32).toInt = 0 := by decide
  rw [hlw_m h0]
  rw [fa_le, h3] at h0
  omega

def f_X5_bitrateOf (k : Cf) (p0 : Int32) : Int32 := if (f_X5_hasLevel k p0) = 0 then (0 : Int32) else (k.2.1 (p0.toNatClampNeg))
set_option maxRecDepth 100000 in
set_option maxHeartbeats 4000000 in
theorem c_X5_bitrateOf {l : Launch} {D : va_G} {cI cB : ClassId} (qv qb qa : Nat) (k : Cf) (p0 : Int32) : CI l X0 D cI cB yX5_bitrateOf cX5_bitrateOf 2 (some .int) 1 21 0 0 [.ref qv, .int p0] (wV cI qv qb qa k) (fun (r : Int32) (_ : Unit) => r = (f_X5_bitrateOf k p0)) (fun _ => (wV cI qv qb qa k)) := by
  refine CI.of (by decide) (Nat.le_of_ble_eq_true rfl) ?_
  intro p e s m below meth c A ls E hr hk hin hA hAA hX Y hl
  have E : EE p c cX5_bitrateOf 2 s _ m RX5 D cI cB := E
  have hl : lv_has ls 2 [(0, .ref qv), (1, .int p0)] := hl
  refine lv_aload_n E.1.1 E.1.2.1 dX5_bitrateOf_0 rfl (lv_at hl 0 rfl) ?_
  refine lv_iload_n E.1.1 E.1.2.1 dX5_bitrateOf_1 rfl (lv_at hl 1 rfl) ?_
  refine r_Vi (wr := []) (w2 := fun _ => [(qv, .inr (7, [.ref qb, .ref qa, .int (k.1 0), .int (k.1 1), .int (k.1 2)])), (qb, .inl (cI, 5, .inl k.2.1)), (qa, .inl (cI, 30, .inl k.2.2.1))]) E Y hA hl.1 (c_X5_hasLevel qv qb qa k p0) lk_X5_32 X0b (fun _ _ _ => trivial) [0, 1, 2] [] [0, 1, 2] rfl rfl (by decide) (fun _ => rfl) 0 rfl rfl ⟨Nat.le_of_ble_eq_true rfl, Nat.le_of_ble_eq_true rfl⟩ ⟨Nat.le_of_ble_eq_true rfl, Nat.le_of_ble_eq_true rfl⟩ rfl rfl (Nat.le_of_ble_eq_true rfl) dX5_bitrateOf_2 (fun r u H locs hp Y => ?_)
  subst hp
  refine lv_if_eq (tgt := 17) E.1.1 E.1.2.1 dX5_bitrateOf_5 (by decide) (fun c_5 => ?_) (fun c_5 => ?_)
  · skip
    refine lv_iconst (v := 0) E.1.1 E.1.2.1 dX5_bitrateOf_17 (by decide) ?_
    have e9 : (f_X5_bitrateOf k p0) = (0 : Int32) := (if_pos c_5).trans (rfl)
    exact r_iret E Y hr hk (0 : Int32) () (e9.symm) rfl ⟨Nat.le_of_ble_eq_true rfl, Nat.le_of_ble_eq_true rfl⟩ dX5_bitrateOf_18
  · skip
    refine lv_aload_n E.1.1 E.1.2.1 dX5_bitrateOf_8 rfl (lv_at hl 0 rfl) ?_
    refine gf_X5_9 E Y 0 rfl rfl dX5_bitrateOf_9 ?_
    refine lv_iload_n E.1.1 E.1.2.1 dX5_bitrateOf_12 rfl (lv_at hl 1 rfl) ?_
    refine r_ial E Y 1 rfl (p0.toNatClampNeg) rfl (hasLevel_in c_5) dX5_bitrateOf_13 ?_
    refine lv_goto (tgt := 18) E.1.1 E.1.2.1 dX5_bitrateOf_14 (by decide) ?_
    have e9 : (f_X5_bitrateOf k p0) = (k.2.1 (p0.toNatClampNeg)) := (if_neg c_5).trans (rfl)
    exact r_iret E Y hr hk (k.2.1 (p0.toNatClampNeg)) () (e9.symm) rfl ⟨Nat.le_of_ble_eq_true rfl, Nat.le_of_ble_eq_true rfl⟩ dX5_bitrateOf_18

def f_X5_highestBitrate (k : Cf) : Int32 := (f_X5_bitrateOf k ((k.1 2) - (1 : Int32)))
set_option maxRecDepth 100000 in
set_option maxHeartbeats 4000000 in
theorem c_X5_highestBitrate {l : Launch} {D : va_G} {cI cB : ClassId} (qv qb qa : Nat) (k : Cf) : CI l X0 D cI cB yX5_highestBitrate cX5_highestBitrate 1 (some .int) 2 42 0 0 [.ref qv] (wV cI qv qb qa k) (fun (r : Int32) (_ : Unit) => r = (f_X5_highestBitrate k)) (fun _ => (wV cI qv qb qa k)) := by
  refine CI.of (by decide) (Nat.le_of_ble_eq_true rfl) ?_
  intro p e s m below meth c A ls E hr hk hin hA hAA hX Y hl
  have E : EE p c cX5_highestBitrate 1 s _ m RX5 D cI cB := E
  have hl : lv_has ls 1 [(0, .ref qv)] := hl
  refine lv_aload_n E.1.1 E.1.2.1 dX5_highestBitrate_0 rfl (lv_at hl 0 rfl) ?_
  refine lv_aload_n E.1.1 E.1.2.1 dX5_highestBitrate_1 rfl (lv_at hl 0 rfl) ?_
  refine gf_X5_29 E Y 0 rfl rfl dX5_highestBitrate_2 ?_
  refine lv_iconst (v := 1) E.1.1 E.1.2.1 dX5_highestBitrate_5 (by decide) ?_
  refine lv_isub E.1.1 E.1.2.1 dX5_highestBitrate_6 ?_
  refine r_Vi (wr := []) (w2 := fun _ => [(qv, .inr (7, [.ref qb, .ref qa, .int (k.1 0), .int (k.1 1), .int (k.1 2)])), (qb, .inl (cI, 5, .inl k.2.1)), (qa, .inl (cI, 30, .inl k.2.2.1))]) E Y hA hl.1 (c_X5_bitrateOf qv qb qa k ((k.1 2) - (1 : Int32))) lk_X5_36 X0b (fun _ _ _ => trivial) [0, 1, 2] [] [0, 1, 2] rfl rfl (by decide) (fun _ => rfl) 0 rfl rfl ⟨Nat.le_of_ble_eq_true rfl, Nat.le_of_ble_eq_true rfl⟩ ⟨Nat.le_of_ble_eq_true rfl, Nat.le_of_ble_eq_true rfl⟩ rfl rfl (Nat.le_of_ble_eq_true rfl) dX5_highestBitrate_7 (fun r u H locs hp Y => ?_)
  subst hp
  have e9 : (f_X5_highestBitrate k) = (f_X5_bitrateOf k ((k.1 2) - (1 : Int32))) := rfl
  exact r_iret E Y hr hk (f_X5_bitrateOf k ((k.1 2) - (1 : Int32))) () (e9.symm) rfl ⟨Nat.le_of_ble_eq_true rfl, Nat.le_of_ble_eq_true rfl⟩ dX5_highestBitrate_10

def f_X5_appendLevel (k : Cf) (p0 : Int32) : Cf := if (5 : Int32) ≤ (k.1 2) then k else (upd (k.1) 2 ((k.1 2) + (1 : Int32)), (upd k.2.1 ((k.1 2).toNatClampNeg) p0), k.2.2.1, k.2.2.2.1, k.2.2.2.2)
set_option maxRecDepth 100000 in
set_option maxHeartbeats 4000000 in
theorem c_X5_appendLevel {l : Launch} {D : va_G} {cI cB : ClassId} (qv qb qa : Nat) (k : Cf) (p0 : Int32) (h2 : ¬ k.1 2 < 0) : CV l X0 D cI cB yX5_appendLevel cX5_appendLevel 2 0 0 0 0 [.ref qv, .int p0] (wV cI qv qb qa k) (fun (u : Cf) => u = (f_X5_appendLevel k p0)) (fun u => (wV cI qv qb qa u)) := by
  refine CV.of (by decide) (Nat.le_of_ble_eq_true rfl) ?_
  intro p e s m below meth c A ls E hr hk hin hA hAA hX Y hl
  have E : EE p c cX5_appendLevel 2 s _ m RX5 D cI cB := E
  have hl : lv_has ls 2 [(0, .ref qv), (1, .int p0)] := hl
  refine lv_aload_n E.1.1 E.1.2.1 dX5_appendLevel_0 rfl (lv_at hl 0 rfl) ?_
  refine gf_X5_29 E Y 0 rfl rfl dX5_appendLevel_1 ?_
  refine lv_aload_n E.1.1 E.1.2.1 dX5_appendLevel_4 rfl (lv_at hl 0 rfl) ?_
  refine gf_X5_9 E Y 0 rfl rfl dX5_appendLevel_5 ?_
  refine r_alenI (v := 5) E Y 1 rfl (by decide) dX5_appendLevel_8 ?_
  refine lv_icmp_ge (tgt := 32) E.1.1 E.1.2.1 dX5_appendLevel_9 (by decide) (fun c_9 => ?_) (fun c_9 => ?_)
  · skip
    have e9 : (f_X5_appendLevel k p0) = k := (if_pos c_9).trans (rfl)
    exact r_vret E Y hr hk k (e9.symm) rfl ⟨Nat.le_of_ble_eq_true rfl, Nat.le_of_ble_eq_true rfl⟩ dX5_appendLevel_32
  · skip
    refine lv_aload_n E.1.1 E.1.2.1 dX5_appendLevel_12 rfl (lv_at hl 0 rfl) ?_
    refine gf_X5_9 E Y 0 rfl rfl dX5_appendLevel_13 ?_
    refine lv_aload_n E.1.1 E.1.2.1 dX5_appendLevel_16 rfl (lv_at hl 0 rfl) ?_
    refine gf_X5_29 E Y 0 rfl rfl dX5_appendLevel_17 ?_
    refine lv_iload_n E.1.1 E.1.2.1 dX5_appendLevel_20 rfl (lv_at hl 1 rfl) ?_
    refine r_ias (w' := [(qv, .inr (7, [.ref qb, .ref qa, .int (k.1 0), .int (k.1 1), .int (k.1 2)])), (qb, .inl (cI, 5, .inl (upd k.2.1 ((k.1 2).toNatClampNeg) p0))), (qa, .inl (cI, 30, .inl k.2.2.1))]) E Y 1 rfl ((k.1 2).toNatClampNeg) rfl (vp0 5 (by decide) h2 c_9) rfl dX5_appendLevel_21 (fun H locs Y => ?_)
    refine lv_aload_n E.1.1 E.1.2.1 dX5_appendLevel_22 rfl (lv_at hl 0 rfl) ?_
    refine lv_dup E.1.1 E.1.2.1 dX5_appendLevel_23 rfl ?_
    refine gf_X5_29 E Y 0 rfl rfl dX5_appendLevel_24 ?_
    refine lv_iconst (v := 1) E.1.1 E.1.2.1 dX5_appendLevel_27 (by decide) ?_
    refine lv_iadd E.1.1 E.1.2.1 dX5_appendLevel_28 ?_
    refine pf_X5_29 (w' := [(qv, .inr (7, [.ref qb, .ref qa, .int (k.1 0), .int (k.1 1), .int ((k.1 2) + (1 : Int32))])), (qb, .inl (cI, 5, .inl (upd k.2.1 ((k.1 2).toNatClampNeg) p0))), (qa, .inl (cI, 30, .inl k.2.2.1))]) E Y 0 rfl (Nat.le_of_ble_eq_true rfl) rfl dX5_appendLevel_29 (fun H locs Y => ?_)
    have e9 : (f_X5_appendLevel k p0) = (upd (k.1) 2 ((k.1 2) + (1 : Int32)), (upd k.2.1 ((k.1 2).toNatClampNeg) p0), k.2.2.1, k.2.2.2.1, k.2.2.2.2) := (if_neg c_9).trans (rfl)
    exact r_vret E Y hr hk (upd (k.1) 2 ((k.1 2) + (1 : Int32)), (upd k.2.1 ((k.1 2).toNatClampNeg) p0), k.2.2.1, k.2.2.2.1, k.2.2.2.2) (e9.symm) rfl ⟨Nat.le_of_ble_eq_true rfl, Nat.le_of_ble_eq_true rfl⟩ dX5_appendLevel_32

def f_X5_variationOf (k : Cf) (p0 : Int32) : Int32 := if (f_X5_hasSegment k p0) = 0 then (0 : Int32) else (k.2.2.1 (p0.toNatClampNeg))
set_option maxRecDepth 100000 in
set_option maxHeartbeats 4000000 in
theorem c_X5_variationOf {l : Launch} {D : va_G} {cI cB : ClassId} (qv qb qa : Nat) (k : Cf) (p0 : Int32) : CI l X0 D cI cB yX5_variationOf cX5_variationOf 2 (some .int) 1 21 0 0 [.ref qv, .int p0] (wV cI qv qb qa k) (fun (r : Int32) (_ : Unit) => r = (f_X5_variationOf k p0)) (fun _ => (wV cI qv qb qa k)) := by
  refine CI.of (by decide) (Nat.le_of_ble_eq_true rfl) ?_
  intro p e s m below meth c A ls E hr hk hin hA hAA hX Y hl
  have E : EE p c cX5_variationOf 2 s _ m RX5 D cI cB := E
  have hl : lv_has ls 2 [(0, .ref qv), (1, .int p0)] := hl
  refine lv_aload_n E.1.1 E.1.2.1 dX5_variationOf_0 rfl (lv_at hl 0 rfl) ?_
  refine lv_iload_n E.1.1 E.1.2.1 dX5_variationOf_1 rfl (lv_at hl 1 rfl) ?_
  refine r_Vi (wr := []) (w2 := fun _ => [(qv, .inr (7, [.ref qb, .ref qa, .int (k.1 0), .int (k.1 1), .int (k.1 2)])), (qb, .inl (cI, 5, .inl k.2.1)), (qa, .inl (cI, 30, .inl k.2.2.1))]) E Y hA hl.1 (c_X5_hasSegment qv qb qa k p0) lk_X5_46 X0b (fun _ _ _ => trivial) [0, 1, 2] [] [0, 1, 2] rfl rfl (by decide) (fun _ => rfl) 0 rfl rfl ⟨Nat.le_of_ble_eq_true rfl, Nat.le_of_ble_eq_true rfl⟩ ⟨Nat.le_of_ble_eq_true rfl, Nat.le_of_ble_eq_true rfl⟩ rfl rfl (Nat.le_of_ble_eq_true rfl) dX5_variationOf_2 (fun r u H locs hp Y => ?_)
  subst hp
  refine lv_if_eq (tgt := 17) E.1.1 E.1.2.1 dX5_variationOf_5 (by decide) (fun c_5 => ?_) (fun c_5 => ?_)
  · skip
    refine lv_iconst (v := 0) E.1.1 E.1.2.1 dX5_variationOf_17 (by decide) ?_
    have e9 : (f_X5_variationOf k p0) = (0 : Int32) := (if_pos c_5).trans (rfl)
    exact r_iret E Y hr hk (0 : Int32) () (e9.symm) rfl ⟨Nat.le_of_ble_eq_true rfl, Nat.le_of_ble_eq_true rfl⟩ dX5_variationOf_18
  · skip
    refine lv_aload_n E.1.1 E.1.2.1 dX5_variationOf_8 rfl (lv_at hl 0 rfl) ?_
    refine gf_X5_15 E Y 0 rfl rfl dX5_variationOf_9 ?_
    refine lv_iload_n E.1.1 E.1.2.1 dX5_variationOf_12 rfl (lv_at hl 1 rfl) ?_
    refine r_ial E Y 2 rfl (p0.toNatClampNeg) rfl (hasSegment_in c_5) dX5_variationOf_13 ?_
    refine lv_goto (tgt := 18) E.1.1 E.1.2.1 dX5_variationOf_14 (by decide) ?_
    have e9 : (f_X5_variationOf k p0) = (k.2.2.1 (p0.toNatClampNeg)) := (if_neg c_5).trans (rfl)
    exact r_iret E Y hr hk (k.2.2.1 (p0.toNatClampNeg)) () (e9.symm) rfl ⟨Nat.le_of_ble_eq_true rfl, Nat.le_of_ble_eq_true rfl⟩ dX5_variationOf_18

def f_X5_changeVariation (k : Cf) (p0 : Int32) (p1 : Int32) : Cf := if (f_X5_hasSegment k p0) = 0 then k else (k.1, k.2.1, (upd k.2.2.1 (p0.toNatClampNeg) p1), k.2.2.2.1, k.2.2.2.2)
set_option maxRecDepth 100000 in
set_option maxHeartbeats 4000000 in
theorem c_X5_changeVariation {l : Launch} {D : va_G} {cI cB : ClassId} (qv qb qa : Nat) (k : Cf) (p0 : Int32) (p1 : Int32) : CV l X0 D cI cB yX5_changeVariation cX5_changeVariation 3 1 21 0 0 [.ref qv, .int p0, .int p1] (wV cI qv qb qa k) (fun (u : Cf) => u = (f_X5_changeVariation k p0 p1)) (fun u => (wV cI qv qb qa u)) := by
  refine CV.of (by decide) (Nat.le_of_ble_eq_true rfl) ?_
  intro p e s m below meth c A ls E hr hk hin hA hAA hX Y hl
  have E : EE p c cX5_changeVariation 3 s _ m RX5 D cI cB := E
  have hl : lv_has ls 3 [(0, .ref qv), (1, .int p0), (2, .int p1)] := hl
  refine lv_aload_n E.1.1 E.1.2.1 dX5_changeVariation_0 rfl (lv_at hl 0 rfl) ?_
  refine lv_iload_n E.1.1 E.1.2.1 dX5_changeVariation_1 rfl (lv_at hl 1 rfl) ?_
  refine r_Vi (wr := []) (w2 := fun _ => [(qv, .inr (7, [.ref qb, .ref qa, .int (k.1 0), .int (k.1 1), .int (k.1 2)])), (qb, .inl (cI, 5, .inl k.2.1)), (qa, .inl (cI, 30, .inl k.2.2.1))]) E Y hA hl.1 (c_X5_hasSegment qv qb qa k p0) lk_X5_46 X0b (fun _ _ _ => trivial) [0, 1, 2] [] [0, 1, 2] rfl rfl (by decide) (fun _ => rfl) 0 rfl rfl ⟨Nat.le_of_ble_eq_true rfl, Nat.le_of_ble_eq_true rfl⟩ ⟨Nat.le_of_ble_eq_true rfl, Nat.le_of_ble_eq_true rfl⟩ rfl rfl (Nat.le_of_ble_eq_true rfl) dX5_changeVariation_2 (fun r u H locs hp Y => ?_)
  subst hp
  refine lv_if_eq (tgt := 15) E.1.1 E.1.2.1 dX5_changeVariation_5 (by decide) (fun c_5 => ?_) (fun c_5 => ?_)
  · skip
    have e9 : (f_X5_changeVariation k p0 p1) = k := (if_pos c_5).trans (rfl)
    exact r_vret E Y hr hk k (e9.symm) rfl ⟨Nat.le_of_ble_eq_true rfl, Nat.le_of_ble_eq_true rfl⟩ dX5_changeVariation_15
  · skip
    refine lv_aload_n E.1.1 E.1.2.1 dX5_changeVariation_8 rfl (lv_at hl 0 rfl) ?_
    refine gf_X5_15 E Y 0 rfl rfl dX5_changeVariation_9 ?_
    refine lv_iload_n E.1.1 E.1.2.1 dX5_changeVariation_12 rfl (lv_at hl 1 rfl) ?_
    refine lv_iload_n E.1.1 E.1.2.1 dX5_changeVariation_13 rfl (lv_at hl 2 rfl) ?_
    refine r_ias (w' := [(qv, .inr (7, [.ref qb, .ref qa, .int (k.1 0), .int (k.1 1), .int (k.1 2)])), (qb, .inl (cI, 5, .inl k.2.1)), (qa, .inl (cI, 30, .inl (upd k.2.2.1 (p0.toNatClampNeg) p1)))]) E Y 2 rfl (p0.toNatClampNeg) rfl (hasSegment_in c_5) rfl dX5_changeVariation_14 (fun H locs Y => ?_)
    have e9 : (f_X5_changeVariation k p0 p1) = (k.1, k.2.1, (upd k.2.2.1 (p0.toNatClampNeg) p1), k.2.2.2.1, k.2.2.2.2) := (if_neg c_5).trans (rfl)
    exact r_vret E Y hr hk (k.1, k.2.1, (upd k.2.2.1 (p0.toNatClampNeg) p1), k.2.2.2.1, k.2.2.2.2) (e9.symm) rfl ⟨Nat.le_of_ble_eq_true rfl, Nat.le_of_ble_eq_true rfl⟩ dX5_changeVariation_15

def f_X5_sizeOf (k : Cf) (p0 : Int32) (p1 : Int32) : Int32 := ((((((f_X5_bitrateOf k p0).toInt64) * ((k.1 1).toInt64)) * ((f_X5_variationOf k p1).toInt64)) / (100 : Int64)).toInt32)
set_option maxRecDepth 100000 in
set_option maxHeartbeats 4000000 in
theorem c_X5_sizeOf {l : Launch} {D : va_G} {cI cB : ClassId} (qv qb qa : Nat) (k : Cf) (p0 : Int32) (p1 : Int32) : CI l X0 D cI cB yX5_sizeOf cX5_sizeOf 3 (some .int) 2 42 0 0 [.ref qv, .int p0, .int p1] (wV cI qv qb qa k) (fun (r : Int32) (_ : Unit) => r = (f_X5_sizeOf k p0 p1)) (fun _ => (wV cI qv qb qa k)) := by
  refine CI.of (by decide) (Nat.le_of_ble_eq_true rfl) ?_
  intro p e s m below meth c A ls E hr hk hin hA hAA hX Y hl
  have E : EE p c cX5_sizeOf 3 s _ m RX5 D cI cB := E
  have hl : lv_has ls 3 [(0, .ref qv), (1, .int p0), (2, .int p1)] := hl
  refine lv_aload_n E.1.1 E.1.2.1 dX5_sizeOf_0 rfl (lv_at hl 0 rfl) ?_
  refine lv_iload_n E.1.1 E.1.2.1 dX5_sizeOf_1 rfl (lv_at hl 1 rfl) ?_
  refine r_Vi (wr := []) (w2 := fun _ => [(qv, .inr (7, [.ref qb, .ref qa, .int (k.1 0), .int (k.1 1), .int (k.1 2)])), (qb, .inl (cI, 5, .inl k.2.1)), (qa, .inl (cI, 30, .inl k.2.2.1))]) E Y hA hl.1 (c_X5_bitrateOf qv qb qa k p0) lk_X5_36 X0b (fun _ _ _ => trivial) [0, 1, 2] [] [0, 1, 2] rfl rfl (by decide) (fun _ => rfl) 0 rfl rfl ⟨Nat.le_of_ble_eq_true rfl, Nat.le_of_ble_eq_true rfl⟩ ⟨Nat.le_of_ble_eq_true rfl, Nat.le_of_ble_eq_true rfl⟩ rfl rfl (Nat.le_of_ble_eq_true rfl) dX5_sizeOf_2 (fun r u H locs hp Y => ?_)
  subst hp
  refine lv_i2l E.1.1 E.1.2.1 dX5_sizeOf_5 rfl ?_
  refine lv_aload_n E.1.1 E.1.2.1 dX5_sizeOf_6 rfl (lv_at hl 0 rfl) ?_
  refine gf_X5_26 E Y 0 rfl rfl dX5_sizeOf_7 ?_
  refine lv_i2l E.1.1 E.1.2.1 dX5_sizeOf_10 rfl ?_
  refine lv_lmul E.1.1 E.1.2.1 dX5_sizeOf_11 ?_
  refine lv_aload_n E.1.1 E.1.2.1 dX5_sizeOf_12 rfl (lv_at hl 0 rfl) ?_
  refine lv_iload_n E.1.1 E.1.2.1 dX5_sizeOf_13 rfl (lv_at hl 2 rfl) ?_
  refine r_Vi (wr := []) (w2 := fun _ => [(qv, .inr (7, [.ref qb, .ref qa, .int (k.1 0), .int (k.1 1), .int (k.1 2)])), (qb, .inl (cI, 5, .inl k.2.1)), (qa, .inl (cI, 30, .inl k.2.2.1))]) E Y hA hl.1 (c_X5_variationOf qv qb qa k p1) lk_X5_49 X0b (fun _ _ _ => trivial) [0, 1, 2] [] [0, 1, 2] rfl rfl (by decide) (fun _ => rfl) 0 rfl rfl ⟨Nat.le_of_ble_eq_true rfl, Nat.le_of_ble_eq_true rfl⟩ ⟨Nat.le_of_ble_eq_true rfl, Nat.le_of_ble_eq_true rfl⟩ rfl rfl (Nat.le_of_ble_eq_true rfl) dX5_sizeOf_14 (fun r u H locs hp Y => ?_)
  subst hp
  refine lv_i2l E.1.1 E.1.2.1 dX5_sizeOf_17 rfl ?_
  refine lv_lmul E.1.1 E.1.2.1 dX5_sizeOf_18 ?_
  refine lv_ldc2 (v := 100) E.1.1 E.1.2.1 E.1.2.2.2.1 (E.1.2.2.2.2 _ mj_X5_52) dX5_sizeOf_19 ?_
  refine lv_ldiv E.1.1 E.1.2.1 dX5_sizeOf_22 (by decide) ?_
  refine lv_l2i E.1.1 E.1.2.1 dX5_sizeOf_23 rfl ?_
  have e9 : (f_X5_sizeOf k p0 p1) = ((((((f_X5_bitrateOf k p0).toInt64) * ((k.1 1).toInt64)) * ((f_X5_variationOf k p1).toInt64)) / (100 : Int64)).toInt32) := rfl
  exact r_iret E Y hr hk ((((((f_X5_bitrateOf k p0).toInt64) * ((k.1 1).toInt64)) * ((f_X5_variationOf k p1).toInt64)) / (100 : Int64)).toInt32) () (e9.symm) rfl ⟨Nat.le_of_ble_eq_true rfl, Nat.le_of_ble_eq_true rfl⟩ dX5_sizeOf_24

def f_X5_replace_l17  : Nat → Cf → Nat → Cf
  | 0, k1, j => k1
  | n + 1, k1, j => if (30 : Int32) ≤ (nI j) then k1 else f_X5_replace_l17 n (k1.1, k1.2.1, (upd k1.2.2.1 j (100 : Int32)), k1.2.2.2.1, k1.2.2.2.2) (j + 1)
def f_X5_replace (k : Cf) (p0 : Int32) (p1 : Int32) : Cf := f_X5_replace_l17 31 (upd (upd (upd (k.1) 0 p0) 1 p1) 2 (0 : Int32), k.2.1, k.2.2.1, k.2.2.2.1, k.2.2.2.2) (0)
set_option maxRecDepth 100000 in
set_option maxHeartbeats 4000000 in
theorem c_X5_replace {l : Launch} {D : va_G} {cI cB : ClassId} (qv qb qa : Nat) (k : Cf) (p0 : Int32) (p1 : Int32) : CV l X0 D cI cB yX5_replace cX5_replace 4 0 0 0 0 [.ref qv, .int p0, .int p1] (wV cI qv qb qa k) (fun (u : Cf) => u = (f_X5_replace k p0 p1)) (fun u => (wV cI qv qb qa u)) := by
  refine CV.of (by decide) (Nat.le_of_ble_eq_true rfl) ?_
  intro p e s m below meth c A ls E hr hk hin hA hAA hX Y hl
  have E : EE p c cX5_replace 4 s _ m RX5 D cI cB := E
  have hl : lv_has ls 4 [(0, .ref qv), (1, .int p0), (2, .int p1)] := hl
  refine lv_aload_n E.1.1 E.1.2.1 dX5_replace_0 rfl (lv_at hl 0 rfl) ?_
  refine lv_iload_n E.1.1 E.1.2.1 dX5_replace_1 rfl (lv_at hl 1 rfl) ?_
  refine pf_X5_22 (w' := [(qv, .inr (7, [.ref qb, .ref qa, .int p0, .int (k.1 1), .int (k.1 2)])), (qb, .inl (cI, 5, .inl k.2.1)), (qa, .inl (cI, 30, .inl k.2.2.1))]) E Y 0 rfl (Nat.le_of_ble_eq_true rfl) rfl dX5_replace_2 (fun H locs Y => ?_)
  refine lv_aload_n E.1.1 E.1.2.1 dX5_replace_5 rfl (lv_at hl 0 rfl) ?_
  refine lv_iload_n E.1.1 E.1.2.1 dX5_replace_6 rfl (lv_at hl 2 rfl) ?_
  refine pf_X5_26 (w' := [(qv, .inr (7, [.ref qb, .ref qa, .int p0, .int p1, .int (k.1 2)])), (qb, .inl (cI, 5, .inl k.2.1)), (qa, .inl (cI, 30, .inl k.2.2.1))]) E Y 0 rfl (Nat.le_of_ble_eq_true rfl) rfl dX5_replace_7 (fun H locs Y => ?_)
  refine lv_aload_n E.1.1 E.1.2.1 dX5_replace_10 rfl (lv_at hl 0 rfl) ?_
  refine lv_iconst (v := 0) E.1.1 E.1.2.1 dX5_replace_11 (by decide) ?_
  refine pf_X5_29 (w' := [(qv, .inr (7, [.ref qb, .ref qa, .int p0, .int p1, .int (0 : Int32)])), (qb, .inl (cI, 5, .inl k.2.1)), (qa, .inl (cI, 30, .inl k.2.2.1))]) E Y 0 rfl (Nat.le_of_ble_eq_true rfl) rfl dX5_replace_12 (fun H locs Y => ?_)
  refine lv_iconst (v := 0) E.1.1 E.1.2.1 dX5_replace_15 (by decide) ?_
  refine lv_istore_n (lv' := [(3, .int (0 : Int32)), (0, .ref qv), (1, .int p0), (2, .int p1)]) E.1.1 E.1.2.1 dX5_replace_16 rfl hl (by decide) rfl (fun ls hl => ?_)
  have hL : ∀ (n : Nat) (k1 : Cf) (j : Nat), (hj : j ≤ 30) → (hn : 30 < j + n) → (f_X5_replace k p0 p1) = f_X5_replace_l17 n k1 j → ∀ (H : Heap) (locs : List Loc) (ls : Array Slot), WD D A s.heap H locs [(qv, .inr (7, [.ref qb, .ref qa, .int (k1.1 0), .int (k1.1 1), .int (k1.1 2)])), (qb, .inl (cI, 5, .inl k1.2.1)), (qa, .inl (cI, 30, .inl k1.2.2.1))] → lv_has ls 4 [(0, .ref qv), (3, .int (nI j))] → W p l e { frames := 0, cells := 0, slots := 0, locals := 0 } s m ([.ref qv, .int p0, .int p1] : List Value).toArray below meth c H locs 0 0 (MQ below (va_Qv (fun (u : Cf) => u = (f_X5_replace k p0 p1)) (AT D cI cB A (fun u => (wV cI qv qb qa u))) A) ([.ref qv, .int p0, .int p1] : List Value).toArray s 0 0 A) (F0 m 17 ls []) := by
    intro n
    induction n with
    | zero => intro k1 j hj hn; exact absurd hn (by omega)
    | succ n ih =>
      intro k1 j hj hn hF H locs ls Y hl
      refine lv_iload_n E.1.1 E.1.2.1 dX5_replace_17 rfl (lv_at hl 1 rfl) ?_
      refine lv_aload_n E.1.1 E.1.2.1 dX5_replace_18 rfl (lv_at hl 0 rfl) ?_
      refine gf_X5_15 E Y 0 rfl rfl dX5_replace_19 ?_
      refine r_alenI (v := 30) E Y 2 rfl (by decide) dX5_replace_22 ?_
      refine lv_icmp_ge (tgt := 40) E.1.1 E.1.2.1 dX5_replace_23 (by decide) (fun c_23 => ?_) (fun c_23 => ?_)
      · skip
        have e9 : (f_X5_replace k p0 p1) = k1 := hF.trans ((if_pos c_23).trans (rfl))
        exact r_vret E Y hr hk k1 (e9.symm) rfl ⟨Nat.le_of_ble_eq_true rfl, Nat.le_of_ble_eq_true rfl⟩ dX5_replace_40
      · skip
        refine lv_aload_n E.1.1 E.1.2.1 dX5_replace_26 rfl (lv_at hl 0 rfl) ?_
        refine gf_X5_15 E Y 0 rfl rfl dX5_replace_27 ?_
        refine lv_iload_n E.1.1 E.1.2.1 dX5_replace_30 rfl (lv_at hl 1 rfl) ?_
        refine lv_bipush (v := 100) E.1.1 E.1.2.1 dX5_replace_31 (by decide) ?_
        refine r_ias (w' := [(qv, .inr (7, [.ref qb, .ref qa, .int (k1.1 0), .int (k1.1 1), .int (k1.1 2)])), (qb, .inl (cI, 5, .inl k1.2.1)), (qa, .inl (cI, 30, .inl (upd k1.2.2.1 j (100 : Int32))))]) E Y 2 rfl j (nI_clamp (by omega)) (vp_in_nI (nI_nge c_23 (by omega)) (by decide)) rfl dX5_replace_33 (fun H locs Y => ?_)
        refine lv_iinc (v := (nI (j + 1))) (lv' := [(3, .int (nI (j + 1))), (0, .ref qv)]) E.1.1 E.1.2.1 dX5_replace_34 hl (k := 1) rfl (nI_1 j) (by decide) rfl (fun ls hl => ?_)
        refine lv_goto (tgt := 17) E.1.1 E.1.2.1 dX5_replace_37 (by decide) ?_
        exact ih (k1.1, k1.2.1, (upd k1.2.2.1 j (100 : Int32)), k1.2.2.2.1, k1.2.2.2.2) (j + 1) (by have := nI_nge (a := 30) (b := j) c_23 (by omega); omega) (by omega) (hF.trans ((if_neg c_23).trans (rfl))) H locs ls Y (lv_sub hl [1, 0] rfl)
  exact hL 31 (upd (upd (upd (k.1) 0 p0) 1 p1) 2 (0 : Int32), k.2.1, k.2.2.1, k.2.2.2.1, k.2.2.2.2) (0) (by decide) (by decide) (rfl) _ _ _ Y (lv_sub hl [1, 0] rfl)

def f_X5_highestLevelWithin_l12 (k : Cf) (p0 : Int32) : Nat → Int32 → Int32
  | 0, x => 0
  | n + 1, x => if x ≤ 0 then (0 : Int32) else (if p0 < (k.2.1 (x.toNatClampNeg)) then f_X5_highestLevelWithin_l12 k p0 n (x + (-1)) else x)
def f_X5_highestLevelWithin (k : Cf) (p0 : Int32) (p1 : Int32) : Int32 := f_X5_highestLevelWithin_l12 k p0 5 (if (4 : Int32) < p1 then (4 : Int32) else p1)
set_option maxRecDepth 100000 in
set_option maxHeartbeats 4000000 in
theorem c_X5_highestLevelWithin {l : Launch} {D : va_G} {cI cB : ClassId} (qv qb qa : Nat) (k : Cf) (p0 : Int32) (p1 : Int32) : CI l X0 D cI cB yX5_highestLevelWithin cX5_highestLevelWithin 4 (some .int) 1 21 0 0 [.ref qv, .int p0, .int p1] (wV cI qv qb qa k) (fun (r : Int32) (_ : Unit) => r = (f_X5_highestLevelWithin k p0 p1)) (fun _ => (wV cI qv qb qa k)) := by
  refine CI.of (by decide) (Nat.le_of_ble_eq_true rfl) ?_
  intro p e s m below meth c A ls E hr hk hin hA hAA hX Y hl
  have E : EE p c cX5_highestLevelWithin 4 s _ m RX5 D cI cB := E
  have hl : lv_has ls 4 [(0, .ref qv), (1, .int p0), (2, .int p1)] := hl
  refine lv_iload_n E.1.1 E.1.2.1 dX5_highestLevelWithin_0 rfl (lv_at hl 2 rfl) ?_
  refine lv_aload_n E.1.1 E.1.2.1 dX5_highestLevelWithin_1 rfl (lv_at hl 0 rfl) ?_
  refine gf_X5_9 E Y 0 rfl rfl dX5_highestLevelWithin_2 ?_
  refine r_alenI (v := 5) E Y 1 rfl (by decide) dX5_highestLevelWithin_5 ?_
  refine lv_iconst (v := 1) E.1.1 E.1.2.1 dX5_highestLevelWithin_6 (by decide) ?_
  refine lv_isub E.1.1 E.1.2.1 dX5_highestLevelWithin_7 ?_
  refine lv_cst (v := 4) (by decide) ?_
  refine r_min E hl.1 mm_X5_40 ⟨Nat.le_of_ble_eq_true rfl, Nat.le_of_ble_eq_true rfl⟩ ⟨Nat.le_of_ble_eq_true rfl, Nat.le_of_ble_eq_true rfl⟩ dX5_highestLevelWithin_8 ?_
  refine lv_istore_n (lv' := [(3, .int (if (4 : Int32) < p1 then (4 : Int32) else p1)), (0, .ref qv), (1, .int p0), (2, .int p1)]) E.1.1 E.1.2.1 dX5_highestLevelWithin_11 rfl hl (by decide) rfl (fun ls hl => ?_)
  have hL : ∀ (n : Nat) (x : Int32), (hx : x ≤ 4) → (hn : x.toInt.toNat < n) → (f_X5_highestLevelWithin k p0 p1) = f_X5_highestLevelWithin_l12 k p0 n x → ∀ (H : Heap) (locs : List Loc) (ls : Array Slot), WD D A s.heap H locs [(qv, .inr (7, [.ref qb, .ref qa, .int (k.1 0), .int (k.1 1), .int (k.1 2)])), (qb, .inl (cI, 5, .inl k.2.1)), (qa, .inl (cI, 30, .inl k.2.2.1))] → lv_has ls 4 [(0, .ref qv), (1, .int p0), (3, .int x)] → W p l e { frames := 1, cells := 0, slots := 0, locals := 21 } s m ([.ref qv, .int p0, .int p1] : List Value).toArray below meth c H locs 0 0 (MQ below (va_Qi (fun (r : Int32) (_ : Unit) => r = (f_X5_highestLevelWithin k p0 p1)) (AT D cI cB A (fun _ => (wV cI qv qb qa k))) A) ([.ref qv, .int p0, .int p1] : List Value).toArray s 0 0 A) (F0 m 12 ls []) := by
    intro n
    induction n with
    | zero => intro x hx hn; exact absurd hn (Nat.not_lt_zero _)
    | succ n ih =>
      intro x hx hn hF H locs ls Y hl
      refine lv_iload_n E.1.1 E.1.2.1 dX5_highestLevelWithin_12 rfl (lv_at hl 2 rfl) ?_
      refine lv_if_le (tgt := 34) E.1.1 E.1.2.1 dX5_highestLevelWithin_13 (by decide) (fun c_13 => ?_) (fun c_13 => ?_)
      · skip
        refine lv_iconst (v := 0) E.1.1 E.1.2.1 dX5_highestLevelWithin_34 (by decide) ?_
        have e9 : (f_X5_highestLevelWithin k p0 p1) = (0 : Int32) := hF.trans ((if_pos c_13).trans (rfl))
        exact r_iret E Y hr hk (0 : Int32) () (e9.symm) rfl ⟨Nat.le_of_ble_eq_true rfl, Nat.le_of_ble_eq_true rfl⟩ dX5_highestLevelWithin_35
      · skip
        refine lv_aload_n E.1.1 E.1.2.1 dX5_highestLevelWithin_16 rfl (lv_at hl 0 rfl) ?_
        refine gf_X5_9 E Y 0 rfl rfl dX5_highestLevelWithin_17 ?_
        refine lv_iload_n E.1.1 E.1.2.1 dX5_highestLevelWithin_20 rfl (lv_at hl 2 rfl) ?_
        refine r_ial E Y 1 rfl (x.toNatClampNeg) rfl (hlw_in hx c_13) dX5_highestLevelWithin_21 ?_
        refine lv_iload_n E.1.1 E.1.2.1 dX5_highestLevelWithin_22 rfl (lv_at hl 1 rfl) ?_
        refine lv_icmp_gt (tgt := 28) E.1.1 E.1.2.1 dX5_highestLevelWithin_23 (by decide) (fun c_23 => ?_) (fun c_23 => ?_)
        · skip
          refine lv_iinc (v := (x + (-1))) (lv' := [(3, .int (x + (-1))), (0, .ref qv), (1, .int p0)]) E.1.1 E.1.2.1 dX5_highestLevelWithin_28 hl (k := 2) rfl rfl (by decide) rfl (fun ls hl => ?_)
          refine lv_goto (tgt := 12) E.1.1 E.1.2.1 dX5_highestLevelWithin_31 (by decide) ?_
          exact ih (x + (-1)) (hlw_b hx c_13) (hlw_c hn c_13) (hF.trans ((if_neg c_13).trans ((if_pos c_23).trans (rfl)))) H locs ls Y (lv_sub hl [1, 2, 0] rfl)
        · skip
          refine lv_iload_n E.1.1 E.1.2.1 dX5_highestLevelWithin_26 rfl (lv_at hl 2 rfl) ?_
          have e9 : (f_X5_highestLevelWithin k p0 p1) = x := hF.trans ((if_neg c_13).trans ((if_neg c_23).trans (rfl)))
          exact r_iret E Y hr hk x () (e9.symm) rfl ⟨Nat.le_of_ble_eq_true rfl, Nat.le_of_ble_eq_true rfl⟩ dX5_highestLevelWithin_27
  exact hL 5 (if (4 : Int32) < p1 then (4 : Int32) else p1) (hlw_i p1) (hlw_n (hlw_i p1)) (rfl) _ _ _ Y (lv_sub hl [1, 2, 0] rfl)
