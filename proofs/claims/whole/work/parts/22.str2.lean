theorem ic_y {f : Nat → Int32} {ln j : Nat} (hs : spc f ln 0 = spc f (ln - j) j) (h : j < ln) (e : f j = 32) : nI j = spc f ln 0 := by
  rw [hs, show ln - j = (ln - (j + 1)) + 1 by omega, spc, if_pos e]
theorem ic_n {f : Nat → Int32} {ln j : Nat} (hs : spc f ln 0 = spc f (ln - j) j) (h : ln ≤ j) : (-1 : Int32) = spc f ln 0 := by
  rw [hs, Nat.sub_eq_zero_of_le h]
  rfl
theorem ic_b {f : Nat → Int32} {ln j : Nat} (hs : spc f ln 0 = spc f (ln - j) j) (h : j < ln) (e : ¬ f j = 32) : spc f ln 0 = spc f (ln - (j + 1)) (j + 1) := by
  rw [hs, show ln - j = (ln - (j + 1)) + 1 by omega, spc, if_neg e]
theorem ix_0 {f : Nat → Int32} {ln : Nat} (hn : ln < 2 ^ 31) (h : ¬ (0 : Int32) < nI ln) : (-1 : Int32) = spc f ln 0 := by
  have e : ln = 0 := by
    rcases Nat.eq_zero_or_pos ln with h1 | h1
    · exact h1
    · exact absurd (nI_lt (a := 0) h1 hn) h
  rw [e]
  rfl
theorem sq_len {ln lm : Nat} {f g : Nat → Int32} (hn : ln < 2 ^ 31) (hm : lm < 2 ^ 31) (h : ¬ nI ln = nI lm) : (0 : Int32) = seq ln lm f g := by
  unfold seq
  rw [if_neg (fun z => h (by rw [z.1]))]
theorem sq_no {ln lm : Nat} {f g : Nat → Int32} {j : Nat} (hj : j < ln) (h : ¬ f j = g j) : (0 : Int32) = seq ln lm f g := by
  unfold seq
  rw [if_neg (fun z => h (z.2 j hj))]
theorem sq_yes {ln lm : Nat} {f g : Nat → Int32} {j : Nat} (e : ln = lm) (hj : ln ≤ j) (h : ∀ t, t < j → f t = g t) : (1 : Int32) = seq ln lm f g := by
  unfold seq
  rw [if_pos ⟨e, fun t ht => h t (by omega)⟩]
theorem sq_1 {ln lm : Nat} {f g : Nat → Int32} (h : ¬ seq ln lm f g = 0) : (1 : Int32) = seq ln lm f g := by
  unfold seq at h ⊢
  split at h
  · next z => rw [if_pos z]
  · exact absurd rfl h

set_option maxRecDepth 100000 in
set_option maxHeartbeats 4000000 in
theorem c_J0_coder_7d493 {l : Launch} {D : va_G} {cI cB : ClassId} (ad ab : Nat → Nat) (q b ln : Nat) (f : Nat → Int32)  : CI (S := Unit) l (XZS ad ab [] q b ln f) D cI cB yJ0_coder_7d493 cJ0_coder_7d493 1 (some .byte) 0 0 0 0 [.ref q] [] (fun r (_ : Unit) => r = 0) (fun _ => []) := by
  refine CI.of (by decide) (Nat.le_of_ble_eq_true rfl) ?_
  intro p e s m below meth c A ls E hr hk hin hA hAA hX Y hl
  have E : EE p c cJ0_coder_7d493 1 s _ m RJ0 D cI cB := E
  have hl : lv_has ls 1 [(0, .ref q)] := hl
  have hZ : ZB ad ab A s s.heap := hX.1.narrow hAA
  have hR : RS q b ln f A s s.heap := hX.2.narrow hAA
  refine va_gets E.1.1 E.1.2.1 hZ.1 Y.2.2 E.1.2.2.2.1 (E.1.2.2.2.2 _ mf_J0_38) (fun _ h => h) dJ0_coder_7d493_0 ?_
  refine lv_if_eq (tgt := 13) E.1.1 E.1.2.1 dJ0_coder_7d493_3 (by decide) (fun c_3 => ?_) (fun c_3 => ?_)
  · exact absurd c_3 (by decide)
  · skip
    refine lv_aload_n E.1.1 E.1.2.1 dJ0_coder_7d493_6 rfl (lv_at hl 0 rfl) ?_
    refine vk_getf E.1.1 E.1.2.1 hR.2.1 Y.2.2 E.1.2.2.2.1 (E.1.2.2.2.2 _ mf_J0_15) (fun _ h => h) dJ0_coder_7d493_7 ?_
    refine lv_goto (tgt := 14) E.1.1 E.1.2.1 dJ0_coder_7d493_10 (by decide) ?_
    exact r_zret E Y hr hk (0 : Int32) rfl () (rfl) rfl ⟨Nat.le_of_ble_eq_true rfl, Nat.le_of_ble_eq_true rfl⟩ dJ0_coder_7d493_14

set_option maxRecDepth 100000 in
set_option maxHeartbeats 4000000 in
theorem c_J0_isLatin1_aae02 {l : Launch} {D : va_G} {cI cB : ClassId} (ad ab : Nat → Nat) (q b ln : Nat) (f : Nat → Int32)  : CI (S := Unit) l (XZS ad ab [] q b ln f) D cI cB yJ0_isLatin1_aae02 cJ0_isLatin1_aae02 1 (some .boolean) 0 0 0 0 [.ref q] [] (fun r (_ : Unit) => r = 1) (fun _ => []) := by
  refine CI.of (by decide) (Nat.le_of_ble_eq_true rfl) ?_
  intro p e s m below meth c A ls E hr hk hin hA hAA hX Y hl
  have E : EE p c cJ0_isLatin1_aae02 1 s _ m RJ0 D cI cB := E
  have hl : lv_has ls 1 [(0, .ref q)] := hl
  have hZ : ZB ad ab A s s.heap := hX.1.narrow hAA
  have hR : RS q b ln f A s s.heap := hX.2.narrow hAA
  refine va_gets E.1.1 E.1.2.1 hZ.1 Y.2.2 E.1.2.2.2.1 (E.1.2.2.2.2 _ mf_J0_38) (fun _ h => h) dJ0_isLatin1_aae02_0 ?_
  refine lv_if_eq (tgt := 17) E.1.1 E.1.2.1 dJ0_isLatin1_aae02_3 (by decide) (fun c_3 => ?_) (fun c_3 => ?_)
  · exact absurd c_3 (by decide)
  · skip
    refine lv_aload_n E.1.1 E.1.2.1 dJ0_isLatin1_aae02_6 rfl (lv_at hl 0 rfl) ?_
    refine vk_getf E.1.1 E.1.2.1 hR.2.1 Y.2.2 E.1.2.2.2.1 (E.1.2.2.2.2 _ mf_J0_15) (fun _ h => h) dJ0_isLatin1_aae02_7 ?_
    refine lv_if_ne (tgt := 17) E.1.1 E.1.2.1 dJ0_isLatin1_aae02_10 (by decide) (fun c_10 => ?_) (fun c_10 => ?_)
    · exact absurd (by decide) c_10
    · skip
      refine lv_iconst (v := 1) E.1.1 E.1.2.1 dJ0_isLatin1_aae02_13 (by decide) ?_
      refine lv_goto (tgt := 18) E.1.1 E.1.2.1 dJ0_isLatin1_aae02_14 (by decide) ?_
      exact r_zret E Y hr hk (1 : Int32) rfl () (rfl) rfl ⟨Nat.le_of_ble_eq_true rfl, Nat.le_of_ble_eq_true rfl⟩ dJ0_isLatin1_aae02_18

set_option maxRecDepth 100000 in
set_option maxHeartbeats 4000000 in
theorem c_J0_length_8abf5 {l : Launch} {D : va_G} {cI cB : ClassId} (ad ab : Nat → Nat) (q b ln : Nat) (f : Nat → Int32)  : CI (S := Unit) l (XZS ad ab [] q b ln f) D cI cB yJ0_length_8abf5 cJ0_length_8abf5 1 (some .int) 1 20 0 0 [.ref q] [] (fun r (_ : Unit) => r = nI ln) (fun _ => []) := by
  refine CI.of (by decide) (Nat.le_of_ble_eq_true rfl) ?_
  intro p e s m below meth c A ls E hr hk hin hA hAA hX Y hl
  have E : EE p c cJ0_length_8abf5 1 s _ m RJ0 D cI cB := E
  have hl : lv_has ls 1 [(0, .ref q)] := hl
  have hZ : ZB ad ab A s s.heap := hX.1.narrow hAA
  have hR : RS q b ln f A s s.heap := hX.2.narrow hAA
  refine lv_aload_n E.1.1 E.1.2.1 dJ0_length_8abf5_0 rfl (lv_at hl 0 rfl) ?_
  refine vk_getf E.1.1 E.1.2.1 hR.2.2.1 Y.2.2 E.1.2.2.2.1 (E.1.2.2.2.2 _ mf_J0_9) (fun _ h => h) dJ0_length_8abf5_1 ?_
  refine va_tlen (v := (nI ln)) E.1.1 E.1.2.1 hR.2.2.2 Y.2.2 rfl dJ0_length_8abf5_4 ?_
  refine lv_aload_n E.1.1 E.1.2.1 dJ0_length_8abf5_5 rfl (lv_at hl 0 rfl) ?_
  refine g_i (wr := []) (w2 := fun _ => []) (run_V E ((c_J0_coder_7d493 ad ab q b ln f) _) lk_J0_335 xbZS (pre_of E Y [] rfl (by decide) (fun U hU hW => ⟨hZ.pass Y.2.2 hU hW (va_free Y.2.1 Y.2.2 hA [] rfl), RS.pass hR Y.2.2 hU hW (va_free Y.2.1 Y.2.2 hA [] rfl)⟩)) (rcv_of hR Y.2.2) hl.1 ⟨Nat.le_of_ble_eq_true rfl, Nat.le_of_ble_eq_true rfl⟩ ⟨Nat.le_of_ble_eq_true rfl, Nat.le_of_ble_eq_true rfl⟩ rfl rfl (Nat.le_of_ble_eq_true rfl) dJ0_length_8abf5_6) Y hA [] [] [] rfl rfl (by decide) (fun _ => rfl) (fun r u H locs hp Y => ?_)
  refine lv_cst (v := (0 : Int32)) hp ?_
  refine lv_ishr E.1.1 E.1.2.1 dJ0_length_8abf5_9 ?_
  refine lv_cst (v := (nI ln)) (sb_shr0 _) ?_
  exact r_iret E Y hr hk (nI ln) () (rfl) rfl ⟨Nat.le_of_ble_eq_true rfl, Nat.le_of_ble_eq_true rfl⟩ dJ0_length_8abf5_10

set_option maxRecDepth 100000 in
set_option maxHeartbeats 4000000 in
theorem c_J3_checkIndex_8e157_n {l : Launch} {D : va_G} {cI cB : ClassId} (p0 p1 : Int32) (h0 : ¬ p0 < 0) (h1 : p0 < p1) : CI (S := Unit) l X0 D cI cB yJ3_checkIndex_8e157 cJ3_checkIndex_8e157 3 (some .int) 0 0 0 0 [.int p0, .int p1, .null] [] (fun r (_ : Unit) => r = p0) (fun _ => []) := by
  refine CI.of (by decide) (Nat.le_of_ble_eq_true rfl) ?_
  intro p e s m below meth c A ls E hr hk hin hA hAA hX Y hl
  have E : EE p c cJ3_checkIndex_8e157 3 s _ m RJ3 D cI cB := E
  have hl : lv_has ls 3 [(0, .int p0), (1, .int p1), (2, .null)] := hl
  refine lv_iload_n E.1.1 E.1.2.1 dJ3_checkIndex_8e157_0 rfl (lv_at hl 0 rfl) ?_
  refine lv_if_lt (tgt := 9) E.1.1 E.1.2.1 dJ3_checkIndex_8e157_1 (by decide) (fun c_1 => ?_) (fun c_1 => ?_)
  · exact absurd c_1 h0
  · skip
    refine lv_iload_n E.1.1 E.1.2.1 dJ3_checkIndex_8e157_4 rfl (lv_at hl 0 rfl) ?_
    refine lv_iload_n E.1.1 E.1.2.1 dJ3_checkIndex_8e157_5 rfl (lv_at hl 1 rfl) ?_
    refine lv_icmp_lt (tgt := 16) E.1.1 E.1.2.1 dJ3_checkIndex_8e157_6 (by decide) (fun c_6 => ?_) (fun c_6 => ?_)
    · skip
      refine lv_iload_n E.1.1 E.1.2.1 dJ3_checkIndex_8e157_16 rfl (lv_at hl 0 rfl) ?_
      exact r_iret E Y hr hk p0 () (rfl) rfl ⟨Nat.le_of_ble_eq_true rfl, Nat.le_of_ble_eq_true rfl⟩ dJ3_checkIndex_8e157_17
    · exact absurd h1 c_6

set_option maxRecDepth 100000 in
set_option maxHeartbeats 4000000 in
theorem c_J3_checkIndex_8e157_r {l : Launch} {D : va_G} {cI cB : ClassId} (p0 p1 : Int32) (tq : Nat) (h0 : ¬ p0 < 0) (h1 : p0 < p1) : CI (S := Unit) l X0 D cI cB yJ3_checkIndex_8e157 cJ3_checkIndex_8e157 3 (some .int) 0 0 0 0 [.int p0, .int p1, .ref tq] [] (fun r (_ : Unit) => r = p0) (fun _ => []) := by
  refine CI.of (by decide) (Nat.le_of_ble_eq_true rfl) ?_
  intro p e s m below meth c A ls E hr hk hin hA hAA hX Y hl
  have E : EE p c cJ3_checkIndex_8e157 3 s _ m RJ3 D cI cB := E
  have hl : lv_has ls 3 [(0, .int p0), (1, .int p1), (2, .ref tq)] := hl
  refine lv_iload_n E.1.1 E.1.2.1 dJ3_checkIndex_8e157_0 rfl (lv_at hl 0 rfl) ?_
  refine lv_if_lt (tgt := 9) E.1.1 E.1.2.1 dJ3_checkIndex_8e157_1 (by decide) (fun c_1 => ?_) (fun c_1 => ?_)
  · exact absurd c_1 h0
  · skip
    refine lv_iload_n E.1.1 E.1.2.1 dJ3_checkIndex_8e157_4 rfl (lv_at hl 0 rfl) ?_
    refine lv_iload_n E.1.1 E.1.2.1 dJ3_checkIndex_8e157_5 rfl (lv_at hl 1 rfl) ?_
    refine lv_icmp_lt (tgt := 16) E.1.1 E.1.2.1 dJ3_checkIndex_8e157_6 (by decide) (fun c_6 => ?_) (fun c_6 => ?_)
    · skip
      refine lv_iload_n E.1.1 E.1.2.1 dJ3_checkIndex_8e157_16 rfl (lv_at hl 0 rfl) ?_
      exact r_iret E Y hr hk p0 () (rfl) rfl ⟨Nat.le_of_ble_eq_true rfl, Nat.le_of_ble_eq_true rfl⟩ dJ3_checkIndex_8e157_17
    · exact absurd h1 c_6

set_option maxRecDepth 100000 in
set_option maxHeartbeats 4000000 in
theorem c_J3_checkFromToIndex_8c36e_n {l : Launch} {D : va_G} {cI cB : ClassId} (p0 p1 p2 : Int32) (h0 : ¬ p0 < 0) (h1 : ¬ p1 < p0) (h2 : p1 ≤ p2) : CI (S := Unit) l X0 D cI cB yJ3_checkFromToIndex_8c36e cJ3_checkFromToIndex_8c36e 4 (some .int) 0 0 0 0 [.int p0, .int p1, .int p2, .null] [] (fun r (_ : Unit) => r = p0) (fun _ => []) := by
  refine CI.of (by decide) (Nat.le_of_ble_eq_true rfl) ?_
  intro p e s m below meth c A ls E hr hk hin hA hAA hX Y hl
  have E : EE p c cJ3_checkFromToIndex_8c36e 4 s _ m RJ3 D cI cB := E
  have hl : lv_has ls 4 [(0, .int p0), (1, .int p1), (2, .int p2), (3, .null)] := hl
  refine lv_iload_n E.1.1 E.1.2.1 dJ3_checkFromToIndex_8c36e_0 rfl (lv_at hl 0 rfl) ?_
  refine lv_if_lt (tgt := 14) E.1.1 E.1.2.1 dJ3_checkFromToIndex_8c36e_1 (by decide) (fun c_1 => ?_) (fun c_1 => ?_)
  · exact absurd c_1 h0
  · skip
    refine lv_iload_n E.1.1 E.1.2.1 dJ3_checkFromToIndex_8c36e_4 rfl (lv_at hl 0 rfl) ?_
    refine lv_iload_n E.1.1 E.1.2.1 dJ3_checkFromToIndex_8c36e_5 rfl (lv_at hl 1 rfl) ?_
    refine lv_icmp_gt (tgt := 14) E.1.1 E.1.2.1 dJ3_checkFromToIndex_8c36e_6 (by decide) (fun c_6 => ?_) (fun c_6 => ?_)
    · exact absurd c_6 h1
    · skip
      refine lv_iload_n E.1.1 E.1.2.1 dJ3_checkFromToIndex_8c36e_9 rfl (lv_at hl 1 rfl) ?_
      refine lv_iload_n E.1.1 E.1.2.1 dJ3_checkFromToIndex_8c36e_10 rfl (lv_at hl 2 rfl) ?_
      refine lv_icmp_le (tgt := 22) E.1.1 E.1.2.1 dJ3_checkFromToIndex_8c36e_11 (by decide) (fun c_11 => ?_) (fun c_11 => ?_)
      · skip
        refine lv_iload_n E.1.1 E.1.2.1 dJ3_checkFromToIndex_8c36e_22 rfl (lv_at hl 0 rfl) ?_
        exact r_iret E Y hr hk p0 () (rfl) rfl ⟨Nat.le_of_ble_eq_true rfl, Nat.le_of_ble_eq_true rfl⟩ dJ3_checkFromToIndex_8c36e_23
      · exact absurd h2 c_11

set_option maxRecDepth 100000 in
set_option maxHeartbeats 4000000 in
theorem c_J3_checkFromToIndex_8c36e_r {l : Launch} {D : va_G} {cI cB : ClassId} (p0 p1 p2 : Int32) (tq : Nat) (h0 : ¬ p0 < 0) (h1 : ¬ p1 < p0) (h2 : p1 ≤ p2) : CI (S := Unit) l X0 D cI cB yJ3_checkFromToIndex_8c36e cJ3_checkFromToIndex_8c36e 4 (some .int) 0 0 0 0 [.int p0, .int p1, .int p2, .ref tq] [] (fun r (_ : Unit) => r = p0) (fun _ => []) := by
  refine CI.of (by decide) (Nat.le_of_ble_eq_true rfl) ?_
  intro p e s m below meth c A ls E hr hk hin hA hAA hX Y hl
  have E : EE p c cJ3_checkFromToIndex_8c36e 4 s _ m RJ3 D cI cB := E
  have hl : lv_has ls 4 [(0, .int p0), (1, .int p1), (2, .int p2), (3, .ref tq)] := hl
  refine lv_iload_n E.1.1 E.1.2.1 dJ3_checkFromToIndex_8c36e_0 rfl (lv_at hl 0 rfl) ?_
  refine lv_if_lt (tgt := 14) E.1.1 E.1.2.1 dJ3_checkFromToIndex_8c36e_1 (by decide) (fun c_1 => ?_) (fun c_1 => ?_)
  · exact absurd c_1 h0
  · skip
    refine lv_iload_n E.1.1 E.1.2.1 dJ3_checkFromToIndex_8c36e_4 rfl (lv_at hl 0 rfl) ?_
    refine lv_iload_n E.1.1 E.1.2.1 dJ3_checkFromToIndex_8c36e_5 rfl (lv_at hl 1 rfl) ?_
    refine lv_icmp_gt (tgt := 14) E.1.1 E.1.2.1 dJ3_checkFromToIndex_8c36e_6 (by decide) (fun c_6 => ?_) (fun c_6 => ?_)
    · exact absurd c_6 h1
    · skip
      refine lv_iload_n E.1.1 E.1.2.1 dJ3_checkFromToIndex_8c36e_9 rfl (lv_at hl 1 rfl) ?_
      refine lv_iload_n E.1.1 E.1.2.1 dJ3_checkFromToIndex_8c36e_10 rfl (lv_at hl 2 rfl) ?_
      refine lv_icmp_le (tgt := 22) E.1.1 E.1.2.1 dJ3_checkFromToIndex_8c36e_11 (by decide) (fun c_11 => ?_) (fun c_11 => ?_)
      · skip
        refine lv_iload_n E.1.1 E.1.2.1 dJ3_checkFromToIndex_8c36e_22 rfl (lv_at hl 0 rfl) ?_
        exact r_iret E Y hr hk p0 () (rfl) rfl ⟨Nat.le_of_ble_eq_true rfl, Nat.le_of_ble_eq_true rfl⟩ dJ3_checkFromToIndex_8c36e_23
      · exact absurd h2 c_11

set_option maxRecDepth 100000 in
set_option maxHeartbeats 4000000 in
theorem c_J0_checkIndex_df160 {l : Launch} {D : va_G} {cI cB : ClassId} (ad ab : Nat → Nat) (p0 p1 : Int32) (h0 : ¬ p0 < 0) (h1 : p0 < p1) : CV (S := Unit) l (XZ ad ab []) D cI cB yJ0_checkIndex_df160 cJ0_checkIndex_df160 2 1 22 0 0 [.int p0, .int p1] [] (fun _ => True) (fun _ => []) := by
  refine CV.of (by decide) (Nat.le_of_ble_eq_true rfl) ?_
  intro p e s m below meth c A ls E hr hk hin hA hAA hX Y hl
  have E : EE p c cJ0_checkIndex_df160 2 s _ m RJ0 D cI cB := E
  have hl : lv_has ls 2 [(0, .int p0), (1, .int p1)] := hl
  have hZ : ZB ad ab A s s.heap := hX.narrow hAA
  refine lv_iload_n E.1.1 E.1.2.1 dJ0_checkIndex_df160_0 rfl (lv_at hl 0 rfl) ?_
  refine lv_iload_n E.1.1 E.1.2.1 dJ0_checkIndex_df160_1 rfl (lv_at hl 1 rfl) ?_
  rcases hZ.2.1 with hq | ⟨tq, hq⟩
  · refine va_gets E.1.1 E.1.2.1 hq Y.2.2 E.1.2.2.2.1 (E.1.2.2.2.2 _ mf_J0_1053) (fun _ h => h) dJ0_checkIndex_df160_2 ?_
    refine g_i (wr := []) (w2 := fun _ => []) (run_S E ((c_J3_checkIndex_8e157_n p0 p1 h0 h1) _) lk_J0_1059 X0b (pre_of E Y [] rfl (by decide) (fun U hU hW => trivial)) hl.1 ⟨Nat.le_of_ble_eq_true rfl, Nat.le_of_ble_eq_true rfl⟩ ⟨Nat.le_of_ble_eq_true rfl, Nat.le_of_ble_eq_true rfl⟩ rfl rfl (Nat.le_of_ble_eq_true rfl) dJ0_checkIndex_df160_5) Y hA [] [] [] rfl rfl (by decide) (fun _ => rfl) (fun r u H locs hp Y => ?_)
    refine lv_cst (v := p0) hp ?_
    refine lv_pop E.1.1 E.1.2.1 dJ0_checkIndex_df160_8 rfl ?_
    exact r_vret E Y hr hk () (trivial) rfl ⟨Nat.le_of_ble_eq_true rfl, Nat.le_of_ble_eq_true rfl⟩ dJ0_checkIndex_df160_9
  · refine va_gets E.1.1 E.1.2.1 hq Y.2.2 E.1.2.2.2.1 (E.1.2.2.2.2 _ mf_J0_1053) (fun _ h => h) dJ0_checkIndex_df160_2 ?_
    refine g_i (wr := []) (w2 := fun _ => []) (run_S E ((c_J3_checkIndex_8e157_r p0 p1 tq h0 h1) _) lk_J0_1059 X0b (pre_of E Y [] rfl (by decide) (fun U hU hW => trivial)) hl.1 ⟨Nat.le_of_ble_eq_true rfl, Nat.le_of_ble_eq_true rfl⟩ ⟨Nat.le_of_ble_eq_true rfl, Nat.le_of_ble_eq_true rfl⟩ rfl rfl (Nat.le_of_ble_eq_true rfl) dJ0_checkIndex_df160_5) Y hA [] [] [] rfl rfl (by decide) (fun _ => rfl) (fun r u H locs hp Y => ?_)
    refine lv_cst (v := p0) hp ?_
    refine lv_pop E.1.1 E.1.2.1 dJ0_checkIndex_df160_8 rfl ?_
    exact r_vret E Y hr hk () (trivial) rfl ⟨Nat.le_of_ble_eq_true rfl, Nat.le_of_ble_eq_true rfl⟩ dJ0_checkIndex_df160_9

set_option maxRecDepth 100000 in
set_option maxHeartbeats 4000000 in
theorem c_J0_checkBoundsBeginEnd_23922 {l : Launch} {D : va_G} {cI cB : ClassId} (ad ab : Nat → Nat) (p0 p1 p2 : Int32) (h0 : ¬ p0 < 0) (h1 : ¬ p1 < p0) (h2 : p1 ≤ p2) : CV (S := Unit) l (XZ ad ab []) D cI cB yJ0_checkBoundsBeginEnd_23922 cJ0_checkBoundsBeginEnd_23922 3 1 23 0 0 [.int p0, .int p1, .int p2] [] (fun _ => True) (fun _ => []) := by
  refine CV.of (by decide) (Nat.le_of_ble_eq_true rfl) ?_
  intro p e s m below meth c A ls E hr hk hin hA hAA hX Y hl
  have E : EE p c cJ0_checkBoundsBeginEnd_23922 3 s _ m RJ0 D cI cB := E
  have hl : lv_has ls 3 [(0, .int p0), (1, .int p1), (2, .int p2)] := hl
  have hZ : ZB ad ab A s s.heap := hX.narrow hAA
  refine lv_iload_n E.1.1 E.1.2.1 dJ0_checkBoundsBeginEnd_23922_0 rfl (lv_at hl 0 rfl) ?_
  refine lv_iload_n E.1.1 E.1.2.1 dJ0_checkBoundsBeginEnd_23922_1 rfl (lv_at hl 1 rfl) ?_
  refine lv_iload_n E.1.1 E.1.2.1 dJ0_checkBoundsBeginEnd_23922_2 rfl (lv_at hl 2 rfl) ?_
  rcases hZ.2.1 with hq | ⟨tq, hq⟩
  · refine va_gets E.1.1 E.1.2.1 hq Y.2.2 E.1.2.2.2.1 (E.1.2.2.2.2 _ mf_J0_1053) (fun _ h => h) dJ0_checkBoundsBeginEnd_23922_3 ?_
    refine g_i (wr := []) (w2 := fun _ => []) (run_S E ((c_J3_checkFromToIndex_8c36e_n p0 p1 p2 h0 h1 h2) _) lk_J0_1062 X0b (pre_of E Y [] rfl (by decide) (fun U hU hW => trivial)) hl.1 ⟨Nat.le_of_ble_eq_true rfl, Nat.le_of_ble_eq_true rfl⟩ ⟨Nat.le_of_ble_eq_true rfl, Nat.le_of_ble_eq_true rfl⟩ rfl rfl (Nat.le_of_ble_eq_true rfl) dJ0_checkBoundsBeginEnd_23922_6) Y hA [] [] [] rfl rfl (by decide) (fun _ => rfl) (fun r u H locs hp Y => ?_)
    refine lv_cst (v := p0) hp ?_
    refine lv_pop E.1.1 E.1.2.1 dJ0_checkBoundsBeginEnd_23922_9 rfl ?_
    exact r_vret E Y hr hk () (trivial) rfl ⟨Nat.le_of_ble_eq_true rfl, Nat.le_of_ble_eq_true rfl⟩ dJ0_checkBoundsBeginEnd_23922_10
  · refine va_gets E.1.1 E.1.2.1 hq Y.2.2 E.1.2.2.2.1 (E.1.2.2.2.2 _ mf_J0_1053) (fun _ h => h) dJ0_checkBoundsBeginEnd_23922_3 ?_
    refine g_i (wr := []) (w2 := fun _ => []) (run_S E ((c_J3_checkFromToIndex_8c36e_r p0 p1 p2 tq h0 h1 h2) _) lk_J0_1062 X0b (pre_of E Y [] rfl (by decide) (fun U hU hW => trivial)) hl.1 ⟨Nat.le_of_ble_eq_true rfl, Nat.le_of_ble_eq_true rfl⟩ ⟨Nat.le_of_ble_eq_true rfl, Nat.le_of_ble_eq_true rfl⟩ rfl rfl (Nat.le_of_ble_eq_true rfl) dJ0_checkBoundsBeginEnd_23922_6) Y hA [] [] [] rfl rfl (by decide) (fun _ => rfl) (fun r u H locs hp Y => ?_)
    refine lv_cst (v := p0) hp ?_
    refine lv_pop E.1.1 E.1.2.1 dJ0_checkBoundsBeginEnd_23922_9 rfl ?_
    exact r_vret E Y hr hk () (trivial) rfl ⟨Nat.le_of_ble_eq_true rfl, Nat.le_of_ble_eq_true rfl⟩ dJ0_checkBoundsBeginEnd_23922_10

set_option maxRecDepth 100000 in
set_option maxHeartbeats 4000000 in
theorem c_J1_charAt_3b067 {l : Launch} {D : va_G} {cI cB : ClassId} (ad ab : Nat → Nat) (b ln : Nat) (f : Nat → Int32) (j : Nat) (hj : j < ln) (hn : ln < 2 ^ 31) (hf : btw (f j) 0 127) : CI (S := Unit) l (XZA ad ab [] b ln f) D cI cB yJ1_charAt_3b067 cJ1_charAt_3b067 2 (some .char) 2 43 0 0 [.ref b, .int (nI j)] [] (fun r (_ : Unit) => r = f j) (fun _ => []) := by
  refine CI.of (by decide) (Nat.le_of_ble_eq_true rfl) ?_
  intro p e s m below meth c A ls E hr hk hin hA hAA hX Y hl
  have E : EE p c cJ1_charAt_3b067 2 s _ m RJ1 D cI cB := E
  have hl : lv_has ls 2 [(0, .ref b), (1, .int (nI j))] := hl
  have hZ : ZB ad ab A s s.heap := hX.1.narrow hAA
  have hR : RA b ln f A s s.heap := va_T.narrow hX.2 hAA
  refine lv_iload_n E.1.1 E.1.2.1 dJ1_charAt_3b067_0 rfl (lv_at hl 1 rfl) ?_
  refine lv_aload_n E.1.1 E.1.2.1 dJ1_charAt_3b067_1 rfl (lv_at hl 0 rfl) ?_
  refine va_tlen (v := (nI ln)) E.1.1 E.1.2.1 hR Y.2.2 rfl dJ1_charAt_3b067_2 ?_
  refine g_v (wr := []) (w2 := fun _ => []) (run_S E ((c_J0_checkIndex_df160 ad ab (nI j) (nI ln) (nI_pos (by omega)) (nI_lt hj hn)) _) lk_J1_9 xbZ (pre_of E Y [] rfl (by decide) (fun U hU hW => hZ.pass Y.2.2 hU hW (va_free Y.2.1 Y.2.2 hA [] rfl))) hl.1 ⟨Nat.le_of_ble_eq_true rfl, Nat.le_of_ble_eq_true rfl⟩ ⟨Nat.le_of_ble_eq_true rfl, Nat.le_of_ble_eq_true rfl⟩ rfl rfl (Nat.le_of_ble_eq_true rfl) dJ1_charAt_3b067_3) Y hA [] [] [] rfl rfl (by decide) (fun _ => rfl) (fun u H locs hp Y => ?_)
  refine lv_aload_n E.1.1 E.1.2.1 dJ1_charAt_3b067_6 rfl (lv_at hl 0 rfl) ?_
  refine lv_iload_n E.1.1 E.1.2.1 dJ1_charAt_3b067_7 rfl (lv_at hl 1 rfl) ?_
  refine va_tb (v := .int (f j)) E.1.1 E.1.2.1 hR Y.2.2 (vp_in_nI hj hn) (congrArg (fun z => Value.int (f z)) (nI_clamp (by omega))) dJ1_charAt_3b067_8 ?_
  refine lv_sipush (v := 255) E.1.1 E.1.2.1 dJ1_charAt_3b067_9 (by decide) ?_
  refine lv_iand E.1.1 E.1.2.1 dJ1_charAt_3b067_12 ?_
  refine lv_i2c E.1.1 E.1.2.1 dJ1_charAt_3b067_13 rfl ?_
  refine lv_cst (v := (f j)) (c32 hf) ?_
  exact r_zret E Y hr hk (f j) (c32n hf) () (rfl) rfl ⟨Nat.le_of_ble_eq_true rfl, Nat.le_of_ble_eq_true rfl⟩ dJ1_charAt_3b067_14

set_option maxRecDepth 100000 in
set_option maxHeartbeats 4000000 in
theorem c_J0_charAt_5068e {l : Launch} {D : va_G} {cI cB : ClassId} (ad ab : Nat → Nat) (q b ln : Nat) (f : Nat → Int32) (j : Nat) (hj : j < ln) (hn : ln < 2 ^ 31) (hf : btw (f j) 0 127) : CI (S := Unit) l (XZS ad ab [] q b ln f) D cI cB yJ0_charAt_5068e cJ0_charAt_5068e 2 (some .char) 3 64 0 0 [.ref q, .int (nI j)] [] (fun r (_ : Unit) => r = f j) (fun _ => []) := by
  refine CI.of (by decide) (Nat.le_of_ble_eq_true rfl) ?_
  intro p e s m below meth c A ls E hr hk hin hA hAA hX Y hl
  have E : EE p c cJ0_charAt_5068e 2 s _ m RJ0 D cI cB := E
  have hl : lv_has ls 2 [(0, .ref q), (1, .int (nI j))] := hl
  have hZ : ZB ad ab A s s.heap := hX.1.narrow hAA
  have hR : RS q b ln f A s s.heap := hX.2.narrow hAA
  refine lv_aload_n E.1.1 E.1.2.1 dJ0_charAt_5068e_0 rfl (lv_at hl 0 rfl) ?_
  refine g_i (wr := []) (w2 := fun _ => []) (run_V E ((c_J0_isLatin1_aae02 ad ab q b ln f) _) lk_J0_492 xbZS (pre_of E Y [] rfl (by decide) (fun U hU hW => ⟨hZ.pass Y.2.2 hU hW (va_free Y.2.1 Y.2.2 hA [] rfl), RS.pass hR Y.2.2 hU hW (va_free Y.2.1 Y.2.2 hA [] rfl)⟩)) (rcv_of hR Y.2.2) hl.1 ⟨Nat.le_of_ble_eq_true rfl, Nat.le_of_ble_eq_true rfl⟩ ⟨Nat.le_of_ble_eq_true rfl, Nat.le_of_ble_eq_true rfl⟩ rfl rfl (Nat.le_of_ble_eq_true rfl) dJ0_charAt_5068e_1) Y hA [] [] [] rfl rfl (by decide) (fun _ => rfl) (fun r u H locs hp Y => ?_)
  refine lv_cst (v := (1 : Int32)) hp ?_
  refine lv_if_eq (tgt := 16) E.1.1 E.1.2.1 dJ0_charAt_5068e_4 (by decide) (fun c_4 => ?_) (fun c_4 => ?_)
  · exact absurd c_4 (by decide)
  · skip
    refine lv_aload_n E.1.1 E.1.2.1 dJ0_charAt_5068e_7 rfl (lv_at hl 0 rfl) ?_
    refine vk_getf E.1.1 E.1.2.1 hR.2.2.1 Y.2.2 E.1.2.2.2.1 (E.1.2.2.2.2 _ mf_J0_9) (fun _ h => h) dJ0_charAt_5068e_8 ?_
    refine lv_iload_n E.1.1 E.1.2.1 dJ0_charAt_5068e_11 rfl (lv_at hl 1 rfl) ?_
    refine g_i (wr := []) (w2 := fun _ => []) (run_S E ((c_J1_charAt_3b067 ad ab b ln f j hj hn hf) _) lk_J0_495 xbZA (pre_of E Y [] rfl (by decide) (fun U hU hW => ⟨hZ.pass Y.2.2 hU hW (va_free Y.2.1 Y.2.2 hA [] rfl), RA.pass hR.2.2.2 Y.2.2 hU hW (va_free Y.2.1 Y.2.2 hA [] rfl)⟩)) hl.1 ⟨Nat.le_of_ble_eq_true rfl, Nat.le_of_ble_eq_true rfl⟩ ⟨Nat.le_of_ble_eq_true rfl, Nat.le_of_ble_eq_true rfl⟩ rfl rfl (Nat.le_of_ble_eq_true rfl) dJ0_charAt_5068e_12) Y hA [] [] [] rfl rfl (by decide) (fun _ => rfl) (fun r u H locs hp Y => ?_)
    refine lv_cst (v := (f j)) hp ?_
    exact r_zret E Y hr hk (f j) (c32n hf) () (rfl) rfl ⟨Nat.le_of_ble_eq_true rfl, Nat.le_of_ble_eq_true rfl⟩ dJ0_charAt_5068e_15

set_option maxRecDepth 100000 in
set_option maxHeartbeats 4000000 in
theorem c_J1_indexOfChar_4cfef {l : Launch} {D : va_G} {cI cB : ClassId} (ad ab : Nat → Nat) (b ln : Nat) (f : Nat → Int32) (hn : ln < 2 ^ 31) : CI (S := Unit) l (XZA ad ab [] b ln f) D cI cB yJ1_indexOfChar_4cfef cJ1_indexOfChar_4cfef 6 (some .int) 0 0 0 0 [.ref b, .int (32 : Int32), .int (0 : Int32), .int (nI ln)] [] (fun r (_ : Unit) => r = spc f ln 0) (fun _ => []) := by
  refine CI.of (by decide) (Nat.le_of_ble_eq_true rfl) ?_
  intro p e s m below meth c A ls E hr hk hin hA hAA hX Y hl
  have E : EE p c cJ1_indexOfChar_4cfef 6 s _ m RJ1 D cI cB := E
  have hl : lv_has ls 6 [(0, .ref b), (1, .int (32 : Int32)), (2, .int (0 : Int32)), (3, .int (nI ln))] := hl
  have hZ : ZB ad ab A s s.heap := hX.1.narrow hAA
  have hR : RA b ln f A s s.heap := va_T.narrow hX.2 hAA
  refine lv_iload_n E.1.1 E.1.2.1 dJ1_indexOfChar_4cfef_0 rfl (lv_at hl 1 rfl) ?_
  refine lv_i2b E.1.1 E.1.2.1 dJ1_indexOfChar_4cfef_1 rfl ?_
  refine lv_cst (v := (32 : Int32)) (by decide) ?_
  refine lv_istore (lv' := [(4, .int (32 : Int32)), (0, .ref b), (1, .int (32 : Int32)), (2, .int (0 : Int32)), (3, .int (nI ln))]) E.1.1 E.1.2.1 dJ1_indexOfChar_4cfef_2 hl (by decide) rfl (fun ls hl => ?_)
  refine lv_iload_n E.1.1 E.1.2.1 dJ1_indexOfChar_4cfef_4 rfl (lv_at hl 3 rfl) ?_
  refine lv_istore (lv' := [(5, .int (0 : Int32)), (4, .int (32 : Int32)), (0, .ref b), (1, .int (32 : Int32)), (2, .int (0 : Int32)), (3, .int (nI ln))]) E.1.1 E.1.2.1 dJ1_indexOfChar_4cfef_5 hl (by decide) rfl (fun ls hl => ?_)
  have hL : ∀ (n : Nat) (j : Nat) (hj : j ≤ ln) (hm : ln < j + n) (hs : spc f ln 0 = spc f (ln - j) j), ∀ (H : Heap) (locs : List Loc) (ls : Array Slot), WD D A s.heap H locs [] → lv_has ls 6 [(0, .ref b), (1, .int (32 : Int32)), (2, .int (0 : Int32)), (3, .int (nI ln)), (4, .int (32 : Int32)), (5, .int (nI j))] → W p l e { frames := 0, cells := 0, slots := 0, locals := 0 } s m ([.ref b, .int (32 : Int32), .int (0 : Int32), .int (nI ln)] : List Value).toArray below meth c H locs 0 0 (MQ below (va_Qi (fun r (_ : Unit) => r = spc f ln 0) (AT D cI cB A (fun _ => [])) A) ([.ref b, .int (32 : Int32), .int (0 : Int32), .int (nI ln)] : List Value).toArray s 0 0 A) (F0 m 7 ls []) := by
    intro n
    induction n with
    | zero => intro j hj hm hs; exact absurd hm (by omega)
    | succ n ih =>
      intro j hj hm hs H locs ls Y hl
      refine lv_iload E.1.1 E.1.2.1 dJ1_indexOfChar_4cfef_7 (lv_at hl 5 rfl) ?_
      refine lv_iload_n E.1.1 E.1.2.1 dJ1_indexOfChar_4cfef_9 rfl (lv_at hl 3 rfl) ?_
      refine lv_icmp_ge (tgt := 31) E.1.1 E.1.2.1 dJ1_indexOfChar_4cfef_10 (by decide) (fun c_10 => ?_) (fun c_10 => ?_)
      · skip
        refine lv_iconst (v := (-1)) E.1.1 E.1.2.1 dJ1_indexOfChar_4cfef_31 (by decide) ?_
        exact r_iret E Y hr hk (-1 : Int32) () (ic_n hs (nI_yge c_10 hn (by omega))) rfl ⟨Nat.le_of_ble_eq_true rfl, Nat.le_of_ble_eq_true rfl⟩ dJ1_indexOfChar_4cfef_32
      · skip
        refine lv_aload_n E.1.1 E.1.2.1 dJ1_indexOfChar_4cfef_13 rfl (lv_at hl 0 rfl) ?_
        refine lv_iload E.1.1 E.1.2.1 dJ1_indexOfChar_4cfef_14 (lv_at hl 5 rfl) ?_
        refine va_tb (v := .int (f j)) E.1.1 E.1.2.1 hR Y.2.2 (vp_in_nI (nI_nge c_10 (by omega)) hn) (congrArg (fun z => Value.int (f z)) (nI_clamp (by omega))) dJ1_indexOfChar_4cfef_16 ?_
        refine lv_iload E.1.1 E.1.2.1 dJ1_indexOfChar_4cfef_17 (lv_at hl 4 rfl) ?_
        refine lv_icmp_ne (tgt := 25) E.1.1 E.1.2.1 dJ1_indexOfChar_4cfef_19 (by decide) (fun c_19 => ?_) (fun c_19 => ?_)
        · skip
          refine lv_iinc (v := (nI (j + 1))) (lv' := [(5, .int (nI (j + 1))), (0, .ref b), (1, .int (32 : Int32)), (2, .int (0 : Int32)), (3, .int (nI ln)), (4, .int (32 : Int32))]) E.1.1 E.1.2.1 dJ1_indexOfChar_4cfef_25 hl (k := 5) rfl (nI_1 j) (by decide) rfl (fun ls hl => ?_)
          refine lv_goto (tgt := 7) E.1.1 E.1.2.1 dJ1_indexOfChar_4cfef_28 (by decide) ?_
          exact ih (j + 1) (by have := nI_nge c_10 (by omega); omega) (by omega) (ic_b hs (nI_nge c_10 (by omega)) c_19) H locs ls Y (lv_sub hl [1, 2, 3, 4, 5, 0] rfl)
        · skip
          refine lv_iload E.1.1 E.1.2.1 dJ1_indexOfChar_4cfef_22 (lv_at hl 5 rfl) ?_
          exact r_iret E Y hr hk (nI j) () (ic_y hs (nI_nge c_10 (by omega)) c_19) rfl ⟨Nat.le_of_ble_eq_true rfl, Nat.le_of_ble_eq_true rfl⟩ dJ1_indexOfChar_4cfef_24
  exact hL (ln + 1) 0 (Nat.zero_le _) (by omega) (by rw [Nat.sub_zero]) _ _ _ Y (lv_sub hl [2, 3, 4, 5, 1, 0] rfl)

set_option maxRecDepth 100000 in
set_option maxHeartbeats 4000000 in
theorem c_J1_indexOf_4cfef {l : Launch} {D : va_G} {cI cB : ClassId} (ad ab : Nat → Nat) (b ln : Nat) (f : Nat → Int32) (hn : ln < 2 ^ 31) : CI (S := Unit) l (XZA ad ab [] b ln f) D cI cB yJ1_indexOf_4cfef cJ1_indexOf_4cfef 4 (some .int) 1 25 0 0 [.ref b, .int (32 : Int32), .int (0 : Int32), .int (nI ln)] [] (fun r (_ : Unit) => r = spc f ln 0) (fun _ => []) := by
  refine CI.of (by decide) (Nat.le_of_ble_eq_true rfl) ?_
  intro p e s m below meth c A ls E hr hk hin hA hAA hX Y hl
  have E : EE p c cJ1_indexOf_4cfef 4 s _ m RJ1 D cI cB := E
  have hl : lv_has ls 4 [(0, .ref b), (1, .int (32 : Int32)), (2, .int (0 : Int32)), (3, .int (nI ln))] := hl
  have hZ : ZB ad ab A s s.heap := hX.1.narrow hAA
  have hR : RA b ln f A s s.heap := va_T.narrow hX.2 hAA
  refine lv_iload_n E.1.1 E.1.2.1 dJ1_indexOf_4cfef_0 rfl (lv_at hl 1 rfl) ?_
  refine g_i (wr := []) (w2 := fun _ => []) (run_S E ((c_J1_canEncode_9a6ad (32 : Int32) (by decide) (by decide)) _) lk_J1_88 X0b (pre_of E Y [] rfl (by decide) (fun U hU hW => trivial)) hl.1 ⟨Nat.le_of_ble_eq_true rfl, Nat.le_of_ble_eq_true rfl⟩ ⟨Nat.le_of_ble_eq_true rfl, Nat.le_of_ble_eq_true rfl⟩ rfl rfl (Nat.le_of_ble_eq_true rfl) dJ1_indexOf_4cfef_1) Y hA [] [] [] rfl rfl (by decide) (fun _ => rfl) (fun r u H locs hp Y => ?_)
  refine lv_cst (v := (1 : Int32)) hp ?_
  refine lv_if_ne (tgt := 9) E.1.1 E.1.2.1 dJ1_indexOf_4cfef_4 (by decide) (fun c_4 => ?_) (fun c_4 => ?_)
  · skip
    refine lv_iload_n E.1.1 E.1.2.1 dJ1_indexOf_4cfef_9 rfl (lv_at hl 2 rfl) ?_
    refine lv_iconst (v := 0) E.1.1 E.1.2.1 dJ1_indexOf_4cfef_10 (by decide) ?_
    refine r_max E hl.1 mm_J1_92 ⟨Nat.le_of_ble_eq_true rfl, Nat.le_of_ble_eq_true rfl⟩ ⟨Nat.le_of_ble_eq_true rfl, Nat.le_of_ble_eq_true rfl⟩ dJ1_indexOf_4cfef_11 ?_
    refine lv_cst (v := (0 : Int32)) (by decide) ?_
    refine lv_istore_n (lv' := [(2, .int (0 : Int32)), (0, .ref b), (1, .int (32 : Int32)), (3, .int (nI ln))]) E.1.1 E.1.2.1 dJ1_indexOf_4cfef_14 rfl hl (by decide) rfl (fun ls hl => ?_)
    refine lv_iload_n E.1.1 E.1.2.1 dJ1_indexOf_4cfef_15 rfl (lv_at hl 3 rfl) ?_
    refine lv_aload_n E.1.1 E.1.2.1 dJ1_indexOf_4cfef_16 rfl (lv_at hl 1 rfl) ?_
    refine va_tlen (v := (nI ln)) E.1.1 E.1.2.1 hR Y.2.2 rfl dJ1_indexOf_4cfef_17 ?_
    refine r_min E hl.1 mm_J1_38 ⟨Nat.le_of_ble_eq_true rfl, Nat.le_of_ble_eq_true rfl⟩ ⟨Nat.le_of_ble_eq_true rfl, Nat.le_of_ble_eq_true rfl⟩ dJ1_indexOf_4cfef_18 ?_
    refine lv_cst (v := (nI ln)) (ite_self _) ?_
    refine lv_istore_n (lv' := [(3, .int (nI ln)), (2, .int (0 : Int32)), (0, .ref b), (1, .int (32 : Int32))]) E.1.1 E.1.2.1 dJ1_indexOf_4cfef_21 rfl hl (by decide) rfl (fun ls hl => ?_)
    refine lv_iload_n E.1.1 E.1.2.1 dJ1_indexOf_4cfef_22 rfl (lv_at hl 1 rfl) ?_
    refine lv_iload_n E.1.1 E.1.2.1 dJ1_indexOf_4cfef_23 rfl (lv_at hl 0 rfl) ?_
    refine lv_icmp_lt (tgt := 29) E.1.1 E.1.2.1 dJ1_indexOf_4cfef_24 (by decide) (fun c_24 => ?_) (fun c_24 => ?_)
    · skip
      refine lv_aload_n E.1.1 E.1.2.1 dJ1_indexOf_4cfef_29 rfl (lv_at hl 2 rfl) ?_
      refine lv_iload_n E.1.1 E.1.2.1 dJ1_indexOf_4cfef_30 rfl (lv_at hl 3 rfl) ?_
      refine lv_iload_n E.1.1 E.1.2.1 dJ1_indexOf_4cfef_31 rfl (lv_at hl 1 rfl) ?_
      refine lv_iload_n E.1.1 E.1.2.1 dJ1_indexOf_4cfef_32 rfl (lv_at hl 0 rfl) ?_
      refine g_i (wr := []) (w2 := fun _ => []) (run_S E ((c_J1_indexOfChar_4cfef ad ab b ln f hn) _) lk_J1_95 xbZA (pre_of E Y [] rfl (by decide) (fun U hU hW => ⟨hZ.pass Y.2.2 hU hW (va_free Y.2.1 Y.2.2 hA [] rfl), RA.pass hR Y.2.2 hU hW (va_free Y.2.1 Y.2.2 hA [] rfl)⟩)) hl.1 ⟨Nat.le_of_ble_eq_true rfl, Nat.le_of_ble_eq_true rfl⟩ ⟨Nat.le_of_ble_eq_true rfl, Nat.le_of_ble_eq_true rfl⟩ rfl rfl (Nat.le_of_ble_eq_true rfl) dJ1_indexOf_4cfef_33) Y hA [] [] [] rfl rfl (by decide) (fun _ => rfl) (fun r u H locs hp Y => ?_)
      refine lv_cst (v := (spc f ln 0)) hp ?_
      exact r_iret E Y hr hk (spc f ln 0) () (rfl) rfl ⟨Nat.le_of_ble_eq_true rfl, Nat.le_of_ble_eq_true rfl⟩ dJ1_indexOf_4cfef_36
    · skip
      refine lv_iconst (v := (-1)) E.1.1 E.1.2.1 dJ1_indexOf_4cfef_27 (by decide) ?_
      exact r_iret E Y hr hk (-1 : Int32) () (ix_0 hn c_24) rfl ⟨Nat.le_of_ble_eq_true rfl, Nat.le_of_ble_eq_true rfl⟩ dJ1_indexOf_4cfef_28
  · exact absurd c_4 (by decide)

set_option maxRecDepth 100000 in
set_option maxHeartbeats 4000000 in
theorem c_J0_indexOf_7cf53 {l : Launch} {D : va_G} {cI cB : ClassId} (ad ab : Nat → Nat) (q b ln : Nat) (f : Nat → Int32) (hn : ln < 2 ^ 31) : CI (S := Unit) l (XZS ad ab [] q b ln f) D cI cB yJ0_indexOf_7cf53 cJ0_indexOf_7cf53 3 (some .int) 2 48 0 0 [.ref q, .int (32 : Int32), .int (0 : Int32)] [] (fun r (_ : Unit) => r = spc f ln 0) (fun _ => []) := by
  refine CI.of (by decide) (Nat.le_of_ble_eq_true rfl) ?_
  intro p e s m below meth c A ls E hr hk hin hA hAA hX Y hl
  have E : EE p c cJ0_indexOf_7cf53 3 s _ m RJ0 D cI cB := E
  have hl : lv_has ls 3 [(0, .ref q), (1, .int (32 : Int32)), (2, .int (0 : Int32))] := hl
  have hZ : ZB ad ab A s s.heap := hX.1.narrow hAA
  have hR : RS q b ln f A s s.heap := hX.2.narrow hAA
  refine lv_aload_n E.1.1 E.1.2.1 dJ0_indexOf_7cf53_0 rfl (lv_at hl 0 rfl) ?_
  refine g_i (wr := []) (w2 := fun _ => []) (run_V E ((c_J0_isLatin1_aae02 ad ab q b ln f) _) lk_J0_492 xbZS (pre_of E Y [] rfl (by decide) (fun U hU hW => ⟨hZ.pass Y.2.2 hU hW (va_free Y.2.1 Y.2.2 hA [] rfl), RS.pass hR Y.2.2 hU hW (va_free Y.2.1 Y.2.2 hA [] rfl)⟩)) (rcv_of hR Y.2.2) hl.1 ⟨Nat.le_of_ble_eq_true rfl, Nat.le_of_ble_eq_true rfl⟩ ⟨Nat.le_of_ble_eq_true rfl, Nat.le_of_ble_eq_true rfl⟩ rfl rfl (Nat.le_of_ble_eq_true rfl) dJ0_indexOf_7cf53_1) Y hA [] [] [] rfl rfl (by decide) (fun _ => rfl) (fun r u H locs hp Y => ?_)
  refine lv_cst (v := (1 : Int32)) hp ?_
  refine lv_if_eq (tgt := 23) E.1.1 E.1.2.1 dJ0_indexOf_7cf53_4 (by decide) (fun c_4 => ?_) (fun c_4 => ?_)
  · exact absurd c_4 (by decide)
  · skip
    refine lv_aload_n E.1.1 E.1.2.1 dJ0_indexOf_7cf53_7 rfl (lv_at hl 0 rfl) ?_
    refine vk_getf E.1.1 E.1.2.1 hR.2.2.1 Y.2.2 E.1.2.2.2.1 (E.1.2.2.2.2 _ mf_J0_9) (fun _ h => h) dJ0_indexOf_7cf53_8 ?_
    refine lv_iload_n E.1.1 E.1.2.1 dJ0_indexOf_7cf53_11 rfl (lv_at hl 1 rfl) ?_
    refine lv_iload_n E.1.1 E.1.2.1 dJ0_indexOf_7cf53_12 rfl (lv_at hl 2 rfl) ?_
    refine lv_aload_n E.1.1 E.1.2.1 dJ0_indexOf_7cf53_13 rfl (lv_at hl 0 rfl) ?_
    refine g_i (wr := []) (w2 := fun _ => []) (run_V E ((c_J0_length_8abf5 ad ab q b ln f) _) lk_J0_505 xbZS (pre_of E Y [] rfl (by decide) (fun U hU hW => ⟨hZ.pass Y.2.2 hU hW (va_free Y.2.1 Y.2.2 hA [] rfl), RS.pass hR Y.2.2 hU hW (va_free Y.2.1 Y.2.2 hA [] rfl)⟩)) (rcv_of hR Y.2.2) hl.1 ⟨Nat.le_of_ble_eq_true rfl, Nat.le_of_ble_eq_true rfl⟩ ⟨Nat.le_of_ble_eq_true rfl, Nat.le_of_ble_eq_true rfl⟩ rfl rfl (Nat.le_of_ble_eq_true rfl) dJ0_indexOf_7cf53_14) Y hA [] [] [] rfl rfl (by decide) (fun _ => rfl) (fun r u H locs hp Y => ?_)
    refine lv_cst (v := (nI ln)) hp ?_
    refine g_i (wr := []) (w2 := fun _ => []) (run_S E ((c_J1_indexOf_4cfef ad ab b ln f hn) _) lk_J0_637 xbZA (pre_of E Y [] rfl (by decide) (fun U hU hW => ⟨hZ.pass Y.2.2 hU hW (va_free Y.2.1 Y.2.2 hA [] rfl), RA.pass hR.2.2.2 Y.2.2 hU hW (va_free Y.2.1 Y.2.2 hA [] rfl)⟩)) hl.1 ⟨Nat.le_of_ble_eq_true rfl, Nat.le_of_ble_eq_true rfl⟩ ⟨Nat.le_of_ble_eq_true rfl, Nat.le_of_ble_eq_true rfl⟩ rfl rfl (Nat.le_of_ble_eq_true rfl) dJ0_indexOf_7cf53_17) Y hA [] [] [] rfl rfl (by decide) (fun _ => rfl) (fun r u H locs hp Y => ?_)
    refine lv_cst (v := (spc f ln 0)) hp ?_
    refine lv_goto (tgt := 36) E.1.1 E.1.2.1 dJ0_indexOf_7cf53_20 (by decide) ?_
    exact r_iret E Y hr hk (spc f ln 0) () (rfl) rfl ⟨Nat.le_of_ble_eq_true rfl, Nat.le_of_ble_eq_true rfl⟩ dJ0_indexOf_7cf53_36

set_option maxRecDepth 100000 in
set_option maxHeartbeats 4000000 in
theorem c_J0_indexOf_0f7a4 {l : Launch} {D : va_G} {cI cB : ClassId} (ad ab : Nat → Nat) (q b ln : Nat) (f : Nat → Int32) (hn : ln < 2 ^ 31) : CI (S := Unit) l (XZS ad ab [] q b ln f) D cI cB yJ0_indexOf_0f7a4 cJ0_indexOf_0f7a4 2 (some .int) 3 70 0 0 [.ref q, .int (32 : Int32)] [] (fun r (_ : Unit) => r = spc f ln 0) (fun _ => []) := by
  refine CI.of (by decide) (Nat.le_of_ble_eq_true rfl) ?_
  intro p e s m below meth c A ls E hr hk hin hA hAA hX Y hl
  have E : EE p c cJ0_indexOf_0f7a4 2 s _ m RJ0 D cI cB := E
  have hl : lv_has ls 2 [(0, .ref q), (1, .int (32 : Int32))] := hl
  have hZ : ZB ad ab A s s.heap := hX.1.narrow hAA
  have hR : RS q b ln f A s s.heap := hX.2.narrow hAA
  refine lv_aload_n E.1.1 E.1.2.1 dJ0_indexOf_0f7a4_0 rfl (lv_at hl 0 rfl) ?_
  refine lv_iload_n E.1.1 E.1.2.1 dJ0_indexOf_0f7a4_1 rfl (lv_at hl 1 rfl) ?_
  refine lv_iconst (v := 0) E.1.1 E.1.2.1 dJ0_indexOf_0f7a4_2 (by decide) ?_
  refine g_i (wr := []) (w2 := fun _ => []) (run_V E ((c_J0_indexOf_7cf53 ad ab q b ln f hn) _) lk_J0_633 xbZS (pre_of E Y [] rfl (by decide) (fun U hU hW => ⟨hZ.pass Y.2.2 hU hW (va_free Y.2.1 Y.2.2 hA [] rfl), RS.pass hR Y.2.2 hU hW (va_free Y.2.1 Y.2.2 hA [] rfl)⟩)) (rcv_of hR Y.2.2) hl.1 ⟨Nat.le_of_ble_eq_true rfl, Nat.le_of_ble_eq_true rfl⟩ ⟨Nat.le_of_ble_eq_true rfl, Nat.le_of_ble_eq_true rfl⟩ rfl rfl (Nat.le_of_ble_eq_true rfl) dJ0_indexOf_0f7a4_3) Y hA [] [] [] rfl rfl (by decide) (fun _ => rfl) (fun r u H locs hp Y => ?_)
  refine lv_cst (v := (spc f ln 0)) hp ?_
  exact r_iret E Y hr hk (spc f ln 0) () (rfl) rfl ⟨Nat.le_of_ble_eq_true rfl, Nat.le_of_ble_eq_true rfl⟩ dJ0_indexOf_0f7a4_6

set_option maxRecDepth 100000 in
set_option maxHeartbeats 4000000 in
theorem c_J1_equals_b5fdf {l : Launch} {D : va_G} {cI cB : ClassId} (ad ab : Nat → Nat) (b ln : Nat) (f : Nat → Int32) (b2 lm : Nat) (g : Nat → Int32) (hn : ln < 2 ^ 31) (hm : lm < 2 ^ 31) : CI (S := Unit) l (XZAA ad ab [] b ln f b2 lm g) D cI cB yJ1_equals_b5fdf cJ1_equals_b5fdf 3 (some .boolean) 0 0 0 0 [.ref b, .ref b2] [] (fun r (_ : Unit) => r = seq ln lm f g) (fun _ => []) := by
  refine CI.of (by decide) (Nat.le_of_ble_eq_true rfl) ?_
  intro p e s m below meth c A ls E hr hk hin hA hAA hX Y hl
  have E : EE p c cJ1_equals_b5fdf 3 s _ m RJ1 D cI cB := E
  have hl : lv_has ls 3 [(0, .ref b), (1, .ref b2)] := hl
  have hZ : ZB ad ab A s s.heap := hX.1.narrow hAA
  have hR : RA b ln f A s s.heap := va_T.narrow hX.2.1 hAA
  have hR2 : RA b2 lm g A s s.heap := va_T.narrow hX.2.2 hAA
  refine lv_aload_n E.1.1 E.1.2.1 dJ1_equals_b5fdf_0 rfl (lv_at hl 0 rfl) ?_
  refine va_tlen (v := (nI ln)) E.1.1 E.1.2.1 hR Y.2.2 rfl dJ1_equals_b5fdf_1 ?_
  refine lv_aload_n E.1.1 E.1.2.1 dJ1_equals_b5fdf_2 rfl (lv_at hl 1 rfl) ?_
  refine va_tlen (v := (nI lm)) E.1.1 E.1.2.1 hR2 Y.2.2 rfl dJ1_equals_b5fdf_3 ?_
  refine lv_icmp_ne (tgt := 34) E.1.1 E.1.2.1 dJ1_equals_b5fdf_4 (by decide) (fun c_4 => ?_) (fun c_4 => ?_)
  · skip
    refine lv_iconst (v := 0) E.1.1 E.1.2.1 dJ1_equals_b5fdf_34 (by decide) ?_
    exact r_zret E Y hr hk (0 : Int32) rfl () (sq_len hn hm c_4) rfl ⟨Nat.le_of_ble_eq_true rfl, Nat.le_of_ble_eq_true rfl⟩ dJ1_equals_b5fdf_35
  · skip
    refine lv_iconst (v := 0) E.1.1 E.1.2.1 dJ1_equals_b5fdf_7 (by decide) ?_
    refine lv_istore_n (lv' := [(2, .int (0 : Int32)), (0, .ref b), (1, .ref b2)]) E.1.1 E.1.2.1 dJ1_equals_b5fdf_8 rfl hl (by decide) rfl (fun ls hl => ?_)
    have hL : ∀ (n : Nat) (j : Nat) (hj : j ≤ ln) (hmm : ln < j + n) (hq : ∀ t, t < j → f t = g t), ∀ (H : Heap) (locs : List Loc) (ls : Array Slot), WD D A s.heap H locs [] → lv_has ls 3 [(0, .ref b), (1, .ref b2), (2, .int (nI j))] → W p l e { frames := 0, cells := 0, slots := 0, locals := 0 } s m ([.ref b, .ref b2] : List Value).toArray below meth c H locs 0 0 (MQ below (va_Qi (fun r (_ : Unit) => r = seq ln lm f g) (AT D cI cB A (fun _ => [])) A) ([.ref b, .ref b2] : List Value).toArray s 0 0 A) (F0 m 9 ls []) := by
      intro n
      induction n with
      | zero => intro j hj hmm hq; exact absurd hmm (by omega)
      | succ n ih =>
        intro j hj hmm hq H locs ls Y hl
        refine lv_iload_n E.1.1 E.1.2.1 dJ1_equals_b5fdf_9 rfl (lv_at hl 2 rfl) ?_
        refine lv_aload_n E.1.1 E.1.2.1 dJ1_equals_b5fdf_10 rfl (lv_at hl 0 rfl) ?_
        refine va_tlen (v := (nI ln)) E.1.1 E.1.2.1 hR Y.2.2 rfl dJ1_equals_b5fdf_11 ?_
        refine lv_icmp_ge (tgt := 32) E.1.1 E.1.2.1 dJ1_equals_b5fdf_12 (by decide) (fun c_12 => ?_) (fun c_12 => ?_)
        · skip
          refine lv_iconst (v := 1) E.1.1 E.1.2.1 dJ1_equals_b5fdf_32 (by decide) ?_
          exact r_zret E Y hr hk (1 : Int32) rfl () (sq_yes ((nI_eq hn hm).mp c_4) (nI_yge c_12 hn (by omega)) hq) rfl ⟨Nat.le_of_ble_eq_true rfl, Nat.le_of_ble_eq_true rfl⟩ dJ1_equals_b5fdf_33
        · skip
          refine lv_aload_n E.1.1 E.1.2.1 dJ1_equals_b5fdf_15 rfl (lv_at hl 0 rfl) ?_
          refine lv_iload_n E.1.1 E.1.2.1 dJ1_equals_b5fdf_16 rfl (lv_at hl 2 rfl) ?_
          refine va_tb (v := .int (f j)) E.1.1 E.1.2.1 hR Y.2.2 (vp_in_nI (nI_nge c_12 (by omega)) hn) (congrArg (fun z => Value.int (f z)) (nI_clamp (by omega))) dJ1_equals_b5fdf_17 ?_
          refine lv_aload_n E.1.1 E.1.2.1 dJ1_equals_b5fdf_18 rfl (lv_at hl 1 rfl) ?_
          refine lv_iload_n E.1.1 E.1.2.1 dJ1_equals_b5fdf_19 rfl (lv_at hl 2 rfl) ?_
          refine va_tb (v := .int (g j)) E.1.1 E.1.2.1 hR2 Y.2.2 (vp_in_nI (by have := nI_nge c_12 (by omega); have := (nI_eq hn hm).mp c_4; omega) hm) (congrArg (fun z => Value.int (g z)) (nI_clamp (by omega))) dJ1_equals_b5fdf_20 ?_
          refine lv_icmp_eq (tgt := 26) E.1.1 E.1.2.1 dJ1_equals_b5fdf_21 (by decide) (fun c_21 => ?_) (fun c_21 => ?_)
          · skip
            refine lv_iinc (v := (nI (j + 1))) (lv' := [(2, .int (nI (j + 1))), (0, .ref b), (1, .ref b2)]) E.1.1 E.1.2.1 dJ1_equals_b5fdf_26 hl (k := 2) rfl (nI_1 j) (by decide) rfl (fun ls hl => ?_)
            refine lv_goto (tgt := 9) E.1.1 E.1.2.1 dJ1_equals_b5fdf_29 (by decide) ?_
            exact ih (j + 1) (by have := nI_nge c_12 (by omega); omega) (by omega) (lt_s hq c_21) H locs ls Y (lv_sub hl [1, 2, 0] rfl)
          · skip
            refine lv_iconst (v := 0) E.1.1 E.1.2.1 dJ1_equals_b5fdf_24 (by decide) ?_
            exact r_zret E Y hr hk (0 : Int32) rfl () (sq_no (nI_nge c_12 (by omega)) c_21) rfl ⟨Nat.le_of_ble_eq_true rfl, Nat.le_of_ble_eq_true rfl⟩ dJ1_equals_b5fdf_25
    exact hL (ln + 1) 0 (Nat.zero_le _) (by omega) (fun t h => absurd h (Nat.not_lt_zero t)) _ _ _ Y (lv_sub hl [1, 2, 0] rfl)

set_option maxRecDepth 100000 in
set_option maxHeartbeats 4000000 in
theorem c_J0_equals_9ea2d {l : Launch} {D : va_G} {cI cB : ClassId} (ad ab : Nat → Nat) (q b ln : Nat) (f : Nat → Int32) (q2 b2 lm : Nat) (g : Nat → Int32) (hne : ¬ q = q2) (hn : ln < 2 ^ 31) (hm : lm < 2 ^ 31) : CI (S := Unit) l (XZSS ad ab [] q b ln f q2 b2 lm g) D cI cB yJ0_equals_9ea2d cJ0_equals_9ea2d 3 (some .boolean) 1 22 0 0 [.ref q, .ref q2] [] (fun r (_ : Unit) => r = seq ln lm f g) (fun _ => []) := by
  refine CI.of (by decide) (Nat.le_of_ble_eq_true rfl) ?_
  intro p e s m below meth c A ls E hr hk hin hA hAA hX Y hl
  have E : EE p c cJ0_equals_9ea2d 3 s _ m RJ0 D cI cB := E
  have hl : lv_has ls 3 [(0, .ref q), (1, .ref q2)] := hl
  have hZ : ZB ad ab A s s.heap := hX.1.narrow hAA
  have hR : RS q b ln f A s s.heap := hX.2.1.narrow hAA
  have hR2 : RS q2 b2 lm g A s s.heap := hX.2.2.narrow hAA
  refine lv_aload_n E.1.1 E.1.2.1 dJ0_equals_9ea2d_0 rfl (lv_at hl 0 rfl) ?_
  refine lv_aload_n E.1.1 E.1.2.1 dJ0_equals_9ea2d_1 rfl (lv_at hl 1 rfl) ?_
  refine lv_acmp_ne (rx := some q) (ry := some q2) (tgt := 7) E.1.1 E.1.2.1 dJ0_equals_9ea2d_2 (by decide) (fun c_2 => ?_) (fun c_2 => ?_)
  · skip
    refine lv_aload_n E.1.1 E.1.2.1 dJ0_equals_9ea2d_7 rfl (lv_at hl 1 rfl) ?_
    refine va_instE E.1.1 E.1.2.1 E.1.2.2.2.1 (E.1.2.2.2.2 _ ml_J0_10) (rcv_of hR2 Y.2.2) dJ0_equals_9ea2d_8 ?_
    refine lv_if_eq (tgt := 54) E.1.1 E.1.2.1 dJ0_equals_9ea2d_11 (by decide) (fun c_11 => ?_) (fun c_11 => ?_)
    · exact absurd c_11 (by decide)
    · skip
      refine lv_aload_n E.1.1 E.1.2.1 dJ0_equals_9ea2d_14 rfl (lv_at hl 1 rfl) ?_
      refine va_castE E.1.1 E.1.2.1 E.1.2.2.2.1 (E.1.2.2.2.2 _ ml_J0_10) (rcv_of hR2 Y.2.2) dJ0_equals_9ea2d_15 ?_
      refine lv_astore_n (lv' := [(2, .ref q2), (0, .ref q), (1, .ref q2)]) E.1.1 E.1.2.1 dJ0_equals_9ea2d_18 rfl hl (by decide) rfl (fun ls hl => ?_)
      refine va_gets E.1.1 E.1.2.1 hZ.1 Y.2.2 E.1.2.2.2.1 (E.1.2.2.2.2 _ mf_J0_38) (fun _ h => h) dJ0_equals_9ea2d_19 ?_
      refine lv_if_eq (tgt := 36) E.1.1 E.1.2.1 dJ0_equals_9ea2d_22 (by decide) (fun c_22 => ?_) (fun c_22 => ?_)
      · exact absurd c_22 (by decide)
      · skip
        refine lv_aload_n E.1.1 E.1.2.1 dJ0_equals_9ea2d_25 rfl (lv_at hl 1 rfl) ?_
        refine vk_getf E.1.1 E.1.2.1 hR.2.1 Y.2.2 E.1.2.2.2.1 (E.1.2.2.2.2 _ mf_J0_15) (fun _ h => h) dJ0_equals_9ea2d_26 ?_
        refine lv_aload_n E.1.1 E.1.2.1 dJ0_equals_9ea2d_29 rfl (lv_at hl 0 rfl) ?_
        refine vk_getf E.1.1 E.1.2.1 hR2.2.1 Y.2.2 E.1.2.2.2.1 (E.1.2.2.2.2 _ mf_J0_15) (fun _ h => h) dJ0_equals_9ea2d_30 ?_
        refine lv_icmp_ne (tgt := 54) E.1.1 E.1.2.1 dJ0_equals_9ea2d_33 (by decide) (fun c_33 => ?_) (fun c_33 => ?_)
        · exact absurd (by decide) c_33
        · skip
          refine lv_aload_n E.1.1 E.1.2.1 dJ0_equals_9ea2d_36 rfl (lv_at hl 1 rfl) ?_
          refine vk_getf E.1.1 E.1.2.1 hR.2.2.1 Y.2.2 E.1.2.2.2.1 (E.1.2.2.2.2 _ mf_J0_9) (fun _ h => h) dJ0_equals_9ea2d_37 ?_
          refine lv_aload_n E.1.1 E.1.2.1 dJ0_equals_9ea2d_40 rfl (lv_at hl 0 rfl) ?_
          refine vk_getf E.1.1 E.1.2.1 hR2.2.2.1 Y.2.2 E.1.2.2.2.1 (E.1.2.2.2.2 _ mf_J0_9) (fun _ h => h) dJ0_equals_9ea2d_41 ?_
          refine g_i (wr := []) (w2 := fun _ => []) (run_S E ((c_J1_equals_b5fdf ad ab b ln f b2 lm g hn hm) _) lk_J0_541 xbZAA (pre_of E Y [] rfl (by decide) (fun U hU hW => ⟨hZ.pass Y.2.2 hU hW (va_free Y.2.1 Y.2.2 hA [] rfl), RA.pass hR.2.2.2 Y.2.2 hU hW (va_free Y.2.1 Y.2.2 hA [] rfl), RA.pass hR2.2.2.2 Y.2.2 hU hW (va_free Y.2.1 Y.2.2 hA [] rfl)⟩)) hl.1 ⟨Nat.le_of_ble_eq_true rfl, Nat.le_of_ble_eq_true rfl⟩ ⟨Nat.le_of_ble_eq_true rfl, Nat.le_of_ble_eq_true rfl⟩ rfl rfl (Nat.le_of_ble_eq_true rfl) dJ0_equals_9ea2d_44) Y hA [] [] [] rfl rfl (by decide) (fun _ => rfl) (fun r u H locs hp Y => ?_)
          refine lv_cst (v := (seq ln lm f g)) hp ?_
          refine lv_if_eq (tgt := 54) E.1.1 E.1.2.1 dJ0_equals_9ea2d_47 (by decide) (fun c_47 => ?_) (fun c_47 => ?_)
          · skip
            refine lv_iconst (v := 0) E.1.1 E.1.2.1 dJ0_equals_9ea2d_54 (by decide) ?_
            exact r_zret E Y hr hk (0 : Int32) rfl () (c_47.symm) rfl ⟨Nat.le_of_ble_eq_true rfl, Nat.le_of_ble_eq_true rfl⟩ dJ0_equals_9ea2d_55
          · skip
            refine lv_iconst (v := 1) E.1.1 E.1.2.1 dJ0_equals_9ea2d_50 (by decide) ?_
            refine lv_goto (tgt := 55) E.1.1 E.1.2.1 dJ0_equals_9ea2d_51 (by decide) ?_
            exact r_zret E Y hr hk (1 : Int32) rfl () (sq_1 c_47) rfl ⟨Nat.le_of_ble_eq_true rfl, Nat.le_of_ble_eq_true rfl⟩ dJ0_equals_9ea2d_55
  · exact absurd c_2 (fun z => hne (Option.some.inj z))
