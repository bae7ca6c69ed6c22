theorem ne_of_pos {x : Int32} (h : 0 < x) : ¬ x = 0 := fun e => by subst e; exact absurd h (by decide)
theorem ne_of_nle {x : Int32} (h : ¬ x ≤ 0) : ¬ x = 0 := fun e => by subst e; exact h (by decide)
theorem i32_0 : (0 : Int32).toInt = 0 := by decide
theorem i32_1 : (1 : Int32).toInt = 1 := by decide
theorem vp_pred {x : Int32} {n : Nat} (hn : n < 2 ^ 31) (h0 : ¬ x ≤ 0) (h1 : ¬ nI n ≤ x) : vp_in (x - 1) n := by
  rw [fa_le, i32_0] at h0
  rw [fa_le, nI_toInt hn] at h1
  have h5 := fb_rng x
  rw [vp_in_iff, fb_subI (by rw [i32_1]; omega) (by rw [i32_1]; omega), i32_1]
  omega
theorem rat_lt {x : Int32} {j : Nat} (h : ¬ (if (if (12 : Int32) < (12 : Int32) then (12 : Int32) else (12 : Int32)) < x then (if (12 : Int32) < (12 : Int32) then (12 : Int32) else (12 : Int32)) else x) ≤ nI j) (hj : j ≤ 12) : j < 12 := by
  rcases Nat.lt_or_ge j 12 with h1 | h1
  · exact h1
  · have e : j = 12 := by omega
    subst e
    refine absurd ?_ h
    rw [show (if (12 : Int32) < (12 : Int32) then (12 : Int32) else (12 : Int32)) = 12 by decide]
    split
    · exact Int32.le_refl _
    · next h2 => exact fa_of_nlt h2

def f_X0_appendPeriod (k : Cf) (p0 : Int32) (p1 : Int32) : Cf := if (12 : Int32) ≤ (k.1 3) then k else (if (12 : Int32) ≤ (k.1 3) then k else (if (k.1 3) ≤ 0 then (upd (k.1) 3 ((k.1 3) + (1 : Int32)), k.2.1, k.2.2.1, (upd k.2.2.2.1 ((k.1 3).toNatClampNeg) ((0 : Int32) + p0)), (upd k.2.2.2.2 ((k.1 3).toNatClampNeg) p1)) else (upd (k.1) 3 ((k.1 3) + (1 : Int32)), k.2.1, k.2.2.1, (upd k.2.2.2.1 ((k.1 3).toNatClampNeg) ((k.2.2.2.1 (((k.1 3) - (1 : Int32)).toNatClampNeg)) + p0)), (upd k.2.2.2.2 ((k.1 3).toNatClampNeg) p1))))
set_option maxRecDepth 100000 in
set_option maxHeartbeats 4000000 in
theorem c_X0_appendPeriod {l : Launch} {D : va_G} {cI cB : ClassId} (qc qe qr : Nat) (k : Cf) (p0 : Int32) (p1 : Int32) (h3 : ¬ k.1 3 < 0) : CV l X0 D cI cB yX0_appendPeriod cX0_appendPeriod 4 0 0 0 0 [.ref qc, .int p0, .int p1] (wC cI qc qe qr k) (fun (u : Cf) => u = (f_X0_appendPeriod k p0 p1)) (fun u => (wC cI qc qe qr u)) := by
  refine CV.of (by decide) (Nat.le_of_ble_eq_true rfl) ?_
  intro p e s m below meth c A ls E hr hk hin hA hAA hX Y hl
  have E : EE p c cX0_appendPeriod 4 s _ m RX0 D cI cB := E
  have hl : lv_has ls 4 [(0, .ref qc), (1, .int p0), (2, .int p1)] := hl
  refine lv_aload_n E.1.1 E.1.2.1 dX0_appendPeriod_0 rfl (lv_at hl 0 rfl) ?_
  refine gf_X0_18 E Y 0 rfl rfl dX0_appendPeriod_1 ?_
  refine lv_aload_n E.1.1 E.1.2.1 dX0_appendPeriod_4 rfl (lv_at hl 0 rfl) ?_
  refine gf_X0_9 E Y 0 rfl rfl dX0_appendPeriod_5 ?_
  refine r_alenI (v := 12) E Y 1 rfl (by decide) dX0_appendPeriod_8 ?_
  refine lv_icmp_ge (tgt := 79) E.1.1 E.1.2.1 dX0_appendPeriod_9 (by decide) (fun c_9 => ?_) (fun c_9 => ?_)
  · skip
    have e9 : (f_X0_appendPeriod k p0 p1) = k := (if_pos c_9).trans (rfl)
    exact r_vret E Y hr hk k (e9.symm) rfl ⟨Nat.le_of_ble_eq_true rfl, Nat.le_of_ble_eq_true rfl⟩ dX0_appendPeriod_79
  · skip
    refine lv_aload_n E.1.1 E.1.2.1 dX0_appendPeriod_12 rfl (lv_at hl 0 rfl) ?_
    refine gf_X0_18 E Y 0 rfl rfl dX0_appendPeriod_13 ?_
    refine lv_aload_n E.1.1 E.1.2.1 dX0_appendPeriod_16 rfl (lv_at hl 0 rfl) ?_
    refine gf_X0_15 E Y 0 rfl rfl dX0_appendPeriod_17 ?_
    refine r_alenI (v := 12) E Y 2 rfl (by decide) dX0_appendPeriod_20 ?_
    refine lv_icmp_ge (tgt := 79) E.1.1 E.1.2.1 dX0_appendPeriod_21 (by decide) (fun c_21 => ?_) (fun c_21 => ?_)
    · skip
      have e9 : (f_X0_appendPeriod k p0 p1) = k := (if_neg c_9).trans ((if_pos c_21).trans (rfl))
      exact r_vret E Y hr hk k (e9.symm) rfl ⟨Nat.le_of_ble_eq_true rfl, Nat.le_of_ble_eq_true rfl⟩ dX0_appendPeriod_79
    · skip
      refine lv_aload_n E.1.1 E.1.2.1 dX0_appendPeriod_24 rfl (lv_at hl 0 rfl) ?_
      refine gf_X0_18 E Y 0 rfl rfl dX0_appendPeriod_25 ?_
      refine lv_if_le (tgt := 45) E.1.1 E.1.2.1 dX0_appendPeriod_28 (by decide) (fun c_28 => ?_) (fun c_28 => ?_)
      · skip
        refine lv_iconst (v := 0) E.1.1 E.1.2.1 dX0_appendPeriod_45 (by decide) ?_
        refine lv_istore_n (lv' := [(3, .int (0 : Int32)), (0, .ref qc), (1, .int p0), (2, .int p1)]) E.1.1 E.1.2.1 dX0_appendPeriod_46 rfl hl (by decide) rfl (fun ls hl => ?_)
        refine lv_aload_n E.1.1 E.1.2.1 dX0_appendPeriod_47 rfl (lv_at hl 1 rfl) ?_
        refine gf_X0_9 E Y 0 rfl rfl dX0_appendPeriod_48 ?_
        refine lv_aload_n E.1.1 E.1.2.1 dX0_appendPeriod_51 rfl (lv_at hl 1 rfl) ?_
        refine gf_X0_18 E Y 0 rfl rfl dX0_appendPeriod_52 ?_
        refine lv_iload_n E.1.1 E.1.2.1 dX0_appendPeriod_55 rfl (lv_at hl 0 rfl) ?_
        refine lv_iload_n E.1.1 E.1.2.1 dX0_appendPeriod_56 rfl (lv_at hl 2 rfl) ?_
        refine lv_iadd E.1.1 E.1.2.1 dX0_appendPeriod_57 ?_
        refine r_ias (w' := [(qc, .inr (2, [.ref qe, .ref qr, .int (k.1 3)])), (qe, .inl (cI, 12, .inl (upd k.2.2.2.1 ((k.1 3).toNatClampNeg) ((0 : Int32) + p0)))), (qr, .inl (cI, 12, .inl k.2.2.2.2))]) E Y 1 rfl ((k.1 3).toNatClampNeg) rfl (vp0 12 (by decide) h3 c_9) rfl dX0_appendPeriod_58 (fun H locs Y => ?_)
        refine lv_aload_n E.1.1 E.1.2.1 dX0_appendPeriod_59 rfl (lv_at hl 1 rfl) ?_
        refine gf_X0_15 E Y 0 rfl rfl dX0_appendPeriod_60 ?_
        refine lv_aload_n E.1.1 E.1.2.1 dX0_appendPeriod_63 rfl (lv_at hl 1 rfl) ?_
        refine gf_X0_18 E Y 0 rfl rfl dX0_appendPeriod_64 ?_
        refine lv_iload_n E.1.1 E.1.2.1 dX0_appendPeriod_67 rfl (lv_at hl 3 rfl) ?_
        refine r_ias (w' := [(qc, .inr (2, [.ref qe, .ref qr, .int (k.1 3)])), (qe, .inl (cI, 12, .inl (upd k.2.2.2.1 ((k.1 3).toNatClampNeg) ((0 : Int32) + p0)))), (qr, .inl (cI, 12, .inl (upd k.2.2.2.2 ((k.1 3).toNatClampNeg) p1)))]) E Y 2 rfl ((k.1 3).toNatClampNeg) rfl (vp0 12 (by decide) h3 c_9) rfl dX0_appendPeriod_68 (fun H locs Y => ?_)
        refine lv_aload_n E.1.1 E.1.2.1 dX0_appendPeriod_69 rfl (lv_at hl 1 rfl) ?_
        refine lv_dup E.1.1 E.1.2.1 dX0_appendPeriod_70 rfl ?_
        refine gf_X0_18 E Y 0 rfl rfl dX0_appendPeriod_71 ?_
        refine lv_iconst (v := 1) E.1.1 E.1.2.1 dX0_appendPeriod_74 (by decide) ?_
        refine lv_iadd E.1.1 E.1.2.1 dX0_appendPeriod_75 ?_
        refine pf_X0_18 (w' := [(qc, .inr (2, [.ref qe, .ref qr, .int ((k.1 3) + (1 : Int32))])), (qe, .inl (cI, 12, .inl (upd k.2.2.2.1 ((k.1 3).toNatClampNeg) ((0 : Int32) + p0)))), (qr, .inl (cI, 12, .inl (upd k.2.2.2.2 ((k.1 3).toNatClampNeg) p1)))]) E Y 0 rfl (Nat.le_of_ble_eq_true rfl) rfl dX0_appendPeriod_76 (fun H locs Y => ?_)
        have e9 : (f_X0_appendPeriod k p0 p1) = (upd (k.1) 3 ((k.1 3) + (1 : Int32)), k.2.1, k.2.2.1, (upd k.2.2.2.1 ((k.1 3).toNatClampNeg) ((0 : Int32) + p0)), (upd k.2.2.2.2 ((k.1 3).toNatClampNeg) p1)) := (if_neg c_9).trans ((if_neg c_21).trans ((if_pos c_28).trans (rfl)))
        exact r_vret E Y hr hk (upd (k.1) 3 ((k.1 3) + (1 : Int32)), k.2.1, k.2.2.1, (upd k.2.2.2.1 ((k.1 3).toNatClampNeg) ((0 : Int32) + p0)), (upd k.2.2.2.2 ((k.1 3).toNatClampNeg) p1)) (e9.symm) rfl ⟨Nat.le_of_ble_eq_true rfl, Nat.le_of_ble_eq_true rfl⟩ dX0_appendPeriod_79
      · skip
        refine lv_aload_n E.1.1 E.1.2.1 dX0_appendPeriod_31 rfl (lv_at hl 0 rfl) ?_
        refine gf_X0_9 E Y 0 rfl rfl dX0_appendPeriod_32 ?_
        refine lv_aload_n E.1.1 E.1.2.1 dX0_appendPeriod_35 rfl (lv_at hl 0 rfl) ?_
        refine gf_X0_18 E Y 0 rfl rfl dX0_appendPeriod_36 ?_
        refine lv_iconst (v := 1) E.1.1 E.1.2.1 dX0_appendPeriod_39 (by decide) ?_
        refine lv_isub E.1.1 E.1.2.1 dX0_appendPeriod_40 ?_
        refine r_ial E Y 1 rfl (((k.1 3) - (1 : Int32)).toNatClampNeg) rfl (vp_pred (by decide) c_28 c_9) dX0_appendPeriod_41 ?_
        refine lv_goto (tgt := 46) E.1.1 E.1.2.1 dX0_appendPeriod_42 (by decide) ?_
        refine lv_istore_n (lv' := [(3, .int (k.2.2.2.1 (((k.1 3) - (1 : Int32)).toNatClampNeg))), (0, .ref qc), (1, .int p0), (2, .int p1)]) E.1.1 E.1.2.1 dX0_appendPeriod_46 rfl hl (by decide) rfl (fun ls hl => ?_)
        refine lv_aload_n E.1.1 E.1.2.1 dX0_appendPeriod_47 rfl (lv_at hl 1 rfl) ?_
        refine gf_X0_9 E Y 0 rfl rfl dX0_appendPeriod_48 ?_
        refine lv_aload_n E.1.1 E.1.2.1 dX0_appendPeriod_51 rfl (lv_at hl 1 rfl) ?_
        refine gf_X0_18 E Y 0 rfl rfl dX0_appendPeriod_52 ?_
        refine lv_iload_n E.1.1 E.1.2.1 dX0_appendPeriod_55 rfl (lv_at hl 0 rfl) ?_
        refine lv_iload_n E.1.1 E.1.2.1 dX0_appendPeriod_56 rfl (lv_at hl 2 rfl) ?_
        refine lv_iadd E.1.1 E.1.2.1 dX0_appendPeriod_57 ?_
        refine r_ias (w' := [(qc, .inr (2, [.ref qe, .ref qr, .int (k.1 3)])), (qe, .inl (cI, 12, .inl (upd k.2.2.2.1 ((k.1 3).toNatClampNeg) ((k.2.2.2.1 (((k.1 3) - (1 : Int32)).toNatClampNeg)) + p0)))), (qr, .inl (cI, 12, .inl k.2.2.2.2))]) E Y 1 rfl ((k.1 3).toNatClampNeg) rfl (vp0 12 (by decide) h3 c_9) rfl dX0_appendPeriod_58 (fun H locs Y => ?_)
        refine lv_aload_n E.1.1 E.1.2.1 dX0_appendPeriod_59 rfl (lv_at hl 1 rfl) ?_
        refine gf_X0_15 E Y 0 rfl rfl dX0_appendPeriod_60 ?_
        refine lv_aload_n E.1.1 E.1.2.1 dX0_appendPeriod_63 rfl (lv_at hl 1 rfl) ?_
        refine gf_X0_18 E Y 0 rfl rfl dX0_appendPeriod_64 ?_
        refine lv_iload_n E.1.1 E.1.2.1 dX0_appendPeriod_67 rfl (lv_at hl 3 rfl) ?_
        refine r_ias (w' := [(qc, .inr (2, [.ref qe, .ref qr, .int (k.1 3)])), (qe, .inl (cI, 12, .inl (upd k.2.2.2.1 ((k.1 3).toNatClampNeg) ((k.2.2.2.1 (((k.1 3) - (1 : Int32)).toNatClampNeg)) + p0)))), (qr, .inl (cI, 12, .inl (upd k.2.2.2.2 ((k.1 3).toNatClampNeg) p1)))]) E Y 2 rfl ((k.1 3).toNatClampNeg) rfl (vp0 12 (by decide) h3 c_9) rfl dX0_appendPeriod_68 (fun H locs Y => ?_)
        refine lv_aload_n E.1.1 E.1.2.1 dX0_appendPeriod_69 rfl (lv_at hl 1 rfl) ?_
        refine lv_dup E.1.1 E.1.2.1 dX0_appendPeriod_70 rfl ?_
        refine gf_X0_18 E Y 0 rfl rfl dX0_appendPeriod_71 ?_
        refine lv_iconst (v := 1) E.1.1 E.1.2.1 dX0_appendPeriod_74 (by decide) ?_
        refine lv_iadd E.1.1 E.1.2.1 dX0_appendPeriod_75 ?_
        refine pf_X0_18 (w' := [(qc, .inr (2, [.ref qe, .ref qr, .int ((k.1 3) + (1 : Int32))])), (qe, .inl (cI, 12, .inl (upd k.2.2.2.1 ((k.1 3).toNatClampNeg) ((k.2.2.2.1 (((k.1 3) - (1 : Int32)).toNatClampNeg)) + p0)))), (qr, .inl (cI, 12, .inl (upd k.2.2.2.2 ((k.1 3).toNatClampNeg) p1)))]) E Y 0 rfl (Nat.le_of_ble_eq_true rfl) rfl dX0_appendPeriod_76 (fun H locs Y => ?_)
        have e9 : (f_X0_appendPeriod k p0 p1) = (upd (k.1) 3 ((k.1 3) + (1 : Int32)), k.2.1, k.2.2.1, (upd k.2.2.2.1 ((k.1 3).toNatClampNeg) ((k.2.2.2.1 (((k.1 3) - (1 : Int32)).toNatClampNeg)) + p0)), (upd k.2.2.2.2 ((k.1 3).toNatClampNeg) p1)) := (if_neg c_9).trans ((if_neg c_21).trans ((if_neg c_28).trans (rfl)))
        exact r_vret E Y hr hk (upd (k.1) 3 ((k.1 3) + (1 : Int32)), k.2.1, k.2.2.1, (upd k.2.2.2.1 ((k.1 3).toNatClampNeg) ((k.2.2.2.1 (((k.1 3) - (1 : Int32)).toNatClampNeg)) + p0)), (upd k.2.2.2.2 ((k.1 3).toNatClampNeg) p1)) (e9.symm) rfl ⟨Nat.le_of_ble_eq_true rfl, Nat.le_of_ble_eq_true rfl⟩ dX0_appendPeriod_79

def f_X0_rateAt_l28 (k : Cf) (p0 : Int32) : Nat → Int32 → Nat → Int32
  | 0, r, j => r
  | n + 1, r, j => if (if (if (12 : Int32) < (12 : Int32) then (12 : Int32) else (12 : Int32)) < (k.1 3) then (if (12 : Int32) < (12 : Int32) then (12 : Int32) else (12 : Int32)) else (k.1 3)) ≤ (nI j) then r else (if (k.2.2.2.1 j) ≤ p0 then f_X0_rateAt_l28 k p0 n (k.2.2.2.2 j) (j + 1) else (k.2.2.2.2 j))
def f_X0_rateAt (k : Cf) (p0 : Int32) : Int32 := f_X0_rateAt_l28 k p0 13 (1000 : Int32) (0)
set_option maxRecDepth 100000 in
set_option maxHeartbeats 4000000 in
theorem c_X0_rateAt {l : Launch} {D : va_G} {cI cB : ClassId} (qc qe qr : Nat) (k : Cf) (p0 : Int32) : CI l X0 D cI cB yX0_rateAt cX0_rateAt 5 (some .int) 1 21 0 0 [.ref qc, .int p0] (wC cI qc qe qr k) (fun (r : Int32) (_ : Unit) => r = (f_X0_rateAt k p0)) (fun _ => (wC cI qc qe qr k)) := by
  refine CI.of (by decide) (Nat.le_of_ble_eq_true rfl) ?_
  intro p e s m below meth c A ls E hr hk hin hA hAA hX Y hl
  have E : EE p c cX0_rateAt 5 s _ m RX0 D cI cB := E
  have hl : lv_has ls 5 [(0, .ref qc), (1, .int p0)] := hl
  refine lv_sipush (v := 1000) E.1.1 E.1.2.1 dX0_rateAt_0 (by decide) ?_
  refine lv_istore_n (lv' := [(2, .int (1000 : Int32)), (0, .ref qc), (1, .int p0)]) E.1.1 E.1.2.1 dX0_rateAt_3 rfl hl (by decide) rfl (fun ls hl => ?_)
  refine lv_aload_n E.1.1 E.1.2.1 dX0_rateAt_4 rfl (lv_at hl 1 rfl) ?_
  refine gf_X0_18 E Y 0 rfl rfl dX0_rateAt_5 ?_
  refine lv_aload_n E.1.1 E.1.2.1 dX0_rateAt_8 rfl (lv_at hl 1 rfl) ?_
  refine gf_X0_9 E Y 0 rfl rfl dX0_rateAt_9 ?_
  refine r_alenI (v := 12) E Y 1 rfl (by decide) dX0_rateAt_12 ?_
  refine lv_aload_n E.1.1 E.1.2.1 dX0_rateAt_13 rfl (lv_at hl 1 rfl) ?_
  refine gf_X0_15 E Y 0 rfl rfl dX0_rateAt_14 ?_
  refine r_alenI (v := 12) E Y 2 rfl (by decide) dX0_rateAt_17 ?_
  refine r_min E hl.1 mm_X0_22 ⟨Nat.le_of_ble_eq_true rfl, Nat.le_of_ble_eq_true rfl⟩ ⟨Nat.le_of_ble_eq_true rfl, Nat.le_of_ble_eq_true rfl⟩ dX0_rateAt_18 ?_
  refine r_min E hl.1 mm_X0_22 ⟨Nat.le_of_ble_eq_true rfl, Nat.le_of_ble_eq_true rfl⟩ ⟨Nat.le_of_ble_eq_true rfl, Nat.le_of_ble_eq_true rfl⟩ dX0_rateAt_21 ?_
  refine lv_istore_n (lv' := [(3, .int (if (if (12 : Int32) < (12 : Int32) then (12 : Int32) else (12 : Int32)) < (k.1 3) then (if (12 : Int32) < (12 : Int32) then (12 : Int32) else (12 : Int32)) else (k.1 3))), (2, .int (1000 : Int32)), (0, .ref qc), (1, .int p0)]) E.1.1 E.1.2.1 dX0_rateAt_24 rfl hl (by decide) rfl (fun ls hl => ?_)
  refine lv_iconst (v := 0) E.1.1 E.1.2.1 dX0_rateAt_25 (by decide) ?_
  refine lv_istore (lv' := [(4, .int (0 : Int32)), (3, .int (if (if (12 : Int32) < (12 : Int32) then (12 : Int32) else (12 : Int32)) < (k.1 3) then (if (12 : Int32) < (12 : Int32) then (12 : Int32) else (12 : Int32)) else (k.1 3))), (2, .int (1000 : Int32)), (0, .ref qc), (1, .int p0)]) E.1.1 E.1.2.1 dX0_rateAt_26 hl (by decide) rfl (fun ls hl => ?_)
  have hL : ∀ (n : Nat) (r : Int32) (j : Nat), (hj : j ≤ 12) → (hn : 12 < j + n) → (f_X0_rateAt k p0) = f_X0_rateAt_l28 k p0 n r j → ∀ (H : Heap) (locs : List Loc) (ls : Array Slot), WD D A s.heap H locs [(qc, .inr (2, [.ref qe, .ref qr, .int (k.1 3)])), (qe, .inl (cI, 12, .inl k.2.2.2.1)), (qr, .inl (cI, 12, .inl k.2.2.2.2))] → lv_has ls 5 [(0, .ref qc), (1, .int p0), (2, .int r), (3, .int (if (if (12 : Int32) < (12 : Int32) then (12 : Int32) else (12 : Int32)) < (k.1 3) then (if (12 : Int32) < (12 : Int32) then (12 : Int32) else (12 : Int32)) else (k.1 3))), (4, .int (nI j))] → W p l e { frames := 1, cells := 0, slots := 0, locals := 21 } s m ([.ref qc, .int p0] : List Value).toArray below meth c H locs 0 0 (MQ below (va_Qi (fun (r : Int32) (_ : Unit) => r = (f_X0_rateAt k p0)) (AT D cI cB A (fun _ => (wC cI qc qe qr k))) A) ([.ref qc, .int p0] : List Value).toArray s 0 0 A) (F0 m 28 ls []) := by
    intro n
    induction n with
    | zero => intro r j hj hn; exact absurd hn (by omega)
    | succ n ih =>
      intro r j hj hn hF H locs ls Y hl
      refine lv_iload E.1.1 E.1.2.1 dX0_rateAt_28 (lv_at hl 4 rfl) ?_
      refine lv_iload_n E.1.1 E.1.2.1 dX0_rateAt_30 rfl (lv_at hl 3 rfl) ?_
      refine lv_icmp_ge (tgt := 61) E.1.1 E.1.2.1 dX0_rateAt_31 (by decide) (fun c_31 => ?_) (fun c_31 => ?_)
      · skip
        refine lv_iload_n E.1.1 E.1.2.1 dX0_rateAt_61 rfl (lv_at hl 2 rfl) ?_
        have e9 : (f_X0_rateAt k p0) = r := hF.trans ((if_pos c_31).trans (rfl))
        exact r_iret E Y hr hk r () (e9.symm) rfl ⟨Nat.le_of_ble_eq_true rfl, Nat.le_of_ble_eq_true rfl⟩ dX0_rateAt_62
      · skip
        refine lv_aload_n E.1.1 E.1.2.1 dX0_rateAt_34 rfl (lv_at hl 0 rfl) ?_
        refine gf_X0_15 E Y 0 rfl rfl dX0_rateAt_35 ?_
        refine lv_iload E.1.1 E.1.2.1 dX0_rateAt_38 (lv_at hl 4 rfl) ?_
        refine r_ial E Y 2 rfl j (nI_clamp (by omega)) (vp_in_nI (rat_lt c_31 hj) (by decide)) dX0_rateAt_40 ?_
        refine lv_istore_n (lv' := [(2, .int (k.2.2.2.2 j)), (0, .ref qc), (1, .int p0), (3, .int (if (if (12 : Int32) < (12 : Int32) then (12 : Int32) else (12 : Int32)) < (k.1 3) then (if (12 : Int32) < (12 : Int32) then (12 : Int32) else (12 : Int32)) else (k.1 3))), (4, .int (nI j))]) E.1.1 E.1.2.1 dX0_rateAt_41 rfl hl (by decide) rfl (fun ls hl => ?_)
        refine lv_iload_n E.1.1 E.1.2.1 dX0_rateAt_42 rfl (lv_at hl 2 rfl) ?_
        refine lv_aload_n E.1.1 E.1.2.1 dX0_rateAt_43 rfl (lv_at hl 1 rfl) ?_
        refine gf_X0_9 E Y 0 rfl rfl dX0_rateAt_44 ?_
        refine lv_iload E.1.1 E.1.2.1 dX0_rateAt_47 (lv_at hl 4 rfl) ?_
        refine r_ial E Y 1 rfl j (nI_clamp (by omega)) (vp_in_nI (rat_lt c_31 hj) (by decide)) dX0_rateAt_49 ?_
        refine lv_icmp_ge (tgt := 55) E.1.1 E.1.2.1 dX0_rateAt_50 (by decide) (fun c_50 => ?_) (fun c_50 => ?_)
        · skip
          refine lv_iinc (v := (nI (j + 1))) (lv' := [(4, .int (nI (j + 1))), (2, .int (k.2.2.2.2 j)), (0, .ref qc), (1, .int p0), (3, .int (if (if (12 : Int32) < (12 : Int32) then (12 : Int32) else (12 : Int32)) < (k.1 3) then (if (12 : Int32) < (12 : Int32) then (12 : Int32) else (12 : Int32)) else (k.1 3)))]) E.1.1 E.1.2.1 dX0_rateAt_55 hl (k := 4) rfl (nI_1 j) (by decide) rfl (fun ls hl => ?_)
          refine lv_goto (tgt := 28) E.1.1 E.1.2.1 dX0_rateAt_58 (by decide) ?_
          exact ih (k.2.2.2.2 j) (j + 1) (by have := rat_lt c_31 hj; omega) (by omega) (hF.trans ((if_neg c_31).trans ((if_pos c_50).trans (rfl)))) H locs ls Y (lv_sub hl [2, 3, 1, 4, 0] rfl)
        · skip
          refine lv_iload_n E.1.1 E.1.2.1 dX0_rateAt_53 rfl (lv_at hl 0 rfl) ?_
          have e9 : (f_X0_rateAt k p0) = (k.2.2.2.2 j) := hF.trans ((if_neg c_31).trans ((if_neg c_50).trans (rfl)))
          exact r_iret E Y hr hk (k.2.2.2.2 j) () (e9.symm) rfl ⟨Nat.le_of_ble_eq_true rfl, Nat.le_of_ble_eq_true rfl⟩ dX0_rateAt_54
  exact hL 13 (1000 : Int32) (0) (by decide) (by decide) (rfl) _ _ _ Y (lv_sub hl [3, 4, 2, 1, 0] rfl)

def f_X3_changeBuffer (k : Cf) (p0 : Int32) (p1 : Int32) : Int32 × Cf := if (k.1 4) = p0 then (if (k.1 5) = p1 then ((0 : Int32), (upd (upd (k.1) 4 p0) 5 p1, k.2.1, k.2.2.1, k.2.2.2.1, k.2.2.2.2)) else ((1 : Int32), (upd (upd (k.1) 4 p0) 5 p1, k.2.1, k.2.2.1, k.2.2.2.1, k.2.2.2.2))) else ((1 : Int32), (upd (upd (k.1) 4 p0) 5 p1, k.2.1, k.2.2.1, k.2.2.2.1, k.2.2.2.2))
set_option maxRecDepth 100000 in
set_option maxHeartbeats 4000000 in
theorem c_X3_changeBuffer {l : Launch} {D : va_G} {cI cB : ClassId} (qt : Nat) (k : Cf) (p0 : Int32) (p1 : Int32) : CI l X0 D cI cB yX3_changeBuffer cX3_changeBuffer 4 (some .boolean) 0 0 0 0 [.ref qt, .int p0, .int p1] (wT cI qt k) (fun (r : Int32) (u : Cf) => r = (f_X3_changeBuffer k p0 p1).1 ∧ u = (f_X3_changeBuffer k p0 p1).2) (fun u => (wT cI qt u)) := by
  refine CI.of (by decide) (Nat.le_of_ble_eq_true rfl) ?_
  intro p e s m below meth c A ls E hr hk hin hA hAA hX Y hl
  have E : EE p c cX3_changeBuffer 4 s _ m RX3 D cI cB := E
  have hl : lv_has ls 4 [(0, .ref qt), (1, .int p0), (2, .int p1)] := hl
  refine lv_aload_n E.1.1 E.1.2.1 dX3_changeBuffer_0 rfl (lv_at hl 0 rfl) ?_
  refine gf_X3_7 E Y 0 rfl rfl dX3_changeBuffer_1 ?_
  refine lv_iload_n E.1.1 E.1.2.1 dX3_changeBuffer_4 rfl (lv_at hl 1 rfl) ?_
  refine lv_icmp_ne (tgt := 16) E.1.1 E.1.2.1 dX3_changeBuffer_5 (by decide) (fun c_5 => ?_) (fun c_5 => ?_)
  · skip
    refine lv_iconst (v := 1) E.1.1 E.1.2.1 dX3_changeBuffer_16 (by decide) ?_
    refine lv_goto (tgt := 21) E.1.1 E.1.2.1 dX3_changeBuffer_17 (by decide) ?_
    refine lv_istore_n (lv' := [(3, .int (1 : Int32)), (0, .ref qt), (1, .int p0), (2, .int p1)]) E.1.1 E.1.2.1 dX3_changeBuffer_21 rfl hl (by decide) rfl (fun ls hl => ?_)
    refine lv_aload_n E.1.1 E.1.2.1 dX3_changeBuffer_22 rfl (lv_at hl 1 rfl) ?_
    refine lv_iload_n E.1.1 E.1.2.1 dX3_changeBuffer_23 rfl (lv_at hl 2 rfl) ?_
    refine pf_X3_7 (w' := [(qt, .inr (5, [.int p0, .int (k.1 5), .int (k.1 6), .int (k.1 7), .int (k.1 8)]))]) E Y 0 rfl (Nat.le_of_ble_eq_true rfl) rfl dX3_changeBuffer_24 (fun H locs Y => ?_)
    refine lv_aload_n E.1.1 E.1.2.1 dX3_changeBuffer_27 rfl (lv_at hl 1 rfl) ?_
    refine lv_iload_n E.1.1 E.1.2.1 dX3_changeBuffer_28 rfl (lv_at hl 3 rfl) ?_
    refine pf_X3_13 (w' := [(qt, .inr (5, [.int p0, .int p1, .int (k.1 6), .int (k.1 7), .int (k.1 8)]))]) E Y 0 rfl (Nat.le_of_ble_eq_true rfl) rfl dX3_changeBuffer_29 (fun H locs Y => ?_)
    refine lv_iload_n E.1.1 E.1.2.1 dX3_changeBuffer_32 rfl (lv_at hl 0 rfl) ?_
    have e9 : (f_X3_changeBuffer k p0 p1) = ((1 : Int32), (upd (upd (k.1) 4 p0) 5 p1, k.2.1, k.2.2.1, k.2.2.2.1, k.2.2.2.2)) := (if_neg c_5).trans (rfl)
    exact r_zret E Y hr hk (1 : Int32) rfl (upd (upd (k.1) 4 p0) 5 p1, k.2.1, k.2.2.1, k.2.2.2.1, k.2.2.2.2) (pr_of e9) rfl ⟨Nat.le_of_ble_eq_true rfl, Nat.le_of_ble_eq_true rfl⟩ dX3_changeBuffer_33
  · skip
    refine lv_aload_n E.1.1 E.1.2.1 dX3_changeBuffer_8 rfl (lv_at hl 0 rfl) ?_
    refine gf_X3_13 E Y 0 rfl rfl dX3_changeBuffer_9 ?_
    refine lv_iload_n E.1.1 E.1.2.1 dX3_changeBuffer_12 rfl (lv_at hl 2 rfl) ?_
    refine lv_icmp_eq (tgt := 20) E.1.1 E.1.2.1 dX3_changeBuffer_13 (by decide) (fun c_13 => ?_) (fun c_13 => ?_)
    · skip
      refine lv_iconst (v := 0) E.1.1 E.1.2.1 dX3_changeBuffer_20 (by decide) ?_
      refine lv_istore_n (lv' := [(3, .int (0 : Int32)), (0, .ref qt), (1, .int p0), (2, .int p1)]) E.1.1 E.1.2.1 dX3_changeBuffer_21 rfl hl (by decide) rfl (fun ls hl => ?_)
      refine lv_aload_n E.1.1 E.1.2.1 dX3_changeBuffer_22 rfl (lv_at hl 1 rfl) ?_
      refine lv_iload_n E.1.1 E.1.2.1 dX3_changeBuffer_23 rfl (lv_at hl 2 rfl) ?_
      refine pf_X3_7 (w' := [(qt, .inr (5, [.int p0, .int (k.1 5), .int (k.1 6), .int (k.1 7), .int (k.1 8)]))]) E Y 0 rfl (Nat.le_of_ble_eq_true rfl) rfl dX3_changeBuffer_24 (fun H locs Y => ?_)
      refine lv_aload_n E.1.1 E.1.2.1 dX3_changeBuffer_27 rfl (lv_at hl 1 rfl) ?_
      refine lv_iload_n E.1.1 E.1.2.1 dX3_changeBuffer_28 rfl (lv_at hl 3 rfl) ?_
      refine pf_X3_13 (w' := [(qt, .inr (5, [.int p0, .int p1, .int (k.1 6), .int (k.1 7), .int (k.1 8)]))]) E Y 0 rfl (Nat.le_of_ble_eq_true rfl) rfl dX3_changeBuffer_29 (fun H locs Y => ?_)
      refine lv_iload_n E.1.1 E.1.2.1 dX3_changeBuffer_32 rfl (lv_at hl 0 rfl) ?_
      have e9 : (f_X3_changeBuffer k p0 p1) = ((0 : Int32), (upd (upd (k.1) 4 p0) 5 p1, k.2.1, k.2.2.1, k.2.2.2.1, k.2.2.2.2)) := (if_pos c_5).trans ((if_pos c_13).trans (rfl))
      exact r_zret E Y hr hk (0 : Int32) rfl (upd (upd (k.1) 4 p0) 5 p1, k.2.1, k.2.2.1, k.2.2.2.1, k.2.2.2.2) (pr_of e9) rfl ⟨Nat.le_of_ble_eq_true rfl, Nat.le_of_ble_eq_true rfl⟩ dX3_changeBuffer_33
    · skip
      refine lv_iconst (v := 1) E.1.1 E.1.2.1 dX3_changeBuffer_16 (by decide) ?_
      refine lv_goto (tgt := 21) E.1.1 E.1.2.1 dX3_changeBuffer_17 (by decide) ?_
      refine lv_istore_n (lv' := [(3, .int (1 : Int32)), (0, .ref qt), (1, .int p0), (2, .int p1)]) E.1.1 E.1.2.1 dX3_changeBuffer_21 rfl hl (by decide) rfl (fun ls hl => ?_)
      refine lv_aload_n E.1.1 E.1.2.1 dX3_changeBuffer_22 rfl (lv_at hl 1 rfl) ?_
      refine lv_iload_n E.1.1 E.1.2.1 dX3_changeBuffer_23 rfl (lv_at hl 2 rfl) ?_
      refine pf_X3_7 (w' := [(qt, .inr (5, [.int p0, .int (k.1 5), .int (k.1 6), .int (k.1 7), .int (k.1 8)]))]) E Y 0 rfl (Nat.le_of_ble_eq_true rfl) rfl dX3_changeBuffer_24 (fun H locs Y => ?_)
      refine lv_aload_n E.1.1 E.1.2.1 dX3_changeBuffer_27 rfl (lv_at hl 1 rfl) ?_
      refine lv_iload_n E.1.1 E.1.2.1 dX3_changeBuffer_28 rfl (lv_at hl 3 rfl) ?_
      refine pf_X3_13 (w' := [(qt, .inr (5, [.int p0, .int p1, .int (k.1 6), .int (k.1 7), .int (k.1 8)]))]) E Y 0 rfl (Nat.le_of_ble_eq_true rfl) rfl dX3_changeBuffer_29 (fun H locs Y => ?_)
      refine lv_iload_n E.1.1 E.1.2.1 dX3_changeBuffer_32 rfl (lv_at hl 0 rfl) ?_
      have e9 : (f_X3_changeBuffer k p0 p1) = ((1 : Int32), (upd (upd (k.1) 4 p0) 5 p1, k.2.1, k.2.2.1, k.2.2.2.1, k.2.2.2.2)) := (if_pos c_5).trans ((if_neg c_13).trans (rfl))
      exact r_zret E Y hr hk (1 : Int32) rfl (upd (upd (k.1) 4 p0) 5 p1, k.2.1, k.2.2.1, k.2.2.2.1, k.2.2.2.2) (pr_of e9) rfl ⟨Nat.le_of_ble_eq_true rfl, Nat.le_of_ble_eq_true rfl⟩ dX3_changeBuffer_33

def f_X3_changePolicyNumbers (k : Cf) (p0 : Int32) (p1 : Int32) (p2 : Int32) : Int32 × Cf := if (k.1 6) = p0 then (if (k.1 7) = p1 then (if (k.1 8) = p2 then ((0 : Int32), (upd (upd (upd (k.1) 6 p0) 7 p1) 8 p2, k.2.1, k.2.2.1, k.2.2.2.1, k.2.2.2.2)) else ((1 : Int32), (upd (upd (upd (k.1) 6 p0) 7 p1) 8 p2, k.2.1, k.2.2.1, k.2.2.2.1, k.2.2.2.2))) else ((1 : Int32), (upd (upd (upd (k.1) 6 p0) 7 p1) 8 p2, k.2.1, k.2.2.1, k.2.2.2.1, k.2.2.2.2))) else ((1 : Int32), (upd (upd (upd (k.1) 6 p0) 7 p1) 8 p2, k.2.1, k.2.2.1, k.2.2.2.1, k.2.2.2.2))
set_option maxRecDepth 100000 in
set_option maxHeartbeats 4000000 in
theorem c_X3_changePolicyNumbers {l : Launch} {D : va_G} {cI cB : ClassId} (qt : Nat) (k : Cf) (p0 : Int32) (p1 : Int32) (p2 : Int32) : CI l X0 D cI cB yX3_changePolicyNumbers cX3_changePolicyNumbers 5 (some .boolean) 0 0 0 0 [.ref qt, .int p0, .int p1, .int p2] (wT cI qt k) (fun (r : Int32) (u : Cf) => r = (f_X3_changePolicyNumbers k p0 p1 p2).1 ∧ u = (f_X3_changePolicyNumbers k p0 p1 p2).2) (fun u => (wT cI qt u)) := by
  refine CI.of (by decide) (Nat.le_of_ble_eq_true rfl) ?_
  intro p e s m below meth c A ls E hr hk hin hA hAA hX Y hl
  have E : EE p c cX3_changePolicyNumbers 5 s _ m RX3 D cI cB := E
  have hl : lv_has ls 5 [(0, .ref qt), (1, .int p0), (2, .int p1), (3, .int p2)] := hl
  refine lv_aload_n E.1.1 E.1.2.1 dX3_changePolicyNumbers_0 rfl (lv_at hl 0 rfl) ?_
  refine gf_X3_16 E Y 0 rfl rfl dX3_changePolicyNumbers_1 ?_
  refine lv_iload_n E.1.1 E.1.2.1 dX3_changePolicyNumbers_4 rfl (lv_at hl 1 rfl) ?_
  refine lv_icmp_ne (tgt := 24) E.1.1 E.1.2.1 dX3_changePolicyNumbers_5 (by decide) (fun c_5 => ?_) (fun c_5 => ?_)
  · skip
    refine lv_iconst (v := 1) E.1.1 E.1.2.1 dX3_changePolicyNumbers_24 (by decide) ?_
    refine lv_goto (tgt := 29) E.1.1 E.1.2.1 dX3_changePolicyNumbers_25 (by decide) ?_
    refine lv_istore (lv' := [(4, .int (1 : Int32)), (0, .ref qt), (1, .int p0), (2, .int p1), (3, .int p2)]) E.1.1 E.1.2.1 dX3_changePolicyNumbers_29 hl (by decide) rfl (fun ls hl => ?_)
    refine lv_aload_n E.1.1 E.1.2.1 dX3_changePolicyNumbers_31 rfl (lv_at hl 1 rfl) ?_
    refine lv_iload_n E.1.1 E.1.2.1 dX3_changePolicyNumbers_32 rfl (lv_at hl 2 rfl) ?_
    refine pf_X3_16 (w' := [(qt, .inr (5, [.int (k.1 4), .int (k.1 5), .int p0, .int (k.1 7), .int (k.1 8)]))]) E Y 0 rfl (Nat.le_of_ble_eq_true rfl) rfl dX3_changePolicyNumbers_33 (fun H locs Y => ?_)
    refine lv_aload_n E.1.1 E.1.2.1 dX3_changePolicyNumbers_36 rfl (lv_at hl 1 rfl) ?_
    refine lv_iload_n E.1.1 E.1.2.1 dX3_changePolicyNumbers_37 rfl (lv_at hl 3 rfl) ?_
    refine pf_X3_19 (w' := [(qt, .inr (5, [.int (k.1 4), .int (k.1 5), .int p0, .int p1, .int (k.1 8)]))]) E Y 0 rfl (Nat.le_of_ble_eq_true rfl) rfl dX3_changePolicyNumbers_38 (fun H locs Y => ?_)
    refine lv_aload_n E.1.1 E.1.2.1 dX3_changePolicyNumbers_41 rfl (lv_at hl 1 rfl) ?_
    refine lv_iload_n E.1.1 E.1.2.1 dX3_changePolicyNumbers_42 rfl (lv_at hl 4 rfl) ?_
    refine pf_X3_22 (w' := [(qt, .inr (5, [.int (k.1 4), .int (k.1 5), .int p0, .int p1, .int p2]))]) E Y 0 rfl (Nat.le_of_ble_eq_true rfl) rfl dX3_changePolicyNumbers_43 (fun H locs Y => ?_)
    refine lv_iload E.1.1 E.1.2.1 dX3_changePolicyNumbers_46 (lv_at hl 0 rfl) ?_
    have e9 : (f_X3_changePolicyNumbers k p0 p1 p2) = ((1 : Int32), (upd (upd (upd (k.1) 6 p0) 7 p1) 8 p2, k.2.1, k.2.2.1, k.2.2.2.1, k.2.2.2.2)) := (if_neg c_5).trans (rfl)
    exact r_zret E Y hr hk (1 : Int32) rfl (upd (upd (upd (k.1) 6 p0) 7 p1) 8 p2, k.2.1, k.2.2.1, k.2.2.2.1, k.2.2.2.2) (pr_of e9) rfl ⟨Nat.le_of_ble_eq_true rfl, Nat.le_of_ble_eq_true rfl⟩ dX3_changePolicyNumbers_48
  · skip
    refine lv_aload_n E.1.1 E.1.2.1 dX3_changePolicyNumbers_8 rfl (lv_at hl 0 rfl) ?_
    refine gf_X3_19 E Y 0 rfl rfl dX3_changePolicyNumbers_9 ?_
    refine lv_iload_n E.1.1 E.1.2.1 dX3_changePolicyNumbers_12 rfl (lv_at hl 2 rfl) ?_
    refine lv_icmp_ne (tgt := 24) E.1.1 E.1.2.1 dX3_changePolicyNumbers_13 (by decide) (fun c_13 => ?_) (fun c_13 => ?_)
    · skip
      refine lv_iconst (v := 1) E.1.1 E.1.2.1 dX3_changePolicyNumbers_24 (by decide) ?_
      refine lv_goto (tgt := 29) E.1.1 E.1.2.1 dX3_changePolicyNumbers_25 (by decide) ?_
      refine lv_istore (lv' := [(4, .int (1 : Int32)), (0, .ref qt), (1, .int p0), (2, .int p1), (3, .int p2)]) E.1.1 E.1.2.1 dX3_changePolicyNumbers_29 hl (by decide) rfl (fun ls hl => ?_)
      refine lv_aload_n E.1.1 E.1.2.1 dX3_changePolicyNumbers_31 rfl (lv_at hl 1 rfl) ?_
      refine lv_iload_n E.1.1 E.1.2.1 dX3_changePolicyNumbers_32 rfl (lv_at hl 2 rfl) ?_
      refine pf_X3_16 (w' := [(qt, .inr (5, [.int (k.1 4), .int (k.1 5), .int p0, .int (k.1 7), .int (k.1 8)]))]) E Y 0 rfl (Nat.le_of_ble_eq_true rfl) rfl dX3_changePolicyNumbers_33 (fun H locs Y => ?_)
      refine lv_aload_n E.1.1 E.1.2.1 dX3_changePolicyNumbers_36 rfl (lv_at hl 1 rfl) ?_
      refine lv_iload_n E.1.1 E.1.2.1 dX3_changePolicyNumbers_37 rfl (lv_at hl 3 rfl) ?_
      refine pf_X3_19 (w' := [(qt, .inr (5, [.int (k.1 4), .int (k.1 5), .int p0, .int p1, .int (k.1 8)]))]) E Y 0 rfl (Nat.le_of_ble_eq_true rfl) rfl dX3_changePolicyNumbers_38 (fun H locs Y => ?_)
      refine lv_aload_n E.1.1 E.1.2.1 dX3_changePolicyNumbers_41 rfl (lv_at hl 1 rfl) ?_
      refine lv_iload_n E.1.1 E.1.2.1 dX3_changePolicyNumbers_42 rfl (lv_at hl 4 rfl) ?_
      refine pf_X3_22 (w' := [(qt, .inr (5, [.int (k.1 4), .int (k.1 5), .int p0, .int p1, .int p2]))]) E Y 0 rfl (Nat.le_of_ble_eq_true rfl) rfl dX3_changePolicyNumbers_43 (fun H locs Y => ?_)
      refine lv_iload E.1.1 E.1.2.1 dX3_changePolicyNumbers_46 (lv_at hl 0 rfl) ?_
      have e9 : (f_X3_changePolicyNumbers k p0 p1 p2) = ((1 : Int32), (upd (upd (upd (k.1) 6 p0) 7 p1) 8 p2, k.2.1, k.2.2.1, k.2.2.2.1, k.2.2.2.2)) := (if_pos c_5).trans ((if_neg c_13).trans (rfl))
      exact r_zret E Y hr hk (1 : Int32) rfl (upd (upd (upd (k.1) 6 p0) 7 p1) 8 p2, k.2.1, k.2.2.1, k.2.2.2.1, k.2.2.2.2) (pr_of e9) rfl ⟨Nat.le_of_ble_eq_true rfl, Nat.le_of_ble_eq_true rfl⟩ dX3_changePolicyNumbers_48
    · skip
      refine lv_aload_n E.1.1 E.1.2.1 dX3_changePolicyNumbers_16 rfl (lv_at hl 0 rfl) ?_
      refine gf_X3_22 E Y 0 rfl rfl dX3_changePolicyNumbers_17 ?_
      refine lv_iload_n E.1.1 E.1.2.1 dX3_changePolicyNumbers_20 rfl (lv_at hl 3 rfl) ?_
      refine lv_icmp_eq (tgt := 28) E.1.1 E.1.2.1 dX3_changePolicyNumbers_21 (by decide) (fun c_21 => ?_) (fun c_21 => ?_)
      · skip
        refine lv_iconst (v := 0) E.1.1 E.1.2.1 dX3_changePolicyNumbers_28 (by decide) ?_
        refine lv_istore (lv' := [(4, .int (0 : Int32)), (0, .ref qt), (1, .int p0), (2, .int p1), (3, .int p2)]) E.1.1 E.1.2.1 dX3_changePolicyNumbers_29 hl (by decide) rfl (fun ls hl => ?_)
        refine lv_aload_n E.1.1 E.1.2.1 dX3_changePolicyNumbers_31 rfl (lv_at hl 1 rfl) ?_
        refine lv_iload_n E.1.1 E.1.2.1 dX3_changePolicyNumbers_32 rfl (lv_at hl 2 rfl) ?_
        refine pf_X3_16 (w' := [(qt, .inr (5, [.int (k.1 4), .int (k.1 5), .int p0, .int (k.1 7), .int (k.1 8)]))]) E Y 0 rfl (Nat.le_of_ble_eq_true rfl) rfl dX3_changePolicyNumbers_33 (fun H locs Y => ?_)
        refine lv_aload_n E.1.1 E.1.2.1 dX3_changePolicyNumbers_36 rfl (lv_at hl 1 rfl) ?_
        refine lv_iload_n E.1.1 E.1.2.1 dX3_changePolicyNumbers_37 rfl (lv_at hl 3 rfl) ?_
        refine pf_X3_19 (w' := [(qt, .inr (5, [.int (k.1 4), .int (k.1 5), .int p0, .int p1, .int (k.1 8)]))]) E Y 0 rfl (Nat.le_of_ble_eq_true rfl) rfl dX3_changePolicyNumbers_38 (fun H locs Y => ?_)
        refine lv_aload_n E.1.1 E.1.2.1 dX3_changePolicyNumbers_41 rfl (lv_at hl 1 rfl) ?_
        refine lv_iload_n E.1.1 E.1.2.1 dX3_changePolicyNumbers_42 rfl (lv_at hl 4 rfl) ?_
        refine pf_X3_22 (w' := [(qt, .inr (5, [.int (k.1 4), .int (k.1 5), .int p0, .int p1, .int p2]))]) E Y 0 rfl (Nat.le_of_ble_eq_true rfl) rfl dX3_changePolicyNumbers_43 (fun H locs Y => ?_)
        refine lv_iload E.1.1 E.1.2.1 dX3_changePolicyNumbers_46 (lv_at hl 0 rfl) ?_
        have e9 : (f_X3_changePolicyNumbers k p0 p1 p2) = ((0 : Int32), (upd (upd (upd (k.1) 6 p0) 7 p1) 8 p2, k.2.1, k.2.2.1, k.2.2.2.1, k.2.2.2.2)) := (if_pos c_5).trans ((if_pos c_13).trans ((if_pos c_21).trans (rfl)))
        exact r_zret E Y hr hk (0 : Int32) rfl (upd (upd (upd (k.1) 6 p0) 7 p1) 8 p2, k.2.1, k.2.2.1, k.2.2.2.1, k.2.2.2.2) (pr_of e9) rfl ⟨Nat.le_of_ble_eq_true rfl, Nat.le_of_ble_eq_true rfl⟩ dX3_changePolicyNumbers_48
      · skip
        refine lv_iconst (v := 1) E.1.1 E.1.2.1 dX3_changePolicyNumbers_24 (by decide) ?_
        refine lv_goto (tgt := 29) E.1.1 E.1.2.1 dX3_changePolicyNumbers_25 (by decide) ?_
        refine lv_istore (lv' := [(4, .int (1 : Int32)), (0, .ref qt), (1, .int p0), (2, .int p1), (3, .int p2)]) E.1.1 E.1.2.1 dX3_changePolicyNumbers_29 hl (by decide) rfl (fun ls hl => ?_)
        refine lv_aload_n E.1.1 E.1.2.1 dX3_changePolicyNumbers_31 rfl (lv_at hl 1 rfl) ?_
        refine lv_iload_n E.1.1 E.1.2.1 dX3_changePolicyNumbers_32 rfl (lv_at hl 2 rfl) ?_
        refine pf_X3_16 (w' := [(qt, .inr (5, [.int (k.1 4), .int (k.1 5), .int p0, .int (k.1 7), .int (k.1 8)]))]) E Y 0 rfl (Nat.le_of_ble_eq_true rfl) rfl dX3_changePolicyNumbers_33 (fun H locs Y => ?_)
        refine lv_aload_n E.1.1 E.1.2.1 dX3_changePolicyNumbers_36 rfl (lv_at hl 1 rfl) ?_
        refine lv_iload_n E.1.1 E.1.2.1 dX3_changePolicyNumbers_37 rfl (lv_at hl 3 rfl) ?_
        refine pf_X3_19 (w' := [(qt, .inr (5, [.int (k.1 4), .int (k.1 5), .int p0, .int p1, .int (k.1 8)]))]) E Y 0 rfl (Nat.le_of_ble_eq_true rfl) rfl dX3_changePolicyNumbers_38 (fun H locs Y => ?_)
        refine lv_aload_n E.1.1 E.1.2.1 dX3_changePolicyNumbers_41 rfl (lv_at hl 1 rfl) ?_
        refine lv_iload_n E.1.1 E.1.2.1 dX3_changePolicyNumbers_42 rfl (lv_at hl 4 rfl) ?_
        refine pf_X3_22 (w' := [(qt, .inr (5, [.int (k.1 4), .int (k.1 5), .int p0, .int p1, .int p2]))]) E Y 0 rfl (Nat.le_of_ble_eq_true rfl) rfl dX3_changePolicyNumbers_43 (fun H locs Y => ?_)
        refine lv_iload E.1.1 E.1.2.1 dX3_changePolicyNumbers_46 (lv_at hl 0 rfl) ?_
        have e9 : (f_X3_changePolicyNumbers k p0 p1 p2) = ((1 : Int32), (upd (upd (upd (k.1) 6 p0) 7 p1) 8 p2, k.2.1, k.2.2.1, k.2.2.2.1, k.2.2.2.2)) := (if_pos c_5).trans ((if_pos c_13).trans ((if_neg c_21).trans (rfl)))
        exact r_zret E Y hr hk (1 : Int32) rfl (upd (upd (upd (k.1) 6 p0) 7 p1) 8 p2, k.2.1, k.2.2.1, k.2.2.2.1, k.2.2.2.2) (pr_of e9) rfl ⟨Nat.le_of_ble_eq_true rfl, Nat.le_of_ble_eq_true rfl⟩ dX3_changePolicyNumbers_48

def f_X4_forget (g : Ss) : Ss := (upd (g.1) 11 (0 : Int32), g.2.1, g.2.2)
set_option maxRecDepth 100000 in
set_option maxHeartbeats 4000000 in
theorem c_X4_forget {l : Launch} {D : va_G} {cI cB : ClassId} (qh ql : Nat) (g : Ss) : CV l X0 D cI cB yX4_forget cX4_forget 1 0 0 0 0 [.ref qh] (wH cI qh ql g) (fun (u : Ss) => u = (f_X4_forget g)) (fun u => (wH cI qh ql u)) := by
  refine CV.of (by decide) (Nat.le_of_ble_eq_true rfl) ?_
  intro p e s m below meth c A ls E hr hk hin hA hAA hX Y hl
  have E : EE p c cX4_forget 1 s _ m RX4 D cI cB := E
  have hl : lv_has ls 1 [(0, .ref qh)] := hl
  refine lv_aload_n E.1.1 E.1.2.1 dX4_forget_0 rfl (lv_at hl 0 rfl) ?_
  refine lv_iconst (v := 0) E.1.1 E.1.2.1 dX4_forget_1 (by decide) ?_
  refine pf_X4_15 (w' := [(qh, .inr (6, [.ref ql, .int (0 : Int32)])), (ql, .inl (cI, 3, .inl g.2.1))]) E Y 0 rfl (Nat.le_of_ble_eq_true rfl) rfl dX4_forget_2 (fun H locs Y => ?_)
  have e9 : (f_X4_forget g) = (upd (g.1) 11 (0 : Int32), g.2.1, g.2.2) := rfl
  exact r_vret E Y hr hk (upd (g.1) 11 (0 : Int32), g.2.1, g.2.2) (e9.symm) rfl ⟨Nat.le_of_ble_eq_true rfl, Nat.le_of_ble_eq_true rfl⟩ dX4_forget_5

def f_X4_add (g : Ss) (p0 : Int32) : Ss := if (3 : Int32) ≤ (g.1 11) then (g.1, (upd (upd (upd g.2.1 (2) (g.2.1 (1))) (1) (g.2.1 (0))) (0) p0), g.2.2) else (upd (g.1) 11 ((g.1 11) + (1 : Int32)), (upd (upd (upd g.2.1 (2) (g.2.1 (1))) (1) (g.2.1 (0))) (0) p0), g.2.2)
set_option maxRecDepth 100000 in
set_option maxHeartbeats 4000000 in
theorem c_X4_add {l : Launch} {D : va_G} {cI cB : ClassId} (qh ql : Nat) (g : Ss) (p0 : Int32) : CV l X0 D cI cB yX4_add cX4_add 3 0 0 0 0 [.ref qh, .int p0] (wH cI qh ql g) (fun (u : Ss) => u = (f_X4_add g p0)) (fun u => (wH cI qh ql u)) := by
  refine CV.of (by decide) (Nat.le_of_ble_eq_true rfl) ?_
  intro p e s m below meth c A ls E hr hk hin hA hAA hX Y hl
  have E : EE p c cX4_add 3 s _ m RX4 D cI cB := E
  have hl : lv_has ls 3 [(0, .ref qh), (1, .int p0)] := hl
  refine lv_aload_n E.1.1 E.1.2.1 dX4_add_0 rfl (lv_at hl 0 rfl) ?_
  refine gf_X4_9 E Y 0 rfl rfl dX4_add_1 ?_
  refine r_alenI (v := 3) E Y 1 rfl (by decide) dX4_add_4 ?_
  refine lv_iconst (v := 1) E.1.1 E.1.2.1 dX4_add_5 (by decide) ?_
  refine lv_isub E.1.1 E.1.2.1 dX4_add_6 ?_
  refine lv_cst (v := 2) (by decide) ?_
  refine lv_istore_n (lv' := [(2, .int (2 : Int32)), (0, .ref qh), (1, .int p0)]) E.1.1 E.1.2.1 dX4_add_7 rfl hl (by decide) rfl (fun ls hl => ?_)
  refine lv_iload_n E.1.1 E.1.2.1 dX4_add_8 rfl (lv_at hl 0 rfl) ?_
  refine lv_if_le (tgt := 32) E.1.1 E.1.2.1 dX4_add_9 (by decide) (fun c_9 => ?_) (fun c_9 => ?_)
  · exact absurd c_9 (by decide)
  · skip
    refine lv_aload_n E.1.1 E.1.2.1 dX4_add_12 rfl (lv_at hl 1 rfl) ?_
    refine gf_X4_9 E Y 0 rfl rfl dX4_add_13 ?_
    refine lv_iload_n E.1.1 E.1.2.1 dX4_add_16 rfl (lv_at hl 0 rfl) ?_
    refine lv_aload_n E.1.1 E.1.2.1 dX4_add_17 rfl (lv_at hl 1 rfl) ?_
    refine gf_X4_9 E Y 0 rfl rfl dX4_add_18 ?_
    refine lv_iload_n E.1.1 E.1.2.1 dX4_add_21 rfl (lv_at hl 0 rfl) ?_
    refine lv_iconst (v := 1) E.1.1 E.1.2.1 dX4_add_22 (by decide) ?_
    refine lv_isub E.1.1 E.1.2.1 dX4_add_23 ?_
    refine lv_cst (v := 1) (by decide) ?_
    refine r_ial E Y 1 rfl (1) (by decide) (by unfold vp_in; decide) dX4_add_24 ?_
    refine r_ias (w' := [(qh, .inr (6, [.ref ql, .int (g.1 11)])), (ql, .inl (cI, 3, .inl (upd g.2.1 (2) (g.2.1 (1)))))]) E Y 1 rfl (2) (by decide) (by unfold vp_in; decide) rfl dX4_add_25 (fun H locs Y => ?_)
    refine lv_iinc (v := (1 : Int32)) (lv' := [(2, .int (1 : Int32)), (0, .ref qh), (1, .int p0)]) E.1.1 E.1.2.1 dX4_add_26 hl (k := 0) rfl (by decide) (by decide) rfl (fun ls hl => ?_)
    refine lv_goto (tgt := 8) E.1.1 E.1.2.1 dX4_add_29 (by decide) ?_
    refine lv_iload_n E.1.1 E.1.2.1 dX4_add_8 rfl (lv_at hl 0 rfl) ?_
    refine lv_if_le (tgt := 32) E.1.1 E.1.2.1 dX4_add_9 (by decide) (fun c_9 => ?_) (fun c_9 => ?_)
    · exact absurd c_9 (by decide)
    · skip
      refine lv_aload_n E.1.1 E.1.2.1 dX4_add_12 rfl (lv_at hl 1 rfl) ?_
      refine gf_X4_9 E Y 0 rfl rfl dX4_add_13 ?_
      refine lv_iload_n E.1.1 E.1.2.1 dX4_add_16 rfl (lv_at hl 0 rfl) ?_
      refine lv_aload_n E.1.1 E.1.2.1 dX4_add_17 rfl (lv_at hl 1 rfl) ?_
      refine gf_X4_9 E Y 0 rfl rfl dX4_add_18 ?_
      refine lv_iload_n E.1.1 E.1.2.1 dX4_add_21 rfl (lv_at hl 0 rfl) ?_
      refine lv_iconst (v := 1) E.1.1 E.1.2.1 dX4_add_22 (by decide) ?_
      refine lv_isub E.1.1 E.1.2.1 dX4_add_23 ?_
      refine lv_cst (v := 0) (by decide) ?_
      refine r_ial E Y 1 rfl (0) (by decide) (by unfold vp_in; decide) dX4_add_24 ?_
      refine lv_cst (v := (g.2.1 (0))) rfl ?_
      refine r_ias (w' := [(qh, .inr (6, [.ref ql, .int (g.1 11)])), (ql, .inl (cI, 3, .inl (upd (upd g.2.1 (2) (g.2.1 (1))) (1) (g.2.1 (0)))))]) E Y 1 rfl (1) (by decide) (by unfold vp_in; decide) rfl dX4_add_25 (fun H locs Y => ?_)
      refine lv_iinc (v := (0 : Int32)) (lv' := [(2, .int (0 : Int32)), (0, .ref qh), (1, .int p0)]) E.1.1 E.1.2.1 dX4_add_26 hl (k := 0) rfl (by decide) (by decide) rfl (fun ls hl => ?_)
      refine lv_goto (tgt := 8) E.1.1 E.1.2.1 dX4_add_29 (by decide) ?_
      refine lv_iload_n E.1.1 E.1.2.1 dX4_add_8 rfl (lv_at hl 0 rfl) ?_
      refine lv_if_le (tgt := 32) E.1.1 E.1.2.1 dX4_add_9 (by decide) (fun c_9 => ?_) (fun c_9 => ?_)
      · skip
        refine lv_aload_n E.1.1 E.1.2.1 dX4_add_32 rfl (lv_at hl 1 rfl) ?_
        refine gf_X4_9 E Y 0 rfl rfl dX4_add_33 ?_
        refine lv_iconst (v := 0) E.1.1 E.1.2.1 dX4_add_36 (by decide) ?_
        refine lv_iload_n E.1.1 E.1.2.1 dX4_add_37 rfl (lv_at hl 2 rfl) ?_
        refine r_ias (w' := [(qh, .inr (6, [.ref ql, .int (g.1 11)])), (ql, .inl (cI, 3, .inl (upd (upd (upd g.2.1 (2) (g.2.1 (1))) (1) (g.2.1 (0))) (0) p0)))]) E Y 1 rfl (0) (by decide) (by unfold vp_in; decide) rfl dX4_add_38 (fun H locs Y => ?_)
        refine lv_aload_n E.1.1 E.1.2.1 dX4_add_39 rfl (lv_at hl 1 rfl) ?_
        refine gf_X4_15 E Y 0 rfl rfl dX4_add_40 ?_
        refine lv_aload_n E.1.1 E.1.2.1 dX4_add_43 rfl (lv_at hl 1 rfl) ?_
        refine gf_X4_9 E Y 0 rfl rfl dX4_add_44 ?_
        refine r_alenI (v := 3) E Y 1 rfl (by decide) dX4_add_47 ?_
        refine lv_icmp_ge (tgt := 61) E.1.1 E.1.2.1 dX4_add_48 (by decide) (fun c_48 => ?_) (fun c_48 => ?_)
        · skip
          have e9 : (f_X4_add g p0) = (g.1, (upd (upd (upd g.2.1 (2) (g.2.1 (1))) (1) (g.2.1 (0))) (0) p0), g.2.2) := (if_pos c_48).trans (rfl)
          exact r_vret E Y hr hk (g.1, (upd (upd (upd g.2.1 (2) (g.2.1 (1))) (1) (g.2.1 (0))) (0) p0), g.2.2) (e9.symm) rfl ⟨Nat.le_of_ble_eq_true rfl, Nat.le_of_ble_eq_true rfl⟩ dX4_add_61
        · skip
          refine lv_aload_n E.1.1 E.1.2.1 dX4_add_51 rfl (lv_at hl 1 rfl) ?_
          refine lv_dup E.1.1 E.1.2.1 dX4_add_52 rfl ?_
          refine gf_X4_15 E Y 0 rfl rfl dX4_add_53 ?_
          refine lv_iconst (v := 1) E.1.1 E.1.2.1 dX4_add_56 (by decide) ?_
          refine lv_iadd E.1.1 E.1.2.1 dX4_add_57 ?_
          refine pf_X4_15 (w' := [(qh, .inr (6, [.ref ql, .int ((g.1 11) + (1 : Int32))])), (ql, .inl (cI, 3, .inl (upd (upd (upd g.2.1 (2) (g.2.1 (1))) (1) (g.2.1 (0))) (0) p0)))]) E Y 0 rfl (Nat.le_of_ble_eq_true rfl) rfl dX4_add_58 (fun H locs Y => ?_)
          have e9 : (f_X4_add g p0) = (upd (g.1) 11 ((g.1 11) + (1 : Int32)), (upd (upd (upd g.2.1 (2) (g.2.1 (1))) (1) (g.2.1 (0))) (0) p0), g.2.2) := (if_neg c_48).trans (rfl)
          exact r_vret E Y hr hk (upd (g.1) 11 ((g.1 11) + (1 : Int32)), (upd (upd (upd g.2.1 (2) (g.2.1 (1))) (1) (g.2.1 (0))) (0) p0), g.2.2) (e9.symm) rfl ⟨Nat.le_of_ble_eq_true rfl, Nat.le_of_ble_eq_true rfl⟩ dX4_add_61
      · exact absurd (by decide) c_9

def f_X4_estimate_l14 (g : Ss) : Nat → Int32 → Nat → Int32
  | 0, x, j => x
  | n + 1, x, j => if (g.1 11) ≤ (nI j) then (x / (g.1 11)) else (if (3 : Int32) ≤ (nI j) then (x / (g.1 11)) else f_X4_estimate_l14 g n (x + (g.2.1 j)) (j + 1))
def f_X4_estimate (g : Ss) : Int32 := if 0 < (g.1 11) then f_X4_estimate_l14 g 4 (0 : Int32) (0) else (-6 : Int32)
set_option maxRecDepth 100000 in
set_option maxHeartbeats 4000000 in
theorem c_X4_estimate {l : Launch} {D : va_G} {cI cB : ClassId} (qh ql : Nat) (g : Ss) : CI l X0 D cI cB yX4_estimate cX4_estimate 3 (some .int) 0 0 0 0 [.ref qh] (wH cI qh ql g) (fun (r : Int32) (_ : Unit) => r = (f_X4_estimate g)) (fun _ => (wH cI qh ql g)) := by
  refine CI.of (by decide) (Nat.le_of_ble_eq_true rfl) ?_
  intro p e s m below meth c A ls E hr hk hin hA hAA hX Y hl
  have E : EE p c cX4_estimate 3 s _ m RX4 D cI cB := E
  have hl : lv_has ls 3 [(0, .ref qh)] := hl
  refine lv_aload_n E.1.1 E.1.2.1 dX4_estimate_0 rfl (lv_at hl 0 rfl) ?_
  refine gf_X4_15 E Y 0 rfl rfl dX4_estimate_1 ?_
  refine lv_if_gt (tgt := 10) E.1.1 E.1.2.1 dX4_estimate_4 (by decide) (fun c_4 => ?_) (fun c_4 => ?_)
  · skip
    refine lv_iconst (v := 0) E.1.1 E.1.2.1 dX4_estimate_10 (by decide) ?_
    refine lv_istore_n (lv' := [(1, .int (0 : Int32)), (0, .ref qh)]) E.1.1 E.1.2.1 dX4_estimate_11 rfl hl (by decide) rfl (fun ls hl => ?_)
    refine lv_iconst (v := 0) E.1.1 E.1.2.1 dX4_estimate_12 (by decide) ?_
    refine lv_istore_n (lv' := [(2, .int (0 : Int32)), (1, .int (0 : Int32)), (0, .ref qh)]) E.1.1 E.1.2.1 dX4_estimate_13 rfl hl (by decide) rfl (fun ls hl => ?_)
    have hL : ∀ (n : Nat) (x : Int32) (j : Nat), (hj : j ≤ 3) → (hn : 3 < j + n) → (f_X4_estimate g) = f_X4_estimate_l14 g n x j → ∀ (H : Heap) (locs : List Loc) (ls : Array Slot), WD D A s.heap H locs [(qh, .inr (6, [.ref ql, .int (g.1 11)])), (ql, .inl (cI, 3, .inl g.2.1))] → lv_has ls 3 [(0, .ref qh), (1, .int x), (2, .int (nI j))] → W p l e { frames := 0, cells := 0, slots := 0, locals := 0 } s m ([.ref qh] : List Value).toArray below meth c H locs 0 0 (MQ below (va_Qi (fun (r : Int32) (_ : Unit) => r = (f_X4_estimate g)) (AT D cI cB A (fun _ => (wH cI qh ql g))) A) ([.ref qh] : List Value).toArray s 0 0 A) (F0 m 14 ls []) := by
      intro n
      induction n with
      | zero => intro x j hj hn; exact absurd hn (by omega)
      | succ n ih =>
        intro x j hj hn hF H locs ls Y hl
        refine lv_iload_n E.1.1 E.1.2.1 dX4_estimate_14 rfl (lv_at hl 2 rfl) ?_
        refine lv_aload_n E.1.1 E.1.2.1 dX4_estimate_15 rfl (lv_at hl 0 rfl) ?_
        refine gf_X4_15 E Y 0 rfl rfl dX4_estimate_16 ?_
        refine lv_icmp_ge (tgt := 46) E.1.1 E.1.2.1 dX4_estimate_19 (by decide) (fun c_19 => ?_) (fun c_19 => ?_)
        · skip
          refine lv_iload_n E.1.1 E.1.2.1 dX4_estimate_46 rfl (lv_at hl 1 rfl) ?_
          refine lv_aload_n E.1.1 E.1.2.1 dX4_estimate_47 rfl (lv_at hl 0 rfl) ?_
          refine gf_X4_15 E Y 0 rfl rfl dX4_estimate_48 ?_
          refine lv_idiv E.1.1 E.1.2.1 dX4_estimate_51 (ne_of_pos c_4) ?_
          have e9 : (f_X4_estimate g) = (x / (g.1 11)) := hF.trans ((if_pos c_19).trans (rfl))
          exact r_iret E Y hr hk (x / (g.1 11)) () (e9.symm) rfl ⟨Nat.le_of_ble_eq_true rfl, Nat.le_of_ble_eq_true rfl⟩ dX4_estimate_52
        · skip
          refine lv_iload_n E.1.1 E.1.2.1 dX4_estimate_22 rfl (lv_at hl 2 rfl) ?_
          refine lv_aload_n E.1.1 E.1.2.1 dX4_estimate_23 rfl (lv_at hl 0 rfl) ?_
          refine gf_X4_9 E Y 0 rfl rfl dX4_estimate_24 ?_
          refine r_alenI (v := 3) E Y 1 rfl (by decide) dX4_estimate_27 ?_
          refine lv_icmp_ge (tgt := 46) E.1.1 E.1.2.1 dX4_estimate_28 (by decide) (fun c_28 => ?_) (fun c_28 => ?_)
          · skip
            refine lv_iload_n E.1.1 E.1.2.1 dX4_estimate_46 rfl (lv_at hl 1 rfl) ?_
            refine lv_aload_n E.1.1 E.1.2.1 dX4_estimate_47 rfl (lv_at hl 0 rfl) ?_
            refine gf_X4_15 E Y 0 rfl rfl dX4_estimate_48 ?_
            refine lv_idiv E.1.1 E.1.2.1 dX4_estimate_51 (ne_of_pos c_4) ?_
            have e9 : (f_X4_estimate g) = (x / (g.1 11)) := hF.trans ((if_neg c_19).trans ((if_pos c_28).trans (rfl)))
            exact r_iret E Y hr hk (x / (g.1 11)) () (e9.symm) rfl ⟨Nat.le_of_ble_eq_true rfl, Nat.le_of_ble_eq_true rfl⟩ dX4_estimate_52
          · skip
            refine lv_iload_n E.1.1 E.1.2.1 dX4_estimate_31 rfl (lv_at hl 1 rfl) ?_
            refine lv_aload_n E.1.1 E.1.2.1 dX4_estimate_32 rfl (lv_at hl 0 rfl) ?_
            refine gf_X4_9 E Y 0 rfl rfl dX4_estimate_33 ?_
            refine lv_iload_n E.1.1 E.1.2.1 dX4_estimate_36 rfl (lv_at hl 2 rfl) ?_
            refine r_ial E Y 1 rfl j (nI_clamp (by omega)) (vp_in_nI (nI_nge (a := 3) c_28 (by omega)) (by decide)) dX4_estimate_37 ?_
            refine lv_iadd E.1.1 E.1.2.1 dX4_estimate_38 ?_
            refine lv_istore_n (lv' := [(1, .int (x + (g.2.1 j))), (0, .ref qh), (2, .int (nI j))]) E.1.1 E.1.2.1 dX4_estimate_39 rfl hl (by decide) rfl (fun ls hl => ?_)
            refine lv_iinc (v := (nI (j + 1))) (lv' := [(2, .int (nI (j + 1))), (1, .int (x + (g.2.1 j))), (0, .ref qh)]) E.1.1 E.1.2.1 dX4_estimate_40 hl (k := 2) rfl (nI_1 j) (by decide) rfl (fun ls hl => ?_)
            refine lv_goto (tgt := 14) E.1.1 E.1.2.1 dX4_estimate_43 (by decide) ?_
            exact ih (x + (g.2.1 j)) (j + 1) (by have := nI_nge (a := 3) (b := j) c_28 (by omega); omega) (by omega) (hF.trans ((if_neg c_19).trans ((if_neg c_28).trans (rfl)))) H locs ls Y (lv_sub hl [2, 1, 0] rfl)
    exact hL 4 (0 : Int32) (0) (by decide) (by decide) ((if_pos c_4).trans (rfl)) _ _ _ Y (lv_sub hl [2, 1, 0] rfl)
  · skip
    refine lv_bipush (v := (-6)) E.1.1 E.1.2.1 dX4_estimate_7 (by decide) ?_
    have e9 : (f_X4_estimate g) = (-6 : Int32) := (if_neg c_4).trans (rfl)
    exact r_iret E Y hr hk (-6 : Int32) () (e9.symm) rfl ⟨Nat.le_of_ble_eq_true rfl, Nat.le_of_ble_eq_true rfl⟩ dX4_estimate_9

def f_X1_start (g : Ss) (p0 : Int32) (p1 : Int32) : Ss := (upd (upd (upd (upd (upd (g.1) 6 (1 : Int32)) 7 p0) 8 p1) 9 (0 : Int32)) 10 (0 : Int32), g.2.1, g.2.2)
set_option maxRecDepth 100000 in
set_option maxHeartbeats 4000000 in
theorem c_X1_start {l : Launch} {D : va_G} {cI cB : ClassId} (qd : Nat) (g : Ss) (p0 : Int32) (p1 : Int32) : CV l X0 D cI cB yX1_start cX1_start 3 0 0 0 0 [.ref qd, .int p0, .int p1] (wD cI qd g) (fun (u : Ss) => u = (f_X1_start g p0 p1)) (fun u => (wD cI qd u)) := by
  refine CV.of (by decide) (Nat.le_of_ble_eq_true rfl) ?_
  intro p e s m below meth c A ls E hr hk hin hA hAA hX Y hl
  have E : EE p c cX1_start 3 s _ m RX1 D cI cB := E
  have hl : lv_has ls 3 [(0, .ref qd), (1, .int p0), (2, .int p1)] := hl
  refine lv_aload_n E.1.1 E.1.2.1 dX1_start_0 rfl (lv_at hl 0 rfl) ?_
  refine lv_iconst (v := 1) E.1.1 E.1.2.1 dX1_start_1 (by decide) ?_
  refine pf_X1_7 (w' := [(qd, .inr (3, [.int (1 : Int32), .int (g.1 7), .int (g.1 8), .int (g.1 9), .int (g.1 10)]))]) E Y 0 rfl rfl rfl (Nat.le_of_ble_eq_true rfl) rfl dX1_start_2 (fun H locs Y => ?_)
  refine lv_aload_n E.1.1 E.1.2.1 dX1_start_5 rfl (lv_at hl 0 rfl) ?_
  refine lv_iload_n E.1.1 E.1.2.1 dX1_start_6 rfl (lv_at hl 1 rfl) ?_
  refine pf_X1_13 (w' := [(qd, .inr (3, [.int (1 : Int32), .int p0, .int (g.1 8), .int (g.1 9), .int (g.1 10)]))]) E Y 0 rfl (Nat.le_of_ble_eq_true rfl) rfl dX1_start_7 (fun H locs Y => ?_)
  refine lv_aload_n E.1.1 E.1.2.1 dX1_start_10 rfl (lv_at hl 0 rfl) ?_
  refine lv_iload_n E.1.1 E.1.2.1 dX1_start_11 rfl (lv_at hl 2 rfl) ?_
  refine pf_X1_17 (w' := [(qd, .inr (3, [.int (1 : Int32), .int p0, .int p1, .int (g.1 9), .int (g.1 10)]))]) E Y 0 rfl (Nat.le_of_ble_eq_true rfl) rfl dX1_start_12 (fun H locs Y => ?_)
  refine lv_aload_n E.1.1 E.1.2.1 dX1_start_15 rfl (lv_at hl 0 rfl) ?_
  refine lv_iconst (v := 0) E.1.1 E.1.2.1 dX1_start_16 (by decide) ?_
  refine pf_X1_20 (w' := [(qd, .inr (3, [.int (1 : Int32), .int p0, .int p1, .int (0 : Int32), .int (g.1 10)]))]) E Y 0 rfl (Nat.le_of_ble_eq_true rfl) rfl dX1_start_17 (fun H locs Y => ?_)
  refine lv_aload_n E.1.1 E.1.2.1 dX1_start_20 rfl (lv_at hl 0 rfl) ?_
  refine lv_iconst (v := 0) E.1.1 E.1.2.1 dX1_start_21 (by decide) ?_
  refine pf_X1_23 (w' := [(qd, .inr (3, [.int (1 : Int32), .int p0, .int p1, .int (0 : Int32), .int (0 : Int32)]))]) E Y 0 rfl (Nat.le_of_ble_eq_true rfl) rfl dX1_start_22 (fun H locs Y => ?_)
  have e9 : (f_X1_start g p0 p1) = (upd (upd (upd (upd (upd (g.1) 6 (1 : Int32)) 7 p0) 8 p1) 9 (0 : Int32)) 10 (0 : Int32), g.2.1, g.2.2) := rfl
  exact r_vret E Y hr hk (upd (upd (upd (upd (upd (g.1) 6 (1 : Int32)) 7 p0) 8 p1) 9 (0 : Int32)) 10 (0 : Int32), g.2.1, g.2.2) (e9.symm) rfl ⟨Nat.le_of_ble_eq_true rfl, Nat.le_of_ble_eq_true rfl⟩ dX1_start_25

def f_X1_stop (g : Ss) : Ss := (upd (g.1) 6 (0 : Int32), g.2.1, g.2.2)
set_option maxRecDepth 100000 in
set_option maxHeartbeats 4000000 in
theorem c_X1_stop {l : Launch} {D : va_G} {cI cB : ClassId} (qd : Nat) (g : Ss) : CV l X0 D cI cB yX1_stop cX1_stop 1 0 0 0 0 [.ref qd] (wD cI qd g) (fun (u : Ss) => u = (f_X1_stop g)) (fun u => (wD cI qd u)) := by
  refine CV.of (by decide) (Nat.le_of_ble_eq_true rfl) ?_
  intro p e s m below meth c A ls E hr hk hin hA hAA hX Y hl
  have E : EE p c cX1_stop 1 s _ m RX1 D cI cB := E
  have hl : lv_has ls 1 [(0, .ref qd)] := hl
  refine lv_aload_n E.1.1 E.1.2.1 dX1_stop_0 rfl (lv_at hl 0 rfl) ?_
  refine lv_iconst (v := 0) E.1.1 E.1.2.1 dX1_stop_1 (by decide) ?_
  refine pf_X1_7 (w' := [(qd, .inr (3, [.int (0 : Int32), .int (g.1 7), .int (g.1 8), .int (g.1 9), .int (g.1 10)]))]) E Y 0 rfl rfl rfl (Nat.le_of_ble_eq_true rfl) rfl dX1_stop_2 (fun H locs Y => ?_)
  have e9 : (f_X1_stop g) = (upd (g.1) 6 (0 : Int32), g.2.1, g.2.2) := rfl
  exact r_vret E Y hr hk (upd (g.1) 6 (0 : Int32), g.2.1, g.2.2) (e9.symm) rfl ⟨Nat.le_of_ble_eq_true rfl, Nat.le_of_ble_eq_true rfl⟩ dX1_stop_5

def f_X1_receive (g : Ss) (p0 : Int32) : Ss := (upd (upd (g.1) 9 ((g.1 9) + p0)) 10 ((g.1 10) + (1 : Int32)), g.2.1, g.2.2)
set_option maxRecDepth 100000 in
set_option maxHeartbeats 4000000 in
theorem c_X1_receive {l : Launch} {D : va_G} {cI cB : ClassId} (qd : Nat) (g : Ss) (p0 : Int32) : CV l X0 D cI cB yX1_receive cX1_receive 2 0 0 0 0 [.ref qd, .int p0] (wD cI qd g) (fun (u : Ss) => u = (f_X1_receive g p0)) (fun u => (wD cI qd u)) := by
  refine CV.of (by decide) (Nat.le_of_ble_eq_true rfl) ?_
  intro p e s m below meth c A ls E hr hk hin hA hAA hX Y hl
  have E : EE p c cX1_receive 2 s _ m RX1 D cI cB := E
  have hl : lv_has ls 2 [(0, .ref qd), (1, .int p0)] := hl
  refine lv_aload_n E.1.1 E.1.2.1 dX1_receive_0 rfl (lv_at hl 0 rfl) ?_
  refine lv_dup E.1.1 E.1.2.1 dX1_receive_1 rfl ?_
  refine gf_X1_20 E Y 0 rfl rfl dX1_receive_2 ?_
  refine lv_iload_n E.1.1 E.1.2.1 dX1_receive_5 rfl (lv_at hl 1 rfl) ?_
  refine lv_iadd E.1.1 E.1.2.1 dX1_receive_6 ?_
  refine pf_X1_20 (w' := [(qd, .inr (3, [.int (g.1 6), .int (g.1 7), .int (g.1 8), .int ((g.1 9) + p0), .int (g.1 10)]))]) E Y 0 rfl (Nat.le_of_ble_eq_true rfl) rfl dX1_receive_7 (fun H locs Y => ?_)
  refine lv_aload_n E.1.1 E.1.2.1 dX1_receive_10 rfl (lv_at hl 0 rfl) ?_
  refine lv_dup E.1.1 E.1.2.1 dX1_receive_11 rfl ?_
  refine gf_X1_23 E Y 0 rfl rfl dX1_receive_12 ?_
  refine lv_iconst (v := 1) E.1.1 E.1.2.1 dX1_receive_15 (by decide) ?_
  refine lv_iadd E.1.1 E.1.2.1 dX1_receive_16 ?_
  refine pf_X1_23 (w' := [(qd, .inr (3, [.int (g.1 6), .int (g.1 7), .int (g.1 8), .int ((g.1 9) + p0), .int ((g.1 10) + (1 : Int32))]))]) E Y 0 rfl (Nat.le_of_ble_eq_true rfl) rfl dX1_receive_17 (fun H locs Y => ?_)
  have e9 : (f_X1_receive g p0) = (upd (upd (g.1) 9 ((g.1 9) + p0)) 10 ((g.1 10) + (1 : Int32)), g.2.1, g.2.2) := rfl
  exact r_vret E Y hr hk (upd (upd (g.1) 9 ((g.1 9) + p0)) 10 ((g.1 10) + (1 : Int32)), g.2.1, g.2.2) (e9.symm) rfl ⟨Nat.le_of_ble_eq_true rfl, Nat.le_of_ble_eq_true rfl⟩ dX1_receive_20

def f_X1_isComplete (g : Ss) : Int32 := if (g.1 9) < (g.1 8) then (0 : Int32) else (1 : Int32)
set_option maxRecDepth 100000 in
set_option maxHeartbeats 4000000 in
theorem c_X1_isComplete {l : Launch} {D : va_G} {cI cB : ClassId} (qd : Nat) (g : Ss) : CI l X0 D cI cB yX1_isComplete cX1_isComplete 1 (some .boolean) 0 0 0 0 [.ref qd] (wD cI qd g) (fun (r : Int32) (_ : Unit) => r = (f_X1_isComplete g)) (fun _ => (wD cI qd g)) := by
  refine CI.of (by decide) (Nat.le_of_ble_eq_true rfl) ?_
  intro p e s m below meth c A ls E hr hk hin hA hAA hX Y hl
  have E : EE p c cX1_isComplete 1 s _ m RX1 D cI cB := E
  have hl : lv_has ls 1 [(0, .ref qd)] := hl
  refine lv_aload_n E.1.1 E.1.2.1 dX1_isComplete_0 rfl (lv_at hl 0 rfl) ?_
  refine gf_X1_20 E Y 0 rfl rfl dX1_isComplete_1 ?_
  refine lv_aload_n E.1.1 E.1.2.1 dX1_isComplete_4 rfl (lv_at hl 0 rfl) ?_
  refine gf_X1_17 E Y 0 rfl rfl dX1_isComplete_5 ?_
  refine lv_icmp_lt (tgt := 15) E.1.1 E.1.2.1 dX1_isComplete_8 (by decide) (fun c_8 => ?_) (fun c_8 => ?_)
  · skip
    refine lv_iconst (v := 0) E.1.1 E.1.2.1 dX1_isComplete_15 (by decide) ?_
    have e9 : (f_X1_isComplete g) = (0 : Int32) := (if_pos c_8).trans (rfl)
    exact r_zret E Y hr hk (0 : Int32) rfl () (e9.symm) rfl ⟨Nat.le_of_ble_eq_true rfl, Nat.le_of_ble_eq_true rfl⟩ dX1_isComplete_16
  · skip
    refine lv_iconst (v := 1) E.1.1 E.1.2.1 dX1_isComplete_11 (by decide) ?_
    refine lv_goto (tgt := 16) E.1.1 E.1.2.1 dX1_isComplete_12 (by decide) ?_
    have e9 : (f_X1_isComplete g) = (1 : Int32) := (if_neg c_8).trans (rfl)
    exact r_zret E Y hr hk (1 : Int32) rfl () (e9.symm) rfl ⟨Nat.le_of_ble_eq_true rfl, Nat.le_of_ble_eq_true rfl⟩ dX1_isComplete_16

def f_X1_throughput (g : Ss) : Int32 := if (g.1 10) ≤ 0 then (0 : Int32) else ((g.1 8) / (g.1 10))
set_option maxRecDepth 100000 in
set_option maxHeartbeats 4000000 in
theorem c_X1_throughput {l : Launch} {D : va_G} {cI cB : ClassId} (qd : Nat) (g : Ss) : CI l X0 D cI cB yX1_throughput cX1_throughput 1 (some .int) 0 0 0 0 [.ref qd] (wD cI qd g) (fun (r : Int32) (_ : Unit) => r = (f_X1_throughput g)) (fun _ => (wD cI qd g)) := by
  refine CI.of (by decide) (Nat.le_of_ble_eq_true rfl) ?_
  intro p e s m below meth c A ls E hr hk hin hA hAA hX Y hl
  have E : EE p c cX1_throughput 1 s _ m RX1 D cI cB := E
  have hl : lv_has ls 1 [(0, .ref qd)] := hl
  refine lv_aload_n E.1.1 E.1.2.1 dX1_throughput_0 rfl (lv_at hl 0 rfl) ?_
  refine gf_X1_23 E Y 0 rfl rfl dX1_throughput_1 ?_
  refine lv_if_le (tgt := 19) E.1.1 E.1.2.1 dX1_throughput_4 (by decide) (fun c_4 => ?_) (fun c_4 => ?_)
  · skip
    refine lv_iconst (v := 0) E.1.1 E.1.2.1 dX1_throughput_19 (by decide) ?_
    have e9 : (f_X1_throughput g) = (0 : Int32) := (if_pos c_4).trans (rfl)
    exact r_iret E Y hr hk (0 : Int32) () (e9.symm) rfl ⟨Nat.le_of_ble_eq_true rfl, Nat.le_of_ble_eq_true rfl⟩ dX1_throughput_20
  · skip
    refine lv_aload_n E.1.1 E.1.2.1 dX1_throughput_7 rfl (lv_at hl 0 rfl) ?_
    refine gf_X1_17 E Y 0 rfl rfl dX1_throughput_8 ?_
    refine lv_aload_n E.1.1 E.1.2.1 dX1_throughput_11 rfl (lv_at hl 0 rfl) ?_
    refine gf_X1_23 E Y 0 rfl rfl dX1_throughput_12 ?_
    refine lv_idiv E.1.1 E.1.2.1 dX1_throughput_15 (ne_of_nle c_4) ?_
    refine lv_goto (tgt := 20) E.1.1 E.1.2.1 dX1_throughput_16 (by decide) ?_
    have e9 : (f_X1_throughput g) = ((g.1 8) / (g.1 10)) := (if_neg c_4).trans (rfl)
    exact r_iret E Y hr hk ((g.1 8) / (g.1 10)) () (e9.symm) rfl ⟨Nat.le_of_ble_eq_true rfl, Nat.le_of_ble_eq_true rfl⟩ dX1_throughput_20
