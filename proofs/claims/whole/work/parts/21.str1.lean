theorem ec_le {p : Int32} (h : 0 ≤ p.toInt ∧ p.toInt ≤ 16) : (p - (16 : Int32)) ≤ 0 := by
  have e : (16 : Int32).toInt = 16 := by decide
  rw [fa_le, i32_0, fb_subI (by rw [e]; omega) (by rw [e]; omega), e]
  omega
theorem ap_c1 {c : Int32} (h : btw c 0 15) : 0 ≤ (c + (1 : Int32)).toInt ∧ (c + (1 : Int32)).toInt ≤ 16 := by
  have h1 := h.1
  have h2 := h.2
  rw [fb_addI (by rw [i32_1]; omega) (by rw [i32_1]; omega), i32_1]
  omega
theorem ap_b {p : Int32} (h : btw p 0 127) : p.toInt8.toInt32 = p := fb_byte (by have := h.1; omega) (by have := h.2; omega)
theorem ap_n {p : Int32} (h : btw p 0 127) : vp_nar .byte p = p := by rw [vp_nar_byte]; exact ap_b h
theorem ap_255 {p : Int32} (h : btw p 0 127) : ¬ (255 : Int32) < p := by
  rw [fa_lt, show (255 : Int32).toInt = 255 by decide]
  have := h.2
  omega
theorem ap_fit {p : Int32} (h : btw p 0 127) : fits .byte (.int p) = true := by
  rw [← ap_b h]
  exact pk_fb p
theorem c32 {p : Int32} (h : btw p 0 127) : ((p &&& (255 : Int32)).toUInt32 % 65536).toInt32 = p := by
  rw [sc_c2]
  obtain ⟨n, rfl, -, h2, -⟩ := nat_of h (Int.le_refl 0)
  rw [show (255 : Int32) = nI 255 from rfl, pk_andN (by omega) 8 (by decide)]
  rw [Nat.mod_eq_of_lt (by omega)]
theorem c32n {p : Int32} (h : btw p 0 127) : narrow .char (.int p) = .int p := by
  obtain ⟨n, rfl, -, h2, -⟩ := nat_of h (Int.le_refl 0)
  exact (pk_charN (by omega)).1
def spc (f : Nat → Int32) : Nat → Nat → Int32
  | 0, _ => -1
  | m + 1, j => if f j = 32 then nI j else spc f m (j + 1)
def seq (n m : Nat) (f g : Nat → Int32) : Int32 := if n = m ∧ ∀ t, t < n → f t = g t then 1 else 0

set_option maxRecDepth 100000 in
set_option maxHeartbeats 4000000 in
theorem c_J5_length_8abf5 {l : Launch} {D : va_G} {cI cB : ClassId} (qx qy : Nat) (z cn : Int32) (bs : Nat → Int32)  : CI (S := Unit) l X0 D cI cB yJ5_length_8abf5 cJ5_length_8abf5 1 (some .int) 0 0 0 0 [.ref qx] [(qx, .inr (1, [.ref qy, .int (0 : Int32), .int z, .int cn])), (qy, .inl (cB, 16, .inl bs))] (fun r (_ : Unit) => r = cn) (fun _ => [(qx, .inr (1, [.ref qy, .int (0 : Int32), .int z, .int cn])), (qy, .inl (cB, 16, .inl bs))]) := by
  refine CI.of (by decide) (Nat.le_of_ble_eq_true rfl) ?_
  intro p e s m below meth c A ls E hr hk hin hA hAA hX Y hl
  have E : EE p c cJ5_length_8abf5 1 s _ m RJ5 D cI cB := E
  have hl : lv_has ls 1 [(0, .ref qx)] := hl
  refine lv_aload_n E.1.1 E.1.2.1 dJ5_length_8abf5_0 rfl (lv_at hl 0 rfl) ?_
  refine gf_J5_79 E Y 0 rfl rfl dJ5_length_8abf5_1 ?_
  exact r_iret E Y hr hk cn () (rfl) rfl ⟨Nat.le_of_ble_eq_true rfl, Nat.le_of_ble_eq_true rfl⟩ dJ5_length_8abf5_4

set_option maxRecDepth 100000 in
set_option maxHeartbeats 4000000 in
theorem c_J4_length_8abf5 {l : Launch} {D : va_G} {cI cB : ClassId} (qx qy : Nat) (z cn : Int32) (bs : Nat → Int32)  : CI (S := Unit) l X0 D cI cB yJ4_length_8abf5 cJ4_length_8abf5 1 (some .int) 1 20 0 0 [.ref qx] [(qx, .inr (1, [.ref qy, .int (0 : Int32), .int z, .int cn])), (qy, .inl (cB, 16, .inl bs))] (fun r (_ : Unit) => r = cn) (fun _ => [(qx, .inr (1, [.ref qy, .int (0 : Int32), .int z, .int cn])), (qy, .inl (cB, 16, .inl bs))]) := by
  refine CI.of (by decide) (Nat.le_of_ble_eq_true rfl) ?_
  intro p e s m below meth c A ls E hr hk hin hA hAA hX Y hl
  have E : EE p c cJ4_length_8abf5 1 s _ m RJ4 D cI cB := E
  have hl : lv_has ls 1 [(0, .ref qx)] := hl
  refine lv_aload_n E.1.1 E.1.2.1 dJ4_length_8abf5_0 rfl (lv_at hl 0 rfl) ?_
  refine g_i (wr := []) (w2 := fun _ => [(qx, .inr (1, [.ref qy, .int (0 : Int32), .int z, .int cn])), (qy, .inl (cB, 16, .inl bs))]) (run_SU (show ClassAt s RJ4 (D.1 1) from (E.2.1 1 _ rfl).2) E ((c_J5_length_8abf5 qx qy z cn bs) _) ls_J4_343 X0b (pre_of E Y [0, 1] rfl (by decide) (fun U hU hW => trivial)) (va_recv (ci := 1) (q0 := 0) E.2 Y.1 rfl rfl) hl.1 ⟨Nat.le_of_ble_eq_true rfl, Nat.le_of_ble_eq_true rfl⟩ ⟨Nat.le_of_ble_eq_true rfl, Nat.le_of_ble_eq_true rfl⟩ rfl rfl (Nat.le_of_ble_eq_true rfl) dJ4_length_8abf5_1) Y hA [0, 1] [] [0, 1] rfl rfl (by decide) (fun _ => rfl) (fun r u H locs hp Y => ?_)
  refine lv_cst (v := cn) hp ?_
  exact r_iret E Y hr hk cn () (rfl) rfl ⟨Nat.le_of_ble_eq_true rfl, Nat.le_of_ble_eq_true rfl⟩ dJ4_length_8abf5_4

set_option maxRecDepth 100000 in
set_option maxHeartbeats 4000000 in
theorem c_J5_isLatin1_aae02 {l : Launch} {D : va_G} {cI cB : ClassId} (ad ab : Nat → Nat) (qx qy : Nat) (z cn : Int32) (bs : Nat → Int32)  : CI (S := Unit) l (XZ ad ab [(qx, .inr (1, [.ref qy, .int (0 : Int32), .int z, .int cn])), (qy, .inl (cB, 16, .inl bs))]) D cI cB yJ5_isLatin1_aae02 cJ5_isLatin1_aae02 1 (some .boolean) 0 0 0 0 [.ref qx] [(qx, .inr (1, [.ref qy, .int (0 : Int32), .int z, .int cn])), (qy, .inl (cB, 16, .inl bs))] (fun r (_ : Unit) => r = 1) (fun _ => [(qx, .inr (1, [.ref qy, .int (0 : Int32), .int z, .int cn])), (qy, .inl (cB, 16, .inl bs))]) := by
  refine CI.of (by decide) (Nat.le_of_ble_eq_true rfl) ?_
  intro p e s m below meth c A ls E hr hk hin hA hAA hX Y hl
  have E : EE p c cJ5_isLatin1_aae02 1 s _ m RJ5 D cI cB := E
  have hl : lv_has ls 1 [(0, .ref qx)] := hl
  have hZ : ZB ad ab A s s.heap := hX.narrow hAA
  refine va_gets E.1.1 E.1.2.1 hZ.1 Y.2.2 E.1.2.2.2.1 (E.1.2.2.2.2 _ mf_J5_18) (fun _ h => h) dJ5_isLatin1_aae02_0 ?_
  refine lv_if_eq (tgt := 17) E.1.1 E.1.2.1 dJ5_isLatin1_aae02_3 (by decide) (fun c_3 => ?_) (fun c_3 => ?_)
  · exact absurd c_3 (by decide)
  · skip
    refine lv_aload_n E.1.1 E.1.2.1 dJ5_isLatin1_aae02_6 rfl (lv_at hl 0 rfl) ?_
    refine gf_J5_22 E Y 0 rfl rfl dJ5_isLatin1_aae02_7 ?_
    refine lv_if_ne (tgt := 17) E.1.1 E.1.2.1 dJ5_isLatin1_aae02_10 (by decide) (fun c_10 => ?_) (fun c_10 => ?_)
    · exact absurd (by decide) c_10
    · skip
      refine lv_iconst (v := 1) E.1.1 E.1.2.1 dJ5_isLatin1_aae02_13 (by decide) ?_
      refine lv_goto (tgt := 18) E.1.1 E.1.2.1 dJ5_isLatin1_aae02_14 (by decide) ?_
      exact r_zret E Y hr hk (1 : Int32) rfl () (rfl) rfl ⟨Nat.le_of_ble_eq_true rfl, Nat.le_of_ble_eq_true rfl⟩ dJ5_isLatin1_aae02_18

set_option maxRecDepth 100000 in
set_option maxHeartbeats 4000000 in
theorem c_J5_ensureCapacityInternal_d00df {l : Launch} {D : va_G} {cI cB : ClassId} (qx qy : Nat) (z cn : Int32) (bs : Nat → Int32) (p0 : Int32) (h16 : 0 ≤ p0.toInt ∧ p0.toInt ≤ 16) : CV (S := Unit) l X0 D cI cB yJ5_ensureCapacityInternal_d00df cJ5_ensureCapacityInternal_d00df 3 0 0 0 0 [.ref qx, .int p0] [(qx, .inr (1, [.ref qy, .int (0 : Int32), .int z, .int cn])), (qy, .inl (cB, 16, .inl bs))] (fun _ => True) (fun _ => [(qx, .inr (1, [.ref qy, .int (0 : Int32), .int z, .int cn])), (qy, .inl (cB, 16, .inl bs))]) := by
  refine CV.of (by decide) (Nat.le_of_ble_eq_true rfl) ?_
  intro p e s m below meth c A ls E hr hk hin hA hAA hX Y hl
  have E : EE p c cJ5_ensureCapacityInternal_d00df 3 s _ m RJ5 D cI cB := E
  have hl : lv_has ls 3 [(0, .ref qx), (1, .int p0)] := hl
  refine lv_aload_n E.1.1 E.1.2.1 dJ5_ensureCapacityInternal_d00df_0 rfl (lv_at hl 0 rfl) ?_
  refine gf_J5_15 E Y 0 rfl rfl dJ5_ensureCapacityInternal_d00df_1 ?_
  refine r_alenB (v := (16 : Int32)) E Y 1 rfl (by decide) dJ5_ensureCapacityInternal_d00df_4 ?_
  refine lv_aload_n E.1.1 E.1.2.1 dJ5_ensureCapacityInternal_d00df_5 rfl (lv_at hl 0 rfl) ?_
  refine gf_J5_22 E Y 0 rfl rfl dJ5_ensureCapacityInternal_d00df_6 ?_
  refine lv_ishr E.1.1 E.1.2.1 dJ5_ensureCapacityInternal_d00df_9 ?_
  refine lv_cst (v := (16 : Int32)) (sb_shr0 _) ?_
  refine lv_istore_n (lv' := [(2, .int (16 : Int32)), (0, .ref qx), (1, .int p0)]) E.1.1 E.1.2.1 dJ5_ensureCapacityInternal_d00df_10 rfl hl (by decide) rfl (fun ls hl => ?_)
  refine lv_iload_n E.1.1 E.1.2.1 dJ5_ensureCapacityInternal_d00df_11 rfl (lv_at hl 2 rfl) ?_
  refine lv_iload_n E.1.1 E.1.2.1 dJ5_ensureCapacityInternal_d00df_12 rfl (lv_at hl 0 rfl) ?_
  refine lv_isub E.1.1 E.1.2.1 dJ5_ensureCapacityInternal_d00df_13 ?_
  refine lv_if_le (tgt := 38) E.1.1 E.1.2.1 dJ5_ensureCapacityInternal_d00df_14 (by decide) (fun c_14 => ?_) (fun c_14 => ?_)
  · skip
    exact r_vret E Y hr hk () (trivial) rfl ⟨Nat.le_of_ble_eq_true rfl, Nat.le_of_ble_eq_true rfl⟩ dJ5_ensureCapacityInternal_d00df_38
  · exact absurd (ec_le h16) c_14

set_option maxRecDepth 100000 in
set_option maxHeartbeats 4000000 in
theorem c_J1_canEncode_fc78d {l : Launch} {D : va_G} {cI cB : ClassId} (p0 : Int32) (hc : ¬ (255 : Int32) < p0) : CI (S := Unit) l X0 D cI cB yJ1_canEncode_fc78d cJ1_canEncode_fc78d 1 (some .boolean) 0 0 0 0 [.int p0] [] (fun r (_ : Unit) => r = 1) (fun _ => []) := by
  refine CI.of (by decide) (Nat.le_of_ble_eq_true rfl) ?_
  intro p e s m below meth c A ls E hr hk hin hA hAA hX Y hl
  have E : EE p c cJ1_canEncode_fc78d 1 s _ m RJ1 D cI cB := E
  have hl : lv_has ls 1 [(0, .int p0)] := hl
  refine lv_iload_n E.1.1 E.1.2.1 dJ1_canEncode_fc78d_0 rfl (lv_at hl 0 rfl) ?_
  refine lv_sipush (v := 255) E.1.1 E.1.2.1 dJ1_canEncode_fc78d_1 (by decide) ?_
  refine lv_icmp_gt (tgt := 11) E.1.1 E.1.2.1 dJ1_canEncode_fc78d_4 (by decide) (fun c_4 => ?_) (fun c_4 => ?_)
  · exact absurd c_4 hc
  · skip
    refine lv_iconst (v := 1) E.1.1 E.1.2.1 dJ1_canEncode_fc78d_7 (by decide) ?_
    refine lv_goto (tgt := 12) E.1.1 E.1.2.1 dJ1_canEncode_fc78d_8 (by decide) ?_
    exact r_zret E Y hr hk (1 : Int32) rfl () (rfl) rfl ⟨Nat.le_of_ble_eq_true rfl, Nat.le_of_ble_eq_true rfl⟩ dJ1_canEncode_fc78d_12

set_option maxRecDepth 100000 in
set_option maxHeartbeats 4000000 in
theorem c_J1_canEncode_9a6ad {l : Launch} {D : va_G} {cI cB : ClassId} (p0 : Int32) (h0 : ¬ p0 < 0) (hc : ¬ (255 : Int32) < p0) : CI (S := Unit) l X0 D cI cB yJ1_canEncode_9a6ad cJ1_canEncode_9a6ad 1 (some .boolean) 0 0 0 0 [.int p0] [] (fun r (_ : Unit) => r = 1) (fun _ => []) := by
  refine CI.of (by decide) (Nat.le_of_ble_eq_true rfl) ?_
  intro p e s m below meth c A ls E hr hk hin hA hAA hX Y hl
  have E : EE p c cJ1_canEncode_9a6ad 1 s _ m RJ1 D cI cB := E
  have hl : lv_has ls 1 [(0, .int p0)] := hl
  refine lv_iload_n E.1.1 E.1.2.1 dJ1_canEncode_9a6ad_0 rfl (lv_at hl 0 rfl) ?_
  refine lv_if_lt (tgt := 15) E.1.1 E.1.2.1 dJ1_canEncode_9a6ad_1 (by decide) (fun c_1 => ?_) (fun c_1 => ?_)
  · exact absurd c_1 h0
  · skip
    refine lv_iload_n E.1.1 E.1.2.1 dJ1_canEncode_9a6ad_4 rfl (lv_at hl 0 rfl) ?_
    refine lv_sipush (v := 255) E.1.1 E.1.2.1 dJ1_canEncode_9a6ad_5 (by decide) ?_
    refine lv_icmp_gt (tgt := 15) E.1.1 E.1.2.1 dJ1_canEncode_9a6ad_8 (by decide) (fun c_8 => ?_) (fun c_8 => ?_)
    · exact absurd c_8 hc
    · skip
      refine lv_iconst (v := 1) E.1.1 E.1.2.1 dJ1_canEncode_9a6ad_11 (by decide) ?_
      refine lv_goto (tgt := 16) E.1.1 E.1.2.1 dJ1_canEncode_9a6ad_12 (by decide) ?_
      exact r_zret E Y hr hk (1 : Int32) rfl () (rfl) rfl ⟨Nat.le_of_ble_eq_true rfl, Nat.le_of_ble_eq_true rfl⟩ dJ1_canEncode_9a6ad_16

set_option maxRecDepth 100000 in
set_option maxHeartbeats 4000000 in
theorem c_J5_append_3fe6f {l : Launch} {D : va_G} {cI cB : ClassId} (ad ab : Nat → Nat) (qx qy : Nat) (z cn : Int32) (bs : Nat → Int32) (p0 : Int32) (hcn : btw cn 0 15) (hp0 : btw p0 0 127) : CR (S := Unit) l (XZ ad ab [(qx, .inr (1, [.ref qy, .int (0 : Int32), .int z, .int cn])), (qy, .inl (cB, 16, .inl bs))]) D cI cB yJ5_append_3fe6f cJ5_append_3fe6f 2 (some (.object "java/lang/AbstractStringBuilder")) 1 22 0 0 [.ref qx, .int p0] [(qx, .inr (1, [.ref qy, .int (0 : Int32), .int z, .int cn])), (qy, .inl (cB, 16, .inl bs))] (fun (_ : Unit) => True) (fun _ _ => [(qx, .inr (1, [.ref qy, .int (0 : Int32), .int z, .int (cn + (1 : Int32))])), (qy, .inl (cB, 16, .inl (upd bs (cn.toNatClampNeg) p0)))]) := by
  refine CR.of (by decide) (Nat.le_of_ble_eq_true rfl) ?_
  intro p e s m below meth c A ls E hr hk hin hA hAA hX Y hl
  have E : EE p c cJ5_append_3fe6f 2 s _ m RJ5 D cI cB := E
  have hl : lv_has ls 2 [(0, .ref qx), (1, .int p0)] := hl
  have hZ : ZB ad ab A s s.heap := hX.narrow hAA
  refine lv_aload_n E.1.1 E.1.2.1 dJ5_append_3fe6f_0 rfl (lv_at hl 0 rfl) ?_
  refine lv_aload_n E.1.1 E.1.2.1 dJ5_append_3fe6f_1 rfl (lv_at hl 0 rfl) ?_
  refine gf_J5_79 E Y 0 rfl rfl dJ5_append_3fe6f_2 ?_
  refine lv_iconst (v := 1) E.1.1 E.1.2.1 dJ5_append_3fe6f_5 (by decide) ?_
  refine lv_iadd E.1.1 E.1.2.1 dJ5_append_3fe6f_6 ?_
  refine g_v (wr := []) (w2 := fun _ => [(qx, .inr (1, [.ref qy, .int (0 : Int32), .int z, .int cn])), (qy, .inl (cB, 16, .inl bs))]) (run_U E ((c_J5_ensureCapacityInternal_d00df qx qy z cn bs (cn + (1 : Int32)) (ap_c1 hcn)) _) lu_J5_100 X0b (pre_of E Y [0, 1] rfl (by decide) (fun U hU hW => trivial)) (va_recv (ci := 1) (q0 := 0) E.2 Y.1 rfl rfl) hl.1 ⟨Nat.le_of_ble_eq_true rfl, Nat.le_of_ble_eq_true rfl⟩ ⟨Nat.le_of_ble_eq_true rfl, Nat.le_of_ble_eq_true rfl⟩ rfl rfl (Nat.le_of_ble_eq_true rfl) dJ5_append_3fe6f_7) Y hA [0, 1] [] [0, 1] rfl rfl (by decide) (fun _ => rfl) (fun u H locs hp Y => ?_)
  refine lv_aload_n E.1.1 E.1.2.1 dJ5_append_3fe6f_10 rfl (lv_at hl 0 rfl) ?_
  refine g_i (wr := []) (w2 := fun _ => [(qx, .inr (1, [.ref qy, .int (0 : Int32), .int z, .int cn])), (qy, .inl (cB, 16, .inl bs))]) (run_U E ((c_J5_isLatin1_aae02 ad ab qx qy z cn bs) _) lu_J5_83 xbZ (pre_of E Y [0, 1] rfl (by decide) (fun U hU hW => hZ.pass Y.2.2 hU hW (va_free Y.2.1 Y.2.2 hA [0, 1] rfl))) (va_recv (ci := 1) (q0 := 0) E.2 Y.1 rfl rfl) hl.1 ⟨Nat.le_of_ble_eq_true rfl, Nat.le_of_ble_eq_true rfl⟩ ⟨Nat.le_of_ble_eq_true rfl, Nat.le_of_ble_eq_true rfl⟩ rfl rfl (Nat.le_of_ble_eq_true rfl) dJ5_append_3fe6f_11) Y hA [0, 1] [] [0, 1] rfl rfl (by decide) (fun _ => rfl) (fun r u H locs hp Y => ?_)
  refine lv_cst (v := (1 : Int32)) hp ?_
  refine lv_if_eq (tgt := 45) E.1.1 E.1.2.1 dJ5_append_3fe6f_14 (by decide) (fun c_14 => ?_) (fun c_14 => ?_)
  · exact absurd c_14 (by decide)
  · skip
    refine lv_iload_n E.1.1 E.1.2.1 dJ5_append_3fe6f_17 rfl (lv_at hl 1 rfl) ?_
    refine g_i (wr := [(qx, .inr (1, [.ref qy, .int (0 : Int32), .int z, .int cn])), (qy, .inl (cB, 16, .inl bs))]) (w2 := fun _ => [(qx, .inr (1, [.ref qy, .int (0 : Int32), .int z, .int cn])), (qy, .inl (cB, 16, .inl bs))]) (run_S E ((c_J1_canEncode_fc78d p0 (ap_255 hp0)) _) lk_J5_191 X0b (pre_of E Y [] rfl (by decide) (fun U hU hW => trivial)) hl.1 ⟨Nat.le_of_ble_eq_true rfl, Nat.le_of_ble_eq_true rfl⟩ ⟨Nat.le_of_ble_eq_true rfl, Nat.le_of_ble_eq_true rfl⟩ rfl rfl (Nat.le_of_ble_eq_true rfl) dJ5_append_3fe6f_18) Y hA [] [0, 1] [0, 1] rfl rfl (by decide) (fun _ => rfl) (fun r u H locs hp Y => ?_)
    refine lv_cst (v := (1 : Int32)) hp ?_
    refine lv_if_eq (tgt := 45) E.1.1 E.1.2.1 dJ5_append_3fe6f_21 (by decide) (fun c_21 => ?_) (fun c_21 => ?_)
    · exact absurd c_21 (by decide)
    · skip
      refine lv_aload_n E.1.1 E.1.2.1 dJ5_append_3fe6f_24 rfl (lv_at hl 0 rfl) ?_
      refine gf_J5_15 E Y 0 rfl rfl dJ5_append_3fe6f_25 ?_
      refine lv_aload_n E.1.1 E.1.2.1 dJ5_append_3fe6f_28 rfl (lv_at hl 0 rfl) ?_
      refine lv_dup E.1.1 E.1.2.1 dJ5_append_3fe6f_29 rfl ?_
      refine gf_J5_79 E Y 0 rfl rfl dJ5_append_3fe6f_30 ?_
      refine lv_dup_x1 E.1.1 E.1.2.1 dJ5_append_3fe6f_33 rfl rfl ?_
      refine lv_iconst (v := 1) E.1.1 E.1.2.1 dJ5_append_3fe6f_34 (by decide) ?_
      refine lv_iadd E.1.1 E.1.2.1 dJ5_append_3fe6f_35 ?_
      refine pf_J5_79 (w' := [(qx, .inr (1, [.ref qy, .int (0 : Int32), .int z, .int (cn + (1 : Int32))])), (qy, .inl (cB, 16, .inl bs))]) E Y 0 rfl (Nat.le_of_ble_eq_true rfl) rfl dJ5_append_3fe6f_36 (fun H locs Y => ?_)
      refine lv_iload_n E.1.1 E.1.2.1 dJ5_append_3fe6f_39 rfl (lv_at hl 1 rfl) ?_
      refine lv_i2b E.1.1 E.1.2.1 dJ5_append_3fe6f_40 rfl ?_
      refine lv_cst (v := p0) (ap_b hp0) ?_
      refine r_bas (w' := [(qx, .inr (1, [.ref qy, .int (0 : Int32), .int z, .int (cn + (1 : Int32))])), (qy, .inl (cB, 16, .inl (upd bs (cn.toNatClampNeg) p0)))]) E Y 1 rfl (cn.toNatClampNeg) rfl (btw_in hcn (by decide) (by decide)) (ap_n hp0) rfl dJ5_append_3fe6f_41 (fun H locs Y => ?_)
      refine lv_goto (tgt := 75) E.1.1 E.1.2.1 dJ5_append_3fe6f_42 (by decide) ?_
      refine lv_aload_n E.1.1 E.1.2.1 dJ5_append_3fe6f_75 rfl (lv_at hl 0 rfl) ?_
      exact r_aret E Y hr (Or.inl ⟨_, rfl⟩) hk qx () (trivial) rfl ⟨Nat.le_of_ble_eq_true rfl, Nat.le_of_ble_eq_true rfl⟩ dJ5_append_3fe6f_76

set_option maxRecDepth 100000 in
set_option maxHeartbeats 4000000 in
theorem c_J4_append_cf468 {l : Launch} {D : va_G} {cI cB : ClassId} (ad ab : Nat → Nat) (qx qy : Nat) (z cn : Int32) (bs : Nat → Int32) (p0 : Int32) (hcn : btw cn 0 15) (hp0 : btw p0 0 127) : CR (S := Unit) l (XZ ad ab [(qx, .inr (1, [.ref qy, .int (0 : Int32), .int z, .int cn])), (qy, .inl (cB, 16, .inl bs))]) D cI cB yJ4_append_cf468 cJ4_append_cf468 2 (some (.object "java/lang/StringBuilder")) 2 43 0 0 [.ref qx, .int p0] [(qx, .inr (1, [.ref qy, .int (0 : Int32), .int z, .int cn])), (qy, .inl (cB, 16, .inl bs))] (fun (_ : Unit) => True) (fun _ _ => [(qx, .inr (1, [.ref qy, .int (0 : Int32), .int z, .int (cn + (1 : Int32))])), (qy, .inl (cB, 16, .inl (upd bs (cn.toNatClampNeg) p0)))]) := by
  refine CR.of (by decide) (Nat.le_of_ble_eq_true rfl) ?_
  intro p e s m below meth c A ls E hr hk hin hA hAA hX Y hl
  have E : EE p c cJ4_append_cf468 2 s _ m RJ4 D cI cB := E
  have hl : lv_has ls 2 [(0, .ref qx), (1, .int p0)] := hl
  have hZ : ZB ad ab A s s.heap := hX.narrow hAA
  refine lv_aload_n E.1.1 E.1.2.1 dJ4_append_cf468_0 rfl (lv_at hl 0 rfl) ?_
  refine lv_iload_n E.1.1 E.1.2.1 dJ4_append_cf468_1 rfl (lv_at hl 1 rfl) ?_
  refine g_r (wr := []) (w2 := fun _ rq => [(qx, .inr (1, [.ref qy, .int (0 : Int32), .int z, .int (cn + (1 : Int32))])), (qy, .inl (cB, 16, .inl (upd bs (cn.toNatClampNeg) p0)))]) (run_SU (show ClassAt s RJ4 (D.1 1) from (E.2.1 1 _ rfl).2) E ((c_J5_append_3fe6f ad ab qx qy z cn bs p0 hcn hp0) _) ls_J4_50 xbZ (pre_of E Y [0, 1] rfl (by decide) (fun U hU hW => hZ.pass Y.2.2 hU hW (va_free Y.2.1 Y.2.2 hA [0, 1] rfl))) (va_recv (ci := 1) (q0 := 0) E.2 Y.1 rfl rfl) hl.1 ⟨Nat.le_of_ble_eq_true rfl, Nat.le_of_ble_eq_true rfl⟩ ⟨Nat.le_of_ble_eq_true rfl, Nat.le_of_ble_eq_true rfl⟩ rfl rfl (Nat.le_of_ble_eq_true rfl) dJ4_append_cf468_2) Y hA [0, 1] [] [0, 1] rfl rfl (by decide) (fun _ _ => rfl) (fun _ rq H locs hp Y => ?_)
  refine lv_pop E.1.1 E.1.2.1 dJ4_append_cf468_5 rfl ?_
  refine lv_aload_n E.1.1 E.1.2.1 dJ4_append_cf468_6 rfl (lv_at hl 0 rfl) ?_
  exact r_aret E Y hr (Or.inl ⟨_, rfl⟩) hk qx () (trivial) rfl ⟨Nat.le_of_ble_eq_true rfl, Nat.le_of_ble_eq_true rfl⟩ dJ4_append_cf468_7

set_option maxRecDepth 100000 in
set_option maxHeartbeats 4000000 in
theorem c_J5_setLength_d00df {l : Launch} {D : va_G} {cI cB : ClassId} (qx qy : Nat) (z cn : Int32) (bs : Nat → Int32) (hcn : (0 : Int32) ≤ cn) : CV (S := Int32) l X0 D cI cB yJ5_setLength_d00df cJ5_setLength_d00df 2 1 22 0 0 [.ref qx, .int (0 : Int32)] [(qx, .inr (1, [.ref qy, .int (0 : Int32), .int z, .int cn])), (qy, .inl (cB, 16, .inl bs))] (fun (_ : Int32) => True) (fun zn => [(qx, .inr (1, [.ref qy, .int (0 : Int32), .int zn, .int (0 : Int32)])), (qy, .inl (cB, 16, .inl bs))]) := by
  refine CV.of (by decide) (Nat.le_of_ble_eq_true rfl) ?_
  intro p e s m below meth c A ls E hr hk hin hA hAA hX Y hl
  have E : EE p c cJ5_setLength_d00df 2 s _ m RJ5 D cI cB := E
  have hl : lv_has ls 2 [(0, .ref qx), (1, .int (0 : Int32))] := hl
  refine lv_iload_n E.1.1 E.1.2.1 dJ5_setLength_d00df_0 rfl (lv_at hl 1 rfl) ?_
  refine lv_if_ge (tgt := 13) E.1.1 E.1.2.1 dJ5_setLength_d00df_1 (by decide) (fun c_1 => ?_) (fun c_1 => ?_)
  · skip
    refine lv_aload_n E.1.1 E.1.2.1 dJ5_setLength_d00df_13 rfl (lv_at hl 0 rfl) ?_
    refine lv_iload_n E.1.1 E.1.2.1 dJ5_setLength_d00df_14 rfl (lv_at hl 1 rfl) ?_
    refine g_v (wr := []) (w2 := fun _ => [(qx, .inr (1, [.ref qy, .int (0 : Int32), .int z, .int cn])), (qy, .inl (cB, 16, .inl bs))]) (run_U E ((c_J5_ensureCapacityInternal_d00df qx qy z cn bs (0 : Int32) (by decide)) _) lu_J5_100 X0b (pre_of E Y [0, 1] rfl (by decide) (fun U hU hW => trivial)) (va_recv (ci := 1) (q0 := 0) E.2 Y.1 rfl rfl) hl.1 ⟨Nat.le_of_ble_eq_true rfl, Nat.le_of_ble_eq_true rfl⟩ ⟨Nat.le_of_ble_eq_true rfl, Nat.le_of_ble_eq_true rfl⟩ rfl rfl (Nat.le_of_ble_eq_true rfl) dJ5_setLength_d00df_15) Y hA [0, 1] [] [0, 1] rfl rfl (by decide) (fun _ => rfl) (fun u H locs hp Y => ?_)
    refine lv_aload_n E.1.1 E.1.2.1 dJ5_setLength_d00df_18 rfl (lv_at hl 0 rfl) ?_
    refine gf_J5_79 E Y 0 rfl rfl dJ5_setLength_d00df_19 ?_
    refine lv_iload_n E.1.1 E.1.2.1 dJ5_setLength_d00df_22 rfl (lv_at hl 1 rfl) ?_
    refine lv_icmp_ge (tgt := 63) E.1.1 E.1.2.1 dJ5_setLength_d00df_23 (by decide) (fun c_23 => ?_) (fun c_23 => ?_)
    · skip
      refine lv_aload_n E.1.1 E.1.2.1 dJ5_setLength_d00df_63 rfl (lv_at hl 0 rfl) ?_
      refine gf_J5_79 E Y 0 rfl rfl dJ5_setLength_d00df_64 ?_
      refine lv_iload_n E.1.1 E.1.2.1 dJ5_setLength_d00df_67 rfl (lv_at hl 1 rfl) ?_
      refine lv_icmp_le (tgt := 76) E.1.1 E.1.2.1 dJ5_setLength_d00df_68 (by decide) (fun c_68 => ?_) (fun c_68 => ?_)
      · skip
        refine lv_aload_n E.1.1 E.1.2.1 dJ5_setLength_d00df_76 rfl (lv_at hl 0 rfl) ?_
        refine lv_iload_n E.1.1 E.1.2.1 dJ5_setLength_d00df_77 rfl (lv_at hl 1 rfl) ?_
        refine pf_J5_79 (w' := [(qx, .inr (1, [.ref qy, .int (0 : Int32), .int z, .int (0 : Int32)])), (qy, .inl (cB, 16, .inl bs))]) E Y 0 rfl (Nat.le_of_ble_eq_true rfl) rfl dJ5_setLength_d00df_78 (fun H locs Y => ?_)
        exact r_vret E Y hr hk z (trivial) rfl ⟨Nat.le_of_ble_eq_true rfl, Nat.le_of_ble_eq_true rfl⟩ dJ5_setLength_d00df_81
      · skip
        refine lv_aload_n E.1.1 E.1.2.1 dJ5_setLength_d00df_71 rfl (lv_at hl 0 rfl) ?_
        refine lv_iconst (v := 1) E.1.1 E.1.2.1 dJ5_setLength_d00df_72 (by decide) ?_
        refine pf_J5_73 (w' := [(qx, .inr (1, [.ref qy, .int (0 : Int32), .int (1 : Int32), .int cn])), (qy, .inl (cB, 16, .inl bs))]) E Y 0 rfl rfl rfl (Nat.le_of_ble_eq_true rfl) rfl dJ5_setLength_d00df_73 (fun H locs Y => ?_)
        refine lv_aload_n E.1.1 E.1.2.1 dJ5_setLength_d00df_76 rfl (lv_at hl 0 rfl) ?_
        refine lv_iload_n E.1.1 E.1.2.1 dJ5_setLength_d00df_77 rfl (lv_at hl 1 rfl) ?_
        refine pf_J5_79 (w' := [(qx, .inr (1, [.ref qy, .int (0 : Int32), .int (1 : Int32), .int (0 : Int32)])), (qy, .inl (cB, 16, .inl bs))]) E Y 0 rfl (Nat.le_of_ble_eq_true rfl) rfl dJ5_setLength_d00df_78 (fun H locs Y => ?_)
        exact r_vret E Y hr hk (1 : Int32) (trivial) rfl ⟨Nat.le_of_ble_eq_true rfl, Nat.le_of_ble_eq_true rfl⟩ dJ5_setLength_d00df_81
    · exact absurd hcn c_23
  · exact absurd (by decide) c_1

set_option maxRecDepth 100000 in
set_option maxHeartbeats 4000000 in
theorem c_J4_setLength_d00df {l : Launch} {D : va_G} {cI cB : ClassId} (qx qy : Nat) (z cn : Int32) (bs : Nat → Int32) (hcn : (0 : Int32) ≤ cn) : CV (S := Int32) l X0 D cI cB yJ4_setLength_d00df cJ4_setLength_d00df 2 2 43 0 0 [.ref qx, .int (0 : Int32)] [(qx, .inr (1, [.ref qy, .int (0 : Int32), .int z, .int cn])), (qy, .inl (cB, 16, .inl bs))] (fun (_ : Int32) => True) (fun zn => [(qx, .inr (1, [.ref qy, .int (0 : Int32), .int zn, .int (0 : Int32)])), (qy, .inl (cB, 16, .inl bs))]) := by
  refine CV.of (by decide) (Nat.le_of_ble_eq_true rfl) ?_
  intro p e s m below meth c A ls E hr hk hin hA hAA hX Y hl
  have E : EE p c cJ4_setLength_d00df 2 s _ m RJ4 D cI cB := E
  have hl : lv_has ls 2 [(0, .ref qx), (1, .int (0 : Int32))] := hl
  refine lv_aload_n E.1.1 E.1.2.1 dJ4_setLength_d00df_0 rfl (lv_at hl 0 rfl) ?_
  refine lv_iload_n E.1.1 E.1.2.1 dJ4_setLength_d00df_1 rfl (lv_at hl 1 rfl) ?_
  refine g_v (wr := []) (w2 := fun zn => [(qx, .inr (1, [.ref qy, .int (0 : Int32), .int zn, .int (0 : Int32)])), (qy, .inl (cB, 16, .inl bs))]) (run_SU (show ClassAt s RJ4 (D.1 1) from (E.2.1 1 _ rfl).2) E ((c_J5_setLength_d00df qx qy z cn bs hcn) _) ls_J4_333 X0b (pre_of E Y [0, 1] rfl (by decide) (fun U hU hW => trivial)) (va_recv (ci := 1) (q0 := 0) E.2 Y.1 rfl rfl) hl.1 ⟨Nat.le_of_ble_eq_true rfl, Nat.le_of_ble_eq_true rfl⟩ ⟨Nat.le_of_ble_eq_true rfl, Nat.le_of_ble_eq_true rfl⟩ rfl rfl (Nat.le_of_ble_eq_true rfl) dJ4_setLength_d00df_2) Y hA [0, 1] [] [0, 1] rfl rfl (by decide) (fun _ => rfl) (fun zn H locs hp Y => ?_)
  exact r_vret E Y hr hk zn (trivial) rfl ⟨Nat.le_of_ble_eq_true rfl, Nat.le_of_ble_eq_true rfl⟩ dJ4_setLength_d00df_5

set_option maxRecDepth 100000 in
set_option maxHeartbeats 4000000 in
theorem c_J5_init_d00df {l : Launch} {D : va_G} {cI cB : ClassId} (ad ab : Nat → Nat) (qx : Nat)  : CV (S := Nat) l (XZ ad ab [(qx, .inr (1, [.null, .int (0 : Int32), .int (0 : Int32), .int (0 : Int32)]))]) D cI cB yJ5_init_d00df cJ5_init_d00df 2 1 20 1 16 [.ref qx, .int (16 : Int32)] [(qx, .inr (1, [.null, .int (0 : Int32), .int (0 : Int32), .int (0 : Int32)]))] (fun (_ : Nat) => True) (fun qy => [(qx, .inr (1, [.ref qy, .int (0 : Int32), .int (0 : Int32), .int (0 : Int32)])), (qy, .inl (cB, 16, .inl (fun _ => 0)))]) := by
  refine CV.of (by decide) (Nat.le_of_ble_eq_true rfl) ?_
  intro p e s m below meth c A ls E hr hk hin hA hAA hX Y hl
  have E : EE p c cJ5_init_d00df 2 s _ m RJ5 D cI cB := E
  have hl : lv_has ls 2 [(0, .ref qx), (1, .int (16 : Int32))] := hl
  have hZ : ZB ad ab A s s.heap := hX.narrow hAA
  refine lv_aload_n E.1.1 E.1.2.1 dJ5_init_d00df_0 rfl (lv_at hl 0 rfl) ?_
  refine r_objI E hl.1 mm_J5_3 ⟨Nat.le_of_ble_eq_true rfl, Nat.le_of_ble_eq_true rfl⟩ dJ5_init_d00df_1 ?_
  refine va_gets E.1.1 E.1.2.1 hZ.1 Y.2.2 E.1.2.2.2.1 (E.1.2.2.2.2 _ mf_J5_18) (fun _ h => h) dJ5_init_d00df_4 ?_
  refine lv_if_eq (tgt := 25) E.1.1 E.1.2.1 dJ5_init_d00df_7 (by decide) (fun c_7 => ?_) (fun c_7 => ?_)
  · exact absurd c_7 (by decide)
  · skip
    refine lv_aload_n E.1.1 E.1.2.1 dJ5_init_d00df_10 rfl (lv_at hl 0 rfl) ?_
    refine lv_iload_n E.1.1 E.1.2.1 dJ5_init_d00df_11 rfl (lv_at hl 1 rfl) ?_
    refine r_newB E Y hA 16 rfl (by decide) (by decide) (by decide) ⟨Nat.le_of_ble_eq_true rfl, Nat.le_of_ble_eq_true rfl⟩ dJ5_init_d00df_12 (fun qn1 H Y => ?_)
    have Y : WD D A s.heap H _ [(qx, .inr (1, [.null, .int (0 : Int32), .int (0 : Int32), .int (0 : Int32)])), (qn1, .inl (cB, 16, .inl (fun _ => 0)))] := Y
    refine pf_J5_15 (w' := [(qx, .inr (1, [.ref qn1, .int (0 : Int32), .int (0 : Int32), .int (0 : Int32)])), (qn1, .inl (cB, 16, .inl (fun _ => 0)))]) E Y 0 rfl (Nat.le_of_ble_eq_true rfl) rfl dJ5_init_d00df_14 (fun H locs Y => ?_)
    refine lv_aload_n E.1.1 E.1.2.1 dJ5_init_d00df_17 rfl (lv_at hl 0 rfl) ?_
    refine lv_iconst (v := 0) E.1.1 E.1.2.1 dJ5_init_d00df_18 (by decide) ?_
    refine pf_J5_22 (w' := [(qx, .inr (1, [.ref qn1, .int (0 : Int32), .int (0 : Int32), .int (0 : Int32)])), (qn1, .inl (cB, 16, .inl (fun _ => 0)))]) E Y 0 rfl rfl rfl (Nat.le_of_ble_eq_true rfl) rfl dJ5_init_d00df_19 (fun H locs Y => ?_)
    refine lv_goto (tgt := 38) E.1.1 E.1.2.1 dJ5_init_d00df_22 (by decide) ?_
    exact r_vret E Y hr hk qn1 (trivial) rfl ⟨Nat.le_of_ble_eq_true rfl, Nat.le_of_ble_eq_true rfl⟩ dJ5_init_d00df_38

set_option maxRecDepth 100000 in
set_option maxHeartbeats 4000000 in
theorem c_J4_init_da8c8 {l : Launch} {D : va_G} {cI cB : ClassId} (ad ab : Nat → Nat) (qx : Nat)  : CV (S := Nat) l (XZ ad ab [(qx, .inr (1, [.null, .int (0 : Int32), .int (0 : Int32), .int (0 : Int32)]))]) D cI cB yJ4_init_da8c8 cJ4_init_da8c8 1 2 41 1 16 [.ref qx] [(qx, .inr (1, [.null, .int (0 : Int32), .int (0 : Int32), .int (0 : Int32)]))] (fun (_ : Nat) => True) (fun qy => [(qx, .inr (1, [.ref qy, .int (0 : Int32), .int (0 : Int32), .int (0 : Int32)])), (qy, .inl (cB, 16, .inl (fun _ => 0)))]) := by
  refine CV.of (by decide) (Nat.le_of_ble_eq_true rfl) ?_
  intro p e s m below meth c A ls E hr hk hin hA hAA hX Y hl
  have E : EE p c cJ4_init_da8c8 1 s _ m RJ4 D cI cB := E
  have hl : lv_has ls 1 [(0, .ref qx)] := hl
  have hZ : ZB ad ab A s s.heap := hX.narrow hAA
  refine lv_aload_n E.1.1 E.1.2.1 dJ4_init_da8c8_0 rfl (lv_at hl 0 rfl) ?_
  refine lv_bipush (v := 16) E.1.1 E.1.2.1 dJ4_init_da8c8_1 (by decide) ?_
  refine g_v (wr := []) (w2 := fun qsb => [(qx, .inr (1, [.ref qsb, .int (0 : Int32), .int (0 : Int32), .int (0 : Int32)])), (qsb, .inl (cB, 16, .inl (fun _ => 0)))]) (run_I E ((c_J5_init_d00df ad ab qx) _) lk_J4_1 xbZ (pre_of E Y [0] rfl (by decide) (fun U hU hW => hZ.pass Y.2.2 hU hW (va_free Y.2.1 Y.2.2 hA [0] rfl))) hl.1 ⟨Nat.le_of_ble_eq_true rfl, Nat.le_of_ble_eq_true rfl⟩ ⟨Nat.le_of_ble_eq_true rfl, Nat.le_of_ble_eq_true rfl⟩ rfl rfl (Nat.le_of_ble_eq_true rfl) dJ4_init_da8c8_3) Y hA [0] [] [0, 1] rfl rfl (by decide) (fun _ => rfl) (fun qsb H locs hp Y => ?_)
  exact r_vret E Y hr hk qsb (trivial) rfl ⟨Nat.le_of_ble_eq_true rfl, Nat.le_of_ble_eq_true rfl⟩ dJ4_init_da8c8_6

set_option maxRecDepth 100000 in
set_option maxHeartbeats 4000000 in
theorem c_J5_getValue_6d5f1 {l : Launch} {D : va_G} {cI cB : ClassId} (qx qy : Nat) (z cn : Int32) (bs : Nat → Int32)  : CR (S := Unit) l X0 D cI cB yJ5_getValue_6d5f1 cJ5_getValue_6d5f1 1 (some (.array .byte)) 0 0 0 0 [.ref qx] [(qx, .inr (1, [.ref qy, .int (0 : Int32), .int z, .int cn])), (qy, .inl (cB, 16, .inl bs))] (fun (_ : Unit) => True) (fun _ qy => [(qx, .inr (1, [.ref qy, .int (0 : Int32), .int z, .int cn])), (qy, .inl (cB, 16, .inl bs))]) := by
  refine CR.of (by decide) (Nat.le_of_ble_eq_true rfl) ?_
  intro p e s m below meth c A ls E hr hk hin hA hAA hX Y hl
  have E : EE p c cJ5_getValue_6d5f1 1 s _ m RJ5 D cI cB := E
  have hl : lv_has ls 1 [(0, .ref qx)] := hl
  refine lv_aload_n E.1.1 E.1.2.1 dJ5_getValue_6d5f1_0 rfl (lv_at hl 0 rfl) ?_
  refine gf_J5_15 E Y 0 rfl rfl dJ5_getValue_6d5f1_1 ?_
  exact r_aret E Y hr (Or.inr ⟨_, rfl⟩) hk qy () (trivial) rfl ⟨Nat.le_of_ble_eq_true rfl, Nat.le_of_ble_eq_true rfl⟩ dJ5_getValue_6d5f1_4
