set_option maxRecDepth 100000 in
set_option maxHeartbeats 4000000 in
theorem c_J5_getValue_q {l : Launch} {D : va_G} {cI cB : ClassId} (qx qy : Nat) (z cn : Int32) (bs : Nat → Int32)  : CQ (S := Unit) l X0 D cI cB yJ5_getValue_6d5f1 cJ5_getValue_6d5f1 1 (some (.array .byte)) 0 0 0 0 [.ref qx] [(qx, .inr (1, [.ref qy, .int (0 : Int32), .int z, .int cn])), (qy, .inl (cB, 16, .inl bs))] (fun (_ : Unit) => True) (fun _ _ => [(qx, .inr (1, [.ref qy, .int (0 : Int32), .int z, .int cn])), (qy, .inl (cB, 16, .inl bs))]) (fun _ a => a = qy) := by
  refine CQ.of (by decide) (Nat.le_of_ble_eq_true rfl) ?_
  intro p e s m below meth c A ls E hr hk hin hA hAA hX Y hl
  have E : EE p c cJ5_getValue_6d5f1 1 s _ m RJ5 D cI cB := E
  have hl : lv_has ls 1 [(0, .ref qx)] := hl
  refine lv_aload_n E.1.1 E.1.2.1 dJ5_getValue_6d5f1_0 rfl (lv_at hl 0 rfl) ?_
  refine gf_J5_15 E Y 0 rfl rfl dJ5_getValue_6d5f1_1 ?_
  exact r_qret E Y hr (Or.inr ⟨_, rfl⟩) hk qy () (trivial) rfl rfl ⟨Nat.le_of_ble_eq_true rfl, Nat.le_of_ble_eq_true rfl⟩ dJ5_getValue_6d5f1_4

set_option maxRecDepth 100000 in
set_option maxHeartbeats 4000000 in
theorem c_J0_init_db_a {l : Launch} {D : va_G} {cI cB : ClassId} (ad ab : Nat → Nat) (qx qy q : Nat) (z : Int32) (bs : Nat → Int32) (mw : Nat) (h16 : mw < 16) (hb : ∀ t, t < 16 → btw (bs t) 0 127) : CV (S := Nat × (Nat → Int32)) l (XZ ad ab [(qx, .inr (1, [.ref qy, .int (0 : Int32), .int z, .int (nI mw)])), (qy, .inl (cB, 16, .inl bs)), (q, .inr (0, [.null, .int (0 : Int32), .int (0 : Int32), .int (0 : Int32)]))]) D cI cB yJ0_init_db425 cJ0_init_db425 5 4 120 1 16 [.ref q, .ref qx, .null] [(qx, .inr (1, [.ref qy, .int (0 : Int32), .int z, .int (nI mw)])), (qy, .inl (cB, 16, .inl bs)), (q, .inr (0, [.null, .int (0 : Int32), .int (0 : Int32), .int (0 : Int32)]))] (fun (u : Nat × (Nat → Int32)) => ∀ t, t < mw → u.2 t = bs t) (fun u => [(qx, .inr (1, [.ref qy, .int (0 : Int32), .int z, .int (nI mw)])), (qy, .inl (cB, 16, .inl bs)), (q, .inr (0, [.ref u.1, .int (0 : Int32), .int (0 : Int32), .int (0 : Int32)])), (u.1, .inl (cB, mw, .inl u.2))]) := by
  refine CV.of (by decide) (Nat.le_of_ble_eq_true rfl) ?_
  intro p e s m below meth c A ls E hr hk hin hA hAA hX Y hl
  have E : EE p c cJ0_init_db425 5 s _ m RJ0 D cI cB := E
  have hl : lv_has ls 5 [(0, .ref q), (1, .ref qx), (2, .null)] := hl
  have hZ : ZB ad ab A s s.heap := hX.narrow hAA
  refine lv_aload_n E.1.1 E.1.2.1 dJ0_init_db425_0 rfl (lv_at hl 0 rfl) ?_
  refine r_objI E hl.1 mm_J0_1 ⟨Nat.le_of_ble_eq_true rfl, Nat.le_of_ble_eq_true rfl⟩ dJ0_init_db425_1 ?_
  refine lv_aload_n E.1.1 E.1.2.1 dJ0_init_db425_4 rfl (lv_at hl 1 rfl) ?_
  refine g_q (wr := [(q, .inr (0, [.null, .int (0 : Int32), .int (0 : Int32), .int (0 : Int32)]))]) (w2 := fun _ rq => [(qx, .inr (1, [.ref qy, .int (0 : Int32), .int z, .int (nI mw)])), (qy, .inl (cB, 16, .inl bs)), (q, .inr (0, [.null, .int (0 : Int32), .int (0 : Int32), .int (0 : Int32)]))]) (run_U E ((c_J5_getValue_q qx qy z (nI mw) bs) _) lu_J0_552 X0b (pre_of E Y [0, 1] rfl (by decide) (fun U hU hW => trivial)) (va_recv (ci := 1) (q0 := 0) E.2 Y.1 rfl rfl) hl.1 ⟨Nat.le_of_ble_eq_true rfl, Nat.le_of_ble_eq_true rfl⟩ ⟨Nat.le_of_ble_eq_true rfl, Nat.le_of_ble_eq_true rfl⟩ rfl rfl (Nat.le_of_ble_eq_true rfl) dJ0_init_db425_5) Y hA [0, 1] [2] [1, 2, 0] rfl rfl (by decide) (fun _ _ => rfl) (fun _ rq H locs hp hrel Y => ?_)
  rw [hrel]
  refine lv_astore_n (lv' := [(3, .ref qy), (0, .ref q), (1, .ref qx), (2, .null)]) E.1.1 E.1.2.1 dJ0_init_db425_8 rfl hl (by decide) rfl (fun ls hl => ?_)
  refine lv_aload_n E.1.1 E.1.2.1 dJ0_init_db425_9 rfl (lv_at hl 2 rfl) ?_
  refine g_i (wr := [(q, .inr (0, [.null, .int (0 : Int32), .int (0 : Int32), .int (0 : Int32)]))]) (w2 := fun _ => [(qx, .inr (1, [.ref qy, .int (0 : Int32), .int z, .int (nI mw)])), (qy, .inl (cB, 16, .inl bs)), (q, .inr (0, [.null, .int (0 : Int32), .int (0 : Int32), .int (0 : Int32)]))]) (run_O E ((c_J4_length_8abf5 qx qy z (nI mw) bs) _) lo_J0_549 X0b (pre_of E Y [0, 1] rfl (by decide) (fun U hU hW => trivial)) (va_recv (ci := 1) (q0 := 0) E.2 Y.1 rfl rfl) hl.1 ⟨Nat.le_of_ble_eq_true rfl, Nat.le_of_ble_eq_true rfl⟩ ⟨Nat.le_of_ble_eq_true rfl, Nat.le_of_ble_eq_true rfl⟩ rfl rfl (Nat.le_of_ble_eq_true rfl) dJ0_init_db425_10) Y hA [0, 1] [2] [1, 2, 0] rfl rfl (by decide) (fun _ => rfl) (fun r u H locs hp Y => ?_)
  refine lv_cst (v := (nI mw)) hp ?_
  refine lv_istore (lv' := [(4, .int (nI mw)), (3, .ref qy), (0, .ref q), (1, .ref qx), (2, .null)]) E.1.1 E.1.2.1 dJ0_init_db425_13 hl (by decide) rfl (fun ls hl => ?_)
  refine lv_aload_n E.1.1 E.1.2.1 dJ0_init_db425_15 rfl (lv_at hl 3 rfl) ?_
  refine g_i (wr := [(q, .inr (0, [.null, .int (0 : Int32), .int (0 : Int32), .int (0 : Int32)]))]) (w2 := fun _ => [(qx, .inr (1, [.ref qy, .int (0 : Int32), .int z, .int (nI mw)])), (qy, .inl (cB, 16, .inl bs)), (q, .inr (0, [.null, .int (0 : Int32), .int (0 : Int32), .int (0 : Int32)]))]) (run_U E ((c_J5_isLatin1_aae02 ad ab qx qy z (nI mw) bs) _) lu_J0_1047 xbZ (pre_of E Y [0, 1] rfl (by decide) (fun U hU hW => hZ.pass Y.2.2 hU hW (va_free Y.2.1 Y.2.2 hA [0, 1] rfl))) (va_recv (ci := 1) (q0 := 0) E.2 Y.1 rfl rfl) hl.1 ⟨Nat.le_of_ble_eq_true rfl, Nat.le_of_ble_eq_true rfl⟩ ⟨Nat.le_of_ble_eq_true rfl, Nat.le_of_ble_eq_true rfl⟩ rfl rfl (Nat.le_of_ble_eq_true rfl) dJ0_init_db425_16) Y hA [0, 1] [2] [1, 2, 0] rfl rfl (by decide) (fun _ => rfl) (fun r u H locs hp Y => ?_)
  refine lv_cst (v := (1 : Int32)) hp ?_
  refine lv_if_eq (tgt := 41) E.1.1 E.1.2.1 dJ0_init_db425_19 (by decide) (fun c_19 => ?_) (fun c_19 => ?_)
  · exact absurd c_19 (by decide)
  · skip
    refine lv_aload_n E.1.1 E.1.2.1 dJ0_init_db425_22 rfl (lv_at hl 2 rfl) ?_
    refine lv_iconst (v := 0) E.1.1 E.1.2.1 dJ0_init_db425_23 (by decide) ?_
    refine pf_J0_15 (w' := [(qx, .inr (1, [.ref qy, .int (0 : Int32), .int z, .int (nI mw)])), (qy, .inl (cB, 16, .inl bs)), (q, .inr (0, [.null, .int (0 : Int32), .int (0 : Int32), .int (0 : Int32)]))]) E Y hin 2 rfl rfl rfl (Nat.le_of_ble_eq_true rfl) rfl dJ0_init_db425_24 (fun H locs Y => ?_)
    refine lv_aload_n E.1.1 E.1.2.1 dJ0_init_db425_27 rfl (lv_at hl 2 rfl) ?_
    refine lv_aload_n E.1.1 E.1.2.1 dJ0_init_db425_28 rfl (lv_at hl 1 rfl) ?_
    refine lv_iconst (v := 0) E.1.1 E.1.2.1 dJ0_init_db425_29 (by decide) ?_
    refine lv_iload E.1.1 E.1.2.1 dJ0_init_db425_30 (lv_at hl 0 rfl) ?_
    refine g_r (wr := [(qx, .inr (1, [.ref qy, .int (0 : Int32), .int z, .int (nI mw)])), (qy, .inl (cB, 16, .inl bs)), (q, .inr (0, [.null, .int (0 : Int32), .int (0 : Int32), .int (0 : Int32)]))]) (w2 := fun gn qa => [(qx, .inr (1, [.ref qy, .int (0 : Int32), .int z, .int (nI mw)])), (qy, .inl (cB, 16, .inl bs)), (q, .inr (0, [.null, .int (0 : Int32), .int (0 : Int32), .int (0 : Int32)])), (qa, .inl (cB, mw, .inl gn))]) (run_S E ((c_J7_copyOfRange_39247 ad ab qy (16) bs (0) mw (by omega) (by decide) (by omega) hb (fun z => absurd z.2 (by omega))) _) lk_J0_54 xbZA (pre_of E Y [] rfl (by decide) (fun U hU hW => ⟨hZ.pass Y.2.2 hU hW (va_free Y.2.1 Y.2.2 hA [] rfl), RA.ofW E.2 Y.1 1 rfl hU hW⟩)) hl.1 ⟨Nat.le_of_ble_eq_true rfl, Nat.le_of_ble_eq_true rfl⟩ ⟨Nat.le_of_ble_eq_true rfl, Nat.le_of_ble_eq_true rfl⟩ rfl rfl (Nat.le_of_ble_eq_true rfl) dJ0_init_db425_32) Y hA [] [0, 1, 2] [0, 1, 2, 3] rfl rfl (by decide) (fun _ _ => rfl) (fun gn qa H locs hp Y => ?_)
    have hgn := hp
    refine pf_J0_9 (w' := [(qx, .inr (1, [.ref qy, .int (0 : Int32), .int z, .int (nI mw)])), (qy, .inl (cB, 16, .inl bs)), (q, .inr (0, [.ref qa, .int (0 : Int32), .int (0 : Int32), .int (0 : Int32)])), (qa, .inl (cB, mw, .inl gn))]) E Y hin 2 rfl (Nat.le_of_ble_eq_true rfl) rfl dJ0_init_db425_35 (fun H locs Y => ?_)
    refine lv_goto (tgt := 97) E.1.1 E.1.2.1 dJ0_init_db425_38 (by decide) ?_
    exact r_vret E Y hr hk (qa, gn) ((fun t ht => (hgn t ht).trans (by rw [Nat.zero_add]))) rfl ⟨Nat.le_of_ble_eq_true rfl, Nat.le_of_ble_eq_true rfl⟩ dJ0_init_db425_97

set_option maxRecDepth 100000 in
set_option maxHeartbeats 4000000 in
theorem c_J0_init_db_b {l : Launch} {D : va_G} {cI cB : ClassId} (ad ab : Nat → Nat) (qx qy q : Nat) (z : Int32) (bs : Nat → Int32) (hb : ∀ t, t < 16 → btw (bs t) 0 127) : CV (S := Nat × (Nat → Int32)) l (XZ ad ab [(qx, .inr (1, [.ref qy, .int (0 : Int32), .int z, .int (nI 16)])), (qy, .inl (cB, 16, .inl bs)), (q, .inr (0, [.null, .int (0 : Int32), .int (0 : Int32), .int (0 : Int32)]))]) D cI cB yJ0_init_db425 cJ0_init_db425 5 4 120 1 16 [.ref q, .ref qx, .null] [(qx, .inr (1, [.ref qy, .int (0 : Int32), .int z, .int (nI 16)])), (qy, .inl (cB, 16, .inl bs)), (q, .inr (0, [.null, .int (0 : Int32), .int (0 : Int32), .int (0 : Int32)]))] (fun (u : Nat × (Nat → Int32)) => ∀ t, t < 16 → u.2 t = bs t) (fun u => [(qx, .inr (1, [.ref qy, .int (0 : Int32), .int z, .int (nI 16)])), (qy, .inl (cB, 16, .inl bs)), (q, .inr (0, [.ref u.1, .int (0 : Int32), .int (0 : Int32), .int (0 : Int32)])), (u.1, .inl (cB, 16, .inl u.2))]) := by
  refine CV.of (by decide) (Nat.le_of_ble_eq_true rfl) ?_
  intro p e s m below meth c A ls E hr hk hin hA hAA hX Y hl
  have E : EE p c cJ0_init_db425 5 s _ m RJ0 D cI cB := E
  have hl : lv_has ls 5 [(0, .ref q), (1, .ref qx), (2, .null)] := hl
  have hZ : ZB ad ab A s s.heap := hX.narrow hAA
  refine lv_aload_n E.1.1 E.1.2.1 dJ0_init_db425_0 rfl (lv_at hl 0 rfl) ?_
  refine r_objI E hl.1 mm_J0_1 ⟨Nat.le_of_ble_eq_true rfl, Nat.le_of_ble_eq_true rfl⟩ dJ0_init_db425_1 ?_
  refine lv_aload_n E.1.1 E.1.2.1 dJ0_init_db425_4 rfl (lv_at hl 1 rfl) ?_
  refine g_q (wr := [(q, .inr (0, [.null, .int (0 : Int32), .int (0 : Int32), .int (0 : Int32)]))]) (w2 := fun _ rq => [(qx, .inr (1, [.ref qy, .int (0 : Int32), .int z, .int (nI 16)])), (qy, .inl (cB, 16, .inl bs)), (q, .inr (0, [.null, .int (0 : Int32), .int (0 : Int32), .int (0 : Int32)]))]) (run_U E ((c_J5_getValue_q qx qy z (nI 16) bs) _) lu_J0_552 X0b (pre_of E Y [0, 1] rfl (by decide) (fun U hU hW => trivial)) (va_recv (ci := 1) (q0 := 0) E.2 Y.1 rfl rfl) hl.1 ⟨Nat.le_of_ble_eq_true rfl, Nat.le_of_ble_eq_true rfl⟩ ⟨Nat.le_of_ble_eq_true rfl, Nat.le_of_ble_eq_true rfl⟩ rfl rfl (Nat.le_of_ble_eq_true rfl) dJ0_init_db425_5) Y hA [0, 1] [2] [1, 2, 0] rfl rfl (by decide) (fun _ _ => rfl) (fun _ rq H locs hp hrel Y => ?_)
  rw [hrel]
  refine lv_astore_n (lv' := [(3, .ref qy), (0, .ref q), (1, .ref qx), (2, .null)]) E.1.1 E.1.2.1 dJ0_init_db425_8 rfl hl (by decide) rfl (fun ls hl => ?_)
  refine lv_aload_n E.1.1 E.1.2.1 dJ0_init_db425_9 rfl (lv_at hl 2 rfl) ?_
  refine g_i (wr := [(q, .inr (0, [.null, .int (0 : Int32), .int (0 : Int32), .int (0 : Int32)]))]) (w2 := fun _ => [(qx, .inr (1, [.ref qy, .int (0 : Int32), .int z, .int (nI 16)])), (qy, .inl (cB, 16, .inl bs)), (q, .inr (0, [.null, .int (0 : Int32), .int (0 : Int32), .int (0 : Int32)]))]) (run_O E ((c_J4_length_8abf5 qx qy z (nI 16) bs) _) lo_J0_549 X0b (pre_of E Y [0, 1] rfl (by decide) (fun U hU hW => trivial)) (va_recv (ci := 1) (q0 := 0) E.2 Y.1 rfl rfl) hl.1 ⟨Nat.le_of_ble_eq_true rfl, Nat.le_of_ble_eq_true rfl⟩ ⟨Nat.le_of_ble_eq_true rfl, Nat.le_of_ble_eq_true rfl⟩ rfl rfl (Nat.le_of_ble_eq_true rfl) dJ0_init_db425_10) Y hA [0, 1] [2] [1, 2, 0] rfl rfl (by decide) (fun _ => rfl) (fun r u H locs hp Y => ?_)
  refine lv_cst (v := (nI 16)) hp ?_
  refine lv_istore (lv' := [(4, .int (nI 16)), (3, .ref qy), (0, .ref q), (1, .ref qx), (2, .null)]) E.1.1 E.1.2.1 dJ0_init_db425_13 hl (by decide) rfl (fun ls hl => ?_)
  refine lv_aload_n E.1.1 E.1.2.1 dJ0_init_db425_15 rfl (lv_at hl 3 rfl) ?_
  refine g_i (wr := [(q, .inr (0, [.null, .int (0 : Int32), .int (0 : Int32), .int (0 : Int32)]))]) (w2 := fun _ => [(qx, .inr (1, [.ref qy, .int (0 : Int32), .int z, .int (nI 16)])), (qy, .inl (cB, 16, .inl bs)), (q, .inr (0, [.null, .int (0 : Int32), .int (0 : Int32), .int (0 : Int32)]))]) (run_U E ((c_J5_isLatin1_aae02 ad ab qx qy z (nI 16) bs) _) lu_J0_1047 xbZ (pre_of E Y [0, 1] rfl (by decide) (fun U hU hW => hZ.pass Y.2.2 hU hW (va_free Y.2.1 Y.2.2 hA [0, 1] rfl))) (va_recv (ci := 1) (q0 := 0) E.2 Y.1 rfl rfl) hl.1 ⟨Nat.le_of_ble_eq_true rfl, Nat.le_of_ble_eq_true rfl⟩ ⟨Nat.le_of_ble_eq_true rfl, Nat.le_of_ble_eq_true rfl⟩ rfl rfl (Nat.le_of_ble_eq_true rfl) dJ0_init_db425_16) Y hA [0, 1] [2] [1, 2, 0] rfl rfl (by decide) (fun _ => rfl) (fun r u H locs hp Y => ?_)
  refine lv_cst (v := (1 : Int32)) hp ?_
  refine lv_if_eq (tgt := 41) E.1.1 E.1.2.1 dJ0_init_db425_19 (by decide) (fun c_19 => ?_) (fun c_19 => ?_)
  · exact absurd c_19 (by decide)
  · skip
    refine lv_aload_n E.1.1 E.1.2.1 dJ0_init_db425_22 rfl (lv_at hl 2 rfl) ?_
    refine lv_iconst (v := 0) E.1.1 E.1.2.1 dJ0_init_db425_23 (by decide) ?_
    refine pf_J0_15 (w' := [(qx, .inr (1, [.ref qy, .int (0 : Int32), .int z, .int (nI 16)])), (qy, .inl (cB, 16, .inl bs)), (q, .inr (0, [.null, .int (0 : Int32), .int (0 : Int32), .int (0 : Int32)]))]) E Y hin 2 rfl rfl rfl (Nat.le_of_ble_eq_true rfl) rfl dJ0_init_db425_24 (fun H locs Y => ?_)
    refine lv_aload_n E.1.1 E.1.2.1 dJ0_init_db425_27 rfl (lv_at hl 2 rfl) ?_
    refine lv_aload_n E.1.1 E.1.2.1 dJ0_init_db425_28 rfl (lv_at hl 1 rfl) ?_
    refine lv_iconst (v := 0) E.1.1 E.1.2.1 dJ0_init_db425_29 (by decide) ?_
    refine lv_iload E.1.1 E.1.2.1 dJ0_init_db425_30 (lv_at hl 0 rfl) ?_
    refine g_r (wr := [(qx, .inr (1, [.ref qy, .int (0 : Int32), .int z, .int (nI 16)])), (q, .inr (0, [.null, .int (0 : Int32), .int (0 : Int32), .int (0 : Int32)]))]) (w2 := fun _ qa => [(qx, .inr (1, [.ref qy, .int (0 : Int32), .int z, .int (nI 16)])), (qy, .inl (cB, 16, .inl bs)), (q, .inr (0, [.null, .int (0 : Int32), .int (0 : Int32), .int (0 : Int32)])), (qa, .inl (cB, 16, .inl bs))]) (run_S E ((c_J7_copyOfRange_c ad ab qy bs hb) _) lk_J0_54 xbZ (pre_of E Y [1] rfl (by decide) (fun U hU hW => hZ.pass Y.2.2 hU hW (va_free Y.2.1 Y.2.2 hA [1] rfl))) hl.1 ⟨Nat.le_of_ble_eq_true rfl, Nat.le_of_ble_eq_true rfl⟩ ⟨Nat.le_of_ble_eq_true rfl, Nat.le_of_ble_eq_true rfl⟩ rfl rfl (Nat.le_of_ble_eq_true rfl) dJ0_init_db425_32) Y hA [1] [0, 2] [0, 2, 1, 3] rfl rfl (by decide) (fun _ _ => rfl) (fun _ qa H locs hp Y => ?_)
    refine pf_J0_9 (w' := [(qx, .inr (1, [.ref qy, .int (0 : Int32), .int z, .int (nI 16)])), (qy, .inl (cB, 16, .inl bs)), (q, .inr (0, [.ref qa, .int (0 : Int32), .int (0 : Int32), .int (0 : Int32)])), (qa, .inl (cB, 16, .inl bs))]) E Y hin 2 rfl (Nat.le_of_ble_eq_true rfl) rfl dJ0_init_db425_35 (fun H locs Y => ?_)
    refine lv_goto (tgt := 97) E.1.1 E.1.2.1 dJ0_init_db425_38 (by decide) ?_
    exact r_vret E Y hr hk (qa, bs) ((fun t ht => rfl)) rfl ⟨Nat.le_of_ble_eq_true rfl, Nat.le_of_ble_eq_true rfl⟩ dJ0_init_db425_97

theorem c_J0_init_db {l : Launch} {D : va_G} {cI cB : ClassId} (ad ab : Nat → Nat) (qx qy q : Nat) (z : Int32) (bs : Nat → Int32) (mw : Nat) (h16 : mw ≤ 16) (hb : ∀ t, t < 16 → btw (bs t) 0 127) : CV (S := Nat × (Nat → Int32)) l (XZ ad ab [(qx, .inr (1, [.ref qy, .int (0 : Int32), .int z, .int (nI mw)])), (qy, .inl (cB, 16, .inl bs)), (q, .inr (0, [.null, .int (0 : Int32), .int (0 : Int32), .int (0 : Int32)]))]) D cI cB yJ0_init_db425 cJ0_init_db425 5 4 120 1 16 [.ref q, .ref qx, .null] [(qx, .inr (1, [.ref qy, .int (0 : Int32), .int z, .int (nI mw)])), (qy, .inl (cB, 16, .inl bs)), (q, .inr (0, [.null, .int (0 : Int32), .int (0 : Int32), .int (0 : Int32)]))] (fun (u : Nat × (Nat → Int32)) => ∀ t, t < mw → u.2 t = bs t) (fun u => [(qx, .inr (1, [.ref qy, .int (0 : Int32), .int z, .int (nI mw)])), (qy, .inl (cB, 16, .inl bs)), (q, .inr (0, [.ref u.1, .int (0 : Int32), .int (0 : Int32), .int (0 : Int32)])), (u.1, .inl (cB, mw, .inl u.2))]) := by
  rcases Nat.lt_or_ge mw 16 with h | h
  · exact c_J0_init_db_a ad ab qx qy q z bs mw h hb
  · obtain rfl : mw = 16 := by omega
    exact c_J0_init_db_b ad ab qx qy q z bs hb

set_option maxRecDepth 100000 in
set_option maxHeartbeats 4000000 in
theorem c_J0_init_81219 {l : Launch} {D : va_G} {cI cB : ClassId} (ad ab : Nat → Nat) (qx qy q : Nat) (z : Int32) (bs : Nat → Int32) (mw : Nat) (h16 : mw ≤ 16) (hb : ∀ t, t < 16 → btw (bs t) 0 127) : CV (S := Nat × (Nat → Int32)) l (XZ ad ab [(qx, .inr (1, [.ref qy, .int (0 : Int32), .int z, .int (nI mw)])), (qy, .inl (cB, 16, .inl bs)), (q, .inr (0, [.null, .int (0 : Int32), .int (0 : Int32), .int (0 : Int32)]))]) D cI cB yJ0_init_81219 cJ0_init_81219 2 5 144 1 16 [.ref q, .ref qx] [(qx, .inr (1, [.ref qy, .int (0 : Int32), .int z, .int (nI mw)])), (qy, .inl (cB, 16, .inl bs)), (q, .inr (0, [.null, .int (0 : Int32), .int (0 : Int32), .int (0 : Int32)]))] (fun (u : Nat × (Nat → Int32)) => ∀ t, t < mw → u.2 t = bs t) (fun u => [(qx, .inr (1, [.ref qy, .int (0 : Int32), .int z, .int (nI mw)])), (qy, .inl (cB, 16, .inl bs)), (q, .inr (0, [.ref u.1, .int (0 : Int32), .int (0 : Int32), .int (0 : Int32)])), (u.1, .inl (cB, mw, .inl u.2))]) := by
  refine CV.of (by decide) (Nat.le_of_ble_eq_true rfl) ?_
  intro p e s m below meth c A ls E hr hk hin hA hAA hX Y hl
  have E : EE p c cJ0_init_81219 2 s _ m RJ0 D cI cB := E
  have hl : lv_has ls 2 [(0, .ref q), (1, .ref qx)] := hl
  have hZ : ZB ad ab A s s.heap := hX.narrow hAA
  refine lv_aload_n E.1.1 E.1.2.1 dJ0_init_81219_0 rfl (lv_at hl 0 rfl) ?_
  refine lv_aload_n E.1.1 E.1.2.1 dJ0_init_81219_1 rfl (lv_at hl 1 rfl) ?_
  refine lv_null E.1.1 E.1.2.1 dJ0_init_81219_2 ?_
  refine g_v (wr := []) (w2 := fun u => [(qx, .inr (1, [.ref qy, .int (0 : Int32), .int z, .int (nI mw)])), (qy, .inl (cB, 16, .inl bs)), (q, .inr (0, [.ref u.1, .int (0 : Int32), .int (0 : Int32), .int (0 : Int32)])), (u.1, .inl (cB, mw, .inl u.2))]) (run_I E ((c_J0_init_db ad ab qx qy q z bs mw h16 hb) _) lk_J0_489 xbZ (pre_of E Y [0, 1, 2] rfl (by decide) (fun U hU hW => hZ.pass Y.2.2 hU hW (va_free Y.2.1 Y.2.2 hA [0, 1, 2] rfl))) hl.1 ⟨Nat.le_of_ble_eq_true rfl, Nat.le_of_ble_eq_true rfl⟩ ⟨Nat.le_of_ble_eq_true rfl, Nat.le_of_ble_eq_true rfl⟩ rfl rfl (Nat.le_of_ble_eq_true rfl) dJ0_init_81219_3) Y hA [0, 1, 2] [] [0, 1, 2, 3] rfl rfl (by decide) (fun _ => rfl) (fun u H locs hp Y => ?_)
  obtain ⟨bn, gn⟩ := u
  have hgn := hp
  have Y : WD D A s.heap H _ [(qx, .inr (1, [.ref qy, .int (0 : Int32), .int z, .int (nI mw)])), (qy, .inl (cB, 16, .inl bs)), (q, .inr (0, [.ref bn, .int (0 : Int32), .int (0 : Int32), .int (0 : Int32)])), (bn, .inl (cB, mw, .inl gn))] := Y
  exact r_vret E Y hr hk (bn, gn) (hgn) rfl ⟨Nat.le_of_ble_eq_true rfl, Nat.le_of_ble_eq_true rfl⟩ dJ0_init_81219_6

set_option maxRecDepth 100000 in
set_option maxHeartbeats 4000000 in
theorem c_J4_toString_0e30d {l : Launch} {D : va_G} {cI cB : ClassId} (ad ab : Nat → Nat) (qx qy : Nat) (z : Int32) (bs : Nat → Int32) (mw : Nat) (h16 : mw ≤ 16) (hb : ∀ t, t < 16 → btw (bs t) 0 127) : CR (S := Nat × (Nat → Int32)) l (XZ ad ab [(qx, .inr (1, [.ref qy, .int (0 : Int32), .int z, .int (nI mw)])), (qy, .inl (cB, 16, .inl bs))]) D cI cB yJ4_toString_0e30d cJ4_toString_0e30d 1 (some (.object "java/lang/String")) 6 165 2 20 [.ref qx] [(qx, .inr (1, [.ref qy, .int (0 : Int32), .int z, .int (nI mw)])), (qy, .inl (cB, 16, .inl bs))] (fun (u : Nat × (Nat → Int32)) => ∀ t, t < mw → u.2 t = bs t) (fun u q => [(qx, .inr (1, [.ref qy, .int (0 : Int32), .int z, .int (nI mw)])), (qy, .inl (cB, 16, .inl bs)), (q, .inr (0, [.ref u.1, .int (0 : Int32), .int (0 : Int32), .int (0 : Int32)])), (u.1, .inl (cB, mw, .inl u.2))]) := by
  refine CR.of (by decide) (Nat.le_of_ble_eq_true rfl) ?_
  intro p e s m below meth c A ls E hr hk hin hA hAA hX Y hl
  have E : EE p c cJ4_toString_0e30d 1 s _ m RJ4 D cI cB := E
  have hl : lv_has ls 1 [(0, .ref qx)] := hl
  have hZ : ZB ad ab A s s.heap := hX.narrow hAA
  refine r_new (fs := [.null, .int (0 : Int32), .int (0 : Int32), .int (0 : Int32)]) E Y hA inJ0 tyJ0_ok ml_J4_18 mq_J0 mn_J0 (ci := 0) rfl (fun j hj => by rcases (show j = 0 ∨ j = 1 ∨ j = 2 ∨ j = 3 by omega) with rfl | rfl | rfl | rfl <;> rfl) ⟨Nat.le_of_ble_eq_true rfl, Nat.le_of_ble_eq_true rfl⟩ dJ4_toString_0e30d_0 (fun qo1 H Y => ?_)
  have Y : WD D A s.heap H _ [(qx, .inr (1, [.ref qy, .int (0 : Int32), .int z, .int (nI mw)])), (qy, .inl (cB, 16, .inl bs)), (qo1, .inr (0, [.null, .int (0 : Int32), .int (0 : Int32), .int (0 : Int32)]))] := Y
  refine lv_dup E.1.1 E.1.2.1 dJ4_toString_0e30d_3 rfl ?_
  refine lv_aload_n E.1.1 E.1.2.1 dJ4_toString_0e30d_4 rfl (lv_at hl 0 rfl) ?_
  refine g_v (wr := []) (w2 := fun u => [(qx, .inr (1, [.ref qy, .int (0 : Int32), .int z, .int (nI mw)])), (qy, .inl (cB, 16, .inl bs)), (qo1, .inr (0, [.ref u.1, .int (0 : Int32), .int (0 : Int32), .int (0 : Int32)])), (u.1, .inl (cB, mw, .inl u.2))]) (run_I E ((c_J0_init_81219 ad ab qx qy qo1 z bs mw h16 hb) _) lk_J4_137 xbZ (pre_of E Y [0, 1, 2] rfl (by decide) (fun U hU hW => hZ.pass Y.2.2 hU hW (va_free Y.2.1 Y.2.2 hA [0, 1, 2] rfl))) hl.1 ⟨Nat.le_of_ble_eq_true rfl, Nat.le_of_ble_eq_true rfl⟩ ⟨Nat.le_of_ble_eq_true rfl, Nat.le_of_ble_eq_true rfl⟩ rfl rfl (Nat.le_of_ble_eq_true rfl) dJ4_toString_0e30d_5) Y hA [0, 1, 2] [] [0, 1, 2, 3] rfl rfl (by decide) (fun _ => rfl) (fun u H locs hp Y => ?_)
  obtain ⟨bn, gn⟩ := u
  have hgn := hp
  have Y : WD D A s.heap H _ [(qx, .inr (1, [.ref qy, .int (0 : Int32), .int z, .int (nI mw)])), (qy, .inl (cB, 16, .inl bs)), (qo1, .inr (0, [.ref bn, .int (0 : Int32), .int (0 : Int32), .int (0 : Int32)])), (bn, .inl (cB, mw, .inl gn))] := Y
  exact r_aret E Y hr (Or.inl ⟨_, rfl⟩) hk qo1 (bn, gn) (hgn) rfl ⟨Nat.le_of_ble_eq_true rfl, Nat.le_of_ble_eq_true rfl⟩ dJ4_toString_0e30d_8
