def f_X6_simulatedStallTime (k : Cf) (h : Ss) (p0 : Int32) : Int32 × Ss := if (f_X6_simulationError k p0) = 0 then (((f_X2_playWhole k h p0 (k.1 10)).1 18), (f_X2_playWhole k h p0 (k.1 10))) else ((f_X6_simulationError k p0), h)
set_option maxRecDepth 100000 in
set_option maxHeartbeats 4000000 in
theorem c_X6_simulatedStallTime {l : Launch} {D : va_G} {cI cB : ClassId} (qp qs qo qh ql qd qv qb qa qc qe qr qt ws wo wh wl wd qx qy : Nat) (k : Cf) (g : Ss) (h : Ss) (x : Tx) (p0 : Int32) : CI l X0 D cI cB yX6_simulatedStallTime cX6_simulatedStallTime 3 (some .int) 7 157 0 0 [.ref qp, .int p0] (wP cI cB qp qs qo qh ql qd qv qb qa qc qe qr qt ws wo wh wl wd qx qy k g h x) (fun (r : Int32) (u : Ss) => r = (f_X6_simulatedStallTime k h p0).1 ∧ u = (f_X6_simulatedStallTime k h p0).2) (fun u => (wP cI cB qp qs qo qh ql qd qv qb qa qc qe qr qt ws wo wh wl wd qx qy k g u x)) := by
  refine CI.of (by decide) (Nat.le_of_ble_eq_true rfl) ?_
  intro p e s m below meth c A ls E hr hk hin hA hAA hX Y hl
  have E : EE p c cX6_simulatedStallTime 3 s _ m RX6 D cI cB := E
  have hl : lv_has ls 3 [(0, .ref qp), (1, .int p0)] := hl
  refine lv_aload_n E.1.1 E.1.2.1 dX6_simulatedStallTime_0 rfl (lv_at hl 0 rfl) ?_
  refine lv_iload_n E.1.1 E.1.2.1 dX6_simulatedStallTime_1 rfl (lv_at hl 1 rfl) ?_
  refine r_Vi (wr := []) (w2 := fun _ => [(qp, .inr (8, [.ref qv, .ref qc, .ref qt, .ref qs, .ref ws, .ref qx, .int (k.1 9), .int (k.1 10)])), (qs, .inr (4, [.ref qv, .ref qc, .ref qt, .ref qo, .ref qh, .ref qd, .int (g.1 4), .int (g.1 0), .int (g.1 2), .int (g.1 1), .int (g.1 3), .int (g.1 5), .int (g.1 16), .int (g.1 17), .int (g.1 18), .int (g.1 19), .int (g.1 20), .int (g.1 15)])), (qo, .inl (cI, 30, .inl g.2.2)), (qh, .inr (6, [.ref ql, .int (g.1 11)])), (ql, .inl (cI, 3, .inl g.2.1)), (qd, .inr (3, [.int (g.1 6), .int (g.1 7), .int (g.1 8), .int (g.1 9), .int (g.1 10)])), (qv, .inr (7, [.ref qb, .ref qa, .int (k.1 0), .int (k.1 1), .int (k.1 2)])), (qb, .inl (cI, 5, .inl k.2.1)), (qa, .inl (cI, 30, .inl k.2.2.1)), (qc, .inr (2, [.ref qe, .ref qr, .int (k.1 3)])), (qe, .inl (cI, 12, .inl k.2.2.2.1)), (qr, .inl (cI, 12, .inl k.2.2.2.2)), (qt, .inr (5, [.int (k.1 4), .int (k.1 5), .int (k.1 6), .int (k.1 7), .int (k.1 8)])), (ws, .inr (4, [.ref qv, .ref qc, .ref qt, .ref wo, .ref wh, .ref wd, .int (h.1 4), .int (h.1 0), .int (h.1 2), .int (h.1 1), .int (h.1 3), .int (h.1 5), .int (h.1 16), .int (h.1 17), .int (h.1 18), .int (h.1 19), .int (h.1 20), .int (h.1 15)])), (wo, .inl (cI, 30, .inl h.2.2)), (wh, .inr (6, [.ref wl, .int (h.1 11)])), (wl, .inl (cI, 3, .inl h.2.1)), (wd, .inr (3, [.int (h.1 6), .int (h.1 7), .int (h.1 8), .int (h.1 9), .int (h.1 10)])), (qx, .inr (1, [.ref qy, .int 0, .int (x.1 1), .int (x.1 0)])), (qy, .inl (cB, 16, .inl x.2))]) E Y hA hl.1 (c_X6_simulationError qp qs qo qh ql qd qv qb qa qc qe qr qt ws wo wh wl wd qx qy k g h x p0) lk_X6_206 X0b (fun _ _ _ => trivial) [0, 1, 2, 3, 4, 5, 6, 7, 8, 9, 10, 11, 12, 13, 14, 15, 16, 17, 18, 19] [] [0, 1, 2, 3, 4, 5, 6, 7, 8, 9, 10, 11, 12, 13, 14, 15, 16, 17, 18, 19] rfl rfl (by decide) (fun _ => rfl) 0 rfl rfl ⟨Nat.le_of_ble_eq_true rfl, Nat.le_of_ble_eq_true rfl⟩ ⟨Nat.le_of_ble_eq_true rfl, Nat.le_of_ble_eq_true rfl⟩ rfl rfl (Nat.le_of_ble_eq_true rfl) dX6_simulatedStallTime_2 (fun r u H locs hp Y => ?_)
  subst hp
  refine lv_istore_n (lv' := [(2, .int (f_X6_simulationError k p0)), (0, .ref qp), (1, .int p0)]) E.1.1 E.1.2.1 dX6_simulatedStallTime_5 rfl hl (by decide) rfl (fun ls hl => ?_)
  refine lv_iload_n E.1.1 E.1.2.1 dX6_simulatedStallTime_6 rfl (lv_at hl 0 rfl) ?_
  refine lv_if_eq (tgt := 12) E.1.1 E.1.2.1 dX6_simulatedStallTime_7 (by decide) (fun c_7 => ?_) (fun c_7 => ?_)
  · skip
    refine lv_aload_n E.1.1 E.1.2.1 dX6_simulatedStallTime_12 rfl (lv_at hl 1 rfl) ?_
    refine gf_X6_39 E Y 0 rfl rfl dX6_simulatedStallTime_13 ?_
    refine lv_iload_n E.1.1 E.1.2.1 dX6_simulatedStallTime_16 rfl (lv_at hl 2 rfl) ?_
    refine lv_aload_n E.1.1 E.1.2.1 dX6_simulatedStallTime_17 rfl (lv_at hl 1 rfl) ?_
    refine gf_X6_53 E Y 0 rfl rfl dX6_simulatedStallTime_18 ?_
    refine r_Vv (wr := [(qp, .inr (8, [.ref qv, .ref qc, .ref qt, .ref qs, .ref ws, .ref qx, .int (k.1 9), .int (k.1 10)])), (qs, .inr (4, [.ref qv, .ref qc, .ref qt, .ref qo, .ref qh, .ref qd, .int (g.1 4), .int (g.1 0), .int (g.1 2), .int (g.1 1), .int (g.1 3), .int (g.1 5), .int (g.1 16), .int (g.1 17), .int (g.1 18), .int (g.1 19), .int (g.1 20), .int (g.1 15)])), (qo, .inl (cI, 30, .inl g.2.2)), (qh, .inr (6, [.ref ql, .int (g.1 11)])), (ql, .inl (cI, 3, .inl g.2.1)), (qd, .inr (3, [.int (g.1 6), .int (g.1 7), .int (g.1 8), .int (g.1 9), .int (g.1 10)])), (qx, .inr (1, [.ref qy, .int 0, .int (x.1 1), .int (x.1 0)])), (qy, .inl (cB, 16, .inl x.2))]) (w2 := fun u => [(qp, .inr (8, [.ref qv, .ref qc, .ref qt, .ref qs, .ref ws, .ref qx, .int (k.1 9), .int (k.1 10)])), (qs, .inr (4, [.ref qv, .ref qc, .ref qt, .ref qo, .ref qh, .ref qd, .int (g.1 4), .int (g.1 0), .int (g.1 2), .int (g.1 1), .int (g.1 3), .int (g.1 5), .int (g.1 16), .int (g.1 17), .int (g.1 18), .int (g.1 19), .int (g.1 20), .int (g.1 15)])), (qo, .inl (cI, 30, .inl g.2.2)), (qh, .inr (6, [.ref ql, .int (g.1 11)])), (ql, .inl (cI, 3, .inl g.2.1)), (qd, .inr (3, [.int (g.1 6), .int (g.1 7), .int (g.1 8), .int (g.1 9), .int (g.1 10)])), (qv, .inr (7, [.ref qb, .ref qa, .int (k.1 0), .int (k.1 1), .int (k.1 2)])), (qb, .inl (cI, 5, .inl k.2.1)), (qa, .inl (cI, 30, .inl k.2.2.1)), (qc, .inr (2, [.ref qe, .ref qr, .int (k.1 3)])), (qe, .inl (cI, 12, .inl k.2.2.2.1)), (qr, .inl (cI, 12, .inl k.2.2.2.2)), (qt, .inr (5, [.int (k.1 4), .int (k.1 5), .int (k.1 6), .int (k.1 7), .int (k.1 8)])), (ws, .inr (4, [.ref qv, .ref qc, .ref qt, .ref wo, .ref wh, .ref wd, .int (u.1 4), .int (u.1 0), .int (u.1 2), .int (u.1 1), .int (u.1 3), .int (u.1 5), .int (u.1 16), .int (u.1 17), .int (u.1 18), .int (u.1 19), .int (u.1 20), .int (u.1 15)])), (wo, .inl (cI, 30, .inl u.2.2)), (wh, .inr (6, [.ref wl, .int (u.1 11)])), (wl, .inl (cI, 3, .inl u.2.1)), (wd, .inr (3, [.int (u.1 6), .int (u.1 7), .int (u.1 8), .int (u.1 9), .int (u.1 10)])), (qx, .inr (1, [.ref qy, .int 0, .int (x.1 1), .int (x.1 0)])), (qy, .inl (cB, 16, .inl x.2))]) E Y hA hl.1 (c_X2_playWhole ws wo wh wl wd qv qb qa qc qe qr qt k h p0 (k.1 10)) lk_X6_209 X0b (fun _ _ _ => trivial) [13, 14, 15, 16, 17, 6, 7, 8, 9, 10, 11, 12] [0, 1, 2, 3, 4, 5, 18, 19] [0, 1, 2, 3, 4, 5, 13, 14, 15, 16, 17, 18, 19, 8, 9, 10, 11, 12, 6, 7] rfl rfl (by decide) (fun _ => rfl) 13 rfl rfl ⟨Nat.le_of_ble_eq_true rfl, Nat.le_of_ble_eq_true rfl⟩ ⟨Nat.le_of_ble_eq_true rfl, Nat.le_of_ble_eq_true rfl⟩ rfl rfl (Nat.le_of_ble_eq_true rfl) dX6_simulatedStallTime_21 (fun u H locs hp Y => ?_)
    subst hp
    refine lv_aload_n E.1.1 E.1.2.1 dX6_simulatedStallTime_24 rfl (lv_at hl 1 rfl) ?_
    refine gf_X6_39 E Y 0 rfl rfl dX6_simulatedStallTime_25 ?_
    refine gf_X6_190 E Y 13 rfl rfl dX6_simulatedStallTime_28 ?_
    have e9 : (f_X6_simulatedStallTime k h p0) = (((f_X2_playWhole k h p0 (k.1 10)).1 18), (f_X2_playWhole k h p0 (k.1 10))) := (if_pos c_7).trans (rfl)
    exact r_iret E Y hr hk ((f_X2_playWhole k h p0 (k.1 10)).1 18) (f_X2_playWhole k h p0 (k.1 10)) (pr_of e9) rfl ⟨Nat.le_of_ble_eq_true rfl, Nat.le_of_ble_eq_true rfl⟩ dX6_simulatedStallTime_31
  · skip
    refine lv_iload_n E.1.1 E.1.2.1 dX6_simulatedStallTime_10 rfl (lv_at hl 0 rfl) ?_
    have e9 : (f_X6_simulatedStallTime k h p0) = ((f_X6_simulationError k p0), h) := (if_neg c_7).trans (rfl)
    exact r_iret E Y hr hk (f_X6_simulationError k p0) h (pr_of e9) rfl ⟨Nat.le_of_ble_eq_true rfl, Nat.le_of_ble_eq_true rfl⟩ dX6_simulatedStallTime_11

def f_X6_simulatedBitrateSum (k : Cf) (h : Ss) (p0 : Int32) : Int32 × Ss := if (f_X6_simulationError k p0) = 0 then (((f_X2_playWhole k h p0 (k.1 10)).1 20), (f_X2_playWhole k h p0 (k.1 10))) else ((f_X6_simulationError k p0), h)
set_option maxRecDepth 100000 in
set_option maxHeartbeats 4000000 in
theorem c_X6_simulatedBitrateSum {l : Launch} {D : va_G} {cI cB : ClassId} (qp qs qo qh ql qd qv qb qa qc qe qr qt ws wo wh wl wd qx qy : Nat) (k : Cf) (g : Ss) (h : Ss) (x : Tx) (p0 : Int32) : CI l X0 D cI cB yX6_simulatedBitrateSum cX6_simulatedBitrateSum 3 (some .int) 7 157 0 0 [.ref qp, .int p0] (wP cI cB qp qs qo qh ql qd qv qb qa qc qe qr qt ws wo wh wl wd qx qy k g h x) (fun (r : Int32) (u : Ss) => r = (f_X6_simulatedBitrateSum k h p0).1 ∧ u = (f_X6_simulatedBitrateSum k h p0).2) (fun u => (wP cI cB qp qs qo qh ql qd qv qb qa qc qe qr qt ws wo wh wl wd qx qy k g u x)) := by
  refine CI.of (by decide) (Nat.le_of_ble_eq_true rfl) ?_
  intro p e s m below meth c A ls E hr hk hin hA hAA hX Y hl
  have E : EE p c cX6_simulatedBitrateSum 3 s _ m RX6 D cI cB := E
  have hl : lv_has ls 3 [(0, .ref qp), (1, .int p0)] := hl
  refine lv_aload_n E.1.1 E.1.2.1 dX6_simulatedBitrateSum_0 rfl (lv_at hl 0 rfl) ?_
  refine lv_iload_n E.1.1 E.1.2.1 dX6_simulatedBitrateSum_1 rfl (lv_at hl 1 rfl) ?_
  refine r_Vi (wr := []) (w2 := fun _ => [(qp, .inr (8, [.ref qv, .ref qc, .ref qt, .ref qs, .ref ws, .ref qx, .int (k.1 9), .int (k.1 10)])), (qs, .inr (4, [.ref qv, .ref qc, .ref qt, .ref qo, .ref qh, .ref qd, .int (g.1 4), .int (g.1 0), .int (g.1 2), .int (g.1 1), .int (g.1 3), .int (g.1 5), .int (g.1 16), .int (g.1 17), .int (g.1 18), .int (g.1 19), .int (g.1 20), .int (g.1 15)])), (qo, .inl (cI, 30, .inl g.2.2)), (qh, .inr (6, [.ref ql, .int (g.1 11)])), (ql, .inl (cI, 3, .inl g.2.1)), (qd, .inr (3, [.int (g.1 6), .int (g.1 7), .int (g.1 8), .int (g.1 9), .int (g.1 10)])), (qv, .inr (7, [.ref qb, .ref qa, .int (k.1 0), .int (k.1 1), .int (k.1 2)])), (qb, .inl (cI, 5, .inl k.2.1)), (qa, .inl (cI, 30, .inl k.2.2.1)), (qc, .inr (2, [.ref qe, .ref qr, .int (k.1 3)])), (qe, .inl (cI, 12, .inl k.2.2.2.1)), (qr, .inl (cI, 12, .inl k.2.2.2.2)), (qt, .inr (5, [.int (k.1 4), .int (k.1 5), .int (k.1 6), .int (k.1 7), .int (k.1 8)])), (ws, .inr (4, [.ref qv, .ref qc, .ref qt, .ref wo, .ref wh, .ref wd, .int (h.1 4), .int (h.1 0), .int (h.1 2), .int (h.1 1), .int (h.1 3), .int (h.1 5), .int (h.1 16), .int (h.1 17), .int (h.1 18), .int (h.1 19), .int (h.1 20), .int (h.1 15)])), (wo, .inl (cI, 30, .inl h.2.2)), (wh, .inr (6, [.ref wl, .int (h.1 11)])), (wl, .inl (cI, 3, .inl h.2.1)), (wd, .inr (3, [.int (h.1 6), .int (h.1 7), .int (h.1 8), .int (h.1 9), .int (h.1 10)])), (qx, .inr (1, [.ref qy, .int 0, .int (x.1 1), .int (x.1 0)])), (qy, .inl (cB, 16, .inl x.2))]) E Y hA hl.1 (c_X6_simulationError qp qs qo qh ql qd qv qb qa qc qe qr qt ws wo wh wl wd qx qy k g h x p0) lk_X6_206 X0b (fun _ _ _ => trivial) [0, 1, 2, 3, 4, 5, 6, 7, 8, 9, 10, 11, 12, 13, 14, 15, 16, 17, 18, 19] [] [0, 1, 2, 3, 4, 5, 6, 7, 8, 9, 10, 11, 12, 13, 14, 15, 16, 17, 18, 19] rfl rfl (by decide) (fun _ => rfl) 0 rfl rfl ⟨Nat.le_of_ble_eq_true rfl, Nat.le_of_ble_eq_true rfl⟩ ⟨Nat.le_of_ble_eq_true rfl, Nat.le_of_ble_eq_true rfl⟩ rfl rfl (Nat.le_of_ble_eq_true rfl) dX6_simulatedBitrateSum_2 (fun r u H locs hp Y => ?_)
  subst hp
  refine lv_istore_n (lv' := [(2, .int (f_X6_simulationError k p0)), (0, .ref qp), (1, .int p0)]) E.1.1 E.1.2.1 dX6_simulatedBitrateSum_5 rfl hl (by decide) rfl (fun ls hl => ?_)
  refine lv_iload_n E.1.1 E.1.2.1 dX6_simulatedBitrateSum_6 rfl (lv_at hl 0 rfl) ?_
  refine lv_if_eq (tgt := 12) E.1.1 E.1.2.1 dX6_simulatedBitrateSum_7 (by decide) (fun c_7 => ?_) (fun c_7 => ?_)
  · skip
    refine lv_aload_n E.1.1 E.1.2.1 dX6_simulatedBitrateSum_12 rfl (lv_at hl 1 rfl) ?_
    refine gf_X6_39 E Y 0 rfl rfl dX6_simulatedBitrateSum_13 ?_
    refine lv_iload_n E.1.1 E.1.2.1 dX6_simulatedBitrateSum_16 rfl (lv_at hl 2 rfl) ?_
    refine lv_aload_n E.1.1 E.1.2.1 dX6_simulatedBitrateSum_17 rfl (lv_at hl 1 rfl) ?_
    refine gf_X6_53 E Y 0 rfl rfl dX6_simulatedBitrateSum_18 ?_
    refine r_Vv (wr := [(qp, .inr (8, [.ref qv, .ref qc, .ref qt, .ref qs, .ref ws, .ref qx, .int (k.1 9), .int (k.1 10)])), (qs, .inr (4, [.ref qv, .ref qc, .ref qt, .ref qo, .ref qh, .ref qd, .int (g.1 4), .int (g.1 0), .int (g.1 2), .int (g.1 1), .int (g.1 3), .int (g.1 5), .int (g.1 16), .int (g.1 17), .int (g.1 18), .int (g.1 19), .int (g.1 20), .int (g.1 15)])), (qo, .inl (cI, 30, .inl g.2.2)), (qh, .inr (6, [.ref ql, .int (g.1 11)])), (ql, .inl (cI, 3, .inl g.2.1)), (qd, .inr (3, [.int (g.1 6), .int (g.1 7), .int (g.1 8), .int (g.1 9), .int (g.1 10)])), (qx, .inr (1, [.ref qy, .int 0, .int (x.1 1), .int (x.1 0)])), (qy, .inl (cB, 16, .inl x.2))]) (w2 := fun u => [(qp, .inr (8, [.ref qv, .ref qc, .ref qt, .ref qs, .ref ws, .ref qx, .int (k.1 9), .int (k.1 10)])), (qs, .inr (4, [.ref qv, .ref qc, .ref qt, .ref qo, .ref qh, .ref qd, .int (g.1 4), .int (g.1 0), .int (g.1 2), .int (g.1 1), .int (g.1 3), .int (g.1 5), .int (g.1 16), .int (g.1 17), .int (g.1 18), .int (g.1 19), .int (g.1 20), .int (g.1 15)])), (qo, .inl (cI, 30, .inl g.2.2)), (qh, .inr (6, [.ref ql, .int (g.1 11)])), (ql, .inl (cI, 3, .inl g.2.1)), (qd, .inr (3, [.int (g.1 6), .int (g.1 7), .int (g.1 8), .int (g.1 9), .int (g.1 10)])), (qv, .inr (7, [.ref qb, .ref qa, .int (k.1 0), .int (k.1 1), .int (k.1 2)])), (qb, .inl (cI, 5, .inl k.2.1)), (qa, .inl (cI, 30, .inl k.2.2.1)), (qc, .inr (2, [.ref qe, .ref qr, .int (k.1 3)])), (qe, .inl (cI, 12, .inl k.2.2.2.1)), (qr, .inl (cI, 12, .inl k.2.2.2.2)), (qt, .inr (5, [.int (k.1 4), .int (k.1 5), .int (k.1 6), .int (k.1 7), .int (k.1 8)])), (ws, .inr (4, [.ref qv, .ref qc, .ref qt, .ref wo, .ref wh, .ref wd, .int (u.1 4), .int (u.1 0), .int (u.1 2), .int (u.1 1), .int (u.1 3), .int (u.1 5), .int (u.1 16), .int (u.1 17), .int (u.1 18), .int (u.1 19), .int (u.1 20), .int (u.1 15)])), (wo, .inl (cI, 30, .inl u.2.2)), (wh, .inr (6, [.ref wl, .int (u.1 11)])), (wl, .inl (cI, 3, .inl u.2.1)), (wd, .inr (3, [.int (u.1 6), .int (u.1 7), .int (u.1 8), .int (u.1 9), .int (u.1 10)])), (qx, .inr (1, [.ref qy, .int 0, .int (x.1 1), .int (x.1 0)])), (qy, .inl (cB, 16, .inl x.2))]) E Y hA hl.1 (c_X2_playWhole ws wo wh wl wd qv qb qa qc qe qr qt k h p0 (k.1 10)) lk_X6_209 X0b (fun _ _ _ => trivial) [13, 14, 15, 16, 17, 6, 7, 8, 9, 10, 11, 12] [0, 1, 2, 3, 4, 5, 18, 19] [0, 1, 2, 3, 4, 5, 13, 14, 15, 16, 17, 18, 19, 8, 9, 10, 11, 12, 6, 7] rfl rfl (by decide) (fun _ => rfl) 13 rfl rfl ⟨Nat.le_of_ble_eq_true rfl, Nat.le_of_ble_eq_true rfl⟩ ⟨Nat.le_of_ble_eq_true rfl, Nat.le_of_ble_eq_true rfl⟩ rfl rfl (Nat.le_of_ble_eq_true rfl) dX6_simulatedBitrateSum_21 (fun u H locs hp Y => ?_)
    subst hp
    refine lv_aload_n E.1.1 E.1.2.1 dX6_simulatedBitrateSum_24 rfl (lv_at hl 1 rfl) ?_
    refine gf_X6_39 E Y 0 rfl rfl dX6_simulatedBitrateSum_25 ?_
    refine gf_X6_196 E Y 13 rfl rfl dX6_simulatedBitrateSum_28 ?_
    have e9 : (f_X6_simulatedBitrateSum k h p0) = (((f_X2_playWhole k h p0 (k.1 10)).1 20), (f_X2_playWhole k h p0 (k.1 10))) := (if_pos c_7).trans (rfl)
    exact r_iret E Y hr hk ((f_X2_playWhole k h p0 (k.1 10)).1 20) (f_X2_playWhole k h p0 (k.1 10)) (pr_of e9) rfl ⟨Nat.le_of_ble_eq_true rfl, Nat.le_of_ble_eq_true rfl⟩ dX6_simulatedBitrateSum_31
  · skip
    refine lv_iload_n E.1.1 E.1.2.1 dX6_simulatedBitrateSum_10 rfl (lv_at hl 0 rfl) ?_
    have e9 : (f_X6_simulatedBitrateSum k h p0) = ((f_X6_simulationError k p0), h) := (if_neg c_7).trans (rfl)
    exact r_iret E Y hr hk (f_X6_simulationError k p0) h (pr_of e9) rfl ⟨Nat.le_of_ble_eq_true rfl, Nat.le_of_ble_eq_true rfl⟩ dX6_simulatedBitrateSum_11

def f_X6_bestSmoothLevel_l23 (k : Cf) : Nat → Ss → Int32 → Int32 × Ss
  | 0, h1, x1 => (0, h1)
  | n + 1, h1, x1 => if x1 < 0 then ((-6 : Int32), h1) else (if ((f_X2_playWhole k h1 (0 : Int32) x1).1 3) = (3 : Int32) then (if ((f_X2_playWhole k h1 (0 : Int32) x1).1 17) = 0 then (x1, (f_X2_playWhole k h1 (0 : Int32) x1)) else f_X6_bestSmoothLevel_l23 k n (f_X2_playWhole k h1 (0 : Int32) x1) (x1 + (-1))) else f_X6_bestSmoothLevel_l23 k n (f_X2_playWhole k h1 (0 : Int32) x1) (x1 + (-1)))
def f_X6_bestSmoothLevel (k : Cf) (h : Ss) : Int32 × Ss := if (k.1 2) = 0 then ((-4 : Int32), h) else f_X6_bestSmoothLevel_l23 k 6 h ((k.1 2) - (1 : Int32))
set_option maxRecDepth 100000 in
set_option maxHeartbeats 4000000 in
theorem c_X6_bestSmoothLevel {l : Launch} {D : va_G} {cI cB : ClassId} (qp qs qo qh ql qd qv qb qa qc qe qr qt ws wo wh wl wd qx qy : Nat) (k : Cf) (g : Ss) (h : Ss) (x : Tx) (kO : KOK k) : CI l X0 D cI cB yX6_bestSmoothLevel cX6_bestSmoothLevel 2 (some .int) 7 157 0 0 [.ref qp] (wP cI cB qp qs qo qh ql qd qv qb qa qc qe qr qt ws wo wh wl wd qx qy k g h x) (fun (r : Int32) (u : Ss) => r = (f_X6_bestSmoothLevel k h).1 ∧ u = (f_X6_bestSmoothLevel k h).2) (fun u => (wP cI cB qp qs qo qh ql qd qv qb qa qc qe qr qt ws wo wh wl wd qx qy k g u x)) := by
  refine CI.of (by decide) (Nat.le_of_ble_eq_true rfl) ?_
  intro p e s m below meth c A ls E hr hk hin hA hAA hX Y hl
  have E : EE p c cX6_bestSmoothLevel 2 s _ m RX6 D cI cB := E
  have hl : lv_has ls 2 [(0, .ref qp)] := hl
  refine lv_aload_n E.1.1 E.1.2.1 dX6_bestSmoothLevel_0 rfl (lv_at hl 0 rfl) ?_
  refine gf_X6_12 E Y 0 rfl rfl dX6_bestSmoothLevel_1 ?_
  refine gf_X6_71 E Y 6 rfl rfl dX6_bestSmoothLevel_4 ?_
  refine lv_if_ne (tgt := 13) E.1.1 E.1.2.1 dX6_bestSmoothLevel_7 (by decide) (fun c_7 => ?_) (fun c_7 => ?_)
  · skip
    refine lv_aload_n E.1.1 E.1.2.1 dX6_bestSmoothLevel_13 rfl (lv_at hl 0 rfl) ?_
    refine gf_X6_12 E Y 0 rfl rfl dX6_bestSmoothLevel_14 ?_
    refine gf_X6_71 E Y 6 rfl rfl dX6_bestSmoothLevel_17 ?_
    refine lv_iconst (v := 1) E.1.1 E.1.2.1 dX6_bestSmoothLevel_20 (by decide) ?_
    refine lv_isub E.1.1 E.1.2.1 dX6_bestSmoothLevel_21 ?_
    refine lv_istore_n (lv' := [(1, .int ((k.1 2) - (1 : Int32))), (0, .ref qp)]) E.1.1 E.1.2.1 dX6_bestSmoothLevel_22 rfl hl (by decide) rfl (fun ls hl => ?_)
    have hL : ∀ (n : Nat) (h1 : Ss) (x1 : Int32), (hx : x1.toInt ≤ 4) → (hn : (x1.toInt + 1).toNat < n) → (f_X6_bestSmoothLevel k h) = f_X6_bestSmoothLevel_l23 k n h1 x1 → ∀ (H : Heap) (locs : List Loc) (ls : Array Slot), WD D A s.heap H locs [(qp, .inr (8, [.ref qv, .ref qc, .ref qt, .ref qs, .ref ws, .ref qx, .int (k.1 9), .int (k.1 10)])), (qs, .inr (4, [.ref qv, .ref qc, .ref qt, .ref qo, .ref qh, .ref qd, .int (g.1 4), .int (g.1 0), .int (g.1 2), .int (g.1 1), .int (g.1 3), .int (g.1 5), .int (g.1 16), .int (g.1 17), .int (g.1 18), .int (g.1 19), .int (g.1 20), .int (g.1 15)])), (qo, .inl (cI, 30, .inl g.2.2)), (qh, .inr (6, [.ref ql, .int (g.1 11)])), (ql, .inl (cI, 3, .inl g.2.1)), (qd, .inr (3, [.int (g.1 6), .int (g.1 7), .int (g.1 8), .int (g.1 9), .int (g.1 10)])), (qv, .inr (7, [.ref qb, .ref qa, .int (k.1 0), .int (k.1 1), .int (k.1 2)])), (qb, .inl (cI, 5, .inl k.2.1)), (qa, .inl (cI, 30, .inl k.2.2.1)), (qc, .inr (2, [.ref qe, .ref qr, .int (k.1 3)])), (qe, .inl (cI, 12, .inl k.2.2.2.1)), (qr, .inl (cI, 12, .inl k.2.2.2.2)), (qt, .inr (5, [.int (k.1 4), .int (k.1 5), .int (k.1 6), .int (k.1 7), .int (k.1 8)])), (ws, .inr (4, [.ref qv, .ref qc, .ref qt, .ref wo, .ref wh, .ref wd, .int (h1.1 4), .int (h1.1 0), .int (h1.1 2), .int (h1.1 1), .int (h1.1 3), .int (h1.1 5), .int (h1.1 16), .int (h1.1 17), .int (h1.1 18), .int (h1.1 19), .int (h1.1 20), .int (h1.1 15)])), (wo, .inl (cI, 30, .inl h1.2.2)), (wh, .inr (6, [.ref wl, .int (h1.1 11)])), (wl, .inl (cI, 3, .inl h1.2.1)), (wd, .inr (3, [.int (h1.1 6), .int (h1.1 7), .int (h1.1 8), .int (h1.1 9), .int (h1.1 10)])), (qx, .inr (1, [.ref qy, .int 0, .int (x.1 1), .int (x.1 0)])), (qy, .inl (cB, 16, .inl x.2))] → lv_has ls 2 [(0, .ref qp), (1, .int x1)] → W p l e { frames := 7, cells := 0, slots := 0, locals := 157 } s m ([.ref qp] : List Value).toArray below meth c H locs 0 0 (MQ below (va_Qi (fun (r : Int32) (u : Ss) => r = (f_X6_bestSmoothLevel k h).1 ∧ u = (f_X6_bestSmoothLevel k h).2) (AT D cI cB A (fun u => (wP cI cB qp qs qo qh ql qd qv qb qa qc qe qr qt ws wo wh wl wd qx qy k g u x))) A) ([.ref qp] : List Value).toArray s 0 0 A) (F0 m 23 ls []) := by
      intro n
      induction n with
      | zero => intro h1 x1 hx hn; exact absurd hn (Nat.not_lt_zero _)
      | succ n ih =>
        intro h1 x1 hx hn hF H locs ls Y hl
        refine lv_iload_n E.1.1 E.1.2.1 dX6_bestSmoothLevel_23 rfl (lv_at hl 1 rfl) ?_
        refine lv_if_lt (tgt := 65) E.1.1 E.1.2.1 dX6_bestSmoothLevel_24 (by decide) (fun c_24 => ?_) (fun c_24 => ?_)
        · skip
          refine lv_bipush (v := (-6)) E.1.1 E.1.2.1 dX6_bestSmoothLevel_65 (by decide) ?_
          have e9 : (f_X6_bestSmoothLevel k h) = ((-6 : Int32), h1) := hF.trans ((if_pos c_24).trans (rfl))
          exact r_iret E Y hr hk (-6 : Int32) h1 (pr_of e9) rfl ⟨Nat.le_of_ble_eq_true rfl, Nat.le_of_ble_eq_true rfl⟩ dX6_bestSmoothLevel_67
        · skip
          refine lv_aload_n E.1.1 E.1.2.1 dX6_bestSmoothLevel_27 rfl (lv_at hl 0 rfl) ?_
          refine gf_X6_39 E Y 0 rfl rfl dX6_bestSmoothLevel_28 ?_
          refine lv_iconst (v := 0) E.1.1 E.1.2.1 dX6_bestSmoothLevel_31 (by decide) ?_
          refine lv_iload_n E.1.1 E.1.2.1 dX6_bestSmoothLevel_32 rfl (lv_at hl 1 rfl) ?_
          refine r_Vv (wr := [(qp, .inr (8, [.ref qv, .ref qc, .ref qt, .ref qs, .ref ws, .ref qx, .int (k.1 9), .int (k.1 10)])), (qs, .inr (4, [.ref qv, .ref qc, .ref qt, .ref qo, .ref qh, .ref qd, .int (g.1 4), .int (g.1 0), .int (g.1 2), .int (g.1 1), .int (g.1 3), .int (g.1 5), .int (g.1 16), .int (g.1 17), .int (g.1 18), .int (g.1 19), .int (g.1 20), .int (g.1 15)])), (qo, .inl (cI, 30, .inl g.2.2)), (qh, .inr (6, [.ref ql, .int (g.1 11)])), (ql, .inl (cI, 3, .inl g.2.1)), (qd, .inr (3, [.int (g.1 6), .int (g.1 7), .int (g.1 8), .int (g.1 9), .int (g.1 10)])), (qx, .inr (1, [.ref qy, .int 0, .int (x.1 1), .int (x.1 0)])), (qy, .inl (cB, 16, .inl x.2))]) (w2 := fun u => [(qp, .inr (8, [.ref qv, .ref qc, .ref qt, .ref qs, .ref ws, .ref qx, .int (k.1 9), .int (k.1 10)])), (qs, .inr (4, [.ref qv, .ref qc, .ref qt, .ref qo, .ref qh, .ref qd, .int (g.1 4), .int (g.1 0), .int (g.1 2), .int (g.1 1), .int (g.1 3), .int (g.1 5), .int (g.1 16), .int (g.1 17), .int (g.1 18), .int (g.1 19), .int (g.1 20), .int (g.1 15)])), (qo, .inl (cI, 30, .inl g.2.2)), (qh, .inr (6, [.ref ql, .int (g.1 11)])), (ql, .inl (cI, 3, .inl g.2.1)), (qd, .inr (3, [.int (g.1 6), .int (g.1 7), .int (g.1 8), .int (g.1 9), .int (g.1 10)])), (qv, .inr (7, [.ref qb, .ref qa, .int (k.1 0), .int (k.1 1), .int (k.1 2)])), (qb, .inl (cI, 5, .inl k.2.1)), (qa, .inl (cI, 30, .inl k.2.2.1)), (qc, .inr (2, [.ref qe, .ref qr, .int (k.1 3)])), (qe, .inl (cI, 12, .inl k.2.2.2.1)), (qr, .inl (cI, 12, .inl k.2.2.2.2)), (qt, .inr (5, [.int (k.1 4), .int (k.1 5), .int (k.1 6), .int (k.1 7), .int (k.1 8)])), (ws, .inr (4, [.ref qv, .ref qc, .ref qt, .ref wo, .ref wh, .ref wd, .int (u.1 4), .int (u.1 0), .int (u.1 2), .int (u.1 1), .int (u.1 3), .int (u.1 5), .int (u.1 16), .int (u.1 17), .int (u.1 18), .int (u.1 19), .int (u.1 20), .int (u.1 15)])), (wo, .inl (cI, 30, .inl u.2.2)), (wh, .inr (6, [.ref wl, .int (u.1 11)])), (wl, .inl (cI, 3, .inl u.2.1)), (wd, .inr (3, [.int (u.1 6), .int (u.1 7), .int (u.1 8), .int (u.1 9), .int (u.1 10)])), (qx, .inr (1, [.ref qy, .int 0, .int (x.1 1), .int (x.1 0)])), (qy, .inl (cB, 16, .inl x.2))]) E Y hA hl.1 (c_X2_playWhole ws wo wh wl wd qv qb qa qc qe qr qt k h1 (0 : Int32) x1) lk_X6_209 X0b (fun _ _ _ => trivial) [13, 14, 15, 16, 17, 6, 7, 8, 9, 10, 11, 12] [0, 1, 2, 3, 4, 5, 18, 19] [0, 1, 2, 3, 4, 5, 13, 14, 15, 16, 17, 18, 19, 8, 9, 10, 11, 12, 6, 7] rfl rfl (by decide) (fun _ => rfl) 13 rfl rfl ⟨Nat.le_of_ble_eq_true rfl, Nat.le_of_ble_eq_true rfl⟩ ⟨Nat.le_of_ble_eq_true rfl, Nat.le_of_ble_eq_true rfl⟩ rfl rfl (Nat.le_of_ble_eq_true rfl) dX6_bestSmoothLevel_33 (fun u H locs hp Y => ?_)
          subst hp
          refine lv_aload_n E.1.1 E.1.2.1 dX6_bestSmoothLevel_36 rfl (lv_at hl 0 rfl) ?_
          refine gf_X6_39 E Y 0 rfl rfl dX6_bestSmoothLevel_37 ?_
          refine gf_X6_153 E Y 13 rfl rfl dX6_bestSmoothLevel_40 ?_
          refine lv_iconst (v := 3) E.1.1 E.1.2.1 dX6_bestSmoothLevel_43 (by decide) ?_
          refine lv_icmp_ne (tgt := 59) E.1.1 E.1.2.1 dX6_bestSmoothLevel_44 (by decide) (fun c_44 => ?_) (fun c_44 => ?_)
          · skip
            refine lv_iinc (v := (x1 + (-1))) (lv' := [(1, .int (x1 + (-1))), (0, .ref qp)]) E.1.1 E.1.2.1 dX6_bestSmoothLevel_59 hl (k := 1) rfl rfl (by decide) rfl (fun ls hl => ?_)
            refine lv_goto (tgt := 23) E.1.1 E.1.2.1 dX6_bestSmoothLevel_62 (by decide) ?_
            exact ih (f_X2_playWhole k h1 (0 : Int32) x1) (x1 + (-1)) ((bs2_b c_24 hx hn).1) ((bs2_b c_24 hx hn).2) (hF.trans ((if_neg c_24).trans ((if_neg c_44).trans (rfl)))) H locs ls Y (lv_sub hl [1, 0] rfl)
          · skip
            refine lv_aload_n E.1.1 E.1.2.1 dX6_bestSmoothLevel_47 rfl (lv_at hl 0 rfl) ?_
            refine gf_X6_39 E Y 0 rfl rfl dX6_bestSmoothLevel_48 ?_
            refine gf_X6_187 E Y 13 rfl rfl dX6_bestSmoothLevel_51 ?_
            refine lv_if_ne (tgt := 59) E.1.1 E.1.2.1 dX6_bestSmoothLevel_54 (by decide) (fun c_54 => ?_) (fun c_54 => ?_)
            · skip
              refine lv_iinc (v := (x1 + (-1))) (lv' := [(1, .int (x1 + (-1))), (0, .ref qp)]) E.1.1 E.1.2.1 dX6_bestSmoothLevel_59 hl (k := 1) rfl rfl (by decide) rfl (fun ls hl => ?_)
              refine lv_goto (tgt := 23) E.1.1 E.1.2.1 dX6_bestSmoothLevel_62 (by decide) ?_
              exact ih (f_X2_playWhole k h1 (0 : Int32) x1) (x1 + (-1)) ((bs2_b c_24 hx hn).1) ((bs2_b c_24 hx hn).2) (hF.trans ((if_neg c_24).trans ((if_pos c_44).trans ((if_neg c_54).trans (rfl))))) H locs ls Y (lv_sub hl [1, 0] rfl)
            · skip
              refine lv_iload_n E.1.1 E.1.2.1 dX6_bestSmoothLevel_57 rfl (lv_at hl 1 rfl) ?_
              have e9 : (f_X6_bestSmoothLevel k h) = (x1, (f_X2_playWhole k h1 (0 : Int32) x1)) := hF.trans ((if_neg c_24).trans ((if_pos c_44).trans ((if_pos c_54).trans (rfl))))
              exact r_iret E Y hr hk x1 (f_X2_playWhole k h1 (0 : Int32) x1) (pr_of e9) rfl ⟨Nat.le_of_ble_eq_true rfl, Nat.le_of_ble_eq_true rfl⟩ dX6_bestSmoothLevel_58
    exact hL 6 h ((k.1 2) - (1 : Int32)) ((bs2_i kO).1) ((bs2_i kO).2) ((if_neg c_7).trans (rfl)) _ _ _ Y (lv_sub hl [1, 0] rfl)
  · skip
    refine lv_bipush (v := (-4)) E.1.1 E.1.2.1 dX6_bestSmoothLevel_10 (by decide) ?_
    have e9 : (f_X6_bestSmoothLevel k h) = ((-4 : Int32), h) := (if_pos c_7).trans (rfl)
    exact r_iret E Y hr hk (-4 : Int32) h (pr_of e9) rfl ⟨Nat.le_of_ble_eq_true rfl, Nat.le_of_ble_eq_true rfl⟩ dX6_bestSmoothLevel_12
