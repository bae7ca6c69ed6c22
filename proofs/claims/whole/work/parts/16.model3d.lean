def f_X7_restart (v : Fn) : Int32 × Fn := ((v (0)), (f_X7_begins v))
set_option maxRecDepth 100000 in
set_option maxHeartbeats 4000000 in
theorem c_X7_restart {l : Launch} {D : va_G} {cI cB : ClassId} (qm mb ma me mr mn ms mk : Nat) (k : Cf) (v : Fn) (a : Fn) (y : Ky) : CI l X0 D cI cB yX7_restart cX7_restart 2 (some .int) 1 21 0 0 [.ref qm] (wM cI qm mb ma me mr mn ms mk k v a y) (fun (r : Int32) (u : Fn) => r = (f_X7_restart v).1 ∧ u = (f_X7_restart v).2) (fun u => (wM cI qm mb ma me mr mn ms mk k u a y)) := by
  refine CI.of (by decide) (Nat.le_of_ble_eq_true rfl) ?_
  intro p e s m below meth c A ls E hr hk hin hA hAA hX Y hl
  have E : EE p c cX7_restart 2 s _ m RX7 D cI cB := E
  have hl : lv_has ls 2 [(0, .ref qm)] := hl
  refine lv_aload_n E.1.1 E.1.2.1 dX7_restart_0 rfl (lv_at hl 0 rfl) ?_
  refine gf_X7_47 E Y 0 rfl rfl dX7_restart_1 ?_
  refine lv_iconst (v := 0) E.1.1 E.1.2.1 dX7_restart_4 (by decide) ?_
  refine r_ial E Y 5 rfl (0) (by decide) (by unfold vp_in; decide) dX7_restart_5 ?_
  refine lv_istore_n (lv' := [(1, .int (v (0))), (0, .ref qm)]) E.1.1 E.1.2.1 dX7_restart_6 rfl hl (by decide) rfl (fun ls hl => ?_)
  refine lv_aload_n E.1.1 E.1.2.1 dX7_restart_7 rfl (lv_at hl 1 rfl) ?_
  refine r_Vv (wr := []) (w2 := fun u => [(qm, .inr (9, [.int (k.1 0), .int (k.1 1), .ref ma, .int (k.1 2), .ref mb, .int (k.1 3), .ref me, .ref mr, .int (k.1 4), .int (k.1 5), .int (k.1 6), .int (k.1 7), .int (k.1 8), .int (k.1 9), .int (k.1 10), .ref mn, .ref ms, .int (y.1 0), .ref mk, .int (y.1 1)])), (mb, .inl (cI, 5, .inl k.2.1)), (ma, .inl (cI, 30, .inl k.2.2.1)), (me, .inl (cI, 12, .inl k.2.2.2.1)), (mr, .inl (cI, 12, .inl k.2.2.2.2)), (mn, .inl (cI, 52, .inl u)), (ms, .inl (cI, 52, .inl a)), (mk, .inl (cI, 16, .inl y.2))]) E Y hA hl.1 (c_X7_begins qm mb ma me mr mn ms mk k v a y) lk_X7_56 X0b (fun _ _ _ => trivial) [0, 1, 2, 3, 4, 5, 6, 7] [] [0, 1, 2, 3, 4, 5, 6, 7] rfl rfl (by decide) (fun _ => rfl) 0 rfl rfl ⟨Nat.le_of_ble_eq_true rfl, Nat.le_of_ble_eq_true rfl⟩ ⟨Nat.le_of_ble_eq_true rfl, Nat.le_of_ble_eq_true rfl⟩ rfl rfl (Nat.le_of_ble_eq_true rfl) dX7_restart_8 (fun u H locs hp Y => ?_)
  subst hp
  refine lv_iload_n E.1.1 E.1.2.1 dX7_restart_11 rfl (lv_at hl 0 rfl) ?_
  have e9 : (f_X7_restart v) = ((v (0)), (f_X7_begins v)) := rfl
  exact r_iret E Y hr hk (v (0)) (f_X7_begins v) (pr_of e9) rfl ⟨Nat.le_of_ble_eq_true rfl, Nat.le_of_ble_eq_true rfl⟩ dX7_restart_12

def f_X7_time (v : Fn) : Int32 := (v (0))
set_option maxRecDepth 100000 in
set_option maxHeartbeats 4000000 in
theorem c_X7_time {l : Launch} {D : va_G} {cI cB : ClassId} (qm mb ma me mr mn ms mk : Nat) (k : Cf) (v : Fn) (a : Fn) (y : Ky) : CI l X0 D cI cB yX7_time cX7_time 1 (some .int) 0 0 0 0 [.ref qm] (wM cI qm mb ma me mr mn ms mk k v a y) (fun (r : Int32) (_ : Unit) => r = (f_X7_time v)) (fun _ => (wM cI qm mb ma me mr mn ms mk k v a y)) := by
  refine CI.of (by decide) (Nat.le_of_ble_eq_true rfl) ?_
  intro p e s m below meth c A ls E hr hk hin hA hAA hX Y hl
  have E : EE p c cX7_time 1 s _ m RX7 D cI cB := E
  have hl : lv_has ls 1 [(0, .ref qm)] := hl
  refine lv_aload_n E.1.1 E.1.2.1 dX7_time_0 rfl (lv_at hl 0 rfl) ?_
  refine gf_X7_47 E Y 0 rfl rfl dX7_time_1 ?_
  refine lv_iconst (v := 0) E.1.1 E.1.2.1 dX7_time_4 (by decide) ?_
  refine r_ial E Y 5 rfl (0) (by decide) (by unfold vp_in; decide) dX7_time_5 ?_
  have e9 : (f_X7_time v) = (v (0)) := rfl
  exact r_iret E Y hr hk (v (0)) () (e9.symm) rfl ⟨Nat.le_of_ble_eq_true rfl, Nat.le_of_ble_eq_true rfl⟩ dX7_time_6

def f_X7_position (v : Fn) : Int32 := (v (2))
set_option maxRecDepth 100000 in
set_option maxHeartbeats 4000000 in
theorem c_X7_position {l : Launch} {D : va_G} {cI cB : ClassId} (qm mb ma me mr mn ms mk : Nat) (k : Cf) (v : Fn) (a : Fn) (y : Ky) : CI l X0 D cI cB yX7_position cX7_position 1 (some .int) 0 0 0 0 [.ref qm] (wM cI qm mb ma me mr mn ms mk k v a y) (fun (r : Int32) (_ : Unit) => r = (f_X7_position v)) (fun _ => (wM cI qm mb ma me mr mn ms mk k v a y)) := by
  refine CI.of (by decide) (Nat.le_of_ble_eq_true rfl) ?_
  intro p e s m below meth c A ls E hr hk hin hA hAA hX Y hl
  have E : EE p c cX7_position 1 s _ m RX7 D cI cB := E
  have hl : lv_has ls 1 [(0, .ref qm)] := hl
  refine lv_aload_n E.1.1 E.1.2.1 dX7_position_0 rfl (lv_at hl 0 rfl) ?_
  refine gf_X7_47 E Y 0 rfl rfl dX7_position_1 ?_
  refine lv_iconst (v := 2) E.1.1 E.1.2.1 dX7_position_4 (by decide) ?_
  refine r_ial E Y 5 rfl (2) (by decide) (by unfold vp_in; decide) dX7_position_5 ?_
  have e9 : (f_X7_position v) = (v (2)) := rfl
  exact r_iret E Y hr hk (v (2)) () (e9.symm) rfl ⟨Nat.le_of_ble_eq_true rfl, Nat.le_of_ble_eq_true rfl⟩ dX7_position_6

def f_X7_bufferLevel (v : Fn) : Int32 := (v (1))
set_option maxRecDepth 100000 in
set_option maxHeartbeats 4000000 in
theorem c_X7_bufferLevel {l : Launch} {D : va_G} {cI cB : ClassId} (qm mb ma me mr mn ms mk : Nat) (k : Cf) (v : Fn) (a : Fn) (y : Ky) : CI l X0 D cI cB yX7_bufferLevel cX7_bufferLevel 1 (some .int) 0 0 0 0 [.ref qm] (wM cI qm mb ma me mr mn ms mk k v a y) (fun (r : Int32) (_ : Unit) => r = (f_X7_bufferLevel v)) (fun _ => (wM cI qm mb ma me mr mn ms mk k v a y)) := by
  refine CI.of (by decide) (Nat.le_of_ble_eq_true rfl) ?_
  intro p e s m below meth c A ls E hr hk hin hA hAA hX Y hl
  have E : EE p c cX7_bufferLevel 1 s _ m RX7 D cI cB := E
  have hl : lv_has ls 1 [(0, .ref qm)] := hl
  refine lv_aload_n E.1.1 E.1.2.1 dX7_bufferLevel_0 rfl (lv_at hl 0 rfl) ?_
  refine gf_X7_47 E Y 0 rfl rfl dX7_bufferLevel_1 ?_
  refine lv_iconst (v := 1) E.1.1 E.1.2.1 dX7_bufferLevel_4 (by decide) ?_
  refine r_ial E Y 5 rfl (1) (by decide) (by unfold vp_in; decide) dX7_bufferLevel_5 ?_
  have e9 : (f_X7_bufferLevel v) = (v (1)) := rfl
  exact r_iret E Y hr hk (v (1)) () (e9.symm) rfl ⟨Nat.le_of_ble_eq_true rfl, Nat.le_of_ble_eq_true rfl⟩ dX7_bufferLevel_6

def f_X7_state (v : Fn) : Int32 := (v (3))
set_option maxRecDepth 100000 in
set_option maxHeartbeats 4000000 in
theorem c_X7_state {l : Launch} {D : va_G} {cI cB : ClassId} (qm mb ma me mr mn ms mk : Nat) (k : Cf) (v : Fn) (a : Fn) (y : Ky) : CI l X0 D cI cB yX7_state cX7_state 1 (some .int) 0 0 0 0 [.ref qm] (wM cI qm mb ma me mr mn ms mk k v a y) (fun (r : Int32) (_ : Unit) => r = (f_X7_state v)) (fun _ => (wM cI qm mb ma me mr mn ms mk k v a y)) := by
  refine CI.of (by decide) (Nat.le_of_ble_eq_true rfl) ?_
  intro p e s m below meth c A ls E hr hk hin hA hAA hX Y hl
  have E : EE p c cX7_state 1 s _ m RX7 D cI cB := E
  have hl : lv_has ls 1 [(0, .ref qm)] := hl
  refine lv_aload_n E.1.1 E.1.2.1 dX7_state_0 rfl (lv_at hl 0 rfl) ?_
  refine gf_X7_47 E Y 0 rfl rfl dX7_state_1 ?_
  refine lv_iconst (v := 3) E.1.1 E.1.2.1 dX7_state_4 (by decide) ?_
  refine r_ial E Y 5 rfl (3) (by decide) (by unfold vp_in; decide) dX7_state_5 ?_
  have e9 : (f_X7_state v) = (v (3)) := rfl
  exact r_iret E Y hr hk (v (3)) () (e9.symm) rfl ⟨Nat.le_of_ble_eq_true rfl, Nat.le_of_ble_eq_true rfl⟩ dX7_state_6

def f_X7_isPaused (v : Fn) : Int32 := (v (4))
set_option maxRecDepth 100000 in
set_option maxHeartbeats 4000000 in
theorem c_X7_isPaused {l : Launch} {D : va_G} {cI cB : ClassId} (qm mb ma me mr mn ms mk : Nat) (k : Cf) (v : Fn) (a : Fn) (y : Ky) : CI l X0 D cI cB yX7_isPaused cX7_isPaused 1 (some .int) 0 0 0 0 [.ref qm] (wM cI qm mb ma me mr mn ms mk k v a y) (fun (r : Int32) (_ : Unit) => r = (f_X7_isPaused v)) (fun _ => (wM cI qm mb ma me mr mn ms mk k v a y)) := by
  refine CI.of (by decide) (Nat.le_of_ble_eq_true rfl) ?_
  intro p e s m below meth c A ls E hr hk hin hA hAA hX Y hl
  have E : EE p c cX7_isPaused 1 s _ m RX7 D cI cB := E
  have hl : lv_has ls 1 [(0, .ref qm)] := hl
  refine lv_aload_n E.1.1 E.1.2.1 dX7_isPaused_0 rfl (lv_at hl 0 rfl) ?_
  refine gf_X7_47 E Y 0 rfl rfl dX7_isPaused_1 ?_
  refine lv_iconst (v := 4) E.1.1 E.1.2.1 dX7_isPaused_4 (by decide) ?_
  refine r_ial E Y 5 rfl (4) (by decide) (by unfold vp_in; decide) dX7_isPaused_5 ?_
  have e9 : (f_X7_isPaused v) = (v (4)) := rfl
  exact r_iret E Y hr hk (v (4)) () (e9.symm) rfl ⟨Nat.le_of_ble_eq_true rfl, Nat.le_of_ble_eq_true rfl⟩ dX7_isPaused_6

def f_X7_downloadingSegment (v : Fn) : Int32 := if (v (6)) = (1 : Int32) then (v (5)) else (-6 : Int32)
set_option maxRecDepth 100000 in
set_option maxHeartbeats 4000000 in
theorem c_X7_downloadingSegment {l : Launch} {D : va_G} {cI cB : ClassId} (qm mb ma me mr mn ms mk : Nat) (k : Cf) (v : Fn) (a : Fn) (y : Ky) : CI l X0 D cI cB yX7_downloadingSegment cX7_downloadingSegment 1 (some .int) 0 0 0 0 [.ref qm] (wM cI qm mb ma me mr mn ms mk k v a y) (fun (r : Int32) (_ : Unit) => r = (f_X7_downloadingSegment v)) (fun _ => (wM cI qm mb ma me mr mn ms mk k v a y)) := by
  refine CI.of (by decide) (Nat.le_of_ble_eq_true rfl) ?_
  intro p e s m below meth c A ls E hr hk hin hA hAA hX Y hl
  have E : EE p c cX7_downloadingSegment 1 s _ m RX7 D cI cB := E
  have hl : lv_has ls 1 [(0, .ref qm)] := hl
  refine lv_aload_n E.1.1 E.1.2.1 dX7_downloadingSegment_0 rfl (lv_at hl 0 rfl) ?_
  refine gf_X7_47 E Y 0 rfl rfl dX7_downloadingSegment_1 ?_
  refine lv_bipush (v := 6) E.1.1 E.1.2.1 dX7_downloadingSegment_4 (by decide) ?_
  refine r_ial E Y 5 rfl (6) (by decide) (by unfold vp_in; decide) dX7_downloadingSegment_6 ?_
  refine lv_iconst (v := 1) E.1.1 E.1.2.1 dX7_downloadingSegment_7 (by decide) ?_
  refine lv_icmp_ne (tgt := 20) E.1.1 E.1.2.1 dX7_downloadingSegment_8 (by decide) (fun c_8 => ?_) (fun c_8 => ?_)
  · skip
    refine lv_bipush (v := (-6)) E.1.1 E.1.2.1 dX7_downloadingSegment_20 (by decide) ?_
    have e9 : (f_X7_downloadingSegment v) = (-6 : Int32) := (if_neg c_8).trans (rfl)
    exact r_iret E Y hr hk (-6 : Int32) () (e9.symm) rfl ⟨Nat.le_of_ble_eq_true rfl, Nat.le_of_ble_eq_true rfl⟩ dX7_downloadingSegment_22
  · skip
    refine lv_aload_n E.1.1 E.1.2.1 dX7_downloadingSegment_11 rfl (lv_at hl 0 rfl) ?_
    refine gf_X7_47 E Y 0 rfl rfl dX7_downloadingSegment_12 ?_
    refine lv_iconst (v := 5) E.1.1 E.1.2.1 dX7_downloadingSegment_15 (by decide) ?_
    refine r_ial E Y 5 rfl (5) (by decide) (by unfold vp_in; decide) dX7_downloadingSegment_16 ?_
    refine lv_goto (tgt := 22) E.1.1 E.1.2.1 dX7_downloadingSegment_17 (by decide) ?_
    have e9 : (f_X7_downloadingSegment v) = (v (5)) := (if_pos c_8).trans (rfl)
    exact r_iret E Y hr hk (v (5)) () (e9.symm) rfl ⟨Nat.le_of_ble_eq_true rfl, Nat.le_of_ble_eq_true rfl⟩ dX7_downloadingSegment_22

def f_X7_throughputEstimate (v : Fn) : Int32 := (f_X7_estimate v)
set_option maxRecDepth 100000 in
set_option maxHeartbeats 4000000 in
theorem c_X7_throughputEstimate {l : Launch} {D : va_G} {cI cB : ClassId} (qm mb ma me mr mn ms mk : Nat) (k : Cf) (v : Fn) (a : Fn) (y : Ky) : CI l X0 D cI cB yX7_throughputEstimate cX7_throughputEstimate 1 (some .int) 1 23 0 0 [.ref qm] (wM cI qm mb ma me mr mn ms mk k v a y) (fun (r : Int32) (_ : Unit) => r = (f_X7_throughputEstimate v)) (fun _ => (wM cI qm mb ma me mr mn ms mk k v a y)) := by
  refine CI.of (by decide) (Nat.le_of_ble_eq_true rfl) ?_
  intro p e s m below meth c A ls E hr hk hin hA hAA hX Y hl
  have E : EE p c cX7_throughputEstimate 1 s _ m RX7 D cI cB := E
  have hl : lv_has ls 1 [(0, .ref qm)] := hl
  refine lv_aload_n E.1.1 E.1.2.1 dX7_throughputEstimate_0 rfl (lv_at hl 0 rfl) ?_
  refine r_Vi (wr := []) (w2 := fun _ => [(qm, .inr (9, [.int (k.1 0), .int (k.1 1), .ref ma, .int (k.1 2), .ref mb, .int (k.1 3), .ref me, .ref mr, .int (k.1 4), .int (k.1 5), .int (k.1 6), .int (k.1 7), .int (k.1 8), .int (k.1 9), .int (k.1 10), .ref mn, .ref ms, .int (y.1 0), .ref mk, .int (y.1 1)])), (mb, .inl (cI, 5, .inl k.2.1)), (ma, .inl (cI, 30, .inl k.2.2.1)), (me, .inl (cI, 12, .inl k.2.2.2.1)), (mr, .inl (cI, 12, .inl k.2.2.2.2)), (mn, .inl (cI, 52, .inl v)), (ms, .inl (cI, 52, .inl a)), (mk, .inl (cI, 16, .inl y.2))]) E Y hA hl.1 (c_X7_estimate qm mb ma me mr mn ms mk k v a y) lk_X7_126 X0b (fun _ _ _ => trivial) [0, 1, 2, 3, 4, 5, 6, 7] [] [0, 1, 2, 3, 4, 5, 6, 7] rfl rfl (by decide) (fun _ => rfl) 0 rfl rfl ⟨Nat.le_of_ble_eq_true rfl, Nat.le_of_ble_eq_true rfl⟩ ⟨Nat.le_of_ble_eq_true rfl, Nat.le_of_ble_eq_true rfl⟩ rfl rfl (Nat.le_of_ble_eq_true rfl) dX7_throughputEstimate_1 (fun r u H locs hp Y => ?_)
  subst hp
  have e9 : (f_X7_throughputEstimate v) = (f_X7_estimate v) := rfl
  exact r_iret E Y hr hk (f_X7_estimate v) () (e9.symm) rfl ⟨Nat.le_of_ble_eq_true rfl, Nat.le_of_ble_eq_true rfl⟩ dX7_throughputEstimate_4

def f_X7_switchCount (v : Fn) : Int32 := (v (16))
set_option maxRecDepth 100000 in
set_option maxHeartbeats 4000000 in
theorem c_X7_switchCount {l : Launch} {D : va_G} {cI cB : ClassId} (qm mb ma me mr mn ms mk : Nat) (k : Cf) (v : Fn) (a : Fn) (y : Ky) : CI l X0 D cI cB yX7_switchCount cX7_switchCount 1 (some .int) 0 0 0 0 [.ref qm] (wM cI qm mb ma me mr mn ms mk k v a y) (fun (r : Int32) (_ : Unit) => r = (f_X7_switchCount v)) (fun _ => (wM cI qm mb ma me mr mn ms mk k v a y)) := by
  refine CI.of (by decide) (Nat.le_of_ble_eq_true rfl) ?_
  intro p e s m below meth c A ls E hr hk hin hA hAA hX Y hl
  have E : EE p c cX7_switchCount 1 s _ m RX7 D cI cB := E
  have hl : lv_has ls 1 [(0, .ref qm)] := hl
  refine lv_aload_n E.1.1 E.1.2.1 dX7_switchCount_0 rfl (lv_at hl 0 rfl) ?_
  refine gf_X7_47 E Y 0 rfl rfl dX7_switchCount_1 ?_
  refine lv_bipush (v := 16) E.1.1 E.1.2.1 dX7_switchCount_4 (by decide) ?_
  refine r_ial E Y 5 rfl (16) (by decide) (by unfold vp_in; decide) dX7_switchCount_6 ?_
  have e9 : (f_X7_switchCount v) = (v (16)) := rfl
  exact r_iret E Y hr hk (v (16)) () (e9.symm) rfl ⟨Nat.le_of_ble_eq_true rfl, Nat.le_of_ble_eq_true rfl⟩ dX7_switchCount_7

def f_X7_stallCount (v : Fn) : Int32 := (v (17))
set_option maxRecDepth 100000 in
set_option maxHeartbeats 4000000 in
theorem c_X7_stallCount {l : Launch} {D : va_G} {cI cB : ClassId} (qm mb ma me mr mn ms mk : Nat) (k : Cf) (v : Fn) (a : Fn) (y : Ky) : CI l X0 D cI cB yX7_stallCount cX7_stallCount 1 (some .int) 0 0 0 0 [.ref qm] (wM cI qm mb ma me mr mn ms mk k v a y) (fun (r : Int32) (_ : Unit) => r = (f_X7_stallCount v)) (fun _ => (wM cI qm mb ma me mr mn ms mk k v a y)) := by
  refine CI.of (by decide) (Nat.le_of_ble_eq_true rfl) ?_
  intro p e s m below meth c A ls E hr hk hin hA hAA hX Y hl
  have E : EE p c cX7_stallCount 1 s _ m RX7 D cI cB := E
  have hl : lv_has ls 1 [(0, .ref qm)] := hl
  refine lv_aload_n E.1.1 E.1.2.1 dX7_stallCount_0 rfl (lv_at hl 0 rfl) ?_
  refine gf_X7_47 E Y 0 rfl rfl dX7_stallCount_1 ?_
  refine lv_bipush (v := 17) E.1.1 E.1.2.1 dX7_stallCount_4 (by decide) ?_
  refine r_ial E Y 5 rfl (17) (by decide) (by unfold vp_in; decide) dX7_stallCount_6 ?_
  have e9 : (f_X7_stallCount v) = (v (17)) := rfl
  exact r_iret E Y hr hk (v (17)) () (e9.symm) rfl ⟨Nat.le_of_ble_eq_true rfl, Nat.le_of_ble_eq_true rfl⟩ dX7_stallCount_7

def f_X7_stallTime (v : Fn) : Int32 := (v (18))
set_option maxRecDepth 100000 in
set_option maxHeartbeats 4000000 in
theorem c_X7_stallTime {l : Launch} {D : va_G} {cI cB : ClassId} (qm mb ma me mr mn ms mk : Nat) (k : Cf) (v : Fn) (a : Fn) (y : Ky) : CI l X0 D cI cB yX7_stallTime cX7_stallTime 1 (some .int) 0 0 0 0 [.ref qm] (wM cI qm mb ma me mr mn ms mk k v a y) (fun (r : Int32) (_ : Unit) => r = (f_X7_stallTime v)) (fun _ => (wM cI qm mb ma me mr mn ms mk k v a y)) := by
  refine CI.of (by decide) (Nat.le_of_ble_eq_true rfl) ?_
  intro p e s m below meth c A ls E hr hk hin hA hAA hX Y hl
  have E : EE p c cX7_stallTime 1 s _ m RX7 D cI cB := E
  have hl : lv_has ls 1 [(0, .ref qm)] := hl
  refine lv_aload_n E.1.1 E.1.2.1 dX7_stallTime_0 rfl (lv_at hl 0 rfl) ?_
  refine gf_X7_47 E Y 0 rfl rfl dX7_stallTime_1 ?_
  refine lv_bipush (v := 18) E.1.1 E.1.2.1 dX7_stallTime_4 (by decide) ?_
  refine r_ial E Y 5 rfl (18) (by decide) (by unfold vp_in; decide) dX7_stallTime_6 ?_
  have e9 : (f_X7_stallTime v) = (v (18)) := rfl
  exact r_iret E Y hr hk (v (18)) () (e9.symm) rfl ⟨Nat.le_of_ble_eq_true rfl, Nat.le_of_ble_eq_true rfl⟩ dX7_stallTime_7

def f_X7_startupTime (v : Fn) : Int32 := (v (19))
set_option maxRecDepth 100000 in
set_option maxHeartbeats 4000000 in
theorem c_X7_startupTime {l : Launch} {D : va_G} {cI cB : ClassId} (qm mb ma me mr mn ms mk : Nat) (k : Cf) (v : Fn) (a : Fn) (y : Ky) : CI l X0 D cI cB yX7_startupTime cX7_startupTime 1 (some .int) 0 0 0 0 [.ref qm] (wM cI qm mb ma me mr mn ms mk k v a y) (fun (r : Int32) (_ : Unit) => r = (f_X7_startupTime v)) (fun _ => (wM cI qm mb ma me mr mn ms mk k v a y)) := by
  refine CI.of (by decide) (Nat.le_of_ble_eq_true rfl) ?_
  intro p e s m below meth c A ls E hr hk hin hA hAA hX Y hl
  have E : EE p c cX7_startupTime 1 s _ m RX7 D cI cB := E
  have hl : lv_has ls 1 [(0, .ref qm)] := hl
  refine lv_aload_n E.1.1 E.1.2.1 dX7_startupTime_0 rfl (lv_at hl 0 rfl) ?_
  refine gf_X7_47 E Y 0 rfl rfl dX7_startupTime_1 ?_
  refine lv_bipush (v := 19) E.1.1 E.1.2.1 dX7_startupTime_4 (by decide) ?_
  refine r_ial E Y 5 rfl (19) (by decide) (by unfold vp_in; decide) dX7_startupTime_6 ?_
  have e9 : (f_X7_startupTime v) = (v (19)) := rfl
  exact r_iret E Y hr hk (v (19)) () (e9.symm) rfl ⟨Nat.le_of_ble_eq_true rfl, Nat.le_of_ble_eq_true rfl⟩ dX7_startupTime_7

def f_X7_bitrateSum (v : Fn) : Int32 := (v (20))
set_option maxRecDepth 100000 in
set_option maxHeartbeats 4000000 in
theorem c_X7_bitrateSum {l : Launch} {D : va_G} {cI cB : ClassId} (qm mb ma me mr mn ms mk : Nat) (k : Cf) (v : Fn) (a : Fn) (y : Ky) : CI l X0 D cI cB yX7_bitrateSum cX7_bitrateSum 1 (some .int) 0 0 0 0 [.ref qm] (wM cI qm mb ma me mr mn ms mk k v a y) (fun (r : Int32) (_ : Unit) => r = (f_X7_bitrateSum v)) (fun _ => (wM cI qm mb ma me mr mn ms mk k v a y)) := by
  refine CI.of (by decide) (Nat.le_of_ble_eq_true rfl) ?_
  intro p e s m below meth c A ls E hr hk hin hA hAA hX Y hl
  have E : EE p c cX7_bitrateSum 1 s _ m RX7 D cI cB := E
  have hl : lv_has ls 1 [(0, .ref qm)] := hl
  refine lv_aload_n E.1.1 E.1.2.1 dX7_bitrateSum_0 rfl (lv_at hl 0 rfl) ?_
  refine gf_X7_47 E Y 0 rfl rfl dX7_bitrateSum_1 ?_
  refine lv_bipush (v := 20) E.1.1 E.1.2.1 dX7_bitrateSum_4 (by decide) ?_
  refine r_ial E Y 5 rfl (20) (by decide) (by unfold vp_in; decide) dX7_bitrateSum_6 ?_
  have e9 : (f_X7_bitrateSum v) = (v (20)) := rfl
  exact r_iret E Y hr hk (v (20)) () (e9.symm) rfl ⟨Nat.le_of_ble_eq_true rfl, Nat.le_of_ble_eq_true rfl⟩ dX7_bitrateSum_7

def f_X7_segmentLevel (k : Cf) (v : Fn) (p0 : Int32) : Int32 := if (f_X7_within p0 (0 : Int32) ((k.1 0) - (1 : Int32))) = 0 then (-2 : Int32) else (v (22 + p0.toNatClampNeg))
set_option maxRecDepth 100000 in
set_option maxHeartbeats 4000000 in
theorem c_X7_segmentLevel {l : Launch} {D : va_G} {cI cB : ClassId} (qm mb ma me mr mn ms mk : Nat) (k : Cf) (v : Fn) (a : Fn) (y : Ky) (p0 : Int32) (kO : KOK k) : CI l X0 D cI cB yX7_segmentLevel cX7_segmentLevel 2 (some .int) 1 22 0 0 [.ref qm, .int p0] (wM cI qm mb ma me mr mn ms mk k v a y) (fun (r : Int32) (_ : Unit) => r = (f_X7_segmentLevel k v p0)) (fun _ => (wM cI qm mb ma me mr mn ms mk k v a y)) := by
  refine CI.of (by decide) (Nat.le_of_ble_eq_true rfl) ?_
  intro p e s m below meth c A ls E hr hk hin hA hAA hX Y hl
  have E : EE p c cX7_segmentLevel 2 s _ m RX7 D cI cB := E
  have hl : lv_has ls 2 [(0, .ref qm), (1, .int p0)] := hl
  refine lv_iload_n E.1.1 E.1.2.1 dX7_segmentLevel_0 rfl (lv_at hl 1 rfl) ?_
  refine lv_iconst (v := 0) E.1.1 E.1.2.1 dX7_segmentLevel_1 (by decide) ?_
  refine lv_aload_n E.1.1 E.1.2.1 dX7_segmentLevel_2 rfl (lv_at hl 0 rfl) ?_
  refine gf_X7_7 E Y 0 rfl rfl dX7_segmentLevel_3 ?_
  refine lv_iconst (v := 1) E.1.1 E.1.2.1 dX7_segmentLevel_6 (by decide) ?_
  refine lv_isub E.1.1 E.1.2.1 dX7_segmentLevel_7 ?_
  refine r_Si (wr := [(qm, .inr (9, [.int (k.1 0), .int (k.1 1), .ref ma, .int (k.1 2), .ref mb, .int (k.1 3), .ref me, .ref mr, .int (k.1 4), .int (k.1 5), .int (k.1 6), .int (k.1 7), .int (k.1 8), .int (k.1 9), .int (k.1 10), .ref mn, .ref ms, .int (y.1 0), .ref mk, .int (y.1 1)])), (mb, .inl (cI, 5, .inl k.2.1)), (ma, .inl (cI, 30, .inl k.2.2.1)), (me, .inl (cI, 12, .inl k.2.2.2.1)), (mr, .inl (cI, 12, .inl k.2.2.2.2)), (mn, .inl (cI, 52, .inl v)), (ms, .inl (cI, 52, .inl a)), (mk, .inl (cI, 16, .inl y.2))]) (w2 := fun _ => [(qm, .inr (9, [.int (k.1 0), .int (k.1 1), .ref ma, .int (k.1 2), .ref mb, .int (k.1 3), .ref me, .ref mr, .int (k.1 4), .int (k.1 5), .int (k.1 6), .int (k.1 7), .int (k.1 8), .int (k.1 9), .int (k.1 10), .ref mn, .ref ms, .int (y.1 0), .ref mk, .int (y.1 1)])), (mb, .inl (cI, 5, .inl k.2.1)), (ma, .inl (cI, 30, .inl k.2.2.1)), (me, .inl (cI, 12, .inl k.2.2.2.1)), (mr, .inl (cI, 12, .inl k.2.2.2.2)), (mn, .inl (cI, 52, .inl v)), (ms, .inl (cI, 52, .inl a)), (mk, .inl (cI, 16, .inl y.2))]) E Y hA hl.1 (c_X7_within p0 (0 : Int32) ((k.1 0) - (1 : Int32))) lk_X7_59 X0b (fun _ _ _ => trivial) [] [0, 1, 2, 3, 4, 5, 6, 7] [0, 1, 2, 3, 4, 5, 6, 7] rfl rfl (by decide) (fun _ => rfl) ⟨Nat.le_of_ble_eq_true rfl, Nat.le_of_ble_eq_true rfl⟩ ⟨Nat.le_of_ble_eq_true rfl, Nat.le_of_ble_eq_true rfl⟩ rfl rfl (Nat.le_of_ble_eq_true rfl) dX7_segmentLevel_8 (fun r u H locs hp Y => ?_)
  subst hp
  refine lv_if_eq (tgt := 26) E.1.1 E.1.2.1 dX7_segmentLevel_11 (by decide) (fun c_11 => ?_) (fun c_11 => ?_)
  · skip
    refine lv_bipush (v := (-2)) E.1.1 E.1.2.1 dX7_segmentLevel_26 (by decide) ?_
    have e9 : (f_X7_segmentLevel k v p0) = (-2 : Int32) := (if_pos c_11).trans (rfl)
    exact r_iret E Y hr hk (-2 : Int32) () (e9.symm) rfl ⟨Nat.le_of_ble_eq_true rfl, Nat.le_of_ble_eq_true rfl⟩ dX7_segmentLevel_28
  · skip
    refine lv_aload_n E.1.1 E.1.2.1 dX7_segmentLevel_14 rfl (lv_at hl 0 rfl) ?_
    refine gf_X7_47 E Y 0 rfl rfl dX7_segmentLevel_15 ?_
    refine lv_bipush (v := 22) E.1.1 E.1.2.1 dX7_segmentLevel_18 (by decide) ?_
    refine lv_iload_n E.1.1 E.1.2.1 dX7_segmentLevel_20 rfl (lv_at hl 1 rfl) ?_
    refine lv_iadd E.1.1 E.1.2.1 dX7_segmentLevel_21 ?_
    refine r_ial E Y 5 rfl (22 + p0.toNatClampNeg) (sl_cl kO c_11) (sl_in kO c_11) dX7_segmentLevel_22 ?_
    refine lv_goto (tgt := 28) E.1.1 E.1.2.1 dX7_segmentLevel_23 (by decide) ?_
    have e9 : (f_X7_segmentLevel k v p0) = (v (22 + p0.toNatClampNeg)) := (if_neg c_11).trans (rfl)
    exact r_iret E Y hr hk (v (22 + p0.toNatClampNeg)) () (e9.symm) rfl ⟨Nat.le_of_ble_eq_true rfl, Nat.le_of_ble_eq_true rfl⟩ dX7_segmentLevel_28

def f_X7_segmentSize (k : Cf) (p0 : Int32) (p1 : Int32) : Int32 := if (f_X7_within p0 (0 : Int32) ((k.1 2) - (1 : Int32))) = 0 then (-2 : Int32) else (if (f_X7_within p1 (0 : Int32) ((k.1 0) - (1 : Int32))) = 0 then (-2 : Int32) else (f_X7_sizeOf k p0 p1))
set_option maxRecDepth 100000 in
set_option maxHeartbeats 4000000 in
theorem c_X7_segmentSize {l : Launch} {D : va_G} {cI cB : ClassId} (qm mb ma me mr mn ms mk : Nat) (k : Cf) (v : Fn) (a : Fn) (y : Ky) (p0 : Int32) (p1 : Int32) (kO : KOK k) : CI l X0 D cI cB yX7_segmentSize cX7_segmentSize 3 (some .int) 1 22 0 0 [.ref qm, .int p0, .int p1] (wM cI qm mb ma me mr mn ms mk k v a y) (fun (r : Int32) (_ : Unit) => r = (f_X7_segmentSize k p0 p1)) (fun _ => (wM cI qm mb ma me mr mn ms mk k v a y)) := by
  refine CI.of (by decide) (Nat.le_of_ble_eq_true rfl) ?_
  intro p e s m below meth c A ls E hr hk hin hA hAA hX Y hl
  have E : EE p c cX7_segmentSize 3 s _ m RX7 D cI cB := E
  have hl : lv_has ls 3 [(0, .ref qm), (1, .int p0), (2, .int p1)] := hl
  refine lv_iload_n E.1.1 E.1.2.1 dX7_segmentSize_0 rfl (lv_at hl 1 rfl) ?_
  refine lv_iconst (v := 0) E.1.1 E.1.2.1 dX7_segmentSize_1 (by decide) ?_
  refine lv_aload_n E.1.1 E.1.2.1 dX7_segmentSize_2 rfl (lv_at hl 0 rfl) ?_
  refine gf_X7_63 E Y 0 rfl rfl dX7_segmentSize_3 ?_
  refine lv_iconst (v := 1) E.1.1 E.1.2.1 dX7_segmentSize_6 (by decide) ?_
  refine lv_isub E.1.1 E.1.2.1 dX7_segmentSize_7 ?_
  refine r_Si (wr := [(qm, .inr (9, [.int (k.1 0), .int (k.1 1), .ref ma, .int (k.1 2), .ref mb, .int (k.1 3), .ref me, .ref mr, .int (k.1 4), .int (k.1 5), .int (k.1 6), .int (k.1 7), .int (k.1 8), .int (k.1 9), .int (k.1 10), .ref mn, .ref ms, .int (y.1 0), .ref mk, .int (y.1 1)])), (mb, .inl (cI, 5, .inl k.2.1)), (ma, .inl (cI, 30, .inl k.2.2.1)), (me, .inl (cI, 12, .inl k.2.2.2.1)), (mr, .inl (cI, 12, .inl k.2.2.2.2)), (mn, .inl (cI, 52, .inl v)), (ms, .inl (cI, 52, .inl a)), (mk, .inl (cI, 16, .inl y.2))]) (w2 := fun _ => [(qm, .inr (9, [.int (k.1 0), .int (k.1 1), .ref ma, .int (k.1 2), .ref mb, .int (k.1 3), .ref me, .ref mr, .int (k.1 4), .int (k.1 5), .int (k.1 6), .int (k.1 7), .int (k.1 8), .int (k.1 9), .int (k.1 10), .ref mn, .ref ms, .int (y.1 0), .ref mk, .int (y.1 1)])), (mb, .inl (cI, 5, .inl k.2.1)), (ma, .inl (cI, 30, .inl k.2.2.1)), (me, .inl (cI, 12, .inl k.2.2.2.1)), (mr, .inl (cI, 12, .inl k.2.2.2.2)), (mn, .inl (cI, 52, .inl v)), (ms, .inl (cI, 52, .inl a)), (mk, .inl (cI, 16, .inl y.2))]) E Y hA hl.1 (c_X7_within p0 (0 : Int32) ((k.1 2) - (1 : Int32))) lk_X7_59 X0b (fun _ _ _ => trivial) [] [0, 1, 2, 3, 4, 5, 6, 7] [0, 1, 2, 3, 4, 5, 6, 7] rfl rfl (by decide) (fun _ => rfl) ⟨Nat.le_of_ble_eq_true rfl, Nat.le_of_ble_eq_true rfl⟩ ⟨Nat.le_of_ble_eq_true rfl, Nat.le_of_ble_eq_true rfl⟩ rfl rfl (Nat.le_of_ble_eq_true rfl) dX7_segmentSize_8 (fun r u H locs hp Y => ?_)
  subst hp
  refine lv_if_eq (tgt := 37) E.1.1 E.1.2.1 dX7_segmentSize_11 (by decide) (fun c_11 => ?_) (fun c_11 => ?_)
  · skip
    refine lv_bipush (v := (-2)) E.1.1 E.1.2.1 dX7_segmentSize_37 (by decide) ?_
    have e9 : (f_X7_segmentSize k p0 p1) = (-2 : Int32) := (if_pos c_11).trans (rfl)
    exact r_iret E Y hr hk (-2 : Int32) () (e9.symm) rfl ⟨Nat.le_of_ble_eq_true rfl, Nat.le_of_ble_eq_true rfl⟩ dX7_segmentSize_39
  · skip
    refine lv_iload_n E.1.1 E.1.2.1 dX7_segmentSize_14 rfl (lv_at hl 2 rfl) ?_
    refine lv_iconst (v := 0) E.1.1 E.1.2.1 dX7_segmentSize_15 (by decide) ?_
    refine lv_aload_n E.1.1 E.1.2.1 dX7_segmentSize_16 rfl (lv_at hl 0 rfl) ?_
    refine gf_X7_7 E Y 0 rfl rfl dX7_segmentSize_17 ?_
    refine lv_iconst (v := 1) E.1.1 E.1.2.1 dX7_segmentSize_20 (by decide) ?_
    refine lv_isub E.1.1 E.1.2.1 dX7_segmentSize_21 ?_
    refine r_Si (wr := [(qm, .inr (9, [.int (k.1 0), .int (k.1 1), .ref ma, .int (k.1 2), .ref mb, .int (k.1 3), .ref me, .ref mr, .int (k.1 4), .int (k.1 5), .int (k.1 6), .int (k.1 7), .int (k.1 8), .int (k.1 9), .int (k.1 10), .ref mn, .ref ms, .int (y.1 0), .ref mk, .int (y.1 1)])), (mb, .inl (cI, 5, .inl k.2.1)), (ma, .inl (cI, 30, .inl k.2.2.1)), (me, .inl (cI, 12, .inl k.2.2.2.1)), (mr, .inl (cI, 12, .inl k.2.2.2.2)), (mn, .inl (cI, 52, .inl v)), (ms, .inl (cI, 52, .inl a)), (mk, .inl (cI, 16, .inl y.2))]) (w2 := fun _ => [(qm, .inr (9, [.int (k.1 0), .int (k.1 1), .ref ma, .int (k.1 2), .ref mb, .int (k.1 3), .ref me, .ref mr, .int (k.1 4), .int (k.1 5), .int (k.1 6), .int (k.1 7), .int (k.1 8), .int (k.1 9), .int (k.1 10), .ref mn, .ref ms, .int (y.1 0), .ref mk, .int (y.1 1)])), (mb, .inl (cI, 5, .inl k.2.1)), (ma, .inl (cI, 30, .inl k.2.2.1)), (me, .inl (cI, 12, .inl k.2.2.2.1)), (mr, .inl (cI, 12, .inl k.2.2.2.2)), (mn, .inl (cI, 52, .inl v)), (ms, .inl (cI, 52, .inl a)), (mk, .inl (cI, 16, .inl y.2))]) E Y hA hl.1 (c_X7_within p1 (0 : Int32) ((k.1 0) - (1 : Int32))) lk_X7_59 X0b (fun _ _ _ => trivial) [] [0, 1, 2, 3, 4, 5, 6, 7] [0, 1, 2, 3, 4, 5, 6, 7] rfl rfl (by decide) (fun _ => rfl) ⟨Nat.le_of_ble_eq_true rfl, Nat.le_of_ble_eq_true rfl⟩ ⟨Nat.le_of_ble_eq_true rfl, Nat.le_of_ble_eq_true rfl⟩ rfl rfl (Nat.le_of_ble_eq_true rfl) dX7_segmentSize_22 (fun r u H locs hp Y => ?_)
    subst hp
    refine lv_if_eq (tgt := 37) E.1.1 E.1.2.1 dX7_segmentSize_25 (by decide) (fun c_25 => ?_) (fun c_25 => ?_)
    · skip
      refine lv_bipush (v := (-2)) E.1.1 E.1.2.1 dX7_segmentSize_37 (by decide) ?_
      have e9 : (f_X7_segmentSize k p0 p1) = (-2 : Int32) := (if_neg c_11).trans ((if_pos c_25).trans (rfl))
      exact r_iret E Y hr hk (-2 : Int32) () (e9.symm) rfl ⟨Nat.le_of_ble_eq_true rfl, Nat.le_of_ble_eq_true rfl⟩ dX7_segmentSize_39
    · skip
      refine lv_aload_n E.1.1 E.1.2.1 dX7_segmentSize_28 rfl (lv_at hl 0 rfl) ?_
      refine lv_iload_n E.1.1 E.1.2.1 dX7_segmentSize_29 rfl (lv_at hl 1 rfl) ?_
      refine lv_iload_n E.1.1 E.1.2.1 dX7_segmentSize_30 rfl (lv_at hl 2 rfl) ?_
      refine r_Vi (wr := []) (w2 := fun _ => [(qm, .inr (9, [.int (k.1 0), .int (k.1 1), .ref ma, .int (k.1 2), .ref mb, .int (k.1 3), .ref me, .ref mr, .int (k.1 4), .int (k.1 5), .int (k.1 6), .int (k.1 7), .int (k.1 8), .int (k.1 9), .int (k.1 10), .ref mn, .ref ms, .int (y.1 0), .ref mk, .int (y.1 1)])), (mb, .inl (cI, 5, .inl k.2.1)), (ma, .inl (cI, 30, .inl k.2.2.1)), (me, .inl (cI, 12, .inl k.2.2.2.1)), (mr, .inl (cI, 12, .inl k.2.2.2.2)), (mn, .inl (cI, 52, .inl v)), (ms, .inl (cI, 52, .inl a)), (mk, .inl (cI, 16, .inl y.2))]) E Y hA hl.1 (c_X7_sizeOf qm mb ma me mr mn ms mk k v a y p0 p1 (in_with0 (by decide) kO.2.2.1 c_11) (in_with (by decide) kO.1 c_25)) lk_X7_145 X0b (fun _ _ _ => trivial) [0, 1, 2, 3, 4, 5, 6, 7] [] [0, 1, 2, 3, 4, 5, 6, 7] rfl rfl (by decide) (fun _ => rfl) 0 rfl rfl ⟨Nat.le_of_ble_eq_true rfl, Nat.le_of_ble_eq_true rfl⟩ ⟨Nat.le_of_ble_eq_true rfl, Nat.le_of_ble_eq_true rfl⟩ rfl rfl (Nat.le_of_ble_eq_true rfl) dX7_segmentSize_31 (fun r u H locs hp Y => ?_)
      subst hp
      refine lv_goto (tgt := 39) E.1.1 E.1.2.1 dX7_segmentSize_34 (by decide) ?_
      have e9 : (f_X7_segmentSize k p0 p1) = (f_X7_sizeOf k p0 p1) := (if_neg c_11).trans ((if_neg c_25).trans (rfl))
      exact r_iret E Y hr hk (f_X7_sizeOf k p0 p1) () (e9.symm) rfl ⟨Nat.le_of_ble_eq_true rfl, Nat.le_of_ble_eq_true rfl⟩ dX7_segmentSize_39
