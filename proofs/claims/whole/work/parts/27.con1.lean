def k00 : Cf := (fun _ => 0, fun _ => 0, fun _ => 0, fun _ => 0, fun _ => 0)
def g00 : Ss := (fun _ => 0, fun _ => 0, fun _ => 0)
def y00 : Ky := (fun _ => 0, fun _ => 0)
def fl (j : Nat) : Nat → Int32 := fun t => if t < j then 100 else 0
theorem fl_0 : fl 0 = fun _ => 0 := funext fun t => if_neg (Nat.not_lt_zero t)
theorem fl_s (j : Nat) : upd (fl j) j 100 = fl (j + 1) := by
  funext t
  unfold upd fl
  split
  · next h => rw [if_pos (by omega)]
  · next h =>
    rcases Nat.lt_or_ge t j with h1 | h1
    · rw [if_pos h1, if_pos (by omega)]
    · rw [if_neg (by omega), if_neg (by omega)]
def k66 : Cf := (fun i => match i with | 0 => (f_X5_replace k00 10 2000).1 0 | 1 => (f_X5_replace k00 10 2000).1 1 | 2 => (f_X5_replace k00 10 2000).1 2 | 4 => 20000 | 5 => 2000 | 6 => 80 | 7 => 4000 | 8 => 8000 | 10 => 4 | _ => 0, (f_X5_replace k00 10 2000).2.1, (f_X5_replace k00 10 2000).2.2.1, fun _ => 0, fun _ => 0)
def k77 : Cf := (fun i => match i with | 0 => 10 | 1 => 2000 | 4 => 20000 | 5 => 2000 | 6 => 80 | 7 => 4000 | 8 => 8000 | 10 => 4 | _ => 0, fun _ => 0, fl 30, fun _ => 0, fun _ => 0)

set_option maxRecDepth 100000 in
set_option maxHeartbeats 4000000 in
theorem c_X1_init {l : Launch} {D : va_G} {cI cB : ClassId} (q : Nat)  : CV (S := Unit) l X0 D cI cB yX1_init cX1_init 1 1 20 0 0 [.ref q] [(q, .inr (3, [.int (0 : Int32), .int (0 : Int32), .int (0 : Int32), .int (0 : Int32), .int (0 : Int32)]))] (fun (_ : Unit) => True) (fun _ => [(q, .inr (3, [.int (0 : Int32), .int (0 : Int32), .int (0 : Int32), .int (0 : Int32), .int (0 : Int32)]))]) := by
  refine CV.of (by decide) (Nat.le_of_ble_eq_true rfl) ?_
  intro p e s m below meth c A ls E hr hk hin hA hAA hX Y hl
  have E : EE p c cX1_init 1 s _ m RX1 D cI cB := E
  have hl : lv_has ls 1 [(0, .ref q)] := hl
  refine lv_aload_n E.1.1 E.1.2.1 dX1_init_0 rfl (lv_at hl 0 rfl) ?_
  refine r_objI E hl.1 mm_X1_1 ⟨Nat.le_of_ble_eq_true rfl, Nat.le_of_ble_eq_true rfl⟩ dX1_init_1 ?_
  exact r_vret E Y hr hk () (trivial) rfl ⟨Nat.le_of_ble_eq_true rfl, Nat.le_of_ble_eq_true rfl⟩ dX1_init_4

set_option maxRecDepth 100000 in
set_option maxHeartbeats 4000000 in
theorem c_X0_init {l : Launch} {D : va_G} {cI cB : ClassId} (q : Nat)  : CV (S := Nat × Nat) l X0 D cI cB yX0_init cX0_init 1 1 20 2 24 [.ref q] [(q, .inr (2, [.null, .null, .int (0 : Int32)]))] (fun (_ : Nat × Nat) => True) (fun u => [(q, .inr (2, [.ref u.1, .ref u.2, .int (0 : Int32)])), (u.1, .inl (cI, 12, .inl (fun _ => 0))), (u.2, .inl (cI, 12, .inl (fun _ => 0)))]) := by
  refine CV.of (by decide) (Nat.le_of_ble_eq_true rfl) ?_
  intro p e s m below meth c A ls E hr hk hin hA hAA hX Y hl
  have E : EE p c cX0_init 1 s _ m RX0 D cI cB := E
  have hl : lv_has ls 1 [(0, .ref q)] := hl
  refine lv_aload_n E.1.1 E.1.2.1 dX0_init_0 rfl (lv_at hl 0 rfl) ?_
  refine r_objI E hl.1 mm_X0_3 ⟨Nat.le_of_ble_eq_true rfl, Nat.le_of_ble_eq_true rfl⟩ dX0_init_1 ?_
  refine lv_aload_n E.1.1 E.1.2.1 dX0_init_4 rfl (lv_at hl 0 rfl) ?_
  refine lv_bipush (v := 12) E.1.1 E.1.2.1 dX0_init_5 (by decide) ?_
  refine r_newI E Y hA 12 rfl (by decide) (by decide) (by decide) ⟨Nat.le_of_ble_eq_true rfl, Nat.le_of_ble_eq_true rfl⟩ dX0_init_7 (fun qn1 H Y => ?_)
  have Y : WD D A s.heap H _ [(q, .inr (2, [.null, .null, .int (0 : Int32)])), (qn1, .inl (cI, 12, .inl (fun _ => 0)))] := Y
  refine pf_X0_9 (w' := [(q, .inr (2, [.ref qn1, .null, .int (0 : Int32)])), (qn1, .inl (cI, 12, .inl (fun _ => 0)))]) E Y hin 0 rfl (Nat.le_of_ble_eq_true rfl) rfl dX0_init_9 (fun H locs Y => ?_)
  refine lv_aload_n E.1.1 E.1.2.1 dX0_init_12 rfl (lv_at hl 0 rfl) ?_
  refine lv_bipush (v := 12) E.1.1 E.1.2.1 dX0_init_13 (by decide) ?_
  refine r_newI E Y hA 12 rfl (by decide) (by decide) (by decide) ⟨Nat.le_of_ble_eq_true rfl, Nat.le_of_ble_eq_true rfl⟩ dX0_init_15 (fun qn2 H Y => ?_)
  have Y : WD D A s.heap H _ [(q, .inr (2, [.ref qn1, .null, .int (0 : Int32)])), (qn1, .inl (cI, 12, .inl (fun _ => 0))), (qn2, .inl (cI, 12, .inl (fun _ => 0)))] := Y
  refine pf_X0_15 (w' := [(q, .inr (2, [.ref qn1, .ref qn2, .int (0 : Int32)])), (qn1, .inl (cI, 12, .inl (fun _ => 0))), (qn2, .inl (cI, 12, .inl (fun _ => 0)))]) E Y hin 0 rfl (Nat.le_of_ble_eq_true rfl) rfl dX0_init_17 (fun H locs Y => ?_)
  exact r_vret E Y hr hk (qn1, qn2) (trivial) rfl ⟨Nat.le_of_ble_eq_true rfl, Nat.le_of_ble_eq_true rfl⟩ dX0_init_20

set_option maxRecDepth 100000 in
set_option maxHeartbeats 4000000 in
theorem c_X3_init {l : Launch} {D : va_G} {cI cB : ClassId} (q : Nat)  : CV (S := Unit) l X0 D cI cB yX3_init cX3_init 1 1 20 0 0 [.ref q] [(q, .inr (5, [.int (0 : Int32), .int (0 : Int32), .int (0 : Int32), .int (0 : Int32), .int (0 : Int32)]))] (fun (_ : Unit) => True) (fun _ => [(q, .inr (5, [.int (20000 : Int32), .int (2000 : Int32), .int (80 : Int32), .int (4000 : Int32), .int (8000 : Int32)]))]) := by
  refine CV.of (by decide) (Nat.le_of_ble_eq_true rfl) ?_
  intro p e s m below meth c A ls E hr hk hin hA hAA hX Y hl
  have E : EE p c cX3_init 1 s _ m RX3 D cI cB := E
  have hl : lv_has ls 1 [(0, .ref q)] := hl
  refine lv_aload_n E.1.1 E.1.2.1 dX3_init_0 rfl (lv_at hl 0 rfl) ?_
  refine r_objI E hl.1 mm_X3_1 ⟨Nat.le_of_ble_eq_true rfl, Nat.le_of_ble_eq_true rfl⟩ dX3_init_1 ?_
  refine lv_aload_n E.1.1 E.1.2.1 dX3_init_4 rfl (lv_at hl 0 rfl) ?_
  refine lv_sipush (v := 20000) E.1.1 E.1.2.1 dX3_init_5 (by decide) ?_
  refine pf_X3_7 (w' := [(q, .inr (5, [.int (20000 : Int32), .int (0 : Int32), .int (0 : Int32), .int (0 : Int32), .int (0 : Int32)]))]) E Y 0 rfl (Nat.le_of_ble_eq_true rfl) rfl dX3_init_8 (fun H locs Y => ?_)
  refine lv_aload_n E.1.1 E.1.2.1 dX3_init_11 rfl (lv_at hl 0 rfl) ?_
  refine lv_sipush (v := 2000) E.1.1 E.1.2.1 dX3_init_12 (by decide) ?_
  refine pf_X3_13 (w' := [(q, .inr (5, [.int (20000 : Int32), .int (2000 : Int32), .int (0 : Int32), .int (0 : Int32), .int (0 : Int32)]))]) E Y 0 rfl (Nat.le_of_ble_eq_true rfl) rfl dX3_init_15 (fun H locs Y => ?_)
  refine lv_aload_n E.1.1 E.1.2.1 dX3_init_18 rfl (lv_at hl 0 rfl) ?_
  refine lv_bipush (v := 80) E.1.1 E.1.2.1 dX3_init_19 (by decide) ?_
  refine pf_X3_16 (w' := [(q, .inr (5, [.int (20000 : Int32), .int (2000 : Int32), .int (80 : Int32), .int (0 : Int32), .int (0 : Int32)]))]) E Y 0 rfl (Nat.le_of_ble_eq_true rfl) rfl dX3_init_21 (fun H locs Y => ?_)
  refine lv_aload_n E.1.1 E.1.2.1 dX3_init_24 rfl (lv_at hl 0 rfl) ?_
  refine lv_sipush (v := 4000) E.1.1 E.1.2.1 dX3_init_25 (by decide) ?_
  refine pf_X3_19 (w' := [(q, .inr (5, [.int (20000 : Int32), .int (2000 : Int32), .int (80 : Int32), .int (4000 : Int32), .int (0 : Int32)]))]) E Y 0 rfl (Nat.le_of_ble_eq_true rfl) rfl dX3_init_28 (fun H locs Y => ?_)
  refine lv_aload_n E.1.1 E.1.2.1 dX3_init_31 rfl (lv_at hl 0 rfl) ?_
  refine lv_sipush (v := 8000) E.1.1 E.1.2.1 dX3_init_32 (by decide) ?_
  refine pf_X3_22 (w' := [(q, .inr (5, [.int (20000 : Int32), .int (2000 : Int32), .int (80 : Int32), .int (4000 : Int32), .int (8000 : Int32)]))]) E Y 0 rfl (Nat.le_of_ble_eq_true rfl) rfl dX3_init_35 (fun H locs Y => ?_)
  exact r_vret E Y hr hk () (trivial) rfl ⟨Nat.le_of_ble_eq_true rfl, Nat.le_of_ble_eq_true rfl⟩ dX3_init_38

set_option maxRecDepth 100000 in
set_option maxHeartbeats 4000000 in
theorem c_X4_init {l : Launch} {D : va_G} {cI cB : ClassId} (q : Nat)  : CV (S := Nat) l X0 D cI cB yX4_init cX4_init 1 1 20 1 3 [.ref q] [(q, .inr (6, [.null, .int (0 : Int32)]))] (fun (_ : Nat) => True) (fun u => [(q, .inr (6, [.ref u, .int (0 : Int32)])), (u, .inl (cI, 3, .inl (fun _ => 0)))]) := by
  refine CV.of (by decide) (Nat.le_of_ble_eq_true rfl) ?_
  intro p e s m below meth c A ls E hr hk hin hA hAA hX Y hl
  have E : EE p c cX4_init 1 s _ m RX4 D cI cB := E
  have hl : lv_has ls 1 [(0, .ref q)] := hl
  refine lv_aload_n E.1.1 E.1.2.1 dX4_init_0 rfl (lv_at hl 0 rfl) ?_
  refine r_objI E hl.1 mm_X4_3 ⟨Nat.le_of_ble_eq_true rfl, Nat.le_of_ble_eq_true rfl⟩ dX4_init_1 ?_
  refine lv_aload_n E.1.1 E.1.2.1 dX4_init_4 rfl (lv_at hl 0 rfl) ?_
  refine lv_iconst (v := 3) E.1.1 E.1.2.1 dX4_init_5 (by decide) ?_
  refine r_newI E Y hA 3 rfl (by decide) (by decide) (by decide) ⟨Nat.le_of_ble_eq_true rfl, Nat.le_of_ble_eq_true rfl⟩ dX4_init_6 (fun qn1 H Y => ?_)
  have Y : WD D A s.heap H _ [(q, .inr (6, [.null, .int (0 : Int32)])), (qn1, .inl (cI, 3, .inl (fun _ => 0)))] := Y
  refine pf_X4_9 (w' := [(q, .inr (6, [.ref qn1, .int (0 : Int32)])), (qn1, .inl (cI, 3, .inl (fun _ => 0)))]) E Y hin 0 rfl (Nat.le_of_ble_eq_true rfl) rfl dX4_init_8 (fun H locs Y => ?_)
  exact r_vret E Y hr hk qn1 (trivial) rfl ⟨Nat.le_of_ble_eq_true rfl, Nat.le_of_ble_eq_true rfl⟩ dX4_init_11

set_option maxRecDepth 100000 in
set_option maxHeartbeats 4000000 in
theorem c_X5_init {l : Launch} {D : va_G} {cI cB : ClassId} (q : Nat)  : CV (S := Nat × Nat) l X0 D cI cB yX5_init cX5_init 1 1 23 2 35 [.ref q] [(q, .inr (7, [.null, .null, .int (0 : Int32), .int (0 : Int32), .int (0 : Int32)]))] (fun (_ : Nat × Nat) => True) (fun u => [(q, .inr (7, [.ref u.1, .ref u.2, .int ((f_X5_replace k00 (10 : Int32) (2000 : Int32)).1 0), .int ((f_X5_replace k00 (10 : Int32) (2000 : Int32)).1 1), .int ((f_X5_replace k00 (10 : Int32) (2000 : Int32)).1 2)])), (u.1, .inl (cI, 5, .inl ((f_X5_replace k00 (10 : Int32) (2000 : Int32)).2.1))), (u.2, .inl (cI, 30, .inl ((f_X5_replace k00 (10 : Int32) (2000 : Int32)).2.2.1)))]) := by
  refine CV.of (by decide) (Nat.le_of_ble_eq_true rfl) ?_
  intro p e s m below meth c A ls E hr hk hin hA hAA hX Y hl
  have E : EE p c cX5_init 1 s _ m RX5 D cI cB := E
  have hl : lv_has ls 1 [(0, .ref q)] := hl
  refine lv_aload_n E.1.1 E.1.2.1 dX5_init_0 rfl (lv_at hl 0 rfl) ?_
  refine r_objI E hl.1 mm_X5_3 ⟨Nat.le_of_ble_eq_true rfl, Nat.le_of_ble_eq_true rfl⟩ dX5_init_1 ?_
  refine lv_aload_n E.1.1 E.1.2.1 dX5_init_4 rfl (lv_at hl 0 rfl) ?_
  refine lv_iconst (v := 5) E.1.1 E.1.2.1 dX5_init_5 (by decide) ?_
  refine r_newI E Y hA 5 rfl (by decide) (by decide) (by decide) ⟨Nat.le_of_ble_eq_true rfl, Nat.le_of_ble_eq_true rfl⟩ dX5_init_6 (fun qn1 H Y => ?_)
  have Y : WD D A s.heap H _ [(q, .inr (7, [.null, .null, .int (0 : Int32), .int (0 : Int32), .int (0 : Int32)])), (qn1, .inl (cI, 5, .inl (fun _ => 0)))] := Y
  refine pf_X5_9 (w' := [(q, .inr (7, [.ref qn1, .null, .int (0 : Int32), .int (0 : Int32), .int (0 : Int32)])), (qn1, .inl (cI, 5, .inl (fun _ => 0)))]) E Y hin 0 rfl (Nat.le_of_ble_eq_true rfl) rfl dX5_init_8 (fun H locs Y => ?_)
  refine lv_aload_n E.1.1 E.1.2.1 dX5_init_11 rfl (lv_at hl 0 rfl) ?_
  refine lv_bipush (v := 30) E.1.1 E.1.2.1 dX5_init_12 (by decide) ?_
  refine r_newI E Y hA 30 rfl (by decide) (by decide) (by decide) ⟨Nat.le_of_ble_eq_true rfl, Nat.le_of_ble_eq_true rfl⟩ dX5_init_14 (fun qn2 H Y => ?_)
  have Y : WD D A s.heap H _ [(q, .inr (7, [.ref qn1, .null, .int (0 : Int32), .int (0 : Int32), .int (0 : Int32)])), (qn1, .inl (cI, 5, .inl (fun _ => 0))), (qn2, .inl (cI, 30, .inl (fun _ => 0)))] := Y
  refine pf_X5_15 (w' := [(q, .inr (7, [.ref qn1, .ref qn2, .int (0 : Int32), .int (0 : Int32), .int (0 : Int32)])), (qn1, .inl (cI, 5, .inl (fun _ => 0))), (qn2, .inl (cI, 30, .inl (fun _ => 0)))]) E Y hin 0 rfl (Nat.le_of_ble_eq_true rfl) rfl dX5_init_16 (fun H locs Y => ?_)
  refine lv_aload_n E.1.1 E.1.2.1 dX5_init_19 rfl (lv_at hl 0 rfl) ?_
  refine lv_bipush (v := 10) E.1.1 E.1.2.1 dX5_init_20 (by decide) ?_
  refine lv_sipush (v := 2000) E.1.1 E.1.2.1 dX5_init_22 (by decide) ?_
  refine g_v (wr := []) (w2 := fun u => [(q, .inr (7, [.ref qn1, .ref qn2, .int (u.1 0), .int (u.1 1), .int (u.1 2)])), (qn1, .inl (cI, 5, .inl u.2.1)), (qn2, .inl (cI, 30, .inl u.2.2.1))]) (run_V E ((c_X5_replace q qn1 qn2 k00 (10 : Int32) (2000 : Int32)) _) lk_X5_18 X0b (pre_of E Y [0, 1, 2] rfl (by decide) (fun _ _ _ => trivial)) (va_recv (ci := 7) (q0 := 0) E.2 Y.1 rfl rfl) hl.1 ⟨Nat.le_of_ble_eq_true rfl, Nat.le_of_ble_eq_true rfl⟩ ⟨Nat.le_of_ble_eq_true rfl, Nat.le_of_ble_eq_true rfl⟩ rfl rfl (Nat.le_of_ble_eq_true rfl) dX5_init_25) Y hA [0, 1, 2] [] [0, 1, 2] rfl rfl (by decide) (fun _ => rfl) (fun u H locs hp Y => ?_)
  subst hp
  exact r_vret E Y hr hk (qn1, qn2) (trivial) rfl ⟨Nat.le_of_ble_eq_true rfl, Nat.le_of_ble_eq_true rfl⟩ dX5_init_28
