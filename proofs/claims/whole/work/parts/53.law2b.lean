set_option maxRecDepth 100000 in
set_option maxHeartbeats 4000000 in
theorem lc_9 {p : Program} {l : Launch} {e : Env} {s : State} {m : MethodId} {below : List Frame} {meth : Method} {c : Code} {H : Heap} {locs : List Loc} {cells slots : Nat} {Q : State → Prop} {D : va_G} {cI cB : ClassId} {ad ab : Nat → Nat} {sb L : Nat} {xs : Nat → Int32} {a b : Nat → Nat} {k : Cf} {g h : Ss} {x : Tx} {v w : Fn} {y : Ky} {ls : Array Slot} {N : Nat} (C : LX p s m meth c D cI cB ad ab sb L xs) (hN : N < 512) (hi : 4 * N + 4 ≤ L) (hL : L ≤ 2048) (I : INV k g v x y N) (Y : WD D (fun q : Nat => s.heap.size ≤ q) s.heap H locs (wW cI cB a b k g h x k v w y)) (hl : lv_has ls 4 [(0, .ref sb), (1, .ref (a 0)), (2, .ref (b 0)), (3, .int (nI (4 * N)))]) (hc : cells + 6 ≤ 600000 ∧ slots + 60 ≤ 7302250)
    (kk : ∀ (k' : Cf) (g h : Ss) (x : Tx) (k : Cf) (v w : Fn) (y : Ky) (H : Heap) (locs : List Loc), k' = k → INV k g v x y (N + 1) → WD D (fun q : Nat => s.heap.size ≤ q) s.heap H locs (wW cI cB a b k' g h x k v w y) → W p l e room_1 s m #[Value.ref sb] below meth c H locs (cells + 6) (slots + 60) Q (F0 m 697 ls [])) : W p l e room_1 s m #[Value.ref sb] below meth c H locs cells slots Q (F0 m 403 ls []) := by
  obtain ⟨E, hr, hk, hX, hbl, hZ⟩ := C
  have hbA : ¬ (fun q : Nat => s.heap.size ≤ q) sb := Nat.not_le.mpr hbl
  refine lv_aload_n E.1.1 E.1.2.1 dL_law_403 rfl (lv_at hl 1 rfl) ?_
  refine lv_aload_n E.1.1 E.1.2.1 dL_law_404 rfl (lv_at hl 0 rfl) ?_
  refine lv_iload_n E.1.1 E.1.2.1 dL_law_405 rfl (lv_at hl 3 rfl) ?_
  refine lv_iconst (v := 1) E.1.1 E.1.2.1 dL_law_406 (by decide) ?_
  refine lv_iadd E.1.1 E.1.2.1 dL_law_407 ?_
  refine lv_cst (v := nI (4 * N + 1)) (nI_add (4 * N) 1) ?_
  refine va_sld E.1.1 E.1.2.1 hX hbl hbA Y.2.2 (vp_in_nI (by omega) (by omega)) dL_law_408 ?_
  refine r_6 (S := Ss) (fun _ => k) (fun u => u) (fun _ => h) (fun _ => x) (As := [.int (xs (nI (4 * N + 1)).toNatClampNeg)]) (rest := []) E Y hl.1 (c_X6_advance (a 0) (a 1) (a 2) (a 3) (a 4) (a 5) (a 6) (a 7) (a 8) (a 9) (a 10) (a 11) (a 12) (a 13) (a 14) (a 15) (a 16) (a 17) (a 18) (a 19) k g h x (xs (nI (4 * N + 1)).toNatClampNeg)) lk_L_53 X0b (fun _ _ _ => trivial) ⟨Nat.le_of_ble_eq_true rfl, Nat.le_of_ble_eq_true rfl⟩ ⟨(show cells + 0 ≤ 600000 by omega), (show slots + 0 ≤ 7302250 by omega)⟩ rfl rfl (Nat.le_of_ble_eq_true rfl) dL_law_409 (fun ra ua H locs hpa Y => ?_)
  refine lv_aload_n E.1.1 E.1.2.1 dL_law_412 rfl (lv_at hl 2 rfl) ?_
  refine lv_aload_n E.1.1 E.1.2.1 dL_law_413 rfl (lv_at hl 0 rfl) ?_
  refine lv_iload_n E.1.1 E.1.2.1 dL_law_414 rfl (lv_at hl 3 rfl) ?_
  refine lv_iconst (v := 1) E.1.1 E.1.2.1 dL_law_415 (by decide) ?_
  refine lv_iadd E.1.1 E.1.2.1 dL_law_416 ?_
  refine lv_cst (v := nI (4 * N + 1)) (nI_add (4 * N) 1) ?_
  refine va_sld E.1.1 E.1.2.1 hX hbl hbA Y.2.2 (vp_in_nI (by omega) (by omega)) dL_law_417 ?_
  have tO : ∃ t : Nat, t ≤ 900000000 ∧ NI k v t := by obtain ⟨t, t1, t2⟩ := I.2.2.2.1; exact ⟨t, by omega, t2⟩
  refine r_7 (S := Fn) (fun _ => k) (fun u => u) (fun _ => w) (fun _ => y) (As := [.int (xs (nI (4 * N + 1)).toNatClampNeg)]) (rest := [.int ra]) E Y hl.1 (c_X7_advance (b 0) (b 1) (b 2) (b 3) (b 4) (b 5) (b 6) (b 7) k v w y (xs (nI (4 * N + 1)).toNatClampNeg) I.1 tO) lk_L_56 X0b (fun _ _ _ => trivial) ⟨Nat.le_of_ble_eq_true rfl, Nat.le_of_ble_eq_true rfl⟩ ⟨(show cells + 0 + 0 ≤ 600000 by omega), (show slots + 0 + 0 ≤ 7302250 by omega)⟩ rfl rfl (Nat.le_of_ble_eq_true rfl) dL_law_418 (fun rb ub H locs hpb Y => ?_)
  obtain ⟨rfl, rfl⟩ := hpa
  obtain ⟨rfl, rfl⟩ := hpb
  obtain ⟨i1, i3⟩ := i_advance (p := (xs (nI (4 * N + 1)).toNatClampNeg)) I hN
  refine lv_icmp_eq (tgt := 697) E.1.1 E.1.2.1 dL_law_421 (by decide) (fun _ => ?_) (fun z => absurd i1 z)
  refine W.widen (k := cells + 6) (n := slots + 60) (by omega) (by omega) ?_
  exact kk _ _ _ _ _ _ _ _ _ _ rfl i3 Y
set_option maxRecDepth 100000 in
set_option maxHeartbeats 4000000 in
theorem lc_10 {p : Program} {l : Launch} {e : Env} {s : State} {m : MethodId} {below : List Frame} {meth : Method} {c : Code} {H : Heap} {locs : List Loc} {cells slots : Nat} {Q : State → Prop} {D : va_G} {cI cB : ClassId} {ad ab : Nat → Nat} {sb L : Nat} {xs : Nat → Int32} {a b : Nat → Nat} {k : Cf} {g h : Ss} {x : Tx} {v w : Fn} {y : Ky} {ls : Array Slot} {N : Nat} (C : LX p s m meth c D cI cB ad ab sb L xs) (hN : N < 512) (hi : 4 * N + 4 ≤ L) (hL : L ≤ 2048) (I : INV k g v x y N) (Y : WD D (fun q : Nat => s.heap.size ≤ q) s.heap H locs (wW cI cB a b k g h x k v w y)) (hl : lv_has ls 4 [(0, .ref sb), (1, .ref (a 0)), (2, .ref (b 0)), (3, .int (nI (4 * N)))]) (hc : cells + 6 ≤ 600000 ∧ slots + 60 ≤ 7302250)
    (kk : ∀ (k' : Cf) (g h : Ss) (x : Tx) (k : Cf) (v w : Fn) (y : Ky) (H : Heap) (locs : List Loc), k' = k → INV k g v x y (N + 1) → WD D (fun q : Nat => s.heap.size ≤ q) s.heap H locs (wW cI cB a b k' g h x k v w y) → W p l e room_1 s m #[Value.ref sb] below meth c H locs (cells + 6) (slots + 60) Q (F0 m 697 ls [])) : W p l e room_1 s m #[Value.ref sb] below meth c H locs cells slots Q (F0 m 426 ls []) := by
  obtain ⟨E, hr, hk, hX, hbl, hZ⟩ := C
  have hbA : ¬ (fun q : Nat => s.heap.size ≤ q) sb := Nat.not_le.mpr hbl
  refine lv_aload_n E.1.1 E.1.2.1 dL_law_426 rfl (lv_at hl 1 rfl) ?_
  refine r_6 (S := Unit) (fun _ => k) (fun _ => g) (fun _ => h) (fun _ => x) (As := []) (rest := []) E Y hl.1 (c_X6_time (a 0) (a 1) (a 2) (a 3) (a 4) (a 5) (a 6) (a 7) (a 8) (a 9) (a 10) (a 11) (a 12) (a 13) (a 14) (a 15) (a 16) (a 17) (a 18) (a 19) k g h x) lk_L_57 X0b (fun _ _ _ => trivial) ⟨Nat.le_of_ble_eq_true rfl, Nat.le_of_ble_eq_true rfl⟩ ⟨(show cells + 0 ≤ 600000 by omega), (show slots + 0 ≤ 7302250 by omega)⟩ rfl rfl (Nat.le_of_ble_eq_true rfl) dL_law_427 (fun ra ua H locs hpa Y => ?_)
  refine lv_aload_n E.1.1 E.1.2.1 dL_law_430 rfl (lv_at hl 2 rfl) ?_
  refine r_7 (S := Unit) (fun _ => k) (fun _ => v) (fun _ => w) (fun _ => y) (As := []) (rest := [.int ra]) E Y hl.1 (c_X7_time (b 0) (b 1) (b 2) (b 3) (b 4) (b 5) (b 6) (b 7) k v w y) lk_L_60 X0b (fun _ _ _ => trivial) ⟨Nat.le_of_ble_eq_true rfl, Nat.le_of_ble_eq_true rfl⟩ ⟨(show cells + 0 + 0 ≤ 600000 by omega), (show slots + 0 + 0 ≤ 7302250 by omega)⟩ rfl rfl (Nat.le_of_ble_eq_true rfl) dL_law_431 (fun rb ub H locs hpb Y => ?_)
  subst hpa
  subst hpb
  have i1 := i_time  I
  refine lv_icmp_eq (tgt := 697) E.1.1 E.1.2.1 dL_law_434 (by decide) (fun _ => ?_) (fun z => absurd i1 z)
  refine W.widen (k := cells + 6) (n := slots + 60) (by omega) (by omega) ?_
  exact kk _ _ _ _ _ _ _ _ _ _ rfl I.up Y
set_option maxRecDepth 100000 in
set_option maxHeartbeats 4000000 in
theorem lc_11 {p : Program} {l : Launch} {e : Env} {s : State} {m : MethodId} {below : List Frame} {meth : Method} {c : Code} {H : Heap} {locs : List Loc} {cells slots : Nat} {Q : State → Prop} {D : va_G} {cI cB : ClassId} {ad ab : Nat → Nat} {sb L : Nat} {xs : Nat → Int32} {a b : Nat → Nat} {k : Cf} {g h : Ss} {x : Tx} {v w : Fn} {y : Ky} {ls : Array Slot} {N : Nat} (C : LX p s m meth c D cI cB ad ab sb L xs) (hN : N < 512) (hi : 4 * N + 4 ≤ L) (hL : L ≤ 2048) (I : INV k g v x y N) (Y : WD D (fun q : Nat => s.heap.size ≤ q) s.heap H locs (wW cI cB a b k g h x k v w y)) (hl : lv_has ls 4 [(0, .ref sb), (1, .ref (a 0)), (2, .ref (b 0)), (3, .int (nI (4 * N)))]) (hc : cells + 6 ≤ 600000 ∧ slots + 60 ≤ 7302250)
    (kk : ∀ (k' : Cf) (g h : Ss) (x : Tx) (k : Cf) (v w : Fn) (y : Ky) (H : Heap) (locs : List Loc), k' = k → INV k g v x y (N + 1) → WD D (fun q : Nat => s.heap.size ≤ q) s.heap H locs (wW cI cB a b k' g h x k v w y) → W p l e room_1 s m #[Value.ref sb] below meth c H locs (cells + 6) (slots + 60) Q (F0 m 697 ls [])) : W p l e room_1 s m #[Value.ref sb] below meth c H locs cells slots Q (F0 m 439 ls []) := by
  obtain ⟨E, hr, hk, hX, hbl, hZ⟩ := C
  have hbA : ¬ (fun q : Nat => s.heap.size ≤ q) sb := Nat.not_le.mpr hbl
  refine lv_aload_n E.1.1 E.1.2.1 dL_law_439 rfl (lv_at hl 1 rfl) ?_
  refine r_6 (S := Unit) (fun _ => k) (fun _ => g) (fun _ => h) (fun _ => x) (As := []) (rest := []) E Y hl.1 (c_X6_position (a 0) (a 1) (a 2) (a 3) (a 4) (a 5) (a 6) (a 7) (a 8) (a 9) (a 10) (a 11) (a 12) (a 13) (a 14) (a 15) (a 16) (a 17) (a 18) (a 19) k g h x) lk_L_61 X0b (fun _ _ _ => trivial) ⟨Nat.le_of_ble_eq_true rfl, Nat.le_of_ble_eq_true rfl⟩ ⟨(show cells + 0 ≤ 600000 by omega), (show slots + 0 ≤ 7302250 by omega)⟩ rfl rfl (Nat.le_of_ble_eq_true rfl) dL_law_440 (fun ra ua H locs hpa Y => ?_)
  refine lv_aload_n E.1.1 E.1.2.1 dL_law_443 rfl (lv_at hl 2 rfl) ?_
  refine r_7 (S := Unit) (fun _ => k) (fun _ => v) (fun _ => w) (fun _ => y) (As := []) (rest := [.int ra]) E Y hl.1 (c_X7_position (b 0) (b 1) (b 2) (b 3) (b 4) (b 5) (b 6) (b 7) k v w y) lk_L_64 X0b (fun _ _ _ => trivial) ⟨Nat.le_of_ble_eq_true rfl, Nat.le_of_ble_eq_true rfl⟩ ⟨(show cells + 0 + 0 ≤ 600000 by omega), (show slots + 0 + 0 ≤ 7302250 by omega)⟩ rfl rfl (Nat.le_of_ble_eq_true rfl) dL_law_444 (fun rb ub H locs hpb Y => ?_)
  subst hpa
  subst hpb
  have i1 := i_position  I
  refine lv_icmp_eq (tgt := 697) E.1.1 E.1.2.1 dL_law_447 (by decide) (fun _ => ?_) (fun z => absurd i1 z)
  refine W.widen (k := cells + 6) (n := slots + 60) (by omega) (by omega) ?_
  exact kk _ _ _ _ _ _ _ _ _ _ rfl I.up Y
set_option maxRecDepth 100000 in
set_option maxHeartbeats 4000000 in
theorem lc_12 {p : Program} {l : Launch} {e : Env} {s : State} {m : MethodId} {below : List Frame} {meth : Method} {c : Code} {H : Heap} {locs : List Loc} {cells slots : Nat} {Q : State → Prop} {D : va_G} {cI cB : ClassId} {ad ab : Nat → Nat} {sb L : Nat} {xs : Nat → Int32} {a b : Nat → Nat} {k : Cf} {g h : Ss} {x : Tx} {v w : Fn} {y : Ky} {ls : Array Slot} {N : Nat} (C : LX p s m meth c D cI cB ad ab sb L xs) (hN : N < 512) (hi : 4 * N + 4 ≤ L) (hL : L ≤ 2048) (I : INV k g v x y N) (Y : WD D (fun q : Nat => s.heap.size ≤ q) s.heap H locs (wW cI cB a b k g h x k v w y)) (hl : lv_has ls 4 [(0, .ref sb), (1, .ref (a 0)), (2, .ref (b 0)), (3, .int (nI (4 * N)))]) (hc : cells + 6 ≤ 600000 ∧ slots + 60 ≤ 7302250)
    (kk : ∀ (k' : Cf) (g h : Ss) (x : Tx) (k : Cf) (v w : Fn) (y : Ky) (H : Heap) (locs : List Loc), k' = k → INV k g v x y (N + 1) → WD D (fun q : Nat => s.heap.size ≤ q) s.heap H locs (wW cI cB a b k' g h x k v w y) → W p l e room_1 s m #[Value.ref sb] below meth c H locs (cells + 6) (slots + 60) Q (F0 m 697 ls [])) : W p l e room_1 s m #[Value.ref sb] below meth c H locs cells slots Q (F0 m 452 ls []) := by
  obtain ⟨E, hr, hk, hX, hbl, hZ⟩ := C
  have hbA : ¬ (fun q : Nat => s.heap.size ≤ q) sb := Nat.not_le.mpr hbl
  refine lv_aload_n E.1.1 E.1.2.1 dL_law_452 rfl (lv_at hl 1 rfl) ?_
  refine r_6 (S := Unit) (fun _ => k) (fun _ => g) (fun _ => h) (fun _ => x) (As := []) (rest := []) E Y hl.1 (c_X6_bufferLevel (a 0) (a 1) (a 2) (a 3) (a 4) (a 5) (a 6) (a 7) (a 8) (a 9) (a 10) (a 11) (a 12) (a 13) (a 14) (a 15) (a 16) (a 17) (a 18) (a 19) k g h x) lk_L_65 X0b (fun _ _ _ => trivial) ⟨Nat.le_of_ble_eq_true rfl, Nat.le_of_ble_eq_true rfl⟩ ⟨(show cells + 0 ≤ 600000 by omega), (show slots + 0 ≤ 7302250 by omega)⟩ rfl rfl (Nat.le_of_ble_eq_true rfl) dL_law_453 (fun ra ua H locs hpa Y => ?_)
  refine lv_aload_n E.1.1 E.1.2.1 dL_law_456 rfl (lv_at hl 2 rfl) ?_
  refine r_7 (S := Unit) (fun _ => k) (fun _ => v) (fun _ => w) (fun _ => y) (As := []) (rest := [.int ra]) E Y hl.1 (c_X7_bufferLevel (b 0) (b 1) (b 2) (b 3) (b 4) (b 5) (b 6) (b 7) k v w y) lk_L_68 X0b (fun _ _ _ => trivial) ⟨Nat.le_of_ble_eq_true rfl, Nat.le_of_ble_eq_true rfl⟩ ⟨(show cells + 0 + 0 ≤ 600000 by omega), (show slots + 0 + 0 ≤ 7302250 by omega)⟩ rfl rfl (Nat.le_of_ble_eq_true rfl) dL_law_457 (fun rb ub H locs hpb Y => ?_)
  subst hpa
  subst hpb
  have i1 := i_bufferLevel  I
  refine lv_icmp_eq (tgt := 697) E.1.1 E.1.2.1 dL_law_460 (by decide) (fun _ => ?_) (fun z => absurd i1 z)
  refine W.widen (k := cells + 6) (n := slots + 60) (by omega) (by omega) ?_
  exact kk _ _ _ _ _ _ _ _ _ _ rfl I.up Y
set_option maxRecDepth 100000 in
set_option maxHeartbeats 4000000 in
theorem lc_13 {p : Program} {l : Launch} {e : Env} {s : State} {m : MethodId} {below : List Frame} {meth : Method} {c : Code} {H : Heap} {locs : List Loc} {cells slots : Nat} {Q : State → Prop} {D : va_G} {cI cB : ClassId} {ad ab : Nat → Nat} {sb L : Nat} {xs : Nat → Int32} {a b : Nat → Nat} {k : Cf} {g h : Ss} {x : Tx} {v w : Fn} {y : Ky} {ls : Array Slot} {N : Nat} (C : LX p s m meth c D cI cB ad ab sb L xs) (hN : N < 512) (hi : 4 * N + 4 ≤ L) (hL : L ≤ 2048) (I : INV k g v x y N) (Y : WD D (fun q : Nat => s.heap.size ≤ q) s.heap H locs (wW cI cB a b k g h x k v w y)) (hl : lv_has ls 4 [(0, .ref sb), (1, .ref (a 0)), (2, .ref (b 0)), (3, .int (nI (4 * N)))]) (hc : cells + 6 ≤ 600000 ∧ slots + 60 ≤ 7302250)
    (kk : ∀ (k' : Cf) (g h : Ss) (x : Tx) (k : Cf) (v w : Fn) (y : Ky) (H : Heap) (locs : List Loc), k' = k → INV k g v x y (N + 1) → WD D (fun q : Nat => s.heap.size ≤ q) s.heap H locs (wW cI cB a b k' g h x k v w y) → W p l e room_1 s m #[Value.ref sb] below meth c H locs (cells + 6) (slots + 60) Q (F0 m 697 ls [])) : W p l e room_1 s m #[Value.ref sb] below meth c H locs cells slots Q (F0 m 465 ls []) := by
  obtain ⟨E, hr, hk, hX, hbl, hZ⟩ := C
  have hbA : ¬ (fun q : Nat => s.heap.size ≤ q) sb := Nat.not_le.mpr hbl
  refine lv_aload_n E.1.1 E.1.2.1 dL_law_465 rfl (lv_at hl 1 rfl) ?_
  refine r_6 (S := Unit) (fun _ => k) (fun _ => g) (fun _ => h) (fun _ => x) (As := []) (rest := []) E Y hl.1 (c_X6_state (a 0) (a 1) (a 2) (a 3) (a 4) (a 5) (a 6) (a 7) (a 8) (a 9) (a 10) (a 11) (a 12) (a 13) (a 14) (a 15) (a 16) (a 17) (a 18) (a 19) k g h x) lk_L_69 X0b (fun _ _ _ => trivial) ⟨Nat.le_of_ble_eq_true rfl, Nat.le_of_ble_eq_true rfl⟩ ⟨(show cells + 0 ≤ 600000 by omega), (show slots + 0 ≤ 7302250 by omega)⟩ rfl rfl (Nat.le_of_ble_eq_true rfl) dL_law_466 (fun ra ua H locs hpa Y => ?_)
  refine lv_aload_n E.1.1 E.1.2.1 dL_law_469 rfl (lv_at hl 2 rfl) ?_
  refine r_7 (S := Unit) (fun _ => k) (fun _ => v) (fun _ => w) (fun _ => y) (As := []) (rest := [.int ra]) E Y hl.1 (c_X7_state (b 0) (b 1) (b 2) (b 3) (b 4) (b 5) (b 6) (b 7) k v w y) lk_L_72 X0b (fun _ _ _ => trivial) ⟨Nat.le_of_ble_eq_true rfl, Nat.le_of_ble_eq_true rfl⟩ ⟨(show cells + 0 + 0 ≤ 600000 by omega), (show slots + 0 + 0 ≤ 7302250 by omega)⟩ rfl rfl (Nat.le_of_ble_eq_true rfl) dL_law_470 (fun rb ub H locs hpb Y => ?_)
  subst hpa
  subst hpb
  have i1 := i_state  I
  refine lv_icmp_eq (tgt := 697) E.1.1 E.1.2.1 dL_law_473 (by decide) (fun _ => ?_) (fun z => absurd i1 z)
  refine W.widen (k := cells + 6) (n := slots + 60) (by omega) (by omega) ?_
  exact kk _ _ _ _ _ _ _ _ _ _ rfl I.up Y
set_option maxRecDepth 100000 in
set_option maxHeartbeats 4000000 in
theorem lc_14 {p : Program} {l : Launch} {e : Env} {s : State} {m : MethodId} {below : List Frame} {meth : Method} {c : Code} {H : Heap} {locs : List Loc} {cells slots : Nat} {Q : State → Prop} {D : va_G} {cI cB : ClassId} {ad ab : Nat → Nat} {sb L : Nat} {xs : Nat → Int32} {a b : Nat → Nat} {k : Cf} {g h : Ss} {x : Tx} {v w : Fn} {y : Ky} {ls : Array Slot} {N : Nat} (C : LX p s m meth c D cI cB ad ab sb L xs) (hN : N < 512) (hi : 4 * N + 4 ≤ L) (hL : L ≤ 2048) (I : INV k g v x y N) (Y : WD D (fun q : Nat => s.heap.size ≤ q) s.heap H locs (wW cI cB a b k g h x k v w y)) (hl : lv_has ls 4 [(0, .ref sb), (1, .ref (a 0)), (2, .ref (b 0)), (3, .int (nI (4 * N)))]) (hc : cells + 6 ≤ 600000 ∧ slots + 60 ≤ 7302250)
    (kk : ∀ (k' : Cf) (g h : Ss) (x : Tx) (k : Cf) (v w : Fn) (y : Ky) (H : Heap) (locs : List Loc), k' = k → INV k g v x y (N + 1) → WD D (fun q : Nat => s.heap.size ≤ q) s.heap H locs (wW cI cB a b k' g h x k v w y) → W p l e room_1 s m #[Value.ref sb] below meth c H locs (cells + 6) (slots + 60) Q (F0 m 697 ls [])) : W p l e room_1 s m #[Value.ref sb] below meth c H locs cells slots Q (F0 m 478 ls []) := by
  obtain ⟨E, hr, hk, hX, hbl, hZ⟩ := C
  have hbA : ¬ (fun q : Nat => s.heap.size ≤ q) sb := Nat.not_le.mpr hbl
  refine lv_aload_n E.1.1 E.1.2.1 dL_law_478 rfl (lv_at hl 1 rfl) ?_
  refine r_6 (S := Unit) (fun _ => k) (fun _ => g) (fun _ => h) (fun _ => x) (As := []) (rest := []) E Y hl.1 (c_X6_isPaused (a 0) (a 1) (a 2) (a 3) (a 4) (a 5) (a 6) (a 7) (a 8) (a 9) (a 10) (a 11) (a 12) (a 13) (a 14) (a 15) (a 16) (a 17) (a 18) (a 19) k g h x) lk_L_73 X0b (fun _ _ _ => trivial) ⟨Nat.le_of_ble_eq_true rfl, Nat.le_of_ble_eq_true rfl⟩ ⟨(show cells + 0 ≤ 600000 by omega), (show slots + 0 ≤ 7302250 by omega)⟩ rfl rfl (Nat.le_of_ble_eq_true rfl) dL_law_479 (fun ra ua H locs hpa Y => ?_)
  refine lv_aload_n E.1.1 E.1.2.1 dL_law_482 rfl (lv_at hl 2 rfl) ?_
  refine r_7 (S := Unit) (fun _ => k) (fun _ => v) (fun _ => w) (fun _ => y) (As := []) (rest := [.int ra]) E Y hl.1 (c_X7_isPaused (b 0) (b 1) (b 2) (b 3) (b 4) (b 5) (b 6) (b 7) k v w y) lk_L_76 X0b (fun _ _ _ => trivial) ⟨Nat.le_of_ble_eq_true rfl, Nat.le_of_ble_eq_true rfl⟩ ⟨(show cells + 0 + 0 ≤ 600000 by omega), (show slots + 0 + 0 ≤ 7302250 by omega)⟩ rfl rfl (Nat.le_of_ble_eq_true rfl) dL_law_483 (fun rb ub H locs hpb Y => ?_)
  subst hpa
  subst hpb
  have i1 := i_isPaused  I
  refine lv_icmp_eq (tgt := 697) E.1.1 E.1.2.1 dL_law_486 (by decide) (fun _ => ?_) (fun z => absurd i1 z)
  refine W.widen (k := cells + 6) (n := slots + 60) (by omega) (by omega) ?_
  exact kk _ _ _ _ _ _ _ _ _ _ rfl I.up Y
set_option maxRecDepth 100000 in
set_option maxHeartbeats 4000000 in
theorem lc_15 {p : Program} {l : Launch} {e : Env} {s : State} {m : MethodId} {below : List Frame} {meth : Method} {c : Code} {H : Heap} {locs : List Loc} {cells slots : Nat} {Q : State → Prop} {D : va_G} {cI cB : ClassId} {ad ab : Nat → Nat} {sb L : Nat} {xs : Nat → Int32} {a b : Nat → Nat} {k : Cf} {g h : Ss} {x : Tx} {v w : Fn} {y : Ky} {ls : Array Slot} {N : Nat} (C : LX p s m meth c D cI cB ad ab sb L xs) (hN : N < 512) (hi : 4 * N + 4 ≤ L) (hL : L ≤ 2048) (I : INV k g v x y N) (Y : WD D (fun q : Nat => s.heap.size ≤ q) s.heap H locs (wW cI cB a b k g h x k v w y)) (hl : lv_has ls 4 [(0, .ref sb), (1, .ref (a 0)), (2, .ref (b 0)), (3, .int (nI (4 * N)))]) (hc : cells + 6 ≤ 600000 ∧ slots + 60 ≤ 7302250)
    (kk : ∀ (k' : Cf) (g h : Ss) (x : Tx) (k : Cf) (v w : Fn) (y : Ky) (H : Heap) (locs : List Loc), k' = k → INV k g v x y (N + 1) → WD D (fun q : Nat => s.heap.size ≤ q) s.heap H locs (wW cI cB a b k' g h x k v w y) → W p l e room_1 s m #[Value.ref sb] below meth c H locs (cells + 6) (slots + 60) Q (F0 m 697 ls [])) : W p l e room_1 s m #[Value.ref sb] below meth c H locs cells slots Q (F0 m 491 ls []) := by
  obtain ⟨E, hr, hk, hX, hbl, hZ⟩ := C
  have hbA : ¬ (fun q : Nat => s.heap.size ≤ q) sb := Nat.not_le.mpr hbl
  refine lv_aload_n E.1.1 E.1.2.1 dL_law_491 rfl (lv_at hl 1 rfl) ?_
  refine r_6 (S := Unit) (fun _ => k) (fun _ => g) (fun _ => h) (fun _ => x) (As := []) (rest := []) E Y hl.1 (c_X6_downloadingSegment (a 0) (a 1) (a 2) (a 3) (a 4) (a 5) (a 6) (a 7) (a 8) (a 9) (a 10) (a 11) (a 12) (a 13) (a 14) (a 15) (a 16) (a 17) (a 18) (a 19) k g h x) lk_L_77 X0b (fun _ _ _ => trivial) ⟨Nat.le_of_ble_eq_true rfl, Nat.le_of_ble_eq_true rfl⟩ ⟨(show cells + 0 ≤ 600000 by omega), (show slots + 0 ≤ 7302250 by omega)⟩ rfl rfl (Nat.le_of_ble_eq_true rfl) dL_law_492 (fun ra ua H locs hpa Y => ?_)
  refine lv_aload_n E.1.1 E.1.2.1 dL_law_495 rfl (lv_at hl 2 rfl) ?_
  refine r_7 (S := Unit) (fun _ => k) (fun _ => v) (fun _ => w) (fun _ => y) (As := []) (rest := [.int ra]) E Y hl.1 (c_X7_downloadingSegment (b 0) (b 1) (b 2) (b 3) (b 4) (b 5) (b 6) (b 7) k v w y) lk_L_80 X0b (fun _ _ _ => trivial) ⟨Nat.le_of_ble_eq_true rfl, Nat.le_of_ble_eq_true rfl⟩ ⟨(show cells + 0 + 0 ≤ 600000 by omega), (show slots + 0 + 0 ≤ 7302250 by omega)⟩ rfl rfl (Nat.le_of_ble_eq_true rfl) dL_law_496 (fun rb ub H locs hpb Y => ?_)
  subst hpa
  subst hpb
  have i1 := i_downloadingSegment  I
  refine lv_icmp_eq (tgt := 697) E.1.1 E.1.2.1 dL_law_499 (by decide) (fun _ => ?_) (fun z => absurd i1 z)
  refine W.widen (k := cells + 6) (n := slots + 60) (by omega) (by omega) ?_
  exact kk _ _ _ _ _ _ _ _ _ _ rfl I.up Y
set_option maxRecDepth 100000 in
set_option maxHeartbeats 4000000 in
theorem lc_16 {p : Program} {l : Launch} {e : Env} {s : State} {m : MethodId} {below : List Frame} {meth : Method} {c : Code} {H : Heap} {locs : List Loc} {cells slots : Nat} {Q : State → Prop} {D : va_G} {cI cB : ClassId} {ad ab : Nat → Nat} {sb L : Nat} {xs : Nat → Int32} {a b : Nat → Nat} {k : Cf} {g h : Ss} {x : Tx} {v w : Fn} {y : Ky} {ls : Array Slot} {N : Nat} (C : LX p s m meth c D cI cB ad ab sb L xs) (hN : N < 512) (hi : 4 * N + 4 ≤ L) (hL : L ≤ 2048) (I : INV k g v x y N) (Y : WD D (fun q : Nat => s.heap.size ≤ q) s.heap H locs (wW cI cB a b k g h x k v w y)) (hl : lv_has ls 4 [(0, .ref sb), (1, .ref (a 0)), (2, .ref (b 0)), (3, .int (nI (4 * N)))]) (hc : cells + 6 ≤ 600000 ∧ slots + 60 ≤ 7302250)
    (kk : ∀ (k' : Cf) (g h : Ss) (x : Tx) (k : Cf) (v w : Fn) (y : Ky) (H : Heap) (locs : List Loc), k' = k → INV k g v x y (N + 1) → WD D (fun q : Nat => s.heap.size ≤ q) s.heap H locs (wW cI cB a b k' g h x k v w y) → W p l e room_1 s m #[Value.ref sb] below meth c H locs (cells + 6) (slots + 60) Q (F0 m 697 ls [])) : W p l e room_1 s m #[Value.ref sb] below meth c H locs cells slots Q (F0 m 504 ls []) := by
  obtain ⟨E, hr, hk, hX, hbl, hZ⟩ := C
  have hbA : ¬ (fun q : Nat => s.heap.size ≤ q) sb := Nat.not_le.mpr hbl
  refine lv_aload_n E.1.1 E.1.2.1 dL_law_504 rfl (lv_at hl 1 rfl) ?_
  refine lv_aload_n E.1.1 E.1.2.1 dL_law_505 rfl (lv_at hl 0 rfl) ?_
  refine lv_iload_n E.1.1 E.1.2.1 dL_law_506 rfl (lv_at hl 3 rfl) ?_
  refine lv_iconst (v := 1) E.1.1 E.1.2.1 dL_law_507 (by decide) ?_
  refine lv_iadd E.1.1 E.1.2.1 dL_law_508 ?_
  refine lv_cst (v := nI (4 * N + 1)) (nI_add (4 * N) 1) ?_
  refine va_sld E.1.1 E.1.2.1 hX hbl hbA Y.2.2 (vp_in_nI (by omega) (by omega)) dL_law_509 ?_
  refine r_6 (S := Unit) (fun _ => k) (fun _ => g) (fun _ => h) (fun _ => x) (As := [.int (xs (nI (4 * N + 1)).toNatClampNeg)]) (rest := []) E Y hl.1 (c_X6_segmentLevel (a 0) (a 1) (a 2) (a 3) (a 4) (a 5) (a 6) (a 7) (a 8) (a 9) (a 10) (a 11) (a 12) (a 13) (a 14) (a 15) (a 16) (a 17) (a 18) (a 19) k g h x (xs (nI (4 * N + 1)).toNatClampNeg)) lk_L_81 X0b (fun _ _ _ => trivial) ⟨Nat.le_of_ble_eq_true rfl, Nat.le_of_ble_eq_true rfl⟩ ⟨(show cells + 0 ≤ 600000 by omega), (show slots + 0 ≤ 7302250 by omega)⟩ rfl rfl (Nat.le_of_ble_eq_true rfl) dL_law_510 (fun ra ua H locs hpa Y => ?_)
  refine lv_aload_n E.1.1 E.1.2.1 dL_law_513 rfl (lv_at hl 2 rfl) ?_
  refine lv_aload_n E.1.1 E.1.2.1 dL_law_514 rfl (lv_at hl 0 rfl) ?_
  refine lv_iload_n E.1.1 E.1.2.1 dL_law_515 rfl (lv_at hl 3 rfl) ?_
  refine lv_iconst (v := 1) E.1.1 E.1.2.1 dL_law_516 (by decide) ?_
  refine lv_iadd E.1.1 E.1.2.1 dL_law_517 ?_
  refine lv_cst (v := nI (4 * N + 1)) (nI_add (4 * N) 1) ?_
  refine va_sld E.1.1 E.1.2.1 hX hbl hbA Y.2.2 (vp_in_nI (by omega) (by omega)) dL_law_518 ?_
  refine r_7 (S := Unit) (fun _ => k) (fun _ => v) (fun _ => w) (fun _ => y) (As := [.int (xs (nI (4 * N + 1)).toNatClampNeg)]) (rest := [.int ra]) E Y hl.1 (c_X7_segmentLevel (b 0) (b 1) (b 2) (b 3) (b 4) (b 5) (b 6) (b 7) k v w y (xs (nI (4 * N + 1)).toNatClampNeg) I.1) lk_L_84 X0b (fun _ _ _ => trivial) ⟨Nat.le_of_ble_eq_true rfl, Nat.le_of_ble_eq_true rfl⟩ ⟨(show cells + 0 + 0 ≤ 600000 by omega), (show slots + 0 + 0 ≤ 7302250 by omega)⟩ rfl rfl (Nat.le_of_ble_eq_true rfl) dL_law_519 (fun rb ub H locs hpb Y => ?_)
  subst hpa
  subst hpb
  have i1 := i_segmentLevel (p := (xs (nI (4 * N + 1)).toNatClampNeg)) I
  refine lv_icmp_eq (tgt := 697) E.1.1 E.1.2.1 dL_law_522 (by decide) (fun _ => ?_) (fun z => absurd i1 z)
  refine W.widen (k := cells + 6) (n := slots + 60) (by omega) (by omega) ?_
  exact kk _ _ _ _ _ _ _ _ _ _ rfl I.up Y
set_option maxRecDepth 100000 in
set_option maxHeartbeats 4000000 in
theorem lc_17 {p : Program} {l : Launch} {e : Env} {s : State} {m : MethodId} {below : List Frame} {meth : Method} {c : Code} {H : Heap} {locs : List Loc} {cells slots : Nat} {Q : State → Prop} {D : va_G} {cI cB : ClassId} {ad ab : Nat → Nat} {sb L : Nat} {xs : Nat → Int32} {a b : Nat → Nat} {k : Cf} {g h : Ss} {x : Tx} {v w : Fn} {y : Ky} {ls : Array Slot} {N : Nat} (C : LX p s m meth c D cI cB ad ab sb L xs) (hN : N < 512) (hi : 4 * N + 4 ≤ L) (hL : L ≤ 2048) (I : INV k g v x y N) (Y : WD D (fun q : Nat => s.heap.size ≤ q) s.heap H locs (wW cI cB a b k g h x k v w y)) (hl : lv_has ls 4 [(0, .ref sb), (1, .ref (a 0)), (2, .ref (b 0)), (3, .int (nI (4 * N)))]) (hc : cells + 6 ≤ 600000 ∧ slots + 60 ≤ 7302250)
    (kk : ∀ (k' : Cf) (g h : Ss) (x : Tx) (k : Cf) (v w : Fn) (y : Ky) (H : Heap) (locs : List Loc), k' = k → INV k g v x y (N + 1) → WD D (fun q : Nat => s.heap.size ≤ q) s.heap H locs (wW cI cB a b k' g h x k v w y) → W p l e room_1 s m #[Value.ref sb] below meth c H locs (cells + 6) (slots + 60) Q (F0 m 697 ls [])) : W p l e room_1 s m #[Value.ref sb] below meth c H locs cells slots Q (F0 m 527 ls []) := by
  obtain ⟨E, hr, hk, hX, hbl, hZ⟩ := C
  have hbA : ¬ (fun q : Nat => s.heap.size ≤ q) sb := Nat.not_le.mpr hbl
  refine lv_aload_n E.1.1 E.1.2.1 dL_law_527 rfl (lv_at hl 1 rfl) ?_
  refine r_6 (S := Unit) (fun _ => k) (fun _ => g) (fun _ => h) (fun _ => x) (As := []) (rest := []) E Y hl.1 (c_X6_throughputEstimate (a 0) (a 1) (a 2) (a 3) (a 4) (a 5) (a 6) (a 7) (a 8) (a 9) (a 10) (a 11) (a 12) (a 13) (a 14) (a 15) (a 16) (a 17) (a 18) (a 19) k g h x) lk_L_85 X0b (fun _ _ _ => trivial) ⟨Nat.le_of_ble_eq_true rfl, Nat.le_of_ble_eq_true rfl⟩ ⟨(show cells + 0 ≤ 600000 by omega), (show slots + 0 ≤ 7302250 by omega)⟩ rfl rfl (Nat.le_of_ble_eq_true rfl) dL_law_528 (fun ra ua H locs hpa Y => ?_)
  refine lv_aload_n E.1.1 E.1.2.1 dL_law_531 rfl (lv_at hl 2 rfl) ?_
  refine r_7 (S := Unit) (fun _ => k) (fun _ => v) (fun _ => w) (fun _ => y) (As := []) (rest := [.int ra]) E Y hl.1 (c_X7_throughputEstimate (b 0) (b 1) (b 2) (b 3) (b 4) (b 5) (b 6) (b 7) k v w y) lk_L_88 X0b (fun _ _ _ => trivial) ⟨Nat.le_of_ble_eq_true rfl, Nat.le_of_ble_eq_true rfl⟩ ⟨(show cells + 0 + 0 ≤ 600000 by omega), (show slots + 0 + 0 ≤ 7302250 by omega)⟩ rfl rfl (Nat.le_of_ble_eq_true rfl) dL_law_532 (fun rb ub H locs hpb Y => ?_)
  subst hpa
  subst hpb
  have i1 := i_throughputEstimate  I
  refine lv_icmp_eq (tgt := 697) E.1.1 E.1.2.1 dL_law_535 (by decide) (fun _ => ?_) (fun z => absurd i1 z)
  refine W.widen (k := cells + 6) (n := slots + 60) (by omega) (by omega) ?_
  exact kk _ _ _ _ _ _ _ _ _ _ rfl I.up Y
