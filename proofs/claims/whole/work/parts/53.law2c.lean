set_option maxRecDepth 100000 in
set_option maxHeartbeats 4000000 in
theorem lc_18 {p : Program} {l : Launch} {e : Env} {s : State} {m : MethodId} {below : List Frame} {meth : Method} {c : Code} {H : Heap} {locs : List Loc} {cells slots : Nat} {Q : State → Prop} {D : va_G} {cI cB : ClassId} {ad ab : Nat → Nat} {sb L : Nat} {xs : Nat → Int32} {a b : Nat → Nat} {k : Cf} {g h : Ss} {x : Tx} {v w : Fn} {y : Ky} {ls : Array Slot} {N : Nat} (C : LX p s m meth c D cI cB ad ab sb L xs) (hN : N < 512) (hi : 4 * N + 4 ≤ L) (hL : L ≤ 2048) (I : INV k g v x y N) (Y : WD D (fun q : Nat => s.heap.size ≤ q) s.heap H locs (wW cI cB a b k g h x k v w y)) (hl : lv_has ls 4 [(0, .ref sb), (1, .ref (a 0)), (2, .ref (b 0)), (3, .int (nI (4 * N)))]) (hc : cells + 6 ≤ 600000 ∧ slots + 60 ≤ 7302250)
    (kk : ∀ (k' : Cf) (g h : Ss) (x : Tx) (k : Cf) (v w : Fn) (y : Ky) (H : Heap) (locs : List Loc), k' = k → INV k g v x y (N + 1) → WD D (fun q : Nat => s.heap.size ≤ q) s.heap H locs (wW cI cB a b k' g h x k v w y) → W p l e room_1 s m #[Value.ref sb] below meth c H locs (cells + 6) (slots + 60) Q (F0 m 697 ls [])) : W p l e room_1 s m #[Value.ref sb] below meth c H locs cells slots Q (F0 m 540 ls []) := by
  obtain ⟨E, hr, hk, hX, hbl, hZ⟩ := C
  have hbA : ¬ (fun q : Nat => s.heap.size ≤ q) sb := Nat.not_le.mpr hbl
  refine lv_aload_n E.1.1 E.1.2.1 dL_law_540 rfl (lv_at hl 1 rfl) ?_
  refine r_6 (S := Unit) (fun _ => k) (fun _ => g) (fun _ => h) (fun _ => x) (As := []) (rest := []) E Y hl.1 (c_X6_switchCount (a 0) (a 1) (a 2) (a 3) (a 4) (a 5) (a 6) (a 7) (a 8) (a 9) (a 10) (a 11) (a 12) (a 13) (a 14) (a 15) (a 16) (a 17) (a 18) (a 19) k g h x) lk_L_89 X0b (fun _ _ _ => trivial) ⟨Nat.le_of_ble_eq_true rfl, Nat.le_of_ble_eq_true rfl⟩ ⟨(show cells + 0 ≤ 600000 by omega), (show slots + 0 ≤ 7302250 by omega)⟩ rfl rfl (Nat.le_of_ble_eq_true rfl) dL_law_541 (fun ra ua H locs hpa Y => ?_)
  refine lv_aload_n E.1.1 E.1.2.1 dL_law_544 rfl (lv_at hl 2 rfl) ?_
  refine r_7 (S := Unit) (fun _ => k) (fun _ => v) (fun _ => w) (fun _ => y) (As := []) (rest := [.int ra]) E Y hl.1 (c_X7_switchCount (b 0) (b 1) (b 2) (b 3) (b 4) (b 5) (b 6) (b 7) k v w y) lk_L_92 X0b (fun _ _ _ => trivial) ⟨Nat.le_of_ble_eq_true rfl, Nat.le_of_ble_eq_true rfl⟩ ⟨(show cells + 0 + 0 ≤ 600000 by omega), (show slots + 0 + 0 ≤ 7302250 by omega)⟩ rfl rfl (Nat.le_of_ble_eq_true rfl) dL_law_545 (fun rb ub H locs hpb Y => ?_)
  subst hpa
  subst hpb
  have i1 := i_switchCount  I
  refine lv_icmp_eq (tgt := 697) E.1.1 E.1.2.1 dL_law_548 (by decide) (fun _ => ?_) (fun z => absurd i1 z)
  refine W.widen (k := cells + 6) (n := slots + 60) (by omega) (by omega) ?_
  exact kk _ _ _ _ _ _ _ _ _ _ rfl I.up Y
set_option maxRecDepth 100000 in
set_option maxHeartbeats 4000000 in
theorem lc_19 {p : Program} {l : Launch} {e : Env} {s : State} {m : MethodId} {below : List Frame} {meth : Method} {c : Code} {H : Heap} {locs : List Loc} {cells slots : Nat} {Q : State → Prop} {D : va_G} {cI cB : ClassId} {ad ab : Nat → Nat} {sb L : Nat} {xs : Nat → Int32} {a b : Nat → Nat} {k : Cf} {g h : Ss} {x : Tx} {v w : Fn} {y : Ky} {ls : Array Slot} {N : Nat} (C : LX p s m meth c D cI cB ad ab sb L xs) (hN : N < 512) (hi : 4 * N + 4 ≤ L) (hL : L ≤ 2048) (I : INV k g v x y N) (Y : WD D (fun q : Nat => s.heap.size ≤ q) s.heap H locs (wW cI cB a b k g h x k v w y)) (hl : lv_has ls 4 [(0, .ref sb), (1, .ref (a 0)), (2, .ref (b 0)), (3, .int (nI (4 * N)))]) (hc : cells + 6 ≤ 600000 ∧ slots + 60 ≤ 7302250)
    (kk : ∀ (k' : Cf) (g h : Ss) (x : Tx) (k : Cf) (v w : Fn) (y : Ky) (H : Heap) (locs : List Loc), k' = k → INV k g v x y (N + 1) → WD D (fun q : Nat => s.heap.size ≤ q) s.heap H locs (wW cI cB a b k' g h x k v w y) → W p l e room_1 s m #[Value.ref sb] below meth c H locs (cells + 6) (slots + 60) Q (F0 m 697 ls [])) : W p l e room_1 s m #[Value.ref sb] below meth c H locs cells slots Q (F0 m 553 ls []) := by
  obtain ⟨E, hr, hk, hX, hbl, hZ⟩ := C
  have hbA : ¬ (fun q : Nat => s.heap.size ≤ q) sb := Nat.not_le.mpr hbl
  refine lv_aload_n E.1.1 E.1.2.1 dL_law_553 rfl (lv_at hl 1 rfl) ?_
  refine r_6 (S := Unit) (fun _ => k) (fun _ => g) (fun _ => h) (fun _ => x) (As := []) (rest := []) E Y hl.1 (c_X6_stallCount (a 0) (a 1) (a 2) (a 3) (a 4) (a 5) (a 6) (a 7) (a 8) (a 9) (a 10) (a 11) (a 12) (a 13) (a 14) (a 15) (a 16) (a 17) (a 18) (a 19) k g h x) lk_L_93 X0b (fun _ _ _ => trivial) ⟨Nat.le_of_ble_eq_true rfl, Nat.le_of_ble_eq_true rfl⟩ ⟨(show cells + 0 ≤ 600000 by omega), (show slots + 0 ≤ 7302250 by omega)⟩ rfl rfl (Nat.le_of_ble_eq_true rfl) dL_law_554 (fun ra ua H locs hpa Y => ?_)
  refine lv_aload_n E.1.1 E.1.2.1 dL_law_557 rfl (lv_at hl 2 rfl) ?_
  refine r_7 (S := Unit) (fun _ => k) (fun _ => v) (fun _ => w) (fun _ => y) (As := []) (rest := [.int ra]) E Y hl.1 (c_X7_stallCount (b 0) (b 1) (b 2) (b 3) (b 4) (b 5) (b 6) (b 7) k v w y) lk_L_96 X0b (fun _ _ _ => trivial) ⟨Nat.le_of_ble_eq_true rfl, Nat.le_of_ble_eq_true rfl⟩ ⟨(show cells + 0 + 0 ≤ 600000 by omega), (show slots + 0 + 0 ≤ 7302250 by omega)⟩ rfl rfl (Nat.le_of_ble_eq_true rfl) dL_law_558 (fun rb ub H locs hpb Y => ?_)
  subst hpa
  subst hpb
  have i1 := i_stallCount  I
  refine lv_icmp_eq (tgt := 697) E.1.1 E.1.2.1 dL_law_561 (by decide) (fun _ => ?_) (fun z => absurd i1 z)
  refine W.widen (k := cells + 6) (n := slots + 60) (by omega) (by omega) ?_
  exact kk _ _ _ _ _ _ _ _ _ _ rfl I.up Y
set_option maxRecDepth 100000 in
set_option maxHeartbeats 4000000 in
theorem lc_20 {p : Program} {l : Launch} {e : Env} {s : State} {m : MethodId} {below : List Frame} {meth : Method} {c : Code} {H : Heap} {locs : List Loc} {cells slots : Nat} {Q : State → Prop} {D : va_G} {cI cB : ClassId} {ad ab : Nat → Nat} {sb L : Nat} {xs : Nat → Int32} {a b : Nat → Nat} {k : Cf} {g h : Ss} {x : Tx} {v w : Fn} {y : Ky} {ls : Array Slot} {N : Nat} (C : LX p s m meth c D cI cB ad ab sb L xs) (hN : N < 512) (hi : 4 * N + 4 ≤ L) (hL : L ≤ 2048) (I : INV k g v x y N) (Y : WD D (fun q : Nat => s.heap.size ≤ q) s.heap H locs (wW cI cB a b k g h x k v w y)) (hl : lv_has ls 4 [(0, .ref sb), (1, .ref (a 0)), (2, .ref (b 0)), (3, .int (nI (4 * N)))]) (hc : cells + 6 ≤ 600000 ∧ slots + 60 ≤ 7302250)
    (kk : ∀ (k' : Cf) (g h : Ss) (x : Tx) (k : Cf) (v w : Fn) (y : Ky) (H : Heap) (locs : List Loc), k' = k → INV k g v x y (N + 1) → WD D (fun q : Nat => s.heap.size ≤ q) s.heap H locs (wW cI cB a b k' g h x k v w y) → W p l e room_1 s m #[Value.ref sb] below meth c H locs (cells + 6) (slots + 60) Q (F0 m 697 ls [])) : W p l e room_1 s m #[Value.ref sb] below meth c H locs cells slots Q (F0 m 566 ls []) := by
  obtain ⟨E, hr, hk, hX, hbl, hZ⟩ := C
  have hbA : ¬ (fun q : Nat => s.heap.size ≤ q) sb := Nat.not_le.mpr hbl
  refine lv_aload_n E.1.1 E.1.2.1 dL_law_566 rfl (lv_at hl 1 rfl) ?_
  refine r_6 (S := Unit) (fun _ => k) (fun _ => g) (fun _ => h) (fun _ => x) (As := []) (rest := []) E Y hl.1 (c_X6_stallTime (a 0) (a 1) (a 2) (a 3) (a 4) (a 5) (a 6) (a 7) (a 8) (a 9) (a 10) (a 11) (a 12) (a 13) (a 14) (a 15) (a 16) (a 17) (a 18) (a 19) k g h x) lk_L_97 X0b (fun _ _ _ => trivial) ⟨Nat.le_of_ble_eq_true rfl, Nat.le_of_ble_eq_true rfl⟩ ⟨(show cells + 0 ≤ 600000 by omega), (show slots + 0 ≤ 7302250 by omega)⟩ rfl rfl (Nat.le_of_ble_eq_true rfl) dL_law_567 (fun ra ua H locs hpa Y => ?_)
  refine lv_aload_n E.1.1 E.1.2.1 dL_law_570 rfl (lv_at hl 2 rfl) ?_
  refine r_7 (S := Unit) (fun _ => k) (fun _ => v) (fun _ => w) (fun _ => y) (As := []) (rest := [.int ra]) E Y hl.1 (c_X7_stallTime (b 0) (b 1) (b 2) (b 3) (b 4) (b 5) (b 6) (b 7) k v w y) lk_L_100 X0b (fun _ _ _ => trivial) ⟨Nat.le_of_ble_eq_true rfl, Nat.le_of_ble_eq_true rfl⟩ ⟨(show cells + 0 + 0 ≤ 600000 by omega), (show slots + 0 + 0 ≤ 7302250 by omega)⟩ rfl rfl (Nat.le_of_ble_eq_true rfl) dL_law_571 (fun rb ub H locs hpb Y => ?_)
  subst hpa
  subst hpb
  have i1 := i_stallTime  I
  refine lv_icmp_eq (tgt := 697) E.1.1 E.1.2.1 dL_law_574 (by decide) (fun _ => ?_) (fun z => absurd i1 z)
  refine W.widen (k := cells + 6) (n := slots + 60) (by omega) (by omega) ?_
  exact kk _ _ _ _ _ _ _ _ _ _ rfl I.up Y
set_option maxRecDepth 100000 in
set_option maxHeartbeats 4000000 in
theorem lc_21 {p : Program} {l : Launch} {e : Env} {s : State} {m : MethodId} {below : List Frame} {meth : Method} {c : Code} {H : Heap} {locs : List Loc} {cells slots : Nat} {Q : State → Prop} {D : va_G} {cI cB : ClassId} {ad ab : Nat → Nat} {sb L : Nat} {xs : Nat → Int32} {a b : Nat → Nat} {k : Cf} {g h : Ss} {x : Tx} {v w : Fn} {y : Ky} {ls : Array Slot} {N : Nat} (C : LX p s m meth c D cI cB ad ab sb L xs) (hN : N < 512) (hi : 4 * N + 4 ≤ L) (hL : L ≤ 2048) (I : INV k g v x y N) (Y : WD D (fun q : Nat => s.heap.size ≤ q) s.heap H locs (wW cI cB a b k g h x k v w y)) (hl : lv_has ls 4 [(0, .ref sb), (1, .ref (a 0)), (2, .ref (b 0)), (3, .int (nI (4 * N)))]) (hc : cells + 6 ≤ 600000 ∧ slots + 60 ≤ 7302250)
    (kk : ∀ (k' : Cf) (g h : Ss) (x : Tx) (k : Cf) (v w : Fn) (y : Ky) (H : Heap) (locs : List Loc), k' = k → INV k g v x y (N + 1) → WD D (fun q : Nat => s.heap.size ≤ q) s.heap H locs (wW cI cB a b k' g h x k v w y) → W p l e room_1 s m #[Value.ref sb] below meth c H locs (cells + 6) (slots + 60) Q (F0 m 697 ls [])) : W p l e room_1 s m #[Value.ref sb] below meth c H locs cells slots Q (F0 m 579 ls []) := by
  obtain ⟨E, hr, hk, hX, hbl, hZ⟩ := C
  have hbA : ¬ (fun q : Nat => s.heap.size ≤ q) sb := Nat.not_le.mpr hbl
  refine lv_aload_n E.1.1 E.1.2.1 dL_law_579 rfl (lv_at hl 1 rfl) ?_
  refine r_6 (S := Unit) (fun _ => k) (fun _ => g) (fun _ => h) (fun _ => x) (As := []) (rest := []) E Y hl.1 (c_X6_startupTime (a 0) (a 1) (a 2) (a 3) (a 4) (a 5) (a 6) (a 7) (a 8) (a 9) (a 10) (a 11) (a 12) (a 13) (a 14) (a 15) (a 16) (a 17) (a 18) (a 19) k g h x) lk_L_101 X0b (fun _ _ _ => trivial) ⟨Nat.le_of_ble_eq_true rfl, Nat.le_of_ble_eq_true rfl⟩ ⟨(show cells + 0 ≤ 600000 by omega), (show slots + 0 ≤ 7302250 by omega)⟩ rfl rfl (Nat.le_of_ble_eq_true rfl) dL_law_580 (fun ra ua H locs hpa Y => ?_)
  refine lv_aload_n E.1.1 E.1.2.1 dL_law_583 rfl (lv_at hl 2 rfl) ?_
  refine r_7 (S := Unit) (fun _ => k) (fun _ => v) (fun _ => w) (fun _ => y) (As := []) (rest := [.int ra]) E Y hl.1 (c_X7_startupTime (b 0) (b 1) (b 2) (b 3) (b 4) (b 5) (b 6) (b 7) k v w y) lk_L_104 X0b (fun _ _ _ => trivial) ⟨Nat.le_of_ble_eq_true rfl, Nat.le_of_ble_eq_true rfl⟩ ⟨(show cells + 0 + 0 ≤ 600000 by omega), (show slots + 0 + 0 ≤ 7302250 by omega)⟩ rfl rfl (Nat.le_of_ble_eq_true rfl) dL_law_584 (fun rb ub H locs hpb Y => ?_)
  subst hpa
  subst hpb
  have i1 := i_startupTime  I
  refine lv_icmp_eq (tgt := 697) E.1.1 E.1.2.1 dL_law_587 (by decide) (fun _ => ?_) (fun z => absurd i1 z)
  refine W.widen (k := cells + 6) (n := slots + 60) (by omega) (by omega) ?_
  exact kk _ _ _ _ _ _ _ _ _ _ rfl I.up Y
set_option maxRecDepth 100000 in
set_option maxHeartbeats 4000000 in
theorem lc_22 {p : Program} {l : Launch} {e : Env} {s : State} {m : MethodId} {below : List Frame} {meth : Method} {c : Code} {H : Heap} {locs : List Loc} {cells slots : Nat} {Q : State → Prop} {D : va_G} {cI cB : ClassId} {ad ab : Nat → Nat} {sb L : Nat} {xs : Nat → Int32} {a b : Nat → Nat} {k : Cf} {g h : Ss} {x : Tx} {v w : Fn} {y : Ky} {ls : Array Slot} {N : Nat} (C : LX p s m meth c D cI cB ad ab sb L xs) (hN : N < 512) (hi : 4 * N + 4 ≤ L) (hL : L ≤ 2048) (I : INV k g v x y N) (Y : WD D (fun q : Nat => s.heap.size ≤ q) s.heap H locs (wW cI cB a b k g h x k v w y)) (hl : lv_has ls 4 [(0, .ref sb), (1, .ref (a 0)), (2, .ref (b 0)), (3, .int (nI (4 * N)))]) (hc : cells + 6 ≤ 600000 ∧ slots + 60 ≤ 7302250)
    (kk : ∀ (k' : Cf) (g h : Ss) (x : Tx) (k : Cf) (v w : Fn) (y : Ky) (H : Heap) (locs : List Loc), k' = k → INV k g v x y (N + 1) → WD D (fun q : Nat => s.heap.size ≤ q) s.heap H locs (wW cI cB a b k' g h x k v w y) → W p l e room_1 s m #[Value.ref sb] below meth c H locs (cells + 6) (slots + 60) Q (F0 m 697 ls [])) : W p l e room_1 s m #[Value.ref sb] below meth c H locs cells slots Q (F0 m 592 ls []) := by
  obtain ⟨E, hr, hk, hX, hbl, hZ⟩ := C
  have hbA : ¬ (fun q : Nat => s.heap.size ≤ q) sb := Nat.not_le.mpr hbl
  refine lv_aload_n E.1.1 E.1.2.1 dL_law_592 rfl (lv_at hl 1 rfl) ?_
  refine r_6 (S := Unit) (fun _ => k) (fun _ => g) (fun _ => h) (fun _ => x) (As := []) (rest := []) E Y hl.1 (c_X6_bitrateSum (a 0) (a 1) (a 2) (a 3) (a 4) (a 5) (a 6) (a 7) (a 8) (a 9) (a 10) (a 11) (a 12) (a 13) (a 14) (a 15) (a 16) (a 17) (a 18) (a 19) k g h x) lk_L_105 X0b (fun _ _ _ => trivial) ⟨Nat.le_of_ble_eq_true rfl, Nat.le_of_ble_eq_true rfl⟩ ⟨(show cells + 0 ≤ 600000 by omega), (show slots + 0 ≤ 7302250 by omega)⟩ rfl rfl (Nat.le_of_ble_eq_true rfl) dL_law_593 (fun ra ua H locs hpa Y => ?_)
  refine lv_aload_n E.1.1 E.1.2.1 dL_law_596 rfl (lv_at hl 2 rfl) ?_
  refine r_7 (S := Unit) (fun _ => k) (fun _ => v) (fun _ => w) (fun _ => y) (As := []) (rest := [.int ra]) E Y hl.1 (c_X7_bitrateSum (b 0) (b 1) (b 2) (b 3) (b 4) (b 5) (b 6) (b 7) k v w y) lk_L_108 X0b (fun _ _ _ => trivial) ⟨Nat.le_of_ble_eq_true rfl, Nat.le_of_ble_eq_true rfl⟩ ⟨(show cells + 0 + 0 ≤ 600000 by omega), (show slots + 0 + 0 ≤ 7302250 by omega)⟩ rfl rfl (Nat.le_of_ble_eq_true rfl) dL_law_597 (fun rb ub H locs hpb Y => ?_)
  subst hpa
  subst hpb
  have i1 := i_bitrateSum  I
  refine lv_icmp_eq (tgt := 697) E.1.1 E.1.2.1 dL_law_600 (by decide) (fun _ => ?_) (fun z => absurd i1 z)
  refine W.widen (k := cells + 6) (n := slots + 60) (by omega) (by omega) ?_
  exact kk _ _ _ _ _ _ _ _ _ _ rfl I.up Y
set_option maxRecDepth 100000 in
set_option maxHeartbeats 4000000 in
theorem lc_23 {p : Program} {l : Launch} {e : Env} {s : State} {m : MethodId} {below : List Frame} {meth : Method} {c : Code} {H : Heap} {locs : List Loc} {cells slots : Nat} {Q : State → Prop} {D : va_G} {cI cB : ClassId} {ad ab : Nat → Nat} {sb L : Nat} {xs : Nat → Int32} {a b : Nat → Nat} {k : Cf} {g h : Ss} {x : Tx} {v w : Fn} {y : Ky} {ls : Array Slot} {N : Nat} (C : LX p s m meth c D cI cB ad ab sb L xs) (hN : N < 512) (hi : 4 * N + 4 ≤ L) (hL : L ≤ 2048) (I : INV k g v x y N) (Y : WD D (fun q : Nat => s.heap.size ≤ q) s.heap H locs (wW cI cB a b k g h x k v w y)) (hl : lv_has ls 4 [(0, .ref sb), (1, .ref (a 0)), (2, .ref (b 0)), (3, .int (nI (4 * N)))]) (hc : cells + 6 ≤ 600000 ∧ slots + 60 ≤ 7302250)
    (kk : ∀ (k' : Cf) (g h : Ss) (x : Tx) (k : Cf) (v w : Fn) (y : Ky) (H : Heap) (locs : List Loc), k' = k → INV k g v x y (N + 1) → WD D (fun q : Nat => s.heap.size ≤ q) s.heap H locs (wW cI cB a b k' g h x k v w y) → W p l e room_1 s m #[Value.ref sb] below meth c H locs (cells + 6) (slots + 60) Q (F0 m 697 ls [])) : W p l e room_1 s m #[Value.ref sb] below meth c H locs cells slots Q (F0 m 605 ls []) := by
  obtain ⟨E, hr, hk, hX, hbl, hZ⟩ := C
  have hbA : ¬ (fun q : Nat => s.heap.size ≤ q) sb := Nat.not_le.mpr hbl
  refine lv_aload_n E.1.1 E.1.2.1 dL_law_605 rfl (lv_at hl 1 rfl) ?_
  refine lv_aload_n E.1.1 E.1.2.1 dL_law_606 rfl (lv_at hl 0 rfl) ?_
  refine lv_iload_n E.1.1 E.1.2.1 dL_law_607 rfl (lv_at hl 3 rfl) ?_
  refine lv_iconst (v := 1) E.1.1 E.1.2.1 dL_law_608 (by decide) ?_
  refine lv_iadd E.1.1 E.1.2.1 dL_law_609 ?_
  refine lv_cst (v := nI (4 * N + 1)) (nI_add (4 * N) 1) ?_
  refine va_sld E.1.1 E.1.2.1 hX hbl hbA Y.2.2 (vp_in_nI (by omega) (by omega)) dL_law_610 ?_
  refine lv_aload_n E.1.1 E.1.2.1 dL_law_611 rfl (lv_at hl 0 rfl) ?_
  refine lv_iload_n E.1.1 E.1.2.1 dL_law_612 rfl (lv_at hl 3 rfl) ?_
  refine lv_iconst (v := 2) E.1.1 E.1.2.1 dL_law_613 (by decide) ?_
  refine lv_iadd E.1.1 E.1.2.1 dL_law_614 ?_
  refine lv_cst (v := nI (4 * N + 2)) (nI_add (4 * N) 2) ?_
  refine va_sld E.1.1 E.1.2.1 hX hbl hbA Y.2.2 (vp_in_nI (by omega) (by omega)) dL_law_615 ?_
  refine r_6 (S := Unit) (fun _ => k) (fun _ => g) (fun _ => h) (fun _ => x) (As := [.int (xs (nI (4 * N + 1)).toNatClampNeg), .int (xs (nI (4 * N + 2)).toNatClampNeg)]) (rest := []) E Y hl.1 (c_X6_segmentSize (a 0) (a 1) (a 2) (a 3) (a 4) (a 5) (a 6) (a 7) (a 8) (a 9) (a 10) (a 11) (a 12) (a 13) (a 14) (a 15) (a 16) (a 17) (a 18) (a 19) k g h x (xs (nI (4 * N + 1)).toNatClampNeg) (xs (nI (4 * N + 2)).toNatClampNeg)) lk_L_109 X0b (fun _ _ _ => trivial) ⟨Nat.le_of_ble_eq_true rfl, Nat.le_of_ble_eq_true rfl⟩ ⟨(show cells + 0 ≤ 600000 by omega), (show slots + 0 ≤ 7302250 by omega)⟩ rfl rfl (Nat.le_of_ble_eq_true rfl) dL_law_616 (fun ra ua H locs hpa Y => ?_)
  refine lv_aload_n E.1.1 E.1.2.1 dL_law_619 rfl (lv_at hl 2 rfl) ?_
  refine lv_aload_n E.1.1 E.1.2.1 dL_law_620 rfl (lv_at hl 0 rfl) ?_
  refine lv_iload_n E.1.1 E.1.2.1 dL_law_621 rfl (lv_at hl 3 rfl) ?_
  refine lv_iconst (v := 1) E.1.1 E.1.2.1 dL_law_622 (by decide) ?_
  refine lv_iadd E.1.1 E.1.2.1 dL_law_623 ?_
  refine lv_cst (v := nI (4 * N + 1)) (nI_add (4 * N) 1) ?_
  refine va_sld E.1.1 E.1.2.1 hX hbl hbA Y.2.2 (vp_in_nI (by omega) (by omega)) dL_law_624 ?_
  refine lv_aload_n E.1.1 E.1.2.1 dL_law_625 rfl (lv_at hl 0 rfl) ?_
  refine lv_iload_n E.1.1 E.1.2.1 dL_law_626 rfl (lv_at hl 3 rfl) ?_
  refine lv_iconst (v := 2) E.1.1 E.1.2.1 dL_law_627 (by decide) ?_
  refine lv_iadd E.1.1 E.1.2.1 dL_law_628 ?_
  refine lv_cst (v := nI (4 * N + 2)) (nI_add (4 * N) 2) ?_
  refine va_sld E.1.1 E.1.2.1 hX hbl hbA Y.2.2 (vp_in_nI (by omega) (by omega)) dL_law_629 ?_
  refine r_7 (S := Unit) (fun _ => k) (fun _ => v) (fun _ => w) (fun _ => y) (As := [.int (xs (nI (4 * N + 1)).toNatClampNeg), .int (xs (nI (4 * N + 2)).toNatClampNeg)]) (rest := [.int ra]) E Y hl.1 (c_X7_segmentSize (b 0) (b 1) (b 2) (b 3) (b 4) (b 5) (b 6) (b 7) k v w y (xs (nI (4 * N + 1)).toNatClampNeg) (xs (nI (4 * N + 2)).toNatClampNeg) I.1) lk_L_112 X0b (fun _ _ _ => trivial) ⟨Nat.le_of_ble_eq_true rfl, Nat.le_of_ble_eq_true rfl⟩ ⟨(show cells + 0 + 0 ≤ 600000 by omega), (show slots + 0 + 0 ≤ 7302250 by omega)⟩ rfl rfl (Nat.le_of_ble_eq_true rfl) dL_law_630 (fun rb ub H locs hpb Y => ?_)
  subst hpa
  subst hpb
  have i1 := i_segmentSize (p := (xs (nI (4 * N + 1)).toNatClampNeg)) (q := (xs (nI (4 * N + 2)).toNatClampNeg)) I
  refine lv_icmp_eq (tgt := 697) E.1.1 E.1.2.1 dL_law_633 (by decide) (fun _ => ?_) (fun z => absurd i1 z)
  refine W.widen (k := cells + 6) (n := slots + 60) (by omega) (by omega) ?_
  exact kk _ _ _ _ _ _ _ _ _ _ rfl I.up Y
set_option maxRecDepth 100000 in
set_option maxHeartbeats 4000000 in
theorem lc_24 {p : Program} {l : Launch} {e : Env} {s : State} {m : MethodId} {below : List Frame} {meth : Method} {c : Code} {H : Heap} {locs : List Loc} {cells slots : Nat} {Q : State → Prop} {D : va_G} {cI cB : ClassId} {ad ab : Nat → Nat} {sb L : Nat} {xs : Nat → Int32} {a b : Nat → Nat} {k : Cf} {g h : Ss} {x : Tx} {v w : Fn} {y : Ky} {ls : Array Slot} {N : Nat} (C : LX p s m meth c D cI cB ad ab sb L xs) (hN : N < 512) (hi : 4 * N + 4 ≤ L) (hL : L ≤ 2048) (I : INV k g v x y N) (Y : WD D (fun q : Nat => s.heap.size ≤ q) s.heap H locs (wW cI cB a b k g h x k v w y)) (hl : lv_has ls 4 [(0, .ref sb), (1, .ref (a 0)), (2, .ref (b 0)), (3, .int (nI (4 * N)))]) (hc : cells + 6 ≤ 600000 ∧ slots + 60 ≤ 7302250)
    (kk : ∀ (k' : Cf) (g h : Ss) (x : Tx) (k : Cf) (v w : Fn) (y : Ky) (H : Heap) (locs : List Loc), k' = k → INV k g v x y (N + 1) → WD D (fun q : Nat => s.heap.size ≤ q) s.heap H locs (wW cI cB a b k' g h x k v w y) → W p l e room_1 s m #[Value.ref sb] below meth c H locs (cells + 6) (slots + 60) Q (F0 m 697 ls [])) : W p l e room_1 s m #[Value.ref sb] below meth c H locs cells slots Q (F0 m 638 ls []) := by
  obtain ⟨E, hr, hk, hX, hbl, hZ⟩ := C
  have hbA : ¬ (fun q : Nat => s.heap.size ≤ q) sb := Nat.not_le.mpr hbl
  refine lv_aload_n E.1.1 E.1.2.1 dL_law_638 rfl (lv_at hl 1 rfl) ?_
  refine lv_aload_n E.1.1 E.1.2.1 dL_law_639 rfl (lv_at hl 0 rfl) ?_
  refine lv_iload_n E.1.1 E.1.2.1 dL_law_640 rfl (lv_at hl 3 rfl) ?_
  refine lv_iconst (v := 1) E.1.1 E.1.2.1 dL_law_641 (by decide) ?_
  refine lv_iadd E.1.1 E.1.2.1 dL_law_642 ?_
  refine lv_cst (v := nI (4 * N + 1)) (nI_add (4 * N) 1) ?_
  refine va_sld E.1.1 E.1.2.1 hX hbl hbA Y.2.2 (vp_in_nI (by omega) (by omega)) dL_law_643 ?_
  refine r_6 (S := Ss) (fun _ => k) (fun _ => g) (fun u => u) (fun _ => x) (As := [.int (xs (nI (4 * N + 1)).toNatClampNeg)]) (rest := []) E Y hl.1 (c_X6_simulatedStallTime (a 0) (a 1) (a 2) (a 3) (a 4) (a 5) (a 6) (a 7) (a 8) (a 9) (a 10) (a 11) (a 12) (a 13) (a 14) (a 15) (a 16) (a 17) (a 18) (a 19) k g h x (xs (nI (4 * N + 1)).toNatClampNeg)) lk_L_113 X0b (fun _ _ _ => trivial) ⟨Nat.le_of_ble_eq_true rfl, Nat.le_of_ble_eq_true rfl⟩ ⟨(show cells + 0 ≤ 600000 by omega), (show slots + 0 ≤ 7302250 by omega)⟩ rfl rfl (Nat.le_of_ble_eq_true rfl) dL_law_644 (fun ra ua H locs hpa Y => ?_)
  refine lv_aload_n E.1.1 E.1.2.1 dL_law_647 rfl (lv_at hl 2 rfl) ?_
  refine lv_aload_n E.1.1 E.1.2.1 dL_law_648 rfl (lv_at hl 0 rfl) ?_
  refine lv_iload_n E.1.1 E.1.2.1 dL_law_649 rfl (lv_at hl 3 rfl) ?_
  refine lv_iconst (v := 1) E.1.1 E.1.2.1 dL_law_650 (by decide) ?_
  refine lv_iadd E.1.1 E.1.2.1 dL_law_651 ?_
  refine lv_cst (v := nI (4 * N + 1)) (nI_add (4 * N) 1) ?_
  refine va_sld E.1.1 E.1.2.1 hX hbl hbA Y.2.2 (vp_in_nI (by omega) (by omega)) dL_law_652 ?_
  refine r_7 (S := Fn × Fn) (fun _ => k) (fun u => u.1) (fun u => u.2) (fun _ => y) (As := [.int (xs (nI (4 * N + 1)).toNatClampNeg)]) (rest := [.int ra]) E Y hl.1 (c_X7_simulatedStallTime (b 0) (b 1) (b 2) (b 3) (b 4) (b 5) (b 6) (b 7) k v w y (xs (nI (4 * N + 1)).toNatClampNeg) I.1) lk_L_116 X0b (fun _ _ _ => trivial) ⟨Nat.le_of_ble_eq_true rfl, Nat.le_of_ble_eq_true rfl⟩ ⟨(show cells + 0 + 0 ≤ 600000 by omega), (show slots + 0 + 0 ≤ 7302250 by omega)⟩ rfl rfl (Nat.le_of_ble_eq_true rfl) dL_law_653 (fun rb ub H locs hpb Y => ?_)
  obtain ⟨rfl, rfl⟩ := hpa
  obtain ⟨rfl, rfl⟩ := hpb
  obtain ⟨i1, i3⟩ := i_simulatedStallTime (h := h) (a := w) (p := (xs (nI (4 * N + 1)).toNatClampNeg)) I
  refine lv_icmp_eq (tgt := 697) E.1.1 E.1.2.1 dL_law_656 (by decide) (fun _ => ?_) (fun z => absurd i1 z)
  refine W.widen (k := cells + 6) (n := slots + 60) (by omega) (by omega) ?_
  exact kk _ _ _ _ _ _ _ _ _ _ rfl i3 Y
set_option maxRecDepth 100000 in
set_option maxHeartbeats 4000000 in
theorem lc_25 {p : Program} {l : Launch} {e : Env} {s : State} {m : MethodId} {below : List Frame} {meth : Method} {c : Code} {H : Heap} {locs : List Loc} {cells slots : Nat} {Q : State → Prop} {D : va_G} {cI cB : ClassId} {ad ab : Nat → Nat} {sb L : Nat} {xs : Nat → Int32} {a b : Nat → Nat} {k : Cf} {g h : Ss} {x : Tx} {v w : Fn} {y : Ky} {ls : Array Slot} {N : Nat} (C : LX p s m meth c D cI cB ad ab sb L xs) (hN : N < 512) (hi : 4 * N + 4 ≤ L) (hL : L ≤ 2048) (I : INV k g v x y N) (Y : WD D (fun q : Nat => s.heap.size ≤ q) s.heap H locs (wW cI cB a b k g h x k v w y)) (hl : lv_has ls 4 [(0, .ref sb), (1, .ref (a 0)), (2, .ref (b 0)), (3, .int (nI (4 * N)))]) (hc : cells + 6 ≤ 600000 ∧ slots + 60 ≤ 7302250)
    (kk : ∀ (k' : Cf) (g h : Ss) (x : Tx) (k : Cf) (v w : Fn) (y : Ky) (H : Heap) (locs : List Loc), k' = k → INV k g v x y (N + 1) → WD D (fun q : Nat => s.heap.size ≤ q) s.heap H locs (wW cI cB a b k' g h x k v w y) → W p l e room_1 s m #[Value.ref sb] below meth c H locs (cells + 6) (slots + 60) Q (F0 m 697 ls [])) : W p l e room_1 s m #[Value.ref sb] below meth c H locs cells slots Q (F0 m 661 ls []) := by
  obtain ⟨E, hr, hk, hX, hbl, hZ⟩ := C
  have hbA : ¬ (fun q : Nat => s.heap.size ≤ q) sb := Nat.not_le.mpr hbl
  refine lv_aload_n E.1.1 E.1.2.1 dL_law_661 rfl (lv_at hl 1 rfl) ?_
  refine lv_aload_n E.1.1 E.1.2.1 dL_law_662 rfl (lv_at hl 0 rfl) ?_
  refine lv_iload_n E.1.1 E.1.2.1 dL_law_663 rfl (lv_at hl 3 rfl) ?_
  refine lv_iconst (v := 1) E.1.1 E.1.2.1 dL_law_664 (by decide) ?_
  refine lv_iadd E.1.1 E.1.2.1 dL_law_665 ?_
  refine lv_cst (v := nI (4 * N + 1)) (nI_add (4 * N) 1) ?_
  refine va_sld E.1.1 E.1.2.1 hX hbl hbA Y.2.2 (vp_in_nI (by omega) (by omega)) dL_law_666 ?_
  refine r_6 (S := Ss) (fun _ => k) (fun _ => g) (fun u => u) (fun _ => x) (As := [.int (xs (nI (4 * N + 1)).toNatClampNeg)]) (rest := []) E Y hl.1 (c_X6_simulatedBitrateSum (a 0) (a 1) (a 2) (a 3) (a 4) (a 5) (a 6) (a 7) (a 8) (a 9) (a 10) (a 11) (a 12) (a 13) (a 14) (a 15) (a 16) (a 17) (a 18) (a 19) k g h x (xs (nI (4 * N + 1)).toNatClampNeg)) lk_L_117 X0b (fun _ _ _ => trivial) ⟨Nat.le_of_ble_eq_true rfl, Nat.le_of_ble_eq_true rfl⟩ ⟨(show cells + 0 ≤ 600000 by omega), (show slots + 0 ≤ 7302250 by omega)⟩ rfl rfl (Nat.le_of_ble_eq_true rfl) dL_law_667 (fun ra ua H locs hpa Y => ?_)
  refine lv_aload_n E.1.1 E.1.2.1 dL_law_670 rfl (lv_at hl 2 rfl) ?_
  refine lv_aload_n E.1.1 E.1.2.1 dL_law_671 rfl (lv_at hl 0 rfl) ?_
  refine lv_iload_n E.1.1 E.1.2.1 dL_law_672 rfl (lv_at hl 3 rfl) ?_
  refine lv_iconst (v := 1) E.1.1 E.1.2.1 dL_law_673 (by decide) ?_
  refine lv_iadd E.1.1 E.1.2.1 dL_law_674 ?_
  refine lv_cst (v := nI (4 * N + 1)) (nI_add (4 * N) 1) ?_
  refine va_sld E.1.1 E.1.2.1 hX hbl hbA Y.2.2 (vp_in_nI (by omega) (by omega)) dL_law_675 ?_
  refine r_7 (S := Fn × Fn) (fun _ => k) (fun u => u.1) (fun u => u.2) (fun _ => y) (As := [.int (xs (nI (4 * N + 1)).toNatClampNeg)]) (rest := [.int ra]) E Y hl.1 (c_X7_simulatedBitrateSum (b 0) (b 1) (b 2) (b 3) (b 4) (b 5) (b 6) (b 7) k v w y (xs (nI (4 * N + 1)).toNatClampNeg) I.1) lk_L_120 X0b (fun _ _ _ => trivial) ⟨Nat.le_of_ble_eq_true rfl, Nat.le_of_ble_eq_true rfl⟩ ⟨(show cells + 0 + 0 ≤ 600000 by omega), (show slots + 0 + 0 ≤ 7302250 by omega)⟩ rfl rfl (Nat.le_of_ble_eq_true rfl) dL_law_676 (fun rb ub H locs hpb Y => ?_)
  obtain ⟨rfl, rfl⟩ := hpa
  obtain ⟨rfl, rfl⟩ := hpb
  obtain ⟨i1, i3⟩ := i_simulatedBitrateSum (h := h) (a := w) (p := (xs (nI (4 * N + 1)).toNatClampNeg)) I
  refine lv_icmp_eq (tgt := 697) E.1.1 E.1.2.1 dL_law_679 (by decide) (fun _ => ?_) (fun z => absurd i1 z)
  refine W.widen (k := cells + 6) (n := slots + 60) (by omega) (by omega) ?_
  exact kk _ _ _ _ _ _ _ _ _ _ rfl i3 Y
set_option maxRecDepth 100000 in
set_option maxHeartbeats 4000000 in
theorem lc_26 {p : Program} {l : Launch} {e : Env} {s : State} {m : MethodId} {below : List Frame} {meth : Method} {c : Code} {H : Heap} {locs : List Loc} {cells slots : Nat} {Q : State → Prop} {D : va_G} {cI cB : ClassId} {ad ab : Nat → Nat} {sb L : Nat} {xs : Nat → Int32} {a b : Nat → Nat} {k : Cf} {g h : Ss} {x : Tx} {v w : Fn} {y : Ky} {ls : Array Slot} {N : Nat} (C : LX p s m meth c D cI cB ad ab sb L xs) (hN : N < 512) (hi : 4 * N + 4 ≤ L) (hL : L ≤ 2048) (I : INV k g v x y N) (Y : WD D (fun q : Nat => s.heap.size ≤ q) s.heap H locs (wW cI cB a b k g h x k v w y)) (hl : lv_has ls 4 [(0, .ref sb), (1, .ref (a 0)), (2, .ref (b 0)), (3, .int (nI (4 * N)))]) (hc : cells + 6 ≤ 600000 ∧ slots + 60 ≤ 7302250)
    (kk : ∀ (k' : Cf) (g h : Ss) (x : Tx) (k : Cf) (v w : Fn) (y : Ky) (H : Heap) (locs : List Loc), k' = k → INV k g v x y (N + 1) → WD D (fun q : Nat => s.heap.size ≤ q) s.heap H locs (wW cI cB a b k' g h x k v w y) → W p l e room_1 s m #[Value.ref sb] below meth c H locs (cells + 6) (slots + 60) Q (F0 m 697 ls [])) : W p l e room_1 s m #[Value.ref sb] below meth c H locs cells slots Q (F0 m 684 ls []) := by
  obtain ⟨E, hr, hk, hX, hbl, hZ⟩ := C
  have hbA : ¬ (fun q : Nat => s.heap.size ≤ q) sb := Nat.not_le.mpr hbl
  refine lv_aload_n E.1.1 E.1.2.1 dL_law_684 rfl (lv_at hl 1 rfl) ?_
  refine r_6 (S := Ss) (fun _ => k) (fun _ => g) (fun u => u) (fun _ => x) (As := []) (rest := []) E Y hl.1 (c_X6_bestSmoothLevel (a 0) (a 1) (a 2) (a 3) (a 4) (a 5) (a 6) (a 7) (a 8) (a 9) (a 10) (a 11) (a 12) (a 13) (a 14) (a 15) (a 16) (a 17) (a 18) (a 19) k g h x I.1) lk_L_121 X0b (fun _ _ _ => trivial) ⟨Nat.le_of_ble_eq_true rfl, Nat.le_of_ble_eq_true rfl⟩ ⟨(show cells + 0 ≤ 600000 by omega), (show slots + 0 ≤ 7302250 by omega)⟩ rfl rfl (Nat.le_of_ble_eq_true rfl) dL_law_685 (fun ra ua H locs hpa Y => ?_)
  refine lv_aload_n E.1.1 E.1.2.1 dL_law_688 rfl (lv_at hl 2 rfl) ?_
  refine r_7 (S := Cf × Fn × Fn) (fun u => u.1) (fun u => u.2.1) (fun u => u.2.2) (fun _ => y) (As := []) (rest := [.int ra]) E Y hl.1 (c_X7_bestSmoothLevel (b 0) (b 1) (b 2) (b 3) (b 4) (b 5) (b 6) (b 7) k v w y I.1) lk_L_124 X0b (fun _ _ _ => trivial) ⟨Nat.le_of_ble_eq_true rfl, Nat.le_of_ble_eq_true rfl⟩ ⟨(show cells + 0 + 0 ≤ 600000 by omega), (show slots + 0 + 0 ≤ 7302250 by omega)⟩ rfl rfl (Nat.le_of_ble_eq_true rfl) dL_law_689 (fun rb ub H locs hpb Y => ?_)
  obtain ⟨rfl, rfl⟩ := hpa
  obtain ⟨rfl, rfl⟩ := hpb
  obtain ⟨i1, i2, i3⟩ := i_bestSmoothLevel (h := h) (a := w) I
  refine lv_icmp_eq (tgt := 697) E.1.1 E.1.2.1 dL_law_692 (by decide) (fun _ => ?_) (fun z => absurd i1 z)
  refine W.widen (k := cells + 6) (n := slots + 60) (by omega) (by omega) ?_
  exact kk _ _ _ _ _ _ _ _ _ _ i2.symm (by rw [i2]; exact i3) Y
