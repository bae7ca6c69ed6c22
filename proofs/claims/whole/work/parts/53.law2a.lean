theorem nlt0 {z : Int32} {c : Int} (h : btw z 0 c) : ¬ z < 0 := by
  rw [fa_lt, i32_0]
  have := h.1
  omega
set_option maxRecDepth 100000 in
set_option maxHeartbeats 4000000 in
theorem lc_0 {p : Program} {l : Launch} {e : Env} {s : State} {m : MethodId} {below : List Frame} {meth : Method} {c : Code} {H : Heap} {locs : List Loc} {cells slots : Nat} {Q : State → Prop} {D : va_G} {cI cB : ClassId} {ad ab : Nat → Nat} {sb L : Nat} {xs : Nat → Int32} {a b : Nat → Nat} {k : Cf} {g h : Ss} {x : Tx} {v w : Fn} {y : Ky} {ls : Array Slot} {N : Nat} (C : LX p s m meth c D cI cB ad ab sb L xs) (hN : N < 512) (hi : 4 * N + 4 ≤ L) (hL : L ≤ 2048) (I : INV k g v x y N) (Y : WD D (fun q : Nat => s.heap.size ≤ q) s.heap H locs (wW cI cB a b k g h x k v w y)) (hl : lv_has ls 4 [(0, .ref sb), (1, .ref (a 0)), (2, .ref (b 0)), (3, .int (nI (4 * N)))]) (hc : cells + 6 ≤ 600000 ∧ slots + 60 ≤ 7302250)
    (kk : ∀ (k' : Cf) (g h : Ss) (x : Tx) (k : Cf) (v w : Fn) (y : Ky) (H : Heap) (locs : List Loc), k' = k → INV k g v x y (N + 1) → WD D (fun q : Nat => s.heap.size ≤ q) s.heap H locs (wW cI cB a b k' g h x k v w y) → W p l e room_1 s m #[Value.ref sb] below meth c H locs (cells + 6) (slots + 60) Q (F0 m 697 ls [])) : W p l e room_1 s m #[Value.ref sb] below meth c H locs cells slots Q (F0 m 156 ls []) := by
  obtain ⟨E, hr, hk, hX, hbl, hZ⟩ := C
  have hbA : ¬ (fun q : Nat => s.heap.size ≤ q) sb := Nat.not_le.mpr hbl
  refine lv_aload_n E.1.1 E.1.2.1 dL_law_156 rfl (lv_at hl 1 rfl) ?_
  refine lv_aload_n E.1.1 E.1.2.1 dL_law_157 rfl (lv_at hl 0 rfl) ?_
  refine lv_iload_n E.1.1 E.1.2.1 dL_law_158 rfl (lv_at hl 3 rfl) ?_
  refine lv_iconst (v := 1) E.1.1 E.1.2.1 dL_law_159 (by decide) ?_
  refine lv_iadd E.1.1 E.1.2.1 dL_law_160 ?_
  refine lv_cst (v := nI (4 * N + 1)) (nI_add (4 * N) 1) ?_
  refine va_sld E.1.1 E.1.2.1 hX hbl hbA Y.2.2 (vp_in_nI (by omega) (by omega)) dL_law_161 ?_
  refine lv_aload_n E.1.1 E.1.2.1 dL_law_162 rfl (lv_at hl 0 rfl) ?_
  refine lv_iload_n E.1.1 E.1.2.1 dL_law_163 rfl (lv_at hl 3 rfl) ?_
  refine lv_iconst (v := 2) E.1.1 E.1.2.1 dL_law_164 (by decide) ?_
  refine lv_iadd E.1.1 E.1.2.1 dL_law_165 ?_
  refine lv_cst (v := nI (4 * N + 2)) (nI_add (4 * N) 2) ?_
  refine va_sld E.1.1 E.1.2.1 hX hbl hbA Y.2.2 (vp_in_nI (by omega) (by omega)) dL_law_166 ?_
  refine r_6 (S := Cf × Ss) (fun u => u.1) (fun u => u.2) (fun _ => h) (fun _ => x) (As := [.int (xs (nI (4 * N + 1)).toNatClampNeg), .int (xs (nI (4 * N + 2)).toNatClampNeg)]) (rest := []) E Y hl.1 (c_X6_setVideo (a 0) (a 1) (a 2) (a 3) (a 4) (a 5) (a 6) (a 7) (a 8) (a 9) (a 10) (a 11) (a 12) (a 13) (a 14) (a 15) (a 16) (a 17) (a 18) (a 19) k g h x (xs (nI (4 * N + 1)).toNatClampNeg) (xs (nI (4 * N + 2)).toNatClampNeg)) lk_L_13 X0b (fun _ _ _ => trivial) ⟨Nat.le_of_ble_eq_true rfl, Nat.le_of_ble_eq_true rfl⟩ ⟨(show cells + 0 ≤ 600000 by omega), (show slots + 0 ≤ 7302250 by omega)⟩ rfl rfl (Nat.le_of_ble_eq_true rfl) dL_law_167 (fun ra ua H locs hpa Y => ?_)
  refine lv_aload_n E.1.1 E.1.2.1 dL_law_170 rfl (lv_at hl 2 rfl) ?_
  refine lv_aload_n E.1.1 E.1.2.1 dL_law_171 rfl (lv_at hl 0 rfl) ?_
  refine lv_iload_n E.1.1 E.1.2.1 dL_law_172 rfl (lv_at hl 3 rfl) ?_
  refine lv_iconst (v := 1) E.1.1 E.1.2.1 dL_law_173 (by decide) ?_
  refine lv_iadd E.1.1 E.1.2.1 dL_law_174 ?_
  refine lv_cst (v := nI (4 * N + 1)) (nI_add (4 * N) 1) ?_
  refine va_sld E.1.1 E.1.2.1 hX hbl hbA Y.2.2 (vp_in_nI (by omega) (by omega)) dL_law_175 ?_
  refine lv_aload_n E.1.1 E.1.2.1 dL_law_176 rfl (lv_at hl 0 rfl) ?_
  refine lv_iload_n E.1.1 E.1.2.1 dL_law_177 rfl (lv_at hl 3 rfl) ?_
  refine lv_iconst (v := 2) E.1.1 E.1.2.1 dL_law_178 (by decide) ?_
  refine lv_iadd E.1.1 E.1.2.1 dL_law_179 ?_
  refine lv_cst (v := nI (4 * N + 2)) (nI_add (4 * N) 2) ?_
  refine va_sld E.1.1 E.1.2.1 hX hbl hbA Y.2.2 (vp_in_nI (by omega) (by omega)) dL_law_180 ?_
  refine r_7 (S := Cf × Fn) (fun u => u.1) (fun u => u.2) (fun _ => w) (fun _ => y) (As := [.int (xs (nI (4 * N + 1)).toNatClampNeg), .int (xs (nI (4 * N + 2)).toNatClampNeg)]) (rest := [.int ra]) E Y hl.1 (c_X7_setVideo (b 0) (b 1) (b 2) (b 3) (b 4) (b 5) (b 6) (b 7) k v w y (xs (nI (4 * N + 1)).toNatClampNeg) (xs (nI (4 * N + 2)).toNatClampNeg)) lk_L_17 X0b (fun _ _ _ => trivial) ⟨Nat.le_of_ble_eq_true rfl, Nat.le_of_ble_eq_true rfl⟩ ⟨(show cells + 0 + 0 ≤ 600000 by omega), (show slots + 0 + 0 ≤ 7302250 by omega)⟩ rfl rfl (Nat.le_of_ble_eq_true rfl) dL_law_181 (fun rb ub H locs hpb Y => ?_)
  obtain ⟨rfl, rfl⟩ := hpa
  obtain ⟨rfl, rfl⟩ := hpb
  obtain ⟨i1, i2, i3⟩ := i_setVideo (p := (xs (nI (4 * N + 1)).toNatClampNeg)) (q := (xs (nI (4 * N + 2)).toNatClampNeg)) I
  refine lv_icmp_eq (tgt := 697) E.1.1 E.1.2.1 dL_law_184 (by decide) (fun _ => ?_) (fun z => absurd i1 z)
  refine W.widen (k := cells + 6) (n := slots + 60) (by omega) (by omega) ?_
  exact kk _ _ _ _ _ _ _ _ _ _ i2 i3 Y
set_option maxRecDepth 100000 in
set_option maxHeartbeats 4000000 in
theorem lc_1 {p : Program} {l : Launch} {e : Env} {s : State} {m : MethodId} {below : List Frame} {meth : Method} {c : Code} {H : Heap} {locs : List Loc} {cells slots : Nat} {Q : State → Prop} {D : va_G} {cI cB : ClassId} {ad ab : Nat → Nat} {sb L : Nat} {xs : Nat → Int32} {a b : Nat → Nat} {k : Cf} {g h : Ss} {x : Tx} {v w : Fn} {y : Ky} {ls : Array Slot} {N : Nat} (C : LX p s m meth c D cI cB ad ab sb L xs) (hN : N < 512) (hi : 4 * N + 4 ≤ L) (hL : L ≤ 2048) (I : INV k g v x y N) (Y : WD D (fun q : Nat => s.heap.size ≤ q) s.heap H locs (wW cI cB a b k g h x k v w y)) (hl : lv_has ls 4 [(0, .ref sb), (1, .ref (a 0)), (2, .ref (b 0)), (3, .int (nI (4 * N)))]) (hc : cells + 6 ≤ 600000 ∧ slots + 60 ≤ 7302250)
    (kk : ∀ (k' : Cf) (g h : Ss) (x : Tx) (k : Cf) (v w : Fn) (y : Ky) (H : Heap) (locs : List Loc), k' = k → INV k g v x y (N + 1) → WD D (fun q : Nat => s.heap.size ≤ q) s.heap H locs (wW cI cB a b k' g h x k v w y) → W p l e room_1 s m #[Value.ref sb] below meth c H locs (cells + 6) (slots + 60) Q (F0 m 697 ls [])) : W p l e room_1 s m #[Value.ref sb] below meth c H locs cells slots Q (F0 m 189 ls []) := by
  obtain ⟨E, hr, hk, hX, hbl, hZ⟩ := C
  have hbA : ¬ (fun q : Nat => s.heap.size ≤ q) sb := Nat.not_le.mpr hbl
  refine lv_aload_n E.1.1 E.1.2.1 dL_law_189 rfl (lv_at hl 1 rfl) ?_
  refine lv_aload_n E.1.1 E.1.2.1 dL_law_190 rfl (lv_at hl 0 rfl) ?_
  refine lv_iload_n E.1.1 E.1.2.1 dL_law_191 rfl (lv_at hl 3 rfl) ?_
  refine lv_iconst (v := 1) E.1.1 E.1.2.1 dL_law_192 (by decide) ?_
  refine lv_iadd E.1.1 E.1.2.1 dL_law_193 ?_
  refine lv_cst (v := nI (4 * N + 1)) (nI_add (4 * N) 1) ?_
  refine va_sld E.1.1 E.1.2.1 hX hbl hbA Y.2.2 (vp_in_nI (by omega) (by omega)) dL_law_194 ?_
  refine r_6 (S := Cf × Ss) (fun u => u.1) (fun u => u.2) (fun _ => h) (fun _ => x) (As := [.int (xs (nI (4 * N + 1)).toNatClampNeg)]) (rest := []) E Y hl.1 (c_X6_addLevel (a 0) (a 1) (a 2) (a 3) (a 4) (a 5) (a 6) (a 7) (a 8) (a 9) (a 10) (a 11) (a 12) (a 13) (a 14) (a 15) (a 16) (a 17) (a 18) (a 19) k g h x (xs (nI (4 * N + 1)).toNatClampNeg) (nlt0 I.1.2.2.1)) lk_L_18 X0b (fun _ _ _ => trivial) ⟨Nat.le_of_ble_eq_true rfl, Nat.le_of_ble_eq_true rfl⟩ ⟨(show cells + 0 ≤ 600000 by omega), (show slots + 0 ≤ 7302250 by omega)⟩ rfl rfl (Nat.le_of_ble_eq_true rfl) dL_law_195 (fun ra ua H locs hpa Y => ?_)
  refine lv_aload_n E.1.1 E.1.2.1 dL_law_198 rfl (lv_at hl 2 rfl) ?_
  refine lv_aload_n E.1.1 E.1.2.1 dL_law_199 rfl (lv_at hl 0 rfl) ?_
  refine lv_iload_n E.1.1 E.1.2.1 dL_law_200 rfl (lv_at hl 3 rfl) ?_
  refine lv_iconst (v := 1) E.1.1 E.1.2.1 dL_law_201 (by decide) ?_
  refine lv_iadd E.1.1 E.1.2.1 dL_law_202 ?_
  refine lv_cst (v := nI (4 * N + 1)) (nI_add (4 * N) 1) ?_
  refine va_sld E.1.1 E.1.2.1 hX hbl hbA Y.2.2 (vp_in_nI (by omega) (by omega)) dL_law_203 ?_
  refine r_7 (S := Cf × Fn) (fun u => u.1) (fun u => u.2) (fun _ => w) (fun _ => y) (As := [.int (xs (nI (4 * N + 1)).toNatClampNeg)]) (rest := [.int ra]) E Y hl.1 (c_X7_addLevel (b 0) (b 1) (b 2) (b 3) (b 4) (b 5) (b 6) (b 7) k v w y (xs (nI (4 * N + 1)).toNatClampNeg) I.1) lk_L_22 X0b (fun _ _ _ => trivial) ⟨Nat.le_of_ble_eq_true rfl, Nat.le_of_ble_eq_true rfl⟩ ⟨(show cells + 0 + 0 ≤ 600000 by omega), (show slots + 0 + 0 ≤ 7302250 by omega)⟩ rfl rfl (Nat.le_of_ble_eq_true rfl) dL_law_204 (fun rb ub H locs hpb Y => ?_)
  obtain ⟨rfl, rfl⟩ := hpa
  obtain ⟨rfl, rfl⟩ := hpb
  obtain ⟨i1, i2, i3⟩ := i_addLevel (p := (xs (nI (4 * N + 1)).toNatClampNeg)) I
  refine lv_icmp_eq (tgt := 697) E.1.1 E.1.2.1 dL_law_207 (by decide) (fun _ => ?_) (fun z => absurd i1 z)
  refine W.widen (k := cells + 6) (n := slots + 60) (by omega) (by omega) ?_
  exact kk _ _ _ _ _ _ _ _ _ _ i2 i3 Y
set_option maxRecDepth 100000 in
set_option maxHeartbeats 4000000 in
theorem lc_2 {p : Program} {l : Launch} {e : Env} {s : State} {m : MethodId} {below : List Frame} {meth : Method} {c : Code} {H : Heap} {locs : List Loc} {cells slots : Nat} {Q : State → Prop} {D : va_G} {cI cB : ClassId} {ad ab : Nat → Nat} {sb L : Nat} {xs : Nat → Int32} {a b : Nat → Nat} {k : Cf} {g h : Ss} {x : Tx} {v w : Fn} {y : Ky} {ls : Array Slot} {N : Nat} (C : LX p s m meth c D cI cB ad ab sb L xs) (hN : N < 512) (hi : 4 * N + 4 ≤ L) (hL : L ≤ 2048) (I : INV k g v x y N) (Y : WD D (fun q : Nat => s.heap.size ≤ q) s.heap H locs (wW cI cB a b k g h x k v w y)) (hl : lv_has ls 4 [(0, .ref sb), (1, .ref (a 0)), (2, .ref (b 0)), (3, .int (nI (4 * N)))]) (hc : cells + 6 ≤ 600000 ∧ slots + 60 ≤ 7302250)
    (kk : ∀ (k' : Cf) (g h : Ss) (x : Tx) (k : Cf) (v w : Fn) (y : Ky) (H : Heap) (locs : List Loc), k' = k → INV k g v x y (N + 1) → WD D (fun q : Nat => s.heap.size ≤ q) s.heap H locs (wW cI cB a b k' g h x k v w y) → W p l e room_1 s m #[Value.ref sb] below meth c H locs (cells + 6) (slots + 60) Q (F0 m 697 ls [])) : W p l e room_1 s m #[Value.ref sb] below meth c H locs cells slots Q (F0 m 212 ls []) := by
  obtain ⟨E, hr, hk, hX, hbl, hZ⟩ := C
  have hbA : ¬ (fun q : Nat => s.heap.size ≤ q) sb := Nat.not_le.mpr hbl
  refine lv_aload_n E.1.1 E.1.2.1 dL_law_212 rfl (lv_at hl 1 rfl) ?_
  refine lv_aload_n E.1.1 E.1.2.1 dL_law_213 rfl (lv_at hl 0 rfl) ?_
  refine lv_iload_n E.1.1 E.1.2.1 dL_law_214 rfl (lv_at hl 3 rfl) ?_
  refine lv_iconst (v := 1) E.1.1 E.1.2.1 dL_law_215 (by decide) ?_
  refine lv_iadd E.1.1 E.1.2.1 dL_law_216 ?_
  refine lv_cst (v := nI (4 * N + 1)) (nI_add (4 * N) 1) ?_
  refine va_sld E.1.1 E.1.2.1 hX hbl hbA Y.2.2 (vp_in_nI (by omega) (by omega)) dL_law_217 ?_
  refine lv_aload_n E.1.1 E.1.2.1 dL_law_218 rfl (lv_at hl 0 rfl) ?_
  refine lv_iload_n E.1.1 E.1.2.1 dL_law_219 rfl (lv_at hl 3 rfl) ?_
  refine lv_iconst (v := 2) E.1.1 E.1.2.1 dL_law_220 (by decide) ?_
  refine lv_iadd E.1.1 E.1.2.1 dL_law_221 ?_
  refine lv_cst (v := nI (4 * N + 2)) (nI_add (4 * N) 2) ?_
  refine va_sld E.1.1 E.1.2.1 hX hbl hbA Y.2.2 (vp_in_nI (by omega) (by omega)) dL_law_222 ?_
  refine r_6 (S := Cf) (fun u => u) (fun _ => g) (fun _ => h) (fun _ => x) (As := [.int (xs (nI (4 * N + 1)).toNatClampNeg), .int (xs (nI (4 * N + 2)).toNatClampNeg)]) (rest := []) E Y hl.1 (c_X6_setVariation (a 0) (a 1) (a 2) (a 3) (a 4) (a 5) (a 6) (a 7) (a 8) (a 9) (a 10) (a 11) (a 12) (a 13) (a 14) (a 15) (a 16) (a 17) (a 18) (a 19) k g h x (xs (nI (4 * N + 1)).toNatClampNeg) (xs (nI (4 * N + 2)).toNatClampNeg)) lk_L_23 X0b (fun _ _ _ => trivial) ⟨Nat.le_of_ble_eq_true rfl, Nat.le_of_ble_eq_true rfl⟩ ⟨(show cells + 0 ≤ 600000 by omega), (show slots + 0 ≤ 7302250 by omega)⟩ rfl rfl (Nat.le_of_ble_eq_true rfl) dL_law_223 (fun ra ua H locs hpa Y => ?_)
  refine lv_aload_n E.1.1 E.1.2.1 dL_law_226 rfl (lv_at hl 2 rfl) ?_
  refine lv_aload_n E.1.1 E.1.2.1 dL_law_227 rfl (lv_at hl 0 rfl) ?_
  refine lv_iload_n E.1.1 E.1.2.1 dL_law_228 rfl (lv_at hl 3 rfl) ?_
  refine lv_iconst (v := 1) E.1.1 E.1.2.1 dL_law_229 (by decide) ?_
  refine lv_iadd E.1.1 E.1.2.1 dL_law_230 ?_
  refine lv_cst (v := nI (4 * N + 1)) (nI_add (4 * N) 1) ?_
  refine va_sld E.1.1 E.1.2.1 hX hbl hbA Y.2.2 (vp_in_nI (by omega) (by omega)) dL_law_231 ?_
  refine lv_aload_n E.1.1 E.1.2.1 dL_law_232 rfl (lv_at hl 0 rfl) ?_
  refine lv_iload_n E.1.1 E.1.2.1 dL_law_233 rfl (lv_at hl 3 rfl) ?_
  refine lv_iconst (v := 2) E.1.1 E.1.2.1 dL_law_234 (by decide) ?_
  refine lv_iadd E.1.1 E.1.2.1 dL_law_235 ?_
  refine lv_cst (v := nI (4 * N + 2)) (nI_add (4 * N) 2) ?_
  refine va_sld E.1.1 E.1.2.1 hX hbl hbA Y.2.2 (vp_in_nI (by omega) (by omega)) dL_law_236 ?_
  refine r_7 (S := Cf) (fun u => u) (fun _ => v) (fun _ => w) (fun _ => y) (As := [.int (xs (nI (4 * N + 1)).toNatClampNeg), .int (xs (nI (4 * N + 2)).toNatClampNeg)]) (rest := [.int ra]) E Y hl.1 (c_X7_setVariation (b 0) (b 1) (b 2) (b 3) (b 4) (b 5) (b 6) (b 7) k v w y (xs (nI (4 * N + 1)).toNatClampNeg) (xs (nI (4 * N + 2)).toNatClampNeg) I.1) lk_L_26 X0b (fun _ _ _ => trivial) ⟨Nat.le_of_ble_eq_true rfl, Nat.le_of_ble_eq_true rfl⟩ ⟨(show cells + 0 + 0 ≤ 600000 by omega), (show slots + 0 + 0 ≤ 7302250 by omega)⟩ rfl rfl (Nat.le_of_ble_eq_true rfl) dL_law_237 (fun rb ub H locs hpb Y => ?_)
  obtain ⟨rfl, rfl⟩ := hpa
  obtain ⟨rfl, rfl⟩ := hpb
  obtain ⟨i1, i3⟩ := i_setVariation (p := (xs (nI (4 * N + 1)).toNatClampNeg)) (q := (xs (nI (4 * N + 2)).toNatClampNeg)) I
  refine lv_icmp_eq (tgt := 697) E.1.1 E.1.2.1 dL_law_240 (by decide) (fun _ => ?_) (fun z => absurd (congrArg Prod.fst i1) z)
  refine W.widen (k := cells + 6) (n := slots + 60) (by omega) (by omega) ?_
  exact kk _ _ _ _ _ _ _ _ _ _ (congrArg Prod.snd i1) i3 Y
set_option maxRecDepth 100000 in
set_option maxHeartbeats 4000000 in
theorem lc_3 {p : Program} {l : Launch} {e : Env} {s : State} {m : MethodId} {below : List Frame} {meth : Method} {c : Code} {H : Heap} {locs : List Loc} {cells slots : Nat} {Q : State → Prop} {D : va_G} {cI cB : ClassId} {ad ab : Nat → Nat} {sb L : Nat} {xs : Nat → Int32} {a b : Nat → Nat} {k : Cf} {g h : Ss} {x : Tx} {v w : Fn} {y : Ky} {ls : Array Slot} {N : Nat} (C : LX p s m meth c D cI cB ad ab sb L xs) (hN : N < 512) (hi : 4 * N + 4 ≤ L) (hL : L ≤ 2048) (I : INV k g v x y N) (Y : WD D (fun q : Nat => s.heap.size ≤ q) s.heap H locs (wW cI cB a b k g h x k v w y)) (hl : lv_has ls 4 [(0, .ref sb), (1, .ref (a 0)), (2, .ref (b 0)), (3, .int (nI (4 * N)))]) (hc : cells + 6 ≤ 600000 ∧ slots + 60 ≤ 7302250)
    (kk : ∀ (k' : Cf) (g h : Ss) (x : Tx) (k : Cf) (v w : Fn) (y : Ky) (H : Heap) (locs : List Loc), k' = k → INV k g v x y (N + 1) → WD D (fun q : Nat => s.heap.size ≤ q) s.heap H locs (wW cI cB a b k' g h x k v w y) → W p l e room_1 s m #[Value.ref sb] below meth c H locs (cells + 6) (slots + 60) Q (F0 m 697 ls [])) : W p l e room_1 s m #[Value.ref sb] below meth c H locs cells slots Q (F0 m 245 ls []) := by
  obtain ⟨E, hr, hk, hX, hbl, hZ⟩ := C
  have hbA : ¬ (fun q : Nat => s.heap.size ≤ q) sb := Nat.not_le.mpr hbl
  refine lv_aload_n E.1.1 E.1.2.1 dL_law_245 rfl (lv_at hl 1 rfl) ?_
  refine lv_aload_n E.1.1 E.1.2.1 dL_law_246 rfl (lv_at hl 0 rfl) ?_
  refine lv_iload_n E.1.1 E.1.2.1 dL_law_247 rfl (lv_at hl 3 rfl) ?_
  refine lv_iconst (v := 1) E.1.1 E.1.2.1 dL_law_248 (by decide) ?_
  refine lv_iadd E.1.1 E.1.2.1 dL_law_249 ?_
  refine lv_cst (v := nI (4 * N + 1)) (nI_add (4 * N) 1) ?_
  refine va_sld E.1.1 E.1.2.1 hX hbl hbA Y.2.2 (vp_in_nI (by omega) (by omega)) dL_law_250 ?_
  refine lv_aload_n E.1.1 E.1.2.1 dL_law_251 rfl (lv_at hl 0 rfl) ?_
  refine lv_iload_n E.1.1 E.1.2.1 dL_law_252 rfl (lv_at hl 3 rfl) ?_
  refine lv_iconst (v := 2) E.1.1 E.1.2.1 dL_law_253 (by decide) ?_
  refine lv_iadd E.1.1 E.1.2.1 dL_law_254 ?_
  refine lv_cst (v := nI (4 * N + 2)) (nI_add (4 * N) 2) ?_
  refine va_sld E.1.1 E.1.2.1 hX hbl hbA Y.2.2 (vp_in_nI (by omega) (by omega)) dL_law_255 ?_
  refine r_6 (S := Cf) (fun u => u) (fun _ => g) (fun _ => h) (fun _ => x) (As := [.int (xs (nI (4 * N + 1)).toNatClampNeg), .int (xs (nI (4 * N + 2)).toNatClampNeg)]) (rest := []) E Y hl.1 (c_X6_addPeriod (a 0) (a 1) (a 2) (a 3) (a 4) (a 5) (a 6) (a 7) (a 8) (a 9) (a 10) (a 11) (a 12) (a 13) (a 14) (a 15) (a 16) (a 17) (a 18) (a 19) k g h x (xs (nI (4 * N + 1)).toNatClampNeg) (xs (nI (4 * N + 2)).toNatClampNeg) (nlt0 I.1.2.2.2.1)) lk_L_27 X0b (fun _ _ _ => trivial) ⟨Nat.le_of_ble_eq_true rfl, Nat.le_of_ble_eq_true rfl⟩ ⟨(show cells + 0 ≤ 600000 by omega), (show slots + 0 ≤ 7302250 by omega)⟩ rfl rfl (Nat.le_of_ble_eq_true rfl) dL_law_256 (fun ra ua H locs hpa Y => ?_)
  refine lv_aload_n E.1.1 E.1.2.1 dL_law_259 rfl (lv_at hl 2 rfl) ?_
  refine lv_aload_n E.1.1 E.1.2.1 dL_law_260 rfl (lv_at hl 0 rfl) ?_
  refine lv_iload_n E.1.1 E.1.2.1 dL_law_261 rfl (lv_at hl 3 rfl) ?_
  refine lv_iconst (v := 1) E.1.1 E.1.2.1 dL_law_262 (by decide) ?_
  refine lv_iadd E.1.1 E.1.2.1 dL_law_263 ?_
  refine lv_cst (v := nI (4 * N + 1)) (nI_add (4 * N) 1) ?_
  refine va_sld E.1.1 E.1.2.1 hX hbl hbA Y.2.2 (vp_in_nI (by omega) (by omega)) dL_law_264 ?_
  refine lv_aload_n E.1.1 E.1.2.1 dL_law_265 rfl (lv_at hl 0 rfl) ?_
  refine lv_iload_n E.1.1 E.1.2.1 dL_law_266 rfl (lv_at hl 3 rfl) ?_
  refine lv_iconst (v := 2) E.1.1 E.1.2.1 dL_law_267 (by decide) ?_
  refine lv_iadd E.1.1 E.1.2.1 dL_law_268 ?_
  refine lv_cst (v := nI (4 * N + 2)) (nI_add (4 * N) 2) ?_
  refine va_sld E.1.1 E.1.2.1 hX hbl hbA Y.2.2 (vp_in_nI (by omega) (by omega)) dL_law_269 ?_
  refine r_7 (S := Cf) (fun u => u) (fun _ => v) (fun _ => w) (fun _ => y) (As := [.int (xs (nI (4 * N + 1)).toNatClampNeg), .int (xs (nI (4 * N + 2)).toNatClampNeg)]) (rest := [.int ra]) E Y hl.1 (c_X7_addPeriod (b 0) (b 1) (b 2) (b 3) (b 4) (b 5) (b 6) (b 7) k v w y (xs (nI (4 * N + 1)).toNatClampNeg) (xs (nI (4 * N + 2)).toNatClampNeg) I.1) lk_L_30 X0b (fun _ _ _ => trivial) ⟨Nat.le_of_ble_eq_true rfl, Nat.le_of_ble_eq_true rfl⟩ ⟨(show cells + 0 + 0 ≤ 600000 by omega), (show slots + 0 + 0 ≤ 7302250 by omega)⟩ rfl rfl (Nat.le_of_ble_eq_true rfl) dL_law_270 (fun rb ub H locs hpb Y => ?_)
  obtain ⟨rfl, rfl⟩ := hpa
  obtain ⟨rfl, rfl⟩ := hpb
  obtain ⟨i1, i3⟩ := i_addPeriod (p := (xs (nI (4 * N + 1)).toNatClampNeg)) (q := (xs (nI (4 * N + 2)).toNatClampNeg)) I
  refine lv_icmp_eq (tgt := 697) E.1.1 E.1.2.1 dL_law_273 (by decide) (fun _ => ?_) (fun z => absurd (congrArg Prod.fst i1) z)
  refine W.widen (k := cells + 6) (n := slots + 60) (by omega) (by omega) ?_
  exact kk _ _ _ _ _ _ _ _ _ _ (congrArg Prod.snd i1) i3 Y
set_option maxRecDepth 100000 in
set_option maxHeartbeats 4000000 in
theorem lc_4 {p : Program} {l : Launch} {e : Env} {s : State} {m : MethodId} {below : List Frame} {meth : Method} {c : Code} {H : Heap} {locs : List Loc} {cells slots : Nat} {Q : State → Prop} {D : va_G} {cI cB : ClassId} {ad ab : Nat → Nat} {sb L : Nat} {xs : Nat → Int32} {a b : Nat → Nat} {k : Cf} {g h : Ss} {x : Tx} {v w : Fn} {y : Ky} {ls : Array Slot} {N : Nat} (C : LX p s m meth c D cI cB ad ab sb L xs) (hN : N < 512) (hi : 4 * N + 4 ≤ L) (hL : L ≤ 2048) (I : INV k g v x y N) (Y : WD D (fun q : Nat => s.heap.size ≤ q) s.heap H locs (wW cI cB a b k g h x k v w y)) (hl : lv_has ls 4 [(0, .ref sb), (1, .ref (a 0)), (2, .ref (b 0)), (3, .int (nI (4 * N)))]) (hc : cells + 6 ≤ 600000 ∧ slots + 60 ≤ 7302250)
    (kk : ∀ (k' : Cf) (g h : Ss) (x : Tx) (k : Cf) (v w : Fn) (y : Ky) (H : Heap) (locs : List Loc), k' = k → INV k g v x y (N + 1) → WD D (fun q : Nat => s.heap.size ≤ q) s.heap H locs (wW cI cB a b k' g h x k v w y) → W p l e room_1 s m #[Value.ref sb] below meth c H locs (cells + 6) (slots + 60) Q (F0 m 697 ls [])) : W p l e room_1 s m #[Value.ref sb] below meth c H locs cells slots Q (F0 m 278 ls []) := by
  obtain ⟨E, hr, hk, hX, hbl, hZ⟩ := C
  have hbA : ¬ (fun q : Nat => s.heap.size ≤ q) sb := Nat.not_le.mpr hbl
  refine lv_aload_n E.1.1 E.1.2.1 dL_law_278 rfl (lv_at hl 1 rfl) ?_
  refine lv_aload_n E.1.1 E.1.2.1 dL_law_279 rfl (lv_at hl 0 rfl) ?_
  refine lv_iload_n E.1.1 E.1.2.1 dL_law_280 rfl (lv_at hl 3 rfl) ?_
  refine lv_iconst (v := 1) E.1.1 E.1.2.1 dL_law_281 (by decide) ?_
  refine lv_iadd E.1.1 E.1.2.1 dL_law_282 ?_
  refine lv_cst (v := nI (4 * N + 1)) (nI_add (4 * N) 1) ?_
  refine va_sld E.1.1 E.1.2.1 hX hbl hbA Y.2.2 (vp_in_nI (by omega) (by omega)) dL_law_283 ?_
  refine lv_aload_n E.1.1 E.1.2.1 dL_law_284 rfl (lv_at hl 0 rfl) ?_
  refine lv_iload_n E.1.1 E.1.2.1 dL_law_285 rfl (lv_at hl 3 rfl) ?_
  refine lv_iconst (v := 2) E.1.1 E.1.2.1 dL_law_286 (by decide) ?_
  refine lv_iadd E.1.1 E.1.2.1 dL_law_287 ?_
  refine lv_cst (v := nI (4 * N + 2)) (nI_add (4 * N) 2) ?_
  refine va_sld E.1.1 E.1.2.1 hX hbl hbA Y.2.2 (vp_in_nI (by omega) (by omega)) dL_law_288 ?_
  refine r_6 (S := Cf) (fun u => u) (fun _ => g) (fun _ => h) (fun _ => x) (As := [.int (xs (nI (4 * N + 1)).toNatClampNeg), .int (xs (nI (4 * N + 2)).toNatClampNeg)]) (rest := []) E Y hl.1 (c_X6_setBuffer (a 0) (a 1) (a 2) (a 3) (a 4) (a 5) (a 6) (a 7) (a 8) (a 9) (a 10) (a 11) (a 12) (a 13) (a 14) (a 15) (a 16) (a 17) (a 18) (a 19) k g h x (xs (nI (4 * N + 1)).toNatClampNeg) (xs (nI (4 * N + 2)).toNatClampNeg)) lk_L_31 X0b (fun _ _ _ => trivial) ⟨Nat.le_of_ble_eq_true rfl, Nat.le_of_ble_eq_true rfl⟩ ⟨(show cells + 0 ≤ 600000 by omega), (show slots + 0 ≤ 7302250 by omega)⟩ rfl rfl (Nat.le_of_ble_eq_true rfl) dL_law_289 (fun ra ua H locs hpa Y => ?_)
  refine lv_aload_n E.1.1 E.1.2.1 dL_law_292 rfl (lv_at hl 2 rfl) ?_
  refine lv_aload_n E.1.1 E.1.2.1 dL_law_293 rfl (lv_at hl 0 rfl) ?_
  refine lv_iload_n E.1.1 E.1.2.1 dL_law_294 rfl (lv_at hl 3 rfl) ?_
  refine lv_iconst (v := 1) E.1.1 E.1.2.1 dL_law_295 (by decide) ?_
  refine lv_iadd E.1.1 E.1.2.1 dL_law_296 ?_
  refine lv_cst (v := nI (4 * N + 1)) (nI_add (4 * N) 1) ?_
  refine va_sld E.1.1 E.1.2.1 hX hbl hbA Y.2.2 (vp_in_nI (by omega) (by omega)) dL_law_297 ?_
  refine lv_aload_n E.1.1 E.1.2.1 dL_law_298 rfl (lv_at hl 0 rfl) ?_
  refine lv_iload_n E.1.1 E.1.2.1 dL_law_299 rfl (lv_at hl 3 rfl) ?_
  refine lv_iconst (v := 2) E.1.1 E.1.2.1 dL_law_300 (by decide) ?_
  refine lv_iadd E.1.1 E.1.2.1 dL_law_301 ?_
  refine lv_cst (v := nI (4 * N + 2)) (nI_add (4 * N) 2) ?_
  refine va_sld E.1.1 E.1.2.1 hX hbl hbA Y.2.2 (vp_in_nI (by omega) (by omega)) dL_law_302 ?_
  refine r_7 (S := Cf) (fun u => u) (fun _ => v) (fun _ => w) (fun _ => y) (As := [.int (xs (nI (4 * N + 1)).toNatClampNeg), .int (xs (nI (4 * N + 2)).toNatClampNeg)]) (rest := [.int ra]) E Y hl.1 (c_X7_setBuffer (b 0) (b 1) (b 2) (b 3) (b 4) (b 5) (b 6) (b 7) k v w y (xs (nI (4 * N + 1)).toNatClampNeg) (xs (nI (4 * N + 2)).toNatClampNeg)) lk_L_34 X0b (fun _ _ _ => trivial) ⟨Nat.le_of_ble_eq_true rfl, Nat.le_of_ble_eq_true rfl⟩ ⟨(show cells + 0 + 0 ≤ 600000 by omega), (show slots + 0 + 0 ≤ 7302250 by omega)⟩ rfl rfl (Nat.le_of_ble_eq_true rfl) dL_law_303 (fun rb ub H locs hpb Y => ?_)
  obtain ⟨rfl, rfl⟩ := hpa
  obtain ⟨rfl, rfl⟩ := hpb
  obtain ⟨i1, i3⟩ := i_setBuffer (p := (xs (nI (4 * N + 1)).toNatClampNeg)) (q := (xs (nI (4 * N + 2)).toNatClampNeg)) I
  refine lv_icmp_eq (tgt := 697) E.1.1 E.1.2.1 dL_law_306 (by decide) (fun _ => ?_) (fun z => absurd (congrArg Prod.fst i1) z)
  refine W.widen (k := cells + 6) (n := slots + 60) (by omega) (by omega) ?_
  exact kk _ _ _ _ _ _ _ _ _ _ (congrArg Prod.snd i1) i3 Y
set_option maxRecDepth 100000 in
set_option maxHeartbeats 4000000 in
theorem lc_5 {p : Program} {l : Launch} {e : Env} {s : State} {m : MethodId} {below : List Frame} {meth : Method} {c : Code} {H : Heap} {locs : List Loc} {cells slots : Nat} {Q : State → Prop} {D : va_G} {cI cB : ClassId} {ad ab : Nat → Nat} {sb L : Nat} {xs : Nat → Int32} {a b : Nat → Nat} {k : Cf} {g h : Ss} {x : Tx} {v w : Fn} {y : Ky} {ls : Array Slot} {N : Nat} (C : LX p s m meth c D cI cB ad ab sb L xs) (hN : N < 512) (hi : 4 * N + 4 ≤ L) (hL : L ≤ 2048) (I : INV k g v x y N) (Y : WD D (fun q : Nat => s.heap.size ≤ q) s.heap H locs (wW cI cB a b k g h x k v w y)) (hl : lv_has ls 4 [(0, .ref sb), (1, .ref (a 0)), (2, .ref (b 0)), (3, .int (nI (4 * N)))]) (hc : cells + 6 ≤ 600000 ∧ slots + 60 ≤ 7302250)
    (kk : ∀ (k' : Cf) (g h : Ss) (x : Tx) (k : Cf) (v w : Fn) (y : Ky) (H : Heap) (locs : List Loc), k' = k → INV k g v x y (N + 1) → WD D (fun q : Nat => s.heap.size ≤ q) s.heap H locs (wW cI cB a b k' g h x k v w y) → W p l e room_1 s m #[Value.ref sb] below meth c H locs (cells + 6) (slots + 60) Q (F0 m 697 ls [])) : W p l e room_1 s m #[Value.ref sb] below meth c H locs cells slots Q (F0 m 311 ls []) := by
  obtain ⟨E, hr, hk, hX, hbl, hZ⟩ := C
  have hbA : ¬ (fun q : Nat => s.heap.size ≤ q) sb := Nat.not_le.mpr hbl
  refine lv_aload_n E.1.1 E.1.2.1 dL_law_311 rfl (lv_at hl 1 rfl) ?_
  refine lv_aload_n E.1.1 E.1.2.1 dL_law_312 rfl (lv_at hl 0 rfl) ?_
  refine lv_iload_n E.1.1 E.1.2.1 dL_law_313 rfl (lv_at hl 3 rfl) ?_
  refine lv_iconst (v := 1) E.1.1 E.1.2.1 dL_law_314 (by decide) ?_
  refine lv_iadd E.1.1 E.1.2.1 dL_law_315 ?_
  refine lv_cst (v := nI (4 * N + 1)) (nI_add (4 * N) 1) ?_
  refine va_sld E.1.1 E.1.2.1 hX hbl hbA Y.2.2 (vp_in_nI (by omega) (by omega)) dL_law_316 ?_
  refine lv_aload_n E.1.1 E.1.2.1 dL_law_317 rfl (lv_at hl 0 rfl) ?_
  refine lv_iload_n E.1.1 E.1.2.1 dL_law_318 rfl (lv_at hl 3 rfl) ?_
  refine lv_iconst (v := 2) E.1.1 E.1.2.1 dL_law_319 (by decide) ?_
  refine lv_iadd E.1.1 E.1.2.1 dL_law_320 ?_
  refine lv_cst (v := nI (4 * N + 2)) (nI_add (4 * N) 2) ?_
  refine va_sld E.1.1 E.1.2.1 hX hbl hbA Y.2.2 (vp_in_nI (by omega) (by omega)) dL_law_321 ?_
  refine lv_aload_n E.1.1 E.1.2.1 dL_law_322 rfl (lv_at hl 0 rfl) ?_
  refine lv_iload_n E.1.1 E.1.2.1 dL_law_323 rfl (lv_at hl 3 rfl) ?_
  refine lv_iconst (v := 3) E.1.1 E.1.2.1 dL_law_324 (by decide) ?_
  refine lv_iadd E.1.1 E.1.2.1 dL_law_325 ?_
  refine lv_cst (v := nI (4 * N + 3)) (nI_add (4 * N) 3) ?_
  refine va_sld E.1.1 E.1.2.1 hX hbl hbA Y.2.2 (vp_in_nI (by omega) (by omega)) dL_law_326 ?_
  refine r_6 (S := Cf) (fun u => u) (fun _ => g) (fun _ => h) (fun _ => x) (As := [.int (xs (nI (4 * N + 1)).toNatClampNeg), .int (xs (nI (4 * N + 2)).toNatClampNeg), .int (xs (nI (4 * N + 3)).toNatClampNeg)]) (rest := []) E Y hl.1 (c_X6_setPolicyNumbers (a 0) (a 1) (a 2) (a 3) (a 4) (a 5) (a 6) (a 7) (a 8) (a 9) (a 10) (a 11) (a 12) (a 13) (a 14) (a 15) (a 16) (a 17) (a 18) (a 19) k g h x (xs (nI (4 * N + 1)).toNatClampNeg) (xs (nI (4 * N + 2)).toNatClampNeg) (xs (nI (4 * N + 3)).toNatClampNeg)) lk_L_35 X0b (fun _ _ _ => trivial) ⟨Nat.le_of_ble_eq_true rfl, Nat.le_of_ble_eq_true rfl⟩ ⟨(show cells + 0 ≤ 600000 by omega), (show slots + 0 ≤ 7302250 by omega)⟩ rfl rfl (Nat.le_of_ble_eq_true rfl) dL_law_327 (fun ra ua H locs hpa Y => ?_)
  refine lv_aload_n E.1.1 E.1.2.1 dL_law_330 rfl (lv_at hl 2 rfl) ?_
  refine lv_aload_n E.1.1 E.1.2.1 dL_law_331 rfl (lv_at hl 0 rfl) ?_
  refine lv_iload_n E.1.1 E.1.2.1 dL_law_332 rfl (lv_at hl 3 rfl) ?_
  refine lv_iconst (v := 1) E.1.1 E.1.2.1 dL_law_333 (by decide) ?_
  refine lv_iadd E.1.1 E.1.2.1 dL_law_334 ?_
  refine lv_cst (v := nI (4 * N + 1)) (nI_add (4 * N) 1) ?_
  refine va_sld E.1.1 E.1.2.1 hX hbl hbA Y.2.2 (vp_in_nI (by omega) (by omega)) dL_law_335 ?_
  refine lv_aload_n E.1.1 E.1.2.1 dL_law_336 rfl (lv_at hl 0 rfl) ?_
  refine lv_iload_n E.1.1 E.1.2.1 dL_law_337 rfl (lv_at hl 3 rfl) ?_
  refine lv_iconst (v := 2) E.1.1 E.1.2.1 dL_law_338 (by decide) ?_
  refine lv_iadd E.1.1 E.1.2.1 dL_law_339 ?_
  refine lv_cst (v := nI (4 * N + 2)) (nI_add (4 * N) 2) ?_
  refine va_sld E.1.1 E.1.2.1 hX hbl hbA Y.2.2 (vp_in_nI (by omega) (by omega)) dL_law_340 ?_
  refine lv_aload_n E.1.1 E.1.2.1 dL_law_341 rfl (lv_at hl 0 rfl) ?_
  refine lv_iload_n E.1.1 E.1.2.1 dL_law_342 rfl (lv_at hl 3 rfl) ?_
  refine lv_iconst (v := 3) E.1.1 E.1.2.1 dL_law_343 (by decide) ?_
  refine lv_iadd E.1.1 E.1.2.1 dL_law_344 ?_
  refine lv_cst (v := nI (4 * N + 3)) (nI_add (4 * N) 3) ?_
  refine va_sld E.1.1 E.1.2.1 hX hbl hbA Y.2.2 (vp_in_nI (by omega) (by omega)) dL_law_345 ?_
  refine r_7 (S := Cf) (fun u => u) (fun _ => v) (fun _ => w) (fun _ => y) (As := [.int (xs (nI (4 * N + 1)).toNatClampNeg), .int (xs (nI (4 * N + 2)).toNatClampNeg), .int (xs (nI (4 * N + 3)).toNatClampNeg)]) (rest := [.int ra]) E Y hl.1 (c_X7_setPolicyNumbers (b 0) (b 1) (b 2) (b 3) (b 4) (b 5) (b 6) (b 7) k v w y (xs (nI (4 * N + 1)).toNatClampNeg) (xs (nI (4 * N + 2)).toNatClampNeg) (xs (nI (4 * N + 3)).toNatClampNeg)) lk_L_39 X0b (fun _ _ _ => trivial) ⟨Nat.le_of_ble_eq_true rfl, Nat.le_of_ble_eq_true rfl⟩ ⟨(show cells + 0 + 0 ≤ 600000 by omega), (show slots + 0 + 0 ≤ 7302250 by omega)⟩ rfl rfl (Nat.le_of_ble_eq_true rfl) dL_law_346 (fun rb ub H locs hpb Y => ?_)
  obtain ⟨rfl, rfl⟩ := hpa
  obtain ⟨rfl, rfl⟩ := hpb
  obtain ⟨i1, i3⟩ := i_setPolicyNumbers (p := (xs (nI (4 * N + 1)).toNatClampNeg)) (q := (xs (nI (4 * N + 2)).toNatClampNeg)) (r := (xs (nI (4 * N + 3)).toNatClampNeg)) I
  refine lv_icmp_eq (tgt := 697) E.1.1 E.1.2.1 dL_law_349 (by decide) (fun _ => ?_) (fun z => absurd (congrArg Prod.fst i1) z)
  refine W.widen (k := cells + 6) (n := slots + 60) (by omega) (by omega) ?_
  exact kk _ _ _ _ _ _ _ _ _ _ (congrArg Prod.snd i1) i3 Y
set_option maxRecDepth 100000 in
set_option maxHeartbeats 4000000 in
theorem lc_6 {p : Program} {l : Launch} {e : Env} {s : State} {m : MethodId} {below : List Frame} {meth : Method} {c : Code} {H : Heap} {locs : List Loc} {cells slots : Nat} {Q : State → Prop} {D : va_G} {cI cB : ClassId} {ad ab : Nat → Nat} {sb L : Nat} {xs : Nat → Int32} {a b : Nat → Nat} {k : Cf} {g h : Ss} {x : Tx} {v w : Fn} {y : Ky} {ls : Array Slot} {N : Nat} (C : LX p s m meth c D cI cB ad ab sb L xs) (hN : N < 512) (hi : 4 * N + 4 ≤ L) (hL : L ≤ 2048) (I : INV k g v x y N) (Y : WD D (fun q : Nat => s.heap.size ≤ q) s.heap H locs (wW cI cB a b k g h x k v w y)) (hl : lv_has ls 4 [(0, .ref sb), (1, .ref (a 0)), (2, .ref (b 0)), (3, .int (nI (4 * N)))]) (hc : cells + 6 ≤ 600000 ∧ slots + 60 ≤ 7302250)
    (kk : ∀ (k' : Cf) (g h : Ss) (x : Tx) (k : Cf) (v w : Fn) (y : Ky) (H : Heap) (locs : List Loc), k' = k → INV k g v x y (N + 1) → WD D (fun q : Nat => s.heap.size ≤ q) s.heap H locs (wW cI cB a b k' g h x k v w y) → W p l e room_1 s m #[Value.ref sb] below meth c H locs (cells + 6) (slots + 60) Q (F0 m 697 ls [])) : W p l e room_1 s m #[Value.ref sb] below meth c H locs cells slots Q (F0 m 354 ls []) := by
  obtain ⟨E, hr, hk, hX, hbl, hZ⟩ := C
  have hbA : ¬ (fun q : Nat => s.heap.size ≤ q) sb := Nat.not_le.mpr hbl
  refine lv_aload_n E.1.1 E.1.2.1 dL_law_354 rfl (lv_at hl 1 rfl) ?_
  refine lv_aload_n E.1.1 E.1.2.1 dL_law_355 rfl (lv_at hl 0 rfl) ?_
  refine lv_iload_n E.1.1 E.1.2.1 dL_law_356 rfl (lv_at hl 3 rfl) ?_
  refine lv_iconst (v := 1) E.1.1 E.1.2.1 dL_law_357 (by decide) ?_
  refine lv_iadd E.1.1 E.1.2.1 dL_law_358 ?_
  refine lv_cst (v := nI (4 * N + 1)) (nI_add (4 * N) 1) ?_
  refine va_sld E.1.1 E.1.2.1 hX hbl hbA Y.2.2 (vp_in_nI (by omega) (by omega)) dL_law_359 ?_
  obtain ⟨mw, h16, hmx, hmy, hsm, hb⟩ := id I.2.2.2.2
  have hx16 : btw (x.1 0) 0 16 := by rw [hmx]; exact ⟨by rw [nI_toInt (by omega)]; omega, by rw [nI_toInt (by omega)]; omega⟩
  have hy16 : btw (y.1 0) 0 16 := by rw [hmy]; exact ⟨by rw [nI_toInt (by omega)]; omega, by rw [nI_toInt (by omega)]; omega⟩
  refine r_6 (S := Tx) (fun _ => k) (fun _ => g) (fun _ => h) (fun u => u) (As := [.int (xs (nI (4 * N + 1)).toNatClampNeg)]) (rest := []) E Y hl.1 (c_X6_typeKey ad ab (a 0) (a 1) (a 2) (a 3) (a 4) (a 5) (a 6) (a 7) (a 8) (a 9) (a 10) (a 11) (a 12) (a 13) (a 14) (a 15) (a 16) (a 17) (a 18) (a 19) k g h x (xs (nI (4 * N + 1)).toNatClampNeg) hx16) lk_L_40 xbZ (fun U hU hW => hZ.pass Y.2.2 hU hW (va_free Y.2.1 Y.2.2 law_A [0, 1, 2, 3, 4, 5, 6, 7, 8, 9, 10, 11, 12, 13, 14, 15, 16, 17, 18, 19] rfl)) ⟨Nat.le_of_ble_eq_true rfl, Nat.le_of_ble_eq_true rfl⟩ ⟨(show cells + 0 ≤ 600000 by omega), (show slots + 0 ≤ 7302250 by omega)⟩ rfl rfl (Nat.le_of_ble_eq_true rfl) dL_law_360 (fun ra ua H locs hpa Y => ?_)
  refine lv_aload_n E.1.1 E.1.2.1 dL_law_363 rfl (lv_at hl 2 rfl) ?_
  refine lv_aload_n E.1.1 E.1.2.1 dL_law_364 rfl (lv_at hl 0 rfl) ?_
  refine lv_iload_n E.1.1 E.1.2.1 dL_law_365 rfl (lv_at hl 3 rfl) ?_
  refine lv_iconst (v := 1) E.1.1 E.1.2.1 dL_law_366 (by decide) ?_
  refine lv_iadd E.1.1 E.1.2.1 dL_law_367 ?_
  refine lv_cst (v := nI (4 * N + 1)) (nI_add (4 * N) 1) ?_
  refine va_sld E.1.1 E.1.2.1 hX hbl hbA Y.2.2 (vp_in_nI (by omega) (by omega)) dL_law_368 ?_
  refine r_7 (S := Ky) (fun _ => k) (fun _ => v) (fun _ => w) (fun u => u) (As := [.int (xs (nI (4 * N + 1)).toNatClampNeg)]) (rest := [.int ra]) E Y hl.1 (c_X7_typeKey (b 0) (b 1) (b 2) (b 3) (b 4) (b 5) (b 6) (b 7) k v w y (xs (nI (4 * N + 1)).toNatClampNeg) hy16) lk_L_43 X0b (fun _ _ _ => trivial) ⟨Nat.le_of_ble_eq_true rfl, Nat.le_of_ble_eq_true rfl⟩ ⟨(show cells + 0 + 0 ≤ 600000 by omega), (show slots + 0 + 0 ≤ 7302250 by omega)⟩ rfl rfl (Nat.le_of_ble_eq_true rfl) dL_law_369 (fun rb ub H locs hpb Y => ?_)
  obtain ⟨rfl, rfl⟩ := hpa
  obtain ⟨rfl, rfl⟩ := hpb
  obtain ⟨i1, i3⟩ := i_typeKey (p := (xs (nI (4 * N + 1)).toNatClampNeg)) I
  refine lv_icmp_eq (tgt := 697) E.1.1 E.1.2.1 dL_law_372 (by decide) (fun _ => ?_) (fun z => absurd i1 z)
  refine W.widen (k := cells + 6) (n := slots + 60) (by omega) (by omega) ?_
  exact kk _ _ _ _ _ _ _ _ _ _ rfl i3 Y
set_option maxRecDepth 100000 in
set_option maxHeartbeats 4000000 in
theorem lc_7 {p : Program} {l : Launch} {e : Env} {s : State} {m : MethodId} {below : List Frame} {meth : Method} {c : Code} {H : Heap} {locs : List Loc} {cells slots : Nat} {Q : State → Prop} {D : va_G} {cI cB : ClassId} {ad ab : Nat → Nat} {sb L : Nat} {xs : Nat → Int32} {a b : Nat → Nat} {k : Cf} {g h : Ss} {x : Tx} {v w : Fn} {y : Ky} {ls : Array Slot} {N : Nat} (C : LX p s m meth c D cI cB ad ab sb L xs) (hN : N < 512) (hi : 4 * N + 4 ≤ L) (hL : L ≤ 2048) (I : INV k g v x y N) (Y : WD D (fun q : Nat => s.heap.size ≤ q) s.heap H locs (wW cI cB a b k g h x k v w y)) (hl : lv_has ls 4 [(0, .ref sb), (1, .ref (a 0)), (2, .ref (b 0)), (3, .int (nI (4 * N)))]) (hc : cells + 6 ≤ 600000 ∧ slots + 60 ≤ 7302250)
    (kk : ∀ (k' : Cf) (g h : Ss) (x : Tx) (k : Cf) (v w : Fn) (y : Ky) (H : Heap) (locs : List Loc), k' = k → INV k g v x y (N + 1) → WD D (fun q : Nat => s.heap.size ≤ q) s.heap H locs (wW cI cB a b k' g h x k v w y) → W p l e room_1 s m #[Value.ref sb] below meth c H locs (cells + 6) (slots + 60) Q (F0 m 697 ls [])) : W p l e room_1 s m #[Value.ref sb] below meth c H locs cells slots Q (F0 m 377 ls []) := by
  obtain ⟨E, hr, hk, hX, hbl, hZ⟩ := C
  have hbA : ¬ (fun q : Nat => s.heap.size ≤ q) sb := Nat.not_le.mpr hbl
  refine lv_aload_n E.1.1 E.1.2.1 dL_law_377 rfl (lv_at hl 1 rfl) ?_
  obtain ⟨mw, h16, hmx, hmy, hsm, hb⟩ := id I.2.2.2.2
  have hx16 : btw (x.1 0) 0 16 := by rw [hmx]; exact ⟨by rw [nI_toInt (by omega)]; omega, by rw [nI_toInt (by omega)]; omega⟩
  have hy16 : btw (y.1 0) 0 16 := by rw [hmy]; exact ⟨by rw [nI_toInt (by omega)]; omega, by rw [nI_toInt (by omega)]; omega⟩
  refine r_6 (S := Int32 × Cf × Ss) (fun u => u.2.1) (fun u => u.2.2) (fun _ => h) (fun u => (upd (upd x.1 0 0) 1 u.1, x.2)) (As := []) (rest := []) E Y hl.1 (c_X6_runCommand ad ab (a 0) (a 1) (a 2) (a 3) (a 4) (a 5) (a 6) (a 7) (a 8) (a 9) (a 10) (a 11) (a 12) (a 13) (a 14) (a 15) (a 16) (a 17) (a 18) (a 19) k g h x mw hmx h16 hb) lk_L_44 xbZ (fun U hU hW => hZ.pass Y.2.2 hU hW (va_free Y.2.1 Y.2.2 law_A [0, 1, 2, 3, 4, 5, 6, 7, 8, 9, 10, 11, 12, 13, 14, 15, 16, 17, 18, 19] rfl)) ⟨Nat.le_of_ble_eq_true rfl, Nat.le_of_ble_eq_true rfl⟩ ⟨(show cells + 6 ≤ 600000 by omega), (show slots + 60 ≤ 7302250 by omega)⟩ rfl rfl (Nat.le_of_ble_eq_true rfl) dL_law_378 (fun ra ua H locs hpa Y => ?_)
  refine lv_aload_n E.1.1 E.1.2.1 dL_law_381 rfl (lv_at hl 2 rfl) ?_
  refine r_7 (S := Cf × Fn × Ky) (fun u => u.1) (fun u => u.2.1) (fun _ => w) (fun u => u.2.2) (As := []) (rest := [.int ra]) E Y hl.1 (c_X7_runCommand (b 0) (b 1) (b 2) (b 3) (b 4) (b 5) (b 6) (b 7) k v w y hy16) lk_L_48 X0b (fun _ _ _ => trivial) ⟨Nat.le_of_ble_eq_true rfl, Nat.le_of_ble_eq_true rfl⟩ ⟨(show cells + 6 + 0 ≤ 600000 by omega), (show slots + 60 + 0 ≤ 7302250 by omega)⟩ rfl rfl (Nat.le_of_ble_eq_true rfl) dL_law_382 (fun rb ub H locs hpb Y => ?_)
  obtain ⟨zn, ua2⟩ := ua
  have hpa : ra = _ ∧ ua2 = _ := hpa
  obtain ⟨rfl, rfl⟩ := hpa
  obtain ⟨rfl, rfl⟩ := hpb
  obtain ⟨i1, i2, i3⟩ := i_runCommand I hmx h16 zn
  refine lv_icmp_eq (tgt := 697) E.1.1 E.1.2.1 dL_law_385 (by decide) (fun _ => ?_) (fun z => absurd i1 z)
  refine W.widen (k := cells + 6) (n := slots + 60) (by omega) (by omega) ?_
  exact kk _ _ _ _ _ _ _ _ _ _ i2 i3 Y
set_option maxRecDepth 100000 in
set_option maxHeartbeats 4000000 in
theorem lc_8 {p : Program} {l : Launch} {e : Env} {s : State} {m : MethodId} {below : List Frame} {meth : Method} {c : Code} {H : Heap} {locs : List Loc} {cells slots : Nat} {Q : State → Prop} {D : va_G} {cI cB : ClassId} {ad ab : Nat → Nat} {sb L : Nat} {xs : Nat → Int32} {a b : Nat → Nat} {k : Cf} {g h : Ss} {x : Tx} {v w : Fn} {y : Ky} {ls : Array Slot} {N : Nat} (C : LX p s m meth c D cI cB ad ab sb L xs) (hN : N < 512) (hi : 4 * N + 4 ≤ L) (hL : L ≤ 2048) (I : INV k g v x y N) (Y : WD D (fun q : Nat => s.heap.size ≤ q) s.heap H locs (wW cI cB a b k g h x k v w y)) (hl : lv_has ls 4 [(0, .ref sb), (1, .ref (a 0)), (2, .ref (b 0)), (3, .int (nI (4 * N)))]) (hc : cells + 6 ≤ 600000 ∧ slots + 60 ≤ 7302250)
    (kk : ∀ (k' : Cf) (g h : Ss) (x : Tx) (k : Cf) (v w : Fn) (y : Ky) (H : Heap) (locs : List Loc), k' = k → INV k g v x y (N + 1) → WD D (fun q : Nat => s.heap.size ≤ q) s.heap H locs (wW cI cB a b k' g h x k v w y) → W p l e room_1 s m #[Value.ref sb] below meth c H locs (cells + 6) (slots + 60) Q (F0 m 697 ls [])) : W p l e room_1 s m #[Value.ref sb] below meth c H locs cells slots Q (F0 m 390 ls []) := by
  obtain ⟨E, hr, hk, hX, hbl, hZ⟩ := C
  have hbA : ¬ (fun q : Nat => s.heap.size ≤ q) sb := Nat.not_le.mpr hbl
  refine lv_aload_n E.1.1 E.1.2.1 dL_law_390 rfl (lv_at hl 1 rfl) ?_
  refine r_6 (S := Ss) (fun _ => k) (fun u => u) (fun _ => h) (fun _ => x) (As := []) (rest := []) E Y hl.1 (c_X6_restart (a 0) (a 1) (a 2) (a 3) (a 4) (a 5) (a 6) (a 7) (a 8) (a 9) (a 10) (a 11) (a 12) (a 13) (a 14) (a 15) (a 16) (a 17) (a 18) (a 19) k g h x) lk_L_49 X0b (fun _ _ _ => trivial) ⟨Nat.le_of_ble_eq_true rfl, Nat.le_of_ble_eq_true rfl⟩ ⟨(show cells + 0 ≤ 600000 by omega), (show slots + 0 ≤ 7302250 by omega)⟩ rfl rfl (Nat.le_of_ble_eq_true rfl) dL_law_391 (fun ra ua H locs hpa Y => ?_)
  refine lv_aload_n E.1.1 E.1.2.1 dL_law_394 rfl (lv_at hl 2 rfl) ?_
  refine r_7 (S := Fn) (fun _ => k) (fun u => u) (fun _ => w) (fun _ => y) (As := []) (rest := [.int ra]) E Y hl.1 (c_X7_restart (b 0) (b 1) (b 2) (b 3) (b 4) (b 5) (b 6) (b 7) k v w y) lk_L_52 X0b (fun _ _ _ => trivial) ⟨Nat.le_of_ble_eq_true rfl, Nat.le_of_ble_eq_true rfl⟩ ⟨(show cells + 0 + 0 ≤ 600000 by omega), (show slots + 0 + 0 ≤ 7302250 by omega)⟩ rfl rfl (Nat.le_of_ble_eq_true rfl) dL_law_395 (fun rb ub H locs hpb Y => ?_)
  obtain ⟨rfl, rfl⟩ := hpa
  obtain ⟨rfl, rfl⟩ := hpb
  obtain ⟨i1, i3⟩ := i_restart I
  refine lv_icmp_eq (tgt := 697) E.1.1 E.1.2.1 dL_law_398 (by decide) (fun _ => ?_) (fun z => absurd i1 z)
  refine W.widen (k := cells + 6) (n := slots + 60) (by omega) (by omega) ?_
  exact kk _ _ _ _ _ _ _ _ _ _ rfl i3 Y
