theorem nI_ex (x : Int32) : ∃ n : Nat, x = nI n := ⟨x.toBitVec.toNat, Int32.toBitVec_inj.mp (by
  show x.toBitVec = BitVec.ofNat 32 x.toBitVec.toNat
  rw [BitVec.ofNat_toNat, BitVec.setWidth_eq])⟩
theorem and31 (x : Int32) : ∃ j : Nat, j < 32 ∧ x &&& 31 = nI j := by
  obtain ⟨n, rfl⟩ := nI_ex x
  exact ⟨n % 32, Nat.mod_lt n (by decide), fa_mask n 5⟩
theorem law_go {L N : Nat} (hL : L ≤ 2048) (hN : N ≤ 512) (c : ¬ Int32.ofNat L - 4 < nI (4 * N)) : 4 * N + 4 ≤ L := by
  have e4 : (4 : Int32).toInt = 4 := by decide
  have eL : (Int32.ofNat L).toInt = (L : Int) := nI_toInt (by omega)
  rw [fa_lt, fb_subI (by rw [eL, e4]; omega) (by rw [eL, e4]; omega), eL, e4, nI_toInt (by omega)] at c
  omega
set_option maxRecDepth 100000 in
set_option maxHeartbeats 4000000 in
theorem law_loop {p : Program} {l : Launch} {e : Env} {s : State} {m : MethodId} {below : List Frame} {meth : Method} {c : Code} {D : va_G} {cI cB : ClassId} {ad ab : Nat → Nat} {sb L : Nat} {xs : Nat → Int32} {a b : Nat → Nat} {Q : State → Prop} (hL : L ≤ 2048) (C : LX p s m meth c D cI cB ad ab sb L xs)
    (fin : ∀ (H : Heap) (ls : Array Slot), W p l e room_1 s m #[Value.ref sb] below meth c H [] 600000 7302250 Q (F0 m 703 ls [])) :
    ∀ (n N : Nat) (k : Cf) (g h : Ss) (x : Tx) (v w : Fn) (y : Ky) (H : Heap) (locs : List Loc) (ls : Array Slot), N + n = 513 → N ≤ 512 → INV k g v x y N → WD D (fun q : Nat => s.heap.size ≤ q) s.heap H locs (wW cI cB a b k g h x k v w y) → lv_has ls 4 [(0, .ref sb), (1, .ref (a 0)), (2, .ref (b 0)), (3, .int (nI (4 * N)))] → W p l e room_1 s m #[Value.ref sb] below meth c H locs (28 + 6 * N) (415 + 60 * N) Q (F0 m 18 ls []) := by
  obtain ⟨E, hr, hk, hX, hbl, hZ⟩ := id C
  have hbA : ¬ (fun q : Nat => s.heap.size ≤ q) sb := Nat.not_le.mpr hbl
  intro n
  induction n with
  | zero =>
    intro N k g h x v w y H locs ls h1 h2
    exact absurd h1 (by omega)
  | succ n ih =>
    intro N k g h x v w y H locs ls hn hN I Y hl
    refine lv_iload_n E.1.1 E.1.2.1 dL_law_18 rfl (lv_at hl 3 rfl) ?_
    refine lv_aload_n E.1.1 E.1.2.1 dL_law_19 rfl (lv_at hl 0 rfl) ?_
    refine va_slen E.1.1 E.1.2.1 hX hbl hbA Y.2.2 dL_law_20 ?_
    refine lv_iconst (v := 4) E.1.1 E.1.2.1 dL_law_21 (by decide) ?_
    refine lv_isub E.1.1 E.1.2.1 dL_law_22 ?_
    refine lv_icmp_gt (tgt := 703) E.1.1 E.1.2.1 dL_law_23 (by decide) (fun _ => ?_) (fun c1 => ?_)
    · refine va_forget (fun q hq => Y.2.2.2.2 q hq) ?_
      refine W.widen (k := 600000) (n := 7302250) (by omega) (by omega) ?_
      exact fin _ _
    · have hi := law_go hL hN c1
      have hN2 : N < 512 := by omega
      have kk : ∀ (k' : Cf) (g h : Ss) (x : Tx) (k : Cf) (v w : Fn) (y : Ky) (H : Heap) (locs : List Loc), k' = k → INV k g v x y (N + 1) → WD D (fun q : Nat => s.heap.size ≤ q) s.heap H locs (wW cI cB a b k' g h x k v w y) → W p l e room_1 s m #[Value.ref sb] below meth c H locs (28 + 6 * N + 6) (415 + 60 * N + 60) Q (F0 m 697 ls []) := by
        intro k' g h x k v w y H locs ek I Y
        subst ek
        refine lv_iinc (v := nI (4 * (N + 1))) (lv' := [(3, .int (nI (4 * (N + 1)))), (0, .ref sb), (1, .ref (a 0)), (2, .ref (b 0))]) E.1.1 E.1.2.1 dL_law_697 hl (k := 3) rfl (nI_add (4 * N) 4) (by decide) rfl (fun ls hl => ?_)
        refine lv_goto (tgt := 18) E.1.1 E.1.2.1 dL_law_700 (by decide) ?_
        exact ih (N + 1) k' g h x v w y H locs ls (by omega) (by omega) I Y (lv_sub hl [1, 2, 3, 0] rfl)
      refine lv_aload_n E.1.1 E.1.2.1 dL_law_26 rfl (lv_at hl 0 rfl) ?_
      refine lv_iload_n E.1.1 E.1.2.1 dL_law_27 rfl (lv_at hl 3 rfl) ?_
      refine va_sld E.1.1 E.1.2.1 hX hbl hbA Y.2.2 (vp_in_nI (by omega) (by omega)) dL_law_28 ?_
      refine lv_bipush (v := 31) E.1.1 E.1.2.1 dL_law_29 (by decide) ?_
      refine lv_iand E.1.1 E.1.2.1 dL_law_31 ?_
      obtain ⟨j, hj, ej⟩ := and31 (xs (nI (4 * N)).toNatClampNeg)
      refine lv_cst (v := nI j) ej ?_
      rcases (show j = 0 ∨ j = 1 ∨ j = 2 ∨ j = 3 ∨ j = 4 ∨ j = 5 ∨ j = 6 ∨ j = 7 ∨ j = 8 ∨ j = 9 ∨ j = 10 ∨ j = 11 ∨ j = 12 ∨ j = 13 ∨ j = 14 ∨ j = 15 ∨ j = 16 ∨ j = 17 ∨ j = 18 ∨ j = 19 ∨ j = 20 ∨ j = 21 ∨ j = 22 ∨ j = 23 ∨ j = 24 ∨ j = 25 ∨ j = 26 ∨ 27 ≤ j by omega) with rfl | rfl | rfl | rfl | rfl | rfl | rfl | rfl | rfl | rfl | rfl | rfl | rfl | rfl | rfl | rfl | rfl | rfl | rfl | rfl | rfl | rfl | rfl | rfl | rfl | rfl | rfl | hj2
      · refine lv_tableIn (off := 124) (tgt := 156) E.1.1 E.1.2.1 dL_law_32 (by decide) (by decide) (by decide) (by decide) ?_
        exact lc_0 C hN2 hi hL I Y hl ⟨by omega, by omega⟩ kk
      · refine lv_tableIn (off := 157) (tgt := 189) E.1.1 E.1.2.1 dL_law_32 (by decide) (by decide) (by decide) (by decide) ?_
        exact lc_1 C hN2 hi hL I Y hl ⟨by omega, by omega⟩ kk
      · refine lv_tableIn (off := 180) (tgt := 212) E.1.1 E.1.2.1 dL_law_32 (by decide) (by decide) (by decide) (by decide) ?_
        exact lc_2 C hN2 hi hL I Y hl ⟨by omega, by omega⟩ kk
      · refine lv_tableIn (off := 213) (tgt := 245) E.1.1 E.1.2.1 dL_law_32 (by decide) (by decide) (by decide) (by decide) ?_
        exact lc_3 C hN2 hi hL I Y hl ⟨by omega, by omega⟩ kk
      · refine lv_tableIn (off := 246) (tgt := 278) E.1.1 E.1.2.1 dL_law_32 (by decide) (by decide) (by decide) (by decide) ?_
        exact lc_4 C hN2 hi hL I Y hl ⟨by omega, by omega⟩ kk
      · refine lv_tableIn (off := 279) (tgt := 311) E.1.1 E.1.2.1 dL_law_32 (by decide) (by decide) (by decide) (by decide) ?_
        exact lc_5 C hN2 hi hL I Y hl ⟨by omega, by omega⟩ kk
      · refine lv_tableIn (off := 322) (tgt := 354) E.1.1 E.1.2.1 dL_law_32 (by decide) (by decide) (by decide) (by decide) ?_
        exact lc_6 C hN2 hi hL I Y hl ⟨by omega, by omega⟩ kk
      · refine lv_tableIn (off := 345) (tgt := 377) E.1.1 E.1.2.1 dL_law_32 (by decide) (by decide) (by decide) (by decide) ?_
        exact lc_7 C hN2 hi hL I Y hl ⟨by omega, by omega⟩ kk
      · refine lv_tableIn (off := 358) (tgt := 390) E.1.1 E.1.2.1 dL_law_32 (by decide) (by decide) (by decide) (by decide) ?_
        exact lc_8 C hN2 hi hL I Y hl ⟨by omega, by omega⟩ kk
      · refine lv_tableIn (off := 371) (tgt := 403) E.1.1 E.1.2.1 dL_law_32 (by decide) (by decide) (by decide) (by decide) ?_
        exact lc_9 C hN2 hi hL I Y hl ⟨by omega, by omega⟩ kk
      · refine lv_tableIn (off := 394) (tgt := 426) E.1.1 E.1.2.1 dL_law_32 (by decide) (by decide) (by decide) (by decide) ?_
        exact lc_10 C hN2 hi hL I Y hl ⟨by omega, by omega⟩ kk
      · refine lv_tableIn (off := 407) (tgt := 439) E.1.1 E.1.2.1 dL_law_32 (by decide) (by decide) (by decide) (by decide) ?_
        exact lc_11 C hN2 hi hL I Y hl ⟨by omega, by omega⟩ kk
      · refine lv_tableIn (off := 420) (tgt := 452) E.1.1 E.1.2.1 dL_law_32 (by decide) (by decide) (by decide) (by decide) ?_
        exact lc_12 C hN2 hi hL I Y hl ⟨by omega, by omega⟩ kk
      · refine lv_tableIn (off := 433) (tgt := 465) E.1.1 E.1.2.1 dL_law_32 (by decide) (by decide) (by decide) (by decide) ?_
        exact lc_13 C hN2 hi hL I Y hl ⟨by omega, by omega⟩ kk
      · refine lv_tableIn (off := 446) (tgt := 478) E.1.1 E.1.2.1 dL_law_32 (by decide) (by decide) (by decide) (by decide) ?_
        exact lc_14 C hN2 hi hL I Y hl ⟨by omega, by omega⟩ kk
      · refine lv_tableIn (off := 459) (tgt := 491) E.1.1 E.1.2.1 dL_law_32 (by decide) (by decide) (by decide) (by decide) ?_
        exact lc_15 C hN2 hi hL I Y hl ⟨by omega, by omega⟩ kk
      · refine lv_tableIn (off := 472) (tgt := 504) E.1.1 E.1.2.1 dL_law_32 (by decide) (by decide) (by decide) (by decide) ?_
        exact lc_16 C hN2 hi hL I Y hl ⟨by omega, by omega⟩ kk
      · refine lv_tableIn (off := 495) (tgt := 527) E.1.1 E.1.2.1 dL_law_32 (by decide) (by decide) (by decide) (by decide) ?_
        exact lc_17 C hN2 hi hL I Y hl ⟨by omega, by omega⟩ kk
      · refine lv_tableIn (off := 508) (tgt := 540) E.1.1 E.1.2.1 dL_law_32 (by decide) (by decide) (by decide) (by decide) ?_
        exact lc_18 C hN2 hi hL I Y hl ⟨by omega, by omega⟩ kk
      · refine lv_tableIn (off := 521) (tgt := 553) E.1.1 E.1.2.1 dL_law_32 (by decide) (by decide) (by decide) (by decide) ?_
        exact lc_19 C hN2 hi hL I Y hl ⟨by omega, by omega⟩ kk
      · refine lv_tableIn (off := 534) (tgt := 566) E.1.1 E.1.2.1 dL_law_32 (by decide) (by decide) (by decide) (by decide) ?_
        exact lc_20 C hN2 hi hL I Y hl ⟨by omega, by omega⟩ kk
      · refine lv_tableIn (off := 547) (tgt := 579) E.1.1 E.1.2.1 dL_law_32 (by decide) (by decide) (by decide) (by decide) ?_
        exact lc_21 C hN2 hi hL I Y hl ⟨by omega, by omega⟩ kk
      · refine lv_tableIn (off := 560) (tgt := 592) E.1.1 E.1.2.1 dL_law_32 (by decide) (by decide) (by decide) (by decide) ?_
        exact lc_22 C hN2 hi hL I Y hl ⟨by omega, by omega⟩ kk
      · refine lv_tableIn (off := 573) (tgt := 605) E.1.1 E.1.2.1 dL_law_32 (by decide) (by decide) (by decide) (by decide) ?_
        exact lc_23 C hN2 hi hL I Y hl ⟨by omega, by omega⟩ kk
      · refine lv_tableIn (off := 606) (tgt := 638) E.1.1 E.1.2.1 dL_law_32 (by decide) (by decide) (by decide) (by decide) ?_
        exact lc_24 C hN2 hi hL I Y hl ⟨by omega, by omega⟩ kk
      · refine lv_tableIn (off := 629) (tgt := 661) E.1.1 E.1.2.1 dL_law_32 (by decide) (by decide) (by decide) (by decide) ?_
        exact lc_25 C hN2 hi hL I Y hl ⟨by omega, by omega⟩ kk
      · refine lv_tableIn (off := 652) (tgt := 684) E.1.1 E.1.2.1 dL_law_32 (by decide) (by decide) (by decide) (by decide) ?_
        exact lc_26 C hN2 hi hL I Y hl ⟨by omega, by omega⟩ kk
      · refine lv_tableOut (tgt := 697) E.1.1 E.1.2.1 dL_law_32 (Or.inr (by rw [nI_toInt (by omega)]; omega)) (by decide) ?_
        refine W.widen (k := 28 + 6 * N + 6) (n := 415 + 60 * N + 60) (by omega) (by omega) ?_
        exact kk k g h x k v w y H locs rfl I.up Y
