theorem cu_ne {k : Cf} (hk : KOK k) : ¬ k.1 8 = 0 := by
  have h := hk.2.2.2.2.2.2.2.2.1.1
  rw [fa_eq, i32_0]
  omega
theorem hi_4 {k : Cf} (hk : KOK k) : (f_X7_highest k).toInt ≤ 4 := by
  have h1 := hk.2.2.1.1
  have h2 := hk.2.2.1.2
  have h3 := hk.2.2.2.2.2.2.2.2.2.1.2
  unfold f_X7_highest
  split
  · rw [fb_subI (by rw [i32_1]; omega) (by rw [i32_1]; omega), i32_1]
    omega
  · omega
theorem hi_j {k : Cf} (hk : KOK k) {j : Nat} (hj : j ≤ 5) (h : ¬ f_X7_highest k < nI j) : j ≤ 4 := by
  have h1 := hi_4 hk
  rw [fa_lt, nI_toInt (by omega)] at h
  omega

def f_X7_levelByRate_l9 (k : Cf) (v : Fn) : Nat → Int32 → Nat → Int32
  | 0, x, j => x
  | n + 1, x, j => if (f_X7_highest k) < (nI j) then x else (if (f_X7_estimate v) = (-6 : Int32) then x else (if 0 < (lg_cmp ((k.2.1 j).toInt64) ((((f_X7_estimate v).toInt64) * ((k.1 6).toInt64)) / (100 : Int64))) then f_X7_levelByRate_l9 k v n x (j + 1) else f_X7_levelByRate_l9 k v n (nI j) (j + 1)))
def f_X7_levelByRate (k : Cf) (v : Fn) : Int32 := f_X7_levelByRate_l9 k v 5 (0 : Int32) (1)
set_option maxRecDepth 100000 in
set_option maxHeartbeats 4000000 in
theorem c_X7_levelByRate {l : Launch} {D : va_G} {cI cB : ClassId} (qm mb ma me mr mn ms mk : Nat) (k : Cf) (v : Fn) (a : Fn) (y : Ky) (kO : KOK k) : CI l X0 D cI cB yX7_levelByRate cX7_levelByRate 4 (some .int) 1 23 0 0 [.ref qm] (wM cI qm mb ma me mr mn ms mk k v a y) (fun (r : Int32) (_ : Unit) => r = (f_X7_levelByRate k v)) (fun _ => (wM cI qm mb ma me mr mn ms mk k v a y)) := by
  refine CI.of (by decide) (Nat.le_of_ble_eq_true rfl) ?_
  intro p e s m below meth c A ls E hr hk hin hA hAA hX Y hl
  have E : EE p c cX7_levelByRate 4 s _ m RX7 D cI cB := E
  have hl : lv_has ls 4 [(0, .ref qm)] := hl
  refine lv_aload_n E.1.1 E.1.2.1 dX7_levelByRate_0 rfl (lv_at hl 0 rfl) ?_
  refine r_Vi (wr := []) (w2 := fun _ => [(qm, .inr (9, [.int (k.1 0), .int (k.1 1), .ref ma, .int (k.1 2), .ref mb, .int (k.1 3), .ref me, .ref mr, .int (k.1 4), .int (k.1 5), .int (k.1 6), .int (k.1 7), .int (k.1 8), .int (k.1 9), .int (k.1 10), .ref mn, .ref ms, .int (y.1 0), .ref mk, .int (y.1 1)])), (mb, .inl (cI, 5, .inl k.2.1)), (ma, .inl (cI, 30, .inl k.2.2.1)), (me, .inl (cI, 12, .inl k.2.2.2.1)), (mr, .inl (cI, 12, .inl k.2.2.2.2)), (mn, .inl (cI, 52, .inl v)), (ms, .inl (cI, 52, .inl a)), (mk, .inl (cI, 16, .inl y.2))]) E Y hA hl.1 (c_X7_estimate qm mb ma me mr mn ms mk k v a y) lk_X7_126 X0b (fun _ _ _ => trivial) [0, 1, 2, 3, 4, 5, 6, 7] [] [0, 1, 2, 3, 4, 5, 6, 7] rfl rfl (by decide) (fun _ => rfl) 0 rfl rfl ⟨Nat.le_of_ble_eq_true rfl, Nat.le_of_ble_eq_true rfl⟩ ⟨Nat.le_of_ble_eq_true rfl, Nat.le_of_ble_eq_true rfl⟩ rfl rfl (Nat.le_of_ble_eq_true rfl) dX7_levelByRate_1 (fun r u H locs hp Y => ?_)
  subst hp
  refine lv_istore_n (lv' := [(1, .int (f_X7_estimate v)), (0, .ref qm)]) E.1.1 E.1.2.1 dX7_levelByRate_4 rfl hl (by decide) rfl (fun ls hl => ?_)
  refine lv_iconst (v := 0) E.1.1 E.1.2.1 dX7_levelByRate_5 (by decide) ?_
  refine lv_istore_n (lv' := [(2, .int (0 : Int32)), (1, .int (f_X7_estimate v)), (0, .ref qm)]) E.1.1 E.1.2.1 dX7_levelByRate_6 rfl hl (by decide) rfl (fun ls hl => ?_)
  refine lv_iconst (v := 1) E.1.1 E.1.2.1 dX7_levelByRate_7 (by decide) ?_
  refine lv_istore_n (lv' := [(3, .int (1 : Int32)), (2, .int (0 : Int32)), (1, .int (f_X7_estimate v)), (0, .ref qm)]) E.1.1 E.1.2.1 dX7_levelByRate_8 rfl hl (by decide) rfl (fun ls hl => ?_)
  have hL : ∀ (n : Nat) (x : Int32) (j : Nat), (h1 : 1 ≤ j) → (hj : j ≤ 5) → (hn : 5 < j + n) → (f_X7_levelByRate k v) = f_X7_levelByRate_l9 k v n x j → ∀ (H : Heap) (locs : List Loc) (ls : Array Slot), WD D A s.heap H locs [(qm, .inr (9, [.int (k.1 0), .int (k.1 1), .ref ma, .int (k.1 2), .ref mb, .int (k.1 3), .ref me, .ref mr, .int (k.1 4), .int (k.1 5), .int (k.1 6), .int (k.1 7), .int (k.1 8), .int (k.1 9), .int (k.1 10), .ref mn, .ref ms, .int (y.1 0), .ref mk, .int (y.1 1)])), (mb, .inl (cI, 5, .inl k.2.1)), (ma, .inl (cI, 30, .inl k.2.2.1)), (me, .inl (cI, 12, .inl k.2.2.2.1)), (mr, .inl (cI, 12, .inl k.2.2.2.2)), (mn, .inl (cI, 52, .inl v)), (ms, .inl (cI, 52, .inl a)), (mk, .inl (cI, 16, .inl y.2))] → lv_has ls 4 [(0, .ref qm), (1, .int (f_X7_estimate v)), (2, .int x), (3, .int (nI j))] → W p l e { frames := 1, cells := 0, slots := 0, locals := 23 } s m ([.ref qm] : List Value).toArray below meth c H locs 0 0 (MQ below (va_Qi (fun (r : Int32) (_ : Unit) => r = (f_X7_levelByRate k v)) (AT D cI cB A (fun _ => (wM cI qm mb ma me mr mn ms mk k v a y))) A) ([.ref qm] : List Value).toArray s 0 0 A) (F0 m 9 ls []) := by
    intro n
    induction n with
    | zero => intro x j h1 hj hn; exact absurd hn (by omega)
    | succ n ih =>
      intro x j h1 hj hn hF H locs ls Y hl
      refine lv_iload_n E.1.1 E.1.2.1 dX7_levelByRate_9 rfl (lv_at hl 3 rfl) ?_
      refine lv_aload_n E.1.1 E.1.2.1 dX7_levelByRate_10 rfl (lv_at hl 0 rfl) ?_
      refine r_Vi (wr := []) (w2 := fun _ => [(qm, .inr (9, [.int (k.1 0), .int (k.1 1), .ref ma, .int (k.1 2), .ref mb, .int (k.1 3), .ref me, .ref mr, .int (k.1 4), .int (k.1 5), .int (k.1 6), .int (k.1 7), .int (k.1 8), .int (k.1 9), .int (k.1 10), .ref mn, .ref ms, .int (y.1 0), .ref mk, .int (y.1 1)])), (mb, .inl (cI, 5, .inl k.2.1)), (ma, .inl (cI, 30, .inl k.2.2.1)), (me, .inl (cI, 12, .inl k.2.2.2.1)), (mr, .inl (cI, 12, .inl k.2.2.2.2)), (mn, .inl (cI, 52, .inl v)), (ms, .inl (cI, 52, .inl a)), (mk, .inl (cI, 16, .inl y.2))]) E Y hA hl.1 (c_X7_highest qm mb ma me mr mn ms mk k v a y) lk_X7_130 X0b (fun _ _ _ => trivial) [0, 1, 2, 3, 4, 5, 6, 7] [] [0, 1, 2, 3, 4, 5, 6, 7] rfl rfl (by decide) (fun _ => rfl) 0 rfl rfl ⟨Nat.le_of_ble_eq_true rfl, Nat.le_of_ble_eq_true rfl⟩ ⟨Nat.le_of_ble_eq_true rfl, Nat.le_of_ble_eq_true rfl⟩ rfl rfl (Nat.le_of_ble_eq_true rfl) dX7_levelByRate_11 (fun r u H locs hp Y => ?_)
      subst hp
      refine lv_icmp_gt (tgt := 58) E.1.1 E.1.2.1 dX7_levelByRate_14 (by decide) (fun c_14 => ?_) (fun c_14 => ?_)
      · skip
        refine lv_iload_n E.1.1 E.1.2.1 dX7_levelByRate_58 rfl (lv_at hl 2 rfl) ?_
        have e9 : (f_X7_levelByRate k v) = x := hF.trans ((if_pos c_14).trans (rfl))
        exact r_iret E Y hr hk x () (e9.symm) rfl ⟨Nat.le_of_ble_eq_true rfl, Nat.le_of_ble_eq_true rfl⟩ dX7_levelByRate_59
      · skip
        refine lv_iload_n E.1.1 E.1.2.1 dX7_levelByRate_17 rfl (lv_at hl 1 rfl) ?_
        refine lv_bipush (v := (-6)) E.1.1 E.1.2.1 dX7_levelByRate_18 (by decide) ?_
        refine lv_icmp_eq (tgt := 58) E.1.1 E.1.2.1 dX7_levelByRate_20 (by decide) (fun c_20 => ?_) (fun c_20 => ?_)
        · skip
          refine lv_iload_n E.1.1 E.1.2.1 dX7_levelByRate_58 rfl (lv_at hl 2 rfl) ?_
          have e9 : (f_X7_levelByRate k v) = x := hF.trans ((if_neg c_14).trans ((if_pos c_20).trans (rfl)))
          exact r_iret E Y hr hk x () (e9.symm) rfl ⟨Nat.le_of_ble_eq_true rfl, Nat.le_of_ble_eq_true rfl⟩ dX7_levelByRate_59
        · skip
          refine lv_aload_n E.1.1 E.1.2.1 dX7_levelByRate_23 rfl (lv_at hl 0 rfl) ?_
          refine gf_X7_20 E Y 0 rfl rfl dX7_levelByRate_24 ?_
          refine lv_iload_n E.1.1 E.1.2.1 dX7_levelByRate_27 rfl (lv_at hl 3 rfl) ?_
          refine r_ial E Y 1 rfl j (nI_clamp (by omega)) (vp_in_nI (Nat.lt_of_le_of_lt (hi_j kO hj c_14) (by decide)) (by decide)) dX7_levelByRate_28 ?_
          refine lv_i2l E.1.1 E.1.2.1 dX7_levelByRate_29 rfl ?_
          refine lv_iload_n E.1.1 E.1.2.1 dX7_levelByRate_30 rfl (lv_at hl 1 rfl) ?_
          refine lv_i2l E.1.1 E.1.2.1 dX7_levelByRate_31 rfl ?_
          refine lv_aload_n E.1.1 E.1.2.1 dX7_levelByRate_32 rfl (lv_at hl 0 rfl) ?_
          refine gf_X7_35 E Y 0 rfl rfl dX7_levelByRate_33 ?_
          refine lv_i2l E.1.1 E.1.2.1 dX7_levelByRate_36 rfl ?_
          refine lv_lmul E.1.1 E.1.2.1 dX7_levelByRate_37 ?_
          refine lv_ldc2 (v := 100) E.1.1 E.1.2.1 E.1.2.2.2.1 (E.1.2.2.2.2 _ mj_X7_76) dX7_levelByRate_38 ?_
          refine lv_ldiv E.1.1 E.1.2.1 dX7_levelByRate_41 (by decide) ?_
          refine W.lcmp E.1.1 E.1.2.1 dX7_levelByRate_42 ?_
          refine lv_if_gt (tgt := 50) E.1.1 E.1.2.1 dX7_levelByRate_43 (by decide) (fun c_43 => ?_) (fun c_43 => ?_)
          · skip
            refine lv_iload_n E.1.1 E.1.2.1 dX7_levelByRate_50 rfl (lv_at hl 2 rfl) ?_
            refine lv_istore_n (lv' := [(2, .int x), (0, .ref qm), (1, .int (f_X7_estimate v)), (3, .int (nI j))]) E.1.1 E.1.2.1 dX7_levelByRate_51 rfl hl (by decide) rfl (fun ls hl => ?_)
            refine lv_iinc (v := (nI (j + 1))) (lv' := [(3, .int (nI (j + 1))), (2, .int x), (0, .ref qm), (1, .int (f_X7_estimate v))]) E.1.1 E.1.2.1 dX7_levelByRate_52 hl (k := 3) rfl (nI_1 j) (by decide) rfl (fun ls hl => ?_)
            refine lv_goto (tgt := 9) E.1.1 E.1.2.1 dX7_levelByRate_55 (by decide) ?_
            exact ih x (j + 1) (by omega) (by have := hi_j kO hj c_14; omega) (by omega) (hF.trans ((if_neg c_14).trans ((if_neg c_20).trans ((if_pos c_43).trans (rfl))))) H locs ls Y (lv_sub hl [2, 3, 1, 0] rfl)
          · skip
            refine lv_iload_n E.1.1 E.1.2.1 dX7_levelByRate_46 rfl (lv_at hl 3 rfl) ?_
            refine lv_goto (tgt := 51) E.1.1 E.1.2.1 dX7_levelByRate_47 (by decide) ?_
            refine lv_istore_n (lv' := [(2, .int (nI j)), (0, .ref qm), (1, .int (f_X7_estimate v)), (3, .int (nI j))]) E.1.1 E.1.2.1 dX7_levelByRate_51 rfl hl (by decide) rfl (fun ls hl => ?_)
            refine lv_iinc (v := (nI (j + 1))) (lv' := [(3, .int (nI (j + 1))), (2, .int (nI j)), (0, .ref qm), (1, .int (f_X7_estimate v))]) E.1.1 E.1.2.1 dX7_levelByRate_52 hl (k := 3) rfl (nI_1 j) (by decide) rfl (fun ls hl => ?_)
            refine lv_goto (tgt := 9) E.1.1 E.1.2.1 dX7_levelByRate_55 (by decide) ?_
            exact ih (nI j) (j + 1) (by omega) (by have := hi_j kO hj c_14; omega) (by omega) (hF.trans ((if_neg c_14).trans ((if_neg c_20).trans ((if_neg c_43).trans (rfl))))) H locs ls Y (lv_sub hl [2, 3, 1, 0] rfl)
  exact hL 5 (0 : Int32) (1) (by decide) (by decide) (by decide) (rfl) _ _ _ Y (lv_sub hl [3, 2, 1, 0] rfl)

def f_X7_levelByBuffer (k : Cf) (v : Fn) : Int32 := if (k.1 7) < (v (1)) then (if (v (1)) < ((k.1 7) + (k.1 8)) then ((((v (1)) - (k.1 7)) * (f_X7_highest k)) / (k.1 8)) else (f_X7_highest k)) else (0 : Int32)
set_option maxRecDepth 100000 in
set_option maxHeartbeats 4000000 in
theorem c_X7_levelByBuffer {l : Launch} {D : va_G} {cI cB : ClassId} (qm mb ma me mr mn ms mk : Nat) (k : Cf) (v : Fn) (a : Fn) (y : Ky) (kO : KOK k) : CI l X0 D cI cB yX7_levelByBuffer cX7_levelByBuffer 2 (some .int) 1 20 0 0 [.ref qm] (wM cI qm mb ma me mr mn ms mk k v a y) (fun (r : Int32) (_ : Unit) => r = (f_X7_levelByBuffer k v)) (fun _ => (wM cI qm mb ma me mr mn ms mk k v a y)) := by
  refine CI.of (by decide) (Nat.le_of_ble_eq_true rfl) ?_
  intro p e s m below meth c A ls E hr hk hin hA hAA hX Y hl
  have E : EE p c cX7_levelByBuffer 2 s _ m RX7 D cI cB := E
  have hl : lv_has ls 2 [(0, .ref qm)] := hl
  refine lv_aload_n E.1.1 E.1.2.1 dX7_levelByBuffer_0 rfl (lv_at hl 0 rfl) ?_
  refine gf_X7_47 E Y 0 rfl rfl dX7_levelByBuffer_1 ?_
  refine lv_iconst (v := 1) E.1.1 E.1.2.1 dX7_levelByBuffer_4 (by decide) ?_
  refine r_ial E Y 5 rfl (1) (by decide) (by unfold vp_in; decide) dX7_levelByBuffer_5 ?_
  refine lv_istore_n (lv' := [(1, .int (v (1))), (0, .ref qm)]) E.1.1 E.1.2.1 dX7_levelByBuffer_6 rfl hl (by decide) rfl (fun ls hl => ?_)
  refine lv_iload_n E.1.1 E.1.2.1 dX7_levelByBuffer_7 rfl (lv_at hl 0 rfl) ?_
  refine lv_aload_n E.1.1 E.1.2.1 dX7_levelByBuffer_8 rfl (lv_at hl 1 rfl) ?_
  refine gf_X7_38 E Y 0 rfl rfl dX7_levelByBuffer_9 ?_
  refine lv_icmp_gt (tgt := 17) E.1.1 E.1.2.1 dX7_levelByBuffer_12 (by decide) (fun c_12 => ?_) (fun c_12 => ?_)
  · skip
    refine lv_iload_n E.1.1 E.1.2.1 dX7_levelByBuffer_17 rfl (lv_at hl 0 rfl) ?_
    refine lv_aload_n E.1.1 E.1.2.1 dX7_levelByBuffer_18 rfl (lv_at hl 1 rfl) ?_
    refine gf_X7_38 E Y 0 rfl rfl dX7_levelByBuffer_19 ?_
    refine lv_aload_n E.1.1 E.1.2.1 dX7_levelByBuffer_22 rfl (lv_at hl 1 rfl) ?_
    refine gf_X7_41 E Y 0 rfl rfl dX7_levelByBuffer_23 ?_
    refine lv_iadd E.1.1 E.1.2.1 dX7_levelByBuffer_26 ?_
    refine lv_icmp_lt (tgt := 37) E.1.1 E.1.2.1 dX7_levelByBuffer_27 (by decide) (fun c_27 => ?_) (fun c_27 => ?_)
    · skip
      refine lv_iload_n E.1.1 E.1.2.1 dX7_levelByBuffer_37 rfl (lv_at hl 0 rfl) ?_
      refine lv_aload_n E.1.1 E.1.2.1 dX7_levelByBuffer_38 rfl (lv_at hl 1 rfl) ?_
      refine gf_X7_38 E Y 0 rfl rfl dX7_levelByBuffer_39 ?_
      refine lv_isub E.1.1 E.1.2.1 dX7_levelByBuffer_42 ?_
      refine lv_aload_n E.1.1 E.1.2.1 dX7_levelByBuffer_43 rfl (lv_at hl 1 rfl) ?_
      refine r_Vi (wr := []) (w2 := fun _ => [(qm, .inr (9, [.int (k.1 0), .int (k.1 1), .ref ma, .int (k.1 2), .ref mb, .int (k.1 3), .ref me, .ref mr, .int (k.1 4), .int (k.1 5), .int (k.1 6), .int (k.1 7), .int (k.1 8), .int (k.1 9), .int (k.1 10), .ref mn, .ref ms, .int (y.1 0), .ref mk, .int (y.1 1)])), (mb, .inl (cI, 5, .inl k.2.1)), (ma, .inl (cI, 30, .inl k.2.2.1)), (me, .inl (cI, 12, .inl k.2.2.2.1)), (mr, .inl (cI, 12, .inl k.2.2.2.2)), (mn, .inl (cI, 52, .inl v)), (ms, .inl (cI, 52, .inl a)), (mk, .inl (cI, 16, .inl y.2))]) E Y hA hl.1 (c_X7_highest qm mb ma me mr mn ms mk k v a y) lk_X7_130 X0b (fun _ _ _ => trivial) [0, 1, 2, 3, 4, 5, 6, 7] [] [0, 1, 2, 3, 4, 5, 6, 7] rfl rfl (by decide) (fun _ => rfl) 0 rfl rfl ⟨Nat.le_of_ble_eq_true rfl, Nat.le_of_ble_eq_true rfl⟩ ⟨Nat.le_of_ble_eq_true rfl, Nat.le_of_ble_eq_true rfl⟩ rfl rfl (Nat.le_of_ble_eq_true rfl) dX7_levelByBuffer_44 (fun r u H locs hp Y => ?_)
      subst hp
      refine lv_imul E.1.1 E.1.2.1 dX7_levelByBuffer_47 ?_
      refine lv_aload_n E.1.1 E.1.2.1 dX7_levelByBuffer_48 rfl (lv_at hl 1 rfl) ?_
      refine gf_X7_41 E Y 0 rfl rfl dX7_levelByBuffer_49 ?_
      refine lv_idiv E.1.1 E.1.2.1 dX7_levelByBuffer_52 (cu_ne kO) ?_
      have e9 : (f_X7_levelByBuffer k v) = ((((v (1)) - (k.1 7)) * (f_X7_highest k)) / (k.1 8)) := (if_pos c_12).trans ((if_pos c_27).trans (rfl))
      exact r_iret E Y hr hk ((((v (1)) - (k.1 7)) * (f_X7_highest k)) / (k.1 8)) () (e9.symm) rfl ⟨Nat.le_of_ble_eq_true rfl, Nat.le_of_ble_eq_true rfl⟩ dX7_levelByBuffer_53
    · skip
      refine lv_aload_n E.1.1 E.1.2.1 dX7_levelByBuffer_30 rfl (lv_at hl 1 rfl) ?_
      refine r_Vi (wr := []) (w2 := fun _ => [(qm, .inr (9, [.int (k.1 0), .int (k.1 1), .ref ma, .int (k.1 2), .ref mb, .int (k.1 3), .ref me, .ref mr, .int (k.1 4), .int (k.1 5), .int (k.1 6), .int (k.1 7), .int (k.1 8), .int (k.1 9), .int (k.1 10), .ref mn, .ref ms, .int (y.1 0), .ref mk, .int (y.1 1)])), (mb, .inl (cI, 5, .inl k.2.1)), (ma, .inl (cI, 30, .inl k.2.2.1)), (me, .inl (cI, 12, .inl k.2.2.2.1)), (mr, .inl (cI, 12, .inl k.2.2.2.2)), (mn, .inl (cI, 52, .inl v)), (ms, .inl (cI, 52, .inl a)), (mk, .inl (cI, 16, .inl y.2))]) E Y hA hl.1 (c_X7_highest qm mb ma me mr mn ms mk k v a y) lk_X7_130 X0b (fun _ _ _ => trivial) [0, 1, 2, 3, 4, 5, 6, 7] [] [0, 1, 2, 3, 4, 5, 6, 7] rfl rfl (by decide) (fun _ => rfl) 0 rfl rfl ⟨Nat.le_of_ble_eq_true rfl, Nat.le_of_ble_eq_true rfl⟩ ⟨Nat.le_of_ble_eq_true rfl, Nat.le_of_ble_eq_true rfl⟩ rfl rfl (Nat.le_of_ble_eq_true rfl) dX7_levelByBuffer_31 (fun r u H locs hp Y => ?_)
      subst hp
      refine lv_goto (tgt := 53) E.1.1 E.1.2.1 dX7_levelByBuffer_34 (by decide) ?_
      have e9 : (f_X7_levelByBuffer k v) = (f_X7_highest k) := (if_pos c_12).trans ((if_neg c_27).trans (rfl))
      exact r_iret E Y hr hk (f_X7_highest k) () (e9.symm) rfl ⟨Nat.le_of_ble_eq_true rfl, Nat.le_of_ble_eq_true rfl⟩ dX7_levelByBuffer_53
  · skip
    refine lv_iconst (v := 0) E.1.1 E.1.2.1 dX7_levelByBuffer_15 (by decide) ?_
    have e9 : (f_X7_levelByBuffer k v) = (0 : Int32) := (if_neg c_12).trans (rfl)
    exact r_iret E Y hr hk (0 : Int32) () (e9.symm) rfl ⟨Nat.le_of_ble_eq_true rfl, Nat.le_of_ble_eq_true rfl⟩ dX7_levelByBuffer_16

def f_X7_levelOfBoth_c22 (v : Fn) (x : Int32) : Int32 := if (v (15)) = (-6 : Int32) then x else (if x ≤ ((v (15)) + (1 : Int32)) then x else ((v (15)) + (1 : Int32)))
def f_X7_levelOfBoth (k : Cf) (v : Fn) : Int32 := if (f_X7_levelByBuffer k v) ≤ (f_X7_levelByRate k v) then f_X7_levelOfBoth_c22 v (f_X7_levelByBuffer k v) else f_X7_levelOfBoth_c22 v (f_X7_levelByRate k v)
set_option maxRecDepth 100000 in
set_option maxHeartbeats 4000000 in
theorem c_X7_levelOfBoth {l : Launch} {D : va_G} {cI cB : ClassId} (qm mb ma me mr mn ms mk : Nat) (k : Cf) (v : Fn) (a : Fn) (y : Ky) (kO : KOK k) : CI l X0 D cI cB yX7_levelOfBoth cX7_levelOfBoth 2 (some .int) 2 46 0 0 [.ref qm] (wM cI qm mb ma me mr mn ms mk k v a y) (fun (r : Int32) (_ : Unit) => r = (f_X7_levelOfBoth k v)) (fun _ => (wM cI qm mb ma me mr mn ms mk k v a y)) := by
  refine CI.of (by decide) (Nat.le_of_ble_eq_true rfl) ?_
  intro p e s m below meth c A ls E hr hk hin hA hAA hX Y hl
  have E : EE p c cX7_levelOfBoth 2 s _ m RX7 D cI cB := E
  have hl : lv_has ls 2 [(0, .ref qm)] := hl
  have hC22 : ∀ (x : Int32), (f_X7_levelOfBoth k v) = f_X7_levelOfBoth_c22 v x → ∀ (H : Heap) (locs : List Loc) (ls : Array Slot), WD D A s.heap H locs [(qm, .inr (9, [.int (k.1 0), .int (k.1 1), .ref ma, .int (k.1 2), .ref mb, .int (k.1 3), .ref me, .ref mr, .int (k.1 4), .int (k.1 5), .int (k.1 6), .int (k.1 7), .int (k.1 8), .int (k.1 9), .int (k.1 10), .ref mn, .ref ms, .int (y.1 0), .ref mk, .int (y.1 1)])), (mb, .inl (cI, 5, .inl k.2.1)), (ma, .inl (cI, 30, .inl k.2.2.1)), (me, .inl (cI, 12, .inl k.2.2.2.1)), (mr, .inl (cI, 12, .inl k.2.2.2.2)), (mn, .inl (cI, 52, .inl v)), (ms, .inl (cI, 52, .inl a)), (mk, .inl (cI, 16, .inl y.2))] → lv_has ls 2 [(0, .ref qm)] → W p l e { frames := 2, cells := 0, slots := 0, locals := 46 } s m ([.ref qm] : List Value).toArray below meth c H locs 0 0 (MQ below (va_Qi (fun (r : Int32) (_ : Unit) => r = (f_X7_levelOfBoth k v)) (AT D cI cB A (fun _ => (wM cI qm mb ma me mr mn ms mk k v a y))) A) ([.ref qm] : List Value).toArray s 0 0 A) (F0 m 22 ls [.int x]) := by
    intro x  hF H locs ls Y hl
    refine lv_istore_n (lv' := [(1, .int x), (0, .ref qm)]) E.1.1 E.1.2.1 dX7_levelOfBoth_22 rfl hl (by decide) rfl (fun ls hl => ?_)
    refine lv_aload_n E.1.1 E.1.2.1 dX7_levelOfBoth_23 rfl (lv_at hl 1 rfl) ?_
    refine gf_X7_47 E Y 0 rfl rfl dX7_levelOfBoth_24 ?_
    refine lv_bipush (v := 15) E.1.1 E.1.2.1 dX7_levelOfBoth_27 (by decide) ?_
    refine r_ial E Y 5 rfl (15) (by decide) (by unfold vp_in; decide) dX7_levelOfBoth_29 ?_
    refine lv_bipush (v := (-6)) E.1.1 E.1.2.1 dX7_levelOfBoth_30 (by decide) ?_
    refine lv_icmp_eq (tgt := 60) E.1.1 E.1.2.1 dX7_levelOfBoth_32 (by decide) (fun c_32 => ?_) (fun c_32 => ?_)
    · skip
      refine lv_iload_n E.1.1 E.1.2.1 dX7_levelOfBoth_60 rfl (lv_at hl 0 rfl) ?_
      have e9 : (f_X7_levelOfBoth k v) = x := hF.trans ((if_pos c_32).trans (rfl))
      exact r_iret E Y hr hk x () (e9.symm) rfl ⟨Nat.le_of_ble_eq_true rfl, Nat.le_of_ble_eq_true rfl⟩ dX7_levelOfBoth_61
    · skip
      refine lv_iload_n E.1.1 E.1.2.1 dX7_levelOfBoth_35 rfl (lv_at hl 0 rfl) ?_
      refine lv_aload_n E.1.1 E.1.2.1 dX7_levelOfBoth_36 rfl (lv_at hl 1 rfl) ?_
      refine gf_X7_47 E Y 0 rfl rfl dX7_levelOfBoth_37 ?_
      refine lv_bipush (v := 15) E.1.1 E.1.2.1 dX7_levelOfBoth_40 (by decide) ?_
      refine r_ial E Y 5 rfl (15) (by decide) (by unfold vp_in; decide) dX7_levelOfBoth_42 ?_
      refine lv_iconst (v := 1) E.1.1 E.1.2.1 dX7_levelOfBoth_43 (by decide) ?_
      refine lv_iadd E.1.1 E.1.2.1 dX7_levelOfBoth_44 ?_
      refine lv_icmp_le (tgt := 60) E.1.1 E.1.2.1 dX7_levelOfBoth_45 (by decide) (fun c_45 => ?_) (fun c_45 => ?_)
      · skip
        refine lv_iload_n E.1.1 E.1.2.1 dX7_levelOfBoth_60 rfl (lv_at hl 0 rfl) ?_
        have e9 : (f_X7_levelOfBoth k v) = x := hF.trans ((if_neg c_32).trans ((if_pos c_45).trans (rfl)))
        exact r_iret E Y hr hk x () (e9.symm) rfl ⟨Nat.le_of_ble_eq_true rfl, Nat.le_of_ble_eq_true rfl⟩ dX7_levelOfBoth_61
      · skip
        refine lv_aload_n E.1.1 E.1.2.1 dX7_levelOfBoth_48 rfl (lv_at hl 1 rfl) ?_
        refine gf_X7_47 E Y 0 rfl rfl dX7_levelOfBoth_49 ?_
        refine lv_bipush (v := 15) E.1.1 E.1.2.1 dX7_levelOfBoth_52 (by decide) ?_
        refine r_ial E Y 5 rfl (15) (by decide) (by unfold vp_in; decide) dX7_levelOfBoth_54 ?_
        refine lv_iconst (v := 1) E.1.1 E.1.2.1 dX7_levelOfBoth_55 (by decide) ?_
        refine lv_iadd E.1.1 E.1.2.1 dX7_levelOfBoth_56 ?_
        refine lv_goto (tgt := 61) E.1.1 E.1.2.1 dX7_levelOfBoth_57 (by decide) ?_
        have e9 : (f_X7_levelOfBoth k v) = ((v (15)) + (1 : Int32)) := hF.trans ((if_neg c_32).trans ((if_neg c_45).trans (rfl)))
        exact r_iret E Y hr hk ((v (15)) + (1 : Int32)) () (e9.symm) rfl ⟨Nat.le_of_ble_eq_true rfl, Nat.le_of_ble_eq_true rfl⟩ dX7_levelOfBoth_61
  refine lv_aload_n E.1.1 E.1.2.1 dX7_levelOfBoth_0 rfl (lv_at hl 0 rfl) ?_
  refine r_Vi (wr := []) (w2 := fun _ => [(qm, .inr (9, [.int (k.1 0), .int (k.1 1), .ref ma, .int (k.1 2), .ref mb, .int (k.1 3), .ref me, .ref mr, .int (k.1 4), .int (k.1 5), .int (k.1 6), .int (k.1 7), .int (k.1 8), .int (k.1 9), .int (k.1 10), .ref mn, .ref ms, .int (y.1 0), .ref mk, .int (y.1 1)])), (mb, .inl (cI, 5, .inl k.2.1)), (ma, .inl (cI, 30, .inl k.2.2.1)), (me, .inl (cI, 12, .inl k.2.2.2.1)), (mr, .inl (cI, 12, .inl k.2.2.2.2)), (mn, .inl (cI, 52, .inl v)), (ms, .inl (cI, 52, .inl a)), (mk, .inl (cI, 16, .inl y.2))]) E Y hA hl.1 (c_X7_levelByRate qm mb ma me mr mn ms mk k v a y kO) lk_X7_133 X0b (fun _ _ _ => trivial) [0, 1, 2, 3, 4, 5, 6, 7] [] [0, 1, 2, 3, 4, 5, 6, 7] rfl rfl (by decide) (fun _ => rfl) 0 rfl rfl ⟨Nat.le_of_ble_eq_true rfl, Nat.le_of_ble_eq_true rfl⟩ ⟨Nat.le_of_ble_eq_true rfl, Nat.le_of_ble_eq_true rfl⟩ rfl rfl (Nat.le_of_ble_eq_true rfl) dX7_levelOfBoth_1 (fun r u H locs hp Y => ?_)
  subst hp
  refine lv_aload_n E.1.1 E.1.2.1 dX7_levelOfBoth_4 rfl (lv_at hl 0 rfl) ?_
  refine r_Vi (wr := []) (w2 := fun _ => [(qm, .inr (9, [.int (k.1 0), .int (k.1 1), .ref ma, .int (k.1 2), .ref mb, .int (k.1 3), .ref me, .ref mr, .int (k.1 4), .int (k.1 5), .int (k.1 6), .int (k.1 7), .int (k.1 8), .int (k.1 9), .int (k.1 10), .ref mn, .ref ms, .int (y.1 0), .ref mk, .int (y.1 1)])), (mb, .inl (cI, 5, .inl k.2.1)), (ma, .inl (cI, 30, .inl k.2.2.1)), (me, .inl (cI, 12, .inl k.2.2.2.1)), (mr, .inl (cI, 12, .inl k.2.2.2.2)), (mn, .inl (cI, 52, .inl v)), (ms, .inl (cI, 52, .inl a)), (mk, .inl (cI, 16, .inl y.2))]) E Y hA hl.1 (c_X7_levelByBuffer qm mb ma me mr mn ms mk k v a y kO) lk_X7_136 X0b (fun _ _ _ => trivial) [0, 1, 2, 3, 4, 5, 6, 7] [] [0, 1, 2, 3, 4, 5, 6, 7] rfl rfl (by decide) (fun _ => rfl) 0 rfl rfl ⟨Nat.le_of_ble_eq_true rfl, Nat.le_of_ble_eq_true rfl⟩ ⟨Nat.le_of_ble_eq_true rfl, Nat.le_of_ble_eq_true rfl⟩ rfl rfl (Nat.le_of_ble_eq_true rfl) dX7_levelOfBoth_5 (fun r u H locs hp Y => ?_)
  subst hp
  refine lv_icmp_ge (tgt := 18) E.1.1 E.1.2.1 dX7_levelOfBoth_8 (by decide) (fun c_8 => ?_) (fun c_8 => ?_)
  · skip
    refine lv_aload_n E.1.1 E.1.2.1 dX7_levelOfBoth_18 rfl (lv_at hl 0 rfl) ?_
    refine r_Vi (wr := []) (w2 := fun _ => [(qm, .inr (9, [.int (k.1 0), .int (k.1 1), .ref ma, .int (k.1 2), .ref mb, .int (k.1 3), .ref me, .ref mr, .int (k.1 4), .int (k.1 5), .int (k.1 6), .int (k.1 7), .int (k.1 8), .int (k.1 9), .int (k.1 10), .ref mn, .ref ms, .int (y.1 0), .ref mk, .int (y.1 1)])), (mb, .inl (cI, 5, .inl k.2.1)), (ma, .inl (cI, 30, .inl k.2.2.1)), (me, .inl (cI, 12, .inl k.2.2.2.1)), (mr, .inl (cI, 12, .inl k.2.2.2.2)), (mn, .inl (cI, 52, .inl v)), (ms, .inl (cI, 52, .inl a)), (mk, .inl (cI, 16, .inl y.2))]) E Y hA hl.1 (c_X7_levelByBuffer qm mb ma me mr mn ms mk k v a y kO) lk_X7_136 X0b (fun _ _ _ => trivial) [0, 1, 2, 3, 4, 5, 6, 7] [] [0, 1, 2, 3, 4, 5, 6, 7] rfl rfl (by decide) (fun _ => rfl) 0 rfl rfl ⟨Nat.le_of_ble_eq_true rfl, Nat.le_of_ble_eq_true rfl⟩ ⟨Nat.le_of_ble_eq_true rfl, Nat.le_of_ble_eq_true rfl⟩ rfl rfl (Nat.le_of_ble_eq_true rfl) dX7_levelOfBoth_19 (fun r u H locs hp Y => ?_)
    subst hp
    exact hC22 (f_X7_levelByBuffer k v) ((if_pos c_8).trans (rfl)) _ _ _ Y (lv_sub hl [0] rfl)
  · skip
    refine lv_aload_n E.1.1 E.1.2.1 dX7_levelOfBoth_11 rfl (lv_at hl 0 rfl) ?_
    refine r_Vi (wr := []) (w2 := fun _ => [(qm, .inr (9, [.int (k.1 0), .int (k.1 1), .ref ma, .int (k.1 2), .ref mb, .int (k.1 3), .ref me, .ref mr, .int (k.1 4), .int (k.1 5), .int (k.1 6), .int (k.1 7), .int (k.1 8), .int (k.1 9), .int (k.1 10), .ref mn, .ref ms, .int (y.1 0), .ref mk, .int (y.1 1)])), (mb, .inl (cI, 5, .inl k.2.1)), (ma, .inl (cI, 30, .inl k.2.2.1)), (me, .inl (cI, 12, .inl k.2.2.2.1)), (mr, .inl (cI, 12, .inl k.2.2.2.2)), (mn, .inl (cI, 52, .inl v)), (ms, .inl (cI, 52, .inl a)), (mk, .inl (cI, 16, .inl y.2))]) E Y hA hl.1 (c_X7_levelByRate qm mb ma me mr mn ms mk k v a y kO) lk_X7_133 X0b (fun _ _ _ => trivial) [0, 1, 2, 3, 4, 5, 6, 7] [] [0, 1, 2, 3, 4, 5, 6, 7] rfl rfl (by decide) (fun _ => rfl) 0 rfl rfl ⟨Nat.le_of_ble_eq_true rfl, Nat.le_of_ble_eq_true rfl⟩ ⟨Nat.le_of_ble_eq_true rfl, Nat.le_of_ble_eq_true rfl⟩ rfl rfl (Nat.le_of_ble_eq_true rfl) dX7_levelOfBoth_12 (fun r u H locs hp Y => ?_)
    subst hp
    refine lv_goto (tgt := 22) E.1.1 E.1.2.1 dX7_levelOfBoth_15 (by decide) ?_
    exact hC22 (f_X7_levelByRate k v) ((if_neg c_8).trans (rfl)) _ _ _ Y (lv_sub hl [0] rfl)

def f_X7_chosen (k : Cf) (v : Fn) (p0 : Int32) : Int32 := if p0 = 0 then (f_X7_highest k) else (if p0 = (1 : Int32) then (f_X7_levelByRate k v) else (if p0 = (2 : Int32) then (f_X7_levelByBuffer k v) else (f_X7_levelOfBoth k v)))
set_option maxRecDepth 100000 in
set_option maxHeartbeats 4000000 in
theorem c_X7_chosen {l : Launch} {D : va_G} {cI cB : ClassId} (qm mb ma me mr mn ms mk : Nat) (k : Cf) (v : Fn) (a : Fn) (y : Ky) (p0 : Int32) (kO : KOK k) : CI l X0 D cI cB yX7_chosen cX7_chosen 2 (some .int) 3 67 0 0 [.ref qm, .int p0] (wM cI qm mb ma me mr mn ms mk k v a y) (fun (r : Int32) (_ : Unit) => r = (f_X7_chosen k v p0)) (fun _ => (wM cI qm mb ma me mr mn ms mk k v a y)) := by
  refine CI.of (by decide) (Nat.le_of_ble_eq_true rfl) ?_
  intro p e s m below meth c A ls E hr hk hin hA hAA hX Y hl
  have E : EE p c cX7_chosen 2 s _ m RX7 D cI cB := E
  have hl : lv_has ls 2 [(0, .ref qm), (1, .int p0)] := hl
  refine lv_iload_n E.1.1 E.1.2.1 dX7_chosen_0 rfl (lv_at hl 1 rfl) ?_
  refine lv_if_ne (tgt := 11) E.1.1 E.1.2.1 dX7_chosen_1 (by decide) (fun c_1 => ?_) (fun c_1 => ?_)
  · skip
    refine lv_iload_n E.1.1 E.1.2.1 dX7_chosen_11 rfl (lv_at hl 1 rfl) ?_
    refine lv_iconst (v := 1) E.1.1 E.1.2.1 dX7_chosen_12 (by decide) ?_
    refine lv_icmp_ne (tgt := 23) E.1.1 E.1.2.1 dX7_chosen_13 (by decide) (fun c_13 => ?_) (fun c_13 => ?_)
    · skip
      refine lv_iload_n E.1.1 E.1.2.1 dX7_chosen_23 rfl (lv_at hl 1 rfl) ?_
      refine lv_iconst (v := 2) E.1.1 E.1.2.1 dX7_chosen_24 (by decide) ?_
      refine lv_icmp_ne (tgt := 35) E.1.1 E.1.2.1 dX7_chosen_25 (by decide) (fun c_25 => ?_) (fun c_25 => ?_)
      · skip
        refine lv_aload_n E.1.1 E.1.2.1 dX7_chosen_35 rfl (lv_at hl 0 rfl) ?_
        refine r_Vi (wr := []) (w2 := fun _ => [(qm, .inr (9, [.int (k.1 0), .int (k.1 1), .ref ma, .int (k.1 2), .ref mb, .int (k.1 3), .ref me, .ref mr, .int (k.1 4), .int (k.1 5), .int (k.1 6), .int (k.1 7), .int (k.1 8), .int (k.1 9), .int (k.1 10), .ref mn, .ref ms, .int (y.1 0), .ref mk, .int (y.1 1)])), (mb, .inl (cI, 5, .inl k.2.1)), (ma, .inl (cI, 30, .inl k.2.2.1)), (me, .inl (cI, 12, .inl k.2.2.2.1)), (mr, .inl (cI, 12, .inl k.2.2.2.2)), (mn, .inl (cI, 52, .inl v)), (ms, .inl (cI, 52, .inl a)), (mk, .inl (cI, 16, .inl y.2))]) E Y hA hl.1 (c_X7_levelOfBoth qm mb ma me mr mn ms mk k v a y kO) lk_X7_139 X0b (fun _ _ _ => trivial) [0, 1, 2, 3, 4, 5, 6, 7] [] [0, 1, 2, 3, 4, 5, 6, 7] rfl rfl (by decide) (fun _ => rfl) 0 rfl rfl ⟨Nat.le_of_ble_eq_true rfl, Nat.le_of_ble_eq_true rfl⟩ ⟨Nat.le_of_ble_eq_true rfl, Nat.le_of_ble_eq_true rfl⟩ rfl rfl (Nat.le_of_ble_eq_true rfl) dX7_chosen_36 (fun r u H locs hp Y => ?_)
        subst hp
        have e9 : (f_X7_chosen k v p0) = (f_X7_levelOfBoth k v) := (if_neg c_1).trans ((if_neg c_13).trans ((if_neg c_25).trans (rfl)))
        exact r_iret E Y hr hk (f_X7_levelOfBoth k v) () (e9.symm) rfl ⟨Nat.le_of_ble_eq_true rfl, Nat.le_of_ble_eq_true rfl⟩ dX7_chosen_39
      · skip
        refine lv_aload_n E.1.1 E.1.2.1 dX7_chosen_28 rfl (lv_at hl 0 rfl) ?_
        refine r_Vi (wr := []) (w2 := fun _ => [(qm, .inr (9, [.int (k.1 0), .int (k.1 1), .ref ma, .int (k.1 2), .ref mb, .int (k.1 3), .ref me, .ref mr, .int (k.1 4), .int (k.1 5), .int (k.1 6), .int (k.1 7), .int (k.1 8), .int (k.1 9), .int (k.1 10), .ref mn, .ref ms, .int (y.1 0), .ref mk, .int (y.1 1)])), (mb, .inl (cI, 5, .inl k.2.1)), (ma, .inl (cI, 30, .inl k.2.2.1)), (me, .inl (cI, 12, .inl k.2.2.2.1)), (mr, .inl (cI, 12, .inl k.2.2.2.2)), (mn, .inl (cI, 52, .inl v)), (ms, .inl (cI, 52, .inl a)), (mk, .inl (cI, 16, .inl y.2))]) E Y hA hl.1 (c_X7_levelByBuffer qm mb ma me mr mn ms mk k v a y kO) lk_X7_136 X0b (fun _ _ _ => trivial) [0, 1, 2, 3, 4, 5, 6, 7] [] [0, 1, 2, 3, 4, 5, 6, 7] rfl rfl (by decide) (fun _ => rfl) 0 rfl rfl ⟨Nat.le_of_ble_eq_true rfl, Nat.le_of_ble_eq_true rfl⟩ ⟨Nat.le_of_ble_eq_true rfl, Nat.le_of_ble_eq_true rfl⟩ rfl rfl (Nat.le_of_ble_eq_true rfl) dX7_chosen_29 (fun r u H locs hp Y => ?_)
        subst hp
        refine lv_goto (tgt := 39) E.1.1 E.1.2.1 dX7_chosen_32 (by decide) ?_
        have e9 : (f_X7_chosen k v p0) = (f_X7_levelByBuffer k v) := (if_neg c_1).trans ((if_neg c_13).trans ((if_pos c_25).trans (rfl)))
        exact r_iret E Y hr hk (f_X7_levelByBuffer k v) () (e9.symm) rfl ⟨Nat.le_of_ble_eq_true rfl, Nat.le_of_ble_eq_true rfl⟩ dX7_chosen_39
    · skip
      refine lv_aload_n E.1.1 E.1.2.1 dX7_chosen_16 rfl (lv_at hl 0 rfl) ?_
      refine r_Vi (wr := []) (w2 := fun _ => [(qm, .inr (9, [.int (k.1 0), .int (k.1 1), .ref ma, .int (k.1 2), .ref mb, .int (k.1 3), .ref me, .ref mr, .int (k.1 4), .int (k.1 5), .int (k.1 6), .int (k.1 7), .int (k.1 8), .int (k.1 9), .int (k.1 10), .ref mn, .ref ms, .int (y.1 0), .ref mk, .int (y.1 1)])), (mb, .inl (cI, 5, .inl k.2.1)), (ma, .inl (cI, 30, .inl k.2.2.1)), (me, .inl (cI, 12, .inl k.2.2.2.1)), (mr, .inl (cI, 12, .inl k.2.2.2.2)), (mn, .inl (cI, 52, .inl v)), (ms, .inl (cI, 52, .inl a)), (mk, .inl (cI, 16, .inl y.2))]) E Y hA hl.1 (c_X7_levelByRate qm mb ma me mr mn ms mk k v a y kO) lk_X7_133 X0b (fun _ _ _ => trivial) [0, 1, 2, 3, 4, 5, 6, 7] [] [0, 1, 2, 3, 4, 5, 6, 7] rfl rfl (by decide) (fun _ => rfl) 0 rfl rfl ⟨Nat.le_of_ble_eq_true rfl, Nat.le_of_ble_eq_true rfl⟩ ⟨Nat.le_of_ble_eq_true rfl, Nat.le_of_ble_eq_true rfl⟩ rfl rfl (Nat.le_of_ble_eq_true rfl) dX7_chosen_17 (fun r u H locs hp Y => ?_)
      subst hp
      refine lv_goto (tgt := 39) E.1.1 E.1.2.1 dX7_chosen_20 (by decide) ?_
      have e9 : (f_X7_chosen k v p0) = (f_X7_levelByRate k v) := (if_neg c_1).trans ((if_pos c_13).trans (rfl))
      exact r_iret E Y hr hk (f_X7_levelByRate k v) () (e9.symm) rfl ⟨Nat.le_of_ble_eq_true rfl, Nat.le_of_ble_eq_true rfl⟩ dX7_chosen_39
  · skip
    refine lv_aload_n E.1.1 E.1.2.1 dX7_chosen_4 rfl (lv_at hl 0 rfl) ?_
    refine r_Vi (wr := []) (w2 := fun _ => [(qm, .inr (9, [.int (k.1 0), .int (k.1 1), .ref ma, .int (k.1 2), .ref mb, .int (k.1 3), .ref me, .ref mr, .int (k.1 4), .int (k.1 5), .int (k.1 6), .int (k.1 7), .int (k.1 8), .int (k.1 9), .int (k.1 10), .ref mn, .ref ms, .int (y.1 0), .ref mk, .int (y.1 1)])), (mb, .inl (cI, 5, .inl k.2.1)), (ma, .inl (cI, 30, .inl k.2.2.1)), (me, .inl (cI, 12, .inl k.2.2.2.1)), (mr, .inl (cI, 12, .inl k.2.2.2.2)), (mn, .inl (cI, 52, .inl v)), (ms, .inl (cI, 52, .inl a)), (mk, .inl (cI, 16, .inl y.2))]) E Y hA hl.1 (c_X7_highest qm mb ma me mr mn ms mk k v a y) lk_X7_130 X0b (fun _ _ _ => trivial) [0, 1, 2, 3, 4, 5, 6, 7] [] [0, 1, 2, 3, 4, 5, 6, 7] rfl rfl (by decide) (fun _ => rfl) 0 rfl rfl ⟨Nat.le_of_ble_eq_true rfl, Nat.le_of_ble_eq_true rfl⟩ ⟨Nat.le_of_ble_eq_true rfl, Nat.le_of_ble_eq_true rfl⟩ rfl rfl (Nat.le_of_ble_eq_true rfl) dX7_chosen_5 (fun r u H locs hp Y => ?_)
    subst hp
    refine lv_goto (tgt := 39) E.1.1 E.1.2.1 dX7_chosen_8 (by decide) ?_
    have e9 : (f_X7_chosen k v p0) = (f_X7_highest k) := (if_pos c_1).trans (rfl)
    exact r_iret E Y hr hk (f_X7_highest k) () (e9.symm) rfl ⟨Nat.le_of_ble_eq_true rfl, Nat.le_of_ble_eq_true rfl⟩ dX7_chosen_39

theorem hi_0 {k : Cf} (hk : KOK k) (hl : 1 ≤ (k.1 2).toInt) : 0 ≤ (f_X7_highest k).toInt ∧ (f_X7_highest k).toInt ≤ (k.1 2).toInt - 1 := by
  have h1 := hk.2.2.1.1
  have h2 := hk.2.2.1.2
  have h3 := hk.2.2.2.2.2.2.2.2.2.1.1
  have e : (k.1 2 - 1 : Int32).toInt = (k.1 2).toInt - 1 := by
    rw [fb_subI (by rw [i32_1]; omega) (by rw [i32_1]; omega), i32_1]
  unfold f_X7_highest
  split
  · rw [e]; omega
  · next h =>
    rw [fa_le, e] at h
    omega
theorem lr_b {k : Cf} {v : Fn} (hk : KOK k) : ∀ (n j : Nat) (x : Int32), j ≤ 5 → 0 ≤ x.toInt → x.toInt ≤ (f_X7_highest k).toInt → 0 ≤ (f_X7_levelByRate_l9 k v n x j).toInt ∧ (f_X7_levelByRate_l9 k v n x j).toInt ≤ (f_X7_highest k).toInt
  | 0, j, x, _, h0, h1 => ⟨h0, h1⟩
  | n + 1, j, x, hj, h0, h1 => by
    rw [f_X7_levelByRate_l9]
    split
    · exact ⟨h0, h1⟩
    · next h2 =>
      have h4 := hi_j hk hj h2
      rw [fa_lt, nI_toInt (by omega)] at h2
      split
      · exact ⟨h0, h1⟩
      · split
        · exact lr_b hk n (j + 1) x (by omega) h0 h1
        · exact lr_b hk n (j + 1) (nI j) (by omega) (by rw [nI_toInt (by omega)]; omega) (by rw [nI_toInt (by omega)]; omega)
theorem lr_in {k : Cf} {v : Fn} (hk : KOK k) (hl : 1 ≤ (k.1 2).toInt) : 0 ≤ (f_X7_levelByRate k v).toInt ∧ (f_X7_levelByRate k v).toInt ≤ (f_X7_highest k).toInt :=
  lr_b hk 5 1 0 (by decide) (by decide) (by rw [i32_0]; exact (hi_0 hk hl).1)
theorem idiv_n {x y : Int32} {a b : Nat} (hx : x.toInt = a) (hy : y.toInt = b) (hb : 0 < b) : (x / y).toInt = (a / b : Nat) := by
  have h1 := fb_rng x
  have h2 := fb_rng y
  have ex : x = nI a := by rw [fa_eq, nI_toInt (by omega)]; exact hx
  have ey : y = nI b := by rw [fa_eq, nI_toInt (by omega)]; exact hy
  rw [ex, ey, pk_div (by omega) hb (by omega), nI_toInt (by have := Nat.div_le_self a b; omega)]
/-- the level by the buffer, as a number -/
theorem lb_val {x r c h : Int32} (hx : btw x 0 60000) (hr : btw r 0 60000) (hc : btw c 1 60000) (hh : btw h 0 4) (h1 : r.toInt < x.toInt) (h2 : x.toInt < r.toInt + c.toInt) :
    ((x - r) * h / c).toInt = (((x.toInt - r.toInt).toNat * h.toInt.toNat / c.toInt.toNat : Nat) : Int) ∧ (x - r).toInt = x.toInt - r.toInt := by
  obtain ⟨x1, x2⟩ := hx
  obtain ⟨r1, r2⟩ := hr
  obtain ⟨c1, c2⟩ := hc
  obtain ⟨a1, a2⟩ := hh
  have e1 : (x - r).toInt = x.toInt - r.toInt := fb_subI (by omega) (by omega)
  obtain ⟨d, hd⟩ : ∃ d : Nat, x.toInt - r.toInt = d := ⟨(x.toInt - r.toInt).toNat, by omega⟩
  obtain ⟨q, hq⟩ : ∃ q : Nat, h.toInt = q := ⟨h.toInt.toNat, by omega⟩
  have hm : d * q ≤ d * 4 := Nat.mul_le_mul_left d (by omega)
  have e2 : ((x - r) * h).toInt = ((d * q : Nat) : Int) := by
    have e3 : (x - r).toInt * h.toInt = ((d * q : Nat) : Int) := by rw [e1, hd, hq]; rfl
    rw [fb_mulI (by rw [e3]; omega) (by rw [e3]; omega), e3]
  refine ⟨?_, e1⟩
  rw [hd, hq, idiv_n e2 (b := c.toInt.toNat) (by omega) (by omega)]
  rfl
theorem lb_in {k : Cf} {v : Fn} (hk : KOK k) (hl : 1 ≤ (k.1 2).toInt) (h1 : btw (v 1) 0 60000) : 0 ≤ (f_X7_levelByBuffer k v).toInt ∧ (f_X7_levelByBuffer k v).toInt ≤ (f_X7_highest k).toInt := by
  have hh := hi_0 hk hl
  have h4 := hi_4 hk
  have hr := hk.2.2.2.2.2.2.2.1
  have hc := hk.2.2.2.2.2.2.2.2.1
  unfold f_X7_levelByBuffer
  split
  · next a1 =>
    split
    · next a2 =>
      rw [fa_lt] at a1 a2
      rw [fb_addI (by have := hr.1; have := hc.1; omega) (by have := hr.2; have := hc.2; omega)] at a2
      have e := (lb_val (h := f_X7_highest k) h1 hr hc ⟨hh.1, h4⟩ a1 a2).1
      rw [e]
      refine ⟨Int.natCast_nonneg _, ?_⟩
      have hc1 := hc.1
      have : ((v 1).toInt - (k.1 7).toInt).toNat * (f_X7_highest k).toInt.toNat / (k.1 8).toInt.toNat ≤ (f_X7_highest k).toInt.toNat := by
        refine Nat.div_le_of_le_mul ?_
        exact Nat.mul_le_mul_right _ (by omega)
      exact Int.le_trans (Int.ofNat_le.mpr this) (by omega)
    · exact ⟨hh.1, Int.le_refl _⟩
  · exact ⟨by rw [i32_0]; omega, by rw [i32_0]; exact hh.1⟩
theorem bo_in {k : Cf} {v : Fn} {H : Int} (h15 : v 15 = -6 ∨ btw (v 15) 0 4) {x : Int32} (h0 : 0 ≤ x.toInt) (h1 : x.toInt ≤ H) : 0 ≤ (f_X7_levelOfBoth_c22 v x).toInt ∧ (f_X7_levelOfBoth_c22 v x).toInt ≤ H := by
  unfold f_X7_levelOfBoth_c22
  split
  · exact ⟨h0, h1⟩
  · next a1 =>
    have h := h15.resolve_left a1
    have e : (v 15 + 1 : Int32).toInt = (v 15).toInt + 1 := by
      rw [fb_addI (by rw [i32_1]; have := h.1; omega) (by rw [i32_1]; have := h.2; omega), i32_1]
    split
    · exact ⟨h0, h1⟩
    · next a2 =>
      rw [fa_le, e] at a2
      rw [e]
      have := h.1
      omega
theorem ch_in {k : Cf} {v : Fn} (hk : KOK k) (hl : 1 ≤ (k.1 2).toInt) (h1 : btw (v 1) 0 60000) (h15 : v 15 = -6 ∨ btw (v 15) 0 4) (p : Int32) : 0 ≤ (f_X7_chosen k v p).toInt ∧ (f_X7_chosen k v p).toInt ≤ (f_X7_highest k).toInt := by
  have hr := lr_in (v := v) hk hl
  have hb := lb_in hk hl h1
  unfold f_X7_chosen
  split
  · exact ⟨(hi_0 hk hl).1, Int.le_refl _⟩
  · split
    · exact hr
    · split
      · exact hb
      · unfold f_X7_levelOfBoth
        split
        · exact bo_in (k := k) h15 hb.1 hb.2
        · exact bo_in (k := k) h15 hr.1 hr.2
theorem sd_lv {k : Cf} {v : Fn} (h : PR k v) {p : Int32} : vp_in (f_X7_chosen k (upd v 6 1) p) 5 := by
  obtain ⟨hk, hl, j, hj, hN, -⟩ := h
  have h1 := ch_in (v := upd v 6 1) hk hl hN.1 hN.2.2.2.2.2.2.2.2.2.2.2 p
  have h2 := hi_4 hk
  rw [vp_in_iff]
  omega
theorem sd_nx {k : Cf} {v : Fn} (h : PR k v) (h5 : ¬ k.1 0 ≤ v 5) : vp_in (v 5) 30 := by
  obtain ⟨hk, hl, j, hj, hN, -⟩ := h
  have h1 := hN.2.2.2.2.1.1
  have h2 := hk.1.2
  rw [fa_le] at h5
  rw [vp_in_iff]
  omega

theorem c5_to {x : Int32} (h : btw x 0 29) : (22 + x : Int32).toInt = 22 + x.toInt := by
  have h1 := h.1
  have h2 := h.2
  have e : (22 : Int32).toInt = 22 := by decide
  rw [fb_addI (by rw [e]; omega) (by rw [e]; omega), e]
theorem c5_cl {x : Int32} (h : btw x 0 29) : (22 + x : Int32).toNatClampNeg = 22 + x.toNatClampNeg := by
  have h1 := h.1
  have e := c5_to h
  show (22 + x : Int32).toInt.toNat = 22 + x.toInt.toNat
  omega
theorem c5_in {x : Int32} (h : btw x 0 29) : vp_in (22 + x : Int32) 52 := by
  have h1 := h.1
  have h2 := h.2
  have e := c5_to h
  rw [vp_in_iff]
  omega

def f_X7_startsDownload (k : Cf) (v : Fn) (p0 : Int32) : Fn := if (v (6)) = 0 then (if (k.1 0) ≤ (v (5)) then v else (if (k.1 4) < ((v (1)) + (k.1 1)) then v else (upd (upd (upd (upd (upd v (6) (1 : Int32)) (7) (f_X7_chosen k (upd v (6) (1 : Int32)) p0)) (8) (f_X7_sizeOf k (f_X7_chosen k (upd v (6) (1 : Int32)) p0) (v (5)))) (9) (0 : Int32)) (10) (0 : Int32)))) else v
set_option maxRecDepth 100000 in
set_option maxHeartbeats 4000000 in
theorem c_X7_startsDownload {l : Launch} {D : va_G} {cI cB : ClassId} (qm mb ma me mr mn ms mk : Nat) (k : Cf) (v : Fn) (a : Fn) (y : Ky) (p0 : Int32) (pO : PR k v) : CV l X0 D cI cB yX7_startsDownload cX7_startsDownload 2 4 88 0 0 [.ref qm, .int p0] (wM cI qm mb ma me mr mn ms mk k v a y) (fun (u : Fn) => u = (f_X7_startsDownload k v p0)) (fun u => (wM cI qm mb ma me mr mn ms mk k u a y)) := by
  refine CV.of (by decide) (Nat.le_of_ble_eq_true rfl) ?_
  intro p e s m below meth c A ls E hr hk hin hA hAA hX Y hl
  have E : EE p c cX7_startsDownload 2 s _ m RX7 D cI cB := E
  have hl : lv_has ls 2 [(0, .ref qm), (1, .int p0)] := hl
  refine lv_aload_n E.1.1 E.1.2.1 dX7_startsDownload_0 rfl (lv_at hl 0 rfl) ?_
  refine gf_X7_47 E Y 0 rfl rfl dX7_startsDownload_1 ?_
  refine lv_bipush (v := 6) E.1.1 E.1.2.1 dX7_startsDownload_4 (by decide) ?_
  refine r_ial E Y 5 rfl (6) (by decide) (by unfold vp_in; decide) dX7_startsDownload_6 ?_
  refine lv_if_ne (tgt := 101) E.1.1 E.1.2.1 dX7_startsDownload_7 (by decide) (fun c_7 => ?_) (fun c_7 => ?_)
  · skip
    have e9 : (f_X7_startsDownload k v p0) = v := (if_neg c_7).trans (rfl)
    exact r_vret E Y hr hk v (e9.symm) rfl ⟨Nat.le_of_ble_eq_true rfl, Nat.le_of_ble_eq_true rfl⟩ dX7_startsDownload_101
  · skip
    refine lv_aload_n E.1.1 E.1.2.1 dX7_startsDownload_10 rfl (lv_at hl 0 rfl) ?_
    refine gf_X7_47 E Y 0 rfl rfl dX7_startsDownload_11 ?_
    refine lv_iconst (v := 5) E.1.1 E.1.2.1 dX7_startsDownload_14 (by decide) ?_
    refine r_ial E Y 5 rfl (5) (by decide) (by unfold vp_in; decide) dX7_startsDownload_15 ?_
    refine lv_aload_n E.1.1 E.1.2.1 dX7_startsDownload_16 rfl (lv_at hl 0 rfl) ?_
    refine gf_X7_7 E Y 0 rfl rfl dX7_startsDownload_17 ?_
    refine lv_icmp_ge (tgt := 101) E.1.1 E.1.2.1 dX7_startsDownload_20 (by decide) (fun c_20 => ?_) (fun c_20 => ?_)
    · skip
      have e9 : (f_X7_startsDownload k v p0) = v := (if_pos c_7).trans ((if_pos c_20).trans (rfl))
      exact r_vret E Y hr hk v (e9.symm) rfl ⟨Nat.le_of_ble_eq_true rfl, Nat.le_of_ble_eq_true rfl⟩ dX7_startsDownload_101
    · skip
      refine lv_aload_n E.1.1 E.1.2.1 dX7_startsDownload_23 rfl (lv_at hl 0 rfl) ?_
      refine gf_X7_47 E Y 0 rfl rfl dX7_startsDownload_24 ?_
      refine lv_iconst (v := 1) E.1.1 E.1.2.1 dX7_startsDownload_27 (by decide) ?_
      refine r_ial E Y 5 rfl (1) (by decide) (by unfold vp_in; decide) dX7_startsDownload_28 ?_
      refine lv_aload_n E.1.1 E.1.2.1 dX7_startsDownload_29 rfl (lv_at hl 0 rfl) ?_
      refine gf_X7_13 E Y 0 rfl rfl dX7_startsDownload_30 ?_
      refine lv_iadd E.1.1 E.1.2.1 dX7_startsDownload_33 ?_
      refine lv_aload_n E.1.1 E.1.2.1 dX7_startsDownload_34 rfl (lv_at hl 0 rfl) ?_
      refine gf_X7_29 E Y 0 rfl rfl dX7_startsDownload_35 ?_
      refine lv_icmp_gt (tgt := 101) E.1.1 E.1.2.1 dX7_startsDownload_38 (by decide) (fun c_38 => ?_) (fun c_38 => ?_)
      · skip
        have e9 : (f_X7_startsDownload k v p0) = v := (if_pos c_7).trans ((if_neg c_20).trans ((if_pos c_38).trans (rfl)))
        exact r_vret E Y hr hk v (e9.symm) rfl ⟨Nat.le_of_ble_eq_true rfl, Nat.le_of_ble_eq_true rfl⟩ dX7_startsDownload_101
      · skip
        refine lv_aload_n E.1.1 E.1.2.1 dX7_startsDownload_41 rfl (lv_at hl 0 rfl) ?_
        refine gf_X7_47 E Y 0 rfl rfl dX7_startsDownload_42 ?_
        refine lv_bipush (v := 6) E.1.1 E.1.2.1 dX7_startsDownload_45 (by decide) ?_
        refine lv_iconst (v := 1) E.1.1 E.1.2.1 dX7_startsDownload_47 (by decide) ?_
        refine r_ias (w' := [(qm, .inr (9, [.int (k.1 0), .int (k.1 1), .ref ma, .int (k.1 2), .ref mb, .int (k.1 3), .ref me, .ref mr, .int (k.1 4), .int (k.1 5), .int (k.1 6), .int (k.1 7), .int (k.1 8), .int (k.1 9), .int (k.1 10), .ref mn, .ref ms, .int (y.1 0), .ref mk, .int (y.1 1)])), (mb, .inl (cI, 5, .inl k.2.1)), (ma, .inl (cI, 30, .inl k.2.2.1)), (me, .inl (cI, 12, .inl k.2.2.2.1)), (mr, .inl (cI, 12, .inl k.2.2.2.2)), (mn, .inl (cI, 52, .inl (upd v (6) (1 : Int32)))), (ms, .inl (cI, 52, .inl a)), (mk, .inl (cI, 16, .inl y.2))]) E Y 5 rfl (6) (by decide) (by unfold vp_in; decide) rfl dX7_startsDownload_48 (fun H locs Y => ?_)
        refine lv_aload_n E.1.1 E.1.2.1 dX7_startsDownload_49 rfl (lv_at hl 0 rfl) ?_
        refine gf_X7_47 E Y 0 rfl rfl dX7_startsDownload_50 ?_
        refine lv_bipush (v := 7) E.1.1 E.1.2.1 dX7_startsDownload_53 (by decide) ?_
        refine lv_aload_n E.1.1 E.1.2.1 dX7_startsDownload_55 rfl (lv_at hl 0 rfl) ?_
        refine lv_iload_n E.1.1 E.1.2.1 dX7_startsDownload_56 rfl (lv_at hl 1 rfl) ?_
        refine r_Vi (wr := []) (w2 := fun _ => [(qm, .inr (9, [.int (k.1 0), .int (k.1 1), .ref ma, .int (k.1 2), .ref mb, .int (k.1 3), .ref me, .ref mr, .int (k.1 4), .int (k.1 5), .int (k.1 6), .int (k.1 7), .int (k.1 8), .int (k.1 9), .int (k.1 10), .ref mn, .ref ms, .int (y.1 0), .ref mk, .int (y.1 1)])), (mb, .inl (cI, 5, .inl k.2.1)), (ma, .inl (cI, 30, .inl k.2.2.1)), (me, .inl (cI, 12, .inl k.2.2.2.1)), (mr, .inl (cI, 12, .inl k.2.2.2.2)), (mn, .inl (cI, 52, .inl (upd v (6) (1 : Int32)))), (ms, .inl (cI, 52, .inl a)), (mk, .inl (cI, 16, .inl y.2))]) E Y hA hl.1 (c_X7_chosen qm mb ma me mr mn ms mk k (upd v (6) (1 : Int32)) a y p0 (pO.1)) lk_X7_142 X0b (fun _ _ _ => trivial) [0, 1, 2, 3, 4, 5, 6, 7] [] [0, 1, 2, 3, 4, 5, 6, 7] rfl rfl (by decide) (fun _ => rfl) 0 rfl rfl ⟨Nat.le_of_ble_eq_true rfl, Nat.le_of_ble_eq_true rfl⟩ ⟨Nat.le_of_ble_eq_true rfl, Nat.le_of_ble_eq_true rfl⟩ rfl rfl (Nat.le_of_ble_eq_true rfl) dX7_startsDownload_57 (fun r u H locs hp Y => ?_)
        subst hp
        refine r_ias (w' := [(qm, .inr (9, [.int (k.1 0), .int (k.1 1), .ref ma, .int (k.1 2), .ref mb, .int (k.1 3), .ref me, .ref mr, .int (k.1 4), .int (k.1 5), .int (k.1 6), .int (k.1 7), .int (k.1 8), .int (k.1 9), .int (k.1 10), .ref mn, .ref ms, .int (y.1 0), .ref mk, .int (y.1 1)])), (mb, .inl (cI, 5, .inl k.2.1)), (ma, .inl (cI, 30, .inl k.2.2.1)), (me, .inl (cI, 12, .inl k.2.2.2.1)), (mr, .inl (cI, 12, .inl k.2.2.2.2)), (mn, .inl (cI, 52, .inl (upd (upd v (6) (1 : Int32)) (7) (f_X7_chosen k (upd v (6) (1 : Int32)) p0)))), (ms, .inl (cI, 52, .inl a)), (mk, .inl (cI, 16, .inl y.2))]) E Y 5 rfl (7) (by decide) (by unfold vp_in; decide) rfl dX7_startsDownload_60 (fun H locs Y => ?_)
        refine lv_aload_n E.1.1 E.1.2.1 dX7_startsDownload_61 rfl (lv_at hl 0 rfl) ?_
        refine gf_X7_47 E Y 0 rfl rfl dX7_startsDownload_62 ?_
        refine lv_bipush (v := 8) E.1.1 E.1.2.1 dX7_startsDownload_65 (by decide) ?_
        refine lv_aload_n E.1.1 E.1.2.1 dX7_startsDownload_67 rfl (lv_at hl 0 rfl) ?_
        refine lv_aload_n E.1.1 E.1.2.1 dX7_startsDownload_68 rfl (lv_at hl 0 rfl) ?_
        refine gf_X7_47 E Y 0 rfl rfl dX7_startsDownload_69 ?_
        refine lv_bipush (v := 7) E.1.1 E.1.2.1 dX7_startsDownload_72 (by decide) ?_
        refine r_ial E Y 5 rfl (7) (by decide) (by unfold vp_in; decide) dX7_startsDownload_74 ?_
        refine lv_cst (v := (f_X7_chosen k (upd v (6) (1 : Int32)) p0)) rfl ?_
        refine lv_aload_n E.1.1 E.1.2.1 dX7_startsDownload_75 rfl (lv_at hl 0 rfl) ?_
        refine gf_X7_47 E Y 0 rfl rfl dX7_startsDownload_76 ?_
        refine lv_iconst (v := 5) E.1.1 E.1.2.1 dX7_startsDownload_79 (by decide) ?_
        refine r_ial E Y 5 rfl (5) (by decide) (by unfold vp_in; decide) dX7_startsDownload_80 ?_
        refine lv_cst (v := (v (5))) rfl ?_
        refine r_Vi (wr := []) (w2 := fun _ => [(qm, .inr (9, [.int (k.1 0), .int (k.1 1), .ref ma, .int (k.1 2), .ref mb, .int (k.1 3), .ref me, .ref mr, .int (k.1 4), .int (k.1 5), .int (k.1 6), .int (k.1 7), .int (k.1 8), .int (k.1 9), .int (k.1 10), .ref mn, .ref ms, .int (y.1 0), .ref mk, .int (y.1 1)])), (mb, .inl (cI, 5, .inl k.2.1)), (ma, .inl (cI, 30, .inl k.2.2.1)), (me, .inl (cI, 12, .inl k.2.2.2.1)), (mr, .inl (cI, 12, .inl k.2.2.2.2)), (mn, .inl (cI, 52, .inl (upd (upd v (6) (1 : Int32)) (7) (f_X7_chosen k (upd v (6) (1 : Int32)) p0)))), (ms, .inl (cI, 52, .inl a)), (mk, .inl (cI, 16, .inl y.2))]) E Y hA hl.1 (c_X7_sizeOf qm mb ma me mr mn ms mk k (upd (upd v (6) (1 : Int32)) (7) (f_X7_chosen k (upd v (6) (1 : Int32)) p0)) a y (f_X7_chosen k (upd v (6) (1 : Int32)) p0) (v (5)) (sd_lv pO) (sd_nx pO c_20)) lk_X7_145 X0b (fun _ _ _ => trivial) [0, 1, 2, 3, 4, 5, 6, 7] [] [0, 1, 2, 3, 4, 5, 6, 7] rfl rfl (by decide) (fun _ => rfl) 0 rfl rfl ⟨Nat.le_of_ble_eq_true rfl, Nat.le_of_ble_eq_true rfl⟩ ⟨Nat.le_of_ble_eq_true rfl, Nat.le_of_ble_eq_true rfl⟩ rfl rfl (Nat.le_of_ble_eq_true rfl) dX7_startsDownload_81 (fun r u H locs hp Y => ?_)
        subst hp
        refine r_ias (w' := [(qm, .inr (9, [.int (k.1 0), .int (k.1 1), .ref ma, .int (k.1 2), .ref mb, .int (k.1 3), .ref me, .ref mr, .int (k.1 4), .int (k.1 5), .int (k.1 6), .int (k.1 7), .int (k.1 8), .int (k.1 9), .int (k.1 10), .ref mn, .ref ms, .int (y.1 0), .ref mk, .int (y.1 1)])), (mb, .inl (cI, 5, .inl k.2.1)), (ma, .inl (cI, 30, .inl k.2.2.1)), (me, .inl (cI, 12, .inl k.2.2.2.1)), (mr, .inl (cI, 12, .inl k.2.2.2.2)), (mn, .inl (cI, 52, .inl (upd (upd (upd v (6) (1 : Int32)) (7) (f_X7_chosen k (upd v (6) (1 : Int32)) p0)) (8) (f_X7_sizeOf k (f_X7_chosen k (upd v (6) (1 : Int32)) p0) (v (5)))))), (ms, .inl (cI, 52, .inl a)), (mk, .inl (cI, 16, .inl y.2))]) E Y 5 rfl (8) (by decide) (by unfold vp_in; decide) rfl dX7_startsDownload_84 (fun H locs Y => ?_)
        refine lv_aload_n E.1.1 E.1.2.1 dX7_startsDownload_85 rfl (lv_at hl 0 rfl) ?_
        refine gf_X7_47 E Y 0 rfl rfl dX7_startsDownload_86 ?_
        refine lv_bipush (v := 9) E.1.1 E.1.2.1 dX7_startsDownload_89 (by decide) ?_
        refine lv_iconst (v := 0) E.1.1 E.1.2.1 dX7_startsDownload_91 (by decide) ?_
        refine r_ias (w' := [(qm, .inr (9, [.int (k.1 0), .int (k.1 1), .ref ma, .int (k.1 2), .ref mb, .int (k.1 3), .ref me, .ref mr, .int (k.1 4), .int (k.1 5), .int (k.1 6), .int (k.1 7), .int (k.1 8), .int (k.1 9), .int (k.1 10), .ref mn, .ref ms, .int (y.1 0), .ref mk, .int (y.1 1)])), (mb, .inl (cI, 5, .inl k.2.1)), (ma, .inl (cI, 30, .inl k.2.2.1)), (me, .inl (cI, 12, .inl k.2.2.2.1)), (mr, .inl (cI, 12, .inl k.2.2.2.2)), (mn, .inl (cI, 52, .inl (upd (upd (upd (upd v (6) (1 : Int32)) (7) (f_X7_chosen k (upd v (6) (1 : Int32)) p0)) (8) (f_X7_sizeOf k (f_X7_chosen k (upd v (6) (1 : Int32)) p0) (v (5)))) (9) (0 : Int32)))), (ms, .inl (cI, 52, .inl a)), (mk, .inl (cI, 16, .inl y.2))]) E Y 5 rfl (9) (by decide) (by unfold vp_in; decide) rfl dX7_startsDownload_92 (fun H locs Y => ?_)
        refine lv_aload_n E.1.1 E.1.2.1 dX7_startsDownload_93 rfl (lv_at hl 0 rfl) ?_
        refine gf_X7_47 E Y 0 rfl rfl dX7_startsDownload_94 ?_
        refine lv_bipush (v := 10) E.1.1 E.1.2.1 dX7_startsDownload_97 (by decide) ?_
        refine lv_iconst (v := 0) E.1.1 E.1.2.1 dX7_startsDownload_99 (by decide) ?_
        refine r_ias (w' := [(qm, .inr (9, [.int (k.1 0), .int (k.1 1), .ref ma, .int (k.1 2), .ref mb, .int (k.1 3), .ref me, .ref mr, .int (k.1 4), .int (k.1 5), .int (k.1 6), .int (k.1 7), .int (k.1 8), .int (k.1 9), .int (k.1 10), .ref mn, .ref ms, .int (y.1 0), .ref mk, .int (y.1 1)])), (mb, .inl (cI, 5, .inl k.2.1)), (ma, .inl (cI, 30, .inl k.2.2.1)), (me, .inl (cI, 12, .inl k.2.2.2.1)), (mr, .inl (cI, 12, .inl k.2.2.2.2)), (mn, .inl (cI, 52, .inl (upd (upd (upd (upd (upd v (6) (1 : Int32)) (7) (f_X7_chosen k (upd v (6) (1 : Int32)) p0)) (8) (f_X7_sizeOf k (f_X7_chosen k (upd v (6) (1 : Int32)) p0) (v (5)))) (9) (0 : Int32)) (10) (0 : Int32)))), (ms, .inl (cI, 52, .inl a)), (mk, .inl (cI, 16, .inl y.2))]) E Y 5 rfl (10) (by decide) (by unfold vp_in; decide) rfl dX7_startsDownload_100 (fun H locs Y => ?_)
        have e9 : (f_X7_startsDownload k v p0) = (upd (upd (upd (upd (upd v (6) (1 : Int32)) (7) (f_X7_chosen k (upd v (6) (1 : Int32)) p0)) (8) (f_X7_sizeOf k (f_X7_chosen k (upd v (6) (1 : Int32)) p0) (v (5)))) (9) (0 : Int32)) (10) (0 : Int32)) := (if_pos c_7).trans ((if_neg c_20).trans ((if_neg c_38).trans (rfl)))
        exact r_vret E Y hr hk (upd (upd (upd (upd (upd v (6) (1 : Int32)) (7) (f_X7_chosen k (upd v (6) (1 : Int32)) p0)) (8) (f_X7_sizeOf k (f_X7_chosen k (upd v (6) (1 : Int32)) p0) (v (5)))) (9) (0 : Int32)) (10) (0 : Int32)) (e9.symm) rfl ⟨Nat.le_of_ble_eq_true rfl, Nat.le_of_ble_eq_true rfl⟩ dX7_startsDownload_101

def f_X7_completes_c105 (k : Cf) (v1 : Fn) : Fn := (upd (upd (upd (upd (upd (upd (upd v1 (15) (v1 (7))) (22 + (v1 5).toNatClampNeg) (v1 (7))) (20) ((v1 (20)) + (k.2.1 ((v1 (7)).toNatClampNeg)))) (21) ((v1 (21)) + (1 : Int32))) (1) ((v1 (1)) + (k.1 1))) (5) ((v1 (5)) + (1 : Int32))) (6) (0 : Int32))
def f_X7_completes (k : Cf) (v : Fn) : Fn := if (v (15)) = (-6 : Int32) then f_X7_completes_c105 k (upd (upd (upd (upd (upd v (14) (v (13))) (13) (v (12))) (12) ((v (8)) / (v (10)))) (11) ((v (11)) + (1 : Int32))) (16) ((v (16)) + (0 : Int32))) else (if (v (15)) = (v (7)) then f_X7_completes_c105 k (upd (upd (upd (upd (upd v (14) (v (13))) (13) (v (12))) (12) ((v (8)) / (v (10)))) (11) ((v (11)) + (1 : Int32))) (16) ((v (16)) + (0 : Int32))) else f_X7_completes_c105 k (upd (upd (upd (upd (upd v (14) (v (13))) (13) (v (12))) (12) ((v (8)) / (v (10)))) (11) ((v (11)) + (1 : Int32))) (16) ((v (16)) + (1 : Int32))))
set_option maxRecDepth 100000 in
set_option maxHeartbeats 4000000 in
theorem c_X7_completes {l : Launch} {D : va_G} {cI cB : ClassId} (qm mb ma me mr mn ms mk : Nat) (k : Cf) (v : Fn) (a : Fn) (y : Ky) (h10 : ¬ v 10 = 0) (h5 : btw (v 5) 0 29) (h7 : vp_in (v 7) 5) : CV l X0 D cI cB yX7_completes cX7_completes 1 0 0 0 0 [.ref qm] (wM cI qm mb ma me mr mn ms mk k v a y) (fun (u : Fn) => u = (f_X7_completes k v)) (fun u => (wM cI qm mb ma me mr mn ms mk k u a y)) := by
  refine CV.of (by decide) (Nat.le_of_ble_eq_true rfl) ?_
  intro p e s m below meth c A ls E hr hk hin hA hAA hX Y hl
  have E : EE p c cX7_completes 1 s _ m RX7 D cI cB := E
  have hl : lv_has ls 1 [(0, .ref qm)] := hl
  have hC105 : ∀ (v1 : Fn), (q5 : btw (v1 5) 0 29) → (q7 : vp_in (v1 7) 5) → (f_X7_completes k v) = f_X7_completes_c105 k v1 → ∀ (H : Heap) (locs : List Loc) (ls : Array Slot), WD D A s.heap H locs [(qm, .inr (9, [.int (k.1 0), .int (k.1 1), .ref ma, .int (k.1 2), .ref mb, .int (k.1 3), .ref me, .ref mr, .int (k.1 4), .int (k.1 5), .int (k.1 6), .int (k.1 7), .int (k.1 8), .int (k.1 9), .int (k.1 10), .ref mn, .ref ms, .int (y.1 0), .ref mk, .int (y.1 1)])), (mb, .inl (cI, 5, .inl k.2.1)), (ma, .inl (cI, 30, .inl k.2.2.1)), (me, .inl (cI, 12, .inl k.2.2.2.1)), (mr, .inl (cI, 12, .inl k.2.2.2.2)), (mn, .inl (cI, 52, .inl v1)), (ms, .inl (cI, 52, .inl a)), (mk, .inl (cI, 16, .inl y.2))] → lv_has ls 1 [(0, .ref qm)] → W p l e { frames := 0, cells := 0, slots := 0, locals := 0 } s m ([.ref qm] : List Value).toArray below meth c H locs 0 0 (MQ below (va_Qv (fun (u : Fn) => u = (f_X7_completes k v)) (AT D cI cB A (fun u => (wM cI qm mb ma me mr mn ms mk k u a y))) A) ([.ref qm] : List Value).toArray s 0 0 A) (F0 m 105 ls []) := by
    intro v1 q5 q7 hF H locs ls Y hl
    refine lv_aload_n E.1.1 E.1.2.1 dX7_completes_105 rfl (lv_at hl 0 rfl) ?_
    refine gf_X7_47 E Y 0 rfl rfl dX7_completes_106 ?_
    refine lv_bipush (v := 15) E.1.1 E.1.2.1 dX7_completes_109 (by decide) ?_
    refine lv_aload_n E.1.1 E.1.2.1 dX7_completes_111 rfl (lv_at hl 0 rfl) ?_
    refine gf_X7_47 E Y 0 rfl rfl dX7_completes_112 ?_
    refine lv_bipush (v := 7) E.1.1 E.1.2.1 dX7_completes_115 (by decide) ?_
    refine r_ial E Y 5 rfl (7) (by decide) (by unfold vp_in; decide) dX7_completes_117 ?_
    refine r_ias (w' := [(qm, .inr (9, [.int (k.1 0), .int (k.1 1), .ref ma, .int (k.1 2), .ref mb, .int (k.1 3), .ref me, .ref mr, .int (k.1 4), .int (k.1 5), .int (k.1 6), .int (k.1 7), .int (k.1 8), .int (k.1 9), .int (k.1 10), .ref mn, .ref ms, .int (y.1 0), .ref mk, .int (y.1 1)])), (mb, .inl (cI, 5, .inl k.2.1)), (ma, .inl (cI, 30, .inl k.2.2.1)), (me, .inl (cI, 12, .inl k.2.2.2.1)), (mr, .inl (cI, 12, .inl k.2.2.2.2)), (mn, .inl (cI, 52, .inl (upd v1 (15) (v1 (7))))), (ms, .inl (cI, 52, .inl a)), (mk, .inl (cI, 16, .inl y.2))]) E Y 5 rfl (15) (by decide) (by unfold vp_in; decide) rfl dX7_completes_118 (fun H locs Y => ?_)
    refine lv_aload_n E.1.1 E.1.2.1 dX7_completes_119 rfl (lv_at hl 0 rfl) ?_
    refine gf_X7_47 E Y 0 rfl rfl dX7_completes_120 ?_
    refine lv_bipush (v := 22) E.1.1 E.1.2.1 dX7_completes_123 (by decide) ?_
    refine lv_aload_n E.1.1 E.1.2.1 dX7_completes_125 rfl (lv_at hl 0 rfl) ?_
    refine gf_X7_47 E Y 0 rfl rfl dX7_completes_126 ?_
    refine lv_iconst (v := 5) E.1.1 E.1.2.1 dX7_completes_129 (by decide) ?_
    refine r_ial E Y 5 rfl (5) (by decide) (by unfold vp_in; decide) dX7_completes_130 ?_
    refine lv_cst (v := (v1 (5))) rfl ?_
    refine lv_iadd E.1.1 E.1.2.1 dX7_completes_131 ?_
    refine lv_aload_n E.1.1 E.1.2.1 dX7_completes_132 rfl (lv_at hl 0 rfl) ?_
    refine gf_X7_47 E Y 0 rfl rfl dX7_completes_133 ?_
    refine lv_bipush (v := 7) E.1.1 E.1.2.1 dX7_completes_136 (by decide) ?_
    refine r_ial E Y 5 rfl (7) (by decide) (by unfold vp_in; decide) dX7_completes_138 ?_
    refine lv_cst (v := (v1 (7))) rfl ?_
    refine r_ias (w' := [(qm, .inr (9, [.int (k.1 0), .int (k.1 1), .ref ma, .int (k.1 2), .ref mb, .int (k.1 3), .ref me, .ref mr, .int (k.1 4), .int (k.1 5), .int (k.1 6), .int (k.1 7), .int (k.1 8), .int (k.1 9), .int (k.1 10), .ref mn, .ref ms, .int (y.1 0), .ref mk, .int (y.1 1)])), (mb, .inl (cI, 5, .inl k.2.1)), (ma, .inl (cI, 30, .inl k.2.2.1)), (me, .inl (cI, 12, .inl k.2.2.2.1)), (mr, .inl (cI, 12, .inl k.2.2.2.2)), (mn, .inl (cI, 52, .inl (upd (upd v1 (15) (v1 (7))) (22 + (v1 5).toNatClampNeg) (v1 (7))))), (ms, .inl (cI, 52, .inl a)), (mk, .inl (cI, 16, .inl y.2))]) E Y 5 rfl (22 + (v1 5).toNatClampNeg) (c5_cl q5) (c5_in q5) rfl dX7_completes_139 (fun H locs Y => ?_)
    refine lv_aload_n E.1.1 E.1.2.1 dX7_completes_140 rfl (lv_at hl 0 rfl) ?_
    refine gf_X7_47 E Y 0 rfl rfl dX7_completes_141 ?_
    refine lv_bipush (v := 20) E.1.1 E.1.2.1 dX7_completes_144 (by decide) ?_
    refine lv_dup2_11 E.1.1 E.1.2.1 dX7_completes_146 rfl rfl ?_
    refine r_ial E Y 5 rfl (20) (by decide) (by unfold vp_in; decide) dX7_completes_147 ?_
    refine lv_cst (v := (v1 (20))) (by simp [upd] <;> (intro h; omega)) ?_
    refine lv_aload_n E.1.1 E.1.2.1 dX7_completes_148 rfl (lv_at hl 0 rfl) ?_
    refine gf_X7_20 E Y 0 rfl rfl dX7_completes_149 ?_
    refine lv_aload_n E.1.1 E.1.2.1 dX7_completes_152 rfl (lv_at hl 0 rfl) ?_
    refine gf_X7_47 E Y 0 rfl rfl dX7_completes_153 ?_
    refine lv_bipush (v := 7) E.1.1 E.1.2.1 dX7_completes_156 (by decide) ?_
    refine r_ial E Y 5 rfl (7) (by decide) (by unfold vp_in; decide) dX7_completes_158 ?_
    refine lv_cst (v := (v1 (7))) (by simp [upd] <;> (intro h; omega)) ?_
    refine r_ial E Y 1 rfl ((v1 (7)).toNatClampNeg) rfl q7 dX7_completes_159 ?_
    refine lv_iadd E.1.1 E.1.2.1 dX7_completes_160 ?_
    refine r_ias (w' := [(qm, .inr (9, [.int (k.1 0), .int (k.1 1), .ref ma, .int (k.1 2), .ref mb, .int (k.1 3), .ref me, .ref mr, .int (k.1 4), .int (k.1 5), .int (k.1 6), .int (k.1 7), .int (k.1 8), .int (k.1 9), .int (k.1 10), .ref mn, .ref ms, .int (y.1 0), .ref mk, .int (y.1 1)])), (mb, .inl (cI, 5, .inl k.2.1)), (ma, .inl (cI, 30, .inl k.2.2.1)), (me, .inl (cI, 12, .inl k.2.2.2.1)), (mr, .inl (cI, 12, .inl k.2.2.2.2)), (mn, .inl (cI, 52, .inl (upd (upd (upd v1 (15) (v1 (7))) (22 + (v1 5).toNatClampNeg) (v1 (7))) (20) ((v1 (20)) + (k.2.1 ((v1 (7)).toNatClampNeg)))))), (ms, .inl (cI, 52, .inl a)), (mk, .inl (cI, 16, .inl y.2))]) E Y 5 rfl (20) (by decide) (by unfold vp_in; decide) rfl dX7_completes_161 (fun H locs Y => ?_)
    refine lv_aload_n E.1.1 E.1.2.1 dX7_completes_162 rfl (lv_at hl 0 rfl) ?_
    refine gf_X7_47 E Y 0 rfl rfl dX7_completes_163 ?_
    refine lv_bipush (v := 21) E.1.1 E.1.2.1 dX7_completes_166 (by decide) ?_
    refine lv_dup2_11 E.1.1 E.1.2.1 dX7_completes_168 rfl rfl ?_
    refine r_ial E Y 5 rfl (21) (by decide) (by unfold vp_in; decide) dX7_completes_169 ?_
    refine lv_cst (v := (v1 (21))) (by simp [upd] <;> (intro h; omega)) ?_
    refine lv_iconst (v := 1) E.1.1 E.1.2.1 dX7_completes_170 (by decide) ?_
    refine lv_iadd E.1.1 E.1.2.1 dX7_completes_171 ?_
    refine r_ias (w' := [(qm, .inr (9, [.int (k.1 0), .int (k.1 1), .ref ma, .int (k.1 2), .ref mb, .int (k.1 3), .ref me, .ref mr, .int (k.1 4), .int (k.1 5), .int (k.1 6), .int (k.1 7), .int (k.1 8), .int (k.1 9), .int (k.1 10), .ref mn, .ref ms, .int (y.1 0), .ref mk, .int (y.1 1)])), (mb, .inl (cI, 5, .inl k.2.1)), (ma, .inl (cI, 30, .inl k.2.2.1)), (me, .inl (cI, 12, .inl k.2.2.2.1)), (mr, .inl (cI, 12, .inl k.2.2.2.2)), (mn, .inl (cI, 52, .inl (upd (upd (upd (upd v1 (15) (v1 (7))) (22 + (v1 5).toNatClampNeg) (v1 (7))) (20) ((v1 (20)) + (k.2.1 ((v1 (7)).toNatClampNeg)))) (21) ((v1 (21)) + (1 : Int32))))), (ms, .inl (cI, 52, .inl a)), (mk, .inl (cI, 16, .inl y.2))]) E Y 5 rfl (21) (by decide) (by unfold vp_in; decide) rfl dX7_completes_172 (fun H locs Y => ?_)
    refine lv_aload_n E.1.1 E.1.2.1 dX7_completes_173 rfl (lv_at hl 0 rfl) ?_
    refine gf_X7_47 E Y 0 rfl rfl dX7_completes_174 ?_
    refine lv_iconst (v := 1) E.1.1 E.1.2.1 dX7_completes_177 (by decide) ?_
    refine lv_dup2_11 E.1.1 E.1.2.1 dX7_completes_178 rfl rfl ?_
    refine r_ial E Y 5 rfl (1) (by decide) (by unfold vp_in; decide) dX7_completes_179 ?_
    refine lv_cst (v := (v1 (1))) (by simp [upd] <;> (intro h; omega)) ?_
    refine lv_aload_n E.1.1 E.1.2.1 dX7_completes_180 rfl (lv_at hl 0 rfl) ?_
    refine gf_X7_13 E Y 0 rfl rfl dX7_completes_181 ?_
    refine lv_iadd E.1.1 E.1.2.1 dX7_completes_184 ?_
    refine r_ias (w' := [(qm, .inr (9, [.int (k.1 0), .int (k.1 1), .ref ma, .int (k.1 2), .ref mb, .int (k.1 3), .ref me, .ref mr, .int (k.1 4), .int (k.1 5), .int (k.1 6), .int (k.1 7), .int (k.1 8), .int (k.1 9), .int (k.1 10), .ref mn, .ref ms, .int (y.1 0), .ref mk, .int (y.1 1)])), (mb, .inl (cI, 5, .inl k.2.1)), (ma, .inl (cI, 30, .inl k.2.2.1)), (me, .inl (cI, 12, .inl k.2.2.2.1)), (mr, .inl (cI, 12, .inl k.2.2.2.2)), (mn, .inl (cI, 52, .inl (upd (upd (upd (upd (upd v1 (15) (v1 (7))) (22 + (v1 5).toNatClampNeg) (v1 (7))) (20) ((v1 (20)) + (k.2.1 ((v1 (7)).toNatClampNeg)))) (21) ((v1 (21)) + (1 : Int32))) (1) ((v1 (1)) + (k.1 1))))), (ms, .inl (cI, 52, .inl a)), (mk, .inl (cI, 16, .inl y.2))]) E Y 5 rfl (1) (by decide) (by unfold vp_in; decide) rfl dX7_completes_185 (fun H locs Y => ?_)
    refine lv_aload_n E.1.1 E.1.2.1 dX7_completes_186 rfl (lv_at hl 0 rfl) ?_
    refine gf_X7_47 E Y 0 rfl rfl dX7_completes_187 ?_
    refine lv_iconst (v := 5) E.1.1 E.1.2.1 dX7_completes_190 (by decide) ?_
    refine lv_dup2_11 E.1.1 E.1.2.1 dX7_completes_191 rfl rfl ?_
    refine r_ial E Y 5 rfl (5) (by decide) (by unfold vp_in; decide) dX7_completes_192 ?_
    refine lv_cst (v := (v1 (5))) (by simp [upd] <;> (intro h; omega)) ?_
    refine lv_iconst (v := 1) E.1.1 E.1.2.1 dX7_completes_193 (by decide) ?_
    refine lv_iadd E.1.1 E.1.2.1 dX7_completes_194 ?_
    refine r_ias (w' := [(qm, .inr (9, [.int (k.1 0), .int (k.1 1), .ref ma, .int (k.1 2), .ref mb, .int (k.1 3), .ref me, .ref mr, .int (k.1 4), .int (k.1 5), .int (k.1 6), .int (k.1 7), .int (k.1 8), .int (k.1 9), .int (k.1 10), .ref mn, .ref ms, .int (y.1 0), .ref mk, .int (y.1 1)])), (mb, .inl (cI, 5, .inl k.2.1)), (ma, .inl (cI, 30, .inl k.2.2.1)), (me, .inl (cI, 12, .inl k.2.2.2.1)), (mr, .inl (cI, 12, .inl k.2.2.2.2)), (mn, .inl (cI, 52, .inl (upd (upd (upd (upd (upd (upd v1 (15) (v1 (7))) (22 + (v1 5).toNatClampNeg) (v1 (7))) (20) ((v1 (20)) + (k.2.1 ((v1 (7)).toNatClampNeg)))) (21) ((v1 (21)) + (1 : Int32))) (1) ((v1 (1)) + (k.1 1))) (5) ((v1 (5)) + (1 : Int32))))), (ms, .inl (cI, 52, .inl a)), (mk, .inl (cI, 16, .inl y.2))]) E Y 5 rfl (5) (by decide) (by unfold vp_in; decide) rfl dX7_completes_195 (fun H locs Y => ?_)
    refine lv_aload_n E.1.1 E.1.2.1 dX7_completes_196 rfl (lv_at hl 0 rfl) ?_
    refine gf_X7_47 E Y 0 rfl rfl dX7_completes_197 ?_
    refine lv_bipush (v := 6) E.1.1 E.1.2.1 dX7_completes_200 (by decide) ?_
    refine lv_iconst (v := 0) E.1.1 E.1.2.1 dX7_completes_202 (by decide) ?_
    refine r_ias (w' := [(qm, .inr (9, [.int (k.1 0), .int (k.1 1), .ref ma, .int (k.1 2), .ref mb, .int (k.1 3), .ref me, .ref mr, .int (k.1 4), .int (k.1 5), .int (k.1 6), .int (k.1 7), .int (k.1 8), .int (k.1 9), .int (k.1 10), .ref mn, .ref ms, .int (y.1 0), .ref mk, .int (y.1 1)])), (mb, .inl (cI, 5, .inl k.2.1)), (ma, .inl (cI, 30, .inl k.2.2.1)), (me, .inl (cI, 12, .inl k.2.2.2.1)), (mr, .inl (cI, 12, .inl k.2.2.2.2)), (mn, .inl (cI, 52, .inl (upd (upd (upd (upd (upd (upd (upd v1 (15) (v1 (7))) (22 + (v1 5).toNatClampNeg) (v1 (7))) (20) ((v1 (20)) + (k.2.1 ((v1 (7)).toNatClampNeg)))) (21) ((v1 (21)) + (1 : Int32))) (1) ((v1 (1)) + (k.1 1))) (5) ((v1 (5)) + (1 : Int32))) (6) (0 : Int32)))), (ms, .inl (cI, 52, .inl a)), (mk, .inl (cI, 16, .inl y.2))]) E Y 5 rfl (6) (by decide) (by unfold vp_in; decide) rfl dX7_completes_203 (fun H locs Y => ?_)
    have e9 : (f_X7_completes k v) = (upd (upd (upd (upd (upd (upd (upd v1 (15) (v1 (7))) (22 + (v1 5).toNatClampNeg) (v1 (7))) (20) ((v1 (20)) + (k.2.1 ((v1 (7)).toNatClampNeg)))) (21) ((v1 (21)) + (1 : Int32))) (1) ((v1 (1)) + (k.1 1))) (5) ((v1 (5)) + (1 : Int32))) (6) (0 : Int32)) := hF.trans (rfl)
    exact r_vret E Y hr hk (upd (upd (upd (upd (upd (upd (upd v1 (15) (v1 (7))) (22 + (v1 5).toNatClampNeg) (v1 (7))) (20) ((v1 (20)) + (k.2.1 ((v1 (7)).toNatClampNeg)))) (21) ((v1 (21)) + (1 : Int32))) (1) ((v1 (1)) + (k.1 1))) (5) ((v1 (5)) + (1 : Int32))) (6) (0 : Int32)) (e9.symm) rfl ⟨Nat.le_of_ble_eq_true rfl, Nat.le_of_ble_eq_true rfl⟩ dX7_completes_204
  refine lv_aload_n E.1.1 E.1.2.1 dX7_completes_0 rfl (lv_at hl 0 rfl) ?_
  refine gf_X7_47 E Y 0 rfl rfl dX7_completes_1 ?_
  refine lv_bipush (v := 14) E.1.1 E.1.2.1 dX7_completes_4 (by decide) ?_
  refine lv_aload_n E.1.1 E.1.2.1 dX7_completes_6 rfl (lv_at hl 0 rfl) ?_
  refine gf_X7_47 E Y 0 rfl rfl dX7_completes_7 ?_
  refine lv_bipush (v := 13) E.1.1 E.1.2.1 dX7_completes_10 (by decide) ?_
  refine r_ial E Y 5 rfl (13) (by decide) (by unfold vp_in; decide) dX7_completes_12 ?_
  refine r_ias (w' := [(qm, .inr (9, [.int (k.1 0), .int (k.1 1), .ref ma, .int (k.1 2), .ref mb, .int (k.1 3), .ref me, .ref mr, .int (k.1 4), .int (k.1 5), .int (k.1 6), .int (k.1 7), .int (k.1 8), .int (k.1 9), .int (k.1 10), .ref mn, .ref ms, .int (y.1 0), .ref mk, .int (y.1 1)])), (mb, .inl (cI, 5, .inl k.2.1)), (ma, .inl (cI, 30, .inl k.2.2.1)), (me, .inl (cI, 12, .inl k.2.2.2.1)), (mr, .inl (cI, 12, .inl k.2.2.2.2)), (mn, .inl (cI, 52, .inl (upd v (14) (v (13))))), (ms, .inl (cI, 52, .inl a)), (mk, .inl (cI, 16, .inl y.2))]) E Y 5 rfl (14) (by decide) (by unfold vp_in; decide) rfl dX7_completes_13 (fun H locs Y => ?_)
  refine lv_aload_n E.1.1 E.1.2.1 dX7_completes_14 rfl (lv_at hl 0 rfl) ?_
  refine gf_X7_47 E Y 0 rfl rfl dX7_completes_15 ?_
  refine lv_bipush (v := 13) E.1.1 E.1.2.1 dX7_completes_18 (by decide) ?_
  refine lv_aload_n E.1.1 E.1.2.1 dX7_completes_20 rfl (lv_at hl 0 rfl) ?_
  refine gf_X7_47 E Y 0 rfl rfl dX7_completes_21 ?_
  refine lv_bipush (v := 12) E.1.1 E.1.2.1 dX7_completes_24 (by decide) ?_
  refine r_ial E Y 5 rfl (12) (by decide) (by unfold vp_in; decide) dX7_completes_26 ?_
  refine lv_cst (v := (v (12))) rfl ?_
  refine r_ias (w' := [(qm, .inr (9, [.int (k.1 0), .int (k.1 1), .ref ma, .int (k.1 2), .ref mb, .int (k.1 3), .ref me, .ref mr, .int (k.1 4), .int (k.1 5), .int (k.1 6), .int (k.1 7), .int (k.1 8), .int (k.1 9), .int (k.1 10), .ref mn, .ref ms, .int (y.1 0), .ref mk, .int (y.1 1)])), (mb, .inl (cI, 5, .inl k.2.1)), (ma, .inl (cI, 30, .inl k.2.2.1)), (me, .inl (cI, 12, .inl k.2.2.2.1)), (mr, .inl (cI, 12, .inl k.2.2.2.2)), (mn, .inl (cI, 52, .inl (upd (upd v (14) (v (13))) (13) (v (12))))), (ms, .inl (cI, 52, .inl a)), (mk, .inl (cI, 16, .inl y.2))]) E Y 5 rfl (13) (by decide) (by unfold vp_in; decide) rfl dX7_completes_27 (fun H locs Y => ?_)
  refine lv_aload_n E.1.1 E.1.2.1 dX7_completes_28 rfl (lv_at hl 0 rfl) ?_
  refine gf_X7_47 E Y 0 rfl rfl dX7_completes_29 ?_
  refine lv_bipush (v := 12) E.1.1 E.1.2.1 dX7_completes_32 (by decide) ?_
  refine lv_aload_n E.1.1 E.1.2.1 dX7_completes_34 rfl (lv_at hl 0 rfl) ?_
  refine gf_X7_47 E Y 0 rfl rfl dX7_completes_35 ?_
  refine lv_bipush (v := 8) E.1.1 E.1.2.1 dX7_completes_38 (by decide) ?_
  refine r_ial E Y 5 rfl (8) (by decide) (by unfold vp_in; decide) dX7_completes_40 ?_
  refine lv_cst (v := (v (8))) rfl ?_
  refine lv_aload_n E.1.1 E.1.2.1 dX7_completes_41 rfl (lv_at hl 0 rfl) ?_
  refine gf_X7_47 E Y 0 rfl rfl dX7_completes_42 ?_
  refine lv_bipush (v := 10) E.1.1 E.1.2.1 dX7_completes_45 (by decide) ?_
  refine r_ial E Y 5 rfl (10) (by decide) (by unfold vp_in; decide) dX7_completes_47 ?_
  refine lv_cst (v := (v (10))) rfl ?_
  refine lv_idiv E.1.1 E.1.2.1 dX7_completes_48 h10 ?_
  refine r_ias (w' := [(qm, .inr (9, [.int (k.1 0), .int (k.1 1), .ref ma, .int (k.1 2), .ref mb, .int (k.1 3), .ref me, .ref mr, .int (k.1 4), .int (k.1 5), .int (k.1 6), .int (k.1 7), .int (k.1 8), .int (k.1 9), .int (k.1 10), .ref mn, .ref ms, .int (y.1 0), .ref mk, .int (y.1 1)])), (mb, .inl (cI, 5, .inl k.2.1)), (ma, .inl (cI, 30, .inl k.2.2.1)), (me, .inl (cI, 12, .inl k.2.2.2.1)), (mr, .inl (cI, 12, .inl k.2.2.2.2)), (mn, .inl (cI, 52, .inl (upd (upd (upd v (14) (v (13))) (13) (v (12))) (12) ((v (8)) / (v (10)))))), (ms, .inl (cI, 52, .inl a)), (mk, .inl (cI, 16, .inl y.2))]) E Y 5 rfl (12) (by decide) (by unfold vp_in; decide) rfl dX7_completes_49 (fun H locs Y => ?_)
  refine lv_aload_n E.1.1 E.1.2.1 dX7_completes_50 rfl (lv_at hl 0 rfl) ?_
  refine gf_X7_47 E Y 0 rfl rfl dX7_completes_51 ?_
  refine lv_bipush (v := 11) E.1.1 E.1.2.1 dX7_completes_54 (by decide) ?_
  refine lv_dup2_11 E.1.1 E.1.2.1 dX7_completes_56 rfl rfl ?_
  refine r_ial E Y 5 rfl (11) (by decide) (by unfold vp_in; decide) dX7_completes_57 ?_
  refine lv_cst (v := (v (11))) rfl ?_
  refine lv_iconst (v := 1) E.1.1 E.1.2.1 dX7_completes_58 (by decide) ?_
  refine lv_iadd E.1.1 E.1.2.1 dX7_completes_59 ?_
  refine r_ias (w' := [(qm, .inr (9, [.int (k.1 0), .int (k.1 1), .ref ma, .int (k.1 2), .ref mb, .int (k.1 3), .ref me, .ref mr, .int (k.1 4), .int (k.1 5), .int (k.1 6), .int (k.1 7), .int (k.1 8), .int (k.1 9), .int (k.1 10), .ref mn, .ref ms, .int (y.1 0), .ref mk, .int (y.1 1)])), (mb, .inl (cI, 5, .inl k.2.1)), (ma, .inl (cI, 30, .inl k.2.2.1)), (me, .inl (cI, 12, .inl k.2.2.2.1)), (mr, .inl (cI, 12, .inl k.2.2.2.2)), (mn, .inl (cI, 52, .inl (upd (upd (upd (upd v (14) (v (13))) (13) (v (12))) (12) ((v (8)) / (v (10)))) (11) ((v (11)) + (1 : Int32))))), (ms, .inl (cI, 52, .inl a)), (mk, .inl (cI, 16, .inl y.2))]) E Y 5 rfl (11) (by decide) (by unfold vp_in; decide) rfl dX7_completes_60 (fun H locs Y => ?_)
  refine lv_aload_n E.1.1 E.1.2.1 dX7_completes_61 rfl (lv_at hl 0 rfl) ?_
  refine gf_X7_47 E Y 0 rfl rfl dX7_completes_62 ?_
  refine lv_bipush (v := 16) E.1.1 E.1.2.1 dX7_completes_65 (by decide) ?_
  refine lv_dup2_11 E.1.1 E.1.2.1 dX7_completes_67 rfl rfl ?_
  refine r_ial E Y 5 rfl (16) (by decide) (by unfold vp_in; decide) dX7_completes_68 ?_
  refine lv_cst (v := (v (16))) rfl ?_
  refine lv_aload_n E.1.1 E.1.2.1 dX7_completes_69 rfl (lv_at hl 0 rfl) ?_
  refine gf_X7_47 E Y 0 rfl rfl dX7_completes_70 ?_
  refine lv_bipush (v := 15) E.1.1 E.1.2.1 dX7_completes_73 (by decide) ?_
  refine r_ial E Y 5 rfl (15) (by decide) (by unfold vp_in; decide) dX7_completes_75 ?_
  refine lv_cst (v := (v (15))) rfl ?_
  refine lv_bipush (v := (-6)) E.1.1 E.1.2.1 dX7_completes_76 (by decide) ?_
  refine lv_icmp_eq (tgt := 102) E.1.1 E.1.2.1 dX7_completes_78 (by decide) (fun c_78 => ?_) (fun c_78 => ?_)
  · skip
    refine lv_iconst (v := 0) E.1.1 E.1.2.1 dX7_completes_102 (by decide) ?_
    refine lv_iadd E.1.1 E.1.2.1 dX7_completes_103 ?_
    refine r_ias (w' := [(qm, .inr (9, [.int (k.1 0), .int (k.1 1), .ref ma, .int (k.1 2), .ref mb, .int (k.1 3), .ref me, .ref mr, .int (k.1 4), .int (k.1 5), .int (k.1 6), .int (k.1 7), .int (k.1 8), .int (k.1 9), .int (k.1 10), .ref mn, .ref ms, .int (y.1 0), .ref mk, .int (y.1 1)])), (mb, .inl (cI, 5, .inl k.2.1)), (ma, .inl (cI, 30, .inl k.2.2.1)), (me, .inl (cI, 12, .inl k.2.2.2.1)), (mr, .inl (cI, 12, .inl k.2.2.2.2)), (mn, .inl (cI, 52, .inl (upd (upd (upd (upd (upd v (14) (v (13))) (13) (v (12))) (12) ((v (8)) / (v (10)))) (11) ((v (11)) + (1 : Int32))) (16) ((v (16)) + (0 : Int32))))), (ms, .inl (cI, 52, .inl a)), (mk, .inl (cI, 16, .inl y.2))]) E Y 5 rfl (16) (by decide) (by unfold vp_in; decide) rfl dX7_completes_104 (fun H locs Y => ?_)
    exact hC105 (upd (upd (upd (upd (upd v (14) (v (13))) (13) (v (12))) (12) ((v (8)) / (v (10)))) (11) ((v (11)) + (1 : Int32))) (16) ((v (16)) + (0 : Int32))) h5 h7 ((if_pos c_78).trans (rfl)) _ _ _ Y (lv_sub hl [0] rfl)
  · skip
    refine lv_aload_n E.1.1 E.1.2.1 dX7_completes_81 rfl (lv_at hl 0 rfl) ?_
    refine gf_X7_47 E Y 0 rfl rfl dX7_completes_82 ?_
    refine lv_bipush (v := 15) E.1.1 E.1.2.1 dX7_completes_85 (by decide) ?_
    refine r_ial E Y 5 rfl (15) (by decide) (by unfold vp_in; decide) dX7_completes_87 ?_
    refine lv_cst (v := (v (15))) rfl ?_
    refine lv_aload_n E.1.1 E.1.2.1 dX7_completes_88 rfl (lv_at hl 0 rfl) ?_
    refine gf_X7_47 E Y 0 rfl rfl dX7_completes_89 ?_
    refine lv_bipush (v := 7) E.1.1 E.1.2.1 dX7_completes_92 (by decide) ?_
    refine r_ial E Y 5 rfl (7) (by decide) (by unfold vp_in; decide) dX7_completes_94 ?_
    refine lv_cst (v := (v (7))) rfl ?_
    refine lv_icmp_eq (tgt := 102) E.1.1 E.1.2.1 dX7_completes_95 (by decide) (fun c_95 => ?_) (fun c_95 => ?_)
    · skip
      refine lv_iconst (v := 0) E.1.1 E.1.2.1 dX7_completes_102 (by decide) ?_
      refine lv_iadd E.1.1 E.1.2.1 dX7_completes_103 ?_
      refine r_ias (w' := [(qm, .inr (9, [.int (k.1 0), .int (k.1 1), .ref ma, .int (k.1 2), .ref mb, .int (k.1 3), .ref me, .ref mr, .int (k.1 4), .int (k.1 5), .int (k.1 6), .int (k.1 7), .int (k.1 8), .int (k.1 9), .int (k.1 10), .ref mn, .ref ms, .int (y.1 0), .ref mk, .int (y.1 1)])), (mb, .inl (cI, 5, .inl k.2.1)), (ma, .inl (cI, 30, .inl k.2.2.1)), (me, .inl (cI, 12, .inl k.2.2.2.1)), (mr, .inl (cI, 12, .inl k.2.2.2.2)), (mn, .inl (cI, 52, .inl (upd (upd (upd (upd (upd v (14) (v (13))) (13) (v (12))) (12) ((v (8)) / (v (10)))) (11) ((v (11)) + (1 : Int32))) (16) ((v (16)) + (0 : Int32))))), (ms, .inl (cI, 52, .inl a)), (mk, .inl (cI, 16, .inl y.2))]) E Y 5 rfl (16) (by decide) (by unfold vp_in; decide) rfl dX7_completes_104 (fun H locs Y => ?_)
      exact hC105 (upd (upd (upd (upd (upd v (14) (v (13))) (13) (v (12))) (12) ((v (8)) / (v (10)))) (11) ((v (11)) + (1 : Int32))) (16) ((v (16)) + (0 : Int32))) h5 h7 ((if_neg c_78).trans ((if_pos c_95).trans (rfl))) _ _ _ Y (lv_sub hl [0] rfl)
    · skip
      refine lv_iconst (v := 1) E.1.1 E.1.2.1 dX7_completes_98 (by decide) ?_
      refine lv_goto (tgt := 103) E.1.1 E.1.2.1 dX7_completes_99 (by decide) ?_
      refine lv_iadd E.1.1 E.1.2.1 dX7_completes_103 ?_
      refine r_ias (w' := [(qm, .inr (9, [.int (k.1 0), .int (k.1 1), .ref ma, .int (k.1 2), .ref mb, .int (k.1 3), .ref me, .ref mr, .int (k.1 4), .int (k.1 5), .int (k.1 6), .int (k.1 7), .int (k.1 8), .int (k.1 9), .int (k.1 10), .ref mn, .ref ms, .int (y.1 0), .ref mk, .int (y.1 1)])), (mb, .inl (cI, 5, .inl k.2.1)), (ma, .inl (cI, 30, .inl k.2.2.1)), (me, .inl (cI, 12, .inl k.2.2.2.1)), (mr, .inl (cI, 12, .inl k.2.2.2.2)), (mn, .inl (cI, 52, .inl (upd (upd (upd (upd (upd v (14) (v (13))) (13) (v (12))) (12) ((v (8)) / (v (10)))) (11) ((v (11)) + (1 : Int32))) (16) ((v (16)) + (1 : Int32))))), (ms, .inl (cI, 52, .inl a)), (mk, .inl (cI, 16, .inl y.2))]) E Y 5 rfl (16) (by decide) (by unfold vp_in; decide) rfl dX7_completes_104 (fun H locs Y => ?_)
      exact hC105 (upd (upd (upd (upd (upd v (14) (v (13))) (13) (v (12))) (12) ((v (8)) / (v (10)))) (11) ((v (11)) + (1 : Int32))) (16) ((v (16)) + (1 : Int32))) h5 h7 ((if_neg c_78).trans ((if_neg c_95).trans (rfl))) _ _ _ Y (lv_sub hl [0] rfl)

def f_X7_receives (k : Cf) (v : Fn) : Fn := if (v (6)) = (1 : Int32) then (if ((v (9)) + (f_X7_rateAt k (v (0)))) < (v (8)) then (upd (upd v (9) ((v (9)) + (f_X7_rateAt k (v (0))))) (10) ((v (10)) + (1 : Int32))) else (f_X7_completes k (upd (upd v (9) ((v (9)) + (f_X7_rateAt k (v (0))))) (10) ((v (10)) + (1 : Int32))))) else v
set_option maxRecDepth 100000 in
set_option maxHeartbeats 4000000 in
theorem c_X7_receives {l : Launch} {D : va_G} {cI cB : ClassId} (qm mb ma me mr mn ms mk : Nat) (k : Cf) (v : Fn) (a : Fn) (y : Ky) (kO : KOK k) (rO : v 6 = 1 → ¬ v 10 + 1 = 0 ∧ btw (v 5) 0 29 ∧ vp_in (v 7) 5) : CV l X0 D cI cB yX7_receives cX7_receives 1 1 22 0 0 [.ref qm] (wM cI qm mb ma me mr mn ms mk k v a y) (fun (u : Fn) => u = (f_X7_receives k v)) (fun u => (wM cI qm mb ma me mr mn ms mk k u a y)) := by
  refine CV.of (by decide) (Nat.le_of_ble_eq_true rfl) ?_
  intro p e s m below meth c A ls E hr hk hin hA hAA hX Y hl
  have E : EE p c cX7_receives 1 s _ m RX7 D cI cB := E
  have hl : lv_has ls 1 [(0, .ref qm)] := hl
  refine lv_aload_n E.1.1 E.1.2.1 dX7_receives_0 rfl (lv_at hl 0 rfl) ?_
  refine gf_X7_47 E Y 0 rfl rfl dX7_receives_1 ?_
  refine lv_bipush (v := 6) E.1.1 E.1.2.1 dX7_receives_4 (by decide) ?_
  refine r_ial E Y 5 rfl (6) (by decide) (by unfold vp_in; decide) dX7_receives_6 ?_
  refine lv_iconst (v := 1) E.1.1 E.1.2.1 dX7_receives_7 (by decide) ?_
  refine lv_icmp_ne (tgt := 63) E.1.1 E.1.2.1 dX7_receives_8 (by decide) (fun c_8 => ?_) (fun c_8 => ?_)
  · skip
    have e9 : (f_X7_receives k v) = v := (if_neg c_8).trans (rfl)
    exact r_vret E Y hr hk v (e9.symm) rfl ⟨Nat.le_of_ble_eq_true rfl, Nat.le_of_ble_eq_true rfl⟩ dX7_receives_63
  · skip
    refine lv_aload_n E.1.1 E.1.2.1 dX7_receives_11 rfl (lv_at hl 0 rfl) ?_
    refine gf_X7_47 E Y 0 rfl rfl dX7_receives_12 ?_
    refine lv_bipush (v := 9) E.1.1 E.1.2.1 dX7_receives_15 (by decide) ?_
    refine lv_dup2_11 E.1.1 E.1.2.1 dX7_receives_17 rfl rfl ?_
    refine r_ial E Y 5 rfl (9) (by decide) (by unfold vp_in; decide) dX7_receives_18 ?_
    refine lv_aload_n E.1.1 E.1.2.1 dX7_receives_19 rfl (lv_at hl 0 rfl) ?_
    refine lv_aload_n E.1.1 E.1.2.1 dX7_receives_20 rfl (lv_at hl 0 rfl) ?_
    refine gf_X7_47 E Y 0 rfl rfl dX7_receives_21 ?_
    refine lv_iconst (v := 0) E.1.1 E.1.2.1 dX7_receives_24 (by decide) ?_
    refine r_ial E Y 5 rfl (0) (by decide) (by unfold vp_in; decide) dX7_receives_25 ?_
    refine r_Vi (wr := []) (w2 := fun _ => [(qm, .inr (9, [.int (k.1 0), .int (k.1 1), .ref ma, .int (k.1 2), .ref mb, .int (k.1 3), .ref me, .ref mr, .int (k.1 4), .int (k.1 5), .int (k.1 6), .int (k.1 7), .int (k.1 8), .int (k.1 9), .int (k.1 10), .ref mn, .ref ms, .int (y.1 0), .ref mk, .int (y.1 1)])), (mb, .inl (cI, 5, .inl k.2.1)), (ma, .inl (cI, 30, .inl k.2.2.1)), (me, .inl (cI, 12, .inl k.2.2.2.1)), (mr, .inl (cI, 12, .inl k.2.2.2.2)), (mn, .inl (cI, 52, .inl v)), (ms, .inl (cI, 52, .inl a)), (mk, .inl (cI, 16, .inl y.2))]) E Y hA hl.1 (c_X7_rateAt qm mb ma me mr mn ms mk k v a y (v (0)) kO) lk_X7_149 X0b (fun _ _ _ => trivial) [0, 1, 2, 3, 4, 5, 6, 7] [] [0, 1, 2, 3, 4, 5, 6, 7] rfl rfl (by decide) (fun _ => rfl) 0 rfl rfl ⟨Nat.le_of_ble_eq_true rfl, Nat.le_of_ble_eq_true rfl⟩ ⟨Nat.le_of_ble_eq_true rfl, Nat.le_of_ble_eq_true rfl⟩ rfl rfl (Nat.le_of_ble_eq_true rfl) dX7_receives_26 (fun r u H locs hp Y => ?_)
    subst hp
    refine lv_iadd E.1.1 E.1.2.1 dX7_receives_29 ?_
    refine r_ias (w' := [(qm, .inr (9, [.int (k.1 0), .int (k.1 1), .ref ma, .int (k.1 2), .ref mb, .int (k.1 3), .ref me, .ref mr, .int (k.1 4), .int (k.1 5), .int (k.1 6), .int (k.1 7), .int (k.1 8), .int (k.1 9), .int (k.1 10), .ref mn, .ref ms, .int (y.1 0), .ref mk, .int (y.1 1)])), (mb, .inl (cI, 5, .inl k.2.1)), (ma, .inl (cI, 30, .inl k.2.2.1)), (me, .inl (cI, 12, .inl k.2.2.2.1)), (mr, .inl (cI, 12, .inl k.2.2.2.2)), (mn, .inl (cI, 52, .inl (upd v (9) ((v (9)) + (f_X7_rateAt k (v (0))))))), (ms, .inl (cI, 52, .inl a)), (mk, .inl (cI, 16, .inl y.2))]) E Y 5 rfl (9) (by decide) (by unfold vp_in; decide) rfl dX7_receives_30 (fun H locs Y => ?_)
    refine lv_aload_n E.1.1 E.1.2.1 dX7_receives_31 rfl (lv_at hl 0 rfl) ?_
    refine gf_X7_47 E Y 0 rfl rfl dX7_receives_32 ?_
    refine lv_bipush (v := 10) E.1.1 E.1.2.1 dX7_receives_35 (by decide) ?_
    refine lv_dup2_11 E.1.1 E.1.2.1 dX7_receives_37 rfl rfl ?_
    refine r_ial E Y 5 rfl (10) (by decide) (by unfold vp_in; decide) dX7_receives_38 ?_
    refine lv_cst (v := (v (10))) rfl ?_
    refine lv_iconst (v := 1) E.1.1 E.1.2.1 dX7_receives_39 (by decide) ?_
    refine lv_iadd E.1.1 E.1.2.1 dX7_receives_40 ?_
    refine r_ias (w' := [(qm, .inr (9, [.int (k.1 0), .int (k.1 1), .ref ma, .int (k.1 2), .ref mb, .int (k.1 3), .ref me, .ref mr, .int (k.1 4), .int (k.1 5), .int (k.1 6), .int (k.1 7), .int (k.1 8), .int (k.1 9), .int (k.1 10), .ref mn, .ref ms, .int (y.1 0), .ref mk, .int (y.1 1)])), (mb, .inl (cI, 5, .inl k.2.1)), (ma, .inl (cI, 30, .inl k.2.2.1)), (me, .inl (cI, 12, .inl k.2.2.2.1)), (mr, .inl (cI, 12, .inl k.2.2.2.2)), (mn, .inl (cI, 52, .inl (upd (upd v (9) ((v (9)) + (f_X7_rateAt k (v (0))))) (10) ((v (10)) + (1 : Int32))))), (ms, .inl (cI, 52, .inl a)), (mk, .inl (cI, 16, .inl y.2))]) E Y 5 rfl (10) (by decide) (by unfold vp_in; decide) rfl dX7_receives_41 (fun H locs Y => ?_)
    refine lv_aload_n E.1.1 E.1.2.1 dX7_receives_42 rfl (lv_at hl 0 rfl) ?_
    refine gf_X7_47 E Y 0 rfl rfl dX7_receives_43 ?_
    refine lv_bipush (v := 9) E.1.1 E.1.2.1 dX7_receives_46 (by decide) ?_
    refine r_ial E Y 5 rfl (9) (by decide) (by unfold vp_in; decide) dX7_receives_48 ?_
    refine lv_cst (v := ((v (9)) + (f_X7_rateAt k (v (0))))) rfl ?_
    refine lv_aload_n E.1.1 E.1.2.1 dX7_receives_49 rfl (lv_at hl 0 rfl) ?_
    refine gf_X7_47 E Y 0 rfl rfl dX7_receives_50 ?_
    refine lv_bipush (v := 8) E.1.1 E.1.2.1 dX7_receives_53 (by decide) ?_
    refine r_ial E Y 5 rfl (8) (by decide) (by unfold vp_in; decide) dX7_receives_55 ?_
    refine lv_cst (v := (v (8))) rfl ?_
    refine lv_icmp_lt (tgt := 63) E.1.1 E.1.2.1 dX7_receives_56 (by decide) (fun c_56 => ?_) (fun c_56 => ?_)
    · skip
      have e9 : (f_X7_receives k v) = (upd (upd v (9) ((v (9)) + (f_X7_rateAt k (v (0))))) (10) ((v (10)) + (1 : Int32))) := (if_pos c_8).trans ((if_pos c_56).trans (rfl))
      exact r_vret E Y hr hk (upd (upd v (9) ((v (9)) + (f_X7_rateAt k (v (0))))) (10) ((v (10)) + (1 : Int32))) (e9.symm) rfl ⟨Nat.le_of_ble_eq_true rfl, Nat.le_of_ble_eq_true rfl⟩ dX7_receives_63
    · skip
      refine lv_aload_n E.1.1 E.1.2.1 dX7_receives_59 rfl (lv_at hl 0 rfl) ?_
      refine r_Vv (wr := []) (w2 := fun u => [(qm, .inr (9, [.int (k.1 0), .int (k.1 1), .ref ma, .int (k.1 2), .ref mb, .int (k.1 3), .ref me, .ref mr, .int (k.1 4), .int (k.1 5), .int (k.1 6), .int (k.1 7), .int (k.1 8), .int (k.1 9), .int (k.1 10), .ref mn, .ref ms, .int (y.1 0), .ref mk, .int (y.1 1)])), (mb, .inl (cI, 5, .inl k.2.1)), (ma, .inl (cI, 30, .inl k.2.2.1)), (me, .inl (cI, 12, .inl k.2.2.2.1)), (mr, .inl (cI, 12, .inl k.2.2.2.2)), (mn, .inl (cI, 52, .inl u)), (ms, .inl (cI, 52, .inl a)), (mk, .inl (cI, 16, .inl y.2))]) E Y hA hl.1 (c_X7_completes qm mb ma me mr mn ms mk k (upd (upd v (9) ((v (9)) + (f_X7_rateAt k (v (0))))) (10) ((v (10)) + (1 : Int32))) a y ((rO c_8).1) ((rO c_8).2.1) ((rO c_8).2.2)) lk_X7_152 X0b (fun _ _ _ => trivial) [0, 1, 2, 3, 4, 5, 6, 7] [] [0, 1, 2, 3, 4, 5, 6, 7] rfl rfl (by decide) (fun _ => rfl) 0 rfl rfl ⟨Nat.le_of_ble_eq_true rfl, Nat.le_of_ble_eq_true rfl⟩ ⟨Nat.le_of_ble_eq_true rfl, Nat.le_of_ble_eq_true rfl⟩ rfl rfl (Nat.le_of_ble_eq_true rfl) dX7_receives_60 (fun u H locs hp Y => ?_)
      subst hp
      have e9 : (f_X7_receives k v) = (f_X7_completes k (upd (upd v (9) ((v (9)) + (f_X7_rateAt k (v (0))))) (10) ((v (10)) + (1 : Int32)))) := (if_pos c_8).trans ((if_neg c_56).trans (rfl))
      exact r_vret E Y hr hk (f_X7_completes k (upd (upd v (9) ((v (9)) + (f_X7_rateAt k (v (0))))) (10) ((v (10)) + (1 : Int32)))) (e9.symm) rfl ⟨Nat.le_of_ble_eq_true rfl, Nat.le_of_ble_eq_true rfl⟩ dX7_receives_63

def f_X7_plays (k : Cf) (v : Fn) : Fn := if ((v (1)) - (1 : Int32)) = 0 then (if (v (5)) < (k.1 0) then (upd (upd (upd (upd v (1) ((v (1)) - (1 : Int32))) (2) ((v (2)) + (1 : Int32))) (3) (2 : Int32)) (17) ((v (17)) + (1 : Int32))) else (upd (upd (upd (upd v (1) ((v (1)) - (1 : Int32))) (2) ((v (2)) + (1 : Int32))) (3) (3 : Int32)) (17) ((v (17)) + (0 : Int32)))) else (upd (upd v (1) ((v (1)) - (1 : Int32))) (2) ((v (2)) + (1 : Int32)))
set_option maxRecDepth 100000 in
set_option maxHeartbeats 4000000 in
theorem c_X7_plays {l : Launch} {D : va_G} {cI cB : ClassId} (qm mb ma me mr mn ms mk : Nat) (k : Cf) (v : Fn) (a : Fn) (y : Ky) : CV l X0 D cI cB yX7_plays cX7_plays 2 0 0 0 0 [.ref qm] (wM cI qm mb ma me mr mn ms mk k v a y) (fun (u : Fn) => u = (f_X7_plays k v)) (fun u => (wM cI qm mb ma me mr mn ms mk k u a y)) := by
  refine CV.of (by decide) (Nat.le_of_ble_eq_true rfl) ?_
  intro p e s m below meth c A ls E hr hk hin hA hAA hX Y hl
  have E : EE p c cX7_plays 2 s _ m RX7 D cI cB := E
  have hl : lv_has ls 2 [(0, .ref qm)] := hl
  refine lv_aload_n E.1.1 E.1.2.1 dX7_plays_0 rfl (lv_at hl 0 rfl) ?_
  refine gf_X7_47 E Y 0 rfl rfl dX7_plays_1 ?_
  refine lv_iconst (v := 1) E.1.1 E.1.2.1 dX7_plays_4 (by decide) ?_
  refine lv_dup2_11 E.1.1 E.1.2.1 dX7_plays_5 rfl rfl ?_
  refine r_ial E Y 5 rfl (1) (by decide) (by unfold vp_in; decide) dX7_plays_6 ?_
  refine lv_iconst (v := 1) E.1.1 E.1.2.1 dX7_plays_7 (by decide) ?_
  refine lv_isub E.1.1 E.1.2.1 dX7_plays_8 ?_
  refine r_ias (w' := [(qm, .inr (9, [.int (k.1 0), .int (k.1 1), .ref ma, .int (k.1 2), .ref mb, .int (k.1 3), .ref me, .ref mr, .int (k.1 4), .int (k.1 5), .int (k.1 6), .int (k.1 7), .int (k.1 8), .int (k.1 9), .int (k.1 10), .ref mn, .ref ms, .int (y.1 0), .ref mk, .int (y.1 1)])), (mb, .inl (cI, 5, .inl k.2.1)), (ma, .inl (cI, 30, .inl k.2.2.1)), (me, .inl (cI, 12, .inl k.2.2.2.1)), (mr, .inl (cI, 12, .inl k.2.2.2.2)), (mn, .inl (cI, 52, .inl (upd v (1) ((v (1)) - (1 : Int32))))), (ms, .inl (cI, 52, .inl a)), (mk, .inl (cI, 16, .inl y.2))]) E Y 5 rfl (1) (by decide) (by unfold vp_in; decide) rfl dX7_plays_9 (fun H locs Y => ?_)
  refine lv_aload_n E.1.1 E.1.2.1 dX7_plays_10 rfl (lv_at hl 0 rfl) ?_
  refine gf_X7_47 E Y 0 rfl rfl dX7_plays_11 ?_
  refine lv_iconst (v := 2) E.1.1 E.1.2.1 dX7_plays_14 (by decide) ?_
  refine lv_dup2_11 E.1.1 E.1.2.1 dX7_plays_15 rfl rfl ?_
  refine r_ial E Y 5 rfl (2) (by decide) (by unfold vp_in; decide) dX7_plays_16 ?_
  refine lv_cst (v := (v (2))) rfl ?_
  refine lv_iconst (v := 1) E.1.1 E.1.2.1 dX7_plays_17 (by decide) ?_
  refine lv_iadd E.1.1 E.1.2.1 dX7_plays_18 ?_
  refine r_ias (w' := [(qm, .inr (9, [.int (k.1 0), .int (k.1 1), .ref ma, .int (k.1 2), .ref mb, .int (k.1 3), .ref me, .ref mr, .int (k.1 4), .int (k.1 5), .int (k.1 6), .int (k.1 7), .int (k.1 8), .int (k.1 9), .int (k.1 10), .ref mn, .ref ms, .int (y.1 0), .ref mk, .int (y.1 1)])), (mb, .inl (cI, 5, .inl k.2.1)), (ma, .inl (cI, 30, .inl k.2.2.1)), (me, .inl (cI, 12, .inl k.2.2.2.1)), (mr, .inl (cI, 12, .inl k.2.2.2.2)), (mn, .inl (cI, 52, .inl (upd (upd v (1) ((v (1)) - (1 : Int32))) (2) ((v (2)) + (1 : Int32))))), (ms, .inl (cI, 52, .inl a)), (mk, .inl (cI, 16, .inl y.2))]) E Y 5 rfl (2) (by decide) (by unfold vp_in; decide) rfl dX7_plays_19 (fun H locs Y => ?_)
  refine lv_aload_n E.1.1 E.1.2.1 dX7_plays_20 rfl (lv_at hl 0 rfl) ?_
  refine gf_X7_47 E Y 0 rfl rfl dX7_plays_21 ?_
  refine lv_iconst (v := 1) E.1.1 E.1.2.1 dX7_plays_24 (by decide) ?_
  refine r_ial E Y 5 rfl (1) (by decide) (by unfold vp_in; decide) dX7_plays_25 ?_
  refine lv_cst (v := ((v (1)) - (1 : Int32))) rfl ?_
  refine lv_if_ne (tgt := 82) E.1.1 E.1.2.1 dX7_plays_26 (by decide) (fun c_26 => ?_) (fun c_26 => ?_)
  · skip
    have e9 : (f_X7_plays k v) = (upd (upd v (1) ((v (1)) - (1 : Int32))) (2) ((v (2)) + (1 : Int32))) := (if_neg c_26).trans (rfl)
    exact r_vret E Y hr hk (upd (upd v (1) ((v (1)) - (1 : Int32))) (2) ((v (2)) + (1 : Int32))) (e9.symm) rfl ⟨Nat.le_of_ble_eq_true rfl, Nat.le_of_ble_eq_true rfl⟩ dX7_plays_82
  · skip
    refine lv_aload_n E.1.1 E.1.2.1 dX7_plays_29 rfl (lv_at hl 0 rfl) ?_
    refine gf_X7_47 E Y 0 rfl rfl dX7_plays_30 ?_
    refine lv_iconst (v := 5) E.1.1 E.1.2.1 dX7_plays_33 (by decide) ?_
    refine r_ial E Y 5 rfl (5) (by decide) (by unfold vp_in; decide) dX7_plays_34 ?_
    refine lv_cst (v := (v (5))) rfl ?_
    refine lv_aload_n E.1.1 E.1.2.1 dX7_plays_35 rfl (lv_at hl 0 rfl) ?_
    refine gf_X7_7 E Y 0 rfl rfl dX7_plays_36 ?_
    refine lv_icmp_lt (tgt := 46) E.1.1 E.1.2.1 dX7_plays_39 (by decide) (fun c_39 => ?_) (fun c_39 => ?_)
    · skip
      refine lv_iconst (v := 0) E.1.1 E.1.2.1 dX7_plays_46 (by decide) ?_
      refine lv_istore_n (lv' := [(1, .int (0 : Int32)), (0, .ref qm)]) E.1.1 E.1.2.1 dX7_plays_47 rfl hl (by decide) rfl (fun ls hl => ?_)
      refine lv_aload_n E.1.1 E.1.2.1 dX7_plays_48 rfl (lv_at hl 1 rfl) ?_
      refine gf_X7_47 E Y 0 rfl rfl dX7_plays_49 ?_
      refine lv_iconst (v := 3) E.1.1 E.1.2.1 dX7_plays_52 (by decide) ?_
      refine lv_iload_n E.1.1 E.1.2.1 dX7_plays_53 rfl (lv_at hl 0 rfl) ?_
      refine lv_if_eq (tgt := 61) E.1.1 E.1.2.1 dX7_plays_54 (by decide) (fun c_54 => ?_) (fun c_54 => ?_)
      · skip
        refine lv_iconst (v := 2) E.1.1 E.1.2.1 dX7_plays_61 (by decide) ?_
        refine r_ias (w' := [(qm, .inr (9, [.int (k.1 0), .int (k.1 1), .ref ma, .int (k.1 2), .ref mb, .int (k.1 3), .ref me, .ref mr, .int (k.1 4), .int (k.1 5), .int (k.1 6), .int (k.1 7), .int (k.1 8), .int (k.1 9), .int (k.1 10), .ref mn, .ref ms, .int (y.1 0), .ref mk, .int (y.1 1)])), (mb, .inl (cI, 5, .inl k.2.1)), (ma, .inl (cI, 30, .inl k.2.2.1)), (me, .inl (cI, 12, .inl k.2.2.2.1)), (mr, .inl (cI, 12, .inl k.2.2.2.2)), (mn, .inl (cI, 52, .inl (upd (upd (upd v (1) ((v (1)) - (1 : Int32))) (2) ((v (2)) + (1 : Int32))) (3) (2 : Int32)))), (ms, .inl (cI, 52, .inl a)), (mk, .inl (cI, 16, .inl y.2))]) E Y 5 rfl (3) (by decide) (by unfold vp_in; decide) rfl dX7_plays_62 (fun H locs Y => ?_)
        refine lv_aload_n E.1.1 E.1.2.1 dX7_plays_63 rfl (lv_at hl 1 rfl) ?_
        refine gf_X7_47 E Y 0 rfl rfl dX7_plays_64 ?_
        refine lv_bipush (v := 17) E.1.1 E.1.2.1 dX7_plays_67 (by decide) ?_
        refine lv_dup2_11 E.1.1 E.1.2.1 dX7_plays_69 rfl rfl ?_
        refine r_ial E Y 5 rfl (17) (by decide) (by unfold vp_in; decide) dX7_plays_70 ?_
        refine lv_cst (v := (v (17))) rfl ?_
        refine lv_iload_n E.1.1 E.1.2.1 dX7_plays_71 rfl (lv_at hl 0 rfl) ?_
        refine lv_if_eq (tgt := 79) E.1.1 E.1.2.1 dX7_plays_72 (by decide) (fun c_72 => ?_) (fun c_72 => ?_)
        · skip
          refine lv_iconst (v := 1) E.1.1 E.1.2.1 dX7_plays_79 (by decide) ?_
          refine lv_iadd E.1.1 E.1.2.1 dX7_plays_80 ?_
          refine r_ias (w' := [(qm, .inr (9, [.int (k.1 0), .int (k.1 1), .ref ma, .int (k.1 2), .ref mb, .int (k.1 3), .ref me, .ref mr, .int (k.1 4), .int (k.1 5), .int (k.1 6), .int (k.1 7), .int (k.1 8), .int (k.1 9), .int (k.1 10), .ref mn, .ref ms, .int (y.1 0), .ref mk, .int (y.1 1)])), (mb, .inl (cI, 5, .inl k.2.1)), (ma, .inl (cI, 30, .inl k.2.2.1)), (me, .inl (cI, 12, .inl k.2.2.2.1)), (mr, .inl (cI, 12, .inl k.2.2.2.2)), (mn, .inl (cI, 52, .inl (upd (upd (upd (upd v (1) ((v (1)) - (1 : Int32))) (2) ((v (2)) + (1 : Int32))) (3) (2 : Int32)) (17) ((v (17)) + (1 : Int32))))), (ms, .inl (cI, 52, .inl a)), (mk, .inl (cI, 16, .inl y.2))]) E Y 5 rfl (17) (by decide) (by unfold vp_in; decide) rfl dX7_plays_81 (fun H locs Y => ?_)
          have e9 : (f_X7_plays k v) = (upd (upd (upd (upd v (1) ((v (1)) - (1 : Int32))) (2) ((v (2)) + (1 : Int32))) (3) (2 : Int32)) (17) ((v (17)) + (1 : Int32))) := (if_pos c_26).trans ((if_pos c_39).trans (rfl))
          exact r_vret E Y hr hk (upd (upd (upd (upd v (1) ((v (1)) - (1 : Int32))) (2) ((v (2)) + (1 : Int32))) (3) (2 : Int32)) (17) ((v (17)) + (1 : Int32))) (e9.symm) rfl ⟨Nat.le_of_ble_eq_true rfl, Nat.le_of_ble_eq_true rfl⟩ dX7_plays_82
        · exact absurd (by decide) c_72
      · exact absurd (by decide) c_54
    · skip
      refine lv_iconst (v := 1) E.1.1 E.1.2.1 dX7_plays_42 (by decide) ?_
      refine lv_goto (tgt := 47) E.1.1 E.1.2.1 dX7_plays_43 (by decide) ?_
      refine lv_istore_n (lv' := [(1, .int (1 : Int32)), (0, .ref qm)]) E.1.1 E.1.2.1 dX7_plays_47 rfl hl (by decide) rfl (fun ls hl => ?_)
      refine lv_aload_n E.1.1 E.1.2.1 dX7_plays_48 rfl (lv_at hl 1 rfl) ?_
      refine gf_X7_47 E Y 0 rfl rfl dX7_plays_49 ?_
      refine lv_iconst (v := 3) E.1.1 E.1.2.1 dX7_plays_52 (by decide) ?_
      refine lv_iload_n E.1.1 E.1.2.1 dX7_plays_53 rfl (lv_at hl 0 rfl) ?_
      refine lv_if_eq (tgt := 61) E.1.1 E.1.2.1 dX7_plays_54 (by decide) (fun c_54 => ?_) (fun c_54 => ?_)
      · exact absurd c_54 (by decide)
      · skip
        refine lv_iconst (v := 3) E.1.1 E.1.2.1 dX7_plays_57 (by decide) ?_
        refine lv_goto (tgt := 62) E.1.1 E.1.2.1 dX7_plays_58 (by decide) ?_
        refine r_ias (w' := [(qm, .inr (9, [.int (k.1 0), .int (k.1 1), .ref ma, .int (k.1 2), .ref mb, .int (k.1 3), .ref me, .ref mr, .int (k.1 4), .int (k.1 5), .int (k.1 6), .int (k.1 7), .int (k.1 8), .int (k.1 9), .int (k.1 10), .ref mn, .ref ms, .int (y.1 0), .ref mk, .int (y.1 1)])), (mb, .inl (cI, 5, .inl k.2.1)), (ma, .inl (cI, 30, .inl k.2.2.1)), (me, .inl (cI, 12, .inl k.2.2.2.1)), (mr, .inl (cI, 12, .inl k.2.2.2.2)), (mn, .inl (cI, 52, .inl (upd (upd (upd v (1) ((v (1)) - (1 : Int32))) (2) ((v (2)) + (1 : Int32))) (3) (3 : Int32)))), (ms, .inl (cI, 52, .inl a)), (mk, .inl (cI, 16, .inl y.2))]) E Y 5 rfl (3) (by decide) (by unfold vp_in; decide) rfl dX7_plays_62 (fun H locs Y => ?_)
        refine lv_aload_n E.1.1 E.1.2.1 dX7_plays_63 rfl (lv_at hl 1 rfl) ?_
        refine gf_X7_47 E Y 0 rfl rfl dX7_plays_64 ?_
        refine lv_bipush (v := 17) E.1.1 E.1.2.1 dX7_plays_67 (by decide) ?_
        refine lv_dup2_11 E.1.1 E.1.2.1 dX7_plays_69 rfl rfl ?_
        refine r_ial E Y 5 rfl (17) (by decide) (by unfold vp_in; decide) dX7_plays_70 ?_
        refine lv_cst (v := (v (17))) rfl ?_
        refine lv_iload_n E.1.1 E.1.2.1 dX7_plays_71 rfl (lv_at hl 0 rfl) ?_
        refine lv_if_eq (tgt := 79) E.1.1 E.1.2.1 dX7_plays_72 (by decide) (fun c_72 => ?_) (fun c_72 => ?_)
        · exact absurd c_72 (by decide)
        · skip
          refine lv_iconst (v := 0) E.1.1 E.1.2.1 dX7_plays_75 (by decide) ?_
          refine lv_goto (tgt := 80) E.1.1 E.1.2.1 dX7_plays_76 (by decide) ?_
          refine lv_iadd E.1.1 E.1.2.1 dX7_plays_80 ?_
          refine r_ias (w' := [(qm, .inr (9, [.int (k.1 0), .int (k.1 1), .ref ma, .int (k.1 2), .ref mb, .int (k.1 3), .ref me, .ref mr, .int (k.1 4), .int (k.1 5), .int (k.1 6), .int (k.1 7), .int (k.1 8), .int (k.1 9), .int (k.1 10), .ref mn, .ref ms, .int (y.1 0), .ref mk, .int (y.1 1)])), (mb, .inl (cI, 5, .inl k.2.1)), (ma, .inl (cI, 30, .inl k.2.2.1)), (me, .inl (cI, 12, .inl k.2.2.2.1)), (mr, .inl (cI, 12, .inl k.2.2.2.2)), (mn, .inl (cI, 52, .inl (upd (upd (upd (upd v (1) ((v (1)) - (1 : Int32))) (2) ((v (2)) + (1 : Int32))) (3) (3 : Int32)) (17) ((v (17)) + (0 : Int32))))), (ms, .inl (cI, 52, .inl a)), (mk, .inl (cI, 16, .inl y.2))]) E Y 5 rfl (17) (by decide) (by unfold vp_in; decide) rfl dX7_plays_81 (fun H locs Y => ?_)
          have e9 : (f_X7_plays k v) = (upd (upd (upd (upd v (1) ((v (1)) - (1 : Int32))) (2) ((v (2)) + (1 : Int32))) (3) (3 : Int32)) (17) ((v (17)) + (0 : Int32))) := (if_pos c_26).trans ((if_neg c_39).trans (rfl))
          exact r_vret E Y hr hk (upd (upd (upd (upd v (1) ((v (1)) - (1 : Int32))) (2) ((v (2)) + (1 : Int32))) (3) (3 : Int32)) (17) ((v (17)) + (0 : Int32))) (e9.symm) rfl ⟨Nat.le_of_ble_eq_true rfl, Nat.le_of_ble_eq_true rfl⟩ dX7_plays_82

def f_X7_waits_c49 (k : Cf) (v1 : Fn) : Fn := if (k.1 5) ≤ (v1 (1)) then (upd v1 (3) (1 : Int32)) else (if (v1 (5)) < (k.1 0) then v1 else (if (v1 (1)) ≤ 0 then v1 else (upd v1 (3) (1 : Int32))))
def f_X7_waits_c47 (k : Cf) (v1 : Fn) (x : Int32) : Fn := f_X7_waits_c49 k (upd v1 (18) ((v1 18) + x))
def f_X7_waits_c22 (k : Cf) (v : Fn) (x : Int32) : Fn := if (v (3)) = (2 : Int32) then f_X7_waits_c47 k (upd v (19) ((v 19) + x)) (1 : Int32) else f_X7_waits_c47 k (upd v (19) ((v 19) + x)) (0 : Int32)
def f_X7_waits (k : Cf) (v : Fn) : Fn := if (v (3)) = 0 then f_X7_waits_c22 k v (1 : Int32) else f_X7_waits_c22 k v (0 : Int32)
set_option maxRecDepth 100000 in
set_option maxHeartbeats 4000000 in
theorem c_X7_waits {l : Launch} {D : va_G} {cI cB : ClassId} (qm mb ma me mr mn ms mk : Nat) (k : Cf) (v : Fn) (a : Fn) (y : Ky) : CV l X0 D cI cB yX7_waits cX7_waits 1 0 0 0 0 [.ref qm] (wM cI qm mb ma me mr mn ms mk k v a y) (fun (u : Fn) => u = (f_X7_waits k v)) (fun u => (wM cI qm mb ma me mr mn ms mk k u a y)) := by
  refine CV.of (by decide) (Nat.le_of_ble_eq_true rfl) ?_
  intro p e s m below meth c A ls E hr hk hin hA hAA hX Y hl
  have E : EE p c cX7_waits 1 s _ m RX7 D cI cB := E
  have hl : lv_has ls 1 [(0, .ref qm)] := hl
  have hC49 : ∀ (v1 : Fn), (f_X7_waits k v) = f_X7_waits_c49 k v1 → ∀ (H : Heap) (locs : List Loc) (ls : Array Slot), WD D A s.heap H locs [(qm, .inr (9, [.int (k.1 0), .int (k.1 1), .ref ma, .int (k.1 2), .ref mb, .int (k.1 3), .ref me, .ref mr, .int (k.1 4), .int (k.1 5), .int (k.1 6), .int (k.1 7), .int (k.1 8), .int (k.1 9), .int (k.1 10), .ref mn, .ref ms, .int (y.1 0), .ref mk, .int (y.1 1)])), (mb, .inl (cI, 5, .inl k.2.1)), (ma, .inl (cI, 30, .inl k.2.2.1)), (me, .inl (cI, 12, .inl k.2.2.2.1)), (mr, .inl (cI, 12, .inl k.2.2.2.2)), (mn, .inl (cI, 52, .inl v1)), (ms, .inl (cI, 52, .inl a)), (mk, .inl (cI, 16, .inl y.2))] → lv_has ls 1 [(0, .ref qm)] → W p l e { frames := 0, cells := 0, slots := 0, locals := 0 } s m ([.ref qm] : List Value).toArray below meth c H locs 0 0 (MQ below (va_Qv (fun (u : Fn) => u = (f_X7_waits k v)) (AT D cI cB A (fun u => (wM cI qm mb ma me mr mn ms mk k u a y))) A) ([.ref qm] : List Value).toArray s 0 0 A) (F0 m 49 ls []) := by
    intro v1  hF H locs ls Y hl
    refine lv_aload_n E.1.1 E.1.2.1 dX7_waits_49 rfl (lv_at hl 0 rfl) ?_
    refine gf_X7_47 E Y 0 rfl rfl dX7_waits_50 ?_
    refine lv_iconst (v := 1) E.1.1 E.1.2.1 dX7_waits_53 (by decide) ?_
    refine r_ial E Y 5 rfl (1) (by decide) (by unfold vp_in; decide) dX7_waits_54 ?_
    refine lv_aload_n E.1.1 E.1.2.1 dX7_waits_55 rfl (lv_at hl 0 rfl) ?_
    refine gf_X7_32 E Y 0 rfl rfl dX7_waits_56 ?_
    refine lv_icmp_ge (tgt := 84) E.1.1 E.1.2.1 dX7_waits_59 (by decide) (fun c_59 => ?_) (fun c_59 => ?_)
    · skip
      refine lv_aload_n E.1.1 E.1.2.1 dX7_waits_84 rfl (lv_at hl 0 rfl) ?_
      refine gf_X7_47 E Y 0 rfl rfl dX7_waits_85 ?_
      refine lv_iconst (v := 3) E.1.1 E.1.2.1 dX7_waits_88 (by decide) ?_
      refine lv_iconst (v := 1) E.1.1 E.1.2.1 dX7_waits_89 (by decide) ?_
      refine r_ias (w' := [(qm, .inr (9, [.int (k.1 0), .int (k.1 1), .ref ma, .int (k.1 2), .ref mb, .int (k.1 3), .ref me, .ref mr, .int (k.1 4), .int (k.1 5), .int (k.1 6), .int (k.1 7), .int (k.1 8), .int (k.1 9), .int (k.1 10), .ref mn, .ref ms, .int (y.1 0), .ref mk, .int (y.1 1)])), (mb, .inl (cI, 5, .inl k.2.1)), (ma, .inl (cI, 30, .inl k.2.2.1)), (me, .inl (cI, 12, .inl k.2.2.2.1)), (mr, .inl (cI, 12, .inl k.2.2.2.2)), (mn, .inl (cI, 52, .inl (upd v1 (3) (1 : Int32)))), (ms, .inl (cI, 52, .inl a)), (mk, .inl (cI, 16, .inl y.2))]) E Y 5 rfl (3) (by decide) (by unfold vp_in; decide) rfl dX7_waits_90 (fun H locs Y => ?_)
      have e9 : (f_X7_waits k v) = (upd v1 (3) (1 : Int32)) := hF.trans ((if_pos c_59).trans (rfl))
      exact r_vret E Y hr hk (upd v1 (3) (1 : Int32)) (e9.symm) rfl ⟨Nat.le_of_ble_eq_true rfl, Nat.le_of_ble_eq_true rfl⟩ dX7_waits_91
    · skip
      refine lv_aload_n E.1.1 E.1.2.1 dX7_waits_62 rfl (lv_at hl 0 rfl) ?_
      refine gf_X7_47 E Y 0 rfl rfl dX7_waits_63 ?_
      refine lv_iconst (v := 5) E.1.1 E.1.2.1 dX7_waits_66 (by decide) ?_
      refine r_ial E Y 5 rfl (5) (by decide) (by unfold vp_in; decide) dX7_waits_67 ?_
      refine lv_aload_n E.1.1 E.1.2.1 dX7_waits_68 rfl (lv_at hl 0 rfl) ?_
      refine gf_X7_7 E Y 0 rfl rfl dX7_waits_69 ?_
      refine lv_icmp_lt (tgt := 91) E.1.1 E.1.2.1 dX7_waits_72 (by decide) (fun c_72 => ?_) (fun c_72 => ?_)
      · skip
        have e9 : (f_X7_waits k v) = v1 := hF.trans ((if_neg c_59).trans ((if_pos c_72).trans (rfl)))
        exact r_vret E Y hr hk v1 (e9.symm) rfl ⟨Nat.le_of_ble_eq_true rfl, Nat.le_of_ble_eq_true rfl⟩ dX7_waits_91
      · skip
        refine lv_aload_n E.1.1 E.1.2.1 dX7_waits_75 rfl (lv_at hl 0 rfl) ?_
        refine gf_X7_47 E Y 0 rfl rfl dX7_waits_76 ?_
        refine lv_iconst (v := 1) E.1.1 E.1.2.1 dX7_waits_79 (by decide) ?_
        refine r_ial E Y 5 rfl (1) (by decide) (by unfold vp_in; decide) dX7_waits_80 ?_
        refine lv_if_le (tgt := 91) E.1.1 E.1.2.1 dX7_waits_81 (by decide) (fun c_81 => ?_) (fun c_81 => ?_)
        · skip
          have e9 : (f_X7_waits k v) = v1 := hF.trans ((if_neg c_59).trans ((if_neg c_72).trans ((if_pos c_81).trans (rfl))))
          exact r_vret E Y hr hk v1 (e9.symm) rfl ⟨Nat.le_of_ble_eq_true rfl, Nat.le_of_ble_eq_true rfl⟩ dX7_waits_91
        · skip
          refine lv_aload_n E.1.1 E.1.2.1 dX7_waits_84 rfl (lv_at hl 0 rfl) ?_
          refine gf_X7_47 E Y 0 rfl rfl dX7_waits_85 ?_
          refine lv_iconst (v := 3) E.1.1 E.1.2.1 dX7_waits_88 (by decide) ?_
          refine lv_iconst (v := 1) E.1.1 E.1.2.1 dX7_waits_89 (by decide) ?_
          refine r_ias (w' := [(qm, .inr (9, [.int (k.1 0), .int (k.1 1), .ref ma, .int (k.1 2), .ref mb, .int (k.1 3), .ref me, .ref mr, .int (k.1 4), .int (k.1 5), .int (k.1 6), .int (k.1 7), .int (k.1 8), .int (k.1 9), .int (k.1 10), .ref mn, .ref ms, .int (y.1 0), .ref mk, .int (y.1 1)])), (mb, .inl (cI, 5, .inl k.2.1)), (ma, .inl (cI, 30, .inl k.2.2.1)), (me, .inl (cI, 12, .inl k.2.2.2.1)), (mr, .inl (cI, 12, .inl k.2.2.2.2)), (mn, .inl (cI, 52, .inl (upd v1 (3) (1 : Int32)))), (ms, .inl (cI, 52, .inl a)), (mk, .inl (cI, 16, .inl y.2))]) E Y 5 rfl (3) (by decide) (by unfold vp_in; decide) rfl dX7_waits_90 (fun H locs Y => ?_)
          have e9 : (f_X7_waits k v) = (upd v1 (3) (1 : Int32)) := hF.trans ((if_neg c_59).trans ((if_neg c_72).trans ((if_neg c_81).trans (rfl))))
          exact r_vret E Y hr hk (upd v1 (3) (1 : Int32)) (e9.symm) rfl ⟨Nat.le_of_ble_eq_true rfl, Nat.le_of_ble_eq_true rfl⟩ dX7_waits_91
  have hC47 : ∀ (v1 : Fn) (x : Int32), (f_X7_waits k v) = f_X7_waits_c47 k v1 x → ∀ (H : Heap) (locs : List Loc) (ls : Array Slot), WD D A s.heap H locs [(qm, .inr (9, [.int (k.1 0), .int (k.1 1), .ref ma, .int (k.1 2), .ref mb, .int (k.1 3), .ref me, .ref mr, .int (k.1 4), .int (k.1 5), .int (k.1 6), .int (k.1 7), .int (k.1 8), .int (k.1 9), .int (k.1 10), .ref mn, .ref ms, .int (y.1 0), .ref mk, .int (y.1 1)])), (mb, .inl (cI, 5, .inl k.2.1)), (ma, .inl (cI, 30, .inl k.2.2.1)), (me, .inl (cI, 12, .inl k.2.2.2.1)), (mr, .inl (cI, 12, .inl k.2.2.2.2)), (mn, .inl (cI, 52, .inl v1)), (ms, .inl (cI, 52, .inl a)), (mk, .inl (cI, 16, .inl y.2))] → lv_has ls 1 [(0, .ref qm)] → W p l e { frames := 0, cells := 0, slots := 0, locals := 0 } s m ([.ref qm] : List Value).toArray below meth c H locs 0 0 (MQ below (va_Qv (fun (u : Fn) => u = (f_X7_waits k v)) (AT D cI cB A (fun u => (wM cI qm mb ma me mr mn ms mk k u a y))) A) ([.ref qm] : List Value).toArray s 0 0 A) (F0 m 47 ls [.int x, .int (v1 18), .int (18 : Int32), .ref mn]) := by
    intro v1 x  hF H locs ls Y hl
    refine lv_iadd E.1.1 E.1.2.1 dX7_waits_47 ?_
    refine r_ias (w' := [(qm, .inr (9, [.int (k.1 0), .int (k.1 1), .ref ma, .int (k.1 2), .ref mb, .int (k.1 3), .ref me, .ref mr, .int (k.1 4), .int (k.1 5), .int (k.1 6), .int (k.1 7), .int (k.1 8), .int (k.1 9), .int (k.1 10), .ref mn, .ref ms, .int (y.1 0), .ref mk, .int (y.1 1)])), (mb, .inl (cI, 5, .inl k.2.1)), (ma, .inl (cI, 30, .inl k.2.2.1)), (me, .inl (cI, 12, .inl k.2.2.2.1)), (mr, .inl (cI, 12, .inl k.2.2.2.2)), (mn, .inl (cI, 52, .inl (upd v1 (18) ((v1 18) + x)))), (ms, .inl (cI, 52, .inl a)), (mk, .inl (cI, 16, .inl y.2))]) E Y 5 rfl (18) (by decide) (by unfold vp_in; decide) rfl dX7_waits_48 (fun H locs Y => ?_)
    exact hC49 (upd v1 (18) ((v1 18) + x)) (hF.trans (rfl)) _ _ _ Y (lv_sub hl [0] rfl)
  have hC22 : ∀ (x : Int32), (f_X7_waits k v) = f_X7_waits_c22 k v x → ∀ (H : Heap) (locs : List Loc) (ls : Array Slot), WD D A s.heap H locs [(qm, .inr (9, [.int (k.1 0), .int (k.1 1), .ref ma, .int (k.1 2), .ref mb, .int (k.1 3), .ref me, .ref mr, .int (k.1 4), .int (k.1 5), .int (k.1 6), .int (k.1 7), .int (k.1 8), .int (k.1 9), .int (k.1 10), .ref mn, .ref ms, .int (y.1 0), .ref mk, .int (y.1 1)])), (mb, .inl (cI, 5, .inl k.2.1)), (ma, .inl (cI, 30, .inl k.2.2.1)), (me, .inl (cI, 12, .inl k.2.2.2.1)), (mr, .inl (cI, 12, .inl k.2.2.2.2)), (mn, .inl (cI, 52, .inl v)), (ms, .inl (cI, 52, .inl a)), (mk, .inl (cI, 16, .inl y.2))] → lv_has ls 1 [(0, .ref qm)] → W p l e { frames := 0, cells := 0, slots := 0, locals := 0 } s m ([.ref qm] : List Value).toArray below meth c H locs 0 0 (MQ below (va_Qv (fun (u : Fn) => u = (f_X7_waits k v)) (AT D cI cB A (fun u => (wM cI qm mb ma me mr mn ms mk k u a y))) A) ([.ref qm] : List Value).toArray s 0 0 A) (F0 m 22 ls [.int x, .int (v 19), .int (19 : Int32), .ref mn]) := by
    intro x  hF H locs ls Y hl
    refine lv_iadd E.1.1 E.1.2.1 dX7_waits_22 ?_
    refine r_ias (w' := [(qm, .inr (9, [.int (k.1 0), .int (k.1 1), .ref ma, .int (k.1 2), .ref mb, .int (k.1 3), .ref me, .ref mr, .int (k.1 4), .int (k.1 5), .int (k.1 6), .int (k.1 7), .int (k.1 8), .int (k.1 9), .int (k.1 10), .ref mn, .ref ms, .int (y.1 0), .ref mk, .int (y.1 1)])), (mb, .inl (cI, 5, .inl k.2.1)), (ma, .inl (cI, 30, .inl k.2.2.1)), (me, .inl (cI, 12, .inl k.2.2.2.1)), (mr, .inl (cI, 12, .inl k.2.2.2.2)), (mn, .inl (cI, 52, .inl (upd v (19) ((v 19) + x)))), (ms, .inl (cI, 52, .inl a)), (mk, .inl (cI, 16, .inl y.2))]) E Y 5 rfl (19) (by decide) (by unfold vp_in; decide) rfl dX7_waits_23 (fun H locs Y => ?_)
    refine lv_aload_n E.1.1 E.1.2.1 dX7_waits_24 rfl (lv_at hl 0 rfl) ?_
    refine gf_X7_47 E Y 0 rfl rfl dX7_waits_25 ?_
    refine lv_bipush (v := 18) E.1.1 E.1.2.1 dX7_waits_28 (by decide) ?_
    refine lv_dup2_11 E.1.1 E.1.2.1 dX7_waits_30 rfl rfl ?_
    refine r_ial E Y 5 rfl (18) (by decide) (by unfold vp_in; decide) dX7_waits_31 ?_
    refine lv_cst (v := (v (18))) rfl ?_
    refine lv_aload_n E.1.1 E.1.2.1 dX7_waits_32 rfl (lv_at hl 0 rfl) ?_
    refine gf_X7_47 E Y 0 rfl rfl dX7_waits_33 ?_
    refine lv_iconst (v := 3) E.1.1 E.1.2.1 dX7_waits_36 (by decide) ?_
    refine r_ial E Y 5 rfl (3) (by decide) (by unfold vp_in; decide) dX7_waits_37 ?_
    refine lv_cst (v := (v (3))) rfl ?_
    refine lv_iconst (v := 2) E.1.1 E.1.2.1 dX7_waits_38 (by decide) ?_
    refine lv_icmp_ne (tgt := 46) E.1.1 E.1.2.1 dX7_waits_39 (by decide) (fun c_39 => ?_) (fun c_39 => ?_)
    · skip
      refine lv_iconst (v := 0) E.1.1 E.1.2.1 dX7_waits_46 (by decide) ?_
      exact hC47 (upd v (19) ((v 19) + x)) (0 : Int32) (hF.trans ((if_neg c_39).trans (rfl))) _ _ _ Y (lv_sub hl [0] rfl)
    · skip
      refine lv_iconst (v := 1) E.1.1 E.1.2.1 dX7_waits_42 (by decide) ?_
      refine lv_goto (tgt := 47) E.1.1 E.1.2.1 dX7_waits_43 (by decide) ?_
      exact hC47 (upd v (19) ((v 19) + x)) (1 : Int32) (hF.trans ((if_pos c_39).trans (rfl))) _ _ _ Y (lv_sub hl [0] rfl)
  refine lv_aload_n E.1.1 E.1.2.1 dX7_waits_0 rfl (lv_at hl 0 rfl) ?_
  refine gf_X7_47 E Y 0 rfl rfl dX7_waits_1 ?_
  refine lv_bipush (v := 19) E.1.1 E.1.2.1 dX7_waits_4 (by decide) ?_
  refine lv_dup2_11 E.1.1 E.1.2.1 dX7_waits_6 rfl rfl ?_
  refine r_ial E Y 5 rfl (19) (by decide) (by unfold vp_in; decide) dX7_waits_7 ?_
  refine lv_aload_n E.1.1 E.1.2.1 dX7_waits_8 rfl (lv_at hl 0 rfl) ?_
  refine gf_X7_47 E Y 0 rfl rfl dX7_waits_9 ?_
  refine lv_iconst (v := 3) E.1.1 E.1.2.1 dX7_waits_12 (by decide) ?_
  refine r_ial E Y 5 rfl (3) (by decide) (by unfold vp_in; decide) dX7_waits_13 ?_
  refine lv_if_ne (tgt := 21) E.1.1 E.1.2.1 dX7_waits_14 (by decide) (fun c_14 => ?_) (fun c_14 => ?_)
  · skip
    refine lv_iconst (v := 0) E.1.1 E.1.2.1 dX7_waits_21 (by decide) ?_
    exact hC22 (0 : Int32) ((if_neg c_14).trans (rfl)) _ _ _ Y (lv_sub hl [0] rfl)
  · skip
    refine lv_iconst (v := 1) E.1.1 E.1.2.1 dX7_waits_17 (by decide) ?_
    refine lv_goto (tgt := 22) E.1.1 E.1.2.1 dX7_waits_18 (by decide) ?_
    exact hC22 (1 : Int32) ((if_pos c_14).trans (rfl)) _ _ _ Y (lv_sub hl [0] rfl)
