def f_X7_simulated18 (k : Cf) (v : Fn) (a : Fn) (p0 : Int32) : Int32 × Fn × Fn := if (f_X7_within p0 (0 : Int32) (3 : Int32)) = 0 then ((-2 : Int32), v, a) else (if (k.1 2) = 0 then ((-4 : Int32), v, a) else (((f_X7_simulates k v p0) (18)), (f_X7_takesBack (f_X7_simulates k v p0) (f_X7_setsAside v a)), (f_X7_setsAside v a)))
set_option maxRecDepth 100000 in
set_option maxHeartbeats 4000000 in
theorem c_X7_simulated18 {l : Launch} {D : va_G} {cI cB : ClassId} (qm mb ma me mr mn ms mk : Nat) (k : Cf) (v : Fn) (a : Fn) (y : Ky) (p0 : Int32) (kO : KOK k) : CI l X0 D cI cB yX7_simulated cX7_simulated 4 (some .int) 7 151 0 0 [.ref qm, .int p0, .int (18 : Int32)] (wM cI qm mb ma me mr mn ms mk k v a y) (fun (r : Int32) (u : Fn × Fn) => r = (f_X7_simulated18 k v a p0).1 ∧ u = (f_X7_simulated18 k v a p0).2) (fun u => (wM cI qm mb ma me mr mn ms mk k (u.1) (u.2) y)) := by
  refine CI.of (by decide) (Nat.le_of_ble_eq_true rfl) ?_
  intro p e s m below meth c A ls E hr hk hin hA hAA hX Y hl
  have E : EE p c cX7_simulated 4 s _ m RX7 D cI cB := E
  have hl : lv_has ls 4 [(0, .ref qm), (1, .int p0), (2, .int (18 : Int32))] := hl
  refine lv_iload_n E.1.1 E.1.2.1 dX7_simulated_0 rfl (lv_at hl 1 rfl) ?_
  refine lv_iconst (v := 0) E.1.1 E.1.2.1 dX7_simulated_1 (by decide) ?_
  refine lv_iconst (v := 3) E.1.1 E.1.2.1 dX7_simulated_2 (by decide) ?_
  refine r_Si (wr := [(qm, .inr (9, [.int (k.1 0), .int (k.1 1), .ref ma, .int (k.1 2), .ref mb, .int (k.1 3), .ref me, .ref mr, .int (k.1 4), .int (k.1 5), .int (k.1 6), .int (k.1 7), .int (k.1 8), .int (k.1 9), .int (k.1 10), .ref mn, .ref ms, .int (y.1 0), .ref mk, .int (y.1 1)])), (mb, .inl (cI, 5, .inl k.2.1)), (ma, .inl (cI, 30, .inl k.2.2.1)), (me, .inl (cI, 12, .inl k.2.2.2.1)), (mr, .inl (cI, 12, .inl k.2.2.2.2)), (mn, .inl (cI, 52, .inl v)), (ms, .inl (cI, 52, .inl a)), (mk, .inl (cI, 16, .inl y.2))]) (w2 := fun _ => [(qm, .inr (9, [.int (k.1 0), .int (k.1 1), .ref ma, .int (k.1 2), .ref mb, .int (k.1 3), .ref me, .ref mr, .int (k.1 4), .int (k.1 5), .int (k.1 6), .int (k.1 7), .int (k.1 8), .int (k.1 9), .int (k.1 10), .ref mn, .ref ms, .int (y.1 0), .ref mk, .int (y.1 1)])), (mb, .inl (cI, 5, .inl k.2.1)), (ma, .inl (cI, 30, .inl k.2.2.1)), (me, .inl (cI, 12, .inl k.2.2.2.1)), (mr, .inl (cI, 12, .inl k.2.2.2.2)), (mn, .inl (cI, 52, .inl v)), (ms, .inl (cI, 52, .inl a)), (mk, .inl (cI, 16, .inl y.2))]) E Y hA hl.1 (c_X7_within p0 (0 : Int32) (3 : Int32)) lk_X7_59 X0b (fun _ _ _ => trivial) [] [0, 1, 2, 3, 4, 5, 6, 7] [0, 1, 2, 3, 4, 5, 6, 7] rfl rfl (by decide) (fun _ => rfl) ⟨Nat.le_of_ble_eq_true rfl, Nat.le_of_ble_eq_true rfl⟩ ⟨Nat.le_of_ble_eq_true rfl, Nat.le_of_ble_eq_true rfl⟩ rfl rfl (Nat.le_of_ble_eq_true rfl) dX7_simulated_3 (fun r u H locs hp Y => ?_)
  subst hp
  refine lv_if_ne (tgt := 12) E.1.1 E.1.2.1 dX7_simulated_6 (by decide) (fun c_6 => ?_) (fun c_6 => ?_)
  · skip
    refine lv_aload_n E.1.1 E.1.2.1 dX7_simulated_12 rfl (lv_at hl 0 rfl) ?_
    refine gf_X7_63 E Y 0 rfl rfl dX7_simulated_13 ?_
    refine lv_if_ne (tgt := 22) E.1.1 E.1.2.1 dX7_simulated_16 (by decide) (fun c_16 => ?_) (fun c_16 => ?_)
    · skip
      refine lv_aload_n E.1.1 E.1.2.1 dX7_simulated_22 rfl (lv_at hl 0 rfl) ?_
      refine r_Vv (wr := []) (w2 := fun u => [(qm, .inr (9, [.int (k.1 0), .int (k.1 1), .ref ma, .int (k.1 2), .ref mb, .int (k.1 3), .ref me, .ref mr, .int (k.1 4), .int (k.1 5), .int (k.1 6), .int (k.1 7), .int (k.1 8), .int (k.1 9), .int (k.1 10), .ref mn, .ref ms, .int (y.1 0), .ref mk, .int (y.1 1)])), (mb, .inl (cI, 5, .inl k.2.1)), (ma, .inl (cI, 30, .inl k.2.2.1)), (me, .inl (cI, 12, .inl k.2.2.2.1)), (mr, .inl (cI, 12, .inl k.2.2.2.2)), (mn, .inl (cI, 52, .inl v)), (ms, .inl (cI, 52, .inl u)), (mk, .inl (cI, 16, .inl y.2))]) E Y hA hl.1 (c_X7_setsAside qm mb ma me mr mn ms mk k v a y) lk_X7_172 X0b (fun _ _ _ => trivial) [0, 1, 2, 3, 4, 5, 6, 7] [] [0, 1, 2, 3, 4, 5, 6, 7] rfl rfl (by decide) (fun _ => rfl) 0 rfl rfl ⟨Nat.le_of_ble_eq_true rfl, Nat.le_of_ble_eq_true rfl⟩ ⟨Nat.le_of_ble_eq_true rfl, Nat.le_of_ble_eq_true rfl⟩ rfl rfl (Nat.le_of_ble_eq_true rfl) dX7_simulated_23 (fun u H locs hp Y => ?_)
      subst hp
      refine lv_aload_n E.1.1 E.1.2.1 dX7_simulated_26 rfl (lv_at hl 0 rfl) ?_
      refine lv_iload_n E.1.1 E.1.2.1 dX7_simulated_27 rfl (lv_at hl 1 rfl) ?_
      refine r_Vv (wr := []) (w2 := fun u => [(qm, .inr (9, [.int (k.1 0), .int (k.1 1), .ref ma, .int (k.1 2), .ref mb, .int (k.1 3), .ref me, .ref mr, .int (k.1 4), .int (k.1 5), .int (k.1 6), .int (k.1 7), .int (k.1 8), .int (k.1 9), .int (k.1 10), .ref mn, .ref ms, .int (y.1 0), .ref mk, .int (y.1 1)])), (mb, .inl (cI, 5, .inl k.2.1)), (ma, .inl (cI, 30, .inl k.2.2.1)), (me, .inl (cI, 12, .inl k.2.2.2.1)), (mr, .inl (cI, 12, .inl k.2.2.2.2)), (mn, .inl (cI, 52, .inl u)), (ms, .inl (cI, 52, .inl (f_X7_setsAside v a))), (mk, .inl (cI, 16, .inl y.2))]) E Y hA hl.1 (c_X7_simulates qm mb ma me mr mn ms mk k v (f_X7_setsAside v a) y p0 kO (l1_of kO c_16)) lk_X7_175 X0b (fun _ _ _ => trivial) [0, 1, 2, 3, 4, 5, 6, 7] [] [0, 1, 2, 3, 4, 5, 6, 7] rfl rfl (by decide) (fun _ => rfl) 0 rfl rfl ⟨Nat.le_of_ble_eq_true rfl, Nat.le_of_ble_eq_true rfl⟩ ⟨Nat.le_of_ble_eq_true rfl, Nat.le_of_ble_eq_true rfl⟩ rfl rfl (Nat.le_of_ble_eq_true rfl) dX7_simulated_28 (fun u H locs hp Y => ?_)
      subst hp
      refine lv_aload_n E.1.1 E.1.2.1 dX7_simulated_31 rfl (lv_at hl 0 rfl) ?_
      refine gf_X7_47 E Y 0 rfl rfl dX7_simulated_32 ?_
      refine lv_iload_n E.1.1 E.1.2.1 dX7_simulated_35 rfl (lv_at hl 2 rfl) ?_
      refine r_ial E Y 5 rfl (18) (by decide) (by unfold vp_in; decide) dX7_simulated_36 ?_
      refine lv_istore_n (lv' := [(3, .int ((f_X7_simulates k v p0) (18))), (0, .ref qm), (1, .int p0), (2, .int (18 : Int32))]) E.1.1 E.1.2.1 dX7_simulated_37 rfl hl (by decide) rfl (fun ls hl => ?_)
      refine lv_aload_n E.1.1 E.1.2.1 dX7_simulated_38 rfl (lv_at hl 1 rfl) ?_
      refine r_Vv (wr := []) (w2 := fun u => [(qm, .inr (9, [.int (k.1 0), .int (k.1 1), .ref ma, .int (k.1 2), .ref mb, .int (k.1 3), .ref me, .ref mr, .int (k.1 4), .int (k.1 5), .int (k.1 6), .int (k.1 7), .int (k.1 8), .int (k.1 9), .int (k.1 10), .ref mn, .ref ms, .int (y.1 0), .ref mk, .int (y.1 1)])), (mb, .inl (cI, 5, .inl k.2.1)), (ma, .inl (cI, 30, .inl k.2.2.1)), (me, .inl (cI, 12, .inl k.2.2.2.1)), (mr, .inl (cI, 12, .inl k.2.2.2.2)), (mn, .inl (cI, 52, .inl u)), (ms, .inl (cI, 52, .inl (f_X7_setsAside v a))), (mk, .inl (cI, 16, .inl y.2))]) E Y hA hl.1 (c_X7_takesBack qm mb ma me mr mn ms mk k (f_X7_simulates k v p0) (f_X7_setsAside v a) y) lk_X7_178 X0b (fun _ _ _ => trivial) [0, 1, 2, 3, 4, 5, 6, 7] [] [0, 1, 2, 3, 4, 5, 6, 7] rfl rfl (by decide) (fun _ => rfl) 0 rfl rfl ⟨Nat.le_of_ble_eq_true rfl, Nat.le_of_ble_eq_true rfl⟩ ⟨Nat.le_of_ble_eq_true rfl, Nat.le_of_ble_eq_true rfl⟩ rfl rfl (Nat.le_of_ble_eq_true rfl) dX7_simulated_39 (fun u H locs hp Y => ?_)
      subst hp
      refine lv_iload_n E.1.1 E.1.2.1 dX7_simulated_42 rfl (lv_at hl 0 rfl) ?_
      have e9 : (f_X7_simulated18 k v a p0) = (((f_X7_simulates k v p0) (18)), (f_X7_takesBack (f_X7_simulates k v p0) (f_X7_setsAside v a)), (f_X7_setsAside v a)) := (if_neg c_6).trans ((if_neg c_16).trans (rfl))
      exact r_iret E Y hr hk ((f_X7_simulates k v p0) (18)) ((f_X7_takesBack (f_X7_simulates k v p0) (f_X7_setsAside v a)), (f_X7_setsAside v a)) (pr_of e9) rfl ⟨Nat.le_of_ble_eq_true rfl, Nat.le_of_ble_eq_true rfl⟩ dX7_simulated_43
    · skip
      refine lv_bipush (v := (-4)) E.1.1 E.1.2.1 dX7_simulated_19 (by decide) ?_
      have e9 : (f_X7_simulated18 k v a p0) = ((-4 : Int32), v, a) := (if_neg c_6).trans ((if_pos c_16).trans (rfl))
      exact r_iret E Y hr hk (-4 : Int32) (v, a) (pr_of e9) rfl ⟨Nat.le_of_ble_eq_true rfl, Nat.le_of_ble_eq_true rfl⟩ dX7_simulated_21
  · skip
    refine lv_bipush (v := (-2)) E.1.1 E.1.2.1 dX7_simulated_9 (by decide) ?_
    have e9 : (f_X7_simulated18 k v a p0) = ((-2 : Int32), v, a) := (if_pos c_6).trans (rfl)
    exact r_iret E Y hr hk (-2 : Int32) (v, a) (pr_of e9) rfl ⟨Nat.le_of_ble_eq_true rfl, Nat.le_of_ble_eq_true rfl⟩ dX7_simulated_11

def f_X7_simulated20 (k : Cf) (v : Fn) (a : Fn) (p0 : Int32) : Int32 × Fn × Fn := if (f_X7_within p0 (0 : Int32) (3 : Int32)) = 0 then ((-2 : Int32), v, a) else (if (k.1 2) = 0 then ((-4 : Int32), v, a) else (((f_X7_simulates k v p0) (20)), (f_X7_takesBack (f_X7_simulates k v p0) (f_X7_setsAside v a)), (f_X7_setsAside v a)))
set_option maxRecDepth 100000 in
set_option maxHeartbeats 4000000 in
theorem c_X7_simulated20 {l : Launch} {D : va_G} {cI cB : ClassId} (qm mb ma me mr mn ms mk : Nat) (k : Cf) (v : Fn) (a : Fn) (y : Ky) (p0 : Int32) (kO : KOK k) : CI l X0 D cI cB yX7_simulated cX7_simulated 4 (some .int) 7 151 0 0 [.ref qm, .int p0, .int (20 : Int32)] (wM cI qm mb ma me mr mn ms mk k v a y) (fun (r : Int32) (u : Fn × Fn) => r = (f_X7_simulated20 k v a p0).1 ∧ u = (f_X7_simulated20 k v a p0).2) (fun u => (wM cI qm mb ma me mr mn ms mk k (u.1) (u.2) y)) := by
  refine CI.of (by decide) (Nat.le_of_ble_eq_true rfl) ?_
  intro p e s m below meth c A ls E hr hk hin hA hAA hX Y hl
  have E : EE p c cX7_simulated 4 s _ m RX7 D cI cB := E
  have hl : lv_has ls 4 [(0, .ref qm), (1, .int p0), (2, .int (20 : Int32))] := hl
  refine lv_iload_n E.1.1 E.1.2.1 dX7_simulated_0 rfl (lv_at hl 1 rfl) ?_
  refine lv_iconst (v := 0) E.1.1 E.1.2.1 dX7_simulated_1 (by decide) ?_
  refine lv_iconst (v := 3) E.1.1 E.1.2.1 dX7_simulated_2 (by decide) ?_
  refine r_Si (wr := [(qm, .inr (9, [.int (k.1 0), .int (k.1 1), .ref ma, .int (k.1 2), .ref mb, .int (k.1 3), .ref me, .ref mr, .int (k.1 4), .int (k.1 5), .int (k.1 6), .int (k.1 7), .int (k.1 8), .int (k.1 9), .int (k.1 10), .ref mn, .ref ms, .int (y.1 0), .ref mk, .int (y.1 1)])), (mb, .inl (cI, 5, .inl k.2.1)), (ma, .inl (cI, 30, .inl k.2.2.1)), (me, .inl (cI, 12, .inl k.2.2.2.1)), (mr, .inl (cI, 12, .inl k.2.2.2.2)), (mn, .inl (cI, 52, .inl v)), (ms, .inl (cI, 52, .inl a)), (mk, .inl (cI, 16, .inl y.2))]) (w2 := fun _ => [(qm, .inr (9, [.int (k.1 0), .int (k.1 1), .ref ma, .int (k.1 2), .ref mb, .int (k.1 3), .ref me, .ref mr, .int (k.1 4), .int (k.1 5), .int (k.1 6), .int (k.1 7), .int (k.1 8), .int (k.1 9), .int (k.1 10), .ref mn, .ref ms, .int (y.1 0), .ref mk, .int (y.1 1)])), (mb, .inl (cI, 5, .inl k.2.1)), (ma, .inl (cI, 30, .inl k.2.2.1)), (me, .inl (cI, 12, .inl k.2.2.2.1)), (mr, .inl (cI, 12, .inl k.2.2.2.2)), (mn, .inl (cI, 52, .inl v)), (ms, .inl (cI, 52, .inl a)), (mk, .inl (cI, 16, .inl y.2))]) E Y hA hl.1 (c_X7_within p0 (0 : Int32) (3 : Int32)) lk_X7_59 X0b (fun _ _ _ => trivial) [] [0, 1, 2, 3, 4, 5, 6, 7] [0, 1, 2, 3, 4, 5, 6, 7] rfl rfl (by decide) (fun _ => rfl) ⟨Nat.le_of_ble_eq_true rfl, Nat.le_of_ble_eq_true rfl⟩ ⟨Nat.le_of_ble_eq_true rfl, Nat.le_of_ble_eq_true rfl⟩ rfl rfl (Nat.le_of_ble_eq_true rfl) dX7_simulated_3 (fun r u H locs hp Y => ?_)
  subst hp
  refine lv_if_ne (tgt := 12) E.1.1 E.1.2.1 dX7_simulated_6 (by decide) (fun c_6 => ?_) (fun c_6 => ?_)
  · skip
    refine lv_aload_n E.1.1 E.1.2.1 dX7_simulated_12 rfl (lv_at hl 0 rfl) ?_
    refine gf_X7_63 E Y 0 rfl rfl dX7_simulated_13 ?_
    refine lv_if_ne (tgt := 22) E.1.1 E.1.2.1 dX7_simulated_16 (by decide) (fun c_16 => ?_) (fun c_16 => ?_)
    · skip
      refine lv_aload_n E.1.1 E.1.2.1 dX7_simulated_22 rfl (lv_at hl 0 rfl) ?_
      refine r_Vv (wr := []) (w2 := fun u => [(qm, .inr (9, [.int (k.1 0), .int (k.1 1), .ref ma, .int (k.1 2), .ref mb, .int (k.1 3), .ref me, .ref mr, .int (k.1 4), .int (k.1 5), .int (k.1 6), .int (k.1 7), .int (k.1 8), .int (k.1 9), .int (k.1 10), .ref mn, .ref ms, .int (y.1 0), .ref mk, .int (y.1 1)])), (mb, .inl (cI, 5, .inl k.2.1)), (ma, .inl (cI, 30, .inl k.2.2.1)), (me, .inl (cI, 12, .inl k.2.2.2.1)), (mr, .inl (cI, 12, .inl k.2.2.2.2)), (mn, .inl (cI, 52, .inl v)), (ms, .inl (cI, 52, .inl u)), (mk, .inl (cI, 16, .inl y.2))]) E Y hA hl.1 (c_X7_setsAside qm mb ma me mr mn ms mk k v a y) lk_X7_172 X0b (fun _ _ _ => trivial) [0, 1, 2, 3, 4, 5, 6, 7] [] [0, 1, 2, 3, 4, 5, 6, 7] rfl rfl (by decide) (fun _ => rfl) 0 rfl rfl ⟨Nat.le_of_ble_eq_true rfl, Nat.le_of_ble_eq_true rfl⟩ ⟨Nat.le_of_ble_eq_true rfl, Nat.le_of_ble_eq_true rfl⟩ rfl rfl (Nat.le_of_ble_eq_true rfl) dX7_simulated_23 (fun u H locs hp Y => ?_)
      subst hp
      refine lv_aload_n E.1.1 E.1.2.1 dX7_simulated_26 rfl (lv_at hl 0 rfl) ?_
      refine lv_iload_n E.1.1 E.1.2.1 dX7_simulated_27 rfl (lv_at hl 1 rfl) ?_
      refine r_Vv (wr := []) (w2 := fun u => [(qm, .inr (9, [.int (k.1 0), .int (k.1 1), .ref ma, .int (k.1 2), .ref mb, .int (k.1 3), .ref me, .ref mr, .int (k.1 4), .int (k.1 5), .int (k.1 6), .int (k.1 7), .int (k.1 8), .int (k.1 9), .int (k.1 10), .ref mn, .ref ms, .int (y.1 0), .ref mk, .int (y.1 1)])), (mb, .inl (cI, 5, .inl k.2.1)), (ma, .inl (cI, 30, .inl k.2.2.1)), (me, .inl (cI, 12, .inl k.2.2.2.1)), (mr, .inl (cI, 12, .inl k.2.2.2.2)), (mn, .inl (cI, 52, .inl u)), (ms, .inl (cI, 52, .inl (f_X7_setsAside v a))), (mk, .inl (cI, 16, .inl y.2))]) E Y hA hl.1 (c_X7_simulates qm mb ma me mr mn ms mk k v (f_X7_setsAside v a) y p0 kO (l1_of kO c_16)) lk_X7_175 X0b (fun _ _ _ => trivial) [0, 1, 2, 3, 4, 5, 6, 7] [] [0, 1, 2, 3, 4, 5, 6, 7] rfl rfl (by decide) (fun _ => rfl) 0 rfl rfl ⟨Nat.le_of_ble_eq_true rfl, Nat.le_of_ble_eq_true rfl⟩ ⟨Nat.le_of_ble_eq_true rfl, Nat.le_of_ble_eq_true rfl⟩ rfl rfl (Nat.le_of_ble_eq_true rfl) dX7_simulated_28 (fun u H locs hp Y => ?_)
      subst hp
      refine lv_aload_n E.1.1 E.1.2.1 dX7_simulated_31 rfl (lv_at hl 0 rfl) ?_
      refine gf_X7_47 E Y 0 rfl rfl dX7_simulated_32 ?_
      refine lv_iload_n E.1.1 E.1.2.1 dX7_simulated_35 rfl (lv_at hl 2 rfl) ?_
      refine r_ial E Y 5 rfl (20) (by decide) (by unfold vp_in; decide) dX7_simulated_36 ?_
      refine lv_istore_n (lv' := [(3, .int ((f_X7_simulates k v p0) (20))), (0, .ref qm), (1, .int p0), (2, .int (20 : Int32))]) E.1.1 E.1.2.1 dX7_simulated_37 rfl hl (by decide) rfl (fun ls hl => ?_)
      refine lv_aload_n E.1.1 E.1.2.1 dX7_simulated_38 rfl (lv_at hl 1 rfl) ?_
      refine r_Vv (wr := []) (w2 := fun u => [(qm, .inr (9, [.int (k.1 0), .int (k.1 1), .ref ma, .int (k.1 2), .ref mb, .int (k.1 3), .ref me, .ref mr, .int (k.1 4), .int (k.1 5), .int (k.1 6), .int (k.1 7), .int (k.1 8), .int (k.1 9), .int (k.1 10), .ref mn, .ref ms, .int (y.1 0), .ref mk, .int (y.1 1)])), (mb, .inl (cI, 5, .inl k.2.1)), (ma, .inl (cI, 30, .inl k.2.2.1)), (me, .inl (cI, 12, .inl k.2.2.2.1)), (mr, .inl (cI, 12, .inl k.2.2.2.2)), (mn, .inl (cI, 52, .inl u)), (ms, .inl (cI, 52, .inl (f_X7_setsAside v a))), (mk, .inl (cI, 16, .inl y.2))]) E Y hA hl.1 (c_X7_takesBack qm mb ma me mr mn ms mk k (f_X7_simulates k v p0) (f_X7_setsAside v a) y) lk_X7_178 X0b (fun _ _ _ => trivial) [0, 1, 2, 3, 4, 5, 6, 7] [] [0, 1, 2, 3, 4, 5, 6, 7] rfl rfl (by decide) (fun _ => rfl) 0 rfl rfl ⟨Nat.le_of_ble_eq_true rfl, Nat.le_of_ble_eq_true rfl⟩ ⟨Nat.le_of_ble_eq_true rfl, Nat.le_of_ble_eq_true rfl⟩ rfl rfl (Nat.le_of_ble_eq_true rfl) dX7_simulated_39 (fun u H locs hp Y => ?_)
      subst hp
      refine lv_iload_n E.1.1 E.1.2.1 dX7_simulated_42 rfl (lv_at hl 0 rfl) ?_
      have e9 : (f_X7_simulated20 k v a p0) = (((f_X7_simulates k v p0) (20)), (f_X7_takesBack (f_X7_simulates k v p0) (f_X7_setsAside v a)), (f_X7_setsAside v a)) := (if_neg c_6).trans ((if_neg c_16).trans (rfl))
      exact r_iret E Y hr hk ((f_X7_simulates k v p0) (20)) ((f_X7_takesBack (f_X7_simulates k v p0) (f_X7_setsAside v a)), (f_X7_setsAside v a)) (pr_of e9) rfl ⟨Nat.le_of_ble_eq_true rfl, Nat.le_of_ble_eq_true rfl⟩ dX7_simulated_43
    · skip
      refine lv_bipush (v := (-4)) E.1.1 E.1.2.1 dX7_simulated_19 (by decide) ?_
      have e9 : (f_X7_simulated20 k v a p0) = ((-4 : Int32), v, a) := (if_neg c_6).trans ((if_pos c_16).trans (rfl))
      exact r_iret E Y hr hk (-4 : Int32) (v, a) (pr_of e9) rfl ⟨Nat.le_of_ble_eq_true rfl, Nat.le_of_ble_eq_true rfl⟩ dX7_simulated_21
  · skip
    refine lv_bipush (v := (-2)) E.1.1 E.1.2.1 dX7_simulated_9 (by decide) ?_
    have e9 : (f_X7_simulated20 k v a p0) = ((-2 : Int32), v, a) := (if_pos c_6).trans (rfl)
    exact r_iret E Y hr hk (-2 : Int32) (v, a) (pr_of e9) rfl ⟨Nat.le_of_ble_eq_true rfl, Nat.le_of_ble_eq_true rfl⟩ dX7_simulated_11

def f_X7_simulatedStallTime (k : Cf) (v : Fn) (a : Fn) (p0 : Int32) : Int32 × Fn × Fn := (((f_X7_simulated18 k v a p0).1), (f_X7_simulated18 k v a p0).2.1, (f_X7_simulated18 k v a p0).2.2)
set_option maxRecDepth 100000 in
set_option maxHeartbeats 4000000 in
theorem c_X7_simulatedStallTime {l : Launch} {D : va_G} {cI cB : ClassId} (qm mb ma me mr mn ms mk : Nat) (k : Cf) (v : Fn) (a : Fn) (y : Ky) (p0 : Int32) (kO : KOK k) : CI l X0 D cI cB yX7_simulatedStallTime cX7_simulatedStallTime 2 (some .int) 8 174 0 0 [.ref qm, .int p0] (wM cI qm mb ma me mr mn ms mk k v a y) (fun (r : Int32) (u : Fn × Fn) => r = (f_X7_simulatedStallTime k v a p0).1 ∧ u = (f_X7_simulatedStallTime k v a p0).2) (fun u => (wM cI qm mb ma me mr mn ms mk k (u.1) (u.2) y)) := by
  refine CI.of (by decide) (Nat.le_of_ble_eq_true rfl) ?_
  intro p e s m below meth c A ls E hr hk hin hA hAA hX Y hl
  have E : EE p c cX7_simulatedStallTime 2 s _ m RX7 D cI cB := E
  have hl : lv_has ls 2 [(0, .ref qm), (1, .int p0)] := hl
  refine lv_aload_n E.1.1 E.1.2.1 dX7_simulatedStallTime_0 rfl (lv_at hl 0 rfl) ?_
  refine lv_iload_n E.1.1 E.1.2.1 dX7_simulatedStallTime_1 rfl (lv_at hl 1 rfl) ?_
  refine lv_bipush (v := 18) E.1.1 E.1.2.1 dX7_simulatedStallTime_2 (by decide) ?_
  refine r_Vi (wr := []) (w2 := fun u => [(qm, .inr (9, [.int (k.1 0), .int (k.1 1), .ref ma, .int (k.1 2), .ref mb, .int (k.1 3), .ref me, .ref mr, .int (k.1 4), .int (k.1 5), .int (k.1 6), .int (k.1 7), .int (k.1 8), .int (k.1 9), .int (k.1 10), .ref mn, .ref ms, .int (y.1 0), .ref mk, .int (y.1 1)])), (mb, .inl (cI, 5, .inl k.2.1)), (ma, .inl (cI, 30, .inl k.2.2.1)), (me, .inl (cI, 12, .inl k.2.2.2.1)), (mr, .inl (cI, 12, .inl k.2.2.2.2)), (mn, .inl (cI, 52, .inl u.1)), (ms, .inl (cI, 52, .inl u.2)), (mk, .inl (cI, 16, .inl y.2))]) E Y hA hl.1 (c_X7_simulated18 qm mb ma me mr mn ms mk k v a y p0 kO) lk_X7_181 X0b (fun _ _ _ => trivial) [0, 1, 2, 3, 4, 5, 6, 7] [] [0, 1, 2, 3, 4, 5, 6, 7] rfl rfl (by decide) (fun _ => rfl) 0 rfl rfl ⟨Nat.le_of_ble_eq_true rfl, Nat.le_of_ble_eq_true rfl⟩ ⟨Nat.le_of_ble_eq_true rfl, Nat.le_of_ble_eq_true rfl⟩ rfl rfl (Nat.le_of_ble_eq_true rfl) dX7_simulatedStallTime_4 (fun r u H locs hp Y => ?_)
  obtain ⟨rfl, rfl⟩ := hp
  have e9 : (f_X7_simulatedStallTime k v a p0) = (((f_X7_simulated18 k v a p0).1), (f_X7_simulated18 k v a p0).2.1, (f_X7_simulated18 k v a p0).2.2) := rfl
  exact r_iret E Y hr hk ((f_X7_simulated18 k v a p0).1) ((f_X7_simulated18 k v a p0).2.1, (f_X7_simulated18 k v a p0).2.2) (pr_of e9) rfl ⟨Nat.le_of_ble_eq_true rfl, Nat.le_of_ble_eq_true rfl⟩ dX7_simulatedStallTime_7

def f_X7_simulatedBitrateSum (k : Cf) (v : Fn) (a : Fn) (p0 : Int32) : Int32 × Fn × Fn := (((f_X7_simulated20 k v a p0).1), (f_X7_simulated20 k v a p0).2.1, (f_X7_simulated20 k v a p0).2.2)
set_option maxRecDepth 100000 in
set_option maxHeartbeats 4000000 in
theorem c_X7_simulatedBitrateSum {l : Launch} {D : va_G} {cI cB : ClassId} (qm mb ma me mr mn ms mk : Nat) (k : Cf) (v : Fn) (a : Fn) (y : Ky) (p0 : Int32) (kO : KOK k) : CI l X0 D cI cB yX7_simulatedBitrateSum cX7_simulatedBitrateSum 2 (some .int) 8 174 0 0 [.ref qm, .int p0] (wM cI qm mb ma me mr mn ms mk k v a y) (fun (r : Int32) (u : Fn × Fn) => r = (f_X7_simulatedBitrateSum k v a p0).1 ∧ u = (f_X7_simulatedBitrateSum k v a p0).2) (fun u => (wM cI qm mb ma me mr mn ms mk k (u.1) (u.2) y)) := by
  refine CI.of (by decide) (Nat.le_of_ble_eq_true rfl) ?_
  intro p e s m below meth c A ls E hr hk hin hA hAA hX Y hl
  have E : EE p c cX7_simulatedBitrateSum 2 s _ m RX7 D cI cB := E
  have hl : lv_has ls 2 [(0, .ref qm), (1, .int p0)] := hl
  refine lv_aload_n E.1.1 E.1.2.1 dX7_simulatedBitrateSum_0 rfl (lv_at hl 0 rfl) ?_
  refine lv_iload_n E.1.1 E.1.2.1 dX7_simulatedBitrateSum_1 rfl (lv_at hl 1 rfl) ?_
  refine lv_bipush (v := 20) E.1.1 E.1.2.1 dX7_simulatedBitrateSum_2 (by decide) ?_
  refine r_Vi (wr := []) (w2 := fun u => [(qm, .inr (9, [.int (k.1 0), .int (k.1 1), .ref ma, .int (k.1 2), .ref mb, .int (k.1 3), .ref me, .ref mr, .int (k.1 4), .int (k.1 5), .int (k.1 6), .int (k.1 7), .int (k.1 8), .int (k.1 9), .int (k.1 10), .ref mn, .ref ms, .int (y.1 0), .ref mk, .int (y.1 1)])), (mb, .inl (cI, 5, .inl k.2.1)), (ma, .inl (cI, 30, .inl k.2.2.1)), (me, .inl (cI, 12, .inl k.2.2.2.1)), (mr, .inl (cI, 12, .inl k.2.2.2.2)), (mn, .inl (cI, 52, .inl u.1)), (ms, .inl (cI, 52, .inl u.2)), (mk, .inl (cI, 16, .inl y.2))]) E Y hA hl.1 (c_X7_simulated20 qm mb ma me mr mn ms mk k v a y p0 kO) lk_X7_181 X0b (fun _ _ _ => trivial) [0, 1, 2, 3, 4, 5, 6, 7] [] [0, 1, 2, 3, 4, 5, 6, 7] rfl rfl (by decide) (fun _ => rfl) 0 rfl rfl ⟨Nat.le_of_ble_eq_true rfl, Nat.le_of_ble_eq_true rfl⟩ ⟨Nat.le_of_ble_eq_true rfl, Nat.le_of_ble_eq_true rfl⟩ rfl rfl (Nat.le_of_ble_eq_true rfl) dX7_simulatedBitrateSum_4 (fun r u H locs hp Y => ?_)
  obtain ⟨rfl, rfl⟩ := hp
  have e9 : (f_X7_simulatedBitrateSum k v a p0) = (((f_X7_simulated20 k v a p0).1), (f_X7_simulated20 k v a p0).2.1, (f_X7_simulated20 k v a p0).2.2) := rfl
  exact r_iret E Y hr hk ((f_X7_simulated20 k v a p0).1) ((f_X7_simulated20 k v a p0).2.1, (f_X7_simulated20 k v a p0).2.2) (pr_of e9) rfl ⟨Nat.le_of_ble_eq_true rfl, Nat.le_of_ble_eq_true rfl⟩ dX7_simulatedBitrateSum_7
