def f_X7_bestSmoothLevel_l24 (k : Cf) (v : Fn) (a : Fn) : Nat → Int32 → Fn → Int32 → Nat → Int32 × Cf × Fn × Fn
  | 0, c0, v1, x, j => (0, k, v1, a)
  | n + 1, c0, v1, x, j => if (k.1 2) ≤ (nI j) then (x, (upd (k.1) 10 (k.1 10), k.2.1, k.2.2.1, k.2.2.2.1, k.2.2.2.2), (f_X7_takesBack v1 (f_X7_setsAside v a)), (f_X7_setsAside v a)) else (if ((f_X7_simulates (upd (k.1) 10 (nI j), k.2.1, k.2.2.1, k.2.2.2.1, k.2.2.2.2) v1 (0 : Int32)) (3)) = (3 : Int32) then (if ((f_X7_simulates (upd (k.1) 10 (nI j), k.2.1, k.2.2.1, k.2.2.2.1, k.2.2.2.2) v1 (0 : Int32)) (17)) = 0 then f_X7_bestSmoothLevel_l24 k v a n (nI j) (f_X7_simulates (upd (k.1) 10 (nI j), k.2.1, k.2.2.1, k.2.2.2.1, k.2.2.2.2) v1 (0 : Int32)) (nI j) (j + 1) else f_X7_bestSmoothLevel_l24 k v a n (nI j) (f_X7_simulates (upd (k.1) 10 (nI j), k.2.1, k.2.2.1, k.2.2.2.1, k.2.2.2.2) v1 (0 : Int32)) x (j + 1)) else f_X7_bestSmoothLevel_l24 k v a n (nI j) (f_X7_simulates (upd (k.1) 10 (nI j), k.2.1, k.2.2.1, k.2.2.2.1, k.2.2.2.2) v1 (0 : Int32)) x (j + 1))
def f_X7_bestSmoothLevel (k : Cf) (v : Fn) (a : Fn) : Int32 × Cf × Fn × Fn := if (k.1 2) = 0 then ((-4 : Int32), k, v, a) else f_X7_bestSmoothLevel_l24 k v a 6 (k.1 10) v (-6 : Int32) (0)
set_option maxRecDepth 100000 in
set_option maxHeartbeats 4000000 in
theorem c_X7_bestSmoothLevel {l : Launch} {D : va_G} {cI cB : ClassId} (qm mb ma me mr mn ms mk : Nat) (k : Cf) (v : Fn) (a : Fn) (y : Ky) (kO : KOK k) : CI l X0 D cI cB yX7_bestSmoothLevel cX7_bestSmoothLevel 4 (some .int) 7 151 0 0 [.ref qm] (wM cI qm mb ma me mr mn ms mk k v a y) (fun (r : Int32) (u : Cf × Fn × Fn) => r = (f_X7_bestSmoothLevel k v a).1 ∧ u = (f_X7_bestSmoothLevel k v a).2) (fun u => (wM cI qm mb ma me mr mn ms mk (u.1) (u.2.1) (u.2.2) y)) := by
  refine CI.of (by decide) (Nat.le_of_ble_eq_true rfl) ?_
  intro p e s m below meth c A ls E hr hk hin hA hAA hX Y hl
  have E : EE p c cX7_bestSmoothLevel 4 s _ m RX7 D cI cB := E
  have hl : lv_has ls 4 [(0, .ref qm)] := hl
  refine lv_aload_n E.1.1 E.1.2.1 dX7_bestSmoothLevel_0 rfl (lv_at hl 0 rfl) ?_
  refine gf_X7_63 E Y 0 rfl rfl dX7_bestSmoothLevel_1 ?_
  refine lv_if_ne (tgt := 10) E.1.1 E.1.2.1 dX7_bestSmoothLevel_4 (by decide) (fun c_4 => ?_) (fun c_4 => ?_)
  · skip
    refine lv_aload_n E.1.1 E.1.2.1 dX7_bestSmoothLevel_10 rfl (lv_at hl 0 rfl) ?_
    refine gf_X7_44 E Y 0 rfl rfl dX7_bestSmoothLevel_11 ?_
    refine lv_istore_n (lv' := [(1, .int (k.1 10)), (0, .ref qm)]) E.1.1 E.1.2.1 dX7_bestSmoothLevel_14 rfl hl (by decide) rfl (fun ls hl => ?_)
    refine lv_bipush (v := (-6)) E.1.1 E.1.2.1 dX7_bestSmoothLevel_15 (by decide) ?_
    refine lv_istore_n (lv' := [(2, .int (-6 : Int32)), (1, .int (k.1 10)), (0, .ref qm)]) E.1.1 E.1.2.1 dX7_bestSmoothLevel_17 rfl hl (by decide) rfl (fun ls hl => ?_)
    refine lv_aload_n E.1.1 E.1.2.1 dX7_bestSmoothLevel_18 rfl (lv_at hl 2 rfl) ?_
    refine r_Vv (wr := []) (w2 := fun u => [(qm, .inr (9, [.int (k.1 0), .int (k.1 1), .ref ma, .int (k.1 2), .ref mb, .int (k.1 3), .ref me, .ref mr, .int (k.1 4), .int (k.1 5), .int (k.1 6), .int (k.1 7), .int (k.1 8), .int (k.1 9), .int (k.1 10), .ref mn, .ref ms, .int (y.1 0), .ref mk, .int (y.1 1)])), (mb, .inl (cI, 5, .inl k.2.1)), (ma, .inl (cI, 30, .inl k.2.2.1)), (me, .inl (cI, 12, .inl k.2.2.2.1)), (mr, .inl (cI, 12, .inl k.2.2.2.2)), (mn, .inl (cI, 52, .inl v)), (ms, .inl (cI, 52, .inl u)), (mk, .inl (cI, 16, .inl y.2))]) E Y hA hl.1 (c_X7_setsAside qm mb ma me mr mn ms mk k v a y) lk_X7_172 X0b (fun _ _ _ => trivial) [0, 1, 2, 3, 4, 5, 6, 7] [] [0, 1, 2, 3, 4, 5, 6, 7] rfl rfl (by decide) (fun _ => rfl) 0 rfl rfl ⟨Nat.le_of_ble_eq_true rfl, Nat.le_of_ble_eq_true rfl⟩ ⟨Nat.le_of_ble_eq_true rfl, Nat.le_of_ble_eq_true rfl⟩ rfl rfl (Nat.le_of_ble_eq_true rfl) dX7_bestSmoothLevel_19 (fun u H locs hp Y => ?_)
    subst hp
    refine lv_iconst (v := 0) E.1.1 E.1.2.1 dX7_bestSmoothLevel_22 (by decide) ?_
    refine lv_istore_n (lv' := [(3, .int (0 : Int32)), (2, .int (-6 : Int32)), (1, .int (k.1 10)), (0, .ref qm)]) E.1.1 E.1.2.1 dX7_bestSmoothLevel_23 rfl hl (by decide) rfl (fun ls hl => ?_)
    have hL : ∀ (n : Nat) (c0 : Int32) (v1 : Fn) (x : Int32) (j : Nat), (hj : j ≤ 5) → (hn : 5 < j + n) → (f_X7_bestSmoothLevel k v a) = f_X7_bestSmoothLevel_l24 k v a n c0 v1 x j → ∀ (H : Heap) (locs : List Loc) (ls : Array Slot), WD D A s.heap H locs [(qm, .inr (9, [.int (k.1 0), .int (k.1 1), .ref ma, .int (k.1 2), .ref mb, .int (k.1 3), .ref me, .ref mr, .int (k.1 4), .int (k.1 5), .int (k.1 6), .int (k.1 7), .int (k.1 8), .int (k.1 9), .int c0, .ref mn, .ref ms, .int (y.1 0), .ref mk, .int (y.1 1)])), (mb, .inl (cI, 5, .inl k.2.1)), (ma, .inl (cI, 30, .inl k.2.2.1)), (me, .inl (cI, 12, .inl k.2.2.2.1)), (mr, .inl (cI, 12, .inl k.2.2.2.2)), (mn, .inl (cI, 52, .inl v1)), (ms, .inl (cI, 52, .inl (f_X7_setsAside v a))), (mk, .inl (cI, 16, .inl y.2))] → lv_has ls 4 [(0, .ref qm), (1, .int (k.1 10)), (2, .int x), (3, .int (nI j))] → W p l e { frames := 7, cells := 0, slots := 0, locals := 151 } s m ([.ref qm] : List Value).toArray below meth c H locs 0 0 (MQ below (va_Qi (fun (r : Int32) (u : Cf × Fn × Fn) => r = (f_X7_bestSmoothLevel k v a).1 ∧ u = (f_X7_bestSmoothLevel k v a).2) (AT D cI cB A (fun u => (wM cI qm mb ma me mr mn ms mk (u.1) (u.2.1) (u.2.2) y))) A) ([.ref qm] : List Value).toArray s 0 0 A) (F0 m 24 ls []) := by
      intro n
      induction n with
      | zero => intro c0 v1 x j hj hn; exact absurd hn (by omega)
      | succ n ih =>
        intro c0 v1 x j hj hn hF H locs ls Y hl
        refine lv_iload_n E.1.1 E.1.2.1 dX7_bestSmoothLevel_24 rfl (lv_at hl 3 rfl) ?_
        refine lv_aload_n E.1.1 E.1.2.1 dX7_bestSmoothLevel_25 rfl (lv_at hl 0 rfl) ?_
        refine gf_X7_63 E Y 0 rfl rfl dX7_bestSmoothLevel_26 ?_
        refine lv_icmp_ge (tgt := 74) E.1.1 E.1.2.1 dX7_bestSmoothLevel_29 (by decide) (fun c_29 => ?_) (fun c_29 => ?_)
        · skip
          refine lv_aload_n E.1.1 E.1.2.1 dX7_bestSmoothLevel_74 rfl (lv_at hl 0 rfl) ?_
          refine lv_iload_n E.1.1 E.1.2.1 dX7_bestSmoothLevel_75 rfl (lv_at hl 1 rfl) ?_
          refine pf_X7_44 (w' := [(qm, .inr (9, [.int (k.1 0), .int (k.1 1), .ref ma, .int (k.1 2), .ref mb, .int (k.1 3), .ref me, .ref mr, .int (k.1 4), .int (k.1 5), .int (k.1 6), .int (k.1 7), .int (k.1 8), .int (k.1 9), .int (k.1 10), .ref mn, .ref ms, .int (y.1 0), .ref mk, .int (y.1 1)])), (mb, .inl (cI, 5, .inl k.2.1)), (ma, .inl (cI, 30, .inl k.2.2.1)), (me, .inl (cI, 12, .inl k.2.2.2.1)), (mr, .inl (cI, 12, .inl k.2.2.2.2)), (mn, .inl (cI, 52, .inl v1)), (ms, .inl (cI, 52, .inl (f_X7_setsAside v a))), (mk, .inl (cI, 16, .inl y.2))]) E Y 0 rfl (Nat.le_of_ble_eq_true rfl) rfl dX7_bestSmoothLevel_76 (fun H locs Y => ?_)
          refine lv_aload_n E.1.1 E.1.2.1 dX7_bestSmoothLevel_79 rfl (lv_at hl 0 rfl) ?_
          refine r_Vv (wr := []) (w2 := fun u => [(qm, .inr (9, [.int (k.1 0), .int (k.1 1), .ref ma, .int (k.1 2), .ref mb, .int (k.1 3), .ref me, .ref mr, .int (k.1 4), .int (k.1 5), .int (k.1 6), .int (k.1 7), .int (k.1 8), .int (k.1 9), .int (k.1 10), .ref mn, .ref ms, .int (y.1 0), .ref mk, .int (y.1 1)])), (mb, .inl (cI, 5, .inl k.2.1)), (ma, .inl (cI, 30, .inl k.2.2.1)), (me, .inl (cI, 12, .inl k.2.2.2.1)), (mr, .inl (cI, 12, .inl k.2.2.2.2)), (mn, .inl (cI, 52, .inl u)), (ms, .inl (cI, 52, .inl (f_X7_setsAside v a))), (mk, .inl (cI, 16, .inl y.2))]) E Y hA hl.1 (c_X7_takesBack qm mb ma me mr mn ms mk (upd (k.1) 10 (k.1 10), k.2.1, k.2.2.1, k.2.2.2.1, k.2.2.2.2) v1 (f_X7_setsAside v a) y) lk_X7_178 X0b (fun _ _ _ => trivial) [0, 1, 2, 3, 4, 5, 6, 7] [] [0, 1, 2, 3, 4, 5, 6, 7] rfl rfl (by decide) (fun _ => rfl) 0 rfl rfl ⟨Nat.le_of_ble_eq_true rfl, Nat.le_of_ble_eq_true rfl⟩ ⟨Nat.le_of_ble_eq_true rfl, Nat.le_of_ble_eq_true rfl⟩ rfl rfl (Nat.le_of_ble_eq_true rfl) dX7_bestSmoothLevel_80 (fun u H locs hp Y => ?_)
          subst hp
          refine lv_iload_n E.1.1 E.1.2.1 dX7_bestSmoothLevel_83 rfl (lv_at hl 2 rfl) ?_
          have e9 : (f_X7_bestSmoothLevel k v a) = (x, (upd (k.1) 10 (k.1 10), k.2.1, k.2.2.1, k.2.2.2.1, k.2.2.2.2), (f_X7_takesBack v1 (f_X7_setsAside v a)), (f_X7_setsAside v a)) := hF.trans ((if_pos c_29).trans (rfl))
          exact r_iret E Y hr hk x ((upd (k.1) 10 (k.1 10), k.2.1, k.2.2.1, k.2.2.2.1, k.2.2.2.2), (f_X7_takesBack v1 (f_X7_setsAside v a)), (f_X7_setsAside v a)) (pr_of e9) rfl ⟨Nat.le_of_ble_eq_true rfl, Nat.le_of_ble_eq_true rfl⟩ dX7_bestSmoothLevel_84
        · skip
          refine lv_aload_n E.1.1 E.1.2.1 dX7_bestSmoothLevel_32 rfl (lv_at hl 0 rfl) ?_
          refine lv_iload_n E.1.1 E.1.2.1 dX7_bestSmoothLevel_33 rfl (lv_at hl 3 rfl) ?_
          refine pf_X7_44 (w' := [(qm, .inr (9, [.int (k.1 0), .int (k.1 1), .ref ma, .int (k.1 2), .ref mb, .int (k.1 3), .ref me, .ref mr, .int (k.1 4), .int (k.1 5), .int (k.1 6), .int (k.1 7), .int (k.1 8), .int (k.1 9), .int (nI j), .ref mn, .ref ms, .int (y.1 0), .ref mk, .int (y.1 1)])), (mb, .inl (cI, 5, .inl k.2.1)), (ma, .inl (cI, 30, .inl k.2.2.1)), (me, .inl (cI, 12, .inl k.2.2.2.1)), (mr, .inl (cI, 12, .inl k.2.2.2.2)), (mn, .inl (cI, 52, .inl v1)), (ms, .inl (cI, 52, .inl (f_X7_setsAside v a))), (mk, .inl (cI, 16, .inl y.2))]) E Y 0 rfl (Nat.le_of_ble_eq_true rfl) rfl dX7_bestSmoothLevel_34 (fun H locs Y => ?_)
          refine lv_aload_n E.1.1 E.1.2.1 dX7_bestSmoothLevel_37 rfl (lv_at hl 0 rfl) ?_
          refine lv_iconst (v := 0) E.1.1 E.1.2.1 dX7_bestSmoothLevel_38 (by decide) ?_
          refine r_Vv (wr := []) (w2 := fun u => [(qm, .inr (9, [.int (k.1 0), .int (k.1 1), .ref ma, .int (k.1 2), .ref mb, .int (k.1 3), .ref me, .ref mr, .int (k.1 4), .int (k.1 5), .int (k.1 6), .int (k.1 7), .int (k.1 8), .int (k.1 9), .int (nI j), .ref mn, .ref ms, .int (y.1 0), .ref mk, .int (y.1 1)])), (mb, .inl (cI, 5, .inl k.2.1)), (ma, .inl (cI, 30, .inl k.2.2.1)), (me, .inl (cI, 12, .inl k.2.2.2.1)), (mr, .inl (cI, 12, .inl k.2.2.2.2)), (mn, .inl (cI, 52, .inl u)), (ms, .inl (cI, 52, .inl (f_X7_setsAside v a))), (mk, .inl (cI, 16, .inl y.2))]) E Y hA hl.1 (c_X7_simulates qm mb ma me mr mn ms mk (upd (k.1) 10 (nI j), k.2.1, k.2.2.1, k.2.2.2.1, k.2.2.2.2) v1 (f_X7_setsAside v a) y (0 : Int32) (kok_cap kO (bs_j kO hj c_29)) (show 1 ≤ (k.1 2).toInt from l1_of kO c_4)) lk_X7_175 X0b (fun _ _ _ => trivial) [0, 1, 2, 3, 4, 5, 6, 7] [] [0, 1, 2, 3, 4, 5, 6, 7] rfl rfl (by decide) (fun _ => rfl) 0 rfl rfl ⟨Nat.le_of_ble_eq_true rfl, Nat.le_of_ble_eq_true rfl⟩ ⟨Nat.le_of_ble_eq_true rfl, Nat.le_of_ble_eq_true rfl⟩ rfl rfl (Nat.le_of_ble_eq_true rfl) dX7_bestSmoothLevel_39 (fun u H locs hp Y => ?_)
          subst hp
          refine lv_aload_n E.1.1 E.1.2.1 dX7_bestSmoothLevel_42 rfl (lv_at hl 0 rfl) ?_
          refine gf_X7_47 E Y 0 rfl rfl dX7_bestSmoothLevel_43 ?_
          refine lv_iconst (v := 3) E.1.1 E.1.2.1 dX7_bestSmoothLevel_46 (by decide) ?_
          refine r_ial E Y 5 rfl (3) (by decide) (by unfold vp_in; decide) dX7_bestSmoothLevel_47 ?_
          refine lv_iconst (v := 3) E.1.1 E.1.2.1 dX7_bestSmoothLevel_48 (by decide) ?_
          refine lv_icmp_ne (tgt := 66) E.1.1 E.1.2.1 dX7_bestSmoothLevel_49 (by decide) (fun c_49 => ?_) (fun c_49 => ?_)
          · skip
            refine lv_iload_n E.1.1 E.1.2.1 dX7_bestSmoothLevel_66 rfl (lv_at hl 2 rfl) ?_
            refine lv_istore_n (lv' := [(2, .int x), (0, .ref qm), (1, .int (k.1 10)), (3, .int (nI j))]) E.1.1 E.1.2.1 dX7_bestSmoothLevel_67 rfl hl (by decide) rfl (fun ls hl => ?_)
            refine lv_iinc (v := (nI (j + 1))) (lv' := [(3, .int (nI (j + 1))), (2, .int x), (0, .ref qm), (1, .int (k.1 10))]) E.1.1 E.1.2.1 dX7_bestSmoothLevel_68 hl (k := 3) rfl (nI_1 j) (by decide) rfl (fun ls hl => ?_)
            refine lv_goto (tgt := 24) E.1.1 E.1.2.1 dX7_bestSmoothLevel_71 (by decide) ?_
            exact ih (nI j) (f_X7_simulates (upd (k.1) 10 (nI j), k.2.1, k.2.2.1, k.2.2.2.1, k.2.2.2.2) v1 (0 : Int32)) x (j + 1) (by have := bs_j kO hj c_29; omega) (by omega) (hF.trans ((if_neg c_29).trans ((if_neg c_49).trans (rfl)))) H locs ls Y (lv_sub hl [2, 3, 1, 0] rfl)
          · skip
            refine lv_aload_n E.1.1 E.1.2.1 dX7_bestSmoothLevel_52 rfl (lv_at hl 0 rfl) ?_
            refine gf_X7_47 E Y 0 rfl rfl dX7_bestSmoothLevel_53 ?_
            refine lv_bipush (v := 17) E.1.1 E.1.2.1 dX7_bestSmoothLevel_56 (by decide) ?_
            refine r_ial E Y 5 rfl (17) (by decide) (by unfold vp_in; decide) dX7_bestSmoothLevel_58 ?_
            refine lv_if_ne (tgt := 66) E.1.1 E.1.2.1 dX7_bestSmoothLevel_59 (by decide) (fun c_59 => ?_) (fun c_59 => ?_)
            · skip
              refine lv_iload_n E.1.1 E.1.2.1 dX7_bestSmoothLevel_66 rfl (lv_at hl 2 rfl) ?_
              refine lv_istore_n (lv' := [(2, .int x), (0, .ref qm), (1, .int (k.1 10)), (3, .int (nI j))]) E.1.1 E.1.2.1 dX7_bestSmoothLevel_67 rfl hl (by decide) rfl (fun ls hl => ?_)
              refine lv_iinc (v := (nI (j + 1))) (lv' := [(3, .int (nI (j + 1))), (2, .int x), (0, .ref qm), (1, .int (k.1 10))]) E.1.1 E.1.2.1 dX7_bestSmoothLevel_68 hl (k := 3) rfl (nI_1 j) (by decide) rfl (fun ls hl => ?_)
              refine lv_goto (tgt := 24) E.1.1 E.1.2.1 dX7_bestSmoothLevel_71 (by decide) ?_
              exact ih (nI j) (f_X7_simulates (upd (k.1) 10 (nI j), k.2.1, k.2.2.1, k.2.2.2.1, k.2.2.2.2) v1 (0 : Int32)) x (j + 1) (by have := bs_j kO hj c_29; omega) (by omega) (hF.trans ((if_neg c_29).trans ((if_pos c_49).trans ((if_neg c_59).trans (rfl))))) H locs ls Y (lv_sub hl [2, 3, 1, 0] rfl)
            · skip
              refine lv_iload_n E.1.1 E.1.2.1 dX7_bestSmoothLevel_62 rfl (lv_at hl 3 rfl) ?_
              refine lv_goto (tgt := 67) E.1.1 E.1.2.1 dX7_bestSmoothLevel_63 (by decide) ?_
              refine lv_istore_n (lv' := [(2, .int (nI j)), (0, .ref qm), (1, .int (k.1 10)), (3, .int (nI j))]) E.1.1 E.1.2.1 dX7_bestSmoothLevel_67 rfl hl (by decide) rfl (fun ls hl => ?_)
              refine lv_iinc (v := (nI (j + 1))) (lv' := [(3, .int (nI (j + 1))), (2, .int (nI j)), (0, .ref qm), (1, .int (k.1 10))]) E.1.1 E.1.2.1 dX7_bestSmoothLevel_68 hl (k := 3) rfl (nI_1 j) (by decide) rfl (fun ls hl => ?_)
              refine lv_goto (tgt := 24) E.1.1 E.1.2.1 dX7_bestSmoothLevel_71 (by decide) ?_
              exact ih (nI j) (f_X7_simulates (upd (k.1) 10 (nI j), k.2.1, k.2.2.1, k.2.2.2.1, k.2.2.2.2) v1 (0 : Int32)) (nI j) (j + 1) (by have := bs_j kO hj c_29; omega) (by omega) (hF.trans ((if_neg c_29).trans ((if_pos c_49).trans ((if_pos c_59).trans (rfl))))) H locs ls Y (lv_sub hl [2, 3, 1, 0] rfl)
    exact hL 6 (k.1 10) v (-6 : Int32) (0) (by decide) (by decide) ((if_neg c_4).trans (rfl)) _ _ _ Y (lv_sub hl [3, 2, 1, 0] rfl)
  · skip
    refine lv_bipush (v := (-4)) E.1.1 E.1.2.1 dX7_bestSmoothLevel_7 (by decide) ?_
    have e9 : (f_X7_bestSmoothLevel k v a) = ((-4 : Int32), k, v, a) := (if_pos c_4).trans (rfl)
    exact r_iret E Y hr hk (-4 : Int32) (k, v, a) (pr_of e9) rfl ⟨Nat.le_of_ble_eq_true rfl, Nat.le_of_ble_eq_true rfl⟩ dX7_bestSmoothLevel_9
