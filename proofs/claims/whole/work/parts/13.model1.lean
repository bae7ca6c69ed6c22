def f_X7_within (p0 : Int32) (p1 : Int32) (p2 : Int32) : Int32 := if p0 < p1 then (0 : Int32) else (if p2 < p0 then (0 : Int32) else (1 : Int32))
set_option maxRecDepth 100000 in
set_option maxHeartbeats 4000000 in
theorem c_X7_within {l : Launch} {D : va_G} {cI cB : ClassId}  (p0 : Int32) (p1 : Int32) (p2 : Int32) : CI l X0 D cI cB yX7_within cX7_within 3 (some .boolean) 0 0 0 0 [.int p0, .int p1, .int p2] [] (fun (r : Int32) (_ : Unit) => r = (f_X7_within p0 p1 p2)) (fun _ => []) := by
  refine CI.of (by decide) (Nat.le_of_ble_eq_true rfl) ?_
  intro p e s m below meth c A ls E hr hk hin hA hAA hX Y hl
  have E : EE p c cX7_within 3 s _ m RX7 D cI cB := E
  have hl : lv_has ls 3 [(0, .int p0), (1, .int p1), (2, .int p2)] := hl
  refine lv_iload_n E.1.1 E.1.2.1 dX7_within_0 rfl (lv_at hl 0 rfl) ?_
  refine lv_iload_n E.1.1 E.1.2.1 dX7_within_1 rfl (lv_at hl 1 rfl) ?_
  refine lv_icmp_lt (tgt := 14) E.1.1 E.1.2.1 dX7_within_2 (by decide) (fun c_2 => ?_) (fun c_2 => ?_)
  · skip
    refine lv_iconst (v := 0) E.1.1 E.1.2.1 dX7_within_14 (by decide) ?_
    have e9 : (f_X7_within p0 p1 p2) = (0 : Int32) := (if_pos c_2).trans (rfl)
    exact r_zret E Y hr hk (0 : Int32) rfl () (e9.symm) rfl ⟨Nat.le_of_ble_eq_true rfl, Nat.le_of_ble_eq_true rfl⟩ dX7_within_15
  · skip
    refine lv_iload_n E.1.1 E.1.2.1 dX7_within_5 rfl (lv_at hl 0 rfl) ?_
    refine lv_iload_n E.1.1 E.1.2.1 dX7_within_6 rfl (lv_at hl 2 rfl) ?_
    refine lv_icmp_gt (tgt := 14) E.1.1 E.1.2.1 dX7_within_7 (by decide) (fun c_7 => ?_) (fun c_7 => ?_)
    · skip
      refine lv_iconst (v := 0) E.1.1 E.1.2.1 dX7_within_14 (by decide) ?_
      have e9 : (f_X7_within p0 p1 p2) = (0 : Int32) := (if_neg c_2).trans ((if_pos c_7).trans (rfl))
      exact r_zret E Y hr hk (0 : Int32) rfl () (e9.symm) rfl ⟨Nat.le_of_ble_eq_true rfl, Nat.le_of_ble_eq_true rfl⟩ dX7_within_15
    · skip
      refine lv_iconst (v := 1) E.1.1 E.1.2.1 dX7_within_10 (by decide) ?_
      refine lv_goto (tgt := 15) E.1.1 E.1.2.1 dX7_within_11 (by decide) ?_
      have e9 : (f_X7_within p0 p1 p2) = (1 : Int32) := (if_neg c_2).trans ((if_neg c_7).trans (rfl))
      exact r_zret E Y hr hk (1 : Int32) rfl () (e9.symm) rfl ⟨Nat.le_of_ble_eq_true rfl, Nat.le_of_ble_eq_true rfl⟩ dX7_within_15

theorem within_y {x a b : Int32} (h : ¬ f_X7_within x a b = 0) : a.toInt ≤ x.toInt ∧ x.toInt ≤ b.toInt := by
  unfold f_X7_within at h
  split at h
  · exact absurd rfl h
  · next h1 =>
    split at h
    · exact absurd rfl h
    · next h2 =>
      rw [fa_lt] at h1 h2
      omega
theorem within_n {x a b : Int32} (h : f_X7_within x a b = 0) : x.toInt < a.toInt ∨ b.toInt < x.toInt := by
  unfold f_X7_within at h
  split at h
  · next h1 => exact Or.inl ((fa_lt _ _).mp h1)
  · next h1 =>
    split at h
    · next h2 => exact Or.inr ((fa_lt _ _).mp h2)
    · exact absurd h (by decide)
theorem in_with {x c : Int32} {n : Nat} (hn : n < 2 ^ 31) (hc : btw c 1 n) (h : ¬ f_X7_within x 0 (c - 1) = 0) : vp_in x n := by
  obtain ⟨h1, h2⟩ := within_y h
  have h3 := hc.1
  have h4 := hc.2
  rw [i32_0] at h1
  rw [fb_subI (by rw [i32_1]; omega) (by rw [i32_1]; omega), i32_1] at h2
  rw [vp_in_iff]
  omega
theorem in_with0 {x c : Int32} {n : Nat} (hn : n < 2 ^ 31) (hc : btw c 0 n) (h : ¬ f_X7_within x 0 (c - 1) = 0) : vp_in x n := by
  obtain ⟨h1, h2⟩ := within_y h
  have h3 := hc.1
  have h4 := hc.2
  rw [i32_0] at h1
  rw [fb_subI (by rw [i32_1]; omega) (by rw [i32_1]; omega), i32_1] at h2
  rw [vp_in_iff]
  omega

theorem ra_12 {k : Cf} (hk : KOK k) {j : Nat} (hj : (j : Int) < (k.1 3).toInt) : j < 12 := by
  have h := hk.2.2.2.1.2
  omega
theorem ra_lt {k : Cf} (hk : KOK k) {j : Nat} (hj : (j : Int) < (k.1 3).toInt) : j < 2 ^ 31 := by
  have h := hk.2.2.2.1.2
  omega
theorem ra_n0 {k : Cf} (hk : KOK k) {j : Nat} (hj : (j : Int) < (k.1 3).toInt) : ¬ 12 < j + 0 := by
  have h := hk.2.2.2.1.2
  omega
theorem ra_pos {k : Cf} (hk : KOK k) (h : ¬ k.1 3 = 0) : ((0 : Nat) : Int) < (k.1 3).toInt := by
  have h1 := hk.2.2.2.1.1
  rw [fa_eq, i32_0] at h
  omega
theorem ra_next {k : Cf} (hk : KOK k) {j : Nat} (h : ¬ (k.1 3) - (1 : Int32) ≤ nI j) (hj : (j : Int) < (k.1 3).toInt) : ((j + 1 : Nat) : Int) < (k.1 3).toInt := by
  have h1 := hk.2.2.2.1.1
  have h2 := hk.2.2.2.1.2
  rw [fa_le, nI_toInt (by omega), fb_subI (by rw [i32_1]; omega) (by rw [i32_1]; omega), i32_1] at h
  omega

theorem many_ne {x : Int32} (h : ¬ x = 0) : ¬ (if 3 ≤ x then (3 : Int32) else x) = 0 := by
  split
  · decide
  · exact h

theorem es_h {x : Int32} (h : ¬ 3 ≤ x) : ¬ 3 < x := fun z => h ((fa_of_lt z).1)
theorem es_lt {x : Int32} {j : Nat} (h3 : ¬ 3 < x) (h : ¬ x ≤ nI j) (hj : j ≤ 3) : j + 1 ≤ 3 := by
  rw [fa_lt, show (3 : Int32).toInt = 3 by decide] at h3
  rw [fa_le, nI_toInt (by omega)] at h
  omega

def f_X7_begins_l32  : Nat → Fn → Nat → Fn
  | 0, v1, j => v1
  | n + 1, v1, j => if (30 : Int32) ≤ (nI j) then v1 else f_X7_begins_l32 n (upd v1 (22 + j) (-6 : Int32)) (j + 1)
def f_X7_begins_l2  : Nat → Fn → Nat → Fn
  | 0, v1, j => v1
  | n + 1, v1, j => if (52 : Int32) ≤ (nI j) then f_X7_begins_l32 31 (upd v1 (15) (-6 : Int32)) (0) else f_X7_begins_l2 n (upd v1 j (0 : Int32)) (j + 1)
def f_X7_begins (v : Fn) : Fn := f_X7_begins_l2 53 v (0)
set_option maxRecDepth 100000 in
set_option maxHeartbeats 4000000 in
theorem c_X7_begins {l : Launch} {D : va_G} {cI cB : ClassId} (qm mb ma me mr mn ms mk : Nat) (k : Cf) (v : Fn) (a : Fn) (y : Ky) : CV l X0 D cI cB yX7_begins cX7_begins 2 0 0 0 0 [.ref qm] (wM cI qm mb ma me mr mn ms mk k v a y) (fun (u : Fn) => u = (f_X7_begins v)) (fun u => (wM cI qm mb ma me mr mn ms mk k u a y)) := by
  refine CV.of (by decide) (Nat.le_of_ble_eq_true rfl) ?_
  intro p e s m below meth c A ls E hr hk hin hA hAA hX Y hl
  have E : EE p c cX7_begins 2 s _ m RX7 D cI cB := E
  have hl : lv_has ls 2 [(0, .ref qm)] := hl
  refine lv_iconst (v := 0) E.1.1 E.1.2.1 dX7_begins_0 (by decide) ?_
  refine lv_istore_n (lv' := [(1, .int (0 : Int32)), (0, .ref qm)]) E.1.1 E.1.2.1 dX7_begins_1 rfl hl (by decide) rfl (fun ls hl => ?_)
  have hL : ∀ (n : Nat) (v1 : Fn) (j : Nat), (hj : j ≤ 52) → (hn : 52 < j + n) → (f_X7_begins v) = f_X7_begins_l2 n v1 j → ∀ (H : Heap) (locs : List Loc) (ls : Array Slot), WD D A s.heap H locs [(qm, .inr (9, [.int (k.1 0), .int (k.1 1), .ref ma, .int (k.1 2), .ref mb, .int (k.1 3), .ref me, .ref mr, .int (k.1 4), .int (k.1 5), .int (k.1 6), .int (k.1 7), .int (k.1 8), .int (k.1 9), .int (k.1 10), .ref mn, .ref ms, .int (y.1 0), .ref mk, .int (y.1 1)])), (mb, .inl (cI, 5, .inl k.2.1)), (ma, .inl (cI, 30, .inl k.2.2.1)), (me, .inl (cI, 12, .inl k.2.2.2.1)), (mr, .inl (cI, 12, .inl k.2.2.2.2)), (mn, .inl (cI, 52, .inl v1)), (ms, .inl (cI, 52, .inl a)), (mk, .inl (cI, 16, .inl y.2))] → lv_has ls 2 [(0, .ref qm), (1, .int (nI j))] → W p l e { frames := 0, cells := 0, slots := 0, locals := 0 } s m ([.ref qm] : List Value).toArray below meth c H locs 0 0 (MQ below (va_Qv (fun (u : Fn) => u = (f_X7_begins v)) (AT D cI cB A (fun u => (wM cI qm mb ma me mr mn ms mk k u a y))) A) ([.ref qm] : List Value).toArray s 0 0 A) (F0 m 2 ls []) := by
    intro n
    induction n with
    | zero => intro v1 j hj hn; exact absurd hn (by omega)
    | succ n ih =>
      intro v1 j hj hn hF H locs ls Y hl
      refine lv_iload_n E.1.1 E.1.2.1 dX7_begins_2 rfl (lv_at hl 1 rfl) ?_
      refine lv_bipush (v := 52) E.1.1 E.1.2.1 dX7_begins_3 (by decide) ?_
      refine lv_icmp_ge (tgt := 21) E.1.1 E.1.2.1 dX7_begins_5 (by decide) (fun c_5 => ?_) (fun c_5 => ?_)
      · skip
        refine lv_aload_n E.1.1 E.1.2.1 dX7_begins_21 rfl (lv_at hl 0 rfl) ?_
        refine gf_X7_47 E Y 0 rfl rfl dX7_begins_22 ?_
        refine lv_bipush (v := 15) E.1.1 E.1.2.1 dX7_begins_25 (by decide) ?_
        refine lv_bipush (v := (-6)) E.1.1 E.1.2.1 dX7_begins_27 (by decide) ?_
        refine r_ias (w' := [(qm, .inr (9, [.int (k.1 0), .int (k.1 1), .ref ma, .int (k.1 2), .ref mb, .int (k.1 3), .ref me, .ref mr, .int (k.1 4), .int (k.1 5), .int (k.1 6), .int (k.1 7), .int (k.1 8), .int (k.1 9), .int (k.1 10), .ref mn, .ref ms, .int (y.1 0), .ref mk, .int (y.1 1)])), (mb, .inl (cI, 5, .inl k.2.1)), (ma, .inl (cI, 30, .inl k.2.2.1)), (me, .inl (cI, 12, .inl k.2.2.2.1)), (mr, .inl (cI, 12, .inl k.2.2.2.2)), (mn, .inl (cI, 52, .inl (upd v1 (15) (-6 : Int32)))), (ms, .inl (cI, 52, .inl a)), (mk, .inl (cI, 16, .inl y.2))]) E Y 5 rfl (15) (by decide) (by unfold vp_in; decide) rfl dX7_begins_29 (fun H locs Y => ?_)
        refine lv_iconst (v := 0) E.1.1 E.1.2.1 dX7_begins_30 (by decide) ?_
        refine lv_istore_n (lv' := [(1, .int (0 : Int32)), (0, .ref qm)]) E.1.1 E.1.2.1 dX7_begins_31 rfl hl (by decide) rfl (fun ls hl => ?_)
        have hL : ∀ (n : Nat) (v1 : Fn) (j : Nat), (hj : j ≤ 30) → (hn : 30 < j + n) → (f_X7_begins v) = f_X7_begins_l32 n v1 j → ∀ (H : Heap) (locs : List Loc) (ls : Array Slot), WD D A s.heap H locs [(qm, .inr (9, [.int (k.1 0), .int (k.1 1), .ref ma, .int (k.1 2), .ref mb, .int (k.1 3), .ref me, .ref mr, .int (k.1 4), .int (k.1 5), .int (k.1 6), .int (k.1 7), .int (k.1 8), .int (k.1 9), .int (k.1 10), .ref mn, .ref ms, .int (y.1 0), .ref mk, .int (y.1 1)])), (mb, .inl (cI, 5, .inl k.2.1)), (ma, .inl (cI, 30, .inl k.2.2.1)), (me, .inl (cI, 12, .inl k.2.2.2.1)), (mr, .inl (cI, 12, .inl k.2.2.2.2)), (mn, .inl (cI, 52, .inl v1)), (ms, .inl (cI, 52, .inl a)), (mk, .inl (cI, 16, .inl y.2))] → lv_has ls 2 [(0, .ref qm), (1, .int (nI j))] → W p l e { frames := 0, cells := 0, slots := 0, locals := 0 } s m ([.ref qm] : List Value).toArray below meth c H locs 0 0 (MQ below (va_Qv (fun (u : Fn) => u = (f_X7_begins v)) (AT D cI cB A (fun u => (wM cI qm mb ma me mr mn ms mk k u a y))) A) ([.ref qm] : List Value).toArray s 0 0 A) (F0 m 32 ls []) := by
          intro n
          induction n with
          | zero => intro v1 j hj hn; exact absurd hn (by omega)
          | succ n ih =>
            intro v1 j hj hn hF H locs ls Y hl
            refine lv_iload_n E.1.1 E.1.2.1 dX7_begins_32 rfl (lv_at hl 1 rfl) ?_
            refine lv_bipush (v := 30) E.1.1 E.1.2.1 dX7_begins_33 (by decide) ?_
            refine lv_icmp_ge (tgt := 55) E.1.1 E.1.2.1 dX7_begins_35 (by decide) (fun c_35 => ?_) (fun c_35 => ?_)
            · skip
              have e9 : (f_X7_begins v) = v1 := hF.trans ((if_pos c_35).trans (rfl))
              exact r_vret E Y hr hk v1 (e9.symm) rfl ⟨Nat.le_of_ble_eq_true rfl, Nat.le_of_ble_eq_true rfl⟩ dX7_begins_55
            · skip
              refine lv_aload_n E.1.1 E.1.2.1 dX7_begins_38 rfl (lv_at hl 0 rfl) ?_
              refine gf_X7_47 E Y 0 rfl rfl dX7_begins_39 ?_
              refine lv_bipush (v := 22) E.1.1 E.1.2.1 dX7_begins_42 (by decide) ?_
              refine lv_iload_n E.1.1 E.1.2.1 dX7_begins_44 rfl (lv_at hl 1 rfl) ?_
              refine lv_iadd E.1.1 E.1.2.1 dX7_begins_45 ?_
              refine lv_bipush (v := (-6)) E.1.1 E.1.2.1 dX7_begins_46 (by decide) ?_
              refine r_ias (w' := [(qm, .inr (9, [.int (k.1 0), .int (k.1 1), .ref ma, .int (k.1 2), .ref mb, .int (k.1 3), .ref me, .ref mr, .int (k.1 4), .int (k.1 5), .int (k.1 6), .int (k.1 7), .int (k.1 8), .int (k.1 9), .int (k.1 10), .ref mn, .ref ms, .int (y.1 0), .ref mk, .int (y.1 1)])), (mb, .inl (cI, 5, .inl k.2.1)), (ma, .inl (cI, 30, .inl k.2.2.1)), (me, .inl (cI, 12, .inl k.2.2.2.1)), (mr, .inl (cI, 12, .inl k.2.2.2.2)), (mn, .inl (cI, 52, .inl (upd v1 (22 + j) (-6 : Int32)))), (ms, .inl (cI, 52, .inl a)), (mk, .inl (cI, 16, .inl y.2))]) E Y 5 rfl (22 + j) (off_cl (o := 22) (by omega)) (off_in (o := 22) (by have := nI_nge (a := 30) (b := j) c_35 (by omega); omega) (by decide)) rfl dX7_begins_48 (fun H locs Y => ?_)
              refine lv_iinc (v := (nI (j + 1))) (lv' := [(1, .int (nI (j + 1))), (0, .ref qm)]) E.1.1 E.1.2.1 dX7_begins_49 hl (k := 1) rfl (nI_1 j) (by decide) rfl (fun ls hl => ?_)
              refine lv_goto (tgt := 32) E.1.1 E.1.2.1 dX7_begins_52 (by decide) ?_
              exact ih (upd v1 (22 + j) (-6 : Int32)) (j + 1) (by have := nI_nge (a := 30) (b := j) c_35 (by omega); omega) (by omega) (hF.trans ((if_neg c_35).trans (rfl))) H locs ls Y (lv_sub hl [1, 0] rfl)
        exact hL 31 (upd v1 (15) (-6 : Int32)) (0) (by decide) (by decide) (hF.trans ((if_pos c_5).trans (rfl))) _ _ _ Y (lv_sub hl [1, 0] rfl)
      · skip
        refine lv_aload_n E.1.1 E.1.2.1 dX7_begins_8 rfl (lv_at hl 0 rfl) ?_
        refine gf_X7_47 E Y 0 rfl rfl dX7_begins_9 ?_
        refine lv_iload_n E.1.1 E.1.2.1 dX7_begins_12 rfl (lv_at hl 1 rfl) ?_
        refine lv_iconst (v := 0) E.1.1 E.1.2.1 dX7_begins_13 (by decide) ?_
        refine r_ias (w' := [(qm, .inr (9, [.int (k.1 0), .int (k.1 1), .ref ma, .int (k.1 2), .ref mb, .int (k.1 3), .ref me, .ref mr, .int (k.1 4), .int (k.1 5), .int (k.1 6), .int (k.1 7), .int (k.1 8), .int (k.1 9), .int (k.1 10), .ref mn, .ref ms, .int (y.1 0), .ref mk, .int (y.1 1)])), (mb, .inl (cI, 5, .inl k.2.1)), (ma, .inl (cI, 30, .inl k.2.2.1)), (me, .inl (cI, 12, .inl k.2.2.2.1)), (mr, .inl (cI, 12, .inl k.2.2.2.2)), (mn, .inl (cI, 52, .inl (upd v1 j (0 : Int32)))), (ms, .inl (cI, 52, .inl a)), (mk, .inl (cI, 16, .inl y.2))]) E Y 5 rfl j (nI_clamp (by omega)) (vp_in_nI (nI_nge (a := 52) c_5 (by omega)) (by decide)) rfl dX7_begins_14 (fun H locs Y => ?_)
        refine lv_iinc (v := (nI (j + 1))) (lv' := [(1, .int (nI (j + 1))), (0, .ref qm)]) E.1.1 E.1.2.1 dX7_begins_15 hl (k := 1) rfl (nI_1 j) (by decide) rfl (fun ls hl => ?_)
        refine lv_goto (tgt := 2) E.1.1 E.1.2.1 dX7_begins_18 (by decide) ?_
        exact ih (upd v1 j (0 : Int32)) (j + 1) (by have := nI_nge (a := 52) (b := j) c_5 (by omega); omega) (by omega) (hF.trans ((if_neg c_5).trans (rfl))) H locs ls Y (lv_sub hl [1, 0] rfl)
  exact hL 53 v (0) (by decide) (by decide) (rfl) _ _ _ Y (lv_sub hl [1, 0] rfl)

def f_X7_setVideo_l41 (v : Fn) : Nat → Cf → Nat → Int32 × Cf × Fn
  | 0, k1, j => (0, k1, v)
  | n + 1, k1, j => if (30 : Int32) ≤ (nI j) then (((k1.1 0) * (k1.1 1)), k1, (f_X7_begins v)) else f_X7_setVideo_l41 v n (k1.1, k1.2.1, (upd k1.2.2.1 j (100 : Int32)), k1.2.2.2.1, k1.2.2.2.2) (j + 1)
def f_X7_setVideo (k : Cf) (v : Fn) (p0 : Int32) (p1 : Int32) : Int32 × Cf × Fn := if (f_X7_within p0 (1 : Int32) (30 : Int32)) = 0 then ((-1 : Int32), k, v) else (if (f_X7_within p1 (100 : Int32) (5000 : Int32)) = 0 then ((-1 : Int32), k, v) else f_X7_setVideo_l41 v 31 (upd (upd (upd (k.1) 0 p0) 1 p1) 2 (0 : Int32), k.2.1, k.2.2.1, k.2.2.2.1, k.2.2.2.2) (0))
set_option maxRecDepth 100000 in
set_option maxHeartbeats 4000000 in
theorem c_X7_setVideo {l : Launch} {D : va_G} {cI cB : ClassId} (qm mb ma me mr mn ms mk : Nat) (k : Cf) (v : Fn) (a : Fn) (y : Ky) (p0 : Int32) (p1 : Int32) : CI l X0 D cI cB yX7_setVideo cX7_setVideo 4 (some .int) 1 22 0 0 [.ref qm, .int p0, .int p1] (wM cI qm mb ma me mr mn ms mk k v a y) (fun (r : Int32) (u : Cf × Fn) => r = (f_X7_setVideo k v p0 p1).1 ∧ u = (f_X7_setVideo k v p0 p1).2) (fun u => (wM cI qm mb ma me mr mn ms mk (u.1) (u.2) a y)) := by
  refine CI.of (by decide) (Nat.le_of_ble_eq_true rfl) ?_
  intro p e s m below meth c A ls E hr hk hin hA hAA hX Y hl
  have E : EE p c cX7_setVideo 4 s _ m RX7 D cI cB := E
  have hl : lv_has ls 4 [(0, .ref qm), (1, .int p0), (2, .int p1)] := hl
  refine lv_iload_n E.1.1 E.1.2.1 dX7_setVideo_0 rfl (lv_at hl 1 rfl) ?_
  refine lv_iconst (v := 1) E.1.1 E.1.2.1 dX7_setVideo_1 (by decide) ?_
  refine lv_bipush (v := 30) E.1.1 E.1.2.1 dX7_setVideo_2 (by decide) ?_
  refine r_Si (wr := [(qm, .inr (9, [.int (k.1 0), .int (k.1 1), .ref ma, .int (k.1 2), .ref mb, .int (k.1 3), .ref me, .ref mr, .int (k.1 4), .int (k.1 5), .int (k.1 6), .int (k.1 7), .int (k.1 8), .int (k.1 9), .int (k.1 10), .ref mn, .ref ms, .int (y.1 0), .ref mk, .int (y.1 1)])), (mb, .inl (cI, 5, .inl k.2.1)), (ma, .inl (cI, 30, .inl k.2.2.1)), (me, .inl (cI, 12, .inl k.2.2.2.1)), (mr, .inl (cI, 12, .inl k.2.2.2.2)), (mn, .inl (cI, 52, .inl v)), (ms, .inl (cI, 52, .inl a)), (mk, .inl (cI, 16, .inl y.2))]) (w2 := fun _ => [(qm, .inr (9, [.int (k.1 0), .int (k.1 1), .ref ma, .int (k.1 2), .ref mb, .int (k.1 3), .ref me, .ref mr, .int (k.1 4), .int (k.1 5), .int (k.1 6), .int (k.1 7), .int (k.1 8), .int (k.1 9), .int (k.1 10), .ref mn, .ref ms, .int (y.1 0), .ref mk, .int (y.1 1)])), (mb, .inl (cI, 5, .inl k.2.1)), (ma, .inl (cI, 30, .inl k.2.2.1)), (me, .inl (cI, 12, .inl k.2.2.2.1)), (mr, .inl (cI, 12, .inl k.2.2.2.2)), (mn, .inl (cI, 52, .inl v)), (ms, .inl (cI, 52, .inl a)), (mk, .inl (cI, 16, .inl y.2))]) E Y hA hl.1 (c_X7_within p0 (1 : Int32) (30 : Int32)) lk_X7_59 X0b (fun _ _ _ => trivial) [] [0, 1, 2, 3, 4, 5, 6, 7] [0, 1, 2, 3, 4, 5, 6, 7] rfl rfl (by decide) (fun _ => rfl) ⟨Nat.le_of_ble_eq_true rfl, Nat.le_of_ble_eq_true rfl⟩ ⟨Nat.le_of_ble_eq_true rfl, Nat.le_of_ble_eq_true rfl⟩ rfl rfl (Nat.le_of_ble_eq_true rfl) dX7_setVideo_4 (fun r u H locs hp Y => ?_)
  subst hp
  refine lv_if_eq (tgt := 22) E.1.1 E.1.2.1 dX7_setVideo_7 (by decide) (fun c_7 => ?_) (fun c_7 => ?_)
  · skip
    refine lv_iconst (v := (-1)) E.1.1 E.1.2.1 dX7_setVideo_22 (by decide) ?_
    have e9 : (f_X7_setVideo k v p0 p1) = ((-1 : Int32), k, v) := (if_pos c_7).trans (rfl)
    exact r_iret E Y hr hk (-1 : Int32) (k, v) (pr_of e9) rfl ⟨Nat.le_of_ble_eq_true rfl, Nat.le_of_ble_eq_true rfl⟩ dX7_setVideo_23
  · skip
    refine lv_iload_n E.1.1 E.1.2.1 dX7_setVideo_10 rfl (lv_at hl 2 rfl) ?_
    refine lv_bipush (v := 100) E.1.1 E.1.2.1 dX7_setVideo_11 (by decide) ?_
    refine lv_sipush (v := 5000) E.1.1 E.1.2.1 dX7_setVideo_13 (by decide) ?_
    refine r_Si (wr := [(qm, .inr (9, [.int (k.1 0), .int (k.1 1), .ref ma, .int (k.1 2), .ref mb, .int (k.1 3), .ref me, .ref mr, .int (k.1 4), .int (k.1 5), .int (k.1 6), .int (k.1 7), .int (k.1 8), .int (k.1 9), .int (k.1 10), .ref mn, .ref ms, .int (y.1 0), .ref mk, .int (y.1 1)])), (mb, .inl (cI, 5, .inl k.2.1)), (ma, .inl (cI, 30, .inl k.2.2.1)), (me, .inl (cI, 12, .inl k.2.2.2.1)), (mr, .inl (cI, 12, .inl k.2.2.2.2)), (mn, .inl (cI, 52, .inl v)), (ms, .inl (cI, 52, .inl a)), (mk, .inl (cI, 16, .inl y.2))]) (w2 := fun _ => [(qm, .inr (9, [.int (k.1 0), .int (k.1 1), .ref ma, .int (k.1 2), .ref mb, .int (k.1 3), .ref me, .ref mr, .int (k.1 4), .int (k.1 5), .int (k.1 6), .int (k.1 7), .int (k.1 8), .int (k.1 9), .int (k.1 10), .ref mn, .ref ms, .int (y.1 0), .ref mk, .int (y.1 1)])), (mb, .inl (cI, 5, .inl k.2.1)), (ma, .inl (cI, 30, .inl k.2.2.1)), (me, .inl (cI, 12, .inl k.2.2.2.1)), (mr, .inl (cI, 12, .inl k.2.2.2.2)), (mn, .inl (cI, 52, .inl v)), (ms, .inl (cI, 52, .inl a)), (mk, .inl (cI, 16, .inl y.2))]) E Y hA hl.1 (c_X7_within p1 (100 : Int32) (5000 : Int32)) lk_X7_59 X0b (fun _ _ _ => trivial) [] [0, 1, 2, 3, 4, 5, 6, 7] [0, 1, 2, 3, 4, 5, 6, 7] rfl rfl (by decide) (fun _ => rfl) ⟨Nat.le_of_ble_eq_true rfl, Nat.le_of_ble_eq_true rfl⟩ ⟨Nat.le_of_ble_eq_true rfl, Nat.le_of_ble_eq_true rfl⟩ rfl rfl (Nat.le_of_ble_eq_true rfl) dX7_setVideo_16 (fun r u H locs hp Y => ?_)
    subst hp
    refine lv_if_ne (tgt := 24) E.1.1 E.1.2.1 dX7_setVideo_19 (by decide) (fun c_19 => ?_) (fun c_19 => ?_)
    · skip
      refine lv_aload_n E.1.1 E.1.2.1 dX7_setVideo_24 rfl (lv_at hl 0 rfl) ?_
      refine lv_iload_n E.1.1 E.1.2.1 dX7_setVideo_25 rfl (lv_at hl 1 rfl) ?_
      refine pf_X7_7 (w' := [(qm, .inr (9, [.int p0, .int (k.1 1), .ref ma, .int (k.1 2), .ref mb, .int (k.1 3), .ref me, .ref mr, .int (k.1 4), .int (k.1 5), .int (k.1 6), .int (k.1 7), .int (k.1 8), .int (k.1 9), .int (k.1 10), .ref mn, .ref ms, .int (y.1 0), .ref mk, .int (y.1 1)])), (mb, .inl (cI, 5, .inl k.2.1)), (ma, .inl (cI, 30, .inl k.2.2.1)), (me, .inl (cI, 12, .inl k.2.2.2.1)), (mr, .inl (cI, 12, .inl k.2.2.2.2)), (mn, .inl (cI, 52, .inl v)), (ms, .inl (cI, 52, .inl a)), (mk, .inl (cI, 16, .inl y.2))]) E Y 0 rfl (Nat.le_of_ble_eq_true rfl) rfl dX7_setVideo_26 (fun H locs Y => ?_)
      refine lv_aload_n E.1.1 E.1.2.1 dX7_setVideo_29 rfl (lv_at hl 0 rfl) ?_
      refine lv_iload_n E.1.1 E.1.2.1 dX7_setVideo_30 rfl (lv_at hl 2 rfl) ?_
      refine pf_X7_13 (w' := [(qm, .inr (9, [.int p0, .int p1, .ref ma, .int (k.1 2), .ref mb, .int (k.1 3), .ref me, .ref mr, .int (k.1 4), .int (k.1 5), .int (k.1 6), .int (k.1 7), .int (k.1 8), .int (k.1 9), .int (k.1 10), .ref mn, .ref ms, .int (y.1 0), .ref mk, .int (y.1 1)])), (mb, .inl (cI, 5, .inl k.2.1)), (ma, .inl (cI, 30, .inl k.2.2.1)), (me, .inl (cI, 12, .inl k.2.2.2.1)), (mr, .inl (cI, 12, .inl k.2.2.2.2)), (mn, .inl (cI, 52, .inl v)), (ms, .inl (cI, 52, .inl a)), (mk, .inl (cI, 16, .inl y.2))]) E Y 0 rfl (Nat.le_of_ble_eq_true rfl) rfl dX7_setVideo_31 (fun H locs Y => ?_)
      refine lv_aload_n E.1.1 E.1.2.1 dX7_setVideo_34 rfl (lv_at hl 0 rfl) ?_
      refine lv_iconst (v := 0) E.1.1 E.1.2.1 dX7_setVideo_35 (by decide) ?_
      refine pf_X7_63 (w' := [(qm, .inr (9, [.int p0, .int p1, .ref ma, .int (0 : Int32), .ref mb, .int (k.1 3), .ref me, .ref mr, .int (k.1 4), .int (k.1 5), .int (k.1 6), .int (k.1 7), .int (k.1 8), .int (k.1 9), .int (k.1 10), .ref mn, .ref ms, .int (y.1 0), .ref mk, .int (y.1 1)])), (mb, .inl (cI, 5, .inl k.2.1)), (ma, .inl (cI, 30, .inl k.2.2.1)), (me, .inl (cI, 12, .inl k.2.2.2.1)), (mr, .inl (cI, 12, .inl k.2.2.2.2)), (mn, .inl (cI, 52, .inl v)), (ms, .inl (cI, 52, .inl a)), (mk, .inl (cI, 16, .inl y.2))]) E Y 0 rfl (Nat.le_of_ble_eq_true rfl) rfl dX7_setVideo_36 (fun H locs Y => ?_)
      refine lv_iconst (v := 0) E.1.1 E.1.2.1 dX7_setVideo_39 (by decide) ?_
      refine lv_istore_n (lv' := [(3, .int (0 : Int32)), (0, .ref qm), (1, .int p0), (2, .int p1)]) E.1.1 E.1.2.1 dX7_setVideo_40 rfl hl (by decide) rfl (fun ls hl => ?_)
      have hL : ∀ (n : Nat) (k1 : Cf) (j : Nat), (hj : j ≤ 30) → (hn : 30 < j + n) → (f_X7_setVideo k v p0 p1) = f_X7_setVideo_l41 v n k1 j → ∀ (H : Heap) (locs : List Loc) (ls : Array Slot), WD D A s.heap H locs [(qm, .inr (9, [.int (k1.1 0), .int (k1.1 1), .ref ma, .int (k1.1 2), .ref mb, .int (k1.1 3), .ref me, .ref mr, .int (k1.1 4), .int (k1.1 5), .int (k1.1 6), .int (k1.1 7), .int (k1.1 8), .int (k1.1 9), .int (k1.1 10), .ref mn, .ref ms, .int (y.1 0), .ref mk, .int (y.1 1)])), (mb, .inl (cI, 5, .inl k1.2.1)), (ma, .inl (cI, 30, .inl k1.2.2.1)), (me, .inl (cI, 12, .inl k1.2.2.2.1)), (mr, .inl (cI, 12, .inl k1.2.2.2.2)), (mn, .inl (cI, 52, .inl v)), (ms, .inl (cI, 52, .inl a)), (mk, .inl (cI, 16, .inl y.2))] → lv_has ls 4 [(0, .ref qm), (1, .int p0), (2, .int p1), (3, .int (nI j))] → W p l e { frames := 1, cells := 0, slots := 0, locals := 22 } s m ([.ref qm, .int p0, .int p1] : List Value).toArray below meth c H locs 0 0 (MQ below (va_Qi (fun (r : Int32) (u : Cf × Fn) => r = (f_X7_setVideo k v p0 p1).1 ∧ u = (f_X7_setVideo k v p0 p1).2) (AT D cI cB A (fun u => (wM cI qm mb ma me mr mn ms mk (u.1) (u.2) a y))) A) ([.ref qm, .int p0, .int p1] : List Value).toArray s 0 0 A) (F0 m 41 ls []) := by
        intro n
        induction n with
        | zero => intro k1 j hj hn; exact absurd hn (by omega)
        | succ n ih =>
          intro k1 j hj hn hF H locs ls Y hl
          refine lv_iload_n E.1.1 E.1.2.1 dX7_setVideo_41 rfl (lv_at hl 3 rfl) ?_
          refine lv_bipush (v := 30) E.1.1 E.1.2.1 dX7_setVideo_42 (by decide) ?_
          refine lv_icmp_ge (tgt := 61) E.1.1 E.1.2.1 dX7_setVideo_44 (by decide) (fun c_44 => ?_) (fun c_44 => ?_)
          · skip
            refine lv_aload_n E.1.1 E.1.2.1 dX7_setVideo_61 rfl (lv_at hl 0 rfl) ?_
            refine r_Vv (wr := []) (w2 := fun u => [(qm, .inr (9, [.int (k1.1 0), .int (k1.1 1), .ref ma, .int (k1.1 2), .ref mb, .int (k1.1 3), .ref me, .ref mr, .int (k1.1 4), .int (k1.1 5), .int (k1.1 6), .int (k1.1 7), .int (k1.1 8), .int (k1.1 9), .int (k1.1 10), .ref mn, .ref ms, .int (y.1 0), .ref mk, .int (y.1 1)])), (mb, .inl (cI, 5, .inl k1.2.1)), (ma, .inl (cI, 30, .inl k1.2.2.1)), (me, .inl (cI, 12, .inl k1.2.2.2.1)), (mr, .inl (cI, 12, .inl k1.2.2.2.2)), (mn, .inl (cI, 52, .inl u)), (ms, .inl (cI, 52, .inl a)), (mk, .inl (cI, 16, .inl y.2))]) E Y hA hl.1 (c_X7_begins qm mb ma me mr mn ms mk k1 v a y) lk_X7_56 X0b (fun _ _ _ => trivial) [0, 1, 2, 3, 4, 5, 6, 7] [] [0, 1, 2, 3, 4, 5, 6, 7] rfl rfl (by decide) (fun _ => rfl) 0 rfl rfl ⟨Nat.le_of_ble_eq_true rfl, Nat.le_of_ble_eq_true rfl⟩ ⟨Nat.le_of_ble_eq_true rfl, Nat.le_of_ble_eq_true rfl⟩ rfl rfl (Nat.le_of_ble_eq_true rfl) dX7_setVideo_62 (fun u H locs hp Y => ?_)
            subst hp
            refine lv_aload_n E.1.1 E.1.2.1 dX7_setVideo_65 rfl (lv_at hl 0 rfl) ?_
            refine gf_X7_7 E Y 0 rfl rfl dX7_setVideo_66 ?_
            refine lv_aload_n E.1.1 E.1.2.1 dX7_setVideo_69 rfl (lv_at hl 0 rfl) ?_
            refine gf_X7_13 E Y 0 rfl rfl dX7_setVideo_70 ?_
            refine lv_imul E.1.1 E.1.2.1 dX7_setVideo_73 ?_
            have e9 : (f_X7_setVideo k v p0 p1) = (((k1.1 0) * (k1.1 1)), k1, (f_X7_begins v)) := hF.trans ((if_pos c_44).trans (rfl))
            exact r_iret E Y hr hk ((k1.1 0) * (k1.1 1)) (k1, (f_X7_begins v)) (pr_of e9) rfl ⟨Nat.le_of_ble_eq_true rfl, Nat.le_of_ble_eq_true rfl⟩ dX7_setVideo_74
          · skip
            refine lv_aload_n E.1.1 E.1.2.1 dX7_setVideo_47 rfl (lv_at hl 0 rfl) ?_
            refine gf_X7_16 E Y 0 rfl rfl dX7_setVideo_48 ?_
            refine lv_iload_n E.1.1 E.1.2.1 dX7_setVideo_51 rfl (lv_at hl 3 rfl) ?_
            refine lv_bipush (v := 100) E.1.1 E.1.2.1 dX7_setVideo_52 (by decide) ?_
            refine r_ias (w' := [(qm, .inr (9, [.int (k1.1 0), .int (k1.1 1), .ref ma, .int (k1.1 2), .ref mb, .int (k1.1 3), .ref me, .ref mr, .int (k1.1 4), .int (k1.1 5), .int (k1.1 6), .int (k1.1 7), .int (k1.1 8), .int (k1.1 9), .int (k1.1 10), .ref mn, .ref ms, .int (y.1 0), .ref mk, .int (y.1 1)])), (mb, .inl (cI, 5, .inl k1.2.1)), (ma, .inl (cI, 30, .inl (upd k1.2.2.1 j (100 : Int32)))), (me, .inl (cI, 12, .inl k1.2.2.2.1)), (mr, .inl (cI, 12, .inl k1.2.2.2.2)), (mn, .inl (cI, 52, .inl v)), (ms, .inl (cI, 52, .inl a)), (mk, .inl (cI, 16, .inl y.2))]) E Y 2 rfl j (nI_clamp (by omega)) (vp_in_nI (nI_nge (a := 30) c_44 (by omega)) (by decide)) rfl dX7_setVideo_54 (fun H locs Y => ?_)
            refine lv_iinc (v := (nI (j + 1))) (lv' := [(3, .int (nI (j + 1))), (0, .ref qm), (1, .int p0), (2, .int p1)]) E.1.1 E.1.2.1 dX7_setVideo_55 hl (k := 3) rfl (nI_1 j) (by decide) rfl (fun ls hl => ?_)
            refine lv_goto (tgt := 41) E.1.1 E.1.2.1 dX7_setVideo_58 (by decide) ?_
            exact ih (k1.1, k1.2.1, (upd k1.2.2.1 j (100 : Int32)), k1.2.2.2.1, k1.2.2.2.2) (j + 1) (by have := nI_nge (a := 30) (b := j) c_44 (by omega); omega) (by omega) (hF.trans ((if_neg c_44).trans (rfl))) H locs ls Y (lv_sub hl [1, 2, 3, 0] rfl)
      exact hL 31 (upd (upd (upd (k.1) 0 p0) 1 p1) 2 (0 : Int32), k.2.1, k.2.2.1, k.2.2.2.1, k.2.2.2.2) (0) (by decide) (by decide) ((if_neg c_7).trans ((if_neg c_19).trans (rfl))) _ _ _ Y (lv_sub hl [1, 2, 3, 0] rfl)
    · skip
      refine lv_iconst (v := (-1)) E.1.1 E.1.2.1 dX7_setVideo_22 (by decide) ?_
      have e9 : (f_X7_setVideo k v p0 p1) = ((-1 : Int32), k, v) := (if_neg c_7).trans ((if_pos c_19).trans (rfl))
      exact r_iret E Y hr hk (-1 : Int32) (k, v) (pr_of e9) rfl ⟨Nat.le_of_ble_eq_true rfl, Nat.le_of_ble_eq_true rfl⟩ dX7_setVideo_23

def f_X7_addLevel_c25 (k : Cf) (v : Fn) (p0 : Int32) (x : Int32) : Int32 × Cf × Fn := if (f_X7_within p0 x (9000 : Int32)) = 0 then ((-1 : Int32), k, v) else (if (k.1 2) = (5 : Int32) then ((-3 : Int32), k, v) else ((((k.1 2) + (1 : Int32)) - (1 : Int32)), (upd (k.1) 2 ((k.1 2) + (1 : Int32)), (upd k.2.1 ((k.1 2).toNatClampNeg) p0), k.2.2.1, k.2.2.2.1, k.2.2.2.2), (f_X7_begins v)))
def f_X7_addLevel (k : Cf) (v : Fn) (p0 : Int32) : Int32 × Cf × Fn := if (k.1 2) = 0 then f_X7_addLevel_c25 k v p0 (1 : Int32) else f_X7_addLevel_c25 k v p0 ((k.2.1 (((k.1 2) - (1 : Int32)).toNatClampNeg)) + (1 : Int32))
set_option maxRecDepth 100000 in
set_option maxHeartbeats 4000000 in
theorem c_X7_addLevel {l : Launch} {D : va_G} {cI cB : ClassId} (qm mb ma me mr mn ms mk : Nat) (k : Cf) (v : Fn) (a : Fn) (y : Ky) (p0 : Int32) (kO : KOK k) : CI l X0 D cI cB yX7_addLevel cX7_addLevel 2 (some .int) 1 22 0 0 [.ref qm, .int p0] (wM cI qm mb ma me mr mn ms mk k v a y) (fun (r : Int32) (u : Cf × Fn) => r = (f_X7_addLevel k v p0).1 ∧ u = (f_X7_addLevel k v p0).2) (fun u => (wM cI qm mb ma me mr mn ms mk (u.1) (u.2) a y)) := by
  refine CI.of (by decide) (Nat.le_of_ble_eq_true rfl) ?_
  intro p e s m below meth c A ls E hr hk hin hA hAA hX Y hl
  have E : EE p c cX7_addLevel 2 s _ m RX7 D cI cB := E
  have hl : lv_has ls 2 [(0, .ref qm), (1, .int p0)] := hl
  have hC25 : ∀ (x : Int32), (f_X7_addLevel k v p0) = f_X7_addLevel_c25 k v p0 x → ∀ (H : Heap) (locs : List Loc) (ls : Array Slot), WD D A s.heap H locs [(qm, .inr (9, [.int (k.1 0), .int (k.1 1), .ref ma, .int (k.1 2), .ref mb, .int (k.1 3), .ref me, .ref mr, .int (k.1 4), .int (k.1 5), .int (k.1 6), .int (k.1 7), .int (k.1 8), .int (k.1 9), .int (k.1 10), .ref mn, .ref ms, .int (y.1 0), .ref mk, .int (y.1 1)])), (mb, .inl (cI, 5, .inl k.2.1)), (ma, .inl (cI, 30, .inl k.2.2.1)), (me, .inl (cI, 12, .inl k.2.2.2.1)), (mr, .inl (cI, 12, .inl k.2.2.2.2)), (mn, .inl (cI, 52, .inl v)), (ms, .inl (cI, 52, .inl a)), (mk, .inl (cI, 16, .inl y.2))] → lv_has ls 2 [(0, .ref qm), (1, .int p0)] → W p l e { frames := 1, cells := 0, slots := 0, locals := 22 } s m ([.ref qm, .int p0] : List Value).toArray below meth c H locs 0 0 (MQ below (va_Qi (fun (r : Int32) (u : Cf × Fn) => r = (f_X7_addLevel k v p0).1 ∧ u = (f_X7_addLevel k v p0).2) (AT D cI cB A (fun u => (wM cI qm mb ma me mr mn ms mk (u.1) (u.2) a y))) A) ([.ref qm, .int p0] : List Value).toArray s 0 0 A) (F0 m 25 ls [.int x, .int p0]) := by
    intro x  hF H locs ls Y hl
    refine lv_sipush (v := 9000) E.1.1 E.1.2.1 dX7_addLevel_25 (by decide) ?_
    refine r_Si (wr := [(qm, .inr (9, [.int (k.1 0), .int (k.1 1), .ref ma, .int (k.1 2), .ref mb, .int (k.1 3), .ref me, .ref mr, .int (k.1 4), .int (k.1 5), .int (k.1 6), .int (k.1 7), .int (k.1 8), .int (k.1 9), .int (k.1 10), .ref mn, .ref ms, .int (y.1 0), .ref mk, .int (y.1 1)])), (mb, .inl (cI, 5, .inl k.2.1)), (ma, .inl (cI, 30, .inl k.2.2.1)), (me, .inl (cI, 12, .inl k.2.2.2.1)), (mr, .inl (cI, 12, .inl k.2.2.2.2)), (mn, .inl (cI, 52, .inl v)), (ms, .inl (cI, 52, .inl a)), (mk, .inl (cI, 16, .inl y.2))]) (w2 := fun _ => [(qm, .inr (9, [.int (k.1 0), .int (k.1 1), .ref ma, .int (k.1 2), .ref mb, .int (k.1 3), .ref me, .ref mr, .int (k.1 4), .int (k.1 5), .int (k.1 6), .int (k.1 7), .int (k.1 8), .int (k.1 9), .int (k.1 10), .ref mn, .ref ms, .int (y.1 0), .ref mk, .int (y.1 1)])), (mb, .inl (cI, 5, .inl k.2.1)), (ma, .inl (cI, 30, .inl k.2.2.1)), (me, .inl (cI, 12, .inl k.2.2.2.1)), (mr, .inl (cI, 12, .inl k.2.2.2.2)), (mn, .inl (cI, 52, .inl v)), (ms, .inl (cI, 52, .inl a)), (mk, .inl (cI, 16, .inl y.2))]) E Y hA hl.1 (c_X7_within p0 x (9000 : Int32)) lk_X7_59 X0b (fun _ _ _ => trivial) [] [0, 1, 2, 3, 4, 5, 6, 7] [0, 1, 2, 3, 4, 5, 6, 7] rfl rfl (by decide) (fun _ => rfl) ⟨Nat.le_of_ble_eq_true rfl, Nat.le_of_ble_eq_true rfl⟩ ⟨Nat.le_of_ble_eq_true rfl, Nat.le_of_ble_eq_true rfl⟩ rfl rfl (Nat.le_of_ble_eq_true rfl) dX7_addLevel_28 (fun r u H locs hp Y => ?_)
    subst hp
    refine lv_if_ne (tgt := 36) E.1.1 E.1.2.1 dX7_addLevel_31 (by decide) (fun c_31 => ?_) (fun c_31 => ?_)
    · skip
      refine lv_aload_n E.1.1 E.1.2.1 dX7_addLevel_36 rfl (lv_at hl 0 rfl) ?_
      refine gf_X7_63 E Y 0 rfl rfl dX7_addLevel_37 ?_
      refine lv_iconst (v := 5) E.1.1 E.1.2.1 dX7_addLevel_40 (by decide) ?_
      refine lv_icmp_ne (tgt := 47) E.1.1 E.1.2.1 dX7_addLevel_41 (by decide) (fun c_41 => ?_) (fun c_41 => ?_)
      · skip
        refine lv_aload_n E.1.1 E.1.2.1 dX7_addLevel_47 rfl (lv_at hl 0 rfl) ?_
        refine gf_X7_20 E Y 0 rfl rfl dX7_addLevel_48 ?_
        refine lv_aload_n E.1.1 E.1.2.1 dX7_addLevel_51 rfl (lv_at hl 0 rfl) ?_
        refine gf_X7_63 E Y 0 rfl rfl dX7_addLevel_52 ?_
        refine lv_iload_n E.1.1 E.1.2.1 dX7_addLevel_55 rfl (lv_at hl 1 rfl) ?_
        refine r_ias (w' := [(qm, .inr (9, [.int (k.1 0), .int (k.1 1), .ref ma, .int (k.1 2), .ref mb, .int (k.1 3), .ref me, .ref mr, .int (k.1 4), .int (k.1 5), .int (k.1 6), .int (k.1 7), .int (k.1 8), .int (k.1 9), .int (k.1 10), .ref mn, .ref ms, .int (y.1 0), .ref mk, .int (y.1 1)])), (mb, .inl (cI, 5, .inl (upd k.2.1 ((k.1 2).toNatClampNeg) p0))), (ma, .inl (cI, 30, .inl k.2.2.1)), (me, .inl (cI, 12, .inl k.2.2.2.1)), (mr, .inl (cI, 12, .inl k.2.2.2.2)), (mn, .inl (cI, 52, .inl v)), (ms, .inl (cI, 52, .inl a)), (mk, .inl (cI, 16, .inl y.2))]) E Y 1 rfl ((k.1 2).toNatClampNeg) rfl (in_ne (c := 5) (by decide) kO.2.2.1 c_41) rfl dX7_addLevel_56 (fun H locs Y => ?_)
        refine lv_aload_n E.1.1 E.1.2.1 dX7_addLevel_57 rfl (lv_at hl 0 rfl) ?_
        refine lv_dup E.1.1 E.1.2.1 dX7_addLevel_58 rfl ?_
        refine gf_X7_63 E Y 0 rfl rfl dX7_addLevel_59 ?_
        refine lv_iconst (v := 1) E.1.1 E.1.2.1 dX7_addLevel_62 (by decide) ?_
        refine lv_iadd E.1.1 E.1.2.1 dX7_addLevel_63 ?_
        refine pf_X7_63 (w' := [(qm, .inr (9, [.int (k.1 0), .int (k.1 1), .ref ma, .int ((k.1 2) + (1 : Int32)), .ref mb, .int (k.1 3), .ref me, .ref mr, .int (k.1 4), .int (k.1 5), .int (k.1 6), .int (k.1 7), .int (k.1 8), .int (k.1 9), .int (k.1 10), .ref mn, .ref ms, .int (y.1 0), .ref mk, .int (y.1 1)])), (mb, .inl (cI, 5, .inl (upd k.2.1 ((k.1 2).toNatClampNeg) p0))), (ma, .inl (cI, 30, .inl k.2.2.1)), (me, .inl (cI, 12, .inl k.2.2.2.1)), (mr, .inl (cI, 12, .inl k.2.2.2.2)), (mn, .inl (cI, 52, .inl v)), (ms, .inl (cI, 52, .inl a)), (mk, .inl (cI, 16, .inl y.2))]) E Y 0 rfl (Nat.le_of_ble_eq_true rfl) rfl dX7_addLevel_64 (fun H locs Y => ?_)
        refine lv_aload_n E.1.1 E.1.2.1 dX7_addLevel_67 rfl (lv_at hl 0 rfl) ?_
        refine r_Vv (wr := []) (w2 := fun u => [(qm, .inr (9, [.int (k.1 0), .int (k.1 1), .ref ma, .int ((k.1 2) + (1 : Int32)), .ref mb, .int (k.1 3), .ref me, .ref mr, .int (k.1 4), .int (k.1 5), .int (k.1 6), .int (k.1 7), .int (k.1 8), .int (k.1 9), .int (k.1 10), .ref mn, .ref ms, .int (y.1 0), .ref mk, .int (y.1 1)])), (mb, .inl (cI, 5, .inl (upd k.2.1 ((k.1 2).toNatClampNeg) p0))), (ma, .inl (cI, 30, .inl k.2.2.1)), (me, .inl (cI, 12, .inl k.2.2.2.1)), (mr, .inl (cI, 12, .inl k.2.2.2.2)), (mn, .inl (cI, 52, .inl u)), (ms, .inl (cI, 52, .inl a)), (mk, .inl (cI, 16, .inl y.2))]) E Y hA hl.1 (c_X7_begins qm mb ma me mr mn ms mk (upd (k.1) 2 ((k.1 2) + (1 : Int32)), (upd k.2.1 ((k.1 2).toNatClampNeg) p0), k.2.2.1, k.2.2.2.1, k.2.2.2.2) v a y) lk_X7_56 X0b (fun _ _ _ => trivial) [0, 1, 2, 3, 4, 5, 6, 7] [] [0, 1, 2, 3, 4, 5, 6, 7] rfl rfl (by decide) (fun _ => rfl) 0 rfl rfl ⟨Nat.le_of_ble_eq_true rfl, Nat.le_of_ble_eq_true rfl⟩ ⟨Nat.le_of_ble_eq_true rfl, Nat.le_of_ble_eq_true rfl⟩ rfl rfl (Nat.le_of_ble_eq_true rfl) dX7_addLevel_68 (fun u H locs hp Y => ?_)
        subst hp
        refine lv_aload_n E.1.1 E.1.2.1 dX7_addLevel_71 rfl (lv_at hl 0 rfl) ?_
        refine gf_X7_63 E Y 0 rfl rfl dX7_addLevel_72 ?_
        refine lv_iconst (v := 1) E.1.1 E.1.2.1 dX7_addLevel_75 (by decide) ?_
        refine lv_isub E.1.1 E.1.2.1 dX7_addLevel_76 ?_
        have e9 : (f_X7_addLevel k v p0) = ((((k.1 2) + (1 : Int32)) - (1 : Int32)), (upd (k.1) 2 ((k.1 2) + (1 : Int32)), (upd k.2.1 ((k.1 2).toNatClampNeg) p0), k.2.2.1, k.2.2.2.1, k.2.2.2.2), (f_X7_begins v)) := hF.trans ((if_neg c_31).trans ((if_neg c_41).trans (rfl)))
        exact r_iret E Y hr hk (((k.1 2) + (1 : Int32)) - (1 : Int32)) ((upd (k.1) 2 ((k.1 2) + (1 : Int32)), (upd k.2.1 ((k.1 2).toNatClampNeg) p0), k.2.2.1, k.2.2.2.1, k.2.2.2.2), (f_X7_begins v)) (pr_of e9) rfl ⟨Nat.le_of_ble_eq_true rfl, Nat.le_of_ble_eq_true rfl⟩ dX7_addLevel_77
      · skip
        refine lv_bipush (v := (-3)) E.1.1 E.1.2.1 dX7_addLevel_44 (by decide) ?_
        have e9 : (f_X7_addLevel k v p0) = ((-3 : Int32), k, v) := hF.trans ((if_neg c_31).trans ((if_pos c_41).trans (rfl)))
        exact r_iret E Y hr hk (-3 : Int32) (k, v) (pr_of e9) rfl ⟨Nat.le_of_ble_eq_true rfl, Nat.le_of_ble_eq_true rfl⟩ dX7_addLevel_46
    · skip
      refine lv_iconst (v := (-1)) E.1.1 E.1.2.1 dX7_addLevel_34 (by decide) ?_
      have e9 : (f_X7_addLevel k v p0) = ((-1 : Int32), k, v) := hF.trans ((if_pos c_31).trans (rfl))
      exact r_iret E Y hr hk (-1 : Int32) (k, v) (pr_of e9) rfl ⟨Nat.le_of_ble_eq_true rfl, Nat.le_of_ble_eq_true rfl⟩ dX7_addLevel_35
  refine lv_iload_n E.1.1 E.1.2.1 dX7_addLevel_0 rfl (lv_at hl 1 rfl) ?_
  refine lv_aload_n E.1.1 E.1.2.1 dX7_addLevel_1 rfl (lv_at hl 0 rfl) ?_
  refine gf_X7_63 E Y 0 rfl rfl dX7_addLevel_2 ?_
  refine lv_if_ne (tgt := 12) E.1.1 E.1.2.1 dX7_addLevel_5 (by decide) (fun c_5 => ?_) (fun c_5 => ?_)
  · skip
    refine lv_aload_n E.1.1 E.1.2.1 dX7_addLevel_12 rfl (lv_at hl 0 rfl) ?_
    refine gf_X7_20 E Y 0 rfl rfl dX7_addLevel_13 ?_
    refine lv_aload_n E.1.1 E.1.2.1 dX7_addLevel_16 rfl (lv_at hl 0 rfl) ?_
    refine gf_X7_63 E Y 0 rfl rfl dX7_addLevel_17 ?_
    refine lv_iconst (v := 1) E.1.1 E.1.2.1 dX7_addLevel_20 (by decide) ?_
    refine lv_isub E.1.1 E.1.2.1 dX7_addLevel_21 ?_
    refine r_ial E Y 1 rfl (((k.1 2) - (1 : Int32)).toNatClampNeg) rfl (in_pred (by decide) kO.2.2.1 c_5) dX7_addLevel_22 ?_
    refine lv_iconst (v := 1) E.1.1 E.1.2.1 dX7_addLevel_23 (by decide) ?_
    refine lv_iadd E.1.1 E.1.2.1 dX7_addLevel_24 ?_
    exact hC25 ((k.2.1 (((k.1 2) - (1 : Int32)).toNatClampNeg)) + (1 : Int32)) ((if_neg c_5).trans (rfl)) _ _ _ Y (lv_sub hl [0, 1] rfl)
  · skip
    refine lv_iconst (v := 1) E.1.1 E.1.2.1 dX7_addLevel_8 (by decide) ?_
    refine lv_goto (tgt := 25) E.1.1 E.1.2.1 dX7_addLevel_9 (by decide) ?_
    exact hC25 (1 : Int32) ((if_pos c_5).trans (rfl)) _ _ _ Y (lv_sub hl [0, 1] rfl)

def f_X7_setVariation (k : Cf) (p0 : Int32) (p1 : Int32) : Int32 × Cf := if (f_X7_within p0 (0 : Int32) ((k.1 0) - (1 : Int32))) = 0 then ((-2 : Int32), k) else (if (f_X7_within p1 (0 : Int32) (300 : Int32)) = 0 then ((-1 : Int32), k) else ((k.2.2.1 (p0.toNatClampNeg)), (k.1, k.2.1, (upd k.2.2.1 (p0.toNatClampNeg) p1), k.2.2.2.1, k.2.2.2.2)))
set_option maxRecDepth 100000 in
set_option maxHeartbeats 4000000 in
theorem c_X7_setVariation {l : Launch} {D : va_G} {cI cB : ClassId} (qm mb ma me mr mn ms mk : Nat) (k : Cf) (v : Fn) (a : Fn) (y : Ky) (p0 : Int32) (p1 : Int32) (kO : KOK k) : CI l X0 D cI cB yX7_setVariation cX7_setVariation 4 (some .int) 1 22 0 0 [.ref qm, .int p0, .int p1] (wM cI qm mb ma me mr mn ms mk k v a y) (fun (r : Int32) (u : Cf) => r = (f_X7_setVariation k p0 p1).1 ∧ u = (f_X7_setVariation k p0 p1).2) (fun u => (wM cI qm mb ma me mr mn ms mk u v a y)) := by
  refine CI.of (by decide) (Nat.le_of_ble_eq_true rfl) ?_
  intro p e s m below meth c A ls E hr hk hin hA hAA hX Y hl
  have E : EE p c cX7_setVariation 4 s _ m RX7 D cI cB := E
  have hl : lv_has ls 4 [(0, .ref qm), (1, .int p0), (2, .int p1)] := hl
  refine lv_iload_n E.1.1 E.1.2.1 dX7_setVariation_0 rfl (lv_at hl 1 rfl) ?_
  refine lv_iconst (v := 0) E.1.1 E.1.2.1 dX7_setVariation_1 (by decide) ?_
  refine lv_aload_n E.1.1 E.1.2.1 dX7_setVariation_2 rfl (lv_at hl 0 rfl) ?_
  refine gf_X7_7 E Y 0 rfl rfl dX7_setVariation_3 ?_
  refine lv_iconst (v := 1) E.1.1 E.1.2.1 dX7_setVariation_6 (by decide) ?_
  refine lv_isub E.1.1 E.1.2.1 dX7_setVariation_7 ?_
  refine r_Si (wr := [(qm, .inr (9, [.int (k.1 0), .int (k.1 1), .ref ma, .int (k.1 2), .ref mb, .int (k.1 3), .ref me, .ref mr, .int (k.1 4), .int (k.1 5), .int (k.1 6), .int (k.1 7), .int (k.1 8), .int (k.1 9), .int (k.1 10), .ref mn, .ref ms, .int (y.1 0), .ref mk, .int (y.1 1)])), (mb, .inl (cI, 5, .inl k.2.1)), (ma, .inl (cI, 30, .inl k.2.2.1)), (me, .inl (cI, 12, .inl k.2.2.2.1)), (mr, .inl (cI, 12, .inl k.2.2.2.2)), (mn, .inl (cI, 52, .inl v)), (ms, .inl (cI, 52, .inl a)), (mk, .inl (cI, 16, .inl y.2))]) (w2 := fun _ => [(qm, .inr (9, [.int (k.1 0), .int (k.1 1), .ref ma, .int (k.1 2), .ref mb, .int (k.1 3), .ref me, .ref mr, .int (k.1 4), .int (k.1 5), .int (k.1 6), .int (k.1 7), .int (k.1 8), .int (k.1 9), .int (k.1 10), .ref mn, .ref ms, .int (y.1 0), .ref mk, .int (y.1 1)])), (mb, .inl (cI, 5, .inl k.2.1)), (ma, .inl (cI, 30, .inl k.2.2.1)), (me, .inl (cI, 12, .inl k.2.2.2.1)), (mr, .inl (cI, 12, .inl k.2.2.2.2)), (mn, .inl (cI, 52, .inl v)), (ms, .inl (cI, 52, .inl a)), (mk, .inl (cI, 16, .inl y.2))]) E Y hA hl.1 (c_X7_within p0 (0 : Int32) ((k.1 0) - (1 : Int32))) lk_X7_59 X0b (fun _ _ _ => trivial) [] [0, 1, 2, 3, 4, 5, 6, 7] [0, 1, 2, 3, 4, 5, 6, 7] rfl rfl (by decide) (fun _ => rfl) ⟨Nat.le_of_ble_eq_true rfl, Nat.le_of_ble_eq_true rfl⟩ ⟨Nat.le_of_ble_eq_true rfl, Nat.le_of_ble_eq_true rfl⟩ rfl rfl (Nat.le_of_ble_eq_true rfl) dX7_setVariation_8 (fun r u H locs hp Y => ?_)
  subst hp
  refine lv_if_ne (tgt := 17) E.1.1 E.1.2.1 dX7_setVariation_11 (by decide) (fun c_11 => ?_) (fun c_11 => ?_)
  · skip
    refine lv_iload_n E.1.1 E.1.2.1 dX7_setVariation_17 rfl (lv_at hl 2 rfl) ?_
    refine lv_iconst (v := 0) E.1.1 E.1.2.1 dX7_setVariation_18 (by decide) ?_
    refine lv_sipush (v := 300) E.1.1 E.1.2.1 dX7_setVariation_19 (by decide) ?_
    refine r_Si (wr := [(qm, .inr (9, [.int (k.1 0), .int (k.1 1), .ref ma, .int (k.1 2), .ref mb, .int (k.1 3), .ref me, .ref mr, .int (k.1 4), .int (k.1 5), .int (k.1 6), .int (k.1 7), .int (k.1 8), .int (k.1 9), .int (k.1 10), .ref mn, .ref ms, .int (y.1 0), .ref mk, .int (y.1 1)])), (mb, .inl (cI, 5, .inl k.2.1)), (ma, .inl (cI, 30, .inl k.2.2.1)), (me, .inl (cI, 12, .inl k.2.2.2.1)), (mr, .inl (cI, 12, .inl k.2.2.2.2)), (mn, .inl (cI, 52, .inl v)), (ms, .inl (cI, 52, .inl a)), (mk, .inl (cI, 16, .inl y.2))]) (w2 := fun _ => [(qm, .inr (9, [.int (k.1 0), .int (k.1 1), .ref ma, .int (k.1 2), .ref mb, .int (k.1 3), .ref me, .ref mr, .int (k.1 4), .int (k.1 5), .int (k.1 6), .int (k.1 7), .int (k.1 8), .int (k.1 9), .int (k.1 10), .ref mn, .ref ms, .int (y.1 0), .ref mk, .int (y.1 1)])), (mb, .inl (cI, 5, .inl k.2.1)), (ma, .inl (cI, 30, .inl k.2.2.1)), (me, .inl (cI, 12, .inl k.2.2.2.1)), (mr, .inl (cI, 12, .inl k.2.2.2.2)), (mn, .inl (cI, 52, .inl v)), (ms, .inl (cI, 52, .inl a)), (mk, .inl (cI, 16, .inl y.2))]) E Y hA hl.1 (c_X7_within p1 (0 : Int32) (300 : Int32)) lk_X7_59 X0b (fun _ _ _ => trivial) [] [0, 1, 2, 3, 4, 5, 6, 7] [0, 1, 2, 3, 4, 5, 6, 7] rfl rfl (by decide) (fun _ => rfl) ⟨Nat.le_of_ble_eq_true rfl, Nat.le_of_ble_eq_true rfl⟩ ⟨Nat.le_of_ble_eq_true rfl, Nat.le_of_ble_eq_true rfl⟩ rfl rfl (Nat.le_of_ble_eq_true rfl) dX7_setVariation_22 (fun r u H locs hp Y => ?_)
    subst hp
    refine lv_if_ne (tgt := 30) E.1.1 E.1.2.1 dX7_setVariation_25 (by decide) (fun c_25 => ?_) (fun c_25 => ?_)
    · skip
      refine lv_aload_n E.1.1 E.1.2.1 dX7_setVariation_30 rfl (lv_at hl 0 rfl) ?_
      refine gf_X7_16 E Y 0 rfl rfl dX7_setVariation_31 ?_
      refine lv_iload_n E.1.1 E.1.2.1 dX7_setVariation_34 rfl (lv_at hl 1 rfl) ?_
      refine r_ial E Y 2 rfl (p0.toNatClampNeg) rfl (in_with (by decide) kO.1 c_11) dX7_setVariation_35 ?_
      refine lv_istore_n (lv' := [(3, .int (k.2.2.1 (p0.toNatClampNeg))), (0, .ref qm), (1, .int p0), (2, .int p1)]) E.1.1 E.1.2.1 dX7_setVariation_36 rfl hl (by decide) rfl (fun ls hl => ?_)
      refine lv_aload_n E.1.1 E.1.2.1 dX7_setVariation_37 rfl (lv_at hl 1 rfl) ?_
      refine gf_X7_16 E Y 0 rfl rfl dX7_setVariation_38 ?_
      refine lv_iload_n E.1.1 E.1.2.1 dX7_setVariation_41 rfl (lv_at hl 2 rfl) ?_
      refine lv_iload_n E.1.1 E.1.2.1 dX7_setVariation_42 rfl (lv_at hl 3 rfl) ?_
      refine r_ias (w' := [(qm, .inr (9, [.int (k.1 0), .int (k.1 1), .ref ma, .int (k.1 2), .ref mb, .int (k.1 3), .ref me, .ref mr, .int (k.1 4), .int (k.1 5), .int (k.1 6), .int (k.1 7), .int (k.1 8), .int (k.1 9), .int (k.1 10), .ref mn, .ref ms, .int (y.1 0), .ref mk, .int (y.1 1)])), (mb, .inl (cI, 5, .inl k.2.1)), (ma, .inl (cI, 30, .inl (upd k.2.2.1 (p0.toNatClampNeg) p1))), (me, .inl (cI, 12, .inl k.2.2.2.1)), (mr, .inl (cI, 12, .inl k.2.2.2.2)), (mn, .inl (cI, 52, .inl v)), (ms, .inl (cI, 52, .inl a)), (mk, .inl (cI, 16, .inl y.2))]) E Y 2 rfl (p0.toNatClampNeg) rfl (in_with (by decide) kO.1 c_11) rfl dX7_setVariation_43 (fun H locs Y => ?_)
      refine lv_iload_n E.1.1 E.1.2.1 dX7_setVariation_44 rfl (lv_at hl 0 rfl) ?_
      have e9 : (f_X7_setVariation k p0 p1) = ((k.2.2.1 (p0.toNatClampNeg)), (k.1, k.2.1, (upd k.2.2.1 (p0.toNatClampNeg) p1), k.2.2.2.1, k.2.2.2.2)) := (if_neg c_11).trans ((if_neg c_25).trans (rfl))
      exact r_iret E Y hr hk (k.2.2.1 (p0.toNatClampNeg)) (k.1, k.2.1, (upd k.2.2.1 (p0.toNatClampNeg) p1), k.2.2.2.1, k.2.2.2.2) (pr_of e9) rfl ⟨Nat.le_of_ble_eq_true rfl, Nat.le_of_ble_eq_true rfl⟩ dX7_setVariation_45
    · skip
      refine lv_iconst (v := (-1)) E.1.1 E.1.2.1 dX7_setVariation_28 (by decide) ?_
      have e9 : (f_X7_setVariation k p0 p1) = ((-1 : Int32), k) := (if_neg c_11).trans ((if_pos c_25).trans (rfl))
      exact r_iret E Y hr hk (-1 : Int32) k (pr_of e9) rfl ⟨Nat.le_of_ble_eq_true rfl, Nat.le_of_ble_eq_true rfl⟩ dX7_setVariation_29
  · skip
    refine lv_bipush (v := (-2)) E.1.1 E.1.2.1 dX7_setVariation_14 (by decide) ?_
    have e9 : (f_X7_setVariation k p0 p1) = ((-2 : Int32), k) := (if_pos c_11).trans (rfl)
    exact r_iret E Y hr hk (-2 : Int32) k (pr_of e9) rfl ⟨Nat.le_of_ble_eq_true rfl, Nat.le_of_ble_eq_true rfl⟩ dX7_setVariation_16

def f_X7_addPeriod (k : Cf) (p0 : Int32) (p1 : Int32) : Int32 × Cf := if (f_X7_within p0 (1 : Int32) (60000 : Int32)) = 0 then ((-1 : Int32), k) else (if (f_X7_within p1 (0 : Int32) (9000 : Int32)) = 0 then ((-1 : Int32), k) else (if (k.1 3) = (12 : Int32) then ((-3 : Int32), k) else (if (k.1 3) = 0 then (((k.1 3) + (1 : Int32)), (upd (k.1) 3 ((k.1 3) + (1 : Int32)), k.2.1, k.2.2.1, (upd k.2.2.2.1 ((k.1 3).toNatClampNeg) (p0 + (0 : Int32))), (upd k.2.2.2.2 ((k.1 3).toNatClampNeg) p1))) else (((k.1 3) + (1 : Int32)), (upd (k.1) 3 ((k.1 3) + (1 : Int32)), k.2.1, k.2.2.1, (upd k.2.2.2.1 ((k.1 3).toNatClampNeg) (p0 + (k.2.2.2.1 (((k.1 3) - (1 : Int32)).toNatClampNeg)))), (upd k.2.2.2.2 ((k.1 3).toNatClampNeg) p1))))))
set_option maxRecDepth 100000 in
set_option maxHeartbeats 4000000 in
theorem c_X7_addPeriod {l : Launch} {D : va_G} {cI cB : ClassId} (qm mb ma me mr mn ms mk : Nat) (k : Cf) (v : Fn) (a : Fn) (y : Ky) (p0 : Int32) (p1 : Int32) (kO : KOK k) : CI l X0 D cI cB yX7_addPeriod cX7_addPeriod 3 (some .int) 1 22 0 0 [.ref qm, .int p0, .int p1] (wM cI qm mb ma me mr mn ms mk k v a y) (fun (r : Int32) (u : Cf) => r = (f_X7_addPeriod k p0 p1).1 ∧ u = (f_X7_addPeriod k p0 p1).2) (fun u => (wM cI qm mb ma me mr mn ms mk u v a y)) := by
  refine CI.of (by decide) (Nat.le_of_ble_eq_true rfl) ?_
  intro p e s m below meth c A ls E hr hk hin hA hAA hX Y hl
  have E : EE p c cX7_addPeriod 3 s _ m RX7 D cI cB := E
  have hl : lv_has ls 3 [(0, .ref qm), (1, .int p0), (2, .int p1)] := hl
  refine lv_iload_n E.1.1 E.1.2.1 dX7_addPeriod_0 rfl (lv_at hl 1 rfl) ?_
  refine lv_iconst (v := 1) E.1.1 E.1.2.1 dX7_addPeriod_1 (by decide) ?_
  refine lv_ldc (v := 60000) E.1.1 E.1.2.1 E.1.2.2.2.1 (E.1.2.2.2.2 _ mk_X7_66) dX7_addPeriod_2 ?_
  refine r_Si (wr := [(qm, .inr (9, [.int (k.1 0), .int (k.1 1), .ref ma, .int (k.1 2), .ref mb, .int (k.1 3), .ref me, .ref mr, .int (k.1 4), .int (k.1 5), .int (k.1 6), .int (k.1 7), .int (k.1 8), .int (k.1 9), .int (k.1 10), .ref mn, .ref ms, .int (y.1 0), .ref mk, .int (y.1 1)])), (mb, .inl (cI, 5, .inl k.2.1)), (ma, .inl (cI, 30, .inl k.2.2.1)), (me, .inl (cI, 12, .inl k.2.2.2.1)), (mr, .inl (cI, 12, .inl k.2.2.2.2)), (mn, .inl (cI, 52, .inl v)), (ms, .inl (cI, 52, .inl a)), (mk, .inl (cI, 16, .inl y.2))]) (w2 := fun _ => [(qm, .inr (9, [.int (k.1 0), .int (k.1 1), .ref ma, .int (k.1 2), .ref mb, .int (k.1 3), .ref me, .ref mr, .int (k.1 4), .int (k.1 5), .int (k.1 6), .int (k.1 7), .int (k.1 8), .int (k.1 9), .int (k.1 10), .ref mn, .ref ms, .int (y.1 0), .ref mk, .int (y.1 1)])), (mb, .inl (cI, 5, .inl k.2.1)), (ma, .inl (cI, 30, .inl k.2.2.1)), (me, .inl (cI, 12, .inl k.2.2.2.1)), (mr, .inl (cI, 12, .inl k.2.2.2.2)), (mn, .inl (cI, 52, .inl v)), (ms, .inl (cI, 52, .inl a)), (mk, .inl (cI, 16, .inl y.2))]) E Y hA hl.1 (c_X7_within p0 (1 : Int32) (60000 : Int32)) lk_X7_59 X0b (fun _ _ _ => trivial) [] [0, 1, 2, 3, 4, 5, 6, 7] [0, 1, 2, 3, 4, 5, 6, 7] rfl rfl (by decide) (fun _ => rfl) ⟨Nat.le_of_ble_eq_true rfl, Nat.le_of_ble_eq_true rfl⟩ ⟨Nat.le_of_ble_eq_true rfl, Nat.le_of_ble_eq_true rfl⟩ rfl rfl (Nat.le_of_ble_eq_true rfl) dX7_addPeriod_4 (fun r u H locs hp Y => ?_)
  subst hp
  refine lv_if_eq (tgt := 21) E.1.1 E.1.2.1 dX7_addPeriod_7 (by decide) (fun c_7 => ?_) (fun c_7 => ?_)
  · skip
    refine lv_iconst (v := (-1)) E.1.1 E.1.2.1 dX7_addPeriod_21 (by decide) ?_
    have e9 : (f_X7_addPeriod k p0 p1) = ((-1 : Int32), k) := (if_pos c_7).trans (rfl)
    exact r_iret E Y hr hk (-1 : Int32) k (pr_of e9) rfl ⟨Nat.le_of_ble_eq_true rfl, Nat.le_of_ble_eq_true rfl⟩ dX7_addPeriod_22
  · skip
    refine lv_iload_n E.1.1 E.1.2.1 dX7_addPeriod_10 rfl (lv_at hl 2 rfl) ?_
    refine lv_iconst (v := 0) E.1.1 E.1.2.1 dX7_addPeriod_11 (by decide) ?_
    refine lv_sipush (v := 9000) E.1.1 E.1.2.1 dX7_addPeriod_12 (by decide) ?_
    refine r_Si (wr := [(qm, .inr (9, [.int (k.1 0), .int (k.1 1), .ref ma, .int (k.1 2), .ref mb, .int (k.1 3), .ref me, .ref mr, .int (k.1 4), .int (k.1 5), .int (k.1 6), .int (k.1 7), .int (k.1 8), .int (k.1 9), .int (k.1 10), .ref mn, .ref ms, .int (y.1 0), .ref mk, .int (y.1 1)])), (mb, .inl (cI, 5, .inl k.2.1)), (ma, .inl (cI, 30, .inl k.2.2.1)), (me, .inl (cI, 12, .inl k.2.2.2.1)), (mr, .inl (cI, 12, .inl k.2.2.2.2)), (mn, .inl (cI, 52, .inl v)), (ms, .inl (cI, 52, .inl a)), (mk, .inl (cI, 16, .inl y.2))]) (w2 := fun _ => [(qm, .inr (9, [.int (k.1 0), .int (k.1 1), .ref ma, .int (k.1 2), .ref mb, .int (k.1 3), .ref me, .ref mr, .int (k.1 4), .int (k.1 5), .int (k.1 6), .int (k.1 7), .int (k.1 8), .int (k.1 9), .int (k.1 10), .ref mn, .ref ms, .int (y.1 0), .ref mk, .int (y.1 1)])), (mb, .inl (cI, 5, .inl k.2.1)), (ma, .inl (cI, 30, .inl k.2.2.1)), (me, .inl (cI, 12, .inl k.2.2.2.1)), (mr, .inl (cI, 12, .inl k.2.2.2.2)), (mn, .inl (cI, 52, .inl v)), (ms, .inl (cI, 52, .inl a)), (mk, .inl (cI, 16, .inl y.2))]) E Y hA hl.1 (c_X7_within p1 (0 : Int32) (9000 : Int32)) lk_X7_59 X0b (fun _ _ _ => trivial) [] [0, 1, 2, 3, 4, 5, 6, 7] [0, 1, 2, 3, 4, 5, 6, 7] rfl rfl (by decide) (fun _ => rfl) ⟨Nat.le_of_ble_eq_true rfl, Nat.le_of_ble_eq_true rfl⟩ ⟨Nat.le_of_ble_eq_true rfl, Nat.le_of_ble_eq_true rfl⟩ rfl rfl (Nat.le_of_ble_eq_true rfl) dX7_addPeriod_15 (fun r u H locs hp Y => ?_)
    subst hp
    refine lv_if_ne (tgt := 23) E.1.1 E.1.2.1 dX7_addPeriod_18 (by decide) (fun c_18 => ?_) (fun c_18 => ?_)
    · skip
      refine lv_aload_n E.1.1 E.1.2.1 dX7_addPeriod_23 rfl (lv_at hl 0 rfl) ?_
      refine gf_X7_67 E Y 0 rfl rfl dX7_addPeriod_24 ?_
      refine lv_bipush (v := 12) E.1.1 E.1.2.1 dX7_addPeriod_27 (by decide) ?_
      refine lv_icmp_ne (tgt := 35) E.1.1 E.1.2.1 dX7_addPeriod_29 (by decide) (fun c_29 => ?_) (fun c_29 => ?_)
      · skip
        refine lv_aload_n E.1.1 E.1.2.1 dX7_addPeriod_35 rfl (lv_at hl 0 rfl) ?_
        refine gf_X7_23 E Y 0 rfl rfl dX7_addPeriod_36 ?_
        refine lv_aload_n E.1.1 E.1.2.1 dX7_addPeriod_39 rfl (lv_at hl 0 rfl) ?_
        refine gf_X7_67 E Y 0 rfl rfl dX7_addPeriod_40 ?_
        refine lv_iload_n E.1.1 E.1.2.1 dX7_addPeriod_43 rfl (lv_at hl 1 rfl) ?_
        refine lv_aload_n E.1.1 E.1.2.1 dX7_addPeriod_44 rfl (lv_at hl 0 rfl) ?_
        refine gf_X7_67 E Y 0 rfl rfl dX7_addPeriod_45 ?_
        refine lv_if_ne (tgt := 55) E.1.1 E.1.2.1 dX7_addPeriod_48 (by decide) (fun c_48 => ?_) (fun c_48 => ?_)
        · skip
          refine lv_aload_n E.1.1 E.1.2.1 dX7_addPeriod_55 rfl (lv_at hl 0 rfl) ?_
          refine gf_X7_23 E Y 0 rfl rfl dX7_addPeriod_56 ?_
          refine lv_aload_n E.1.1 E.1.2.1 dX7_addPeriod_59 rfl (lv_at hl 0 rfl) ?_
          refine gf_X7_67 E Y 0 rfl rfl dX7_addPeriod_60 ?_
          refine lv_iconst (v := 1) E.1.1 E.1.2.1 dX7_addPeriod_63 (by decide) ?_
          refine lv_isub E.1.1 E.1.2.1 dX7_addPeriod_64 ?_
          refine r_ial E Y 3 rfl (((k.1 3) - (1 : Int32)).toNatClampNeg) rfl (in_pred (by decide) kO.2.2.2.1 c_48) dX7_addPeriod_65 ?_
          refine lv_iadd E.1.1 E.1.2.1 dX7_addPeriod_66 ?_
          refine r_ias (w' := [(qm, .inr (9, [.int (k.1 0), .int (k.1 1), .ref ma, .int (k.1 2), .ref mb, .int (k.1 3), .ref me, .ref mr, .int (k.1 4), .int (k.1 5), .int (k.1 6), .int (k.1 7), .int (k.1 8), .int (k.1 9), .int (k.1 10), .ref mn, .ref ms, .int (y.1 0), .ref mk, .int (y.1 1)])), (mb, .inl (cI, 5, .inl k.2.1)), (ma, .inl (cI, 30, .inl k.2.2.1)), (me, .inl (cI, 12, .inl (upd k.2.2.2.1 ((k.1 3).toNatClampNeg) (p0 + (k.2.2.2.1 (((k.1 3) - (1 : Int32)).toNatClampNeg)))))), (mr, .inl (cI, 12, .inl k.2.2.2.2)), (mn, .inl (cI, 52, .inl v)), (ms, .inl (cI, 52, .inl a)), (mk, .inl (cI, 16, .inl y.2))]) E Y 3 rfl ((k.1 3).toNatClampNeg) rfl (in_ne (c := 12) (by decide) kO.2.2.2.1 c_29) rfl dX7_addPeriod_67 (fun H locs Y => ?_)
          refine lv_aload_n E.1.1 E.1.2.1 dX7_addPeriod_68 rfl (lv_at hl 0 rfl) ?_
          refine gf_X7_26 E Y 0 rfl rfl dX7_addPeriod_69 ?_
          refine lv_aload_n E.1.1 E.1.2.1 dX7_addPeriod_72 rfl (lv_at hl 0 rfl) ?_
          refine gf_X7_67 E Y 0 rfl rfl dX7_addPeriod_73 ?_
          refine lv_iload_n E.1.1 E.1.2.1 dX7_addPeriod_76 rfl (lv_at hl 2 rfl) ?_
          refine r_ias (w' := [(qm, .inr (9, [.int (k.1 0), .int (k.1 1), .ref ma, .int (k.1 2), .ref mb, .int (k.1 3), .ref me, .ref mr, .int (k.1 4), .int (k.1 5), .int (k.1 6), .int (k.1 7), .int (k.1 8), .int (k.1 9), .int (k.1 10), .ref mn, .ref ms, .int (y.1 0), .ref mk, .int (y.1 1)])), (mb, .inl (cI, 5, .inl k.2.1)), (ma, .inl (cI, 30, .inl k.2.2.1)), (me, .inl (cI, 12, .inl (upd k.2.2.2.1 ((k.1 3).toNatClampNeg) (p0 + (k.2.2.2.1 (((k.1 3) - (1 : Int32)).toNatClampNeg)))))), (mr, .inl (cI, 12, .inl (upd k.2.2.2.2 ((k.1 3).toNatClampNeg) p1))), (mn, .inl (cI, 52, .inl v)), (ms, .inl (cI, 52, .inl a)), (mk, .inl (cI, 16, .inl y.2))]) E Y 4 rfl ((k.1 3).toNatClampNeg) rfl (in_ne (c := 12) (by decide) kO.2.2.2.1 c_29) rfl dX7_addPeriod_77 (fun H locs Y => ?_)
          refine lv_aload_n E.1.1 E.1.2.1 dX7_addPeriod_78 rfl (lv_at hl 0 rfl) ?_
          refine lv_dup E.1.1 E.1.2.1 dX7_addPeriod_79 rfl ?_
          refine gf_X7_67 E Y 0 rfl rfl dX7_addPeriod_80 ?_
          refine lv_iconst (v := 1) E.1.1 E.1.2.1 dX7_addPeriod_83 (by decide) ?_
          refine lv_iadd E.1.1 E.1.2.1 dX7_addPeriod_84 ?_
          refine pf_X7_67 (w' := [(qm, .inr (9, [.int (k.1 0), .int (k.1 1), .ref ma, .int (k.1 2), .ref mb, .int ((k.1 3) + (1 : Int32)), .ref me, .ref mr, .int (k.1 4), .int (k.1 5), .int (k.1 6), .int (k.1 7), .int (k.1 8), .int (k.1 9), .int (k.1 10), .ref mn, .ref ms, .int (y.1 0), .ref mk, .int (y.1 1)])), (mb, .inl (cI, 5, .inl k.2.1)), (ma, .inl (cI, 30, .inl k.2.2.1)), (me, .inl (cI, 12, .inl (upd k.2.2.2.1 ((k.1 3).toNatClampNeg) (p0 + (k.2.2.2.1 (((k.1 3) - (1 : Int32)).toNatClampNeg)))))), (mr, .inl (cI, 12, .inl (upd k.2.2.2.2 ((k.1 3).toNatClampNeg) p1))), (mn, .inl (cI, 52, .inl v)), (ms, .inl (cI, 52, .inl a)), (mk, .inl (cI, 16, .inl y.2))]) E Y 0 rfl (Nat.le_of_ble_eq_true rfl) rfl dX7_addPeriod_85 (fun H locs Y => ?_)
          refine lv_aload_n E.1.1 E.1.2.1 dX7_addPeriod_88 rfl (lv_at hl 0 rfl) ?_
          refine gf_X7_67 E Y 0 rfl rfl dX7_addPeriod_89 ?_
          have e9 : (f_X7_addPeriod k p0 p1) = (((k.1 3) + (1 : Int32)), (upd (k.1) 3 ((k.1 3) + (1 : Int32)), k.2.1, k.2.2.1, (upd k.2.2.2.1 ((k.1 3).toNatClampNeg) (p0 + (k.2.2.2.1 (((k.1 3) - (1 : Int32)).toNatClampNeg)))), (upd k.2.2.2.2 ((k.1 3).toNatClampNeg) p1))) := (if_neg c_7).trans ((if_neg c_18).trans ((if_neg c_29).trans ((if_neg c_48).trans (rfl))))
          exact r_iret E Y hr hk ((k.1 3) + (1 : Int32)) (upd (k.1) 3 ((k.1 3) + (1 : Int32)), k.2.1, k.2.2.1, (upd k.2.2.2.1 ((k.1 3).toNatClampNeg) (p0 + (k.2.2.2.1 (((k.1 3) - (1 : Int32)).toNatClampNeg)))), (upd k.2.2.2.2 ((k.1 3).toNatClampNeg) p1)) (pr_of e9) rfl ⟨Nat.le_of_ble_eq_true rfl, Nat.le_of_ble_eq_true rfl⟩ dX7_addPeriod_92
        · skip
          refine lv_iconst (v := 0) E.1.1 E.1.2.1 dX7_addPeriod_51 (by decide) ?_
          refine lv_goto (tgt := 66) E.1.1 E.1.2.1 dX7_addPeriod_52 (by decide) ?_
          refine lv_iadd E.1.1 E.1.2.1 dX7_addPeriod_66 ?_
          refine r_ias (w' := [(qm, .inr (9, [.int (k.1 0), .int (k.1 1), .ref ma, .int (k.1 2), .ref mb, .int (k.1 3), .ref me, .ref mr, .int (k.1 4), .int (k.1 5), .int (k.1 6), .int (k.1 7), .int (k.1 8), .int (k.1 9), .int (k.1 10), .ref mn, .ref ms, .int (y.1 0), .ref mk, .int (y.1 1)])), (mb, .inl (cI, 5, .inl k.2.1)), (ma, .inl (cI, 30, .inl k.2.2.1)), (me, .inl (cI, 12, .inl (upd k.2.2.2.1 ((k.1 3).toNatClampNeg) (p0 + (0 : Int32))))), (mr, .inl (cI, 12, .inl k.2.2.2.2)), (mn, .inl (cI, 52, .inl v)), (ms, .inl (cI, 52, .inl a)), (mk, .inl (cI, 16, .inl y.2))]) E Y 3 rfl ((k.1 3).toNatClampNeg) rfl (in_ne (c := 12) (by decide) kO.2.2.2.1 c_29) rfl dX7_addPeriod_67 (fun H locs Y => ?_)
          refine lv_aload_n E.1.1 E.1.2.1 dX7_addPeriod_68 rfl (lv_at hl 0 rfl) ?_
          refine gf_X7_26 E Y 0 rfl rfl dX7_addPeriod_69 ?_
          refine lv_aload_n E.1.1 E.1.2.1 dX7_addPeriod_72 rfl (lv_at hl 0 rfl) ?_
          refine gf_X7_67 E Y 0 rfl rfl dX7_addPeriod_73 ?_
          refine lv_iload_n E.1.1 E.1.2.1 dX7_addPeriod_76 rfl (lv_at hl 2 rfl) ?_
          refine r_ias (w' := [(qm, .inr (9, [.int (k.1 0), .int (k.1 1), .ref ma, .int (k.1 2), .ref mb, .int (k.1 3), .ref me, .ref mr, .int (k.1 4), .int (k.1 5), .int (k.1 6), .int (k.1 7), .int (k.1 8), .int (k.1 9), .int (k.1 10), .ref mn, .ref ms, .int (y.1 0), .ref mk, .int (y.1 1)])), (mb, .inl (cI, 5, .inl k.2.1)), (ma, .inl (cI, 30, .inl k.2.2.1)), (me, .inl (cI, 12, .inl (upd k.2.2.2.1 ((k.1 3).toNatClampNeg) (p0 + (0 : Int32))))), (mr, .inl (cI, 12, .inl (upd k.2.2.2.2 ((k.1 3).toNatClampNeg) p1))), (mn, .inl (cI, 52, .inl v)), (ms, .inl (cI, 52, .inl a)), (mk, .inl (cI, 16, .inl y.2))]) E Y 4 rfl ((k.1 3).toNatClampNeg) rfl (in_ne (c := 12) (by decide) kO.2.2.2.1 c_29) rfl dX7_addPeriod_77 (fun H locs Y => ?_)
          refine lv_aload_n E.1.1 E.1.2.1 dX7_addPeriod_78 rfl (lv_at hl 0 rfl) ?_
          refine lv_dup E.1.1 E.1.2.1 dX7_addPeriod_79 rfl ?_
          refine gf_X7_67 E Y 0 rfl rfl dX7_addPeriod_80 ?_
          refine lv_iconst (v := 1) E.1.1 E.1.2.1 dX7_addPeriod_83 (by decide) ?_
          refine lv_iadd E.1.1 E.1.2.1 dX7_addPeriod_84 ?_
          refine pf_X7_67 (w' := [(qm, .inr (9, [.int (k.1 0), .int (k.1 1), .ref ma, .int (k.1 2), .ref mb, .int ((k.1 3) + (1 : Int32)), .ref me, .ref mr, .int (k.1 4), .int (k.1 5), .int (k.1 6), .int (k.1 7), .int (k.1 8), .int (k.1 9), .int (k.1 10), .ref mn, .ref ms, .int (y.1 0), .ref mk, .int (y.1 1)])), (mb, .inl (cI, 5, .inl k.2.1)), (ma, .inl (cI, 30, .inl k.2.2.1)), (me, .inl (cI, 12, .inl (upd k.2.2.2.1 ((k.1 3).toNatClampNeg) (p0 + (0 : Int32))))), (mr, .inl (cI, 12, .inl (upd k.2.2.2.2 ((k.1 3).toNatClampNeg) p1))), (mn, .inl (cI, 52, .inl v)), (ms, .inl (cI, 52, .inl a)), (mk, .inl (cI, 16, .inl y.2))]) E Y 0 rfl (Nat.le_of_ble_eq_true rfl) rfl dX7_addPeriod_85 (fun H locs Y => ?_)
          refine lv_aload_n E.1.1 E.1.2.1 dX7_addPeriod_88 rfl (lv_at hl 0 rfl) ?_
          refine gf_X7_67 E Y 0 rfl rfl dX7_addPeriod_89 ?_
          have e9 : (f_X7_addPeriod k p0 p1) = (((k.1 3) + (1 : Int32)), (upd (k.1) 3 ((k.1 3) + (1 : Int32)), k.2.1, k.2.2.1, (upd k.2.2.2.1 ((k.1 3).toNatClampNeg) (p0 + (0 : Int32))), (upd k.2.2.2.2 ((k.1 3).toNatClampNeg) p1))) := (if_neg c_7).trans ((if_neg c_18).trans ((if_neg c_29).trans ((if_pos c_48).trans (rfl))))
          exact r_iret E Y hr hk ((k.1 3) + (1 : Int32)) (upd (k.1) 3 ((k.1 3) + (1 : Int32)), k.2.1, k.2.2.1, (upd k.2.2.2.1 ((k.1 3).toNatClampNeg) (p0 + (0 : Int32))), (upd k.2.2.2.2 ((k.1 3).toNatClampNeg) p1)) (pr_of e9) rfl ⟨Nat.le_of_ble_eq_true rfl, Nat.le_of_ble_eq_true rfl⟩ dX7_addPeriod_92
      · skip
        refine lv_bipush (v := (-3)) E.1.1 E.1.2.1 dX7_addPeriod_32 (by decide) ?_
        have e9 : (f_X7_addPeriod k p0 p1) = ((-3 : Int32), k) := (if_neg c_7).trans ((if_neg c_18).trans ((if_pos c_29).trans (rfl)))
        exact r_iret E Y hr hk (-3 : Int32) k (pr_of e9) rfl ⟨Nat.le_of_ble_eq_true rfl, Nat.le_of_ble_eq_true rfl⟩ dX7_addPeriod_34
    · skip
      refine lv_iconst (v := (-1)) E.1.1 E.1.2.1 dX7_addPeriod_21 (by decide) ?_
      have e9 : (f_X7_addPeriod k p0 p1) = ((-1 : Int32), k) := (if_neg c_7).trans ((if_pos c_18).trans (rfl))
      exact r_iret E Y hr hk (-1 : Int32) k (pr_of e9) rfl ⟨Nat.le_of_ble_eq_true rfl, Nat.le_of_ble_eq_true rfl⟩ dX7_addPeriod_22

def f_X7_setBuffer (k : Cf) (p0 : Int32) (p1 : Int32) : Int32 × Cf := if (f_X7_within p0 (100 : Int32) (60000 : Int32)) = 0 then ((-1 : Int32), k) else (if (f_X7_within p1 (1 : Int32) p0) = 0 then ((-1 : Int32), k) else (if (k.1 4) = p0 then (if (k.1 5) = p1 then ((0 : Int32), (upd (upd (k.1) 4 p0) 5 p1, k.2.1, k.2.2.1, k.2.2.2.1, k.2.2.2.2)) else ((1 : Int32), (upd (upd (k.1) 4 p0) 5 p1, k.2.1, k.2.2.1, k.2.2.2.1, k.2.2.2.2))) else ((1 : Int32), (upd (upd (k.1) 4 p0) 5 p1, k.2.1, k.2.2.1, k.2.2.2.1, k.2.2.2.2))))
set_option maxRecDepth 100000 in
set_option maxHeartbeats 4000000 in
theorem c_X7_setBuffer {l : Launch} {D : va_G} {cI cB : ClassId} (qm mb ma me mr mn ms mk : Nat) (k : Cf) (v : Fn) (a : Fn) (y : Ky) (p0 : Int32) (p1 : Int32) : CI l X0 D cI cB yX7_setBuffer cX7_setBuffer 4 (some .int) 1 22 0 0 [.ref qm, .int p0, .int p1] (wM cI qm mb ma me mr mn ms mk k v a y) (fun (r : Int32) (u : Cf) => r = (f_X7_setBuffer k p0 p1).1 ∧ u = (f_X7_setBuffer k p0 p1).2) (fun u => (wM cI qm mb ma me mr mn ms mk u v a y)) := by
  refine CI.of (by decide) (Nat.le_of_ble_eq_true rfl) ?_
  intro p e s m below meth c A ls E hr hk hin hA hAA hX Y hl
  have E : EE p c cX7_setBuffer 4 s _ m RX7 D cI cB := E
  have hl : lv_has ls 4 [(0, .ref qm), (1, .int p0), (2, .int p1)] := hl
  refine lv_iload_n E.1.1 E.1.2.1 dX7_setBuffer_0 rfl (lv_at hl 1 rfl) ?_
  refine lv_bipush (v := 100) E.1.1 E.1.2.1 dX7_setBuffer_1 (by decide) ?_
  refine lv_ldc (v := 60000) E.1.1 E.1.2.1 E.1.2.2.2.1 (E.1.2.2.2.2 _ mk_X7_66) dX7_setBuffer_3 ?_
  refine r_Si (wr := [(qm, .inr (9, [.int (k.1 0), .int (k.1 1), .ref ma, .int (k.1 2), .ref mb, .int (k.1 3), .ref me, .ref mr, .int (k.1 4), .int (k.1 5), .int (k.1 6), .int (k.1 7), .int (k.1 8), .int (k.1 9), .int (k.1 10), .ref mn, .ref ms, .int (y.1 0), .ref mk, .int (y.1 1)])), (mb, .inl (cI, 5, .inl k.2.1)), (ma, .inl (cI, 30, .inl k.2.2.1)), (me, .inl (cI, 12, .inl k.2.2.2.1)), (mr, .inl (cI, 12, .inl k.2.2.2.2)), (mn, .inl (cI, 52, .inl v)), (ms, .inl (cI, 52, .inl a)), (mk, .inl (cI, 16, .inl y.2))]) (w2 := fun _ => [(qm, .inr (9, [.int (k.1 0), .int (k.1 1), .ref ma, .int (k.1 2), .ref mb, .int (k.1 3), .ref me, .ref mr, .int (k.1 4), .int (k.1 5), .int (k.1 6), .int (k.1 7), .int (k.1 8), .int (k.1 9), .int (k.1 10), .ref mn, .ref ms, .int (y.1 0), .ref mk, .int (y.1 1)])), (mb, .inl (cI, 5, .inl k.2.1)), (ma, .inl (cI, 30, .inl k.2.2.1)), (me, .inl (cI, 12, .inl k.2.2.2.1)), (mr, .inl (cI, 12, .inl k.2.2.2.2)), (mn, .inl (cI, 52, .inl v)), (ms, .inl (cI, 52, .inl a)), (mk, .inl (cI, 16, .inl y.2))]) E Y hA hl.1 (c_X7_within p0 (100 : Int32) (60000 : Int32)) lk_X7_59 X0b (fun _ _ _ => trivial) [] [0, 1, 2, 3, 4, 5, 6, 7] [0, 1, 2, 3, 4, 5, 6, 7] rfl rfl (by decide) (fun _ => rfl) ⟨Nat.le_of_ble_eq_true rfl, Nat.le_of_ble_eq_true rfl⟩ ⟨Nat.le_of_ble_eq_true rfl, Nat.le_of_ble_eq_true rfl⟩ rfl rfl (Nat.le_of_ble_eq_true rfl) dX7_setBuffer_5 (fun r u H locs hp Y => ?_)
  subst hp
  refine lv_if_eq (tgt := 20) E.1.1 E.1.2.1 dX7_setBuffer_8 (by decide) (fun c_8 => ?_) (fun c_8 => ?_)
  · skip
    refine lv_iconst (v := (-1)) E.1.1 E.1.2.1 dX7_setBuffer_20 (by decide) ?_
    have e9 : (f_X7_setBuffer k p0 p1) = ((-1 : Int32), k) := (if_pos c_8).trans (rfl)
    exact r_iret E Y hr hk (-1 : Int32) k (pr_of e9) rfl ⟨Nat.le_of_ble_eq_true rfl, Nat.le_of_ble_eq_true rfl⟩ dX7_setBuffer_21
  · skip
    refine lv_iload_n E.1.1 E.1.2.1 dX7_setBuffer_11 rfl (lv_at hl 2 rfl) ?_
    refine lv_iconst (v := 1) E.1.1 E.1.2.1 dX7_setBuffer_12 (by decide) ?_
    refine lv_iload_n E.1.1 E.1.2.1 dX7_setBuffer_13 rfl (lv_at hl 1 rfl) ?_
    refine r_Si (wr := [(qm, .inr (9, [.int (k.1 0), .int (k.1 1), .ref ma, .int (k.1 2), .ref mb, .int (k.1 3), .ref me, .ref mr, .int (k.1 4), .int (k.1 5), .int (k.1 6), .int (k.1 7), .int (k.1 8), .int (k.1 9), .int (k.1 10), .ref mn, .ref ms, .int (y.1 0), .ref mk, .int (y.1 1)])), (mb, .inl (cI, 5, .inl k.2.1)), (ma, .inl (cI, 30, .inl k.2.2.1)), (me, .inl (cI, 12, .inl k.2.2.2.1)), (mr, .inl (cI, 12, .inl k.2.2.2.2)), (mn, .inl (cI, 52, .inl v)), (ms, .inl (cI, 52, .inl a)), (mk, .inl (cI, 16, .inl y.2))]) (w2 := fun _ => [(qm, .inr (9, [.int (k.1 0), .int (k.1 1), .ref ma, .int (k.1 2), .ref mb, .int (k.1 3), .ref me, .ref mr, .int (k.1 4), .int (k.1 5), .int (k.1 6), .int (k.1 7), .int (k.1 8), .int (k.1 9), .int (k.1 10), .ref mn, .ref ms, .int (y.1 0), .ref mk, .int (y.1 1)])), (mb, .inl (cI, 5, .inl k.2.1)), (ma, .inl (cI, 30, .inl k.2.2.1)), (me, .inl (cI, 12, .inl k.2.2.2.1)), (mr, .inl (cI, 12, .inl k.2.2.2.2)), (mn, .inl (cI, 52, .inl v)), (ms, .inl (cI, 52, .inl a)), (mk, .inl (cI, 16, .inl y.2))]) E Y hA hl.1 (c_X7_within p1 (1 : Int32) p0) lk_X7_59 X0b (fun _ _ _ => trivial) [] [0, 1, 2, 3, 4, 5, 6, 7] [0, 1, 2, 3, 4, 5, 6, 7] rfl rfl (by decide) (fun _ => rfl) ⟨Nat.le_of_ble_eq_true rfl, Nat.le_of_ble_eq_true rfl⟩ ⟨Nat.le_of_ble_eq_true rfl, Nat.le_of_ble_eq_true rfl⟩ rfl rfl (Nat.le_of_ble_eq_true rfl) dX7_setBuffer_14 (fun r u H locs hp Y => ?_)
    subst hp
    refine lv_if_ne (tgt := 22) E.1.1 E.1.2.1 dX7_setBuffer_17 (by decide) (fun c_17 => ?_) (fun c_17 => ?_)
    · skip
      refine lv_aload_n E.1.1 E.1.2.1 dX7_setBuffer_22 rfl (lv_at hl 0 rfl) ?_
      refine gf_X7_29 E Y 0 rfl rfl dX7_setBuffer_23 ?_
      refine lv_iload_n E.1.1 E.1.2.1 dX7_setBuffer_26 rfl (lv_at hl 1 rfl) ?_
      refine lv_icmp_ne (tgt := 42) E.1.1 E.1.2.1 dX7_setBuffer_27 (by decide) (fun c_27 => ?_) (fun c_27 => ?_)
      · skip
        refine lv_iconst (v := 0) E.1.1 E.1.2.1 dX7_setBuffer_42 (by decide) ?_
        refine lv_istore_n (lv' := [(3, .int (0 : Int32)), (0, .ref qm), (1, .int p0), (2, .int p1)]) E.1.1 E.1.2.1 dX7_setBuffer_43 rfl hl (by decide) rfl (fun ls hl => ?_)
        refine lv_aload_n E.1.1 E.1.2.1 dX7_setBuffer_44 rfl (lv_at hl 1 rfl) ?_
        refine lv_iload_n E.1.1 E.1.2.1 dX7_setBuffer_45 rfl (lv_at hl 2 rfl) ?_
        refine pf_X7_29 (w' := [(qm, .inr (9, [.int (k.1 0), .int (k.1 1), .ref ma, .int (k.1 2), .ref mb, .int (k.1 3), .ref me, .ref mr, .int p0, .int (k.1 5), .int (k.1 6), .int (k.1 7), .int (k.1 8), .int (k.1 9), .int (k.1 10), .ref mn, .ref ms, .int (y.1 0), .ref mk, .int (y.1 1)])), (mb, .inl (cI, 5, .inl k.2.1)), (ma, .inl (cI, 30, .inl k.2.2.1)), (me, .inl (cI, 12, .inl k.2.2.2.1)), (mr, .inl (cI, 12, .inl k.2.2.2.2)), (mn, .inl (cI, 52, .inl v)), (ms, .inl (cI, 52, .inl a)), (mk, .inl (cI, 16, .inl y.2))]) E Y 0 rfl (Nat.le_of_ble_eq_true rfl) rfl dX7_setBuffer_46 (fun H locs Y => ?_)
        refine lv_aload_n E.1.1 E.1.2.1 dX7_setBuffer_49 rfl (lv_at hl 1 rfl) ?_
        refine lv_iload_n E.1.1 E.1.2.1 dX7_setBuffer_50 rfl (lv_at hl 3 rfl) ?_
        refine pf_X7_32 (w' := [(qm, .inr (9, [.int (k.1 0), .int (k.1 1), .ref ma, .int (k.1 2), .ref mb, .int (k.1 3), .ref me, .ref mr, .int p0, .int p1, .int (k.1 6), .int (k.1 7), .int (k.1 8), .int (k.1 9), .int (k.1 10), .ref mn, .ref ms, .int (y.1 0), .ref mk, .int (y.1 1)])), (mb, .inl (cI, 5, .inl k.2.1)), (ma, .inl (cI, 30, .inl k.2.2.1)), (me, .inl (cI, 12, .inl k.2.2.2.1)), (mr, .inl (cI, 12, .inl k.2.2.2.2)), (mn, .inl (cI, 52, .inl v)), (ms, .inl (cI, 52, .inl a)), (mk, .inl (cI, 16, .inl y.2))]) E Y 0 rfl (Nat.le_of_ble_eq_true rfl) rfl dX7_setBuffer_51 (fun H locs Y => ?_)
        refine lv_iload_n E.1.1 E.1.2.1 dX7_setBuffer_54 rfl (lv_at hl 0 rfl) ?_
        refine lv_if_eq (tgt := 62) E.1.1 E.1.2.1 dX7_setBuffer_55 (by decide) (fun c_55 => ?_) (fun c_55 => ?_)
        · skip
          refine lv_iconst (v := 1) E.1.1 E.1.2.1 dX7_setBuffer_62 (by decide) ?_
          have e9 : (f_X7_setBuffer k p0 p1) = ((1 : Int32), (upd (upd (k.1) 4 p0) 5 p1, k.2.1, k.2.2.1, k.2.2.2.1, k.2.2.2.2)) := (if_neg c_8).trans ((if_neg c_17).trans ((if_neg c_27).trans (rfl)))
          exact r_iret E Y hr hk (1 : Int32) (upd (upd (k.1) 4 p0) 5 p1, k.2.1, k.2.2.1, k.2.2.2.1, k.2.2.2.2) (pr_of e9) rfl ⟨Nat.le_of_ble_eq_true rfl, Nat.le_of_ble_eq_true rfl⟩ dX7_setBuffer_63
        · exact absurd (by decide) c_55
      · skip
        refine lv_aload_n E.1.1 E.1.2.1 dX7_setBuffer_30 rfl (lv_at hl 0 rfl) ?_
        refine gf_X7_32 E Y 0 rfl rfl dX7_setBuffer_31 ?_
        refine lv_iload_n E.1.1 E.1.2.1 dX7_setBuffer_34 rfl (lv_at hl 2 rfl) ?_
        refine lv_icmp_ne (tgt := 42) E.1.1 E.1.2.1 dX7_setBuffer_35 (by decide) (fun c_35 => ?_) (fun c_35 => ?_)
        · skip
          refine lv_iconst (v := 0) E.1.1 E.1.2.1 dX7_setBuffer_42 (by decide) ?_
          refine lv_istore_n (lv' := [(3, .int (0 : Int32)), (0, .ref qm), (1, .int p0), (2, .int p1)]) E.1.1 E.1.2.1 dX7_setBuffer_43 rfl hl (by decide) rfl (fun ls hl => ?_)
          refine lv_aload_n E.1.1 E.1.2.1 dX7_setBuffer_44 rfl (lv_at hl 1 rfl) ?_
          refine lv_iload_n E.1.1 E.1.2.1 dX7_setBuffer_45 rfl (lv_at hl 2 rfl) ?_
          refine pf_X7_29 (w' := [(qm, .inr (9, [.int (k.1 0), .int (k.1 1), .ref ma, .int (k.1 2), .ref mb, .int (k.1 3), .ref me, .ref mr, .int p0, .int (k.1 5), .int (k.1 6), .int (k.1 7), .int (k.1 8), .int (k.1 9), .int (k.1 10), .ref mn, .ref ms, .int (y.1 0), .ref mk, .int (y.1 1)])), (mb, .inl (cI, 5, .inl k.2.1)), (ma, .inl (cI, 30, .inl k.2.2.1)), (me, .inl (cI, 12, .inl k.2.2.2.1)), (mr, .inl (cI, 12, .inl k.2.2.2.2)), (mn, .inl (cI, 52, .inl v)), (ms, .inl (cI, 52, .inl a)), (mk, .inl (cI, 16, .inl y.2))]) E Y 0 rfl (Nat.le_of_ble_eq_true rfl) rfl dX7_setBuffer_46 (fun H locs Y => ?_)
          refine lv_aload_n E.1.1 E.1.2.1 dX7_setBuffer_49 rfl (lv_at hl 1 rfl) ?_
          refine lv_iload_n E.1.1 E.1.2.1 dX7_setBuffer_50 rfl (lv_at hl 3 rfl) ?_
          refine pf_X7_32 (w' := [(qm, .inr (9, [.int (k.1 0), .int (k.1 1), .ref ma, .int (k.1 2), .ref mb, .int (k.1 3), .ref me, .ref mr, .int p0, .int p1, .int (k.1 6), .int (k.1 7), .int (k.1 8), .int (k.1 9), .int (k.1 10), .ref mn, .ref ms, .int (y.1 0), .ref mk, .int (y.1 1)])), (mb, .inl (cI, 5, .inl k.2.1)), (ma, .inl (cI, 30, .inl k.2.2.1)), (me, .inl (cI, 12, .inl k.2.2.2.1)), (mr, .inl (cI, 12, .inl k.2.2.2.2)), (mn, .inl (cI, 52, .inl v)), (ms, .inl (cI, 52, .inl a)), (mk, .inl (cI, 16, .inl y.2))]) E Y 0 rfl (Nat.le_of_ble_eq_true rfl) rfl dX7_setBuffer_51 (fun H locs Y => ?_)
          refine lv_iload_n E.1.1 E.1.2.1 dX7_setBuffer_54 rfl (lv_at hl 0 rfl) ?_
          refine lv_if_eq (tgt := 62) E.1.1 E.1.2.1 dX7_setBuffer_55 (by decide) (fun c_55 => ?_) (fun c_55 => ?_)
          · skip
            refine lv_iconst (v := 1) E.1.1 E.1.2.1 dX7_setBuffer_62 (by decide) ?_
            have e9 : (f_X7_setBuffer k p0 p1) = ((1 : Int32), (upd (upd (k.1) 4 p0) 5 p1, k.2.1, k.2.2.1, k.2.2.2.1, k.2.2.2.2)) := (if_neg c_8).trans ((if_neg c_17).trans ((if_pos c_27).trans ((if_neg c_35).trans (rfl))))
            exact r_iret E Y hr hk (1 : Int32) (upd (upd (k.1) 4 p0) 5 p1, k.2.1, k.2.2.1, k.2.2.2.1, k.2.2.2.2) (pr_of e9) rfl ⟨Nat.le_of_ble_eq_true rfl, Nat.le_of_ble_eq_true rfl⟩ dX7_setBuffer_63
          · exact absurd (by decide) c_55
        · skip
          refine lv_iconst (v := 1) E.1.1 E.1.2.1 dX7_setBuffer_38 (by decide) ?_
          refine lv_goto (tgt := 43) E.1.1 E.1.2.1 dX7_setBuffer_39 (by decide) ?_
          refine lv_istore_n (lv' := [(3, .int (1 : Int32)), (0, .ref qm), (1, .int p0), (2, .int p1)]) E.1.1 E.1.2.1 dX7_setBuffer_43 rfl hl (by decide) rfl (fun ls hl => ?_)
          refine lv_aload_n E.1.1 E.1.2.1 dX7_setBuffer_44 rfl (lv_at hl 1 rfl) ?_
          refine lv_iload_n E.1.1 E.1.2.1 dX7_setBuffer_45 rfl (lv_at hl 2 rfl) ?_
          refine pf_X7_29 (w' := [(qm, .inr (9, [.int (k.1 0), .int (k.1 1), .ref ma, .int (k.1 2), .ref mb, .int (k.1 3), .ref me, .ref mr, .int p0, .int (k.1 5), .int (k.1 6), .int (k.1 7), .int (k.1 8), .int (k.1 9), .int (k.1 10), .ref mn, .ref ms, .int (y.1 0), .ref mk, .int (y.1 1)])), (mb, .inl (cI, 5, .inl k.2.1)), (ma, .inl (cI, 30, .inl k.2.2.1)), (me, .inl (cI, 12, .inl k.2.2.2.1)), (mr, .inl (cI, 12, .inl k.2.2.2.2)), (mn, .inl (cI, 52, .inl v)), (ms, .inl (cI, 52, .inl a)), (mk, .inl (cI, 16, .inl y.2))]) E Y 0 rfl (Nat.le_of_ble_eq_true rfl) rfl dX7_setBuffer_46 (fun H locs Y => ?_)
          refine lv_aload_n E.1.1 E.1.2.1 dX7_setBuffer_49 rfl (lv_at hl 1 rfl) ?_
          refine lv_iload_n E.1.1 E.1.2.1 dX7_setBuffer_50 rfl (lv_at hl 3 rfl) ?_
          refine pf_X7_32 (w' := [(qm, .inr (9, [.int (k.1 0), .int (k.1 1), .ref ma, .int (k.1 2), .ref mb, .int (k.1 3), .ref me, .ref mr, .int p0, .int p1, .int (k.1 6), .int (k.1 7), .int (k.1 8), .int (k.1 9), .int (k.1 10), .ref mn, .ref ms, .int (y.1 0), .ref mk, .int (y.1 1)])), (mb, .inl (cI, 5, .inl k.2.1)), (ma, .inl (cI, 30, .inl k.2.2.1)), (me, .inl (cI, 12, .inl k.2.2.2.1)), (mr, .inl (cI, 12, .inl k.2.2.2.2)), (mn, .inl (cI, 52, .inl v)), (ms, .inl (cI, 52, .inl a)), (mk, .inl (cI, 16, .inl y.2))]) E Y 0 rfl (Nat.le_of_ble_eq_true rfl) rfl dX7_setBuffer_51 (fun H locs Y => ?_)
          refine lv_iload_n E.1.1 E.1.2.1 dX7_setBuffer_54 rfl (lv_at hl 0 rfl) ?_
          refine lv_if_eq (tgt := 62) E.1.1 E.1.2.1 dX7_setBuffer_55 (by decide) (fun c_55 => ?_) (fun c_55 => ?_)
          · exact absurd c_55 (by decide)
          · skip
            refine lv_iconst (v := 0) E.1.1 E.1.2.1 dX7_setBuffer_58 (by decide) ?_
            refine lv_goto (tgt := 63) E.1.1 E.1.2.1 dX7_setBuffer_59 (by decide) ?_
            have e9 : (f_X7_setBuffer k p0 p1) = ((0 : Int32), (upd (upd (k.1) 4 p0) 5 p1, k.2.1, k.2.2.1, k.2.2.2.1, k.2.2.2.2)) := (if_neg c_8).trans ((if_neg c_17).trans ((if_pos c_27).trans ((if_pos c_35).trans (rfl))))
            exact r_iret E Y hr hk (0 : Int32) (upd (upd (k.1) 4 p0) 5 p1, k.2.1, k.2.2.1, k.2.2.2.1, k.2.2.2.2) (pr_of e9) rfl ⟨Nat.le_of_ble_eq_true rfl, Nat.le_of_ble_eq_true rfl⟩ dX7_setBuffer_63
    · skip
      refine lv_iconst (v := (-1)) E.1.1 E.1.2.1 dX7_setBuffer_20 (by decide) ?_
      have e9 : (f_X7_setBuffer k p0 p1) = ((-1 : Int32), k) := (if_neg c_8).trans ((if_pos c_17).trans (rfl))
      exact r_iret E Y hr hk (-1 : Int32) k (pr_of e9) rfl ⟨Nat.le_of_ble_eq_true rfl, Nat.le_of_ble_eq_true rfl⟩ dX7_setBuffer_21

def f_X7_setPolicyNumbers (k : Cf) (p0 : Int32) (p1 : Int32) (p2 : Int32) : Int32 × Cf := if (f_X7_within p0 (1 : Int32) (200 : Int32)) = 0 then ((-1 : Int32), k) else (if (f_X7_within p1 (0 : Int32) (60000 : Int32)) = 0 then ((-1 : Int32), k) else (if (f_X7_within p2 (1 : Int32) (60000 : Int32)) = 0 then ((-1 : Int32), k) else (if (k.1 6) = p0 then (if (k.1 7) = p1 then (if (k.1 8) = p2 then ((0 : Int32), (upd (upd (upd (k.1) 6 p0) 7 p1) 8 p2, k.2.1, k.2.2.1, k.2.2.2.1, k.2.2.2.2)) else ((1 : Int32), (upd (upd (upd (k.1) 6 p0) 7 p1) 8 p2, k.2.1, k.2.2.1, k.2.2.2.1, k.2.2.2.2))) else ((1 : Int32), (upd (upd (upd (k.1) 6 p0) 7 p1) 8 p2, k.2.1, k.2.2.1, k.2.2.2.1, k.2.2.2.2))) else ((1 : Int32), (upd (upd (upd (k.1) 6 p0) 7 p1) 8 p2, k.2.1, k.2.2.1, k.2.2.2.1, k.2.2.2.2)))))
set_option maxRecDepth 100000 in
set_option maxHeartbeats 4000000 in
theorem c_X7_setPolicyNumbers {l : Launch} {D : va_G} {cI cB : ClassId} (qm mb ma me mr mn ms mk : Nat) (k : Cf) (v : Fn) (a : Fn) (y : Ky) (p0 : Int32) (p1 : Int32) (p2 : Int32) : CI l X0 D cI cB yX7_setPolicyNumbers cX7_setPolicyNumbers 5 (some .int) 1 22 0 0 [.ref qm, .int p0, .int p1, .int p2] (wM cI qm mb ma me mr mn ms mk k v a y) (fun (r : Int32) (u : Cf) => r = (f_X7_setPolicyNumbers k p0 p1 p2).1 ∧ u = (f_X7_setPolicyNumbers k p0 p1 p2).2) (fun u => (wM cI qm mb ma me mr mn ms mk u v a y)) := by
  refine CI.of (by decide) (Nat.le_of_ble_eq_true rfl) ?_
  intro p e s m below meth c A ls E hr hk hin hA hAA hX Y hl
  have E : EE p c cX7_setPolicyNumbers 5 s _ m RX7 D cI cB := E
  have hl : lv_has ls 5 [(0, .ref qm), (1, .int p0), (2, .int p1), (3, .int p2)] := hl
  refine lv_iload_n E.1.1 E.1.2.1 dX7_setPolicyNumbers_0 rfl (lv_at hl 1 rfl) ?_
  refine lv_iconst (v := 1) E.1.1 E.1.2.1 dX7_setPolicyNumbers_1 (by decide) ?_
  refine lv_sipush (v := 200) E.1.1 E.1.2.1 dX7_setPolicyNumbers_2 (by decide) ?_
  refine r_Si (wr := [(qm, .inr (9, [.int (k.1 0), .int (k.1 1), .ref ma, .int (k.1 2), .ref mb, .int (k.1 3), .ref me, .ref mr, .int (k.1 4), .int (k.1 5), .int (k.1 6), .int (k.1 7), .int (k.1 8), .int (k.1 9), .int (k.1 10), .ref mn, .ref ms, .int (y.1 0), .ref mk, .int (y.1 1)])), (mb, .inl (cI, 5, .inl k.2.1)), (ma, .inl (cI, 30, .inl k.2.2.1)), (me, .inl (cI, 12, .inl k.2.2.2.1)), (mr, .inl (cI, 12, .inl k.2.2.2.2)), (mn, .inl (cI, 52, .inl v)), (ms, .inl (cI, 52, .inl a)), (mk, .inl (cI, 16, .inl y.2))]) (w2 := fun _ => [(qm, .inr (9, [.int (k.1 0), .int (k.1 1), .ref ma, .int (k.1 2), .ref mb, .int (k.1 3), .ref me, .ref mr, .int (k.1 4), .int (k.1 5), .int (k.1 6), .int (k.1 7), .int (k.1 8), .int (k.1 9), .int (k.1 10), .ref mn, .ref ms, .int (y.1 0), .ref mk, .int (y.1 1)])), (mb, .inl (cI, 5, .inl k.2.1)), (ma, .inl (cI, 30, .inl k.2.2.1)), (me, .inl (cI, 12, .inl k.2.2.2.1)), (mr, .inl (cI, 12, .inl k.2.2.2.2)), (mn, .inl (cI, 52, .inl v)), (ms, .inl (cI, 52, .inl a)), (mk, .inl (cI, 16, .inl y.2))]) E Y hA hl.1 (c_X7_within p0 (1 : Int32) (200 : Int32)) lk_X7_59 X0b (fun _ _ _ => trivial) [] [0, 1, 2, 3, 4, 5, 6, 7] [0, 1, 2, 3, 4, 5, 6, 7] rfl rfl (by decide) (fun _ => rfl) ⟨Nat.le_of_ble_eq_true rfl, Nat.le_of_ble_eq_true rfl⟩ ⟨Nat.le_of_ble_eq_true rfl, Nat.le_of_ble_eq_true rfl⟩ rfl rfl (Nat.le_of_ble_eq_true rfl) dX7_setPolicyNumbers_5 (fun r u H locs hp Y => ?_)
  subst hp
  refine lv_if_eq (tgt := 31) E.1.1 E.1.2.1 dX7_setPolicyNumbers_8 (by decide) (fun c_8 => ?_) (fun c_8 => ?_)
  · skip
    refine lv_iconst (v := (-1)) E.1.1 E.1.2.1 dX7_setPolicyNumbers_31 (by decide) ?_
    have e9 : (f_X7_setPolicyNumbers k p0 p1 p2) = ((-1 : Int32), k) := (if_pos c_8).trans (rfl)
    exact r_iret E Y hr hk (-1 : Int32) k (pr_of e9) rfl ⟨Nat.le_of_ble_eq_true rfl, Nat.le_of_ble_eq_true rfl⟩ dX7_setPolicyNumbers_32
  · skip
    refine lv_iload_n E.1.1 E.1.2.1 dX7_setPolicyNumbers_11 rfl (lv_at hl 2 rfl) ?_
    refine lv_iconst (v := 0) E.1.1 E.1.2.1 dX7_setPolicyNumbers_12 (by decide) ?_
    refine lv_ldc (v := 60000) E.1.1 E.1.2.1 E.1.2.2.2.1 (E.1.2.2.2.2 _ mk_X7_66) dX7_setPolicyNumbers_13 ?_
    refine r_Si (wr := [(qm, .inr (9, [.int (k.1 0), .int (k.1 1), .ref ma, .int (k.1 2), .ref mb, .int (k.1 3), .ref me, .ref mr, .int (k.1 4), .int (k.1 5), .int (k.1 6), .int (k.1 7), .int (k.1 8), .int (k.1 9), .int (k.1 10), .ref mn, .ref ms, .int (y.1 0), .ref mk, .int (y.1 1)])), (mb, .inl (cI, 5, .inl k.2.1)), (ma, .inl (cI, 30, .inl k.2.2.1)), (me, .inl (cI, 12, .inl k.2.2.2.1)), (mr, .inl (cI, 12, .inl k.2.2.2.2)), (mn, .inl (cI, 52, .inl v)), (ms, .inl (cI, 52, .inl a)), (mk, .inl (cI, 16, .inl y.2))]) (w2 := fun _ => [(qm, .inr (9, [.int (k.1 0), .int (k.1 1), .ref ma, .int (k.1 2), .ref mb, .int (k.1 3), .ref me, .ref mr, .int (k.1 4), .int (k.1 5), .int (k.1 6), .int (k.1 7), .int (k.1 8), .int (k.1 9), .int (k.1 10), .ref mn, .ref ms, .int (y.1 0), .ref mk, .int (y.1 1)])), (mb, .inl (cI, 5, .inl k.2.1)), (ma, .inl (cI, 30, .inl k.2.2.1)), (me, .inl (cI, 12, .inl k.2.2.2.1)), (mr, .inl (cI, 12, .inl k.2.2.2.2)), (mn, .inl (cI, 52, .inl v)), (ms, .inl (cI, 52, .inl a)), (mk, .inl (cI, 16, .inl y.2))]) E Y hA hl.1 (c_X7_within p1 (0 : Int32) (60000 : Int32)) lk_X7_59 X0b (fun _ _ _ => trivial) [] [0, 1, 2, 3, 4, 5, 6, 7] [0, 1, 2, 3, 4, 5, 6, 7] rfl rfl (by decide) (fun _ => rfl) ⟨Nat.le_of_ble_eq_true rfl, Nat.le_of_ble_eq_true rfl⟩ ⟨Nat.le_of_ble_eq_true rfl, Nat.le_of_ble_eq_true rfl⟩ rfl rfl (Nat.le_of_ble_eq_true rfl) dX7_setPolicyNumbers_15 (fun r u H locs hp Y => ?_)
    subst hp
    refine lv_if_eq (tgt := 31) E.1.1 E.1.2.1 dX7_setPolicyNumbers_18 (by decide) (fun c_18 => ?_) (fun c_18 => ?_)
    · skip
      refine lv_iconst (v := (-1)) E.1.1 E.1.2.1 dX7_setPolicyNumbers_31 (by decide) ?_
      have e9 : (f_X7_setPolicyNumbers k p0 p1 p2) = ((-1 : Int32), k) := (if_neg c_8).trans ((if_pos c_18).trans (rfl))
      exact r_iret E Y hr hk (-1 : Int32) k (pr_of e9) rfl ⟨Nat.le_of_ble_eq_true rfl, Nat.le_of_ble_eq_true rfl⟩ dX7_setPolicyNumbers_32
    · skip
      refine lv_iload_n E.1.1 E.1.2.1 dX7_setPolicyNumbers_21 rfl (lv_at hl 3 rfl) ?_
      refine lv_iconst (v := 1) E.1.1 E.1.2.1 dX7_setPolicyNumbers_22 (by decide) ?_
      refine lv_ldc (v := 60000) E.1.1 E.1.2.1 E.1.2.2.2.1 (E.1.2.2.2.2 _ mk_X7_66) dX7_setPolicyNumbers_23 ?_
      refine r_Si (wr := [(qm, .inr (9, [.int (k.1 0), .int (k.1 1), .ref ma, .int (k.1 2), .ref mb, .int (k.1 3), .ref me, .ref mr, .int (k.1 4), .int (k.1 5), .int (k.1 6), .int (k.1 7), .int (k.1 8), .int (k.1 9), .int (k.1 10), .ref mn, .ref ms, .int (y.1 0), .ref mk, .int (y.1 1)])), (mb, .inl (cI, 5, .inl k.2.1)), (ma, .inl (cI, 30, .inl k.2.2.1)), (me, .inl (cI, 12, .inl k.2.2.2.1)), (mr, .inl (cI, 12, .inl k.2.2.2.2)), (mn, .inl (cI, 52, .inl v)), (ms, .inl (cI, 52, .inl a)), (mk, .inl (cI, 16, .inl y.2))]) (w2 := fun _ => [(qm, .inr (9, [.int (k.1 0), .int (k.1 1), .ref ma, .int (k.1 2), .ref mb, .int (k.1 3), .ref me, .ref mr, .int (k.1 4), .int (k.1 5), .int (k.1 6), .int (k.1 7), .int (k.1 8), .int (k.1 9), .int (k.1 10), .ref mn, .ref ms, .int (y.1 0), .ref mk, .int (y.1 1)])), (mb, .inl (cI, 5, .inl k.2.1)), (ma, .inl (cI, 30, .inl k.2.2.1)), (me, .inl (cI, 12, .inl k.2.2.2.1)), (mr, .inl (cI, 12, .inl k.2.2.2.2)), (mn, .inl (cI, 52, .inl v)), (ms, .inl (cI, 52, .inl a)), (mk, .inl (cI, 16, .inl y.2))]) E Y hA hl.1 (c_X7_within p2 (1 : Int32) (60000 : Int32)) lk_X7_59 X0b (fun _ _ _ => trivial) [] [0, 1, 2, 3, 4, 5, 6, 7] [0, 1, 2, 3, 4, 5, 6, 7] rfl rfl (by decide) (fun _ => rfl) ⟨Nat.le_of_ble_eq_true rfl, Nat.le_of_ble_eq_true rfl⟩ ⟨Nat.le_of_ble_eq_true rfl, Nat.le_of_ble_eq_true rfl⟩ rfl rfl (Nat.le_of_ble_eq_true rfl) dX7_setPolicyNumbers_25 (fun r u H locs hp Y => ?_)
      subst hp
      refine lv_if_ne (tgt := 33) E.1.1 E.1.2.1 dX7_setPolicyNumbers_28 (by decide) (fun c_28 => ?_) (fun c_28 => ?_)
      · skip
        refine lv_aload_n E.1.1 E.1.2.1 dX7_setPolicyNumbers_33 rfl (lv_at hl 0 rfl) ?_
        refine gf_X7_35 E Y 0 rfl rfl dX7_setPolicyNumbers_34 ?_
        refine lv_iload_n E.1.1 E.1.2.1 dX7_setPolicyNumbers_37 rfl (lv_at hl 1 rfl) ?_
        refine lv_icmp_ne (tgt := 61) E.1.1 E.1.2.1 dX7_setPolicyNumbers_38 (by decide) (fun c_38 => ?_) (fun c_38 => ?_)
        · skip
          refine lv_iconst (v := 0) E.1.1 E.1.2.1 dX7_setPolicyNumbers_61 (by decide) ?_
          refine lv_istore (lv' := [(4, .int (0 : Int32)), (0, .ref qm), (1, .int p0), (2, .int p1), (3, .int p2)]) E.1.1 E.1.2.1 dX7_setPolicyNumbers_62 hl (by decide) rfl (fun ls hl => ?_)
          refine lv_aload_n E.1.1 E.1.2.1 dX7_setPolicyNumbers_64 rfl (lv_at hl 1 rfl) ?_
          refine lv_iload_n E.1.1 E.1.2.1 dX7_setPolicyNumbers_65 rfl (lv_at hl 2 rfl) ?_
          refine pf_X7_35 (w' := [(qm, .inr (9, [.int (k.1 0), .int (k.1 1), .ref ma, .int (k.1 2), .ref mb, .int (k.1 3), .ref me, .ref mr, .int (k.1 4), .int (k.1 5), .int p0, .int (k.1 7), .int (k.1 8), .int (k.1 9), .int (k.1 10), .ref mn, .ref ms, .int (y.1 0), .ref mk, .int (y.1 1)])), (mb, .inl (cI, 5, .inl k.2.1)), (ma, .inl (cI, 30, .inl k.2.2.1)), (me, .inl (cI, 12, .inl k.2.2.2.1)), (mr, .inl (cI, 12, .inl k.2.2.2.2)), (mn, .inl (cI, 52, .inl v)), (ms, .inl (cI, 52, .inl a)), (mk, .inl (cI, 16, .inl y.2))]) E Y 0 rfl (Nat.le_of_ble_eq_true rfl) rfl dX7_setPolicyNumbers_66 (fun H locs Y => ?_)
          refine lv_aload_n E.1.1 E.1.2.1 dX7_setPolicyNumbers_69 rfl (lv_at hl 1 rfl) ?_
          refine lv_iload_n E.1.1 E.1.2.1 dX7_setPolicyNumbers_70 rfl (lv_at hl 3 rfl) ?_
          refine pf_X7_38 (w' := [(qm, .inr (9, [.int (k.1 0), .int (k.1 1), .ref ma, .int (k.1 2), .ref mb, .int (k.1 3), .ref me, .ref mr, .int (k.1 4), .int (k.1 5), .int p0, .int p1, .int (k.1 8), .int (k.1 9), .int (k.1 10), .ref mn, .ref ms, .int (y.1 0), .ref mk, .int (y.1 1)])), (mb, .inl (cI, 5, .inl k.2.1)), (ma, .inl (cI, 30, .inl k.2.2.1)), (me, .inl (cI, 12, .inl k.2.2.2.1)), (mr, .inl (cI, 12, .inl k.2.2.2.2)), (mn, .inl (cI, 52, .inl v)), (ms, .inl (cI, 52, .inl a)), (mk, .inl (cI, 16, .inl y.2))]) E Y 0 rfl (Nat.le_of_ble_eq_true rfl) rfl dX7_setPolicyNumbers_71 (fun H locs Y => ?_)
          refine lv_aload_n E.1.1 E.1.2.1 dX7_setPolicyNumbers_74 rfl (lv_at hl 1 rfl) ?_
          refine lv_iload_n E.1.1 E.1.2.1 dX7_setPolicyNumbers_75 rfl (lv_at hl 4 rfl) ?_
          refine pf_X7_41 (w' := [(qm, .inr (9, [.int (k.1 0), .int (k.1 1), .ref ma, .int (k.1 2), .ref mb, .int (k.1 3), .ref me, .ref mr, .int (k.1 4), .int (k.1 5), .int p0, .int p1, .int p2, .int (k.1 9), .int (k.1 10), .ref mn, .ref ms, .int (y.1 0), .ref mk, .int (y.1 1)])), (mb, .inl (cI, 5, .inl k.2.1)), (ma, .inl (cI, 30, .inl k.2.2.1)), (me, .inl (cI, 12, .inl k.2.2.2.1)), (mr, .inl (cI, 12, .inl k.2.2.2.2)), (mn, .inl (cI, 52, .inl v)), (ms, .inl (cI, 52, .inl a)), (mk, .inl (cI, 16, .inl y.2))]) E Y 0 rfl (Nat.le_of_ble_eq_true rfl) rfl dX7_setPolicyNumbers_76 (fun H locs Y => ?_)
          refine lv_iload E.1.1 E.1.2.1 dX7_setPolicyNumbers_79 (lv_at hl 0 rfl) ?_
          refine lv_if_eq (tgt := 88) E.1.1 E.1.2.1 dX7_setPolicyNumbers_81 (by decide) (fun c_81 => ?_) (fun c_81 => ?_)
          · skip
            refine lv_iconst (v := 1) E.1.1 E.1.2.1 dX7_setPolicyNumbers_88 (by decide) ?_
            have e9 : (f_X7_setPolicyNumbers k p0 p1 p2) = ((1 : Int32), (upd (upd (upd (k.1) 6 p0) 7 p1) 8 p2, k.2.1, k.2.2.1, k.2.2.2.1, k.2.2.2.2)) := (if_neg c_8).trans ((if_neg c_18).trans ((if_neg c_28).trans ((if_neg c_38).trans (rfl))))
            exact r_iret E Y hr hk (1 : Int32) (upd (upd (upd (k.1) 6 p0) 7 p1) 8 p2, k.2.1, k.2.2.1, k.2.2.2.1, k.2.2.2.2) (pr_of e9) rfl ⟨Nat.le_of_ble_eq_true rfl, Nat.le_of_ble_eq_true rfl⟩ dX7_setPolicyNumbers_89
          · exact absurd (by decide) c_81
        · skip
          refine lv_aload_n E.1.1 E.1.2.1 dX7_setPolicyNumbers_41 rfl (lv_at hl 0 rfl) ?_
          refine gf_X7_38 E Y 0 rfl rfl dX7_setPolicyNumbers_42 ?_
          refine lv_iload_n E.1.1 E.1.2.1 dX7_setPolicyNumbers_45 rfl (lv_at hl 2 rfl) ?_
          refine lv_icmp_ne (tgt := 61) E.1.1 E.1.2.1 dX7_setPolicyNumbers_46 (by decide) (fun c_46 => ?_) (fun c_46 => ?_)
          · skip
            refine lv_iconst (v := 0) E.1.1 E.1.2.1 dX7_setPolicyNumbers_61 (by decide) ?_
            refine lv_istore (lv' := [(4, .int (0 : Int32)), (0, .ref qm), (1, .int p0), (2, .int p1), (3, .int p2)]) E.1.1 E.1.2.1 dX7_setPolicyNumbers_62 hl (by decide) rfl (fun ls hl => ?_)
            refine lv_aload_n E.1.1 E.1.2.1 dX7_setPolicyNumbers_64 rfl (lv_at hl 1 rfl) ?_
            refine lv_iload_n E.1.1 E.1.2.1 dX7_setPolicyNumbers_65 rfl (lv_at hl 2 rfl) ?_
            refine pf_X7_35 (w' := [(qm, .inr (9, [.int (k.1 0), .int (k.1 1), .ref ma, .int (k.1 2), .ref mb, .int (k.1 3), .ref me, .ref mr, .int (k.1 4), .int (k.1 5), .int p0, .int (k.1 7), .int (k.1 8), .int (k.1 9), .int (k.1 10), .ref mn, .ref ms, .int (y.1 0), .ref mk, .int (y.1 1)])), (mb, .inl (cI, 5, .inl k.2.1)), (ma, .inl (cI, 30, .inl k.2.2.1)), (me, .inl (cI, 12, .inl k.2.2.2.1)), (mr, .inl (cI, 12, .inl k.2.2.2.2)), (mn, .inl (cI, 52, .inl v)), (ms, .inl (cI, 52, .inl a)), (mk, .inl (cI, 16, .inl y.2))]) E Y 0 rfl (Nat.le_of_ble_eq_true rfl) rfl dX7_setPolicyNumbers_66 (fun H locs Y => ?_)
            refine lv_aload_n E.1.1 E.1.2.1 dX7_setPolicyNumbers_69 rfl (lv_at hl 1 rfl) ?_
            refine lv_iload_n E.1.1 E.1.2.1 dX7_setPolicyNumbers_70 rfl (lv_at hl 3 rfl) ?_
            refine pf_X7_38 (w' := [(qm, .inr (9, [.int (k.1 0), .int (k.1 1), .ref ma, .int (k.1 2), .ref mb, .int (k.1 3), .ref me, .ref mr, .int (k.1 4), .int (k.1 5), .int p0, .int p1, .int (k.1 8), .int (k.1 9), .int (k.1 10), .ref mn, .ref ms, .int (y.1 0), .ref mk, .int (y.1 1)])), (mb, .inl (cI, 5, .inl k.2.1)), (ma, .inl (cI, 30, .inl k.2.2.1)), (me, .inl (cI, 12, .inl k.2.2.2.1)), (mr, .inl (cI, 12, .inl k.2.2.2.2)), (mn, .inl (cI, 52, .inl v)), (ms, .inl (cI, 52, .inl a)), (mk, .inl (cI, 16, .inl y.2))]) E Y 0 rfl (Nat.le_of_ble_eq_true rfl) rfl dX7_setPolicyNumbers_71 (fun H locs Y => ?_)
            refine lv_aload_n E.1.1 E.1.2.1 dX7_setPolicyNumbers_74 rfl (lv_at hl 1 rfl) ?_
            refine lv_iload_n E.1.1 E.1.2.1 dX7_setPolicyNumbers_75 rfl (lv_at hl 4 rfl) ?_
            refine pf_X7_41 (w' := [(qm, .inr (9, [.int (k.1 0), .int (k.1 1), .ref ma, .int (k.1 2), .ref mb, .int (k.1 3), .ref me, .ref mr, .int (k.1 4), .int (k.1 5), .int p0, .int p1, .int p2, .int (k.1 9), .int (k.1 10), .ref mn, .ref ms, .int (y.1 0), .ref mk, .int (y.1 1)])), (mb, .inl (cI, 5, .inl k.2.1)), (ma, .inl (cI, 30, .inl k.2.2.1)), (me, .inl (cI, 12, .inl k.2.2.2.1)), (mr, .inl (cI, 12, .inl k.2.2.2.2)), (mn, .inl (cI, 52, .inl v)), (ms, .inl (cI, 52, .inl a)), (mk, .inl (cI, 16, .inl y.2))]) E Y 0 rfl (Nat.le_of_ble_eq_true rfl) rfl dX7_setPolicyNumbers_76 (fun H locs Y => ?_)
            refine lv_iload E.1.1 E.1.2.1 dX7_setPolicyNumbers_79 (lv_at hl 0 rfl) ?_
            refine lv_if_eq (tgt := 88) E.1.1 E.1.2.1 dX7_setPolicyNumbers_81 (by decide) (fun c_81 => ?_) (fun c_81 => ?_)
            · skip
              refine lv_iconst (v := 1) E.1.1 E.1.2.1 dX7_setPolicyNumbers_88 (by decide) ?_
              have e9 : (f_X7_setPolicyNumbers k p0 p1 p2) = ((1 : Int32), (upd (upd (upd (k.1) 6 p0) 7 p1) 8 p2, k.2.1, k.2.2.1, k.2.2.2.1, k.2.2.2.2)) := (if_neg c_8).trans ((if_neg c_18).trans ((if_neg c_28).trans ((if_pos c_38).trans ((if_neg c_46).trans (rfl)))))
              exact r_iret E Y hr hk (1 : Int32) (upd (upd (upd (k.1) 6 p0) 7 p1) 8 p2, k.2.1, k.2.2.1, k.2.2.2.1, k.2.2.2.2) (pr_of e9) rfl ⟨Nat.le_of_ble_eq_true rfl, Nat.le_of_ble_eq_true rfl⟩ dX7_setPolicyNumbers_89
            · exact absurd (by decide) c_81
          · skip
            refine lv_aload_n E.1.1 E.1.2.1 dX7_setPolicyNumbers_49 rfl (lv_at hl 0 rfl) ?_
            refine gf_X7_41 E Y 0 rfl rfl dX7_setPolicyNumbers_50 ?_
            refine lv_iload_n E.1.1 E.1.2.1 dX7_setPolicyNumbers_53 rfl (lv_at hl 3 rfl) ?_
            refine lv_icmp_ne (tgt := 61) E.1.1 E.1.2.1 dX7_setPolicyNumbers_54 (by decide) (fun c_54 => ?_) (fun c_54 => ?_)
            · skip
              refine lv_iconst (v := 0) E.1.1 E.1.2.1 dX7_setPolicyNumbers_61 (by decide) ?_
              refine lv_istore (lv' := [(4, .int (0 : Int32)), (0, .ref qm), (1, .int p0), (2, .int p1), (3, .int p2)]) E.1.1 E.1.2.1 dX7_setPolicyNumbers_62 hl (by decide) rfl (fun ls hl => ?_)
              refine lv_aload_n E.1.1 E.1.2.1 dX7_setPolicyNumbers_64 rfl (lv_at hl 1 rfl) ?_
              refine lv_iload_n E.1.1 E.1.2.1 dX7_setPolicyNumbers_65 rfl (lv_at hl 2 rfl) ?_
              refine pf_X7_35 (w' := [(qm, .inr (9, [.int (k.1 0), .int (k.1 1), .ref ma, .int (k.1 2), .ref mb, .int (k.1 3), .ref me, .ref mr, .int (k.1 4), .int (k.1 5), .int p0, .int (k.1 7), .int (k.1 8), .int (k.1 9), .int (k.1 10), .ref mn, .ref ms, .int (y.1 0), .ref mk, .int (y.1 1)])), (mb, .inl (cI, 5, .inl k.2.1)), (ma, .inl (cI, 30, .inl k.2.2.1)), (me, .inl (cI, 12, .inl k.2.2.2.1)), (mr, .inl (cI, 12, .inl k.2.2.2.2)), (mn, .inl (cI, 52, .inl v)), (ms, .inl (cI, 52, .inl a)), (mk, .inl (cI, 16, .inl y.2))]) E Y 0 rfl (Nat.le_of_ble_eq_true rfl) rfl dX7_setPolicyNumbers_66 (fun H locs Y => ?_)
              refine lv_aload_n E.1.1 E.1.2.1 dX7_setPolicyNumbers_69 rfl (lv_at hl 1 rfl) ?_
              refine lv_iload_n E.1.1 E.1.2.1 dX7_setPolicyNumbers_70 rfl (lv_at hl 3 rfl) ?_
              refine pf_X7_38 (w' := [(qm, .inr (9, [.int (k.1 0), .int (k.1 1), .ref ma, .int (k.1 2), .ref mb, .int (k.1 3), .ref me, .ref mr, .int (k.1 4), .int (k.1 5), .int p0, .int p1, .int (k.1 8), .int (k.1 9), .int (k.1 10), .ref mn, .ref ms, .int (y.1 0), .ref mk, .int (y.1 1)])), (mb, .inl (cI, 5, .inl k.2.1)), (ma, .inl (cI, 30, .inl k.2.2.1)), (me, .inl (cI, 12, .inl k.2.2.2.1)), (mr, .inl (cI, 12, .inl k.2.2.2.2)), (mn, .inl (cI, 52, .inl v)), (ms, .inl (cI, 52, .inl a)), (mk, .inl (cI, 16, .inl y.2))]) E Y 0 rfl (Nat.le_of_ble_eq_true rfl) rfl dX7_setPolicyNumbers_71 (fun H locs Y => ?_)
              refine lv_aload_n E.1.1 E.1.2.1 dX7_setPolicyNumbers_74 rfl (lv_at hl 1 rfl) ?_
              refine lv_iload_n E.1.1 E.1.2.1 dX7_setPolicyNumbers_75 rfl (lv_at hl 4 rfl) ?_
              refine pf_X7_41 (w' := [(qm, .inr (9, [.int (k.1 0), .int (k.1 1), .ref ma, .int (k.1 2), .ref mb, .int (k.1 3), .ref me, .ref mr, .int (k.1 4), .int (k.1 5), .int p0, .int p1, .int p2, .int (k.1 9), .int (k.1 10), .ref mn, .ref ms, .int (y.1 0), .ref mk, .int (y.1 1)])), (mb, .inl (cI, 5, .inl k.2.1)), (ma, .inl (cI, 30, .inl k.2.2.1)), (me, .inl (cI, 12, .inl k.2.2.2.1)), (mr, .inl (cI, 12, .inl k.2.2.2.2)), (mn, .inl (cI, 52, .inl v)), (ms, .inl (cI, 52, .inl a)), (mk, .inl (cI, 16, .inl y.2))]) E Y 0 rfl (Nat.le_of_ble_eq_true rfl) rfl dX7_setPolicyNumbers_76 (fun H locs Y => ?_)
              refine lv_iload E.1.1 E.1.2.1 dX7_setPolicyNumbers_79 (lv_at hl 0 rfl) ?_
              refine lv_if_eq (tgt := 88) E.1.1 E.1.2.1 dX7_setPolicyNumbers_81 (by decide) (fun c_81 => ?_) (fun c_81 => ?_)
              · skip
                refine lv_iconst (v := 1) E.1.1 E.1.2.1 dX7_setPolicyNumbers_88 (by decide) ?_
                have e9 : (f_X7_setPolicyNumbers k p0 p1 p2) = ((1 : Int32), (upd (upd (upd (k.1) 6 p0) 7 p1) 8 p2, k.2.1, k.2.2.1, k.2.2.2.1, k.2.2.2.2)) := (if_neg c_8).trans ((if_neg c_18).trans ((if_neg c_28).trans ((if_pos c_38).trans ((if_pos c_46).trans ((if_neg c_54).trans (rfl))))))
                exact r_iret E Y hr hk (1 : Int32) (upd (upd (upd (k.1) 6 p0) 7 p1) 8 p2, k.2.1, k.2.2.1, k.2.2.2.1, k.2.2.2.2) (pr_of e9) rfl ⟨Nat.le_of_ble_eq_true rfl, Nat.le_of_ble_eq_true rfl⟩ dX7_setPolicyNumbers_89
              · exact absurd (by decide) c_81
            · skip
              refine lv_iconst (v := 1) E.1.1 E.1.2.1 dX7_setPolicyNumbers_57 (by decide) ?_
              refine lv_goto (tgt := 62) E.1.1 E.1.2.1 dX7_setPolicyNumbers_58 (by decide) ?_
              refine lv_istore (lv' := [(4, .int (1 : Int32)), (0, .ref qm), (1, .int p0), (2, .int p1), (3, .int p2)]) E.1.1 E.1.2.1 dX7_setPolicyNumbers_62 hl (by decide) rfl (fun ls hl => ?_)
              refine lv_aload_n E.1.1 E.1.2.1 dX7_setPolicyNumbers_64 rfl (lv_at hl 1 rfl) ?_
              refine lv_iload_n E.1.1 E.1.2.1 dX7_setPolicyNumbers_65 rfl (lv_at hl 2 rfl) ?_
              refine pf_X7_35 (w' := [(qm, .inr (9, [.int (k.1 0), .int (k.1 1), .ref ma, .int (k.1 2), .ref mb, .int (k.1 3), .ref me, .ref mr, .int (k.1 4), .int (k.1 5), .int p0, .int (k.1 7), .int (k.1 8), .int (k.1 9), .int (k.1 10), .ref mn, .ref ms, .int (y.1 0), .ref mk, .int (y.1 1)])), (mb, .inl (cI, 5, .inl k.2.1)), (ma, .inl (cI, 30, .inl k.2.2.1)), (me, .inl (cI, 12, .inl k.2.2.2.1)), (mr, .inl (cI, 12, .inl k.2.2.2.2)), (mn, .inl (cI, 52, .inl v)), (ms, .inl (cI, 52, .inl a)), (mk, .inl (cI, 16, .inl y.2))]) E Y 0 rfl (Nat.le_of_ble_eq_true rfl) rfl dX7_setPolicyNumbers_66 (fun H locs Y => ?_)
              refine lv_aload_n E.1.1 E.1.2.1 dX7_setPolicyNumbers_69 rfl (lv_at hl 1 rfl) ?_
              refine lv_iload_n E.1.1 E.1.2.1 dX7_setPolicyNumbers_70 rfl (lv_at hl 3 rfl) ?_
              refine pf_X7_38 (w' := [(qm, .inr (9, [.int (k.1 0), .int (k.1 1), .ref ma, .int (k.1 2), .ref mb, .int (k.1 3), .ref me, .ref mr, .int (k.1 4), .int (k.1 5), .int p0, .int p1, .int (k.1 8), .int (k.1 9), .int (k.1 10), .ref mn, .ref ms, .int (y.1 0), .ref mk, .int (y.1 1)])), (mb, .inl (cI, 5, .inl k.2.1)), (ma, .inl (cI, 30, .inl k.2.2.1)), (me, .inl (cI, 12, .inl k.2.2.2.1)), (mr, .inl (cI, 12, .inl k.2.2.2.2)), (mn, .inl (cI, 52, .inl v)), (ms, .inl (cI, 52, .inl a)), (mk, .inl (cI, 16, .inl y.2))]) E Y 0 rfl (Nat.le_of_ble_eq_true rfl) rfl dX7_setPolicyNumbers_71 (fun H locs Y => ?_)
              refine lv_aload_n E.1.1 E.1.2.1 dX7_setPolicyNumbers_74 rfl (lv_at hl 1 rfl) ?_
              refine lv_iload_n E.1.1 E.1.2.1 dX7_setPolicyNumbers_75 rfl (lv_at hl 4 rfl) ?_
              refine pf_X7_41 (w' := [(qm, .inr (9, [.int (k.1 0), .int (k.1 1), .ref ma, .int (k.1 2), .ref mb, .int (k.1 3), .ref me, .ref mr, .int (k.1 4), .int (k.1 5), .int p0, .int p1, .int p2, .int (k.1 9), .int (k.1 10), .ref mn, .ref ms, .int (y.1 0), .ref mk, .int (y.1 1)])), (mb, .inl (cI, 5, .inl k.2.1)), (ma, .inl (cI, 30, .inl k.2.2.1)), (me, .inl (cI, 12, .inl k.2.2.2.1)), (mr, .inl (cI, 12, .inl k.2.2.2.2)), (mn, .inl (cI, 52, .inl v)), (ms, .inl (cI, 52, .inl a)), (mk, .inl (cI, 16, .inl y.2))]) E Y 0 rfl (Nat.le_of_ble_eq_true rfl) rfl dX7_setPolicyNumbers_76 (fun H locs Y => ?_)
              refine lv_iload E.1.1 E.1.2.1 dX7_setPolicyNumbers_79 (lv_at hl 0 rfl) ?_
              refine lv_if_eq (tgt := 88) E.1.1 E.1.2.1 dX7_setPolicyNumbers_81 (by decide) (fun c_81 => ?_) (fun c_81 => ?_)
              · exact absurd c_81 (by decide)
              · skip
                refine lv_iconst (v := 0) E.1.1 E.1.2.1 dX7_setPolicyNumbers_84 (by decide) ?_
                refine lv_goto (tgt := 89) E.1.1 E.1.2.1 dX7_setPolicyNumbers_85 (by decide) ?_
                have e9 : (f_X7_setPolicyNumbers k p0 p1 p2) = ((0 : Int32), (upd (upd (upd (k.1) 6 p0) 7 p1) 8 p2, k.2.1, k.2.2.1, k.2.2.2.1, k.2.2.2.2)) := (if_neg c_8).trans ((if_neg c_18).trans ((if_neg c_28).trans ((if_pos c_38).trans ((if_pos c_46).trans ((if_pos c_54).trans (rfl))))))
                exact r_iret E Y hr hk (0 : Int32) (upd (upd (upd (k.1) 6 p0) 7 p1) 8 p2, k.2.1, k.2.2.1, k.2.2.2.1, k.2.2.2.2) (pr_of e9) rfl ⟨Nat.le_of_ble_eq_true rfl, Nat.le_of_ble_eq_true rfl⟩ dX7_setPolicyNumbers_89
      · skip
        refine lv_iconst (v := (-1)) E.1.1 E.1.2.1 dX7_setPolicyNumbers_31 (by decide) ?_
        have e9 : (f_X7_setPolicyNumbers k p0 p1 p2) = ((-1 : Int32), k) := (if_neg c_8).trans ((if_neg c_18).trans ((if_pos c_28).trans (rfl)))
        exact r_iret E Y hr hk (-1 : Int32) k (pr_of e9) rfl ⟨Nat.le_of_ble_eq_true rfl, Nat.le_of_ble_eq_true rfl⟩ dX7_setPolicyNumbers_32

def f_X7_typeKey (y : Ky) (p0 : Int32) : Int32 × Ky := if (f_X7_within p0 (32 : Int32) (126 : Int32)) = 0 then ((-1 : Int32), y) else (if (y.1 0) = (16 : Int32) then ((-3 : Int32), y) else (((y.1 0) + (1 : Int32)), (upd (y.1) 0 ((y.1 0) + (1 : Int32)), (upd y.2 ((y.1 0).toNatClampNeg) p0))))
set_option maxRecDepth 100000 in
set_option maxHeartbeats 4000000 in
theorem c_X7_typeKey {l : Launch} {D : va_G} {cI cB : ClassId} (qm mb ma me mr mn ms mk : Nat) (k : Cf) (v : Fn) (a : Fn) (y : Ky) (p0 : Int32) (hy : btw (y.1 0) 0 16) : CI l X0 D cI cB yX7_typeKey cX7_typeKey 2 (some .int) 1 22 0 0 [.ref qm, .int p0] (wM cI qm mb ma me mr mn ms mk k v a y) (fun (r : Int32) (u : Ky) => r = (f_X7_typeKey y p0).1 ∧ u = (f_X7_typeKey y p0).2) (fun u => (wM cI qm mb ma me mr mn ms mk k v a u)) := by
  refine CI.of (by decide) (Nat.le_of_ble_eq_true rfl) ?_
  intro p e s m below meth c A ls E hr hk hin hA hAA hX Y hl
  have E : EE p c cX7_typeKey 2 s _ m RX7 D cI cB := E
  have hl : lv_has ls 2 [(0, .ref qm), (1, .int p0)] := hl
  refine lv_iload_n E.1.1 E.1.2.1 dX7_typeKey_0 rfl (lv_at hl 1 rfl) ?_
  refine lv_bipush (v := 32) E.1.1 E.1.2.1 dX7_typeKey_1 (by decide) ?_
  refine lv_bipush (v := 126) E.1.1 E.1.2.1 dX7_typeKey_3 (by decide) ?_
  refine r_Si (wr := [(qm, .inr (9, [.int (k.1 0), .int (k.1 1), .ref ma, .int (k.1 2), .ref mb, .int (k.1 3), .ref me, .ref mr, .int (k.1 4), .int (k.1 5), .int (k.1 6), .int (k.1 7), .int (k.1 8), .int (k.1 9), .int (k.1 10), .ref mn, .ref ms, .int (y.1 0), .ref mk, .int (y.1 1)])), (mb, .inl (cI, 5, .inl k.2.1)), (ma, .inl (cI, 30, .inl k.2.2.1)), (me, .inl (cI, 12, .inl k.2.2.2.1)), (mr, .inl (cI, 12, .inl k.2.2.2.2)), (mn, .inl (cI, 52, .inl v)), (ms, .inl (cI, 52, .inl a)), (mk, .inl (cI, 16, .inl y.2))]) (w2 := fun _ => [(qm, .inr (9, [.int (k.1 0), .int (k.1 1), .ref ma, .int (k.1 2), .ref mb, .int (k.1 3), .ref me, .ref mr, .int (k.1 4), .int (k.1 5), .int (k.1 6), .int (k.1 7), .int (k.1 8), .int (k.1 9), .int (k.1 10), .ref mn, .ref ms, .int (y.1 0), .ref mk, .int (y.1 1)])), (mb, .inl (cI, 5, .inl k.2.1)), (ma, .inl (cI, 30, .inl k.2.2.1)), (me, .inl (cI, 12, .inl k.2.2.2.1)), (mr, .inl (cI, 12, .inl k.2.2.2.2)), (mn, .inl (cI, 52, .inl v)), (ms, .inl (cI, 52, .inl a)), (mk, .inl (cI, 16, .inl y.2))]) E Y hA hl.1 (c_X7_within p0 (32 : Int32) (126 : Int32)) lk_X7_59 X0b (fun _ _ _ => trivial) [] [0, 1, 2, 3, 4, 5, 6, 7] [0, 1, 2, 3, 4, 5, 6, 7] rfl rfl (by decide) (fun _ => rfl) ⟨Nat.le_of_ble_eq_true rfl, Nat.le_of_ble_eq_true rfl⟩ ⟨Nat.le_of_ble_eq_true rfl, Nat.le_of_ble_eq_true rfl⟩ rfl rfl (Nat.le_of_ble_eq_true rfl) dX7_typeKey_5 (fun r u H locs hp Y => ?_)
  subst hp
  refine lv_if_ne (tgt := 13) E.1.1 E.1.2.1 dX7_typeKey_8 (by decide) (fun c_8 => ?_) (fun c_8 => ?_)
  · skip
    refine lv_aload_n E.1.1 E.1.2.1 dX7_typeKey_13 rfl (lv_at hl 0 rfl) ?_
    refine gf_X7_70 E Y 0 rfl rfl dX7_typeKey_14 ?_
    refine lv_bipush (v := 16) E.1.1 E.1.2.1 dX7_typeKey_17 (by decide) ?_
    refine lv_icmp_ne (tgt := 25) E.1.1 E.1.2.1 dX7_typeKey_19 (by decide) (fun c_19 => ?_) (fun c_19 => ?_)
    · skip
      refine lv_aload_n E.1.1 E.1.2.1 dX7_typeKey_25 rfl (lv_at hl 0 rfl) ?_
      refine gf_X7_53 E Y 0 rfl rfl dX7_typeKey_26 ?_
      refine lv_aload_n E.1.1 E.1.2.1 dX7_typeKey_29 rfl (lv_at hl 0 rfl) ?_
      refine gf_X7_70 E Y 0 rfl rfl dX7_typeKey_30 ?_
      refine lv_iload_n E.1.1 E.1.2.1 dX7_typeKey_33 rfl (lv_at hl 1 rfl) ?_
      refine r_ias (w' := [(qm, .inr (9, [.int (k.1 0), .int (k.1 1), .ref ma, .int (k.1 2), .ref mb, .int (k.1 3), .ref me, .ref mr, .int (k.1 4), .int (k.1 5), .int (k.1 6), .int (k.1 7), .int (k.1 8), .int (k.1 9), .int (k.1 10), .ref mn, .ref ms, .int (y.1 0), .ref mk, .int (y.1 1)])), (mb, .inl (cI, 5, .inl k.2.1)), (ma, .inl (cI, 30, .inl k.2.2.1)), (me, .inl (cI, 12, .inl k.2.2.2.1)), (mr, .inl (cI, 12, .inl k.2.2.2.2)), (mn, .inl (cI, 52, .inl v)), (ms, .inl (cI, 52, .inl a)), (mk, .inl (cI, 16, .inl (upd y.2 ((y.1 0).toNatClampNeg) p0)))]) E Y 7 rfl ((y.1 0).toNatClampNeg) rfl (in_ne (c := 16) (by decide) hy c_19) rfl dX7_typeKey_34 (fun H locs Y => ?_)
      refine lv_aload_n E.1.1 E.1.2.1 dX7_typeKey_35 rfl (lv_at hl 0 rfl) ?_
      refine lv_dup E.1.1 E.1.2.1 dX7_typeKey_36 rfl ?_
      refine gf_X7_70 E Y 0 rfl rfl dX7_typeKey_37 ?_
      refine lv_iconst (v := 1) E.1.1 E.1.2.1 dX7_typeKey_40 (by decide) ?_
      refine lv_iadd E.1.1 E.1.2.1 dX7_typeKey_41 ?_
      refine pf_X7_70 (w' := [(qm, .inr (9, [.int (k.1 0), .int (k.1 1), .ref ma, .int (k.1 2), .ref mb, .int (k.1 3), .ref me, .ref mr, .int (k.1 4), .int (k.1 5), .int (k.1 6), .int (k.1 7), .int (k.1 8), .int (k.1 9), .int (k.1 10), .ref mn, .ref ms, .int ((y.1 0) + (1 : Int32)), .ref mk, .int (y.1 1)])), (mb, .inl (cI, 5, .inl k.2.1)), (ma, .inl (cI, 30, .inl k.2.2.1)), (me, .inl (cI, 12, .inl k.2.2.2.1)), (mr, .inl (cI, 12, .inl k.2.2.2.2)), (mn, .inl (cI, 52, .inl v)), (ms, .inl (cI, 52, .inl a)), (mk, .inl (cI, 16, .inl (upd y.2 ((y.1 0).toNatClampNeg) p0)))]) E Y 0 rfl (Nat.le_of_ble_eq_true rfl) rfl dX7_typeKey_42 (fun H locs Y => ?_)
      refine lv_aload_n E.1.1 E.1.2.1 dX7_typeKey_45 rfl (lv_at hl 0 rfl) ?_
      refine gf_X7_70 E Y 0 rfl rfl dX7_typeKey_46 ?_
      have e9 : (f_X7_typeKey y p0) = (((y.1 0) + (1 : Int32)), (upd (y.1) 0 ((y.1 0) + (1 : Int32)), (upd y.2 ((y.1 0).toNatClampNeg) p0))) := (if_neg c_8).trans ((if_neg c_19).trans (rfl))
      exact r_iret E Y hr hk ((y.1 0) + (1 : Int32)) (upd (y.1) 0 ((y.1 0) + (1 : Int32)), (upd y.2 ((y.1 0).toNatClampNeg) p0)) (pr_of e9) rfl ⟨Nat.le_of_ble_eq_true rfl, Nat.le_of_ble_eq_true rfl⟩ dX7_typeKey_49
    · skip
      refine lv_bipush (v := (-3)) E.1.1 E.1.2.1 dX7_typeKey_22 (by decide) ?_
      have e9 : (f_X7_typeKey y p0) = ((-3 : Int32), y) := (if_neg c_8).trans ((if_pos c_19).trans (rfl))
      exact r_iret E Y hr hk (-3 : Int32) y (pr_of e9) rfl ⟨Nat.le_of_ble_eq_true rfl, Nat.le_of_ble_eq_true rfl⟩ dX7_typeKey_24
  · skip
    refine lv_iconst (v := (-1)) E.1.1 E.1.2.1 dX7_typeKey_11 (by decide) ?_
    have e9 : (f_X7_typeKey y p0) = ((-1 : Int32), y) := (if_pos c_8).trans (rfl)
    exact r_iret E Y hr hk (-1 : Int32) y (pr_of e9) rfl ⟨Nat.le_of_ble_eq_true rfl, Nat.le_of_ble_eq_true rfl⟩ dX7_typeKey_12

def f_X7_sizeOf (k : Cf) (p0 : Int32) (p1 : Int32) : Int32 := ((((((k.2.1 (p0.toNatClampNeg)).toInt64) * ((k.1 1).toInt64)) * ((k.2.2.1 (p1.toNatClampNeg)).toInt64)) / (100 : Int64)).toInt32)
set_option maxRecDepth 100000 in
set_option maxHeartbeats 4000000 in
theorem c_X7_sizeOf {l : Launch} {D : va_G} {cI cB : ClassId} (qm mb ma me mr mn ms mk : Nat) (k : Cf) (v : Fn) (a : Fn) (y : Ky) (p0 : Int32) (p1 : Int32) (h1 : vp_in p0 5) (h2 : vp_in p1 30) : CI l X0 D cI cB yX7_sizeOf cX7_sizeOf 3 (some .int) 0 0 0 0 [.ref qm, .int p0, .int p1] (wM cI qm mb ma me mr mn ms mk k v a y) (fun (r : Int32) (_ : Unit) => r = (f_X7_sizeOf k p0 p1)) (fun _ => (wM cI qm mb ma me mr mn ms mk k v a y)) := by
  refine CI.of (by decide) (Nat.le_of_ble_eq_true rfl) ?_
  intro p e s m below meth c A ls E hr hk hin hA hAA hX Y hl
  have E : EE p c cX7_sizeOf 3 s _ m RX7 D cI cB := E
  have hl : lv_has ls 3 [(0, .ref qm), (1, .int p0), (2, .int p1)] := hl
  refine lv_aload_n E.1.1 E.1.2.1 dX7_sizeOf_0 rfl (lv_at hl 0 rfl) ?_
  refine gf_X7_20 E Y 0 rfl rfl dX7_sizeOf_1 ?_
  refine lv_iload_n E.1.1 E.1.2.1 dX7_sizeOf_4 rfl (lv_at hl 1 rfl) ?_
  refine r_ial E Y 1 rfl (p0.toNatClampNeg) rfl h1 dX7_sizeOf_5 ?_
  refine lv_i2l E.1.1 E.1.2.1 dX7_sizeOf_6 rfl ?_
  refine lv_aload_n E.1.1 E.1.2.1 dX7_sizeOf_7 rfl (lv_at hl 0 rfl) ?_
  refine gf_X7_13 E Y 0 rfl rfl dX7_sizeOf_8 ?_
  refine lv_i2l E.1.1 E.1.2.1 dX7_sizeOf_11 rfl ?_
  refine lv_lmul E.1.1 E.1.2.1 dX7_sizeOf_12 ?_
  refine lv_aload_n E.1.1 E.1.2.1 dX7_sizeOf_13 rfl (lv_at hl 0 rfl) ?_
  refine gf_X7_16 E Y 0 rfl rfl dX7_sizeOf_14 ?_
  refine lv_iload_n E.1.1 E.1.2.1 dX7_sizeOf_17 rfl (lv_at hl 2 rfl) ?_
  refine r_ial E Y 2 rfl (p1.toNatClampNeg) rfl h2 dX7_sizeOf_18 ?_
  refine lv_i2l E.1.1 E.1.2.1 dX7_sizeOf_19 rfl ?_
  refine lv_lmul E.1.1 E.1.2.1 dX7_sizeOf_20 ?_
  refine lv_ldc2 (v := 100) E.1.1 E.1.2.1 E.1.2.2.2.1 (E.1.2.2.2.2 _ mj_X7_76) dX7_sizeOf_21 ?_
  refine lv_ldiv E.1.1 E.1.2.1 dX7_sizeOf_24 (by decide) ?_
  refine lv_l2i E.1.1 E.1.2.1 dX7_sizeOf_25 rfl ?_
  have e9 : (f_X7_sizeOf k p0 p1) = ((((((k.2.1 (p0.toNatClampNeg)).toInt64) * ((k.1 1).toInt64)) * ((k.2.2.1 (p1.toNatClampNeg)).toInt64)) / (100 : Int64)).toInt32) := rfl
  exact r_iret E Y hr hk ((((((k.2.1 (p0.toNatClampNeg)).toInt64) * ((k.1 1).toInt64)) * ((k.2.2.1 (p1.toNatClampNeg)).toInt64)) / (100 : Int64)).toInt32) () (e9.symm) rfl ⟨Nat.le_of_ble_eq_true rfl, Nat.le_of_ble_eq_true rfl⟩ dX7_sizeOf_26

def f_X7_rateAt_l13 (k : Cf) (p0 : Int32) : Nat → Nat → Int32
  | 0, j => 0
  | n + 1, j => if ((k.1 3) - (1 : Int32)) ≤ (nI j) then (k.2.2.2.2 j) else (if p0 < (k.2.2.2.1 j) then (k.2.2.2.2 j) else f_X7_rateAt_l13 k p0 n (j + 1))
def f_X7_rateAt (k : Cf) (p0 : Int32) : Int32 := if (k.1 3) = 0 then (1000 : Int32) else f_X7_rateAt_l13 k p0 13 (0)
set_option maxRecDepth 100000 in
set_option maxHeartbeats 4000000 in
theorem c_X7_rateAt {l : Launch} {D : va_G} {cI cB : ClassId} (qm mb ma me mr mn ms mk : Nat) (k : Cf) (v : Fn) (a : Fn) (y : Ky) (p0 : Int32) (kO : KOK k) : CI l X0 D cI cB yX7_rateAt cX7_rateAt 3 (some .int) 0 0 0 0 [.ref qm, .int p0] (wM cI qm mb ma me mr mn ms mk k v a y) (fun (r : Int32) (_ : Unit) => r = (f_X7_rateAt k p0)) (fun _ => (wM cI qm mb ma me mr mn ms mk k v a y)) := by
  refine CI.of (by decide) (Nat.le_of_ble_eq_true rfl) ?_
  intro p e s m below meth c A ls E hr hk hin hA hAA hX Y hl
  have E : EE p c cX7_rateAt 3 s _ m RX7 D cI cB := E
  have hl : lv_has ls 3 [(0, .ref qm), (1, .int p0)] := hl
  refine lv_aload_n E.1.1 E.1.2.1 dX7_rateAt_0 rfl (lv_at hl 0 rfl) ?_
  refine gf_X7_67 E Y 0 rfl rfl dX7_rateAt_1 ?_
  refine lv_if_ne (tgt := 11) E.1.1 E.1.2.1 dX7_rateAt_4 (by decide) (fun c_4 => ?_) (fun c_4 => ?_)
  · skip
    refine lv_iconst (v := 0) E.1.1 E.1.2.1 dX7_rateAt_11 (by decide) ?_
    refine lv_istore_n (lv' := [(2, .int (0 : Int32)), (0, .ref qm), (1, .int p0)]) E.1.1 E.1.2.1 dX7_rateAt_12 rfl hl (by decide) rfl (fun ls hl => ?_)
    have hL : ∀ (n : Nat) (j : Nat), (hj : (j : Int) < (k.1 3).toInt) → (hn : 12 < j + n) → (f_X7_rateAt k p0) = f_X7_rateAt_l13 k p0 n j → ∀ (H : Heap) (locs : List Loc) (ls : Array Slot), WD D A s.heap H locs [(qm, .inr (9, [.int (k.1 0), .int (k.1 1), .ref ma, .int (k.1 2), .ref mb, .int (k.1 3), .ref me, .ref mr, .int (k.1 4), .int (k.1 5), .int (k.1 6), .int (k.1 7), .int (k.1 8), .int (k.1 9), .int (k.1 10), .ref mn, .ref ms, .int (y.1 0), .ref mk, .int (y.1 1)])), (mb, .inl (cI, 5, .inl k.2.1)), (ma, .inl (cI, 30, .inl k.2.2.1)), (me, .inl (cI, 12, .inl k.2.2.2.1)), (mr, .inl (cI, 12, .inl k.2.2.2.2)), (mn, .inl (cI, 52, .inl v)), (ms, .inl (cI, 52, .inl a)), (mk, .inl (cI, 16, .inl y.2))] → lv_has ls 3 [(0, .ref qm), (1, .int p0), (2, .int (nI j))] → W p l e { frames := 0, cells := 0, slots := 0, locals := 0 } s m ([.ref qm, .int p0] : List Value).toArray below meth c H locs 0 0 (MQ below (va_Qi (fun (r : Int32) (_ : Unit) => r = (f_X7_rateAt k p0)) (AT D cI cB A (fun _ => (wM cI qm mb ma me mr mn ms mk k v a y))) A) ([.ref qm, .int p0] : List Value).toArray s 0 0 A) (F0 m 13 ls []) := by
      intro n
      induction n with
      | zero => intro j hj hn; exact absurd hn (ra_n0 kO hj)
      | succ n ih =>
        intro j hj hn hF H locs ls Y hl
        refine lv_iload_n E.1.1 E.1.2.1 dX7_rateAt_13 rfl (lv_at hl 2 rfl) ?_
        refine lv_aload_n E.1.1 E.1.2.1 dX7_rateAt_14 rfl (lv_at hl 0 rfl) ?_
        refine gf_X7_67 E Y 0 rfl rfl dX7_rateAt_15 ?_
        refine lv_iconst (v := 1) E.1.1 E.1.2.1 dX7_rateAt_18 (by decide) ?_
        refine lv_isub E.1.1 E.1.2.1 dX7_rateAt_19 ?_
        refine lv_icmp_ge (tgt := 39) E.1.1 E.1.2.1 dX7_rateAt_20 (by decide) (fun c_20 => ?_) (fun c_20 => ?_)
        · skip
          refine lv_aload_n E.1.1 E.1.2.1 dX7_rateAt_39 rfl (lv_at hl 0 rfl) ?_
          refine gf_X7_26 E Y 0 rfl rfl dX7_rateAt_40 ?_
          refine lv_iload_n E.1.1 E.1.2.1 dX7_rateAt_43 rfl (lv_at hl 2 rfl) ?_
          refine r_ial E Y 4 rfl j (nI_clamp (ra_lt kO hj)) (vp_in_nI (ra_12 kO hj) (by decide)) dX7_rateAt_44 ?_
          have e9 : (f_X7_rateAt k p0) = (k.2.2.2.2 j) := hF.trans ((if_pos c_20).trans (rfl))
          exact r_iret E Y hr hk (k.2.2.2.2 j) () (e9.symm) rfl ⟨Nat.le_of_ble_eq_true rfl, Nat.le_of_ble_eq_true rfl⟩ dX7_rateAt_45
        · skip
          refine lv_iload_n E.1.1 E.1.2.1 dX7_rateAt_23 rfl (lv_at hl 1 rfl) ?_
          refine lv_aload_n E.1.1 E.1.2.1 dX7_rateAt_24 rfl (lv_at hl 0 rfl) ?_
          refine gf_X7_23 E Y 0 rfl rfl dX7_rateAt_25 ?_
          refine lv_iload_n E.1.1 E.1.2.1 dX7_rateAt_28 rfl (lv_at hl 2 rfl) ?_
          refine r_ial E Y 3 rfl j (nI_clamp (ra_lt kO hj)) (vp_in_nI (ra_12 kO hj) (by decide)) dX7_rateAt_29 ?_
          refine lv_icmp_lt (tgt := 39) E.1.1 E.1.2.1 dX7_rateAt_30 (by decide) (fun c_30 => ?_) (fun c_30 => ?_)
          · skip
            refine lv_aload_n E.1.1 E.1.2.1 dX7_rateAt_39 rfl (lv_at hl 0 rfl) ?_
            refine gf_X7_26 E Y 0 rfl rfl dX7_rateAt_40 ?_
            refine lv_iload_n E.1.1 E.1.2.1 dX7_rateAt_43 rfl (lv_at hl 2 rfl) ?_
            refine r_ial E Y 4 rfl j (nI_clamp (ra_lt kO hj)) (vp_in_nI (ra_12 kO hj) (by decide)) dX7_rateAt_44 ?_
            have e9 : (f_X7_rateAt k p0) = (k.2.2.2.2 j) := hF.trans ((if_neg c_20).trans ((if_pos c_30).trans (rfl)))
            exact r_iret E Y hr hk (k.2.2.2.2 j) () (e9.symm) rfl ⟨Nat.le_of_ble_eq_true rfl, Nat.le_of_ble_eq_true rfl⟩ dX7_rateAt_45
          · skip
            refine lv_iinc (v := (nI (j + 1))) (lv' := [(2, .int (nI (j + 1))), (0, .ref qm), (1, .int p0)]) E.1.1 E.1.2.1 dX7_rateAt_33 hl (k := 2) rfl (nI_1 j) (by decide) rfl (fun ls hl => ?_)
            refine lv_goto (tgt := 13) E.1.1 E.1.2.1 dX7_rateAt_36 (by decide) ?_
            exact ih (j + 1) (ra_next kO c_20 hj) (by omega) (hF.trans ((if_neg c_20).trans ((if_neg c_30).trans (rfl)))) H locs ls Y (lv_sub hl [1, 2, 0] rfl)
    exact hL 13 (0) (ra_pos kO c_4) (by decide) ((if_neg c_4).trans (rfl)) _ _ _ Y (lv_sub hl [1, 2, 0] rfl)
  · skip
    refine lv_sipush (v := 1000) E.1.1 E.1.2.1 dX7_rateAt_7 (by decide) ?_
    have e9 : (f_X7_rateAt k p0) = (1000 : Int32) := (if_pos c_4).trans (rfl)
    exact r_iret E Y hr hk (1000 : Int32) () (e9.symm) rfl ⟨Nat.le_of_ble_eq_true rfl, Nat.le_of_ble_eq_true rfl⟩ dX7_rateAt_10

def f_X7_highest (k : Cf) : Int32 := if ((k.1 2) - (1 : Int32)) ≤ (k.1 10) then ((k.1 2) - (1 : Int32)) else (k.1 10)
set_option maxRecDepth 100000 in
set_option maxHeartbeats 4000000 in
theorem c_X7_highest {l : Launch} {D : va_G} {cI cB : ClassId} (qm mb ma me mr mn ms mk : Nat) (k : Cf) (v : Fn) (a : Fn) (y : Ky) : CI l X0 D cI cB yX7_highest cX7_highest 1 (some .int) 0 0 0 0 [.ref qm] (wM cI qm mb ma me mr mn ms mk k v a y) (fun (r : Int32) (_ : Unit) => r = (f_X7_highest k)) (fun _ => (wM cI qm mb ma me mr mn ms mk k v a y)) := by
  refine CI.of (by decide) (Nat.le_of_ble_eq_true rfl) ?_
  intro p e s m below meth c A ls E hr hk hin hA hAA hX Y hl
  have E : EE p c cX7_highest 1 s _ m RX7 D cI cB := E
  have hl : lv_has ls 1 [(0, .ref qm)] := hl
  refine lv_aload_n E.1.1 E.1.2.1 dX7_highest_0 rfl (lv_at hl 0 rfl) ?_
  refine gf_X7_44 E Y 0 rfl rfl dX7_highest_1 ?_
  refine lv_aload_n E.1.1 E.1.2.1 dX7_highest_4 rfl (lv_at hl 0 rfl) ?_
  refine gf_X7_63 E Y 0 rfl rfl dX7_highest_5 ?_
  refine lv_iconst (v := 1) E.1.1 E.1.2.1 dX7_highest_8 (by decide) ?_
  refine lv_isub E.1.1 E.1.2.1 dX7_highest_9 ?_
  refine lv_icmp_ge (tgt := 20) E.1.1 E.1.2.1 dX7_highest_10 (by decide) (fun c_10 => ?_) (fun c_10 => ?_)
  · skip
    refine lv_aload_n E.1.1 E.1.2.1 dX7_highest_20 rfl (lv_at hl 0 rfl) ?_
    refine gf_X7_63 E Y 0 rfl rfl dX7_highest_21 ?_
    refine lv_iconst (v := 1) E.1.1 E.1.2.1 dX7_highest_24 (by decide) ?_
    refine lv_isub E.1.1 E.1.2.1 dX7_highest_25 ?_
    have e9 : (f_X7_highest k) = ((k.1 2) - (1 : Int32)) := (if_pos c_10).trans (rfl)
    exact r_iret E Y hr hk ((k.1 2) - (1 : Int32)) () (e9.symm) rfl ⟨Nat.le_of_ble_eq_true rfl, Nat.le_of_ble_eq_true rfl⟩ dX7_highest_26
  · skip
    refine lv_aload_n E.1.1 E.1.2.1 dX7_highest_13 rfl (lv_at hl 0 rfl) ?_
    refine gf_X7_44 E Y 0 rfl rfl dX7_highest_14 ?_
    refine lv_goto (tgt := 26) E.1.1 E.1.2.1 dX7_highest_17 (by decide) ?_
    have e9 : (f_X7_highest k) = (k.1 10) := (if_neg c_10).trans (rfl)
    exact r_iret E Y hr hk (k.1 10) () (e9.symm) rfl ⟨Nat.le_of_ble_eq_true rfl, Nat.le_of_ble_eq_true rfl⟩ dX7_highest_26

def f_X7_estimate_l40 (v : Fn) (x : Int32) : Nat → Int32 → Nat → Int32
  | 0, z, j => z
  | n + 1, z, j => if x ≤ (nI j) then (z / x) else f_X7_estimate_l40 v x n (z + (v (12 + j))) (j + 1)
def f_X7_estimate_c35 (v : Fn) (x : Int32) : Int32 := f_X7_estimate_l40 v x 4 (0 : Int32) (0)
def f_X7_estimate (v : Fn) : Int32 := if (v (11)) = 0 then (-6 : Int32) else (if (3 : Int32) ≤ (v (11)) then f_X7_estimate_c35 v (3 : Int32) else f_X7_estimate_c35 v (v (11)))
set_option maxRecDepth 100000 in
set_option maxHeartbeats 4000000 in
theorem c_X7_estimate {l : Launch} {D : va_G} {cI cB : ClassId} (qm mb ma me mr mn ms mk : Nat) (k : Cf) (v : Fn) (a : Fn) (y : Ky) : CI l X0 D cI cB yX7_estimate cX7_estimate 4 (some .int) 0 0 0 0 [.ref qm] (wM cI qm mb ma me mr mn ms mk k v a y) (fun (r : Int32) (_ : Unit) => r = (f_X7_estimate v)) (fun _ => (wM cI qm mb ma me mr mn ms mk k v a y)) := by
  refine CI.of (by decide) (Nat.le_of_ble_eq_true rfl) ?_
  intro p e s m below meth c A ls E hr hk hin hA hAA hX Y hl
  have E : EE p c cX7_estimate 4 s _ m RX7 D cI cB := E
  have hl : lv_has ls 4 [(0, .ref qm)] := hl
  have hC35 : ∀ (x : Int32), (h3 : ¬ 3 < x) → (h0 : ¬ x = 0) → (f_X7_estimate v) = f_X7_estimate_c35 v x → ∀ (H : Heap) (locs : List Loc) (ls : Array Slot), WD D A s.heap H locs [(qm, .inr (9, [.int (k.1 0), .int (k.1 1), .ref ma, .int (k.1 2), .ref mb, .int (k.1 3), .ref me, .ref mr, .int (k.1 4), .int (k.1 5), .int (k.1 6), .int (k.1 7), .int (k.1 8), .int (k.1 9), .int (k.1 10), .ref mn, .ref ms, .int (y.1 0), .ref mk, .int (y.1 1)])), (mb, .inl (cI, 5, .inl k.2.1)), (ma, .inl (cI, 30, .inl k.2.2.1)), (me, .inl (cI, 12, .inl k.2.2.2.1)), (mr, .inl (cI, 12, .inl k.2.2.2.2)), (mn, .inl (cI, 52, .inl v)), (ms, .inl (cI, 52, .inl a)), (mk, .inl (cI, 16, .inl y.2))] → lv_has ls 4 [(0, .ref qm)] → W p l e { frames := 0, cells := 0, slots := 0, locals := 0 } s m ([.ref qm] : List Value).toArray below meth c H locs 0 0 (MQ below (va_Qi (fun (r : Int32) (_ : Unit) => r = (f_X7_estimate v)) (AT D cI cB A (fun _ => (wM cI qm mb ma me mr mn ms mk k v a y))) A) ([.ref qm] : List Value).toArray s 0 0 A) (F0 m 35 ls [.int x]) := by
    intro x h3 h0 hF H locs ls Y hl
    refine lv_istore_n (lv' := [(1, .int x), (0, .ref qm)]) E.1.1 E.1.2.1 dX7_estimate_35 rfl hl (by decide) rfl (fun ls hl => ?_)
    refine lv_iconst (v := 0) E.1.1 E.1.2.1 dX7_estimate_36 (by decide) ?_
    refine lv_istore_n (lv' := [(2, .int (0 : Int32)), (1, .int x), (0, .ref qm)]) E.1.1 E.1.2.1 dX7_estimate_37 rfl hl (by decide) rfl (fun ls hl => ?_)
    refine lv_iconst (v := 0) E.1.1 E.1.2.1 dX7_estimate_38 (by decide) ?_
    refine lv_istore_n (lv' := [(3, .int (0 : Int32)), (2, .int (0 : Int32)), (1, .int x), (0, .ref qm)]) E.1.1 E.1.2.1 dX7_estimate_39 rfl hl (by decide) rfl (fun ls hl => ?_)
    have hL : ∀ (n : Nat) (z : Int32) (j : Nat), (hj : j ≤ 3) → (hn : 3 < j + n) → (f_X7_estimate v) = f_X7_estimate_l40 v x n z j → ∀ (H : Heap) (locs : List Loc) (ls : Array Slot), WD D A s.heap H locs [(qm, .inr (9, [.int (k.1 0), .int (k.1 1), .ref ma, .int (k.1 2), .ref mb, .int (k.1 3), .ref me, .ref mr, .int (k.1 4), .int (k.1 5), .int (k.1 6), .int (k.1 7), .int (k.1 8), .int (k.1 9), .int (k.1 10), .ref mn, .ref ms, .int (y.1 0), .ref mk, .int (y.1 1)])), (mb, .inl (cI, 5, .inl k.2.1)), (ma, .inl (cI, 30, .inl k.2.2.1)), (me, .inl (cI, 12, .inl k.2.2.2.1)), (mr, .inl (cI, 12, .inl k.2.2.2.2)), (mn, .inl (cI, 52, .inl v)), (ms, .inl (cI, 52, .inl a)), (mk, .inl (cI, 16, .inl y.2))] → lv_has ls 4 [(0, .ref qm), (1, .int x), (2, .int z), (3, .int (nI j))] → W p l e { frames := 0, cells := 0, slots := 0, locals := 0 } s m ([.ref qm] : List Value).toArray below meth c H locs 0 0 (MQ below (va_Qi (fun (r : Int32) (_ : Unit) => r = (f_X7_estimate v)) (AT D cI cB A (fun _ => (wM cI qm mb ma me mr mn ms mk k v a y))) A) ([.ref qm] : List Value).toArray s 0 0 A) (F0 m 40 ls []) := by
      intro n
      induction n with
      | zero => intro z j hj hn; exact absurd hn (by omega)
      | succ n ih =>
        intro z j hj hn hF H locs ls Y hl
        refine lv_iload_n E.1.1 E.1.2.1 dX7_estimate_40 rfl (lv_at hl 3 rfl) ?_
        refine lv_iload_n E.1.1 E.1.2.1 dX7_estimate_41 rfl (lv_at hl 1 rfl) ?_
        refine lv_icmp_ge (tgt := 63) E.1.1 E.1.2.1 dX7_estimate_42 (by decide) (fun c_42 => ?_) (fun c_42 => ?_)
        · skip
          refine lv_iload_n E.1.1 E.1.2.1 dX7_estimate_63 rfl (lv_at hl 2 rfl) ?_
          refine lv_iload_n E.1.1 E.1.2.1 dX7_estimate_64 rfl (lv_at hl 1 rfl) ?_
          refine lv_idiv E.1.1 E.1.2.1 dX7_estimate_65 h0 ?_
          have e9 : (f_X7_estimate v) = (z / x) := hF.trans ((if_pos c_42).trans (rfl))
          exact r_iret E Y hr hk (z / x) () (e9.symm) rfl ⟨Nat.le_of_ble_eq_true rfl, Nat.le_of_ble_eq_true rfl⟩ dX7_estimate_66
        · skip
          refine lv_iload_n E.1.1 E.1.2.1 dX7_estimate_45 rfl (lv_at hl 2 rfl) ?_
          refine lv_aload_n E.1.1 E.1.2.1 dX7_estimate_46 rfl (lv_at hl 0 rfl) ?_
          refine gf_X7_47 E Y 0 rfl rfl dX7_estimate_47 ?_
          refine lv_bipush (v := 12) E.1.1 E.1.2.1 dX7_estimate_50 (by decide) ?_
          refine lv_iload_n E.1.1 E.1.2.1 dX7_estimate_52 rfl (lv_at hl 3 rfl) ?_
          refine lv_iadd E.1.1 E.1.2.1 dX7_estimate_53 ?_
          refine r_ial E Y 5 rfl (12 + j) (off_cl (o := 12) (by omega)) (off_in (o := 12) (by have := es_lt h3 c_42 hj; omega) (by decide)) dX7_estimate_54 ?_
          refine lv_iadd E.1.1 E.1.2.1 dX7_estimate_55 ?_
          refine lv_istore_n (lv' := [(2, .int (z + (v (12 + j)))), (0, .ref qm), (1, .int x), (3, .int (nI j))]) E.1.1 E.1.2.1 dX7_estimate_56 rfl hl (by decide) rfl (fun ls hl => ?_)
          refine lv_iinc (v := (nI (j + 1))) (lv' := [(3, .int (nI (j + 1))), (2, .int (z + (v (12 + j)))), (0, .ref qm), (1, .int x)]) E.1.1 E.1.2.1 dX7_estimate_57 hl (k := 3) rfl (nI_1 j) (by decide) rfl (fun ls hl => ?_)
          refine lv_goto (tgt := 40) E.1.1 E.1.2.1 dX7_estimate_60 (by decide) ?_
          exact ih (z + (v (12 + j))) (j + 1) (es_lt h3 c_42 hj) (by omega) (hF.trans ((if_neg c_42).trans (rfl))) H locs ls Y (lv_sub hl [2, 3, 1, 0] rfl)
    exact hL 4 (0 : Int32) (0) (by decide) (by decide) (hF.trans (rfl)) _ _ _ Y (lv_sub hl [3, 2, 1, 0] rfl)
  refine lv_aload_n E.1.1 E.1.2.1 dX7_estimate_0 rfl (lv_at hl 0 rfl) ?_
  refine gf_X7_47 E Y 0 rfl rfl dX7_estimate_1 ?_
  refine lv_bipush (v := 11) E.1.1 E.1.2.1 dX7_estimate_4 (by decide) ?_
  refine r_ial E Y 5 rfl (11) (by decide) (by unfold vp_in; decide) dX7_estimate_6 ?_
  refine lv_if_ne (tgt := 13) E.1.1 E.1.2.1 dX7_estimate_7 (by decide) (fun c_7 => ?_) (fun c_7 => ?_)
  · skip
    refine lv_aload_n E.1.1 E.1.2.1 dX7_estimate_13 rfl (lv_at hl 0 rfl) ?_
    refine gf_X7_47 E Y 0 rfl rfl dX7_estimate_14 ?_
    refine lv_bipush (v := 11) E.1.1 E.1.2.1 dX7_estimate_17 (by decide) ?_
    refine r_ial E Y 5 rfl (11) (by decide) (by unfold vp_in; decide) dX7_estimate_19 ?_
    refine lv_iconst (v := 3) E.1.1 E.1.2.1 dX7_estimate_20 (by decide) ?_
    refine lv_icmp_ge (tgt := 34) E.1.1 E.1.2.1 dX7_estimate_21 (by decide) (fun c_21 => ?_) (fun c_21 => ?_)
    · skip
      refine lv_iconst (v := 3) E.1.1 E.1.2.1 dX7_estimate_34 (by decide) ?_
      exact hC35 (3 : Int32) (by first | decide | exact es_h c_21) (by first | decide | exact c_7) ((if_neg c_7).trans ((if_pos c_21).trans (rfl))) _ _ _ Y (lv_sub hl [0] rfl)
    · skip
      refine lv_aload_n E.1.1 E.1.2.1 dX7_estimate_24 rfl (lv_at hl 0 rfl) ?_
      refine gf_X7_47 E Y 0 rfl rfl dX7_estimate_25 ?_
      refine lv_bipush (v := 11) E.1.1 E.1.2.1 dX7_estimate_28 (by decide) ?_
      refine r_ial E Y 5 rfl (11) (by decide) (by unfold vp_in; decide) dX7_estimate_30 ?_
      refine lv_goto (tgt := 35) E.1.1 E.1.2.1 dX7_estimate_31 (by decide) ?_
      exact hC35 (v (11)) (by first | decide | exact es_h c_21) (by first | decide | exact c_7) ((if_neg c_7).trans ((if_neg c_21).trans (rfl))) _ _ _ Y (lv_sub hl [0] rfl)
  · skip
    refine lv_bipush (v := (-6)) E.1.1 E.1.2.1 dX7_estimate_10 (by decide) ?_
    have e9 : (f_X7_estimate v) = (-6 : Int32) := (if_pos c_7).trans (rfl)
    exact r_iret E Y hr hk (-6 : Int32) () (e9.symm) rfl ⟨Nat.le_of_ble_eq_true rfl, Nat.le_of_ble_eq_true rfl⟩ dX7_estimate_12
