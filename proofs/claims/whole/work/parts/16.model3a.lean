def f_X7_passes_c49  (v1 : Fn) : Fn := (upd v1 (0) ((v1 (0)) + (1 : Int32)))
def f_X7_passes_c9 (k : Cf) (v1 : Fn) : Fn := if (v1 (4)) = 0 then (if (v1 (3)) = (1 : Int32) then f_X7_passes_c49 (f_X7_plays k v1) else (if (v1 (3)) = (3 : Int32) then f_X7_passes_c49 v1 else f_X7_passes_c49 (f_X7_waits k v1))) else f_X7_passes_c49 v1
def f_X7_passes (k : Cf) (v : Fn) (p0 : Int32) : Fn := f_X7_passes_c9 k (f_X7_receives k (f_X7_startsDownload k v p0))
set_option maxRecDepth 100000 in
set_option maxHeartbeats 4000000 in
theorem c_X7_passes {l : Launch} {D : va_G} {cI cB : ClassId} (qm mb ma me mr mn ms mk : Nat) (k : Cf) (v : Fn) (a : Fn) (y : Ky) (p0 : Int32) (pO : PR k v) : CV l X0 D cI cB yX7_passes cX7_passes 2 5 109 0 0 [.ref qm, .int p0] (wM cI qm mb ma me mr mn ms mk k v a y) (fun (u : Fn) => u = (f_X7_passes k v p0)) (fun u => (wM cI qm mb ma me mr mn ms mk k u a y)) := by
  refine CV.of (by decide) (Nat.le_of_ble_eq_true rfl) ?_
  intro p e s m below meth c A ls E hr hk hin hA hAA hX Y hl
  have E : EE p c cX7_passes 2 s _ m RX7 D cI cB := E
  have hl : lv_has ls 2 [(0, .ref qm), (1, .int p0)] := hl
  have hC49 : ∀ (v1 : Fn), (f_X7_passes k v p0) = f_X7_passes_c49 v1 → ∀ (H : Heap) (locs : List Loc) (ls : Array Slot), WD D A s.heap H locs [(qm, .inr (9, [.int (k.1 0), .int (k.1 1), .ref ma, .int (k.1 2), .ref mb, .int (k.1 3), .ref me, .ref mr, .int (k.1 4), .int (k.1 5), .int (k.1 6), .int (k.1 7), .int (k.1 8), .int (k.1 9), .int (k.1 10), .ref mn, .ref ms, .int (y.1 0), .ref mk, .int (y.1 1)])), (mb, .inl (cI, 5, .inl k.2.1)), (ma, .inl (cI, 30, .inl k.2.2.1)), (me, .inl (cI, 12, .inl k.2.2.2.1)), (mr, .inl (cI, 12, .inl k.2.2.2.2)), (mn, .inl (cI, 52, .inl v1)), (ms, .inl (cI, 52, .inl a)), (mk, .inl (cI, 16, .inl y.2))] → lv_has ls 2 [(0, .ref qm)] → W p l e { frames := 5, cells := 0, slots := 0, locals := 109 } s m ([.ref qm, .int p0] : List Value).toArray below meth c H locs 0 0 (MQ below (va_Qv (fun (u : Fn) => u = (f_X7_passes k v p0)) (AT D cI cB A (fun u => (wM cI qm mb ma me mr mn ms mk k u a y))) A) ([.ref qm, .int p0] : List Value).toArray s 0 0 A) (F0 m 49 ls []) := by
    intro v1  hF H locs ls Y hl
    refine lv_aload_n E.1.1 E.1.2.1 dX7_passes_49 rfl (lv_at hl 0 rfl) ?_
    refine gf_X7_47 E Y 0 rfl rfl dX7_passes_50 ?_
    refine lv_iconst (v := 0) E.1.1 E.1.2.1 dX7_passes_53 (by decide) ?_
    refine lv_dup2_11 E.1.1 E.1.2.1 dX7_passes_54 rfl rfl ?_
    refine r_ial E Y 5 rfl (0) (by decide) (by unfold vp_in; decide) dX7_passes_55 ?_
    refine lv_iconst (v := 1) E.1.1 E.1.2.1 dX7_passes_56 (by decide) ?_
    refine lv_iadd E.1.1 E.1.2.1 dX7_passes_57 ?_
    refine r_ias (w' := [(qm, .inr (9, [.int (k.1 0), .int (k.1 1), .ref ma, .int (k.1 2), .ref mb, .int (k.1 3), .ref me, .ref mr, .int (k.1 4), .int (k.1 5), .int (k.1 6), .int (k.1 7), .int (k.1 8), .int (k.1 9), .int (k.1 10), .ref mn, .ref ms, .int (y.1 0), .ref mk, .int (y.1 1)])), (mb, .inl (cI, 5, .inl k.2.1)), (ma, .inl (cI, 30, .inl k.2.2.1)), (me, .inl (cI, 12, .inl k.2.2.2.1)), (mr, .inl (cI, 12, .inl k.2.2.2.2)), (mn, .inl (cI, 52, .inl (upd v1 (0) ((v1 (0)) + (1 : Int32))))), (ms, .inl (cI, 52, .inl a)), (mk, .inl (cI, 16, .inl y.2))]) E Y 5 rfl (0) (by decide) (by unfold vp_in; decide) rfl dX7_passes_58 (fun H locs Y => ?_)
    have e9 : (f_X7_passes k v p0) = (upd v1 (0) ((v1 (0)) + (1 : Int32))) := hF.trans (rfl)
    exact r_vret E Y hr hk (upd v1 (0) ((v1 (0)) + (1 : Int32))) (e9.symm) rfl ⟨Nat.le_of_ble_eq_true rfl, Nat.le_of_ble_eq_true rfl⟩ dX7_passes_59
  have hC9 : ∀ (v1 : Fn), (f_X7_passes k v p0) = f_X7_passes_c9 k v1 → ∀ (H : Heap) (locs : List Loc) (ls : Array Slot), WD D A s.heap H locs [(qm, .inr (9, [.int (k.1 0), .int (k.1 1), .ref ma, .int (k.1 2), .ref mb, .int (k.1 3), .ref me, .ref mr, .int (k.1 4), .int (k.1 5), .int (k.1 6), .int (k.1 7), .int (k.1 8), .int (k.1 9), .int (k.1 10), .ref mn, .ref ms, .int (y.1 0), .ref mk, .int (y.1 1)])), (mb, .inl (cI, 5, .inl k.2.1)), (ma, .inl (cI, 30, .inl k.2.2.1)), (me, .inl (cI, 12, .inl k.2.2.2.1)), (mr, .inl (cI, 12, .inl k.2.2.2.2)), (mn, .inl (cI, 52, .inl v1)), (ms, .inl (cI, 52, .inl a)), (mk, .inl (cI, 16, .inl y.2))] → lv_has ls 2 [(0, .ref qm)] → W p l e { frames := 5, cells := 0, slots := 0, locals := 109 } s m ([.ref qm, .int p0] : List Value).toArray below meth c H locs 0 0 (MQ below (va_Qv (fun (u : Fn) => u = (f_X7_passes k v p0)) (AT D cI cB A (fun u => (wM cI qm mb ma me mr mn ms mk k u a y))) A) ([.ref qm, .int p0] : List Value).toArray s 0 0 A) (F0 m 9 ls []) := by
    intro v1  hF H locs ls Y hl
    refine lv_aload_n E.1.1 E.1.2.1 dX7_passes_9 rfl (lv_at hl 0 rfl) ?_
    refine gf_X7_47 E Y 0 rfl rfl dX7_passes_10 ?_
    refine lv_iconst (v := 4) E.1.1 E.1.2.1 dX7_passes_13 (by decide) ?_
    refine r_ial E Y 5 rfl (4) (by decide) (by unfold vp_in; decide) dX7_passes_14 ?_
    refine lv_if_ne (tgt := 49) E.1.1 E.1.2.1 dX7_passes_15 (by decide) (fun c_15 => ?_) (fun c_15 => ?_)
    · skip
      exact hC49 v1 (hF.trans ((if_neg c_15).trans (rfl))) _ _ _ Y (lv_sub hl [0] rfl)
    · skip
      refine lv_aload_n E.1.1 E.1.2.1 dX7_passes_18 rfl (lv_at hl 0 rfl) ?_
      refine gf_X7_47 E Y 0 rfl rfl dX7_passes_19 ?_
      refine lv_iconst (v := 3) E.1.1 E.1.2.1 dX7_passes_22 (by decide) ?_
      refine r_ial E Y 5 rfl (3) (by decide) (by unfold vp_in; decide) dX7_passes_23 ?_
      refine lv_iconst (v := 1) E.1.1 E.1.2.1 dX7_passes_24 (by decide) ?_
      refine lv_icmp_ne (tgt := 35) E.1.1 E.1.2.1 dX7_passes_25 (by decide) (fun c_25 => ?_) (fun c_25 => ?_)
      · skip
        refine lv_aload_n E.1.1 E.1.2.1 dX7_passes_35 rfl (lv_at hl 0 rfl) ?_
        refine gf_X7_47 E Y 0 rfl rfl dX7_passes_36 ?_
        refine lv_iconst (v := 3) E.1.1 E.1.2.1 dX7_passes_39 (by decide) ?_
        refine r_ial E Y 5 rfl (3) (by decide) (by unfold vp_in; decide) dX7_passes_40 ?_
        refine lv_iconst (v := 3) E.1.1 E.1.2.1 dX7_passes_41 (by decide) ?_
        refine lv_icmp_eq (tgt := 49) E.1.1 E.1.2.1 dX7_passes_42 (by decide) (fun c_42 => ?_) (fun c_42 => ?_)
        · skip
          exact hC49 v1 (hF.trans ((if_pos c_15).trans ((if_neg c_25).trans ((if_pos c_42).trans (rfl))))) _ _ _ Y (lv_sub hl [0] rfl)
        · skip
          refine lv_aload_n E.1.1 E.1.2.1 dX7_passes_45 rfl (lv_at hl 0 rfl) ?_
          refine r_Vv (wr := []) (w2 := fun u => [(qm, .inr (9, [.int (k.1 0), .int (k.1 1), .ref ma, .int (k.1 2), .ref mb, .int (k.1 3), .ref me, .ref mr, .int (k.1 4), .int (k.1 5), .int (k.1 6), .int (k.1 7), .int (k.1 8), .int (k.1 9), .int (k.1 10), .ref mn, .ref ms, .int (y.1 0), .ref mk, .int (y.1 1)])), (mb, .inl (cI, 5, .inl k.2.1)), (ma, .inl (cI, 30, .inl k.2.2.1)), (me, .inl (cI, 12, .inl k.2.2.2.1)), (mr, .inl (cI, 12, .inl k.2.2.2.2)), (mn, .inl (cI, 52, .inl u)), (ms, .inl (cI, 52, .inl a)), (mk, .inl (cI, 16, .inl y.2))]) E Y hA hl.1 (c_X7_waits qm mb ma me mr mn ms mk k v1 a y) lk_X7_165 X0b (fun _ _ _ => trivial) [0, 1, 2, 3, 4, 5, 6, 7] [] [0, 1, 2, 3, 4, 5, 6, 7] rfl rfl (by decide) (fun _ => rfl) 0 rfl rfl ⟨Nat.le_of_ble_eq_true rfl, Nat.le_of_ble_eq_true rfl⟩ ⟨Nat.le_of_ble_eq_true rfl, Nat.le_of_ble_eq_true rfl⟩ rfl rfl (Nat.le_of_ble_eq_true rfl) dX7_passes_46 (fun u H locs hp Y => ?_)
          subst hp
          exact hC49 (f_X7_waits k v1) (hF.trans ((if_pos c_15).trans ((if_neg c_25).trans ((if_neg c_42).trans (rfl))))) _ _ _ Y (lv_sub hl [0] rfl)
      · skip
        refine lv_aload_n E.1.1 E.1.2.1 dX7_passes_28 rfl (lv_at hl 0 rfl) ?_
        refine r_Vv (wr := []) (w2 := fun u => [(qm, .inr (9, [.int (k.1 0), .int (k.1 1), .ref ma, .int (k.1 2), .ref mb, .int (k.1 3), .ref me, .ref mr, .int (k.1 4), .int (k.1 5), .int (k.1 6), .int (k.1 7), .int (k.1 8), .int (k.1 9), .int (k.1 10), .ref mn, .ref ms, .int (y.1 0), .ref mk, .int (y.1 1)])), (mb, .inl (cI, 5, .inl k.2.1)), (ma, .inl (cI, 30, .inl k.2.2.1)), (me, .inl (cI, 12, .inl k.2.2.2.1)), (mr, .inl (cI, 12, .inl k.2.2.2.2)), (mn, .inl (cI, 52, .inl u)), (ms, .inl (cI, 52, .inl a)), (mk, .inl (cI, 16, .inl y.2))]) E Y hA hl.1 (c_X7_plays qm mb ma me mr mn ms mk k v1 a y) lk_X7_162 X0b (fun _ _ _ => trivial) [0, 1, 2, 3, 4, 5, 6, 7] [] [0, 1, 2, 3, 4, 5, 6, 7] rfl rfl (by decide) (fun _ => rfl) 0 rfl rfl ⟨Nat.le_of_ble_eq_true rfl, Nat.le_of_ble_eq_true rfl⟩ ⟨Nat.le_of_ble_eq_true rfl, Nat.le_of_ble_eq_true rfl⟩ rfl rfl (Nat.le_of_ble_eq_true rfl) dX7_passes_29 (fun u H locs hp Y => ?_)
        subst hp
        refine lv_goto (tgt := 49) E.1.1 E.1.2.1 dX7_passes_32 (by decide) ?_
        exact hC49 (f_X7_plays k v1) (hF.trans ((if_pos c_15).trans ((if_pos c_25).trans (rfl)))) _ _ _ Y (lv_sub hl [0] rfl)
  refine lv_aload_n E.1.1 E.1.2.1 dX7_passes_0 rfl (lv_at hl 0 rfl) ?_
  refine lv_iload_n E.1.1 E.1.2.1 dX7_passes_1 rfl (lv_at hl 1 rfl) ?_
  refine r_Vv (wr := []) (w2 := fun u => [(qm, .inr (9, [.int (k.1 0), .int (k.1 1), .ref ma, .int (k.1 2), .ref mb, .int (k.1 3), .ref me, .ref mr, .int (k.1 4), .int (k.1 5), .int (k.1 6), .int (k.1 7), .int (k.1 8), .int (k.1 9), .int (k.1 10), .ref mn, .ref ms, .int (y.1 0), .ref mk, .int (y.1 1)])), (mb, .inl (cI, 5, .inl k.2.1)), (ma, .inl (cI, 30, .inl k.2.2.1)), (me, .inl (cI, 12, .inl k.2.2.2.1)), (mr, .inl (cI, 12, .inl k.2.2.2.2)), (mn, .inl (cI, 52, .inl u)), (ms, .inl (cI, 52, .inl a)), (mk, .inl (cI, 16, .inl y.2))]) E Y hA hl.1 (c_X7_startsDownload qm mb ma me mr mn ms mk k v a y p0 pO) lk_X7_155 X0b (fun _ _ _ => trivial) [0, 1, 2, 3, 4, 5, 6, 7] [] [0, 1, 2, 3, 4, 5, 6, 7] rfl rfl (by decide) (fun _ => rfl) 0 rfl rfl ⟨Nat.le_of_ble_eq_true rfl, Nat.le_of_ble_eq_true rfl⟩ ⟨Nat.le_of_ble_eq_true rfl, Nat.le_of_ble_eq_true rfl⟩ rfl rfl (Nat.le_of_ble_eq_true rfl) dX7_passes_2 (fun u H locs hp Y => ?_)
  subst hp
  refine lv_aload_n E.1.1 E.1.2.1 dX7_passes_5 rfl (lv_at hl 0 rfl) ?_
  refine r_Vv (wr := []) (w2 := fun u => [(qm, .inr (9, [.int (k.1 0), .int (k.1 1), .ref ma, .int (k.1 2), .ref mb, .int (k.1 3), .ref me, .ref mr, .int (k.1 4), .int (k.1 5), .int (k.1 6), .int (k.1 7), .int (k.1 8), .int (k.1 9), .int (k.1 10), .ref mn, .ref ms, .int (y.1 0), .ref mk, .int (y.1 1)])), (mb, .inl (cI, 5, .inl k.2.1)), (ma, .inl (cI, 30, .inl k.2.2.1)), (me, .inl (cI, 12, .inl k.2.2.2.1)), (mr, .inl (cI, 12, .inl k.2.2.2.2)), (mn, .inl (cI, 52, .inl u)), (ms, .inl (cI, 52, .inl a)), (mk, .inl (cI, 16, .inl y.2))]) E Y hA hl.1 (c_X7_receives qm mb ma me mr mn ms mk k (f_X7_startsDownload k v p0) a y (pO.1) (rc_pre p0 pO)) lk_X7_159 X0b (fun _ _ _ => trivial) [0, 1, 2, 3, 4, 5, 6, 7] [] [0, 1, 2, 3, 4, 5, 6, 7] rfl rfl (by decide) (fun _ => rfl) 0 rfl rfl ⟨Nat.le_of_ble_eq_true rfl, Nat.le_of_ble_eq_true rfl⟩ ⟨Nat.le_of_ble_eq_true rfl, Nat.le_of_ble_eq_true rfl⟩ rfl rfl (Nat.le_of_ble_eq_true rfl) dX7_passes_6 (fun u H locs hp Y => ?_)
  subst hp
  exact hC9 (f_X7_receives k (f_X7_startsDownload k v p0)) (rfl) _ _ _ Y (lv_sub hl [0] rfl)

theorem ps_ok {k : Cf} {v : Fn} {j : Nat} (hk : KOK k) (hl : 1 ≤ (k.1 2).toInt) (hj : j < 1000000000) (h : NI k v j) (p : Int32) : NI k (f_X7_passes k v p) (j + 1) := by
  have h1 := sd_ok (Int.natCast_nonneg j) hk hl h.1 p
  have h2 := rc_ok (Int.natCast_nonneg j) (by omega) hk h1
  have h0 : f_X7_receives k (f_X7_startsDownload k v p) 0 = nI j := by rw [rc_0, sd_0]; exact h.2
  unfold f_X7_passes f_X7_passes_c9
  generalize f_X7_receives k (f_X7_startsDownload k v p) = v1 at h2 h0 ⊢
  have fin : ∀ w : Fn, NOK ((j : Int) + 1) k w → w 0 = nI j → NI k (f_X7_passes_c49 w) (j + 1) := by
    intro w hw hw0
    refine ⟨?_, ?_⟩
    · have e : ((j + 1 : Nat) : Int) = (j : Int) + 1 := by omega
      rw [e]
      exact hw
    · show w 0 + 1 = nI (j + 1)
      rw [hw0]
      exact nI_1 j
  split
  · split
    · next h3 => exact fin _ (pl_ok hk h2 h3) (by rw [pl_0]; exact h0)
    · split
      · exact fin _ h2 h0
      · exact fin _ (wa_ok hk h2) (by rw [wa_0]; exact h0)
  · exact fin _ h2 h0
theorem bg_l32 : ∀ (n j : Nat) (v : Fn), 30 < j + n → j ≤ 30 → ∀ i, f_X7_begins_l32 n v j i = if 22 + j ≤ i ∧ i < 52 then -6 else v i
  | 0, j, v, h, hj, i => absurd h (by omega)
  | n + 1, j, v, h, hj, i => by
    rw [f_X7_begins_l32]
    split
    · next h1 =>
      have h2 := nI_yge (a := 30) h1 (by decide) (by omega)
      rw [if_neg (by omega)]
    · next h1 =>
      have h2 := nI_nge (a := 30) h1 (by omega)
      rw [bg_l32 n (j + 1) _ (by omega) (by omega) i]
      by_cases hi : i = 22 + j
      · subst hi
        rw [if_neg (by omega), if_pos (by omega), pk_us]
      · rw [pk_un hi]
        by_cases h3 : 22 + (j + 1) ≤ i ∧ i < 52
        · rw [if_pos h3, if_pos (by omega)]
        · rw [if_neg h3, if_neg (by omega)]
theorem bg_l2 : ∀ (n j : Nat) (v : Fn), 52 < j + n → j ≤ 52 → ∀ i, f_X7_begins_l2 n v j i = if 22 ≤ i ∧ i < 52 then -6 else if i = 15 then -6 else if j ≤ i ∧ i < 52 then 0 else v i
  | 0, j, v, h, hj, i => absurd h (by omega)
  | n + 1, j, v, h, hj, i => by
    rw [f_X7_begins_l2]
    split
    · next h1 =>
      have h2 := nI_yge (a := 52) h1 (by decide) (by omega)
      rw [bg_l32 31 0 _ (by omega) (by omega) i]
      by_cases h3 : 22 ≤ i ∧ i < 52
      · rw [if_pos (by omega), if_pos h3]
      · rw [if_neg (by omega), if_neg h3]
        by_cases h4 : i = 15
        · subst h4
          rw [pk_us, if_pos rfl]
        · rw [pk_un h4, if_neg h4, if_neg (by omega)]
    · next h1 =>
      have h2 := nI_nge (a := 52) h1 (by omega)
      rw [bg_l2 n (j + 1) _ (by omega) (by omega) i]
      by_cases h3 : 22 ≤ i ∧ i < 52
      · rw [if_pos h3, if_pos h3]
      · rw [if_neg h3, if_neg h3]
        by_cases h4 : i = 15
        · rw [if_pos h4, if_pos h4]
        · rw [if_neg h4, if_neg h4]
          by_cases hi : i = j
          · subst hi
            rw [if_neg (by omega), if_pos (by omega), pk_us]
          · rw [pk_un hi]
            by_cases h5 : j + 1 ≤ i ∧ i < 52
            · rw [if_pos h5, if_pos (by omega)]
            · rw [if_neg h5, if_neg (by omega)]
/-- a session's start, of the reference -/
theorem bg_at (v : Fn) (i : Nat) : f_X7_begins v i = if 22 ≤ i ∧ i < 52 then -6 else if i = 15 then -6 else if i < 52 then 0 else v i := by
  unfold f_X7_begins
  rw [bg_l2 53 0 v (by omega) (by omega) i]
  by_cases h3 : 22 ≤ i ∧ i < 52
  · rw [if_pos h3, if_pos h3]
  · rw [if_neg h3, if_neg h3]
    by_cases h4 : i = 15
    · rw [if_pos h4, if_pos h4]
    · rw [if_neg h4, if_neg h4]
      by_cases h5 : i < 52
      · rw [if_pos (by omega), if_pos h5]
      · rw [if_neg (by omega), if_neg h5]
theorem bl0 {b : Int} (h : 0 ≤ b) : btw (0 : Int32) 0 b := ⟨by decide, by rw [i32_0]; exact h⟩
theorem bg_ok {k : Cf} (hk : KOK k) (v : Fn) : NI k (f_X7_begins v) 0 := by
  have hz : ∀ i, i < 15 → f_X7_begins v i = 0 := fun i hi => by
    rw [bg_at, if_neg (by omega), if_neg (by omega), if_pos (by omega)]
  have h15 : f_X7_begins v 15 = -6 := by rw [bg_at]; rfl
  refine ⟨?_, by rw [hz 0 (by decide)]; rfl⟩
  unfold NOK
  rw [hz 1 (by decide), hz 3 (by decide), hz 4 (by decide), hz 5 (by decide), hz 6 (by decide), hz 11 (by decide), hz 12 (by decide), hz 13 (by decide), hz 14 (by decide), h15]
  refine ⟨bl0 (by decide), bl0 (by decide), fun h => absurd h (by decide), bl0 (by decide), bl0 (by have := hk.1.1; omega), bl0 (by decide), fun h => absurd h (by decide), bl0 (by decide), bl0 (by decide), bl0 (by decide), bl0 (by decide), Or.inl rfl⟩
theorem l1_of {k : Cf} (hk : KOK k) (h : ¬ k.1 2 = 0) : 1 ≤ (k.1 2).toInt := by
  rw [fa_eq, i32_0] at h
  have := hk.2.2.1.1
  omega
theorem t_lt {v : Fn} {t : Nat} (e : v 0 = nI t) (h : ¬ 120000 ≤ v 0) (ht : t ≤ 120000) : t + 1 ≤ 120000 := by
  rw [e] at h
  exact nI_nge (a := 120000) h (by omega)
theorem kok_cap {k : Cf} (hk : KOK k) {j : Nat} (hj : j < 5) : KOK (upd k.1 10 (nI j), k.2.1, k.2.2.1, k.2.2.2.1, k.2.2.2.2) := by
  obtain ⟨h0, h1, h2, h3, h4, h5, h6, h7, h8, h10, hr⟩ := hk
  exact ⟨h0, h1, h2, h3, h4, h5, h6, h7, h8, (show btw (nI j) 0 4 from ⟨by rw [nI_toInt (by omega)]; omega, by rw [nI_toInt (by omega)]; omega⟩), hr⟩
theorem bs_j {k : Cf} (hk : KOK k) {j : Nat} (hj : j ≤ 5) (h : ¬ k.1 2 ≤ nI j) : j < 5 := by
  rw [fa_le, nI_toInt (by omega)] at h
  have := hk.2.2.1.2
  omega
theorem ad_j {p : Int32} {j : Nat} (h : ¬ f_X7_within p 1 60000 = 0) (h2 : ¬ p ≤ nI j) (hj : j ≤ 60000) : j + 1 ≤ 60000 := by
  obtain ⟨-, h1⟩ := within_y h
  rw [show (60000 : Int32).toInt = 60000 by decide] at h1
  rw [fa_le, nI_toInt (by omega)] at h2
  omega

theorem sl_b {k : Cf} (hk : KOK k) {p : Int32} (h : ¬ f_X7_within p 0 (k.1 0 - 1) = 0) : btw p 0 29 := by
  have h1 := vp_in_iff.mp (in_with (n := 30) (by decide) hk.1 h)
  exact ⟨h1.1, by omega⟩
theorem sl_in {k : Cf} (hk : KOK k) {p : Int32} (h : ¬ f_X7_within p 0 (k.1 0 - 1) = 0) : vp_in (22 + p : Int32) 52 := c5_in (sl_b hk h)
theorem sl_cl {k : Cf} (hk : KOK k) {p : Int32} (h : ¬ f_X7_within p 0 (k.1 0 - 1) = 0) : (22 + p : Int32).toNatClampNeg = 22 + p.toNatClampNeg := c5_cl (sl_b hk h)

def f_X7_simulates_l4 (k : Cf) (p0 : Int32) : Nat → Fn → Fn
  | 0, v1 => v1
  | n + 1, v1 => if (v1 (3)) = (3 : Int32) then v1 else (if (120000 : Int32) ≤ (v1 (0)) then v1 else f_X7_simulates_l4 k p0 n (f_X7_passes k v1 p0))
def f_X7_simulates (k : Cf) (v : Fn) (p0 : Int32) : Fn := f_X7_simulates_l4 k p0 120001 (f_X7_begins v)
set_option maxRecDepth 100000 in
set_option maxHeartbeats 4000000 in
theorem c_X7_simulates {l : Launch} {D : va_G} {cI cB : ClassId} (qm mb ma me mr mn ms mk : Nat) (k : Cf) (v : Fn) (a : Fn) (y : Ky) (p0 : Int32) (kO : KOK k) (l1 : 1 ≤ (k.1 2).toInt) : CV l X0 D cI cB yX7_simulates cX7_simulates 2 6 130 0 0 [.ref qm, .int p0] (wM cI qm mb ma me mr mn ms mk k v a y) (fun (u : Fn) => u = (f_X7_simulates k v p0)) (fun u => (wM cI qm mb ma me mr mn ms mk k u a y)) := by
  refine CV.of (by decide) (Nat.le_of_ble_eq_true rfl) ?_
  intro p e s m below meth c A ls E hr hk hin hA hAA hX Y hl
  have E : EE p c cX7_simulates 2 s _ m RX7 D cI cB := E
  have hl : lv_has ls 2 [(0, .ref qm), (1, .int p0)] := hl
  refine lv_aload_n E.1.1 E.1.2.1 dX7_simulates_0 rfl (lv_at hl 0 rfl) ?_
  refine r_Vv (wr := []) (w2 := fun u => [(qm, .inr (9, [.int (k.1 0), .int (k.1 1), .ref ma, .int (k.1 2), .ref mb, .int (k.1 3), .ref me, .ref mr, .int (k.1 4), .int (k.1 5), .int (k.1 6), .int (k.1 7), .int (k.1 8), .int (k.1 9), .int (k.1 10), .ref mn, .ref ms, .int (y.1 0), .ref mk, .int (y.1 1)])), (mb, .inl (cI, 5, .inl k.2.1)), (ma, .inl (cI, 30, .inl k.2.2.1)), (me, .inl (cI, 12, .inl k.2.2.2.1)), (mr, .inl (cI, 12, .inl k.2.2.2.2)), (mn, .inl (cI, 52, .inl u)), (ms, .inl (cI, 52, .inl a)), (mk, .inl (cI, 16, .inl y.2))]) E Y hA hl.1 (c_X7_begins qm mb ma me mr mn ms mk k v a y) lk_X7_56 X0b (fun _ _ _ => trivial) [0, 1, 2, 3, 4, 5, 6, 7] [] [0, 1, 2, 3, 4, 5, 6, 7] rfl rfl (by decide) (fun _ => rfl) 0 rfl rfl ⟨Nat.le_of_ble_eq_true rfl, Nat.le_of_ble_eq_true rfl⟩ ⟨Nat.le_of_ble_eq_true rfl, Nat.le_of_ble_eq_true rfl⟩ rfl rfl (Nat.le_of_ble_eq_true rfl) dX7_simulates_1 (fun u H locs hp Y => ?_)
  subst hp
  have hL : ∀ (n : Nat) (v1 : Fn) (t : Nat), (hI : NI k v1 t) → (ht : t ≤ 120000) → (hn : 120000 < t + n) → (f_X7_simulates k v p0) = f_X7_simulates_l4 k p0 n v1 → ∀ (H : Heap) (locs : List Loc) (ls : Array Slot), WD D A s.heap H locs [(qm, .inr (9, [.int (k.1 0), .int (k.1 1), .ref ma, .int (k.1 2), .ref mb, .int (k.1 3), .ref me, .ref mr, .int (k.1 4), .int (k.1 5), .int (k.1 6), .int (k.1 7), .int (k.1 8), .int (k.1 9), .int (k.1 10), .ref mn, .ref ms, .int (y.1 0), .ref mk, .int (y.1 1)])), (mb, .inl (cI, 5, .inl k.2.1)), (ma, .inl (cI, 30, .inl k.2.2.1)), (me, .inl (cI, 12, .inl k.2.2.2.1)), (mr, .inl (cI, 12, .inl k.2.2.2.2)), (mn, .inl (cI, 52, .inl v1)), (ms, .inl (cI, 52, .inl a)), (mk, .inl (cI, 16, .inl y.2))] → lv_has ls 2 [(0, .ref qm), (1, .int p0)] → W p l e { frames := 6, cells := 0, slots := 0, locals := 130 } s m ([.ref qm, .int p0] : List Value).toArray below meth c H locs 0 0 (MQ below (va_Qv (fun (u : Fn) => u = (f_X7_simulates k v p0)) (AT D cI cB A (fun u => (wM cI qm mb ma me mr mn ms mk k u a y))) A) ([.ref qm, .int p0] : List Value).toArray s 0 0 A) (F0 m 4 ls []) := by
    intro n
    induction n with
    | zero => intro v1 t hI ht hn; exact absurd hn (by omega)
    | succ n ih =>
      intro v1 t hI ht hn hF H locs ls Y hl
      refine lv_aload_n E.1.1 E.1.2.1 dX7_simulates_4 rfl (lv_at hl 0 rfl) ?_
      refine gf_X7_47 E Y 0 rfl rfl dX7_simulates_5 ?_
      refine lv_iconst (v := 3) E.1.1 E.1.2.1 dX7_simulates_8 (by decide) ?_
      refine r_ial E Y 5 rfl (3) (by decide) (by unfold vp_in; decide) dX7_simulates_9 ?_
      refine lv_iconst (v := 3) E.1.1 E.1.2.1 dX7_simulates_10 (by decide) ?_
      refine lv_icmp_eq (tgt := 33) E.1.1 E.1.2.1 dX7_simulates_11 (by decide) (fun c_11 => ?_) (fun c_11 => ?_)
      · skip
        have e9 : (f_X7_simulates k v p0) = v1 := hF.trans ((if_pos c_11).trans (rfl))
        exact r_vret E Y hr hk v1 (e9.symm) rfl ⟨Nat.le_of_ble_eq_true rfl, Nat.le_of_ble_eq_true rfl⟩ dX7_simulates_33
      · skip
        refine lv_aload_n E.1.1 E.1.2.1 dX7_simulates_14 rfl (lv_at hl 0 rfl) ?_
        refine gf_X7_47 E Y 0 rfl rfl dX7_simulates_15 ?_
        refine lv_iconst (v := 0) E.1.1 E.1.2.1 dX7_simulates_18 (by decide) ?_
        refine r_ial E Y 5 rfl (0) (by decide) (by unfold vp_in; decide) dX7_simulates_19 ?_
        refine lv_ldc (v := 120000) E.1.1 E.1.2.1 E.1.2.2.2.1 (E.1.2.2.2.2 _ mk_X7_171) dX7_simulates_20 ?_
        refine lv_icmp_ge (tgt := 33) E.1.1 E.1.2.1 dX7_simulates_22 (by decide) (fun c_22 => ?_) (fun c_22 => ?_)
        · skip
          have e9 : (f_X7_simulates k v p0) = v1 := hF.trans ((if_neg c_11).trans ((if_pos c_22).trans (rfl)))
          exact r_vret E Y hr hk v1 (e9.symm) rfl ⟨Nat.le_of_ble_eq_true rfl, Nat.le_of_ble_eq_true rfl⟩ dX7_simulates_33
        · skip
          refine lv_aload_n E.1.1 E.1.2.1 dX7_simulates_25 rfl (lv_at hl 0 rfl) ?_
          refine lv_iload_n E.1.1 E.1.2.1 dX7_simulates_26 rfl (lv_at hl 1 rfl) ?_
          refine r_Vv (wr := []) (w2 := fun u => [(qm, .inr (9, [.int (k.1 0), .int (k.1 1), .ref ma, .int (k.1 2), .ref mb, .int (k.1 3), .ref me, .ref mr, .int (k.1 4), .int (k.1 5), .int (k.1 6), .int (k.1 7), .int (k.1 8), .int (k.1 9), .int (k.1 10), .ref mn, .ref ms, .int (y.1 0), .ref mk, .int (y.1 1)])), (mb, .inl (cI, 5, .inl k.2.1)), (ma, .inl (cI, 30, .inl k.2.2.1)), (me, .inl (cI, 12, .inl k.2.2.2.1)), (mr, .inl (cI, 12, .inl k.2.2.2.2)), (mn, .inl (cI, 52, .inl u)), (ms, .inl (cI, 52, .inl a)), (mk, .inl (cI, 16, .inl y.2))]) E Y hA hl.1 (c_X7_passes qm mb ma me mr mn ms mk k v1 a y p0 (⟨kO, l1, t, by omega, hI⟩)) lk_X7_168 X0b (fun _ _ _ => trivial) [0, 1, 2, 3, 4, 5, 6, 7] [] [0, 1, 2, 3, 4, 5, 6, 7] rfl rfl (by decide) (fun _ => rfl) 0 rfl rfl ⟨Nat.le_of_ble_eq_true rfl, Nat.le_of_ble_eq_true rfl⟩ ⟨Nat.le_of_ble_eq_true rfl, Nat.le_of_ble_eq_true rfl⟩ rfl rfl (Nat.le_of_ble_eq_true rfl) dX7_simulates_27 (fun u H locs hp Y => ?_)
          subst hp
          refine lv_goto (tgt := 4) E.1.1 E.1.2.1 dX7_simulates_30 (by decide) ?_
          exact ih (f_X7_passes k v1 p0) (t + 1) (ps_ok kO l1 (by omega) hI p0) (t_lt hI.2 c_22 ht) (by omega) (hF.trans ((if_neg c_11).trans ((if_neg c_22).trans (rfl)))) H locs ls Y (lv_sub hl [0, 1] rfl)
  exact hL 120001 (f_X7_begins v) (0) (bg_ok kO v) (by decide) (by decide) (rfl) _ _ _ Y (lv_sub hl [0, 1] rfl)

def f_X7_advance_l32 (k : Cf) (v : Fn) (p0 : Int32) : Nat → Fn → Nat → Int32 × Fn
  | 0, v1, j => (0, v1)
  | n + 1, v1, j => if p0 ≤ (nI j) then (((v1 (21)) - (v (21))), v1) else f_X7_advance_l32 k v p0 n (f_X7_passes k v1 (k.1 9)) (j + 1)
def f_X7_advance (k : Cf) (v : Fn) (p0 : Int32) : Int32 × Fn := if (f_X7_within p0 (1 : Int32) (60000 : Int32)) = 0 then ((-1 : Int32), v) else (if (k.1 2) = 0 then ((-4 : Int32), v) else f_X7_advance_l32 k v p0 60001 v (0))
set_option maxRecDepth 100000 in
set_option maxHeartbeats 4000000 in
theorem c_X7_advance {l : Launch} {D : va_G} {cI cB : ClassId} (qm mb ma me mr mn ms mk : Nat) (k : Cf) (v : Fn) (a : Fn) (y : Ky) (p0 : Int32) (kO : KOK k) (tO : ∃ t : Nat, t ≤ 900000000 ∧ NI k v t) : CI l X0 D cI cB yX7_advance cX7_advance 4 (some .int) 6 130 0 0 [.ref qm, .int p0] (wM cI qm mb ma me mr mn ms mk k v a y) (fun (r : Int32) (u : Fn) => r = (f_X7_advance k v p0).1 ∧ u = (f_X7_advance k v p0).2) (fun u => (wM cI qm mb ma me mr mn ms mk k u a y)) := by
  refine CI.of (by decide) (Nat.le_of_ble_eq_true rfl) ?_
  intro p e s m below meth c A ls E hr hk hin hA hAA hX Y hl
  have E : EE p c cX7_advance 4 s _ m RX7 D cI cB := E
  have hl : lv_has ls 4 [(0, .ref qm), (1, .int p0)] := hl
  refine lv_iload_n E.1.1 E.1.2.1 dX7_advance_0 rfl (lv_at hl 1 rfl) ?_
  refine lv_iconst (v := 1) E.1.1 E.1.2.1 dX7_advance_1 (by decide) ?_
  refine lv_ldc (v := 60000) E.1.1 E.1.2.1 E.1.2.2.2.1 (E.1.2.2.2.2 _ mk_X7_66) dX7_advance_2 ?_
  refine r_Si (wr := [(qm, .inr (9, [.int (k.1 0), .int (k.1 1), .ref ma, .int (k.1 2), .ref mb, .int (k.1 3), .ref me, .ref mr, .int (k.1 4), .int (k.1 5), .int (k.1 6), .int (k.1 7), .int (k.1 8), .int (k.1 9), .int (k.1 10), .ref mn, .ref ms, .int (y.1 0), .ref mk, .int (y.1 1)])), (mb, .inl (cI, 5, .inl k.2.1)), (ma, .inl (cI, 30, .inl k.2.2.1)), (me, .inl (cI, 12, .inl k.2.2.2.1)), (mr, .inl (cI, 12, .inl k.2.2.2.2)), (mn, .inl (cI, 52, .inl v)), (ms, .inl (cI, 52, .inl a)), (mk, .inl (cI, 16, .inl y.2))]) (w2 := fun _ => [(qm, .inr (9, [.int (k.1 0), .int (k.1 1), .ref ma, .int (k.1 2), .ref mb, .int (k.1 3), .ref me, .ref mr, .int (k.1 4), .int (k.1 5), .int (k.1 6), .int (k.1 7), .int (k.1 8), .int (k.1 9), .int (k.1 10), .ref mn, .ref ms, .int (y.1 0), .ref mk, .int (y.1 1)])), (mb, .inl (cI, 5, .inl k.2.1)), (ma, .inl (cI, 30, .inl k.2.2.1)), (me, .inl (cI, 12, .inl k.2.2.2.1)), (mr, .inl (cI, 12, .inl k.2.2.2.2)), (mn, .inl (cI, 52, .inl v)), (ms, .inl (cI, 52, .inl a)), (mk, .inl (cI, 16, .inl y.2))]) E Y hA hl.1 (c_X7_within p0 (1 : Int32) (60000 : Int32)) lk_X7_59 X0b (fun _ _ _ => trivial) [] [0, 1, 2, 3, 4, 5, 6, 7] [0, 1, 2, 3, 4, 5, 6, 7] rfl rfl (by decide) (fun _ => rfl) ⟨Nat.le_of_ble_eq_true rfl, Nat.le_of_ble_eq_true rfl⟩ ⟨Nat.le_of_ble_eq_true rfl, Nat.le_of_ble_eq_true rfl⟩ rfl rfl (Nat.le_of_ble_eq_true rfl) dX7_advance_4 (fun r u H locs hp Y => ?_)
  subst hp
  refine lv_if_ne (tgt := 12) E.1.1 E.1.2.1 dX7_advance_7 (by decide) (fun c_7 => ?_) (fun c_7 => ?_)
  · skip
    refine lv_aload_n E.1.1 E.1.2.1 dX7_advance_12 rfl (lv_at hl 0 rfl) ?_
    refine gf_X7_63 E Y 0 rfl rfl dX7_advance_13 ?_
    refine lv_if_ne (tgt := 22) E.1.1 E.1.2.1 dX7_advance_16 (by decide) (fun c_16 => ?_) (fun c_16 => ?_)
    · skip
      refine lv_aload_n E.1.1 E.1.2.1 dX7_advance_22 rfl (lv_at hl 0 rfl) ?_
      refine gf_X7_47 E Y 0 rfl rfl dX7_advance_23 ?_
      refine lv_bipush (v := 21) E.1.1 E.1.2.1 dX7_advance_26 (by decide) ?_
      refine r_ial E Y 5 rfl (21) (by decide) (by unfold vp_in; decide) dX7_advance_28 ?_
      refine lv_istore_n (lv' := [(2, .int (v (21))), (0, .ref qm), (1, .int p0)]) E.1.1 E.1.2.1 dX7_advance_29 rfl hl (by decide) rfl (fun ls hl => ?_)
      refine lv_iconst (v := 0) E.1.1 E.1.2.1 dX7_advance_30 (by decide) ?_
      refine lv_istore_n (lv' := [(3, .int (0 : Int32)), (2, .int (v (21))), (0, .ref qm), (1, .int p0)]) E.1.1 E.1.2.1 dX7_advance_31 rfl hl (by decide) rfl (fun ls hl => ?_)
      have hL : ∀ (n : Nat) (v1 : Fn) (j : Nat) (t : Nat), (hI : NI k v1 t) → (ht : t ≤ 900000000 + j) → (hj : j ≤ 60000) → (hn : 60000 < j + n) → (f_X7_advance k v p0) = f_X7_advance_l32 k v p0 n v1 j → ∀ (H : Heap) (locs : List Loc) (ls : Array Slot), WD D A s.heap H locs [(qm, .inr (9, [.int (k.1 0), .int (k.1 1), .ref ma, .int (k.1 2), .ref mb, .int (k.1 3), .ref me, .ref mr, .int (k.1 4), .int (k.1 5), .int (k.1 6), .int (k.1 7), .int (k.1 8), .int (k.1 9), .int (k.1 10), .ref mn, .ref ms, .int (y.1 0), .ref mk, .int (y.1 1)])), (mb, .inl (cI, 5, .inl k.2.1)), (ma, .inl (cI, 30, .inl k.2.2.1)), (me, .inl (cI, 12, .inl k.2.2.2.1)), (mr, .inl (cI, 12, .inl k.2.2.2.2)), (mn, .inl (cI, 52, .inl v1)), (ms, .inl (cI, 52, .inl a)), (mk, .inl (cI, 16, .inl y.2))] → lv_has ls 4 [(0, .ref qm), (1, .int p0), (2, .int (v (21))), (3, .int (nI j))] → W p l e { frames := 6, cells := 0, slots := 0, locals := 130 } s m ([.ref qm, .int p0] : List Value).toArray below meth c H locs 0 0 (MQ below (va_Qi (fun (r : Int32) (u : Fn) => r = (f_X7_advance k v p0).1 ∧ u = (f_X7_advance k v p0).2) (AT D cI cB A (fun u => (wM cI qm mb ma me mr mn ms mk k u a y))) A) ([.ref qm, .int p0] : List Value).toArray s 0 0 A) (F0 m 32 ls []) := by
        intro n
        induction n with
        | zero => intro v1 j t hI ht hj hn; exact absurd hn (by omega)
        | succ n ih =>
          intro v1 j t hI ht hj hn hF H locs ls Y hl
          refine lv_iload_n E.1.1 E.1.2.1 dX7_advance_32 rfl (lv_at hl 3 rfl) ?_
          refine lv_iload_n E.1.1 E.1.2.1 dX7_advance_33 rfl (lv_at hl 1 rfl) ?_
          refine lv_icmp_ge (tgt := 51) E.1.1 E.1.2.1 dX7_advance_34 (by decide) (fun c_34 => ?_) (fun c_34 => ?_)
          · skip
            refine lv_aload_n E.1.1 E.1.2.1 dX7_advance_51 rfl (lv_at hl 0 rfl) ?_
            refine gf_X7_47 E Y 0 rfl rfl dX7_advance_52 ?_
            refine lv_bipush (v := 21) E.1.1 E.1.2.1 dX7_advance_55 (by decide) ?_
            refine r_ial E Y 5 rfl (21) (by decide) (by unfold vp_in; decide) dX7_advance_57 ?_
            refine lv_iload_n E.1.1 E.1.2.1 dX7_advance_58 rfl (lv_at hl 2 rfl) ?_
            refine lv_isub E.1.1 E.1.2.1 dX7_advance_59 ?_
            have e9 : (f_X7_advance k v p0) = (((v1 (21)) - (v (21))), v1) := hF.trans ((if_pos c_34).trans (rfl))
            exact r_iret E Y hr hk ((v1 (21)) - (v (21))) v1 (pr_of e9) rfl ⟨Nat.le_of_ble_eq_true rfl, Nat.le_of_ble_eq_true rfl⟩ dX7_advance_60
          · skip
            refine lv_aload_n E.1.1 E.1.2.1 dX7_advance_37 rfl (lv_at hl 0 rfl) ?_
            refine lv_aload_n E.1.1 E.1.2.1 dX7_advance_38 rfl (lv_at hl 0 rfl) ?_
            refine gf_X7_82 E Y 0 rfl rfl dX7_advance_39 ?_
            refine r_Vv (wr := []) (w2 := fun u => [(qm, .inr (9, [.int (k.1 0), .int (k.1 1), .ref ma, .int (k.1 2), .ref mb, .int (k.1 3), .ref me, .ref mr, .int (k.1 4), .int (k.1 5), .int (k.1 6), .int (k.1 7), .int (k.1 8), .int (k.1 9), .int (k.1 10), .ref mn, .ref ms, .int (y.1 0), .ref mk, .int (y.1 1)])), (mb, .inl (cI, 5, .inl k.2.1)), (ma, .inl (cI, 30, .inl k.2.2.1)), (me, .inl (cI, 12, .inl k.2.2.2.1)), (mr, .inl (cI, 12, .inl k.2.2.2.2)), (mn, .inl (cI, 52, .inl u)), (ms, .inl (cI, 52, .inl a)), (mk, .inl (cI, 16, .inl y.2))]) E Y hA hl.1 (c_X7_passes qm mb ma me mr mn ms mk k v1 a y (k.1 9) (⟨kO, l1_of kO c_16, t, by omega, hI⟩)) lk_X7_168 X0b (fun _ _ _ => trivial) [0, 1, 2, 3, 4, 5, 6, 7] [] [0, 1, 2, 3, 4, 5, 6, 7] rfl rfl (by decide) (fun _ => rfl) 0 rfl rfl ⟨Nat.le_of_ble_eq_true rfl, Nat.le_of_ble_eq_true rfl⟩ ⟨Nat.le_of_ble_eq_true rfl, Nat.le_of_ble_eq_true rfl⟩ rfl rfl (Nat.le_of_ble_eq_true rfl) dX7_advance_42 (fun u H locs hp Y => ?_)
            subst hp
            refine lv_iinc (v := (nI (j + 1))) (lv' := [(3, .int (nI (j + 1))), (0, .ref qm), (1, .int p0), (2, .int (v (21)))]) E.1.1 E.1.2.1 dX7_advance_45 hl (k := 3) rfl (nI_1 j) (by decide) rfl (fun ls hl => ?_)
            refine lv_goto (tgt := 32) E.1.1 E.1.2.1 dX7_advance_48 (by decide) ?_
            exact ih (f_X7_passes k v1 (k.1 9)) (j + 1) (t + 1) (ps_ok kO (l1_of kO c_16) (by omega) hI (k.1 9)) (by omega) (ad_j c_7 c_34 hj) (by omega) (hF.trans ((if_neg c_34).trans (rfl))) H locs ls Y (lv_sub hl [1, 2, 3, 0] rfl)
      exact hL 60001 v (0) (tO.choose) (tO.choose_spec.2) (tO.choose_spec.1) (by decide) (by decide) ((if_neg c_7).trans ((if_neg c_16).trans (rfl))) _ _ _ Y (lv_sub hl [2, 3, 1, 0] rfl)
    · skip
      refine lv_bipush (v := (-4)) E.1.1 E.1.2.1 dX7_advance_19 (by decide) ?_
      have e9 : (f_X7_advance k v p0) = ((-4 : Int32), v) := (if_neg c_7).trans ((if_pos c_16).trans (rfl))
      exact r_iret E Y hr hk (-4 : Int32) v (pr_of e9) rfl ⟨Nat.le_of_ble_eq_true rfl, Nat.le_of_ble_eq_true rfl⟩ dX7_advance_21
  · skip
    refine lv_iconst (v := (-1)) E.1.1 E.1.2.1 dX7_advance_10 (by decide) ?_
    have e9 : (f_X7_advance k v p0) = ((-1 : Int32), v) := (if_pos c_7).trans (rfl)
    exact r_iret E Y hr hk (-1 : Int32) v (pr_of e9) rfl ⟨Nat.le_of_ble_eq_true rfl, Nat.le_of_ble_eq_true rfl⟩ dX7_advance_11

def f_X7_setsAside_l2 (v : Fn) : Nat → Fn → Nat → Fn
  | 0, a1, j => a1
  | n + 1, a1, j => if (52 : Int32) ≤ (nI j) then a1 else f_X7_setsAside_l2 v n (upd a1 j (v j)) (j + 1)
def f_X7_setsAside (v : Fn) (a : Fn) : Fn := f_X7_setsAside_l2 v 53 a (0)
set_option maxRecDepth 100000 in
set_option maxHeartbeats 4000000 in
theorem c_X7_setsAside {l : Launch} {D : va_G} {cI cB : ClassId} (qm mb ma me mr mn ms mk : Nat) (k : Cf) (v : Fn) (a : Fn) (y : Ky) : CV l X0 D cI cB yX7_setsAside cX7_setsAside 2 0 0 0 0 [.ref qm] (wM cI qm mb ma me mr mn ms mk k v a y) (fun (u : Fn) => u = (f_X7_setsAside v a)) (fun u => (wM cI qm mb ma me mr mn ms mk k v u y)) := by
  refine CV.of (by decide) (Nat.le_of_ble_eq_true rfl) ?_
  intro p e s m below meth c A ls E hr hk hin hA hAA hX Y hl
  have E : EE p c cX7_setsAside 2 s _ m RX7 D cI cB := E
  have hl : lv_has ls 2 [(0, .ref qm)] := hl
  refine lv_iconst (v := 0) E.1.1 E.1.2.1 dX7_setsAside_0 (by decide) ?_
  refine lv_istore_n (lv' := [(1, .int (0 : Int32)), (0, .ref qm)]) E.1.1 E.1.2.1 dX7_setsAside_1 rfl hl (by decide) rfl (fun ls hl => ?_)
  have hL : ∀ (n : Nat) (a1 : Fn) (j : Nat), (hj : j ≤ 52) → (hn : 52 < j + n) → (f_X7_setsAside v a) = f_X7_setsAside_l2 v n a1 j → ∀ (H : Heap) (locs : List Loc) (ls : Array Slot), WD D A s.heap H locs [(qm, .inr (9, [.int (k.1 0), .int (k.1 1), .ref ma, .int (k.1 2), .ref mb, .int (k.1 3), .ref me, .ref mr, .int (k.1 4), .int (k.1 5), .int (k.1 6), .int (k.1 7), .int (k.1 8), .int (k.1 9), .int (k.1 10), .ref mn, .ref ms, .int (y.1 0), .ref mk, .int (y.1 1)])), (mb, .inl (cI, 5, .inl k.2.1)), (ma, .inl (cI, 30, .inl k.2.2.1)), (me, .inl (cI, 12, .inl k.2.2.2.1)), (mr, .inl (cI, 12, .inl k.2.2.2.2)), (mn, .inl (cI, 52, .inl v)), (ms, .inl (cI, 52, .inl a1)), (mk, .inl (cI, 16, .inl y.2))] → lv_has ls 2 [(0, .ref qm), (1, .int (nI j))] → W p l e { frames := 0, cells := 0, slots := 0, locals := 0 } s m ([.ref qm] : List Value).toArray below meth c H locs 0 0 (MQ below (va_Qv (fun (u : Fn) => u = (f_X7_setsAside v a)) (AT D cI cB A (fun u => (wM cI qm mb ma me mr mn ms mk k v u y))) A) ([.ref qm] : List Value).toArray s 0 0 A) (F0 m 2 ls []) := by
    intro n
    induction n with
    | zero => intro a1 j hj hn; exact absurd hn (by omega)
    | succ n ih =>
      intro a1 j hj hn hF H locs ls Y hl
      refine lv_iload_n E.1.1 E.1.2.1 dX7_setsAside_2 rfl (lv_at hl 1 rfl) ?_
      refine lv_bipush (v := 52) E.1.1 E.1.2.1 dX7_setsAside_3 (by decide) ?_
      refine lv_icmp_ge (tgt := 26) E.1.1 E.1.2.1 dX7_setsAside_5 (by decide) (fun c_5 => ?_) (fun c_5 => ?_)
      · skip
        have e9 : (f_X7_setsAside v a) = a1 := hF.trans ((if_pos c_5).trans (rfl))
        exact r_vret E Y hr hk a1 (e9.symm) rfl ⟨Nat.le_of_ble_eq_true rfl, Nat.le_of_ble_eq_true rfl⟩ dX7_setsAside_26
      · skip
        refine lv_aload_n E.1.1 E.1.2.1 dX7_setsAside_8 rfl (lv_at hl 0 rfl) ?_
        refine gf_X7_50 E Y 0 rfl rfl dX7_setsAside_9 ?_
        refine lv_iload_n E.1.1 E.1.2.1 dX7_setsAside_12 rfl (lv_at hl 1 rfl) ?_
        refine lv_aload_n E.1.1 E.1.2.1 dX7_setsAside_13 rfl (lv_at hl 0 rfl) ?_
        refine gf_X7_47 E Y 0 rfl rfl dX7_setsAside_14 ?_
        refine lv_iload_n E.1.1 E.1.2.1 dX7_setsAside_17 rfl (lv_at hl 1 rfl) ?_
        refine r_ial E Y 5 rfl j (nI_clamp (by omega)) (vp_in_nI (nI_nge (a := 52) c_5 (by omega)) (by decide)) dX7_setsAside_18 ?_
        refine r_ias (w' := [(qm, .inr (9, [.int (k.1 0), .int (k.1 1), .ref ma, .int (k.1 2), .ref mb, .int (k.1 3), .ref me, .ref mr, .int (k.1 4), .int (k.1 5), .int (k.1 6), .int (k.1 7), .int (k.1 8), .int (k.1 9), .int (k.1 10), .ref mn, .ref ms, .int (y.1 0), .ref mk, .int (y.1 1)])), (mb, .inl (cI, 5, .inl k.2.1)), (ma, .inl (cI, 30, .inl k.2.2.1)), (me, .inl (cI, 12, .inl k.2.2.2.1)), (mr, .inl (cI, 12, .inl k.2.2.2.2)), (mn, .inl (cI, 52, .inl v)), (ms, .inl (cI, 52, .inl (upd a1 j (v j)))), (mk, .inl (cI, 16, .inl y.2))]) E Y 6 rfl j (nI_clamp (by omega)) (vp_in_nI (nI_nge (a := 52) c_5 (by omega)) (by decide)) rfl dX7_setsAside_19 (fun H locs Y => ?_)
        refine lv_iinc (v := (nI (j + 1))) (lv' := [(1, .int (nI (j + 1))), (0, .ref qm)]) E.1.1 E.1.2.1 dX7_setsAside_20 hl (k := 1) rfl (nI_1 j) (by decide) rfl (fun ls hl => ?_)
        refine lv_goto (tgt := 2) E.1.1 E.1.2.1 dX7_setsAside_23 (by decide) ?_
        exact ih (upd a1 j (v j)) (j + 1) (by have := nI_nge (a := 52) (b := j) c_5 (by omega); omega) (by omega) (hF.trans ((if_neg c_5).trans (rfl))) H locs ls Y (lv_sub hl [1, 0] rfl)
  exact hL 53 a (0) (by decide) (by decide) (rfl) _ _ _ Y (lv_sub hl [1, 0] rfl)

def f_X7_takesBack_l2 (a : Fn) : Nat → Fn → Nat → Fn
  | 0, v1, j => v1
  | n + 1, v1, j => if (52 : Int32) ≤ (nI j) then v1 else f_X7_takesBack_l2 a n (upd v1 j (a j)) (j + 1)
def f_X7_takesBack (v : Fn) (a : Fn) : Fn := f_X7_takesBack_l2 a 53 v (0)
set_option maxRecDepth 100000 in
set_option maxHeartbeats 4000000 in
theorem c_X7_takesBack {l : Launch} {D : va_G} {cI cB : ClassId} (qm mb ma me mr mn ms mk : Nat) (k : Cf) (v : Fn) (a : Fn) (y : Ky) : CV l X0 D cI cB yX7_takesBack cX7_takesBack 2 0 0 0 0 [.ref qm] (wM cI qm mb ma me mr mn ms mk k v a y) (fun (u : Fn) => u = (f_X7_takesBack v a)) (fun u => (wM cI qm mb ma me mr mn ms mk k u a y)) := by
  refine CV.of (by decide) (Nat.le_of_ble_eq_true rfl) ?_
  intro p e s m below meth c A ls E hr hk hin hA hAA hX Y hl
  have E : EE p c cX7_takesBack 2 s _ m RX7 D cI cB := E
  have hl : lv_has ls 2 [(0, .ref qm)] := hl
  refine lv_iconst (v := 0) E.1.1 E.1.2.1 dX7_takesBack_0 (by decide) ?_
  refine lv_istore_n (lv' := [(1, .int (0 : Int32)), (0, .ref qm)]) E.1.1 E.1.2.1 dX7_takesBack_1 rfl hl (by decide) rfl (fun ls hl => ?_)
  have hL : ∀ (n : Nat) (v1 : Fn) (j : Nat), (hj : j ≤ 52) → (hn : 52 < j + n) → (f_X7_takesBack v a) = f_X7_takesBack_l2 a n v1 j → ∀ (H : Heap) (locs : List Loc) (ls : Array Slot), WD D A s.heap H locs [(qm, .inr (9, [.int (k.1 0), .int (k.1 1), .ref ma, .int (k.1 2), .ref mb, .int (k.1 3), .ref me, .ref mr, .int (k.1 4), .int (k.1 5), .int (k.1 6), .int (k.1 7), .int (k.1 8), .int (k.1 9), .int (k.1 10), .ref mn, .ref ms, .int (y.1 0), .ref mk, .int (y.1 1)])), (mb, .inl (cI, 5, .inl k.2.1)), (ma, .inl (cI, 30, .inl k.2.2.1)), (me, .inl (cI, 12, .inl k.2.2.2.1)), (mr, .inl (cI, 12, .inl k.2.2.2.2)), (mn, .inl (cI, 52, .inl v1)), (ms, .inl (cI, 52, .inl a)), (mk, .inl (cI, 16, .inl y.2))] → lv_has ls 2 [(0, .ref qm), (1, .int (nI j))] → W p l e { frames := 0, cells := 0, slots := 0, locals := 0 } s m ([.ref qm] : List Value).toArray below meth c H locs 0 0 (MQ below (va_Qv (fun (u : Fn) => u = (f_X7_takesBack v a)) (AT D cI cB A (fun u => (wM cI qm mb ma me mr mn ms mk k u a y))) A) ([.ref qm] : List Value).toArray s 0 0 A) (F0 m 2 ls []) := by
    intro n
    induction n with
    | zero => intro v1 j hj hn; exact absurd hn (by omega)
    | succ n ih =>
      intro v1 j hj hn hF H locs ls Y hl
      refine lv_iload_n E.1.1 E.1.2.1 dX7_takesBack_2 rfl (lv_at hl 1 rfl) ?_
      refine lv_bipush (v := 52) E.1.1 E.1.2.1 dX7_takesBack_3 (by decide) ?_
      refine lv_icmp_ge (tgt := 26) E.1.1 E.1.2.1 dX7_takesBack_5 (by decide) (fun c_5 => ?_) (fun c_5 => ?_)
      · skip
        have e9 : (f_X7_takesBack v a) = v1 := hF.trans ((if_pos c_5).trans (rfl))
        exact r_vret E Y hr hk v1 (e9.symm) rfl ⟨Nat.le_of_ble_eq_true rfl, Nat.le_of_ble_eq_true rfl⟩ dX7_takesBack_26
      · skip
        refine lv_aload_n E.1.1 E.1.2.1 dX7_takesBack_8 rfl (lv_at hl 0 rfl) ?_
        refine gf_X7_47 E Y 0 rfl rfl dX7_takesBack_9 ?_
        refine lv_iload_n E.1.1 E.1.2.1 dX7_takesBack_12 rfl (lv_at hl 1 rfl) ?_
        refine lv_aload_n E.1.1 E.1.2.1 dX7_takesBack_13 rfl (lv_at hl 0 rfl) ?_
        refine gf_X7_50 E Y 0 rfl rfl dX7_takesBack_14 ?_
        refine lv_iload_n E.1.1 E.1.2.1 dX7_takesBack_17 rfl (lv_at hl 1 rfl) ?_
        refine r_ial E Y 6 rfl j (nI_clamp (by omega)) (vp_in_nI (nI_nge (a := 52) c_5 (by omega)) (by decide)) dX7_takesBack_18 ?_
        refine r_ias (w' := [(qm, .inr (9, [.int (k.1 0), .int (k.1 1), .ref ma, .int (k.1 2), .ref mb, .int (k.1 3), .ref me, .ref mr, .int (k.1 4), .int (k.1 5), .int (k.1 6), .int (k.1 7), .int (k.1 8), .int (k.1 9), .int (k.1 10), .ref mn, .ref ms, .int (y.1 0), .ref mk, .int (y.1 1)])), (mb, .inl (cI, 5, .inl k.2.1)), (ma, .inl (cI, 30, .inl k.2.2.1)), (me, .inl (cI, 12, .inl k.2.2.2.1)), (mr, .inl (cI, 12, .inl k.2.2.2.2)), (mn, .inl (cI, 52, .inl (upd v1 j (a j)))), (ms, .inl (cI, 52, .inl a)), (mk, .inl (cI, 16, .inl y.2))]) E Y 5 rfl j (nI_clamp (by omega)) (vp_in_nI (nI_nge (a := 52) c_5 (by omega)) (by decide)) rfl dX7_takesBack_19 (fun H locs Y => ?_)
        refine lv_iinc (v := (nI (j + 1))) (lv' := [(1, .int (nI (j + 1))), (0, .ref qm)]) E.1.1 E.1.2.1 dX7_takesBack_20 hl (k := 1) rfl (nI_1 j) (by decide) rfl (fun ls hl => ?_)
        refine lv_goto (tgt := 2) E.1.1 E.1.2.1 dX7_takesBack_23 (by decide) ?_
        exact ih (upd v1 j (a j)) (j + 1) (by have := nI_nge (a := 52) (b := j) c_5 (by omega); omega) (by omega) (hF.trans ((if_neg c_5).trans (rfl))) H locs ls Y (lv_sub hl [1, 0] rfl)
  exact hL 53 v (0) (by decide) (by decide) (rfl) _ _ _ Y (lv_sub hl [1, 0] rfl)
