/-! THE CLAIM OUT OF ONE WALK OF THE LAW'S BODY. Your part is whole_start (and what it stands on); all else here is the same for every law, but numbers. -/
def R_law : String := "AdaptivePlayerLaw"
def lw_P (b : Addr) (xs : List Int32) (args : Array Value) (s : State) : Prop := args = #[.ref b] ∧ s.IntsAt b xs ∧ xs.length ≤ 2048 ∧ (Jvm.Cond.and given_1 narrow_1).before args s = true
def lw_Q (_ : Array Value) (s : State) (o : Outcome) (t : State) : Prop := o = .returned (some (.int 1)) ∧ Framed s o t [] 600000 7302250
def lw_Z (below : List Frame) (a : Array Value) (s : State) : State → Prop := fun t => ∃ o, t.status = .running ∧ Ended t below o ∧ lw_Q a s o t
/-- the law's own end, with 1 on the stack, nothing written that was there before, its room as the claim has it -/
theorem lw_ret {p : Program} {l : Launch} {e : Env} {s : State} {m : MethodId} {below : List Frame} {meth : Method} {c : Code} {b : Nat} (hx : p.tables.exec = Jvm.exec) (hb : c.code = code) (hr : meth.sig.returnType = ret) (hlocks : meth.locks = false) {pc : Nat} {H : Heap} {ls : Array Slot} (hdg : decode code pc = .ok (.ireturn, 1)) : W p l e room_1 s m #[Value.ref b] below meth c H [] 600000 7302250 (lw_Z below #[Value.ref b] s) (F0 m pc ls [.int 1]) := by
  intro T hT X
  obtain ⟨fs, hret, hrun, hended, hW, hframe⟩ := X.leave (v := some (.int 1)) (hlocks := hlocks) (fun h => by rw [hr] at h; cases h)
  have hmeth' : T.vm.method? m = some meth := X.method'
  refine ⟨T.setFrames fs, ?_, .returned (some (.int 1)), hrun, hended, rfl, ⟨_, rfl⟩, hW, hframe⟩
  jvm_step X.here [X.here.top, hx, hb, hdg, hmeth', hr, ret, narrow_b1]
  (try refine ⟨rfl, ?_⟩); (try refine ⟨rfl, ?_⟩)
  first | (intro acts; rw [hret _ acts rfl rfl rfl]) | rw [hret _ _ rfl rfl rfl]
  exact Steps.refl _
/-- what holds at the law's entry: the machine, the code, the tables' words (any of lw_tbl by 'hts w (by decide +kernel)'), the script of L ints xs at the cell b, what the Statement gives of the start (any of its parts by flat_of_before) -/
def lw_At (p : Program) (s : State) (m : MethodId) (meth : Method) (c : Code) (b L : Nat) (xs : Nat → Int32) : Prop :=
  p.tables.exec = Jvm.exec ∧ c.code = code ∧ meth.sig.returnType = ret ∧ c.maxLocals = 4 ∧ s.vm.findClass R_law = some m.cls ∧ (∀ w ∈ lw_tbl, w.before #[Value.ref b] s = true) ∧ va_X b L xs s s.heap ∧ b < s.heap.size ∧ meth.locks = false ∧ (Jvm.Cond.and given_1 narrow_1).before #[Value.ref b] s = true
def aP (q : Nat) (u : Nat × Nat × Nat × Nat × Nat × Nat × Nat × Nat × Nat × Nat × Nat × Nat × Nat × Nat × Nat × Nat × Nat × Nat × Nat) : Nat → Nat := fun i => match i with
  | 0 => q
  | 1 => u.2.2.2.2.2.2.2.1
  | 2 => u.2.2.2.2.2.2.2.2.1
  | 3 => u.2.2.2.2.2.2.2.2.2.1
  | 4 => u.2.2.2.2.2.2.2.2.2.2.1
  | 5 => u.2.2.2.2.2.2.2.2.2.2.2.1
  | 6 => u.1
  | 7 => u.2.1
  | 8 => u.2.2.1
  | 9 => u.2.2.2.1
  | 10 => u.2.2.2.2.1
  | 11 => u.2.2.2.2.2.1
  | 12 => u.2.2.2.2.2.2.1
  | 13 => u.2.2.2.2.2.2.2.2.2.2.2.2.1
  | 14 => u.2.2.2.2.2.2.2.2.2.2.2.2.2.1
  | 15 => u.2.2.2.2.2.2.2.2.2.2.2.2.2.2.1
  | 16 => u.2.2.2.2.2.2.2.2.2.2.2.2.2.2.2.1
  | 17 => u.2.2.2.2.2.2.2.2.2.2.2.2.2.2.2.2.1
  | 18 => u.2.2.2.2.2.2.2.2.2.2.2.2.2.2.2.2.2.1
  | 19 => u.2.2.2.2.2.2.2.2.2.2.2.2.2.2.2.2.2.2
  | _ => 0
def aM (q : Nat) (u : Nat × Nat × Nat × Nat × Nat × Nat × Nat) : Nat → Nat := fun i => match i with
  | 0 => q
  | 1 => u.2.1
  | 2 => u.1
  | 3 => u.2.2.1
  | 4 => u.2.2.2.1
  | 5 => u.2.2.2.2.1
  | 6 => u.2.2.2.2.2.1
  | 7 => u.2.2.2.2.2.2
  | _ => 0
theorem st_K {args : Array Value} {s : State} (hts : ∀ w ∈ gT, w.before args s = true) : ∃ (D : va_G) (cI cB : ClassId), va_K D vwCl (tyL cI cB) s := by
  obtain ⟨c0, i0, h0⟩ := u_known (C := RJ0) (T := TJ0) (N := 4) (n := 4) hts inJ0 (hts _ mq_J0)
  obtain ⟨c1, i1, h1⟩ := u_known (C := RJ4) (T := TJ4) (N := 4) (n := 4) hts inJ4 (hts _ mq_J4)
  obtain ⟨c2, i2, h2⟩ := u_known (C := RX0) (T := TX0) (N := 3) (n := 3) hts inX0 (hts _ mq_X0)
  obtain ⟨c3, i3, h3⟩ := u_known (C := RX1) (T := TX1) (N := 5) (n := 5) hts inX1 (hts _ mq_X1)
  obtain ⟨c4, i4, h4⟩ := u_known (C := RX2) (T := TX2) (N := 18) (n := 18) hts inX2 (hts _ mq_X2)
  obtain ⟨c5, i5, h5⟩ := u_known (C := RX3) (T := TX3) (N := 5) (n := 5) hts inX3 (hts _ mq_X3)
  obtain ⟨c6, i6, h6⟩ := u_known (C := RX4) (T := TX4) (N := 2) (n := 2) hts inX4 (hts _ mq_X4)
  obtain ⟨c7, i7, h7⟩ := u_known (C := RX5) (T := TX5) (N := 5) (n := 5) hts inX5 (hts _ mq_X5)
  obtain ⟨c8, i8, h8⟩ := u_known (C := RX6) (T := TX6) (N := 8) (n := 8) hts inX6 (hts _ mq_X6)
  obtain ⟨c9, i9, h9⟩ := u_known (C := RX7) (T := TX7) (N := 20) (n := 20) hts inX7 (hts _ mq_X7)
  obtain ⟨cI, kI, comI, hI1, hI2, hI3⟩ := Cond.arrayClass_spec (args := args) (first := s) (o := none) (s := s) (idx := []) (hts _ ma_int)
  obtain ⟨cB, kB, comB, hB1, hB2, hB3⟩ := Cond.arrayClass_spec (args := args) (first := s) (o := none) (s := s) (idx := []) (hts _ ma_byte)
  refine ⟨(fun k => match k with | 0 => c0 | 1 => c1 | 2 => c2 | 3 => c3 | 4 => c4 | 5 => c5 | 6 => c6 | 7 => c7 | 8 => c8 | _ => c9, fun k => match k with | 0 => i0 | 1 => i1 | 2 => i2 | 3 => i3 | 4 => i4 | 5 => i5 | 6 => i6 | 7 => i7 | 8 => i8 | _ => i9), cI, cB, ?_, ?_⟩
  · intro k q hq
    match k, hq with
    | 0, hq => cases hq; exact h0
    | 1, hq => cases hq; exact h1
    | 2, hq => cases hq; exact h2
    | 3, hq => cases hq; exact h3
    | 4, hq => cases hq; exact h4
    | 5, hq => cases hq; exact h5
    | 6, hq => cases hq; exact h6
    | 7, hq => cases hq; exact h7
    | 8, hq => cases hq; exact h8
    | 9, hq => cases hq; exact h9
    | k + 10, hq => exact absurd hq (by simp [vwCl])
  · intro k q hq
    match k, hq with
    | 0, hq => cases hq; exact ⟨fun n z => ⟨fun k h => (by cases h), kI, hI2, comI, hI3⟩, hI1⟩
    | 1, hq => cases hq; exact ⟨fun n z => ⟨fun k h => (by cases h), kB, hB2, comB, hB3⟩, hB1⟩
    | k + 2, hq => exact absurd hq (by simp)
set_option maxRecDepth 100000 in
set_option maxHeartbeats 4000000 in
theorem whole_start {p : Program} {e : Env} {s : State} {m : MethodId} {below : List Frame} {meth : Method} {c : Code} (l : Launch) (hflags : l.flags = flags0) {b L : Nat} {xs : Nat → Int32} (hL : L ≤ 2048) (C0 : lw_At p s m meth c b L xs) : W p l e room_1 s m #[Value.ref b] below meth c s.heap [] 0 0 (lw_Z below #[Value.ref b] s) (entryFrame m ([Value.ref b] : List Value).toArray 4) := by
  obtain ⟨hx, hb, hr, hml, hown, hts, hX, hbl, hlocks, hgv⟩ := C0
  have htg : ∀ w ∈ gT, w.before #[Value.ref b] s = true := fun w h => hts w (gT_tbl h)
  obtain ⟨D, cI, cB, hK⟩ := st_K htg
  obtain ⟨ad, ab, hZ⟩ := st_ZB hts hgv
  have E : EE p c cL_law 4 s #[Value.ref b] m RL D cI cB := ⟨⟨hx, hb, hml, hown, htg⟩, hK⟩
  have Y : WD D (fun q : Nat => s.heap.size ≤ q) s.heap s.heap [] [] := ⟨fun k q h => absurd h (by simp), ⟨fun i j p q h => absurd h (by simp), fun k q h => absurd h (by simp)⟩, va_S.rf⟩
  have hl := lv_entry ([.ref b]) (n := 4) (Nat.le_of_ble_eq_true rfl)
  rw [lg_entry_eq]
  generalize (lg_sl ([.ref b]) ++ List.replicate (4 - (lg_sl ([.ref b])).length) Slot.unset).toArray = ls at hl ⊢
  have hl : lv_has ls 4 [(0, .ref b)] := hl
  refine r_new (fs := [.null, .null, .null, .null, .null, .null, .int (0 : Int32), .int (0 : Int32)]) E Y law_A inX6 tyX6_ok ml_L_7 mq_X6 mn_X6 (ci := 8) rfl (fun j hj => by rcases (show j = 0 ∨ j = 1 ∨ j = 2 ∨ j = 3 ∨ j = 4 ∨ j = 5 ∨ j = 6 ∨ j = 7 by omega) with rfl | rfl | rfl | rfl | rfl | rfl | rfl | rfl <;> rfl) ⟨Nat.le_of_ble_eq_true rfl, Nat.le_of_ble_eq_true rfl⟩ dL_law_0 (fun q H Y => ?_)
  have Y : WD D (fun q : Nat => s.heap.size ≤ q) s.heap H [] [(q, .inr (8, [.null, .null, .null, .null, .null, .null, .int (0 : Int32), .int (0 : Int32)]))] := Y
  refine lv_dup E.1.1 E.1.2.1 dL_law_3 rfl ?_
  refine r_Iv (S := Nat × Nat × Nat × Nat × Nat × Nat × Nat × Nat × Nat × Nat × Nat × Nat × Nat × Nat × Nat × Nat × Nat × Nat × Nat) (wr := []) (w2 := fun u => wP cI cB (aP q u 0) (aP q u 1) (aP q u 2) (aP q u 3) (aP q u 4) (aP q u 5) (aP q u 6) (aP q u 7) (aP q u 8) (aP q u 9) (aP q u 10) (aP q u 11) (aP q u 12) (aP q u 13) (aP q u 14) (aP q u 15) (aP q u 16) (aP q u 17) (aP q u 18) (aP q u 19) k66 (f_X2_begin k66 g00) (f_X2_begin k66 g00) ((fun _ => 0, fun _ => 0) : Tx)) (As := []) (rest := [.ref q]) E Y law_A hl.1 (c_X6_init ad ab q) lk_L_9 xbZ (fun U hU hW => hZ.pass Y.2.2 hU hW (va_free Y.2.1 Y.2.2 law_A [0] rfl)) [0] [] [0, 8, 9, 10, 11, 12, 1, 2, 3, 4, 5, 6, 7, 13, 14, 15, 16, 17, 18, 19] rfl rfl ⟨by decide, by decide, by decide, by decide⟩ (fun _ => rfl) ⟨Nat.le_of_ble_eq_true rfl, Nat.le_of_ble_eq_true rfl⟩ ⟨Nat.le_of_ble_eq_true rfl, Nat.le_of_ble_eq_true rfl⟩ rfl rfl (Nat.le_of_ble_eq_true rfl) dL_law_4 (fun u H locs _ Y => ?_)
  refine lv_astore_n (lv' := [(1, .ref q), (0, .ref b)]) E.1.1 E.1.2.1 dL_law_7 rfl hl (by decide) rfl (fun ls hl => ?_)
  refine r_new (fs := [.int (0 : Int32), .int (0 : Int32), .null, .int (0 : Int32), .null, .int (0 : Int32), .null, .null, .int (0 : Int32), .int (0 : Int32), .int (0 : Int32), .int (0 : Int32), .int (0 : Int32), .int (0 : Int32), .int (0 : Int32), .null, .null, .int (0 : Int32), .null, .int (0 : Int32)]) E Y law_A inX7 tyX7_ok ml_L_10 mq_X7 mn_X7 (ci := 9) rfl (fun j hj => by rcases (show j = 0 ∨ j = 1 ∨ j = 2 ∨ j = 3 ∨ j = 4 ∨ j = 5 ∨ j = 6 ∨ j = 7 ∨ j = 8 ∨ j = 9 ∨ j = 10 ∨ j = 11 ∨ j = 12 ∨ j = 13 ∨ j = 14 ∨ j = 15 ∨ j = 16 ∨ j = 17 ∨ j = 18 ∨ j = 19 by omega) with rfl | rfl | rfl | rfl | rfl | rfl | rfl | rfl | rfl | rfl | rfl | rfl | rfl | rfl | rfl | rfl | rfl | rfl | rfl | rfl <;> rfl) ⟨Nat.le_of_ble_eq_true rfl, Nat.le_of_ble_eq_true rfl⟩ dL_law_8 (fun q2 H Y => ?_)
  refine lv_dup E.1.1 E.1.2.1 dL_law_11 rfl ?_
  refine r_Iv (S := Nat × Nat × Nat × Nat × Nat × Nat × Nat) (wr := wP cI cB (aP q u 0) (aP q u 1) (aP q u 2) (aP q u 3) (aP q u 4) (aP q u 5) (aP q u 6) (aP q u 7) (aP q u 8) (aP q u 9) (aP q u 10) (aP q u 11) (aP q u 12) (aP q u 13) (aP q u 14) (aP q u 15) (aP q u 16) (aP q u 17) (aP q u 18) (aP q u 19) k66 (f_X2_begin k66 g00) (f_X2_begin k66 g00) ((fun _ => 0, fun _ => 0) : Tx)) (w2 := fun u2 => wW cI cB (aP q u) (aM q2 u2) k66 (f_X2_begin k66 g00) (f_X2_begin k66 g00) ((fun _ => 0, fun _ => 0) : Tx) k77 (f_X7_begins (fun _ => 0)) (fun _ => 0) y00) (As := []) (rest := [.ref q2]) E Y law_A hl.1 (c_X7_init q2) lk_L_12 X0b (fun _ _ _ => trivial) [20] [0, 1, 2, 3, 4, 5, 6, 7, 8, 9, 10, 11, 12, 13, 14, 15, 16, 17, 18, 19] [0, 1, 2, 3, 4, 5, 6, 7, 8, 9, 10, 11, 12, 13, 14, 15, 16, 17, 18, 19, 20, 22, 21, 23, 24, 25, 26, 27] rfl rfl ⟨by decide, by decide, by decide, by decide⟩ (fun _ => rfl) ⟨Nat.le_of_ble_eq_true rfl, Nat.le_of_ble_eq_true rfl⟩ ⟨Nat.le_of_ble_eq_true rfl, Nat.le_of_ble_eq_true rfl⟩ rfl rfl (Nat.le_of_ble_eq_true rfl) dL_law_12 (fun u2 H locs _ Y => ?_)
  refine lv_astore_n (lv' := [(2, .ref q2), (1, .ref q), (0, .ref b)]) E.1.1 E.1.2.1 dL_law_15 rfl hl (by decide) rfl (fun ls hl => ?_)
  refine lv_iconst (v := 0) E.1.1 E.1.2.1 dL_law_16 (by decide) ?_
  refine lv_istore_n (lv' := [(3, .int 0), (2, .ref q2), (1, .ref q), (0, .ref b)]) E.1.1 E.1.2.1 dL_law_17 rfl hl (by decide) rfl (fun ls hl => ?_)
  rw [k67] at Y
  refine W.widen (k := 28 + 6 * 0) (n := 415 + 60 * 0) (Nat.le_of_ble_eq_true rfl) (Nat.le_of_ble_eq_true rfl) ?_
  exact law_loop (a := aP q u) (b := aM q2 u2) hL ⟨E, hr, hlocks, hX, hbl, hZ⟩ (fun H ls => lv_iconst (v := 1) E.1.1 E.1.2.1 dL_law_703 (by decide) (lw_ret hx hb hr hlocks dL_law_704)) 513 0 k77 _ _ _ _ _ y00 H locs ls (Nat.zero_add 513) (Nat.zero_le 512) (INV.start rfl (fun _ => rfl)) Y (lv_sub hl [3, 2, 1, 0] rfl)
