def AQ {S : Type} (D : va_G) (cI cB : ClassId) (A : Nat → Prop) (w1 : S → Nat → va_W) (Rl : S → Nat → Prop) : S → Nat → State → Prop := fun u a t => AR D cI cB A w1 u a t ∧ Rl u a
def CQ {S : Type} (l : Launch) (X : Nat → State → Prop) (D : va_G) (cI cB : ClassId) (y : MethodName) (cc : ByteArray) (n : Nat) (r : Option FieldType) (fr lo mc ms : Nat) (as : List Value) (w0 : va_W) (post : S → Prop) (w1 : S → Nat → va_W) (Rl : S → Nat → Prop) : Prop :=
  ∀ sz : Nat, Met l y (wU y cc n r) { frames := fr, cells := mc, slots := ms, locals := lo } (PC X D cI cB as w0 sz) (va_Qr post (AQ D cI cB (va_A w0 sz) w1 Rl) (va_A w0 sz)) mc ms (va_A w0 sz)
section GQ
variable {p : Program} {l : Launch} {e : Env} {R : Room} {s : State} {m : MethodId} {args : Array Value} {below : List Frame} {meth : Method} {c : Code} {H : Heap} {locs : List Loc} {cells slots : Nat} {Q : State → Prop}
variable {cc : ByteArray} {pc nL : Nat} {ls : Array Slot} {rest st : List Value} {D : va_G} {A : Nat → Prop} {cI cB : ClassId} {w : va_W} {H0 : Heap} {own : String} {mc ms : Nat} {w0 wr : va_W} {S : Type} {a : Array Value}
theorem g_q {post : S → Prop} {w1 w2 : S → Nat → va_W} {Rl : S → Nat → Prop} (run : va_Run p l e R s m args below meth c H locs cells slots mc ms (F0 m pc ls st) rest (va_Qr post (AQ D cI cB (va_A w0 H.size) w1 Rl) (va_A w0 H.size) a) (va_A w0 H.size)) (Y : WD D A H0 H locs w) (hA : ∀ q, H0.size ≤ q → A q) (isC isR ps : List Nat) (hC : isC.map (fun i => w[i]?) = w0.map some) (hR : isR.map (fun i => w[i]?) = wr.map some) (hnd : va_nd isR = true ∧ va_nd ps = true ∧ ∀ i ∈ isR, i ∉ isC) (h2 : ∀ u q, ps.map (fun i => (wr ++ w1 u q)[i]?) = (w2 u q).map some)
    (kk : ∀ (u : S) (q : Nat) (H1 : Heap) (locs1 : List Loc), post u → Rl u q → WD D A H0 H1 locs1 (w2 u q) → W p l e R s m args below meth c H1 locs1 (cells + mc) (slots + ms) Q (F0 m (pc + 3) ls (.ref q :: rest))) : W p l e R s m args below meth c H locs cells slots Q (F0 m pc ls st) := by
  have hF := va_free (wc := w0) Y.2.1 Y.2.2 hA isC hC
  refine va_callr run Y.2.2 (fun q _ h => hF q h) hF (fun u q t H1 locs1 ht hvm hw hB hz1 hk1 hS => ?_)
  obtain ⟨⟨hP1, hK1, hD1⟩, hRl⟩ := hB
  rw [ht] at hP1
  exact kk u q H1 locs1 hw hRl (w_join Y hA isC isR ps hC hR hnd.1 hnd.2.2 hnd.2.1 (h2 u q) hk1 hP1 hD1 hS)
end GQ
section ENTERQ
variable {S : Type} {l : Launch} {X : Nat → State → Prop} {D : va_G} {cI cB : ClassId} {y : MethodName} {cc : ByteArray} {n : Nat} {r : Option FieldType} {fr lo mc ms : Nat} {as : List Value} {w0 : va_W}
theorem CQ.of {post : S → Prop} {w1 : S → Nat → va_W} {Rl : S → Nat → Prop} (hy : plainName y.cls = true) (hn : (lg_sl as).length ≤ n)
    (body : ∀ (p : Program) (e : Env) (s : State) (m : MethodId) (below : List Frame) (meth : Method) (c : Code) (A : Nat → Prop) (ls : Array Slot), EE p c cc n s as.toArray m y.cls D cI cB → meth.sig.returnType = r → meth.locks = false → meth.name = y.name → (∀ q, s.heap.size ≤ q → A q) → (∀ q, A q → va_A w0 s.heap.size q) → X s.heap.size s → WD D A s.heap s.heap [] w0 → lv_has ls n (lv_args 0 as) → W p l e { frames := fr, cells := mc, slots := ms, locals := lo } s m as.toArray below meth c s.heap [] 0 0 (MQ below (va_Qr post (AQ D cI cB A w1 Rl) A) as.toArray s mc ms A) (F0 m 0 ls [])) : CQ l X D cI cB y cc n r fr lo mc ms as w0 post w1 Rl := by
  intro sz
  refine Met.ofW (cc := cc) (maxL := n) (ret := r) hy rfl ?_
  intro p e s m args below meth c s₁ B hml hv
  obtain ⟨rfl, hsz, hP, hK, hD0, hX⟩ := hv
  have hts : ∀ w ∈ gT, w.before as.toArray s = true := fun w h => atoms_spec (ws := wU y cc n r) B.pre w (List.mem_cons_of_mem _ h)
  subst hsz
  have hD := hD0.self (sz := s.heap.size)
  have hl := lv_entry as (n := n) hn
  rw [lg_entry_eq]
  exact body p e s m below meth c (va_A w0 s.heap.size) _ ⟨⟨B.exec, B.bytes, hml, findClass_of_methodNamed B.named, hts⟩, hK⟩ B.returns B.notSynchronized (name_of_methodNamed B.named B.method).1 (fun q h => Or.inr h) (fun q h => h) hX ⟨hP, hD, va_S.rf⟩ hl
variable {p : Program} {e : Env} {R : Room} {s : State} {m : MethodId} {args : Array Value} {below : List Frame} {meth : Method} {c : Code} {H : Heap} {locs : List Loc} {cells slots : Nat} {pc nL : Nat} {ls : Array Slot} {A : Nat → Prop} {w : va_W} {own : String}
theorem r_qret {post : S → Prop} {w1 : S → Nat → va_W} {Rl : S → Nat → Prop} {rt : FieldType} (E : EE p c cc nL s args m own D cI cB) (Y : WD D A s.heap H locs w) (hr : meth.sig.returnType = some rt) (hrt : (∃ n, rt = .object n) ∨ ∃ t, rt = .array t) (hk : meth.locks = false) (q : Nat) (u : S) (hp : post u) (hl : Rl u q) (hw : w1 u q = w) (hc : cells ≤ mc ∧ slots ≤ ms) (hd : decode cc pc = .ok (.areturn, 1)) : W p l e R s m args below meth c H locs cells slots (MQ below (va_Qr post (AQ D cI cB A w1 Rl) A) args s mc ms A) (F0 m pc ls [.ref q]) := by
  subst hw
  refine W.widen hc.1 hc.2 ?_
  exact W.aret E.1.1 E.1.2.1 hr hrt (Or.inr ⟨q, rfl⟩) (fun t ht hW => ⟨⟨u, q, rfl, hp, ⟨⟨by rw [ht]; exact Y.1, va_K.moved hW.alike E.2, Y.2.1⟩, hl⟩⟩, Y.2.2.F ht⟩) Y.2.2.2.2 hd hk
end ENTERQ
theorem cr_sub (i m : Nat) : nI (m + i) - nI i = nI m := by rw [pk_sub (by omega), Nat.add_sub_cancel]
theorem cr_min {i m ln : Nat} (h : m + i ≤ ln) (hn : ln < 2 ^ 31) : (if nI m < nI (ln - i) then nI m else nI (ln - i)) = nI m := by
  rcases Nat.lt_or_ge m (ln - i) with h1 | h1
  · rw [if_pos (nI_lt h1 (by omega))]
  · rw [if_neg (nI_nlt h1 (by omega)), show ln - i = m by omega]

set_option maxRecDepth 100000 in
set_option maxHeartbeats 4000000 in
theorem c_J7_checkLength_df160 {l : Launch} {D : va_G} {cI cB : ClassId} (p0 p1 : Int32) (h : p0 ≤ p1) : CV (S := Unit) l X0 D cI cB yJ7_checkLength_df160 cJ7_checkLength_df160 2 0 0 0 0 [.int p0, .int p1] [] (fun _ => True) (fun _ => []) := by
  refine CV.of (by decide) (Nat.le_of_ble_eq_true rfl) ?_
  intro p e s m below meth c A ls E hr hk hin hA hAA hX Y hl
  have E : EE p c cJ7_checkLength_df160 2 s _ m RJ7 D cI cB := E
  have hl : lv_has ls 2 [(0, .int p0), (1, .int p1)] := hl
  refine lv_iload_n E.1.1 E.1.2.1 dJ7_checkLength_df160_0 rfl (lv_at hl 1 rfl) ?_
  refine lv_iload_n E.1.1 E.1.2.1 dJ7_checkLength_df160_1 rfl (lv_at hl 0 rfl) ?_
  refine lv_icmp_ge (tgt := 37) E.1.1 E.1.2.1 dJ7_checkLength_df160_2 (by decide) (fun c_2 => ?_) (fun c_2 => ?_)
  · skip
    exact r_vret E Y hr hk () (trivial) rfl ⟨Nat.le_of_ble_eq_true rfl, Nat.le_of_ble_eq_true rfl⟩ dJ7_checkLength_df160_37
  · exact absurd h c_2

set_option maxRecDepth 100000 in
set_option maxHeartbeats 4000000 in
theorem c_J7_copyOfRangeByte_39247 {l : Launch} {D : va_G} {cI cB : ClassId} (ad ab : Nat → Nat) (b ln : Nat) (f : Nat → Int32) (i mw : Nat) (hj : mw + i ≤ ln) (hn : ln < 2 ^ 31) (h16 : mw ≤ 16) (hf : ∀ t, t < ln → btw (f t) 0 127) : CR (S := Nat → Int32) l (XZA ad ab [] b ln f) D cI cB yJ7_copyOfRangeByte_39247 cJ7_copyOfRangeByte_39247 5 (some (.array .byte)) 1 40 1 16 [.ref b, .int (nI i), .int (nI (mw + i))] [] (fun (g : Nat → Int32) => ∀ t, t < mw → g t = f (i + t)) (fun g a => [(a, .inl (cB, mw, .inl g))]) := by
  refine CR.of (by decide) (Nat.le_of_ble_eq_true rfl) ?_
  intro p e s m below meth c A ls E hr hk hin hA hAA hX Y hl
  have E : EE p c cJ7_copyOfRangeByte_39247 5 s _ m RJ7 D cI cB := E
  have hl : lv_has ls 5 [(0, .ref b), (1, .int (nI i)), (2, .int (nI (mw + i)))] := hl
  have hZ : ZB ad ab A s s.heap := hX.1.narrow hAA
  have hR : RA b ln f A s s.heap := va_T.narrow hX.2 hAA
  refine lv_iload_n E.1.1 E.1.2.1 dJ7_copyOfRangeByte_39247_0 rfl (lv_at hl 1 rfl) ?_
  refine lv_iload_n E.1.1 E.1.2.1 dJ7_copyOfRangeByte_39247_1 rfl (lv_at hl 2 rfl) ?_
  refine g_v (wr := []) (w2 := fun _ => []) (run_S E ((c_J7_checkLength_df160 (nI i) (nI (mw + i)) (nI_le (by omega) (by omega))) _) lk_J7_343 X0b (pre_of E Y [] rfl (by decide) (fun U hU hW => trivial)) hl.1 ⟨Nat.le_of_ble_eq_true rfl, Nat.le_of_ble_eq_true rfl⟩ ⟨Nat.le_of_ble_eq_true rfl, Nat.le_of_ble_eq_true rfl⟩ rfl rfl (Nat.le_of_ble_eq_true rfl) dJ7_copyOfRangeByte_39247_2) Y hA [] [] [] rfl rfl (by decide) (fun _ => rfl) (fun u H locs hp Y => ?_)
  refine lv_iload_n E.1.1 E.1.2.1 dJ7_copyOfRangeByte_39247_5 rfl (lv_at hl 2 rfl) ?_
  refine lv_iload_n E.1.1 E.1.2.1 dJ7_copyOfRangeByte_39247_6 rfl (lv_at hl 1 rfl) ?_
  refine lv_isub E.1.1 E.1.2.1 dJ7_copyOfRangeByte_39247_7 ?_
  refine lv_cst (v := (nI mw)) (cr_sub i mw) ?_
  refine lv_istore_n (lv' := [(3, .int (nI mw)), (0, .ref b), (1, .int (nI i)), (2, .int (nI (mw + i)))]) E.1.1 E.1.2.1 dJ7_copyOfRangeByte_39247_8 rfl hl (by decide) rfl (fun ls hl => ?_)
  refine lv_iload_n E.1.1 E.1.2.1 dJ7_copyOfRangeByte_39247_9 rfl (lv_at hl 0 rfl) ?_
  refine r_newB E Y hA mw rfl (nI_pos (by omega)) (nI_clamp (by omega)) (by omega) ⟨Nat.le_of_ble_eq_true rfl, (show 0 + mw ≤ 16 by omega)⟩ dJ7_copyOfRangeByte_39247_10 (fun qn2 H Y => ?_)
  have Y : WD D A s.heap H _ [(qn2, .inl (cB, mw, .inl (fun _ => 0)))] := Y
  refine lv_astore (lv' := [(4, .ref qn2), (3, .int (nI mw)), (0, .ref b), (1, .int (nI i)), (2, .int (nI (mw + i)))]) E.1.1 E.1.2.1 dJ7_copyOfRangeByte_39247_12 hl (by decide) rfl (fun ls hl => ?_)
  refine lv_aload_n E.1.1 E.1.2.1 dJ7_copyOfRangeByte_39247_14 rfl (lv_at hl 2 rfl) ?_
  refine lv_iload_n E.1.1 E.1.2.1 dJ7_copyOfRangeByte_39247_15 rfl (lv_at hl 3 rfl) ?_
  refine lv_aload E.1.1 E.1.2.1 dJ7_copyOfRangeByte_39247_16 (lv_at hl 0 rfl) ?_
  refine lv_iconst (v := 0) E.1.1 E.1.2.1 dJ7_copyOfRangeByte_39247_18 (by decide) ?_
  refine lv_aload_n E.1.1 E.1.2.1 dJ7_copyOfRangeByte_39247_19 rfl (lv_at hl 2 rfl) ?_
  refine va_tlen (v := (nI ln)) E.1.1 E.1.2.1 hR Y.2.2 rfl dJ7_copyOfRangeByte_39247_20 ?_
  refine lv_iload_n E.1.1 E.1.2.1 dJ7_copyOfRangeByte_39247_21 rfl (lv_at hl 3 rfl) ?_
  refine lv_isub E.1.1 E.1.2.1 dJ7_copyOfRangeByte_39247_22 ?_
  refine lv_cst (v := (nI (ln - i))) (pk_sub (by omega)) ?_
  refine lv_iload_n E.1.1 E.1.2.1 dJ7_copyOfRangeByte_39247_23 rfl (lv_at hl 1 rfl) ?_
  refine r_min E hl.1 mm_J7_304 ⟨Nat.le_of_ble_eq_true rfl, Nat.le_of_ble_eq_true rfl⟩ ⟨Nat.le_of_ble_eq_true rfl, (show 0 + mw ≤ 16 by omega)⟩ dJ7_copyOfRangeByte_39247_24 ?_
  refine lv_cst (v := (nI mw)) (cr_min hj hn) ?_
  refine r_acp (i := i) (j := 0) (k := mw) (w' := [(qn2, .inl (cB, mw, .inl (va_cpy f (fun _ => 0) i (0) mw)))]) E Y hl.1 mm_J7_150 hR 0 rfl ⟨⟨rfl, rfl, rfl⟩, ⟨by omega, by omega, hn, by omega⟩, fun t ht => ap_fit (hf _ (by omega)), Nat.le_of_ble_eq_true rfl, Nat.le_of_ble_eq_true rfl⟩ rfl dJ7_copyOfRangeByte_39247_27 (fun H locs Y => ?_)
  refine lv_aload E.1.1 E.1.2.1 dJ7_copyOfRangeByte_39247_30 (lv_at hl 0 rfl) ?_
  exact r_aret E Y hr (Or.inr ⟨_, rfl⟩) hk qn2 (va_cpy f (fun _ => 0) i (0) mw) (fun t ht => (pk_cpy_in (Nat.zero_le _) (by omega)).trans (by rw [Nat.sub_zero])) rfl ⟨Nat.le_of_ble_eq_true rfl, (show 0 + mw ≤ 16 by omega)⟩ dJ7_copyOfRangeByte_39247_32

set_option maxRecDepth 100000 in
set_option maxHeartbeats 4000000 in
theorem c_J7_copyOfRange_39247 {l : Launch} {D : va_G} {cI cB : ClassId} (ad ab : Nat → Nat) (b ln : Nat) (f : Nat → Int32) (i mw : Nat) (hj : mw + i ≤ ln) (hn : ln < 2 ^ 31) (h16 : mw ≤ 16) (hf : ∀ t, t < ln → btw (f t) 0 127) (hc : ¬ (i = 0 ∧ mw + i = ln)) : CR (S := Nat → Int32) l (XZA ad ab [] b ln f) D cI cB yJ7_copyOfRange_39247 cJ7_copyOfRange_39247 3 (some (.array .byte)) 2 64 1 16 [.ref b, .int (nI i), .int (nI (mw + i))] [] (fun (g : Nat → Int32) => ∀ t, t < mw → g t = f (i + t)) (fun g a => [(a, .inl (cB, mw, .inl g))]) := by
  refine CR.of (by decide) (Nat.le_of_ble_eq_true rfl) ?_
  intro p e s m below meth c A ls E hr hk hin hA hAA hX Y hl
  have E : EE p c cJ7_copyOfRange_39247 3 s _ m RJ7 D cI cB := E
  have hl : lv_has ls 3 [(0, .ref b), (1, .int (nI i)), (2, .int (nI (mw + i)))] := hl
  have hZ : ZB ad ab A s s.heap := hX.1.narrow hAA
  have hR : RA b ln f A s s.heap := va_T.narrow hX.2 hAA
  refine lv_iload_n E.1.1 E.1.2.1 dJ7_copyOfRange_39247_0 rfl (lv_at hl 1 rfl) ?_
  refine lv_if_ne (tgt := 10) E.1.1 E.1.2.1 dJ7_copyOfRange_39247_1 (by decide) (fun c_1 => ?_) (fun c_1 => ?_)
  · skip
    refine lv_aload_n E.1.1 E.1.2.1 dJ7_copyOfRange_39247_10 rfl (lv_at hl 0 rfl) ?_
    refine lv_iload_n E.1.1 E.1.2.1 dJ7_copyOfRange_39247_11 rfl (lv_at hl 1 rfl) ?_
    refine lv_iload_n E.1.1 E.1.2.1 dJ7_copyOfRange_39247_12 rfl (lv_at hl 2 rfl) ?_
    refine g_r (wr := []) (w2 := fun gn qa => [(qa, .inl (cB, mw, .inl gn))]) (run_S E ((c_J7_copyOfRangeByte_39247 ad ab b ln f i mw hj hn h16 hf) _) lk_J7_339 xbZA (pre_of E Y [] rfl (by decide) (fun U hU hW => ⟨hZ.pass Y.2.2 hU hW (va_free Y.2.1 Y.2.2 hA [] rfl), RA.pass hR Y.2.2 hU hW (va_free Y.2.1 Y.2.2 hA [] rfl)⟩)) hl.1 ⟨Nat.le_of_ble_eq_true rfl, Nat.le_of_ble_eq_true rfl⟩ ⟨Nat.le_of_ble_eq_true rfl, Nat.le_of_ble_eq_true rfl⟩ rfl rfl (Nat.le_of_ble_eq_true rfl) dJ7_copyOfRange_39247_13) Y hA [] [] [0] rfl rfl (by decide) (fun _ _ => rfl) (fun gn qa H locs hp Y => ?_)
    have hgn := hp
    exact r_aret E Y hr (Or.inr ⟨_, rfl⟩) hk qa gn (hgn) rfl ⟨Nat.le_of_ble_eq_true rfl, Nat.le_of_ble_eq_true rfl⟩ dJ7_copyOfRange_39247_16
  · skip
    refine lv_iload_n E.1.1 E.1.2.1 dJ7_copyOfRange_39247_4 rfl (lv_at hl 2 rfl) ?_
    refine lv_aload_n E.1.1 E.1.2.1 dJ7_copyOfRange_39247_5 rfl (lv_at hl 0 rfl) ?_
    refine va_tlen (v := (nI ln)) E.1.1 E.1.2.1 hR Y.2.2 rfl dJ7_copyOfRange_39247_6 ?_
    refine lv_icmp_eq (tgt := 17) E.1.1 E.1.2.1 dJ7_copyOfRange_39247_7 (by decide) (fun c_7 => ?_) (fun c_7 => ?_)
    · exact absurd c_7 (fun z => hc ⟨(nI_eq (b := 0) (by omega) (by decide)).mp c_1, (nI_eq (by omega) hn).mp z⟩)
    · skip
      refine lv_aload_n E.1.1 E.1.2.1 dJ7_copyOfRange_39247_10 rfl (lv_at hl 0 rfl) ?_
      refine lv_iload_n E.1.1 E.1.2.1 dJ7_copyOfRange_39247_11 rfl (lv_at hl 1 rfl) ?_
      refine lv_iload_n E.1.1 E.1.2.1 dJ7_copyOfRange_39247_12 rfl (lv_at hl 2 rfl) ?_
      refine g_r (wr := []) (w2 := fun gn qa => [(qa, .inl (cB, mw, .inl gn))]) (run_S E ((c_J7_copyOfRangeByte_39247 ad ab b ln f i mw hj hn h16 hf) _) lk_J7_339 xbZA (pre_of E Y [] rfl (by decide) (fun U hU hW => ⟨hZ.pass Y.2.2 hU hW (va_free Y.2.1 Y.2.2 hA [] rfl), RA.pass hR Y.2.2 hU hW (va_free Y.2.1 Y.2.2 hA [] rfl)⟩)) hl.1 ⟨Nat.le_of_ble_eq_true rfl, Nat.le_of_ble_eq_true rfl⟩ ⟨Nat.le_of_ble_eq_true rfl, Nat.le_of_ble_eq_true rfl⟩ rfl rfl (Nat.le_of_ble_eq_true rfl) dJ7_copyOfRange_39247_13) Y hA [] [] [0] rfl rfl (by decide) (fun _ _ => rfl) (fun gn qa H locs hp Y => ?_)
      have hgn := hp
      exact r_aret E Y hr (Or.inr ⟨_, rfl⟩) hk qa gn (hgn) rfl ⟨Nat.le_of_ble_eq_true rfl, Nat.le_of_ble_eq_true rfl⟩ dJ7_copyOfRange_39247_16

set_option maxRecDepth 100000 in
set_option maxHeartbeats 4000000 in
theorem c_J7_copyOfRange_c {l : Launch} {D : va_G} {cI cB : ClassId} (ad ab : Nat → Nat) (b : Nat) (f : Nat → Int32) (hf : ∀ t, t < 16 → btw (f t) 0 127) : CR (S := Unit) l (XZ ad ab [(b, .inl (cB, 16, .inl f))]) D cI cB yJ7_copyOfRange_39247 cJ7_copyOfRange_39247 3 (some (.array .byte)) 1 22 1 16 [.ref b, .int (0 : Int32), .int (nI 16)] [(b, .inl (cB, 16, .inl f))] (fun (_ : Unit) => True) (fun _ a => [(b, .inl (cB, 16, .inl f)), (a, .inl (cB, 16, .inl f))]) := by
  refine CR.of (by decide) (Nat.le_of_ble_eq_true rfl) ?_
  intro p e s m below meth c A ls E hr hk hin hA hAA hX Y hl
  have E : EE p c cJ7_copyOfRange_39247 3 s _ m RJ7 D cI cB := E
  have hl : lv_has ls 3 [(0, .ref b), (1, .int (0 : Int32)), (2, .int (nI 16))] := hl
  have hZ : ZB ad ab A s s.heap := hX.narrow hAA
  refine lv_iload_n E.1.1 E.1.2.1 dJ7_copyOfRange_39247_0 rfl (lv_at hl 1 rfl) ?_
  refine lv_if_ne (tgt := 10) E.1.1 E.1.2.1 dJ7_copyOfRange_39247_1 (by decide) (fun c_1 => ?_) (fun c_1 => ?_)
  · exact absurd (by decide) c_1
  · skip
    refine lv_iload_n E.1.1 E.1.2.1 dJ7_copyOfRange_39247_4 rfl (lv_at hl 2 rfl) ?_
    refine lv_aload_n E.1.1 E.1.2.1 dJ7_copyOfRange_39247_5 rfl (lv_at hl 0 rfl) ?_
    refine r_alenB (v := (16 : Int32)) E Y 0 rfl (by decide) dJ7_copyOfRange_39247_6 ?_
    refine lv_icmp_eq (tgt := 17) E.1.1 E.1.2.1 dJ7_copyOfRange_39247_7 (by decide) (fun c_7 => ?_) (fun c_7 => ?_)
    · skip
      refine lv_aload_n E.1.1 E.1.2.1 dJ7_copyOfRange_39247_17 rfl (lv_at hl 0 rfl) ?_
      refine r_clone E Y hA hl.1 hZ 0 rfl (fun t ht => ap_fit (hf t ht)) ⟨Nat.le_of_ble_eq_true rfl, Nat.le_of_ble_eq_true rfl⟩ dJ7_copyOfRange_39247_18 ⟨Nat.le_of_ble_eq_true rfl, Nat.le_of_ble_eq_true rfl⟩ (fun qn1 H Y => ?_)
      have Y : WD D A s.heap H _ [(b, .inl (cB, 16, .inl f)), (qn1, .inl (cB, 16, .inl f))] := Y
      refine va_castA E.1.1 E.1.2.1 E.1.2.2.2.1 (E.1.2.2.2.2 _ ml_J7_311) Y.1 1 rfl (nmB E.2) dJ7_copyOfRange_39247_21 ?_
      exact r_aret E Y hr (Or.inr ⟨_, rfl⟩) hk qn1 () (trivial) rfl ⟨Nat.le_of_ble_eq_true rfl, Nat.le_of_ble_eq_true rfl⟩ dJ7_copyOfRange_39247_24
    · exact absurd rfl c_7

set_option maxRecDepth 100000 in
set_option maxHeartbeats 4000000 in
theorem c_J0_init_031fb {l : Launch} {D : va_G} {cI cB : ClassId} (q b : Nat)  : CV (S := Unit) l X0 D cI cB yJ0_init_031fb cJ0_init_031fb 3 1 20 0 0 [.ref q, .ref b, .int (0 : Int32)] [(q, .inr (0, [.null, .int (0 : Int32), .int (0 : Int32), .int (0 : Int32)]))] (fun (_ : Unit) => True) (fun _ => [(q, .inr (0, [.ref b, .int (0 : Int32), .int (0 : Int32), .int (0 : Int32)]))]) := by
  refine CV.of (by decide) (Nat.le_of_ble_eq_true rfl) ?_
  intro p e s m below meth c A ls E hr hk hin hA hAA hX Y hl
  have E : EE p c cJ0_init_031fb 3 s _ m RJ0 D cI cB := E
  have hl : lv_has ls 3 [(0, .ref q), (1, .ref b), (2, .int (0 : Int32))] := hl
  refine lv_aload_n E.1.1 E.1.2.1 dJ0_init_031fb_0 rfl (lv_at hl 0 rfl) ?_
  refine r_objI E hl.1 mm_J0_1 ⟨Nat.le_of_ble_eq_true rfl, Nat.le_of_ble_eq_true rfl⟩ dJ0_init_031fb_1 ?_
  refine lv_aload_n E.1.1 E.1.2.1 dJ0_init_031fb_4 rfl (lv_at hl 0 rfl) ?_
  refine lv_aload_n E.1.1 E.1.2.1 dJ0_init_031fb_5 rfl (lv_at hl 1 rfl) ?_
  refine pf_J0_9 (w' := [(q, .inr (0, [.ref b, .int (0 : Int32), .int (0 : Int32), .int (0 : Int32)]))]) E Y hin 0 rfl (Nat.le_of_ble_eq_true rfl) rfl dJ0_init_031fb_6 (fun H locs Y => ?_)
  refine lv_aload_n E.1.1 E.1.2.1 dJ0_init_031fb_9 rfl (lv_at hl 0 rfl) ?_
  refine lv_iload_n E.1.1 E.1.2.1 dJ0_init_031fb_10 rfl (lv_at hl 2 rfl) ?_
  refine pf_J0_15 (w' := [(q, .inr (0, [.ref b, .int (0 : Int32), .int (0 : Int32), .int (0 : Int32)]))]) E Y hin 0 rfl rfl rfl (Nat.le_of_ble_eq_true rfl) rfl dJ0_init_031fb_11 (fun H locs Y => ?_)
  exact r_vret E Y hr hk () (trivial) rfl ⟨Nat.le_of_ble_eq_true rfl, Nat.le_of_ble_eq_true rfl⟩ dJ0_init_031fb_14

set_option maxRecDepth 100000 in
set_option maxHeartbeats 4000000 in
theorem c_J1_newString_e {l : Launch} {D : va_G} {cI cB : ClassId} (ad ab : Nat → Nat) (b i : Nat)  : CQ (S := Unit) l (XZ ad ab []) D cI cB yJ1_newString_b4f7a cJ1_newString_b4f7a 3 (some (.object "java/lang/String")) 0 0 0 0 [.ref b, .int (nI i), .int (0 : Int32)] [] (fun (_ : Unit) => True) (fun _ _ => []) (fun _ a => a = ad 9) := by
  refine CQ.of (by decide) (Nat.le_of_ble_eq_true rfl) ?_
  intro p e s m below meth c A ls E hr hk hin hA hAA hX Y hl
  have E : EE p c cJ1_newString_b4f7a 3 s _ m RJ1 D cI cB := E
  have hl : lv_has ls 3 [(0, .ref b), (1, .int (nI i)), (2, .int (0 : Int32))] := hl
  have hZ : ZB ad ab A s s.heap := hX.narrow hAA
  refine lv_iload_n E.1.1 E.1.2.1 dJ1_newString_b4f7a_0 rfl (lv_at hl 2 rfl) ?_
  refine lv_if_ne (tgt := 7) E.1.1 E.1.2.1 dJ1_newString_b4f7a_1 (by decide) (fun c_1 => ?_) (fun c_1 => ?_)
  · exact absurd (by decide) c_1
  · skip
    refine va_ldcS E.1.1 E.1.2.1 E.1.2.2.2.1 (hZ.2.2.2.1 9 (by decide)) dJ1_newString_b4f7a_4 ?_
    exact r_qret E Y hr (Or.inl ⟨_, rfl⟩) hk (ad 9) () (trivial) rfl rfl ⟨Nat.le_of_ble_eq_true rfl, Nat.le_of_ble_eq_true rfl⟩ dJ1_newString_b4f7a_6

set_option maxRecDepth 100000 in
set_option maxHeartbeats 4000000 in
theorem c_J1_newString_f {l : Launch} {D : va_G} {cI cB : ClassId} (ad ab : Nat → Nat) (b ln : Nat) (f : Nat → Int32) (i mw : Nat) (hm : 0 < mw) (hj : mw + i ≤ ln) (hn : ln < 2 ^ 31) (h16 : mw ≤ 16) (hf : ∀ t, t < ln → btw (f t) 0 127) (hc : ¬ (i = 0 ∧ mw + i = ln)) : CR (S := Nat × (Nat → Int32)) l (XZA ad ab [] b ln f) D cI cB yJ1_newString_b4f7a cJ1_newString_b4f7a 3 (some (.object "java/lang/String")) 3 86 2 20 [.ref b, .int (nI i), .int (nI mw)] [] (fun (u : Nat × (Nat → Int32)) => ∀ t, t < mw → u.2 t = f (i + t)) (fun u a => [(a, .inr (0, [.ref u.1, .int (0 : Int32), .int (0 : Int32), .int (0 : Int32)])), (u.1, .inl (cB, mw, .inl u.2))]) := by
  refine CR.of (by decide) (Nat.le_of_ble_eq_true rfl) ?_
  intro p e s m below meth c A ls E hr hk hin hA hAA hX Y hl
  have E : EE p c cJ1_newString_b4f7a 3 s _ m RJ1 D cI cB := E
  have hl : lv_has ls 3 [(0, .ref b), (1, .int (nI i)), (2, .int (nI mw))] := hl
  have hZ : ZB ad ab A s s.heap := hX.1.narrow hAA
  have hR : RA b ln f A s s.heap := va_T.narrow hX.2 hAA
  refine lv_iload_n E.1.1 E.1.2.1 dJ1_newString_b4f7a_0 rfl (lv_at hl 2 rfl) ?_
  refine lv_if_ne (tgt := 7) E.1.1 E.1.2.1 dJ1_newString_b4f7a_1 (by decide) (fun c_1 => ?_) (fun c_1 => ?_)
  · skip
    refine r_new (fs := [.null, .int (0 : Int32), .int (0 : Int32), .int (0 : Int32)]) E Y hA inJ0 tyJ0_ok ml_J1_1 mq_J0 mn_J0 (ci := 0) rfl (fun j hj => by rcases (show j = 0 ∨ j = 1 ∨ j = 2 ∨ j = 3 by omega) with rfl | rfl | rfl | rfl <;> rfl) ⟨Nat.le_of_ble_eq_true rfl, Nat.le_of_ble_eq_true rfl⟩ dJ1_newString_b4f7a_7 (fun qo1 H Y => ?_)
    have Y : WD D A s.heap H _ [(qo1, .inr (0, [.null, .int (0 : Int32), .int (0 : Int32), .int (0 : Int32)]))] := Y
    refine lv_dup E.1.1 E.1.2.1 dJ1_newString_b4f7a_10 rfl ?_
    refine lv_aload_n E.1.1 E.1.2.1 dJ1_newString_b4f7a_11 rfl (lv_at hl 0 rfl) ?_
    refine lv_iload_n E.1.1 E.1.2.1 dJ1_newString_b4f7a_12 rfl (lv_at hl 1 rfl) ?_
    refine lv_iload_n E.1.1 E.1.2.1 dJ1_newString_b4f7a_13 rfl (lv_at hl 1 rfl) ?_
    refine lv_iload_n E.1.1 E.1.2.1 dJ1_newString_b4f7a_14 rfl (lv_at hl 2 rfl) ?_
    refine lv_iadd E.1.1 E.1.2.1 dJ1_newString_b4f7a_15 ?_
    refine lv_cst (v := (nI (mw + i))) ((nI_add i mw).trans (by rw [Nat.add_comm])) ?_
    refine g_r (wr := [(qo1, .inr (0, [.null, .int (0 : Int32), .int (0 : Int32), .int (0 : Int32)]))]) (w2 := fun gn qa => [(qo1, .inr (0, [.null, .int (0 : Int32), .int (0 : Int32), .int (0 : Int32)])), (qa, .inl (cB, mw, .inl gn))]) (run_S E ((c_J7_copyOfRange_39247 ad ab b ln f i mw hj hn h16 hf hc) _) lk_J1_232 xbZA (pre_of E Y [] rfl (by decide) (fun U hU hW => ⟨hZ.pass Y.2.2 hU hW (va_free Y.2.1 Y.2.2 hA [] rfl), RA.pass hR Y.2.2 hU hW (va_free Y.2.1 Y.2.2 hA [] rfl)⟩)) hl.1 ⟨Nat.le_of_ble_eq_true rfl, Nat.le_of_ble_eq_true rfl⟩ ⟨Nat.le_of_ble_eq_true rfl, Nat.le_of_ble_eq_true rfl⟩ rfl rfl (Nat.le_of_ble_eq_true rfl) dJ1_newString_b4f7a_16) Y hA [] [0] [0, 1] rfl rfl (by decide) (fun _ _ => rfl) (fun gn qa H locs hp Y => ?_)
    have hgn := hp
    refine lv_iconst (v := 0) E.1.1 E.1.2.1 dJ1_newString_b4f7a_19 (by decide) ?_
    refine g_v (wr := [(qa, .inl (cB, mw, .inl gn))]) (w2 := fun _ => [(qo1, .inr (0, [.ref qa, .int (0 : Int32), .int (0 : Int32), .int (0 : Int32)])), (qa, .inl (cB, mw, .inl gn))]) (run_I E ((c_J0_init_031fb qo1 qa) _) lk_J1_112 X0b (pre_of E Y [0] rfl (by decide) (fun U hU hW => trivial)) hl.1 ⟨Nat.le_of_ble_eq_true rfl, Nat.le_of_ble_eq_true rfl⟩ ⟨Nat.le_of_ble_eq_true rfl, Nat.le_of_ble_eq_true rfl⟩ rfl rfl (Nat.le_of_ble_eq_true rfl) dJ1_newString_b4f7a_20) Y hA [0] [1] [1, 0] rfl rfl (by decide) (fun _ => rfl) (fun _ H locs hp Y => ?_)
    exact r_aret E Y hr (Or.inl ⟨_, rfl⟩) hk qo1 (qa, gn) (hgn) rfl ⟨Nat.le_of_ble_eq_true rfl, Nat.le_of_ble_eq_true rfl⟩ dJ1_newString_b4f7a_23
  · exact absurd c_1 (nI_ne0 hm (by omega))

set_option maxRecDepth 100000 in
set_option maxHeartbeats 4000000 in
theorem c_J0_substring2_f {l : Launch} {D : va_G} {cI cB : ClassId} (ad ab : Nat → Nat) (q b ln : Nat) (f : Nat → Int32) (i mw : Nat) (hm : 0 < mw) (hj : mw + i ≤ ln) (hn : ln < 2 ^ 31) (h16 : mw ≤ 16) (hf : ∀ t, t < ln → btw (f t) 0 127) (hc : ¬ (i = 0 ∧ mw + i = ln)) : CR (S := Nat × (Nat → Int32)) l (XZS ad ab [] q b ln f) D cI cB yJ0_substring_37a41 cJ0_substring_37a41 5 (some (.object "java/lang/String")) 4 108 2 20 [.ref q, .int (nI i), .int (nI (mw + i))] [] (fun (u : Nat × (Nat → Int32)) => ∀ t, t < mw → u.2 t = f (i + t)) (fun u a => [(a, .inr (0, [.ref u.1, .int (0 : Int32), .int (0 : Int32), .int (0 : Int32)])), (u.1, .inl (cB, mw, .inl u.2))]) := by
  refine CR.of (by decide) (Nat.le_of_ble_eq_true rfl) ?_
  intro p e s m below meth c A ls E hr hk hin hA hAA hX Y hl
  have E : EE p c cJ0_substring_37a41 5 s _ m RJ0 D cI cB := E
  have hl : lv_has ls 5 [(0, .ref q), (1, .int (nI i)), (2, .int (nI (mw + i)))] := hl
  have hZ : ZB ad ab A s s.heap := hX.1.narrow hAA
  have hR : RS q b ln f A s s.heap := hX.2.narrow hAA
  refine lv_aload_n E.1.1 E.1.2.1 dJ0_substring_37a41_0 rfl (lv_at hl 0 rfl) ?_
  refine g_i (wr := []) (w2 := fun _ => []) (run_V E ((c_J0_length_8abf5 ad ab q b ln f) _) lk_J0_505 xbZS (pre_of E Y [] rfl (by decide) (fun U hU hW => ⟨hZ.pass Y.2.2 hU hW (va_free Y.2.1 Y.2.2 hA [] rfl), RS.pass hR Y.2.2 hU hW (va_free Y.2.1 Y.2.2 hA [] rfl)⟩)) (rcv_of hR Y.2.2) hl.1 ⟨Nat.le_of_ble_eq_true rfl, Nat.le_of_ble_eq_true rfl⟩ ⟨Nat.le_of_ble_eq_true rfl, Nat.le_of_ble_eq_true rfl⟩ rfl rfl (Nat.le_of_ble_eq_true rfl) dJ0_substring_37a41_1) Y hA [] [] [] rfl rfl (by decide) (fun _ => rfl) (fun r u H locs hp Y => ?_)
  refine lv_cst (v := (nI ln)) hp ?_
  refine lv_istore_n (lv' := [(3, .int (nI ln)), (0, .ref q), (1, .int (nI i)), (2, .int (nI (mw + i)))]) E.1.1 E.1.2.1 dJ0_substring_37a41_4 rfl hl (by decide) rfl (fun ls hl => ?_)
  refine lv_iload_n E.1.1 E.1.2.1 dJ0_substring_37a41_5 rfl (lv_at hl 2 rfl) ?_
  refine lv_iload_n E.1.1 E.1.2.1 dJ0_substring_37a41_6 rfl (lv_at hl 3 rfl) ?_
  refine lv_iload_n E.1.1 E.1.2.1 dJ0_substring_37a41_7 rfl (lv_at hl 0 rfl) ?_
  refine g_v (wr := []) (w2 := fun _ => []) (run_S E ((c_J0_checkBoundsBeginEnd_23922 ad ab (nI i) (nI (mw + i)) (nI ln) (nI_pos (by omega)) (nI_nlt (by omega) (by omega)) (nI_le hj hn)) _) lk_J0_521 xbZ (pre_of E Y [] rfl (by decide) (fun U hU hW => hZ.pass Y.2.2 hU hW (va_free Y.2.1 Y.2.2 hA [] rfl))) hl.1 ⟨Nat.le_of_ble_eq_true rfl, Nat.le_of_ble_eq_true rfl⟩ ⟨Nat.le_of_ble_eq_true rfl, Nat.le_of_ble_eq_true rfl⟩ rfl rfl (Nat.le_of_ble_eq_true rfl) dJ0_substring_37a41_8) Y hA [] [] [] rfl rfl (by decide) (fun _ => rfl) (fun u H locs hp Y => ?_)
  refine lv_iload_n E.1.1 E.1.2.1 dJ0_substring_37a41_11 rfl (lv_at hl 2 rfl) ?_
  refine lv_if_ne (tgt := 22) E.1.1 E.1.2.1 dJ0_substring_37a41_12 (by decide) (fun c_12 => ?_) (fun c_12 => ?_)
  · skip
    refine lv_iload_n E.1.1 E.1.2.1 dJ0_substring_37a41_22 rfl (lv_at hl 3 rfl) ?_
    refine lv_iload_n E.1.1 E.1.2.1 dJ0_substring_37a41_23 rfl (lv_at hl 2 rfl) ?_
    refine lv_isub E.1.1 E.1.2.1 dJ0_substring_37a41_24 ?_
    refine lv_cst (v := (nI mw)) (cr_sub i mw) ?_
    refine lv_istore (lv' := [(4, .int (nI mw)), (3, .int (nI ln)), (0, .ref q), (1, .int (nI i)), (2, .int (nI (mw + i)))]) E.1.1 E.1.2.1 dJ0_substring_37a41_25 hl (by decide) rfl (fun ls hl => ?_)
    refine lv_aload_n E.1.1 E.1.2.1 dJ0_substring_37a41_27 rfl (lv_at hl 2 rfl) ?_
    refine g_i (wr := []) (w2 := fun _ => []) (run_V E ((c_J0_isLatin1_aae02 ad ab q b ln f) _) lk_J0_492 xbZS (pre_of E Y [] rfl (by decide) (fun U hU hW => ⟨hZ.pass Y.2.2 hU hW (va_free Y.2.1 Y.2.2 hA [] rfl), RS.pass hR Y.2.2 hU hW (va_free Y.2.1 Y.2.2 hA [] rfl)⟩)) (rcv_of hR Y.2.2) hl.1 ⟨Nat.le_of_ble_eq_true rfl, Nat.le_of_ble_eq_true rfl⟩ ⟨Nat.le_of_ble_eq_true rfl, Nat.le_of_ble_eq_true rfl⟩ rfl rfl (Nat.le_of_ble_eq_true rfl) dJ0_substring_37a41_28) Y hA [] [] [] rfl rfl (by decide) (fun _ => rfl) (fun r u H locs hp Y => ?_)
    refine lv_cst (v := (1 : Int32)) hp ?_
    refine lv_if_eq (tgt := 47) E.1.1 E.1.2.1 dJ0_substring_37a41_31 (by decide) (fun c_31 => ?_) (fun c_31 => ?_)
    · exact absurd c_31 (by decide)
    · skip
      refine lv_aload_n E.1.1 E.1.2.1 dJ0_substring_37a41_34 rfl (lv_at hl 2 rfl) ?_
      refine vk_getf E.1.1 E.1.2.1 hR.2.2.1 Y.2.2 E.1.2.2.2.1 (E.1.2.2.2.2 _ mf_J0_9) (fun _ h => h) dJ0_substring_37a41_35 ?_
      refine lv_iload_n E.1.1 E.1.2.1 dJ0_substring_37a41_38 rfl (lv_at hl 3 rfl) ?_
      refine lv_iload E.1.1 E.1.2.1 dJ0_substring_37a41_39 (lv_at hl 0 rfl) ?_
      refine g_r (wr := []) (w2 := fun u qa => [(qa, .inr (0, [.ref u.1, .int (0 : Int32), .int (0 : Int32), .int (0 : Int32)])), (u.1, .inl (cB, mw, .inl u.2))]) (run_S E ((c_J1_newString_f ad ab b ln f i mw hm hj hn h16 hf hc) _) lk_J0_685 xbZA (pre_of E Y [] rfl (by decide) (fun U hU hW => ⟨hZ.pass Y.2.2 hU hW (va_free Y.2.1 Y.2.2 hA [] rfl), RA.pass hR.2.2.2 Y.2.2 hU hW (va_free Y.2.1 Y.2.2 hA [] rfl)⟩)) hl.1 ⟨Nat.le_of_ble_eq_true rfl, Nat.le_of_ble_eq_true rfl⟩ ⟨Nat.le_of_ble_eq_true rfl, Nat.le_of_ble_eq_true rfl⟩ rfl rfl (Nat.le_of_ble_eq_true rfl) dJ0_substring_37a41_41) Y hA [] [] [0, 1] rfl rfl (by decide) (fun _ _ => rfl) (fun u qa H locs hp Y => ?_)
      obtain ⟨bn, gn⟩ := u
      have hgn := hp
      have Y : WD D A s.heap H _ [(qa, .inr (0, [.ref bn, .int (0 : Int32), .int (0 : Int32), .int (0 : Int32)])), (bn, .inl (cB, mw, .inl gn))] := Y
      refine lv_goto (tgt := 57) E.1.1 E.1.2.1 dJ0_substring_37a41_44 (by decide) ?_
      exact r_aret E Y hr (Or.inl ⟨_, rfl⟩) hk qa (bn, gn) (hgn) rfl ⟨Nat.le_of_ble_eq_true rfl, Nat.le_of_ble_eq_true rfl⟩ dJ0_substring_37a41_57
  · skip
    refine lv_iload_n E.1.1 E.1.2.1 dJ0_substring_37a41_15 rfl (lv_at hl 3 rfl) ?_
    refine lv_iload_n E.1.1 E.1.2.1 dJ0_substring_37a41_16 rfl (lv_at hl 0 rfl) ?_
    refine lv_icmp_ne (tgt := 22) E.1.1 E.1.2.1 dJ0_substring_37a41_17 (by decide) (fun c_17 => ?_) (fun c_17 => ?_)
    · skip
      refine lv_iload_n E.1.1 E.1.2.1 dJ0_substring_37a41_22 rfl (lv_at hl 3 rfl) ?_
      refine lv_iload_n E.1.1 E.1.2.1 dJ0_substring_37a41_23 rfl (lv_at hl 2 rfl) ?_
      refine lv_isub E.1.1 E.1.2.1 dJ0_substring_37a41_24 ?_
      refine lv_cst (v := (nI mw)) (cr_sub i mw) ?_
      refine lv_istore (lv' := [(4, .int (nI mw)), (3, .int (nI ln)), (0, .ref q), (1, .int (nI i)), (2, .int (nI (mw + i)))]) E.1.1 E.1.2.1 dJ0_substring_37a41_25 hl (by decide) rfl (fun ls hl => ?_)
      refine lv_aload_n E.1.1 E.1.2.1 dJ0_substring_37a41_27 rfl (lv_at hl 2 rfl) ?_
      refine g_i (wr := []) (w2 := fun _ => []) (run_V E ((c_J0_isLatin1_aae02 ad ab q b ln f) _) lk_J0_492 xbZS (pre_of E Y [] rfl (by decide) (fun U hU hW => ⟨hZ.pass Y.2.2 hU hW (va_free Y.2.1 Y.2.2 hA [] rfl), RS.pass hR Y.2.2 hU hW (va_free Y.2.1 Y.2.2 hA [] rfl)⟩)) (rcv_of hR Y.2.2) hl.1 ⟨Nat.le_of_ble_eq_true rfl, Nat.le_of_ble_eq_true rfl⟩ ⟨Nat.le_of_ble_eq_true rfl, Nat.le_of_ble_eq_true rfl⟩ rfl rfl (Nat.le_of_ble_eq_true rfl) dJ0_substring_37a41_28) Y hA [] [] [] rfl rfl (by decide) (fun _ => rfl) (fun r u H locs hp Y => ?_)
      refine lv_cst (v := (1 : Int32)) hp ?_
      refine lv_if_eq (tgt := 47) E.1.1 E.1.2.1 dJ0_substring_37a41_31 (by decide) (fun c_31 => ?_) (fun c_31 => ?_)
      · exact absurd c_31 (by decide)
      · skip
        refine lv_aload_n E.1.1 E.1.2.1 dJ0_substring_37a41_34 rfl (lv_at hl 2 rfl) ?_
        refine vk_getf E.1.1 E.1.2.1 hR.2.2.1 Y.2.2 E.1.2.2.2.1 (E.1.2.2.2.2 _ mf_J0_9) (fun _ h => h) dJ0_substring_37a41_35 ?_
        refine lv_iload_n E.1.1 E.1.2.1 dJ0_substring_37a41_38 rfl (lv_at hl 3 rfl) ?_
        refine lv_iload E.1.1 E.1.2.1 dJ0_substring_37a41_39 (lv_at hl 0 rfl) ?_
        refine g_r (wr := []) (w2 := fun u qa => [(qa, .inr (0, [.ref u.1, .int (0 : Int32), .int (0 : Int32), .int (0 : Int32)])), (u.1, .inl (cB, mw, .inl u.2))]) (run_S E ((c_J1_newString_f ad ab b ln f i mw hm hj hn h16 hf hc) _) lk_J0_685 xbZA (pre_of E Y [] rfl (by decide) (fun U hU hW => ⟨hZ.pass Y.2.2 hU hW (va_free Y.2.1 Y.2.2 hA [] rfl), RA.pass hR.2.2.2 Y.2.2 hU hW (va_free Y.2.1 Y.2.2 hA [] rfl)⟩)) hl.1 ⟨Nat.le_of_ble_eq_true rfl, Nat.le_of_ble_eq_true rfl⟩ ⟨Nat.le_of_ble_eq_true rfl, Nat.le_of_ble_eq_true rfl⟩ rfl rfl (Nat.le_of_ble_eq_true rfl) dJ0_substring_37a41_41) Y hA [] [] [0, 1] rfl rfl (by decide) (fun _ _ => rfl) (fun u qa H locs hp Y => ?_)
        obtain ⟨bn, gn⟩ := u
        have hgn := hp
        have Y : WD D A s.heap H _ [(qa, .inr (0, [.ref bn, .int (0 : Int32), .int (0 : Int32), .int (0 : Int32)])), (bn, .inl (cB, mw, .inl gn))] := Y
        refine lv_goto (tgt := 57) E.1.1 E.1.2.1 dJ0_substring_37a41_44 (by decide) ?_
        exact r_aret E Y hr (Or.inl ⟨_, rfl⟩) hk qa (bn, gn) (hgn) rfl ⟨Nat.le_of_ble_eq_true rfl, Nat.le_of_ble_eq_true rfl⟩ dJ0_substring_37a41_57
    · exact absurd c_17 (fun z => hc ⟨(nI_eq (b := 0) (by omega) (by decide)).mp c_12, (nI_eq (by omega) hn).mp z⟩)

set_option maxRecDepth 100000 in
set_option maxHeartbeats 4000000 in
theorem c_J0_substring2_e {l : Launch} {D : va_G} {cI cB : ClassId} (ad ab : Nat → Nat) (q b ln : Nat) (f : Nat → Int32) (i : Nat) (hj : i ≤ ln) (hn : ln < 2 ^ 31) (hc : ¬ (i = 0 ∧ i = ln)) : CQ (S := Unit) l (XZS ad ab [] q b ln f) D cI cB yJ0_substring_37a41 cJ0_substring_37a41 5 (some (.object "java/lang/String")) 2 45 0 0 [.ref q, .int (nI i), .int (nI i)] [] (fun (_ : Unit) => True) (fun _ _ => []) (fun _ a => a = ad 9) := by
  refine CQ.of (by decide) (Nat.le_of_ble_eq_true rfl) ?_
  intro p e s m below meth c A ls E hr hk hin hA hAA hX Y hl
  have E : EE p c cJ0_substring_37a41 5 s _ m RJ0 D cI cB := E
  have hl : lv_has ls 5 [(0, .ref q), (1, .int (nI i)), (2, .int (nI i))] := hl
  have hZ : ZB ad ab A s s.heap := hX.1.narrow hAA
  have hR : RS q b ln f A s s.heap := hX.2.narrow hAA
  refine lv_aload_n E.1.1 E.1.2.1 dJ0_substring_37a41_0 rfl (lv_at hl 0 rfl) ?_
  refine g_i (wr := []) (w2 := fun _ => []) (run_V E ((c_J0_length_8abf5 ad ab q b ln f) _) lk_J0_505 xbZS (pre_of E Y [] rfl (by decide) (fun U hU hW => ⟨hZ.pass Y.2.2 hU hW (va_free Y.2.1 Y.2.2 hA [] rfl), RS.pass hR Y.2.2 hU hW (va_free Y.2.1 Y.2.2 hA [] rfl)⟩)) (rcv_of hR Y.2.2) hl.1 ⟨Nat.le_of_ble_eq_true rfl, Nat.le_of_ble_eq_true rfl⟩ ⟨Nat.le_of_ble_eq_true rfl, Nat.le_of_ble_eq_true rfl⟩ rfl rfl (Nat.le_of_ble_eq_true rfl) dJ0_substring_37a41_1) Y hA [] [] [] rfl rfl (by decide) (fun _ => rfl) (fun r u H locs hp Y => ?_)
  refine lv_cst (v := (nI ln)) hp ?_
  refine lv_istore_n (lv' := [(3, .int (nI ln)), (0, .ref q), (1, .int (nI i)), (2, .int (nI i))]) E.1.1 E.1.2.1 dJ0_substring_37a41_4 rfl hl (by decide) rfl (fun ls hl => ?_)
  refine lv_iload_n E.1.1 E.1.2.1 dJ0_substring_37a41_5 rfl (lv_at hl 2 rfl) ?_
  refine lv_iload_n E.1.1 E.1.2.1 dJ0_substring_37a41_6 rfl (lv_at hl 3 rfl) ?_
  refine lv_iload_n E.1.1 E.1.2.1 dJ0_substring_37a41_7 rfl (lv_at hl 0 rfl) ?_
  refine g_v (wr := []) (w2 := fun _ => []) (run_S E ((c_J0_checkBoundsBeginEnd_23922 ad ab (nI i) (nI i) (nI ln) (nI_pos (by omega)) (nI_nlt (by omega) (by omega)) (nI_le hj hn)) _) lk_J0_521 xbZ (pre_of E Y [] rfl (by decide) (fun U hU hW => hZ.pass Y.2.2 hU hW (va_free Y.2.1 Y.2.2 hA [] rfl))) hl.1 ⟨Nat.le_of_ble_eq_true rfl, Nat.le_of_ble_eq_true rfl⟩ ⟨Nat.le_of_ble_eq_true rfl, Nat.le_of_ble_eq_true rfl⟩ rfl rfl (Nat.le_of_ble_eq_true rfl) dJ0_substring_37a41_8) Y hA [] [] [] rfl rfl (by decide) (fun _ => rfl) (fun u H locs hp Y => ?_)
  refine lv_iload_n E.1.1 E.1.2.1 dJ0_substring_37a41_11 rfl (lv_at hl 2 rfl) ?_
  refine lv_if_ne (tgt := 22) E.1.1 E.1.2.1 dJ0_substring_37a41_12 (by decide) (fun c_12 => ?_) (fun c_12 => ?_)
  · skip
    refine lv_iload_n E.1.1 E.1.2.1 dJ0_substring_37a41_22 rfl (lv_at hl 3 rfl) ?_
    refine lv_iload_n E.1.1 E.1.2.1 dJ0_substring_37a41_23 rfl (lv_at hl 2 rfl) ?_
    refine lv_isub E.1.1 E.1.2.1 dJ0_substring_37a41_24 ?_
    refine lv_cst (v := (0 : Int32)) ((pk_sub (Nat.le_refl i)).trans (by rw [Nat.sub_self]; rfl)) ?_
    refine lv_istore (lv' := [(4, .int (0 : Int32)), (3, .int (nI ln)), (0, .ref q), (1, .int (nI i)), (2, .int (nI i))]) E.1.1 E.1.2.1 dJ0_substring_37a41_25 hl (by decide) rfl (fun ls hl => ?_)
    refine lv_aload_n E.1.1 E.1.2.1 dJ0_substring_37a41_27 rfl (lv_at hl 2 rfl) ?_
    refine g_i (wr := []) (w2 := fun _ => []) (run_V E ((c_J0_isLatin1_aae02 ad ab q b ln f) _) lk_J0_492 xbZS (pre_of E Y [] rfl (by decide) (fun U hU hW => ⟨hZ.pass Y.2.2 hU hW (va_free Y.2.1 Y.2.2 hA [] rfl), RS.pass hR Y.2.2 hU hW (va_free Y.2.1 Y.2.2 hA [] rfl)⟩)) (rcv_of hR Y.2.2) hl.1 ⟨Nat.le_of_ble_eq_true rfl, Nat.le_of_ble_eq_true rfl⟩ ⟨Nat.le_of_ble_eq_true rfl, Nat.le_of_ble_eq_true rfl⟩ rfl rfl (Nat.le_of_ble_eq_true rfl) dJ0_substring_37a41_28) Y hA [] [] [] rfl rfl (by decide) (fun _ => rfl) (fun r u H locs hp Y => ?_)
    refine lv_cst (v := (1 : Int32)) hp ?_
    refine lv_if_eq (tgt := 47) E.1.1 E.1.2.1 dJ0_substring_37a41_31 (by decide) (fun c_31 => ?_) (fun c_31 => ?_)
    · exact absurd c_31 (by decide)
    · skip
      refine lv_aload_n E.1.1 E.1.2.1 dJ0_substring_37a41_34 rfl (lv_at hl 2 rfl) ?_
      refine vk_getf E.1.1 E.1.2.1 hR.2.2.1 Y.2.2 E.1.2.2.2.1 (E.1.2.2.2.2 _ mf_J0_9) (fun _ h => h) dJ0_substring_37a41_35 ?_
      refine lv_iload_n E.1.1 E.1.2.1 dJ0_substring_37a41_38 rfl (lv_at hl 3 rfl) ?_
      refine lv_iload E.1.1 E.1.2.1 dJ0_substring_37a41_39 (lv_at hl 0 rfl) ?_
      refine g_q (wr := []) (w2 := fun _ qa => []) (run_S E ((c_J1_newString_e ad ab b i) _) lk_J0_685 xbZ (pre_of E Y [] rfl (by decide) (fun U hU hW => hZ.pass Y.2.2 hU hW (va_free Y.2.1 Y.2.2 hA [] rfl))) hl.1 ⟨Nat.le_of_ble_eq_true rfl, Nat.le_of_ble_eq_true rfl⟩ ⟨Nat.le_of_ble_eq_true rfl, Nat.le_of_ble_eq_true rfl⟩ rfl rfl (Nat.le_of_ble_eq_true rfl) dJ0_substring_37a41_41) Y hA [] [] [] rfl rfl (by decide) (fun _ _ => rfl) (fun _ qa H locs hp hrel Y => ?_)
      subst hrel
      refine lv_goto (tgt := 57) E.1.1 E.1.2.1 dJ0_substring_37a41_44 (by decide) ?_
      exact r_qret E Y hr (Or.inl ⟨_, rfl⟩) hk (ad 9) () (trivial) rfl rfl ⟨Nat.le_of_ble_eq_true rfl, Nat.le_of_ble_eq_true rfl⟩ dJ0_substring_37a41_57
  · skip
    refine lv_iload_n E.1.1 E.1.2.1 dJ0_substring_37a41_15 rfl (lv_at hl 3 rfl) ?_
    refine lv_iload_n E.1.1 E.1.2.1 dJ0_substring_37a41_16 rfl (lv_at hl 0 rfl) ?_
    refine lv_icmp_ne (tgt := 22) E.1.1 E.1.2.1 dJ0_substring_37a41_17 (by decide) (fun c_17 => ?_) (fun c_17 => ?_)
    · skip
      refine lv_iload_n E.1.1 E.1.2.1 dJ0_substring_37a41_22 rfl (lv_at hl 3 rfl) ?_
      refine lv_iload_n E.1.1 E.1.2.1 dJ0_substring_37a41_23 rfl (lv_at hl 2 rfl) ?_
      refine lv_isub E.1.1 E.1.2.1 dJ0_substring_37a41_24 ?_
      refine lv_cst (v := (0 : Int32)) ((pk_sub (Nat.le_refl i)).trans (by rw [Nat.sub_self]; rfl)) ?_
      refine lv_istore (lv' := [(4, .int (0 : Int32)), (3, .int (nI ln)), (0, .ref q), (1, .int (nI i)), (2, .int (nI i))]) E.1.1 E.1.2.1 dJ0_substring_37a41_25 hl (by decide) rfl (fun ls hl => ?_)
      refine lv_aload_n E.1.1 E.1.2.1 dJ0_substring_37a41_27 rfl (lv_at hl 2 rfl) ?_
      refine g_i (wr := []) (w2 := fun _ => []) (run_V E ((c_J0_isLatin1_aae02 ad ab q b ln f) _) lk_J0_492 xbZS (pre_of E Y [] rfl (by decide) (fun U hU hW => ⟨hZ.pass Y.2.2 hU hW (va_free Y.2.1 Y.2.2 hA [] rfl), RS.pass hR Y.2.2 hU hW (va_free Y.2.1 Y.2.2 hA [] rfl)⟩)) (rcv_of hR Y.2.2) hl.1 ⟨Nat.le_of_ble_eq_true rfl, Nat.le_of_ble_eq_true rfl⟩ ⟨Nat.le_of_ble_eq_true rfl, Nat.le_of_ble_eq_true rfl⟩ rfl rfl (Nat.le_of_ble_eq_true rfl) dJ0_substring_37a41_28) Y hA [] [] [] rfl rfl (by decide) (fun _ => rfl) (fun r u H locs hp Y => ?_)
      refine lv_cst (v := (1 : Int32)) hp ?_
      refine lv_if_eq (tgt := 47) E.1.1 E.1.2.1 dJ0_substring_37a41_31 (by decide) (fun c_31 => ?_) (fun c_31 => ?_)
      · exact absurd c_31 (by decide)
      · skip
        refine lv_aload_n E.1.1 E.1.2.1 dJ0_substring_37a41_34 rfl (lv_at hl 2 rfl) ?_
        refine vk_getf E.1.1 E.1.2.1 hR.2.2.1 Y.2.2 E.1.2.2.2.1 (E.1.2.2.2.2 _ mf_J0_9) (fun _ h => h) dJ0_substring_37a41_35 ?_
        refine lv_iload_n E.1.1 E.1.2.1 dJ0_substring_37a41_38 rfl (lv_at hl 3 rfl) ?_
        refine lv_iload E.1.1 E.1.2.1 dJ0_substring_37a41_39 (lv_at hl 0 rfl) ?_
        refine g_q (wr := []) (w2 := fun _ qa => []) (run_S E ((c_J1_newString_e ad ab b i) _) lk_J0_685 xbZ (pre_of E Y [] rfl (by decide) (fun U hU hW => hZ.pass Y.2.2 hU hW (va_free Y.2.1 Y.2.2 hA [] rfl))) hl.1 ⟨Nat.le_of_ble_eq_true rfl, Nat.le_of_ble_eq_true rfl⟩ ⟨Nat.le_of_ble_eq_true rfl, Nat.le_of_ble_eq_true rfl⟩ rfl rfl (Nat.le_of_ble_eq_true rfl) dJ0_substring_37a41_41) Y hA [] [] [] rfl rfl (by decide) (fun _ _ => rfl) (fun _ qa H locs hp hrel Y => ?_)
        subst hrel
        refine lv_goto (tgt := 57) E.1.1 E.1.2.1 dJ0_substring_37a41_44 (by decide) ?_
        exact r_qret E Y hr (Or.inl ⟨_, rfl⟩) hk (ad 9) () (trivial) rfl rfl ⟨Nat.le_of_ble_eq_true rfl, Nat.le_of_ble_eq_true rfl⟩ dJ0_substring_37a41_57
    · exact absurd c_17 (fun z => hc ⟨(nI_eq (b := 0) (by omega) (by decide)).mp c_12, (nI_eq (by omega) hn).mp z⟩)

set_option maxRecDepth 100000 in
set_option maxHeartbeats 4000000 in
theorem c_J0_substring1_f {l : Launch} {D : va_G} {cI cB : ClassId} (ad ab : Nat → Nat) (q b ln : Nat) (f : Nat → Int32) (i mw : Nat) (el : ln = mw + i) (hi : 0 < i) (hm : 0 < mw) (hn : ln < 2 ^ 31) (h16 : mw ≤ 16) (hf : ∀ t, t < ln → btw (f t) 0 127) : CR (S := Nat × (Nat → Int32)) l (XZS ad ab [] q b ln f) D cI cB yJ0_substring_b52d3 cJ0_substring_b52d3 2 (some (.object "java/lang/String")) 5 132 2 20 [.ref q, .int (nI i)] [] (fun (u : Nat × (Nat → Int32)) => ∀ t, t < mw → u.2 t = f (i + t)) (fun u a => [(a, .inr (0, [.ref u.1, .int (0 : Int32), .int (0 : Int32), .int (0 : Int32)])), (u.1, .inl (cB, mw, .inl u.2))]) := by
  refine CR.of (by decide) (Nat.le_of_ble_eq_true rfl) ?_
  intro p e s m below meth c A ls E hr hk hin hA hAA hX Y hl
  have E : EE p c cJ0_substring_b52d3 2 s _ m RJ0 D cI cB := E
  have hl : lv_has ls 2 [(0, .ref q), (1, .int (nI i))] := hl
  have hZ : ZB ad ab A s s.heap := hX.1.narrow hAA
  have hR : RS q b ln f A s s.heap := hX.2.narrow hAA
  subst el
  refine lv_aload_n E.1.1 E.1.2.1 dJ0_substring_b52d3_0 rfl (lv_at hl 0 rfl) ?_
  refine lv_iload_n E.1.1 E.1.2.1 dJ0_substring_b52d3_1 rfl (lv_at hl 1 rfl) ?_
  refine lv_aload_n E.1.1 E.1.2.1 dJ0_substring_b52d3_2 rfl (lv_at hl 0 rfl) ?_
  refine g_i (wr := []) (w2 := fun _ => []) (run_V E ((c_J0_length_8abf5 ad ab q b (mw + i) f) _) lk_J0_505 xbZS (pre_of E Y [] rfl (by decide) (fun U hU hW => ⟨hZ.pass Y.2.2 hU hW (va_free Y.2.1 Y.2.2 hA [] rfl), RS.pass hR Y.2.2 hU hW (va_free Y.2.1 Y.2.2 hA [] rfl)⟩)) (rcv_of hR Y.2.2) hl.1 ⟨Nat.le_of_ble_eq_true rfl, Nat.le_of_ble_eq_true rfl⟩ ⟨Nat.le_of_ble_eq_true rfl, Nat.le_of_ble_eq_true rfl⟩ rfl rfl (Nat.le_of_ble_eq_true rfl) dJ0_substring_b52d3_3) Y hA [] [] [] rfl rfl (by decide) (fun _ => rfl) (fun r u H locs hp Y => ?_)
  refine lv_cst (v := (nI (mw + i))) hp ?_
  refine g_r (wr := []) (w2 := fun u qa => [(qa, .inr (0, [.ref u.1, .int (0 : Int32), .int (0 : Int32), .int (0 : Int32)])), (u.1, .inl (cB, mw, .inl u.2))]) (run_V E ((c_J0_substring2_f ad ab q b (mw + i) f i mw hm (Nat.le_refl _) hn h16 hf (fun z => absurd z.1 (by omega))) _) lk_J0_681 xbZS (pre_of E Y [] rfl (by decide) (fun U hU hW => ⟨hZ.pass Y.2.2 hU hW (va_free Y.2.1 Y.2.2 hA [] rfl), RS.pass hR Y.2.2 hU hW (va_free Y.2.1 Y.2.2 hA [] rfl)⟩)) (rcv_of hR Y.2.2) hl.1 ⟨Nat.le_of_ble_eq_true rfl, Nat.le_of_ble_eq_true rfl⟩ ⟨Nat.le_of_ble_eq_true rfl, Nat.le_of_ble_eq_true rfl⟩ rfl rfl (Nat.le_of_ble_eq_true rfl) dJ0_substring_b52d3_6) Y hA [] [] [0, 1] rfl rfl (by decide) (fun _ _ => rfl) (fun u qa H locs hp Y => ?_)
  obtain ⟨bn, gn⟩ := u
  have hgn := hp
  have Y : WD D A s.heap H _ [(qa, .inr (0, [.ref bn, .int (0 : Int32), .int (0 : Int32), .int (0 : Int32)])), (bn, .inl (cB, mw, .inl gn))] := Y
  exact r_aret E Y hr (Or.inl ⟨_, rfl⟩) hk qa (bn, gn) (hgn) rfl ⟨Nat.le_of_ble_eq_true rfl, Nat.le_of_ble_eq_true rfl⟩ dJ0_substring_b52d3_9

set_option maxRecDepth 100000 in
set_option maxHeartbeats 4000000 in
theorem c_J0_substring1_e {l : Launch} {D : va_G} {cI cB : ClassId} (ad ab : Nat → Nat) (q b ln : Nat) (f : Nat → Int32) (i : Nat) (el : ln = i) (hi : 0 < i) (hn : ln < 2 ^ 31) : CQ (S := Unit) l (XZS ad ab [] q b ln f) D cI cB yJ0_substring_b52d3 cJ0_substring_b52d3 2 (some (.object "java/lang/String")) 3 69 0 0 [.ref q, .int (nI i)] [] (fun (_ : Unit) => True) (fun _ _ => []) (fun _ a => a = ad 9) := by
  refine CQ.of (by decide) (Nat.le_of_ble_eq_true rfl) ?_
  intro p e s m below meth c A ls E hr hk hin hA hAA hX Y hl
  have E : EE p c cJ0_substring_b52d3 2 s _ m RJ0 D cI cB := E
  have hl : lv_has ls 2 [(0, .ref q), (1, .int (nI i))] := hl
  have hZ : ZB ad ab A s s.heap := hX.1.narrow hAA
  have hR : RS q b ln f A s s.heap := hX.2.narrow hAA
  subst el
  refine lv_aload_n E.1.1 E.1.2.1 dJ0_substring_b52d3_0 rfl (lv_at hl 0 rfl) ?_
  refine lv_iload_n E.1.1 E.1.2.1 dJ0_substring_b52d3_1 rfl (lv_at hl 1 rfl) ?_
  refine lv_aload_n E.1.1 E.1.2.1 dJ0_substring_b52d3_2 rfl (lv_at hl 0 rfl) ?_
  refine g_i (wr := []) (w2 := fun _ => []) (run_V E ((c_J0_length_8abf5 ad ab q b ln f) _) lk_J0_505 xbZS (pre_of E Y [] rfl (by decide) (fun U hU hW => ⟨hZ.pass Y.2.2 hU hW (va_free Y.2.1 Y.2.2 hA [] rfl), RS.pass hR Y.2.2 hU hW (va_free Y.2.1 Y.2.2 hA [] rfl)⟩)) (rcv_of hR Y.2.2) hl.1 ⟨Nat.le_of_ble_eq_true rfl, Nat.le_of_ble_eq_true rfl⟩ ⟨Nat.le_of_ble_eq_true rfl, Nat.le_of_ble_eq_true rfl⟩ rfl rfl (Nat.le_of_ble_eq_true rfl) dJ0_substring_b52d3_3) Y hA [] [] [] rfl rfl (by decide) (fun _ => rfl) (fun r u H locs hp Y => ?_)
  refine lv_cst (v := (nI ln)) hp ?_
  refine g_q (wr := []) (w2 := fun _ qz => []) (run_V E ((c_J0_substring2_e ad ab q b ln f ln (Nat.le_refl _) hn (fun z => absurd z.1 (by omega))) _) lk_J0_681 xbZS (pre_of E Y [] rfl (by decide) (fun U hU hW => ⟨hZ.pass Y.2.2 hU hW (va_free Y.2.1 Y.2.2 hA [] rfl), RS.pass hR Y.2.2 hU hW (va_free Y.2.1 Y.2.2 hA [] rfl)⟩)) (rcv_of hR Y.2.2) hl.1 ⟨Nat.le_of_ble_eq_true rfl, Nat.le_of_ble_eq_true rfl⟩ ⟨Nat.le_of_ble_eq_true rfl, Nat.le_of_ble_eq_true rfl⟩ rfl rfl (Nat.le_of_ble_eq_true rfl) dJ0_substring_b52d3_6) Y hA [] [] [] rfl rfl (by decide) (fun _ _ => rfl) (fun _ qz H locs hp hrel Y => ?_)
  subst hrel
  exact r_qret E Y hr (Or.inl ⟨_, rfl⟩) hk (ad 9) () (trivial) rfl rfl ⟨Nat.le_of_ble_eq_true rfl, Nat.le_of_ble_eq_true rfl⟩ dJ0_substring_b52d3_9
