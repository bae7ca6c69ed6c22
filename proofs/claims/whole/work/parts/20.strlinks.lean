theorem mg_0 : Cond.sameMethod "[B" "java/lang/Object" "clone" "()Ljava/lang/Object;" ∈ gT := sg2 (List.mem_of_getElem? (i := 164) rfl) rfl
theorem mg_1 : Cond.sameMethod "java/lang/AbstractStringBuilder" "java/lang/AbstractStringBuilder" "isLatin1" "()Z" ∈ gT := sg2 (List.mem_of_getElem? (i := 178) rfl) rfl
theorem mg_2 : Cond.sameMethod "java/lang/AbstractStringBuilder" "java/lang/AbstractStringBuilder" "getValue" "()[B" ∈ gT := sg3 (List.mem_of_getElem? (i := 8) rfl) rfl
theorem mg_3 : Cond.sameMethod "java/lang/AbstractStringBuilder" "java/lang/AbstractStringBuilder" "length" "()I" ∈ gT := sg5 (List.mem_of_getElem? (i := 218) rfl) rfl
theorem mg_4 : Cond.sameMethod "java/lang/AbstractStringBuilder" "java/lang/AbstractStringBuilder" "append" "(C)Ljava/lang/AbstractStringBuilder;" ∈ gT := sg5 (List.mem_of_getElem? (i := 219) rfl) rfl
theorem mg_5 : Cond.sameMethod "java/lang/AbstractStringBuilder" "java/lang/AbstractStringBuilder" "ensureCapacityInternal" "(I)V" ∈ gT := sg5 (List.mem_of_getElem? (i := 220) rfl) rfl
theorem mg_6 : Cond.sameMethod "java/lang/AbstractStringBuilder" "java/lang/AbstractStringBuilder" "newCapacity" "(I)I" ∈ gT := sg5 (List.mem_of_getElem? (i := 221) rfl) rfl
theorem mg_7 : Cond.sameMethod "java/lang/AbstractStringBuilder" "java/lang/AbstractStringBuilder" "inflate" "()V" ∈ gT := sg5 (List.mem_of_getElem? (i := 222) rfl) rfl
theorem mg_8 : Cond.sameMethod "java/lang/AbstractStringBuilder" "java/lang/AbstractStringBuilder" "setLength" "(I)V" ∈ gT := sg5 (List.mem_of_getElem? (i := 224) rfl) rfl
theorem mu_J4 : Cond.superclass "java/lang/StringBuilder" "java/lang/AbstractStringBuilder" ∈ gT := sg2 (List.mem_of_getElem? (i := 22) rfl) rfl
theorem mv_clone : Cond.native ⟨"java/lang/Object", "clone", "()Ljava/lang/Object;"⟩ ∈ gT := sg2 (List.mem_of_getElem? (i := 165) rfl) rfl
theorem mi_clone : Cond.instanceMethod ⟨"java/lang/Object", "clone", "()Ljava/lang/Object;"⟩ ∈ gT := sg2 (List.mem_of_getElem? (i := 166) rfl) rfl
theorem ms_clone : Cond.selects "[B" ⟨"[B", "clone", "()Ljava/lang/Object;"⟩ ⟨"java/lang/Object", "clone", "()Ljava/lang/Object;"⟩ ∈ gT := sg2 (List.mem_of_getElem? (i := 167) rfl) rfl
theorem mt_acp : Cond.static arraycopyName ∈ gT := sg2 (List.mem_of_getElem? (i := 174) rfl) rfl
theorem mv_acp : Cond.native arraycopyName ∈ gT := sg2 (List.mem_of_getElem? (i := 175) rfl) rfl
theorem lu_J5_83 : LU RJ5 83 RJ4 RJ5 yJ5_isLatin1_aae02 yJ5_isLatin1_aae02 cJ5_isLatin1_aae02 1 (some .boolean) 0 := ⟨⟨mm_J5_83, mg_1, ms_J4_J5_isLatin1_aae02_J5_isLatin1_aae02, mi_J5_isLatin1_aae02, mn_J5, mc_J5_isLatin1_aae02⟩, rfl, ⟨by decide +kernel, by decide +kernel, by decide +kernel⟩⟩
theorem lu_J5_100 : LU RJ5 100 RJ4 RJ5 yJ5_ensureCapacityInternal_d00df yJ5_ensureCapacityInternal_d00df cJ5_ensureCapacityInternal_d00df 3 none 1 := ⟨⟨mm_J5_100, mg_5, ms_J4_J5_ensureCapacityInternal_d00df_J5_ensureCapacityInternal_d00df, mi_J5_ensureCapacityInternal_d00df, mn_J5, mc_J5_ensureCapacityInternal_d00df⟩, rfl, ⟨by decide +kernel, by decide +kernel, by decide +kernel⟩⟩
theorem lu_J0_552 : LU RJ0 552 RJ4 RJ5 yJ5_getValue_6d5f1 yJ5_getValue_6d5f1 cJ5_getValue_6d5f1 1 (some (.array .byte)) 0 := ⟨⟨mm_J0_552, mg_2, ms_J4_J5_getValue_6d5f1_J5_getValue_6d5f1, mi_J5_getValue_6d5f1, mn_J5, mc_J5_getValue_6d5f1⟩, rfl, ⟨by decide +kernel, by decide +kernel, by decide +kernel⟩⟩
theorem lu_J0_1047 : LU RJ0 1047 RJ4 RJ5 yJ5_isLatin1_aae02 yJ5_isLatin1_aae02 cJ5_isLatin1_aae02 1 (some .boolean) 0 := ⟨⟨mm_J0_1047, mg_1, ms_J4_J5_isLatin1_aae02_J5_isLatin1_aae02, mi_J5_isLatin1_aae02, mn_J5, mc_J5_isLatin1_aae02⟩, rfl, ⟨by decide +kernel, by decide +kernel, by decide +kernel⟩⟩
theorem lo_J0_549 : LO RJ0 549 RJ4 RJ5 yJ5_length_8abf5 yJ4_length_8abf5 cJ4_length_8abf5 1 (some .int) 0 := ⟨⟨mm_J0_549, mg_3, mi_J5_length_8abf5, ms_J4_J5_length_8abf5_J4_length_8abf5, mi_J4_length_8abf5, mn_J4, mc_J4_length_8abf5⟩, ⟨_, _, _, mc_J5_length_8abf5⟩, ⟨by decide +kernel, by decide +kernel, by decide +kernel⟩⟩
theorem ls_J4_50 : LSU RJ4 50 yJ5_append_3fe6f cJ5_append_3fe6f 2 (some (.object "java/lang/AbstractStringBuilder")) 1 := ⟨⟨mm_J4_50, mg_4, mu_J4, mi_J5_append_3fe6f, mn_J5, mc_J5_append_3fe6f⟩, ⟨by decide +kernel, by decide +kernel⟩⟩
theorem ls_J4_333 : LSU RJ4 333 yJ5_setLength_d00df cJ5_setLength_d00df 2 none 1 := ⟨⟨mm_J4_333, mg_8, mu_J4, mi_J5_setLength_d00df, mn_J5, mc_J5_setLength_d00df⟩, ⟨by decide +kernel, by decide +kernel⟩⟩
theorem ls_J4_343 : LSU RJ4 343 yJ5_length_8abf5 cJ5_length_8abf5 1 (some .int) 0 := ⟨⟨mm_J4_343, mg_3, mu_J4, mi_J5_length_8abf5, mn_J5, mc_J5_length_8abf5⟩, ⟨by decide +kernel, by decide +kernel⟩⟩
theorem nmB {D : va_G} {cI cB : ClassId} {s : State} (h : va_K D vwCl (tyL cI cB) s) : s.vm.findClass "[B" = some cB := va_nm_byte (h.2 1 (cB, .byte) rfl).2
theorem rcv_of {q b n : Nat} {f : Nat → Int32} {A : Nat → Prop} {s : State} {H : Heap} {locs : List Loc} (h : RS q b n f A s s.heap) (hS : va_S A s.heap H locs) : ∃ cell : Cell, H[q]? = some cell ∧ cell.vm.isStatics = false ∧ s.vm.findClass "java/lang/String" = some cell.cls := by
  obtain ⟨cell, h1, h2, h3, -⟩ := h.1.kept hS.2.1
  exact ⟨cell, h1, h2, h3⟩
def XZ (ad ab : Nat → Nat) (w0 : va_W) : Nat → State → Prop := fun sz U => ZB ad ab (va_A w0 sz) U U.heap
def XZS (ad ab : Nat → Nat) (w0 : va_W) (q b n : Nat) (f : Nat → Int32) : Nat → State → Prop := fun sz U => ZB ad ab (va_A w0 sz) U U.heap ∧ RS q b n f (va_A w0 sz) U U.heap
def XZA (ad ab : Nat → Nat) (w0 : va_W) (b n : Nat) (f : Nat → Int32) : Nat → State → Prop := fun sz U => ZB ad ab (va_A w0 sz) U U.heap ∧ RA b n f (va_A w0 sz) U U.heap
def XZSS (ad ab : Nat → Nat) (w0 : va_W) (q b n : Nat) (f : Nat → Int32) (q' b' n' : Nat) (f' : Nat → Int32) : Nat → State → Prop := fun sz U => ZB ad ab (va_A w0 sz) U U.heap ∧ RS q b n f (va_A w0 sz) U U.heap ∧ RS q' b' n' f' (va_A w0 sz) U U.heap
def XZAA (ad ab : Nat → Nat) (w0 : va_W) (b n : Nat) (f : Nat → Int32) (b' n' : Nat) (f' : Nat → Int32) : Nat → State → Prop := fun sz U => ZB ad ab (va_A w0 sz) U U.heap ∧ RA b n f (va_A w0 sz) U U.heap ∧ RA b' n' f' (va_A w0 sz) U U.heap
theorem xbZ {ad ab : Nat → Nat} {w0 : va_W} : Xb (XZ ad ab w0) := fun _ _ _ _ _ h => ZB.calling h
theorem xbZS {ad ab : Nat → Nat} {w0 : va_W} {q b n : Nat} {f : Nat → Int32} : Xb (XZS ad ab w0 q b n f) := fun _ _ _ _ _ h => ⟨ZB.calling h.1, RS.calling h.2⟩
theorem xbZA {ad ab : Nat → Nat} {w0 : va_W} {b n : Nat} {f : Nat → Int32} : Xb (XZA ad ab w0 b n f) := fun _ _ _ _ _ h => ⟨ZB.calling h.1, RA.calling h.2⟩
theorem xbZSS {ad ab : Nat → Nat} {w0 : va_W} {q b n : Nat} {f : Nat → Int32} {q' b' n' : Nat} {f' : Nat → Int32} : Xb (XZSS ad ab w0 q b n f q' b' n' f') := fun _ _ _ _ _ h => ⟨ZB.calling h.1, RS.calling h.2.1, RS.calling h.2.2⟩
theorem xbZAA {ad ab : Nat → Nat} {w0 : va_W} {b n : Nat} {f : Nat → Int32} {b' n' : Nat} {f' : Nat → Int32} : Xb (XZAA ad ab w0 b n f b' n' f') := fun _ _ _ _ _ h => ⟨ZB.calling h.1, RA.calling h.2.1, RA.calling h.2.2⟩
section STRROWS
variable {p : Program} {l : Launch} {e : Env} {R : Room} {s : State} {m : MethodId} {args : Array Value} {below : List Frame} {meth : Method} {c : Code} {H : Heap} {locs : List Loc} {cells slots : Nat} {Q : State → Prop}
variable {cc : ByteArray} {pc nL : Nat} {ls : Array Slot} {rest : List Value} {D : va_G} {A : Nat → Prop} {a : Nat} {cI cB : ClassId} {w : va_W} {H0 : Heap} {own : String}
theorem r_bas (E : EE p c cc nL s args m own D cI cB) (X : WD D A H0 H locs w) (q0 : Nat) {n : Nat} {f : Nat → Int32} {w' : va_W} (he : w[q0]? = some (a, .inl (cB, n, .inl f))) {i x : Int32} (j : Nat) (hj : i.toNatClampNeg = j) (hin : vp_in i n) {v : Int32} (hv : vp_nar .byte x = v) (hw : w.set q0 (a, .inl (cB, n, .inl (upd f j v))) = w') (hd : decode cc pc = .ok (.bastore, 1))
    (kk : ∀ (H1 : Heap) (locs1 : List Loc), WD D A H0 H1 locs1 w' → W p l e R s m args below meth c H1 locs1 cells slots Q (F0 m (pc + 1) ls rest)) : W p l e R s m args below meth c H locs cells slots Q (F0 m pc ls (.int x :: .int i :: .ref a :: rest)) := by
  subst hj hv
  exact r_bast E X q0 he hin hw hd kk
theorem r_acp (E : EE p c cc nL s args m own D cI cB) (X : WD D A s.heap H locs w) (hl : ls.size = nL) {index : Nat} (h1 : Cond.methodLink own index arraycopyName ∈ gT) {b0 n0 : Nat} {f : Nat → Int32} (hX : RA b0 n0 f A s s.heap) (q1 : Nat) {n1 : Nat} {g : Nat → Int32} {w' : va_W} (he : w[q1]? = some (a, .inl (cB, n1, .inl g))) {sp dp n : Int32} {i j k : Nat}
    (hs : (sp = nI i ∧ dp = nI j ∧ n = nI k) ∧ (i + k ≤ n0 ∧ j + k ≤ n1 ∧ n0 < 2 ^ 31 ∧ n1 < 2 ^ 31) ∧ (∀ t, t < k → fits .byte (.int (f (i + t))) = true) ∧ 1 ≤ R.frames ∧ (rest.map fun v => v.category).sum + (nativeFrameWords "java/lang/System" "arraycopy" 5 + 11) ≤ R.locals) (hw : w.set q1 (a, .inl (cB, n1, .inl (va_cpy f g i j k))) = w') (hd : decode cc pc = .ok (.invokestatic index, 3))
    (kk : ∀ (H1 : Heap) (locs1 : List Loc), WD D A s.heap H1 locs1 w' → W p l e R s m args below meth c H1 locs1 cells slots Q (F0 m (pc + 3) ls rest)) : W p l e R s m args below meth c H locs cells slots Q (F0 m pc ls (.int n :: .int dp :: .ref a :: .int sp :: .ref b0 :: rest)) := by
  obtain ⟨⟨rfl, rfl, rfl⟩, ⟨hb1, hb2, hb3, hb4⟩, hfit, hfr, hlo⟩ := hs
  subst hw
  have ei : (nI i).toNatClampNeg = i := nI_clamp (by omega)
  have ej : (nI j).toNatClampNeg = j := nI_clamp (by omega)
  have ek : (nI k).toNatClampNeg = k := nI_clamp (by omega)
  refine vk_copyt E.1.1 E.1.2.1 (E.1.2.2.1.trans hl.symm) E.1.2.2.2.1 (E.1.2.2.2.2 _ h1) (E.1.2.2.2.2 _ mv_acp) (E.1.2.2.2.2 _ mt_acp) (E.1.2.2.2.2 _ mn_J10) E.2 X.1 X.2.1 X.2.2 hX q1 1 he rfl (nI_pos (by omega)) (nI_pos (by omega)) (nI_pos (by omega)) (by rw [ei, ek]; exact hb1) (by rw [ej, ek]; exact hb2) (fun t ht => by rw [ei]; rw [ek] at ht; exact hfit t ht) hfr hlo hd (fun H1 locs1 g1 g2 g3 => ?_)
  rw [ei, ej, ek] at g1 g2
  exact kk H1 locs1 ⟨g1, g2, g3⟩
theorem r_clone {ad ab : Nat → Nat} (E : EE p c cc nL s args m RJ7 D cI cB) (X : WD D A H0 H locs w) (hA : ∀ q, H0.size ≤ q → A q) (hl : ls.size = nL) (hZ : ZB ad ab A s s.heap) (q0 : Nat) {n : Nat} {f : Nat → Int32} (he : w[q0]? = some (a, .inl (cB, n, .inl f))) (hfit : ∀ t, t < n → fits .byte (.int (f t)) = true) (hc : cells + 1 ≤ R.cells ∧ slots + n ≤ R.slots) (hd : decode cc pc = .ok (.invokevirtual 310, 3)) (hR : 1 ≤ R.frames ∧ (rest.map fun v => v.category).sum + 14 ≤ R.locals)
    (kk : ∀ (q : Nat) (H1 : Heap), WD D A H0 H1 locs (w ++ [(q, .inl (cB, n, .inl f))]) → W p l e R s m args below meth c H1 locs (cells + 1) (slots + n) Q (F0 m (pc + 3) ls (.ref q :: rest))) : W p l e R s m args below meth c H locs cells slots Q (F0 m pc ls (.ref a :: rest)) := by
  refine va_clone (ad := "[B") E.1.1 E.1.2.1 (E.1.2.2.1.trans hl.symm) E.1.2.2.2.1 (E.1.2.2.2.2 _ mm_J7_310) (E.1.2.2.2.2 _ mg_0) (E.1.2.2.2.2 _ mv_clone) (E.1.2.2.2.2 _ mi_clone) (E.1.2.2.2.2 _ ms_clone) hZ.2.2.2.2.1 E.2 X.1 X.2.1 X.2.2 hA q0 1 he rfl (nmB E.2) ?_ hR.1 hR.2 hc.1 hc.2 hd (fun q H1 hK g1 g2 g3 => kk q H1 ⟨g1, g2, g3⟩)
  intro t v hv
  by_cases ht : t < n
  · have e : (arrV cB n (fun j => .int (f j))).slots[t]? = some v := hv
    rw [arrV_read cB _ ht] at e
    cases e
    exact hfit t ht
  · have e : (arrV cB n (fun j => .int (f j))).slots[t]? = some v := hv
    rw [Array.getElem?_eq_none (by rw [arrV_size]; omega)] at e
    cases e
end STRROWS
