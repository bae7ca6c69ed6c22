/-! ===== constants outside the world: statics, String constants, nest links; read-only texts; calls of other kinds ===== -/
def kOw : Nat → String | 9 => "java/lang/StringLatin1" | _ => "AdaptivePlayer"
def kIx : Nat → Nat | 0 => 212 | 1 => 221 | 2 => 223 | 3 => 230 | 4 => 237 | 5 => 244 | 6 => 246 | 7 => 248 | 8 => 249 | _ => 151
def kTx : Nat → String | 0 => "pause" | 1 => "play" | 2 => "policy" | 3 => "cap" | 4 => "seek" | 5 => "fixed" | 6 => "rate" | 7 => "buffer" | 8 => "hybrid" | _ => ""
def kLn : List Nat := [5, 4, 6, 3, 4, 5, 4, 6, 6, 0]
def kBy : List (List Int32) := [[112, 97, 117, 115, 101], [112, 108, 97, 121], [112, 111, 108, 105, 99, 121], [99, 97, 112], [115, 101, 101, 107], [102, 105, 120, 101, 100], [114, 97, 116, 101], [98, 117, 102, 102, 101, 114], [104, 121, 98, 114, 105, 100], []]
abbrev CSf (A : Nat → Prop) (U : State) (H : Heap) : Prop := va_Z "java/lang/String" "COMPACT_STRINGS" "Z" (.int 1) A U H
abbrev SFf (A : Nat → Prop) (U : State) (H : Heap) : Prop := va_Zq "jdk/internal/util/Preconditions" "SIOOBE_FORMATTER" "Ljava/util/function/BiFunction;" A U H
def NLk (U : State) : Prop := va_Nw (.castable "[B" "java/lang/Cloneable") U ∧ va_Nw (.methodLinkNest RX6 18 yX0_init RX6) U ∧ va_Nw (.methodLinkNest RX6 25 yX3_init RX6) U ∧ va_Nw (.methodLinkNest RX2 17 yX4_init RX6) U ∧ va_Nw (.methodLinkNest RX2 24 yX1_init RX6) U
def ZB (ad ab : Nat → Nat) (A : Nat → Prop) (U : State) (H : Heap) : Prop :=
  CSf A U H ∧ SFf A U H ∧ vk_S 10 kLn kBy ad ab A U H ∧ (∀ i, i < 10 → vk_R (kOw i) (kIx i) (kTx i) (ad i) U) ∧ NLk U
theorem NLk.warm {s U : State} (hW : s.WarmedH U.vm) (h : NLk s) : NLk U := ⟨va_Nw.warmC hW h.1, va_Nw.warmM hW h.2.1, va_Nw.warmM hW h.2.2.1, va_Nw.warmM hW h.2.2.2.1, va_Nw.warmM hW h.2.2.2.2⟩
theorem NLk.same {u U : State} (e : u.vm = U.vm) (h : NLk u) : NLk U := ⟨va_Nw.same rfl e h.1, va_Nw.same rfl e h.2.1, va_Nw.same rfl e h.2.2.1, va_Nw.same rfl e h.2.2.2.1, va_Nw.same rfl e h.2.2.2.2⟩
theorem ZB.pass {ad ab : Nat → Nat} {A B : Nat → Prop} {s U : State} {H : Heap} {locs : List Loc} (h : ZB ad ab A s s.heap) (hS : va_S A s.heap H locs) (hU : U.heap = H) (hW : s.WarmedH U.vm) (hAB : ∀ q, B q → A q) : ZB ad ab B U U.heap := by
  rw [hU]
  exact ⟨((h.1.kept hS.2.1).moved hW.alike).narrow hAB, ((h.2.1.kept hS.2.1).moved hW.alike).narrow hAB, ((h.2.2.1.kept hS.2.1).moved hW.alike).narrow hAB, fun i hi => (h.2.2.2.1 i hi).warm hW, h.2.2.2.2.warm hW⟩
theorem ZB.narrow {ad ab : Nat → Nat} {A B : Nat → Prop} {s : State} {H : Heap} (h : ZB ad ab A s H) (hAB : ∀ q, B q → A q) : ZB ad ab B s H := ⟨h.1.narrow hAB, h.2.1.narrow hAB, h.2.2.1.narrow hAB, h.2.2.2⟩
theorem ZB.calling {ad ab : Nat → Nat} {A : Nat → Prop} {U : State} {g : JFrame} {mk : MethodId} {a : Array Value} (h : ZB ad ab A U U.heap) : ZB ad ab A (U.calling g mk a) (U.calling g mk a).heap :=
  ⟨h.1.moved (U := U.calling g mk a) (Vm.Alike.refl U.vm), h.2.1.moved (U := U.calling g mk a) (Vm.Alike.refl U.vm), h.2.2.1.moved (U := U.calling g mk a) (Vm.Alike.refl U.vm), fun i hi => (h.2.2.2.1 i hi).same (U := U.calling g mk a) rfl, h.2.2.2.2.same (U := U.calling g mk a) rfl⟩
/-- a byte array, and a text, that are only read -/
abbrev RA (b n : Nat) (f : Nat → Int32) (A : Nat → Prop) (U : State) (H : Heap) : Prop := va_T .byte b n (fun j => .int (f j)) A U H
def RS (q b n : Nat) (f : Nat → Int32) (A : Nat → Prop) (U : State) (H : Heap) : Prop :=
  va_O "java/lang/String" q A U H ∧ va_OF "java/lang/String" "coder" "B" (.int 0) q A U H ∧ va_OF "java/lang/String" "value" "[B" (.ref b) q A U H ∧ RA b n f A U H
theorem RA.pass {b n : Nat} {f : Nat → Int32} {A B : Nat → Prop} {s U : State} {H : Heap} {locs : List Loc} (h : RA b n f A s s.heap) (hS : va_S A s.heap H locs) (hU : U.heap = H) (hW : s.WarmedH U.vm) (hAB : ∀ q, B q → A q) : RA b n f B U U.heap := by
  rw [hU]
  exact ((h.kept hS.2.1).moved hW.alike).narrow hAB
theorem RS.pass {q b n : Nat} {f : Nat → Int32} {A B : Nat → Prop} {s U : State} {H : Heap} {locs : List Loc} (h : RS q b n f A s s.heap) (hS : va_S A s.heap H locs) (hU : U.heap = H) (hW : s.WarmedH U.vm) (hAB : ∀ q, B q → A q) : RS q b n f B U U.heap := by
  rw [hU]
  exact ⟨((h.1.kept hS.2.1).moved hW.alike).narrow hAB, ((h.2.1.kept hS.2.1).moved hW.alike).narrow hAB, ((h.2.2.1.kept hS.2.1).moved hW.alike).narrow hAB, ((h.2.2.2.kept hS.2.1).moved hW.alike).narrow hAB⟩
theorem RS.narrow {q b n : Nat} {f : Nat → Int32} {A B : Nat → Prop} {s : State} {H : Heap} (h : RS q b n f A s H) (hAB : ∀ q, B q → A q) : RS q b n f B s H := ⟨h.1.narrow hAB, h.2.1.narrow hAB, h.2.2.1.narrow hAB, h.2.2.2.narrow hAB⟩
theorem RA.calling {b n : Nat} {f : Nat → Int32} {A : Nat → Prop} {U : State} {g : JFrame} {mk : MethodId} {a : Array Value} (h : RA b n f A U U.heap) : RA b n f A (U.calling g mk a) (U.calling g mk a).heap := va_T.moved (U := U.calling g mk a) (Vm.Alike.refl U.vm) h
theorem RS.calling {q b n : Nat} {f : Nat → Int32} {A : Nat → Prop} {U : State} {g : JFrame} {mk : MethodId} {a : Array Value} (h : RS q b n f A U U.heap) : RS q b n f A (U.calling g mk a) (U.calling g mk a).heap :=
  ⟨h.1.moved (U := U.calling g mk a) (Vm.Alike.refl U.vm), h.2.1.moved (U := U.calling g mk a) (Vm.Alike.refl U.vm), h.2.2.1.moved (U := U.calling g mk a) (Vm.Alike.refl U.vm), va_T.moved (U := U.calling g mk a) (Vm.Alike.refl U.vm) h.2.2.2⟩
/-- a String constant is such a text -/
def kF (i : Nat) : Nat → Int32 := fun j => (kBy.getD i []).getD j 0
theorem ZB.text {ad ab : Nat → Nat} {A : Nat → Prop} {U : State} {H : Heap} (h : ZB ad ab A U H) (i : Nat) (hi : i < 10) : RS (ad i) (ab i) (kLn.getD i 0) (kF i) A U H := h.2.2.1.1 i hi
/-- and so are cells of the world, for a callee that may not write them -/
theorem RA.ofW {D : va_G} {cl : List vw_C} {cI cB : ClassId} {w : va_W} {s U : State} {H : Heap} (hK : va_K D cl (tyL cI cB) s) (hP : va_P D cl w H) (i : Nat) {b n : Nat} {f : Nat → Int32} (hi : w[i]? = some (b, .inl (cB, n, .inl f))) (hU : U.heap = H) (hW : s.WarmedH U.vm) : RA b n f (va_A [] H.size) U U.heap := by
  rw [hU]
  have h1 := hP i _ hi
  have h2 := (hK.2 1 (cB, .byte) rfl).1
  refine ⟨arrV cB n (fun j => .int (f j)), h1, State.isArrayOf_alike hW.alike (h2 n _), (fun z => by cases z), (by rw [arrV_size]; exact Nat.le_refl n), (by rw [arrV_size]), fun j hj => arrV_read cB _ hj, ?_⟩
  intro hz
  rcases hz with ⟨k, e, hz⟩ | hz
  · simp at hz
  · exact absurd (h1.lt) (Nat.not_lt.mpr hz)
theorem RS.ofW {D : va_G} {cI cB : ClassId} {w : va_W} {s U : State} {args : Array Value} {H : Heap} (hts : ∀ x ∈ gT, x.before args s = true) (hK : va_K D vwCl (tyL cI cB) s) (hP : va_P D vwCl w H) (i j : Nat) {q b n : Nat} {x y : Value} {f : Nat → Int32} (hi : w[i]? = some (q, .inr (0, [.ref b, .int 0, x, y]))) (hj : w[j]? = some (b, .inl (cB, n, .inl f))) (hU : U.heap = H) (hW : s.WarmedH U.vm) : RS q b n f (va_A [] H.size) U U.heap := by
  have hA : ¬ va_A [] H.size q := by
    intro hz
    rcases hz with ⟨k, e, hz⟩ | hz
    · simp at hz
    · exact absurd ((hP i _ hi).lt) (Nat.not_lt.mpr hz)
  have ha := RA.ofW hK hP j hj hU hW
  have hfld : ∀ (k : Nat) (v : Value), k < 4 → ([Value.ref b, .int 0, x, y] : List Value)[k]? = some v → va_OF (TJ0 k).1 (TJ0 k).2.1 (TJ0 k).2.2.1 v q (va_A [] H.size) U H := by
    intro k v hk hv
    obtain ⟨r, h1, cell, q1, q2, q3, q4⟩ := hP i _ hi
    have hr : r = (RJ0, TJ0, 4) := Option.some.inj (h1.symm.trans rfl)
    subst hr
    obtain ⟨hS, hfc, kC, hkC, hkind⟩ := hK.1 0 (RJ0, TJ0, 4) rfl
    obtain ⟨cf, kf, fi, fd, hi2, hsl⟩ := hS k hk
    refine va_OF.moved hW.alike ⟨cf, kf, fi, fd, cell, hi2, (u_facts hfc hkC (u_lays hts inJ0 hk) hi2).1, q1, (by rw [q3]; intro z; cases z), ?_, hA⟩
    rw [hsl, q4 k hk]
    simp [vp_V, hv]
  rw [hU] at ha ⊢
  refine ⟨?_, hfld 1 _ (by decide) rfl, hfld 0 _ (by decide) rfl, ha⟩
  obtain ⟨cell, h1, h2, h3⟩ := va_recv (cl := vwCl) (ci := 0) (q := (RJ0, TJ0, 4)) hK hP rfl hi
  exact va_O.moved hW.alike ⟨cell, h1, h2, h3, hA⟩
def LU (own : String) (index : Nat) (C owner : String) (x y : MethodName) (cc : ByteArray) (n : Nat) (r : Option FieldType) (k : Nat) : Prop :=
  (Cond.methodLink own index x ∈ gT ∧ Cond.sameMethod x.cls owner x.name x.desc ∈ gT ∧ Cond.selects C x y ∈ gT ∧ Cond.instanceMethod y ∈ gT ∧ Cond.initialized y.cls ∈ gT ∧ Cond.code y cc n r ∈ gT) ∧ y = ⟨owner, x.name, x.desc⟩ ∧ (owner ≠ "java/lang/invoke/MethodHandle" ∧ owner ≠ "java/lang/invoke/VarHandle" ∧ (parseMethodDescriptor x.desc).map (fun d => d.parameters.length) = some k)
def LO (own : String) (index : Nat) (C owner : String) (x y : MethodName) (cc : ByteArray) (n : Nat) (r : Option FieldType) (k : Nat) : Prop :=
  (Cond.methodLink own index x ∈ gT ∧ Cond.sameMethod x.cls owner x.name x.desc ∈ gT ∧ Cond.instanceMethod ⟨owner, x.name, x.desc⟩ ∈ gT ∧ Cond.selects C x y ∈ gT ∧ Cond.instanceMethod y ∈ gT ∧ Cond.initialized y.cls ∈ gT ∧ Cond.code y cc n r ∈ gT) ∧ (∃ (b0 : ByteArray) (m0 : Nat) (r0 : Option FieldType), Cond.code ⟨owner, x.name, x.desc⟩ b0 m0 r0 ∈ gT) ∧ (owner ≠ "java/lang/invoke/MethodHandle" ∧ owner ≠ "java/lang/invoke/VarHandle" ∧ (parseMethodDescriptor x.desc).map (fun d => d.parameters.length) = some k)
def LSU (own : String) (index : Nat) (y : MethodName) (cc : ByteArray) (n : Nat) (r : Option FieldType) (k : Nat) : Prop :=
  (Cond.methodLink own index y ∈ gT ∧ Cond.sameMethod y.cls y.cls y.name y.desc ∈ gT ∧ Cond.superclass own y.cls ∈ gT ∧ Cond.instanceMethod y ∈ gT ∧ Cond.initialized y.cls ∈ gT ∧ Cond.code y cc n r ∈ gT) ∧ (y.name ≠ "<init>" ∧ (parseMethodDescriptor y.desc).map (fun d => d.parameters.length) = some k)
section RUNS
variable {p : Program} {l : Launch} {e : Env} {R : Room} {s : State} {m : MethodId} {args : Array Value} {below : List Frame} {meth : Method} {c : Code} {H : Heap} {locs : List Loc} {cells slots : Nat} {Q : State → Prop}
variable {cc : ByteArray} {pc nL : Nat} {ls : Array Slot} {rest st : List Value} {D : va_G} {A : Nat → Prop} {cI cB : ClassId} {w : va_W} {H0 : Heap} {own : String}
variable {X : Nat → State → Prop} {y : MethodName} {cy : ByteArray} {ny k index : Nat} {ry : Option FieldType} {fr lo mc ms : Nat} {As : List Value} {b : Nat} {w0 : va_W} {C owner : String} {Qc : Array Value → State → Outcome → State → Prop} {free : Addr → Prop}
theorem run_V (E : EE p c cc nL s args m own D cI cB) (M : Met l y (wU y cy ny ry) { frames := fr, cells := mc, slots := ms, locals := lo } (PC X D cI cB (.ref b :: As) w0 H.size) Qc mc ms free) (L : LV own index C y cy ny ry k) (hXb : Xb X) (hpre : ∀ U : State, U.heap = H → s.WarmedH U.vm → PC X D cI cB (.ref b :: As) w0 H.size (Value.ref b :: As).toArray U) (hrcv : ∃ cell : Cell, H[b]? = some cell ∧ cell.vm.isStatics = false ∧ s.vm.findClass C = some cell.cls) (hl : ls.size = nL)
    (hR' : fr + 1 ≤ R.frames ∧ 8 + (ny + 11) + lo ≤ R.locals) (hroom : cells + mc ≤ R.cells ∧ slots + ms ≤ R.slots) (hn : As.length = k) (hst : st = As.reverse ++ .ref b :: rest) (hcat : (rest.map fun v => v.category).sum ≤ 8) (hd : decode cc pc = .ok (.invokevirtual index, 3)) :
    va_Run p l e R s m args below meth c H locs cells slots mc ms (F0 m pc ls st) rest (Qc (Value.ref b :: As).toArray) free := by
  subst hst
  obtain ⟨g1, g2, g3, g4, g5, g6⟩ := L
  have hT : GoodIn gT (wsV own index C y (wU y cy ny ry)) := fun v hv => by
    rcases List.mem_append.mp hv with h | h
    · have hm : v ∈ gT := by
        simp only [List.mem_cons, List.not_mem_nil, or_false] at h
        rcases h with rfl | rfl | rfl | rfl <;> assumption
      exact ⟨hm, good_of_word (gT_good hm)⟩
    · exact wU_good g5 v h
  exact va_runV (As := As) (rest := rest) E.1 M (cwV k E.1.2.2.2.2 hT rfl rfl rfl g6 hR') ⟨PC_blind hXb, hrcv, hpre⟩ rfl hn hl rfl (lv_room hcat) hd hroom
theorem run_U {x : MethodName} (E : EE p c cc nL s args m own D cI cB) (M : Met l y (wU y cy ny ry) { frames := fr, cells := mc, slots := ms, locals := lo } (PC X D cI cB (.ref b :: As) w0 H.size) Qc mc ms free) (L : LU own index C owner x y cy ny ry k) (hXb : Xb X) (hpre : ∀ U : State, U.heap = H → s.WarmedH U.vm → PC X D cI cB (.ref b :: As) w0 H.size (Value.ref b :: As).toArray U) (hrcv : ∃ cell : Cell, H[b]? = some cell ∧ cell.vm.isStatics = false ∧ s.vm.findClass C = some cell.cls) (hl : ls.size = nL)
    (hR' : fr + 1 ≤ R.frames ∧ 8 + (ny + 11) + lo ≤ R.locals) (hroom : cells + mc ≤ R.cells ∧ slots + ms ≤ R.slots) (hn : As.length = k) (hst : st = As.reverse ++ .ref b :: rest) (hcat : (rest.map fun v => v.category).sum ≤ 8) (hd : decode cc pc = .ok (.invokevirtual index, 3)) :
    va_Run p l e R s m args below meth c H locs cells slots mc ms (F0 m pc ls st) rest (Qc (Value.ref b :: As).toArray) free := by
  subst hst
  obtain ⟨⟨g1, g2, g3, g4, g5, g6⟩, g7, g8⟩ := L
  have hT : GoodIn gT (va_wsU own index C owner x y (wU y cy ny ry)) := fun v hv => by
    rcases List.mem_append.mp hv with h | h
    · have hm : v ∈ gT := by
        simp only [List.mem_cons, List.not_mem_nil, or_false] at h
        rcases h with rfl | rfl | rfl | rfl | rfl <;> assumption
      exact ⟨hm, good_of_word (gT_good hm)⟩
    · exact wU_good g6 v h
  exact va_runU (As := As) (rest := rest) E.1 M (va_cwU k E.1.2.2.2.2 hT rfl rfl rfl g7 g8 hR') ⟨PC_blind hXb, hrcv, hpre⟩ rfl hn hl rfl (lv_room hcat) hd hroom
theorem run_O {x : MethodName} (E : EE p c cc nL s args m own D cI cB) (M : Met l y (wU y cy ny ry) { frames := fr, cells := mc, slots := ms, locals := lo } (PC X D cI cB (.ref b :: As) w0 H.size) Qc mc ms free) (L : LO own index C owner x y cy ny ry k) (hXb : Xb X) (hpre : ∀ U : State, U.heap = H → s.WarmedH U.vm → PC X D cI cB (.ref b :: As) w0 H.size (Value.ref b :: As).toArray U) (hrcv : ∃ cell : Cell, H[b]? = some cell ∧ cell.vm.isStatics = false ∧ s.vm.findClass C = some cell.cls) (hl : ls.size = nL)
    (hR' : fr + 1 ≤ R.frames ∧ 8 + (ny + 11) + lo ≤ R.locals) (hroom : cells + mc ≤ R.cells ∧ slots + ms ≤ R.slots) (hn : As.length = k) (hst : st = As.reverse ++ .ref b :: rest) (hcat : (rest.map fun v => v.category).sum ≤ 8) (hd : decode cc pc = .ok (.invokevirtual index, 3)) :
    va_Run p l e R s m args below meth c H locs cells slots mc ms (F0 m pc ls st) rest (Qc (Value.ref b :: As).toArray) free := by
  subst hst
  obtain ⟨⟨g1, g2, g3, g4, g5, g6, g7⟩, ⟨b0, m0, r0, g8⟩, g9⟩ := L
  have hT : GoodIn gT (va_wsO own index C owner x y (wU y cy ny ry)) := fun v hv => by
    rcases List.mem_append.mp hv with h | h
    · have hm : v ∈ gT := by
        simp only [List.mem_cons, List.not_mem_nil, or_false] at h
        rcases h with rfl | rfl | rfl | rfl | rfl | rfl <;> assumption
      exact ⟨hm, good_of_word (gT_good hm)⟩
    · exact wU_good g7 v h
  exact va_runU (As := As) (rest := rest) E.1 M (va_cwO k E.1.2.2.2.2 hT rfl rfl rfl g8 g9 hR') ⟨PC_blind hXb, hrcv, hpre⟩ rfl hn hl rfl (lv_room hcat) hd hroom
theorem run_SU {cC : ClassId} (hat : ClassAt s C cC) (E : EE p c cc nL s args m own D cI cB) (M : Met l y (wU y cy ny ry) { frames := fr, cells := mc, slots := ms, locals := lo } (PC X D cI cB (.ref b :: As) w0 H.size) Qc mc ms free) (L : LSU own index y cy ny ry k) (hXb : Xb X) (hpre : ∀ U : State, U.heap = H → s.WarmedH U.vm → PC X D cI cB (.ref b :: As) w0 H.size (Value.ref b :: As).toArray U) (hrcv : ∃ cell : Cell, H[b]? = some cell ∧ cell.vm.isStatics = false ∧ s.vm.findClass C = some cell.cls) (hl : ls.size = nL)
    (hR' : fr + 1 ≤ R.frames ∧ 8 + (ny + 11) + lo ≤ R.locals) (hroom : cells + mc ≤ R.cells ∧ slots + ms ≤ R.slots) (hn : As.length = k) (hst : st = As.reverse ++ .ref b :: rest) (hcat : (rest.map fun v => v.category).sum ≤ 8) (hd : decode cc pc = .ok (.invokespecial index, 3)) :
    va_Run p l e R s m args below meth c H locs cells slots mc ms (F0 m pc ls st) rest (Qc (Value.ref b :: As).toArray) free := by
  subst hst
  obtain ⟨⟨g1, g2, g3, g4, g5, g6⟩, g7⟩ := L
  have hT : GoodIn gT (va_wsSU own index y (wU y cy ny ry)) := fun v hv => by
    rcases List.mem_append.mp hv with h | h
    · have hm : v ∈ gT := by
        simp only [List.mem_cons, List.not_mem_nil, or_false] at h
        rcases h with rfl | rfl | rfl | rfl | rfl <;> assumption
      exact ⟨hm, good_of_word (gT_good hm)⟩
    · exact wU_good g6 v h
  exact va_runSU (As := As) (rest := rest) hat E.1 M (va_cwSU k E.1.2.2.2.2 hT rfl rfl rfl g7 hR') ⟨PC_blind hXb, hrcv, hpre⟩ rfl hn hl rfl (lv_room hcat) hd hroom
theorem run_S (E : EE p c cc nL s args m own D cI cB) (M : Met l y (wU y cy ny ry) { frames := fr, cells := mc, slots := ms, locals := lo } (PC X D cI cB As w0 H.size) Qc mc ms free) (L : LSt own index y cy ny ry k) (hXb : Xb X) (hpre : ∀ U : State, U.heap = H → s.WarmedH U.vm → PC X D cI cB As w0 H.size As.toArray U) (hl : ls.size = nL)
    (hR' : fr + 1 ≤ R.frames ∧ 8 + (ny + 11) + lo ≤ R.locals) (hroom : cells + mc ≤ R.cells ∧ slots + ms ≤ R.slots) (hn : As.length = k) (hst : st = As.reverse ++ rest) (hcat : (rest.map fun v => v.category).sum ≤ 8) (hd : decode cc pc = .ok (.invokestatic index, 3)) :
    va_Run p l e R s m args below meth c H locs cells slots mc ms (F0 m pc ls st) rest (Qc As.toArray) free := by
  subst hst
  obtain ⟨g1, g2, g3, g4, g5⟩ := L
  have hts := E.1.2.2.2.2
  exact va_runS (As := As) (rest := rest) E.1 M ⟨callB_of k hts (wU_good g4) rfl rfl rfl (hts _ g3) (hts _ g1) g5 hR', hts _ g2⟩ ⟨PC_blind hXb, hpre⟩ rfl hn hl rfl (lv_room hcat) hd hroom
theorem run_I (E : EE p c cc nL s args m own D cI cB) (M : Met l y (wU y cy ny none) { frames := fr, cells := mc, slots := ms, locals := lo } (PC X D cI cB (.ref b :: As) w0 H.size) Qc mc ms free) (L : LI own index y cy ny k) (hXb : Xb X) (hpre : ∀ U : State, U.heap = H → s.WarmedH U.vm → PC X D cI cB (.ref b :: As) w0 H.size (Value.ref b :: As).toArray U) (hl : ls.size = nL)
    (hR' : fr + 1 ≤ R.frames ∧ 8 + (ny + 11) + lo ≤ R.locals) (hroom : cells + mc ≤ R.cells ∧ slots + ms ≤ R.slots) (hn : As.length = k) (hst : st = As.reverse ++ .ref b :: rest) (hcat : (rest.map fun v => v.category).sum ≤ 8) (hd : decode cc pc = .ok (.invokespecial index, 3)) :
    va_Run p l e R s m args below meth c H locs cells slots mc ms (F0 m pc ls st) rest (Qc (Value.ref b :: As).toArray) free := by
  subst hst
  obtain ⟨g1, g2, g3, g4, g5, g6⟩ := L
  have hts := E.1.2.2.2.2
  exact va_runI (As := As) (rest := rest) E.1 M (cwI k hts (wU_good g4) rfl rfl rfl (hts _ g3) (hts _ g1) (hts _ g2) g5 g6 hR') ⟨PC_blind hXb, hpre⟩ rfl hn hl rfl (lv_room hcat) hd hroom
theorem run_IN {host : String} (E : EE p c cc nL s args m own D cI cB) (M : Met l y (wU y cy ny none) { frames := fr, cells := mc, slots := ms, locals := lo } (PC X D cI cB (.ref b :: As) w0 H.size) Qc mc ms free) (hNl : va_Nw (.methodLinkNest own index y host) s) (g2 : Cond.instanceMethod y ∈ gT) (g3 : Cond.initialized y.cls ∈ gT) (g4 : Cond.code y cy ny none ∈ gT) (g5 : y.name = "<init>") (g6 : y.cls ≠ "java/lang/invoke/MethodHandle" ∧ y.cls ≠ "java/lang/invoke/VarHandle" ∧ (parseMethodDescriptor y.desc).map (fun d => d.parameters.length) = some k) (hXb : Xb X) (hpre : ∀ U : State, U.heap = H → s.WarmedH U.vm → PC X D cI cB (.ref b :: As) w0 H.size (Value.ref b :: As).toArray U) (hl : ls.size = nL)
    (hR' : fr + 1 ≤ R.frames ∧ 8 + (ny + 11) + lo ≤ R.locals) (hroom : cells + mc ≤ R.cells ∧ slots + ms ≤ R.slots) (hn : As.length = k) (hst : st = As.reverse ++ .ref b :: rest) (hcat : (rest.map fun v => v.category).sum ≤ 8) (hd : decode cc pc = .ok (.invokespecial index, 3)) :
    va_Run p l e R s m args below meth c H locs cells slots mc ms (F0 m pc ls st) rest (Qc (Value.ref b :: As).toArray) free := by
  subst hst
  have hts := E.1.2.2.2.2
  exact va_runIN (As := As) (rest := rest) E.1 M ⟨va_cnB k hts (wU_good g4) rfl rfl rfl hNl (hts _ g3) g6 hR', g5, hts _ g2⟩ ⟨PC_blind hXb, hpre⟩ rfl hn hl rfl (lv_room hcat) hd hroom
variable {S : Type} {wr : va_W} {a : Array Value}
theorem g_i {post : Int32 → S → Prop} {w1 w2 : S → va_W} (run : va_Run p l e R s m args below meth c H locs cells slots mc ms (F0 m pc ls st) rest (va_Qi post (AT D cI cB (va_A w0 H.size) w1) (va_A w0 H.size) a) (va_A w0 H.size)) (Y : WD D A H0 H locs w) (hA : ∀ q, H0.size ≤ q → A q) (isC isR ps : List Nat) (hC : isC.map (fun i => w[i]?) = w0.map some) (hR : isR.map (fun i => w[i]?) = wr.map some) (hnd : va_nd isR = true ∧ va_nd ps = true ∧ ∀ i ∈ isR, i ∉ isC) (h2 : ∀ u, ps.map (fun i => (wr ++ w1 u)[i]?) = (w2 u).map some)
    (kk : ∀ (r : Int32) (u : S) (H1 : Heap) (locs1 : List Loc), post r u → WD D A H0 H1 locs1 (w2 u) → W p l e R s m args below meth c H1 locs1 (cells + mc) (slots + ms) Q (F0 m (pc + 3) ls (.int r :: rest))) : W p l e R s m args below meth c H locs cells slots Q (F0 m pc ls st) := by
  have hF := va_free (wc := w0) Y.2.1 Y.2.2 hA isC hC
  refine va_calli run Y.2.2 (fun q _ h => hF q h) hF (fun r u t H1 locs1 ht hvm hw hB hz1 hk1 hS => ?_)
  obtain ⟨hP1, hK1, hD1⟩ := hB
  rw [ht] at hP1
  exact kk r u H1 locs1 hw (w_join Y hA isC isR ps hC hR hnd.1 hnd.2.2 hnd.2.1 (h2 u) hk1 hP1 hD1 hS)
theorem g_v {post : S → Prop} {w1 w2 : S → va_W} (run : va_Run p l e R s m args below meth c H locs cells slots mc ms (F0 m pc ls st) rest (va_Qv post (AT D cI cB (va_A w0 H.size) w1) (va_A w0 H.size) a) (va_A w0 H.size)) (Y : WD D A H0 H locs w) (hA : ∀ q, H0.size ≤ q → A q) (isC isR ps : List Nat) (hC : isC.map (fun i => w[i]?) = w0.map some) (hR : isR.map (fun i => w[i]?) = wr.map some) (hnd : va_nd isR = true ∧ va_nd ps = true ∧ ∀ i ∈ isR, i ∉ isC) (h2 : ∀ u, ps.map (fun i => (wr ++ w1 u)[i]?) = (w2 u).map some)
    (kk : ∀ (u : S) (H1 : Heap) (locs1 : List Loc), post u → WD D A H0 H1 locs1 (w2 u) → W p l e R s m args below meth c H1 locs1 (cells + mc) (slots + ms) Q (F0 m (pc + 3) ls rest)) : W p l e R s m args below meth c H locs cells slots Q (F0 m pc ls st) := by
  have hF := va_free (wc := w0) Y.2.1 Y.2.2 hA isC hC
  refine va_callv run Y.2.2 (fun q _ h => hF q h) hF (fun u t H1 locs1 ht hvm hw hB hz1 hk1 hS => ?_)
  obtain ⟨hP1, hK1, hD1⟩ := hB
  rw [ht] at hP1
  exact kk u H1 locs1 hw (w_join Y hA isC isR ps hC hR hnd.1 hnd.2.2 hnd.2.1 (h2 u) hk1 hP1 hD1 hS)
theorem g_r {post : S → Prop} {w1 w2 : S → Nat → va_W} (run : va_Run p l e R s m args below meth c H locs cells slots mc ms (F0 m pc ls st) rest (va_Qr post (AR D cI cB (va_A w0 H.size) w1) (va_A w0 H.size) a) (va_A w0 H.size)) (Y : WD D A H0 H locs w) (hA : ∀ q, H0.size ≤ q → A q) (isC isR ps : List Nat) (hC : isC.map (fun i => w[i]?) = w0.map some) (hR : isR.map (fun i => w[i]?) = wr.map some) (hnd : va_nd isR = true ∧ va_nd ps = true ∧ ∀ i ∈ isR, i ∉ isC) (h2 : ∀ u q, ps.map (fun i => (wr ++ w1 u q)[i]?) = (w2 u q).map some)
    (kk : ∀ (u : S) (q : Nat) (H1 : Heap) (locs1 : List Loc), post u → WD D A H0 H1 locs1 (w2 u q) → W p l e R s m args below meth c H1 locs1 (cells + mc) (slots + ms) Q (F0 m (pc + 3) ls (.ref q :: rest))) : W p l e R s m args below meth c H locs cells slots Q (F0 m pc ls st) := by
  have hF := va_free (wc := w0) Y.2.1 Y.2.2 hA isC hC
  refine va_callr run Y.2.2 (fun q _ h => hF q h) hF (fun u q t H1 locs1 ht hvm hw hB hz1 hk1 hS => ?_)
  obtain ⟨hP1, hK1, hD1⟩ := hB
  rw [ht] at hP1
  exact kk u q H1 locs1 hw (w_join Y hA isC isR ps hC hR hnd.1 hnd.2.2 hnd.2.1 (h2 u q) hk1 hP1 hD1 hS)
end RUNS
section ENTERR
variable {S : Type} {l : Launch} {X : Nat → State → Prop} {D : va_G} {cI cB : ClassId} {y : MethodName} {cc : ByteArray} {n : Nat} {r : Option FieldType} {fr lo mc ms : Nat} {as : List Value} {w0 : va_W}
theorem CR.of {post : S → Prop} {w1 : S → Nat → va_W} (hy : plainName y.cls = true) (hn : (lg_sl as).length ≤ n)
    (body : ∀ (p : Program) (e : Env) (s : State) (m : MethodId) (below : List Frame) (meth : Method) (c : Code) (A : Nat → Prop) (ls : Array Slot), EE p c cc n s as.toArray m y.cls D cI cB → meth.sig.returnType = r → meth.locks = false → meth.name = y.name → (∀ q, s.heap.size ≤ q → A q) → (∀ q, A q → va_A w0 s.heap.size q) → X s.heap.size s → WD D A s.heap s.heap [] w0 → lv_has ls n (lv_args 0 as) → W p l e { frames := fr, cells := mc, slots := ms, locals := lo } s m as.toArray below meth c s.heap [] 0 0 (MQ below (va_Qr post (AR D cI cB A w1) A) as.toArray s mc ms A) (F0 m 0 ls [])) : CR l X D cI cB y cc n r fr lo mc ms as w0 post w1 := by
  intro sz
  refine Met.ofW (cc := cc) (maxL := n) (ret := r) hy rfl ?_
  intro p e s m args below meth c s₁ B hml hv
  obtain ⟨rfl, hsz, hP, hK, hD0, hX⟩ := hv
  have hts : ∀ w ∈ gT, w.before as.toArray s = true := fun w h => atoms_spec (ws := wU y cc n r) B.pre w (List.mem_cons_of_mem _ h)
  subst hsz
  have hD := hD0.self (sz := s.heap.size)
  have hl := lv_entry as (n := n) hn
  rw [lg_entry_eq]
  exact body p e s m below meth c (va_A w0 s.heap.size) _ ⟨⟨B.exec, B.bytes, hml, findClass_of_methodNamed B.named, hts⟩, hK⟩ B.returns B.notSynchronized (name_of_methodNamed B.named B.method).1 (fun q h => Or.inr h) (fun q h => h) hX ⟨hP, hD, va_S.rf⟩ hl
variable {p : Program} {e : Env} {R : Room} {s : State} {m : MethodId} {args : Array Value} {below : List Frame} {meth : Method} {c : Code} {H : Heap} {locs : List Loc} {cells slots : Nat} {pc nL : Nat} {ls : Array Slot} {A : Nat → Prop} {w : va_W} {own : String}
theorem r_aret {post : S → Prop} {w1 : S → Nat → va_W} {rt : FieldType} (E : EE p c cc nL s args m own D cI cB) (Y : WD D A s.heap H locs w) (hr : meth.sig.returnType = some rt) (hrt : (∃ n, rt = .object n) ∨ ∃ t, rt = .array t) (hk : meth.locks = false) (q : Nat) (u : S) (hp : post u) (hw : w1 u q = w) (hc : cells ≤ mc ∧ slots ≤ ms) (hd : decode cc pc = .ok (.areturn, 1)) : W p l e R s m args below meth c H locs cells slots (MQ below (va_Qr post (AR D cI cB A w1) A) args s mc ms A) (F0 m pc ls [.ref q]) := by
  subst hw
  refine W.widen hc.1 hc.2 ?_
  exact W.aret E.1.1 E.1.2.1 hr hrt (Or.inr ⟨q, rfl⟩) (fun t ht hW => ⟨⟨u, q, rfl, hp, by rw [ht]; exact Y.1, va_K.moved hW.alike E.2, Y.2.1⟩, Y.2.2.F ht⟩) Y.2.2.2.2 hd hk
end ENTERR
