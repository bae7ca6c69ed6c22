/-! ===== one list of words for every method; one bundle for what stays, one for the world; rows over them ===== -/
def gT : List Cond := lw_tbl.filter goodWord
theorem gT_in {w : Cond} (h : w ∈ lw_tbl) (g : goodWord w = true) : w ∈ gT := List.mem_filter.mpr ⟨h, g⟩
theorem gT_tbl {w : Cond} (h : w ∈ gT) : w ∈ lw_tbl := (List.mem_filter.mp h).1
theorem gT_good {w : Cond} (h : w ∈ gT) : goodWord w = true := (List.mem_filter.mp h).2
def wU (y : MethodName) (cc : ByteArray) (n : Nat) (r : Option FieldType) : List Cond := Cond.code y cc n r :: gT
theorem wU_good {y : MethodName} {cc : ByteArray} {n : Nat} {r : Option FieldType} (h : Cond.code y cc n r ∈ gT) : GoodIn gT (wU y cc n r) := fun w hw => by
  rcases List.mem_cons.mp hw with rfl | hw
  · exact ⟨h, good_of_word (gT_good h)⟩
  · exact ⟨hw, good_of_word (gT_good hw)⟩
theorem fm_of_map {α β : Type} {f : α → Option β} : ∀ {is : List α} {w : List β}, is.map f = w.map some → is.filterMap f = w
  | [], [], _ => rfl
  | [], b :: w, h => by simp at h
  | a :: is, [], h => by simp at h
  | a :: is, b :: w, h => by
    simp only [List.map_cons, List.cons.injEq] at h
    simp only [List.filterMap_cons, h.1]
    rw [fm_of_map h.2]
abbrev tyL (cI cB : ClassId) : List (ClassId × FieldType) := [(cI, .int), (cB, .byte)]
def EE (p : Program) (c : Code) (cc : ByteArray) (nL : Nat) (s : State) (args : Array Value) (m : MethodId) (own : String) (D : va_G) (cI cB : ClassId) : Prop :=
  CallFix p m c cc nL s args gT own ∧ va_K D vwCl (tyL cI cB) s
def WD (D : va_G) (A : Nat → Prop) (H0 H : Heap) (locs : List Loc) (w : va_W) : Prop := va_P D vwCl w H ∧ va_D A w ∧ va_S A H0 H locs
def LV (own : String) (index : Nat) (C : String) (y : MethodName) (cc : ByteArray) (n : Nat) (r : Option FieldType) (k : Nat) : Prop :=
  Cond.methodLink own index y ∈ gT ∧ Cond.instanceMethod y ∈ gT ∧ Cond.selects C y y ∈ gT ∧ Cond.initialized C ∈ gT ∧ Cond.code y cc n r ∈ gT ∧ (y.cls = C ∧ y.cls ≠ "java/lang/invoke/MethodHandle" ∧ y.cls ≠ "java/lang/invoke/VarHandle" ∧ (parseMethodDescriptor y.desc).map (fun d => d.parameters.length) = some k)
def LSt (own : String) (index : Nat) (y : MethodName) (cc : ByteArray) (n : Nat) (r : Option FieldType) (k : Nat) : Prop :=
  Cond.methodLink own index y ∈ gT ∧ Cond.static y ∈ gT ∧ Cond.initialized y.cls ∈ gT ∧ Cond.code y cc n r ∈ gT ∧ (y.cls ≠ "java/lang/invoke/MethodHandle" ∧ y.cls ≠ "java/lang/invoke/VarHandle" ∧ (parseMethodDescriptor y.desc).map (fun d => d.parameters.length) = some k)
def LI (own : String) (index : Nat) (y : MethodName) (cc : ByteArray) (n : Nat) (k : Nat) : Prop :=
  Cond.methodLink own index y ∈ gT ∧ Cond.instanceMethod y ∈ gT ∧ Cond.initialized y.cls ∈ gT ∧ Cond.code y cc n none ∈ gT ∧ y.name = "<init>" ∧ (y.cls ≠ "java/lang/invoke/MethodHandle" ∧ y.cls ≠ "java/lang/invoke/VarHandle" ∧ (parseMethodDescriptor y.desc).map (fun d => d.parameters.length) = some k)
/-- the contracts: X is what is wanted of the start beside the world (constants that lie outside it) -/
def PC (X : Nat → State → Prop) (D : va_G) (cI cB : ClassId) (as : List Value) (w0 : va_W) (sz : Nat) : Array Value → State → Prop :=
  va_Pc as (fun U => U.heap.size = sz ∧ va_P D vwCl w0 U.heap ∧ va_K D vwCl (tyL cI cB) U ∧ va_D (fun _ => True) w0 ∧ X sz U)
def AT {S : Type} (D : va_G) (cI cB : ClassId) (A : Nat → Prop) (w1 : S → va_W) : S → State → Prop := fun u t => va_P D vwCl (w1 u) t.heap ∧ va_K D vwCl (tyL cI cB) t ∧ va_D A (w1 u)
def AR {S : Type} (D : va_G) (cI cB : ClassId) (A : Nat → Prop) (w1 : S → Nat → va_W) : S → Nat → State → Prop := fun u a t => va_P D vwCl (w1 u a) t.heap ∧ va_K D vwCl (tyL cI cB) t ∧ va_D A (w1 u a)
def CI {S : Type} (l : Launch) (X : Nat → State → Prop) (D : va_G) (cI cB : ClassId) (y : MethodName) (cc : ByteArray) (n : Nat) (r : Option FieldType) (fr lo mc ms : Nat) (as : List Value) (w0 : va_W) (post : Int32 → S → Prop) (w1 : S → va_W) : Prop :=
  ∀ sz : Nat, Met l y (wU y cc n r) { frames := fr, cells := mc, slots := ms, locals := lo } (PC X D cI cB as w0 sz) (va_Qi post (AT D cI cB (va_A w0 sz) w1) (va_A w0 sz)) mc ms (va_A w0 sz)
def CV {S : Type} (l : Launch) (X : Nat → State → Prop) (D : va_G) (cI cB : ClassId) (y : MethodName) (cc : ByteArray) (n : Nat) (fr lo mc ms : Nat) (as : List Value) (w0 : va_W) (post : S → Prop) (w1 : S → va_W) : Prop :=
  ∀ sz : Nat, Met l y (wU y cc n none) { frames := fr, cells := mc, slots := ms, locals := lo } (PC X D cI cB as w0 sz) (va_Qv post (AT D cI cB (va_A w0 sz) w1) (va_A w0 sz)) mc ms (va_A w0 sz)
def CR {S : Type} (l : Launch) (X : Nat → State → Prop) (D : va_G) (cI cB : ClassId) (y : MethodName) (cc : ByteArray) (n : Nat) (r : Option FieldType) (fr lo mc ms : Nat) (as : List Value) (w0 : va_W) (post : S → Prop) (w1 : S → Nat → va_W) : Prop :=
  ∀ sz : Nat, Met l y (wU y cc n r) { frames := fr, cells := mc, slots := ms, locals := lo } (PC X D cI cB as w0 sz) (va_Qr post (AR D cI cB (va_A w0 sz) w1) (va_A w0 sz)) mc ms (va_A w0 sz)
abbrev X0 : Nat → State → Prop := fun _ _ => True
def Xb (X : Nat → State → Prop) : Prop := ∀ (sz : Nat) (U : State) (g : JFrame) (mk : MethodId) (a : Array Value), X sz U → X sz (U.calling g mk a)
theorem X0b : Xb X0 := fun _ _ _ _ _ _ => trivial
theorem PC_blind {X : Nat → State → Prop} (hX : Xb X) {D : va_G} {cI cB : ClassId} {as : List Value} {w0 : va_W} {sz : Nat} : FrameBlind (PC X D cI cB as w0 sz) := fun a U g mk q => by
  obtain ⟨q0, q1, qP, qK, qD, qX⟩ := q
  exact ⟨q0, q1, qP, va_K.moved (u := U) (U := U.calling g mk a) (Vm.Alike.refl U.vm) qK, qD, hX _ _ _ _ _ qX⟩
section ROWS
variable {p : Program} {l : Launch} {e : Env} {R : Room} {s : State} {m : MethodId} {args : Array Value} {below : List Frame} {meth : Method} {c : Code} {H : Heap} {locs : List Loc} {cells slots : Nat} {Q : State → Prop}
variable {cc : ByteArray} {pc nL : Nat} {ls : Array Slot} {rest : List Value} {D : va_G} {A : Nat → Prop} {a : Nat} {cI cB : ClassId} {w : va_W} {H0 : Heap} {own : String}
theorem r_get (E : EE p c cc nL s args m own D cI cB) (X : WD D A H0 H locs w) {ref C : String} {T : u_T} {N ci index : Nat} (k : Nat) (hin : ∀ w ∈ u_ws C T N, w ∈ gT) (hc : vwCl[ci]? = some (C, T, N)) (hk : k < N) (hl : Cond.fieldLink own index ref (T k).2.1 (T k).2.2.1 ∈ gT) (href : (T k).1 = ref) (q0 : Nat) {fs : List Value} {v : Value} (he : w[q0]? = some (a, .inr (ci, fs))) (hv : fs[k]? = some v) (hd : decode cc pc = .ok (.getfield index, 3))
    (kk : W p l e R s m args below meth c H locs cells slots Q (F0 m (pc + 3) ls (v :: rest))) : W p l e R s m args below meth c H locs cells slots Q (F0 m pc ls (.ref a :: rest)) :=
  va_get (C := C) (T := T) (N := N) (ref := ref) (index := index) E.1.1 E.1.2.1 E.1.2.2.2.2 hin E.1.2.2.2.1 E.2 X.1 q0 he hc k hk (E.1.2.2.2.2 _ hl) (fun x h => by rw [← href]; exact h) hv hd kk
theorem r_put (E : EE p c cc nL s args m own D cI cB) (X : WD D A H0 H locs w) {ref C : String} {T : u_T} {ty0 : Nat → FieldType} {N ci index : Nat} (k : Nat) (hin : ∀ w ∈ u_ws C T N, w ∈ gT) (hty : ∀ k, k < N → parseFieldDescriptor (T k).2.2.1 = some (ty0 k)) (hnm : ∀ a, a < N → ∀ b, b < N → a ≠ b → (T a).2.1 ≠ (T b).2.1) (hc : vwCl[ci]? = some (C, T, N)) (hk : k < N) (hl : Cond.fieldLink own index ref (T k).2.1 (T k).2.2.1 ∈ gT) (href : (T k).1 = ref) (hfin : (T k).2.2.2 = false)
    (q0 : Nat) {fs : List Value} {v : Value} {w' : va_W} (he : w[q0]? = some (a, .inr (ci, fs))) (hn : narrow (ty0 k) v = v) (hf : fits (ty0 k) v = true) (hlen : k < fs.length) (hw : w.set q0 (a, .inr (ci, fs.set k v)) = w') (hd : decode cc pc = .ok (.putfield index, 3))
    (kk : ∀ (H1 : Heap) (locs1 : List Loc), WD D A H0 H1 locs1 w' → W p l e R s m args below meth c H1 locs1 cells slots Q (F0 m (pc + 3) ls rest)) : W p l e R s m args below meth c H locs cells slots Q (F0 m pc ls (v :: .ref a :: rest)) := by
  subst hw
  exact va_put (C := C) (T := T) (N := N) (ref := ref) (index := index) (ty := ty0 k) E.1.1 E.1.2.1 E.1.2.2.2.2 hin ty0 hty hnm E.1.2.2.2.1 E.2 X.1 X.2.1 X.2.2 q0 he hc k hk (E.1.2.2.2.2 _ hl) (fun x h => by rw [← href]; exact h) hfin (hty k hk) hn hf hlen hd (fun H1 locs1 h1 h2 h3 => kk H1 locs1 ⟨h1, h2, h3⟩)
theorem r_putF (E : EE p c cc nL s args m own D cI cB) (X : WD D A H0 H locs w) {ref C : String} {T : u_T} {ty0 : Nat → FieldType} {N ci index : Nat} (k : Nat) (hin : ∀ w ∈ u_ws C T N, w ∈ gT) (hty : ∀ k, k < N → parseFieldDescriptor (T k).2.2.1 = some (ty0 k)) (hnm : ∀ a, a < N → ∀ b, b < N → a ≠ b → (T a).2.1 ≠ (T b).2.1) (hc : vwCl[ci]? = some (C, T, N)) (hk : k < N) (hl : Cond.fieldLink own index ref (T k).2.1 (T k).2.2.1 ∈ gT) (href : (T k).1 = ref) (hfin : (T k).2.2.2 = true) (hin2 : meth.name = "<init>") (hdecl : (T k).1 = own)
    (q0 : Nat) {fs : List Value} {v : Value} {w' : va_W} (he : w[q0]? = some (a, .inr (ci, fs))) (hn : narrow (ty0 k) v = v) (hf : fits (ty0 k) v = true) (hlen : k < fs.length) (hw : w.set q0 (a, .inr (ci, fs.set k v)) = w') (hd : decode cc pc = .ok (.putfield index, 3))
    (kk : ∀ (H1 : Heap) (locs1 : List Loc), WD D A H0 H1 locs1 w' → W p l e R s m args below meth c H1 locs1 cells slots Q (F0 m (pc + 3) ls rest)) : W p l e R s m args below meth c H locs cells slots Q (F0 m pc ls (v :: .ref a :: rest)) := by
  subst hw
  exact va_putF (C := C) (T := T) (N := N) (ref := ref) (index := index) (ty := ty0 k) E.1.1 E.1.2.1 E.1.2.2.2.2 hin ty0 hty hnm E.1.2.2.2.1 E.2 X.1 X.2.1 X.2.2 q0 he hc k hk (E.1.2.2.2.2 _ hl) (fun x h => by rw [← href]; exact h) hfin hin2 hdecl (hty k hk) hn hf hlen hd (fun H1 locs1 h1 h2 h3 => kk H1 locs1 ⟨h1, h2, h3⟩)
theorem r_iald (E : EE p c cc nL s args m own D cI cB) (X : WD D A H0 H locs w) (q0 : Nat) {n : Nat} {f : Nat → Int32} (he : w[q0]? = some (a, .inl (cI, n, .inl f))) {i : Int32} (hin : vp_in i n) (hd : decode cc pc = .ok (.iaload, 1))
    (kk : W p l e R s m args below meth c H locs cells slots Q (F0 m (pc + 1) ls (.int (f i.toNatClampNeg) :: rest))) : W p l e R s m args below meth c H locs cells slots Q (F0 m pc ls (.int i :: .ref a :: rest)) :=
  va_iald E.1.1 E.1.2.1 E.2 X.1 q0 0 he rfl hin hd kk
theorem r_bald (E : EE p c cc nL s args m own D cI cB) (X : WD D A H0 H locs w) (q0 : Nat) {n : Nat} {f : Nat → Int32} (he : w[q0]? = some (a, .inl (cB, n, .inl f))) {i : Int32} (hin : vp_in i n) (hd : decode cc pc = .ok (.baload, 1))
    (kk : W p l e R s m args below meth c H locs cells slots Q (F0 m (pc + 1) ls (.int (f i.toNatClampNeg) :: rest))) : W p l e R s m args below meth c H locs cells slots Q (F0 m pc ls (.int i :: .ref a :: rest)) :=
  va_bald E.1.1 E.1.2.1 E.2 X.1 q0 1 he rfl hin hd kk
theorem r_iast (E : EE p c cc nL s args m own D cI cB) (X : WD D A H0 H locs w) (q0 : Nat) {n : Nat} {f : Nat → Int32} {w' : va_W} (he : w[q0]? = some (a, .inl (cI, n, .inl f))) {i x : Int32} (hin : vp_in i n) (hw : w.set q0 (a, .inl (cI, n, .inl (upd f i.toNatClampNeg x))) = w') (hd : decode cc pc = .ok (.iastore, 1))
    (kk : ∀ (H1 : Heap) (locs1 : List Loc), WD D A H0 H1 locs1 w' → W p l e R s m args below meth c H1 locs1 cells slots Q (F0 m (pc + 1) ls rest)) : W p l e R s m args below meth c H locs cells slots Q (F0 m pc ls (.int x :: .int i :: .ref a :: rest)) := by
  subst hw
  exact va_iast E.1.1 E.1.2.1 E.2 X.1 X.2.1 X.2.2 q0 0 he rfl hin hd (fun H1 locs1 h1 h2 h3 => kk H1 locs1 ⟨h1, h2, h3⟩)
theorem r_bast (E : EE p c cc nL s args m own D cI cB) (X : WD D A H0 H locs w) (q0 : Nat) {n : Nat} {f : Nat → Int32} {w' : va_W} (he : w[q0]? = some (a, .inl (cB, n, .inl f))) {i x : Int32} (hin : vp_in i n) (hw : w.set q0 (a, .inl (cB, n, .inl (upd f i.toNatClampNeg (vp_nar .byte x)))) = w') (hd : decode cc pc = .ok (.bastore, 1))
    (kk : ∀ (H1 : Heap) (locs1 : List Loc), WD D A H0 H1 locs1 w' → W p l e R s m args below meth c H1 locs1 cells slots Q (F0 m (pc + 1) ls rest)) : W p l e R s m args below meth c H locs cells slots Q (F0 m pc ls (.int x :: .int i :: .ref a :: rest)) := by
  subst hw
  exact va_bast E.1.1 E.1.2.1 E.2 X.1 X.2.1 X.2.2 q0 1 he rfl hin hd (fun H1 locs1 h1 h2 h3 => kk H1 locs1 ⟨h1, h2, h3⟩)
theorem r_alenI (E : EE p c cc nL s args m own D cI cB) (X : WD D A H0 H locs w) (q0 : Nat) {n : Nat} {f : Nat → Int32} (he : w[q0]? = some (a, .inl (cI, n, .inl f))) {v : Int32} (hv : Int32.ofNat n = v) (hd : decode cc pc = .ok (.arraylength, 1))
    (kk : W p l e R s m args below meth c H locs cells slots Q (F0 m (pc + 1) ls (.int v :: rest))) : W p l e R s m args below meth c H locs cells slots Q (F0 m pc ls (.ref a :: rest)) :=
  va_alen E.1.1 E.1.2.1 E.2 X.1 q0 0 he rfl hv hd kk
theorem r_alenB (E : EE p c cc nL s args m own D cI cB) (X : WD D A H0 H locs w) (q0 : Nat) {n : Nat} {f : Nat → Int32} (he : w[q0]? = some (a, .inl (cB, n, .inl f))) {v : Int32} (hv : Int32.ofNat n = v) (hd : decode cc pc = .ok (.arraylength, 1))
    (kk : W p l e R s m args below meth c H locs cells slots Q (F0 m (pc + 1) ls (.int v :: rest))) : W p l e R s m args below meth c H locs cells slots Q (F0 m pc ls (.ref a :: rest)) :=
  va_alen E.1.1 E.1.2.1 E.2 X.1 q0 1 he rfl hv hd kk
/-- behind a call: the callee's cells in their places again -/
theorem w_join {w0 wr w1 w2 : va_W} {H1 : Heap} {locs1 : List Loc} (X : WD D A H0 H locs w) (hA : ∀ q, H0.size ≤ q → A q) (isC isR ps : List Nat) (hC : isC.map (fun i => w[i]?) = w0.map some) (hR : isR.map (fun i => w[i]?) = wr.map some) (hn : va_nd isR = true) (hdis : ∀ i ∈ isR, i ∉ isC) (hps : va_nd ps = true) (h2 : ps.map (fun i => (wr ++ w1)[i]?) = w2.map some)
    (hk1 : ∀ q : Nat, q < H.size → ¬ va_A w0 H.size q → H1[q]? = H[q]?) (hP1 : va_P D vwCl w1 H1) (hD1 : va_D (va_A w0 H.size) w1) (hS1 : va_S A H0 H1 locs1) : WD D A H0 H1 locs1 w2 := by
  obtain ⟨hP2, hD2⟩ := va_join (wr := wr) (w1 := w1) X.1 X.2.1 isC isR hC hR hn hdis hk1 (va_free (wc := w0) X.2.1 X.2.2 hA isC hC) hP1 hD1
  exact ⟨hP2.sub ps (fm_of_map h2), hD2.sub ps hps h2, hS1⟩
theorem pre_of {X : Nat → State → Prop} {w0 : va_W} (E : EE p c cc nL s args m own D cI cB) (Y : WD D A H0 H locs w) (isC : List Nat) (hC : isC.map (fun i => w[i]?) = w0.map some) (hnC : va_nd isC = true) (hX : ∀ U : State, U.heap = H → s.WarmedH U.vm → X H.size U) {as : List Value} : ∀ U : State, U.heap = H → s.WarmedH U.vm → PC X D cI cB as w0 H.size as.toArray U := fun U hU hW =>
  ⟨rfl, by rw [hU], by rw [hU]; exact Y.1.sub isC (fm_of_map hC), va_K.moved hW.alike E.2, (Y.2.1.sub isC hnC hC).weaken (fun _ _ _ _ => trivial), hX U hU hW⟩
section CALLS
variable {S : Type} {X : Nat → State → Prop} {y : MethodName} {cy : ByteArray} {ny k index : Nat} {ry : Option FieldType} {fr lo mc ms : Nat} {As : List Value} {b : Nat} {w0 wr : va_W} {C : String}
theorem r_Vi {post : Int32 → S → Prop} {w1 : S → va_W} {w2 : S → va_W} (E : EE p c cc nL s args m own D cI cB) (Y : WD D A H0 H locs w) (hA : ∀ q, H0.size ≤ q → A q) (hl : ls.size = nL) (M : CI l X D cI cB y cy ny ry fr lo mc ms (.ref b :: As) w0 post w1) (L : LV own index C y cy ny ry k) (hXb : Xb X) (hX : ∀ U : State, U.heap = H → s.WarmedH U.vm → X H.size U) (isC isR ps : List Nat) (hC : isC.map (fun i => w[i]?) = w0.map some) (hR : isR.map (fun i => w[i]?) = wr.map some) (hnd : va_nd isC = true ∧ va_nd isR = true ∧ va_nd ps = true ∧ ∀ i ∈ isR, i ∉ isC) (h2 : ∀ u, ps.map (fun i => (wr ++ w1 u)[i]?) = (w2 u).map some)
    (qr : Nat) {fs : List Value} {ci : Nat} {T : u_T} {N : Nat} (hrc : vwCl[ci]? = some (C, T, N)) (hre : w[qr]? = some (b, .inr (ci, fs))) (hR' : fr + 1 ≤ R.frames ∧ 8 + (ny + 11) + lo ≤ R.locals) (hroom : cells + mc ≤ R.cells ∧ slots + ms ≤ R.slots) (hn : As.length = k) {st : List Value} (hst : st = As.reverse ++ .ref b :: rest) (hcat : (rest.map fun v => v.category).sum ≤ 8) (hd : decode cc pc = .ok (.invokevirtual index, 3))
    (kk : ∀ (r : Int32) (u : S) (H1 : Heap) (locs1 : List Loc), post r u → WD D A H0 H1 locs1 (w2 u) → W p l e R s m args below meth c H1 locs1 (cells + mc) (slots + ms) Q (F0 m (pc + 3) ls (.int r :: rest))) : W p l e R s m args below meth c H locs cells slots Q (F0 m pc ls st) := by
  subst hst
  obtain ⟨g1, g2, g3, g4, g5, g6⟩ := L
  have hT : GoodIn gT (wsV own index C y (wU y cy ny ry)) := fun v hv => by
    rcases List.mem_append.mp hv with h | h
    · have hm : v ∈ gT := by
        simp only [List.mem_cons, List.not_mem_nil, or_false] at h
        rcases h with rfl | rfl | rfl | rfl <;> assumption
      exact ⟨hm, good_of_word (gT_good hm)⟩
    · exact wU_good g5 v h
  have hF := va_free (wc := w0) Y.2.1 Y.2.2 hA isC hC
  refine va_calli (va_runV (As := As) (rest := rest) E.1 (M H.size) (cwV k E.1.2.2.2.2 hT rfl rfl rfl g6 hR') ⟨PC_blind hXb, va_recv E.2 Y.1 hrc hre, pre_of E Y isC hC hnd.1 hX⟩ rfl hn hl rfl (lv_room hcat) hd hroom) Y.2.2 (fun q _ h => hF q h) hF (fun r u t H1 locs1 ht hvm hw hB hz1 hk1 hS => ?_)
  obtain ⟨hP1, hK1, hD1⟩ := hB
  rw [ht] at hP1
  exact kk r u H1 locs1 hw (w_join Y hA isC isR ps hC hR hnd.2.1 hnd.2.2.2 hnd.2.2.1 (h2 u) hk1 hP1 hD1 hS)
theorem r_Vv {post : S → Prop} {w1 : S → va_W} {w2 : S → va_W} (E : EE p c cc nL s args m own D cI cB) (Y : WD D A H0 H locs w) (hA : ∀ q, H0.size ≤ q → A q) (hl : ls.size = nL) (M : CV l X D cI cB y cy ny fr lo mc ms (.ref b :: As) w0 post w1) (L : LV own index C y cy ny none k) (hXb : Xb X) (hX : ∀ U : State, U.heap = H → s.WarmedH U.vm → X H.size U) (isC isR ps : List Nat) (hC : isC.map (fun i => w[i]?) = w0.map some) (hR : isR.map (fun i => w[i]?) = wr.map some) (hnd : va_nd isC = true ∧ va_nd isR = true ∧ va_nd ps = true ∧ ∀ i ∈ isR, i ∉ isC) (h2 : ∀ u, ps.map (fun i => (wr ++ w1 u)[i]?) = (w2 u).map some)
    (qr : Nat) {fs : List Value} {ci : Nat} {T : u_T} {N : Nat} (hrc : vwCl[ci]? = some (C, T, N)) (hre : w[qr]? = some (b, .inr (ci, fs))) (hR' : fr + 1 ≤ R.frames ∧ 8 + (ny + 11) + lo ≤ R.locals) (hroom : cells + mc ≤ R.cells ∧ slots + ms ≤ R.slots) (hn : As.length = k) {st : List Value} (hst : st = As.reverse ++ .ref b :: rest) (hcat : (rest.map fun v => v.category).sum ≤ 8) (hd : decode cc pc = .ok (.invokevirtual index, 3))
    (kk : ∀ (u : S) (H1 : Heap) (locs1 : List Loc), post u → WD D A H0 H1 locs1 (w2 u) → W p l e R s m args below meth c H1 locs1 (cells + mc) (slots + ms) Q (F0 m (pc + 3) ls rest)) : W p l e R s m args below meth c H locs cells slots Q (F0 m pc ls st) := by
  subst hst
  obtain ⟨g1, g2, g3, g4, g5, g6⟩ := L
  have hT : GoodIn gT (wsV own index C y (wU y cy ny none)) := fun v hv => by
    rcases List.mem_append.mp hv with h | h
    · have hm : v ∈ gT := by
        simp only [List.mem_cons, List.not_mem_nil, or_false] at h
        rcases h with rfl | rfl | rfl | rfl <;> assumption
      exact ⟨hm, good_of_word (gT_good hm)⟩
    · exact wU_good g5 v h
  have hF := va_free (wc := w0) Y.2.1 Y.2.2 hA isC hC
  refine va_callv (va_runV (As := As) (rest := rest) E.1 (M H.size) (cwV k E.1.2.2.2.2 hT rfl rfl rfl g6 hR') ⟨PC_blind hXb, va_recv E.2 Y.1 hrc hre, pre_of E Y isC hC hnd.1 hX⟩ rfl hn hl rfl (lv_room hcat) hd hroom) Y.2.2 (fun q _ h => hF q h) hF (fun u t H1 locs1 ht hvm hw hB hz1 hk1 hS => ?_)
  obtain ⟨hP1, hK1, hD1⟩ := hB
  rw [ht] at hP1
  exact kk u H1 locs1 hw (w_join Y hA isC isR ps hC hR hnd.2.1 hnd.2.2.2 hnd.2.2.1 (h2 u) hk1 hP1 hD1 hS)
theorem r_Si {post : Int32 → S → Prop} {w1 : S → va_W} {w2 : S → va_W} (E : EE p c cc nL s args m own D cI cB) (Y : WD D A H0 H locs w) (hA : ∀ q, H0.size ≤ q → A q) (hl : ls.size = nL) (M : CI l X D cI cB y cy ny ry fr lo mc ms As w0 post w1) (L : LSt own index y cy ny ry k) (hXb : Xb X) (hX : ∀ U : State, U.heap = H → s.WarmedH U.vm → X H.size U) (isC isR ps : List Nat) (hC : isC.map (fun i => w[i]?) = w0.map some) (hR : isR.map (fun i => w[i]?) = wr.map some) (hnd : va_nd isC = true ∧ va_nd isR = true ∧ va_nd ps = true ∧ ∀ i ∈ isR, i ∉ isC) (h2 : ∀ u, ps.map (fun i => (wr ++ w1 u)[i]?) = (w2 u).map some)
    (hR' : fr + 1 ≤ R.frames ∧ 8 + (ny + 11) + lo ≤ R.locals) (hroom : cells + mc ≤ R.cells ∧ slots + ms ≤ R.slots) (hn : As.length = k) {st : List Value} (hst : st = As.reverse ++ rest) (hcat : (rest.map fun v => v.category).sum ≤ 8) (hd : decode cc pc = .ok (.invokestatic index, 3))
    (kk : ∀ (r : Int32) (u : S) (H1 : Heap) (locs1 : List Loc), post r u → WD D A H0 H1 locs1 (w2 u) → W p l e R s m args below meth c H1 locs1 (cells + mc) (slots + ms) Q (F0 m (pc + 3) ls (.int r :: rest))) : W p l e R s m args below meth c H locs cells slots Q (F0 m pc ls st) := by
  subst hst
  obtain ⟨g1, g2, g3, g4, g5⟩ := L
  have hF := va_free (wc := w0) Y.2.1 Y.2.2 hA isC hC
  have hts := E.1.2.2.2.2
  refine va_calli (va_runS (As := As) (rest := rest) E.1 (M H.size) ⟨callB_of k hts (wU_good g4) rfl rfl rfl (hts _ g3) (hts _ g1) g5 hR', hts _ g2⟩ ⟨PC_blind hXb, pre_of E Y isC hC hnd.1 hX⟩ rfl hn hl rfl (lv_room hcat) hd hroom) Y.2.2 (fun q _ h => hF q h) hF (fun r u t H1 locs1 ht hvm hw hB hz1 hk1 hS => ?_)
  obtain ⟨hP1, hK1, hD1⟩ := hB
  rw [ht] at hP1
  exact kk r u H1 locs1 hw (w_join Y hA isC isR ps hC hR hnd.2.1 hnd.2.2.2 hnd.2.2.1 (h2 u) hk1 hP1 hD1 hS)
theorem r_Iv {post : S → Prop} {w1 : S → va_W} {w2 : S → va_W} (E : EE p c cc nL s args m own D cI cB) (Y : WD D A H0 H locs w) (hA : ∀ q, H0.size ≤ q → A q) (hl : ls.size = nL) (M : CV l X D cI cB y cy ny fr lo mc ms (.ref b :: As) w0 post w1) (L : LI own index y cy ny k) (hXb : Xb X) (hX : ∀ U : State, U.heap = H → s.WarmedH U.vm → X H.size U) (isC isR ps : List Nat) (hC : isC.map (fun i => w[i]?) = w0.map some) (hR : isR.map (fun i => w[i]?) = wr.map some) (hnd : va_nd isC = true ∧ va_nd isR = true ∧ va_nd ps = true ∧ ∀ i ∈ isR, i ∉ isC) (h2 : ∀ u, ps.map (fun i => (wr ++ w1 u)[i]?) = (w2 u).map some)
    (hR' : fr + 1 ≤ R.frames ∧ 8 + (ny + 11) + lo ≤ R.locals) (hroom : cells + mc ≤ R.cells ∧ slots + ms ≤ R.slots) (hn : As.length = k) {st : List Value} (hst : st = As.reverse ++ .ref b :: rest) (hcat : (rest.map fun v => v.category).sum ≤ 8) (hd : decode cc pc = .ok (.invokespecial index, 3))
    (kk : ∀ (u : S) (H1 : Heap) (locs1 : List Loc), post u → WD D A H0 H1 locs1 (w2 u) → W p l e R s m args below meth c H1 locs1 (cells + mc) (slots + ms) Q (F0 m (pc + 3) ls rest)) : W p l e R s m args below meth c H locs cells slots Q (F0 m pc ls st) := by
  subst hst
  obtain ⟨g1, g2, g3, g4, g5, g6⟩ := L
  have hF := va_free (wc := w0) Y.2.1 Y.2.2 hA isC hC
  have hts := E.1.2.2.2.2
  refine va_callv (va_runI (As := As) (rest := rest) E.1 (M H.size) (cwI k hts (wU_good g4) rfl rfl rfl (hts _ g3) (hts _ g1) (hts _ g2) g5 g6 hR') ⟨PC_blind hXb, pre_of E Y isC hC hnd.1 hX⟩ rfl hn hl rfl (lv_room hcat) hd hroom) Y.2.2 (fun q _ h => hF q h) hF (fun u t H1 locs1 ht hvm hw hB hz1 hk1 hS => ?_)
  obtain ⟨hP1, hK1, hD1⟩ := hB
  rw [ht] at hP1
  exact kk u H1 locs1 hw (w_join Y hA isC isR ps hC hR hnd.2.1 hnd.2.2.2 hnd.2.2.1 (h2 u) hk1 hP1 hD1 hS)
end CALLS
end ROWS
section ENTER
variable {S : Type} {l : Launch} {X : Nat → State → Prop} {D : va_G} {cI cB : ClassId} {y : MethodName} {cc : ByteArray} {n : Nat} {r : Option FieldType} {fr lo mc ms : Nat} {as : List Value} {w0 : va_W}
theorem CI.of {post : Int32 → S → Prop} {w1 : S → va_W} (hy : plainName y.cls = true) (hn : (lg_sl as).length ≤ n)
    (body : ∀ (p : Program) (e : Env) (s : State) (m : MethodId) (below : List Frame) (meth : Method) (c : Code) (A : Nat → Prop) (ls : Array Slot), EE p c cc n s as.toArray m y.cls D cI cB → meth.sig.returnType = r → meth.locks = false → meth.name = y.name → (∀ q, s.heap.size ≤ q → A q) → (∀ q, A q → va_A w0 s.heap.size q) → X s.heap.size s → WD D A s.heap s.heap [] w0 → lv_has ls n (lv_args 0 as) → W p l e { frames := fr, cells := mc, slots := ms, locals := lo } s m as.toArray below meth c s.heap [] 0 0 (MQ below (va_Qi post (AT D cI cB A w1) A) as.toArray s mc ms A) (F0 m 0 ls [])) : CI l X D cI cB y cc n r fr lo mc ms as w0 post w1 := by
  intro sz
  refine Met.ofW (cc := cc) (maxL := n) (ret := r) hy rfl ?_
  intro p e s m args below meth c s₁ B hml hv
  obtain ⟨rfl, hsz, hP, hK, hD0, hX⟩ := hv
  have hts : ∀ w ∈ gT, w.before as.toArray s = true := fun w h => atoms_spec (ws := wU y cc n r) B.pre w (List.mem_cons_of_mem _ h)
  subst hsz
  have hD := hD0.self (sz := s.heap.size)
  have hl := lv_entry as (n := n) hn
  rw [lg_entry_eq]
  exact body p e s m below meth c (va_A w0 s.heap.size) _ ⟨⟨B.exec, B.bytes, hml, findClass_of_methodNamed B.named, hts⟩, hK⟩ B.returns B.notSynchronized (name_of_methodNamed B.named B.method).1 (fun q h => Or.inr h) (fun q h => h) hX ⟨hP, hD, va_S.rf⟩ hl
theorem CV.of {post : S → Prop} {w1 : S → va_W} (hy : plainName y.cls = true) (hn : (lg_sl as).length ≤ n)
    (body : ∀ (p : Program) (e : Env) (s : State) (m : MethodId) (below : List Frame) (meth : Method) (c : Code) (A : Nat → Prop) (ls : Array Slot), EE p c cc n s as.toArray m y.cls D cI cB → meth.sig.returnType = none → meth.locks = false → meth.name = y.name → (∀ q, s.heap.size ≤ q → A q) → (∀ q, A q → va_A w0 s.heap.size q) → X s.heap.size s → WD D A s.heap s.heap [] w0 → lv_has ls n (lv_args 0 as) → W p l e { frames := fr, cells := mc, slots := ms, locals := lo } s m as.toArray below meth c s.heap [] 0 0 (MQ below (va_Qv post (AT D cI cB A w1) A) as.toArray s mc ms A) (F0 m 0 ls [])) : CV l X D cI cB y cc n fr lo mc ms as w0 post w1 := by
  intro sz
  refine Met.ofW (cc := cc) (maxL := n) (ret := none) hy rfl ?_
  intro p e s m args below meth c s₁ B hml hv
  obtain ⟨rfl, hsz, hP, hK, hD0, hX⟩ := hv
  have hts : ∀ w ∈ gT, w.before as.toArray s = true := fun w h => atoms_spec (ws := wU y cc n none) B.pre w (List.mem_cons_of_mem _ h)
  subst hsz
  have hD := hD0.self (sz := s.heap.size)
  have hl := lv_entry as (n := n) hn
  rw [lg_entry_eq]
  exact body p e s m below meth c (va_A w0 s.heap.size) _ ⟨⟨B.exec, B.bytes, hml, findClass_of_methodNamed B.named, hts⟩, hK⟩ B.returns B.notSynchronized (name_of_methodNamed B.named B.method).1 (fun q h => Or.inr h) (fun q h => h) hX ⟨hP, hD, va_S.rf⟩ hl
variable {p : Program} {e : Env} {R : Room} {s : State} {m : MethodId} {args : Array Value} {below : List Frame} {meth : Method} {c : Code} {H : Heap} {locs : List Loc} {cells slots : Nat} {pc nL : Nat} {ls : Array Slot} {A : Nat → Prop} {w : va_W} {own : String}
theorem r_iret {post : Int32 → S → Prop} {w1 : S → va_W} (E : EE p c cc nL s args m own D cI cB) (Y : WD D A s.heap H locs w) (hr : meth.sig.returnType = some .int) (hk : meth.locks = false) (v : Int32) (u : S) (hp : post v u) (hw : w1 u = w) (hc : cells ≤ mc ∧ slots ≤ ms) (hd : decode cc pc = .ok (.ireturn, 1)) : W p l e R s m args below meth c H locs cells slots (MQ below (va_Qi post (AT D cI cB A w1) A) args s mc ms A) (F0 m pc ls [.int v]) := by
  subst hw
  refine W.widen hc.1 hc.2 ?_
  exact W.iret E.1.1 E.1.2.1 hr (fun t ht hW => ⟨⟨v, u, rfl, hp, by rw [ht]; exact Y.1, va_K.moved hW.alike E.2, Y.2.1⟩, Y.2.2.F ht⟩) Y.2.2.2.2 hd hk
theorem r_zret {post : Int32 → S → Prop} {w1 : S → va_W} {ty : FieldType} (E : EE p c cc nL s args m own D cI cB) (Y : WD D A s.heap H locs w) (hr : meth.sig.returnType = some ty) (hk : meth.locks = false) (v : Int32) (hn : narrow ty (.int v) = .int v) (u : S) (hp : post v u) (hw : w1 u = w) (hc : cells ≤ mc ∧ slots ≤ ms) (hd : decode cc pc = .ok (.ireturn, 1)) : W p l e R s m args below meth c H locs cells slots (MQ below (va_Qi post (AT D cI cB A w1) A) args s mc ms A) (F0 m pc ls [.int v]) := by
  subst hw
  refine W.widen hc.1 hc.2 ?_
  exact W.zret E.1.1 E.1.2.1 hr hn (fun t ht hW => ⟨⟨v, u, rfl, hp, by rw [ht]; exact Y.1, va_K.moved hW.alike E.2, Y.2.1⟩, Y.2.2.F ht⟩) Y.2.2.2.2 hd hk
theorem r_vret {post : S → Prop} {w1 : S → va_W} (E : EE p c cc nL s args m own D cI cB) (Y : WD D A s.heap H locs w) (hr : meth.sig.returnType = none) (hk : meth.locks = false) (u : S) (hp : post u) (hw : w1 u = w) (hc : cells ≤ mc ∧ slots ≤ ms) (hd : decode cc pc = .ok (.return_, 1)) : W p l e R s m args below meth c H locs cells slots (MQ below (va_Qv post (AT D cI cB A w1) A) args s mc ms A) (F0 m pc ls []) := by
  subst hw
  refine W.widen hc.1 hc.2 ?_
  exact W.vret E.1.1 E.1.2.1 hr (fun t ht hW => ⟨⟨u, rfl, hp, by rw [ht]; exact Y.1, va_K.moved hW.alike E.2, Y.2.1⟩, Y.2.2.F ht⟩) Y.2.2.2.2 hd hk
end ENTER
