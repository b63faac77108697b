/-! constructors: worlds as lists of cells, until the heap's shape stands -/
abbrev KK : Type := va_G × (ClassId × ClassId × ClassId × ClassId × ClassId)
abbrev kI (K : KK) : ClassId := K.2.1
abbrev kZ (K : KK) : ClassId := K.2.2.1
abbrev kR (K : KK) : ClassId := K.2.2.2.1
abbrev kB (K : KK) : ClassId := K.2.2.2.2.1
abbrev kQ (K : KK) : ClassId := K.2.2.2.2.2
abbrev ktys (K : KK) : List (ClassId × FieldType) := [(kI K, .int), (kZ K, .boolean), (kR K, .object RX3), (kB K, .object RX0), (kQ K, .array .int)]
abbrev nwP : Cond := .methodLinkNest RX4 11 yX2_init RX4
abbrev nwL : Cond := .methodLinkNest RX4 29 yX1_init RX4
def KB (K : KK) (U : State) : Prop := va_K K.1 classes (ktys K) U ∧ va_AO RX3 U ∧ va_AO RX0 U ∧ va_AOA .int U ∧ va_Nw nwP U ∧ va_Nw nwL U
theorem KB.warm {K : KK} {s U : State} (hW : s.WarmedH U.vm) (h : KB K s) : KB K U := by
  obtain ⟨h1, h2, h3, h4, h5, h6⟩ := h
  exact ⟨va_K.moved hW.alike h1, va_AO.moved hW.alike h2, va_AO.moved hW.alike h3, va_AOA.moved hW.alike h4, va_Nw.warmM hW h5, va_Nw.warmM hW h6⟩
theorem KB.calling {K : KK} {U : State} (h : KB K U) (g : JFrame) (mk : MethodId) (a : Array Value) : KB K (U.calling g mk a) := by
  obtain ⟨h1, h2, h3, h4, h5, h6⟩ := h
  exact ⟨va_K.moved (u := U) (U := U.calling g mk a) (Vm.Alike.refl U.vm) h1, va_AO.moved (u := U) (U := U.calling g mk a) (Vm.Alike.refl U.vm) h2, va_AO.moved (u := U) (U := U.calling g mk a) (Vm.Alike.refl U.vm) h3, va_AOA.moved (u := U) (U := U.calling g mk a) (Vm.Alike.refl U.vm) h4, va_Nw.same rfl rfl h5, va_Nw.same rfl rfl h6⟩
theorem ra_name {U : State} {cA : ClassId} {ty : FieldType} (h : va_RA U cA ty) : U.vm.findClass ("[" ++ ty.toString) = some cA := by
  cases ty with
  | object C =>
    obtain ⟨kA, comp, h1, h2, h3, h4⟩ := h
    exact h4
  | _ => exact h
theorem k_same {D : va_G} {cl : List vw_C} {tys : List (ClassId × FieldType)} {s : State} {cA cI : ClassId} {ty : FieldType} (h : va_K D cl (tys ++ [(cA, ty)]) s) (k : Nat) (hk : tys[k]? = some (cI, ty)) : cA = cI := by
  have hl : k < tys.length := (List.getElem?_eq_some_iff.mp hk).1
  have h1 := (h.2 k (cI, ty) (by rw [List.getElem?_append_left hl]; exact hk)).2
  have h2 := (h.2 tys.length (cA, ty) (by rw [List.getElem?_append_right (Nat.le_refl _), Nat.sub_self]; rfl)).2
  exact Option.some.inj ((ra_name h2).symm.trans (ra_name h1))
def z0 : Nat → Int32 := fun _ => 0
/-- a constructor's contract: its receiver alone stands; afterwards its world -/
def CN (l : Launch) (K : KK) (y : MethodName) (b : ByteArray) (nl fr lo mc ms : Nat) (h0 : Nat) (As : List Value) (e0 : va_E) (Wo : (Nat → Nat) → va_W) : Prop :=
  ∀ sz : Nat, Met l y (.code y b nl none :: TBG) { frames := fr, cells := mc, slots := ms, locals := lo } (va_Pc (.ref h0 :: As) (fun U => U.heap.size = sz ∧ va_P K.1 classes [(h0, e0)] U.heap ∧ KB K U)) (va_Qv (S := Nat → Nat) (fun _ => True) (fun f t => va_P K.1 classes (Wo f) t.heap ∧ va_D (va_A [(h0, e0)] sz) (Wo f)) (va_A [(h0, e0)] sz)) mc ms (va_A [(h0, e0)] sz)
def CX0 (K : KK) (A : Nat → Prop) (p : Program) (s : State) (m : MethodId) (args : Array Value) (c : Code) (b : ByteArray) (nl : Nat) (own : String) : Prop := CallFix p m c b nl s args TBG own ∧ KB K s ∧ ∀ q, s.heap.size ≤ q → A q
def BW (K : KK) (A : Nat → Prop) (s : State) (ws : va_W) (H : Heap) (locs : List Loc) : Prop := va_P K.1 classes ws H ∧ va_D A ws ∧ va_S A s.heap H locs
theorem CN.of {l : Launch} {K : KK} {y : MethodName} {b : ByteArray} {nl fr lo mc ms : Nat} {h0 : Nat} {As : List Value} {e0 : va_E} {Wo : (Nat → Nat) → va_W} {own : String} (hy : plainName y.cls = true) (ho : y.cls = own) (hyn : y.name = "<init>") (hn : (lg_sl (.ref h0 :: As)).length ≤ nl)
    (body : ∀ (p : Program) (e : Env) (s : State) (m : MethodId) (args : Array Value) (below : List Frame) (meth : Method) (c : Code) (ls : Array Slot) (H : Heap) (locs : List Loc) (A : Nat → Prop), CX0 K A p s m args c b nl own → meth.sig.returnType = none → meth.locks = false → meth.name = "<init>" → lv_has ls nl (lv_args 0 (.ref h0 :: As)) → BW K A s [(h0, e0)] H locs →
      W p l e { frames := fr, cells := mc, slots := ms, locals := lo } s m args below meth c H locs 0 0 (MQ below (va_Qv (S := Nat → Nat) (fun _ => True) (fun f t => va_P K.1 classes (Wo f) t.heap ∧ va_D A (Wo f)) A) args s mc ms A) (F0 m 0 ls [])) : CN l K y b nl fr lo mc ms h0 As e0 Wo := by
  intro sz
  refine Met.ofW (cc := b) (maxL := nl) (ret := none) hy rfl ?_
  intro p e s m args below meth c s₁ B hml hv
  obtain ⟨rfl, rfl, hP, hK⟩ := hv
  have hts := atoms_spec (ws := .code y b nl none :: TBG) B.pre
  have hown : s.vm.findClass y.cls = some m.cls := findClass_of_methodNamed B.named
  rw [ho] at hown
  have hin : meth.name = "<init>" := (name_of_methodNamed B.named B.method).1.trans hyn
  have hl := lv_entry (.ref h0 :: As) (n := nl) hn
  rw [lg_entry_eq]
  have hD : va_D (va_A [(h0, e0)] s.heap.size) [(h0, e0)] := by
    refine va_D.self (A := fun _ => True) ⟨fun i j x z hi hj _ => ?_, fun _ _ _ => trivial⟩
    have h1 := (List.getElem?_eq_some_iff.mp hi).1
    have h2 := (List.getElem?_eq_some_iff.mp hj).1
    simp at h1 h2
    omega
  exact body p e s m _ below meth c _ s.heap [] (va_A [(h0, e0)] s.heap.size) ⟨⟨B.exec, B.bytes, hml, hown, fun w h => hts w (List.mem_cons_of_mem _ h)⟩, hK, fun q h => Or.inr h⟩ B.returns B.notSynchronized hin hl ⟨hP, hD, va_S.rf⟩
theorem arrV_congr {cI : ClassId} {n : Nat} {f g : Nat → Value} (h : ∀ j, j < n → f j = g j) : arrV cI n f = arrV cI n g := by
  unfold arrV
  have e : (fun j : Fin n => f j.val) = fun j : Fin n => g j.val := funext fun j => h j.val j.isLt
  rw [e]
theorem CX0.x {K : KK} {A : Nat → Prop} {p : Program} {s : State} {m : MethodId} {args : Array Value} {c : Code} {b : ByteArray} {nl : Nat} {own : String} (X : CX0 K A p s m args c b nl own) : p.tables.exec = Jvm.exec := X.1.1
theorem CX0.b {K : KK} {A : Nat → Prop} {p : Program} {s : State} {m : MethodId} {args : Array Value} {c : Code} {b : ByteArray} {nl : Nat} {own : String} (X : CX0 K A p s m args c b nl own) : c.code = b := X.1.2.1
section BUILD
variable {p : Program} {l : Launch} {e : Env} {R : Room} {s : State} {m : MethodId} {args : Array Value} {below : List Frame} {meth : Method} {c : Code} {H : Heap} {locs : List Loc} {cells slots : Nat} {Q : State → Prop} {b : ByteArray} {nl : Nat} {own : String} {K : KK} {A : Nat → Prop} {ws : va_W} {pc : Nat} {ls : Array Slot} {rest : List Value}
theorem g_obj (X : CX0 K A p s m args c b nl own) {idx a : Nat} (hl : Cond.methodLink own idx objectInit ∈ TBG) (hls : ls.size = nl) (hR : 1 ≤ R.frames ∧ (rest.map fun v => v.category).sum + 12 ≤ R.locals) (d : decode b pc = .ok (.invokespecial idx, 3))
    (kk : W p l e R s m args below meth c H locs cells slots Q (F0 m (pc + 3) ls rest)) : W p l e R s m args below meth c H locs cells slots Q (F0 m pc ls (.ref a :: rest)) :=
  W.objInit X.1.1 X.1.2.1 X.1.2.2.2.1 (X.1.2.2.2.2 _ hl) (X.1.2.2.2.2 _ ki_objectInit) (X.1.2.2.2.2 _ kc_objectInit) rfl (hls.trans X.1.2.2.1.symm) rfl d hR.1 (by have := hR.2; show 2 * 0 + _ + 12 ≤ _; omega) kk
theorem g_new (X : CX0 K A p s m args c b nl own) (hB : BW K A s ws H locs) {C : String} {T : u_T} {N ci index : Nat} (hc : classes[ci]? = some (C, T, N)) (hin : ∀ w ∈ u_ws C T N, w ∈ TBG) {ty : Nat → FieldType} (hty : ∀ k, k < N → parseFieldDescriptor (T k).2.2.1 = some (ty k)) (hcl : Cond.classLink own index C ∈ TBG) (hinst : Cond.instantiable C N ∈ TBG) (hini : Cond.initialized C ∈ TBG) (fs : List Value) (hfs : ∀ j, j < N → defaultValue (ty j) = vp_V fs j) (hR : cells + 1 ≤ R.cells ∧ slots + N ≤ R.slots) (d : decode b pc = .ok (.new index, 3))
    (kk : ∀ (q : Nat) (H1 : Heap), BW K A s (ws ++ [(q, .inr (ci, fs))]) H1 locs → W p l e R s m args below meth c H1 locs (cells + 1) (slots + N) Q (F0 m (pc + 3) ls (.ref q :: rest))) : W p l e R s m args below meth c H locs cells slots Q (F0 m pc ls rest) :=
  va_new X.1.1 X.1.2.1 X.1.2.2.2.2 hin ty hty X.1.2.2.2.1 (X.1.2.2.2.2 _ hcl) (X.1.2.2.2.2 _ hinst) (X.1.2.2.2.2 _ hini) X.2.1.1 hB.1 hB.2.1 hB.2.2 X.2.2 hc hfs hR.1 hR.2 d (fun q H1 a1 a2 a3 => kk q H1 ⟨a1, a2, a3⟩)
theorem g_newi (X : CX0 K A p s m args c b nl own) (hB : BW K A s ws H locs) {x : Int32} {n : Nat} (hx : x = nI n) (hn : n < 2 ^ 20) (hR : cells + 1 ≤ R.cells ∧ slots + n ≤ R.slots) (d : decode b pc = .ok (.newarray .int, 2))
    (kk : ∀ (q : Nat) (H1 : Heap), BW K A s (ws ++ [(q, .inl (kI K, n, .inl z0))]) H1 locs → W p l e R s m args below meth c H1 locs (cells + 1) (slots + n) Q (F0 m (pc + 2) ls (.ref q :: rest))) : W p l e R s m args below meth c H locs cells slots Q (F0 m pc ls (.int x :: rest)) := by
  subst hx
  refine va_newa (atype := .int) (ty := .int) (a0 := (n, .inl z0)) X.1.1 X.1.2.1 (X.1.2.2.2.2 _ ka_int) rfl X.2.1.1 hB.1 hB.2.1 hB.2.2 X.2.2 (fun _ => rfl) (nI_pos (by omega)) (nI_clamp (by omega)) (by show n * 4 ≤ _; omega) hR.1 hR.2 d (fun q cA H1 hK a1 a2 a3 => ?_)
  obtain rfl := k_same hK 0 rfl
  exact kk q H1 ⟨a1, a2, a3⟩
theorem g_newz (X : CX0 K A p s m args c b nl own) (hB : BW K A s ws H locs) {x : Int32} {n : Nat} (hx : x = nI n) (hn : n < 2 ^ 20) (hR : cells + 1 ≤ R.cells ∧ slots + n ≤ R.slots) (d : decode b pc = .ok (.newarray .boolean, 2))
    (kk : ∀ (q : Nat) (H1 : Heap), BW K A s (ws ++ [(q, .inl (kZ K, n, .inl z0))]) H1 locs → W p l e R s m args below meth c H1 locs (cells + 1) (slots + n) Q (F0 m (pc + 2) ls (.ref q :: rest))) : W p l e R s m args below meth c H locs cells slots Q (F0 m pc ls (.int x :: rest)) := by
  subst hx
  refine va_newa (atype := .boolean) (ty := .boolean) (a0 := (n, .inl z0)) X.1.1 X.1.2.1 (X.1.2.2.2.2 _ ka_boolean) rfl X.2.1.1 hB.1 hB.2.1 hB.2.2 X.2.2 (fun _ => rfl) (nI_pos (by omega)) (nI_clamp (by omega)) (by show n * 1 ≤ _; omega) hR.1 hR.2 d (fun q cA H1 hK a1 a2 a3 => ?_)
  obtain rfl := k_same hK 1 rfl
  exact kk q H1 ⟨a1, a2, a3⟩
theorem g_newr (X : CX0 K A p s m args c b nl own) (hB : BW K A s ws H locs) {C : String} {cC : ClassId} {index : Nat} (hcl : Cond.classLink own index C ∈ TBG) (hao : va_AO C s) (k : Nat) (hk : (ktys K)[k]? = some (cC, .object C)) {x : Int32} {n : Nat} (hx : x = nI n) (hn : n < 2 ^ 20) (hR : cells + 1 ≤ R.cells ∧ slots + n ≤ R.slots) (d : decode b pc = .ok (.anewarray index, 3))
    (kk : ∀ (q : Nat) (H1 : Heap), BW K A s (ws ++ [(q, .inl (cC, n, .inr (.inr (.inr (.inr (fun _ => none))))))]) H1 locs → W p l e R s m args below meth c H1 locs (cells + 1) (slots + n) Q (F0 m (pc + 3) ls (.ref q :: rest))) : W p l e R s m args below meth c H locs cells slots Q (F0 m pc ls (.int x :: rest)) := by
  subst hx
  refine va_newq X.1.1 X.1.2.1 X.1.2.2.2.1 (X.1.2.2.2.2 _ hcl) hao X.2.1.1 hB.1 hB.2.1 hB.2.2 X.2.2 (nI_pos (by omega)) (nI_clamp (by omega)) (by omega) hR.1 hR.2 d (fun q cA H1 hK a1 a2 a3 => ?_)
  obtain rfl := k_same hK k hk
  exact kk q H1 ⟨a1, a2, a3⟩
theorem g_putF (X : CX0 K A p s m args c b nl own) (hinit : meth.name = "<init>") (hB : BW K A s ws H locs) {C : String} {T : u_T} {N ci index a : Nat} {fs : List Value} {ty : FieldType} {v : Value} (q0 : Nat) (he : ws[q0]? = some (a, .inr (ci, fs))) (hc : classes[ci]? = some (C, T, N)) (hin : ∀ w ∈ u_ws C T N, w ∈ TBG) {ty0 : Nat → FieldType} (hty : ∀ k, k < N → parseFieldDescriptor (T k).2.2.1 = some (ty0 k)) (hnm : ∀ a, a < N → ∀ b, b < N → a ≠ b → (T a).2.1 ≠ (T b).2.1) (k : Nat) (hk : k < N) (hlink : Cond.fieldLink own index (T k).1 (T k).2.1 (T k).2.2.1 ∈ TBG) (hfin : (T k).2.2.2 = true) (hdecl : (T k).1 = own) (hd : parseFieldDescriptor (T k).2.2.1 = some ty) (hn : narrow ty v = v) (hfit : fits ty v = true) (hl : k < fs.length) (d : decode b pc = .ok (.putfield index, 3))
    (kk : ∀ (H1 : Heap) (locs1 : List Loc), BW K A s (ws.set q0 (a, .inr (ci, fs.set k v))) H1 locs1 → W p l e R s m args below meth c H1 locs1 cells slots Q (F0 m (pc + 3) ls rest)) : W p l e R s m args below meth c H locs cells slots Q (F0 m pc ls (v :: .ref a :: rest)) :=
  va_putF X.1.1 X.1.2.1 X.1.2.2.2.2 hin ty0 hty hnm X.1.2.2.2.1 X.2.1.1 hB.1 hB.2.1 hB.2.2 q0 he hc k hk (X.1.2.2.2.2 _ hlink) (fun _ h => h) hfin hinit hdecl hd hn hfit hl d (fun H1 locs1 a1 a2 a3 => kk H1 locs1 ⟨a1, a2, a3⟩)
theorem g_put (X : CX0 K A p s m args c b nl own) (hB : BW K A s ws H locs) {C : String} {T : u_T} {N ci index a : Nat} {fs : List Value} {ty : FieldType} {v : Value} (q0 : Nat) (he : ws[q0]? = some (a, .inr (ci, fs))) (hc : classes[ci]? = some (C, T, N)) (hin : ∀ w ∈ u_ws C T N, w ∈ TBG) {ty0 : Nat → FieldType} (hty : ∀ k, k < N → parseFieldDescriptor (T k).2.2.1 = some (ty0 k)) (hnm : ∀ a, a < N → ∀ b, b < N → a ≠ b → (T a).2.1 ≠ (T b).2.1) (k : Nat) (hk : k < N) (hlink : Cond.fieldLink own index (T k).1 (T k).2.1 (T k).2.2.1 ∈ TBG) (hfin : (T k).2.2.2 = false) (hd : parseFieldDescriptor (T k).2.2.1 = some ty) (hn : narrow ty v = v) (hfit : fits ty v = true) (hl : k < fs.length) (d : decode b pc = .ok (.putfield index, 3))
    (kk : ∀ (H1 : Heap) (locs1 : List Loc), BW K A s (ws.set q0 (a, .inr (ci, fs.set k v))) H1 locs1 → W p l e R s m args below meth c H1 locs1 cells slots Q (F0 m (pc + 3) ls rest)) : W p l e R s m args below meth c H locs cells slots Q (F0 m pc ls (v :: .ref a :: rest)) :=
  va_put X.1.1 X.1.2.1 X.1.2.2.2.2 hin ty0 hty hnm X.1.2.2.2.1 X.2.1.1 hB.1 hB.2.1 hB.2.2 q0 he hc k hk (X.1.2.2.2.2 _ hlink) (fun _ h => h) hfin hd hn hfit hl d (fun H1 locs1 a1 a2 a3 => kk H1 locs1 ⟨a1, a2, a3⟩)
theorem g_get (X : CX0 K A p s m args c b nl own) (hB : BW K A s ws H locs) {C : String} {T : u_T} {N ci index a : Nat} {fs : List Value} {v : Value} (q0 : Nat) (he : ws[q0]? = some (a, .inr (ci, fs))) (hc : classes[ci]? = some (C, T, N)) (hin : ∀ w ∈ u_ws C T N, w ∈ TBG) (k : Nat) (hk : k < N) (hlink : Cond.fieldLink own index (T k).1 (T k).2.1 (T k).2.2.1 ∈ TBG) (hv : fs[k]? = some v) (d : decode b pc = .ok (.getfield index, 3))
    (kk : W p l e R s m args below meth c H locs cells slots Q (F0 m (pc + 3) ls (v :: rest))) : W p l e R s m args below meth c H locs cells slots Q (F0 m pc ls (.ref a :: rest)) :=
  va_get X.1.1 X.1.2.1 X.1.2.2.2.2 hin X.1.2.2.2.1 X.2.1.1 hB.1 q0 he hc k hk (X.1.2.2.2.2 _ hlink) (fun _ h => h) hv d kk
theorem g_iast (X : CX0 K A p s m args c b nl own) (hB : BW K A s ws H locs) (q0 : Nat) {a n j : Nat} {f : Nat → Int32} (he : ws[q0]? = some (a, .inl (kI K, n, .inl f))) {i x : Int32} (hi : i = nI j) (hj : j < n) (hn : n < 2 ^ 31) (d : decode b pc = .ok (.iastore, 1))
    (kk : ∀ (H1 : Heap) (locs1 : List Loc), BW K A s (ws.set q0 (a, .inl (kI K, n, .inl (upd f j x)))) H1 locs1 → W p l e R s m args below meth c H1 locs1 cells slots Q (F0 m (pc + 1) ls rest)) : W p l e R s m args below meth c H locs cells slots Q (F0 m pc ls (.int x :: .int i :: .ref a :: rest)) := by
  subst hi
  refine va_iast X.1.1 X.1.2.1 X.2.1.1 hB.1 hB.2.1 hB.2.2 q0 0 he rfl (vp_in_nI hj hn) d (fun H1 locs1 a1 a2 a3 => ?_)
  rw [nI_clamp (Nat.lt_trans hj hn)] at a1 a2
  exact kk H1 locs1 ⟨a1, a2, a3⟩
theorem g_aast (X : CX0 K A p s m args c b nl own) (hB : BW K A s ws H locs) (q0 qk ci : Nat) {a n j v : Nat} {cC : ClassId} {C : String} {T : u_T} {N : Nat} {f : Nat → Option Nat} {vs : List Value} (he : ws[q0]? = some (a, .inl (cC, n, .inr (.inr (.inr (.inr f)))))) (k : Nat) (hk : (ktys K)[k]? = some (cC, .object C)) (hv : ws[qk]? = some (v, .inr (ci, vs))) (hc : classes[ci]? = some (C, T, N)) {i : Int32} (hi : i = nI j) (hj : j < n) (hn : n < 2 ^ 31) (d : decode b pc = .ok (.aastore, 1))
    (kk : ∀ (H1 : Heap) (locs1 : List Loc), BW K A s (ws.set q0 (a, .inl (cC, n, .inr (.inr (.inr (.inr (va_up f j (some v)))))))) H1 locs1 → W p l e R s m args below meth c H1 locs1 cells slots Q (F0 m (pc + 1) ls rest)) : W p l e R s m args below meth c H locs cells slots Q (F0 m pc ls (.ref v :: .int i :: .ref a :: rest)) := by
  subst hi
  refine va_astq (r := (C, T, N)) X.1.1 X.1.2.1 X.2.1.1 hB.1 hB.2.1 hB.2.2 q0 k qk ci he hk hv hc (vp_in_nI hj hn) d (fun H1 locs1 a1 a2 a3 => ?_)
  rw [nI_clamp (Nat.lt_trans hj hn)] at a1 a2
  exact kk H1 locs1 ⟨a1, a2, a3⟩
theorem g_mna (X : CX0 K A p s m args c b nl own) (hB : BW K A s ws H locs) {index : Nat} (hcl : Cond.classLink own index "[[I" ∈ TBG) {x y : Int32} {n k : Nat} (hx : x = nI n) (hy : y = nI k) (hn : n < 2 ^ 20) (hk : k < 2 ^ 20) (hR : cells + (1 + n) ≤ R.cells ∧ slots + (n + n * k) ≤ R.slots) (d : decode b pc = .ok (.multianewarray index 2, 4))
    (kk : ∀ (q : Nat) (r : Nat → Nat) (H1 : Heap), BW K A s ((ws ++ [(q, .inl (kQ K, n, .inr (.inr (.inr (.inr (fun i => if i < n then some (r i) else none))))))]) ++ (List.range n).map (fun i => (r i, .inl (kI K, k, .inl z0)))) H1 locs → W p l e R s m args below meth c H1 locs (cells + 1 + n) (slots + n + n * k) Q (F0 m (pc + 4) ls (.ref q :: rest))) : W p l e R s m args below meth c H locs cells slots Q (F0 m pc ls (.int y :: .int x :: rest)) := by
  subst hx; subst hy
  have hcy : s.vm.findClass (FieldType.array .int).toString = some (kI K) := ra_name (X.2.1.1.2 0 _ rfl).2
  have e0 : ws ++ va_pl [] (fun _ => (.inl (kI K, k, .inl z0) : va_E)) = ws := List.append_nil ws
  refine va_mna (X := ws) (L := []) (f := fun _ => .inl (kI K, k, .inl z0)) (ty := .int) (N' := n) (K' := k) (z := (k, .inl z0)) X.1.1 X.1.2.1 X.1.2.2.2.1 (X.1.2.2.2.2 _ hcl) X.2.1.2.2.2.1 (X.1.2.2.2.2 _ ka_int) hcy X.2.1.1 (by rw [e0]; exact hB.1) (by rw [e0]; exact hB.2.1) hB.2.2 X.2.2 (nI_pos (by omega)) (nI_pos (by omega)) (nI_clamp (by omega)) (nI_clamp (by omega)) (by omega) (by show k * 4 ≤ _; omega) (by omega) rfl rfl hR.1 hR.2 (fun c9 => arrV_new c9 k (.int 0)) d (fun q r cA H1 h1 h2 hK a1 a2 a3 => ?_)
  obtain rfl := k_same hK 4 rfl
  have ep : va_pl ([] ++ (List.range n).map r) (vr_up (fun _ => .inl (kI K, k, .inl z0)) ((List.range n).map r) (.inl (kI K, k, .inl z0))) = (List.range n).map (fun i => (r i, (.inl (kI K, k, .inl z0) : va_E))) := by
    unfold va_pl
    rw [List.nil_append, List.map_map]
    refine List.map_congr_left fun i hi => ?_
    show (r i, vr_up _ _ _ (r i)) = _
    rw [vr_up_in (List.mem_map.mpr ⟨i, hi, rfl⟩)]
  rw [ep] at a1 a2
  exact kk q r H1 ⟨a1, a2, a3⟩
/-- an array of references, told otherwise -/
theorem BW.cast (hB : BW K A s ws H locs) (q0 : Nat) {a n : Nat} {cC : ClassId} {f g : Nat → Option Nat} (he : ws[q0]? = some (a, .inl (cC, n, .inr (.inr (.inr (.inr f)))))) (h : ∀ j, j < n → f j = g j) : BW K A s (ws.set q0 (a, .inl (cC, n, .inr (.inr (.inr (.inr g)))))) H locs := by
  refine ⟨hB.1.set hB.2.1 he ?_ (fun _ _ => rfl), hB.2.1.set he, hB.2.2⟩
  have h1 : H[a]? = some (vp_cell cC (n, .inr (.inr (.inr (.inr f))))) := hB.1 q0 _ he
  show H[a]? = some (vp_cell cC (n, .inr (.inr (.inr (.inr g)))))
  rw [h1, vp_cell_q, vp_cell_q, arrV_congr (fun j hj => by rw [h j hj])]
theorem g_pre {y : MethodName} {h0 : Nat} {As : List Value} {e0 : va_E} (X : CX0 K A p s m args c b nl own) (hB : BW K A s ws H locs) (q0 : Nat) (he : ws[q0]? = some (h0, e0)) : PreS s H (va_Pc (.ref h0 :: As) (fun U => U.heap.size = H.size ∧ va_P K.1 classes [(h0, e0)] U.heap ∧ KB K U)) (.ref h0 :: As) := by
  refine ⟨fun a U g mk q => ?_, fun U hU hW => ⟨rfl, by rw [hU], ?_, X.2.1.warm hW⟩⟩
  · obtain ⟨q1, q2, q3, q4⟩ := q
    exact ⟨q1, q2, q3, q4.calling g mk a⟩
  · rw [hU]
    exact hB.1.sub [q0] (by simp [he])
theorem g_call (X : CX0 K A p s m args c b nl own) (hB : BW K A s ws H locs) {y : MethodName} {b2 : ByteArray} {nl2 fr2 lo2 mc ms n idx h0 : Nat} {As st : List Value} {e0 : va_E} {Wo : (Nat → Nat) → va_W} (hM : CN l K y b2 nl2 fr2 lo2 mc ms h0 As e0 Wo) (hF : MF y b2 nl2 none n) (hyn : y.name = "<init>") (hi : Cond.instanceMethod y ∈ TBG) (hl : Cond.methodLink own idx y ∈ TBG) (q0 : Nat) (he : ws[q0]? = some (h0, e0)) (isR : List Nat) (wr : va_W) (hR : isR.map (fun i => ws[i]?) = wr.map some) (hnd : va_nd isR = true) (hdis : ∀ i ∈ isR, i ∉ [q0]) (hn : As.length = n) (hls : ls.size = nl) (rest : List Value) (hst : st = As.reverse ++ .ref h0 :: rest) (hcat : (rest.map fun v => v.category).sum ≤ 8) (hRo : fr2 + 1 ≤ R.frames ∧ 8 + (nl2 + 11) + lo2 ≤ R.locals) (hz : cells + mc ≤ R.cells ∧ slots + ms ≤ R.slots) (d : decode b pc = .ok (.invokespecial idx, 3))
    (kk : ∀ (f : Nat → Nat) (H1 : Heap) (locs1 : List Loc), BW K A s (wr ++ Wo f) H1 locs1 → W p l e R s m args below meth c H1 locs1 (cells + mc) (slots + ms) Q (F0 m (pc + 3) ls rest)) : W p l e R s m args below meth c H locs cells slots Q (F0 m pc ls st) := by
  subst hst
  have hC : [q0].map (fun i => ws[i]?) = ([(h0, e0)] : va_W).map some := by simp [he]
  have hFc := va_free (wc := [(h0, e0)]) hB.2.1 hB.2.2 X.2.2 [q0] hC
  refine va_callv (va_runI (As := As) (rest := rest) X.1 (hM H.size) ⟨callB_of n X.1.2.2.2.2 (tb_gi hF.1) rfl rfl rfl (X.1.2.2.2.2 _ hF.2.1) (X.1.2.2.2.2 _ hl) hF.2.2 hRo, hyn, X.1.2.2.2.2 _ hi⟩ (g_pre (y := y) X hB q0 he) rfl hn hls rfl (lv_room hcat) d hz) hB.2.2 (fun q _ h => hFc q h) hFc (fun f t H1 locs1 ht hvm _ hq hz1 hk1 hS1 => ?_)
  obtain ⟨hP1, hD1⟩ := hq
  rw [ht] at hP1
  obtain ⟨hP2, hD2⟩ := va_join (wr := wr) (w1 := Wo f) hB.1 hB.2.1 [q0] isR hC hR hnd hdis hk1 hFc hP1 hD1
  exact kk f H1 locs1 ⟨hP2, hD2, hS1⟩
theorem g_calln (X : CX0 K A p s m args c b nl own) (hB : BW K A s ws H locs) {y : MethodName} {host : String} {b2 : ByteArray} {nl2 fr2 lo2 mc ms n idx h0 : Nat} {As st : List Value} {e0 : va_E} {Wo : (Nat → Nat) → va_W} (hM : CN l K y b2 nl2 fr2 lo2 mc ms h0 As e0 Wo) (hF : MF y b2 nl2 none n) (hyn : y.name = "<init>") (hi : Cond.instanceMethod y ∈ TBG) (hl : va_Nw (.methodLinkNest own idx y host) s) (q0 : Nat) (he : ws[q0]? = some (h0, e0)) (isR : List Nat) (wr : va_W) (hR : isR.map (fun i => ws[i]?) = wr.map some) (hnd : va_nd isR = true) (hdis : ∀ i ∈ isR, i ∉ [q0]) (hn : As.length = n) (hls : ls.size = nl) (rest : List Value) (hst : st = As.reverse ++ .ref h0 :: rest) (hcat : (rest.map fun v => v.category).sum ≤ 8) (hRo : fr2 + 1 ≤ R.frames ∧ 8 + (nl2 + 11) + lo2 ≤ R.locals) (hz : cells + mc ≤ R.cells ∧ slots + ms ≤ R.slots) (d : decode b pc = .ok (.invokespecial idx, 3))
    (kk : ∀ (f : Nat → Nat) (H1 : Heap) (locs1 : List Loc), BW K A s (wr ++ Wo f) H1 locs1 → W p l e R s m args below meth c H1 locs1 (cells + mc) (slots + ms) Q (F0 m (pc + 3) ls rest)) : W p l e R s m args below meth c H locs cells slots Q (F0 m pc ls st) := by
  subst hst
  have hC : [q0].map (fun i => ws[i]?) = ([(h0, e0)] : va_W).map some := by simp [he]
  have hFc := va_free (wc := [(h0, e0)]) hB.2.1 hB.2.2 X.2.2 [q0] hC
  refine va_callv (va_runIN (As := As) (rest := rest) X.1 (hM H.size) ⟨va_cnB n X.1.2.2.2.2 (tb_gi hF.1) rfl rfl rfl hl (X.1.2.2.2.2 _ hF.2.1) hF.2.2 hRo, hyn, X.1.2.2.2.2 _ hi⟩ (g_pre (y := y) X hB q0 he) rfl hn hls rfl (lv_room hcat) d hz) hB.2.2 (fun q _ h => hFc q h) hFc (fun f t H1 locs1 ht hvm _ hq hz1 hk1 hS1 => ?_)
  obtain ⟨hP1, hD1⟩ := hq
  rw [ht] at hP1
  obtain ⟨hP2, hD2⟩ := va_join (wr := wr) (w1 := Wo f) hB.1 hB.2.1 [q0] isR hC hR hnd hdis hk1 hFc hP1 hD1
  exact kk f H1 locs1 ⟨hP2, hD2, hS1⟩
theorem g_vret {Wo : (Nat → Nat) → va_W} (X : CX0 K A p s m args c b nl own) (hr : meth.sig.returnType = none) (hlk : meth.locks = false) (hB : BW K A s ws H locs) (f : Nat → Nat) (hf : Wo f = ws) (d : decode b pc = .ok (.return_, 1)) : W p l e R s m args below meth c H locs cells slots (MQ below (va_Qv (S := Nat → Nat) (fun _ => True) (fun f t => va_P K.1 classes (Wo f) t.heap ∧ va_D A (Wo f)) A) args s cells slots A) (F0 m pc ls []) :=
  W.vret X.1.1 X.1.2.1 hr (fun t ht _ => ⟨⟨f, rfl, trivial, by show va_P K.1 classes (Wo f) t.heap; rw [hf, ht]; exact hB.1, by show va_D A (Wo f); rw [hf]; exact hB.2.1⟩, hB.2.2.F ht⟩) hB.2.2.2.2 d hlk
end BUILD
