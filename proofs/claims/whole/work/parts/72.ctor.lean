/-- what a constructor's walk knows of its machine -/
abbrev tysC (ct : Nat → ClassId) : List (ClassId × FieldType) := [(ct 0, .int), (ct 1, .boolean), (ct 2, .object "ZeroParts$Sequence"), (ct 3, .long)]
def KU (D : va_G) (ct : Nat → ClassId) (U : State) : Prop := va_K D vwCl (tysC ct) U ∧ va_AO "ZeroParts$Sequence" U
theorem KU.moved {D : va_G} {ct : Nat → ClassId} {u U : State} (hvm : u.vm.Alike U.vm) (h : KU D ct u) : KU D ct U := ⟨va_K.moved hvm h.1, va_AO.moved hvm h.2⟩
def CC (D : va_G) (ct : Nat → ClassId) (A : Nat → Prop) (Y : YC) (p : Program) (s : State) (m : MethodId) (args : Array Value) (meth : Method) (c : Code) : Prop :=
  p.tables.exec = Jvm.exec ∧ c.code = Y.2.1 ∧ c.maxLocals = Y.2.2.1 ∧ meth.sig.returnType = Y.2.2.2 ∧ meth.locks = false ∧ s.vm.findClass Y.1.cls = some m.cls ∧ (∀ w ∈ tbG, w.before args s = true) ∧ KU D ct s ∧ (∀ q, s.heap.size ≤ q → A q) ∧ (Y.1.name = "<init>" → meth.name = "<init>")
abbrev Un : Type := (State → Nat → Prop) × (Code → List Frame → Array Value → State → State → Prop)
/-- a walk over a world that grows -/
def Us (D : va_G) (ct : Nat → ClassId) (l : Launch) (R : Room) (Y : YC) (F : Un) (pc k n : Nat) (lv : List (Nat × Value)) (st : List Value) (ws : va_W) : Prop :=
  ∀ (p : Program) (e : Env) (s : State) (m : MethodId) (args : Array Value) (below : List Frame) (meth : Method) (c : Code) (H : Heap) (locs : List Loc) (ls : Array Slot),
    CC D ct (F.1 s) Y p s m args meth c → va_P D vwCl ws H → va_D (F.1 s) ws → va_S (F.1 s) s.heap H locs → lv_has ls Y.2.2.1 lv → W p l e R s m args below meth c H locs k n (F.2 c below args s) (F0 m pc ls st)
section UR
variable {D : va_G} {ct : Nat → ClassId} {l : Launch} {R : Room} {Y : YC} {F : Un} {pc k n : Nat} {lv lv' : List (Nat × Value)} {st : List Value} {ws ws' : va_W}
theorem ra_inj {U : State} {c1 c2 : ClassId} {ty : FieldType} (h1 : va_RA U c1 ty) (h2 : va_RA U c2 ty) : c1 = c2 := by
  cases ty <;> first | exact Option.some.inj (h1.symm.trans h2) | (obtain ⟨_, _, _, _, _, a⟩ := h1; obtain ⟨_, _, _, _, _, b⟩ := h2; exact Option.some.inj (a.symm.trans b))
theorem u_aload {k0 : Fin 4} {q : Nat} (hdg : decode Y.2.1 pc = .ok (.aload_n k0, 1)) (h : lv.lookup (k0 : Nat) = some (.ref q)) (kk : Us D ct l R Y F (pc + 1) k n lv (.ref q :: st) ws) : Us D ct l R Y F pc k n lv st ws := fun p e s m args below meth c H locs ls C hP hD hS hl => lv_aload_n C.1 C.2.1 hdg rfl (lk_at hl h) (kk p e s m args below meth c H locs ls C hP hD hS hl)
theorem u_iload {k0 : Fin 4} {q : Int32} (hdg : decode Y.2.1 pc = .ok (.iload_n k0, 1)) (h : lv.lookup (k0 : Nat) = some (.int q)) (kk : Us D ct l R Y F (pc + 1) k n lv (.int q :: st) ws) : Us D ct l R Y F pc k n lv st ws := fun p e s m args below meth c H locs ls C hP hD hS hl => lv_iload_n C.1 C.2.1 hdg rfl (lk_at hl h) (kk p e s m args below meth c H locs ls C hP hD hS hl)
theorem u_dup {v : Value} (hdg : decode Y.2.1 pc = .ok (.dup, 1)) (hv : v.category = 1) (kk : Us D ct l R Y F (pc + 1) k n lv (v :: v :: st) ws) : Us D ct l R Y F pc k n lv (v :: st) ws := fun p e s m args below meth c H locs ls C hP hD hS hl => lv_dup C.1 C.2.1 hdg hv (kk p e s m args below meth c H locs ls C hP hD hS hl)
theorem u_null (hdg : decode Y.2.1 pc = .ok (.aconst_null, 1)) (kk : Us D ct l R Y F (pc + 1) k n lv (.null :: st) ws) : Us D ct l R Y F pc k n lv st ws := fun p e s m args below meth c H locs ls C hP hD hS hl => lv_null C.1 C.2.1 hdg (kk p e s m args below meth c H locs ls C hP hD hS hl)
theorem u_iconst {i : Int} {v : Int32} (hdg : decode Y.2.1 pc = .ok (.iconst i, 1)) (hv : Int32.ofInt i = v) (kk : Us D ct l R Y F (pc + 1) k n lv (.int v :: st) ws) : Us D ct l R Y F pc k n lv st ws := fun p e s m args below meth c H locs ls C hP hD hS hl => lv_iconst C.1 C.2.1 hdg hv (kk p e s m args below meth c H locs ls C hP hD hS hl)
theorem u_bipush {i : Int} {v : Int32} (hdg : decode Y.2.1 pc = .ok (.bipush i, 2)) (hv : (Int8.ofInt i).toInt32 = v) (kk : Us D ct l R Y F (pc + 2) k n lv (.int v :: st) ws) : Us D ct l R Y F pc k n lv st ws := fun p e s m args below meth c H locs ls C hP hD hS hl => lv_bipush C.1 C.2.1 hdg hv (kk p e s m args below meth c H locs ls C hP hD hS hl)
theorem u_sipush {i : Int} {v : Int32} (hdg : decode Y.2.1 pc = .ok (.sipush i, 3)) (hv : (Int16.ofInt i).toInt32 = v) (kk : Us D ct l R Y F (pc + 3) k n lv (.int v :: st) ws) : Us D ct l R Y F pc k n lv st ws := fun p e s m args below meth c H locs ls C hP hD hS hl => lv_sipush C.1 C.2.1 hdg hv (kk p e s m args below meth c H locs ls C hP hD hS hl)
theorem u_istore {k0 : Fin 4} {i : Nat} {x : Int32} (hdg : decode Y.2.1 pc = .ok (.istore_n k0, 1)) (hi : (k0 : Nat) = i) (hn : i < Y.2.2.1) (h : (i, Value.int x) :: lv.filter (fun q => !(q.1 == i) && !(q.1 + 1 == i && q.2.category == 2)) = lv') (kk : Us D ct l R Y F (pc + 1) k n lv' st ws) : Us D ct l R Y F pc k n lv (.int x :: st) ws := fun p e s m args below meth c H locs ls C hP hD hS hl => lv_istore_n C.1 C.2.1 hdg hi hl hn h (fun ls1 hl1 => kk p e s m args below meth c H locs ls1 C hP hD hS hl1)
theorem u_istorw {i : Nat} {x : Int32} (hdg : decode Y.2.1 pc = .ok (.istore i, 2)) (hn : i < Y.2.2.1) (h : (i, Value.int x) :: lv.filter (fun q => !(q.1 == i) && !(q.1 + 1 == i && q.2.category == 2)) = lv') (kk : Us D ct l R Y F (pc + 2) k n lv' st ws) : Us D ct l R Y F pc k n lv (.int x :: st) ws := fun p e s m args below meth c H locs ls C hP hD hS hl => lv_istore C.1 C.2.1 hdg hl hn h (fun ls1 hl1 => kk p e s m args below meth c H locs ls1 C hP hD hS hl1)
theorem u_astore {k0 : Fin 4} {i q0 : Nat} (hdg : decode Y.2.1 pc = .ok (.astore_n k0, 1)) (hi : (k0 : Nat) = i) (hn : i < Y.2.2.1) (h : (i, Value.ref q0) :: lv.filter (fun q => !(q.1 == i) && !(q.1 + 1 == i && q.2.category == 2)) = lv') (kk : Us D ct l R Y F (pc + 1) k n lv' st ws) : Us D ct l R Y F pc k n lv (.ref q0 :: st) ws := fun p e s m args below meth c H locs ls C hP hD hS hl => lv_astore_n C.1 C.2.1 hdg hi hl hn h (fun ls1 hl1 => kk p e s m args below meth c H locs ls1 C hP hD hS hl1)
theorem u_iinc {i : Nat} {a : Int} {x v : Int32} (hdg : decode Y.2.1 pc = .ok (.iinc i a, 3)) (hx : lv.lookup i = some (.int x)) (hv : x + Int32.ofInt a = v) (hn : i < Y.2.2.1) (h : (i, Value.int v) :: lv.filter (fun q => !(q.1 == i) && !(q.1 + 1 == i && q.2.category == 2)) = lv') (kk : Us D ct l R Y F (pc + 3) k n lv' st ws) : Us D ct l R Y F pc k n lv st ws := by
  intro p e s m args below meth c H locs ls C hP hD hS hl
  obtain ⟨k9, hk9⟩ := lk_ix hx
  exact lv_iinc C.1 C.2.1 hdg hl hk9 hv hn h (fun ls1 hl1 => kk p e s m args below meth c H locs ls1 C hP hD hS hl1)
theorem u_ge {x y : Int32} {off : Int} {tgt : Nat} (hdg : decode Y.2.1 pc = .ok (.if_icmp .ge off, 3)) (ht : (pc : Int) + off = (tgt : Int)) (kt : y ≤ x → Us D ct l R Y F tgt k n lv st ws) (kf : ¬ y ≤ x → Us D ct l R Y F (pc + 3) k n lv st ws) : Us D ct l R Y F pc k n lv (.int y :: .int x :: st) ws := fun p e s m args below meth c H locs ls C hP hD hS hl => lv_icmp_ge C.1 C.2.1 hdg ht (fun h => kt h p e s m args below meth c H locs ls C hP hD hS hl) (fun h => kf h p e s m args below meth c H locs ls C hP hD hS hl)
theorem u_goto {off : Int} {tgt : Nat} (hdg : decode Y.2.1 pc = .ok (.goto off, 3)) (ht : (pc : Int) + off = (tgt : Int)) (kk : Us D ct l R Y F tgt k n lv st ws) : Us D ct l R Y F pc k n lv st ws := fun p e s m args below meth c H locs ls C hP hD hS hl => lv_goto C.1 C.2.1 hdg ht (kk p e s m args below meth c H locs ls C hP hD hS hl)
theorem u_eq (h : ws = ws') (kk : Us D ct l R Y F pc k n lv st ws') : Us D ct l R Y F pc k n lv st ws := by rw [h]; exact kk
theorem u_obj {idx q : Nat} (hdg : decode Y.2.1 pc = .ok (.invokespecial idx, 3)) (L : Cond.methodLink Y.1.cls idx Lib.objectInit ∈ tbG) (h1 : Cond.instanceMethod Lib.objectInit ∈ tbG) (h2 : Cond.code Lib.objectInit ⟨#[0xb1]⟩ 1 none ∈ tbG) (hf : 1 ≤ R.frames) (hlo : (st.map fun v => v.category).sum + 12 ≤ R.locals) (kk : Us D ct l R Y F (pc + 3) k n lv st ws) : Us D ct l R Y F pc k n lv (.ref q :: st) ws := by
  intro p e s m args below meth c H locs ls C hP hD hS hl
  have hts := C.2.2.2.2.2.2.1
  refine W.objInit C.1 C.2.1 C.2.2.2.2.2.1 (hts _ L) (hts _ h1) (hts _ h2) rfl (hl.1.trans C.2.2.1.symm) rfl hdg hf (by show 2 * 0 + _ + 12 ≤ _; omega) ?_
  exact kk p e s m args below meth c H locs ls C hP hD hS hl
theorem u_new {idx N ci : Nat} {E : String} {T : u_T} {fs : List Value} (hdg : decode Y.2.1 pc = .ok (.new idx, 3)) (L : Cond.classLink Y.1.cls idx E ∈ tbG) (h1 : Cond.instantiable E N ∈ tbG) (h2 : Cond.initialized E ∈ tbG) (hin : ∀ w ∈ u_ws E T N, w ∈ tbG) (ty : Nat → FieldType) (hty : ∀ k, k < N → parseFieldDescriptor (T k).2.2.1 = some (ty k)) (hc : vwCl[ci]? = some (E, T, N)) (hfs : ∀ j, j < N → defaultValue (ty j) = vp_V fs j) (hcells : k + 1 ≤ R.cells) (hslots : n + N ≤ R.slots)
    (kk : ∀ q, Us D ct l R Y F (pc + 3) (k + 1) (n + N) lv (.ref q :: st) (ws ++ [(q, .inr (ci, fs))])) : Us D ct l R Y F pc k n lv st ws := by
  intro p e s m args below meth c H locs ls C hP hD hS hl
  have hts := C.2.2.2.2.2.2.1
  refine va_new (ci := ci) (fs := fs) (C := E) (T := T) (N := N) C.1 C.2.1 hts hin ty hty C.2.2.2.2.2.1 (hts _ L) (hts _ h1) (hts _ h2) C.2.2.2.2.2.2.2.1.1 hP hD hS C.2.2.2.2.2.2.2.2.1 hc hfs hcells hslots hdg (fun q H hP hD hS => ?_)
  exact kk q p e s m args below meth c H locs ls C hP hD hS hl
theorem u_newa {t N : Nat} {i : Int32} {atype : ArrayType} {ty : FieldType} {a0 : vp_A} (hdg : decode Y.2.1 pc = .ok (.newarray atype, 2)) (L : Cond.arrayClass (newarray.typeOf atype) ∈ tbG) (hty : newarray.typeOf atype = ty) (ht : (tysC ct)[t]? = some (ct t, ty)) (ha : ∀ cA : ClassId, vp_cell cA a0 = arrV cA N (fun _ => defaultValue ty)) (hn : ¬ i < 0) (hN : i.toNatClampNeg = N) (hb : N * componentBytes ty ≤ 536870912) (hcells : k + 1 ≤ R.cells) (hslots : n + N ≤ R.slots)
    (kk : ∀ q, Us D ct l R Y F (pc + 2) (k + 1) (n + N) lv (.ref q :: st) (ws ++ [(q, .inl (ct t, a0))])) : Us D ct l R Y F pc k n lv (.int i :: st) ws := by
  intro p e s m args below meth c H locs ls C hP hD hS hl
  have hts := C.2.2.2.2.2.2.1
  refine va_newa C.1 C.2.1 (hts _ L) hty C.2.2.2.2.2.2.2.1.1 hP hD hS C.2.2.2.2.2.2.2.2.1 ha hn hN hb hcells hslots hdg (fun q cA H hK hP hD hS => ?_)
  have e1 : (tysC ct ++ [(cA, ty)])[4]? = some (cA, ty) := rfl
  have e2 := (C.2.2.2.2.2.2.2.1.1.2 t _ ht).2
  have e3 := (hK.2 4 _ e1).2
  rw [show cA = ct t from ra_inj e3 e2] at hP hD
  exact kk q p e s m args below meth c H locs ls C hP hD hS hl
theorem u_newq {idx N : Nat} {i : Int32} (hdg : decode Y.2.1 pc = .ok (.anewarray idx, 3)) (L : Cond.classLink Y.1.cls idx "ZeroParts$Sequence" ∈ tbG) (hn : ¬ i < 0) (hN : i.toNatClampNeg = N) (hb : N * 4 ≤ 536870912) (hcells : k + 1 ≤ R.cells) (hslots : n + N ≤ R.slots)
    (kk : ∀ q, Us D ct l R Y F (pc + 3) (k + 1) (n + N) lv (.ref q :: st) (ws ++ [(q, .inl (ct 2, N, .inr (.inr (.inr (.inr (fun _ => none))))))])) : Us D ct l R Y F pc k n lv (.int i :: st) ws := by
  intro p e s m args below meth c H locs ls C hP hD hS hl
  have hts := C.2.2.2.2.2.2.1
  refine va_newq C.1 C.2.1 C.2.2.2.2.2.1 (hts _ L) C.2.2.2.2.2.2.2.1.2 C.2.2.2.2.2.2.2.1.1 hP hD hS C.2.2.2.2.2.2.2.2.1 hn hN hb hcells hslots hdg (fun q cA H hK hP hD hS => ?_)
  have e1 : (tysC ct ++ [(cA, .object "ZeroParts$Sequence")])[4]? = some (cA, .object "ZeroParts$Sequence") := rfl
  have e2 := (C.2.2.2.2.2.2.2.1.1.2 2 _ rfl).2
  have e3 := (hK.2 4 _ e1).2
  rw [show cA = ct 2 from ra_inj e3 e2] at hP hD
  exact kk q p e s m args below meth c H locs ls C hP hD hS hl
def UFp (own : String) (idx ci k : Nat) (fin : Bool) (ty : FieldType) : Prop := ∃ (T : u_T) (N : Nat), vwCl[ci]? = some (own, T, N) ∧ k < N ∧ (∀ w ∈ u_ws own T N, w ∈ tbG) ∧ (T k).1 = own ∧ Cond.fieldLink own idx own (T k).2.1 (T k).2.2.1 ∈ tbG ∧ (T k).2.2.2 = fin ∧ parseFieldDescriptor (T k).2.2.1 = some ty ∧ (∃ ty0 : Nat → FieldType, ∀ j, j < N → parseFieldDescriptor (T j).2.2.1 = some (ty0 j)) ∧ (∀ a, a < N → ∀ b, b < N → a ≠ b → (T a).2.1 ≠ (T b).2.1)
theorem u_put {idx ci k9 a q0 : Nat} {fin : Bool} {ty : FieldType} {v : Value} {fs : List Value} (hdg : decode Y.2.1 pc = .ok (.putfield idx, 3)) (L : UFp Y.1.cls idx ci k9 fin ty) (hN : Y.1.name = "<init>") (he : ws[q0]? = some (a, .inr (ci, fs))) (hn : narrow ty v = v) (hf : fits ty v = true) (hlen : k9 < fs.length)
    (kk : Us D ct l R Y F (pc + 3) k n lv st (ws.set q0 (a, .inr (ci, fs.set k9 v)))) : Us D ct l R Y F pc k n lv (v :: .ref a :: st) ws := by
  intro p e s m args below meth c H locs ls C hP hD hS hl
  obtain ⟨T, N, hc, hkN, hin, hC, hlink, hfin, hpd, ⟨ty0, hty⟩, hnm⟩ := L
  have hts := C.2.2.2.2.2.2.1
  have hin2 : meth.name = "<init>" := C.2.2.2.2.2.2.2.2.2 hN
  cases fin
  · exact va_put (D := D) (ci := ci) C.1 C.2.1 hts hin ty0 hty hnm C.2.2.2.2.2.1 C.2.2.2.2.2.2.2.1.1 hP hD hS q0 he hc k9 hkN (hts _ hlink) (fun x hx => by rw [hC] at hx; exact hx) hfin hpd hn hf hlen hdg (fun H1 locs1 hP1 hD1 hS1 => kk p e s m args below meth c H1 locs1 ls C hP1 hD1 hS1 hl)
  · exact va_putF (D := D) (ci := ci) C.1 C.2.1 hts hin ty0 hty hnm C.2.2.2.2.2.1 C.2.2.2.2.2.2.2.1.1 hP hD hS q0 he hc k9 hkN (hts _ hlink) (fun x hx => by rw [hC] at hx; exact hx) hfin hin2 hC hpd hn hf hlen hdg (fun H1 locs1 hP1 hD1 hS1 => kk p e s m args below meth c H1 locs1 ls C hP1 hD1 hS1 hl)
theorem u_get {idx ci k9 a q0 : Nat} {v : Value} {fs : List Value} (hdg : decode Y.2.1 pc = .ok (.getfield idx, 3)) {fin : Bool} {ty : FieldType} (L : UFp Y.1.cls idx ci k9 fin ty) (he : ws[q0]? = some (a, .inr (ci, fs))) (hv : fs[k9]? = some v)
    (kk : Us D ct l R Y F (pc + 3) k n lv (v :: st) ws) : Us D ct l R Y F pc k n lv (.ref a :: st) ws := by
  intro p e s m args below meth c H locs ls C hP hD hS hl
  obtain ⟨T, N, hc, hkN, hin, hC, hlink, -⟩ := L
  have hts := C.2.2.2.2.2.2.1
  exact va_get (D := D) (ci := ci) C.1 C.2.1 hts hin C.2.2.2.2.2.1 C.2.2.2.2.2.2.2.1.1 hP q0 he hc k9 hkN (hts _ hlink) (fun x hx => by rw [hC] at hx; exact hx) hv hdg (kk p e s m args below meth c H locs ls C hP hD hS hl)
theorem u_iast {a q0 N : Nat} {f : Nat → Int32} {i x : Int32} (hdg : decode Y.2.1 pc = .ok (.iastore, 1)) (he : ws[q0]? = some (a, .inl (ct 0, N, .inl f))) (hin : vp_in i N) (kk : Us D ct l R Y F (pc + 1) k n lv st (ws.set q0 (a, .inl (ct 0, N, .inl (upd f i.toNatClampNeg x))))) : Us D ct l R Y F pc k n lv (.int x :: .int i :: .ref a :: st) ws := fun p e s m args below meth c H locs ls C hP hD hS hl =>
  va_iast C.1 C.2.1 C.2.2.2.2.2.2.2.1.1 hP hD hS q0 0 he rfl hin hdg (fun H1 locs1 hP1 hD1 hS1 => kk p e s m args below meth c H1 locs1 ls C hP1 hD1 hS1 hl)
theorem u_astq {a q0 qk N v : Nat} {vs : List Value} {f : Nat → Option Nat} {i : Int32} (hdg : decode Y.2.1 pc = .ok (.aastore, 1)) (he : ws[q0]? = some (a, .inl (ct 2, N, .inr (.inr (.inr (.inr f)))))) (hv : ws[qk]? = some (v, .inr (3, vs))) (hin : vp_in i N) (kk : Us D ct l R Y F (pc + 1) k n lv st (ws.set q0 (a, .inl (ct 2, N, .inr (.inr (.inr (.inr (va_up f i.toNatClampNeg (some v))))))))) : Us D ct l R Y F pc k n lv (.ref v :: .int i :: .ref a :: st) ws := fun p e s m args below meth c H locs ls C hP hD hS hl =>
  va_astq C.1 C.2.1 C.2.2.2.2.2.2.2.1.1 hP hD hS q0 2 qk 3 he rfl hv rfl hin hdg (fun H1 locs1 hP1 hD1 hS1 => kk p e s m args below meth c H1 locs1 ls C hP1 hD1 hS1 hl)
end UR
/-- a constructor's contract: its object lies there new; then stand it and what it made -/
def CI (D : va_G) (ct : Nat → ClassId) (l : Launch) (d mc ms : Nat) (Y : YC) (ci : Nat) (fs : List Value) (B : Nat → (Nat → Nat) → va_W) : Prop := ∀ (h sz : Nat), Met l Y.1 (wsY Y) (rmD d mc ms) (va_Pc [.ref h] (fun U => U.heap.size = sz ∧ va_P D vwCl [(h, .inr (ci, fs))] U.heap ∧ KU D ct U ∧ va_D (fun _ => True) [(h, .inr (ci, fs))])) (va_Qv (fun _ : Nat → Nat => True) (fun q t => va_P D vwCl (B h q) t.heap ∧ va_D (va_A [(h, .inr (ci, fs))] sz) (B h q)) (va_A [(h, .inr (ci, fs))] sz)) mc ms (va_A [(h, .inr (ci, fs))] sz)
def UnI (ci : Nat) (fs : List Value) (B : Nat → (Nat → Nat) → va_W) (D : va_G) (h mc ms : Nat) : Un := (fun s => va_A [(h, .inr (ci, fs))] s.heap.size, fun _ below args s => MQ below (va_Qv (fun _ : Nat → Nat => True) (fun q t => va_P D vwCl (B h q) t.heap ∧ va_D (va_A [(h, .inr (ci, fs))] s.heap.size) (B h q)) (va_A [(h, .inr (ci, fs))] s.heap.size)) args s mc ms (va_A [(h, .inr (ci, fs))] s.heap.size))
theorem fm_of {α β : Type} {f : α → Option β} : ∀ {is : List α} {w : List β}, is.map f = w.map some → is.filterMap f = w
  | [], w, h => by cases w with
    | nil => rfl
    | cons x w => cases h
  | i :: is, w, h => by
    cases w with
    | nil => cases h
    | cons x w =>
      rw [List.map_cons, List.map_cons] at h
      have h1 := (List.cons.inj h).1
      have h2 := (List.cons.inj h).2
      rw [List.filterMap_cons_some h1, fm_of h2]
section UC
variable {D : va_G} {ct : Nat → ClassId} {l : Launch} {R : Room} {Y Y' : YC} {F : Un} {pc k n : Nat} {lv lv' : List (Nat × Value)} {st : List Value} {ws ws' : va_W}
theorem ci_of {d mc ms ci : Nat} {fs : List Value} {B : Nat → (Nat → Nat) → va_W} (hy : plainName Y.1.cls = true) (hle : 1 ≤ Y.2.2.1) (h : ∀ q, Us D ct l (rmD d mc ms) Y (UnI ci fs B D q mc ms) 0 0 0 [(0, .ref q)] [] [(q, .inr (ci, fs))]) : CI D ct l d mc ms Y ci fs B := by
  intro h0 sz
  refine Met.ofW (cc := Y.2.1) (maxL := Y.2.2.1) (ret := Y.2.2.2) hy rfl ?_
  intro p e s m args below meth c s₁ C hml hv
  obtain ⟨rfl, hsz, hP, hK, hD0⟩ := hv
  subst hsz
  have hl := lv_entry ([.ref h0]) (n := Y.2.2.1) hle
  rw [lg_entry_eq]
  have hts := atoms_spec (ws := wsY Y) C.pre
  exact h h0 p e s m _ below meth c s.heap [] _ ⟨C.exec, C.bytes, hml, C.returns, C.notSynchronized, findClass_of_methodNamed C.named, fun w hw => hts w (List.mem_cons_of_mem _ hw), hK, fun q hq => Or.inr hq, fun h => (name_of_methodNamed C.named C.method).1.trans h⟩ hP hD0.self va_S.rf hl
theorem u_ret {mc ms ci h : Nat} {fs : List Value} {B : Nat → (Nat → Nat) → va_W} (q : Nat → Nat) (is : List Nat) (hr : Y.2.2.2 = none) (hk : k = mc) (hn : n = ms) (hnd : va_nd is = true) (hs : is.map (fun i => ws[i]?) = (B h q).map some) (hdg : decode Y.2.1 pc = .ok (.return_, 1)) : Us D ct l R Y (UnI ci fs B D h mc ms) pc k n lv [] ws := by
  intro p e s m args below meth c H locs ls C hP hD hS hl
  subst hk; subst hn
  have hs2 : is.filterMap (fun i => ws[i]?) = B h q := fm_of hs
  exact W.vret C.1 C.2.1 (C.2.2.2.1.trans hr) (fun t ht hW => ⟨⟨q, rfl, trivial, by rw [ht]; exact hP.sub is hs2, hD.sub is hnd hs⟩, hS.F ht⟩) hS.2.2 hdg C.2.2.2.2.1
/-- the call of a constructor -/
theorem u_call {d d' mc ms mc' ms' ci ic idx a : Nat} {fs : List Value} {B : Nat → (Nat → Nat) → va_W} {wr : va_W} (isR : List Nat) (hdg : decode Y.2.1 pc = .ok (.invokespecial idx, 3)) (hC : CI D ct l d' mc' ms' Y' ci fs B) (L : Cond.methodLink Y.1.cls idx Y'.1 ∈ tbG) (h1 : Cond.instanceMethod Y'.1 ∈ tbG) (h2 : Cond.initialized Y'.1.cls ∈ tbG) (h3 : Cond.code Y'.1 Y'.2.1 Y'.2.2.1 Y'.2.2.2 ∈ tbG) (hn1 : Y'.1.name = "<init>") (hr0 : Y'.2.2.2 = none) (hml : Y'.2.2.1 ≤ 8) (hyy : Y'.1.cls ≠ "java/lang/invoke/MethodHandle" ∧ Y'.1.cls ≠ "java/lang/invoke/VarHandle" ∧ (parseMethodDescriptor Y'.1.desc).map (fun d => d.parameters.length) = some 0) (hd : d' < d) (hr : (st.map fun v => v.category).sum ≤ 8)
    (he : ws[ic]? = some (a, .inr (ci, fs))) (hR : isR.map (fun i => ws[i]?) = wr.map some) (hnd : va_nd isR = true) (hdis : ∀ i ∈ isR, i ∉ [ic]) (hcells : k + mc' ≤ mc) (hslots : n + ms' ≤ ms)
    (kk : ∀ q, Us D ct l (rmD d mc ms) Y F (pc + 3) (k + mc') (n + ms') lv st (wr ++ B a q)) : Us D ct l (rmD d mc ms) Y F pc k n lv (.ref a :: st) ws := by
  intro p e s m args below meth c H locs ls C hP hD hS hl
  have hts := C.2.2.2.2.2.2.1
  have hPc : va_P D vwCl [(a, .inr (ci, fs))] H := hP.sub [ic] (by simp [he])
  have hDc : va_D (F.1 s) [(a, .inr (ci, fs))] := hD.sub [ic] rfl (by simp [he])
  have hFc := va_free (wc := [(a, .inr (ci, fs))]) hD hS C.2.2.2.2.2.2.2.2.1 [ic] (by simp [he])
  refine va_callv (va_runI (As := []) (rest := st) ⟨C.1, C.2.1, C.2.2.1, C.2.2.2.2.2.1, hts⟩ (hC a H.size) ⟨callB_of (ret := none) 0 hts (wsY_good h3) (by rw [wsY, hr0]) rfl rfl (hts _ h2) (hts _ L) hyy ⟨by show d' + 1 ≤ d; omega, by show 8 + (_ + 11) + 27 * d' ≤ 27 * d; omega⟩, hn1, hts _ h1⟩ ⟨fun a U g mk q => by obtain ⟨q0, q1, qP, qK, qD⟩ := q; exact ⟨q0, q1, qP, KU.moved (u := U) (U := U.calling g mk a) (Vm.Alike.refl U.vm) qK, qD⟩, fun U hU hW => ⟨rfl, by rw [hU], by rw [hU]; exact hPc, C.2.2.2.2.2.2.2.1.moved hW.alike, hDc.weaken (fun _ _ _ _ => trivial)⟩⟩ rfl rfl hl.1 rfl (lv_room hr) hdg ⟨hcells, hslots⟩) hS (fun q _ h => hFc q h) hFc (fun u t H1 locs ht hvm hw hB hz1 hk1 hS => ?_)
  obtain ⟨hP1, hD1⟩ := hB
  rw [ht] at hP1
  obtain ⟨hP, hD⟩ := va_join (wr := wr) (w1 := B a u) hP hD [ic] isR (by simp [he]) hR hnd hdis hk1 hFc hP1 hD1
  exact kk u p e s m args below meth c H1 locs ls C hP hD hS hl
end UC
