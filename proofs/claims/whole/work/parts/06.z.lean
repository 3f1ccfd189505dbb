def rmD (d mc ms : Nat) : Room := { frames := d, cells := mc, slots := ms, locals := 27 * d }
abbrev Fn : Type := Nat × Nat × Nat × Nat × (Code → List Frame → Array Value → State → State → Prop)
/-- an end: cells and slots that may still be made, those made so far, what holds behind -/
abbrev rmF (d : Nat) (F : Fn) : Room := rmD d (F.2.2.1 + F.1) (F.2.2.2.1 + F.2.1)
def Wd (G : Gt) (μ : Mm) (sz : Nat) (U : State) : Prop := va_P G.2.1 vwCl (wl G μ) U.heap ∧ va_K G.2.1 vwCl (tysG G) U ∧ va_D (fun _ => True) (wl G μ) ∧ Cn G (aA G sz) U U.heap
def qC (G : Gt) (P : Option Value → Mm → Prop) : Array Value → State → Outcome → State → Prop := fun _ st o t => (∃ (v : Option Value) (μ' : Mm), o = .returned v ∧ P v μ' ∧ va_P G.2.1 vwCl (wl G μ') t.heap) ∧ va_F (aA G st.heap.size) st t
def fnN (G : Gt) (P : Option Value → Mm → Prop) : Fn := (0, 0, 0, 0, fun _ below args s => MQ below (qC G P) args s 0 0 (aA G s.heap.size))
def pcY (G : Gt) (vs : List Value) (μ : Mm) (sz : Nat) : Array Value → State → Prop := va_Pc vs (fun U => U.heap.size = sz ∧ Wd G μ sz U)
/-- a method's contract: called with vs in the world μ it returns, with an answer and a world of which P holds -/
def EV (G : Gt) (d : Nat) (Y : YC) (vs : List Value) (μ : Mm) (P : Option Value → Mm → Prop) : Prop := ∀ sz : Nat, Met G.1 Y.1 (wsY Y) (rmD d 0 0) (pcY G vs μ sz) (qC G P) 0 0 (aA G sz)
def En (G : Gt) (Y : YC) (p : Program) (s : State) (m : MethodId) (args : Array Value) (meth : Method) (c : Code) : Prop :=
  p.tables.exec = Jvm.exec ∧ c.code = Y.2.1 ∧ c.maxLocals = Y.2.2.1 ∧ meth.sig.returnType = Y.2.2.2 ∧ meth.locks = false ∧ s.vm.findClass Y.1.cls = some m.cls ∧ (∀ w ∈ tbG, w.before args s = true) ∧ va_K G.2.1 vwCl (tysG G) s ∧ Cn G (aA G s.heap.size) s s.heap
/-- the machine inside the method Y, at pc with locals lv and operands st, in the world μ, comes to an end of which F holds -/
def Zs (G : Gt) (d : Nat) (Y : YC) (F : Fn) (pc : Nat) (lv : List (Nat × Value)) (st : List Value) (μ : Mm) : Prop :=
  ∀ (p : Program) (e : Env) (s : State) (m : MethodId) (args : Array Value) (below : List Frame) (meth : Method) (c : Code) (H : Heap) (locs : List Loc) (ls : Array Slot),
    En G Y p s m args meth c → va_P G.2.1 vwCl (wl G μ) H → va_D (aA G s.heap.size) (wl G μ) → va_S (aA G s.heap.size) s.heap H locs → lv_has ls Y.2.2.1 lv →
    W p G.1 e (rmF d F) s m args below meth c H locs F.2.2.1 F.2.2.2.1 (F.2.2.2.2 c below args s) (F0 m pc ls st)
theorem En.x {G : Gt} {Y : YC} {p : Program} {s : State} {m : MethodId} {args : Array Value} {meth : Method} {c : Code} (E : En G Y p s m args meth c) : p.tables.exec = Jvm.exec := E.1
theorem En.b {G : Gt} {Y : YC} {p : Program} {s : State} {m : MethodId} {args : Array Value} {meth : Method} {c : Code} (E : En G Y p s m args meth c) : c.code = Y.2.1 := E.2.1
theorem En.ml {G : Gt} {Y : YC} {p : Program} {s : State} {m : MethodId} {args : Array Value} {meth : Method} {c : Code} (E : En G Y p s m args meth c) : c.maxLocals = Y.2.2.1 := E.2.2.1
theorem En.r {G : Gt} {Y : YC} {p : Program} {s : State} {m : MethodId} {args : Array Value} {meth : Method} {c : Code} (E : En G Y p s m args meth c) : meth.sig.returnType = Y.2.2.2 := E.2.2.2.1
theorem En.lk {G : Gt} {Y : YC} {p : Program} {s : State} {m : MethodId} {args : Array Value} {meth : Method} {c : Code} (E : En G Y p s m args meth c) : meth.locks = false := E.2.2.2.2.1
theorem En.o {G : Gt} {Y : YC} {p : Program} {s : State} {m : MethodId} {args : Array Value} {meth : Method} {c : Code} (E : En G Y p s m args meth c) : s.vm.findClass Y.1.cls = some m.cls := E.2.2.2.2.2.1
theorem En.t {G : Gt} {Y : YC} {p : Program} {s : State} {m : MethodId} {args : Array Value} {meth : Method} {c : Code} (E : En G Y p s m args meth c) : ∀ w ∈ tbG, w.before args s = true := E.2.2.2.2.2.2.1
theorem En.k {G : Gt} {Y : YC} {p : Program} {s : State} {m : MethodId} {args : Array Value} {meth : Method} {c : Code} (E : En G Y p s m args meth c) : va_K G.2.1 vwCl (tysG G) s := E.2.2.2.2.2.2.2.1
theorem En.c {G : Gt} {Y : YC} {p : Program} {s : State} {m : MethodId} {args : Array Value} {meth : Method} {c : Code} (E : En G Y p s m args meth c) : Cn G (aA G s.heap.size) s s.heap := E.2.2.2.2.2.2.2.2
theorem pcY_blind (G : Gt) (vs : List Value) (μ : Mm) (sz : Nat) : FrameBlind (pcY G vs μ sz) := by
  intro a U g mk h
  obtain ⟨h1, h2, h3, h4, h5, h6⟩ := h
  exact ⟨h1, h2, h3, va_K.moved (u := U) (U := U.calling g mk a) (Vm.Alike.refl U.vm) h4, h5, Cn.same (s := U) (U := U.calling g mk a) rfl h6⟩
theorem pcY_at {G : Gt} {Y : YC} {p : Program} {s : State} {m : MethodId} {args : Array Value} {meth : Method} {c : Code} {H : Heap} {locs : List Loc} {μ : Mm} (E : En G Y p s m args meth c) (hP : va_P G.2.1 vwCl (wl G μ) H) (hD : va_D (aA G s.heap.size) (wl G μ)) (hS : va_S (aA G s.heap.size) s.heap H locs) (vs : List Value) :
    ∀ U : State, U.heap = H → s.WarmedH U.vm → pcY G vs μ H.size vs.toArray U := by
  intro U hU hW
  refine ⟨rfl, by rw [hU], by rw [hU]; exact hP, va_K.moved hW.alike E.k, hD.weaken (fun _ _ _ _ => trivial), ?_⟩
  rw [hU]
  exact Cn.warm hW (fun a h1 h2 => hS.2.1 a h1 h2) (fun q hq => hq.elim Or.inl (fun h => Or.inr (Nat.le_trans hS.1 h))) E.c
/-- behind a call -/
theorem z_run {G : Gt} {d : Nat} {Y : YC} {F : Fn} {pc : Nat} {lv : List (Nat × Value)} {st0 rest : List Value} {μ : Mm} {P' : Option Value → Mm → Prop} {p : Program} {e : Env} {s : State} {m : MethodId} {args a : Array Value} {below : List Frame} {meth : Method} {c : Code} {H : Heap} {locs : List Loc} {ls : Array Slot}
    (E : En G Y p s m args meth c) (hD : va_D (aA G s.heap.size) (wl G μ)) (hS : va_S (aA G s.heap.size) s.heap H locs) (hl : lv_has ls Y.2.2.1 lv)
    (hr : va_Run p G.1 e (rmF d F) s m args below meth c H locs F.2.2.1 F.2.2.2.1 0 0 (F0 m pc ls st0) rest (qC G P' a) (aA G H.size))
    (kk : ∀ (v : Option Value) (μ' : Mm), P' v μ' → Zs G d Y F (pc + 3) lv (v.toList ++ rest) μ') :
    W p G.1 e (rmF d F) s m args below meth c H locs F.2.2.1 F.2.2.2.1 (F.2.2.2.2 c below args s) (F0 m pc ls st0) := by
  intro T hT X
  have hA : ∀ q : Nat, aA G H.size q → aA G s.heap.size q := fun q hq => hq.elim Or.inl (fun h => Or.inr (Nat.le_trans hS.1 h))
  obtain ⟨v, st₀, t, T', L, h0, X', hL, e1, e2, ⟨⟨v', μ', hv, hp, hb⟩, hz, hk⟩, st⟩ := hr T hT X
  cases hv
  rw [h0] at hz hk
  obtain ⟨t2, a1, b1⟩ := kk v μ' hp p e s m args below meth c T'.heap (locs ++ L) ls E (by rw [e1]; exact hb) (wl_D hD)
    ⟨Nat.le_trans hS.1 (by rw [e1]; exact hz), fun q h1 h2 => by rw [e1, hk q (Nat.lt_of_lt_of_le h1 hS.1) (fun z => h2 (hA q z))]; exact hS.2.1 q h1 h2, fun q hq => by
      rcases List.mem_append.mp hq with h | h
      · exact hS.2.2 q h
      · exact hA _ (hL q h)⟩ hl T' rfl X'
  exact ⟨t2, st t2 a1, b1⟩
/-- links: a virtual call, a static one, a static one of a nest mate -/
def LkV (own : String) (idx : Nat) (Y : YC) (n : Nat) : Prop :=
  Cond.methodLink own idx Y.1 ∈ tbG ∧ Cond.instanceMethod Y.1 ∈ tbG ∧ Cond.selects Y.1.cls Y.1 Y.1 ∈ tbG ∧ Cond.initialized Y.1.cls ∈ tbG ∧ Cond.code Y.1 Y.2.1 Y.2.2.1 Y.2.2.2 ∈ tbG ∧ Y.2.2.1 ≤ 8 ∧
  (Y.1.cls ≠ "java/lang/invoke/MethodHandle" ∧ Y.1.cls ≠ "java/lang/invoke/VarHandle" ∧ (parseMethodDescriptor Y.1.desc).map (fun d => d.parameters.length) = some n)
def LkS (own : String) (idx : Nat) (Y : YC) (n : Nat) : Prop :=
  Cond.methodLink own idx Y.1 ∈ tbG ∧ Cond.static Y.1 ∈ tbG ∧ Cond.initialized Y.1.cls ∈ tbG ∧ Cond.code Y.1 Y.2.1 Y.2.2.1 Y.2.2.2 ∈ tbG ∧ Y.2.2.1 ≤ 8 ∧
  (Y.1.cls ≠ "java/lang/invoke/MethodHandle" ∧ Y.1.cls ≠ "java/lang/invoke/VarHandle" ∧ (parseMethodDescriptor Y.1.desc).map (fun d => d.parameters.length) = some n)
def LkN (own : String) (idx : Nat) (Y : YC) (n : Nat) : Prop :=
  Cond.methodLinkNest own idx Y.1 "ZeroParts" ∈ nestW ∧ Cond.static Y.1 ∈ tbG ∧ Cond.initialized Y.1.cls ∈ tbG ∧ Cond.code Y.1 Y.2.1 Y.2.2.1 Y.2.2.2 ∈ tbG ∧ Y.2.2.1 ≤ 8 ∧
  (Y.1.cls ≠ "java/lang/invoke/MethodHandle" ∧ Y.1.cls ≠ "java/lang/invoke/VarHandle" ∧ (parseMethodDescriptor Y.1.desc).map (fun d => d.parameters.length) = some n)
theorem wsY_good {Y : YC} (h : Cond.code Y.1 Y.2.1 Y.2.2.1 Y.2.2.2 ∈ tbG) : GoodIn tbG (wsY Y) := by
  refine tb_in (fun w hw => ?_)
  rcases List.mem_cons.mp hw with rfl | hw
  · exact h
  · exact hw
theorem rm_ok {d d' mc ms mL : Nat} (h : d' < d) (hm : mL ≤ 8) : (rmD d' 0 0).frames + 1 ≤ (rmD d mc ms).frames ∧ 8 + (mL + 11) + (rmD d' 0 0).locals ≤ (rmD d mc ms).locals := by
  unfold rmD
  exact ⟨by show d' + 1 ≤ d; omega, by show 8 + (mL + 11) + 27 * d' ≤ 27 * d; omega⟩
section ZC
variable {G : Gt} {d d' : Nat} {Y Y' : YC} {F : Fn} {pc idx n i ci : Nat} {lv : List (Nat × Value)} {st st0 As : List Value} {μ : Mm} {P' : Option Value → Mm → Prop}
theorem z_callV (hdg : decode Y.2.1 pc = .ok (.invokevirtual idx, 3)) (hst : st0 = As.reverse ++ rf G i :: st) (L : LkV Y.1.cls idx Y' n) (hn : As.length = n) (hd : d' < d) (hF : Fo i ci) (hci : (vwCl[ci]?).map (fun q => q.1) = some Y'.1.cls) (hr : (st.map fun v => v.category).sum ≤ 8)
    (h : EV G d' Y' (rf G i :: As) μ P') (kk : ∀ (v : Option Value) (μ' : Mm), P' v μ' → Zs G d Y F (pc + 3) lv (v.toList ++ st) μ') : Zs G d Y F pc lv st0 μ := by
  intro p e s m args below meth c H locs ls E hP hD hS hl
  subst hst
  obtain ⟨q, hq, hqC⟩ := Option.map_eq_some_iff.mp hci
  obtain ⟨hi, ks, hsh⟩ := hF
  obtain ⟨l1, l2, l3, l4, l5, l6, l7⟩ := L
  refine z_run E hD hS hl (va_runV (C := Y'.1.cls) (As := As) (rest := st) ⟨E.x, E.b, E.ml, E.o, E.t⟩ (h H.size) ⟨callB_of n E.t (wsY_good l5) rfl rfl rfl (E.t _ l4) (E.t _ l1) l7 (rm_ok hd l6), E.t _ l2, E.t _ l3⟩ ⟨pcY_blind _ _ _ _, ?_, pcY_at E hP hD hS (rf G i :: As)⟩ rfl hn hl.1 rfl (lv_room hr) hdg ⟨Nat.le_add_right _ _, Nat.le_add_right _ _⟩) kk
  have hg := wl_get G μ hi
  rw [ent_o hsh] at hg
  have := va_recv E.k hP hq hg
  rw [hqC] at this
  exact this
theorem z_callS (hdg : decode Y.2.1 pc = .ok (.invokestatic idx, 3)) (hst : st0 = As.reverse ++ st) (L : LkS Y.1.cls idx Y' n) (hn : As.length = n) (hd : d' < d) (hr : (st.map fun v => v.category).sum ≤ 8)
    (h : EV G d' Y' As μ P') (kk : ∀ (v : Option Value) (μ' : Mm), P' v μ' → Zs G d Y F (pc + 3) lv (v.toList ++ st) μ') : Zs G d Y F pc lv st0 μ := by
  intro p e s m args below meth c H locs ls E hP hD hS hl
  subst hst
  obtain ⟨l1, l2, l4, l5, l6, l7⟩ := L
  exact z_run E hD hS hl (va_runS (As := As) (rest := st) ⟨E.x, E.b, E.ml, E.o, E.t⟩ (h H.size) ⟨callB_of n E.t (wsY_good l5) rfl rfl rfl (E.t _ l4) (E.t _ l1) l7 (rm_ok hd l6), E.t _ l2⟩ ⟨pcY_blind _ _ _ _, pcY_at E hP hD hS As⟩ rfl hn hl.1 rfl (lv_room hr) hdg ⟨Nat.le_add_right _ _, Nat.le_add_right _ _⟩) kk
theorem z_callN (hdg : decode Y.2.1 pc = .ok (.invokestatic idx, 3)) (hst : st0 = As.reverse ++ st) (L : LkN Y.1.cls idx Y' n) (hn : As.length = n) (hd : d' < d) (hr : (st.map fun v => v.category).sum ≤ 8)
    (h : EV G d' Y' As μ P') (kk : ∀ (v : Option Value) (μ' : Mm), P' v μ' → Zs G d Y F (pc + 3) lv (v.toList ++ st) μ') : Zs G d Y F pc lv st0 μ := by
  intro p e s m args below meth c H locs ls E hP hD hS hl
  subst hst
  obtain ⟨l1, l2, l4, l5, l6, l7⟩ := L
  exact z_run E hD hS hl (va_runSN (As := As) (rest := st) ⟨E.x, E.b, E.ml, E.o, E.t⟩ (h H.size) ⟨va_cnB n E.t (wsY_good l5) rfl rfl rfl (E.c.1.1 _ l1) (E.t _ l4) l7 (rm_ok hd l6), E.t _ l2, trivial⟩ ⟨pcY_blind _ _ _ _, pcY_at E hP hD hS As⟩ rfl hn hl.1 rfl (lv_room hr) hdg ⟨Nat.le_add_right _ _, Nat.le_add_right _ _⟩) kk
end ZC
/-- a method's contract out of the walk of its body -/
theorem ev_of {G : Gt} {d : Nat} {Y : YC} {vs : List Value} {μ : Mm} {P : Option Value → Mm → Prop} (hy : plainName Y.1.cls = true) (hle : (lg_sl vs).length ≤ Y.2.2.1) (h : Zs G d Y (fnN G P) 0 (lv_args 0 vs) [] μ) : EV G d Y vs μ P := by
  intro sz
  refine Met.ofW (cc := Y.2.1) (maxL := Y.2.2.1) (ret := Y.2.2.2) hy rfl ?_
  intro p e s m args below meth c s₁ B hml hv
  obtain ⟨rfl, hsz, hP, hK, hD0, hC⟩ := hv
  subst hsz
  have hl := lv_entry vs (n := Y.2.2.1) hle
  rw [lg_entry_eq]
  have hts := atoms_spec (ws := wsY Y) B.pre
  exact h p e s m vs.toArray below meth c s.heap [] _ ⟨B.exec, B.bytes, hml, B.returns, B.notSynchronized, findClass_of_methodNamed B.named, fun w hw => hts w (List.mem_cons_of_mem _ hw), hK, hC⟩ hP (wl_DA hD0) va_S.rf hl
