def R_law : String := "ZeroPartsLaw"
def lw_P (b : Addr) (xs : List Int32) (args : Array Value) (s : State) : Prop := args = #[.ref b] ∧ s.IntsAt b xs ∧ xs.length ≤ 1536 ∧ (Jvm.Cond.and given_1 narrow_1).before args s = true
/-- what a walk over the start with the record d0 says of its end, said of the start itself -/
theorem lw_closed {s t : State} {o : Outcome} {d0 : Drawn} {L : List Loc} {k n : Nat} (hd0 : s.drawn.sameBut d0 lw_cs) (hv : ∃ v, o = .returned v) (hW : (s.setDrawn d0).WarmedH t.vm) (hs : (s.setDrawn d0).sameButNew ({ t with vm := s.vm } : State) L k n) : State.butDraws s t lw_cs (fun t1 => Framed s o t1 L k n) := by
  have h2 : t.drawn = d0 := congrArg State.drawn hs.1
  refine ⟨⟨hv, hW, State.sameButNew.setDrawn hs s.drawn⟩, ?_, by decide⟩
  rw [h2]
  exact hd0
def lw_Q (_ : Array Value) (s : State) (o : Outcome) (t : State) : Prop := o = .returned (some (.int 1)) ∧ State.butDraws s t lw_cs (fun t1 => Framed s o t1 [] 601024 7293034)
def lw_Z (below : List Frame) (a : Array Value) (s : State) : State → Prop := fun t => ∃ o, t.status = .running ∧ Ended t below o ∧ lw_Q a s o t
/-- the law's own end, with 1 on the stack, nothing written that was there before, its room as the claim has it; d0: the record of draws at this point (at the entry s.drawn: begin with 'refine W.base ?_' and 'have hd0 := Drawn.sameBut.refl s.drawn lw_cs') -/
theorem lw_ret {p : Program} {l : Launch} {e : Env} {s : State} {m : MethodId} {below : List Frame} {meth : Method} {c : Code} {b : Nat} {d0 : Drawn} (hd0 : s.drawn.sameBut d0 lw_cs) (hx : p.tables.exec = Jvm.exec) (hb : c.code = code) (hr : meth.sig.returnType = ret) (hlocks : meth.locks = false) {pc : Nat} {H : Heap} {ls : Array Slot} (hdg : decode code pc = .ok (.ireturn, 1)) : W p l e room_1 (s.setDrawn d0) m #[Value.ref b] below meth c H [] 601024 7293034 (lw_Z below #[Value.ref b] s) (F0 m pc ls [.int 1]) := by
  intro T hT X
  obtain ⟨fs, hret, hrun, hended, hW, hframe⟩ := X.leave (v := some (.int 1)) (hlocks := hlocks) (fun h => by rw [hr] at h; cases h)
  have hmeth' : T.vm.method? m = some meth := X.method'
  refine ⟨T.setFrames fs, ?_, .returned (some (.int 1)), hrun, hended, rfl, lw_closed hd0 ⟨_, rfl⟩ hW hframe⟩
  jvm_step X.here [X.here.top, hx, hb, hdg, hmeth', hr, ret, narrow_b1]
  (try refine ⟨rfl, ?_⟩); (try refine ⟨rfl, ?_⟩)
  first | (intro acts; rw [hret _ acts rfl rfl rfl]) | rw [hret _ _ rfl rfl rfl]
  exact Steps.refl _
/-- what holds at the law's entry: the machine, the code, the tables' words (any of lw_tbl by 'hts w (by decide +kernel)'), the script of L ints xs at the cell b, what the Statement gives of the start (any of its parts by flat_of_before) -/
def lw_At (p : Program) (s : State) (m : MethodId) (meth : Method) (c : Code) (b L : Nat) (xs : Nat → Int32) : Prop :=
  p.tables.exec = Jvm.exec ∧ c.code = code ∧ meth.sig.returnType = ret ∧ c.maxLocals = 9 ∧ s.vm.findClass R_law = some m.cls ∧ (∀ w ∈ lw_tbl, w.before #[Value.ref b] s = true) ∧ va_X b L xs s s.heap ∧ b < s.heap.size ∧ meth.locks = false ∧ (Jvm.Cond.and given_1 narrow_1).before #[Value.ref b] s = true
/-- what the law's frame knows of its start -/
def HYs (G : Gt) (b L : Nat) (xs : Nat → Int32) (args : Array Value) (s : State) : Prop := args = #[Value.ref b] ∧ va_X b L xs s s.heap ∧ b < s.heap.size ∧ ∀ i : Nat, i < NW → s.heap.size ≤ G.2.2.1 i
def enL (G : Gt) (b L : Nat) (xs : Nat → Int32) : Code → List Frame → Array Value → State → State → Prop := fun _ below args s t => HYs G b L xs args s → lw_Z below #[Value.ref b] s t
section LW
variable {G : Gt} {b L : Nat} {xs : Nat → Int32} {d : Nat} {Y : YC} {pc a2 b2 k n : Nat} {lv : List (Nat × Value)} {st : List Value} {μ : Mm}
theorem zL (h : ∀ (p : Program) (e : Env) (s : State) (m : MethodId) (args : Array Value) (below : List Frame) (meth : Method) (c : Code) (H : Heap) (locs : List Loc) (ls : Array Slot), HYs G b L xs args s → En G Y p s m args meth c → va_P G.2.1 vwCl (wl G μ) H → va_D (aA G s.heap.size) (wl G μ) → va_S (aA G s.heap.size) s.heap H locs → lv_has ls Y.2.2.1 lv →
    W p G.1 e (rmF d (a2, b2, k, n, enL G b L xs)) s m args below meth c H locs k n (enL G b L xs c below args s) (F0 m pc ls st)) : Zs G d Y (a2, b2, k, n, enL G b L xs) pc lv st μ := by
  intro p e s m args below meth c H locs ls En hP hD hS hl
  by_cases hy : HYs G b L xs args s
  · exact h p e s m args below meth c H locs ls hy En hP hD hS hl
  · intro T hT X
    exact ⟨_, Steps.refl _, fun q => absurd q hy⟩
theorem hy_b {args : Array Value} {s : State} (h : HYs G b L xs args s) : ¬ aA G s.heap.size b := by
  have h1 := h.2.2.1
  rintro (⟨i, hi, e⟩ | h2)
  · have := h.2.2.2 i hi
    omega
  · omega
theorem nI_cl {i : Nat} (h : i < 2 ^ 31) : (nI i).toNatClampNeg = i := by
  rw [show (nI i).toNatClampNeg = (nI i).toInt.toNat from rfl, nI_toInt h]; rfl
theorem z_sld {i : Nat} (hdg : decode Y.2.1 pc = .ok (.iaload, 1)) (hi : i < L) (hL : L ≤ 1536) (kk : Zs G d Y (a2, b2, k, n, enL G b L xs) (pc + 1) lv (.int (xs i) :: st) μ) : Zs G d Y (a2, b2, k, n, enL G b L xs) pc lv (.int (nI i) :: .ref b :: st) μ :=
  zL (fun p e s m args below meth c H locs ls hy En hP hD hS hl => va_sld En.x En.b hy.2.1 hy.2.2.1 (hy_b hy) hS (vp_in_nI hi (by omega)) hdg (by rw [nI_cl (by omega)]; exact kk p e s m args below meth c H locs ls En hP hD hS hl))
theorem z_slen (hdg : decode Y.2.1 pc = .ok (.arraylength, 1)) (kk : Zs G d Y (a2, b2, k, n, enL G b L xs) (pc + 1) lv (.int (nI L) :: st) μ) : Zs G d Y (a2, b2, k, n, enL G b L xs) pc lv (.ref b :: st) μ :=
  zL (fun p e s m args below meth c H locs ls hy En hP hD hS hl => va_slen En.x En.b hy.2.1 hy.2.2.1 (hy_b hy) hS hdg (kk p e s m args below meth c H locs ls En hP hD hS hl))
theorem zr_aload_n {F : Fn} {k0 : Fin 4} {q : Nat} (hdg : decode Y.2.1 pc = .ok (.aload_n k0, 1)) (h : lv.lookup (k0 : Nat) = some (.ref q)) (kk : Zs G d Y F (pc + 1) lv (.ref q :: st) μ) : Zs G d Y F pc lv st μ := fun p e s m args below meth c H locs ls E hP hD hS hl => lv_aload_n E.x E.b hdg rfl (lk_at hl h) (kk p e s m args below meth c H locs ls E hP hD hS hl)
/-- the law's end, in any room -/
theorem lw_retR {p : Program} {l : Launch} {e : Env} {R : Room} {s : State} {m : MethodId} {below : List Frame} {meth : Method} {c : Code} {b : Nat} {d0 : Drawn} (hd0 : s.drawn.sameBut d0 lw_cs) (hx : p.tables.exec = Jvm.exec) (hb : c.code = code) (hr : meth.sig.returnType = ret) (hlocks : meth.locks = false) {pc : Nat} {H : Heap} {ls : Array Slot} (hdg : decode code pc = .ok (.ireturn, 1)) : W p l e R (s.setDrawn d0) m #[Value.ref b] below meth c H [] 601024 7293034 (lw_Z below #[Value.ref b] s) (F0 m pc ls [.int 1]) := by
  intro T hT X
  obtain ⟨fs, hret, hrun, hended, hW, hframe⟩ := X.leave (v := some (.int 1)) (hlocks := hlocks) (fun h => by rw [hr] at h; cases h)
  have hmeth' : T.vm.method? m = some meth := X.method'
  refine ⟨T.setFrames fs, ?_, .returned (some (.int 1)), hrun, hended, rfl, lw_closed hd0 ⟨_, rfl⟩ hW hframe⟩
  jvm_step X.here [X.here.top, hx, hb, hdg, hmeth', hr, ret, narrow_b1]
  (try refine ⟨rfl, ?_⟩); (try refine ⟨rfl, ?_⟩)
  first | (intro acts; rw [hret _ acts rfl rfl rfl]) | rw [hret _ _ rfl rfl rfl]
  exact Steps.refl _
theorem z_lawret (hk : k ≤ 601024) (hn : n ≤ 7293034) (hdg : decode code pc = .ok (.ireturn, 1)) : Zs G d Y_L_law (a2, b2, k, n, enL G b L xs) pc lv [.int (nI 1)] μ := by
  refine zL (fun p e s m args below meth c H locs ls hy En hP hD hS hl => ?_)
  obtain ⟨rfl, -, -, h4⟩ := hy
  have q : W p G.1 e (rmF d (a2, b2, k, n, enL G b L xs)) s m #[Value.ref b] below meth c H locs k n (lw_Z below #[Value.ref b] s) (F0 m pc ls [.int (nI 1)]) := by
    refine va_forget (fun z hz => ?_) ?_
    · rcases hS.2.2 z hz with ⟨i, hi, e⟩ | h
      · rw [e]; exact h4 i hi
      · exact h
    · refine W.widen hk hn ?_
      exact lw_retR (d0 := s.drawn) (Drawn.sameBut.refl s.drawn lw_cs) En.x En.b En.r En.lk hdg
  intro T hT X
  obtain ⟨t, a1, b1⟩ := q T hT X
  exact ⟨t, a1, fun _ => b1⟩
end LW
theorem and31 (x : Int32) : ∃ j : Nat, j < 32 ∧ x &&& nI 31 = nI j := by
  refine ⟨x.toUInt32.toNat &&& 31, Nat.lt_of_le_of_lt Nat.and_le_right (by decide), ?_⟩
  have e : x = nI x.toUInt32.toNat := by
    obtain ⟨u⟩ := x
    show Int32.ofUInt32 u = Int32.ofUInt32 (UInt32.ofNat u.toNat)
    rw [UInt32.ofNat_toNat]
  conv => lhs; rw [e]
  exact nI_and _ _
theorem lw_cmp {L i : Nat} (hL : L ≤ 1536) (hi : i ≤ 2000) : nI L - nI 3 < nI i ↔ L < i + 3 := by
  rcases Nat.lt_or_ge L 3 with h | h
  · have e : ∀ j, j < 3 → (nI j - nI 3).toInt = (j : Int) - 3 := by decide
    rw [Int32.lt_iff_toInt_lt, nI_toInt (by omega), e L h]; omega
  · rw [pk_sub h, nI_ltI (by omega) (by omega)]; omega
