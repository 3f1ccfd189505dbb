def xnm : List String := ["java/lang/RuntimeException", "java/lang/Exception"]
theorem castW_mem (i : Nat) {w : Cond} (h : castW[i]? = some w) : w ∈ castW := List.mem_of_getElem? h
/-- a throw's words: of the tables, or those that every method carries -/
def xOK (ik ic : Nat) (E : String) : Prop := Bundle.fit E = true ∧ Cond.classLink "ZeroParts" ik E ∈ tbG ∧ Cond.initialized E ∈ tbG ∧ (∀ w ∈ vx_atS "ZeroParts" ic E xnm, w ∈ tbG ∨ w ∈ castW) ∧ ∀ w ∈ Cond.classLink "ZeroParts" ik E :: Cond.initialized E :: vx_atS "ZeroParts" ic E xnm, vx_ot w = true
theorem xor_mem {l : List Cond} (ps : List Nat) (hp : l.filter goodWord = ps.filterMap (fun i => lw_tbl[i]?)) (h2 : ∀ w ∈ l.filter (fun w => !goodWord w), w ∈ castW) : ∀ w ∈ l, w ∈ tbG ∨ w ∈ castW := by
  intro w hw
  rcases hg : goodWord w with _ | _
  · exact Or.inr (h2 w (List.mem_filter.mpr ⟨hw, by rw [hg]; rfl⟩))
  · left
    have h1 : w ∈ l.filter goodWord := List.mem_filter.mpr ⟨hw, hg⟩
    rw [hp] at h1
    obtain ⟨i, -, hi⟩ := List.mem_filterMap.mp h1
    exact List.mem_filter.mpr ⟨List.mem_of_getElem? hi, hg⟩
set_option maxRecDepth 100000 in
theorem x_a : xOK 41 45 "java/lang/IllegalArgumentException" := ⟨by decide +kernel, tb_at 630 (by decide +kernel) rfl, tb_at 78 (by decide +kernel) rfl, xor_mem [75, 652, 661, 665, 668, 670, 653, 654, 96, 97, 655, 660, 666, 686, 642, 687, 644, 688, 646, 656, 658, 648, 682, 683, 685, 648, 673, 674, 675, 676, 676, 677, 678, 679, 679, 680, 681, 682, 672, 631, 639, 640, 641, 643, 645, 647, 651, 650, 649] (by decide +kernel) (by decide +kernel), by decide +kernel⟩
set_option maxRecDepth 100000 in
theorem x_i : xOK 69 73 "java/lang/IndexOutOfBoundsException" := ⟨by decide +kernel, tb_at 706 (by decide +kernel) rfl, tb_at 79 (by decide +kernel) rfl, xor_mem [75, 652, 661, 665, 668, 670, 653, 654, 96, 97, 655, 660, 666, 686, 642, 687, 644, 688, 646, 656, 658, 648, 682, 683, 685, 648, 717, 718, 719, 676, 676, 677, 678, 679, 679, 680, 681, 682, 716, 707, 709, 664, 710, 711, 712, 713, 651, 650, 714] (by decide +kernel) (by decide +kernel), by decide +kernel⟩
set_option maxRecDepth 100000 in
theorem x_s : xOK 78 82 "java/lang/IllegalStateException" := ⟨by decide +kernel, tb_at 785 (by decide +kernel) rfl, tb_at 80 (by decide +kernel) rfl, xor_mem [75, 652, 661, 665, 668, 670, 653, 654, 96, 97, 655, 660, 666, 686, 642, 687, 644, 688, 646, 656, 658, 648, 682, 683, 685, 648, 796, 797, 798, 676, 676, 677, 678, 679, 679, 680, 681, 682, 795, 786, 788, 663, 789, 790, 791, 792, 651, 650, 793] (by decide +kernel) (by decide +kernel), by decide +kernel⟩
/-- a method that throws: of what class, in what world -/
def xC (G : Gt) (P : Mm → Prop) (E : String) : String → State → State → Prop := fun cls st t => cls = E ∧ (∃ μ : Mm, P μ ∧ va_P G.2.1 vwCl (wl G μ) t.heap) ∧ va_F (aA G st.heap.size) st t
def enX (G : Gt) (P : Mm → Prop) (E : String) : Code → List Frame → Array Value → State → State → Prop := fun c below args s t => (∀ x ∈ c.exceptionTable.toList, False) → vx_MQ below (fun _ _ _ _ => False) (xC G P E) args s 1 6 (aA G s.heap.size) t
abbrev fnX (G : Gt) (P : Mm → Prop) (E : String) : Fn := (1, 6, 0, 0, enX G P E)
def EVx (G : Gt) (d : Nat) (Y : YC) (vs : List Value) (μ : Mm) (P : Mm → Prop) (E : String) : Prop := ∀ sz : Nat, vx_Met G.1 Y.1 (wsY Y) (rmD d 1 6) (pcY G vs μ sz) (fun _ _ _ _ => False) (xC G P E) 1 6 (aA G sz)
theorem evx_of {G : Gt} {d : Nat} {Y : YC} {vs : List Value} {μ : Mm} {P : Mm → Prop} {E : String} (hy : plainName Y.1.cls = true) (hle : (lg_sl vs).length ≤ Y.2.2.1) (h : Zs G d Y (fnX G P E) 0 (lv_args 0 vs) [] μ) : EVx G d Y vs μ P E := by
  intro sz
  refine vx_ofW (cc := Y.2.1) (maxL := Y.2.2.1) (ret := Y.2.2.2) hy rfl ?_
  intro p e s m args below meth c s₁ B hml hx hv
  obtain ⟨rfl, hsz, hP, hK, hD0, hC⟩ := hv
  subst hsz
  have hl := lv_entry vs (n := Y.2.2.1) hle
  rw [lg_entry_eq]
  have hts := atoms_spec (ws := wsY Y) B.pre
  have q := h p e s m vs.toArray below meth c s.heap [] _ ⟨B.exec, B.bytes, hml, B.returns, B.notSynchronized, findClass_of_methodNamed B.named, fun w hw => hts w (List.mem_cons_of_mem _ hw), hK, hC⟩ hP (wl_DA hD0) va_S.rf hl
  intro T hT X
  obtain ⟨t, a1, b1⟩ := q T hT X
  exact ⟨t, a1, b1 hx⟩
theorem wl_kept {G : Gt} {μ : Mm} {H H1 : Heap} (h : va_P G.2.1 vwCl (wl G μ) H) (hq : ∀ q : Nat, q < H.size → H1[q]? = H[q]?) : va_P G.2.1 vwCl (wl G μ) H1 := fun k q hk => (h k q hk).kept (hq q.1 (h k q hk).lt)
theorem z_throw {G : Gt} {d : Nat} {Y : YC} {pc : Nat} {lv : List (Nat × Value)} {μ : Mm} {P : Mm → Prop} {E text : String} {ik is ic : Nat} (hG : G.1.stackTraces = false) (hx : xOK ik ic E) (hY : Y.1.cls = "ZeroParts") (hd : 6 ≤ d) (hs : (is, text) ∈ thrS)
    (d0 : decode Y.2.1 pc = .ok (.new ik, 3)) (d3 : decode Y.2.1 (pc + 3) = .ok (.dup, 1)) (d4 : decode Y.2.1 (pc + 4) = .ok (.ldc is, 2)) (d6 : decode Y.2.1 (pc + 6) = .ok (.invokespecial ic, 3)) (d9 : decode Y.2.1 (pc + 9) = .ok (.athrow, 1)) (hp : P μ) : Zs G d Y (fnX G P E) pc lv [] μ := by
  intro p e s m args below meth c H locs ls En hP hD hS hl
  by_cases hh : ∀ x ∈ c.exceptionTable.toList, False
  · have hat : ∀ w ∈ vx_atS "ZeroParts" ic E xnm, w.before args s = true := fun w hw => (hx.2.2.2.1 w hw).elim (fun q => En.t w q) (fun q => va_Nw.use (castW_on w q) (En.c.1.2.1 w q))
    have q := vx_throwS (A := aA G s.heap.size) (p := p) (l := G.1) (e := e) (R := rmF d (fnX G P E)) (s := s) (m := m) (args := args) (below := below) (meth := meth) (c := c) (H := H) (locs := locs) (cells := 0) (slots := 0) (ls := ls) (rest := []) (Qc := fun _ _ _ _ => False) (XC := xC G P E) (free := aA G s.heap.size) (mc := 1) (ms := 6) (names := xnm) (own := "ZeroParts") (cls := E) (text := text) (ik := ik) (is := is) (ic := ic) (pc := pc)
      En.x En.b hG (by rw [← hY]; exact En.o) hx.1 (by decide +kernel) (En.t _ hx.2.1) (En.t _ hx.2.2.1) (En.c.2.1 _ hs) hat hx.2.2.2.2 En.c.2.2.1 En.c.2.2.2.1 hS (hl.1.trans En.ml.symm) d0 d3 d4 d6 d9 (fun x h => absurd (hh x h) id) (by show 2 + 3 < d; omega) (by show 0 + (13 * (2 + 1) + 43) ≤ 27 * d; omega) (Nat.le_refl _) (Nat.le_refl _) En.lk
      (fun t _ h2 h3 => ⟨rfl, ⟨μ, hp, wl_kept hP h3⟩, Nat.le_trans hS.1 h2, fun q a1 a2 => (h3 q (Nat.lt_of_lt_of_le a1 hS.1)).trans (hS.2.1 q a1 a2)⟩) hS.2.2 (Nat.le_refl _) (Nat.le_refl _)
    intro T hT X
    obtain ⟨t, a1, b1⟩ := q T hT X
    exact ⟨t, a1, fun _ => b1⟩
  · intro T hT X
    exact ⟨_, Steps.refl _, fun q => absurd q hh⟩
/-- the law's own wrappers: they catch -/
def wsW (Y : YC) (hh : List (Nat × Nat × Nat × Nat)) : List Cond := .codeWith Y.1 Y.2.1 Y.2.2.1 Y.2.2.2 hh :: tbG
def enW (G : Gt) (hh : List (Nat × Nat × Nat × Nat)) (P : Option Value → Mm → Prop) : Code → List Frame → Array Value → State → State → Prop := fun c below args s t => c.exceptionTable.toList = tableOf hh → MQ below (qC G P) args s 1 6 (aA G s.heap.size) t
def EVc (G : Gt) (d : Nat) (Y : YC) (hh : List (Nat × Nat × Nat × Nat)) (vs : List Value) (μ : Mm) (P : Option Value → Mm → Prop) : Prop := ∀ sz : Nat, Met G.1 Y.1 (wsW Y hh) (rmD d 1 6) (pcY G vs μ sz) (qC G P) 1 6 (aA G sz)
theorem evc_of {G : Gt} {d : Nat} {Y : YC} {hh : List (Nat × Nat × Nat × Nat)} {vs : List Value} {μ : Mm} {P : Option Value → Mm → Prop} (hy : plainName Y.1.cls = true) (hle : (lg_sl vs).length ≤ Y.2.2.1) (h : Zs G d Y (1, 6, 0, 0, enW G hh P) 0 (lv_args 0 vs) [] μ) : EVc G d Y hh vs μ P := by
  intro sz
  refine va_MetW (cc := Y.2.1) (maxL := Y.2.2.1) (ret := Y.2.2.2) (hh := hh) hy rfl ?_
  intro p e s m args below meth c s₁ B hml hv
  obtain ⟨rfl, hsz, hP, hK, hD0, hC⟩ := hv
  subst hsz
  have hl := lv_entry vs (n := Y.2.2.1) hle
  rw [lg_entry_eq]
  have hts := atoms_spec (ws := wsW Y hh) B.pre
  have q := h p e s m vs.toArray below meth c s.heap [] _ ⟨B.exec, B.bytes, hml, B.returns, B.notSynchronized, findClass_of_methodNamed B.named, fun w hw => hts w (List.mem_cons_of_mem _ hw), hK, hC⟩ hP (wl_DA hD0) va_S.rf hl
  intro T hT X
  obtain ⟨t, a1, b1⟩ := q T hT X
  exact ⟨t, a1, b1 (vx_table (x := Y.1) B (hts _ List.mem_cons_self))⟩
theorem zw_ret {G : Gt} {d : Nat} {Y : YC} {pc : Nat} {lv : List (Nat × Value)} {μ : Mm} {hh : List (Nat × Nat × Nat × Nat)} {P : Option Value → Mm → Prop} {a b k n : Nat} {x : Int32} (hk : k ≤ 1) (hn : n ≤ 6) (hr : Y.2.2.2 = some .int) (hdg : decode Y.2.1 pc = .ok (.ireturn, 1)) (h : P (some (.int x)) μ) : Zs G d Y (a, b, k, n, enW G hh P) pc lv [.int x] μ := by
  intro p e s m args below meth c H locs ls En hP hD hS hl
  have q : W p G.1 e (rmF d (a, b, k, n, enW G hh P)) s m args below meth c H locs k n (MQ below (qC G P) args s 1 6 (aA G s.heap.size)) (F0 m pc ls [.int x]) :=
    W.widen hk hn (W.iret En.x En.b (En.r.trans hr) (fun t ht hW => ⟨⟨_, μ, rfl, h, by rw [ht]; exact hP⟩, hS.F ht⟩) hS.2.2 hdg En.lk)
  intro T hT X
  obtain ⟨t, a1, b1⟩ := q T hT X
  exact ⟨t, a1, fun _ => b1⟩
theorem zr_astore_n {G : Gt} {d : Nat} {Y : YC} {F : Fn} {pc : Nat} {lv lv' : List (Nat × Value)} {st : List Value} {μ : Mm} {k0 : Fin 4} {i j : Nat} (hdg : decode Y.2.1 pc = .ok (.astore_n k0, 1)) (hi : (k0 : Nat) = i) (hn : i < Y.2.2.1) (h : (i, Value.ref j) :: lv.filter (fun q => !(q.1 == i) && !(q.1 + 1 == i && q.2.category == 2)) = lv') (k : Zs G d Y F (pc + 1) lv' (st) μ) : Zs G d Y F pc lv (.ref j :: st) μ := fun p e s m args below meth c H locs ls E hP hD hS hl => lv_astore_n E.x E.b hdg hi hl hn h (fun ls1 hl1 => k p e s m args below meth c H locs ls1 E hP hD hS hl1)
theorem zr_astore {G : Gt} {d : Nat} {Y : YC} {F : Fn} {pc : Nat} {lv lv' : List (Nat × Value)} {st : List Value} {μ : Mm} {i j : Nat} (hdg : decode Y.2.1 pc = .ok (.astore i, 2)) (hn : i < Y.2.2.1) (h : (i, Value.ref j) :: lv.filter (fun q => !(q.1 == i) && !(q.1 + 1 == i && q.2.category == 2)) = lv') (k : Zs G d Y F (pc + 2) lv' (st) μ) : Zs G d Y F pc lv (.ref j :: st) μ := fun p e s m args below meth c H locs ls E hP hD hS hl => lv_astore E.x E.b hdg hl hn h (fun ls1 hl1 => k p e s m args below meth c H locs ls1 E hP hD hS hl1)
theorem rm_okX {d d' x y mc ms mL : Nat} (h : d' < d) (hm : mL ≤ 8) : (rmD d' x y).frames + 1 ≤ (rmD d mc ms).frames ∧ 8 + (mL + 11) + (rmD d' x y).locals ≤ (rmD d mc ms).locals := by
  unfold rmD
  exact ⟨by show d' + 1 ≤ d; omega, by show 8 + (mL + 11) + 27 * d' ≤ 27 * d; omega⟩
/-- a wrapper's call that throws, and its handler -/
theorem z_callX {G : Gt} {d d' : Nat} {Y Y' : YC} {pc idx n i ci : Nat} {lv : List (Nat × Value)} {st st0 As : List Value} {μ : Mm} {P : Mm → Prop} {P' : Option Value → Mm → Prop} {E : String} {hh : List (Nat × Nat × Nat × Nat)} (hdg : decode Y.2.1 pc = .ok (.invokevirtual idx, 3)) (hst : st0 = As.reverse ++ rf G i :: st) (L : LkV Y.1.cls idx Y' n) (hn : As.length = n) (hd : d' < d) (hF : Fo i ci) (hci : (vwCl[ci]?).map (fun q => q.1) = some Y'.1.cls) (hr : (st.map fun v => v.category).sum ≤ 8)
    (h : EVx G d' Y' (rf G i :: As) μ P E) (pre : List ExceptionTableEntry) (x : ExceptionTableEntry) (suf : List ExceptionTableEntry) (hsp : tableOf hh = pre ++ x :: suf) (hpass : ∀ z ∈ pre, covers z pc = false ∨ (z.catchType ≠ 0 ∧ ∃ nm : String, Cond.classLink Y.1.cls z.catchType nm ∈ tbG ∧ (E, nm) ∈ ncW)) (hx : covers x pc = true) (h0 : x.catchType ≠ 0) (hlink : Cond.classLink Y.1.cls x.catchType E ∈ tbG) (hcast : Cond.castable E E ∈ castW)
    (kk : ∀ (q : Nat) (μ' : Mm), P μ' → Zs G d Y (0, 0, 1, 6, enW G hh P') x.handlerPc lv [.ref q] μ') : Zs G d Y (1, 6, 0, 0, enW G hh P') pc lv st0 μ := by
  intro p e s m args below meth c H locs ls En hP hD hS hl
  by_cases htab : c.exceptionTable.toList = tableOf hh
  · subst hst
    obtain ⟨q, hq, hqC⟩ := Option.map_eq_some_iff.mp hci
    obtain ⟨hi, ks, hsh⟩ := hF
    obtain ⟨l1, l2, l3, l4, l5, l6, l7⟩ := L
    have hrv : ∃ cell : Cell, H[G.2.2.1 i]? = some cell ∧ cell.vm.isStatics = false ∧ s.vm.findClass Y'.1.cls = some cell.cls := by
      have hg := wl_get G μ hi
      rw [ent_o hsh] at hg
      have := va_recv En.k hP hq hg
      rw [hqC] at this
      exact this
    have hrun := vx_runV (R := rmF d (1, 6, 0, 0, enW G hh P')) (below := below) (meth := meth) (e := e) (locs := locs) (cells := 0) (slots := 0) (C := Y'.1.cls) (As := As) (rest := st) (b := G.2.2.1 i) (g := F0 m pc ls (As.reverse ++ rf G i :: st)) ⟨En.x, En.b, En.ml, En.o, En.t⟩ (h H.size) ⟨callB_of n En.t (wsY_good l5) rfl rfl rfl (En.t _ l4) (En.t _ l1) l7 (rm_okX hd l6), En.t _ l2, En.t _ l3⟩ ⟨pcY_blind _ _ _ _, hrv, pcY_at En hP hD hS (rf G i :: As)⟩ rfl hn hl.1 rfl (lv_room hr) hdg ⟨Nat.le_refl _, Nat.le_refl _⟩
    intro T hT X
    have hA : ∀ q : Nat, aA G H.size q → aA G s.heap.size q := fun q hq => hq.elim Or.inl (fun h => Or.inr (Nat.le_trans hS.1 h))
    rcases hrun T hT X with ⟨v, st₀, t, T', L, -, -, -, -, -, hfalse, -⟩ | ⟨q9, st₀, t, T', L, E', ce, b0, X', hL, e1, e2, ⟨rfl, ⟨μ', hp, hb⟩, hz, hk⟩, hce, hcv, hcl, stp⟩
    · exact hfalse.elim
    · rw [b0] at hz hk
      have kq := vx_catch (pc := pc) (rest := st) (own := Y.1.cls) (name := E') (E := E') (ce := ce) (q := q9) (H := T'.heap) (ls := ls) (locs := locs ++ L) (cells := 0 + 1) (slots := 0 + 6) (Q := enW G hh P' c below args s) En.o pre x suf (htab.trans hsp) (fun z hz => (hpass z hz).imp id (fun w => ⟨w.1, w.2.choose, En.t _ w.2.choose_spec.1, En.c.1.2.2 _ w.2.choose_spec.2⟩)) hx h0 (En.t _ hlink) (va_Nw.use (castW_on _ hcast) (En.c.1.2.1 _ hcast)) (by rw [e1]; exact hce) hcv hcl
        (kk q9 μ' hp p e s m args below meth c T'.heap (locs ++ L) ls En (by rw [e1]; exact hb) (wl_D hD)
          ⟨Nat.le_trans hS.1 (by rw [e1]; exact hz), fun q h1 h2 => by rw [e1, hk q (Nat.lt_of_lt_of_le h1 hS.1) (fun z => h2 (hA q z))]; exact hS.2.1 q h1 h2, fun q hq => by
            rcases List.mem_append.mp hq with h | h
            · exact hS.2.2 q h
            · exact hA _ (hL q h)⟩ hl)
      obtain ⟨t2, a1, b1⟩ := kq T' rfl X'
      exact ⟨t2, stp.trans a1, b1⟩
  · intro T hT X
    exact ⟨_, Steps.refl _, fun q => absurd q htab⟩
def LkW (own : String) (idx : Nat) (Y : YC) (hh : List (Nat × Nat × Nat × Nat)) (n : Nat) : Prop :=
  Cond.methodLink own idx Y.1 ∈ tbG ∧ Cond.static Y.1 ∈ tbG ∧ Cond.initialized Y.1.cls ∈ tbG ∧ Cond.codeWith Y.1 Y.2.1 Y.2.2.1 Y.2.2.2 hh ∈ tbG ∧ Y.2.2.1 ≤ 8 ∧
  (Y.1.cls ≠ "java/lang/invoke/MethodHandle" ∧ Y.1.cls ≠ "java/lang/invoke/VarHandle" ∧ (parseMethodDescriptor Y.1.desc).map (fun d => d.parameters.length) = some n)
theorem rmF_c (d a b k n : Nat) (Q : Code → List Frame → Array Value → State → State → Prop) : rmF d (a + 1, b + 6, k, n, Q) = rmF d (a, b, k + 1, n + 6, Q) := by
  show ({ frames := d, cells := k + (a + 1), slots := n + (b + 6), locals := 27 * d } : Room) = { frames := d, cells := k + 1 + a, slots := n + 6 + b, locals := 27 * d }
  rw [show k + (a + 1) = k + 1 + a by omega, show n + (b + 6) = n + 6 + b by omega]
/-- the law's call of a wrapper -/
theorem z_callW {G : Gt} {d d' : Nat} {Y Y' : YC} {pc idx nn a b k n : Nat} {Q : Code → List Frame → Array Value → State → State → Prop} {lv : List (Nat × Value)} {st st0 As : List Value} {μ : Mm} {P : Option Value → Mm → Prop} {hh : List (Nat × Nat × Nat × Nat)} (hdg : decode Y.2.1 pc = .ok (.invokestatic idx, 3)) (hst : st0 = As.reverse ++ st) (L : LkW Y.1.cls idx Y' hh nn) (hn : As.length = nn) (hd : d' < d) (hr : (st.map fun v => v.category).sum ≤ 8)
    (h : EVc G d' Y' hh As μ P) (kk : ∀ (v : Option Value) (μ' : Mm), P v μ' → Zs G d Y (a, b, k + 1, n + 6, Q) (pc + 3) lv (v.toList ++ st) μ') : Zs G d Y (a + 1, b + 6, k, n, Q) pc lv st0 μ := by
  intro p e s m args below meth c H locs ls En hP hD hS hl
  subst hst
  obtain ⟨l1, l2, l4, l5, l6, l7⟩ := L
  have ht : ∀ w ∈ wsW Y' hh, w ∈ tbG := fun w hw => (List.mem_cons.mp hw).elim (fun q => q ▸ l5) id
  have hin : GoodIn tbG (va_wsS Y.1.cls idx Y'.1 (wsW Y' hh)) := tb_in (fun w hw => by
    unfold va_wsS at hw
    rcases List.mem_append.mp hw with q | q
    · simp only [List.mem_cons, List.not_mem_nil, or_false] at q
      rcases q with rfl | rfl | rfl
      · exact l1
      · exact l2
      · exact l4
    · exact ht w q)
  have hrun := vx_runSW (R := rmF d (a + 1, b + 6, k, n, Q)) (below := below) (meth := meth) (e := e) (locs := locs) (cells := k) (slots := n) (As := As) (rest := st) (g := F0 m pc ls (As.reverse ++ st)) ⟨En.x, En.b, En.ml, En.o, En.t⟩ (h H.size) (vx_cwSW nn En.t hin rfl rfl rfl l7 (rm_okX hd l6)) ⟨pcY_blind _ _ _ _, pcY_at En hP hD hS As⟩ rfl hn hl.1 rfl (lv_room hr) hdg ⟨by show k + 1 ≤ k + (a + 1); omega, by show n + 6 ≤ n + (b + 6); omega⟩
  intro T hT X
  have hA : ∀ q : Nat, aA G H.size q → aA G s.heap.size q := fun q hq => hq.elim Or.inl (fun h => Or.inr (Nat.le_trans hS.1 h))
  obtain ⟨v, st₀, t, T', L, h0, X', hL, e1, e2, ⟨⟨v', μ', hv, hp, hb⟩, hz, hk⟩, stp⟩ := hrun T hT X
  cases hv
  rw [h0] at hz hk
  rw [rmF_c] at X'
  obtain ⟨t2, a1, b1⟩ := kk v μ' hp p e s m args below meth c T'.heap (locs ++ L) ls En (by rw [e1]; exact hb) (wl_D hD)
    ⟨Nat.le_trans hS.1 (by rw [e1]; exact hz), fun q h1 h2 => by rw [e1, hk q (Nat.lt_of_lt_of_le h1 hS.1) (fun z => h2 (hA q z))]; exact hS.2.1 q h1 h2, fun q hq => by
      rcases List.mem_append.mp hq with h | h
      · exact hS.2.2 q h
      · exact hA _ (hL q h)⟩ hl T' rfl X'
  exact ⟨t2, stp t2 a1, b1⟩
