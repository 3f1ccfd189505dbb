section BF
variable {l : Launch} {R R0 : Room} {p : Program} {e : Env} {below : List Frame} {s : State} {sargs : Array Value} {y : MethodName} {len Wn : Nat} {bytes : ByteArray} {maxL : Nat} {ret : Option FieldType}
/-- a call of a method whose class need not be ripe: its walk, from the caller's own stand -/
theorem backF {Pc : Array Value → State → Prop} {Qc : Array Value → State → Outcome → State → Prop} {free : Addr → Prop}
    (hy : plainFor y = true) (hblind : FrameBlind Pc) (hc0 : R0.cells = 0) (hs0 : R0.slots = 0) (hframes : R0.frames + 1 ≤ R.frames) (hlocals : Wn + (maxL + 11) + R0.locals ≤ R.locals)
    (hcode : ∀ a' U, s.WarmedH U.vm → (Cond.code y bytes maxL ret).before a' U = true)
    (body : ∀ (s' : State) (mk : MethodId) (a : Array Value) (fr : List Frame) (methY : Method) (cY : Code), s.WarmedH s'.vm → s'.methodNamed? y = some mk → cY.code = bytes → cY.maxLocals = maxL → methY.sig.returnType = ret → methY.locks = false → Pc a s' →
      W p l e R0 s' mk a fr methY cY s'.heap [] 0 0 (MQ fr Qc a s' 0 0 free) (entryFrame mk a maxL)) : Back l R p e below s sargs y len Wn (PreOf R 0 0 Pc) (PostOf Qc 0 0 free) := by
  intro m meth c A g ig mk a X hg hsize hdg hW hn hp
  have h2 := hcode a A.U X.warmed
  obtain ⟨h4, h5, hP⟩ := hp
  obtain ⟨U, Ls, c0, s0⟩ := A
  dsimp only [Pt.U, Pt.locs, Pt.cells, Pt.slots] at h2 h4 h5 hP X hn ⊢
  obtain ⟨methY, cY, hmY, hcY, hbY, hlY, hrY, hkY, -, -⟩ := Cond.code_spec hn h2
  have h : At U g.method c below := by rw [hg]; exact X.here
  have hroom : (U.calling g mk a).hasRoom e.platform R0 = true := X.room_calling (g := g) (R' := R0) hsize hmY hcY hframes (by rw [hlY]; omega) (by rw [hc0]; exact h4) (by rw [hs0]; exact h5)
  have hf : (U.calling g mk a).frames = .invoking mk a :: .java g :: U.frames.tail := State.frames_calling h.top g mk a
  have hcur := State.cur_lt_of_frames hf
  have hgc : (U.calling g mk a).code? g.method = some c := by
    have := h.code
    rw [State.code?_eq] at this ⊢
    simpa [State.calling, State.pushFrame, State.setFrames] using this
  have hhears : (U.calling g mk a).hears mk (.java g :: U.frames.tail) = true := by simp [State.hears, hgc, hdg, Except.toOption]
  have hable : (U.calling g mk a).curStatus? = some .runnable := by simpa [State.calling] using h.runnable
  have halone : (U.calling g mk a).alone = true := by simpa [State.calling] using h.alone
  have hname : (U.calling g mk a).methodNamed? y = some mk := hn
  have hmeth : (U.calling g mk a).vm.method? mk = some methY := hmY
  have hf1 : ((U.calling g mk a).setFrames (.java (entryFrame mk a maxL) :: .java g :: U.frames.tail)).frames = .java (entryFrame mk a maxL) :: .java g :: U.frames.tail := State.frames_setFrames _ hcur
  have ht1 := State.topJava?_of_frames hf1
  have hplain : ((U.calling g mk a).setFrames (.java (entryFrame mk a maxL) :: .java g :: U.frames.tail)).plainMethod mk := State.plainMethod.of_named (s := U.calling g mk a) hy hname hmeth
  have hAt : At ((U.calling g mk a).setFrames (.java (entryFrame mk a maxL) :: .java g :: U.frames.tail)) mk cY (.java g :: U.frames.tail) :=
    ⟨by rw [ht1]; rfl, ⟨[], by rw [hf1]; rfl⟩, h.running, by simpa using hable, by simpa using halone,
      by rw [State.code?_eq]; simp [State.setFrames, hmeth, hcY], hplain⟩
  have hWs : s.WarmedH (U.calling g mk a).vm := X.warmed
  obtain ⟨t0, ht0, -⟩ := State.frames_cons hf
  have XC : Stand p l e R0 (U.calling g mk a) mk a (.java g :: U.frames.tail) methY cY ((U.calling g mk a).setFrames (.java (entryFrame mk a maxL) :: .java g :: U.frames.tail)) [] 0 0 := by
    refine ⟨X.admits, X.cas, X.clock, hf, hroom, hhears, hmeth, hcY, hAt, by rw [hf1]; rfl, State.WarmedH.refl _, by rw [State.stackLimits_setFrames], by rw [State.stackBytes_setFrames], ?_⟩
    exact (State.sameButNew.refl (U.calling g mk a) ht0).setFrames (.java (entryFrame mk a maxL) :: .java g :: U.frames.tail) hcur
  obtain ⟨s₂, hst, o, -, hend, hq⟩ := body (U.calling g mk a) mk a (.java g :: U.frames.tail) methY cY hWs hname hbY hlY hrY hkY (hblind a U g mk hP) ((U.calling g mk a).setFrames (.java (entryFrame mk a maxL) :: .java g :: U.frames.tail)) rfl XC
  obtain ⟨mid, hmid⟩ := h.above
  have hsteps : Steps p.tables e below (doInvoke e (U.setTop g) [] mk a).1 s₂ := by
    have e1 := doInvoke_enter (e := e) (g := g) h.top (m := mk) (args := a) [] hmY hcY hkY (X.notFull (g := g) hsize (by omega) (by rw [hlY]; omega))
    have e2 : (U.setTop g).pushFrame (.java (entryFrame mk a maxL)) = (U.calling g mk a).setFrames (.java (entryFrame mk a maxL) :: .java g :: U.frames.tail) := by
      show (U.setTop g).setFrames (.java (entryFrame mk a maxL) :: (U.setTop g).frames) = ((U.setTop g).setFrames (.invoking mk a :: (U.setTop g).frames)).setFrames (.java (entryFrame mk a maxL) :: .java g :: U.frames.tail)
      rw [State.setFrames_setFrames, State.frames_setTop' g h.top]
    rw [hlY] at e1
    rw [e1, e2]
    obtain ⟨n, h1, h2⟩ := hst
    exact ⟨n, h1, fun k hk => by
      have e3 : (.java g :: mid ++ below : List Frame) = .java g :: U.frames.tail := by rw [hmid]; rfl
      refine Within.weaken (mid := .java g :: mid) ?_
      rw [e3]
      exact h2 k hk⟩
  obtain ⟨hqc, L, hfe, hL⟩ := hq
  obtain ⟨⟨v, rfl⟩, hW₂, e2, q2, q3, q4, q5, q6⟩ := id hfe
  have e3 : s₂ = ({ (U.calling g mk a).setFrames s₂.frames with heap := s₂.heap, slotsUsed := s₂.slotsUsed } : State).setVm s₂.vm := by
    have : s₂ = ({ s₂ with vm := (U.calling g mk a).vm } : State).setVm s₂.vm := rfl
    rw [e2] at this
    exact this
  obtain ⟨c₂, i₂, len₂, hc₂, hd₂, hf₂⟩ := hend
  have hW' : U.WarmedH s₂.vm := hW₂
  have hcc : c₂ = c := by
    have h1 : s₂.code? g.method = U.code? g.method := by
      rw [State.code?_eq, State.code?_eq, hW'.alike.method?]
    exact Option.some.inj (hc₂.symm.trans (h1.trans h.code))
  subst hcc
  have hlen : len₂ = len := by rw [hdg] at hd₂; cases hd₂; rfl
  subst hlen
  obtain ⟨g₀, hg0⟩ := Option.isSome_iff_exists.mp h.top
  obtain ⟨r, hr⟩ := State.topJava?_eq_some.mp hg0
  have hs₂ : s₂ = (({ U with heap := s₂.heap, slotsUsed := s₂.slotsUsed } : State).setVm s₂.vm).setTop { g with pc := g.pc + len₂, stack := v.toList ++ g.stack } := by
    have hr' : (({ U with heap := s₂.heap, slotsUsed := s₂.slotsUsed } : State).setVm s₂.vm).frames = .java g₀ :: r := hr
    refine e3.trans ?_
    rw [hf₂, State.calling_eq h.top, State.setFrames_setFrames, State.setTop_of_frames _ hr', hr]
    rfl
  have hsame : U.sameButNew ({ U with heap := s₂.heap, slotsUsed := s₂.slotsUsed } : State) L 0 0 := by
    refine ⟨?_, q2, q3, q4, q5, q6⟩
    obtain ⟨t, ht, -⟩ := State.frames_cons hr
    show ({ U with heap := s₂.heap, slotsUsed := s₂.slotsUsed } : State) = { U.setFrames U.frames with heap := s₂.heap, slotsUsed := s₂.slotsUsed }
    rw [State.setFrames_self ht]
  subst hg
  refine ⟨v, ⟨(({ U with heap := s₂.heap, slotsUsed := s₂.slotsUsed } : State).setVm s₂.vm), Ls ++ L, c0 + 0, s0 + 0⟩,
    ⟨X.admits, X.cas, X.clock, X.frames, X.room, X.hears, X.method, X.code, (X.here.setHeapUsed s₂.heap s₂.slotsUsed).setVm hW'.alike, X.tail, State.WarmedH.trans X.warmed hW', X.limits, X.bytes, X.same.trans (hsame.setVm s.vm)⟩,
    ⟨g, mk, s₂, L, rfl, rfl, hqc, rfl, hL, rfl, rfl⟩, ?_⟩
  show Steps p.tables e below _ ((({ U with heap := s₂.heap, slotsUsed := s₂.slotsUsed } : State).setVm s₂.vm).setTop { g with pc := g.pc + len₂, stack := v.toList ++ g.stack })
  rw [← hs₂]
  exact hsteps
end BF
theorem zs_ord {G : Gt} {i : Nat} {μ : Mm} (hi : i < 5) : Zs G 0 Y_Jx29ce0_ordinal_8abf5 (fnN G (fun v u => v = some (.int (nI i)) ∧ u = μ)) 0 [(0, kf G (10 + i))] [] μ := by
  refine z_kload_n dJx29ce0_ordinal_8abf5_0 rfl ?_
  refine z_ordf hi dJx29ce0_ordinal_8abf5_1 (tb_at 1282 (by decide +kernel) rfl) ?_
  exact z_ret (ty := none) (v := none) rfl dJx29ce0_ordinal_8abf5_4 ⟨rfl, rfl⟩
def yOrd : MethodName := ⟨"ZeroParts$Word", "ordinal", "()I"⟩
theorem z_ord {G : Gt} {d : Nat} {Y : YC} {F : Fn} {pc idx i : Nat} {lv : List (Nat × Value)} {st : List Value} {μ : Mm} (hi : i < 5) (hdg : decode Y.2.1 pc = .ok (.invokevirtual idx, 3)) (L : Cond.methodLink Y.1.cls idx yOrd ∈ tbG) (hd : 0 < d) (hr : (st.map fun v => v.category).sum ≤ 8) (kk : Zs G d Y F (pc + 3) lv (.int (nI i) :: st) μ) : Zs G d Y F pc lv (kf G (10 + i) :: st) μ := by
  intro p e s m args below meth c H locs ls En hP hD hS hl
  have wc : Cond.code Y_Jx29ce0_ordinal_8abf5.1 Y_Jx29ce0_ordinal_8abf5.2.1 Y_Jx29ce0_ordinal_8abf5.2.2.1 Y_Jx29ce0_ordinal_8abf5.2.2.2 ∈ tbG := tb_at 492 (by decide +kernel) rfl
  have wi : Cond.instanceMethod Y_Jx29ce0_ordinal_8abf5.1 ∈ tbG := tb_at 491 (by decide +kernel) rfl
  have wm : Cond.sameMethod "ZeroParts$Word" "java/lang/Enum" "ordinal" "()I" ∈ tbG := tb_at 488 (by decide +kernel) rfl
  have ws : Cond.selects "ZeroParts$Word" yOrd Y_Jx29ce0_ordinal_8abf5.1 ∈ tbG := tb_at 490 (by decide +kernel) rfl
  have hw : ∀ w ∈ tbG, ∀ (a' : Array Value) (U : State), s.WarmedH U.vm → w.before a' U = true := fun w hw a' U hW => word_at hW (good_of_word (List.mem_filter.mp hw).2) (En.t w hw)
  have hK : Back G.1 (rmF d F) p e below s args Y_Jx29ce0_ordinal_8abf5.1 3 8 (PreOf (rmF d F) 0 0 (pcY G [kf G (10 + i)] μ H.size)) (PostOf (qC G (fun v u => v = some (.int (nI i)) ∧ u = μ)) 0 0 (aA G H.size)) := by
    refine backF (R0 := rmD 0 0 0) (bytes := Y_Jx29ce0_ordinal_8abf5.2.1) (maxL := 1) (ret := Y_Jx29ce0_ordinal_8abf5.2.2.2) (by decide +kernel) (pcY_blind _ _ _ _) rfl rfl (by show 0 + 1 ≤ d; omega) (by show 8 + (1 + 11) + 27 * 0 ≤ 27 * d; omega) (fun a' U hW => hw _ wc a' U hW) ?_
    intro s' mk a fr methY cY hW hn h1 h2 h3 h4 hv
    obtain ⟨rfl, hsz, hP', hK', hD0, hC⟩ := hv
    have hl := lv_entry [kf G (10 + i)] (n := 1) (Nat.le_of_ble_eq_true rfl)
    rw [← hsz] at hC
    rw [lg_entry_eq, ← hsz]
    exact zs_ord (μ := μ) hi p e s' mk _ fr methY cY s'.heap [] _ ⟨En.x, h1, h2, h3, h4, findClass_of_methodNamed hn, fun w hw' => hw w hw' _ s' hW, hK', hC⟩ hP' (wl_DA hD0) va_S.rf hl
  obtain ⟨cell, q1, q2, q3, q4⟩ := (En.c.2.2.2.2.2.2.2.2.2.2.2.1 i hi).kept hS.2.1
  refine z_run (st0 := kf G (10 + i) :: st) (rest := st) (P' := fun v u => v = some (.int (nI i)) ∧ u = μ) (a := #[kf G (10 + i)]) En hD hS hl ?_ (fun v μ' h => by obtain ⟨rfl, rfl⟩ := h; exact kk)
  have hlen : ∀ sig : MethodDescriptor, parseMethodDescriptor yOrd.desc = some sig → ([] : List Value).length = sig.parameters.length := by
    intro sig h
    have e2 : (parseMethodDescriptor yOrd.desc).map (fun z => z.parameters.length) = some 0 := by decide +kernel
    rw [h] at e2
    exact (Option.some.inj e2).symm
  intro T hT X
  obtain ⟨v, vm₁, ⟨U', l2, c2, s2⟩, hW₁, X', ⟨g', mk, t, L2, e1, e2, hq, h1, hL, h2, h3⟩, stp⟩ := va_callVU X En.x (C := "ZeroParts$Word") (owner := "java/lang/Enum") (x := yOrd) (y := Y_Jx29ce0_ordinal_8abf5.1) (bytes := Y_Jx29ce0_ordinal_8abf5.2.1) (maxL := 1) (ret := Y_Jx29ce0_ordinal_8abf5.2.2.2) En.o (En.t _ L) (En.t _ wm) (va_Decl.of (En.t _ wi) (En.t _ wc)) (by decide) (En.t _ ws) (En.t _ wi) (En.t _ wc) hK (b := G.2.2.2.1 (10 + i)) (by rw [hT]; exact q1) q2 q3 (g := F0 m pc ls (kf G (10 + i) :: st)) rfl (hl.1.trans En.ml.symm) (argsL := []) (rest := st) hlen rfl (lv_room hr) (by rw [En.b]; exact hdg)
    (fun vm₁ hW₁ => ⟨Nat.le_add_right _ _, Nat.le_add_right _ _, pcY_at En hP hD hS [kf G (10 + i)] (T.setVm vm₁) hT hW₁⟩)
  dsimp only [Pt.U, Pt.locs, Pt.cells, Pt.slots] at X' e1 e2 h1 h2 h3 stp
  subst h1; subst h2; subst h3
  exact ⟨v, (T.setVm vm₁).calling g' mk (Value.ref (G.2.2.2.1 (10 + i)) :: []).toArray, t, U', L2, hT, X', hL, e1, e2, hq, stp⟩
