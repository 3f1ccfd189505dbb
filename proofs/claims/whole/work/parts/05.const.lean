/-- the words of nest mates, which the lists of a method do not carry -/
def nestW : List Cond := [(Cond.fieldLinkNest "ZeroParts$Sequence" (29 : Nat) "ZeroParts$Group" "a" "I" "ZeroParts"), (Cond.fieldLinkNest "ZeroParts$SetTable" (56 : Nat) "ZeroParts$Group" "a" "I" "ZeroParts"), (Cond.fieldLinkNest "ZeroParts" (199 : Nat) "ZeroParts$Group" "a" "I" "ZeroParts"), (Cond.fieldLinkNest "ZeroParts$Sequence" (32 : Nat) "ZeroParts$Group" "b" "I" "ZeroParts"), (Cond.fieldLinkNest "ZeroParts$SetTable" (61 : Nat) "ZeroParts$Group" "b" "I" "ZeroParts"), (Cond.fieldLinkNest "ZeroParts" (202 : Nat) "ZeroParts$Group" "b" "I" "ZeroParts"), (Cond.fieldLinkNest "ZeroParts$SetTable" (52 : Nat) "ZeroParts$Sequence" "group" "LZeroParts$Group;" "ZeroParts"), (Cond.fieldLinkNest "ZeroParts" (56 : Nat) "ZeroParts$Sequence" "group" "LZeroParts$Group;" "ZeroParts"), (Cond.fieldLinkNest "ZeroParts$SetTable" (68 : Nat) "ZeroParts$Sequence" "elements" "[I" "ZeroParts"), (Cond.fieldLinkNest "ZeroParts" (149 : Nat) "ZeroParts$Sequence" "elements" "[I" "ZeroParts"), (Cond.fieldLinkNest "ZeroParts" (105 : Nat) "ZeroParts$Sequence" "parts" "[I" "ZeroParts"), (Cond.fieldLinkNest "ZeroParts$SetTable" (45 : Nat) "ZeroParts$Sequence" "size" "I" "ZeroParts"), (Cond.fieldLinkNest "ZeroParts" (87 : Nat) "ZeroParts$Sequence" "size" "I" "ZeroParts"), (Cond.fieldLinkNest "ZeroParts" (267 : Nat) "ZeroParts$History" "count" "I" "ZeroParts"), (Cond.fieldLinkNest "ZeroParts" (239 : Nat) "ZeroParts$SetTable" "blocks" "[I" "ZeroParts"), (Cond.fieldLinkNest "ZeroParts" (205 : Nat) "ZeroParts$SetTable" "blockCount" "I" "ZeroParts"), (Cond.fieldLinkNest "ZeroParts" (222 : Nat) "ZeroParts$CommandText" "length" "I" "ZeroParts"), (Cond.fieldLinkNest "ZeroParts" (259 : Nat) "ZeroParts$CommandText" "word" "LZeroParts$Word;" "ZeroParts"), (Cond.fieldLinkNest "ZeroParts" (338 : Nat) "ZeroParts$CommandText" "first" "I" "ZeroParts"), (Cond.fieldLinkNest "ZeroParts" (341 : Nat) "ZeroParts$CommandText" "second" "I" "ZeroParts"), (Cond.methodLinkNest "ZeroParts$Group" (35 : Nat) ({ cls := "ZeroParts", name := "contains", desc := "(JI)Z" } : MethodName) "ZeroParts"), (Cond.fieldLinkNest "ZeroParts$CommandText" (76 : Nat) "ZeroParts" "WORDS" "[LZeroParts$Word;" "ZeroParts"), (Cond.fieldLinkNest "ZeroParts$CommandText" (80 : Nat) "ZeroParts$Word" "letters" "Ljava/lang/String;" "ZeroParts"), (Cond.fieldLinkNest "ZeroParts$CommandText" (53 : Nat) "ZeroParts$Word" "numbers" "I" "ZeroParts")]
def thrS : List (Nat × String) := [(225, "what is from 0 to 13"), (94, "no such place"), (141, "what is from 0 to 3"), (103, "a part is from 0 to 5"), (197, "what is from 0 to 2"), (165, "a set has places of the sequence only"), (187, "what is from 0 to 5"), (43, "a modulus is from 1 to 6"), (71, "no such element"), (80, "the sequence has 10 elements"), (112, "no split into at most 6 blocks can be laid"), (189, "an index is not negative"), (234, "places is from 1 to 11"), (245, "a byte is from 0 to 127"), (247, "the text has 150 bytes"), (269, "the undo stack is empty")]
theorem nestW_on : ∀ w ∈ nestW, w.onTables = true := by decide +kernel
theorem nestW_form : ∀ w ∈ nestW, (∃ (a : String) (i : Nat) (b n d h : String), w = .fieldLinkNest a i b n d h) ∨ (∃ (a : String) (i : Nat) (x : MethodName) (h : String), w = .methodLinkNest a i x h) := by
  intro w hw
  simp only [nestW, List.mem_cons, List.not_mem_nil, or_false] at hw
  rcases hw with rfl | rfl | rfl | rfl | rfl | rfl | rfl | rfl | rfl | rfl | rfl | rfl | rfl | rfl | rfl | rfl | rfl | rfl | rfl | rfl | rfl | rfl | rfl | rfl <;> first | exact Or.inl ⟨_, _, _, _, _, _, rfl⟩ | exact Or.inr ⟨_, _, _, _, rfl⟩
theorem nestW_warm {s U : State} (hW : s.WarmedH U.vm) (h : ∀ w ∈ nestW, va_Nw w s) : ∀ w ∈ nestW, va_Nw w U := by
  intro w hw
  have h1 := h w hw
  rcases nestW_form w hw with ⟨a, i, b, n, d, h, rfl⟩ | ⟨a, i, x, h, rfl⟩
  · exact va_Nw.warmF hW h1
  · exact va_Nw.warmM hW h1
/-- words of throws and of handlers that a warmer machine keeps, though no method's list does -/
def castW : List Cond := [.castable "java/lang/IllegalArgumentException" "java/lang/IllegalArgumentException", .castable "java/lang/IndexOutOfBoundsException" "java/lang/IndexOutOfBoundsException", .castable "java/lang/IllegalStateException" "java/lang/IllegalStateException", .declares ⟨"java/lang/RuntimeException", "<init>", "(Ljava/lang/String;)V"⟩, .declares ⟨"java/lang/Exception", "<init>", "(Ljava/lang/String;)V"⟩, .declares ⟨"java/lang/Throwable", "<init>", "(Ljava/lang/String;)V"⟩]
def ncW : List (String × String) := [("java/lang/IllegalStateException", "java/lang/IndexOutOfBoundsException"), ("java/lang/IllegalArgumentException", "java/lang/IndexOutOfBoundsException"), ("java/lang/IllegalStateException", "java/lang/IllegalArgumentException")]
def xW (U : State) : Prop := (∀ w ∈ castW, va_Nw w U) ∧ ∀ q ∈ ncW, va_Nc q.1 q.2 U
theorem castW_on : ∀ w ∈ castW, w.onTables = true := by decide +kernel
theorem castW_form : ∀ w ∈ castW, (∃ a b : String, w = .castable a b) ∨ ∃ x : MethodName, w = .declares x := by
  intro w hw
  simp only [castW, List.mem_cons, List.not_mem_nil, or_false] at hw
  rcases hw with rfl | rfl | rfl | rfl | rfl | rfl <;> first | exact Or.inl ⟨_, _, rfl⟩ | exact Or.inr ⟨_, rfl⟩
theorem xW.warm {s U : State} (hW : s.WarmedH U.vm) (h : xW s) : xW U := by
  refine ⟨fun w hw => ?_, fun q hq => va_Nc.moved hW.alike (h.2 q hq)⟩
  have h1 := h.1 w hw
  rcases castW_form w hw with ⟨a, b, rfl⟩ | ⟨x, rfl⟩
  · exact va_Nw.warmC hW h1
  · exact va_tabs rfl (rfl : (s.setVm U.vm).vm = U.vm) (by rw [Cond.declares_setVm hW.alike]; exact h1)
theorem xW.same {s U : State} (hv : U.vm = s.vm) (h : xW s) : xW U := ⟨fun w hw => va_tabs (castW_on w hw) hv.symm (h.1 w hw), fun q hq => va_Nc.moved (by rw [hv]; exact Vm.Alike.refl s.vm) (h.2 q hq)⟩
/-- letters of the words, as bytes; how many numbers each takes -/
def wLen : List Nat := [5, 3, 5, 3, 5]
def wByt : List (List Int32) := [[103, 114, 111, 117, 112], [97, 100, 100], [109, 105, 110, 117, 115], [108, 97, 121], [115, 112, 108, 105, 116]]
def wNum (i : Nat) : Nat := match i with
  | 0 => 2
  | 1 => 1
  | 2 => 1
  | 3 => 2
  | _ => 0
/-- the constants: words, their letters, the switch's map, what a throw reads -/
def Cn (G : Gt) (A : Nat → Prop) (U : State) (H : Heap) : Prop :=
  ((∀ w ∈ nestW, va_Nw w U) ∧ xW U) ∧ (∀ q ∈ thrS, vk_R "ZeroParts" q.1 q.2 (G.2.2.2.1 (100 + q.1)) U) ∧
  vx_Zq Bundle.tN "UNASSIGNED_STACK" Bundle.steD A U H ∧ vx_Zq Bundle.tN "SUPPRESSED_SENTINEL" Bundle.listD A U H ∧
  va_Z "ZeroParts" "WORDS" "[LZeroParts$Word;" (kf G 0) A U H ∧ va_T (.object "ZeroParts$Word") (G.2.2.2.1 0) 5 (fun j => kf G (10 + j)) A U H ∧
  va_Z "ZeroParts$1" "$SwitchMap$ZeroParts$Word" "[I" (kf G 1) A U H ∧ va_T .int (G.2.2.2.1 1) 5 (fun j => .int (nI (j + 1))) A U H ∧
  va_Ef 5 "java/lang/Enum" "ordinal" "I" (fun i => .int (nI i)) (fun i => G.2.2.2.1 (10 + i)) A U H ∧
  va_Ef 5 "ZeroParts$Word" "letters" "Ljava/lang/String;" (fun i => kf G (20 + i)) (fun i => G.2.2.2.1 (10 + i)) A U H ∧
  va_Ef 5 "ZeroParts$Word" "numbers" "I" (fun i => .int (nI (wNum i))) (fun i => G.2.2.2.1 (10 + i)) A U H ∧
  (∀ i : Nat, i < 5 → va_O "ZeroParts$Word" (G.2.2.2.1 (10 + i)) A U H) ∧
  vk_S 5 wLen wByt (fun i => G.2.2.2.1 (20 + i)) (fun i => G.2.2.2.1 (30 + i)) A U H ∧
  va_Z "java/lang/String" "COMPACT_STRINGS" "Z" (.int 1) A U H ∧ va_Zq "jdk/internal/util/Preconditions" "SIOOBE_FORMATTER" "Ljava/util/function/BiFunction;" A U H
theorem Cn.warm {G : Gt} {A B : Nat → Prop} {s U : State} {H H1 : Heap} (hW : s.WarmedH U.vm) (hq : ∀ a : Nat, a < H.size → ¬ A a → H1[a]? = H[a]?) (hAB : ∀ q, B q → A q) (h : Cn G A s H) : Cn G B U H1 := by
  obtain ⟨h1, h2, h3, h4, h5, h6, h7, h8, h9, h10, h11, h12, h13, h14, h15⟩ := h
  have ha := hW.alike
  exact ⟨⟨nestW_warm hW h1.1, h1.2.warm hW⟩, fun q hq => vk_R.warm hW (h2 q hq), ((h3.moved ha).kept hq).narrow hAB, ((h4.moved ha).kept hq).narrow hAB,
    ((h5.moved ha).kept hq).narrow hAB, ((h6.moved ha).kept hq).narrow hAB, ((h7.moved ha).kept hq).narrow hAB, ((h8.moved ha).kept hq).narrow hAB,
    ((h9.moved ha).kept hq).narrow hAB, ((h10.moved ha).kept hq).narrow hAB, ((h11.moved ha).kept hq).narrow hAB, fun i hi => (((h12 i hi).moved ha).kept hq).narrow hAB,
    ((h13.moved ha).kept hq).narrow hAB, ((h14.moved ha).kept hq).narrow hAB, ((h15.moved ha).kept hq).narrow hAB⟩
theorem Cn.same {G : Gt} {A : Nat → Prop} {s U : State} {H : Heap} (hv : U.vm = s.vm) (h : Cn G A s H) : Cn G A U H := by
  obtain ⟨h1, h2, h3, h4, h5, h6, h7, h8, h9, h10, h11, h12, h13, h14, h15⟩ := h
  have ha : s.vm.Alike U.vm := by rw [hv]; exact Vm.Alike.refl s.vm
  exact ⟨⟨fun w hw => va_tabs (nestW_on w hw) hv.symm (h1.1 w hw), h1.2.same hv⟩, fun q hq => vk_R.same hv (h2 q hq), h3.moved ha, h4.moved ha, h5.moved ha, h6.moved ha, h7.moved ha, h8.moved ha, h9.moved ha, h10.moved ha, h11.moved ha, fun i hi => (h12 i hi).moved ha, h13.moved ha, h14.moved ha, h15.moved ha⟩
/-- the words that go with every method -/
def tbG : List Cond := lw_tbl.filter goodWord
theorem tb_at {w : Cond} (i : Nat) (h : lw_tbl[i]? = some w) (g : goodWord w = true) : w ∈ tbG := List.mem_filter.mpr ⟨List.mem_of_getElem? h, g⟩
theorem tb_tbl {w : Cond} (h : w ∈ tbG) : w ∈ lw_tbl := (List.mem_filter.mp h).1
theorem tb_good {w : Cond} (h : w ∈ tbG) : (w.onTables && w.keeps) = true ∨ ∃ ty, w = .arrayClass ty := good_of_word (List.mem_filter.mp h).2
theorem tb_in {ws : List Cond} (h : ∀ w ∈ ws, w ∈ tbG) : GoodIn tbG ws := fun w hw => ⟨h w hw, tb_good (h w hw)⟩
def wsY (Y : YC) : List Cond := .code Y.1 Y.2.1 Y.2.2.1 Y.2.2.2 :: tbG
