def FL : List Cond := flatC (Jvm.Cond.and given_1 narrow_1)
def wNm : List String := ["GROUP", "ADD", "MINUS", "LAY", "SPLIT"]
def wCp : List Nat := [47, 53, 56, 59, 62]
abbrev stW (i : Nat) : Term := .static "ZeroParts$Word" (wNm.getD i "") "LZeroParts$Word;"
abbrev stS (i : Nat) : Term := .string "ZeroParts$Word" (wCp.getD i 0)
abbrev stA : Term := .static "ZeroParts" "WORDS" "[LZeroParts$Word;"
abbrev stM : Term := .static "ZeroParts$1" "$SwitchMap$ZeroParts$Word" "[I"
abbrev svV (i : Nat) : Term := .field (stS i) "java/lang/String" "value" "[B"
theorem fl_all {α : Type} {L : List α} {f : α → Cond} (h : (L.all fun a => decide (f a ∈ FL)) = true) {a : α} (ha : a ∈ L) : f a ∈ FL := of_decide_eq_true (List.all_eq_true.mp h a ha)
theorem fl_rng {N : Nat} {f : Nat → Cond} (h : ((List.range N).all fun a => decide (f a ∈ FL)) = true) {a : Nat} (ha : a < N) : f a ∈ FL := fl_all h (List.mem_range.mpr ha)
set_option maxRecDepth 100000 in
theorem fl_1 : ((List.range 5).all fun i => decide (Cond.exactly (stW i) "ZeroParts$Word" ∈ FL)) = true := by decide +kernel
set_option maxRecDepth 100000 in
theorem fl_2 : ((List.range 5).all fun i => decide (Cond.exactly (stS i) "java/lang/String" ∈ FL)) = true := by decide +kernel
set_option maxRecDepth 100000 in
theorem fl_3 : ((List.range 5).all fun i => decide (Cond.eq (.field (stS i) "java/lang/String" "coder" "B") (.int 0) ∈ FL)) = true := by decide +kernel
set_option maxRecDepth 100000 in
theorem fl_4 : ((List.range 5).all fun i => decide (Cond.arrayOf (svV i) .byte ∈ FL)) = true := by decide +kernel
set_option maxRecDepth 100000 in
theorem fl_5 : ((List.range 5).all fun i => decide (Cond.eq (.length (svV i)) (.int (Int32.ofNat (wLen.getD i 0))) ∈ FL)) = true := by decide +kernel
set_option maxRecDepth 100000 in
theorem fl_6 : ((List.range 5).all fun i => (List.range (wLen.getD i 0)).all fun j => decide (Cond.eq (.elem (svV i) (.int (Int32.ofNat j))) (.int ((wByt.getD i []).getD j 0)) ∈ FL)) = true := by decide +kernel
set_option maxRecDepth 100000 in
theorem fl_7 : ((List.range 5).all fun i => (List.range i).all fun j => decide (Cond.not (Cond.eq (stS j) (stS i)) ∈ FL)) = true := by decide +kernel
set_option maxRecDepth 100000 in
theorem fl_8 : ((List.range 5).all fun i => decide (Cond.eq (.field (stW i) "java/lang/Enum" "ordinal" "I") (.int (nI i)) ∈ FL)) = true := by decide +kernel
set_option maxRecDepth 100000 in
theorem fl_9 : ((List.range 5).all fun i => decide (Cond.eq (.field (stW i) "ZeroParts$Word" "letters" "Ljava/lang/String;") (stS i) ∈ FL)) = true := by decide +kernel
set_option maxRecDepth 100000 in
theorem fl_10 : ((List.range 5).all fun i => decide (Cond.eq (.field (stW i) "ZeroParts$Word" "numbers" "I") (.int (nI (wNum i))) ∈ FL)) = true := by decide +kernel
set_option maxRecDepth 100000 in
theorem fl_11 : ((List.range 5).all fun i => decide (Cond.eq (.elem stA (.int (Int32.ofNat i))) (stW i) ∈ FL)) = true := by decide +kernel
set_option maxRecDepth 100000 in
theorem fl_12 : ((List.range 5).all fun i => decide (Cond.eq (.elem stM (.int (Int32.ofNat i))) (.int (nI (i + 1))) ∈ FL)) = true := by decide +kernel
set_option maxRecDepth 100000 in
theorem fl_13 : (thrS.all fun q => decide (Cond.exactly (.string "ZeroParts" q.1) "java/lang/String" ∈ FL)) = true := by decide +kernel
set_option maxRecDepth 100000 in
theorem fl_14 : (ncW.all fun q => decide (Cond.not (.castable q.1 q.2) ∈ FL)) = true := by decide +kernel
set_option maxRecDepth 100000 in
theorem fl_15 : (([Cond.arrayOf stA (.object "ZeroParts$Word"), Cond.eq (.length stA) (.int (Int32.ofNat 5)), Cond.arrayOf stM .int, Cond.eq (.length stM) (.int (Int32.ofNat 5)), Cond.eq (.static "java/lang/String" "COMPACT_STRINGS" "Z") (.int 1), Cond.isRef (.static "jdk/internal/util/Preconditions" "SIOOBE_FORMATTER" "Ljava/util/function/BiFunction;"), Cond.isRef (.static Bundle.tN "UNASSIGNED_STACK" Bundle.steD), Cond.isRef (.static Bundle.tN "SUPPRESSED_SENTINEL" Bundle.listD)] : List Cond).all fun w => decide (w ∈ FL)) = true := by decide +kernel
set_option maxRecDepth 100000 in
theorem tl_1 : (nestW.all fun w => decide (w ∈ lw_tbl)) = true := by decide +kernel
set_option maxRecDepth 100000 in
theorem tl_2 : (castW.all fun w => decide (w ∈ lw_tbl)) = true := by decide +kernel
set_option maxRecDepth 100000 in
theorem tl_3 : (thrS.all fun q => decide (Cond.stringRef "ZeroParts" q.1 q.2 ∈ lw_tbl)) = true := by decide +kernel
set_option maxRecDepth 100000 in
theorem tl_4 : (([Cond.laysStatic "ZeroParts" "WORDS" "[LZeroParts$Word;", Cond.initialized "ZeroParts", Cond.laysStatic "ZeroParts$1" "$SwitchMap$ZeroParts$Word" "[I", Cond.initialized "ZeroParts$1", Cond.laysStatic "java/lang/String" "COMPACT_STRINGS" "Z", Cond.initialized "java/lang/String", Cond.laysStatic "jdk/internal/util/Preconditions" "SIOOBE_FORMATTER" "Ljava/util/function/BiFunction;", Cond.initialized "jdk/internal/util/Preconditions", Cond.laysStatic Bundle.tN "UNASSIGNED_STACK" Bundle.steD, Cond.laysStatic Bundle.tN "SUPPRESSED_SENTINEL" Bundle.listD, Cond.initialized Bundle.tN] : List Cond).all fun w => decide (w ∈ lw_tbl)) = true := by decide +kernel
theorem tl_all {α : Type} {L : List α} {f : α → Cond} (h : (L.all fun a => decide (f a ∈ lw_tbl)) = true) {a : α} (ha : a ∈ L) : f a ∈ lw_tbl := of_decide_eq_true (List.all_eq_true.mp h a ha)
theorem ex_ref {args : Array Value} {s : State} {t : Term} {c : String} (h : (Cond.exactly t c).before args s = true) : ∃ a : Nat, t.eval args s none [] s = some (.ref a) := by
  obtain ⟨a, _, _, _, h1, -⟩ := Cond.exactly_spec (args := args) (first := s) (o := none) (s := s) (idx := []) (t := t) (cls := c) h
  exact ⟨a, h1⟩
def kfN (tW tS : Nat) (adW adK adV adT : Nat → Nat) (k : Nat) : Nat := if k = 0 then tW else if k = 1 then tS else if k < 20 then adW (k - 10) else if k < 30 then adK (k - 20) else if k < 100 then adV (k - 30) else adT (k - 100)
section KF
variable {tW tS i : Nat} {adW adK adV adT : Nat → Nat}
theorem kf1 (h : i < 5) : kfN tW tS adW adK adV adT (10 + i) = adW i := by
  unfold kfN
  rw [if_neg (by omega), if_neg (by omega), if_pos (by omega), show 10 + i - 10 = i by omega]
theorem kf2 (h : i < 5) : kfN tW tS adW adK adV adT (20 + i) = adK i := by
  unfold kfN
  rw [if_neg (by omega), if_neg (by omega), if_neg (by omega), if_pos (by omega), show 20 + i - 20 = i by omega]
theorem kf3 (h : i < 5) : kfN tW tS adW adK adV adT (30 + i) = adV i := by
  unfold kfN
  rw [if_neg (by omega), if_neg (by omega), if_neg (by omega), if_neg (by omega), if_pos (by omega), show 30 + i - 30 = i by omega]
theorem kf4 : kfN tW tS adW adK adV adT (100 + i) = adT i := by
  unfold kfN
  rw [if_neg (by omega), if_neg (by omega), if_neg (by omega), if_neg (by omega), if_neg (by omega), show 100 + i - 100 = i by omega]
end KF
/-- the Statement's start has all the constants -/
theorem cn_start {args : Array Value} {s : State} {A : Nat → Prop} (hts : ∀ w ∈ lw_tbl, w.before args s = true) (hgv : (Jvm.Cond.and given_1 narrow_1).before args s = true) (hA : ∀ a : Nat, a < s.heap.size → ¬ A a) : ∃ kk : Nat → Nat, ∀ G : Gt, G.2.2.2.1 = kk → Cn G A s s.heap := by
  have hs : ∀ c ∈ FL, c.before args s = true := flat_of_before _ hgv
  have h0 : ∀ i : Nat, ∃ a : Nat, i < 5 → (stW i).eval args s none [] s = some (.ref a) := fun i => by
    by_cases hi : i < 5
    · obtain ⟨a, h⟩ := ex_ref (hs _ (fl_rng fl_1 hi))
      exact ⟨a, fun _ => h⟩
    · exact ⟨0, fun h => absurd h hi⟩
  obtain ⟨adW, hW⟩ : ∃ f : Nat → Nat, ∀ i : Nat, i < 5 → (stW i).eval args s none [] s = some (.ref (f i)) := ⟨fun i => (h0 i).choose, fun i => (h0 i).choose_spec⟩
  have h1 : ∀ k : Nat, ∃ a : Nat, (∃ q ∈ thrS, q.1 = k) → (Term.string "ZeroParts" k).eval args s none [] s = some (.ref a) := fun k => by
    by_cases hk : ∃ q ∈ thrS, q.1 = k
    · obtain ⟨q, hq, rfl⟩ := hk
      obtain ⟨a, h⟩ := ex_ref (hs _ (fl_all fl_13 hq))
      exact ⟨a, fun _ => h⟩
    · exact ⟨0, fun h => absurd h hk⟩
  obtain ⟨adT, hT⟩ : ∃ f : Nat → Nat, ∀ k : Nat, (∃ q ∈ thrS, q.1 = k) → (Term.string "ZeroParts" k).eval args s none [] s = some (.ref (f k)) := ⟨fun k => (h1 k).choose, fun k => (h1 k).choose_spec⟩
  obtain ⟨adK, adV, hSt, hK⟩ := vk_Sof (args := args) (s := s) (N := 5) (tm := stS) (len := wLen) (byt := wByt) (A := A) (fun i hi => by rcases (show i = 0 ∨ i = 1 ∨ i = 2 ∨ i = 3 ∨ i = 4 by omega) with rfl | rfl | rfl | rfl | rfl <;> decide)
    (fun i hi => hs _ (fl_rng fl_2 hi)) (fun i hi => hs _ (fl_rng fl_3 hi)) (fun i hi => hs _ (fl_rng fl_4 hi)) (fun i hi => hs _ (fl_rng fl_5 hi))
    (fun i hi j hj => hs _ (of_decide_eq_true (List.all_eq_true.mp (List.all_eq_true.mp fl_6 i (List.mem_range.mpr hi)) j (List.mem_range.mpr hj))))
    (fun i j hi hj hij => by
      rcases Nat.lt_or_ge i j with h | h
      · exact Or.inl (hs _ (of_decide_eq_true (List.all_eq_true.mp (List.all_eq_true.mp fl_7 j (List.mem_range.mpr hj)) i (List.mem_range.mpr h))))
      · exact Or.inr (hs _ (of_decide_eq_true (List.all_eq_true.mp (List.all_eq_true.mp fl_7 i (List.mem_range.mpr hi)) j (List.mem_range.mpr (by omega)))))) hA
  have m15 : ∀ w ∈ ([Cond.arrayOf stA (.object "ZeroParts$Word"), Cond.eq (.length stA) (.int (Int32.ofNat 5)), Cond.arrayOf stM .int, Cond.eq (.length stM) (.int (Int32.ofNat 5)), Cond.eq (.static "java/lang/String" "COMPACT_STRINGS" "Z") (.int 1), Cond.isRef (.static "jdk/internal/util/Preconditions" "SIOOBE_FORMATTER" "Ljava/util/function/BiFunction;"), Cond.isRef (.static Bundle.tN "UNASSIGNED_STACK" Bundle.steD), Cond.isRef (.static Bundle.tN "SUPPRESSED_SENTINEL" Bundle.listD)] : List Cond), w.before args s = true := fun w hw => hs _ (fl_all (f := fun w => w) fl_15 hw)
  have m4 : ∀ w ∈ ([Cond.laysStatic "ZeroParts" "WORDS" "[LZeroParts$Word;", Cond.initialized "ZeroParts", Cond.laysStatic "ZeroParts$1" "$SwitchMap$ZeroParts$Word" "[I", Cond.initialized "ZeroParts$1", Cond.laysStatic "java/lang/String" "COMPACT_STRINGS" "Z", Cond.initialized "java/lang/String", Cond.laysStatic "jdk/internal/util/Preconditions" "SIOOBE_FORMATTER" "Ljava/util/function/BiFunction;", Cond.initialized "jdk/internal/util/Preconditions", Cond.laysStatic Bundle.tN "UNASSIGNED_STACK" Bundle.steD, Cond.laysStatic Bundle.tN "SUPPRESSED_SENTINEL" Bundle.listD, Cond.initialized Bundle.tN] : List Cond), w.before args s = true := fun w hw => hts _ (tl_all (f := fun w => w) tl_4 hw)
  have g15 : ∀ (i : Nat) (w : Cond), [Cond.arrayOf stA (.object "ZeroParts$Word"), Cond.eq (.length stA) (.int (Int32.ofNat 5)), Cond.arrayOf stM .int, Cond.eq (.length stM) (.int (Int32.ofNat 5)), Cond.eq (.static "java/lang/String" "COMPACT_STRINGS" "Z") (.int 1), Cond.isRef (.static "jdk/internal/util/Preconditions" "SIOOBE_FORMATTER" "Ljava/util/function/BiFunction;"), Cond.isRef (.static Bundle.tN "UNASSIGNED_STACK" Bundle.steD), Cond.isRef (.static Bundle.tN "SUPPRESSED_SENTINEL" Bundle.listD)][i]? = some w → w.before args s = true := fun i w h => m15 w (List.mem_of_getElem? h)
  have g4 : ∀ (i : Nat) (w : Cond), [Cond.laysStatic "ZeroParts" "WORDS" "[LZeroParts$Word;", Cond.initialized "ZeroParts", Cond.laysStatic "ZeroParts$1" "$SwitchMap$ZeroParts$Word" "[I", Cond.initialized "ZeroParts$1", Cond.laysStatic "java/lang/String" "COMPACT_STRINGS" "Z", Cond.initialized "java/lang/String", Cond.laysStatic "jdk/internal/util/Preconditions" "SIOOBE_FORMATTER" "Ljava/util/function/BiFunction;", Cond.initialized "jdk/internal/util/Preconditions", Cond.laysStatic Bundle.tN "UNASSIGNED_STACK" Bundle.steD, Cond.laysStatic Bundle.tN "SUPPRESSED_SENTINEL" Bundle.listD, Cond.initialized Bundle.tN][i]? = some w → w.before args s = true := fun i w h => m4 w (List.mem_of_getElem? h)
  obtain ⟨tW, hW0, hW1⟩ := va_Tof (args := args) (s := s) (tm := stA) (ty := .object "ZeroParts$Word") (N := 5) (f := fun j => .ref (adW j)) (A := A) (by decide) (g15 0 _ rfl) (va_eqt (g15 1 _ rfl)) (fun j hj => va_eqv (hs _ (fl_rng fl_11 hj)) (hW j hj)) hA
  obtain ⟨tS, hS0, hS1⟩ := va_Tof (args := args) (s := s) (tm := stM) (ty := .int) (N := 5) (f := fun j => .int (nI (j + 1))) (A := A) (by decide) (g15 2 _ rfl) (va_eqt (g15 3 _ rfl)) (fun j hj => va_eqt (hs _ (fl_rng fl_12 hj))) hA
  refine ⟨kfN tW tS adW adK adV adT, fun G hG => ?_⟩
  have k0 : G.2.2.2.1 0 = tW := by rw [hG]; rfl
  have k1 : G.2.2.2.1 1 = tS := by rw [hG]; rfl
  have k10 : ∀ i, i < 5 → G.2.2.2.1 (10 + i) = adW i := fun i hi => by rw [hG]; exact kf1 hi
  have k20 : ∀ i, i < 5 → G.2.2.2.1 (20 + i) = adK i := fun i hi => by rw [hG]; exact kf2 hi
  have k30 : ∀ i, i < 5 → G.2.2.2.1 (30 + i) = adV i := fun i hi => by rw [hG]; exact kf3 hi
  have k100 : ∀ i, G.2.2.2.1 (100 + i) = adT i := fun i => by rw [hG]; exact kf4
  have hEf : ∀ (o n d : String) (v : Nat → Value) (tm : Nat → Term), (∀ i, i < 5 → (Cond.eq (.field (stW i) o n d) (tm i)).before args s = true) → (∀ i, i < 5 → (tm i).eval args s none [] s = some (v i)) → va_Ef 5 o n d v (fun i => G.2.2.2.1 (10 + i)) A s s.heap := fun o n d v tm q1 q2 i hi => by
    have q := va_Efof (args := args) (s := s) (N := 5) (E := "ZeroParts$Word") (d0 := "LZeroParts$Word;") (o := o) (n := n) (d := d) (nm := wNm) (v := v) (tm := tm) (ad := adW) (A := A) hW q1 q2 hA i hi
    show va_OF o n d (v i) (G.2.2.2.1 (10 + i)) A s s.heap
    rw [k10 i hi]; exact q
  refine ⟨⟨fun w hw => va_Nw.of (nestW_on w hw) (hts _ (tl_all (f := fun w => w) tl_1 hw)), fun w hw => va_Nw.of (castW_on w hw) (hts _ (tl_all (f := fun w => w) tl_2 hw)), fun q hq => va_Nc.of (hs _ (fl_all fl_14 hq))⟩, ?_, vx_Zqof (g4 8 _ rfl) (g4 10 _ rfl) (g15 6 _ rfl) hA, vx_Zqof (g4 9 _ rfl) (g4 10 _ rfl) (g15 7 _ rfl) hA, ?_, ?_, ?_, ?_, ?_, ?_, ?_, ?_, ?_, ?_, va_Zqof (g4 6 _ rfl) (g4 7 _ rfl) (g15 5 _ rfl) hA⟩
  · intro q hq
    refine vk_R.of (hts _ (tl_all (f := fun q : Nat × String => Cond.stringRef "ZeroParts" q.1 q.2) tl_3 hq)) ?_
    rw [k100]; exact hT q.1 ⟨q, hq, rfl⟩
  · exact va_Zof (g4 0 _ rfl) (g4 1 _ rfl) (by show _ = some (Value.ref (G.2.2.2.1 0)); rw [k0]; exact hW0) hA
  · obtain ⟨cell, a1, a2, a3, a4, a5, a6, a7⟩ := hW1
    rw [k0]
    exact ⟨cell, a1, a2, a3, a4, a5, fun j hj => by rw [a6 j hj]; show some (Value.ref (adW j)) = some (Value.ref (G.2.2.2.1 (10 + j))); rw [k10 j hj], a7⟩
  · exact va_Zof (g4 2 _ rfl) (g4 3 _ rfl) (by show _ = some (Value.ref (G.2.2.2.1 1)); rw [k1]; exact hS0) hA
  · rw [k1]; exact hS1
  · exact hEf _ _ _ _ (fun i => .int (nI i)) (fun i hi => hs _ (fl_rng fl_8 hi)) (fun i hi => rfl)
  · exact hEf _ _ _ _ stS (fun i hi => hs _ (fl_rng fl_9 hi)) (fun i hi => by show _ = some (Value.ref (G.2.2.2.1 (20 + i))); rw [k20 i hi]; exact hK i hi)
  · exact hEf _ _ _ _ (fun i => .int (nI (wNum i))) (fun i hi => hs _ (fl_rng fl_10 hi)) (fun i hi => rfl)
  · intro i hi
    rw [k10 i hi]
    exact va_Oof (hs _ (fl_rng fl_1 hi)) (hW i hi) hA
  · refine ⟨fun i hi => ?_, fun i j hi hj h => ?_⟩
    · have q := hSt.1 i hi
      show va_O _ (G.2.2.2.1 (20 + i)) A s s.heap ∧ va_OF _ _ _ _ (G.2.2.2.1 (20 + i)) A s s.heap ∧ va_OF _ _ _ (.ref (G.2.2.2.1 (30 + i))) (G.2.2.2.1 (20 + i)) A s s.heap ∧ va_T .byte (G.2.2.2.1 (30 + i)) _ _ A s s.heap
      rw [k20 i hi, k30 i hi]; exact q
    · have h' : G.2.2.2.1 (20 + i) = G.2.2.2.1 (20 + j) := h
      rw [k20 i hi, k20 j hj] at h'
      exact hSt.2 i j hi hj h'
  · exact va_Zof (g4 4 _ rfl) (g4 5 _ rfl) (va_eqt (g15 4 _ rfl)) hA
