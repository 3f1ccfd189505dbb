/-- x stands among the values of m units that k elements can reach -/
def cxIn (B : List (List (Nat × Nat))) (m k : Nat) (x : UInt64) : Prop := ∃ l, l ≤ k ∧ (x.toNat, l) ∈ B.getD m []
theorem cx_len {B : List (List (Nat × Nat))} {m : Nat} {q : Nat × Nat} (h : q ∈ B.getD m []) : m < B.length := by
  apply Classical.byContradiction
  intro c
  have h' : q ∈ (B[m]?).getD [] := h
  rw [List.getElem?_eq_none (by omega)] at h'
  cases h'
theorem cx_step {B : List (List (Nat × Nat))} {e : Nat} {ds : List Nat} (hc : cxStep B e ds = true) {m k d : Nat} {x : UInt64} (h : cxIn B m k x) (hk : k < 10) (hd : d ∈ ds) : cxIn B (m + e / d) (k + 1) (FP.dadd x (cxQ d)) ∧ vf_n64 (FP.dadd x (cxQ d)) := by
  obtain ⟨l, h1, h2⟩ := h
  have h3 := List.all_eq_true.mp (List.all_eq_true.mp hc m (List.mem_range.mpr (cx_len h2))) _ h2
  rw [decide_eq_false (show ¬ 10 ≤ l by omega), Bool.false_or] at h3
  have h4 := List.all_eq_true.mp h3 d hd
  rw [Bool.and_eq_true] at h4
  rw [show UInt64.ofNat x.toNat = x from UInt64.ofNat_toNat] at h4
  refine ⟨?_, nzN_ok h4.2⟩
  obtain ⟨q, q1, q2⟩ := List.any_eq_true.mp h4.1
  rw [Bool.and_eq_true, decide_eq_true_eq, decide_eq_true_eq] at q2
  refine ⟨q.2, by have := q2.2; omega, ?_⟩
  rw [← q2.1]; exact q1
theorem cx_bits {B : List (List (Nat × Nat))} (hc : cxBits B = true) {m k : Nat} {x : UInt64} (h : cxIn B m k x) : bsF x = some (Int64.ofNat x.toNat) := by
  obtain ⟨l, h1, h2⟩ := h
  have hm : B.getD m [] ∈ B := by
    have hl := cx_len h2
    show (B[m]?).getD [] ∈ B
    rw [List.getElem?_eq_getElem hl]; exact List.getElem_mem hl
  have h3 := of_decide_eq_true (List.all_eq_true.mp (List.all_eq_true.mp hc _ hm) _ h2)
  rw [show UInt64.ofNat x.toNat = x from UInt64.ofNat_toNat] at h3
  exact h3
def cxSel (a b : Nat) : Nat := if 12 % Nat.lcm a b = 0 then 12 else if 20 % Nat.lcm a b = 0 then 20 else 30
def cxDs (e : Nat) : List Nat := if e = 12 then cxD12 else if e = 20 then cxD20 else cxD30
def cxBs (e : Nat) : List (List (Nat × Nat)) := if e = 12 then cxB12 else if e = 20 then cxB20 else cxB30
set_option maxRecDepth 100000 in
theorem cx_ord : ((List.range 7).all fun a => (List.range 7).all fun b => decide (a = 0) || decide (b = 0) || (List.range (a * b)).all fun x => decide (ordN a b x ∈ cxDs (cxSel a b)) && decide (ordN a b x < 40)) = true := by decide +kernel
theorem cx_or {a b x : Nat} (ha : 1 ≤ a) (ha6 : a ≤ 6) (hb : 1 ≤ b) (hb6 : b ≤ 6) (hx : x < a * b) : ordN a b x ∈ cxDs (cxSel a b) ∧ ordN a b x < 40 := by
  have h1 := List.all_eq_true.mp (List.all_eq_true.mp cx_ord a (List.mem_range.mpr (by omega))) b (List.mem_range.mpr (by omega))
  rw [decide_eq_false (show ¬ a = 0 by omega), decide_eq_false (show ¬ b = 0 by omega), Bool.false_or, Bool.false_or] at h1
  have h2 := List.all_eq_true.mp h1 x (List.mem_range.mpr hx)
  rw [Bool.and_eq_true, decide_eq_true_eq, decide_eq_true_eq] at h2
  exact h2
theorem cx_sel (a b : Nat) : cxSel a b = 12 ∨ cxSel a b = 20 ∨ cxSel a b = 30 := by
  unfold cxSel
  split
  · exact Or.inl rfl
  · split
    · exact Or.inr (Or.inl rfl)
    · exact Or.inr (Or.inr rfl)
theorem cx_S (a b : Nat) : cxStep (cxBs (cxSel a b)) (cxSel a b) (cxDs (cxSel a b)) = true := by
  rcases cx_sel a b with h | h | h <;> rw [h]
  · exact cxS12
  · exact cxS20
  · exact cxS30
theorem cx_T (a b : Nat) : cxBits (cxBs (cxSel a b)) = true := by
  rcases cx_sel a b with h | h | h <;> rw [h]
  · exact cxT12
  · exact cxT20
  · exact cxT30
theorem cx_0 (a b : Nat) : cxIn (cxBs (cxSel a b)) 0 0 0 := by
  refine ⟨0, Nat.le_refl _, ?_⟩
  rcases cx_sel a b with h | h | h <;> rw [h] <;> decide +kernel
theorem cx_q : ((List.range 40).all fun d => nzN (cxQ d)) = true := by decide +kernel
theorem cx_qn {d : Nat} (h : d < 40) : vf_n64 (cxQ d) := nzN_ok (List.all_eq_true.mp cx_q d (List.mem_range.mpr h))
/-- the cross number -/
def crN (a b : Nat) (E : Nat → Nat) : Nat → UInt64
  | 0 => 0
  | k + 1 => FP.dadd (crN a b E k) (cxQ (ordN a b (E k)))
theorem cr_in {a b n : Nat} {E : Nat → Nat} (ha : 1 ≤ a) (ha6 : a ≤ 6) (hb : 1 ≤ b) (hb6 : b ≤ 6) (hE : okE a b E n) (hn : n ≤ 10) : ∀ k, k ≤ n → ∃ m, cxIn (cxBs (cxSel a b)) m k (crN a b E k) := by
  intro k
  induction k with
  | zero => intro _; exact ⟨0, cx_0 a b⟩
  | succ k ih =>
    intro hk
    obtain ⟨m, hm⟩ := ih (by omega)
    exact ⟨_, (cx_step (cx_S a b) hm (by omega) (cx_or ha ha6 hb hb6 (hE k (by omega))).1).1⟩
theorem cr_nn {a b n k : Nat} {E : Nat → Nat} (ha : 1 ≤ a) (ha6 : a ≤ 6) (hb : 1 ≤ b) (hb6 : b ≤ 6) (hE : okE a b E n) (hn : n ≤ 10) (hk : k < n) : vf_n64 (FP.dadd (crN a b E k) (cxQ (ordN a b (E k)))) := by
  obtain ⟨m, hm⟩ := cr_in ha ha6 hb hb6 hE hn k (by omega)
  exact (cx_step (cx_S a b) hm (by omega) (cx_or ha ha6 hb hb6 (hE k hk)).1).2
theorem cr_bits {a b n : Nat} {E : Nat → Nat} (ha : 1 ≤ a) (ha6 : a ≤ 6) (hb : 1 ≤ b) (hb6 : b ≤ 6) (hE : okE a b E n) (hn : n ≤ 10) : bsF (crN a b E n) = some (Int64.ofNat (crN a b E n).toNat) := by
  obtain ⟨m, hm⟩ := cr_in ha ha6 hb hb6 hE hn n (Nat.le_refl _)
  exact cx_bits (cx_T a b) hm
set_option maxRecDepth 100000 in
theorem lp_X7_cross (G : Gt) {a b n : Nat} {E Q : Nat → Nat} {μ : Mm} (hq : seqOK μ 1 a b n E Q) : ∀ (f k : Nat), k + f = n →
    Zs G 3 Y_X7_cross (fnN G (fun v u => v = some (.double (crN a b E n)) ∧ u = μ)) 4 [(0, rf G 0), (1, .double (crN a b E k)), (3, .int (nI k))] [] μ := by
  intro f
  have hn := hq.le
  have hg := hq.g
  obtain ⟨_, _, ha, ha6, hb, hb6⟩ := hq.g
  have hE : okE a b E n := fun k hk => hq.el hk
  induction f with
  | zero =>
    intro k hf
    refine z_iload_n dX7_cross_4 rfl ?_
    refine z_aload_n dX7_cross_5 rfl ?_
    refine z_getR (j := 1) dX7_cross_6 fl_X7_12 ⟨by decide, _, rfl, rfl⟩ ?_
    refine z_getI dX7_cross_9 fl_X7_87 ⟨by decide, _, rfl, rfl⟩ hq.n ?_
    refine z_icmpN_ge (tgt := 46) dX7_cross_12 (by decide) (by omega) (by omega) (fun c12 => ?_) (fun c12 => absurd c12 (by omega))
    refine z_dload_n dX7_cross_46 rfl ?_
    exact z_dret rfl dX7_cross_47 ⟨by rw [show k = n by omega], rfl⟩
  | succ f ih =>
    intro k hf
    have hor := cx_or ha ha6 hb hb6 (hE k (by omega))
    have hnn := cr_nn ha ha6 hb hb6 hE hn (show k < n by omega)
    refine z_iload_n dX7_cross_4 rfl ?_
    refine z_aload_n dX7_cross_5 rfl ?_
    refine z_getR (j := 1) dX7_cross_6 fl_X7_12 ⟨by decide, _, rfl, rfl⟩ ?_
    refine z_getI dX7_cross_9 fl_X7_87 ⟨by decide, _, rfl, rfl⟩ hq.n ?_
    refine z_icmpN_ge (tgt := 46) dX7_cross_12 (by decide) (by omega) (by omega) (fun c12 => absurd c12 (by omega)) (fun c12 => ?_)
    refine z_dload_n dX7_cross_15 rfl ?_
    refine z_dconst1 dX7_cross_16 ?_
    refine z_aload_n dX7_cross_17 rfl ?_
    refine z_getR (j := 1) dX7_cross_18 fl_X7_12 ⟨by decide, _, rfl, rfl⟩ ?_
    refine z_getR (j := 2) dX7_cross_21 fl_X7_56 ⟨by decide, _, rfl, rfl⟩ ?_
    refine z_aload_n dX7_cross_24 rfl ?_
    refine z_getR (j := 1) dX7_cross_25 fl_X7_12 ⟨by decide, _, rfl, rfl⟩ ?_
    refine z_getR (j := 3) dX7_cross_28 fl_X7_149 ⟨by decide, _, rfl, rfl⟩ ?_
    refine z_iload_n dX7_cross_31 rfl ?_
    refine z_ialdN dX7_cross_32 ⟨by decide, rfl⟩ (by omega) (by decide) (hq.e (by omega)) ?_
    refine z_cV1 dX7_cross_33 lk_X7_121 (by decide) ⟨by decide, _, rfl⟩ rfl (Nat.le_of_ble_eq_true rfl) (ev_X2_orderOf G (isSeq.g seq1) hg (hE k (by omega))) ?_
    refine z_i2d dX7_cross_36 ?_
    refine z_ddiv dX7_cross_37 (cx_qn hor.2) ?_
    refine z_dadd dX7_cross_38 hnn ?_
    refine z_dstore_n (lv' := [(1, _), (0, _), (3, _)]) dX7_cross_39 rfl (by decide) rfl ?_
    refine z_iinc (v := nI (k + 1)) (lv' := [(3, _), (1, _), (0, _)]) dX7_cross_40 rfl (nI_inc _ 1) (by decide) rfl ?_
    refine z_goto (tgt := 4) dX7_cross_43 (by decide) ?_
    refine z_sub (lv' := [(0, _), (1, _), (3, _)]) rfl ?_
    exact ih (k + 1) (by omega)
set_option maxRecDepth 100000 in
theorem ev_X7_cross (G : Gt) {a b n : Nat} {E Q : Nat → Nat} {μ : Mm} (hq : seqOK μ 1 a b n E Q) : EVr G 3 Y_X7_cross [rf G 0] μ (.double (crN a b E n)) := by
  refine ev_of (by decide) (Nat.le_of_ble_eq_true rfl) ?_
  show Zs G 3 Y_X7_cross (fnN G _) 0 [(0, rf G 0)] [] μ
  refine z_dconst0 dX7_cross_0 ?_
  refine z_dstore_n (lv' := [(1, _), (0, _)]) dX7_cross_1 rfl (by decide) rfl ?_
  refine z_iconst (v := nI 0) dX7_cross_2 (by decide) ?_
  refine z_istore_n (lv' := [(3, _), (1, _), (0, _)]) dX7_cross_3 rfl (by decide) rfl ?_
  refine z_sub (lv' := [(0, _), (1, _), (3, _)]) rfl ?_
  exact lp_X7_cross G hq n 0 (by omega)
set_option maxRecDepth 100000 in
theorem lp1_X7_bitsOf (G : Gt) {F : Fn} {x s' : UInt64} {e' : Int32} {μ : Mm} (hk : Zs G 0 Y_X7_bitsOf F 46 [(0, .double x), (2, .double s'), (4, .int e')] [] μ) : ∀ (f step : Nat) (s : UInt64) (e : Int32), step + f = 64 → dnL f s e = some (s', e') →
    Zs G 0 Y_X7_bitsOf F 16 [(0, .double x), (2, .double s), (4, .int e), (5, .int (nI step))] [] μ := by
  intro f
  induction f with
  | zero =>
    intro step s e hf h
    cases h
    refine z_iload dX7_bitsOf_16 rfl ?_
    refine z_bipush (v := nI 64) dX7_bitsOf_18 (by decide) ?_
    refine z_icmpN_ge (tgt := 46) dX7_bitsOf_20 (by decide) (by omega) (by omega) (fun c20 => ?_) (fun c20 => absurd c20 (by omega))
    refine z_sub (lv' := [(0, _), (2, _), (4, _)]) rfl ?_
    exact hk
  | succ f ih =>
    intro step s e hf h
    have e0 : dnL (f + 1) s e = if Op.cmpValue (FP.dcmp s cxTwo) .l < 0 then some (s, e) else if nzN (FP.ddiv s cxTwo) = true then dnL f (FP.ddiv s cxTwo) (e + Int32.ofInt (1 : Nat)) else none := rfl
    rw [e0] at h
    refine z_iload dX7_bitsOf_16 rfl ?_
    refine z_bipush (v := nI 64) dX7_bitsOf_18 (by decide) ?_
    refine z_icmpN_ge (tgt := 46) dX7_bitsOf_20 (by decide) (by omega) (by omega) (fun c20 => absurd c20 (by omega)) (fun c20 => ?_)
    refine z_dload_n dX7_bitsOf_23 rfl ?_
    refine z_ldc2d (v := 4611686018427387904) dX7_bitsOf_24 (tb_at 764 (by decide +kernel) rfl) ?_
    refine z_dcmp dX7_bitsOf_27 ?_
    refine z_if_lt (tgt := 46) dX7_bitsOf_28 (by decide) (fun c28 => ?_) (fun c28 => ?_)
    · rw [if_pos c28] at h
      cases h
      refine z_sub (lv' := [(0, _), (2, _), (4, _)]) rfl ?_
      exact hk
    · rw [if_neg c28] at h
      have hz : nzN (FP.ddiv s cxTwo) = true := by
        apply Classical.byContradiction
        intro q
        rw [if_neg q] at h; cases h
      rw [if_pos hz] at h
      refine z_dload_n dX7_bitsOf_31 rfl ?_
      refine z_ldc2d (v := 4611686018427387904) dX7_bitsOf_32 (tb_at 764 (by decide +kernel) rfl) ?_
      refine z_ddiv dX7_bitsOf_35 (nzN_ok hz) ?_
      refine z_dstore_n (lv' := [(2, _), (0, _), (4, _), (5, _)]) dX7_bitsOf_36 rfl (by decide) rfl ?_
      refine z_iinc (lv' := [(4, _), (2, _), (0, _), (5, _)]) dX7_bitsOf_37 rfl (rfl) (by decide) rfl ?_
      refine z_iinc (v := nI (step + 1)) (lv' := [(5, _), (4, _), (2, _), (0, _)]) dX7_bitsOf_40 rfl (nI_inc _ 1) (by decide) rfl ?_
      refine z_goto (tgt := 16) dX7_bitsOf_43 (by decide) ?_
      refine z_sub (lv' := [(0, _), (2, _), (4, _), (5, _)]) rfl ?_
      exact ih (step + 1) _ _ (by omega) h
set_option maxRecDepth 100000 in
theorem lp2_X7_bitsOf (G : Gt) {F : Fn} {x s' : UInt64} {e' : Int32} {μ : Mm} (hk : Zs G 0 Y_X7_bitsOf F 77 [(0, .double x), (2, .double s'), (4, .int e')] [] μ) : ∀ (f step : Nat) (s : UInt64) (e : Int32), step + f = 64 → upL f s e = some (s', e') →
    Zs G 0 Y_X7_bitsOf F 49 [(0, .double x), (2, .double s), (4, .int e), (5, .int (nI step))] [] μ := by
  intro f
  induction f with
  | zero =>
    intro step s e hf h
    cases h
    refine z_iload dX7_bitsOf_49 rfl ?_
    refine z_bipush (v := nI 64) dX7_bitsOf_51 (by decide) ?_
    refine z_icmpN_ge (tgt := 77) dX7_bitsOf_53 (by decide) (by omega) (by omega) (fun c53 => ?_) (fun c53 => absurd c53 (by omega))
    refine z_sub (lv' := [(0, _), (2, _), (4, _)]) rfl ?_
    exact hk
  | succ f ih =>
    intro step s e hf h
    have e0 : upL (f + 1) s e = if 0 ≤ Op.cmpValue (FP.dcmp s cxOne) .g then some (s, e) else if nzN (FP.dmul s cxTwo) = true then upL f (FP.dmul s cxTwo) (e + Int32.ofInt (-1)) else none := rfl
    rw [e0] at h
    refine z_iload dX7_bitsOf_49 rfl ?_
    refine z_bipush (v := nI 64) dX7_bitsOf_51 (by decide) ?_
    refine z_icmpN_ge (tgt := 77) dX7_bitsOf_53 (by decide) (by omega) (by omega) (fun c53 => absurd c53 (by omega)) (fun c53 => ?_)
    refine z_dload_n dX7_bitsOf_56 rfl ?_
    refine z_dconst1 dX7_bitsOf_57 ?_
    refine z_dcmp dX7_bitsOf_58 ?_
    refine z_if_ge (tgt := 77) dX7_bitsOf_59 (by decide) (fun c59 => ?_) (fun c59 => ?_)
    · rw [if_pos c59] at h
      cases h
      refine z_sub (lv' := [(0, _), (2, _), (4, _)]) rfl ?_
      exact hk
    · rw [if_neg c59] at h
      have hz : nzN (FP.dmul s cxTwo) = true := by
        apply Classical.byContradiction
        intro q
        rw [if_neg q] at h; cases h
      rw [if_pos hz] at h
      refine z_dload_n dX7_bitsOf_62 rfl ?_
      refine z_ldc2d (v := 4611686018427387904) dX7_bitsOf_63 (tb_at 764 (by decide +kernel) rfl) ?_
      refine z_dmul dX7_bitsOf_66 (nzN_ok hz) ?_
      refine z_dstore_n (lv' := [(2, _), (0, _), (4, _), (5, _)]) dX7_bitsOf_67 rfl (by decide) rfl ?_
      refine z_iinc (lv' := [(4, _), (2, _), (0, _), (5, _)]) dX7_bitsOf_68 rfl (rfl) (by decide) rfl ?_
      refine z_iinc (v := nI (step + 1)) (lv' := [(5, _), (4, _), (2, _), (0, _)]) dX7_bitsOf_71 rfl (nI_inc _ 1) (by decide) rfl ?_
      refine z_goto (tgt := 49) dX7_bitsOf_74 (by decide) ?_
      refine z_sub (lv' := [(0, _), (2, _), (4, _), (5, _)]) rfl ?_
      exact ih (step + 1) _ _ (by omega) h
set_option maxRecDepth 100000 in
theorem ev_X7_bitsOf (G : Gt) {x : UInt64} {r : Int64} {μ : Mm} (h : bsF x = some r) : EVr G 0 Y_X7_bitsOf [.double x] μ (.long r) := by
  refine ev_of (by decide) (Nat.le_of_ble_eq_true rfl) ?_
  show Zs G 0 Y_X7_bitsOf (fnN G _) 0 [(0, .double x)] [] μ
  refine z_dload_n dX7_bitsOf_0 rfl ?_
  refine z_dconst0 dX7_bitsOf_1 ?_
  refine z_dcmp dX7_bitsOf_2 ?_
  refine z_if_gt (tgt := 8) dX7_bitsOf_3 (by decide) (fun c3 => ?_) (fun c3 => ?_)
  · unfold bsF at h
    rw [if_neg (Int32.not_le.mpr c3)] at h
    rcases h1 : dnL 64 x (nI 0) with _ | ⟨s1, e1⟩
    · rw [h1] at h; cases h
    rw [h1] at h
    replace h : (match upL 64 s1 e1 with | none => none | some (s2, e2) => if nzN (FP.dsub s2 cxOne) = true ∧ nzN (FP.dmul (FP.dsub s2 cxOne) cxBig) = true then some (((e2 + nI 1023).toInt64 <<< ((nI 52).toInt64 &&& 63)) + FP.d2l (FP.dmul (FP.dsub s2 cxOne) cxBig)) else none) = some r := h
    rcases h2 : upL 64 s1 e1 with _ | ⟨s2, e2⟩
    · rw [h2] at h; cases h
    rw [h2] at h
    replace h : (if nzN (FP.dsub s2 cxOne) = true ∧ nzN (FP.dmul (FP.dsub s2 cxOne) cxBig) = true then some (((e2 + nI 1023).toInt64 <<< ((nI 52).toInt64 &&& 63)) + FP.d2l (FP.dmul (FP.dsub s2 cxOne) cxBig)) else none) = some r := h
    have hb : nzN (FP.dsub s2 cxOne) = true ∧ nzN (FP.dmul (FP.dsub s2 cxOne) cxBig) = true := by
      apply Classical.byContradiction
      intro q
      rw [if_neg q] at h; cases h
    rw [if_pos hb] at h
    cases h
    refine z_dload_n dX7_bitsOf_8 rfl ?_
    refine z_dstore_n (lv' := [(2, _), (0, _)]) dX7_bitsOf_9 rfl (by decide) rfl ?_
    refine z_iconst (v := nI 0) dX7_bitsOf_10 (by decide) ?_
    refine z_istore (lv' := [(4, _), (2, _), (0, _)]) dX7_bitsOf_11 (by decide) rfl ?_
    refine z_iconst (v := nI 0) dX7_bitsOf_13 (by decide) ?_
    refine z_istore (lv' := [(5, _), (4, _), (2, _), (0, _)]) dX7_bitsOf_14 (by decide) rfl ?_
    refine z_sub (lv' := [(0, _), (2, _), (4, _), (5, _)]) rfl ?_
    refine lp1_X7_bitsOf G ?_ 64 0 x (nI 0) rfl h1
    refine z_iconst (v := nI 0) dX7_bitsOf_46 (by decide) ?_
    refine z_istore (lv' := [(5, _), (0, _), (2, _), (4, _)]) dX7_bitsOf_47 (by decide) rfl ?_
    refine z_sub (lv' := [(0, _), (2, _), (4, _), (5, _)]) rfl ?_
    refine lp2_X7_bitsOf G ?_ 64 0 s1 e1 rfl h2
    refine z_dload_n dX7_bitsOf_77 rfl ?_
    refine z_dconst1 dX7_bitsOf_78 ?_
    refine z_dsub dX7_bitsOf_79 (nzN_ok hb.1) ?_
    refine z_ldc2d (v := 4841369599423283200) dX7_bitsOf_80 (tb_at 765 (by decide +kernel) rfl) ?_
    refine z_dmul dX7_bitsOf_83 (nzN_ok hb.2) ?_
    refine z_d2l dX7_bitsOf_84 ?_
    refine z_lstore (lv' := [(5, _), (0, _), (2, _), (4, _)]) dX7_bitsOf_85 (by decide) rfl ?_
    refine z_iload dX7_bitsOf_87 rfl ?_
    refine z_sipush (v := nI 1023) dX7_bitsOf_89 (by decide) ?_
    refine z_iadd dX7_bitsOf_92 ?_
    refine z_i2l dX7_bitsOf_93 rfl ?_
    refine z_bipush (v := nI 52) dX7_bitsOf_94 (by decide) ?_
    refine z_lshl dX7_bitsOf_96 rfl ?_
    refine z_lload dX7_bitsOf_97 rfl ?_
    refine z_ladd dX7_bitsOf_99 ?_
    exact z_lret rfl dX7_bitsOf_100 ⟨rfl, rfl⟩
  · have hr : r = lN 0 := by
      unfold bsF at h
      rw [if_pos (Int32.not_lt.mp c3)] at h
      cases h; rfl
    subst hr
    refine z_lconst (v := lN 0) dX7_bitsOf_6 rfl ?_
    exact z_lret rfl dX7_bitsOf_7 ⟨rfl, rfl⟩
