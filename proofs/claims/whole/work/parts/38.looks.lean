/-- a question to the reference changes its tables alone -/
def mqF (μ u : Mm) : Prop := (∀ i k : Nat, ¬ (i = 35 ∧ k = 12) → u.1 i k = μ.1 i k) ∧ (∀ i : Nat, i < 40 ∨ 46 ≤ i → u.2.1 i = μ.2.1 i) ∧ u.2.2 = μ.2.2
theorem mqF.rf {μ : Mm} : mqF μ μ := ⟨fun _ _ _ => rfl, fun _ _ => rfl, rfl⟩
theorem mqF.trans {μ u u2 : Mm} (h : mqF μ u) (h2 : mqF u u2) : mqF μ u2 := ⟨fun i k q => (h2.1 i k q).trans (h.1 i k q), fun i q => (h2.2.1 i q).trans (h.2.1 i q), h2.2.2.trans h.2.2⟩
theorem mqF.uF {μ u : Mm} {k : Nat} {x : Int32} (h : mqF μ u) (hk : False ∨ k = 12) : mqF μ (uF u 35 k x) := h.trans ⟨fun i k2 q => uF_n _ _ (by have := hk.resolve_left id; omega), fun _ _ => rfl, rfl⟩
theorem nwOK.u3 {μ : Mm} {a b n : Nat} {E Q : Nat → Nat} (h : nwOK μ a b n E Q) (x : Int32) : nwOK (uF μ 35 3 x) a b n E Q := h.same rfl
theorem nwG.u3 {μ : Mm} {a b : Nat} (h : nwG μ a b) (x : Int32) : nwG (uF μ 35 3 x) a b := h.same rfl
theorem mqF.r3 {μ u : Mm} (h : mqF μ u) : u.1 35 3 = μ.1 35 3 := h.1 35 3 (by omega)
theorem mqF.uR {μ u : Mm} {i j : Nat} {x : Int32} (h : mqF μ u) (h1 : 40 ≤ i) (h2 : i < 46) : mqF μ (uR u i j x) := h.trans ⟨fun _ _ _ => rfl, fun i' q => uR_n _ _ _ (by omega), rfl⟩
theorem nwOK.q {μ u : Mm} {a b n : Nat} {E Q : Nat → Nat} (h : nwOK μ a b n E Q) (hf : mqF μ u) : nwOK u a b n E Q := h.same (hf.2.1 36 (by omega))
theorem nwG.q {μ u : Mm} {a b : Nat} (h : nwG μ a b) (hf : mqF μ u) : nwG u a b := h.same (hf.2.1 36 (by omega))
/-- what looks has found: M elements E, the sums of their sets, which hold a part that sums to nothing -/
def lkE (μ : Mm) (a b M : Nat) (E : Nat → Nat) : Prop := μ.1 35 12 = nI M ∧ M ≤ 11 ∧ ∀ k : Nat, k < M → μ.2.1 40 k = nI (E k) ∧ E k < a * b
def lkS (μ : Mm) (a b : Nat) (E : Nat → Nat) (N : Nat) : Prop := ∀ S : Nat, S < N → μ.2.1 41 S = nI (tot a b E S) ∧ μ.2.1 42 S = bI (hld a b E S)
theorem lkE.same {μ u : Mm} {a b M : Nat} {E : Nat → Nat} (h : lkE μ a b M E) (h1 : u.1 35 12 = μ.1 35 12) (h2 : u.2.1 40 = μ.2.1 40) : lkE u a b M E := by unfold lkE; rw [h1, h2]; exact h
abbrev hsF (a b : Nat) (E : Nat → Nat) (S : Nat) : Nat → Bool := fun j => S.testBit j && hld a b E (S ^^^ 2 ^ j)
theorem hs_flat {a b M S : Nat} {E : Nat → Nat} (hS : S < 2 ^ M) (hM : M ≤ 11) : anyN (hsF a b E S) M = hsub a b E S := by
  unfold hsub
  apply Bool.eq_iff_iff.mpr
  rw [anyN_true, anyN_true]
  constructor
  · rintro ⟨j, q1, q2⟩; exact ⟨j, by omega, q2⟩
  · rintro ⟨j, q1, q2⟩
    have q3 : S.testBit j = true := by
      have q4 : (S.testBit j && hld a b E (S ^^^ 2 ^ j)) = true := q2
      rw [Bool.and_eq_true] at q4; exact q4.1
    exact ⟨j, sb_nz (sb_rf S) hS q3, q2⟩
set_option maxRecDepth 100000 in
theorem ev_X8_refused (G : Gt) {w : Nat} {μ : Mm} (hw : w < 10) : EVw G 0 Y_X8_refused [rf G 35, .int (nI w)] μ (.int (bI (decide (0 < w)))) (uF μ 35 3 (nI w)) := by
  refine ev_of (by decide) (Nat.le_of_ble_eq_true rfl) ?_
  show Zs G 0 Y_X8_refused (fnN G _) 0 [(0, rf G 35), (1, .int (nI w))] [] μ
  refine z_aload_n dX8_refused_0 rfl ?_
  refine z_iload_n dX8_refused_1 rfl ?_
  refine z_putI dX8_refused_2 fp_X8_41 ⟨by decide, _, rfl, rfl⟩ ?_
  refine z_iload_n dX8_refused_5 rfl ?_
  refine z_ifN_le (tgt := 13) dX8_refused_6 (by decide) (by omega) (fun c6 => ?_) (fun c6 => ?_)
  · refine z_iconst (v := nI 0) dX8_refused_13 (by decide) ?_
    exact z_zret rfl rfl dX8_refused_14 ⟨by rw [decide_eq_false (by omega)]; rfl, rfl⟩
  · refine z_iconst (v := nI 1) dX8_refused_9 (by decide) ?_
    refine z_goto (tgt := 14) dX8_refused_10 (by decide) ?_
    exact z_zret rfl rfl dX8_refused_14 ⟨by rw [decide_eq_true (by omega)]; rfl, rfl⟩
theorem cdx_all {a b d : Nat} (h1 : 1 ≤ a) (h2 : a ≤ 6) (h3 : 1 ≤ b) (h4 : b ≤ 6) (hd : cdN a b ≤ d) (hd2 : d ≤ a) : (a % d = 0 ∧ b % d = 0) ↔ d = cdN a b := by
  have q := all2 (P := fun a b => (List.range 7).all fun d => decide (d < cdN a b) || decide (a < d) || decide ((a % d = 0 ∧ b % d = 0) ↔ d = cdN a b)) (by decide +kernel) h1 h2 h3 h4
  have q2 := List.all_eq_true.mp q d (List.mem_range.mpr (by omega))
  rw [decide_eq_false (show ¬ d < cdN a b by omega), decide_eq_false (show ¬ a < d by omega), Bool.false_or, Bool.false_or] at q2
  exact of_decide_eq_true q2
theorem cd_bd {a b : Nat} (h1 : 1 ≤ a) (h2 : a ≤ 6) (h3 : 1 ≤ b) (h4 : b ≤ 6) : 1 ≤ cdN a b ∧ cdN a b ≤ a := by
  have q := all2 (P := fun a b => decide (1 ≤ cdN a b ∧ cdN a b ≤ a)) (by decide +kernel) h1 h2 h3 h4
  exact of_decide_eq_true q
set_option maxRecDepth 100000 in
theorem lp_X8_bound (G : Gt) {a b : Nat} {μ : Mm} (hg : nwG μ a b) : ∀ (f d : Nat), d = cdN a b + f → d ≤ a →
    Zs G 1 Y_X8_bound (fnN G (fun v u => v = some (.int (nI (cdN a b + exN a b - 1))) ∧ u = μ)) 12 [(0, rf G 35), (1, .int (nI d))] [] μ := by
  intro f
  have hab := hg.ab
  have hab1 := hg.p
  have ha := hg.2.2.1
  have ha6 := hg.2.2.2.1
  have hb := hg.2.2.2.2.1
  have hb6 := hg.2.2.2.2.2
  have hcd := cd_bd ha ha6 hb hb6
  induction f with
  | zero =>
    intro d hf hd
    have hz := (cdx_all ha ha6 hb hb6 (show cdN a b ≤ d by omega) hd).mpr (by omega)
    have hex := ex_le hab
    refine z_aload_n dX8_bound_12 rfl ?_
    refine z_getR (j := 36) dX8_bound_13 fl_X8_7 ⟨by decide, _, rfl, rfl⟩ ?_
    refine z_iconst (v := nI 0) dX8_bound_16 (by decide) ?_
    refine z_ialdN dX8_bound_17 ⟨by decide, rfl⟩ (by omega) (by decide) hg.1 ?_
    refine z_iload_n dX8_bound_18 rfl ?_
    refine z_iremN dX8_bound_19 (by omega) (by omega) (by omega) ?_
    refine z_ifN_ne (tgt := 34) dX8_bound_20 (by decide) (by omega) (fun c20 => absurd hz.1 c20) (fun c20 => ?_)
    refine z_aload_n dX8_bound_23 rfl ?_
    refine z_getR (j := 36) dX8_bound_24 fl_X8_7 ⟨by decide, _, rfl, rfl⟩ ?_
    refine z_iconst (v := nI 1) dX8_bound_27 (by decide) ?_
    refine z_ialdN dX8_bound_28 ⟨by decide, rfl⟩ (by omega) (by decide) hg.2.1 ?_
    refine z_iload_n dX8_bound_29 rfl ?_
    refine z_iremN dX8_bound_30 (by omega) (by omega) (by omega) ?_
    refine z_ifN_eq (tgt := 40) dX8_bound_31 (by decide) (by omega) (fun c31 => ?_) (fun c31 => absurd hz.2 c31)
    refine z_iload_n dX8_bound_40 rfl ?_
    refine z_aload_n dX8_bound_41 rfl ?_
    refine z_getR (j := 36) dX8_bound_42 fl_X8_7 ⟨by decide, _, rfl, rfl⟩ ?_
    refine z_iconst (v := nI 0) dX8_bound_45 (by decide) ?_
    refine z_ialdN dX8_bound_46 ⟨by decide, rfl⟩ (by omega) (by decide) hg.1 ?_
    refine z_aload_n dX8_bound_47 rfl ?_
    refine z_getR (j := 36) dX8_bound_48 fl_X8_7 ⟨by decide, _, rfl, rfl⟩ ?_
    refine z_iconst (v := nI 1) dX8_bound_51 (by decide) ?_
    refine z_ialdN dX8_bound_52 ⟨by decide, rfl⟩ (by omega) (by decide) hg.2.1 ?_
    refine z_imulN dX8_bound_53 ?_
    refine z_iload_n dX8_bound_54 rfl ?_
    refine z_idivN dX8_bound_55 (by omega) (by omega) (by omega) ?_
    refine z_iaddN dX8_bound_56 ?_
    refine z_iconst (v := nI 1) dX8_bound_57 (by decide) ?_
    refine z_isubN dX8_bound_58 (Nat.le_trans (show 1 ≤ d by omega) (Nat.le_add_right _ _)) ?_
    exact z_ret (ty := none) (v := none) rfl dX8_bound_59 ⟨by rw [show d = cdN a b by omega]; rfl, rfl⟩
  | succ f ih =>
    intro d hf hd
    have hz : ¬ (a % d = 0 ∧ b % d = 0) := fun q => by have := (cdx_all ha ha6 hb hb6 (show cdN a b ≤ d by omega) hd).mp q; omega
    have hm1 : a % d < d := Nat.mod_lt _ (by omega)
    have hm2 : b % d < d := Nat.mod_lt _ (by omega)
    refine z_aload_n dX8_bound_12 rfl ?_
    refine z_getR (j := 36) dX8_bound_13 fl_X8_7 ⟨by decide, _, rfl, rfl⟩ ?_
    refine z_iconst (v := nI 0) dX8_bound_16 (by decide) ?_
    refine z_ialdN dX8_bound_17 ⟨by decide, rfl⟩ (by omega) (by decide) hg.1 ?_
    refine z_iload_n dX8_bound_18 rfl ?_
    refine z_iremN dX8_bound_19 (by omega) (by omega) (by omega) ?_
    refine z_ifN_ne (tgt := 34) dX8_bound_20 (by decide) (by omega) (fun c20 => ?_) (fun c20 => ?_)
    · refine z_iinc (v := nI (d - 1)) (lv' := [(1, _), (0, _)]) dX8_bound_34 rfl (nI_dec (by omega)) (by decide) rfl ?_
      refine z_goto (tgt := 12) dX8_bound_37 (by decide) ?_
      refine z_sub (lv' := [(0, _), (1, _)]) rfl ?_
      exact ih (d - 1) (by omega) (by omega)
    · refine z_aload_n dX8_bound_23 rfl ?_
      refine z_getR (j := 36) dX8_bound_24 fl_X8_7 ⟨by decide, _, rfl, rfl⟩ ?_
      refine z_iconst (v := nI 1) dX8_bound_27 (by decide) ?_
      refine z_ialdN dX8_bound_28 ⟨by decide, rfl⟩ (by omega) (by decide) hg.2.1 ?_
      refine z_iload_n dX8_bound_29 rfl ?_
      refine z_iremN dX8_bound_30 (by omega) (by omega) (by omega) ?_
      refine z_ifN_eq (tgt := 40) dX8_bound_31 (by decide) (by omega) (fun c31 => absurd ⟨c20, c31⟩ hz) (fun c31 => ?_)
      refine z_iinc (v := nI (d - 1)) (lv' := [(1, _), (0, _)]) dX8_bound_34 rfl (nI_dec (by omega)) (by decide) rfl ?_
      refine z_goto (tgt := 12) dX8_bound_37 (by decide) ?_
      refine z_sub (lv' := [(0, _), (1, _)]) rfl ?_
      exact ih (d - 1) (by omega) (by omega)
set_option maxRecDepth 100000 in
theorem ev_X8_bound (G : Gt) {a b : Nat} {μ : Mm} (hg : nwG μ a b) : EV G 1 Y_X8_bound [rf G 35] μ (fun v u => v = some (.int (nI (cdN a b + exN a b - 1))) ∧ u = uF μ 35 3 (nI 0)) := by
  have hab := hg.ab
  have hab1 := hg.p
  have ha := hg.2.2.1
  have ha6 := hg.2.2.2.1
  have hb := hg.2.2.2.2.1
  have hb6 := hg.2.2.2.2.2
  have hcd := cd_bd ha ha6 hb hb6
  refine ev_of (by decide) (Nat.le_of_ble_eq_true rfl) ?_
  show Zs G 1 Y_X8_bound (fnN G _) 0 [(0, rf G 35)] [] μ
  refine z_aload_n dX8_bound_0 rfl ?_
  refine z_iconst (v := nI 0) dX8_bound_1 (by decide) ?_
  refine z_putI dX8_bound_2 fp_X8_41 ⟨by decide, _, rfl, rfl⟩ ?_
  refine z_aload_n dX8_bound_5 rfl ?_
  refine z_getR (j := 36) dX8_bound_6 fl_X8_7 ⟨by decide, _, rfl, rfl⟩ ?_
  refine z_iconst (v := nI 0) dX8_bound_9 (by decide) ?_
  refine z_ialdN dX8_bound_10 ⟨by decide, rfl⟩ (by omega) (by decide) hg.1 ?_
  refine z_istore_n (lv' := [(1, _), (0, _)]) dX8_bound_11 rfl (by decide) rfl ?_
  refine z_sub (lv' := [(0, _), (1, _)]) rfl ?_
  exact lp_X8_bound G (hg.u3 _) (a - cdN a b) a (by omega) (Nat.le_refl _)
set_option maxRecDepth 100000 in
theorem lp2_X8_looks (G : Gt) {a b : Nat} {μ : Mm} (hg : nwG μ a b) {M S : Nat} {E : Nat → Nat} {F : Fn} (hl : lkE μ a b M E) (hS : S < 2 ^ M) (hs : lkS μ a b E S) (hk : Zs G 1 Y_X8_looks F 175 [(0, rf G 35), (2, .int (nI S)), (3, .int (nI (tot a b E S))), (4, .int (bI (hsub a b E S)))] [] μ) : ∀ (f k : Nat), k + f = M →
    Zs G 1 Y_X8_looks F 99 [(0, rf G 35), (2, .int (nI S)), (3, .int (nI (totL a b E S k))), (4, .int (bI (anyN (hsF a b E S) k))), (5, .int (nI k))] [] μ := by
  intro f
  have hab := hg.ab
  have hab1 := hg.p
  have ha := hg.2.2.1
  have ha6 := hg.2.2.2.1
  have hb := hg.2.2.2.2.1
  have hb6 := hg.2.2.2.2.2
  have hM := hl.2.1
  have hpw := p2048 hM
  induction f with
  | zero =>
    intro k hf
    refine z_iload dX8_looks_99 rfl ?_
    refine z_aload_n dX8_looks_101 rfl ?_
    refine z_getI dX8_looks_102 fl_X8_81 ⟨by decide, _, rfl, rfl⟩ hl.1 ?_
    refine z_icmpN_ge (tgt := 175) dX8_looks_105 (by decide) (by omega) (by omega) (fun c105 => ?_) (fun c105 => absurd c105 (by omega))
    refine z_sub (lv' := [(0, _), (2, _), (3, _), (4, _)]) rfl ?_
    rw [show k = M by omega, hs_flat hS hM, ← totL_flat (a := a) (b := b) (E := E) hS 11 hM]
    exact hk
  | succ f ih =>
    intro k hf
    have hek := hl.2.2 k (by omega)
    have htl := totL_lt ha hb E S k
    have hk31 : 2 ^ k ≤ 2 ^ M := Nat.pow_le_pow_right (by decide) (by omega)
    refine z_iload dX8_looks_99 rfl ?_
    refine z_aload_n dX8_looks_101 rfl ?_
    refine z_getI dX8_looks_102 fl_X8_81 ⟨by decide, _, rfl, rfl⟩ hl.1 ?_
    refine z_icmpN_ge (tgt := 175) dX8_looks_105 (by decide) (by omega) (by omega) (fun c105 => absurd c105 (by omega)) (fun c105 => ?_)
    refine z_iload_n dX8_looks_108 rfl ?_
    refine z_iload dX8_looks_109 rfl ?_
    refine z_cS2 dX8_looks_111 lk_X8_84 (by decide) (Nat.le_of_ble_eq_true rfl) (ev_X8_has G (by omega) (by omega)) ?_
    refine z_ifB_eq (tgt := 132) dX8_looks_114 (by decide) (fun c114 => ?_) (fun c114 => ?_)
    · refine z_iload_n dX8_looks_132 rfl ?_
      refine z_istore_n (lv' := [(3, _), (0, _), (2, _), (4, _), (5, _)]) dX8_looks_133 rfl (by decide) rfl ?_
      refine z_iload dX8_looks_134 rfl ?_
      refine z_ifB_ne (tgt := 162) dX8_looks_136 (by decide) (fun c136 => ?_) (fun c136 => ?_)
      · refine z_iconst (v := nI 1) dX8_looks_162 (by decide) ?_
        refine z_goto (tgt := 167) dX8_looks_163 (by decide) ?_
        refine z_istore (lv' := [(4, _), (3, _), (0, _), (2, _), (5, _)]) dX8_looks_167 (by decide) rfl ?_
        refine z_iinc (v := nI (k + 1)) (lv' := [(5, _), (4, _), (3, _), (0, _), (2, _)]) dX8_looks_169 rfl (nI_inc _ 1) (by decide) rfl ?_
        refine z_goto (tgt := 99) dX8_looks_172 (by decide) ?_
        have q := ih (k + 1) (by omega)
        rw [show totL a b E S (k + 1) = (totL a b E S k) by rw [show totL a b E S (k + 1) = if S.testBit k then plN a b (totL a b E S k) (E k) else totL a b E S k from rfl, c114]; rfl, show bI (anyN (hsF a b E S) (k + 1)) = nI 1 by rw [show anyN (hsF a b E S) (k + 1) = (anyN (hsF a b E S) k || (S.testBit k && hld a b E (S ^^^ 2 ^ k))) from rfl, c136, Bool.true_or]; rfl] at q
        refine z_sub (lv' := [(0, _), (2, _), (3, _), (4, _), (5, _)]) rfl ?_
        exact q
      · refine z_iload_n dX8_looks_139 rfl ?_
        refine z_iload dX8_looks_140 rfl ?_
        refine z_cS2 dX8_looks_142 lk_X8_84 (by decide) (Nat.le_of_ble_eq_true rfl) (ev_X8_has G (by omega) (by omega)) ?_
        refine z_ifB_eq (tgt := 166) dX8_looks_145 (by decide) (fun c145 => ?_) (fun c145 => ?_)
        · refine z_iconst (v := nI 0) dX8_looks_166 (by decide) ?_
          refine z_istore (lv' := [(4, _), (3, _), (0, _), (2, _), (5, _)]) dX8_looks_167 (by decide) rfl ?_
          refine z_iinc (v := nI (k + 1)) (lv' := [(5, _), (4, _), (3, _), (0, _), (2, _)]) dX8_looks_169 rfl (nI_inc _ 1) (by decide) rfl ?_
          refine z_goto (tgt := 99) dX8_looks_172 (by decide) ?_
          have q := ih (k + 1) (by omega)
          rw [show totL a b E S (k + 1) = (totL a b E S k) by rw [show totL a b E S (k + 1) = if S.testBit k then plN a b (totL a b E S k) (E k) else totL a b E S k from rfl, c114]; rfl, show bI (anyN (hsF a b E S) (k + 1)) = nI 0 by rw [show anyN (hsF a b E S) (k + 1) = (anyN (hsF a b E S) k || (S.testBit k && hld a b E (S ^^^ 2 ^ k))) from rfl, c136, c145, Bool.false_and, Bool.false_or]; rfl] at q
          refine z_sub (lv' := [(0, _), (2, _), (3, _), (4, _), (5, _)]) rfl ?_
          exact q
        · have hle := sb_le (sb_pow.mpr c145)
          refine z_aload_n dX8_looks_148 rfl ?_
          refine z_getR (j := 42) dX8_looks_149 fl_X8_28 ⟨by decide, _, rfl, rfl⟩ ?_
          refine z_iload_n dX8_looks_152 rfl ?_
          refine z_iconst (v := nI 1) dX8_looks_153 (by decide) ?_
          refine z_iload dX8_looks_154 rfl ?_
          refine z_ishlN dX8_looks_156 (by omega) (by omega) ?_
          refine z_isubN dX8_looks_157 (by omega) ?_
          refine z_zaldN dX8_looks_158 ⟨by decide, rfl⟩ (by omega) (by decide) (show μ.2.1 42 (S - 1 * 2 ^ k) = bI (hld a b E (S ^^^ 2 ^ k)) by rw [Nat.one_mul, ← xor_sub (sb_pow.mpr c145)]; exact (hs _ (xor_lt (sb_pow.mpr c145) (pow_ne0 k))).2) ?_
          refine z_ifB_eq (tgt := 166) dX8_looks_159 (by decide) (fun c159 => ?_) (fun c159 => ?_)
          · refine z_iconst (v := nI 0) dX8_looks_166 (by decide) ?_
            refine z_istore (lv' := [(4, _), (3, _), (0, _), (2, _), (5, _)]) dX8_looks_167 (by decide) rfl ?_
            refine z_iinc (v := nI (k + 1)) (lv' := [(5, _), (4, _), (3, _), (0, _), (2, _)]) dX8_looks_169 rfl (nI_inc _ 1) (by decide) rfl ?_
            refine z_goto (tgt := 99) dX8_looks_172 (by decide) ?_
            have q := ih (k + 1) (by omega)
            rw [show totL a b E S (k + 1) = (totL a b E S k) by rw [show totL a b E S (k + 1) = if S.testBit k then plN a b (totL a b E S k) (E k) else totL a b E S k from rfl, c114]; rfl, show bI (anyN (hsF a b E S) (k + 1)) = nI 0 by rw [show anyN (hsF a b E S) (k + 1) = (anyN (hsF a b E S) k || (S.testBit k && hld a b E (S ^^^ 2 ^ k))) from rfl, c136, c145, c159, Bool.true_and, Bool.false_or]; rfl] at q
            refine z_sub (lv' := [(0, _), (2, _), (3, _), (4, _), (5, _)]) rfl ?_
            exact q
          · refine z_iconst (v := nI 1) dX8_looks_162 (by decide) ?_
            refine z_goto (tgt := 167) dX8_looks_163 (by decide) ?_
            refine z_istore (lv' := [(4, _), (3, _), (0, _), (2, _), (5, _)]) dX8_looks_167 (by decide) rfl ?_
            refine z_iinc (v := nI (k + 1)) (lv' := [(5, _), (4, _), (3, _), (0, _), (2, _)]) dX8_looks_169 rfl (nI_inc _ 1) (by decide) rfl ?_
            refine z_goto (tgt := 99) dX8_looks_172 (by decide) ?_
            have q := ih (k + 1) (by omega)
            rw [show totL a b E S (k + 1) = (totL a b E S k) by rw [show totL a b E S (k + 1) = if S.testBit k then plN a b (totL a b E S k) (E k) else totL a b E S k from rfl, c114]; rfl, show bI (anyN (hsF a b E S) (k + 1)) = nI 1 by rw [show anyN (hsF a b E S) (k + 1) = (anyN (hsF a b E S) k || (S.testBit k && hld a b E (S ^^^ 2 ^ k))) from rfl, c136, c145, c159, Bool.true_and, Bool.false_or]; rfl] at q
            refine z_sub (lv' := [(0, _), (2, _), (3, _), (4, _), (5, _)]) rfl ?_
            exact q
    · refine z_aload_n dX8_looks_117 rfl ?_
      refine z_iload_n dX8_looks_118 rfl ?_
      refine z_aload_n dX8_looks_119 rfl ?_
      refine z_getR (j := 40) dX8_looks_120 fl_X8_22 ⟨by decide, _, rfl, rfl⟩ ?_
      refine z_iload dX8_looks_123 rfl ?_
      refine z_ialdN dX8_looks_125 ⟨by decide, rfl⟩ (by omega) (by decide) hek.1 ?_
      refine z_cV2 dX8_looks_126 lk_X8_64 (by decide) ⟨by decide, _, rfl⟩ rfl (Nat.le_of_ble_eq_true rfl) (ev_X8_plus G hg (by omega) (by omega)) ?_
      refine z_goto (tgt := 133) dX8_looks_129 (by decide) ?_
      refine z_istore_n (lv' := [(3, _), (0, _), (2, _), (4, _), (5, _)]) dX8_looks_133 rfl (by decide) rfl ?_
      refine z_iload dX8_looks_134 rfl ?_
      refine z_ifB_ne (tgt := 162) dX8_looks_136 (by decide) (fun c136 => ?_) (fun c136 => ?_)
      · refine z_iconst (v := nI 1) dX8_looks_162 (by decide) ?_
        refine z_goto (tgt := 167) dX8_looks_163 (by decide) ?_
        refine z_istore (lv' := [(4, _), (3, _), (0, _), (2, _), (5, _)]) dX8_looks_167 (by decide) rfl ?_
        refine z_iinc (v := nI (k + 1)) (lv' := [(5, _), (4, _), (3, _), (0, _), (2, _)]) dX8_looks_169 rfl (nI_inc _ 1) (by decide) rfl ?_
        refine z_goto (tgt := 99) dX8_looks_172 (by decide) ?_
        have q := ih (k + 1) (by omega)
        rw [show totL a b E S (k + 1) = (plN a b (totL a b E S k) (E k)) by rw [show totL a b E S (k + 1) = if S.testBit k then plN a b (totL a b E S k) (E k) else totL a b E S k from rfl, c114]; rfl, show bI (anyN (hsF a b E S) (k + 1)) = nI 1 by rw [show anyN (hsF a b E S) (k + 1) = (anyN (hsF a b E S) k || (S.testBit k && hld a b E (S ^^^ 2 ^ k))) from rfl, c136, Bool.true_or]; rfl] at q
        refine z_sub (lv' := [(0, _), (2, _), (3, _), (4, _), (5, _)]) rfl ?_
        exact q
      · refine z_iload_n dX8_looks_139 rfl ?_
        refine z_iload dX8_looks_140 rfl ?_
        refine z_cS2 dX8_looks_142 lk_X8_84 (by decide) (Nat.le_of_ble_eq_true rfl) (ev_X8_has G (by omega) (by omega)) ?_
        refine z_ifB_eq (tgt := 166) dX8_looks_145 (by decide) (fun c145 => ?_) (fun c145 => ?_)
        · refine z_iconst (v := nI 0) dX8_looks_166 (by decide) ?_
          refine z_istore (lv' := [(4, _), (3, _), (0, _), (2, _), (5, _)]) dX8_looks_167 (by decide) rfl ?_
          refine z_iinc (v := nI (k + 1)) (lv' := [(5, _), (4, _), (3, _), (0, _), (2, _)]) dX8_looks_169 rfl (nI_inc _ 1) (by decide) rfl ?_
          refine z_goto (tgt := 99) dX8_looks_172 (by decide) ?_
          have q := ih (k + 1) (by omega)
          rw [show totL a b E S (k + 1) = (plN a b (totL a b E S k) (E k)) by rw [show totL a b E S (k + 1) = if S.testBit k then plN a b (totL a b E S k) (E k) else totL a b E S k from rfl, c114]; rfl, show bI (anyN (hsF a b E S) (k + 1)) = nI 0 by rw [show anyN (hsF a b E S) (k + 1) = (anyN (hsF a b E S) k || (S.testBit k && hld a b E (S ^^^ 2 ^ k))) from rfl, c136, c145, Bool.false_and, Bool.false_or]; rfl] at q
          refine z_sub (lv' := [(0, _), (2, _), (3, _), (4, _), (5, _)]) rfl ?_
          exact q
        · have hle := sb_le (sb_pow.mpr c145)
          refine z_aload_n dX8_looks_148 rfl ?_
          refine z_getR (j := 42) dX8_looks_149 fl_X8_28 ⟨by decide, _, rfl, rfl⟩ ?_
          refine z_iload_n dX8_looks_152 rfl ?_
          refine z_iconst (v := nI 1) dX8_looks_153 (by decide) ?_
          refine z_iload dX8_looks_154 rfl ?_
          refine z_ishlN dX8_looks_156 (by omega) (by omega) ?_
          refine z_isubN dX8_looks_157 (by omega) ?_
          refine z_zaldN dX8_looks_158 ⟨by decide, rfl⟩ (by omega) (by decide) (show μ.2.1 42 (S - 1 * 2 ^ k) = bI (hld a b E (S ^^^ 2 ^ k)) by rw [Nat.one_mul, ← xor_sub (sb_pow.mpr c145)]; exact (hs _ (xor_lt (sb_pow.mpr c145) (pow_ne0 k))).2) ?_
          refine z_ifB_eq (tgt := 166) dX8_looks_159 (by decide) (fun c159 => ?_) (fun c159 => ?_)
          · refine z_iconst (v := nI 0) dX8_looks_166 (by decide) ?_
            refine z_istore (lv' := [(4, _), (3, _), (0, _), (2, _), (5, _)]) dX8_looks_167 (by decide) rfl ?_
            refine z_iinc (v := nI (k + 1)) (lv' := [(5, _), (4, _), (3, _), (0, _), (2, _)]) dX8_looks_169 rfl (nI_inc _ 1) (by decide) rfl ?_
            refine z_goto (tgt := 99) dX8_looks_172 (by decide) ?_
            have q := ih (k + 1) (by omega)
            rw [show totL a b E S (k + 1) = (plN a b (totL a b E S k) (E k)) by rw [show totL a b E S (k + 1) = if S.testBit k then plN a b (totL a b E S k) (E k) else totL a b E S k from rfl, c114]; rfl, show bI (anyN (hsF a b E S) (k + 1)) = nI 0 by rw [show anyN (hsF a b E S) (k + 1) = (anyN (hsF a b E S) k || (S.testBit k && hld a b E (S ^^^ 2 ^ k))) from rfl, c136, c145, c159, Bool.true_and, Bool.false_or]; rfl] at q
            refine z_sub (lv' := [(0, _), (2, _), (3, _), (4, _), (5, _)]) rfl ?_
            exact q
          · refine z_iconst (v := nI 1) dX8_looks_162 (by decide) ?_
            refine z_goto (tgt := 167) dX8_looks_163 (by decide) ?_
            refine z_istore (lv' := [(4, _), (3, _), (0, _), (2, _), (5, _)]) dX8_looks_167 (by decide) rfl ?_
            refine z_iinc (v := nI (k + 1)) (lv' := [(5, _), (4, _), (3, _), (0, _), (2, _)]) dX8_looks_169 rfl (nI_inc _ 1) (by decide) rfl ?_
            refine z_goto (tgt := 99) dX8_looks_172 (by decide) ?_
            have q := ih (k + 1) (by omega)
            rw [show totL a b E S (k + 1) = (plN a b (totL a b E S k) (E k)) by rw [show totL a b E S (k + 1) = if S.testBit k then plN a b (totL a b E S k) (E k) else totL a b E S k from rfl, c114]; rfl, show bI (anyN (hsF a b E S) (k + 1)) = nI 1 by rw [show anyN (hsF a b E S) (k + 1) = (anyN (hsF a b E S) k || (S.testBit k && hld a b E (S ^^^ 2 ^ k))) from rfl, c136, c145, c159, Bool.true_and, Bool.false_or]; rfl] at q
            refine z_sub (lv' := [(0, _), (2, _), (3, _), (4, _), (5, _)]) rfl ?_
            exact q
