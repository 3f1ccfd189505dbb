/-- what the reference keeps of a state, in its one row -/
def nwOK (μ : Mm) (a b n : Nat) (E Q : Nat → Nat) : Prop := μ.2.1 36 0 = nI a ∧ μ.2.1 36 1 = nI b ∧ μ.2.1 36 2 = nI n ∧ n ≤ 10 ∧ (1 ≤ a ∧ a ≤ 6 ∧ 1 ≤ b ∧ b ≤ 6) ∧ (∀ k : Nat, k < n → μ.2.1 36 (3 + k) = nI (E k) ∧ E k < a * b) ∧ ∀ k : Nat, k < n → μ.2.1 36 (13 + k) = nI (Q k) ∧ Q k < 6
section NW
variable {μ : Mm} {a b n : Nat} {E Q : Nat → Nat}
theorem nwOK.va (h : nwOK μ a b n E Q) : μ.2.1 36 0 = nI a := h.1
theorem nwOK.vb (h : nwOK μ a b n E Q) : μ.2.1 36 1 = nI b := h.2.1
theorem nwOK.vn (h : nwOK μ a b n E Q) : μ.2.1 36 2 = nI n := h.2.2.1
theorem nwOK.le (h : nwOK μ a b n E Q) : n ≤ 10 := h.2.2.2.1
theorem nwOK.g (h : nwOK μ a b n E Q) : 1 ≤ a ∧ a ≤ 6 ∧ 1 ≤ b ∧ b ≤ 6 := h.2.2.2.2.1
theorem nwOK.e (h : nwOK μ a b n E Q) {k : Nat} (hk : k < n) : μ.2.1 36 (3 + k) = nI (E k) := (h.2.2.2.2.2.1 k hk).1
theorem nwOK.el (h : nwOK μ a b n E Q) {k : Nat} (hk : k < n) : E k < a * b := (h.2.2.2.2.2.1 k hk).2
theorem nwOK.p (h : nwOK μ a b n E Q) {k : Nat} (hk : k < n) : μ.2.1 36 (13 + k) = nI (Q k) := (h.2.2.2.2.2.2 k hk).1
theorem nwOK.pl (h : nwOK μ a b n E Q) {k : Nat} (hk : k < n) : Q k < 6 := (h.2.2.2.2.2.2 k hk).2
theorem nwOK.ab (h : nwOK μ a b n E Q) : a * b ≤ 36 := ab_le h.g.2.1 h.g.2.2.2
theorem nwOK.same {μ' : Mm} (h : nwOK μ a b n E Q) (hr : μ'.2.1 36 = μ.2.1 36) : nwOK μ' a b n E Q := by unfold nwOK; rw [hr]; exact h
end NW
/-- the group's numbers alone -/
def nwG (μ : Mm) (a b : Nat) : Prop := μ.2.1 36 0 = nI a ∧ μ.2.1 36 1 = nI b ∧ 1 ≤ a ∧ a ≤ 6 ∧ 1 ≤ b ∧ b ≤ 6
theorem nwOK.G {μ : Mm} {a b n : Nat} {E Q : Nat → Nat} (h : nwOK μ a b n E Q) : nwG μ a b := ⟨h.1, h.2.1, h.g⟩
theorem nwG.ab {μ : Mm} {a b : Nat} (h : nwG μ a b) : a * b ≤ 36 := ab_le h.2.2.2.1 h.2.2.2.2.2
theorem nwG.p {μ : Mm} {a b : Nat} (h : nwG μ a b) : 1 ≤ a * b := ab_pos h.2.2.1 h.2.2.2.2.1
theorem nwG.same {μ μ' : Mm} {a b : Nat} (h : nwG μ a b) (hr : μ'.2.1 36 = μ.2.1 36) : nwG μ' a b := by unfold nwG; rw [hr]; exact h
theorem pl_eq (a b x y : Nat) : (x % a + y % a) % a + a * ((x / a + y / a) % b) = plN a b x y := by
  unfold plN
  rw [← Nat.add_mod, Nat.add_comm]
theorem bI_nar (c : Bool) : narrow .boolean (.int (bI c)) = .int (bI c) := by cases c <;> rfl
def wiN (x l h : Int32) : Bool := !decide (x < l) && !decide (h < x)
theorem wi_in {x : Int32} {n : Nat} (hn : n < 2 ^ 31) : wiN x (nI 0) (nI n - nI 1) = inR x n := by
  have h0 : (nI 0).toInt = 0 := rfl
  have h1 : (nI n - nI 1).toInt = (n : Int) - 1 := by
    rcases Nat.eq_zero_or_pos n with e | e
    · subst e; rfl
    · obtain ⟨m, rfl⟩ : ∃ m, n = m + 1 := ⟨n - 1, by omega⟩
      rw [pk_sub (show 1 ≤ m + 1 by omega), nI_toInt (by omega)]; omega
  unfold wiN inR
  have i1 : x < nI 0 ↔ x.toInt < 0 := by rw [Int32.lt_iff_toInt_lt, h0]
  have i2 : nI n - nI 1 < x ↔ (n : Int) - 1 < x.toInt := by rw [Int32.lt_iff_toInt_lt, h1]
  by_cases h2 : x.toInt < 0
  · rw [decide_eq_true (i1.mpr h2), decide_eq_false (show ¬ (0 ≤ x.toInt ∧ x.toInt < n) by omega)]; rfl
  · by_cases h3 : (n : Int) - 1 < x.toInt
    · rw [decide_eq_false (fun q => h2 (i1.mp q)), decide_eq_true (i2.mpr h3), decide_eq_false (show ¬ (0 ≤ x.toInt ∧ x.toInt < n) by omega)]; rfl
    · rw [decide_eq_false (fun q => h2 (i1.mp q)), decide_eq_false (fun q => h3 (i2.mp q)), decide_eq_true (show 0 ≤ x.toInt ∧ x.toInt < n by omega)]; rfl
theorem wi_N {x l h : Nat} (hx : x < 2 ^ 31) (hl : l < 2 ^ 31) (hh : h < 2 ^ 31) : wiN (nI x) (nI l) (nI h) = (decide (l ≤ x) && decide (x ≤ h)) := by
  unfold wiN
  have i1 : nI x < nI l ↔ x < l := by rw [Int32.lt_iff_toInt_lt, nI_toInt hx, nI_toInt hl]; omega
  have i2 : nI h < nI x ↔ h < x := by rw [Int32.lt_iff_toInt_lt, nI_toInt hx, nI_toInt hh]; omega
  by_cases h1 : l ≤ x
  · by_cases h2 : x ≤ h
    · rw [decide_eq_true h1, decide_eq_true h2, decide_eq_false (fun q => absurd (i1.mp q) (by omega)), decide_eq_false (fun q => absurd (i2.mp q) (by omega))]; rfl
    · rw [decide_eq_true h1, decide_eq_false h2, decide_eq_false (fun q => absurd (i1.mp q) (by omega)), decide_eq_true (i2.mpr (by omega))]; rfl
  · rw [decide_eq_false h1, decide_eq_true (i1.mpr (by omega))]; rfl
set_option maxRecDepth 100000 in
theorem ev_X8_within (G : Gt) {x l h : Int32} {μ : Mm} : EVr G 0 Y_X8_within [.int x, .int l, .int h] μ (.int (bI (wiN x l h))) := by
  refine ev_of (by decide) (Nat.le_of_ble_eq_true rfl) ?_
  show Zs G 0 Y_X8_within (fnN G _) 0 [(0, .int x), (1, .int l), (2, .int h)] [] μ
  refine z_iload_n dX8_within_0 rfl ?_
  refine z_iload_n dX8_within_1 rfl ?_
  refine z_icmp_lt (tgt := 14) dX8_within_2 (by decide) (fun c2 => ?_) (fun c2 => ?_)
  · refine z_iconst (v := nI 0) dX8_within_14 (by decide) ?_
    exact z_zret rfl rfl dX8_within_15 ⟨by unfold wiN; rw [decide_eq_true c2]; rfl, rfl⟩
  · refine z_iload_n dX8_within_5 rfl ?_
    refine z_iload_n dX8_within_6 rfl ?_
    refine z_icmp_gt (tgt := 14) dX8_within_7 (by decide) (fun c7 => ?_) (fun c7 => ?_)
    · refine z_iconst (v := nI 0) dX8_within_14 (by decide) ?_
      exact z_zret rfl rfl dX8_within_15 ⟨by unfold wiN; rw [decide_eq_false c2, decide_eq_true c7]; rfl, rfl⟩
    · refine z_iconst (v := nI 1) dX8_within_10 (by decide) ?_
      refine z_goto (tgt := 15) dX8_within_11 (by decide) ?_
      exact z_zret rfl rfl dX8_within_15 ⟨by unfold wiN; rw [decide_eq_false c2, decide_eq_false c7]; rfl, rfl⟩
set_option maxRecDepth 100000 in
theorem ev_X8_size (G : Gt) {a b : Nat} {μ : Mm} (hg : nwG μ a b) : EVr G 0 Y_X8_size [rf G 35] μ (.int (nI (a * b))) := by
  refine ev_of (by decide) (Nat.le_of_ble_eq_true rfl) ?_
  show Zs G 0 Y_X8_size (fnN G _) 0 [(0, rf G 35)] [] μ
  refine z_aload_n dX8_size_0 rfl ?_
  refine z_getR (j := 36) dX8_size_1 fl_X8_7 ⟨by decide, _, rfl, rfl⟩ ?_
  refine z_iconst (v := nI 0) dX8_size_4 (by decide) ?_
  refine z_ialdN dX8_size_5 ⟨by decide, rfl⟩ (by omega) (by decide) hg.1 ?_
  refine z_aload_n dX8_size_6 rfl ?_
  refine z_getR (j := 36) dX8_size_7 fl_X8_7 ⟨by decide, _, rfl, rfl⟩ ?_
  refine z_iconst (v := nI 1) dX8_size_10 (by decide) ?_
  refine z_ialdN dX8_size_11 ⟨by decide, rfl⟩ (by omega) (by decide) hg.2.1 ?_
  refine z_imulN dX8_size_12 ?_
  exact z_ret (ty := none) (v := none) rfl dX8_size_13 ⟨rfl, rfl⟩
set_option maxRecDepth 100000 in
theorem ev_X8_isElement (G : Gt) {a b : Nat} {μ : Mm} (hg : nwG μ a b) {x : Int32} : EVr G 1 Y_X8_isElement [rf G 35, .int x] μ (.int (bI (inR x (a * b)))) := by
  have hab := hg.ab
  refine ev_of (by decide) (Nat.le_of_ble_eq_true rfl) ?_
  show Zs G 1 Y_X8_isElement (fnN G _) 0 [(0, rf G 35), (1, .int x)] [] μ
  refine z_iload_n dX8_isElement_0 rfl ?_
  refine z_iconst (v := nI 0) dX8_isElement_1 (by decide) ?_
  refine z_aload_n dX8_isElement_2 rfl ?_
  refine z_cV0 dX8_isElement_3 lk_X8_56 (by decide) ⟨by decide, _, rfl⟩ rfl (Nat.le_of_ble_eq_true rfl) (ev_X8_size G hg) ?_
  refine z_iconst (v := nI 1) dX8_isElement_6 (by decide) ?_
  refine z_isub dX8_isElement_7 ?_
  refine z_cS3 dX8_isElement_8 lk_X8_60 (by decide) (Nat.le_of_ble_eq_true rfl) (ev_X8_within G) ?_
  exact z_zret rfl (bI_nar _) dX8_isElement_11 ⟨by rw [wi_in (by omega)], rfl⟩
set_option maxRecDepth 100000 in
theorem ev_X8_isPlace (G : Gt) {a b n : Nat} {E Q : Nat → Nat} {μ : Mm} (h : nwOK μ a b n E Q) {x : Int32} : EVr G 1 Y_X8_isPlace [rf G 35, .int x] μ (.int (bI (inR x n))) := by
  have hn := h.le
  refine ev_of (by decide) (Nat.le_of_ble_eq_true rfl) ?_
  show Zs G 1 Y_X8_isPlace (fnN G _) 0 [(0, rf G 35), (1, .int x)] [] μ
  refine z_iload_n dX8_isPlace_0 rfl ?_
  refine z_iconst (v := nI 0) dX8_isPlace_1 (by decide) ?_
  refine z_aload_n dX8_isPlace_2 rfl ?_
  refine z_getR (j := 36) dX8_isPlace_3 fl_X8_7 ⟨by decide, _, rfl, rfl⟩ ?_
  refine z_iconst (v := nI 2) dX8_isPlace_6 (by decide) ?_
  refine z_ialdN dX8_isPlace_7 ⟨by decide, rfl⟩ (by omega) (by decide) h.vn ?_
  refine z_iconst (v := nI 1) dX8_isPlace_8 (by decide) ?_
  refine z_isub dX8_isPlace_9 ?_
  refine z_cS3 dX8_isPlace_10 lk_X8_60 (by decide) (Nat.le_of_ble_eq_true rfl) (ev_X8_within G) ?_
  exact z_zret rfl (bI_nar _) dX8_isPlace_13 ⟨by rw [wi_in (by omega)], rfl⟩
set_option maxRecDepth 100000 in
theorem ev_X8_plus (G : Gt) {a b : Nat} {μ : Mm} (hg : nwG μ a b) {x y : Nat} (hx : x < 1000) (hy : y < 1000) : EVr G 0 Y_X8_plus [rf G 35, .int (nI x), .int (nI y)] μ (.int (nI (plN a b x y))) := by
  have hab := hg.ab
  have ha := hg.2.2.1
  have ha6 := hg.2.2.2.1
  have hb := hg.2.2.2.2.1
  have hb6 := hg.2.2.2.2.2
  have hx1 := Nat.mod_lt x (show 0 < a by omega)
  have hy1 := Nat.mod_lt y (show 0 < a by omega)
  have hx2 : x / a < 1000 := Nat.lt_of_le_of_lt (Nat.div_le_self _ _) hx
  have hy2 : y / a < 1000 := Nat.lt_of_le_of_lt (Nat.div_le_self _ _) hy
  refine ev_of (by decide) (Nat.le_of_ble_eq_true rfl) ?_
  show Zs G 0 Y_X8_plus (fnN G _) 0 [(0, rf G 35), (1, .int (nI x)), (2, .int (nI y))] [] μ
  refine z_aload_n dX8_plus_0 rfl ?_
  refine z_getR (j := 36) dX8_plus_1 fl_X8_7 ⟨by decide, _, rfl, rfl⟩ ?_
  refine z_iconst (v := nI 0) dX8_plus_4 (by decide) ?_
  refine z_ialdN dX8_plus_5 ⟨by decide, rfl⟩ (by omega) (by decide) hg.1 ?_
  refine z_istore_n (lv' := [(3, _), (0, _), (1, _), (2, _)]) dX8_plus_6 rfl (by decide) rfl ?_
  refine z_iload_n dX8_plus_7 rfl ?_
  refine z_iload_n dX8_plus_8 rfl ?_
  refine z_iremN dX8_plus_9 (by omega) (by omega) (by omega) ?_
  refine z_iload_n dX8_plus_10 rfl ?_
  refine z_iload_n dX8_plus_11 rfl ?_
  refine z_iremN dX8_plus_12 (by omega) (by omega) (by omega) ?_
  refine z_iaddN dX8_plus_13 ?_
  refine z_iload_n dX8_plus_14 rfl ?_
  refine z_iremN dX8_plus_15 (by omega) (by omega) (by omega) ?_
  refine z_iload_n dX8_plus_16 rfl ?_
  refine z_iload_n dX8_plus_17 rfl ?_
  refine z_iload_n dX8_plus_18 rfl ?_
  refine z_idivN dX8_plus_19 (by omega) (by omega) (by omega) ?_
  refine z_iload_n dX8_plus_20 rfl ?_
  refine z_iload_n dX8_plus_21 rfl ?_
  refine z_idivN dX8_plus_22 (by omega) (by omega) (by omega) ?_
  refine z_iaddN dX8_plus_23 ?_
  refine z_aload_n dX8_plus_24 rfl ?_
  refine z_getR (j := 36) dX8_plus_25 fl_X8_7 ⟨by decide, _, rfl, rfl⟩ ?_
  refine z_iconst (v := nI 1) dX8_plus_28 (by decide) ?_
  refine z_ialdN dX8_plus_29 ⟨by decide, rfl⟩ (by omega) (by decide) hg.2.1 ?_
  refine z_iremN dX8_plus_30 (by omega) (by omega) (by omega) ?_
  refine z_imulN dX8_plus_31 ?_
  refine z_iaddN dX8_plus_32 ?_
  exact z_ret (ty := none) (v := none) rfl dX8_plus_33 ⟨by rw [pl_eq], rfl⟩
