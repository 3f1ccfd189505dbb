set_option maxRecDepth 100000 in
theorem ev_X2_remainder (G : Gt) {x m : Nat} {μ : Mm} (hx : x < 2 ^ 31) (h0 : 0 < m) (hm : m < 2 ^ 31) : EVr G 0 Y_X2_remainder [.int (nI x), .int (nI m)] μ (.int (nI (x % m))) := by
  refine ev_of (by decide) (Nat.le_of_ble_eq_true rfl) ?_
  show Zs G 0 Y_X2_remainder (fnN G _) 0 [(0, .int (nI x)), (1, .int (nI m))] [] μ
  refine z_iload_n dX2_remainder_0 rfl ?_
  refine z_ifN_le (tgt := 10) dX2_remainder_1 (by decide) (by omega) (fun c1 => absurd c1 (by omega)) (fun c1 => ?_)
  refine z_iload_n dX2_remainder_4 rfl ?_
  refine z_iload_n dX2_remainder_5 rfl ?_
  refine z_iremN dX2_remainder_6 (by omega) (by omega) (by omega) ?_
  refine z_goto (tgt := 11) dX2_remainder_7 (by decide) ?_
  exact z_ret (ty := none) (v := none) rfl dX2_remainder_11 ⟨rfl, rfl⟩
set_option maxRecDepth 100000 in
theorem ev_X2_quotient (G : Gt) {x m : Nat} {μ : Mm} (hx : x < 2 ^ 31) (h0 : 0 < m) (hm : m < 2 ^ 31) : EVr G 0 Y_X2_quotient [.int (nI x), .int (nI m)] μ (.int (nI (x / m))) := by
  refine ev_of (by decide) (Nat.le_of_ble_eq_true rfl) ?_
  show Zs G 0 Y_X2_quotient (fnN G _) 0 [(0, .int (nI x)), (1, .int (nI m))] [] μ
  refine z_iload_n dX2_quotient_0 rfl ?_
  refine z_ifN_le (tgt := 10) dX2_quotient_1 (by decide) (by omega) (fun c1 => absurd c1 (by omega)) (fun c1 => ?_)
  refine z_iload_n dX2_quotient_4 rfl ?_
  refine z_iload_n dX2_quotient_5 rfl ?_
  refine z_idivN dX2_quotient_6 (by omega) (by omega) (by omega) ?_
  refine z_goto (tgt := 11) dX2_quotient_7 (by decide) ?_
  exact z_ret (ty := none) (v := none) rfl dX2_quotient_11 ⟨rfl, rfl⟩
/-- the group's numbers, as the cells have them -/
def grpOK (μ : Mm) (g a b : Nat) : Prop := μ.1 g 0 = nI a ∧ μ.1 g 1 = nI b ∧ 1 ≤ a ∧ a ≤ 6 ∧ 1 ≤ b ∧ b ≤ 6
theorem ab_le {a b : Nat} (ha : a ≤ 6) (hb : b ≤ 6) : a * b ≤ 36 := Nat.mul_le_mul ha hb
theorem ab_pos {a b : Nat} (ha : 1 ≤ a) (hb : 1 ≤ b) : 1 ≤ a * b := Nat.mul_le_mul ha hb
def plN (a b x y : Nat) : Nat := a * ((x / a + y / a) % b) + (x + y) % a
def opN (a b x : Nat) : Nat := a * ((b - x / a) % b) + (a - x % a) % a
theorem in_ab {a b p q : Nat} (ha : 1 ≤ a) (hb : 1 ≤ b) : a * (p % b) + q % a < a * b := by
  have h1 : p % b < b := Nat.mod_lt _ hb
  have h2 : q % a < a := Nat.mod_lt _ ha
  have h3 : a * (p % b + 1) ≤ a * b := Nat.mul_le_mul_left a h1
  rw [Nat.mul_add, Nat.mul_one] at h3
  omega
theorem plN_lt {a b : Nat} (ha : 1 ≤ a) (hb : 1 ≤ b) (x y : Nat) : plN a b x y < a * b := in_ab ha hb
theorem opN_lt {a b : Nat} (ha : 1 ≤ a) (hb : 1 ≤ b) (x : Nat) : opN a b x < a * b := in_ab ha hb
set_option maxRecDepth 100000 in
theorem ev_X2_count (G : Gt) {g a b : Nat} {μ : Mm} (hg : isGrp g) (h : grpOK μ g a b) : EVr G 0 Y_X2_count [rf G g] μ (.int (nI (a * b))) := by
  refine ev_of (by decide) (Nat.le_of_ble_eq_true rfl) ?_
  show Zs G 0 Y_X2_count (fnN G _) 0 [(0, rf G g)] [] μ
  refine z_aload_n dX2_count_0 rfl ?_
  refine z_getI dX2_count_1 fl_X2_9 (isGrp.f0 hg) h.1 ?_
  refine z_aload_n dX2_count_4 rfl ?_
  refine z_getI dX2_count_5 fl_X2_15 (isGrp.f1 hg) h.2.1 ?_
  refine z_imulN dX2_count_8 ?_
  exact z_ret (ty := none) (v := none) rfl dX2_count_9 ⟨rfl, rfl⟩
set_option maxRecDepth 100000 in
theorem ev_X2_plus (G : Gt) {g a b : Nat} {x y : Nat} {μ : Mm} (hg : isGrp g) (h : grpOK μ g a b) (hx : x < a * b) (hy : y < a * b) : EVr G 1 Y_X2_plus [rf G g, .int (nI x), .int (nI y)] μ (.int (nI (plN a b x y))) := by
  have h1 := h.2.2.1
  have h2 := h.2.2.2.1
  have h3 := h.2.2.2.2.1
  have h4 := h.2.2.2.2.2
  have hab := ab_le h2 h4
  have hab1 := ab_pos h1 h3
  refine ev_of (by decide) (Nat.le_of_ble_eq_true rfl) ?_
  show Zs G 1 Y_X2_plus (fnN G _) 0 [(0, rf G g), (1, .int (nI x)), (2, .int (nI y))] [] μ
  refine z_iload_n dX2_plus_0 rfl ?_
  refine z_iload_n dX2_plus_1 rfl ?_
  refine z_iaddN dX2_plus_2 ?_
  refine z_aload_n dX2_plus_3 rfl ?_
  refine z_getI dX2_plus_4 fl_X2_9 (isGrp.f0 hg) h.1 ?_
  refine z_cS2 dX2_plus_7 lk_X2_22 (by decide) (Nat.le_of_ble_eq_true rfl) (ev_X2_remainder G (by omega) (by omega) (by omega)) ?_
  refine z_istore_n (lv' := [(3, _), (0, _), (1, _), (2, _)]) dX2_plus_10 rfl (by decide) rfl ?_
  refine z_iload_n dX2_plus_11 rfl ?_
  refine z_aload_n dX2_plus_12 rfl ?_
  refine z_getI dX2_plus_13 fl_X2_9 (isGrp.f0 hg) h.1 ?_
  refine z_cS2 dX2_plus_16 lk_X2_26 (by decide) (Nat.le_of_ble_eq_true rfl) (ev_X2_quotient G (by omega) (by omega) (by omega)) ?_
  refine z_iload_n dX2_plus_19 rfl ?_
  refine z_aload_n dX2_plus_20 rfl ?_
  refine z_getI dX2_plus_21 fl_X2_9 (isGrp.f0 hg) h.1 ?_
  refine z_cS2 dX2_plus_24 lk_X2_26 (by decide) (Nat.le_of_ble_eq_true rfl) (ev_X2_quotient G (by omega) (by omega) (by omega)) ?_
  refine z_iaddN dX2_plus_27 ?_
  refine z_aload_n dX2_plus_28 rfl ?_
  refine z_getI dX2_plus_29 fl_X2_15 (isGrp.f1 hg) h.2.1 ?_
  have q1 : x / a ≤ x := Nat.div_le_self x a
  have q2 : y / a ≤ y := Nat.div_le_self y a
  refine z_cS2 dX2_plus_32 lk_X2_22 (by decide) (Nat.le_of_ble_eq_true rfl) (ev_X2_remainder G (by omega) (by omega) (by omega)) ?_
  refine z_istore (lv' := [(4, _), (3, _), (0, _), (1, _), (2, _)]) dX2_plus_35 (by decide) rfl ?_
  refine z_aload_n dX2_plus_37 rfl ?_
  refine z_getI dX2_plus_38 fl_X2_9 (isGrp.f0 hg) h.1 ?_
  refine z_iload dX2_plus_41 rfl ?_
  refine z_imulN dX2_plus_43 ?_
  refine z_iload_n dX2_plus_44 rfl ?_
  refine z_iaddN dX2_plus_45 ?_
  exact z_ret (ty := none) (v := none) rfl dX2_plus_46 ⟨rfl, rfl⟩
set_option maxRecDepth 100000 in
theorem ev_X2_opposite (G : Gt) {g a b : Nat} {x : Nat} {μ : Mm} (hg : isGrp g) (h : grpOK μ g a b) (hx : x < a * b) : EVr G 1 Y_X2_opposite [rf G g, .int (nI x)] μ (.int (nI (opN a b x))) := by
  have h1 := h.2.2.1
  have h2 := h.2.2.2.1
  have h3 := h.2.2.2.2.1
  have h4 := h.2.2.2.2.2
  have hab := ab_le h2 h4
  have hab1 := ab_pos h1 h3
  refine ev_of (by decide) (Nat.le_of_ble_eq_true rfl) ?_
  show Zs G 1 Y_X2_opposite (fnN G _) 0 [(0, rf G g), (1, .int (nI x))] [] μ
  have q1 : x % a < a := Nat.mod_lt _ h1
  have q2 : x / a < b := (Nat.div_lt_iff_lt_mul h1).mpr (by rw [Nat.mul_comm]; exact hx)
  have q4 : b - x / a ≤ b := Nat.sub_le _ _
  have q5 : a - x % a ≤ a := Nat.sub_le _ _
  refine z_aload_n dX2_opposite_0 rfl ?_
  refine z_getI dX2_opposite_1 fl_X2_9 (isGrp.f0 hg) h.1 ?_
  refine z_iload_n dX2_opposite_4 rfl ?_
  refine z_aload_n dX2_opposite_5 rfl ?_
  refine z_getI dX2_opposite_6 fl_X2_9 (isGrp.f0 hg) h.1 ?_
  refine z_cS2 dX2_opposite_9 lk_X2_22 (by decide) (Nat.le_of_ble_eq_true rfl) (ev_X2_remainder G (by omega) (by omega) (by omega)) ?_
  refine z_isubN dX2_opposite_12 (by omega) ?_
  refine z_aload_n dX2_opposite_13 rfl ?_
  refine z_getI dX2_opposite_14 fl_X2_9 (isGrp.f0 hg) h.1 ?_
  refine z_cS2 dX2_opposite_17 lk_X2_22 (by decide) (Nat.le_of_ble_eq_true rfl) (ev_X2_remainder G (by omega) (by omega) (by omega)) ?_
  refine z_istore_n (lv' := [(2, _), (0, _), (1, _)]) dX2_opposite_20 rfl (by decide) rfl ?_
  refine z_aload_n dX2_opposite_21 rfl ?_
  refine z_getI dX2_opposite_22 fl_X2_15 (isGrp.f1 hg) h.2.1 ?_
  refine z_iload_n dX2_opposite_25 rfl ?_
  refine z_aload_n dX2_opposite_26 rfl ?_
  refine z_getI dX2_opposite_27 fl_X2_9 (isGrp.f0 hg) h.1 ?_
  refine z_cS2 dX2_opposite_30 lk_X2_26 (by decide) (Nat.le_of_ble_eq_true rfl) (ev_X2_quotient G (by omega) (by omega) (by omega)) ?_
  refine z_isubN dX2_opposite_33 (by omega) ?_
  refine z_aload_n dX2_opposite_34 rfl ?_
  refine z_getI dX2_opposite_35 fl_X2_15 (isGrp.f1 hg) h.2.1 ?_
  refine z_cS2 dX2_opposite_38 lk_X2_22 (by decide) (Nat.le_of_ble_eq_true rfl) (ev_X2_remainder G (by omega) (by omega) (by omega)) ?_
  refine z_istore_n (lv' := [(3, _), (2, _), (0, _), (1, _)]) dX2_opposite_41 rfl (by decide) rfl ?_
  refine z_aload_n dX2_opposite_42 rfl ?_
  refine z_getI dX2_opposite_43 fl_X2_9 (isGrp.f0 hg) h.1 ?_
  refine z_iload_n dX2_opposite_46 rfl ?_
  refine z_imulN dX2_opposite_47 ?_
  refine z_iload_n dX2_opposite_48 rfl ?_
  refine z_iaddN dX2_opposite_49 ?_
  exact z_ret (ty := none) (v := none) rfl dX2_opposite_50 ⟨rfl, rfl⟩
set_option maxRecDepth 100000 in
theorem ev_X2_has (G : Gt) {g a b : Nat} {e : Int32} {μ : Mm} (hg : isGrp g) (h : grpOK μ g a b) : EVr G 1 Y_X2_has [rf G g, .int e] μ (.int (bI (inR e (a * b)))) := by
  have h1 := h.2.2.1
  have h2 := h.2.2.2.1
  have h3 := h.2.2.2.2.1
  have h4 := h.2.2.2.2.2
  have hab := ab_le h2 h4
  have hab1 := ab_pos h1 h3
  refine ev_of (by decide) (Nat.le_of_ble_eq_true rfl) ?_
  show Zs G 1 Y_X2_has (fnN G _) 0 [(0, rf G g), (1, .int e)] [] μ
  refine z_iload_n dX2_has_0 rfl ?_
  refine z_if_lt (tgt := 16) dX2_has_1 (by decide) (fun c1 => ?_) (fun c1 => ?_)
  · refine z_iconst (v := nI 0) dX2_has_16 (by decide) ?_
    exact z_zret rfl rfl dX2_has_17 ⟨by rw [inR_neg c1]; rfl, rfl⟩
  · obtain ⟨x, hx, rfl⟩ := nI_of c1
    refine z_iload_n dX2_has_4 rfl ?_
    refine z_aload_n dX2_has_5 rfl ?_
    refine z_cV0 dX2_has_6 lk_X2_18 (by decide) (isGrp.o hg) rfl (Nat.le_of_ble_eq_true rfl) (ev_X2_count G hg h) ?_
    refine z_icmpN_ge (tgt := 16) dX2_has_9 (by decide) (by omega) (by omega) (fun c9 => ?_) (fun c9 => ?_)
    · refine z_iconst (v := nI 0) dX2_has_16 (by decide) ?_
      exact z_zret rfl rfl dX2_has_17 ⟨by rw [inR_N hx, decide_eq_false (by omega)]; rfl, rfl⟩
    · refine z_iconst (v := nI 1) dX2_has_12 (by decide) ?_
      refine z_goto (tgt := 17) dX2_has_13 (by decide) ?_
      exact z_zret rfl rfl dX2_has_17 ⟨by rw [inR_N hx, decide_eq_true c9]; rfl, rfl⟩
/-- how often an element is taken until the sum is nothing, f times at most; whether it comes to nothing -/
def ordL (a b e : Nat) (f t tot : Nat) : Nat := match f with
  | 0 => t
  | f + 1 => if tot = 0 then t else ordL a b e f (t + 1) (plN a b tot e)
def hitL (a b e : Nat) (f tot : Nat) : Bool := match f with
  | 0 => decide (tot = 0)
  | f + 1 => decide (tot = 0) || hitL a b e f (plN a b tot e)
def ordN (a b e : Nat) : Nat := ordL a b e (a * b - 1) 1 e
theorem all3 {P : Nat → Nat → Nat → Bool} (h : ((List.range 7).all fun a => (List.range 7).all fun b => (List.range 36).all fun e => !(decide (1 ≤ a ∧ 1 ≤ b ∧ e < a * b)) || P a b e) = true) {a b e : Nat} (h1 : 1 ≤ a) (h2 : a ≤ 6) (h3 : 1 ≤ b) (h4 : b ≤ 6) (he : e < a * b) : P a b e = true := by
  have hab := ab_le h2 h4
  have q1 := List.all_eq_true.mp h a (List.mem_range.mpr (by omega))
  have q2 := List.all_eq_true.mp q1 b (List.mem_range.mpr (by omega))
  have q3 := List.all_eq_true.mp q2 e (List.mem_range.mpr (by omega))
  rw [decide_eq_true (show 1 ≤ a ∧ 1 ≤ b ∧ e < a * b from ⟨h1, h3, he⟩)] at q3
  simpa using q3
theorem all2 {P : Nat → Nat → Bool} (h : ((List.range 7).all fun a => (List.range 7).all fun b => !(decide (1 ≤ a ∧ 1 ≤ b)) || P a b) = true) {a b : Nat} (h1 : 1 ≤ a) (h2 : a ≤ 6) (h3 : 1 ≤ b) (h4 : b ≤ 6) : P a b = true := by
  have q1 := List.all_eq_true.mp h a (List.mem_range.mpr (by omega))
  have q2 := List.all_eq_true.mp q1 b (List.mem_range.mpr (by omega))
  rw [decide_eq_true (show 1 ≤ a ∧ 1 ≤ b from ⟨h1, h3⟩)] at q2
  simpa using q2
theorem hit_all {a b e : Nat} (h1 : 1 ≤ a) (h2 : a ≤ 6) (h3 : 1 ≤ b) (h4 : b ≤ 6) (he : e < a * b) : hitL a b e (a * b - 1) e = true := all3 (P := fun a b e => hitL a b e (a * b - 1) e) (by decide +kernel) h1 h2 h3 h4 he
theorem ordL_bd (a b e : Nat) : ∀ f t tot, t ≤ ordL a b e f t tot ∧ ordL a b e f t tot ≤ t + f := by
  intro f
  induction f with
  | zero => intro t tot; exact ⟨Nat.le_refl _, Nat.le_refl _⟩
  | succ f ih =>
    intro t tot
    unfold ordL
    by_cases h : tot = 0
    · rw [if_pos h]; omega
    · rw [if_neg h]; have := ih (t + 1) (plN a b tot e); omega
theorem ordN_bd {a b e : Nat} (h : 1 ≤ a * b) : 1 ≤ ordN a b e ∧ ordN a b e ≤ a * b := by
  have := ordL_bd a b e (a * b - 1) 1 e
  unfold ordN
  omega
set_option maxRecDepth 100000 in
theorem lp_X2_orderOf (G : Gt) {g a b : Nat} {e R : Nat} {μ : Mm} (hg : isGrp g) (h : grpOK μ g a b) (he : e < a * b) : ∀ (f t tot : Nat), tot < a * b → t + f ≤ a * b → hitL a b e f tot = true → ordL a b e f t tot = R →
    Zs G 2 Y_X2_orderOf (fnN G (fun v m => v = some (.int (nI R)) ∧ m = μ)) 4 [(0, rf G g), (1, .int (nI e)), (2, .int (nI t)), (3, .int (nI tot))] [] μ := by
  intro f
  have h1 := h.2.2.1
  have h2 := h.2.2.2.1
  have h3 := h.2.2.2.2.1
  have h4 := h.2.2.2.2.2
  have hab := ab_le h2 h4
  have hab1 := ab_pos h1 h3
  induction f with
  | zero =>
    intro t tot ht hf hh hr
    refine z_iload_n dX2_orderOf_4 rfl ?_
    refine z_ifN_eq (tgt := 29) dX2_orderOf_5 (by decide) (by omega) (fun c5 => ?_) (fun c5 => absurd c5 (by simpa [hitL] using hh))
    refine z_iload_n dX2_orderOf_29 rfl ?_
    exact z_ret (ty := none) (v := none) rfl dX2_orderOf_30 ⟨by rw [← hr]; rfl, rfl⟩
  | succ f ih =>
    intro t tot ht hf hh hr
    unfold ordL at hr
    unfold hitL at hh
    refine z_iload_n dX2_orderOf_4 rfl ?_
    refine z_ifN_eq (tgt := 29) dX2_orderOf_5 (by decide) (by omega) (fun c5 => ?_) (fun c5 => ?_)
    · refine z_iload_n dX2_orderOf_29 rfl ?_
      exact z_ret (ty := none) (v := none) rfl dX2_orderOf_30 ⟨by rw [if_pos c5] at hr; rw [← hr], rfl⟩
    · rw [if_neg c5] at hr
      simp [c5] at hh
      refine z_iload_n dX2_orderOf_8 rfl ?_
      refine z_aload_n dX2_orderOf_9 rfl ?_
      refine z_cV0 dX2_orderOf_10 lk_X2_18 (by decide) (isGrp.o hg) rfl (Nat.le_of_ble_eq_true rfl) (ev_X2_count G hg h) ?_
      refine z_icmpN_ge (tgt := 29) dX2_orderOf_13 (by decide) (by omega) (by omega) (fun c13 => absurd c13 (by omega)) (fun c13 => ?_)
      refine z_aload_n dX2_orderOf_16 rfl ?_
      refine z_iload_n dX2_orderOf_17 rfl ?_
      refine z_iload_n dX2_orderOf_18 rfl ?_
      refine z_cV2 dX2_orderOf_19 lk_X2_29 (by decide) (isGrp.o hg) rfl (Nat.le_of_ble_eq_true rfl) (ev_X2_plus G hg h (by omega) (by omega)) ?_
      refine z_istore_n (lv' := [(3, _), (0, _), (1, _), (2, _)]) dX2_orderOf_22 rfl (by decide) rfl ?_
      refine z_iinc (v := nI (t + 1)) (lv' := [(2, _), (3, _), (0, _), (1, _)]) dX2_orderOf_23 rfl (nI_inc _ 1) (by decide) rfl ?_
      refine z_goto (tgt := 4) dX2_orderOf_26 (by decide) ?_
      refine z_sub (lv' := [(0, _), (1, _), (2, _), (3, _)]) rfl ?_
      exact ih _ _ (plN_lt h1 h3 _ _) (by omega) hh hr
set_option maxRecDepth 100000 in
theorem ev_X2_orderOf (G : Gt) {g a b : Nat} {e : Nat} {μ : Mm} (hg : isGrp g) (h : grpOK μ g a b) (he : e < a * b) : EVr G 2 Y_X2_orderOf [rf G g, .int (nI e)] μ (.int (nI (ordN a b e))) := by
  have h1 := h.2.2.1
  have h2 := h.2.2.2.1
  have h3 := h.2.2.2.2.1
  have h4 := h.2.2.2.2.2
  have hab := ab_le h2 h4
  have hab1 := ab_pos h1 h3
  refine ev_of (by decide) (Nat.le_of_ble_eq_true rfl) ?_
  show Zs G 2 Y_X2_orderOf (fnN G _) 0 [(0, rf G g), (1, .int (nI e))] [] μ
  refine z_iconst (v := nI 1) dX2_orderOf_0 (by decide) ?_
  refine z_istore_n (lv' := [(2, _), (0, _), (1, _)]) dX2_orderOf_1 rfl (by decide) rfl ?_
  refine z_iload_n dX2_orderOf_2 rfl ?_
  refine z_istore_n (lv' := [(3, _), (2, _), (0, _), (1, _)]) dX2_orderOf_3 rfl (by decide) rfl ?_
  refine z_sub (lv' := [(0, _), (1, _), (2, _), (3, _)]) rfl ?_
  exact lp_X2_orderOf G hg h he (a * b - 1) 1 e he (by omega) (hit_all h1 h2 h3 h4 he) rfl
/-- the greatest common divisor below c, as the loop finds it -/
def cdL (a b : Nat) (f d r : Nat) : Nat := match f with
  | 0 => r
  | f + 1 => cdL a b f (d + 1) (if a % d = 0 ∧ b % d = 0 then d else r)
def cdN (a b : Nat) : Nat := cdL a b a 1 1
set_option maxRecDepth 100000 in
theorem lp_X2_commonDivisor (G : Gt) {g a b : Nat} {R : Nat} {μ : Mm} (hg : isGrp g) (h : grpOK μ g a b) : ∀ (f d r : Nat), 1 ≤ d → d + f = a + 1 → cdL a b f d r = R →
    Zs G 1 Y_X2_commonDivisor (fnN G (fun v m => v = some (.int (nI R)) ∧ m = μ)) 4 [(0, rf G g), (1, .int (nI r)), (2, .int (nI d))] [] μ := by
  intro f
  have h1 := h.2.2.1
  have h2 := h.2.2.2.1
  have h3 := h.2.2.2.2.1
  have h4 := h.2.2.2.2.2
  have hab := ab_le h2 h4
  have hab1 := ab_pos h1 h3
  induction f with
  | zero =>
    intro d r hd hf hr
    refine z_iload_n dX2_commonDivisor_4 rfl ?_
    refine z_aload_n dX2_commonDivisor_5 rfl ?_
    refine z_getI dX2_commonDivisor_6 fl_X2_9 (isGrp.f0 hg) h.1 ?_
    refine z_icmpN_gt (tgt := 42) dX2_commonDivisor_9 (by decide) (by omega) (by omega) (fun c9 => ?_) (fun c9 => absurd c9 (by omega))
    refine z_iload_n dX2_commonDivisor_42 rfl ?_
    exact z_ret (ty := none) (v := none) rfl dX2_commonDivisor_43 ⟨by rw [← hr]; rfl, rfl⟩
  | succ f ih =>
    intro d r hd hf hr
    unfold cdL at hr
    refine z_iload_n dX2_commonDivisor_4 rfl ?_
    refine z_aload_n dX2_commonDivisor_5 rfl ?_
    refine z_getI dX2_commonDivisor_6 fl_X2_9 (isGrp.f0 hg) h.1 ?_
    refine z_icmpN_gt (tgt := 42) dX2_commonDivisor_9 (by decide) (by omega) (by omega) (fun c9 => absurd c9 (by omega)) (fun c9 => ?_)
    refine z_aload_n dX2_commonDivisor_12 rfl ?_
    refine z_getI dX2_commonDivisor_13 fl_X2_9 (isGrp.f0 hg) h.1 ?_
    refine z_iload_n dX2_commonDivisor_16 rfl ?_
    refine z_cS2 dX2_commonDivisor_17 lk_X2_22 (by decide) (Nat.le_of_ble_eq_true rfl) (ev_X2_remainder G (by omega) (by omega) (by omega)) ?_
    have q1 : a % d < d := Nat.mod_lt _ hd
    have q2 : b % d < d := Nat.mod_lt _ hd
    refine z_ifN_ne (tgt := 36) dX2_commonDivisor_20 (by decide) (by omega) (fun c20 => ?_) (fun c20 => ?_)
    · refine z_iinc (v := nI (d + 1)) (lv' := [(2, _), (0, _), (1, _)]) dX2_commonDivisor_36 rfl (nI_inc _ 1) (by decide) rfl ?_
      refine z_goto (tgt := 4) dX2_commonDivisor_39 (by decide) ?_
      refine z_sub (lv' := [(0, _), (1, _), (2, _)]) rfl ?_
      exact ih _ _ (by omega) (by omega) (by rw [if_neg (fun z => c20 z.1)] at hr; exact hr)
    · refine z_aload_n dX2_commonDivisor_23 rfl ?_
      refine z_getI dX2_commonDivisor_24 fl_X2_15 (isGrp.f1 hg) h.2.1 ?_
      refine z_iload_n dX2_commonDivisor_27 rfl ?_
      refine z_cS2 dX2_commonDivisor_28 lk_X2_22 (by decide) (Nat.le_of_ble_eq_true rfl) (ev_X2_remainder G (by omega) (by omega) (by omega)) ?_
      refine z_ifN_ne (tgt := 36) dX2_commonDivisor_31 (by decide) (by omega) (fun c31 => ?_) (fun c31 => ?_)
      · refine z_iinc (v := nI (d + 1)) (lv' := [(2, _), (0, _), (1, _)]) dX2_commonDivisor_36 rfl (nI_inc _ 1) (by decide) rfl ?_
        refine z_goto (tgt := 4) dX2_commonDivisor_39 (by decide) ?_
        refine z_sub (lv' := [(0, _), (1, _), (2, _)]) rfl ?_
        exact ih _ _ (by omega) (by omega) (by rw [if_neg (fun z => c31 z.2)] at hr; exact hr)
      · refine z_iload_n dX2_commonDivisor_34 rfl ?_
        refine z_istore_n (lv' := [(1, _), (0, _), (2, _)]) dX2_commonDivisor_35 rfl (by decide) rfl ?_
        refine z_iinc (v := nI (d + 1)) (lv' := [(2, _), (1, _), (0, _)]) dX2_commonDivisor_36 rfl (nI_inc _ 1) (by decide) rfl ?_
        refine z_goto (tgt := 4) dX2_commonDivisor_39 (by decide) ?_
        refine z_sub (lv' := [(0, _), (1, _), (2, _)]) rfl ?_
        exact ih _ _ (by omega) (by omega) (by rw [if_pos ⟨c20, c31⟩] at hr; exact hr)
set_option maxRecDepth 100000 in
theorem ev_X2_commonDivisor (G : Gt) {g a b : Nat} {μ : Mm} (hg : isGrp g) (h : grpOK μ g a b) : EVr G 1 Y_X2_commonDivisor [rf G g] μ (.int (nI (cdN a b))) := by
  have h1 := h.2.2.1
  have h2 := h.2.2.2.1
  have h3 := h.2.2.2.2.1
  have h4 := h.2.2.2.2.2
  have hab := ab_le h2 h4
  have hab1 := ab_pos h1 h3
  refine ev_of (by decide) (Nat.le_of_ble_eq_true rfl) ?_
  show Zs G 1 Y_X2_commonDivisor (fnN G _) 0 [(0, rf G g)] [] μ
  refine z_iconst (v := nI 1) dX2_commonDivisor_0 (by decide) ?_
  refine z_istore_n (lv' := [(1, _), (0, _)]) dX2_commonDivisor_1 rfl (by decide) rfl ?_
  refine z_iconst (v := nI 1) dX2_commonDivisor_2 (by decide) ?_
  refine z_istore_n (lv' := [(2, _), (1, _), (0, _)]) dX2_commonDivisor_3 rfl (by decide) rfl ?_
  refine z_sub (lv' := [(0, _), (1, _), (2, _)]) rfl ?_
  exact lp_X2_commonDivisor G hg h a 1 1 (by omega) (by omega) rfl
theorem cd_all {a b : Nat} (h1 : 1 ≤ a) (h2 : a ≤ 6) (h3 : 1 ≤ b) (h4 : b ≤ 6) : 1 ≤ cdN a b ∧ cdN a b ≤ 6 ∧ a * b / cdN a b ≤ 36 ∧ 1 ≤ a * b / cdN a b := by
  have q := all2 (P := fun a b => decide (1 ≤ cdN a b ∧ cdN a b ≤ 6 ∧ a * b / cdN a b ≤ 36 ∧ 1 ≤ a * b / cdN a b)) (by decide +kernel) h1 h2 h3 h4
  exact of_decide_eq_true q
def exN (a b : Nat) : Nat := a * b / cdN a b
set_option maxRecDepth 100000 in
theorem ev_X2_exponent (G : Gt) {g a b : Nat} {μ : Mm} (hg : isGrp g) (h : grpOK μ g a b) : EVr G 2 Y_X2_exponent [rf G g] μ (.int (nI (exN a b))) := by
  have h1 := h.2.2.1
  have h2 := h.2.2.2.1
  have h3 := h.2.2.2.2.1
  have h4 := h.2.2.2.2.2
  have hab := ab_le h2 h4
  have hab1 := ab_pos h1 h3
  refine ev_of (by decide) (Nat.le_of_ble_eq_true rfl) ?_
  show Zs G 2 Y_X2_exponent (fnN G _) 0 [(0, rf G g)] [] μ
  have q := cd_all h1 h2 h3 h4
  refine z_aload_n dX2_exponent_0 rfl ?_
  refine z_getI dX2_exponent_1 fl_X2_9 (isGrp.f0 hg) h.1 ?_
  refine z_aload_n dX2_exponent_4 rfl ?_
  refine z_getI dX2_exponent_5 fl_X2_15 (isGrp.f1 hg) h.2.1 ?_
  refine z_imulN dX2_exponent_8 ?_
  refine z_aload_n dX2_exponent_9 rfl ?_
  refine z_cV0 dX2_exponent_10 lk_X2_32 (by decide) (isGrp.o hg) rfl (Nat.le_of_ble_eq_true rfl) (ev_X2_commonDivisor G hg h) ?_
  refine z_cS2 dX2_exponent_13 lk_X2_26 (by decide) (Nat.le_of_ble_eq_true rfl) (ev_X2_quotient G (by omega) (by omega) (by omega)) ?_
  exact z_ret (ty := none) (v := none) rfl dX2_exponent_16 ⟨rfl, rfl⟩
set_option maxRecDepth 100000 in
theorem ev_X7_contains (G : Gt) {S e : Nat} {μ : Mm} (hS : S < 2 ^ 62) (he : e < 64) : EVr G 0 Y_X7_contains [.long (lN S), .int (nI e)] μ (.int (bI (S.testBit e))) := by
  refine ev_of (by decide) (Nat.le_of_ble_eq_true rfl) ?_
  show Zs G 0 Y_X7_contains (fnN G _) 0 [(0, .long (lN S)), (2, .int (nI e))] [] μ
  refine z_lload_n dX7_contains_0 rfl ?_
  refine z_iload_n dX7_contains_1 rfl ?_
  refine z_lshrN dX7_contains_2 (by omega) (by omega) ?_
  refine z_lconst (v := lN 1) dX7_contains_3 rfl ?_
  refine z_landN dX7_contains_4 ?_
  refine z_lconst (v := lN 0) dX7_contains_5 rfl ?_
  refine z_lcN_eq (tgt := 14) dX7_contains_6 dX7_contains_7 (by decide) (by rw [tb_and1]; cases S.testBit e <;> decide) (by decide) (fun c6 => ?_) (fun c6 => ?_)
  · refine z_iconst (v := nI 0) dX7_contains_14 (by decide) ?_
    exact z_zret rfl rfl dX7_contains_15 ⟨by rw [(tb_div S e).2.mp c6]; rfl, rfl⟩
  · refine z_iconst (v := nI 1) dX7_contains_10 (by decide) ?_
    refine z_goto (tgt := 15) dX7_contains_11 (by decide) ?_
    exact z_zret rfl rfl dX7_contains_15 ⟨by cases q : S.testBit e with
        | true => rfl
        | false => exact absurd ((tb_div S e).2.mpr q) c6, rfl⟩
/-- the sums once an element more is appended, of the first k sums so far -/
def rwL (a b S e : Nat) (k : Nat) : Nat := match k with
  | 0 => S ||| 2 ^ e
  | k + 1 => if S.testBit k then rwL a b S e k ||| 2 ^ plN a b k e else rwL a b S e k
def rwN (a b S e : Nat) : Nat := rwL a b S e (a * b)
theorem or_lt36 {x y : Nat} (hx : x < 2 ^ 36) (hy : y < 36) : x ||| 2 ^ y < 2 ^ 36 := Nat.or_lt_two_pow hx (Nat.pow_lt_pow_right (by decide) hy)
theorem rwL_lt {a b S e : Nat} (ha : 1 ≤ a) (hb : 1 ≤ b) (hab : a * b ≤ 36) (hS : S < 2 ^ 36) (he : e < a * b) : ∀ k, rwL a b S e k < 2 ^ 36 := by
  intro k
  induction k with
  | zero => exact or_lt36 hS (by omega)
  | succ k ih =>
    unfold rwL
    by_cases h : S.testBit k
    · rw [if_pos h]; exact or_lt36 ih (by have := plN_lt ha hb k e; omega)
    · rw [if_neg h]; exact ih
theorem rwN_lt {a b S e : Nat} (ha : 1 ≤ a) (hb : 1 ≤ b) (hab : a * b ≤ 36) (hS : S < 2 ^ 36) (he : e < a * b) : rwN a b S e < 2 ^ 36 := rwL_lt ha hb hab hS he _
set_option maxRecDepth 100000 in
theorem lp_X2_reachedWith (G : Gt) {g a b : Nat} {S e : Nat} {μ : Mm} (hg : isGrp g) (h : grpOK μ g a b) (hS : S < 2 ^ 36) (he : e < a * b) : ∀ (f k : Nat), k + f = a * b →
    Zs G 2 Y_X2_reachedWith (fnN G (fun v m => v = some (.long (lN (rwN a b S e))) ∧ m = μ)) 10 [(0, rf G g), (1, .long (lN S)), (3, .int (nI e)), (4, .long (lN (rwL a b S e k))), (6, .int (nI k))] [] μ := by
  intro f
  have h1 := h.2.2.1
  have h2 := h.2.2.2.1
  have h3 := h.2.2.2.2.1
  have h4 := h.2.2.2.2.2
  have hab := ab_le h2 h4
  have hab1 := ab_pos h1 h3
  induction f with
  | zero =>
    intro k hf
    refine z_iload dX2_reachedWith_10 rfl ?_
    refine z_aload_n dX2_reachedWith_12 rfl ?_
    refine z_cV0 dX2_reachedWith_13 lk_X2_18 (by decide) (isGrp.o hg) rfl (Nat.le_of_ble_eq_true rfl) (ev_X2_count G hg h) ?_
    refine z_icmpN_ge (tgt := 48) dX2_reachedWith_16 (by decide) (by omega) (by omega) (fun c16 => ?_) (fun c16 => absurd c16 (by omega))
    refine z_lload dX2_reachedWith_48 rfl ?_
    exact z_lret rfl dX2_reachedWith_50 ⟨by rw [show k = a * b by omega]; rfl, rfl⟩
  | succ f ih =>
    intro k hf
    refine z_iload dX2_reachedWith_10 rfl ?_
    refine z_aload_n dX2_reachedWith_12 rfl ?_
    refine z_cV0 dX2_reachedWith_13 lk_X2_18 (by decide) (isGrp.o hg) rfl (Nat.le_of_ble_eq_true rfl) (ev_X2_count G hg h) ?_
    refine z_icmpN_ge (tgt := 48) dX2_reachedWith_16 (by decide) (by omega) (by omega) (fun c16 => absurd c16 (by omega)) (fun c16 => ?_)
    refine z_lload_n dX2_reachedWith_19 rfl ?_
    refine z_iload dX2_reachedWith_20 rfl ?_
    refine z_cN2 dX2_reachedWith_22 lk_X2_35 (by decide) (Nat.le_of_ble_eq_true rfl) (ev_X7_contains G (by omega) (by omega)) ?_
    refine z_ifB_eq (tgt := 42) dX2_reachedWith_25 (by decide) (fun c25 => ?_) (fun c25 => ?_)
    · refine z_iinc (v := nI (k + 1)) (lv' := [(6, _), (0, _), (1, _), (3, _), (4, _)]) dX2_reachedWith_42 rfl (nI_inc _ 1) (by decide) rfl ?_
      refine z_goto (tgt := 10) dX2_reachedWith_45 (by decide) ?_
      have q := ih (k + 1) (by omega)
      rw [show rwL a b S e (k + 1) = rwL a b S e k by simp [rwL, c25]] at q
      refine z_sub (lv' := [(0, _), (1, _), (3, _), (4, _), (6, _)]) rfl ?_
      exact q
    · refine z_lload dX2_reachedWith_28 rfl ?_
      refine z_lconst (v := lN 1) dX2_reachedWith_30 rfl ?_
      refine z_aload_n dX2_reachedWith_31 rfl ?_
      refine z_iload dX2_reachedWith_32 rfl ?_
      refine z_iload_n dX2_reachedWith_34 rfl ?_
      refine z_cV2 dX2_reachedWith_35 lk_X2_29 (by decide) (isGrp.o hg) rfl (Nat.le_of_ble_eq_true rfl) (ev_X2_plus G hg h (by omega) (by omega)) ?_
      have q3 := plN_lt h1 h3 k e
      refine z_lshlN dX2_reachedWith_38 (by omega) ?_
      refine z_lorN dX2_reachedWith_39 ?_
      refine z_lstore (lv' := [(4, _), (0, _), (1, _), (3, _), (6, _)]) dX2_reachedWith_40 (by decide) rfl ?_
      refine z_iinc (v := nI (k + 1)) (lv' := [(6, _), (4, _), (0, _), (1, _), (3, _)]) dX2_reachedWith_42 rfl (nI_inc _ 1) (by decide) rfl ?_
      refine z_goto (tgt := 10) dX2_reachedWith_45 (by decide) ?_
      have q := ih (k + 1) (by omega)
      rw [show rwL a b S e (k + 1) = rwL a b S e k ||| 1 * 2 ^ plN a b k e by simp [rwL, c25]] at q
      refine z_sub (lv' := [(0, _), (1, _), (3, _), (4, _), (6, _)]) rfl ?_
      exact q
set_option maxRecDepth 100000 in
theorem ev_X2_reachedWith (G : Gt) {g a b : Nat} {S e : Nat} {μ : Mm} (hg : isGrp g) (h : grpOK μ g a b) (hS : S < 2 ^ 36) (he : e < a * b) : EVr G 2 Y_X2_reachedWith [rf G g, .long (lN S), .int (nI e)] μ (.long (lN (rwN a b S e))) := by
  have h1 := h.2.2.1
  have h2 := h.2.2.2.1
  have h3 := h.2.2.2.2.1
  have h4 := h.2.2.2.2.2
  have hab := ab_le h2 h4
  have hab1 := ab_pos h1 h3
  refine ev_of (by decide) (Nat.le_of_ble_eq_true rfl) ?_
  show Zs G 2 Y_X2_reachedWith (fnN G _) 0 [(0, rf G g), (1, .long (lN S)), (3, .int (nI e))] [] μ
  refine z_lload_n dX2_reachedWith_0 rfl ?_
  refine z_lconst (v := lN 1) dX2_reachedWith_1 rfl ?_
  refine z_iload_n dX2_reachedWith_2 rfl ?_
  refine z_lshlN dX2_reachedWith_3 (by omega) ?_
  refine z_lorN dX2_reachedWith_4 ?_
  refine z_lstore (lv' := [(4, _), (0, _), (1, _), (3, _)]) dX2_reachedWith_5 (by decide) rfl ?_
  refine z_iconst (v := nI 0) dX2_reachedWith_7 (by decide) ?_
  refine z_istore (lv' := [(6, _), (4, _), (0, _), (1, _), (3, _)]) dX2_reachedWith_8 (by decide) rfl ?_
  have q := lp_X2_reachedWith G hg h hS he (a * b) 0 (by omega)
  rw [show rwL a b S e 0 = S ||| 1 * 2 ^ e by rw [Nat.one_mul]; rfl] at q
  refine z_sub (lv' := [(0, _), (1, _), (3, _), (4, _), (6, _)]) rfl ?_
  exact q
/-- an element or none -/
def oI (o : Option Nat) : Int32 := match o with
  | none => -1
  | some k => nI k
def lfL (a b S : Nat) (f e : Nat) : Option Nat := match f with
  | 0 => none
  | f + 1 => if S.testBit (opN a b e) then lfL a b S f (e + 1) else some e
def lfN (a b S : Nat) : Option Nat := if S.testBit 0 then none else lfL a b S (a * b - 1) 1
set_option maxRecDepth 100000 in
theorem lp_X2_lowestFree (G : Gt) {g a b : Nat} {S : Nat} {μ : Mm} (hg : isGrp g) (h : grpOK μ g a b) {R : Int32} (hS : S < 2 ^ 36) : ∀ (f e : Nat), e + f = a * b → oI (lfL a b S f e) = R →
    Zs G 2 Y_X2_lowestFree (fnN G (fun v m => v = some (.int R) ∧ m = μ)) 12 [(0, rf G g), (1, .long (lN S)), (3, .int (nI e))] [] μ := by
  intro f
  have h1 := h.2.2.1
  have h2 := h.2.2.2.1
  have h3 := h.2.2.2.2.1
  have h4 := h.2.2.2.2.2
  have hab := ab_le h2 h4
  have hab1 := ab_pos h1 h3
  induction f with
  | zero =>
    intro e hf hr
    refine z_iload_n dX2_lowestFree_12 rfl ?_
    refine z_aload_n dX2_lowestFree_13 rfl ?_
    refine z_cV0 dX2_lowestFree_14 lk_X2_18 (by decide) (isGrp.o hg) rfl (Nat.le_of_ble_eq_true rfl) (ev_X2_count G hg h) ?_
    refine z_icmpN_ge (tgt := 40) dX2_lowestFree_17 (by decide) (by omega) (by omega) (fun c17 => ?_) (fun c17 => absurd c17 (by omega))
    refine z_iconst (v := -1) dX2_lowestFree_40 (by decide) ?_
    exact z_ret (ty := none) (v := none) rfl dX2_lowestFree_41 ⟨by rw [← hr]; rfl, rfl⟩
  | succ f ih =>
    intro e hf hr
    unfold lfL at hr
    refine z_iload_n dX2_lowestFree_12 rfl ?_
    refine z_aload_n dX2_lowestFree_13 rfl ?_
    refine z_cV0 dX2_lowestFree_14 lk_X2_18 (by decide) (isGrp.o hg) rfl (Nat.le_of_ble_eq_true rfl) (ev_X2_count G hg h) ?_
    refine z_icmpN_ge (tgt := 40) dX2_lowestFree_17 (by decide) (by omega) (by omega) (fun c17 => absurd c17 (by omega)) (fun c17 => ?_)
    refine z_lload_n dX2_lowestFree_20 rfl ?_
    refine z_aload_n dX2_lowestFree_21 rfl ?_
    refine z_iload_n dX2_lowestFree_22 rfl ?_
    refine z_cV1 dX2_lowestFree_23 lk_X2_39 (by decide) (isGrp.o hg) rfl (Nat.le_of_ble_eq_true rfl) (ev_X2_opposite G hg h (by omega)) ?_
    have q3 := opN_lt h1 h3 e
    refine z_cN2 dX2_lowestFree_26 lk_X2_35 (by decide) (Nat.le_of_ble_eq_true rfl) (ev_X7_contains G (by omega) (by omega)) ?_
    refine z_ifB_ne (tgt := 34) dX2_lowestFree_29 (by decide) (fun c29 => ?_) (fun c29 => ?_)
    · rw [if_pos c29] at hr
      refine z_iinc (v := nI (e + 1)) (lv' := [(3, _), (0, _), (1, _)]) dX2_lowestFree_34 rfl (nI_inc _ 1) (by decide) rfl ?_
      refine z_goto (tgt := 12) dX2_lowestFree_37 (by decide) ?_
      refine z_sub (lv' := [(0, _), (1, _), (3, _)]) rfl ?_
      exact ih _ (by omega) hr
    · refine z_iload_n dX2_lowestFree_32 rfl ?_
      exact z_ret (ty := none) (v := none) rfl dX2_lowestFree_33 ⟨by simp [c29] at hr; rw [← hr]; rfl, rfl⟩
set_option maxRecDepth 100000 in
theorem ev_X2_lowestFree (G : Gt) {g a b : Nat} {S : Nat} {μ : Mm} (hg : isGrp g) (h : grpOK μ g a b) (hS : S < 2 ^ 36) : EVr G 2 Y_X2_lowestFree [rf G g, .long (lN S)] μ (.int (oI (lfN a b S))) := by
  have h1 := h.2.2.1
  have h2 := h.2.2.2.1
  have h3 := h.2.2.2.2.1
  have h4 := h.2.2.2.2.2
  have hab := ab_le h2 h4
  have hab1 := ab_pos h1 h3
  refine ev_of (by decide) (Nat.le_of_ble_eq_true rfl) ?_
  show Zs G 2 Y_X2_lowestFree (fnN G _) 0 [(0, rf G g), (1, .long (lN S))] [] μ
  refine z_lload_n dX2_lowestFree_0 rfl ?_
  refine z_iconst (v := nI 0) dX2_lowestFree_1 (by decide) ?_
  refine z_cN2 dX2_lowestFree_2 lk_X2_35 (by decide) (Nat.le_of_ble_eq_true rfl) (ev_X7_contains G (by omega) (by omega)) ?_
  refine z_ifB_eq (tgt := 10) dX2_lowestFree_5 (by decide) (fun c5 => ?_) (fun c5 => ?_)
  · refine z_iconst (v := nI 1) dX2_lowestFree_10 (by decide) ?_
    refine z_istore_n (lv' := [(3, _), (0, _), (1, _)]) dX2_lowestFree_11 rfl (by decide) rfl ?_
    refine z_sub (lv' := [(0, _), (1, _), (3, _)]) rfl ?_
    refine lp_X2_lowestFree G hg h hS (a * b - 1) 1 (by omega) ?_
    simp [lfN, c5]
  · refine z_iconst (v := -1) dX2_lowestFree_8 (by decide) ?_
    exact z_ret (ty := none) (v := none) rfl dX2_lowestFree_9 ⟨by simp [lfN, c5]; rfl, rfl⟩
