set_option maxRecDepth 100000 in
theorem ev_X2_remainder (G : Gt) {x m : Nat} {μ : Mm} (hx : x < 2 ^ 31) (h0 : 0 < m) (hm : m < 2 ^ 31) : EVr G 0 Y_X2_remainder [.int (nI x), .int (nI m)] μ (.int (nI (x % m))) := by
  refine ev_of (by decide) (Nat.le_of_ble_eq_true rfl) ?_
  show Zs G 0 Y_X2_remainder (fnN G _) 0 [(0, .int (nI x)), (1, .int (nI m))] [] μ
  refine z_iload_n dX2_remainder_0 rfl ?_
  refine z_ifN_le (tgt := 10) dX2_remainder_1 (by decide) (by omega) (fun c1 => absurd c1 (by omega)) (fun c1 => ?_)
  refine z_iload_n dX2_remainder_4 rfl ?_
  refine z_iload_n dX2_remainder_5 rfl ?_
  refine z_iremN dX2_remainder_6 (by omega) (by omega) (by omega) ?_
  refine z_goto (tgt := 11) dX2_remainder_7 (by decide) ?_
  exact z_ret (ty := none) (v := none) rfl dX2_remainder_11 ⟨rfl, rfl⟩
set_option maxRecDepth 100000 in
theorem ev_X2_quotient (G : Gt) {x m : Nat} {μ : Mm} (hx : x < 2 ^ 31) (h0 : 0 < m) (hm : m < 2 ^ 31) : EVr G 0 Y_X2_quotient [.int (nI x), .int (nI m)] μ (.int (nI (x / m))) := by
  refine ev_of (by decide) (Nat.le_of_ble_eq_true rfl) ?_
  show Zs G 0 Y_X2_quotient (fnN G _) 0 [(0, .int (nI x)), (1, .int (nI m))] [] μ
  refine z_iload_n dX2_quotient_0 rfl ?_
  refine z_ifN_le (tgt := 10) dX2_quotient_1 (by decide) (by omega) (fun c1 => absurd c1 (by omega)) (fun c1 => ?_)
  refine z_iload_n dX2_quotient_4 rfl ?_
  refine z_iload_n dX2_quotient_5 rfl ?_
  refine z_idivN dX2_quotient_6 (by omega) (by omega) (by omega) ?_
  refine z_goto (tgt := 11) dX2_quotient_7 (by decide) ?_
  exact z_ret (ty := none) (v := none) rfl dX2_quotient_11 ⟨rfl, rfl⟩
/-- the group's numbers, as the cells have them -/
def grpOK (μ : Mm) (g a b : Nat) : Prop := μ.1 g 0 = nI a ∧ μ.1 g 1 = nI b ∧ 1 ≤ a ∧ a ≤ 6 ∧ 1 ≤ b ∧ b ≤ 6
theorem ab_le {a b : Nat} (ha : a ≤ 6) (hb : b ≤ 6) : a * b ≤ 36 := Nat.mul_le_mul ha hb
theorem ab_pos {a b : Nat} (ha : 1 ≤ a) (hb : 1 ≤ b) : 1 ≤ a * b := Nat.mul_le_mul ha hb
def plN (a b x y : Nat) : Nat := a * ((x / a + y / a) % b) + (x + y) % a
theorem plN_lt {a b : Nat} (ha : 1 ≤ a) (hb : 1 ≤ b) (x y : Nat) : plN a b x y < a * b := by
  unfold plN
  have h1 : (x / a + y / a) % b < b := Nat.mod_lt _ hb
  have h2 : (x + y) % a < a := Nat.mod_lt _ ha
  have h3 : a * ((x / a + y / a) % b + 1) ≤ a * b := Nat.mul_le_mul_left a h1
  rw [Nat.mul_add, Nat.mul_one] at h3
  omega
set_option maxRecDepth 100000 in
theorem ev_X2_count (G : Gt) {g a b : Nat} {μ : Mm} (hg : isGrp g) (h : grpOK μ g a b) : EVr G 0 Y_X2_count [rf G g] μ (.int (nI (a * b))) := by
  refine ev_of (by decide) (Nat.le_of_ble_eq_true rfl) ?_
  show Zs G 0 Y_X2_count (fnN G _) 0 [(0, rf G g)] [] μ
  refine z_aload_n dX2_count_0 rfl ?_
  refine z_getI dX2_count_1 fl_X2_9 (isGrp.f0 hg) h.1 ?_
  refine z_aload_n dX2_count_4 rfl ?_
  refine z_getI dX2_count_5 fl_X2_15 (isGrp.f1 hg) h.2.1 ?_
  refine z_imulN dX2_count_8 ?_
  exact z_ret (ty := none) (v := none) rfl dX2_count_9 ⟨rfl, rfl⟩
set_option maxRecDepth 100000 in
theorem ev_X2_plus (G : Gt) {g a b : Nat} {x y : Nat} {μ : Mm} (hg : isGrp g) (h : grpOK μ g a b) (hx : x < a * b) (hy : y < a * b) : EVr G 1 Y_X2_plus [rf G g, .int (nI x), .int (nI y)] μ (.int (nI (plN a b x y))) := by
  have h1 := h.2.2.1
  have h2 := h.2.2.2.1
  have h3 := h.2.2.2.2.1
  have h4 := h.2.2.2.2.2
  have hab := ab_le h2 h4
  have hab1 := ab_pos h1 h3
  refine ev_of (by decide) (Nat.le_of_ble_eq_true rfl) ?_
  show Zs G 1 Y_X2_plus (fnN G _) 0 [(0, rf G g), (1, .int (nI x)), (2, .int (nI y))] [] μ
  refine z_iload_n dX2_plus_0 rfl ?_
  refine z_iload_n dX2_plus_1 rfl ?_
  refine z_iaddN dX2_plus_2 ?_
  refine z_aload_n dX2_plus_3 rfl ?_
  refine z_getI dX2_plus_4 fl_X2_9 (isGrp.f0 hg) h.1 ?_
  refine z_cS2 dX2_plus_7 lk_X2_22 (by decide) (Nat.le_of_ble_eq_true rfl) (ev_X2_remainder G (by omega) (by omega) (by omega)) ?_
  refine z_istore_n (lv' := [(3, _), (0, _), (1, _), (2, _)]) dX2_plus_10 rfl (by decide) rfl ?_
  refine z_iload_n dX2_plus_11 rfl ?_
  refine z_aload_n dX2_plus_12 rfl ?_
  refine z_getI dX2_plus_13 fl_X2_9 (isGrp.f0 hg) h.1 ?_
  refine z_cS2 dX2_plus_16 lk_X2_26 (by decide) (Nat.le_of_ble_eq_true rfl) (ev_X2_quotient G (by omega) (by omega) (by omega)) ?_
  refine z_iload_n dX2_plus_19 rfl ?_
  refine z_aload_n dX2_plus_20 rfl ?_
  refine z_getI dX2_plus_21 fl_X2_9 (isGrp.f0 hg) h.1 ?_
  refine z_cS2 dX2_plus_24 lk_X2_26 (by decide) (Nat.le_of_ble_eq_true rfl) (ev_X2_quotient G (by omega) (by omega) (by omega)) ?_
  refine z_iaddN dX2_plus_27 ?_
  refine z_aload_n dX2_plus_28 rfl ?_
  refine z_getI dX2_plus_29 fl_X2_15 (isGrp.f1 hg) h.2.1 ?_
  have q1 : x / a ≤ x := Nat.div_le_self x a
  have q2 : y / a ≤ y := Nat.div_le_self y a
  refine z_cS2 dX2_plus_32 lk_X2_22 (by decide) (Nat.le_of_ble_eq_true rfl) (ev_X2_remainder G (by omega) (by omega) (by omega)) ?_
  refine z_istore (lv' := [(4, _), (3, _), (0, _), (1, _), (2, _)]) dX2_plus_35 (by decide) rfl ?_
  refine z_aload_n dX2_plus_37 rfl ?_
  refine z_getI dX2_plus_38 fl_X2_9 (isGrp.f0 hg) h.1 ?_
  refine z_iload dX2_plus_41 rfl ?_
  refine z_imulN dX2_plus_43 ?_
  refine z_iload_n dX2_plus_44 rfl ?_
  refine z_iaddN dX2_plus_45 ?_
  exact z_ret (ty := none) (v := none) rfl dX2_plus_46 ⟨rfl, rfl⟩
