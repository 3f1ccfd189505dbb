set_option maxRecDepth 100000 in
theorem ev_X8_sums (G : Gt) {a b n : Nat} {E Q : Nat → Nat} {μ : Mm} (h : nwOK μ a b n E Q) : EV G 2 Y_X8_sums [rf G 35] μ (fun v u => v = some (.long (lN (ssN a b E (2 ^ n)))) ∧ mqF (uF μ 35 3 (nI 0)) u) := by
  refine ev_of (by decide) (Nat.le_of_ble_eq_true rfl) ?_
  show Zs G 2 Y_X8_sums (fnN G _) 0 [(0, rf G 35)] [] μ
  refine z_aload_n dX8_sums_0 rfl ?_
  refine z_iconst (v := nI 0) dX8_sums_1 (by decide) ?_
  refine z_putI dX8_sums_2 fp_X8_41 ⟨by decide, _, rfl, rfl⟩ ?_
  refine z_aload_n dX8_sums_5 rfl ?_
  refine z_iconst (v := -1) dX8_sums_6 (by decide) ?_
  refine z_cV1g dX8_sums_7 lk_X8_94 (by decide) ⟨by decide, _, rfl⟩ rfl (Nat.le_of_ble_eq_true rfl) (ev_X8_looks_0 G (h.u3 _)) ?_
  rintro v u ⟨rfl, hq, hl, hs⟩
  have h := (h.u3 (nI 0)).q hq
  refine z_aload_n dX8_sums_10 rfl ?_
  refine z_cV0 dX8_sums_11 lk_X8_119 (by decide) ⟨by decide, _, rfl⟩ rfl (Nat.le_of_ble_eq_true rfl) (ev_X8_sumSet G h hl hs) ?_
  exact z_lret rfl dX8_sums_14 ⟨rfl, hq⟩
set_option maxRecDepth 100000 in
theorem ev_X8_thrown (G : Gt) {x : Int32} {μ : Mm} (hx : μ.1 35 3 = x) : EVr G 0 Y_X8_thrown [rf G 35] μ (.int x) := by
  refine ev_of (by decide) (Nat.le_of_ble_eq_true rfl) ?_
  show Zs G 0 Y_X8_thrown (fnN G _) 0 [(0, rf G 35)] [] μ
  refine z_aload_n dX8_thrown_0 rfl ?_
  refine z_getI dX8_thrown_1 fl_X8_41 ⟨by decide, _, rfl, rfl⟩ hx ?_
  exact z_ret (ty := none) (v := none) rfl dX8_thrown_4 ⟨rfl, rfl⟩
