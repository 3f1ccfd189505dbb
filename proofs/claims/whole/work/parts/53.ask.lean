theorem inT {x n : Nat} (h : x < n) (hn : n < 2 ^ 31) : inR (nI x) n = true := by rw [inR_N (by omega), decide_eq_true h]
theorem ev_X8_wi (G : Gt) {x : Int32} {n : Nat} {μ : Mm} (hn : n + 1 < 2 ^ 31) : EVr G 0 Y_X8_within [.int x, .int (nI 0), .int (nI n)] μ (.int (bI (inR x (n + 1)))) := by
  have e : nI (n + 1) - nI 1 = nI n := pk_sub (by omega)
  have q := ev_X8_within G (x := x) (l := nI 0) (h := nI n) (μ := μ)
  rw [← e, wi_in hn, e] at q
  exact q
theorem bit_b (n k : Nat) : nI (n / 2 ^ k &&& 1) = bI (n.testBit k) := by rw [tb_and1]; cases n.testBit k <;> rfl
theorem tf (c : Bool) (h : c = true) (k : c = false) : False := by rw [h] at k; cases k
set_option maxRecDepth 100000 in
theorem ev_X8_sum_r1 (G : Gt) {a b n : Nat} {E Q : Nat → Nat} {μ : Mm} (h : nwOK μ a b n E Q) {x y : Int32} (hr : inR x (a * b) = false) : EVw G 2 Y_X8_sum [rf G 35, .int x, .int y] μ (.int (nI 0)) (uF μ 35 3 (nI 1)) := by
  have hab := h.ab
  have hn := h.le
  have hpw := p1024 hn
  have hpw1 := ppos n
  refine ev_of (by decide) (Nat.le_of_ble_eq_true rfl) ?_
  show Zs G 2 Y_X8_sum (fnN G _) 0 [(0, rf G 35), (1, .int x), (2, .int y)] [] μ
  refine z_aload_n dX8_sum_0 rfl ?_
  refine z_aload_n dX8_sum_1 rfl ?_
  refine z_iload_n dX8_sum_2 rfl ?_
  refine z_cV1 dX8_sum_3 lk_X8_75 (by decide) ⟨by decide, _, rfl⟩ rfl (Nat.le_of_ble_eq_true rfl) (ev_X8_isElement G h.G) ?_
  refine z_ifB_eq (tgt := 17) dX8_sum_6 (by decide) (fun c6 => ?_) (fun c6 => (tf _ (c6) (hr)).elim)
  refine z_iconst (v := nI 1) dX8_sum_17 (by decide) ?_
  refine z_goto (tgt := 22) dX8_sum_18 (by decide) ?_
  refine z_cV1w dX8_sum_22 lk_X8_52 (by decide) ⟨by decide, _, rfl⟩ rfl (Nat.le_of_ble_eq_true rfl) (ev_X8_refused G (w := 1) (by decide)) ?_
  refine z_ifB_eq (tgt := 32) dX8_sum_25 (by decide) (fun c25 => absurd c25 (by decide)) (fun c25 => ?_)
  refine z_iconst (v := nI 0) dX8_sum_28 (by decide) ?_
  refine z_goto (tgt := 38) dX8_sum_29 (by decide) ?_
  exact z_ret (ty := none) (v := none) rfl dX8_sum_38 ⟨rfl, rfl⟩
set_option maxRecDepth 100000 in
theorem ev_X8_sum_r2 (G : Gt) {a b n : Nat} {E Q : Nat → Nat} {μ : Mm} (h : nwOK μ a b n E Q) {x y : Int32} (hx : inR x (a * b) = true) (hr : inR y (a * b) = false) : EVw G 2 Y_X8_sum [rf G 35, .int x, .int y] μ (.int (nI 0)) (uF μ 35 3 (nI 1)) := by
  have hab := h.ab
  have hn := h.le
  have hpw := p1024 hn
  have hpw1 := ppos n
  refine ev_of (by decide) (Nat.le_of_ble_eq_true rfl) ?_
  show Zs G 2 Y_X8_sum (fnN G _) 0 [(0, rf G 35), (1, .int x), (2, .int y)] [] μ
  refine z_aload_n dX8_sum_0 rfl ?_
  refine z_aload_n dX8_sum_1 rfl ?_
  refine z_iload_n dX8_sum_2 rfl ?_
  refine z_cV1 dX8_sum_3 lk_X8_75 (by decide) ⟨by decide, _, rfl⟩ rfl (Nat.le_of_ble_eq_true rfl) (ev_X8_isElement G h.G) ?_
  refine z_ifB_eq (tgt := 17) dX8_sum_6 (by decide) (fun c6 => (tf _ (hx) (c6)).elim) (fun c6 => ?_)
  refine z_aload_n dX8_sum_9 rfl ?_
  refine z_iload_n dX8_sum_10 rfl ?_
  refine z_cV1 dX8_sum_11 lk_X8_75 (by decide) ⟨by decide, _, rfl⟩ rfl (Nat.le_of_ble_eq_true rfl) (ev_X8_isElement G h.G) ?_
  refine z_ifB_ne (tgt := 21) dX8_sum_14 (by decide) (fun c14 => (tf _ (c14) (hr)).elim) (fun c14 => ?_)
  refine z_iconst (v := nI 1) dX8_sum_17 (by decide) ?_
  refine z_goto (tgt := 22) dX8_sum_18 (by decide) ?_
  refine z_cV1w dX8_sum_22 lk_X8_52 (by decide) ⟨by decide, _, rfl⟩ rfl (Nat.le_of_ble_eq_true rfl) (ev_X8_refused G (w := 1) (by decide)) ?_
  refine z_ifB_eq (tgt := 32) dX8_sum_25 (by decide) (fun c25 => absurd c25 (by decide)) (fun c25 => ?_)
  refine z_iconst (v := nI 0) dX8_sum_28 (by decide) ?_
  refine z_goto (tgt := 38) dX8_sum_29 (by decide) ?_
  exact z_ret (ty := none) (v := none) rfl dX8_sum_38 ⟨rfl, rfl⟩
set_option maxRecDepth 100000 in
theorem ev_X8_sum (G : Gt) {a b n : Nat} {E Q : Nat → Nat} {μ : Mm} (h : nwOK μ a b n E Q) {x y : Nat} (hx : x < a * b) (hy : y < a * b) : EVw G 2 Y_X8_sum [rf G 35, .int (nI x), .int (nI y)] μ (.int (nI (plN a b x y))) (uF μ 35 3 (nI 0)) := by
  have hab := h.ab
  have hn := h.le
  have hpw := p1024 hn
  have hpw1 := ppos n
  refine ev_of (by decide) (Nat.le_of_ble_eq_true rfl) ?_
  show Zs G 2 Y_X8_sum (fnN G _) 0 [(0, rf G 35), (1, .int (nI x)), (2, .int (nI y))] [] μ
  refine z_aload_n dX8_sum_0 rfl ?_
  refine z_aload_n dX8_sum_1 rfl ?_
  refine z_iload_n dX8_sum_2 rfl ?_
  refine z_cV1 dX8_sum_3 lk_X8_75 (by decide) ⟨by decide, _, rfl⟩ rfl (Nat.le_of_ble_eq_true rfl) (ev_X8_isElement G h.G) ?_
  refine z_ifB_eq (tgt := 17) dX8_sum_6 (by decide) (fun c6 => (tf _ (inT hx (by omega)) (c6)).elim) (fun c6 => ?_)
  refine z_aload_n dX8_sum_9 rfl ?_
  refine z_iload_n dX8_sum_10 rfl ?_
  refine z_cV1 dX8_sum_11 lk_X8_75 (by decide) ⟨by decide, _, rfl⟩ rfl (Nat.le_of_ble_eq_true rfl) (ev_X8_isElement G h.G) ?_
  refine z_ifB_ne (tgt := 21) dX8_sum_14 (by decide) (fun c14 => ?_) (fun c14 => (tf _ (inT hy (by omega)) (c14)).elim)
  refine z_iconst (v := nI 0) dX8_sum_21 (by decide) ?_
  refine z_cV1w dX8_sum_22 lk_X8_52 (by decide) ⟨by decide, _, rfl⟩ rfl (Nat.le_of_ble_eq_true rfl) (ev_X8_refused G (w := 0) (by decide)) ?_
  refine z_ifB_eq (tgt := 32) dX8_sum_25 (by decide) (fun c25 => ?_) (fun c25 => absurd c25 (by decide))
  refine z_aload_n dX8_sum_32 rfl ?_
  refine z_iload_n dX8_sum_33 rfl ?_
  refine z_iload_n dX8_sum_34 rfl ?_
  refine z_cV2 dX8_sum_35 lk_X8_64 (by decide) ⟨by decide, _, rfl⟩ rfl (Nat.le_of_ble_eq_true rfl) (ev_X8_plus G (h.u3 _).G (by omega) (by omega)) ?_
  exact z_ret (ty := none) (v := none) rfl dX8_sum_38 ⟨rfl, rfl⟩
set_option maxRecDepth 100000 in
theorem ev_X8_element_r1 (G : Gt) {a b n : Nat} {E Q : Nat → Nat} {μ : Mm} (h : nwOK μ a b n E Q) {x y : Int32} (hr : inR x (a * b) = false) : EVw G 2 Y_X8_element [rf G 35, .int x, .int y] μ (.int (nI 0)) (uF μ 35 3 (nI 1)) := by
  have hab := h.ab
  have hn := h.le
  have hpw := p1024 hn
  have hpw1 := ppos n
  refine ev_of (by decide) (Nat.le_of_ble_eq_true rfl) ?_
  show Zs G 2 Y_X8_element (fnN G _) 0 [(0, rf G 35), (1, .int x), (2, .int y)] [] μ
  refine z_aload_n dX8_element_0 rfl ?_
  refine z_aload_n dX8_element_1 rfl ?_
  refine z_iload_n dX8_element_2 rfl ?_
  refine z_cV1 dX8_element_3 lk_X8_75 (by decide) ⟨by decide, _, rfl⟩ rfl (Nat.le_of_ble_eq_true rfl) (ev_X8_isElement G h.G) ?_
  refine z_ifB_ne (tgt := 13) dX8_element_6 (by decide) (fun c6 => (tf _ (c6) (hr)).elim) (fun c6 => ?_)
  refine z_iconst (v := nI 1) dX8_element_9 (by decide) ?_
  refine z_goto (tgt := 27) dX8_element_10 (by decide) ?_
  refine z_cV1w dX8_element_27 lk_X8_52 (by decide) ⟨by decide, _, rfl⟩ rfl (Nat.le_of_ble_eq_true rfl) (ev_X8_refused G (w := 1) (by decide)) ?_
  refine z_ifB_eq (tgt := 35) dX8_element_30 (by decide) (fun c30 => absurd c30 (by decide)) (fun c30 => ?_)
  refine z_iconst (v := nI 0) dX8_element_33 (by decide) ?_
  exact z_ret (ty := none) (v := none) rfl dX8_element_34 ⟨rfl, rfl⟩
set_option maxRecDepth 100000 in
theorem ev_X8_element_r2 (G : Gt) {a b n : Nat} {E Q : Nat → Nat} {μ : Mm} (h : nwOK μ a b n E Q) {x y : Int32} (hx : inR x (a * b) = true) (hr : inR y 4 = false) : EVw G 2 Y_X8_element [rf G 35, .int x, .int y] μ (.int (nI 0)) (uF μ 35 3 (nI 2)) := by
  have hab := h.ab
  have hn := h.le
  have hpw := p1024 hn
  have hpw1 := ppos n
  refine ev_of (by decide) (Nat.le_of_ble_eq_true rfl) ?_
  show Zs G 2 Y_X8_element (fnN G _) 0 [(0, rf G 35), (1, .int x), (2, .int y)] [] μ
  refine z_aload_n dX8_element_0 rfl ?_
  refine z_aload_n dX8_element_1 rfl ?_
  refine z_iload_n dX8_element_2 rfl ?_
  refine z_cV1 dX8_element_3 lk_X8_75 (by decide) ⟨by decide, _, rfl⟩ rfl (Nat.le_of_ble_eq_true rfl) (ev_X8_isElement G h.G) ?_
  refine z_ifB_ne (tgt := 13) dX8_element_6 (by decide) (fun c6 => ?_) (fun c6 => (tf _ (hx) (c6)).elim)
  refine z_iload_n dX8_element_13 rfl ?_
  refine z_iconst (v := nI 0) dX8_element_14 (by decide) ?_
  refine z_iconst (v := nI 3) dX8_element_15 (by decide) ?_
  refine z_cS3 dX8_element_16 lk_X8_60 (by decide) (Nat.le_of_ble_eq_true rfl) (ev_X8_wi G (n := 3) (by decide)) ?_
  refine z_ifB_ne (tgt := 26) dX8_element_19 (by decide) (fun c19 => (tf _ (c19) (hr)).elim) (fun c19 => ?_)
  refine z_iconst (v := nI 2) dX8_element_22 (by decide) ?_
  refine z_goto (tgt := 27) dX8_element_23 (by decide) ?_
  refine z_cV1w dX8_element_27 lk_X8_52 (by decide) ⟨by decide, _, rfl⟩ rfl (Nat.le_of_ble_eq_true rfl) (ev_X8_refused G (w := 2) (by decide)) ?_
  refine z_ifB_eq (tgt := 35) dX8_element_30 (by decide) (fun c30 => absurd c30 (by decide)) (fun c30 => ?_)
  refine z_iconst (v := nI 0) dX8_element_33 (by decide) ?_
  exact z_ret (ty := none) (v := none) rfl dX8_element_34 ⟨rfl, rfl⟩
set_option maxRecDepth 100000 in
theorem ev_X8_element_0 (G : Gt) {a b n : Nat} {E Q : Nat → Nat} {μ : Mm} (h : nwOK μ a b n E Q) {x : Nat} (hx : x < a * b) : EV G 2 Y_X8_element [rf G 35, .int (nI x), .int (nI 0)] μ (fun v u => v = some (.int (nI (ordN a b x))) ∧ mqF (uF μ 35 3 (nI 0)) u) := by
  have hab := h.ab
  have hn := h.le
  have hpw := p1024 hn
  have hpw1 := ppos n
  refine ev_of (by decide) (Nat.le_of_ble_eq_true rfl) ?_
  show Zs G 2 Y_X8_element (fnN G _) 0 [(0, rf G 35), (1, .int (nI x)), (2, .int (nI 0))] [] μ
  refine z_aload_n dX8_element_0 rfl ?_
  refine z_aload_n dX8_element_1 rfl ?_
  refine z_iload_n dX8_element_2 rfl ?_
  refine z_cV1 dX8_element_3 lk_X8_75 (by decide) ⟨by decide, _, rfl⟩ rfl (Nat.le_of_ble_eq_true rfl) (ev_X8_isElement G h.G) ?_
  refine z_ifB_ne (tgt := 13) dX8_element_6 (by decide) (fun c6 => ?_) (fun c6 => (tf _ (inT hx (by omega)) (c6)).elim)
  refine z_iload_n dX8_element_13 rfl ?_
  refine z_iconst (v := nI 0) dX8_element_14 (by decide) ?_
  refine z_iconst (v := nI 3) dX8_element_15 (by decide) ?_
  refine z_cS3 dX8_element_16 lk_X8_60 (by decide) (Nat.le_of_ble_eq_true rfl) (ev_X8_wi G (n := 3) (by decide)) ?_
  refine z_ifB_ne (tgt := 26) dX8_element_19 (by decide) (fun c19 => ?_) (fun c19 => (tf _ (inT (x := 0) (n := 4) (by decide) (by decide)) (c19)).elim)
  refine z_iconst (v := nI 0) dX8_element_26 (by decide) ?_
  refine z_cV1w dX8_element_27 lk_X8_52 (by decide) ⟨by decide, _, rfl⟩ rfl (Nat.le_of_ble_eq_true rfl) (ev_X8_refused G (w := 0) (by decide)) ?_
  refine z_ifB_eq (tgt := 35) dX8_element_30 (by decide) (fun c30 => ?_) (fun c30 => absurd c30 (by decide))
  refine z_aload_n dX8_element_35 rfl ?_
  refine z_iconst (v := -1) dX8_element_36 (by decide) ?_
  refine z_cV1g dX8_element_37 lk_X8_94 (by decide) ⟨by decide, _, rfl⟩ rfl (Nat.le_of_ble_eq_true rfl) (ev_X8_looks_0 G (h.u3 _)) ?_
  rintro v u ⟨rfl, hq, hl, hs⟩
  have h := (h.u3 (nI 0)).q hq
  have htl := fun S : Nat => tot_lt (a := a) (b := b) h.g.1 h.g.2.2.1 E S
  refine z_iload_n dX8_element_40 rfl ?_
  refine z_ifN_ne (tgt := 52) dX8_element_41 (by decide) (by omega) (fun c41 => absurd rfl c41) (fun c41 => ?_)
  refine z_aload_n dX8_element_44 rfl ?_
  refine z_iload_n dX8_element_45 rfl ?_
  refine z_cV1 dX8_element_46 lk_X8_68 (by decide) ⟨by decide, _, rfl⟩ rfl (Nat.le_of_ble_eq_true rfl) (ev_X8_orderOf G h.G hx) ?_
  refine z_goto (tgt := 87) dX8_element_49 (by decide) ?_
  exact z_ret (ty := none) (v := none) rfl dX8_element_87 ⟨rfl, hq⟩
set_option maxRecDepth 100000 in
theorem ev_X8_element_1 (G : Gt) {a b n : Nat} {E Q : Nat → Nat} {μ : Mm} (h : nwOK μ a b n E Q) {x : Nat} (hx : x < a * b) : EV G 2 Y_X8_element [rf G 35, .int (nI x), .int (nI 1)] μ (fun v u => v = some (.int (nI (opN a b x))) ∧ mqF (uF μ 35 3 (nI 0)) u) := by
  have hab := h.ab
  have hn := h.le
  have hpw := p1024 hn
  have hpw1 := ppos n
  refine ev_of (by decide) (Nat.le_of_ble_eq_true rfl) ?_
  show Zs G 2 Y_X8_element (fnN G _) 0 [(0, rf G 35), (1, .int (nI x)), (2, .int (nI 1))] [] μ
  refine z_aload_n dX8_element_0 rfl ?_
  refine z_aload_n dX8_element_1 rfl ?_
  refine z_iload_n dX8_element_2 rfl ?_
  refine z_cV1 dX8_element_3 lk_X8_75 (by decide) ⟨by decide, _, rfl⟩ rfl (Nat.le_of_ble_eq_true rfl) (ev_X8_isElement G h.G) ?_
  refine z_ifB_ne (tgt := 13) dX8_element_6 (by decide) (fun c6 => ?_) (fun c6 => (tf _ (inT hx (by omega)) (c6)).elim)
  refine z_iload_n dX8_element_13 rfl ?_
  refine z_iconst (v := nI 0) dX8_element_14 (by decide) ?_
  refine z_iconst (v := nI 3) dX8_element_15 (by decide) ?_
  refine z_cS3 dX8_element_16 lk_X8_60 (by decide) (Nat.le_of_ble_eq_true rfl) (ev_X8_wi G (n := 3) (by decide)) ?_
  refine z_ifB_ne (tgt := 26) dX8_element_19 (by decide) (fun c19 => ?_) (fun c19 => (tf _ (inT (x := 1) (n := 4) (by decide) (by decide)) (c19)).elim)
  refine z_iconst (v := nI 0) dX8_element_26 (by decide) ?_
  refine z_cV1w dX8_element_27 lk_X8_52 (by decide) ⟨by decide, _, rfl⟩ rfl (Nat.le_of_ble_eq_true rfl) (ev_X8_refused G (w := 0) (by decide)) ?_
  refine z_ifB_eq (tgt := 35) dX8_element_30 (by decide) (fun c30 => ?_) (fun c30 => absurd c30 (by decide))
  refine z_aload_n dX8_element_35 rfl ?_
  refine z_iconst (v := -1) dX8_element_36 (by decide) ?_
  refine z_cV1g dX8_element_37 lk_X8_94 (by decide) ⟨by decide, _, rfl⟩ rfl (Nat.le_of_ble_eq_true rfl) (ev_X8_looks_0 G (h.u3 _)) ?_
  rintro v u ⟨rfl, hq, hl, hs⟩
  have h := (h.u3 (nI 0)).q hq
  have htl := fun S : Nat => tot_lt (a := a) (b := b) h.g.1 h.g.2.2.1 E S
  refine z_iload_n dX8_element_40 rfl ?_
  refine z_ifN_ne (tgt := 52) dX8_element_41 (by decide) (by omega) (fun c41 => ?_) (fun c41 => absurd c41 (by decide))
  refine z_iload_n dX8_element_52 rfl ?_
  refine z_iconst (v := nI 1) dX8_element_53 (by decide) ?_
  refine z_icmpN_ne (tgt := 65) dX8_element_54 (by decide) (by omega) (by omega) (fun c54 => absurd rfl c54) (fun c54 => ?_)
  refine z_aload_n dX8_element_57 rfl ?_
  refine z_iload_n dX8_element_58 rfl ?_
  refine z_cV1 dX8_element_59 lk_X8_123 (by decide) ⟨by decide, _, rfl⟩ rfl (Nat.le_of_ble_eq_true rfl) (ev_X8_lessOf G h.G hx) ?_
  refine z_goto (tgt := 87) dX8_element_62 (by decide) ?_
  exact z_ret (ty := none) (v := none) rfl dX8_element_87 ⟨rfl, hq⟩
set_option maxRecDepth 100000 in
theorem ev_X8_element_2 (G : Gt) {a b n : Nat} {E Q : Nat → Nat} {μ : Mm} (h : nwOK μ a b n E Q) {x : Nat} (hx : x < a * b) : EV G 2 Y_X8_element [rf G 35, .int (nI x), .int (nI 2)] μ (fun v u => v = some (.int (nI (cntN (fun k => decide (E k = x)) n))) ∧ mqF (uF μ 35 3 (nI 0)) u) := by
  have hab := h.ab
  have hn := h.le
  have hpw := p1024 hn
  have hpw1 := ppos n
  refine ev_of (by decide) (Nat.le_of_ble_eq_true rfl) ?_
  show Zs G 2 Y_X8_element (fnN G _) 0 [(0, rf G 35), (1, .int (nI x)), (2, .int (nI 2))] [] μ
  refine z_aload_n dX8_element_0 rfl ?_
  refine z_aload_n dX8_element_1 rfl ?_
  refine z_iload_n dX8_element_2 rfl ?_
  refine z_cV1 dX8_element_3 lk_X8_75 (by decide) ⟨by decide, _, rfl⟩ rfl (Nat.le_of_ble_eq_true rfl) (ev_X8_isElement G h.G) ?_
  refine z_ifB_ne (tgt := 13) dX8_element_6 (by decide) (fun c6 => ?_) (fun c6 => (tf _ (inT hx (by omega)) (c6)).elim)
  refine z_iload_n dX8_element_13 rfl ?_
  refine z_iconst (v := nI 0) dX8_element_14 (by decide) ?_
  refine z_iconst (v := nI 3) dX8_element_15 (by decide) ?_
  refine z_cS3 dX8_element_16 lk_X8_60 (by decide) (Nat.le_of_ble_eq_true rfl) (ev_X8_wi G (n := 3) (by decide)) ?_
  refine z_ifB_ne (tgt := 26) dX8_element_19 (by decide) (fun c19 => ?_) (fun c19 => (tf _ (inT (x := 2) (n := 4) (by decide) (by decide)) (c19)).elim)
  refine z_iconst (v := nI 0) dX8_element_26 (by decide) ?_
  refine z_cV1w dX8_element_27 lk_X8_52 (by decide) ⟨by decide, _, rfl⟩ rfl (Nat.le_of_ble_eq_true rfl) (ev_X8_refused G (w := 0) (by decide)) ?_
  refine z_ifB_eq (tgt := 35) dX8_element_30 (by decide) (fun c30 => ?_) (fun c30 => absurd c30 (by decide))
  refine z_aload_n dX8_element_35 rfl ?_
  refine z_iconst (v := -1) dX8_element_36 (by decide) ?_
  refine z_cV1g dX8_element_37 lk_X8_94 (by decide) ⟨by decide, _, rfl⟩ rfl (Nat.le_of_ble_eq_true rfl) (ev_X8_looks_0 G (h.u3 _)) ?_
  rintro v u ⟨rfl, hq, hl, hs⟩
  have h := (h.u3 (nI 0)).q hq
  have htl := fun S : Nat => tot_lt (a := a) (b := b) h.g.1 h.g.2.2.1 E S
  refine z_iload_n dX8_element_40 rfl ?_
  refine z_ifN_ne (tgt := 52) dX8_element_41 (by decide) (by omega) (fun c41 => ?_) (fun c41 => absurd c41 (by decide))
  refine z_iload_n dX8_element_52 rfl ?_
  refine z_iconst (v := nI 1) dX8_element_53 (by decide) ?_
  refine z_icmpN_ne (tgt := 65) dX8_element_54 (by decide) (by omega) (by omega) (fun c54 => ?_) (fun c54 => absurd c54 (by decide))
  refine z_iload_n dX8_element_65 rfl ?_
  refine z_iconst (v := nI 2) dX8_element_66 (by decide) ?_
  refine z_icmpN_ne (tgt := 78) dX8_element_67 (by decide) (by omega) (by omega) (fun c67 => absurd rfl c67) (fun c67 => ?_)
  refine z_aload_n dX8_element_70 rfl ?_
  refine z_iload_n dX8_element_71 rfl ?_
  refine z_cV1 dX8_element_72 lk_X8_126 (by decide) ⟨by decide, _, rfl⟩ rfl (Nat.le_of_ble_eq_true rfl) (ev_X8_timesOf G h (by omega)) ?_
  refine z_goto (tgt := 87) dX8_element_75 (by decide) ?_
  exact z_ret (ty := none) (v := none) rfl dX8_element_87 ⟨rfl, hq⟩
set_option maxRecDepth 100000 in
theorem ev_X8_element_3 (G : Gt) {a b n : Nat} {E Q : Nat → Nat} {μ : Mm} (h : nwOK μ a b n E Q) {x : Nat} (hx : x < a * b) : EV G 2 Y_X8_element [rf G 35, .int (nI x), .int (nI 3)] μ (fun v u => v = some (.int (bI ((ssN a b E (2 ^ n)).testBit x))) ∧ mqF (uF μ 35 3 (nI 0)) u) := by
  have hab := h.ab
  have hn := h.le
  have hpw := p1024 hn
  have hpw1 := ppos n
  refine ev_of (by decide) (Nat.le_of_ble_eq_true rfl) ?_
  show Zs G 2 Y_X8_element (fnN G _) 0 [(0, rf G 35), (1, .int (nI x)), (2, .int (nI 3))] [] μ
  refine z_aload_n dX8_element_0 rfl ?_
  refine z_aload_n dX8_element_1 rfl ?_
  refine z_iload_n dX8_element_2 rfl ?_
  refine z_cV1 dX8_element_3 lk_X8_75 (by decide) ⟨by decide, _, rfl⟩ rfl (Nat.le_of_ble_eq_true rfl) (ev_X8_isElement G h.G) ?_
  refine z_ifB_ne (tgt := 13) dX8_element_6 (by decide) (fun c6 => ?_) (fun c6 => (tf _ (inT hx (by omega)) (c6)).elim)
  refine z_iload_n dX8_element_13 rfl ?_
  refine z_iconst (v := nI 0) dX8_element_14 (by decide) ?_
  refine z_iconst (v := nI 3) dX8_element_15 (by decide) ?_
  refine z_cS3 dX8_element_16 lk_X8_60 (by decide) (Nat.le_of_ble_eq_true rfl) (ev_X8_wi G (n := 3) (by decide)) ?_
  refine z_ifB_ne (tgt := 26) dX8_element_19 (by decide) (fun c19 => ?_) (fun c19 => (tf _ (inT (x := 3) (n := 4) (by decide) (by decide)) (c19)).elim)
  refine z_iconst (v := nI 0) dX8_element_26 (by decide) ?_
  refine z_cV1w dX8_element_27 lk_X8_52 (by decide) ⟨by decide, _, rfl⟩ rfl (Nat.le_of_ble_eq_true rfl) (ev_X8_refused G (w := 0) (by decide)) ?_
  refine z_ifB_eq (tgt := 35) dX8_element_30 (by decide) (fun c30 => ?_) (fun c30 => absurd c30 (by decide))
  refine z_aload_n dX8_element_35 rfl ?_
  refine z_iconst (v := -1) dX8_element_36 (by decide) ?_
  refine z_cV1g dX8_element_37 lk_X8_94 (by decide) ⟨by decide, _, rfl⟩ rfl (Nat.le_of_ble_eq_true rfl) (ev_X8_looks_0 G (h.u3 _)) ?_
  rintro v u ⟨rfl, hq, hl, hs⟩
  have h := (h.u3 (nI 0)).q hq
  have htl := fun S : Nat => tot_lt (a := a) (b := b) h.g.1 h.g.2.2.1 E S
  refine z_iload_n dX8_element_40 rfl ?_
  refine z_ifN_ne (tgt := 52) dX8_element_41 (by decide) (by omega) (fun c41 => ?_) (fun c41 => absurd c41 (by decide))
  refine z_iload_n dX8_element_52 rfl ?_
  refine z_iconst (v := nI 1) dX8_element_53 (by decide) ?_
  refine z_icmpN_ne (tgt := 65) dX8_element_54 (by decide) (by omega) (by omega) (fun c54 => ?_) (fun c54 => absurd c54 (by decide))
  refine z_iload_n dX8_element_65 rfl ?_
  refine z_iconst (v := nI 2) dX8_element_66 (by decide) ?_
  refine z_icmpN_ne (tgt := 78) dX8_element_67 (by decide) (by omega) (by omega) (fun c67 => ?_) (fun c67 => absurd c67 (by decide))
  refine z_aload_n dX8_element_78 rfl ?_
  have hss := ssN_lt (a := a) (b := b) (E := E) (fun S => by have := htl S; omega) (2 ^ n)
  refine z_cV0 dX8_element_79 lk_X8_119 (by decide) ⟨by decide, _, rfl⟩ rfl (Nat.le_of_ble_eq_true rfl) (ev_X8_sumSet G h hl hs) ?_
  refine z_iload_n dX8_element_82 rfl ?_
  refine z_lshrN dX8_element_83 (by omega) (by omega) ?_
  refine z_lconst (v := lN 1) dX8_element_84 rfl ?_
  refine z_landN dX8_element_85 ?_
  refine z_l2iN dX8_element_86 ?_
  exact z_ret (ty := none) (v := none) rfl dX8_element_87 ⟨by rw [bit_b], hq⟩
set_option maxRecDepth 100000 in
theorem ev_X8_at_r1 (G : Gt) {a b n : Nat} {E Q : Nat → Nat} {μ : Mm} (h : nwOK μ a b n E Q) {x y : Int32} (hr : inR x n = false) : EVw G 3 Y_X8_at [rf G 35, .int x, .int y] μ (.int (nI 0)) (uF μ 35 3 (nI 1)) := by
  have hab := h.ab
  have hn := h.le
  have hpw := p1024 hn
  have hpw1 := ppos n
  refine ev_of (by decide) (Nat.le_of_ble_eq_true rfl) ?_
  show Zs G 3 Y_X8_at (fnN G _) 0 [(0, rf G 35), (1, .int x), (2, .int y)] [] μ
  refine z_aload_n dX8_at_0 rfl ?_
  refine z_aload_n dX8_at_1 rfl ?_
  refine z_iload_n dX8_at_2 rfl ?_
  refine z_cV1 dX8_at_3 lk_X8_78 (by decide) ⟨by decide, _, rfl⟩ rfl (Nat.le_of_ble_eq_true rfl) (ev_X8_isPlace G h) ?_
  refine z_ifB_ne (tgt := 13) dX8_at_6 (by decide) (fun c6 => (tf _ (c6) (hr)).elim) (fun c6 => ?_)
  refine z_iconst (v := nI 1) dX8_at_9 (by decide) ?_
  refine z_goto (tgt := 27) dX8_at_10 (by decide) ?_
  refine z_cV1w dX8_at_27 lk_X8_52 (by decide) ⟨by decide, _, rfl⟩ rfl (Nat.le_of_ble_eq_true rfl) (ev_X8_refused G (w := 1) (by decide)) ?_
  refine z_ifB_eq (tgt := 35) dX8_at_30 (by decide) (fun c30 => absurd c30 (by decide)) (fun c30 => ?_)
  refine z_iconst (v := nI 0) dX8_at_33 (by decide) ?_
  exact z_ret (ty := none) (v := none) rfl dX8_at_34 ⟨rfl, rfl⟩
set_option maxRecDepth 100000 in
theorem ev_X8_at_r2 (G : Gt) {a b n : Nat} {E Q : Nat → Nat} {μ : Mm} (h : nwOK μ a b n E Q) {x y : Int32} (hx : inR x n = true) (hr : inR y 4 = false) : EVw G 3 Y_X8_at [rf G 35, .int x, .int y] μ (.int (nI 0)) (uF μ 35 3 (nI 2)) := by
  have hab := h.ab
  have hn := h.le
  have hpw := p1024 hn
  have hpw1 := ppos n
  refine ev_of (by decide) (Nat.le_of_ble_eq_true rfl) ?_
  show Zs G 3 Y_X8_at (fnN G _) 0 [(0, rf G 35), (1, .int x), (2, .int y)] [] μ
  refine z_aload_n dX8_at_0 rfl ?_
  refine z_aload_n dX8_at_1 rfl ?_
  refine z_iload_n dX8_at_2 rfl ?_
  refine z_cV1 dX8_at_3 lk_X8_78 (by decide) ⟨by decide, _, rfl⟩ rfl (Nat.le_of_ble_eq_true rfl) (ev_X8_isPlace G h) ?_
  refine z_ifB_ne (tgt := 13) dX8_at_6 (by decide) (fun c6 => ?_) (fun c6 => (tf _ (hx) (c6)).elim)
  refine z_iload_n dX8_at_13 rfl ?_
  refine z_iconst (v := nI 0) dX8_at_14 (by decide) ?_
  refine z_iconst (v := nI 3) dX8_at_15 (by decide) ?_
  refine z_cS3 dX8_at_16 lk_X8_60 (by decide) (Nat.le_of_ble_eq_true rfl) (ev_X8_wi G (n := 3) (by decide)) ?_
  refine z_ifB_ne (tgt := 26) dX8_at_19 (by decide) (fun c19 => (tf _ (c19) (hr)).elim) (fun c19 => ?_)
  refine z_iconst (v := nI 2) dX8_at_22 (by decide) ?_
  refine z_goto (tgt := 27) dX8_at_23 (by decide) ?_
  refine z_cV1w dX8_at_27 lk_X8_52 (by decide) ⟨by decide, _, rfl⟩ rfl (Nat.le_of_ble_eq_true rfl) (ev_X8_refused G (w := 2) (by decide)) ?_
  refine z_ifB_eq (tgt := 35) dX8_at_30 (by decide) (fun c30 => absurd c30 (by decide)) (fun c30 => ?_)
  refine z_iconst (v := nI 0) dX8_at_33 (by decide) ?_
  exact z_ret (ty := none) (v := none) rfl dX8_at_34 ⟨rfl, rfl⟩
set_option maxRecDepth 100000 in
theorem ev_X8_at_0 (G : Gt) {a b n : Nat} {E Q : Nat → Nat} {μ : Mm} (h : nwOK μ a b n E Q) {x : Nat} (hx : x < n) : EV G 3 Y_X8_at [rf G 35, .int (nI x), .int (nI 0)] μ (fun v u => v = some (.int (nI (E x))) ∧ mqF (uF μ 35 3 (nI 0)) u) := by
  have hab := h.ab
  have hn := h.le
  have hpw := p1024 hn
  have hpw1 := ppos n
  refine ev_of (by decide) (Nat.le_of_ble_eq_true rfl) ?_
  show Zs G 3 Y_X8_at (fnN G _) 0 [(0, rf G 35), (1, .int (nI x)), (2, .int (nI 0))] [] μ
  refine z_aload_n dX8_at_0 rfl ?_
  refine z_aload_n dX8_at_1 rfl ?_
  refine z_iload_n dX8_at_2 rfl ?_
  refine z_cV1 dX8_at_3 lk_X8_78 (by decide) ⟨by decide, _, rfl⟩ rfl (Nat.le_of_ble_eq_true rfl) (ev_X8_isPlace G h) ?_
  refine z_ifB_ne (tgt := 13) dX8_at_6 (by decide) (fun c6 => ?_) (fun c6 => (tf _ (inT hx (by omega)) (c6)).elim)
  refine z_iload_n dX8_at_13 rfl ?_
  refine z_iconst (v := nI 0) dX8_at_14 (by decide) ?_
  refine z_iconst (v := nI 3) dX8_at_15 (by decide) ?_
  refine z_cS3 dX8_at_16 lk_X8_60 (by decide) (Nat.le_of_ble_eq_true rfl) (ev_X8_wi G (n := 3) (by decide)) ?_
  refine z_ifB_ne (tgt := 26) dX8_at_19 (by decide) (fun c19 => ?_) (fun c19 => (tf _ (inT (x := 0) (n := 4) (by decide) (by decide)) (c19)).elim)
  refine z_iconst (v := nI 0) dX8_at_26 (by decide) ?_
  refine z_cV1w dX8_at_27 lk_X8_52 (by decide) ⟨by decide, _, rfl⟩ rfl (Nat.le_of_ble_eq_true rfl) (ev_X8_refused G (w := 0) (by decide)) ?_
  refine z_ifB_eq (tgt := 35) dX8_at_30 (by decide) (fun c30 => ?_) (fun c30 => absurd c30 (by decide))
  refine z_aload_n dX8_at_35 rfl ?_
  refine z_iconst (v := -1) dX8_at_36 (by decide) ?_
  refine z_cV1g dX8_at_37 lk_X8_94 (by decide) ⟨by decide, _, rfl⟩ rfl (Nat.le_of_ble_eq_true rfl) (ev_X8_looks_0 G (h.u3 _)) ?_
  rintro v u ⟨rfl, hq, hl, hs⟩
  have h := (h.u3 (nI 0)).q hq
  have htl := fun S : Nat => tot_lt (a := a) (b := b) h.g.1 h.g.2.2.1 E S
  refine z_iload_n dX8_at_40 rfl ?_
  refine z_ifN_ne (tgt := 55) dX8_at_41 (by decide) (by omega) (fun c41 => absurd rfl c41) (fun c41 => ?_)
  refine z_aload_n dX8_at_44 rfl ?_
  refine z_getR (j := 36) dX8_at_45 fl_X8_7 ⟨by decide, _, rfl, rfl⟩ ?_
  refine z_iconst (v := nI 3) dX8_at_48 (by decide) ?_
  refine z_iload_n dX8_at_49 rfl ?_
  refine z_iaddN dX8_at_50 ?_
  refine z_ialdN dX8_at_51 ⟨by decide, rfl⟩ (by omega) (by decide) (h.e hx) ?_
  refine z_goto (tgt := 87) dX8_at_52 (by decide) ?_
  exact z_ret (ty := none) (v := none) rfl dX8_at_87 ⟨rfl, hq⟩
set_option maxRecDepth 100000 in
theorem ev_X8_at_1 (G : Gt) {a b n : Nat} {E Q : Nat → Nat} {μ : Mm} (h : nwOK μ a b n E Q) {x : Nat} (hx : x < n) : EV G 3 Y_X8_at [rf G 35, .int (nI x), .int (nI 1)] μ (fun v u => v = some (.int (nI (Q x))) ∧ mqF (uF μ 35 3 (nI 0)) u) := by
  have hab := h.ab
  have hn := h.le
  have hpw := p1024 hn
  have hpw1 := ppos n
  refine ev_of (by decide) (Nat.le_of_ble_eq_true rfl) ?_
  show Zs G 3 Y_X8_at (fnN G _) 0 [(0, rf G 35), (1, .int (nI x)), (2, .int (nI 1))] [] μ
  refine z_aload_n dX8_at_0 rfl ?_
  refine z_aload_n dX8_at_1 rfl ?_
  refine z_iload_n dX8_at_2 rfl ?_
  refine z_cV1 dX8_at_3 lk_X8_78 (by decide) ⟨by decide, _, rfl⟩ rfl (Nat.le_of_ble_eq_true rfl) (ev_X8_isPlace G h) ?_
  refine z_ifB_ne (tgt := 13) dX8_at_6 (by decide) (fun c6 => ?_) (fun c6 => (tf _ (inT hx (by omega)) (c6)).elim)
  refine z_iload_n dX8_at_13 rfl ?_
  refine z_iconst (v := nI 0) dX8_at_14 (by decide) ?_
  refine z_iconst (v := nI 3) dX8_at_15 (by decide) ?_
  refine z_cS3 dX8_at_16 lk_X8_60 (by decide) (Nat.le_of_ble_eq_true rfl) (ev_X8_wi G (n := 3) (by decide)) ?_
  refine z_ifB_ne (tgt := 26) dX8_at_19 (by decide) (fun c19 => ?_) (fun c19 => (tf _ (inT (x := 1) (n := 4) (by decide) (by decide)) (c19)).elim)
  refine z_iconst (v := nI 0) dX8_at_26 (by decide) ?_
  refine z_cV1w dX8_at_27 lk_X8_52 (by decide) ⟨by decide, _, rfl⟩ rfl (Nat.le_of_ble_eq_true rfl) (ev_X8_refused G (w := 0) (by decide)) ?_
  refine z_ifB_eq (tgt := 35) dX8_at_30 (by decide) (fun c30 => ?_) (fun c30 => absurd c30 (by decide))
  refine z_aload_n dX8_at_35 rfl ?_
  refine z_iconst (v := -1) dX8_at_36 (by decide) ?_
  refine z_cV1g dX8_at_37 lk_X8_94 (by decide) ⟨by decide, _, rfl⟩ rfl (Nat.le_of_ble_eq_true rfl) (ev_X8_looks_0 G (h.u3 _)) ?_
  rintro v u ⟨rfl, hq, hl, hs⟩
  have h := (h.u3 (nI 0)).q hq
  have htl := fun S : Nat => tot_lt (a := a) (b := b) h.g.1 h.g.2.2.1 E S
  refine z_iload_n dX8_at_40 rfl ?_
  refine z_ifN_ne (tgt := 55) dX8_at_41 (by decide) (by omega) (fun c41 => ?_) (fun c41 => absurd c41 (by decide))
  refine z_iload_n dX8_at_55 rfl ?_
  refine z_iconst (v := nI 1) dX8_at_56 (by decide) ?_
  refine z_icmpN_ne (tgt := 72) dX8_at_57 (by decide) (by omega) (by omega) (fun c57 => absurd rfl c57) (fun c57 => ?_)
  refine z_aload_n dX8_at_60 rfl ?_
  refine z_getR (j := 36) dX8_at_61 fl_X8_7 ⟨by decide, _, rfl, rfl⟩ ?_
  refine z_bipush (v := nI 13) dX8_at_64 (by decide) ?_
  refine z_iload_n dX8_at_66 rfl ?_
  refine z_iaddN dX8_at_67 ?_
  refine z_ialdN dX8_at_68 ⟨by decide, rfl⟩ (by omega) (by decide) (h.p hx) ?_
  refine z_goto (tgt := 87) dX8_at_69 (by decide) ?_
  exact z_ret (ty := none) (v := none) rfl dX8_at_87 ⟨rfl, hq⟩
set_option maxRecDepth 100000 in
theorem ev_X8_at_2 (G : Gt) {a b n : Nat} {E Q : Nat → Nat} {μ : Mm} (h : nwOK μ a b n E Q) {x : Nat} (hx : x < n) : EV G 3 Y_X8_at [rf G 35, .int (nI x), .int (nI 2)] μ (fun v u => v = some (.int (nI (cntN (fun B => blk a b E B && B.testBit x) (2 ^ n)))) ∧ mqF (uF μ 35 3 (nI 0)) u) := by
  have hab := h.ab
  have hn := h.le
  have hpw := p1024 hn
  have hpw1 := ppos n
  refine ev_of (by decide) (Nat.le_of_ble_eq_true rfl) ?_
  show Zs G 3 Y_X8_at (fnN G _) 0 [(0, rf G 35), (1, .int (nI x)), (2, .int (nI 2))] [] μ
  refine z_aload_n dX8_at_0 rfl ?_
  refine z_aload_n dX8_at_1 rfl ?_
  refine z_iload_n dX8_at_2 rfl ?_
  refine z_cV1 dX8_at_3 lk_X8_78 (by decide) ⟨by decide, _, rfl⟩ rfl (Nat.le_of_ble_eq_true rfl) (ev_X8_isPlace G h) ?_
  refine z_ifB_ne (tgt := 13) dX8_at_6 (by decide) (fun c6 => ?_) (fun c6 => (tf _ (inT hx (by omega)) (c6)).elim)
  refine z_iload_n dX8_at_13 rfl ?_
  refine z_iconst (v := nI 0) dX8_at_14 (by decide) ?_
  refine z_iconst (v := nI 3) dX8_at_15 (by decide) ?_
  refine z_cS3 dX8_at_16 lk_X8_60 (by decide) (Nat.le_of_ble_eq_true rfl) (ev_X8_wi G (n := 3) (by decide)) ?_
  refine z_ifB_ne (tgt := 26) dX8_at_19 (by decide) (fun c19 => ?_) (fun c19 => (tf _ (inT (x := 2) (n := 4) (by decide) (by decide)) (c19)).elim)
  refine z_iconst (v := nI 0) dX8_at_26 (by decide) ?_
  refine z_cV1w dX8_at_27 lk_X8_52 (by decide) ⟨by decide, _, rfl⟩ rfl (Nat.le_of_ble_eq_true rfl) (ev_X8_refused G (w := 0) (by decide)) ?_
  refine z_ifB_eq (tgt := 35) dX8_at_30 (by decide) (fun c30 => ?_) (fun c30 => absurd c30 (by decide))
  refine z_aload_n dX8_at_35 rfl ?_
  refine z_iconst (v := -1) dX8_at_36 (by decide) ?_
  refine z_cV1g dX8_at_37 lk_X8_94 (by decide) ⟨by decide, _, rfl⟩ rfl (Nat.le_of_ble_eq_true rfl) (ev_X8_looks_0 G (h.u3 _)) ?_
  rintro v u ⟨rfl, hq, hl, hs⟩
  have h := (h.u3 (nI 0)).q hq
  have htl := fun S : Nat => tot_lt (a := a) (b := b) h.g.1 h.g.2.2.1 E S
  refine z_iload_n dX8_at_40 rfl ?_
  refine z_ifN_ne (tgt := 55) dX8_at_41 (by decide) (by omega) (fun c41 => ?_) (fun c41 => absurd c41 (by decide))
  refine z_iload_n dX8_at_55 rfl ?_
  refine z_iconst (v := nI 1) dX8_at_56 (by decide) ?_
  refine z_icmpN_ne (tgt := 72) dX8_at_57 (by decide) (by omega) (by omega) (fun c57 => ?_) (fun c57 => absurd c57 (by decide))
  refine z_aload_n dX8_at_72 rfl ?_
  refine z_iload_n dX8_at_73 rfl ?_
  refine z_iload_n dX8_at_74 rfl ?_
  refine z_iconst (v := nI 3) dX8_at_75 (by decide) ?_
  refine z_icmpN_ne (tgt := 83) dX8_at_76 (by decide) (by omega) (by omega) (fun c76 => ?_) (fun c76 => absurd c76 (by decide))
  refine z_iconst (v := nI 0) dX8_at_83 (by decide) ?_
  refine z_cV2 dX8_at_84 lk_X8_129 (by decide) ⟨by decide, _, rfl⟩ rfl (Nat.le_of_ble_eq_true rfl) (ev_X8_blocksAt G h hl hs (z := false) hx) ?_
  exact z_ret (ty := none) (v := none) rfl dX8_at_87 ⟨rfl, hq⟩
set_option maxRecDepth 100000 in
theorem ev_X8_at_3 (G : Gt) {a b n : Nat} {E Q : Nat → Nat} {μ : Mm} (h : nwOK μ a b n E Q) {x : Nat} (hx : x < n) : EV G 3 Y_X8_at [rf G 35, .int (nI x), .int (nI 3)] μ (fun v u => v = some (.int (nI (smA (cPl a b E (2 ^ x)) (2 ^ n)))) ∧ mqF (uF μ 35 3 (nI 0)) u) := by
  have hab := h.ab
  have hn := h.le
  have hpw := p1024 hn
  have hpw1 := ppos n
  refine ev_of (by decide) (Nat.le_of_ble_eq_true rfl) ?_
  show Zs G 3 Y_X8_at (fnN G _) 0 [(0, rf G 35), (1, .int (nI x)), (2, .int (nI 3))] [] μ
  refine z_aload_n dX8_at_0 rfl ?_
  refine z_aload_n dX8_at_1 rfl ?_
  refine z_iload_n dX8_at_2 rfl ?_
  refine z_cV1 dX8_at_3 lk_X8_78 (by decide) ⟨by decide, _, rfl⟩ rfl (Nat.le_of_ble_eq_true rfl) (ev_X8_isPlace G h) ?_
  refine z_ifB_ne (tgt := 13) dX8_at_6 (by decide) (fun c6 => ?_) (fun c6 => (tf _ (inT hx (by omega)) (c6)).elim)
  refine z_iload_n dX8_at_13 rfl ?_
  refine z_iconst (v := nI 0) dX8_at_14 (by decide) ?_
  refine z_iconst (v := nI 3) dX8_at_15 (by decide) ?_
  refine z_cS3 dX8_at_16 lk_X8_60 (by decide) (Nat.le_of_ble_eq_true rfl) (ev_X8_wi G (n := 3) (by decide)) ?_
  refine z_ifB_ne (tgt := 26) dX8_at_19 (by decide) (fun c19 => ?_) (fun c19 => (tf _ (inT (x := 3) (n := 4) (by decide) (by decide)) (c19)).elim)
  refine z_iconst (v := nI 0) dX8_at_26 (by decide) ?_
  refine z_cV1w dX8_at_27 lk_X8_52 (by decide) ⟨by decide, _, rfl⟩ rfl (Nat.le_of_ble_eq_true rfl) (ev_X8_refused G (w := 0) (by decide)) ?_
  refine z_ifB_eq (tgt := 35) dX8_at_30 (by decide) (fun c30 => ?_) (fun c30 => absurd c30 (by decide))
  refine z_aload_n dX8_at_35 rfl ?_
  refine z_iconst (v := -1) dX8_at_36 (by decide) ?_
  refine z_cV1g dX8_at_37 lk_X8_94 (by decide) ⟨by decide, _, rfl⟩ rfl (Nat.le_of_ble_eq_true rfl) (ev_X8_looks_0 G (h.u3 _)) ?_
  rintro v u ⟨rfl, hq, hl, hs⟩
  have h := (h.u3 (nI 0)).q hq
  have htl := fun S : Nat => tot_lt (a := a) (b := b) h.g.1 h.g.2.2.1 E S
  refine z_iload_n dX8_at_40 rfl ?_
  refine z_ifN_ne (tgt := 55) dX8_at_41 (by decide) (by omega) (fun c41 => ?_) (fun c41 => absurd c41 (by decide))
  refine z_iload_n dX8_at_55 rfl ?_
  refine z_iconst (v := nI 1) dX8_at_56 (by decide) ?_
  refine z_icmpN_ne (tgt := 72) dX8_at_57 (by decide) (by omega) (by omega) (fun c57 => ?_) (fun c57 => absurd c57 (by decide))
  refine z_aload_n dX8_at_72 rfl ?_
  refine z_iload_n dX8_at_73 rfl ?_
  refine z_iload_n dX8_at_74 rfl ?_
  refine z_iconst (v := nI 3) dX8_at_75 (by decide) ?_
  refine z_icmpN_ne (tgt := 83) dX8_at_76 (by decide) (by omega) (by omega) (fun c76 => absurd rfl c76) (fun c76 => ?_)
  refine z_iconst (v := nI 1) dX8_at_79 (by decide) ?_
  refine z_goto (tgt := 84) dX8_at_80 (by decide) ?_
  refine z_cV2 dX8_at_84 lk_X8_129 (by decide) ⟨by decide, _, rfl⟩ rfl (Nat.le_of_ble_eq_true rfl) (ev_X8_blocksAt G h hl hs (z := true) hx) ?_
  exact z_ret (ty := none) (v := none) rfl dX8_at_87 ⟨rfl, hq⟩
set_option maxRecDepth 100000 in
theorem ev_X8_part_r1 (G : Gt) {a b n : Nat} {E Q : Nat → Nat} {μ : Mm} (h : nwOK μ a b n E Q) {x y : Int32} (hr : inR x 6 = false) : EVw G 2 Y_X8_part [rf G 35, .int x, .int y] μ (.int (nI 0)) (uF μ 35 3 (nI 1)) := by
  have hab := h.ab
  have hn := h.le
  have hpw := p1024 hn
  have hpw1 := ppos n
  refine ev_of (by decide) (Nat.le_of_ble_eq_true rfl) ?_
  show Zs G 2 Y_X8_part (fnN G _) 0 [(0, rf G 35), (1, .int x), (2, .int y)] [] μ
  refine z_aload_n dX8_part_0 rfl ?_
  refine z_iload_n dX8_part_1 rfl ?_
  refine z_iconst (v := nI 0) dX8_part_2 (by decide) ?_
  refine z_iconst (v := nI 5) dX8_part_3 (by decide) ?_
  refine z_cS3 dX8_part_4 lk_X8_60 (by decide) (Nat.le_of_ble_eq_true rfl) (ev_X8_wi G (n := 5) (by decide)) ?_
  refine z_ifB_eq (tgt := 19) dX8_part_7 (by decide) (fun c7 => ?_) (fun c7 => (tf _ (c7) (hr)).elim)
  refine z_iconst (v := nI 1) dX8_part_19 (by decide) ?_
  refine z_goto (tgt := 24) dX8_part_20 (by decide) ?_
  refine z_cV1w dX8_part_24 lk_X8_52 (by decide) ⟨by decide, _, rfl⟩ rfl (Nat.le_of_ble_eq_true rfl) (ev_X8_refused G (w := 1) (by decide)) ?_
  refine z_ifB_eq (tgt := 32) dX8_part_27 (by decide) (fun c27 => absurd c27 (by decide)) (fun c27 => ?_)
  refine z_iconst (v := nI 0) dX8_part_30 (by decide) ?_
  exact z_ret (ty := none) (v := none) rfl dX8_part_31 ⟨rfl, rfl⟩
set_option maxRecDepth 100000 in
theorem ev_X8_part_r2 (G : Gt) {a b n : Nat} {E Q : Nat → Nat} {μ : Mm} (h : nwOK μ a b n E Q) {x y : Int32} (hx : inR x 6 = true) (hr : inR y 3 = false) : EVw G 2 Y_X8_part [rf G 35, .int x, .int y] μ (.int (nI 0)) (uF μ 35 3 (nI 1)) := by
  have hab := h.ab
  have hn := h.le
  have hpw := p1024 hn
  have hpw1 := ppos n
  refine ev_of (by decide) (Nat.le_of_ble_eq_true rfl) ?_
  show Zs G 2 Y_X8_part (fnN G _) 0 [(0, rf G 35), (1, .int x), (2, .int y)] [] μ
  refine z_aload_n dX8_part_0 rfl ?_
  refine z_iload_n dX8_part_1 rfl ?_
  refine z_iconst (v := nI 0) dX8_part_2 (by decide) ?_
  refine z_iconst (v := nI 5) dX8_part_3 (by decide) ?_
  refine z_cS3 dX8_part_4 lk_X8_60 (by decide) (Nat.le_of_ble_eq_true rfl) (ev_X8_wi G (n := 5) (by decide)) ?_
  refine z_ifB_eq (tgt := 19) dX8_part_7 (by decide) (fun c7 => (tf _ (hx) (c7)).elim) (fun c7 => ?_)
  refine z_iload_n dX8_part_10 rfl ?_
  refine z_iconst (v := nI 0) dX8_part_11 (by decide) ?_
  refine z_iconst (v := nI 2) dX8_part_12 (by decide) ?_
  refine z_cS3 dX8_part_13 lk_X8_60 (by decide) (Nat.le_of_ble_eq_true rfl) (ev_X8_wi G (n := 2) (by decide)) ?_
  refine z_ifB_ne (tgt := 23) dX8_part_16 (by decide) (fun c16 => (tf _ (c16) (hr)).elim) (fun c16 => ?_)
  refine z_iconst (v := nI 1) dX8_part_19 (by decide) ?_
  refine z_goto (tgt := 24) dX8_part_20 (by decide) ?_
  refine z_cV1w dX8_part_24 lk_X8_52 (by decide) ⟨by decide, _, rfl⟩ rfl (Nat.le_of_ble_eq_true rfl) (ev_X8_refused G (w := 1) (by decide)) ?_
  refine z_ifB_eq (tgt := 32) dX8_part_27 (by decide) (fun c27 => absurd c27 (by decide)) (fun c27 => ?_)
  refine z_iconst (v := nI 0) dX8_part_30 (by decide) ?_
  exact z_ret (ty := none) (v := none) rfl dX8_part_31 ⟨rfl, rfl⟩
set_option maxRecDepth 100000 in
theorem ev_X8_part_0 (G : Gt) {a b n : Nat} {E Q : Nat → Nat} {μ : Mm} (h : nwOK μ a b n E Q) {x : Nat} (hx : x < 6) : EV G 2 Y_X8_part [rf G 35, .int (nI x), .int (nI 0)] μ (fun v u => v = some (.int (nI (poN Q x n))) ∧ mqF (uF μ 35 3 (nI 0)) u) := by
  have hab := h.ab
  have hn := h.le
  have hpw := p1024 hn
  have hpw1 := ppos n
  refine ev_of (by decide) (Nat.le_of_ble_eq_true rfl) ?_
  show Zs G 2 Y_X8_part (fnN G _) 0 [(0, rf G 35), (1, .int (nI x)), (2, .int (nI 0))] [] μ
  refine z_aload_n dX8_part_0 rfl ?_
  refine z_iload_n dX8_part_1 rfl ?_
  refine z_iconst (v := nI 0) dX8_part_2 (by decide) ?_
  refine z_iconst (v := nI 5) dX8_part_3 (by decide) ?_
  refine z_cS3 dX8_part_4 lk_X8_60 (by decide) (Nat.le_of_ble_eq_true rfl) (ev_X8_wi G (n := 5) (by decide)) ?_
  refine z_ifB_eq (tgt := 19) dX8_part_7 (by decide) (fun c7 => (tf _ (inT hx (by decide)) (c7)).elim) (fun c7 => ?_)
  refine z_iload_n dX8_part_10 rfl ?_
  refine z_iconst (v := nI 0) dX8_part_11 (by decide) ?_
  refine z_iconst (v := nI 2) dX8_part_12 (by decide) ?_
  refine z_cS3 dX8_part_13 lk_X8_60 (by decide) (Nat.le_of_ble_eq_true rfl) (ev_X8_wi G (n := 2) (by decide)) ?_
  refine z_ifB_ne (tgt := 23) dX8_part_16 (by decide) (fun c16 => ?_) (fun c16 => (tf _ (inT (x := 0) (n := 3) (by decide) (by decide)) (c16)).elim)
  refine z_iconst (v := nI 0) dX8_part_23 (by decide) ?_
  refine z_cV1w dX8_part_24 lk_X8_52 (by decide) ⟨by decide, _, rfl⟩ rfl (Nat.le_of_ble_eq_true rfl) (ev_X8_refused G (w := 0) (by decide)) ?_
  refine z_ifB_eq (tgt := 32) dX8_part_27 (by decide) (fun c27 => ?_) (fun c27 => absurd c27 (by decide))
  refine z_aload_n dX8_part_32 rfl ?_
  refine z_iconst (v := -1) dX8_part_33 (by decide) ?_
  refine z_cV1g dX8_part_34 lk_X8_94 (by decide) ⟨by decide, _, rfl⟩ rfl (Nat.le_of_ble_eq_true rfl) (ev_X8_looks_0 G (h.u3 _)) ?_
  rintro v u ⟨rfl, hq, hl, hs⟩
  have h := (h.u3 (nI 0)).q hq
  have htl := fun S : Nat => tot_lt (a := a) (b := b) h.g.1 h.g.2.2.1 E S
  refine z_aload_n dX8_part_37 rfl ?_
  refine z_iload_n dX8_part_38 rfl ?_
  have hpo := poN_lt Q x n
  refine z_cV1 dX8_part_39 lk_X8_133 (by decide) ⟨by decide, _, rfl⟩ rfl (Nat.le_of_ble_eq_true rfl) (ev_X8_partSet G h (by omega)) ?_
  refine z_istore_n (lv' := [(3, _), (0, _), (1, _), (2, _)]) dX8_part_42 rfl (by decide) rfl ?_
  refine z_iload_n dX8_part_43 rfl ?_
  refine z_ifN_ne (tgt := 51) dX8_part_44 (by decide) (by omega) (fun c44 => absurd rfl c44) (fun c44 => ?_)
  refine z_iload_n dX8_part_47 rfl ?_
  refine z_goto (tgt := 78) dX8_part_48 (by decide) ?_
  exact z_ret (ty := none) (v := none) rfl dX8_part_78 ⟨rfl, hq⟩
set_option maxRecDepth 100000 in
theorem ev_X8_part_1 (G : Gt) {a b n : Nat} {E Q : Nat → Nat} {μ : Mm} (h : nwOK μ a b n E Q) {x : Nat} (hx : x < 6) : EV G 2 Y_X8_part [rf G 35, .int (nI x), .int (nI 1)] μ (fun v u => v = some (.int (nI (tot a b E (poN Q x n)))) ∧ mqF (uF μ 35 3 (nI 0)) u) := by
  have hab := h.ab
  have hn := h.le
  have hpw := p1024 hn
  have hpw1 := ppos n
  refine ev_of (by decide) (Nat.le_of_ble_eq_true rfl) ?_
  show Zs G 2 Y_X8_part (fnN G _) 0 [(0, rf G 35), (1, .int (nI x)), (2, .int (nI 1))] [] μ
  refine z_aload_n dX8_part_0 rfl ?_
  refine z_iload_n dX8_part_1 rfl ?_
  refine z_iconst (v := nI 0) dX8_part_2 (by decide) ?_
  refine z_iconst (v := nI 5) dX8_part_3 (by decide) ?_
  refine z_cS3 dX8_part_4 lk_X8_60 (by decide) (Nat.le_of_ble_eq_true rfl) (ev_X8_wi G (n := 5) (by decide)) ?_
  refine z_ifB_eq (tgt := 19) dX8_part_7 (by decide) (fun c7 => (tf _ (inT hx (by decide)) (c7)).elim) (fun c7 => ?_)
  refine z_iload_n dX8_part_10 rfl ?_
  refine z_iconst (v := nI 0) dX8_part_11 (by decide) ?_
  refine z_iconst (v := nI 2) dX8_part_12 (by decide) ?_
  refine z_cS3 dX8_part_13 lk_X8_60 (by decide) (Nat.le_of_ble_eq_true rfl) (ev_X8_wi G (n := 2) (by decide)) ?_
  refine z_ifB_ne (tgt := 23) dX8_part_16 (by decide) (fun c16 => ?_) (fun c16 => (tf _ (inT (x := 1) (n := 3) (by decide) (by decide)) (c16)).elim)
  refine z_iconst (v := nI 0) dX8_part_23 (by decide) ?_
  refine z_cV1w dX8_part_24 lk_X8_52 (by decide) ⟨by decide, _, rfl⟩ rfl (Nat.le_of_ble_eq_true rfl) (ev_X8_refused G (w := 0) (by decide)) ?_
  refine z_ifB_eq (tgt := 32) dX8_part_27 (by decide) (fun c27 => ?_) (fun c27 => absurd c27 (by decide))
  refine z_aload_n dX8_part_32 rfl ?_
  refine z_iconst (v := -1) dX8_part_33 (by decide) ?_
  refine z_cV1g dX8_part_34 lk_X8_94 (by decide) ⟨by decide, _, rfl⟩ rfl (Nat.le_of_ble_eq_true rfl) (ev_X8_looks_0 G (h.u3 _)) ?_
  rintro v u ⟨rfl, hq, hl, hs⟩
  have h := (h.u3 (nI 0)).q hq
  have htl := fun S : Nat => tot_lt (a := a) (b := b) h.g.1 h.g.2.2.1 E S
  refine z_aload_n dX8_part_37 rfl ?_
  refine z_iload_n dX8_part_38 rfl ?_
  have hpo := poN_lt Q x n
  refine z_cV1 dX8_part_39 lk_X8_133 (by decide) ⟨by decide, _, rfl⟩ rfl (Nat.le_of_ble_eq_true rfl) (ev_X8_partSet G h (by omega)) ?_
  refine z_istore_n (lv' := [(3, _), (0, _), (1, _), (2, _)]) dX8_part_42 rfl (by decide) rfl ?_
  refine z_iload_n dX8_part_43 rfl ?_
  refine z_ifN_ne (tgt := 51) dX8_part_44 (by decide) (by omega) (fun c44 => ?_) (fun c44 => absurd c44 (by decide))
  refine z_iload_n dX8_part_51 rfl ?_
  refine z_iconst (v := nI 1) dX8_part_52 (by decide) ?_
  refine z_icmpN_ne (tgt := 65) dX8_part_53 (by decide) (by omega) (by omega) (fun c53 => absurd rfl c53) (fun c53 => ?_)
  refine z_aload_n dX8_part_56 rfl ?_
  refine z_getR (j := 41) dX8_part_57 fl_X8_25 ⟨by decide, _, rfl, rfl⟩ ?_
  refine z_iload_n dX8_part_60 rfl ?_
  refine z_ialdN dX8_part_61 ⟨by decide, rfl⟩ (by omega) (by decide) ((hs _ hpo).1) ?_
  refine z_goto (tgt := 78) dX8_part_62 (by decide) ?_
  exact z_ret (ty := none) (v := none) rfl dX8_part_78 ⟨rfl, hq⟩
set_option maxRecDepth 100000 in
theorem ev_X8_part_2 (G : Gt) {a b n : Nat} {E Q : Nat → Nat} {μ : Mm} (h : nwOK μ a b n E Q) {x : Nat} (hx : x < 6) : EV G 2 Y_X8_part [rf G 35, .int (nI x), .int (nI 2)] μ (fun v u => v = some (.int (bI (blk a b E (poN Q x n)))) ∧ mqF (uF μ 35 3 (nI 0)) u) := by
  have hab := h.ab
  have hn := h.le
  have hpw := p1024 hn
  have hpw1 := ppos n
  refine ev_of (by decide) (Nat.le_of_ble_eq_true rfl) ?_
  show Zs G 2 Y_X8_part (fnN G _) 0 [(0, rf G 35), (1, .int (nI x)), (2, .int (nI 2))] [] μ
  refine z_aload_n dX8_part_0 rfl ?_
  refine z_iload_n dX8_part_1 rfl ?_
  refine z_iconst (v := nI 0) dX8_part_2 (by decide) ?_
  refine z_iconst (v := nI 5) dX8_part_3 (by decide) ?_
  refine z_cS3 dX8_part_4 lk_X8_60 (by decide) (Nat.le_of_ble_eq_true rfl) (ev_X8_wi G (n := 5) (by decide)) ?_
  refine z_ifB_eq (tgt := 19) dX8_part_7 (by decide) (fun c7 => (tf _ (inT hx (by decide)) (c7)).elim) (fun c7 => ?_)
  refine z_iload_n dX8_part_10 rfl ?_
  refine z_iconst (v := nI 0) dX8_part_11 (by decide) ?_
  refine z_iconst (v := nI 2) dX8_part_12 (by decide) ?_
  refine z_cS3 dX8_part_13 lk_X8_60 (by decide) (Nat.le_of_ble_eq_true rfl) (ev_X8_wi G (n := 2) (by decide)) ?_
  refine z_ifB_ne (tgt := 23) dX8_part_16 (by decide) (fun c16 => ?_) (fun c16 => (tf _ (inT (x := 2) (n := 3) (by decide) (by decide)) (c16)).elim)
  refine z_iconst (v := nI 0) dX8_part_23 (by decide) ?_
  refine z_cV1w dX8_part_24 lk_X8_52 (by decide) ⟨by decide, _, rfl⟩ rfl (Nat.le_of_ble_eq_true rfl) (ev_X8_refused G (w := 0) (by decide)) ?_
  refine z_ifB_eq (tgt := 32) dX8_part_27 (by decide) (fun c27 => ?_) (fun c27 => absurd c27 (by decide))
  refine z_aload_n dX8_part_32 rfl ?_
  refine z_iconst (v := -1) dX8_part_33 (by decide) ?_
  refine z_cV1g dX8_part_34 lk_X8_94 (by decide) ⟨by decide, _, rfl⟩ rfl (Nat.le_of_ble_eq_true rfl) (ev_X8_looks_0 G (h.u3 _)) ?_
  rintro v u ⟨rfl, hq, hl, hs⟩
  have h := (h.u3 (nI 0)).q hq
  have htl := fun S : Nat => tot_lt (a := a) (b := b) h.g.1 h.g.2.2.1 E S
  refine z_aload_n dX8_part_37 rfl ?_
  refine z_iload_n dX8_part_38 rfl ?_
  have hpo := poN_lt Q x n
  refine z_cV1 dX8_part_39 lk_X8_133 (by decide) ⟨by decide, _, rfl⟩ rfl (Nat.le_of_ble_eq_true rfl) (ev_X8_partSet G h (by omega)) ?_
  refine z_istore_n (lv' := [(3, _), (0, _), (1, _), (2, _)]) dX8_part_42 rfl (by decide) rfl ?_
  refine z_iload_n dX8_part_43 rfl ?_
  refine z_ifN_ne (tgt := 51) dX8_part_44 (by decide) (by omega) (fun c44 => ?_) (fun c44 => absurd c44 (by decide))
  refine z_iload_n dX8_part_51 rfl ?_
  refine z_iconst (v := nI 1) dX8_part_52 (by decide) ?_
  refine z_icmpN_ne (tgt := 65) dX8_part_53 (by decide) (by omega) (by omega) (fun c53 => ?_) (fun c53 => absurd c53 (by decide))
  refine z_aload_n dX8_part_65 rfl ?_
  refine z_iload_n dX8_part_66 rfl ?_
  refine z_cV1 dX8_part_67 lk_X8_91 (by decide) ⟨by decide, _, rfl⟩ rfl (Nat.le_of_ble_eq_true rfl) (ev_X8_isBlock G hab htl hl hs hpo) ?_
  refine z_ifB_eq (tgt := 77) dX8_part_70 (by decide) (fun c70 => ?_) (fun c70 => ?_)
  · refine z_iconst (v := nI 0) dX8_part_77 (by decide) ?_
    exact z_ret (ty := none) (v := none) rfl dX8_part_78 ⟨by rw [c70]; rfl, hq⟩
  · refine z_iconst (v := nI 1) dX8_part_73 (by decide) ?_
    refine z_goto (tgt := 78) dX8_part_74 (by decide) ?_
    exact z_ret (ty := none) (v := none) rfl dX8_part_78 ⟨by rw [c70]; rfl, hq⟩
set_option maxRecDepth 100000 in
theorem ev_X8_reason_r1 (G : Gt) {a b n : Nat} {E Q : Nat → Nat} {μ : Mm} (h : nwOK μ a b n E Q) {x : Int32} (hr : inR x 6 = false) : EVw G 2 Y_X8_reason [rf G 35, .int x] μ (.int (nI 0)) (uF μ 35 3 (nI 1)) := by
  have hab := h.ab
  have hn := h.le
  have hpw := p1024 hn
  have hpw1 := ppos n
  refine ev_of (by decide) (Nat.le_of_ble_eq_true rfl) ?_
  show Zs G 2 Y_X8_reason (fnN G _) 0 [(0, rf G 35), (1, .int x)] [] μ
  refine z_aload_n dX8_reason_0 rfl ?_
  refine z_iload_n dX8_reason_1 rfl ?_
  refine z_iconst (v := nI 0) dX8_reason_2 (by decide) ?_
  refine z_iconst (v := nI 5) dX8_reason_3 (by decide) ?_
  refine z_cS3 dX8_reason_4 lk_X8_60 (by decide) (Nat.le_of_ble_eq_true rfl) (ev_X8_wi G (n := 5) (by decide)) ?_
  refine z_ifB_ne (tgt := 14) dX8_reason_7 (by decide) (fun c7 => (tf _ (c7) (hr)).elim) (fun c7 => ?_)
  refine z_iconst (v := nI 1) dX8_reason_10 (by decide) ?_
  refine z_goto (tgt := 15) dX8_reason_11 (by decide) ?_
  refine z_cV1w dX8_reason_15 lk_X8_52 (by decide) ⟨by decide, _, rfl⟩ rfl (Nat.le_of_ble_eq_true rfl) (ev_X8_refused G (w := 1) (by decide)) ?_
  refine z_ifB_eq (tgt := 23) dX8_reason_18 (by decide) (fun c18 => absurd c18 (by decide)) (fun c18 => ?_)
  refine z_iconst (v := nI 0) dX8_reason_21 (by decide) ?_
  exact z_ret (ty := none) (v := none) rfl dX8_reason_22 ⟨rfl, rfl⟩
set_option maxRecDepth 100000 in
theorem ev_X8_reason (G : Gt) {a b n : Nat} {E Q : Nat → Nat} {μ : Mm} (h : nwOK μ a b n E Q) {x : Nat} (hx : x < 6) : EV G 2 Y_X8_reason [rf G 35, .int (nI x)] μ (fun v u => v = some (.int (nI (rsN a b E (poN Q x n)))) ∧ mqF (uF μ 35 3 (nI 0)) u) := by
  have hab := h.ab
  have hn := h.le
  have hpw := p1024 hn
  have hpw1 := ppos n
  refine ev_of (by decide) (Nat.le_of_ble_eq_true rfl) ?_
  show Zs G 2 Y_X8_reason (fnN G _) 0 [(0, rf G 35), (1, .int (nI x))] [] μ
  refine z_aload_n dX8_reason_0 rfl ?_
  refine z_iload_n dX8_reason_1 rfl ?_
  refine z_iconst (v := nI 0) dX8_reason_2 (by decide) ?_
  refine z_iconst (v := nI 5) dX8_reason_3 (by decide) ?_
  refine z_cS3 dX8_reason_4 lk_X8_60 (by decide) (Nat.le_of_ble_eq_true rfl) (ev_X8_wi G (n := 5) (by decide)) ?_
  refine z_ifB_ne (tgt := 14) dX8_reason_7 (by decide) (fun c7 => ?_) (fun c7 => (tf _ (inT hx (by decide)) (c7)).elim)
  refine z_iconst (v := nI 0) dX8_reason_14 (by decide) ?_
  refine z_cV1w dX8_reason_15 lk_X8_52 (by decide) ⟨by decide, _, rfl⟩ rfl (Nat.le_of_ble_eq_true rfl) (ev_X8_refused G (w := 0) (by decide)) ?_
  refine z_ifB_eq (tgt := 23) dX8_reason_18 (by decide) (fun c18 => ?_) (fun c18 => absurd c18 (by decide))
  refine z_aload_n dX8_reason_23 rfl ?_
  refine z_iconst (v := -1) dX8_reason_24 (by decide) ?_
  refine z_cV1g dX8_reason_25 lk_X8_94 (by decide) ⟨by decide, _, rfl⟩ rfl (Nat.le_of_ble_eq_true rfl) (ev_X8_looks_0 G (h.u3 _)) ?_
  rintro v u ⟨rfl, hq, hl, hs⟩
  have h := (h.u3 (nI 0)).q hq
  have htl := fun S : Nat => tot_lt (a := a) (b := b) h.g.1 h.g.2.2.1 E S
  refine z_aload_n dX8_reason_28 rfl ?_
  refine z_iload_n dX8_reason_29 rfl ?_
  have hpo := poN_lt Q x n
  have htp := htl (poN Q x n)
  refine z_cV1 dX8_reason_30 lk_X8_133 (by decide) ⟨by decide, _, rfl⟩ rfl (Nat.le_of_ble_eq_true rfl) (ev_X8_partSet G h (by omega)) ?_
  refine z_istore_n (lv' := [(2, _), (0, _), (1, _)]) dX8_reason_33 rfl (by decide) rfl ?_
  refine z_iload_n dX8_reason_34 rfl ?_
  refine z_ifN_ne (tgt := 42) dX8_reason_35 (by decide) (by omega) (fun c35 => ?_) (fun c35 => ?_)
  · refine z_aload_n dX8_reason_42 rfl ?_
    refine z_getR (j := 41) dX8_reason_43 fl_X8_25 ⟨by decide, _, rfl, rfl⟩ ?_
    refine z_iload_n dX8_reason_46 rfl ?_
    refine z_ialdN dX8_reason_47 ⟨by decide, rfl⟩ (by omega) (by decide) ((hs _ hpo).1) ?_
    refine z_ifN_eq (tgt := 55) dX8_reason_48 (by decide) (by omega) (fun c48 => ?_) (fun c48 => ?_)
    · refine z_aload_n dX8_reason_55 rfl ?_
      refine z_iload_n dX8_reason_56 rfl ?_
      refine z_cV1 dX8_reason_57 lk_X8_91 (by decide) ⟨by decide, _, rfl⟩ rfl (Nat.le_of_ble_eq_true rfl) (ev_X8_isBlock G hab htl hl hs hpo) ?_
      refine z_ifB_eq (tgt := 67) dX8_reason_60 (by decide) (fun c60 => ?_) (fun c60 => ?_)
      · refine z_iconst (v := nI 3) dX8_reason_67 (by decide) ?_
        exact z_ret (ty := none) (v := none) rfl dX8_reason_68 ⟨by simp [rsN, c35, c48, c60], hq⟩
      · refine z_iconst (v := nI 0) dX8_reason_63 (by decide) ?_
        refine z_goto (tgt := 68) dX8_reason_64 (by decide) ?_
        exact z_ret (ty := none) (v := none) rfl dX8_reason_68 ⟨by simp [rsN, c35, c48, c60], hq⟩
    · refine z_iconst (v := nI 2) dX8_reason_51 (by decide) ?_
      refine z_goto (tgt := 68) dX8_reason_52 (by decide) ?_
      exact z_ret (ty := none) (v := none) rfl dX8_reason_68 ⟨by simp [rsN, c35, c48], hq⟩
  · refine z_iconst (v := nI 1) dX8_reason_38 (by decide) ?_
    refine z_goto (tgt := 68) dX8_reason_39 (by decide) ?_
    exact z_ret (ty := none) (v := none) rfl dX8_reason_68 ⟨by simp [rsN, c35], hq⟩
set_option maxRecDepth 100000 in
theorem ev_X8_whole_r1 (G : Gt) {a b n : Nat} {E Q : Nat → Nat} {μ : Mm} (h : nwOK μ a b n E Q) {x : Int32} (hr : inR x 14 = false) : EVw G 4 Y_X8_whole [rf G 35, .int x] μ (.int (nI 0)) (uF μ 35 3 (nI 1)) := by
  have hab := h.ab
  have hn := h.le
  have hpw := p1024 hn
  have hpw1 := ppos n
  refine ev_of (by decide) (Nat.le_of_ble_eq_true rfl) ?_
  show Zs G 4 Y_X8_whole (fnN G _) 0 [(0, rf G 35), (1, .int x)] [] μ
  refine z_aload_n dX8_whole_0 rfl ?_
  refine z_iload_n dX8_whole_1 rfl ?_
  refine z_iconst (v := nI 0) dX8_whole_2 (by decide) ?_
  refine z_bipush (v := nI 13) dX8_whole_3 (by decide) ?_
  refine z_cS3 dX8_whole_5 lk_X8_60 (by decide) (Nat.le_of_ble_eq_true rfl) (ev_X8_wi G (n := 13) (by decide)) ?_
  refine z_ifB_ne (tgt := 15) dX8_whole_8 (by decide) (fun c8 => (tf _ (c8) (hr)).elim) (fun c8 => ?_)
  refine z_iconst (v := nI 1) dX8_whole_11 (by decide) ?_
  refine z_goto (tgt := 16) dX8_whole_12 (by decide) ?_
  refine z_cV1w dX8_whole_16 lk_X8_52 (by decide) ⟨by decide, _, rfl⟩ rfl (Nat.le_of_ble_eq_true rfl) (ev_X8_refused G (w := 1) (by decide)) ?_
  refine z_ifB_eq (tgt := 24) dX8_whole_19 (by decide) (fun c19 => absurd c19 (by decide)) (fun c19 => ?_)
  refine z_iconst (v := nI 0) dX8_whole_22 (by decide) ?_
  exact z_ret (ty := none) (v := none) rfl dX8_whole_23 ⟨rfl, rfl⟩
set_option maxRecDepth 100000 in
theorem ev_X8_wholeTells_13 (G : Gt) {tn : Nat} {μ : Mm} (ht : μ.1 35 6 = nI tn) : EVr G 3 Y_X8_wholeTells [rf G 35, .int (nI 13)] μ (.int (nI tn)) := by
  refine ev_of (by decide) (Nat.le_of_ble_eq_true rfl) ?_
  show Zs G 3 Y_X8_wholeTells (fnN G _) 0 [(0, rf G 35), (1, .int (nI 13))] [] μ
  refine z_iload_n dX8_wholeTells_0 rfl ?_
  refine z_tswD (tgt := 173) dX8_wholeTells_1 (Or.inr (by decide)) (by decide) ?_
  refine z_aload_n dX8_wholeTells_173 rfl ?_
  refine z_getI dX8_wholeTells_174 fl_X8_149 ⟨by decide, _, rfl, rfl⟩ ht ?_
  exact z_ret (ty := none) (v := none) rfl dX8_wholeTells_177 ⟨rfl, rfl⟩
set_option maxRecDepth 100000 in
theorem ev_X8_whole_0 (G : Gt) {a b n : Nat} {E Q : Nat → Nat} {μ : Mm} (h : nwOK μ a b n E Q)  : EV G 4 Y_X8_whole [rf G 35, .int (nI 0)] μ (fun v u => v = some (.int (nI a)) ∧ mqF (uF μ 35 3 (nI 0)) u) := by
  have hab := h.ab
  have hn := h.le
  have hpw := p1024 hn
  have hpw1 := ppos n
  refine ev_of (by decide) (Nat.le_of_ble_eq_true rfl) ?_
  show Zs G 4 Y_X8_whole (fnN G _) 0 [(0, rf G 35), (1, .int (nI 0))] [] μ
  refine z_aload_n dX8_whole_0 rfl ?_
  refine z_iload_n dX8_whole_1 rfl ?_
  refine z_iconst (v := nI 0) dX8_whole_2 (by decide) ?_
  refine z_bipush (v := nI 13) dX8_whole_3 (by decide) ?_
  refine z_cS3 dX8_whole_5 lk_X8_60 (by decide) (Nat.le_of_ble_eq_true rfl) (ev_X8_wi G (n := 13) (by decide)) ?_
  refine z_ifB_ne (tgt := 15) dX8_whole_8 (by decide) (fun c8 => ?_) (fun c8 => (tf _ (inT (x := 0) (n := 14) (by decide) (by decide)) (c8)).elim)
  refine z_iconst (v := nI 0) dX8_whole_15 (by decide) ?_
  refine z_cV1w dX8_whole_16 lk_X8_52 (by decide) ⟨by decide, _, rfl⟩ rfl (Nat.le_of_ble_eq_true rfl) (ev_X8_refused G (w := 0) (by decide)) ?_
  refine z_ifB_eq (tgt := 24) dX8_whole_19 (by decide) (fun c19 => ?_) (fun c19 => absurd c19 (by decide))
  refine z_aload_n dX8_whole_24 rfl ?_
  refine z_iconst (v := -1) dX8_whole_25 (by decide) ?_
  refine z_cV1g dX8_whole_26 lk_X8_94 (by decide) ⟨by decide, _, rfl⟩ rfl (Nat.le_of_ble_eq_true rfl) (ev_X8_looks_0 G (h.u3 _)) ?_
  rintro v u ⟨rfl, hq, hl, hs⟩
  have h := (h.u3 (nI 0)).q hq
  have htl := fun S : Nat => tot_lt (a := a) (b := b) h.g.1 h.g.2.2.1 E S
  refine z_aload_n dX8_whole_29 rfl ?_
  refine z_iload_n dX8_whole_30 rfl ?_
  refine z_cV1 dX8_whole_31 lk_X8_152 (by decide) ⟨by decide, _, rfl⟩ rfl (Nat.le_of_ble_eq_true rfl) (ev_X8_wholeTells_0 G h hl hs) ?_
  exact z_ret (ty := none) (v := none) rfl dX8_whole_34 ⟨rfl, hq⟩
set_option maxRecDepth 100000 in
theorem ev_X8_whole_1 (G : Gt) {a b n : Nat} {E Q : Nat → Nat} {μ : Mm} (h : nwOK μ a b n E Q)  : EV G 4 Y_X8_whole [rf G 35, .int (nI 1)] μ (fun v u => v = some (.int (nI b)) ∧ mqF (uF μ 35 3 (nI 0)) u) := by
  have hab := h.ab
  have hn := h.le
  have hpw := p1024 hn
  have hpw1 := ppos n
  refine ev_of (by decide) (Nat.le_of_ble_eq_true rfl) ?_
  show Zs G 4 Y_X8_whole (fnN G _) 0 [(0, rf G 35), (1, .int (nI 1))] [] μ
  refine z_aload_n dX8_whole_0 rfl ?_
  refine z_iload_n dX8_whole_1 rfl ?_
  refine z_iconst (v := nI 0) dX8_whole_2 (by decide) ?_
  refine z_bipush (v := nI 13) dX8_whole_3 (by decide) ?_
  refine z_cS3 dX8_whole_5 lk_X8_60 (by decide) (Nat.le_of_ble_eq_true rfl) (ev_X8_wi G (n := 13) (by decide)) ?_
  refine z_ifB_ne (tgt := 15) dX8_whole_8 (by decide) (fun c8 => ?_) (fun c8 => (tf _ (inT (x := 1) (n := 14) (by decide) (by decide)) (c8)).elim)
  refine z_iconst (v := nI 0) dX8_whole_15 (by decide) ?_
  refine z_cV1w dX8_whole_16 lk_X8_52 (by decide) ⟨by decide, _, rfl⟩ rfl (Nat.le_of_ble_eq_true rfl) (ev_X8_refused G (w := 0) (by decide)) ?_
  refine z_ifB_eq (tgt := 24) dX8_whole_19 (by decide) (fun c19 => ?_) (fun c19 => absurd c19 (by decide))
  refine z_aload_n dX8_whole_24 rfl ?_
  refine z_iconst (v := -1) dX8_whole_25 (by decide) ?_
  refine z_cV1g dX8_whole_26 lk_X8_94 (by decide) ⟨by decide, _, rfl⟩ rfl (Nat.le_of_ble_eq_true rfl) (ev_X8_looks_0 G (h.u3 _)) ?_
  rintro v u ⟨rfl, hq, hl, hs⟩
  have h := (h.u3 (nI 0)).q hq
  have htl := fun S : Nat => tot_lt (a := a) (b := b) h.g.1 h.g.2.2.1 E S
  refine z_aload_n dX8_whole_29 rfl ?_
  refine z_iload_n dX8_whole_30 rfl ?_
  refine z_cV1 dX8_whole_31 lk_X8_152 (by decide) ⟨by decide, _, rfl⟩ rfl (Nat.le_of_ble_eq_true rfl) (ev_X8_wholeTells_1 G h hl hs) ?_
  exact z_ret (ty := none) (v := none) rfl dX8_whole_34 ⟨rfl, hq⟩
set_option maxRecDepth 100000 in
theorem ev_X8_whole_2 (G : Gt) {a b n : Nat} {E Q : Nat → Nat} {μ : Mm} (h : nwOK μ a b n E Q)  : EV G 4 Y_X8_whole [rf G 35, .int (nI 2)] μ (fun v u => v = some (.int (nI (a * b))) ∧ mqF (uF μ 35 3 (nI 0)) u) := by
  have hab := h.ab
  have hn := h.le
  have hpw := p1024 hn
  have hpw1 := ppos n
  refine ev_of (by decide) (Nat.le_of_ble_eq_true rfl) ?_
  show Zs G 4 Y_X8_whole (fnN G _) 0 [(0, rf G 35), (1, .int (nI 2))] [] μ
  refine z_aload_n dX8_whole_0 rfl ?_
  refine z_iload_n dX8_whole_1 rfl ?_
  refine z_iconst (v := nI 0) dX8_whole_2 (by decide) ?_
  refine z_bipush (v := nI 13) dX8_whole_3 (by decide) ?_
  refine z_cS3 dX8_whole_5 lk_X8_60 (by decide) (Nat.le_of_ble_eq_true rfl) (ev_X8_wi G (n := 13) (by decide)) ?_
  refine z_ifB_ne (tgt := 15) dX8_whole_8 (by decide) (fun c8 => ?_) (fun c8 => (tf _ (inT (x := 2) (n := 14) (by decide) (by decide)) (c8)).elim)
  refine z_iconst (v := nI 0) dX8_whole_15 (by decide) ?_
  refine z_cV1w dX8_whole_16 lk_X8_52 (by decide) ⟨by decide, _, rfl⟩ rfl (Nat.le_of_ble_eq_true rfl) (ev_X8_refused G (w := 0) (by decide)) ?_
  refine z_ifB_eq (tgt := 24) dX8_whole_19 (by decide) (fun c19 => ?_) (fun c19 => absurd c19 (by decide))
  refine z_aload_n dX8_whole_24 rfl ?_
  refine z_iconst (v := -1) dX8_whole_25 (by decide) ?_
  refine z_cV1g dX8_whole_26 lk_X8_94 (by decide) ⟨by decide, _, rfl⟩ rfl (Nat.le_of_ble_eq_true rfl) (ev_X8_looks_0 G (h.u3 _)) ?_
  rintro v u ⟨rfl, hq, hl, hs⟩
  have h := (h.u3 (nI 0)).q hq
  have htl := fun S : Nat => tot_lt (a := a) (b := b) h.g.1 h.g.2.2.1 E S
  refine z_aload_n dX8_whole_29 rfl ?_
  refine z_iload_n dX8_whole_30 rfl ?_
  refine z_cV1 dX8_whole_31 lk_X8_152 (by decide) ⟨by decide, _, rfl⟩ rfl (Nat.le_of_ble_eq_true rfl) (ev_X8_wholeTells_2 G h hl hs) ?_
  exact z_ret (ty := none) (v := none) rfl dX8_whole_34 ⟨rfl, hq⟩
set_option maxRecDepth 100000 in
theorem ev_X8_whole_3 (G : Gt) {a b n : Nat} {E Q : Nat → Nat} {μ : Mm} (h : nwOK μ a b n E Q)  : EV G 4 Y_X8_whole [rf G 35, .int (nI 3)] μ (fun v u => v = some (.int (nI (exN a b))) ∧ mqF (uF μ 35 3 (nI 0)) u) := by
  have hab := h.ab
  have hn := h.le
  have hpw := p1024 hn
  have hpw1 := ppos n
  refine ev_of (by decide) (Nat.le_of_ble_eq_true rfl) ?_
  show Zs G 4 Y_X8_whole (fnN G _) 0 [(0, rf G 35), (1, .int (nI 3))] [] μ
  refine z_aload_n dX8_whole_0 rfl ?_
  refine z_iload_n dX8_whole_1 rfl ?_
  refine z_iconst (v := nI 0) dX8_whole_2 (by decide) ?_
  refine z_bipush (v := nI 13) dX8_whole_3 (by decide) ?_
  refine z_cS3 dX8_whole_5 lk_X8_60 (by decide) (Nat.le_of_ble_eq_true rfl) (ev_X8_wi G (n := 13) (by decide)) ?_
  refine z_ifB_ne (tgt := 15) dX8_whole_8 (by decide) (fun c8 => ?_) (fun c8 => (tf _ (inT (x := 3) (n := 14) (by decide) (by decide)) (c8)).elim)
  refine z_iconst (v := nI 0) dX8_whole_15 (by decide) ?_
  refine z_cV1w dX8_whole_16 lk_X8_52 (by decide) ⟨by decide, _, rfl⟩ rfl (Nat.le_of_ble_eq_true rfl) (ev_X8_refused G (w := 0) (by decide)) ?_
  refine z_ifB_eq (tgt := 24) dX8_whole_19 (by decide) (fun c19 => ?_) (fun c19 => absurd c19 (by decide))
  refine z_aload_n dX8_whole_24 rfl ?_
  refine z_iconst (v := -1) dX8_whole_25 (by decide) ?_
  refine z_cV1g dX8_whole_26 lk_X8_94 (by decide) ⟨by decide, _, rfl⟩ rfl (Nat.le_of_ble_eq_true rfl) (ev_X8_looks_0 G (h.u3 _)) ?_
  rintro v u ⟨rfl, hq, hl, hs⟩
  have h := (h.u3 (nI 0)).q hq
  have htl := fun S : Nat => tot_lt (a := a) (b := b) h.g.1 h.g.2.2.1 E S
  refine z_aload_n dX8_whole_29 rfl ?_
  refine z_iload_n dX8_whole_30 rfl ?_
  refine z_cV1 dX8_whole_31 lk_X8_152 (by decide) ⟨by decide, _, rfl⟩ rfl (Nat.le_of_ble_eq_true rfl) (ev_X8_wholeTells_3 G h hl hs) ?_
  exact z_ret (ty := none) (v := none) rfl dX8_whole_34 ⟨rfl, hq⟩
set_option maxRecDepth 100000 in
theorem ev_X8_whole_4 (G : Gt) {a b n : Nat} {E Q : Nat → Nat} {μ : Mm} (h : nwOK μ a b n E Q)  : EV G 4 Y_X8_whole [rf G 35, .int (nI 4)] μ (fun v u => v = some (.int (nI n)) ∧ mqF (uF μ 35 3 (nI 0)) u) := by
  have hab := h.ab
  have hn := h.le
  have hpw := p1024 hn
  have hpw1 := ppos n
  refine ev_of (by decide) (Nat.le_of_ble_eq_true rfl) ?_
  show Zs G 4 Y_X8_whole (fnN G _) 0 [(0, rf G 35), (1, .int (nI 4))] [] μ
  refine z_aload_n dX8_whole_0 rfl ?_
  refine z_iload_n dX8_whole_1 rfl ?_
  refine z_iconst (v := nI 0) dX8_whole_2 (by decide) ?_
  refine z_bipush (v := nI 13) dX8_whole_3 (by decide) ?_
  refine z_cS3 dX8_whole_5 lk_X8_60 (by decide) (Nat.le_of_ble_eq_true rfl) (ev_X8_wi G (n := 13) (by decide)) ?_
  refine z_ifB_ne (tgt := 15) dX8_whole_8 (by decide) (fun c8 => ?_) (fun c8 => (tf _ (inT (x := 4) (n := 14) (by decide) (by decide)) (c8)).elim)
  refine z_iconst (v := nI 0) dX8_whole_15 (by decide) ?_
  refine z_cV1w dX8_whole_16 lk_X8_52 (by decide) ⟨by decide, _, rfl⟩ rfl (Nat.le_of_ble_eq_true rfl) (ev_X8_refused G (w := 0) (by decide)) ?_
  refine z_ifB_eq (tgt := 24) dX8_whole_19 (by decide) (fun c19 => ?_) (fun c19 => absurd c19 (by decide))
  refine z_aload_n dX8_whole_24 rfl ?_
  refine z_iconst (v := -1) dX8_whole_25 (by decide) ?_
  refine z_cV1g dX8_whole_26 lk_X8_94 (by decide) ⟨by decide, _, rfl⟩ rfl (Nat.le_of_ble_eq_true rfl) (ev_X8_looks_0 G (h.u3 _)) ?_
  rintro v u ⟨rfl, hq, hl, hs⟩
  have h := (h.u3 (nI 0)).q hq
  have htl := fun S : Nat => tot_lt (a := a) (b := b) h.g.1 h.g.2.2.1 E S
  refine z_aload_n dX8_whole_29 rfl ?_
  refine z_iload_n dX8_whole_30 rfl ?_
  refine z_cV1 dX8_whole_31 lk_X8_152 (by decide) ⟨by decide, _, rfl⟩ rfl (Nat.le_of_ble_eq_true rfl) (ev_X8_wholeTells_4 G h hl hs) ?_
  exact z_ret (ty := none) (v := none) rfl dX8_whole_34 ⟨rfl, hq⟩
set_option maxRecDepth 100000 in
theorem ev_X8_whole_5 (G : Gt) {a b n : Nat} {E Q : Nat → Nat} {μ : Mm} (h : nwOK μ a b n E Q)  : EV G 4 Y_X8_whole [rf G 35, .int (nI 5)] μ (fun v u => v = some (.int (nI (tot a b E (2 ^ n - 1)))) ∧ mqF (uF μ 35 3 (nI 0)) u) := by
  have hab := h.ab
  have hn := h.le
  have hpw := p1024 hn
  have hpw1 := ppos n
  refine ev_of (by decide) (Nat.le_of_ble_eq_true rfl) ?_
  show Zs G 4 Y_X8_whole (fnN G _) 0 [(0, rf G 35), (1, .int (nI 5))] [] μ
  refine z_aload_n dX8_whole_0 rfl ?_
  refine z_iload_n dX8_whole_1 rfl ?_
  refine z_iconst (v := nI 0) dX8_whole_2 (by decide) ?_
  refine z_bipush (v := nI 13) dX8_whole_3 (by decide) ?_
  refine z_cS3 dX8_whole_5 lk_X8_60 (by decide) (Nat.le_of_ble_eq_true rfl) (ev_X8_wi G (n := 13) (by decide)) ?_
  refine z_ifB_ne (tgt := 15) dX8_whole_8 (by decide) (fun c8 => ?_) (fun c8 => (tf _ (inT (x := 5) (n := 14) (by decide) (by decide)) (c8)).elim)
  refine z_iconst (v := nI 0) dX8_whole_15 (by decide) ?_
  refine z_cV1w dX8_whole_16 lk_X8_52 (by decide) ⟨by decide, _, rfl⟩ rfl (Nat.le_of_ble_eq_true rfl) (ev_X8_refused G (w := 0) (by decide)) ?_
  refine z_ifB_eq (tgt := 24) dX8_whole_19 (by decide) (fun c19 => ?_) (fun c19 => absurd c19 (by decide))
  refine z_aload_n dX8_whole_24 rfl ?_
  refine z_iconst (v := -1) dX8_whole_25 (by decide) ?_
  refine z_cV1g dX8_whole_26 lk_X8_94 (by decide) ⟨by decide, _, rfl⟩ rfl (Nat.le_of_ble_eq_true rfl) (ev_X8_looks_0 G (h.u3 _)) ?_
  rintro v u ⟨rfl, hq, hl, hs⟩
  have h := (h.u3 (nI 0)).q hq
  have htl := fun S : Nat => tot_lt (a := a) (b := b) h.g.1 h.g.2.2.1 E S
  refine z_aload_n dX8_whole_29 rfl ?_
  refine z_iload_n dX8_whole_30 rfl ?_
  refine z_cV1 dX8_whole_31 lk_X8_152 (by decide) ⟨by decide, _, rfl⟩ rfl (Nat.le_of_ble_eq_true rfl) (ev_X8_wholeTells_5 G h hl hs) ?_
  exact z_ret (ty := none) (v := none) rfl dX8_whole_34 ⟨rfl, hq⟩
set_option maxRecDepth 100000 in
theorem ev_X8_whole_6 (G : Gt) {a b n : Nat} {E Q : Nat → Nat} {μ : Mm} (h : nwOK μ a b n E Q)  : EV G 4 Y_X8_whole [rf G 35, .int (nI 6)] μ (fun v u => v = some (.int (bI (!hld a b E (2 ^ n - 1)))) ∧ mqF (uF μ 35 3 (nI 0)) u) := by
  have hab := h.ab
  have hn := h.le
  have hpw := p1024 hn
  have hpw1 := ppos n
  refine ev_of (by decide) (Nat.le_of_ble_eq_true rfl) ?_
  show Zs G 4 Y_X8_whole (fnN G _) 0 [(0, rf G 35), (1, .int (nI 6))] [] μ
  refine z_aload_n dX8_whole_0 rfl ?_
  refine z_iload_n dX8_whole_1 rfl ?_
  refine z_iconst (v := nI 0) dX8_whole_2 (by decide) ?_
  refine z_bipush (v := nI 13) dX8_whole_3 (by decide) ?_
  refine z_cS3 dX8_whole_5 lk_X8_60 (by decide) (Nat.le_of_ble_eq_true rfl) (ev_X8_wi G (n := 13) (by decide)) ?_
  refine z_ifB_ne (tgt := 15) dX8_whole_8 (by decide) (fun c8 => ?_) (fun c8 => (tf _ (inT (x := 6) (n := 14) (by decide) (by decide)) (c8)).elim)
  refine z_iconst (v := nI 0) dX8_whole_15 (by decide) ?_
  refine z_cV1w dX8_whole_16 lk_X8_52 (by decide) ⟨by decide, _, rfl⟩ rfl (Nat.le_of_ble_eq_true rfl) (ev_X8_refused G (w := 0) (by decide)) ?_
  refine z_ifB_eq (tgt := 24) dX8_whole_19 (by decide) (fun c19 => ?_) (fun c19 => absurd c19 (by decide))
  refine z_aload_n dX8_whole_24 rfl ?_
  refine z_iconst (v := -1) dX8_whole_25 (by decide) ?_
  refine z_cV1g dX8_whole_26 lk_X8_94 (by decide) ⟨by decide, _, rfl⟩ rfl (Nat.le_of_ble_eq_true rfl) (ev_X8_looks_0 G (h.u3 _)) ?_
  rintro v u ⟨rfl, hq, hl, hs⟩
  have h := (h.u3 (nI 0)).q hq
  have htl := fun S : Nat => tot_lt (a := a) (b := b) h.g.1 h.g.2.2.1 E S
  refine z_aload_n dX8_whole_29 rfl ?_
  refine z_iload_n dX8_whole_30 rfl ?_
  refine z_cV1 dX8_whole_31 lk_X8_152 (by decide) ⟨by decide, _, rfl⟩ rfl (Nat.le_of_ble_eq_true rfl) (ev_X8_wholeTells_6 G h hl hs) ?_
  exact z_ret (ty := none) (v := none) rfl dX8_whole_34 ⟨rfl, hq⟩
set_option maxRecDepth 100000 in
theorem ev_X8_whole_7 (G : Gt) {a b n : Nat} {E Q : Nat → Nat} {μ : Mm} (h : nwOK μ a b n E Q)  : EV G 4 Y_X8_whole [rf G 35, .int (nI 7)] μ (fun v u => v = some (.int (nI (cntN (fun B => blk a b E B && sb B (2 ^ n - 1)) (2 ^ n - 1 + 1)))) ∧ mqF (uF μ 35 3 (nI 0)) u) := by
  have hab := h.ab
  have hn := h.le
  have hpw := p1024 hn
  have hpw1 := ppos n
  refine ev_of (by decide) (Nat.le_of_ble_eq_true rfl) ?_
  show Zs G 4 Y_X8_whole (fnN G _) 0 [(0, rf G 35), (1, .int (nI 7))] [] μ
  refine z_aload_n dX8_whole_0 rfl ?_
  refine z_iload_n dX8_whole_1 rfl ?_
  refine z_iconst (v := nI 0) dX8_whole_2 (by decide) ?_
  refine z_bipush (v := nI 13) dX8_whole_3 (by decide) ?_
  refine z_cS3 dX8_whole_5 lk_X8_60 (by decide) (Nat.le_of_ble_eq_true rfl) (ev_X8_wi G (n := 13) (by decide)) ?_
  refine z_ifB_ne (tgt := 15) dX8_whole_8 (by decide) (fun c8 => ?_) (fun c8 => (tf _ (inT (x := 7) (n := 14) (by decide) (by decide)) (c8)).elim)
  refine z_iconst (v := nI 0) dX8_whole_15 (by decide) ?_
  refine z_cV1w dX8_whole_16 lk_X8_52 (by decide) ⟨by decide, _, rfl⟩ rfl (Nat.le_of_ble_eq_true rfl) (ev_X8_refused G (w := 0) (by decide)) ?_
  refine z_ifB_eq (tgt := 24) dX8_whole_19 (by decide) (fun c19 => ?_) (fun c19 => absurd c19 (by decide))
  refine z_aload_n dX8_whole_24 rfl ?_
  refine z_iconst (v := -1) dX8_whole_25 (by decide) ?_
  refine z_cV1g dX8_whole_26 lk_X8_94 (by decide) ⟨by decide, _, rfl⟩ rfl (Nat.le_of_ble_eq_true rfl) (ev_X8_looks_0 G (h.u3 _)) ?_
  rintro v u ⟨rfl, hq, hl, hs⟩
  have h := (h.u3 (nI 0)).q hq
  have htl := fun S : Nat => tot_lt (a := a) (b := b) h.g.1 h.g.2.2.1 E S
  refine z_aload_n dX8_whole_29 rfl ?_
  refine z_iload_n dX8_whole_30 rfl ?_
  refine z_cV1 dX8_whole_31 lk_X8_152 (by decide) ⟨by decide, _, rfl⟩ rfl (Nat.le_of_ble_eq_true rfl) (ev_X8_wholeTells_7 G h hl hs) ?_
  exact z_ret (ty := none) (v := none) rfl dX8_whole_34 ⟨rfl, hq⟩
set_option maxRecDepth 100000 in
theorem ev_X8_whole_8 (G : Gt) {a b n : Nat} {E Q : Nat → Nat} {μ : Mm} (h : nwOK μ a b n E Q)  : EV G 4 Y_X8_whole [rf G 35, .int (nI 8)] μ (fun v u => v = some (.int (nI (bsW a b E false (2 ^ n)))) ∧ mqF (uF μ 35 3 (nI 0)) u) := by
  have hab := h.ab
  have hn := h.le
  have hpw := p1024 hn
  have hpw1 := ppos n
  refine ev_of (by decide) (Nat.le_of_ble_eq_true rfl) ?_
  show Zs G 4 Y_X8_whole (fnN G _) 0 [(0, rf G 35), (1, .int (nI 8))] [] μ
  refine z_aload_n dX8_whole_0 rfl ?_
  refine z_iload_n dX8_whole_1 rfl ?_
  refine z_iconst (v := nI 0) dX8_whole_2 (by decide) ?_
  refine z_bipush (v := nI 13) dX8_whole_3 (by decide) ?_
  refine z_cS3 dX8_whole_5 lk_X8_60 (by decide) (Nat.le_of_ble_eq_true rfl) (ev_X8_wi G (n := 13) (by decide)) ?_
  refine z_ifB_ne (tgt := 15) dX8_whole_8 (by decide) (fun c8 => ?_) (fun c8 => (tf _ (inT (x := 8) (n := 14) (by decide) (by decide)) (c8)).elim)
  refine z_iconst (v := nI 0) dX8_whole_15 (by decide) ?_
  refine z_cV1w dX8_whole_16 lk_X8_52 (by decide) ⟨by decide, _, rfl⟩ rfl (Nat.le_of_ble_eq_true rfl) (ev_X8_refused G (w := 0) (by decide)) ?_
  refine z_ifB_eq (tgt := 24) dX8_whole_19 (by decide) (fun c19 => ?_) (fun c19 => absurd c19 (by decide))
  refine z_aload_n dX8_whole_24 rfl ?_
  refine z_iconst (v := -1) dX8_whole_25 (by decide) ?_
  refine z_cV1g dX8_whole_26 lk_X8_94 (by decide) ⟨by decide, _, rfl⟩ rfl (Nat.le_of_ble_eq_true rfl) (ev_X8_looks_0 G (h.u3 _)) ?_
  rintro v u ⟨rfl, hq, hl, hs⟩
  have h := (h.u3 (nI 0)).q hq
  have htl := fun S : Nat => tot_lt (a := a) (b := b) h.g.1 h.g.2.2.1 E S
  refine z_aload_n dX8_whole_29 rfl ?_
  refine z_iload_n dX8_whole_30 rfl ?_
  refine z_cV1 dX8_whole_31 lk_X8_152 (by decide) ⟨by decide, _, rfl⟩ rfl (Nat.le_of_ble_eq_true rfl) (ev_X8_wholeTells_8 G h hl hs) ?_
  exact z_ret (ty := none) (v := none) rfl dX8_whole_34 ⟨rfl, hq⟩
set_option maxRecDepth 100000 in
theorem ev_X8_whole_9 (G : Gt) {a b n : Nat} {E Q : Nat → Nat} {μ : Mm} (h : nwOK μ a b n E Q)  : EV G 4 Y_X8_whole [rf G 35, .int (nI 9)] μ (fun v u => v = some (.int (nI (bsW a b E true (2 ^ n)))) ∧ mqF (uF μ 35 3 (nI 0)) u) := by
  have hab := h.ab
  have hn := h.le
  have hpw := p1024 hn
  have hpw1 := ppos n
  refine ev_of (by decide) (Nat.le_of_ble_eq_true rfl) ?_
  show Zs G 4 Y_X8_whole (fnN G _) 0 [(0, rf G 35), (1, .int (nI 9))] [] μ
  refine z_aload_n dX8_whole_0 rfl ?_
  refine z_iload_n dX8_whole_1 rfl ?_
  refine z_iconst (v := nI 0) dX8_whole_2 (by decide) ?_
  refine z_bipush (v := nI 13) dX8_whole_3 (by decide) ?_
  refine z_cS3 dX8_whole_5 lk_X8_60 (by decide) (Nat.le_of_ble_eq_true rfl) (ev_X8_wi G (n := 13) (by decide)) ?_
  refine z_ifB_ne (tgt := 15) dX8_whole_8 (by decide) (fun c8 => ?_) (fun c8 => (tf _ (inT (x := 9) (n := 14) (by decide) (by decide)) (c8)).elim)
  refine z_iconst (v := nI 0) dX8_whole_15 (by decide) ?_
  refine z_cV1w dX8_whole_16 lk_X8_52 (by decide) ⟨by decide, _, rfl⟩ rfl (Nat.le_of_ble_eq_true rfl) (ev_X8_refused G (w := 0) (by decide)) ?_
  refine z_ifB_eq (tgt := 24) dX8_whole_19 (by decide) (fun c19 => ?_) (fun c19 => absurd c19 (by decide))
  refine z_aload_n dX8_whole_24 rfl ?_
  refine z_iconst (v := -1) dX8_whole_25 (by decide) ?_
  refine z_cV1g dX8_whole_26 lk_X8_94 (by decide) ⟨by decide, _, rfl⟩ rfl (Nat.le_of_ble_eq_true rfl) (ev_X8_looks_0 G (h.u3 _)) ?_
  rintro v u ⟨rfl, hq, hl, hs⟩
  have h := (h.u3 (nI 0)).q hq
  have htl := fun S : Nat => tot_lt (a := a) (b := b) h.g.1 h.g.2.2.1 E S
  refine z_aload_n dX8_whole_29 rfl ?_
  refine z_iload_n dX8_whole_30 rfl ?_
  refine z_cV1 dX8_whole_31 lk_X8_152 (by decide) ⟨by decide, _, rfl⟩ rfl (Nat.le_of_ble_eq_true rfl) (ev_X8_wholeTells_9 G h hl hs) ?_
  exact z_ret (ty := none) (v := none) rfl dX8_whole_34 ⟨rfl, hq⟩
set_option maxRecDepth 100000 in
theorem ev_X8_whole_10 (G : Gt) {a b n : Nat} {E Q : Nat → Nat} {μ : Mm} (h : nwOK μ a b n E Q)  : EV G 4 Y_X8_whole [rf G 35, .int (nI 10)] μ (fun v u => v = some (.int (nI (cntN (fun p => decide (poN Q p n ≠ 0) && (!false || blk a b E (poN Q p n))) 6))) ∧ mqF (uF μ 35 3 (nI 0)) u) := by
  have hab := h.ab
  have hn := h.le
  have hpw := p1024 hn
  have hpw1 := ppos n
  refine ev_of (by decide) (Nat.le_of_ble_eq_true rfl) ?_
  show Zs G 4 Y_X8_whole (fnN G _) 0 [(0, rf G 35), (1, .int (nI 10))] [] μ
  refine z_aload_n dX8_whole_0 rfl ?_
  refine z_iload_n dX8_whole_1 rfl ?_
  refine z_iconst (v := nI 0) dX8_whole_2 (by decide) ?_
  refine z_bipush (v := nI 13) dX8_whole_3 (by decide) ?_
  refine z_cS3 dX8_whole_5 lk_X8_60 (by decide) (Nat.le_of_ble_eq_true rfl) (ev_X8_wi G (n := 13) (by decide)) ?_
  refine z_ifB_ne (tgt := 15) dX8_whole_8 (by decide) (fun c8 => ?_) (fun c8 => (tf _ (inT (x := 10) (n := 14) (by decide) (by decide)) (c8)).elim)
  refine z_iconst (v := nI 0) dX8_whole_15 (by decide) ?_
  refine z_cV1w dX8_whole_16 lk_X8_52 (by decide) ⟨by decide, _, rfl⟩ rfl (Nat.le_of_ble_eq_true rfl) (ev_X8_refused G (w := 0) (by decide)) ?_
  refine z_ifB_eq (tgt := 24) dX8_whole_19 (by decide) (fun c19 => ?_) (fun c19 => absurd c19 (by decide))
  refine z_aload_n dX8_whole_24 rfl ?_
  refine z_iconst (v := -1) dX8_whole_25 (by decide) ?_
  refine z_cV1g dX8_whole_26 lk_X8_94 (by decide) ⟨by decide, _, rfl⟩ rfl (Nat.le_of_ble_eq_true rfl) (ev_X8_looks_0 G (h.u3 _)) ?_
  rintro v u ⟨rfl, hq, hl, hs⟩
  have h := (h.u3 (nI 0)).q hq
  have htl := fun S : Nat => tot_lt (a := a) (b := b) h.g.1 h.g.2.2.1 E S
  refine z_aload_n dX8_whole_29 rfl ?_
  refine z_iload_n dX8_whole_30 rfl ?_
  refine z_cV1 dX8_whole_31 lk_X8_152 (by decide) ⟨by decide, _, rfl⟩ rfl (Nat.le_of_ble_eq_true rfl) (ev_X8_wholeTells_10 G h hl hs) ?_
  exact z_ret (ty := none) (v := none) rfl dX8_whole_34 ⟨rfl, hq⟩
set_option maxRecDepth 100000 in
theorem ev_X8_whole_11 (G : Gt) {a b n : Nat} {E Q : Nat → Nat} {μ : Mm} (h : nwOK μ a b n E Q)  : EV G 4 Y_X8_whole [rf G 35, .int (nI 11)] μ (fun v u => v = some (.int (nI (cntN (fun p => decide (poN Q p n ≠ 0) && (!true || blk a b E (poN Q p n))) 6))) ∧ mqF (uF μ 35 3 (nI 0)) u) := by
  have hab := h.ab
  have hn := h.le
  have hpw := p1024 hn
  have hpw1 := ppos n
  refine ev_of (by decide) (Nat.le_of_ble_eq_true rfl) ?_
  show Zs G 4 Y_X8_whole (fnN G _) 0 [(0, rf G 35), (1, .int (nI 11))] [] μ
  refine z_aload_n dX8_whole_0 rfl ?_
  refine z_iload_n dX8_whole_1 rfl ?_
  refine z_iconst (v := nI 0) dX8_whole_2 (by decide) ?_
  refine z_bipush (v := nI 13) dX8_whole_3 (by decide) ?_
  refine z_cS3 dX8_whole_5 lk_X8_60 (by decide) (Nat.le_of_ble_eq_true rfl) (ev_X8_wi G (n := 13) (by decide)) ?_
  refine z_ifB_ne (tgt := 15) dX8_whole_8 (by decide) (fun c8 => ?_) (fun c8 => (tf _ (inT (x := 11) (n := 14) (by decide) (by decide)) (c8)).elim)
  refine z_iconst (v := nI 0) dX8_whole_15 (by decide) ?_
  refine z_cV1w dX8_whole_16 lk_X8_52 (by decide) ⟨by decide, _, rfl⟩ rfl (Nat.le_of_ble_eq_true rfl) (ev_X8_refused G (w := 0) (by decide)) ?_
  refine z_ifB_eq (tgt := 24) dX8_whole_19 (by decide) (fun c19 => ?_) (fun c19 => absurd c19 (by decide))
  refine z_aload_n dX8_whole_24 rfl ?_
  refine z_iconst (v := -1) dX8_whole_25 (by decide) ?_
  refine z_cV1g dX8_whole_26 lk_X8_94 (by decide) ⟨by decide, _, rfl⟩ rfl (Nat.le_of_ble_eq_true rfl) (ev_X8_looks_0 G (h.u3 _)) ?_
  rintro v u ⟨rfl, hq, hl, hs⟩
  have h := (h.u3 (nI 0)).q hq
  have htl := fun S : Nat => tot_lt (a := a) (b := b) h.g.1 h.g.2.2.1 E S
  refine z_aload_n dX8_whole_29 rfl ?_
  refine z_iload_n dX8_whole_30 rfl ?_
  refine z_cV1 dX8_whole_31 lk_X8_152 (by decide) ⟨by decide, _, rfl⟩ rfl (Nat.le_of_ble_eq_true rfl) (ev_X8_wholeTells_11 G h hl hs) ?_
  exact z_ret (ty := none) (v := none) rfl dX8_whole_34 ⟨rfl, hq⟩
set_option maxRecDepth 100000 in
theorem ev_X8_whole_12 (G : Gt) {a b n : Nat} {E Q : Nat → Nat} {μ : Mm} (h : nwOK μ a b n E Q)  : EV G 4 Y_X8_whole [rf G 35, .int (nI 12)] μ (fun v u => v = some (.int (nI (cntN (ssN a b E (2 ^ n)).testBit (a * b)))) ∧ mqF (uF μ 35 3 (nI 0)) u) := by
  have hab := h.ab
  have hn := h.le
  have hpw := p1024 hn
  have hpw1 := ppos n
  refine ev_of (by decide) (Nat.le_of_ble_eq_true rfl) ?_
  show Zs G 4 Y_X8_whole (fnN G _) 0 [(0, rf G 35), (1, .int (nI 12))] [] μ
  refine z_aload_n dX8_whole_0 rfl ?_
  refine z_iload_n dX8_whole_1 rfl ?_
  refine z_iconst (v := nI 0) dX8_whole_2 (by decide) ?_
  refine z_bipush (v := nI 13) dX8_whole_3 (by decide) ?_
  refine z_cS3 dX8_whole_5 lk_X8_60 (by decide) (Nat.le_of_ble_eq_true rfl) (ev_X8_wi G (n := 13) (by decide)) ?_
  refine z_ifB_ne (tgt := 15) dX8_whole_8 (by decide) (fun c8 => ?_) (fun c8 => (tf _ (inT (x := 12) (n := 14) (by decide) (by decide)) (c8)).elim)
  refine z_iconst (v := nI 0) dX8_whole_15 (by decide) ?_
  refine z_cV1w dX8_whole_16 lk_X8_52 (by decide) ⟨by decide, _, rfl⟩ rfl (Nat.le_of_ble_eq_true rfl) (ev_X8_refused G (w := 0) (by decide)) ?_
  refine z_ifB_eq (tgt := 24) dX8_whole_19 (by decide) (fun c19 => ?_) (fun c19 => absurd c19 (by decide))
  refine z_aload_n dX8_whole_24 rfl ?_
  refine z_iconst (v := -1) dX8_whole_25 (by decide) ?_
  refine z_cV1g dX8_whole_26 lk_X8_94 (by decide) ⟨by decide, _, rfl⟩ rfl (Nat.le_of_ble_eq_true rfl) (ev_X8_looks_0 G (h.u3 _)) ?_
  rintro v u ⟨rfl, hq, hl, hs⟩
  have h := (h.u3 (nI 0)).q hq
  have htl := fun S : Nat => tot_lt (a := a) (b := b) h.g.1 h.g.2.2.1 E S
  refine z_aload_n dX8_whole_29 rfl ?_
  refine z_iload_n dX8_whole_30 rfl ?_
  refine z_cV1 dX8_whole_31 lk_X8_152 (by decide) ⟨by decide, _, rfl⟩ rfl (Nat.le_of_ble_eq_true rfl) (ev_X8_wholeTells_12 G h hl hs) ?_
  exact z_ret (ty := none) (v := none) rfl dX8_whole_34 ⟨rfl, hq⟩
set_option maxRecDepth 100000 in
theorem ev_X8_whole_13 (G : Gt) {a b n : Nat} {E Q : Nat → Nat} {μ : Mm} (h : nwOK μ a b n E Q) {tn : Nat} (ht : μ.1 35 6 = nI tn) : EV G 4 Y_X8_whole [rf G 35, .int (nI 13)] μ (fun v u => v = some (.int (nI tn)) ∧ mqF (uF μ 35 3 (nI 0)) u) := by
  have hab := h.ab
  have hn := h.le
  have hpw := p1024 hn
  have hpw1 := ppos n
  refine ev_of (by decide) (Nat.le_of_ble_eq_true rfl) ?_
  show Zs G 4 Y_X8_whole (fnN G _) 0 [(0, rf G 35), (1, .int (nI 13))] [] μ
  refine z_aload_n dX8_whole_0 rfl ?_
  refine z_iload_n dX8_whole_1 rfl ?_
  refine z_iconst (v := nI 0) dX8_whole_2 (by decide) ?_
  refine z_bipush (v := nI 13) dX8_whole_3 (by decide) ?_
  refine z_cS3 dX8_whole_5 lk_X8_60 (by decide) (Nat.le_of_ble_eq_true rfl) (ev_X8_wi G (n := 13) (by decide)) ?_
  refine z_ifB_ne (tgt := 15) dX8_whole_8 (by decide) (fun c8 => ?_) (fun c8 => (tf _ (inT (x := 13) (n := 14) (by decide) (by decide)) (c8)).elim)
  refine z_iconst (v := nI 0) dX8_whole_15 (by decide) ?_
  refine z_cV1w dX8_whole_16 lk_X8_52 (by decide) ⟨by decide, _, rfl⟩ rfl (Nat.le_of_ble_eq_true rfl) (ev_X8_refused G (w := 0) (by decide)) ?_
  refine z_ifB_eq (tgt := 24) dX8_whole_19 (by decide) (fun c19 => ?_) (fun c19 => absurd c19 (by decide))
  refine z_aload_n dX8_whole_24 rfl ?_
  refine z_iconst (v := -1) dX8_whole_25 (by decide) ?_
  refine z_cV1g dX8_whole_26 lk_X8_94 (by decide) ⟨by decide, _, rfl⟩ rfl (Nat.le_of_ble_eq_true rfl) (ev_X8_looks_0 G (h.u3 _)) ?_
  rintro v u ⟨rfl, hq, hl, hs⟩
  have h := (h.u3 (nI 0)).q hq
  have htl := fun S : Nat => tot_lt (a := a) (b := b) h.g.1 h.g.2.2.1 E S
  refine z_aload_n dX8_whole_29 rfl ?_
  refine z_iload_n dX8_whole_30 rfl ?_
  refine z_cV1 dX8_whole_31 lk_X8_152 (by decide) ⟨by decide, _, rfl⟩ rfl (Nat.le_of_ble_eq_true rfl) (ev_X8_wholeTells_13 G (tn := tn) ((hq.1 35 6 (by omega)).trans ht)) ?_
  exact z_ret (ty := none) (v := none) rfl dX8_whole_34 ⟨rfl, hq⟩
set_option maxRecDepth 100000 in
theorem ev_X8_set_r1 (G : Gt) {a b n : Nat} {E Q : Nat → Nat} {μ : Mm} (h : nwOK μ a b n E Q) {x y : Int32} (hr : inR x (2 ^ n) = false) : EVw G 4 Y_X8_set [rf G 35, .int x, .int y] μ (.int (nI 0)) (uF μ 35 3 (nI 1)) := by
  have hab := h.ab
  have hn := h.le
  have hpw := p1024 hn
  have hpw1 := ppos n
  refine ev_of (by decide) (Nat.le_of_ble_eq_true rfl) ?_
  show Zs G 4 Y_X8_set (fnN G _) 0 [(0, rf G 35), (1, .int x), (2, .int y)] [] μ
  refine z_aload_n dX8_set_0 rfl ?_
  refine z_aload_n dX8_set_1 rfl ?_
  refine z_iload_n dX8_set_2 rfl ?_
  refine z_cV1 dX8_set_3 lk_X8_113 (by decide) ⟨by decide, _, rfl⟩ rfl (Nat.le_of_ble_eq_true rfl) (ev_X8_isSet G h) ?_
  refine z_ifB_eq (tgt := 18) dX8_set_6 (by decide) (fun c6 => ?_) (fun c6 => (tf _ (c6) (hr)).elim)
  refine z_iconst (v := nI 1) dX8_set_18 (by decide) ?_
  refine z_goto (tgt := 23) dX8_set_19 (by decide) ?_
  refine z_cV1w dX8_set_23 lk_X8_52 (by decide) ⟨by decide, _, rfl⟩ rfl (Nat.le_of_ble_eq_true rfl) (ev_X8_refused G (w := 1) (by decide)) ?_
  refine z_ifB_eq (tgt := 31) dX8_set_26 (by decide) (fun c26 => absurd c26 (by decide)) (fun c26 => ?_)
  refine z_iconst (v := nI 0) dX8_set_29 (by decide) ?_
  exact z_ret (ty := none) (v := none) rfl dX8_set_30 ⟨rfl, rfl⟩
set_option maxRecDepth 100000 in
theorem ev_X8_set_r2 (G : Gt) {a b n : Nat} {E Q : Nat → Nat} {μ : Mm} (h : nwOK μ a b n E Q) {x y : Int32} (hx : inR x (2 ^ n) = true) (hr : inR y 6 = false) : EVw G 4 Y_X8_set [rf G 35, .int x, .int y] μ (.int (nI 0)) (uF μ 35 3 (nI 1)) := by
  have hab := h.ab
  have hn := h.le
  have hpw := p1024 hn
  have hpw1 := ppos n
  refine ev_of (by decide) (Nat.le_of_ble_eq_true rfl) ?_
  show Zs G 4 Y_X8_set (fnN G _) 0 [(0, rf G 35), (1, .int x), (2, .int y)] [] μ
  refine z_aload_n dX8_set_0 rfl ?_
  refine z_aload_n dX8_set_1 rfl ?_
  refine z_iload_n dX8_set_2 rfl ?_
  refine z_cV1 dX8_set_3 lk_X8_113 (by decide) ⟨by decide, _, rfl⟩ rfl (Nat.le_of_ble_eq_true rfl) (ev_X8_isSet G h) ?_
  refine z_ifB_eq (tgt := 18) dX8_set_6 (by decide) (fun c6 => (tf _ (hx) (c6)).elim) (fun c6 => ?_)
  refine z_iload_n dX8_set_9 rfl ?_
  refine z_iconst (v := nI 0) dX8_set_10 (by decide) ?_
  refine z_iconst (v := nI 5) dX8_set_11 (by decide) ?_
  refine z_cS3 dX8_set_12 lk_X8_60 (by decide) (Nat.le_of_ble_eq_true rfl) (ev_X8_wi G (n := 5) (by decide)) ?_
  refine z_ifB_ne (tgt := 22) dX8_set_15 (by decide) (fun c15 => (tf _ (c15) (hr)).elim) (fun c15 => ?_)
  refine z_iconst (v := nI 1) dX8_set_18 (by decide) ?_
  refine z_goto (tgt := 23) dX8_set_19 (by decide) ?_
  refine z_cV1w dX8_set_23 lk_X8_52 (by decide) ⟨by decide, _, rfl⟩ rfl (Nat.le_of_ble_eq_true rfl) (ev_X8_refused G (w := 1) (by decide)) ?_
  refine z_ifB_eq (tgt := 31) dX8_set_26 (by decide) (fun c26 => absurd c26 (by decide)) (fun c26 => ?_)
  refine z_iconst (v := nI 0) dX8_set_29 (by decide) ?_
  exact z_ret (ty := none) (v := none) rfl dX8_set_30 ⟨rfl, rfl⟩
set_option maxRecDepth 100000 in
theorem ev_X8_set_0 (G : Gt) {a b n : Nat} {E Q : Nat → Nat} {μ : Mm} (h : nwOK μ a b n E Q) {S : Nat} (hS : S < 2 ^ n) : EV G 4 Y_X8_set [rf G 35, .int (nI S), .int (nI 0)] μ (fun v u => v = some (.int (nI (pcN S))) ∧ mqF (uF μ 35 3 (nI 0)) u) := by
  have hab := h.ab
  have hn := h.le
  have hpw := p1024 hn
  have hpw1 := ppos n
  refine ev_of (by decide) (Nat.le_of_ble_eq_true rfl) ?_
  show Zs G 4 Y_X8_set (fnN G _) 0 [(0, rf G 35), (1, .int (nI S)), (2, .int (nI 0))] [] μ
  refine z_aload_n dX8_set_0 rfl ?_
  refine z_aload_n dX8_set_1 rfl ?_
  refine z_iload_n dX8_set_2 rfl ?_
  refine z_cV1 dX8_set_3 lk_X8_113 (by decide) ⟨by decide, _, rfl⟩ rfl (Nat.le_of_ble_eq_true rfl) (ev_X8_isSet G h) ?_
  refine z_ifB_eq (tgt := 18) dX8_set_6 (by decide) (fun c6 => (tf _ (inT hS (by omega)) (c6)).elim) (fun c6 => ?_)
  refine z_iload_n dX8_set_9 rfl ?_
  refine z_iconst (v := nI 0) dX8_set_10 (by decide) ?_
  refine z_iconst (v := nI 5) dX8_set_11 (by decide) ?_
  refine z_cS3 dX8_set_12 lk_X8_60 (by decide) (Nat.le_of_ble_eq_true rfl) (ev_X8_wi G (n := 5) (by decide)) ?_
  refine z_ifB_ne (tgt := 22) dX8_set_15 (by decide) (fun c15 => ?_) (fun c15 => (tf _ (inT (x := 0) (n := 6) (by decide) (by decide)) (c15)).elim)
  refine z_iconst (v := nI 0) dX8_set_22 (by decide) ?_
  refine z_cV1w dX8_set_23 lk_X8_52 (by decide) ⟨by decide, _, rfl⟩ rfl (Nat.le_of_ble_eq_true rfl) (ev_X8_refused G (w := 0) (by decide)) ?_
  refine z_ifB_eq (tgt := 31) dX8_set_26 (by decide) (fun c26 => ?_) (fun c26 => absurd c26 (by decide))
  refine z_aload_n dX8_set_31 rfl ?_
  refine z_iconst (v := -1) dX8_set_32 (by decide) ?_
  refine z_cV1g dX8_set_33 lk_X8_94 (by decide) ⟨by decide, _, rfl⟩ rfl (Nat.le_of_ble_eq_true rfl) (ev_X8_looks_0 G (h.u3 _)) ?_
  rintro v u ⟨rfl, hq, hl, hs⟩
  have h := (h.u3 (nI 0)).q hq
  have htl := fun S : Nat => tot_lt (a := a) (b := b) h.g.1 h.g.2.2.1 E S
  refine z_aload_n dX8_set_36 rfl ?_
  refine z_cV0g dX8_set_37 lk_X8_98 (by decide) ⟨by decide, _, rfl⟩ rfl (Nat.le_of_ble_eq_true rfl) (ev_X8_splitsAll G hab htl h.le hl hs) ?_
  rintro v u2 ⟨rfl, hq2, hl, hs, hp⟩
  have h := h.q hq2
  have hq := hq.trans hq2
  refine z_aload_n dX8_set_40 rfl ?_
  refine z_iload_n dX8_set_41 rfl ?_
  refine z_iload_n dX8_set_42 rfl ?_
  refine z_cV2 dX8_set_43 lk_X8_116 (by decide) ⟨by decide, _, rfl⟩ rfl (Nat.le_of_ble_eq_true rfl) (ev_X8_setTells_0 G h hl hs hS) ?_
  exact z_ret (ty := none) (v := none) rfl dX8_set_46 ⟨rfl, hq⟩
set_option maxRecDepth 100000 in
theorem ev_X8_set_1 (G : Gt) {a b n : Nat} {E Q : Nat → Nat} {μ : Mm} (h : nwOK μ a b n E Q) {S : Nat} (hS : S < 2 ^ n) : EV G 4 Y_X8_set [rf G 35, .int (nI S), .int (nI 1)] μ (fun v u => v = some (.int (nI (tot a b E S))) ∧ mqF (uF μ 35 3 (nI 0)) u) := by
  have hab := h.ab
  have hn := h.le
  have hpw := p1024 hn
  have hpw1 := ppos n
  refine ev_of (by decide) (Nat.le_of_ble_eq_true rfl) ?_
  show Zs G 4 Y_X8_set (fnN G _) 0 [(0, rf G 35), (1, .int (nI S)), (2, .int (nI 1))] [] μ
  refine z_aload_n dX8_set_0 rfl ?_
  refine z_aload_n dX8_set_1 rfl ?_
  refine z_iload_n dX8_set_2 rfl ?_
  refine z_cV1 dX8_set_3 lk_X8_113 (by decide) ⟨by decide, _, rfl⟩ rfl (Nat.le_of_ble_eq_true rfl) (ev_X8_isSet G h) ?_
  refine z_ifB_eq (tgt := 18) dX8_set_6 (by decide) (fun c6 => (tf _ (inT hS (by omega)) (c6)).elim) (fun c6 => ?_)
  refine z_iload_n dX8_set_9 rfl ?_
  refine z_iconst (v := nI 0) dX8_set_10 (by decide) ?_
  refine z_iconst (v := nI 5) dX8_set_11 (by decide) ?_
  refine z_cS3 dX8_set_12 lk_X8_60 (by decide) (Nat.le_of_ble_eq_true rfl) (ev_X8_wi G (n := 5) (by decide)) ?_
  refine z_ifB_ne (tgt := 22) dX8_set_15 (by decide) (fun c15 => ?_) (fun c15 => (tf _ (inT (x := 1) (n := 6) (by decide) (by decide)) (c15)).elim)
  refine z_iconst (v := nI 0) dX8_set_22 (by decide) ?_
  refine z_cV1w dX8_set_23 lk_X8_52 (by decide) ⟨by decide, _, rfl⟩ rfl (Nat.le_of_ble_eq_true rfl) (ev_X8_refused G (w := 0) (by decide)) ?_
  refine z_ifB_eq (tgt := 31) dX8_set_26 (by decide) (fun c26 => ?_) (fun c26 => absurd c26 (by decide))
  refine z_aload_n dX8_set_31 rfl ?_
  refine z_iconst (v := -1) dX8_set_32 (by decide) ?_
  refine z_cV1g dX8_set_33 lk_X8_94 (by decide) ⟨by decide, _, rfl⟩ rfl (Nat.le_of_ble_eq_true rfl) (ev_X8_looks_0 G (h.u3 _)) ?_
  rintro v u ⟨rfl, hq, hl, hs⟩
  have h := (h.u3 (nI 0)).q hq
  have htl := fun S : Nat => tot_lt (a := a) (b := b) h.g.1 h.g.2.2.1 E S
  refine z_aload_n dX8_set_36 rfl ?_
  refine z_cV0g dX8_set_37 lk_X8_98 (by decide) ⟨by decide, _, rfl⟩ rfl (Nat.le_of_ble_eq_true rfl) (ev_X8_splitsAll G hab htl h.le hl hs) ?_
  rintro v u2 ⟨rfl, hq2, hl, hs, hp⟩
  have h := h.q hq2
  have hq := hq.trans hq2
  refine z_aload_n dX8_set_40 rfl ?_
  refine z_iload_n dX8_set_41 rfl ?_
  refine z_iload_n dX8_set_42 rfl ?_
  refine z_cV2 dX8_set_43 lk_X8_116 (by decide) ⟨by decide, _, rfl⟩ rfl (Nat.le_of_ble_eq_true rfl) (ev_X8_setTells_1 G h hl hs hS) ?_
  exact z_ret (ty := none) (v := none) rfl dX8_set_46 ⟨rfl, hq⟩
set_option maxRecDepth 100000 in
theorem ev_X8_set_2 (G : Gt) {a b n : Nat} {E Q : Nat → Nat} {μ : Mm} (h : nwOK μ a b n E Q) {S : Nat} (hS : S < 2 ^ n) : EV G 4 Y_X8_set [rf G 35, .int (nI S), .int (nI 2)] μ (fun v u => v = some (.int (bI (blk a b E S))) ∧ mqF (uF μ 35 3 (nI 0)) u) := by
  have hab := h.ab
  have hn := h.le
  have hpw := p1024 hn
  have hpw1 := ppos n
  refine ev_of (by decide) (Nat.le_of_ble_eq_true rfl) ?_
  show Zs G 4 Y_X8_set (fnN G _) 0 [(0, rf G 35), (1, .int (nI S)), (2, .int (nI 2))] [] μ
  refine z_aload_n dX8_set_0 rfl ?_
  refine z_aload_n dX8_set_1 rfl ?_
  refine z_iload_n dX8_set_2 rfl ?_
  refine z_cV1 dX8_set_3 lk_X8_113 (by decide) ⟨by decide, _, rfl⟩ rfl (Nat.le_of_ble_eq_true rfl) (ev_X8_isSet G h) ?_
  refine z_ifB_eq (tgt := 18) dX8_set_6 (by decide) (fun c6 => (tf _ (inT hS (by omega)) (c6)).elim) (fun c6 => ?_)
  refine z_iload_n dX8_set_9 rfl ?_
  refine z_iconst (v := nI 0) dX8_set_10 (by decide) ?_
  refine z_iconst (v := nI 5) dX8_set_11 (by decide) ?_
  refine z_cS3 dX8_set_12 lk_X8_60 (by decide) (Nat.le_of_ble_eq_true rfl) (ev_X8_wi G (n := 5) (by decide)) ?_
  refine z_ifB_ne (tgt := 22) dX8_set_15 (by decide) (fun c15 => ?_) (fun c15 => (tf _ (inT (x := 2) (n := 6) (by decide) (by decide)) (c15)).elim)
  refine z_iconst (v := nI 0) dX8_set_22 (by decide) ?_
  refine z_cV1w dX8_set_23 lk_X8_52 (by decide) ⟨by decide, _, rfl⟩ rfl (Nat.le_of_ble_eq_true rfl) (ev_X8_refused G (w := 0) (by decide)) ?_
  refine z_ifB_eq (tgt := 31) dX8_set_26 (by decide) (fun c26 => ?_) (fun c26 => absurd c26 (by decide))
  refine z_aload_n dX8_set_31 rfl ?_
  refine z_iconst (v := -1) dX8_set_32 (by decide) ?_
  refine z_cV1g dX8_set_33 lk_X8_94 (by decide) ⟨by decide, _, rfl⟩ rfl (Nat.le_of_ble_eq_true rfl) (ev_X8_looks_0 G (h.u3 _)) ?_
  rintro v u ⟨rfl, hq, hl, hs⟩
  have h := (h.u3 (nI 0)).q hq
  have htl := fun S : Nat => tot_lt (a := a) (b := b) h.g.1 h.g.2.2.1 E S
  refine z_aload_n dX8_set_36 rfl ?_
  refine z_cV0g dX8_set_37 lk_X8_98 (by decide) ⟨by decide, _, rfl⟩ rfl (Nat.le_of_ble_eq_true rfl) (ev_X8_splitsAll G hab htl h.le hl hs) ?_
  rintro v u2 ⟨rfl, hq2, hl, hs, hp⟩
  have h := h.q hq2
  have hq := hq.trans hq2
  refine z_aload_n dX8_set_40 rfl ?_
  refine z_iload_n dX8_set_41 rfl ?_
  refine z_iload_n dX8_set_42 rfl ?_
  refine z_cV2 dX8_set_43 lk_X8_116 (by decide) ⟨by decide, _, rfl⟩ rfl (Nat.le_of_ble_eq_true rfl) (ev_X8_setTells_2 G h hl hs hS) ?_
  exact z_ret (ty := none) (v := none) rfl dX8_set_46 ⟨rfl, hq⟩
set_option maxRecDepth 100000 in
theorem ev_X8_set_3 (G : Gt) {a b n : Nat} {E Q : Nat → Nat} {μ : Mm} (h : nwOK μ a b n E Q) {S : Nat} (hS : S < 2 ^ n) : EV G 4 Y_X8_set [rf G 35, .int (nI S), .int (nI 3)] μ (fun v u => v = some (.int (nI (lenN a b E S))) ∧ mqF (uF μ 35 3 (nI 0)) u) := by
  have hab := h.ab
  have hn := h.le
  have hpw := p1024 hn
  have hpw1 := ppos n
  refine ev_of (by decide) (Nat.le_of_ble_eq_true rfl) ?_
  show Zs G 4 Y_X8_set (fnN G _) 0 [(0, rf G 35), (1, .int (nI S)), (2, .int (nI 3))] [] μ
  refine z_aload_n dX8_set_0 rfl ?_
  refine z_aload_n dX8_set_1 rfl ?_
  refine z_iload_n dX8_set_2 rfl ?_
  refine z_cV1 dX8_set_3 lk_X8_113 (by decide) ⟨by decide, _, rfl⟩ rfl (Nat.le_of_ble_eq_true rfl) (ev_X8_isSet G h) ?_
  refine z_ifB_eq (tgt := 18) dX8_set_6 (by decide) (fun c6 => (tf _ (inT hS (by omega)) (c6)).elim) (fun c6 => ?_)
  refine z_iload_n dX8_set_9 rfl ?_
  refine z_iconst (v := nI 0) dX8_set_10 (by decide) ?_
  refine z_iconst (v := nI 5) dX8_set_11 (by decide) ?_
  refine z_cS3 dX8_set_12 lk_X8_60 (by decide) (Nat.le_of_ble_eq_true rfl) (ev_X8_wi G (n := 5) (by decide)) ?_
  refine z_ifB_ne (tgt := 22) dX8_set_15 (by decide) (fun c15 => ?_) (fun c15 => (tf _ (inT (x := 3) (n := 6) (by decide) (by decide)) (c15)).elim)
  refine z_iconst (v := nI 0) dX8_set_22 (by decide) ?_
  refine z_cV1w dX8_set_23 lk_X8_52 (by decide) ⟨by decide, _, rfl⟩ rfl (Nat.le_of_ble_eq_true rfl) (ev_X8_refused G (w := 0) (by decide)) ?_
  refine z_ifB_eq (tgt := 31) dX8_set_26 (by decide) (fun c26 => ?_) (fun c26 => absurd c26 (by decide))
  refine z_aload_n dX8_set_31 rfl ?_
  refine z_iconst (v := -1) dX8_set_32 (by decide) ?_
  refine z_cV1g dX8_set_33 lk_X8_94 (by decide) ⟨by decide, _, rfl⟩ rfl (Nat.le_of_ble_eq_true rfl) (ev_X8_looks_0 G (h.u3 _)) ?_
  rintro v u ⟨rfl, hq, hl, hs⟩
  have h := (h.u3 (nI 0)).q hq
  have htl := fun S : Nat => tot_lt (a := a) (b := b) h.g.1 h.g.2.2.1 E S
  refine z_aload_n dX8_set_36 rfl ?_
  refine z_cV0g dX8_set_37 lk_X8_98 (by decide) ⟨by decide, _, rfl⟩ rfl (Nat.le_of_ble_eq_true rfl) (ev_X8_splitsAll G hab htl h.le hl hs) ?_
  rintro v u2 ⟨rfl, hq2, hl, hs, hp⟩
  have h := h.q hq2
  have hq := hq.trans hq2
  refine z_aload_n dX8_set_40 rfl ?_
  refine z_iload_n dX8_set_41 rfl ?_
  refine z_iload_n dX8_set_42 rfl ?_
  refine z_cV2 dX8_set_43 lk_X8_116 (by decide) ⟨by decide, _, rfl⟩ rfl (Nat.le_of_ble_eq_true rfl) (ev_X8_setTells_3 G h hl hs hS hp) ?_
  exact z_ret (ty := none) (v := none) rfl dX8_set_46 ⟨rfl, hq⟩
set_option maxRecDepth 100000 in
theorem ev_X8_set_4 (G : Gt) {a b n : Nat} {E Q : Nat → Nat} {μ : Mm} (h : nwOK μ a b n E Q) {S : Nat} (hS : S < 2 ^ n) : EV G 4 Y_X8_set [rf G 35, .int (nI S), .int (nI 4)] μ (fun v u => v = some (.int (nI (splN a b E S))) ∧ mqF (uF μ 35 3 (nI 0)) u) := by
  have hab := h.ab
  have hn := h.le
  have hpw := p1024 hn
  have hpw1 := ppos n
  refine ev_of (by decide) (Nat.le_of_ble_eq_true rfl) ?_
  show Zs G 4 Y_X8_set (fnN G _) 0 [(0, rf G 35), (1, .int (nI S)), (2, .int (nI 4))] [] μ
  refine z_aload_n dX8_set_0 rfl ?_
  refine z_aload_n dX8_set_1 rfl ?_
  refine z_iload_n dX8_set_2 rfl ?_
  refine z_cV1 dX8_set_3 lk_X8_113 (by decide) ⟨by decide, _, rfl⟩ rfl (Nat.le_of_ble_eq_true rfl) (ev_X8_isSet G h) ?_
  refine z_ifB_eq (tgt := 18) dX8_set_6 (by decide) (fun c6 => (tf _ (inT hS (by omega)) (c6)).elim) (fun c6 => ?_)
  refine z_iload_n dX8_set_9 rfl ?_
  refine z_iconst (v := nI 0) dX8_set_10 (by decide) ?_
  refine z_iconst (v := nI 5) dX8_set_11 (by decide) ?_
  refine z_cS3 dX8_set_12 lk_X8_60 (by decide) (Nat.le_of_ble_eq_true rfl) (ev_X8_wi G (n := 5) (by decide)) ?_
  refine z_ifB_ne (tgt := 22) dX8_set_15 (by decide) (fun c15 => ?_) (fun c15 => (tf _ (inT (x := 4) (n := 6) (by decide) (by decide)) (c15)).elim)
  refine z_iconst (v := nI 0) dX8_set_22 (by decide) ?_
  refine z_cV1w dX8_set_23 lk_X8_52 (by decide) ⟨by decide, _, rfl⟩ rfl (Nat.le_of_ble_eq_true rfl) (ev_X8_refused G (w := 0) (by decide)) ?_
  refine z_ifB_eq (tgt := 31) dX8_set_26 (by decide) (fun c26 => ?_) (fun c26 => absurd c26 (by decide))
  refine z_aload_n dX8_set_31 rfl ?_
  refine z_iconst (v := -1) dX8_set_32 (by decide) ?_
  refine z_cV1g dX8_set_33 lk_X8_94 (by decide) ⟨by decide, _, rfl⟩ rfl (Nat.le_of_ble_eq_true rfl) (ev_X8_looks_0 G (h.u3 _)) ?_
  rintro v u ⟨rfl, hq, hl, hs⟩
  have h := (h.u3 (nI 0)).q hq
  have htl := fun S : Nat => tot_lt (a := a) (b := b) h.g.1 h.g.2.2.1 E S
  refine z_aload_n dX8_set_36 rfl ?_
  refine z_cV0g dX8_set_37 lk_X8_98 (by decide) ⟨by decide, _, rfl⟩ rfl (Nat.le_of_ble_eq_true rfl) (ev_X8_splitsAll G hab htl h.le hl hs) ?_
  rintro v u2 ⟨rfl, hq2, hl, hs, hp⟩
  have h := h.q hq2
  have hq := hq.trans hq2
  refine z_aload_n dX8_set_40 rfl ?_
  refine z_iload_n dX8_set_41 rfl ?_
  refine z_iload_n dX8_set_42 rfl ?_
  refine z_cV2 dX8_set_43 lk_X8_116 (by decide) ⟨by decide, _, rfl⟩ rfl (Nat.le_of_ble_eq_true rfl) (ev_X8_setTells_4 G h hl hs hS hp) ?_
  exact z_ret (ty := none) (v := none) rfl dX8_set_46 ⟨rfl, hq⟩
set_option maxRecDepth 100000 in
theorem ev_X8_set_5 (G : Gt) {a b n : Nat} {E Q : Nat → Nat} {μ : Mm} (h : nwOK μ a b n E Q) {S : Nat} (hS : S < 2 ^ n) : EV G 4 Y_X8_set [rf G 35, .int (nI S), .int (nI 5)] μ (fun v u => v = some (.int (nI (cntN (fun B => blk a b E B && sb B S) (S + 1)))) ∧ mqF (uF μ 35 3 (nI 0)) u) := by
  have hab := h.ab
  have hn := h.le
  have hpw := p1024 hn
  have hpw1 := ppos n
  refine ev_of (by decide) (Nat.le_of_ble_eq_true rfl) ?_
  show Zs G 4 Y_X8_set (fnN G _) 0 [(0, rf G 35), (1, .int (nI S)), (2, .int (nI 5))] [] μ
  refine z_aload_n dX8_set_0 rfl ?_
  refine z_aload_n dX8_set_1 rfl ?_
  refine z_iload_n dX8_set_2 rfl ?_
  refine z_cV1 dX8_set_3 lk_X8_113 (by decide) ⟨by decide, _, rfl⟩ rfl (Nat.le_of_ble_eq_true rfl) (ev_X8_isSet G h) ?_
  refine z_ifB_eq (tgt := 18) dX8_set_6 (by decide) (fun c6 => (tf _ (inT hS (by omega)) (c6)).elim) (fun c6 => ?_)
  refine z_iload_n dX8_set_9 rfl ?_
  refine z_iconst (v := nI 0) dX8_set_10 (by decide) ?_
  refine z_iconst (v := nI 5) dX8_set_11 (by decide) ?_
  refine z_cS3 dX8_set_12 lk_X8_60 (by decide) (Nat.le_of_ble_eq_true rfl) (ev_X8_wi G (n := 5) (by decide)) ?_
  refine z_ifB_ne (tgt := 22) dX8_set_15 (by decide) (fun c15 => ?_) (fun c15 => (tf _ (inT (x := 5) (n := 6) (by decide) (by decide)) (c15)).elim)
  refine z_iconst (v := nI 0) dX8_set_22 (by decide) ?_
  refine z_cV1w dX8_set_23 lk_X8_52 (by decide) ⟨by decide, _, rfl⟩ rfl (Nat.le_of_ble_eq_true rfl) (ev_X8_refused G (w := 0) (by decide)) ?_
  refine z_ifB_eq (tgt := 31) dX8_set_26 (by decide) (fun c26 => ?_) (fun c26 => absurd c26 (by decide))
  refine z_aload_n dX8_set_31 rfl ?_
  refine z_iconst (v := -1) dX8_set_32 (by decide) ?_
  refine z_cV1g dX8_set_33 lk_X8_94 (by decide) ⟨by decide, _, rfl⟩ rfl (Nat.le_of_ble_eq_true rfl) (ev_X8_looks_0 G (h.u3 _)) ?_
  rintro v u ⟨rfl, hq, hl, hs⟩
  have h := (h.u3 (nI 0)).q hq
  have htl := fun S : Nat => tot_lt (a := a) (b := b) h.g.1 h.g.2.2.1 E S
  refine z_aload_n dX8_set_36 rfl ?_
  refine z_cV0g dX8_set_37 lk_X8_98 (by decide) ⟨by decide, _, rfl⟩ rfl (Nat.le_of_ble_eq_true rfl) (ev_X8_splitsAll G hab htl h.le hl hs) ?_
  rintro v u2 ⟨rfl, hq2, hl, hs, hp⟩
  have h := h.q hq2
  have hq := hq.trans hq2
  refine z_aload_n dX8_set_40 rfl ?_
  refine z_iload_n dX8_set_41 rfl ?_
  refine z_iload_n dX8_set_42 rfl ?_
  refine z_cV2 dX8_set_43 lk_X8_116 (by decide) ⟨by decide, _, rfl⟩ rfl (Nat.le_of_ble_eq_true rfl) (ev_X8_setTells_5 G h hl hs hS) ?_
  exact z_ret (ty := none) (v := none) rfl dX8_set_46 ⟨rfl, hq⟩
set_option maxRecDepth 100000 in
theorem ev_X8_alike_r1 (G : Gt) {a b n : Nat} {E Q : Nat → Nat} {μ : Mm} (h : nwOK μ a b n E Q) {x y : Int32} (hr : inR x (2 ^ n) = false) : EVw G 2 Y_X8_alike [rf G 35, .int x, .int y] μ (.int (nI 0)) (uF μ 35 3 (nI 1)) := by
  have hab := h.ab
  have hn := h.le
  have hpw := p1024 hn
  have hpw1 := ppos n
  refine ev_of (by decide) (Nat.le_of_ble_eq_true rfl) ?_
  show Zs G 2 Y_X8_alike (fnN G _) 0 [(0, rf G 35), (1, .int x), (2, .int y)] [] μ
  refine z_aload_n dX8_alike_0 rfl ?_
  refine z_aload_n dX8_alike_1 rfl ?_
  refine z_iload_n dX8_alike_2 rfl ?_
  refine z_cV1 dX8_alike_3 lk_X8_113 (by decide) ⟨by decide, _, rfl⟩ rfl (Nat.le_of_ble_eq_true rfl) (ev_X8_isSet G h) ?_
  refine z_ifB_eq (tgt := 17) dX8_alike_6 (by decide) (fun c6 => ?_) (fun c6 => (tf _ (c6) (hr)).elim)
  refine z_iconst (v := nI 1) dX8_alike_17 (by decide) ?_
  refine z_goto (tgt := 22) dX8_alike_18 (by decide) ?_
  refine z_cV1w dX8_alike_22 lk_X8_52 (by decide) ⟨by decide, _, rfl⟩ rfl (Nat.le_of_ble_eq_true rfl) (ev_X8_refused G (w := 1) (by decide)) ?_
  refine z_ifB_eq (tgt := 30) dX8_alike_25 (by decide) (fun c25 => absurd c25 (by decide)) (fun c25 => ?_)
  refine z_iconst (v := nI 0) dX8_alike_28 (by decide) ?_
  exact z_ret (ty := none) (v := none) rfl dX8_alike_29 ⟨rfl, rfl⟩
set_option maxRecDepth 100000 in
theorem ev_X8_alike_r2 (G : Gt) {a b n : Nat} {E Q : Nat → Nat} {μ : Mm} (h : nwOK μ a b n E Q) {x y : Int32} (hx : inR x (2 ^ n) = true) (hr : inR y (2 ^ n) = false) : EVw G 2 Y_X8_alike [rf G 35, .int x, .int y] μ (.int (nI 0)) (uF μ 35 3 (nI 1)) := by
  have hab := h.ab
  have hn := h.le
  have hpw := p1024 hn
  have hpw1 := ppos n
  refine ev_of (by decide) (Nat.le_of_ble_eq_true rfl) ?_
  show Zs G 2 Y_X8_alike (fnN G _) 0 [(0, rf G 35), (1, .int x), (2, .int y)] [] μ
  refine z_aload_n dX8_alike_0 rfl ?_
  refine z_aload_n dX8_alike_1 rfl ?_
  refine z_iload_n dX8_alike_2 rfl ?_
  refine z_cV1 dX8_alike_3 lk_X8_113 (by decide) ⟨by decide, _, rfl⟩ rfl (Nat.le_of_ble_eq_true rfl) (ev_X8_isSet G h) ?_
  refine z_ifB_eq (tgt := 17) dX8_alike_6 (by decide) (fun c6 => (tf _ (hx) (c6)).elim) (fun c6 => ?_)
  refine z_aload_n dX8_alike_9 rfl ?_
  refine z_iload_n dX8_alike_10 rfl ?_
  refine z_cV1 dX8_alike_11 lk_X8_113 (by decide) ⟨by decide, _, rfl⟩ rfl (Nat.le_of_ble_eq_true rfl) (ev_X8_isSet G h) ?_
  refine z_ifB_ne (tgt := 21) dX8_alike_14 (by decide) (fun c14 => (tf _ (c14) (hr)).elim) (fun c14 => ?_)
  refine z_iconst (v := nI 1) dX8_alike_17 (by decide) ?_
  refine z_goto (tgt := 22) dX8_alike_18 (by decide) ?_
  refine z_cV1w dX8_alike_22 lk_X8_52 (by decide) ⟨by decide, _, rfl⟩ rfl (Nat.le_of_ble_eq_true rfl) (ev_X8_refused G (w := 1) (by decide)) ?_
  refine z_ifB_eq (tgt := 30) dX8_alike_25 (by decide) (fun c25 => absurd c25 (by decide)) (fun c25 => ?_)
  refine z_iconst (v := nI 0) dX8_alike_28 (by decide) ?_
  exact z_ret (ty := none) (v := none) rfl dX8_alike_29 ⟨rfl, rfl⟩
set_option maxRecDepth 100000 in
theorem ev_X8_alike (G : Gt) {a b n : Nat} {E Q : Nat → Nat} {μ : Mm} (h : nwOK μ a b n E Q) {S T : Nat} (hS : S < 2 ^ n) (hT : T < 2 ^ n) : EV G 2 Y_X8_alike [rf G 35, .int (nI S), .int (nI T)] μ (fun v u => v = some (.int (bI (alN a b E n S T))) ∧ mqF (uF μ 35 3 (nI 0)) u) := by
  have hab := h.ab
  have hn := h.le
  have hpw := p1024 hn
  have hpw1 := ppos n
  refine ev_of (by decide) (Nat.le_of_ble_eq_true rfl) ?_
  show Zs G 2 Y_X8_alike (fnN G _) 0 [(0, rf G 35), (1, .int (nI S)), (2, .int (nI T))] [] μ
  refine z_aload_n dX8_alike_0 rfl ?_
  refine z_aload_n dX8_alike_1 rfl ?_
  refine z_iload_n dX8_alike_2 rfl ?_
  refine z_cV1 dX8_alike_3 lk_X8_113 (by decide) ⟨by decide, _, rfl⟩ rfl (Nat.le_of_ble_eq_true rfl) (ev_X8_isSet G h) ?_
  refine z_ifB_eq (tgt := 17) dX8_alike_6 (by decide) (fun c6 => (tf _ (inT hS (by omega)) (c6)).elim) (fun c6 => ?_)
  refine z_aload_n dX8_alike_9 rfl ?_
  refine z_iload_n dX8_alike_10 rfl ?_
  refine z_cV1 dX8_alike_11 lk_X8_113 (by decide) ⟨by decide, _, rfl⟩ rfl (Nat.le_of_ble_eq_true rfl) (ev_X8_isSet G h) ?_
  refine z_ifB_ne (tgt := 21) dX8_alike_14 (by decide) (fun c14 => ?_) (fun c14 => (tf _ (inT hT (by omega)) (c14)).elim)
  refine z_iconst (v := nI 0) dX8_alike_21 (by decide) ?_
  refine z_cV1w dX8_alike_22 lk_X8_52 (by decide) ⟨by decide, _, rfl⟩ rfl (Nat.le_of_ble_eq_true rfl) (ev_X8_refused G (w := 0) (by decide)) ?_
  refine z_ifB_eq (tgt := 30) dX8_alike_25 (by decide) (fun c25 => ?_) (fun c25 => absurd c25 (by decide))
  refine z_aload_n dX8_alike_30 rfl ?_
  refine z_iload_n dX8_alike_31 rfl ?_
  refine z_iload_n dX8_alike_32 rfl ?_
  refine z_cV2g dX8_alike_33 lk_X8_163 (by decide) ⟨by decide, _, rfl⟩ rfl (Nat.le_of_ble_eq_true rfl) (ev_X8_areAlike G (h.u3 _) (show S < 2 ^ 31 by omega) (show T < 2 ^ 31 by omega)) ?_
  rintro v u ⟨rfl, hq⟩
  have hq := hq.q
  refine z_ifB_eq (tgt := 43) dX8_alike_36 (by decide) (fun c36 => ?_) (fun c36 => ?_)
  · refine z_iconst (v := nI 0) dX8_alike_43 (by decide) ?_
    exact z_ret (ty := none) (v := none) rfl dX8_alike_44 ⟨by rw [c36]; rfl, hq⟩
  · refine z_iconst (v := nI 1) dX8_alike_39 (by decide) ?_
    refine z_goto (tgt := 44) dX8_alike_40 (by decide) ?_
    exact z_ret (ty := none) (v := none) rfl dX8_alike_44 ⟨by rw [c36]; rfl, hq⟩
