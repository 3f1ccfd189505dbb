set_option maxRecDepth 100000 in
theorem lp_X8_cross (G : Gt) {a b n : Nat} {E Q : Nat → Nat} {μ : Mm} (h : nwOK μ a b n E Q) : ∀ (f k : Nat), k + f = n →
    Zs G 2 Y_X8_cross (fnN G (fun v u => v = some (.double (crN a b E n)) ∧ u = μ)) 9 [(0, rf G 35), (1, .double (crN a b E k)), (3, .int (nI k))] [] μ := by
  intro f
  have hn := h.le
  have hab := h.ab
  obtain ⟨ha, ha6, hb, hb6⟩ := h.g
  have hE : okE a b E n := fun k hk => h.el hk
  induction f with
  | zero =>
    intro k hf
    refine z_iload_n dX8_cross_9 rfl ?_
    refine z_aload_n dX8_cross_10 rfl ?_
    refine z_getR (j := 36) dX8_cross_11 fl_X8_7 ⟨by decide, _, rfl, rfl⟩ ?_
    refine z_iconst (v := nI 2) dX8_cross_14 (by decide) ?_
    refine z_ialdN dX8_cross_15 ⟨by decide, rfl⟩ (by omega) (by decide) h.vn ?_
    refine z_icmpN_ge (tgt := 43) dX8_cross_16 (by decide) (by omega) (by omega) (fun c16 => ?_) (fun c16 => absurd c16 (by omega))
    refine z_dload_n dX8_cross_43 rfl ?_
    exact z_dret rfl dX8_cross_44 ⟨by rw [show k = n by omega], rfl⟩
  | succ f ih =>
    intro k hf
    have hor := cx_or ha ha6 hb hb6 (hE k (by omega))
    have hnn := cr_nn ha ha6 hb hb6 hE hn (show k < n by omega)
    refine z_iload_n dX8_cross_9 rfl ?_
    refine z_aload_n dX8_cross_10 rfl ?_
    refine z_getR (j := 36) dX8_cross_11 fl_X8_7 ⟨by decide, _, rfl, rfl⟩ ?_
    refine z_iconst (v := nI 2) dX8_cross_14 (by decide) ?_
    refine z_ialdN dX8_cross_15 ⟨by decide, rfl⟩ (by omega) (by decide) h.vn ?_
    refine z_icmpN_ge (tgt := 43) dX8_cross_16 (by decide) (by omega) (by omega) (fun c16 => absurd c16 (by omega)) (fun c16 => ?_)
    refine z_dload_n dX8_cross_19 rfl ?_
    refine z_dconst1 dX8_cross_20 ?_
    refine z_aload_n dX8_cross_21 rfl ?_
    refine z_aload_n dX8_cross_22 rfl ?_
    refine z_getR (j := 36) dX8_cross_23 fl_X8_7 ⟨by decide, _, rfl, rfl⟩ ?_
    refine z_iconst (v := nI 3) dX8_cross_26 (by decide) ?_
    refine z_iload_n dX8_cross_27 rfl ?_
    refine z_iaddN dX8_cross_28 ?_
    refine z_ialdN dX8_cross_29 ⟨by decide, rfl⟩ (by omega) (by decide) (h.e (show k < n by omega)) ?_
    refine z_cV1 dX8_cross_30 lk_X8_68 (by decide) ⟨by decide, _, rfl⟩ rfl (Nat.le_of_ble_eq_true rfl) (ev_X8_orderOf G h.G (hE k (by omega))) ?_
    refine z_i2d dX8_cross_33 ?_
    refine z_ddiv dX8_cross_34 (cx_qn hor.2) ?_
    refine z_dadd dX8_cross_35 hnn ?_
    refine z_dstore_n (lv' := [(1, _), (0, _), (3, _)]) dX8_cross_36 rfl (by decide) rfl ?_
    refine z_iinc (v := nI (k + 1)) (lv' := [(3, _), (1, _), (0, _)]) dX8_cross_37 rfl (nI_inc _ 1) (by decide) rfl ?_
    refine z_goto (tgt := 9) dX8_cross_40 (by decide) ?_
    refine z_sub (lv' := [(0, _), (1, _), (3, _)]) rfl ?_
    exact ih (k + 1) (by omega)
set_option maxRecDepth 100000 in
theorem ev_X8_cross (G : Gt) {a b n : Nat} {E Q : Nat → Nat} {μ : Mm} (h : nwOK μ a b n E Q) : EVw G 2 Y_X8_cross [rf G 35] μ (.double (crN a b E n)) (uF μ 35 3 (nI 0)) := by
  refine ev_of (by decide) (Nat.le_of_ble_eq_true rfl) ?_
  show Zs G 2 Y_X8_cross (fnN G _) 0 [(0, rf G 35)] [] μ
  refine z_aload_n dX8_cross_0 rfl ?_
  refine z_iconst (v := nI 0) dX8_cross_1 (by decide) ?_
  refine z_putI dX8_cross_2 fp_X8_41 ⟨by decide, _, rfl, rfl⟩ ?_
  refine z_dconst0 dX8_cross_5 ?_
  refine z_dstore_n (lv' := [(1, _), (0, _)]) dX8_cross_6 rfl (by decide) rfl ?_
  refine z_iconst (v := nI 0) dX8_cross_7 (by decide) ?_
  refine z_istore_n (lv' := [(3, _), (1, _), (0, _)]) dX8_cross_8 rfl (by decide) rfl ?_
  refine z_sub (lv' := [(0, _), (1, _), (3, _)]) rfl ?_
  exact lp_X8_cross G (h.u3 _) n 0 (by omega)
set_option maxRecDepth 100000 in
theorem ev_X8_setTells_0 (G : Gt) {a b n : Nat} {E Q : Nat → Nat} {μ : Mm} (h : nwOK μ a b n E Q) (hl : lkE μ a b n E) (hs : lkS μ a b E (2 ^ n)) {S : Nat} (hS : S < 2 ^ n) : EVr G 3 Y_X8_setTells [rf G 35, .int (nI S), .int (nI 0)] μ (.int (nI (pcN S))) := by
  have hn := h.le
  have hpw := p1024 hn
  have hab := h.ab
  have htl := fun S : Nat => tot_lt (a := a) (b := b) h.g.1 h.g.2.2.1 E S
  refine ev_of (by decide) (Nat.le_of_ble_eq_true rfl) ?_
  show Zs G 3 Y_X8_setTells (fnN G _) 0 [(0, rf G 35), (1, .int (nI S)), (2, .int (nI 0))] [] μ
  refine z_iload_n dX8_setTells_0 rfl ?_
  refine z_tsw (tgt := 36) dX8_setTells_1 (by decide) (by decide) (by decide) rfl (by decide) ?_
  refine z_iload_n dX8_setTells_36 rfl ?_
  refine z_cS1 dX8_setTells_37 lk_X8_107 (by decide) (Nat.le_of_ble_eq_true rfl) (ev_X8_bits G (by omega)) ?_
  exact z_ret (ty := none) (v := none) rfl dX8_setTells_40 ⟨rfl, rfl⟩
set_option maxRecDepth 100000 in
theorem ev_X8_setTells_1 (G : Gt) {a b n : Nat} {E Q : Nat → Nat} {μ : Mm} (h : nwOK μ a b n E Q) (hl : lkE μ a b n E) (hs : lkS μ a b E (2 ^ n)) {S : Nat} (hS : S < 2 ^ n) : EVr G 3 Y_X8_setTells [rf G 35, .int (nI S), .int (nI 1)] μ (.int (nI (tot a b E S))) := by
  have hn := h.le
  have hpw := p1024 hn
  have hab := h.ab
  have htl := fun S : Nat => tot_lt (a := a) (b := b) h.g.1 h.g.2.2.1 E S
  refine ev_of (by decide) (Nat.le_of_ble_eq_true rfl) ?_
  show Zs G 3 Y_X8_setTells (fnN G _) 0 [(0, rf G 35), (1, .int (nI S)), (2, .int (nI 1))] [] μ
  refine z_iload_n dX8_setTells_0 rfl ?_
  refine z_tsw (tgt := 41) dX8_setTells_1 (by decide) (by decide) (by decide) rfl (by decide) ?_
  refine z_aload_n dX8_setTells_41 rfl ?_
  refine z_getR (j := 41) dX8_setTells_42 fl_X8_25 ⟨by decide, _, rfl, rfl⟩ ?_
  refine z_iload_n dX8_setTells_45 rfl ?_
  refine z_ialdN dX8_setTells_46 ⟨by decide, rfl⟩ (by omega) (by decide) ((hs S hS).1) ?_
  exact z_ret (ty := none) (v := none) rfl dX8_setTells_47 ⟨rfl, rfl⟩
set_option maxRecDepth 100000 in
theorem ev_X8_setTells_2 (G : Gt) {a b n : Nat} {E Q : Nat → Nat} {μ : Mm} (h : nwOK μ a b n E Q) (hl : lkE μ a b n E) (hs : lkS μ a b E (2 ^ n)) {S : Nat} (hS : S < 2 ^ n) : EVr G 3 Y_X8_setTells [rf G 35, .int (nI S), .int (nI 2)] μ (.int (bI (blk a b E S))) := by
  have hn := h.le
  have hpw := p1024 hn
  have hab := h.ab
  have htl := fun S : Nat => tot_lt (a := a) (b := b) h.g.1 h.g.2.2.1 E S
  refine ev_of (by decide) (Nat.le_of_ble_eq_true rfl) ?_
  show Zs G 3 Y_X8_setTells (fnN G _) 0 [(0, rf G 35), (1, .int (nI S)), (2, .int (nI 2))] [] μ
  refine z_iload_n dX8_setTells_0 rfl ?_
  refine z_tsw (tgt := 48) dX8_setTells_1 (by decide) (by decide) (by decide) rfl (by decide) ?_
  refine z_aload_n dX8_setTells_48 rfl ?_
  refine z_iload_n dX8_setTells_49 rfl ?_
  refine z_cV1 dX8_setTells_50 lk_X8_91 (by decide) ⟨by decide, _, rfl⟩ rfl (Nat.le_of_ble_eq_true rfl) (ev_X8_isBlock G hab htl hl hs hS) ?_
  refine z_ifB_eq (tgt := 60) dX8_setTells_53 (by decide) (fun c53 => ?_) (fun c53 => ?_)
  · refine z_iconst (v := nI 0) dX8_setTells_60 (by decide) ?_
    exact z_ret (ty := none) (v := none) rfl dX8_setTells_61 ⟨by rw [c53]; rfl, rfl⟩
  · refine z_iconst (v := nI 1) dX8_setTells_56 (by decide) ?_
    refine z_goto (tgt := 61) dX8_setTells_57 (by decide) ?_
    exact z_ret (ty := none) (v := none) rfl dX8_setTells_61 ⟨by rw [c53]; rfl, rfl⟩
set_option maxRecDepth 100000 in
theorem ev_X8_setTells_3 (G : Gt) {a b n : Nat} {E Q : Nat → Nat} {μ : Mm} (h : nwOK μ a b n E Q) (hl : lkE μ a b n E) (hs : lkS μ a b E (2 ^ n)) {S : Nat} (hS : S < 2 ^ n) (hp : lkP μ a b E (2 ^ n)) : EVr G 3 Y_X8_setTells [rf G 35, .int (nI S), .int (nI 3)] μ (.int (nI (lenN a b E S))) := by
  have hn := h.le
  have hpw := p1024 hn
  have hab := h.ab
  have htl := fun S : Nat => tot_lt (a := a) (b := b) h.g.1 h.g.2.2.1 E S
  refine ev_of (by decide) (Nat.le_of_ble_eq_true rfl) ?_
  show Zs G 3 Y_X8_setTells (fnN G _) 0 [(0, rf G 35), (1, .int (nI S)), (2, .int (nI 3))] [] μ
  refine z_iload_n dX8_setTells_0 rfl ?_
  refine z_tsw (tgt := 62) dX8_setTells_1 (by decide) (by decide) (by decide) rfl (by decide) ?_
  refine z_aload_n dX8_setTells_62 rfl ?_
  refine z_getR (j := 44) dX8_setTells_63 fl_X8_35 ⟨by decide, _, rfl, rfl⟩ ?_
  refine z_iload_n dX8_setTells_66 rfl ?_
  refine z_ialdN dX8_setTells_67 ⟨by decide, rfl⟩ (by omega) (by decide) ((hp S hS).2) ?_
  exact z_ret (ty := none) (v := none) rfl dX8_setTells_68 ⟨rfl, rfl⟩
set_option maxRecDepth 100000 in
theorem ev_X8_setTells_4 (G : Gt) {a b n : Nat} {E Q : Nat → Nat} {μ : Mm} (h : nwOK μ a b n E Q) (hl : lkE μ a b n E) (hs : lkS μ a b E (2 ^ n)) {S : Nat} (hS : S < 2 ^ n) (hp : lkP μ a b E (2 ^ n)) : EVr G 3 Y_X8_setTells [rf G 35, .int (nI S), .int (nI 4)] μ (.int (nI (splN a b E S))) := by
  have hn := h.le
  have hpw := p1024 hn
  have hab := h.ab
  have htl := fun S : Nat => tot_lt (a := a) (b := b) h.g.1 h.g.2.2.1 E S
  refine ev_of (by decide) (Nat.le_of_ble_eq_true rfl) ?_
  show Zs G 3 Y_X8_setTells (fnN G _) 0 [(0, rf G 35), (1, .int (nI S)), (2, .int (nI 4))] [] μ
  refine z_iload_n dX8_setTells_0 rfl ?_
  refine z_tsw (tgt := 69) dX8_setTells_1 (by decide) (by decide) (by decide) rfl (by decide) ?_
  refine z_aload_n dX8_setTells_69 rfl ?_
  refine z_getR (j := 43) dX8_setTells_70 fl_X8_32 ⟨by decide, _, rfl, rfl⟩ ?_
  refine z_iload_n dX8_setTells_73 rfl ?_
  refine z_ialdN dX8_setTells_74 ⟨by decide, rfl⟩ (by omega) (by decide) ((hp S hS).1) ?_
  exact z_ret (ty := none) (v := none) rfl dX8_setTells_75 ⟨rfl, rfl⟩
set_option maxRecDepth 100000 in
theorem ev_X8_setTells_5 (G : Gt) {a b n : Nat} {E Q : Nat → Nat} {μ : Mm} (h : nwOK μ a b n E Q) (hl : lkE μ a b n E) (hs : lkS μ a b E (2 ^ n)) {S : Nat} (hS : S < 2 ^ n) : EVr G 3 Y_X8_setTells [rf G 35, .int (nI S), .int (nI 5)] μ (.int (nI (cntN (fun B => blk a b E B && sb B S) (S + 1)))) := by
  have hn := h.le
  have hpw := p1024 hn
  have hab := h.ab
  have htl := fun S : Nat => tot_lt (a := a) (b := b) h.g.1 h.g.2.2.1 E S
  refine ev_of (by decide) (Nat.le_of_ble_eq_true rfl) ?_
  show Zs G 3 Y_X8_setTells (fnN G _) 0 [(0, rf G 35), (1, .int (nI S)), (2, .int (nI 5))] [] μ
  refine z_iload_n dX8_setTells_0 rfl ?_
  refine z_tswD (tgt := 76) dX8_setTells_1 (Or.inr (by decide)) (by decide) ?_
  refine z_aload_n dX8_setTells_76 rfl ?_
  refine z_iload_n dX8_setTells_77 rfl ?_
  refine z_cV1 dX8_setTells_78 lk_X8_110 (by decide) ⟨by decide, _, rfl⟩ rfl (Nat.le_of_ble_eq_true rfl) (ev_X8_blocksIn G hab htl hl hs hS) ?_
  exact z_ret (ty := none) (v := none) rfl dX8_setTells_81 ⟨rfl, rfl⟩
set_option maxRecDepth 100000 in
theorem ev_X8_freeElement (G : Gt) {a b n : Nat} {E Q : Nat → Nat} {μ : Mm} (h : nwOK μ a b n E Q) : EV G 3 Y_X8_freeElement [rf G 35] μ (fun v u => v = some (.int (oI (lfN a b (ssN a b E (2 ^ n))))) ∧ mqF (uF μ 35 3 (nI 0)) u) := by
  refine ev_of (by decide) (Nat.le_of_ble_eq_true rfl) ?_
  show Zs G 3 Y_X8_freeElement (fnN G _) 0 [(0, rf G 35)] [] μ
  refine z_aload_n dX8_freeElement_0 rfl ?_
  refine z_iconst (v := nI 0) dX8_freeElement_1 (by decide) ?_
  refine z_putI dX8_freeElement_2 fp_X8_41 ⟨by decide, _, rfl, rfl⟩ ?_
  refine z_aload_n dX8_freeElement_5 rfl ?_
  refine z_iconst (v := -1) dX8_freeElement_6 (by decide) ?_
  refine z_cV1g dX8_freeElement_7 lk_X8_94 (by decide) ⟨by decide, _, rfl⟩ rfl (Nat.le_of_ble_eq_true rfl) (ev_X8_looks_0 G (h.u3 _)) ?_
  rintro v u ⟨rfl, hq, hl, hs⟩
  have h := (h.u3 (nI 0)).q hq
  have htl := fun S : Nat => tot_lt (a := a) (b := b) h.g.1 h.g.2.2.1 E S
  have hab := h.ab
  have hss := ssN_lt (a := a) (b := b) (E := E) (fun S => by have := htl S; omega) (2 ^ n)
  refine z_aload_n dX8_freeElement_10 rfl ?_
  refine z_aload_n dX8_freeElement_11 rfl ?_
  refine z_cV0 dX8_freeElement_12 lk_X8_119 (by decide) ⟨by decide, _, rfl⟩ rfl (Nat.le_of_ble_eq_true rfl) (ev_X8_sumSet G h hl hs) ?_
  refine z_cV1 dX8_freeElement_15 lk_X8_159 (by decide) ⟨by decide, _, rfl⟩ rfl (Nat.le_of_ble_eq_true rfl) (ev_X8_freeBy G h.G hss) ?_
  exact z_ret (ty := none) (v := none) rfl dX8_freeElement_18 ⟨by rw [fb_eq h.g.1 h.g.2.1 h.g.2.2.1 h.g.2.2.2], hq⟩
