set_option maxRecDepth 100000 in
theorem ev_X8_wholeTells_0 (G : Gt) {a b n : Nat} {E Q : Nat → Nat} {μ : Mm} (h : nwOK μ a b n E Q) (hl : lkE μ a b n E) (hs : lkS μ a b E (2 ^ n)) : EVr G 3 Y_X8_wholeTells [rf G 35, .int (nI 0)] μ (.int (nI a)) := by
  have hn := h.le
  have hpw := p1024 hn
  have hpw1 := ppos n
  have hab := h.ab
  have htl := fun S : Nat => tot_lt (a := a) (b := b) h.g.1 h.g.2.2.1 E S
  refine ev_of (by decide) (Nat.le_of_ble_eq_true rfl) ?_
  show Zs G 3 Y_X8_wholeTells (fnN G _) 0 [(0, rf G 35), (1, .int (nI 0))] [] μ
  refine z_iload_n dX8_wholeTells_0 rfl ?_
  refine z_tsw (tgt := 68) dX8_wholeTells_1 (by decide) (by decide) (by decide) rfl (by decide) ?_
  refine z_aload_n dX8_wholeTells_68 rfl ?_
  refine z_getR (j := 36) dX8_wholeTells_69 fl_X8_7 ⟨by decide, _, rfl, rfl⟩ ?_
  refine z_iconst (v := nI 0) dX8_wholeTells_72 (by decide) ?_
  refine z_ialdN dX8_wholeTells_73 ⟨by decide, rfl⟩ (by omega) (by decide) h.va ?_
  exact z_ret (ty := none) (v := none) rfl dX8_wholeTells_74 ⟨rfl, rfl⟩
set_option maxRecDepth 100000 in
theorem ev_X8_wholeTells_1 (G : Gt) {a b n : Nat} {E Q : Nat → Nat} {μ : Mm} (h : nwOK μ a b n E Q) (hl : lkE μ a b n E) (hs : lkS μ a b E (2 ^ n)) : EVr G 3 Y_X8_wholeTells [rf G 35, .int (nI 1)] μ (.int (nI b)) := by
  have hn := h.le
  have hpw := p1024 hn
  have hpw1 := ppos n
  have hab := h.ab
  have htl := fun S : Nat => tot_lt (a := a) (b := b) h.g.1 h.g.2.2.1 E S
  refine ev_of (by decide) (Nat.le_of_ble_eq_true rfl) ?_
  show Zs G 3 Y_X8_wholeTells (fnN G _) 0 [(0, rf G 35), (1, .int (nI 1))] [] μ
  refine z_iload_n dX8_wholeTells_0 rfl ?_
  refine z_tsw (tgt := 75) dX8_wholeTells_1 (by decide) (by decide) (by decide) rfl (by decide) ?_
  refine z_aload_n dX8_wholeTells_75 rfl ?_
  refine z_getR (j := 36) dX8_wholeTells_76 fl_X8_7 ⟨by decide, _, rfl, rfl⟩ ?_
  refine z_iconst (v := nI 1) dX8_wholeTells_79 (by decide) ?_
  refine z_ialdN dX8_wholeTells_80 ⟨by decide, rfl⟩ (by omega) (by decide) h.vb ?_
  exact z_ret (ty := none) (v := none) rfl dX8_wholeTells_81 ⟨rfl, rfl⟩
set_option maxRecDepth 100000 in
theorem ev_X8_wholeTells_2 (G : Gt) {a b n : Nat} {E Q : Nat → Nat} {μ : Mm} (h : nwOK μ a b n E Q) (hl : lkE μ a b n E) (hs : lkS μ a b E (2 ^ n)) : EVr G 3 Y_X8_wholeTells [rf G 35, .int (nI 2)] μ (.int (nI (a * b))) := by
  have hn := h.le
  have hpw := p1024 hn
  have hpw1 := ppos n
  have hab := h.ab
  have htl := fun S : Nat => tot_lt (a := a) (b := b) h.g.1 h.g.2.2.1 E S
  refine ev_of (by decide) (Nat.le_of_ble_eq_true rfl) ?_
  show Zs G 3 Y_X8_wholeTells (fnN G _) 0 [(0, rf G 35), (1, .int (nI 2))] [] μ
  refine z_iload_n dX8_wholeTells_0 rfl ?_
  refine z_tsw (tgt := 82) dX8_wholeTells_1 (by decide) (by decide) (by decide) rfl (by decide) ?_
  refine z_aload_n dX8_wholeTells_82 rfl ?_
  refine z_cV0 dX8_wholeTells_83 lk_X8_56 (by decide) ⟨by decide, _, rfl⟩ rfl (Nat.le_of_ble_eq_true rfl) (ev_X8_size G h.G) ?_
  exact z_ret (ty := none) (v := none) rfl dX8_wholeTells_86 ⟨rfl, rfl⟩
set_option maxRecDepth 100000 in
theorem ev_X8_wholeTells_3 (G : Gt) {a b n : Nat} {E Q : Nat → Nat} {μ : Mm} (h : nwOK μ a b n E Q) (hl : lkE μ a b n E) (hs : lkS μ a b E (2 ^ n)) : EVr G 3 Y_X8_wholeTells [rf G 35, .int (nI 3)] μ (.int (nI (exN a b))) := by
  have hn := h.le
  have hpw := p1024 hn
  have hpw1 := ppos n
  have hab := h.ab
  have htl := fun S : Nat => tot_lt (a := a) (b := b) h.g.1 h.g.2.2.1 E S
  refine ev_of (by decide) (Nat.le_of_ble_eq_true rfl) ?_
  show Zs G 3 Y_X8_wholeTells (fnN G _) 0 [(0, rf G 35), (1, .int (nI 3))] [] μ
  refine z_iload_n dX8_wholeTells_0 rfl ?_
  refine z_tsw (tgt := 87) dX8_wholeTells_1 (by decide) (by decide) (by decide) rfl (by decide) ?_
  refine z_aload_n dX8_wholeTells_87 rfl ?_
  refine z_cV0 dX8_wholeTells_88 lk_X8_136 (by decide) ⟨by decide, _, rfl⟩ rfl (Nat.le_of_ble_eq_true rfl) (ev_X8_exponent G h.G) ?_
  exact z_ret (ty := none) (v := none) rfl dX8_wholeTells_91 ⟨rfl, rfl⟩
set_option maxRecDepth 100000 in
theorem ev_X8_wholeTells_4 (G : Gt) {a b n : Nat} {E Q : Nat → Nat} {μ : Mm} (h : nwOK μ a b n E Q) (hl : lkE μ a b n E) (hs : lkS μ a b E (2 ^ n)) : EVr G 3 Y_X8_wholeTells [rf G 35, .int (nI 4)] μ (.int (nI n)) := by
  have hn := h.le
  have hpw := p1024 hn
  have hpw1 := ppos n
  have hab := h.ab
  have htl := fun S : Nat => tot_lt (a := a) (b := b) h.g.1 h.g.2.2.1 E S
  refine ev_of (by decide) (Nat.le_of_ble_eq_true rfl) ?_
  show Zs G 3 Y_X8_wholeTells (fnN G _) 0 [(0, rf G 35), (1, .int (nI 4))] [] μ
  refine z_iload_n dX8_wholeTells_0 rfl ?_
  refine z_tsw (tgt := 92) dX8_wholeTells_1 (by decide) (by decide) (by decide) rfl (by decide) ?_
  refine z_aload_n dX8_wholeTells_92 rfl ?_
  refine z_getR (j := 36) dX8_wholeTells_93 fl_X8_7 ⟨by decide, _, rfl, rfl⟩ ?_
  refine z_iconst (v := nI 2) dX8_wholeTells_96 (by decide) ?_
  refine z_ialdN dX8_wholeTells_97 ⟨by decide, rfl⟩ (by omega) (by decide) h.vn ?_
  exact z_ret (ty := none) (v := none) rfl dX8_wholeTells_98 ⟨rfl, rfl⟩
set_option maxRecDepth 100000 in
theorem ev_X8_wholeTells_5 (G : Gt) {a b n : Nat} {E Q : Nat → Nat} {μ : Mm} (h : nwOK μ a b n E Q) (hl : lkE μ a b n E) (hs : lkS μ a b E (2 ^ n)) : EVr G 3 Y_X8_wholeTells [rf G 35, .int (nI 5)] μ (.int (nI (tot a b E (2 ^ n - 1)))) := by
  have hn := h.le
  have hpw := p1024 hn
  have hpw1 := ppos n
  have hab := h.ab
  have htl := fun S : Nat => tot_lt (a := a) (b := b) h.g.1 h.g.2.2.1 E S
  refine ev_of (by decide) (Nat.le_of_ble_eq_true rfl) ?_
  show Zs G 3 Y_X8_wholeTells (fnN G _) 0 [(0, rf G 35), (1, .int (nI 5))] [] μ
  refine z_iload_n dX8_wholeTells_0 rfl ?_
  refine z_tsw (tgt := 99) dX8_wholeTells_1 (by decide) (by decide) (by decide) rfl (by decide) ?_
  refine z_aload_n dX8_wholeTells_99 rfl ?_
  refine z_getR (j := 41) dX8_wholeTells_100 fl_X8_25 ⟨by decide, _, rfl, rfl⟩ ?_
  refine z_aload_n dX8_wholeTells_103 rfl ?_
  refine z_cV0 dX8_wholeTells_104 lk_X8_101 (by decide) ⟨by decide, _, rfl⟩ rfl (Nat.le_of_ble_eq_true rfl) (ev_X8_all G h) ?_
  refine z_ialdN dX8_wholeTells_107 ⟨by decide, rfl⟩ (by omega) (by decide) ((hs _ (by omega)).1) ?_
  exact z_ret (ty := none) (v := none) rfl dX8_wholeTells_108 ⟨rfl, rfl⟩
set_option maxRecDepth 100000 in
theorem ev_X8_wholeTells_6 (G : Gt) {a b n : Nat} {E Q : Nat → Nat} {μ : Mm} (h : nwOK μ a b n E Q) (hl : lkE μ a b n E) (hs : lkS μ a b E (2 ^ n)) : EVr G 3 Y_X8_wholeTells [rf G 35, .int (nI 6)] μ (.int (bI (!hld a b E (2 ^ n - 1)))) := by
  have hn := h.le
  have hpw := p1024 hn
  have hpw1 := ppos n
  have hab := h.ab
  have htl := fun S : Nat => tot_lt (a := a) (b := b) h.g.1 h.g.2.2.1 E S
  refine ev_of (by decide) (Nat.le_of_ble_eq_true rfl) ?_
  show Zs G 3 Y_X8_wholeTells (fnN G _) 0 [(0, rf G 35), (1, .int (nI 6))] [] μ
  refine z_iload_n dX8_wholeTells_0 rfl ?_
  refine z_tsw (tgt := 109) dX8_wholeTells_1 (by decide) (by decide) (by decide) rfl (by decide) ?_
  refine z_aload_n dX8_wholeTells_109 rfl ?_
  refine z_getR (j := 42) dX8_wholeTells_110 fl_X8_28 ⟨by decide, _, rfl, rfl⟩ ?_
  refine z_aload_n dX8_wholeTells_113 rfl ?_
  refine z_cV0 dX8_wholeTells_114 lk_X8_101 (by decide) ⟨by decide, _, rfl⟩ rfl (Nat.le_of_ble_eq_true rfl) (ev_X8_all G h) ?_
  refine z_zaldN dX8_wholeTells_117 ⟨by decide, rfl⟩ (by omega) (by decide) ((hs _ (by omega)).2) ?_
  refine z_ifB_eq (tgt := 125) dX8_wholeTells_118 (by decide) (fun c118 => ?_) (fun c118 => ?_)
  · refine z_iconst (v := nI 1) dX8_wholeTells_125 (by decide) ?_
    exact z_ret (ty := none) (v := none) rfl dX8_wholeTells_126 ⟨by rw [c118]; rfl, rfl⟩
  · refine z_iconst (v := nI 0) dX8_wholeTells_121 (by decide) ?_
    refine z_goto (tgt := 126) dX8_wholeTells_122 (by decide) ?_
    exact z_ret (ty := none) (v := none) rfl dX8_wholeTells_126 ⟨by rw [c118]; rfl, rfl⟩
set_option maxRecDepth 100000 in
theorem ev_X8_wholeTells_7 (G : Gt) {a b n : Nat} {E Q : Nat → Nat} {μ : Mm} (h : nwOK μ a b n E Q) (hl : lkE μ a b n E) (hs : lkS μ a b E (2 ^ n)) : EVr G 3 Y_X8_wholeTells [rf G 35, .int (nI 7)] μ (.int (nI (cntN (fun B => blk a b E B && sb B (2 ^ n - 1)) (2 ^ n - 1 + 1)))) := by
  have hn := h.le
  have hpw := p1024 hn
  have hpw1 := ppos n
  have hab := h.ab
  have htl := fun S : Nat => tot_lt (a := a) (b := b) h.g.1 h.g.2.2.1 E S
  refine ev_of (by decide) (Nat.le_of_ble_eq_true rfl) ?_
  show Zs G 3 Y_X8_wholeTells (fnN G _) 0 [(0, rf G 35), (1, .int (nI 7))] [] μ
  refine z_iload_n dX8_wholeTells_0 rfl ?_
  refine z_tsw (tgt := 127) dX8_wholeTells_1 (by decide) (by decide) (by decide) rfl (by decide) ?_
  refine z_aload_n dX8_wholeTells_127 rfl ?_
  refine z_aload_n dX8_wholeTells_128 rfl ?_
  refine z_cV0 dX8_wholeTells_129 lk_X8_101 (by decide) ⟨by decide, _, rfl⟩ rfl (Nat.le_of_ble_eq_true rfl) (ev_X8_all G h) ?_
  refine z_cV1 dX8_wholeTells_132 lk_X8_110 (by decide) ⟨by decide, _, rfl⟩ rfl (Nat.le_of_ble_eq_true rfl) (ev_X8_blocksIn G hab htl hl hs (show 2 ^ n - 1 < 2 ^ n by omega)) ?_
  exact z_ret (ty := none) (v := none) rfl dX8_wholeTells_135 ⟨rfl, rfl⟩
set_option maxRecDepth 100000 in
theorem ev_X8_wholeTells_8 (G : Gt) {a b n : Nat} {E Q : Nat → Nat} {μ : Mm} (h : nwOK μ a b n E Q) (hl : lkE μ a b n E) (hs : lkS μ a b E (2 ^ n)) : EVr G 3 Y_X8_wholeTells [rf G 35, .int (nI 8)] μ (.int (nI (bsW a b E false (2 ^ n)))) := by
  have hn := h.le
  have hpw := p1024 hn
  have hpw1 := ppos n
  have hab := h.ab
  have htl := fun S : Nat => tot_lt (a := a) (b := b) h.g.1 h.g.2.2.1 E S
  refine ev_of (by decide) (Nat.le_of_ble_eq_true rfl) ?_
  show Zs G 3 Y_X8_wholeTells (fnN G _) 0 [(0, rf G 35), (1, .int (nI 8))] [] μ
  refine z_iload_n dX8_wholeTells_0 rfl ?_
  refine z_tsw (tgt := 136) dX8_wholeTells_1 (by decide) (by decide) (by decide) rfl (by decide) ?_
  refine z_aload_n dX8_wholeTells_136 rfl ?_
  refine z_iload_n dX8_wholeTells_137 rfl ?_
  refine z_bipush (v := nI 9) dX8_wholeTells_138 (by decide) ?_
  refine z_icmpN_ne (tgt := 147) dX8_wholeTells_140 (by decide) (by omega) (by omega) (fun c140 => ?_) (fun c140 => absurd c140 (by decide))
  refine z_iconst (v := nI 0) dX8_wholeTells_147 (by decide) ?_
  refine z_cV1 dX8_wholeTells_148 lk_X8_139 (by decide) ⟨by decide, _, rfl⟩ rfl (Nat.le_of_ble_eq_true rfl) (ev_X8_blockSize G h hl hs (z := false)) ?_
  exact z_ret (ty := none) (v := none) rfl dX8_wholeTells_151 ⟨rfl, rfl⟩
set_option maxRecDepth 100000 in
theorem ev_X8_wholeTells_9 (G : Gt) {a b n : Nat} {E Q : Nat → Nat} {μ : Mm} (h : nwOK μ a b n E Q) (hl : lkE μ a b n E) (hs : lkS μ a b E (2 ^ n)) : EVr G 3 Y_X8_wholeTells [rf G 35, .int (nI 9)] μ (.int (nI (bsW a b E true (2 ^ n)))) := by
  have hn := h.le
  have hpw := p1024 hn
  have hpw1 := ppos n
  have hab := h.ab
  have htl := fun S : Nat => tot_lt (a := a) (b := b) h.g.1 h.g.2.2.1 E S
  refine ev_of (by decide) (Nat.le_of_ble_eq_true rfl) ?_
  show Zs G 3 Y_X8_wholeTells (fnN G _) 0 [(0, rf G 35), (1, .int (nI 9))] [] μ
  refine z_iload_n dX8_wholeTells_0 rfl ?_
  refine z_tsw (tgt := 136) dX8_wholeTells_1 (by decide) (by decide) (by decide) rfl (by decide) ?_
  refine z_aload_n dX8_wholeTells_136 rfl ?_
  refine z_iload_n dX8_wholeTells_137 rfl ?_
  refine z_bipush (v := nI 9) dX8_wholeTells_138 (by decide) ?_
  refine z_icmpN_ne (tgt := 147) dX8_wholeTells_140 (by decide) (by omega) (by omega) (fun c140 => absurd rfl c140) (fun c140 => ?_)
  refine z_iconst (v := nI 1) dX8_wholeTells_143 (by decide) ?_
  refine z_goto (tgt := 148) dX8_wholeTells_144 (by decide) ?_
  refine z_cV1 dX8_wholeTells_148 lk_X8_139 (by decide) ⟨by decide, _, rfl⟩ rfl (Nat.le_of_ble_eq_true rfl) (ev_X8_blockSize G h hl hs (z := true)) ?_
  exact z_ret (ty := none) (v := none) rfl dX8_wholeTells_151 ⟨rfl, rfl⟩
set_option maxRecDepth 100000 in
theorem ev_X8_wholeTells_10 (G : Gt) {a b n : Nat} {E Q : Nat → Nat} {μ : Mm} (h : nwOK μ a b n E Q) (hl : lkE μ a b n E) (hs : lkS μ a b E (2 ^ n)) : EVr G 3 Y_X8_wholeTells [rf G 35, .int (nI 10)] μ (.int (nI (cntN (fun p => decide (poN Q p n ≠ 0) && (!false || blk a b E (poN Q p n))) 6))) := by
  have hn := h.le
  have hpw := p1024 hn
  have hpw1 := ppos n
  have hab := h.ab
  have htl := fun S : Nat => tot_lt (a := a) (b := b) h.g.1 h.g.2.2.1 E S
  refine ev_of (by decide) (Nat.le_of_ble_eq_true rfl) ?_
  show Zs G 3 Y_X8_wholeTells (fnN G _) 0 [(0, rf G 35), (1, .int (nI 10))] [] μ
  refine z_iload_n dX8_wholeTells_0 rfl ?_
  refine z_tsw (tgt := 152) dX8_wholeTells_1 (by decide) (by decide) (by decide) rfl (by decide) ?_
  refine z_aload_n dX8_wholeTells_152 rfl ?_
  refine z_iload_n dX8_wholeTells_153 rfl ?_
  refine z_bipush (v := nI 11) dX8_wholeTells_154 (by decide) ?_
  refine z_icmpN_ne (tgt := 163) dX8_wholeTells_156 (by decide) (by omega) (by omega) (fun c156 => ?_) (fun c156 => absurd c156 (by decide))
  refine z_iconst (v := nI 0) dX8_wholeTells_163 (by decide) ?_
  refine z_cV1 dX8_wholeTells_164 lk_X8_143 (by decide) ⟨by decide, _, rfl⟩ rfl (Nat.le_of_ble_eq_true rfl) (ev_X8_partsThat G h hl hs (z := false)) ?_
  exact z_ret (ty := none) (v := none) rfl dX8_wholeTells_167 ⟨rfl, rfl⟩
set_option maxRecDepth 100000 in
theorem ev_X8_wholeTells_11 (G : Gt) {a b n : Nat} {E Q : Nat → Nat} {μ : Mm} (h : nwOK μ a b n E Q) (hl : lkE μ a b n E) (hs : lkS μ a b E (2 ^ n)) : EVr G 3 Y_X8_wholeTells [rf G 35, .int (nI 11)] μ (.int (nI (cntN (fun p => decide (poN Q p n ≠ 0) && (!true || blk a b E (poN Q p n))) 6))) := by
  have hn := h.le
  have hpw := p1024 hn
  have hpw1 := ppos n
  have hab := h.ab
  have htl := fun S : Nat => tot_lt (a := a) (b := b) h.g.1 h.g.2.2.1 E S
  refine ev_of (by decide) (Nat.le_of_ble_eq_true rfl) ?_
  show Zs G 3 Y_X8_wholeTells (fnN G _) 0 [(0, rf G 35), (1, .int (nI 11))] [] μ
  refine z_iload_n dX8_wholeTells_0 rfl ?_
  refine z_tsw (tgt := 152) dX8_wholeTells_1 (by decide) (by decide) (by decide) rfl (by decide) ?_
  refine z_aload_n dX8_wholeTells_152 rfl ?_
  refine z_iload_n dX8_wholeTells_153 rfl ?_
  refine z_bipush (v := nI 11) dX8_wholeTells_154 (by decide) ?_
  refine z_icmpN_ne (tgt := 163) dX8_wholeTells_156 (by decide) (by omega) (by omega) (fun c156 => absurd rfl c156) (fun c156 => ?_)
  refine z_iconst (v := nI 1) dX8_wholeTells_159 (by decide) ?_
  refine z_goto (tgt := 164) dX8_wholeTells_160 (by decide) ?_
  refine z_cV1 dX8_wholeTells_164 lk_X8_143 (by decide) ⟨by decide, _, rfl⟩ rfl (Nat.le_of_ble_eq_true rfl) (ev_X8_partsThat G h hl hs (z := true)) ?_
  exact z_ret (ty := none) (v := none) rfl dX8_wholeTells_167 ⟨rfl, rfl⟩
set_option maxRecDepth 100000 in
theorem ev_X8_wholeTells_12 (G : Gt) {a b n : Nat} {E Q : Nat → Nat} {μ : Mm} (h : nwOK μ a b n E Q) (hl : lkE μ a b n E) (hs : lkS μ a b E (2 ^ n)) : EVr G 3 Y_X8_wholeTells [rf G 35, .int (nI 12)] μ (.int (nI (cntN (ssN a b E (2 ^ n)).testBit (a * b)))) := by
  have hn := h.le
  have hpw := p1024 hn
  have hpw1 := ppos n
  have hab := h.ab
  have htl := fun S : Nat => tot_lt (a := a) (b := b) h.g.1 h.g.2.2.1 E S
  refine ev_of (by decide) (Nat.le_of_ble_eq_true rfl) ?_
  show Zs G 3 Y_X8_wholeTells (fnN G _) 0 [(0, rf G 35), (1, .int (nI 12))] [] μ
  refine z_iload_n dX8_wholeTells_0 rfl ?_
  refine z_tsw (tgt := 168) dX8_wholeTells_1 (by decide) (by decide) (by decide) rfl (by decide) ?_
  refine z_aload_n dX8_wholeTells_168 rfl ?_
  refine z_cV0 dX8_wholeTells_169 lk_X8_146 (by decide) ⟨by decide, _, rfl⟩ rfl (Nat.le_of_ble_eq_true rfl) (ev_X8_sumMany G h hl hs) ?_
  exact z_ret (ty := none) (v := none) rfl dX8_wholeTells_172 ⟨rfl, rfl⟩
