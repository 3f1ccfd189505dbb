set_option maxRecDepth 100000 in
theorem ev_X7_sum (G : Gt) {a b n : Nat} {E Q : Nat → Nat} {μ : Mm} (hq : seqOK μ 1 a b n E Q) {x y : Nat} (hx : x < a * b) (hy : y < a * b) : EVr G 2 Y_X7_sum [rf G 0, .int (nI x), .int (nI y)] μ (.int (nI (plN a b x y))) := by
  have hn := hq.le
  have hg := hq.g
  have hab := ab_le hg.2.2.2.1 hg.2.2.2.2.2
  have hE : okE a b E n := fun k hk => hq.el hk
  have hpw := p1024 hn
  have hpw1 := ppos n
  have i_x : inR (nI x) (a * b) = true := by rw [inR_N (by omega), decide_eq_true hx]
  have i_y : inR (nI y) (a * b) = true := by rw [inR_N (by omega), decide_eq_true hy]
  refine ev_of (by decide) (Nat.le_of_ble_eq_true rfl) ?_
  show Zs G 2 Y_X7_sum (fnN G _) 0 [(0, rf G 0), (1, .int (nI x)), (2, .int (nI y))] [] μ
  refine z_aload_n dX7_sum_0 rfl ?_
  refine z_getR (j := 1) dX7_sum_1 fl_X7_12 ⟨by decide, _, rfl, rfl⟩ ?_
  refine z_getR (j := 2) dX7_sum_4 fl_X7_56 ⟨by decide, _, rfl, rfl⟩ ?_
  refine z_iload_n dX7_sum_7 rfl ?_
  refine z_cV1 dX7_sum_8 lk_X7_66 (by decide) ⟨by decide, _, rfl⟩ rfl (Nat.le_of_ble_eq_true rfl) (ev_X2_has G (isSeq.g seq1) hg) ?_
  refine z_ifB_eq (tgt := 28) dX7_sum_11 (by decide) (fun c11 => by rw [i_x] at c11; cases c11) (fun c11 => ?_)
  refine z_aload_n dX7_sum_14 rfl ?_
  refine z_getR (j := 1) dX7_sum_15 fl_X7_12 ⟨by decide, _, rfl, rfl⟩ ?_
  refine z_getR (j := 2) dX7_sum_18 fl_X7_56 ⟨by decide, _, rfl, rfl⟩ ?_
  refine z_iload_n dX7_sum_21 rfl ?_
  refine z_cV1 dX7_sum_22 lk_X7_66 (by decide) ⟨by decide, _, rfl⟩ rfl (Nat.le_of_ble_eq_true rfl) (ev_X2_has G (isSeq.g seq1) hg) ?_
  refine z_ifB_ne (tgt := 38) dX7_sum_25 (by decide) (fun c25 => ?_) (fun c25 => by rw [i_y] at c25; cases c25)
  refine z_aload_n dX7_sum_38 rfl ?_
  refine z_getR (j := 1) dX7_sum_39 fl_X7_12 ⟨by decide, _, rfl, rfl⟩ ?_
  refine z_getR (j := 2) dX7_sum_42 fl_X7_56 ⟨by decide, _, rfl, rfl⟩ ?_
  refine z_iload_n dX7_sum_45 rfl ?_
  refine z_iload_n dX7_sum_46 rfl ?_
  refine z_cV2 dX7_sum_47 lk_X7_117 (by decide) ⟨by decide, _, rfl⟩ rfl (Nat.le_of_ble_eq_true rfl) (ev_X2_plus G (isSeq.g seq1) hg hx hy) ?_
  exact z_ret (ty := none) (v := none) rfl dX7_sum_50 ⟨rfl, rfl⟩
set_option maxRecDepth 100000 in
theorem ev_X7_element_0 (G : Gt) {a b n : Nat} {E Q : Nat → Nat} {μ : Mm} (hq : seqOK μ 1 a b n E Q) {x : Nat} (hx : x < a * b) : EVr G 4 Y_X7_element [rf G 0, .int (nI x), .int (nI 0)] μ (.int (nI (ordN a b x))) := by
  have hn := hq.le
  have hg := hq.g
  have hab := ab_le hg.2.2.2.1 hg.2.2.2.2.2
  have hE : okE a b E n := fun k hk => hq.el hk
  have hpw := p1024 hn
  have hpw1 := ppos n
  have i_x : inR (nI x) (a * b) = true := by rw [inR_N (by omega), decide_eq_true hx]
  refine ev_of (by decide) (Nat.le_of_ble_eq_true rfl) ?_
  show Zs G 4 Y_X7_element (fnN G _) 0 [(0, rf G 0), (1, .int (nI x)), (2, .int (nI 0))] [] μ
  refine z_aload_n dX7_element_0 rfl ?_
  refine z_getR (j := 1) dX7_element_1 fl_X7_12 ⟨by decide, _, rfl, rfl⟩ ?_
  refine z_getR (j := 2) dX7_element_4 fl_X7_56 ⟨by decide, _, rfl, rfl⟩ ?_
  refine z_iload_n dX7_element_7 rfl ?_
  refine z_cV1 dX7_element_8 lk_X7_66 (by decide) ⟨by decide, _, rfl⟩ rfl (Nat.le_of_ble_eq_true rfl) (ev_X2_has G (isSeq.g seq1) hg) ?_
  refine z_ifB_ne (tgt := 24) dX7_element_11 (by decide) (fun c11 => ?_) (fun c11 => by rw [i_x] at c11; cases c11)
  refine z_iload_n dX7_element_24 rfl ?_
  refine z_tsw (tgt := 56) dX7_element_25 (by decide) (by decide) (by decide) rfl (by decide) ?_
  refine z_aload_n dX7_element_56 rfl ?_
  refine z_getR (j := 1) dX7_element_57 fl_X7_12 ⟨by decide, _, rfl, rfl⟩ ?_
  refine z_getR (j := 2) dX7_element_60 fl_X7_56 ⟨by decide, _, rfl, rfl⟩ ?_
  refine z_iload_n dX7_element_63 rfl ?_
  refine z_cV1 dX7_element_64 lk_X7_121 (by decide) ⟨by decide, _, rfl⟩ rfl (Nat.le_of_ble_eq_true rfl) (ev_X2_orderOf G (isSeq.g seq1) hg hx) ?_
  exact z_ret (ty := none) (v := none) rfl dX7_element_67 ⟨rfl, rfl⟩
set_option maxRecDepth 100000 in
theorem ev_X7_element_1 (G : Gt) {a b n : Nat} {E Q : Nat → Nat} {μ : Mm} (hq : seqOK μ 1 a b n E Q) {x : Nat} (hx : x < a * b) : EVr G 4 Y_X7_element [rf G 0, .int (nI x), .int (nI 1)] μ (.int (nI (opN a b x))) := by
  have hn := hq.le
  have hg := hq.g
  have hab := ab_le hg.2.2.2.1 hg.2.2.2.2.2
  have hE : okE a b E n := fun k hk => hq.el hk
  have hpw := p1024 hn
  have hpw1 := ppos n
  have i_x : inR (nI x) (a * b) = true := by rw [inR_N (by omega), decide_eq_true hx]
  refine ev_of (by decide) (Nat.le_of_ble_eq_true rfl) ?_
  show Zs G 4 Y_X7_element (fnN G _) 0 [(0, rf G 0), (1, .int (nI x)), (2, .int (nI 1))] [] μ
  refine z_aload_n dX7_element_0 rfl ?_
  refine z_getR (j := 1) dX7_element_1 fl_X7_12 ⟨by decide, _, rfl, rfl⟩ ?_
  refine z_getR (j := 2) dX7_element_4 fl_X7_56 ⟨by decide, _, rfl, rfl⟩ ?_
  refine z_iload_n dX7_element_7 rfl ?_
  refine z_cV1 dX7_element_8 lk_X7_66 (by decide) ⟨by decide, _, rfl⟩ rfl (Nat.le_of_ble_eq_true rfl) (ev_X2_has G (isSeq.g seq1) hg) ?_
  refine z_ifB_ne (tgt := 24) dX7_element_11 (by decide) (fun c11 => ?_) (fun c11 => by rw [i_x] at c11; cases c11)
  refine z_iload_n dX7_element_24 rfl ?_
  refine z_tsw (tgt := 68) dX7_element_25 (by decide) (by decide) (by decide) rfl (by decide) ?_
  refine z_aload_n dX7_element_68 rfl ?_
  refine z_getR (j := 1) dX7_element_69 fl_X7_12 ⟨by decide, _, rfl, rfl⟩ ?_
  refine z_getR (j := 2) dX7_element_72 fl_X7_56 ⟨by decide, _, rfl, rfl⟩ ?_
  refine z_iload_n dX7_element_75 rfl ?_
  refine z_cV1 dX7_element_76 lk_X7_124 (by decide) ⟨by decide, _, rfl⟩ rfl (Nat.le_of_ble_eq_true rfl) (ev_X2_opposite G (isSeq.g seq1) hg hx) ?_
  exact z_ret (ty := none) (v := none) rfl dX7_element_79 ⟨rfl, rfl⟩
set_option maxRecDepth 100000 in
theorem ev_X7_element_2 (G : Gt) {a b n : Nat} {E Q : Nat → Nat} {μ : Mm} (hq : seqOK μ 1 a b n E Q) {x : Nat} (hx : x < a * b) : EVr G 4 Y_X7_element [rf G 0, .int (nI x), .int (nI 2)] μ (.int (nI (toN E x (2 ^ n - 1) n))) := by
  have hn := hq.le
  have hg := hq.g
  have hab := ab_le hg.2.2.2.1 hg.2.2.2.2.2
  have hE : okE a b E n := fun k hk => hq.el hk
  have hpw := p1024 hn
  have hpw1 := ppos n
  have i_x : inR (nI x) (a * b) = true := by rw [inR_N (by omega), decide_eq_true hx]
  refine ev_of (by decide) (Nat.le_of_ble_eq_true rfl) ?_
  show Zs G 4 Y_X7_element (fnN G _) 0 [(0, rf G 0), (1, .int (nI x)), (2, .int (nI 2))] [] μ
  refine z_aload_n dX7_element_0 rfl ?_
  refine z_getR (j := 1) dX7_element_1 fl_X7_12 ⟨by decide, _, rfl, rfl⟩ ?_
  refine z_getR (j := 2) dX7_element_4 fl_X7_56 ⟨by decide, _, rfl, rfl⟩ ?_
  refine z_iload_n dX7_element_7 rfl ?_
  refine z_cV1 dX7_element_8 lk_X7_66 (by decide) ⟨by decide, _, rfl⟩ rfl (Nat.le_of_ble_eq_true rfl) (ev_X2_has G (isSeq.g seq1) hg) ?_
  refine z_ifB_ne (tgt := 24) dX7_element_11 (by decide) (fun c11 => ?_) (fun c11 => by rw [i_x] at c11; cases c11)
  refine z_iload_n dX7_element_24 rfl ?_
  refine z_tsw (tgt := 80) dX7_element_25 (by decide) (by decide) (by decide) rfl (by decide) ?_
  refine z_aload_n dX7_element_80 rfl ?_
  refine z_getR (j := 1) dX7_element_81 fl_X7_12 ⟨by decide, _, rfl, rfl⟩ ?_
  refine z_iload_n dX7_element_84 rfl ?_
  refine z_aload_n dX7_element_85 rfl ?_
  refine z_getR (j := 1) dX7_element_86 fl_X7_12 ⟨by decide, _, rfl, rfl⟩ ?_
  refine z_cV0 dX7_element_89 lk_X7_127 (by decide) ⟨by decide, _, rfl⟩ rfl (Nat.le_of_ble_eq_true rfl) (ev_X4_allPlaces G seq1 hq) ?_
  refine z_cV2 dX7_element_92 lk_X7_130 (by decide) ⟨by decide, _, rfl⟩ rfl (Nat.le_of_ble_eq_true rfl) (ev_X4_timesOf G seq1 hq (by omega) (by omega)) ?_
  exact z_ret (ty := none) (v := none) rfl dX7_element_95 ⟨rfl, rfl⟩
set_option maxRecDepth 100000 in
theorem ev_X7_element_3 (G : Gt) {a b n : Nat} {E Q : Nat → Nat} {μ : Mm} (hq : seqOK μ 1 a b n E Q) {x : Nat} (hx : x < a * b) : EVr G 4 Y_X7_element [rf G 0, .int (nI x), .int (nI 3)] μ (.int (bI ((suN a b E n).testBit x))) := by
  have hn := hq.le
  have hg := hq.g
  have hab := ab_le hg.2.2.2.1 hg.2.2.2.2.2
  have hE : okE a b E n := fun k hk => hq.el hk
  have hpw := p1024 hn
  have hpw1 := ppos n
  have i_x : inR (nI x) (a * b) = true := by rw [inR_N (by omega), decide_eq_true hx]
  have hsu := suN_lt hg.2.2.1 hg.2.2.2.2.1 hab hE n (Nat.le_refl _)
  refine ev_of (by decide) (Nat.le_of_ble_eq_true rfl) ?_
  show Zs G 4 Y_X7_element (fnN G _) 0 [(0, rf G 0), (1, .int (nI x)), (2, .int (nI 3))] [] μ
  refine z_aload_n dX7_element_0 rfl ?_
  refine z_getR (j := 1) dX7_element_1 fl_X7_12 ⟨by decide, _, rfl, rfl⟩ ?_
  refine z_getR (j := 2) dX7_element_4 fl_X7_56 ⟨by decide, _, rfl, rfl⟩ ?_
  refine z_iload_n dX7_element_7 rfl ?_
  refine z_cV1 dX7_element_8 lk_X7_66 (by decide) ⟨by decide, _, rfl⟩ rfl (Nat.le_of_ble_eq_true rfl) (ev_X2_has G (isSeq.g seq1) hg) ?_
  refine z_ifB_ne (tgt := 24) dX7_element_11 (by decide) (fun c11 => ?_) (fun c11 => by rw [i_x] at c11; cases c11)
  refine z_iload_n dX7_element_24 rfl ?_
  refine z_tsw (tgt := 96) dX7_element_25 (by decide) (by decide) (by decide) rfl (by decide) ?_
  refine z_aload_n dX7_element_96 rfl ?_
  refine z_cV0 dX7_element_97 lk_X7_133 (by decide) ⟨by decide, _, rfl⟩ rfl (Nat.le_of_ble_eq_true rfl) (ev_X7_sums G hq) ?_
  refine z_iload_n dX7_element_100 rfl ?_
  refine z_cS2 dX7_element_101 lk_X7_137 (by decide) (Nat.le_of_ble_eq_true rfl) (ev_X7_contains G (by omega) (by omega)) ?_
  refine z_ifB_eq (tgt := 111) dX7_element_104 (by decide) (fun c104 => ?_) (fun c104 => ?_)
  · refine z_iconst (v := nI 0) dX7_element_111 (by decide) ?_
    exact z_ret (ty := none) (v := none) rfl dX7_element_112 ⟨by rw [c104]; rfl, rfl⟩
  · refine z_iconst (v := nI 1) dX7_element_107 (by decide) ?_
    refine z_goto (tgt := 112) dX7_element_108 (by decide) ?_
    exact z_ret (ty := none) (v := none) rfl dX7_element_112 ⟨by rw [c104]; rfl, rfl⟩
set_option maxRecDepth 100000 in
theorem ev_X7_at_0 (G : Gt) {a b n : Nat} {E Q : Nat → Nat} {μ : Mm} (hq : seqOK μ 1 a b n E Q) (ht : tabX μ) {p : Nat} (hp : p < n) : EVq G 5 Y_X7_at [rf G 0, .int (nI p), .int (nI 0)] μ (.int (nI (E p))) := by
  have hn := hq.le
  have hg := hq.g
  have hab := ab_le hg.2.2.2.1 hg.2.2.2.2.2
  have hE : okE a b E n := fun k hk => hq.el hk
  have hpw := p1024 hn
  have hpw1 := ppos n
  have i_p : inR (nI p) n = true := by rw [inR_N (by omega), decide_eq_true hp]
  have hp2 := p1024 (show p ≤ 10 by omega)
  refine ev_of (by decide) (Nat.le_of_ble_eq_true rfl) ?_
  show Zs G 5 Y_X7_at (fnN G _) 0 [(0, rf G 0), (1, .int (nI p)), (2, .int (nI 0))] [] μ
  refine z_aload_n dX7_at_0 rfl ?_
  refine z_getR (j := 1) dX7_at_1 fl_X7_12 ⟨by decide, _, rfl, rfl⟩ ?_
  refine z_iload_n dX7_at_4 rfl ?_
  refine z_cV1 dX7_at_5 lk_X7_91 (by decide) ⟨by decide, _, rfl⟩ rfl (Nat.le_of_ble_eq_true rfl) (ev_X4_hasPlace G seq1 hq) ?_
  refine z_ifB_ne (tgt := 21) dX7_at_8 (by decide) (fun c8 => ?_) (fun c8 => by rw [i_p] at c8; cases c8)
  refine z_iload_n dX7_at_21 rfl ?_
  refine z_tsw (tgt := 52) dX7_at_22 (by decide) (by decide) (by decide) rfl (by decide) ?_
  refine z_aload_n dX7_at_52 rfl ?_
  refine z_getR (j := 1) dX7_at_53 fl_X7_12 ⟨by decide, _, rfl, rfl⟩ ?_
  refine z_getR (j := 3) dX7_at_56 fl_X7_149 ⟨by decide, _, rfl, rfl⟩ ?_
  refine z_iload_n dX7_at_59 rfl ?_
  refine z_ialdN dX7_at_60 ⟨by decide, rfl⟩ (by omega) (by decide) (hq.e hp) ?_
  exact z_ret (ty := none) (v := none) rfl dX7_at_61 ⟨rfl, sm.rf, ht⟩
set_option maxRecDepth 100000 in
theorem ev_X7_at_1 (G : Gt) {a b n : Nat} {E Q : Nat → Nat} {μ : Mm} (hq : seqOK μ 1 a b n E Q) (ht : tabX μ) {p : Nat} (hp : p < n) : EVq G 5 Y_X7_at [rf G 0, .int (nI p), .int (nI 1)] μ (.int (nI (Q p))) := by
  have hn := hq.le
  have hg := hq.g
  have hab := ab_le hg.2.2.2.1 hg.2.2.2.2.2
  have hE : okE a b E n := fun k hk => hq.el hk
  have hpw := p1024 hn
  have hpw1 := ppos n
  have i_p : inR (nI p) n = true := by rw [inR_N (by omega), decide_eq_true hp]
  have hp2 := p1024 (show p ≤ 10 by omega)
  refine ev_of (by decide) (Nat.le_of_ble_eq_true rfl) ?_
  show Zs G 5 Y_X7_at (fnN G _) 0 [(0, rf G 0), (1, .int (nI p)), (2, .int (nI 1))] [] μ
  refine z_aload_n dX7_at_0 rfl ?_
  refine z_getR (j := 1) dX7_at_1 fl_X7_12 ⟨by decide, _, rfl, rfl⟩ ?_
  refine z_iload_n dX7_at_4 rfl ?_
  refine z_cV1 dX7_at_5 lk_X7_91 (by decide) ⟨by decide, _, rfl⟩ rfl (Nat.le_of_ble_eq_true rfl) (ev_X4_hasPlace G seq1 hq) ?_
  refine z_ifB_ne (tgt := 21) dX7_at_8 (by decide) (fun c8 => ?_) (fun c8 => by rw [i_p] at c8; cases c8)
  refine z_iload_n dX7_at_21 rfl ?_
  refine z_tsw (tgt := 62) dX7_at_22 (by decide) (by decide) (by decide) rfl (by decide) ?_
  refine z_aload_n dX7_at_62 rfl ?_
  refine z_getR (j := 1) dX7_at_63 fl_X7_12 ⟨by decide, _, rfl, rfl⟩ ?_
  refine z_getR (j := 4) dX7_at_66 fl_X7_105 ⟨by decide, _, rfl, rfl⟩ ?_
  refine z_iload_n dX7_at_69 rfl ?_
  refine z_ialdN dX7_at_70 ⟨by decide, rfl⟩ (by omega) (by decide) (hq.p hp) ?_
  exact z_ret (ty := none) (v := none) rfl dX7_at_71 ⟨rfl, sm.rf, ht⟩
set_option maxRecDepth 100000 in
theorem ev_X7_at_2 (G : Gt) {a b n : Nat} {E Q : Nat → Nat} {μ : Mm} (hq : seqOK μ 1 a b n E Q) (ht : tabX μ) {p : Nat} (hp : p < n) : EVq G 5 Y_X7_at [rf G 0, .int (nI p), .int (nI 2)] μ (.int (nI (cntN (fun B => blk a b E B && B.testBit p) (2 ^ n)))) := by
  have hn := hq.le
  have hg := hq.g
  have hab := ab_le hg.2.2.2.1 hg.2.2.2.2.2
  have hE : okE a b E n := fun k hk => hq.el hk
  have hpw := p1024 hn
  have hpw1 := ppos n
  have i_p : inR (nI p) n = true := by rw [inR_N (by omega), decide_eq_true hp]
  have hp2 := p1024 (show p ≤ 10 by omega)
  refine ev_of (by decide) (Nat.le_of_ble_eq_true rfl) ?_
  show Zs G 5 Y_X7_at (fnN G _) 0 [(0, rf G 0), (1, .int (nI p)), (2, .int (nI 2))] [] μ
  refine z_aload_n dX7_at_0 rfl ?_
  refine z_getR (j := 1) dX7_at_1 fl_X7_12 ⟨by decide, _, rfl, rfl⟩ ?_
  refine z_iload_n dX7_at_4 rfl ?_
  refine z_cV1 dX7_at_5 lk_X7_91 (by decide) ⟨by decide, _, rfl⟩ rfl (Nat.le_of_ble_eq_true rfl) (ev_X4_hasPlace G seq1 hq) ?_
  refine z_ifB_ne (tgt := 21) dX7_at_8 (by decide) (fun c8 => ?_) (fun c8 => by rw [i_p] at c8; cases c8)
  refine z_iload_n dX7_at_21 rfl ?_
  refine z_tsw (tgt := 72) dX7_at_22 (by decide) (by decide) (by decide) rfl (by decide) ?_
  refine z_aload_n dX7_at_72 rfl ?_
  refine z_getR (j := 23) dX7_at_73 fl_X7_26 ⟨by decide, _, rfl, rfl⟩ ?_
  refine z_aload_n dX7_at_76 rfl ?_
  refine z_getR (j := 1) dX7_at_77 fl_X7_12 ⟨by decide, _, rfl, rfl⟩ ?_
  refine z_cV1g dX7_at_80 lk_X7_152 (by decide) ⟨by decide, _, rfl⟩ rfl (Nat.le_of_ble_eq_true rfl) (ev_fol G hq ht) ?_
  rintro v u ⟨rfl, hs, w, h⟩
  have hq := hq.same hs (by omega)
  refine z_iload_n dX7_at_83 rfl ?_
  refine z_cV1 dX7_at_84 lk_X7_156 (by decide) ⟨by decide, _, rfl⟩ rfl (Nat.le_of_ble_eq_true rfl) (ev_X5_countBlocksAt G h (by omega)) ?_
  exact z_ret (ty := none) (v := none) rfl dX7_at_87 ⟨rfl, hs, h.x⟩
set_option maxRecDepth 100000 in
theorem ev_X7_at_3 (G : Gt) {a b n : Nat} {E Q : Nat → Nat} {μ : Mm} (hq : seqOK μ 1 a b n E Q) (ht : tabX μ) {p : Nat} (hp : p < n) : EVq G 5 Y_X7_at [rf G 0, .int (nI p), .int (nI 3)] μ (.int (nI (smA (cPl a b E (2 ^ p)) (2 ^ n)))) := by
  have hn := hq.le
  have hg := hq.g
  have hab := ab_le hg.2.2.2.1 hg.2.2.2.2.2
  have hE : okE a b E n := fun k hk => hq.el hk
  have hpw := p1024 hn
  have hpw1 := ppos n
  have i_p : inR (nI p) n = true := by rw [inR_N (by omega), decide_eq_true hp]
  have hp2 := p1024 (show p ≤ 10 by omega)
  refine ev_of (by decide) (Nat.le_of_ble_eq_true rfl) ?_
  show Zs G 5 Y_X7_at (fnN G _) 0 [(0, rf G 0), (1, .int (nI p)), (2, .int (nI 3))] [] μ
  refine z_aload_n dX7_at_0 rfl ?_
  refine z_getR (j := 1) dX7_at_1 fl_X7_12 ⟨by decide, _, rfl, rfl⟩ ?_
  refine z_iload_n dX7_at_4 rfl ?_
  refine z_cV1 dX7_at_5 lk_X7_91 (by decide) ⟨by decide, _, rfl⟩ rfl (Nat.le_of_ble_eq_true rfl) (ev_X4_hasPlace G seq1 hq) ?_
  refine z_ifB_ne (tgt := 21) dX7_at_8 (by decide) (fun c8 => ?_) (fun c8 => by rw [i_p] at c8; cases c8)
  refine z_iload_n dX7_at_21 rfl ?_
  refine z_tsw (tgt := 88) dX7_at_22 (by decide) (by decide) (by decide) rfl (by decide) ?_
  refine z_aload_n dX7_at_88 rfl ?_
  refine z_getR (j := 23) dX7_at_89 fl_X7_26 ⟨by decide, _, rfl, rfl⟩ ?_
  refine z_aload_n dX7_at_92 rfl ?_
  refine z_getR (j := 1) dX7_at_93 fl_X7_12 ⟨by decide, _, rfl, rfl⟩ ?_
  refine z_cV1g dX7_at_96 lk_X7_152 (by decide) ⟨by decide, _, rfl⟩ rfl (Nat.le_of_ble_eq_true rfl) (ev_fol G hq ht) ?_
  rintro v u ⟨rfl, hs, w, h⟩
  have hq := hq.same hs (by omega)
  refine z_iconst (v := nI 1) dX7_at_99 (by decide) ?_
  refine z_iload_n dX7_at_100 rfl ?_
  refine z_ishlN dX7_at_101 (by omega) (by omega) ?_
  rw [Nat.one_mul]
  have hp3 : 2 ^ p < 2 ^ n := Nat.pow_lt_pow_right (by decide) hp
  refine z_cV1 dX7_at_102 lk_X7_159 (by decide) ⟨by decide, _, rfl⟩ rfl (Nat.le_of_ble_eq_true rfl) (ev_X5_smallestBlock G h (by omega)) ?_
  exact z_ret (ty := none) (v := none) rfl dX7_at_105 ⟨rfl, hs, h.x⟩
set_option maxRecDepth 100000 in
theorem ev_X7_set_0 (G : Gt) {a b n : Nat} {E Q : Nat → Nat} {μ : Mm} (hq : seqOK μ 1 a b n E Q) (ht : tabX μ) {S : Nat} (hS : S < 2 ^ n) : EVq G 5 Y_X7_set [rf G 0, .int (nI S), .int (nI 0)] μ (.int (nI (pcN S))) := by
  have hn := hq.le
  have hg := hq.g
  have hab := ab_le hg.2.2.2.1 hg.2.2.2.2.2
  have hE : okE a b E n := fun k hk => hq.el hk
  have hpw := p1024 hn
  have hpw1 := ppos n
  have i_S : inR (nI S) (2 ^ n) = true := by rw [inR_N (by omega), decide_eq_true hS]
  refine ev_of (by decide) (Nat.le_of_ble_eq_true rfl) ?_
  show Zs G 5 Y_X7_set (fnN G _) 0 [(0, rf G 0), (1, .int (nI S)), (2, .int (nI 0))] [] μ
  refine z_aload_n dX7_set_0 rfl ?_
  refine z_getR (j := 1) dX7_set_1 fl_X7_12 ⟨by decide, _, rfl, rfl⟩ ?_
  refine z_iload_n dX7_set_4 rfl ?_
  refine z_cV1 dX7_set_5 lk_X7_162 (by decide) ⟨by decide, _, rfl⟩ rfl (Nat.le_of_ble_eq_true rfl) (ev_X4_hasPlaces G seq1 hq) ?_
  refine z_ifB_ne (tgt := 21) dX7_set_8 (by decide) (fun c8 => ?_) (fun c8 => by rw [i_S] at c8; cases c8)
  refine z_iload_n dX7_set_21 rfl ?_
  refine z_tsw (tgt := 60) dX7_set_22 (by decide) (by decide) (by decide) rfl (by decide) ?_
  refine z_iload_n dX7_set_60 rfl ?_
  refine z_cS1 dX7_set_61 lk_X7_167 (by decide) (Nat.le_of_ble_eq_true rfl) (ev_J6_bitCount_0f7a4 G (by omega)) ?_
  exact z_ret (ty := none) (v := none) rfl dX7_set_64 ⟨rfl, sm.rf, ht⟩
set_option maxRecDepth 100000 in
theorem ev_X7_set_1 (G : Gt) {a b n : Nat} {E Q : Nat → Nat} {μ : Mm} (hq : seqOK μ 1 a b n E Q) (ht : tabX μ) {S : Nat} (hS : S < 2 ^ n) : EVq G 5 Y_X7_set [rf G 0, .int (nI S), .int (nI 1)] μ (.int (nI (tot a b E S))) := by
  have hn := hq.le
  have hg := hq.g
  have hab := ab_le hg.2.2.2.1 hg.2.2.2.2.2
  have hE : okE a b E n := fun k hk => hq.el hk
  have hpw := p1024 hn
  have hpw1 := ppos n
  have i_S : inR (nI S) (2 ^ n) = true := by rw [inR_N (by omega), decide_eq_true hS]
  refine ev_of (by decide) (Nat.le_of_ble_eq_true rfl) ?_
  show Zs G 5 Y_X7_set (fnN G _) 0 [(0, rf G 0), (1, .int (nI S)), (2, .int (nI 1))] [] μ
  refine z_aload_n dX7_set_0 rfl ?_
  refine z_getR (j := 1) dX7_set_1 fl_X7_12 ⟨by decide, _, rfl, rfl⟩ ?_
  refine z_iload_n dX7_set_4 rfl ?_
  refine z_cV1 dX7_set_5 lk_X7_162 (by decide) ⟨by decide, _, rfl⟩ rfl (Nat.le_of_ble_eq_true rfl) (ev_X4_hasPlaces G seq1 hq) ?_
  refine z_ifB_ne (tgt := 21) dX7_set_8 (by decide) (fun c8 => ?_) (fun c8 => by rw [i_S] at c8; cases c8)
  refine z_iload_n dX7_set_21 rfl ?_
  refine z_tsw (tgt := 65) dX7_set_22 (by decide) (by decide) (by decide) rfl (by decide) ?_
  refine z_aload_n dX7_set_65 rfl ?_
  refine z_getR (j := 23) dX7_set_66 fl_X7_26 ⟨by decide, _, rfl, rfl⟩ ?_
  refine z_aload_n dX7_set_69 rfl ?_
  refine z_getR (j := 1) dX7_set_70 fl_X7_12 ⟨by decide, _, rfl, rfl⟩ ?_
  refine z_cV1g dX7_set_73 lk_X7_152 (by decide) ⟨by decide, _, rfl⟩ rfl (Nat.le_of_ble_eq_true rfl) (ev_fol G hq ht) ?_
  rintro v u ⟨rfl, hs, w, h⟩
  have hq := hq.same hs (by omega)
  refine z_iload_n dX7_set_76 rfl ?_
  refine z_cV1 dX7_set_77 lk_X7_172 (by decide) ⟨by decide, _, rfl⟩ rfl (Nat.le_of_ble_eq_true rfl) (ev_X5_totalOf G h hS) ?_
  exact z_ret (ty := none) (v := none) rfl dX7_set_80 ⟨rfl, hs, h.x⟩
set_option maxRecDepth 100000 in
theorem ev_X7_set_2 (G : Gt) {a b n : Nat} {E Q : Nat → Nat} {μ : Mm} (hq : seqOK μ 1 a b n E Q) (ht : tabX μ) {S : Nat} (hS : S < 2 ^ n) : EVq G 5 Y_X7_set [rf G 0, .int (nI S), .int (nI 2)] μ (.int (bI (blk a b E S))) := by
  have hn := hq.le
  have hg := hq.g
  have hab := ab_le hg.2.2.2.1 hg.2.2.2.2.2
  have hE : okE a b E n := fun k hk => hq.el hk
  have hpw := p1024 hn
  have hpw1 := ppos n
  have i_S : inR (nI S) (2 ^ n) = true := by rw [inR_N (by omega), decide_eq_true hS]
  refine ev_of (by decide) (Nat.le_of_ble_eq_true rfl) ?_
  show Zs G 5 Y_X7_set (fnN G _) 0 [(0, rf G 0), (1, .int (nI S)), (2, .int (nI 2))] [] μ
  refine z_aload_n dX7_set_0 rfl ?_
  refine z_getR (j := 1) dX7_set_1 fl_X7_12 ⟨by decide, _, rfl, rfl⟩ ?_
  refine z_iload_n dX7_set_4 rfl ?_
  refine z_cV1 dX7_set_5 lk_X7_162 (by decide) ⟨by decide, _, rfl⟩ rfl (Nat.le_of_ble_eq_true rfl) (ev_X4_hasPlaces G seq1 hq) ?_
  refine z_ifB_ne (tgt := 21) dX7_set_8 (by decide) (fun c8 => ?_) (fun c8 => by rw [i_S] at c8; cases c8)
  refine z_iload_n dX7_set_21 rfl ?_
  refine z_tsw (tgt := 81) dX7_set_22 (by decide) (by decide) (by decide) rfl (by decide) ?_
  refine z_aload_n dX7_set_81 rfl ?_
  refine z_getR (j := 23) dX7_set_82 fl_X7_26 ⟨by decide, _, rfl, rfl⟩ ?_
  refine z_aload_n dX7_set_85 rfl ?_
  refine z_getR (j := 1) dX7_set_86 fl_X7_12 ⟨by decide, _, rfl, rfl⟩ ?_
  refine z_cV1g dX7_set_89 lk_X7_152 (by decide) ⟨by decide, _, rfl⟩ rfl (Nat.le_of_ble_eq_true rfl) (ev_fol G hq ht) ?_
  rintro v u ⟨rfl, hs, w, h⟩
  have hq := hq.same hs (by omega)
  refine z_iload_n dX7_set_92 rfl ?_
  refine z_cV1 dX7_set_93 lk_X7_175 (by decide) ⟨by decide, _, rfl⟩ rfl (Nat.le_of_ble_eq_true rfl) (ev_X5_isBlock G h hS) ?_
  refine z_ifB_eq (tgt := 103) dX7_set_96 (by decide) (fun c96 => ?_) (fun c96 => ?_)
  · refine z_iconst (v := nI 0) dX7_set_103 (by decide) ?_
    exact z_ret (ty := none) (v := none) rfl dX7_set_104 ⟨by rw [c96]; rfl, hs, h.x⟩
  · refine z_iconst (v := nI 1) dX7_set_99 (by decide) ?_
    refine z_goto (tgt := 104) dX7_set_100 (by decide) ?_
    exact z_ret (ty := none) (v := none) rfl dX7_set_104 ⟨by rw [c96]; rfl, hs, h.x⟩
set_option maxRecDepth 100000 in
theorem ev_X7_set_3 (G : Gt) {a b n : Nat} {E Q : Nat → Nat} {μ : Mm} (hq : seqOK μ 1 a b n E Q) (ht : tabX μ) {S : Nat} (hS : S < 2 ^ n) : EVq G 5 Y_X7_set [rf G 0, .int (nI S), .int (nI 3)] μ (.int (nI (lenN a b E S))) := by
  have hn := hq.le
  have hg := hq.g
  have hab := ab_le hg.2.2.2.1 hg.2.2.2.2.2
  have hE : okE a b E n := fun k hk => hq.el hk
  have hpw := p1024 hn
  have hpw1 := ppos n
  have i_S : inR (nI S) (2 ^ n) = true := by rw [inR_N (by omega), decide_eq_true hS]
  refine ev_of (by decide) (Nat.le_of_ble_eq_true rfl) ?_
  show Zs G 5 Y_X7_set (fnN G _) 0 [(0, rf G 0), (1, .int (nI S)), (2, .int (nI 3))] [] μ
  refine z_aload_n dX7_set_0 rfl ?_
  refine z_getR (j := 1) dX7_set_1 fl_X7_12 ⟨by decide, _, rfl, rfl⟩ ?_
  refine z_iload_n dX7_set_4 rfl ?_
  refine z_cV1 dX7_set_5 lk_X7_162 (by decide) ⟨by decide, _, rfl⟩ rfl (Nat.le_of_ble_eq_true rfl) (ev_X4_hasPlaces G seq1 hq) ?_
  refine z_ifB_ne (tgt := 21) dX7_set_8 (by decide) (fun c8 => ?_) (fun c8 => by rw [i_S] at c8; cases c8)
  refine z_iload_n dX7_set_21 rfl ?_
  refine z_tsw (tgt := 105) dX7_set_22 (by decide) (by decide) (by decide) rfl (by decide) ?_
  refine z_aload_n dX7_set_105 rfl ?_
  refine z_getR (j := 23) dX7_set_106 fl_X7_26 ⟨by decide, _, rfl, rfl⟩ ?_
  refine z_aload_n dX7_set_109 rfl ?_
  refine z_getR (j := 1) dX7_set_110 fl_X7_12 ⟨by decide, _, rfl, rfl⟩ ?_
  refine z_cV1g dX7_set_113 lk_X7_152 (by decide) ⟨by decide, _, rfl⟩ rfl (Nat.le_of_ble_eq_true rfl) (ev_fol G hq ht) ?_
  rintro v u ⟨rfl, hs, w, h⟩
  have hq := hq.same hs (by omega)
  refine z_iload_n dX7_set_116 rfl ?_
  refine z_cV1g dX7_set_117 lk_X7_178 (by decide) ⟨by decide, _, rfl⟩ rfl (Nat.le_of_ble_eq_true rfl) (ev_X5_lengthsOf G h hS) ?_
  rintro v u2 ⟨rfl, hs2, h2⟩
  exact z_ret (ty := none) (v := none) rfl dX7_set_120 ⟨rfl, hs.trans hs2, h2.x⟩
set_option maxRecDepth 100000 in
theorem ev_X7_set_4 (G : Gt) {a b n : Nat} {E Q : Nat → Nat} {μ : Mm} (hq : seqOK μ 1 a b n E Q) (ht : tabX μ) {S : Nat} (hS : S < 2 ^ n) : EVq G 5 Y_X7_set [rf G 0, .int (nI S), .int (nI 4)] μ (.int (nI (splN a b E S))) := by
  have hn := hq.le
  have hg := hq.g
  have hab := ab_le hg.2.2.2.1 hg.2.2.2.2.2
  have hE : okE a b E n := fun k hk => hq.el hk
  have hpw := p1024 hn
  have hpw1 := ppos n
  have i_S : inR (nI S) (2 ^ n) = true := by rw [inR_N (by omega), decide_eq_true hS]
  refine ev_of (by decide) (Nat.le_of_ble_eq_true rfl) ?_
  show Zs G 5 Y_X7_set (fnN G _) 0 [(0, rf G 0), (1, .int (nI S)), (2, .int (nI 4))] [] μ
  refine z_aload_n dX7_set_0 rfl ?_
  refine z_getR (j := 1) dX7_set_1 fl_X7_12 ⟨by decide, _, rfl, rfl⟩ ?_
  refine z_iload_n dX7_set_4 rfl ?_
  refine z_cV1 dX7_set_5 lk_X7_162 (by decide) ⟨by decide, _, rfl⟩ rfl (Nat.le_of_ble_eq_true rfl) (ev_X4_hasPlaces G seq1 hq) ?_
  refine z_ifB_ne (tgt := 21) dX7_set_8 (by decide) (fun c8 => ?_) (fun c8 => by rw [i_S] at c8; cases c8)
  refine z_iload_n dX7_set_21 rfl ?_
  refine z_tsw (tgt := 121) dX7_set_22 (by decide) (by decide) (by decide) rfl (by decide) ?_
  refine z_aload_n dX7_set_121 rfl ?_
  refine z_getR (j := 23) dX7_set_122 fl_X7_26 ⟨by decide, _, rfl, rfl⟩ ?_
  refine z_aload_n dX7_set_125 rfl ?_
  refine z_getR (j := 1) dX7_set_126 fl_X7_12 ⟨by decide, _, rfl, rfl⟩ ?_
  refine z_cV1g dX7_set_129 lk_X7_152 (by decide) ⟨by decide, _, rfl⟩ rfl (Nat.le_of_ble_eq_true rfl) (ev_fol G hq ht) ?_
  rintro v u ⟨rfl, hs, w, h⟩
  have hq := hq.same hs (by omega)
  refine z_iload_n dX7_set_132 rfl ?_
  refine z_cV1g dX7_set_133 lk_X7_181 (by decide) ⟨by decide, _, rfl⟩ rfl (Nat.le_of_ble_eq_true rfl) (ev_X5_splitsOf G h hS) ?_
  rintro v u2 ⟨rfl, hs2, h2⟩
  exact z_ret (ty := none) (v := none) rfl dX7_set_136 ⟨rfl, hs.trans hs2, h2.x⟩
set_option maxRecDepth 100000 in
theorem ev_X7_set_5 (G : Gt) {a b n : Nat} {E Q : Nat → Nat} {μ : Mm} (hq : seqOK μ 1 a b n E Q) (ht : tabX μ) {S : Nat} (hS : S < 2 ^ n) : EVq G 5 Y_X7_set [rf G 0, .int (nI S), .int (nI 5)] μ (.int (nI (cntN (fun B => blk a b E B && sb B S) (2 ^ n)))) := by
  have hn := hq.le
  have hg := hq.g
  have hab := ab_le hg.2.2.2.1 hg.2.2.2.2.2
  have hE : okE a b E n := fun k hk => hq.el hk
  have hpw := p1024 hn
  have hpw1 := ppos n
  have i_S : inR (nI S) (2 ^ n) = true := by rw [inR_N (by omega), decide_eq_true hS]
  refine ev_of (by decide) (Nat.le_of_ble_eq_true rfl) ?_
  show Zs G 5 Y_X7_set (fnN G _) 0 [(0, rf G 0), (1, .int (nI S)), (2, .int (nI 5))] [] μ
  refine z_aload_n dX7_set_0 rfl ?_
  refine z_getR (j := 1) dX7_set_1 fl_X7_12 ⟨by decide, _, rfl, rfl⟩ ?_
  refine z_iload_n dX7_set_4 rfl ?_
  refine z_cV1 dX7_set_5 lk_X7_162 (by decide) ⟨by decide, _, rfl⟩ rfl (Nat.le_of_ble_eq_true rfl) (ev_X4_hasPlaces G seq1 hq) ?_
  refine z_ifB_ne (tgt := 21) dX7_set_8 (by decide) (fun c8 => ?_) (fun c8 => by rw [i_S] at c8; cases c8)
  refine z_iload_n dX7_set_21 rfl ?_
  refine z_tsw (tgt := 137) dX7_set_22 (by decide) (by decide) (by decide) rfl (by decide) ?_
  refine z_aload_n dX7_set_137 rfl ?_
  refine z_getR (j := 23) dX7_set_138 fl_X7_26 ⟨by decide, _, rfl, rfl⟩ ?_
  refine z_aload_n dX7_set_141 rfl ?_
  refine z_getR (j := 1) dX7_set_142 fl_X7_12 ⟨by decide, _, rfl, rfl⟩ ?_
  refine z_cV1g dX7_set_145 lk_X7_152 (by decide) ⟨by decide, _, rfl⟩ rfl (Nat.le_of_ble_eq_true rfl) (ev_fol G hq ht) ?_
  rintro v u ⟨rfl, hs, w, h⟩
  have hq := hq.same hs (by omega)
  refine z_iload_n dX7_set_148 rfl ?_
  refine z_cV1 dX7_set_149 lk_X7_184 (by decide) ⟨by decide, _, rfl⟩ rfl (Nat.le_of_ble_eq_true rfl) (ev_X5_countBlocksIn G h (by omega)) ?_
  exact z_ret (ty := none) (v := none) rfl dX7_set_152 ⟨rfl, hs, h.x⟩
set_option maxRecDepth 100000 in
theorem ev_X7_block (G : Gt) {a b n : Nat} {E Q : Nat → Nat} {μ : Mm} (hq : seqOK μ 1 a b n E Q) (ht : tabX μ) {i : Nat} (hi : i < 2 ^ 31) : EVq G 5 Y_X7_block [rf G 0, .int (nI i)] μ (.int (oI (nthN (blk a b E) i (2 ^ n)))) := by
  have hn := hq.le
  have hg := hq.g
  have hab := ab_le hg.2.2.2.1 hg.2.2.2.2.2
  have hE : okE a b E n := fun k hk => hq.el hk
  have hpw := p1024 hn
  have hpw1 := ppos n
  refine ev_of (by decide) (Nat.le_of_ble_eq_true rfl) ?_
  show Zs G 5 Y_X7_block (fnN G _) 0 [(0, rf G 0), (1, .int (nI i))] [] μ
  refine z_iload_n dX7_block_0 rfl ?_
  refine z_ifN_ge (tgt := 14) dX7_block_1 (by decide) (by omega) ?_
  refine z_aload_n dX7_block_14 rfl ?_
  refine z_getR (j := 23) dX7_block_15 fl_X7_26 ⟨by decide, _, rfl, rfl⟩ ?_
  refine z_aload_n dX7_block_18 rfl ?_
  refine z_getR (j := 1) dX7_block_19 fl_X7_12 ⟨by decide, _, rfl, rfl⟩ ?_
  refine z_cV1g dX7_block_22 lk_X7_152 (by decide) ⟨by decide, _, rfl⟩ rfl (Nat.le_of_ble_eq_true rfl) (ev_fol G hq ht) ?_
  rintro v u ⟨rfl, hs, w, h⟩
  have hq := hq.same hs (by omega)
  refine z_iload_n dX7_block_25 rfl ?_
  refine z_cV1 dX7_block_26 lk_X7_191 (by decide) ⟨by decide, _, rfl⟩ rfl (Nat.le_of_ble_eq_true rfl) (ev_X5_blockOrNone G h hi) ?_
  exact z_ret (ty := none) (v := none) rfl dX7_block_29 ⟨rfl, hs, h.x⟩
set_option maxRecDepth 100000 in
theorem ev_X7_part_0 (G : Gt) {a b n : Nat} {E Q : Nat → Nat} {μ : Mm} (hq : seqOK μ 1 a b n E Q) (ht : tabX μ) {p : Nat} (hp : p < 6) : EVq G 5 Y_X7_part [rf G 0, .int (nI p), .int (nI 0)] μ (.int (nI (poN Q p n))) := by
  have hn := hq.le
  have hg := hq.g
  have hab := ab_le hg.2.2.2.1 hg.2.2.2.2.2
  have hE : okE a b E n := fun k hk => hq.el hk
  have hpw := p1024 hn
  have hpw1 := ppos n
  have i_p : inR (nI p) 6 = true := by rw [inR_N (by omega), decide_eq_true hp]
  have hpo : poN Q p n < 2 ^ n := setN_lt _ _
  refine ev_of (by decide) (Nat.le_of_ble_eq_true rfl) ?_
  show Zs G 5 Y_X7_part (fnN G _) 0 [(0, rf G 0), (1, .int (nI p)), (2, .int (nI 0))] [] μ
  refine z_iload_n dX7_part_0 rfl ?_
  refine z_cS1 dX7_part_1 lk_X7_100 (by decide) (Nat.le_of_ble_eq_true rfl) (ev_X7_isPart G) ?_
  refine z_ifB_ne (tgt := 17) dX7_part_4 (by decide) (fun c4 => ?_) (fun c4 => by rw [i_p] at c4; cases c4)
  refine z_aload_n dX7_part_17 rfl ?_
  refine z_getR (j := 1) dX7_part_18 fl_X7_12 ⟨by decide, _, rfl, rfl⟩ ?_
  refine z_iload_n dX7_part_21 rfl ?_
  refine z_cV1 dX7_part_22 lk_X7_194 (by decide) ⟨by decide, _, rfl⟩ rfl (Nat.le_of_ble_eq_true rfl) (ev_X4_placesOf G seq1 hq hp) ?_
  refine z_istore_n (lv' := [(3, _), (0, _), (1, _), (2, _)]) dX7_part_25 rfl (by decide) rfl ?_
  refine z_iload_n dX7_part_26 rfl ?_
  refine z_tsw (tgt := 52) dX7_part_27 (by decide) (by decide) (by decide) rfl (by decide) ?_
  refine z_iload_n dX7_part_52 rfl ?_
  exact z_ret (ty := none) (v := none) rfl dX7_part_53 ⟨rfl, sm.rf, ht⟩
set_option maxRecDepth 100000 in
theorem ev_X7_part_1 (G : Gt) {a b n : Nat} {E Q : Nat → Nat} {μ : Mm} (hq : seqOK μ 1 a b n E Q) (ht : tabX μ) {p : Nat} (hp : p < 6) : EVq G 5 Y_X7_part [rf G 0, .int (nI p), .int (nI 1)] μ (.int (nI (tot a b E (poN Q p n)))) := by
  have hn := hq.le
  have hg := hq.g
  have hab := ab_le hg.2.2.2.1 hg.2.2.2.2.2
  have hE : okE a b E n := fun k hk => hq.el hk
  have hpw := p1024 hn
  have hpw1 := ppos n
  have i_p : inR (nI p) 6 = true := by rw [inR_N (by omega), decide_eq_true hp]
  have hpo : poN Q p n < 2 ^ n := setN_lt _ _
  refine ev_of (by decide) (Nat.le_of_ble_eq_true rfl) ?_
  show Zs G 5 Y_X7_part (fnN G _) 0 [(0, rf G 0), (1, .int (nI p)), (2, .int (nI 1))] [] μ
  refine z_iload_n dX7_part_0 rfl ?_
  refine z_cS1 dX7_part_1 lk_X7_100 (by decide) (Nat.le_of_ble_eq_true rfl) (ev_X7_isPart G) ?_
  refine z_ifB_ne (tgt := 17) dX7_part_4 (by decide) (fun c4 => ?_) (fun c4 => by rw [i_p] at c4; cases c4)
  refine z_aload_n dX7_part_17 rfl ?_
  refine z_getR (j := 1) dX7_part_18 fl_X7_12 ⟨by decide, _, rfl, rfl⟩ ?_
  refine z_iload_n dX7_part_21 rfl ?_
  refine z_cV1 dX7_part_22 lk_X7_194 (by decide) ⟨by decide, _, rfl⟩ rfl (Nat.le_of_ble_eq_true rfl) (ev_X4_placesOf G seq1 hq hp) ?_
  refine z_istore_n (lv' := [(3, _), (0, _), (1, _), (2, _)]) dX7_part_25 rfl (by decide) rfl ?_
  refine z_iload_n dX7_part_26 rfl ?_
  refine z_tsw (tgt := 54) dX7_part_27 (by decide) (by decide) (by decide) rfl (by decide) ?_
  refine z_aload_n dX7_part_54 rfl ?_
  refine z_getR (j := 23) dX7_part_55 fl_X7_26 ⟨by decide, _, rfl, rfl⟩ ?_
  refine z_aload_n dX7_part_58 rfl ?_
  refine z_getR (j := 1) dX7_part_59 fl_X7_12 ⟨by decide, _, rfl, rfl⟩ ?_
  refine z_cV1g dX7_part_62 lk_X7_152 (by decide) ⟨by decide, _, rfl⟩ rfl (Nat.le_of_ble_eq_true rfl) (ev_fol G hq ht) ?_
  rintro v u ⟨rfl, hs, w, h⟩
  have hq := hq.same hs (by omega)
  refine z_iload_n dX7_part_65 rfl ?_
  refine z_cV1 dX7_part_66 lk_X7_172 (by decide) ⟨by decide, _, rfl⟩ rfl (Nat.le_of_ble_eq_true rfl) (ev_X5_totalOf G h hpo) ?_
  exact z_ret (ty := none) (v := none) rfl dX7_part_69 ⟨rfl, hs, h.x⟩
set_option maxRecDepth 100000 in
theorem ev_X7_part_2 (G : Gt) {a b n : Nat} {E Q : Nat → Nat} {μ : Mm} (hq : seqOK μ 1 a b n E Q) (ht : tabX μ) {p : Nat} (hp : p < 6) : EVq G 5 Y_X7_part [rf G 0, .int (nI p), .int (nI 2)] μ (.int (bI (blk a b E (poN Q p n)))) := by
  have hn := hq.le
  have hg := hq.g
  have hab := ab_le hg.2.2.2.1 hg.2.2.2.2.2
  have hE : okE a b E n := fun k hk => hq.el hk
  have hpw := p1024 hn
  have hpw1 := ppos n
  have i_p : inR (nI p) 6 = true := by rw [inR_N (by omega), decide_eq_true hp]
  have hpo : poN Q p n < 2 ^ n := setN_lt _ _
  refine ev_of (by decide) (Nat.le_of_ble_eq_true rfl) ?_
  show Zs G 5 Y_X7_part (fnN G _) 0 [(0, rf G 0), (1, .int (nI p)), (2, .int (nI 2))] [] μ
  refine z_iload_n dX7_part_0 rfl ?_
  refine z_cS1 dX7_part_1 lk_X7_100 (by decide) (Nat.le_of_ble_eq_true rfl) (ev_X7_isPart G) ?_
  refine z_ifB_ne (tgt := 17) dX7_part_4 (by decide) (fun c4 => ?_) (fun c4 => by rw [i_p] at c4; cases c4)
  refine z_aload_n dX7_part_17 rfl ?_
  refine z_getR (j := 1) dX7_part_18 fl_X7_12 ⟨by decide, _, rfl, rfl⟩ ?_
  refine z_iload_n dX7_part_21 rfl ?_
  refine z_cV1 dX7_part_22 lk_X7_194 (by decide) ⟨by decide, _, rfl⟩ rfl (Nat.le_of_ble_eq_true rfl) (ev_X4_placesOf G seq1 hq hp) ?_
  refine z_istore_n (lv' := [(3, _), (0, _), (1, _), (2, _)]) dX7_part_25 rfl (by decide) rfl ?_
  refine z_iload_n dX7_part_26 rfl ?_
  refine z_tsw (tgt := 70) dX7_part_27 (by decide) (by decide) (by decide) rfl (by decide) ?_
  refine z_aload_n dX7_part_70 rfl ?_
  refine z_getR (j := 23) dX7_part_71 fl_X7_26 ⟨by decide, _, rfl, rfl⟩ ?_
  refine z_aload_n dX7_part_74 rfl ?_
  refine z_getR (j := 1) dX7_part_75 fl_X7_12 ⟨by decide, _, rfl, rfl⟩ ?_
  refine z_cV1g dX7_part_78 lk_X7_152 (by decide) ⟨by decide, _, rfl⟩ rfl (Nat.le_of_ble_eq_true rfl) (ev_fol G hq ht) ?_
  rintro v u ⟨rfl, hs, w, h⟩
  have hq := hq.same hs (by omega)
  refine z_iload_n dX7_part_81 rfl ?_
  refine z_cV1 dX7_part_82 lk_X7_175 (by decide) ⟨by decide, _, rfl⟩ rfl (Nat.le_of_ble_eq_true rfl) (ev_X5_isBlock G h hpo) ?_
  refine z_ifB_eq (tgt := 92) dX7_part_85 (by decide) (fun c85 => ?_) (fun c85 => ?_)
  · refine z_iconst (v := nI 0) dX7_part_92 (by decide) ?_
    exact z_ret (ty := none) (v := none) rfl dX7_part_93 ⟨by rw [c85]; rfl, hs, h.x⟩
  · refine z_iconst (v := nI 1) dX7_part_88 (by decide) ?_
    refine z_goto (tgt := 93) dX7_part_89 (by decide) ?_
    exact z_ret (ty := none) (v := none) rfl dX7_part_93 ⟨by rw [c85]; rfl, hs, h.x⟩
theorem op_lt2 {a b x : Nat} (ha : 1 ≤ a) (hb : 1 ≤ b) : opN a b x < a * b := by
  unfold opN
  have h1 : (b - x / a) % b < b := Nat.mod_lt _ (by omega)
  have h2 : (a - x % a) % a < a := Nat.mod_lt _ (by omega)
  have h3 : a * ((b - x / a) % b + 1) ≤ a * b := Nat.mul_le_mul_left a (by omega)
  rw [Nat.mul_add, Nat.mul_one] at h3
  omega
def rsN (a b : Nat) (E : Nat → Nat) (S : Nat) : Nat := if S = 0 then 1 else if tot a b E S ≠ 0 then 2 else if blk a b E S then 0 else 3
set_option maxRecDepth 100000 in
theorem ev_X7_reason (G : Gt) {a b n : Nat} {E Q : Nat → Nat} {μ : Mm} (hq : seqOK μ 1 a b n E Q) (ht : tabX μ) {p : Nat} (hp : p < 6) : EVq G 5 Y_X7_reason [rf G 0, .int (nI p)] μ (.int (nI (rsN a b E (poN Q p n)))) := by
  have hn := hq.le
  have hg := hq.g
  have hab := ab_le hg.2.2.2.1 hg.2.2.2.2.2
  have hE : okE a b E n := fun k hk => hq.el hk
  have hpw := p1024 hn
  have hpw1 := ppos n
  have i_p : inR (nI p) 6 = true := by rw [inR_N (by omega), decide_eq_true hp]
  have hpo : poN Q p n < 2 ^ n := setN_lt _ _
  refine ev_of (by decide) (Nat.le_of_ble_eq_true rfl) ?_
  show Zs G 5 Y_X7_reason (fnN G _) 0 [(0, rf G 0), (1, .int (nI p))] [] μ
  refine z_iload_n dX7_reason_0 rfl ?_
  refine z_cS1 dX7_reason_1 lk_X7_100 (by decide) (Nat.le_of_ble_eq_true rfl) (ev_X7_isPart G) ?_
  refine z_ifB_ne (tgt := 17) dX7_reason_4 (by decide) (fun c4 => ?_) (fun c4 => by rw [i_p] at c4; cases c4)
  refine z_aload_n dX7_reason_17 rfl ?_
  refine z_getR (j := 1) dX7_reason_18 fl_X7_12 ⟨by decide, _, rfl, rfl⟩ ?_
  refine z_iload_n dX7_reason_21 rfl ?_
  refine z_cV1 dX7_reason_22 lk_X7_194 (by decide) ⟨by decide, _, rfl⟩ rfl (Nat.le_of_ble_eq_true rfl) (ev_X4_placesOf G seq1 hq hp) ?_
  refine z_istore_n (lv' := [(2, _), (0, _), (1, _)]) dX7_reason_25 rfl (by decide) rfl ?_
  refine z_iload_n dX7_reason_26 rfl ?_
  refine z_ifN_ne (tgt := 32) dX7_reason_27 (by decide) (by omega) (fun c27 => ?_) (fun c27 => ?_)
  · refine z_aload_n dX7_reason_32 rfl ?_
    refine z_getR (j := 23) dX7_reason_33 fl_X7_26 ⟨by decide, _, rfl, rfl⟩ ?_
    refine z_aload_n dX7_reason_36 rfl ?_
    refine z_getR (j := 1) dX7_reason_37 fl_X7_12 ⟨by decide, _, rfl, rfl⟩ ?_
    refine z_cV1g dX7_reason_40 lk_X7_152 (by decide) ⟨by decide, _, rfl⟩ rfl (Nat.le_of_ble_eq_true rfl) (ev_fol G hq ht) ?_
    rintro v u ⟨rfl, hs, w, h⟩
    have hq := hq.same hs (by omega)
    refine z_pop dX7_reason_43 rfl ?_
    refine z_aload_n dX7_reason_44 rfl ?_
    refine z_getR (j := 23) dX7_reason_45 fl_X7_26 ⟨by decide, _, rfl, rfl⟩ ?_
    refine z_iload_n dX7_reason_48 rfl ?_
    refine z_cV1 dX7_reason_49 lk_X7_172 (by decide) ⟨by decide, _, rfl⟩ rfl (Nat.le_of_ble_eq_true rfl) (ev_X5_totalOf G h hpo) ?_
    refine z_ifN_eq (tgt := 57) dX7_reason_52 (by decide) (by have := tot_lt hg.2.2.1 hg.2.2.2.2.1 E (poN Q p n); omega) (fun c52 => ?_) (fun c52 => ?_)
    · refine z_aload_n dX7_reason_57 rfl ?_
      refine z_getR (j := 23) dX7_reason_58 fl_X7_26 ⟨by decide, _, rfl, rfl⟩ ?_
      refine z_iload_n dX7_reason_61 rfl ?_
      refine z_cV1 dX7_reason_62 lk_X7_175 (by decide) ⟨by decide, _, rfl⟩ rfl (Nat.le_of_ble_eq_true rfl) (ev_X5_isBlock G h hpo) ?_
      refine z_ifB_eq (tgt := 72) dX7_reason_65 (by decide) (fun c65 => ?_) (fun c65 => ?_)
      · refine z_iconst (v := nI 3) dX7_reason_72 (by decide) ?_
        exact z_ret (ty := none) (v := none) rfl dX7_reason_73 ⟨by unfold rsN; rw [if_neg c27, if_neg (by omega), c65]; rfl, hs, h.x⟩
      · refine z_iconst (v := nI 0) dX7_reason_68 (by decide) ?_
        refine z_goto (tgt := 73) dX7_reason_69 (by decide) ?_
        exact z_ret (ty := none) (v := none) rfl dX7_reason_73 ⟨by unfold rsN; rw [if_neg c27, if_neg (by omega), c65]; rfl, hs, h.x⟩
    · refine z_iconst (v := nI 2) dX7_reason_55 (by decide) ?_
      exact z_ret (ty := none) (v := none) rfl dX7_reason_56 ⟨by unfold rsN; rw [if_neg c27, if_pos c52], hs, h.x⟩
  · refine z_iconst (v := nI 1) dX7_reason_30 (by decide) ?_
    exact z_ret (ty := none) (v := none) rfl dX7_reason_31 ⟨by unfold rsN; rw [if_pos c27], sm.rf, ht⟩
set_option maxRecDepth 100000 in
theorem ev_X7_blocksWith (G : Gt) {a b n : Nat} {E Q : Nat → Nat} {μ : Mm} (hq : seqOK μ 1 a b n E Q) (ht : tabX μ) {x p : Nat} (hx : x < a * b) (hp1 : 1 ≤ p) (hp2 : p ≤ 11) : EVq G 5 Y_X7_blocksWith [rf G 0, .int (nI x), .int (nI p)] μ (.int (nI (cntN (fun S => decide (pcN S = p - 1) && decide (kindN a b E S = 0) && decide (tot a b E S = opN a b x)) (2 ^ n)))) := by
  have hn := hq.le
  have hg := hq.g
  have hab := ab_le hg.2.2.2.1 hg.2.2.2.2.2
  have hE : okE a b E n := fun k hk => hq.el hk
  have hpw := p1024 hn
  have hpw1 := ppos n
  have i_x : inR (nI x) (a * b) = true := by rw [inR_N (by omega), decide_eq_true hx]
  refine ev_of (by decide) (Nat.le_of_ble_eq_true rfl) ?_
  show Zs G 5 Y_X7_blocksWith (fnN G _) 0 [(0, rf G 0), (1, .int (nI x)), (2, .int (nI p))] [] μ
  refine z_aload_n dX7_blocksWith_0 rfl ?_
  refine z_getR (j := 1) dX7_blocksWith_1 fl_X7_12 ⟨by decide, _, rfl, rfl⟩ ?_
  refine z_getR (j := 2) dX7_blocksWith_4 fl_X7_56 ⟨by decide, _, rfl, rfl⟩ ?_
  refine z_iload_n dX7_blocksWith_7 rfl ?_
  refine z_cV1 dX7_blocksWith_8 lk_X7_66 (by decide) ⟨by decide, _, rfl⟩ rfl (Nat.le_of_ble_eq_true rfl) (ev_X2_has G (isSeq.g seq1) hg) ?_
  refine z_ifB_ne (tgt := 24) dX7_blocksWith_11 (by decide) (fun c11 => ?_) (fun c11 => by rw [i_x] at c11; cases c11)
  refine z_iload_n dX7_blocksWith_24 rfl ?_
  refine z_iconst (v := nI 1) dX7_blocksWith_25 (by decide) ?_
  refine z_icmpN_lt (tgt := 35) dX7_blocksWith_26 (by decide) (by omega) (by omega) (fun c26 => absurd c26 (by omega)) (fun c26 => ?_)
  refine z_iload_n dX7_blocksWith_29 rfl ?_
  refine z_bipush (v := nI 11) dX7_blocksWith_30 (by decide) ?_
  refine z_icmpN_le (tgt := 45) dX7_blocksWith_32 (by decide) (by omega) (by omega) (fun c32 => ?_) (fun c32 => absurd c32 (by omega))
  refine z_aload_n dX7_blocksWith_45 rfl ?_
  refine z_getR (j := 23) dX7_blocksWith_46 fl_X7_26 ⟨by decide, _, rfl, rfl⟩ ?_
  refine z_aload_n dX7_blocksWith_49 rfl ?_
  refine z_getR (j := 1) dX7_blocksWith_50 fl_X7_12 ⟨by decide, _, rfl, rfl⟩ ?_
  refine z_cV1g dX7_blocksWith_53 lk_X7_152 (by decide) ⟨by decide, _, rfl⟩ rfl (Nat.le_of_ble_eq_true rfl) (ev_fol G hq ht) ?_
  rintro v u ⟨rfl, hs, w, h⟩
  have hq := hq.same hs (by omega)
  refine z_iload_n dX7_blocksWith_56 rfl ?_
  refine z_iconst (v := nI 1) dX7_blocksWith_57 (by decide) ?_
  refine z_isubN dX7_blocksWith_58 (by omega) ?_
  refine z_aload_n dX7_blocksWith_59 rfl ?_
  refine z_getR (j := 1) dX7_blocksWith_60 fl_X7_12 ⟨by decide, _, rfl, rfl⟩ ?_
  refine z_getR (j := 2) dX7_blocksWith_63 fl_X7_56 ⟨by decide, _, rfl, rfl⟩ ?_
  refine z_iload_n dX7_blocksWith_66 rfl ?_
  refine z_cV1 dX7_blocksWith_67 lk_X7_124 (by decide) ⟨by decide, _, rfl⟩ rfl (Nat.le_of_ble_eq_true rfl) (ev_X2_opposite G (isSeq.g seq1) hq.g hx) ?_
  refine z_cV2 dX7_blocksWith_70 lk_X7_236 (by decide) ⟨by decide, _, rfl⟩ rfl (Nat.le_of_ble_eq_true rfl) (ev_X5_countFreeSets G h (by omega) (by have := op_lt2 (x := x) hg.2.2.1 hg.2.2.2.2.1; omega)) ?_
  exact z_ret (ty := none) (v := none) rfl dX7_blocksWith_73 ⟨rfl, hs, h.x⟩
