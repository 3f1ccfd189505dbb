def akN (E : Nat → Nat) (n S T : Nat) : Bool := !anyN (fun k => decide (toN E (E k) S n ≠ toN E (E k) T n)) n
theorem toN_le (E : Nat → Nat) (e S n : Nat) : toN E e S n ≤ n := cntN_le _ _
set_option maxRecDepth 100000 in
theorem lp_X7_alike (G : Gt) {a b n : Nat} {E Q : Nat → Nat} {μ : Mm} (hq : seqOK μ 1 a b n E Q) {S T : Nat} (hS : S < 2 ^ n) (hT : T < 2 ^ n) : ∀ (f k : Nat), k + f = n → anyN (fun k => decide (toN E (E k) S n ≠ toN E (E k) T n)) k = false →
    Zs G 2 Y_X7_alike (fnN G (fun v u => v = some (.int (bI (akN E n S T))) ∧ u = μ)) 34 [(0, rf G 0), (1, .int (nI S)), (2, .int (nI T)), (3, .int (nI k))] [] μ := by
  intro f
  have hn := hq.le
  have hg := hq.g
  have hab := ab_le hg.2.2.2.1 hg.2.2.2.2.2
  have hE : okE a b E n := fun k hk => hq.el hk
  have hpw := p1024 hn
  have hpw1 := ppos n
  induction f with
  | zero =>
    intro k hf hk
    refine z_iload_n dX7_alike_34 rfl ?_
    refine z_aload_n dX7_alike_35 rfl ?_
    refine z_getR (j := 1) dX7_alike_36 fl_X7_12 ⟨by decide, _, rfl, rfl⟩ ?_
    refine z_getI dX7_alike_39 fl_X7_87 ⟨by decide, _, rfl, rfl⟩ hq.n ?_
    refine z_icmpN_ge (tgt := 87) dX7_alike_42 (by decide) (by omega) (by omega) (fun c42 => ?_) (fun c42 => absurd c42 (by omega))
    refine z_iconst (v := nI 1) dX7_alike_87 (by decide) ?_
    exact z_ret (ty := none) (v := none) rfl dX7_alike_88 ⟨by rw [show k = n by omega] at hk; unfold akN; rw [hk]; rfl, rfl⟩
  | succ f ih =>
    intro k hf hk
    have he := hE k (by omega)
    have t1 := toN_le E (E k) S n
    have t2 := toN_le E (E k) T n
    refine z_iload_n dX7_alike_34 rfl ?_
    refine z_aload_n dX7_alike_35 rfl ?_
    refine z_getR (j := 1) dX7_alike_36 fl_X7_12 ⟨by decide, _, rfl, rfl⟩ ?_
    refine z_getI dX7_alike_39 fl_X7_87 ⟨by decide, _, rfl, rfl⟩ hq.n ?_
    refine z_icmpN_ge (tgt := 87) dX7_alike_42 (by decide) (by omega) (by omega) (fun c42 => absurd c42 (by omega)) (fun c42 => ?_)
    refine z_aload_n dX7_alike_45 rfl ?_
    refine z_getR (j := 1) dX7_alike_46 fl_X7_12 ⟨by decide, _, rfl, rfl⟩ ?_
    refine z_getR (j := 3) dX7_alike_49 fl_X7_149 ⟨by decide, _, rfl, rfl⟩ ?_
    refine z_iload_n dX7_alike_52 rfl ?_
    refine z_ialdN dX7_alike_53 ⟨by decide, rfl⟩ (by omega) (by decide) (hq.e (by omega)) ?_
    refine z_istore (lv' := [(4, _), (0, _), (1, _), (2, _), (3, _)]) dX7_alike_54 (by decide) rfl ?_
    refine z_aload_n dX7_alike_56 rfl ?_
    refine z_getR (j := 1) dX7_alike_57 fl_X7_12 ⟨by decide, _, rfl, rfl⟩ ?_
    refine z_iload dX7_alike_60 rfl ?_
    refine z_iload_n dX7_alike_62 rfl ?_
    refine z_cV2 dX7_alike_63 lk_X7_130 (by decide) ⟨by decide, _, rfl⟩ rfl (Nat.le_of_ble_eq_true rfl) (ev_X4_timesOf G seq1 hq (by omega) (by omega)) ?_
    refine z_aload_n dX7_alike_66 rfl ?_
    refine z_getR (j := 1) dX7_alike_67 fl_X7_12 ⟨by decide, _, rfl, rfl⟩ ?_
    refine z_iload dX7_alike_70 rfl ?_
    refine z_iload_n dX7_alike_72 rfl ?_
    refine z_cV2 dX7_alike_73 lk_X7_130 (by decide) ⟨by decide, _, rfl⟩ rfl (Nat.le_of_ble_eq_true rfl) (ev_X4_timesOf G seq1 hq (by omega) (by omega)) ?_
    refine z_icmpN_eq (tgt := 81) dX7_alike_76 (by decide) (by omega) (by omega) (fun c76 => ?_) (fun c76 => ?_)
    · refine z_iinc (v := nI (k + 1)) (lv' := [(3, _), (4, _), (0, _), (1, _), (2, _)]) dX7_alike_81 rfl (nI_inc _ 1) (by decide) rfl ?_
      refine z_goto (tgt := 34) dX7_alike_84 (by decide) ?_
      have q := ih (k + 1) (by omega) (by show (anyN (fun k => decide (toN E (E k) S n ≠ toN E (E k) T n)) k || decide (toN E (E k) S n ≠ toN E (E k) T n)) = false; rw [hk, decide_eq_false (by omega)]; rfl)
      refine z_sub (lv' := [(0, _), (1, _), (2, _), (3, _)]) rfl ?_
      exact q
    · refine z_iconst (v := nI 0) dX7_alike_79 (by decide) ?_
      exact z_ret (ty := none) (v := none) rfl dX7_alike_80 ⟨by unfold akN; rw [show anyN (fun k => decide (toN E (E k) S n ≠ toN E (E k) T n)) n = true from anyN_true.mpr ⟨k, by omega, decide_eq_true c76⟩]; rfl, rfl⟩
set_option maxRecDepth 100000 in
theorem ev_X7_alike (G : Gt) {a b n : Nat} {E Q : Nat → Nat} {μ : Mm} (hq : seqOK μ 1 a b n E Q) {S T : Nat} (hS : S < 2 ^ n) (hT : T < 2 ^ n) : EVr G 2 Y_X7_alike [rf G 0, .int (nI S), .int (nI T)] μ (.int (bI (akN E n S T))) := by
  have hn := hq.le
  have hg := hq.g
  have hab := ab_le hg.2.2.2.1 hg.2.2.2.2.2
  have hE : okE a b E n := fun k hk => hq.el hk
  have hpw := p1024 hn
  have hpw1 := ppos n
  have i_S : inR (nI S) (2 ^ n) = true := by rw [inR_N (by omega), decide_eq_true hS]
  have i_T : inR (nI T) (2 ^ n) = true := by rw [inR_N (by omega), decide_eq_true hT]
  have p1 := pcN_le S
  have p2 := pcN_le T
  refine ev_of (by decide) (Nat.le_of_ble_eq_true rfl) ?_
  show Zs G 2 Y_X7_alike (fnN G _) 0 [(0, rf G 0), (1, .int (nI S)), (2, .int (nI T))] [] μ
  refine z_aload_n dX7_alike_0 rfl ?_
  refine z_getR (j := 1) dX7_alike_1 fl_X7_12 ⟨by decide, _, rfl, rfl⟩ ?_
  refine z_iload_n dX7_alike_4 rfl ?_
  refine z_cV1 dX7_alike_5 lk_X7_162 (by decide) ⟨by decide, _, rfl⟩ rfl (Nat.le_of_ble_eq_true rfl) (ev_X4_hasPlaces G seq1 hq) ?_
  refine z_ifB_eq (tgt := 22) dX7_alike_8 (by decide) (fun c8 => by rw [i_S] at c8; cases c8) (fun c8 => ?_)
  refine z_aload_n dX7_alike_11 rfl ?_
  refine z_getR (j := 1) dX7_alike_12 fl_X7_12 ⟨by decide, _, rfl, rfl⟩ ?_
  refine z_iload_n dX7_alike_15 rfl ?_
  refine z_cV1 dX7_alike_16 lk_X7_162 (by decide) ⟨by decide, _, rfl⟩ rfl (Nat.le_of_ble_eq_true rfl) (ev_X4_hasPlaces G seq1 hq) ?_
  refine z_ifB_ne (tgt := 32) dX7_alike_19 (by decide) (fun c19 => ?_) (fun c19 => by rw [i_T] at c19; cases c19)
  refine z_iconst (v := nI 0) dX7_alike_32 (by decide) ?_
  refine z_istore_n (lv' := [(3, _), (0, _), (1, _), (2, _)]) dX7_alike_33 rfl (by decide) rfl ?_
  refine z_sub (lv' := [(0, _), (1, _), (2, _), (3, _)]) rfl ?_
  exact lp_X7_alike G hq hS hT n 0 (by omega) rfl
set_option maxRecDepth 100000 in
theorem lp_X7_unlikeBlocks (G : Gt) {a b n : Nat} {E Q : Nat → Nat} {μ : Mm} (hq : seqOK μ 1 a b n E Q) {w : Nat} (h : tabOK μ a b n E w) : ∀ (f k s : Nat), k + f = cntN (blk a b E) (2 ^ n) → s ≤ 2 ^ n → k = cntN (blk a b E) s →
    Zs G 5 Y_X7_unlikeBlocks (fnN G (fun v u => v = some (.int (nI (cntN (fun B => blk a b E B && tfN E B n) (2 ^ n)))) ∧ u = μ)) 16 [(0, rf G 0), (1, .int (nI (cntN (fun B => blk a b E B && tfN E B n) s))), (2, .int (nI k))] [] μ := by
  intro f
  have hn := hq.le
  have hg := hq.g
  have hab := ab_le hg.2.2.2.1 hg.2.2.2.2.2
  have hE : okE a b E n := fun k hk => hq.el hk
  have hpw := p1024 hn
  have hpw1 := ppos n
  have hc := cntN_le (blk a b E) (2 ^ n)
  induction f with
  | zero =>
    intro k s hf hs hk
    have hfl := cntN_none (f := blk a b E) hs (by omega)
    refine z_iload_n dX7_unlikeBlocks_16 rfl ?_
    refine z_aload_n dX7_unlikeBlocks_17 rfl ?_
    refine z_getR (j := 23) dX7_unlikeBlocks_18 fl_X7_26 ⟨by decide, _, rfl, rfl⟩ ?_
    refine z_getI dX7_unlikeBlocks_21 fl_X7_205 ⟨by decide, _, rfl, rfl⟩ h.c ?_
    refine z_icmpN_ge (tgt := 55) dX7_unlikeBlocks_24 (by decide) (by omega) (by omega) (fun c24 => ?_) (fun c24 => absurd c24 (by omega))
    refine z_iload_n dX7_unlikeBlocks_55 rfl ?_
    exact z_ret (ty := none) (v := none) rfl dX7_unlikeBlocks_56 ⟨by rw [cntN_flat (f := (fun B => blk a b E B && tfN E B n)) hs (fun B h1 h2 => by show (blk a b E B && _) = false; rw [hfl B h1 h2]; rfl)], rfl⟩
  | succ f ih =>
    intro k s hf hs hk
    obtain ⟨B, q1, q2, q3, q4, q5⟩ := cntN_next (f := blk a b E) hs (show cntN (blk a b E) s < cntN (blk a b E) (2 ^ n) by omega)
    have hbk := h.bk q2 q3 (q4.trans hk.symm)
    have hnx : k + 1 = cntN (blk a b E) (B + 1) := by rw [cntN_succ, if_pos q3]; omega
    refine z_iload_n dX7_unlikeBlocks_16 rfl ?_
    refine z_aload_n dX7_unlikeBlocks_17 rfl ?_
    refine z_getR (j := 23) dX7_unlikeBlocks_18 fl_X7_26 ⟨by decide, _, rfl, rfl⟩ ?_
    refine z_getI dX7_unlikeBlocks_21 fl_X7_205 ⟨by decide, _, rfl, rfl⟩ h.c ?_
    refine z_icmpN_ge (tgt := 55) dX7_unlikeBlocks_24 (by decide) (by omega) (by omega) (fun c24 => absurd c24 (by omega)) (fun c24 => ?_)
    refine z_aload_n dX7_unlikeBlocks_27 rfl ?_
    refine z_getR (j := 1) dX7_unlikeBlocks_28 fl_X7_12 ⟨by decide, _, rfl, rfl⟩ ?_
    refine z_aload_n dX7_unlikeBlocks_31 rfl ?_
    refine z_getR (j := 23) dX7_unlikeBlocks_32 fl_X7_26 ⟨by decide, _, rfl, rfl⟩ ?_
    refine z_getR (j := 32) dX7_unlikeBlocks_35 fl_X7_239 ⟨by decide, _, rfl, rfl⟩ ?_
    refine z_iload_n dX7_unlikeBlocks_38 rfl ?_
    refine z_ialdN dX7_unlikeBlocks_39 ⟨by decide, rfl⟩ (by omega) (by decide) hbk ?_
    refine z_cV1 dX7_unlikeBlocks_40 lk_X7_242 (by decide) ⟨by decide, _, rfl⟩ rfl (Nat.le_of_ble_eq_true rfl) (ev_X4_takesFirstOnes G seq1 hq (by omega)) ?_
    refine z_ifB_eq (tgt := 49) dX7_unlikeBlocks_43 (by decide) (fun c43 => ?_) (fun c43 => ?_)
    · refine z_iinc (v := nI (k + 1)) (lv' := [(2, _), (0, _), (1, _)]) dX7_unlikeBlocks_49 rfl (nI_inc _ 1) (by decide) rfl ?_
      refine z_goto (tgt := 16) dX7_unlikeBlocks_52 (by decide) ?_
      have q := ih (k + 1) (B + 1) (by omega) (by omega) hnx
      rw [show cntN (fun B => blk a b E B && tfN E B n) (B + 1) = cntN (fun B => blk a b E B && tfN E B n) s by rw [cntN_succ, q3, cntN_flat (f := (fun B => blk a b E B && tfN E B n)) (s := s) q1 (fun B h1 h2 => by show (blk a b E B && _) = false; rw [q5 B h1 h2]; rfl)]; simp [c43]] at q
      refine z_sub (lv' := [(0, _), (1, _), (2, _)]) rfl ?_
      exact q
    · refine z_iinc (v := nI ((cntN (fun B => blk a b E B && tfN E B n) s) + 1)) (lv' := [(1, _), (0, _), (2, _)]) dX7_unlikeBlocks_46 rfl (nI_inc _ 1) (by decide) rfl ?_
      refine z_iinc (v := nI (k + 1)) (lv' := [(2, _), (1, _), (0, _)]) dX7_unlikeBlocks_49 rfl (nI_inc _ 1) (by decide) rfl ?_
      refine z_goto (tgt := 16) dX7_unlikeBlocks_52 (by decide) ?_
      have q := ih (k + 1) (B + 1) (by omega) (by omega) hnx
      rw [show cntN (fun B => blk a b E B && tfN E B n) (B + 1) = cntN (fun B => blk a b E B && tfN E B n) s + 1 by rw [cntN_succ, q3, cntN_flat (f := (fun B => blk a b E B && tfN E B n)) (s := s) q1 (fun B h1 h2 => by show (blk a b E B && _) = false; rw [q5 B h1 h2]; rfl)]; simp [c43]] at q
      refine z_sub (lv' := [(0, _), (1, _), (2, _)]) rfl ?_
      exact q
set_option maxRecDepth 100000 in
theorem ev_X7_unlikeBlocks (G : Gt) {a b n : Nat} {E Q : Nat → Nat} {μ : Mm} (hq : seqOK μ 1 a b n E Q) (ht : tabX μ) : EVq G 5 Y_X7_unlikeBlocks [rf G 0] μ (.int (nI (cntN (fun B => blk a b E B && tfN E B n) (2 ^ n)))) := by
  have hn := hq.le
  have hg := hq.g
  have hab := ab_le hg.2.2.2.1 hg.2.2.2.2.2
  have hE : okE a b E n := fun k hk => hq.el hk
  have hpw := p1024 hn
  have hpw1 := ppos n
  refine ev_of (by decide) (Nat.le_of_ble_eq_true rfl) ?_
  show Zs G 5 Y_X7_unlikeBlocks (fnN G _) 0 [(0, rf G 0)] [] μ
  refine z_aload_n dX7_unlikeBlocks_0 rfl ?_
  refine z_getR (j := 23) dX7_unlikeBlocks_1 fl_X7_26 ⟨by decide, _, rfl, rfl⟩ ?_
  refine z_aload_n dX7_unlikeBlocks_4 rfl ?_
  refine z_getR (j := 1) dX7_unlikeBlocks_5 fl_X7_12 ⟨by decide, _, rfl, rfl⟩ ?_
  refine z_cV1g dX7_unlikeBlocks_8 lk_X7_152 (by decide) ⟨by decide, _, rfl⟩ rfl (Nat.le_of_ble_eq_true rfl) (ev_fol G hq ht) ?_
  rintro v u ⟨rfl, hs, w, h⟩
  have hq := hq.same hs (by omega)
  refine z_pop dX7_unlikeBlocks_11 rfl ?_
  refine z_iconst (v := nI 0) dX7_unlikeBlocks_12 (by decide) ?_
  refine z_istore_n (lv' := [(1, _), (0, _)]) dX7_unlikeBlocks_13 rfl (by decide) rfl ?_
  refine z_iconst (v := nI 0) dX7_unlikeBlocks_14 (by decide) ?_
  refine z_istore_n (lv' := [(2, _), (1, _), (0, _)]) dX7_unlikeBlocks_15 rfl (by decide) rfl ?_
  refine z_sub (lv' := [(0, _), (1, _), (2, _)]) rfl ?_
  refine Zs.post ?_ (lp_X7_unlikeBlocks G hq h (cntN (blk a b E) (2 ^ n)) 0 0 (by omega) (by omega) rfl)
  rintro v u2 ⟨rfl, rfl⟩
  exact ⟨rfl, hs, h.x⟩
set_option maxRecDepth 100000 in
theorem lp_X7_countLaidParts (G : Gt) {a b n : Nat} {E Q : Nat → Nat} {μ : Mm} (hq : seqOK μ 1 a b n E Q) : ∀ (f p : Nat), p + f = 6 →
    Zs G 1 Y_X7_countLaidParts (fnN G (fun v u => v = some (.int (nI (cntN (fun p => decide (poN Q p n ≠ 0)) 6))) ∧ u = μ)) 4 [(0, rf G 0), (1, .int (nI (cntN (fun p => decide (poN Q p n ≠ 0)) p))), (2, .int (nI p))] [] μ := by
  intro f
  have hn := hq.le
  have hg := hq.g
  have hab := ab_le hg.2.2.2.1 hg.2.2.2.2.2
  have hE : okE a b E n := fun k hk => hq.el hk
  have hpw := p1024 hn
  have hpw1 := ppos n
  induction f with
  | zero =>
    intro p hf
    refine z_iload_n dX7_countLaidParts_4 rfl ?_
    refine z_bipush (v := nI 6) dX7_countLaidParts_5 (by decide) ?_
    refine z_icmpN_ge (tgt := 30) dX7_countLaidParts_7 (by decide) (by omega) (by omega) (fun c7 => ?_) (fun c7 => absurd c7 (by omega))
    refine z_iload_n dX7_countLaidParts_30 rfl ?_
    exact z_ret (ty := none) (v := none) rfl dX7_countLaidParts_31 ⟨by rw [show p = 6 by omega], rfl⟩
  | succ f ih =>
    intro p hf
    have hpo : poN Q p n < 2 ^ n := setN_lt _ _
    refine z_iload_n dX7_countLaidParts_4 rfl ?_
    refine z_bipush (v := nI 6) dX7_countLaidParts_5 (by decide) ?_
    refine z_icmpN_ge (tgt := 30) dX7_countLaidParts_7 (by decide) (by omega) (by omega) (fun c7 => absurd c7 (by omega)) (fun c7 => ?_)
    refine z_aload_n dX7_countLaidParts_10 rfl ?_
    refine z_getR (j := 1) dX7_countLaidParts_11 fl_X7_12 ⟨by decide, _, rfl, rfl⟩ ?_
    refine z_iload_n dX7_countLaidParts_14 rfl ?_
    refine z_cV1 dX7_countLaidParts_15 lk_X7_194 (by decide) ⟨by decide, _, rfl⟩ rfl (Nat.le_of_ble_eq_true rfl) (ev_X4_placesOf G seq1 hq (by omega)) ?_
    refine z_ifN_eq (tgt := 24) dX7_countLaidParts_18 (by decide) (by omega) (fun c18 => ?_) (fun c18 => ?_)
    · refine z_iinc (v := nI (p + 1)) (lv' := [(2, _), (0, _), (1, _)]) dX7_countLaidParts_24 rfl (nI_inc _ 1) (by decide) rfl ?_
      refine z_goto (tgt := 4) dX7_countLaidParts_27 (by decide) ?_
      have q := ih (p + 1) (by omega)
      rw [show cntN (fun p => decide (poN Q p n ≠ 0)) (p + 1) = cntN (fun p => decide (poN Q p n ≠ 0)) p by rw [cntN_succ]; simp [c18]] at q
      refine z_sub (lv' := [(0, _), (1, _), (2, _)]) rfl ?_
      exact q
    · refine z_iinc (v := nI ((cntN (fun p => decide (poN Q p n ≠ 0)) p) + 1)) (lv' := [(1, _), (0, _), (2, _)]) dX7_countLaidParts_21 rfl (nI_inc _ 1) (by decide) rfl ?_
      refine z_iinc (v := nI (p + 1)) (lv' := [(2, _), (1, _), (0, _)]) dX7_countLaidParts_24 rfl (nI_inc _ 1) (by decide) rfl ?_
      refine z_goto (tgt := 4) dX7_countLaidParts_27 (by decide) ?_
      have q := ih (p + 1) (by omega)
      rw [show cntN (fun p => decide (poN Q p n ≠ 0)) (p + 1) = cntN (fun p => decide (poN Q p n ≠ 0)) p + 1 by rw [cntN_succ]; simp [c18]] at q
      refine z_sub (lv' := [(0, _), (1, _), (2, _)]) rfl ?_
      exact q
set_option maxRecDepth 100000 in
theorem ev_X7_countLaidParts (G : Gt) {a b n : Nat} {E Q : Nat → Nat} {μ : Mm} (hq : seqOK μ 1 a b n E Q) : EVr G 1 Y_X7_countLaidParts [rf G 0] μ (.int (nI (cntN (fun p => decide (poN Q p n ≠ 0)) 6))) := by
  refine ev_of (by decide) (Nat.le_of_ble_eq_true rfl) ?_
  show Zs G 1 Y_X7_countLaidParts (fnN G _) 0 [(0, rf G 0)] [] μ
  refine z_iconst (v := nI 0) dX7_countLaidParts_0 (by decide) ?_
  refine z_istore_n (lv' := [(1, _), (0, _)]) dX7_countLaidParts_1 rfl (by decide) rfl ?_
  refine z_iconst (v := nI 0) dX7_countLaidParts_2 (by decide) ?_
  refine z_istore_n (lv' := [(2, _), (1, _), (0, _)]) dX7_countLaidParts_3 rfl (by decide) rfl ?_
  refine z_sub (lv' := [(0, _), (1, _), (2, _)]) rfl ?_
  exact lp_X7_countLaidParts G hq 6 0 rfl
set_option maxRecDepth 100000 in
theorem lp_X7_countGoodParts (G : Gt) {a b n : Nat} {E Q : Nat → Nat} {μ : Mm} (hq : seqOK μ 1 a b n E Q) {w : Nat} (h : tabOK μ a b n E w) : ∀ (f p : Nat), p + f = 6 →
    Zs G 5 Y_X7_countGoodParts (fnN G (fun v u => v = some (.int (nI (cntN (fun p => blk a b E (poN Q p n)) 6))) ∧ u = μ)) 16 [(0, rf G 0), (1, .int (nI (cntN (fun p => blk a b E (poN Q p n)) p))), (2, .int (nI p))] [] μ := by
  intro f
  have hn := hq.le
  have hg := hq.g
  have hab := ab_le hg.2.2.2.1 hg.2.2.2.2.2
  have hE : okE a b E n := fun k hk => hq.el hk
  have hpw := p1024 hn
  have hpw1 := ppos n
  induction f with
  | zero =>
    intro p hf
    refine z_iload_n dX7_countGoodParts_16 rfl ?_
    refine z_bipush (v := nI 6) dX7_countGoodParts_17 (by decide) ?_
    refine z_icmpN_ge (tgt := 49) dX7_countGoodParts_19 (by decide) (by omega) (by omega) (fun c19 => ?_) (fun c19 => absurd c19 (by omega))
    refine z_iload_n dX7_countGoodParts_49 rfl ?_
    exact z_ret (ty := none) (v := none) rfl dX7_countGoodParts_50 ⟨by rw [show p = 6 by omega], rfl⟩
  | succ f ih =>
    intro p hf
    have hpo : poN Q p n < 2 ^ n := setN_lt _ _
    refine z_iload_n dX7_countGoodParts_16 rfl ?_
    refine z_bipush (v := nI 6) dX7_countGoodParts_17 (by decide) ?_
    refine z_icmpN_ge (tgt := 49) dX7_countGoodParts_19 (by decide) (by omega) (by omega) (fun c19 => absurd c19 (by omega)) (fun c19 => ?_)
    refine z_aload_n dX7_countGoodParts_22 rfl ?_
    refine z_getR (j := 23) dX7_countGoodParts_23 fl_X7_26 ⟨by decide, _, rfl, rfl⟩ ?_
    refine z_aload_n dX7_countGoodParts_26 rfl ?_
    refine z_getR (j := 1) dX7_countGoodParts_27 fl_X7_12 ⟨by decide, _, rfl, rfl⟩ ?_
    refine z_iload_n dX7_countGoodParts_30 rfl ?_
    refine z_cV1 dX7_countGoodParts_31 lk_X7_194 (by decide) ⟨by decide, _, rfl⟩ rfl (Nat.le_of_ble_eq_true rfl) (ev_X4_placesOf G seq1 hq (by omega)) ?_
    refine z_cV1 dX7_countGoodParts_34 lk_X7_175 (by decide) ⟨by decide, _, rfl⟩ rfl (Nat.le_of_ble_eq_true rfl) (ev_X5_isBlock G h hpo) ?_
    refine z_ifB_eq (tgt := 43) dX7_countGoodParts_37 (by decide) (fun c37 => ?_) (fun c37 => ?_)
    · refine z_iinc (v := nI (p + 1)) (lv' := [(2, _), (0, _), (1, _)]) dX7_countGoodParts_43 rfl (nI_inc _ 1) (by decide) rfl ?_
      refine z_goto (tgt := 16) dX7_countGoodParts_46 (by decide) ?_
      have q := ih (p + 1) (by omega)
      rw [show cntN (fun p => blk a b E (poN Q p n)) (p + 1) = cntN (fun p => blk a b E (poN Q p n)) p by rw [cntN_succ]; simp [c37]] at q
      refine z_sub (lv' := [(0, _), (1, _), (2, _)]) rfl ?_
      exact q
    · refine z_iinc (v := nI ((cntN (fun p => blk a b E (poN Q p n)) p) + 1)) (lv' := [(1, _), (0, _), (2, _)]) dX7_countGoodParts_40 rfl (nI_inc _ 1) (by decide) rfl ?_
      refine z_iinc (v := nI (p + 1)) (lv' := [(2, _), (1, _), (0, _)]) dX7_countGoodParts_43 rfl (nI_inc _ 1) (by decide) rfl ?_
      refine z_goto (tgt := 16) dX7_countGoodParts_46 (by decide) ?_
      have q := ih (p + 1) (by omega)
      rw [show cntN (fun p => blk a b E (poN Q p n)) (p + 1) = cntN (fun p => blk a b E (poN Q p n)) p + 1 by rw [cntN_succ]; simp [c37]] at q
      refine z_sub (lv' := [(0, _), (1, _), (2, _)]) rfl ?_
      exact q
set_option maxRecDepth 100000 in
theorem ev_X7_countGoodParts (G : Gt) {a b n : Nat} {E Q : Nat → Nat} {μ : Mm} (hq : seqOK μ 1 a b n E Q) (ht : tabX μ) : EVq G 5 Y_X7_countGoodParts [rf G 0] μ (.int (nI (cntN (fun p => blk a b E (poN Q p n)) 6))) := by
  have hn := hq.le
  have hg := hq.g
  have hab := ab_le hg.2.2.2.1 hg.2.2.2.2.2
  have hE : okE a b E n := fun k hk => hq.el hk
  have hpw := p1024 hn
  have hpw1 := ppos n
  refine ev_of (by decide) (Nat.le_of_ble_eq_true rfl) ?_
  show Zs G 5 Y_X7_countGoodParts (fnN G _) 0 [(0, rf G 0)] [] μ
  refine z_aload_n dX7_countGoodParts_0 rfl ?_
  refine z_getR (j := 23) dX7_countGoodParts_1 fl_X7_26 ⟨by decide, _, rfl, rfl⟩ ?_
  refine z_aload_n dX7_countGoodParts_4 rfl ?_
  refine z_getR (j := 1) dX7_countGoodParts_5 fl_X7_12 ⟨by decide, _, rfl, rfl⟩ ?_
  refine z_cV1g dX7_countGoodParts_8 lk_X7_152 (by decide) ⟨by decide, _, rfl⟩ rfl (Nat.le_of_ble_eq_true rfl) (ev_fol G hq ht) ?_
  rintro v u ⟨rfl, hs, w, h⟩
  have hq := hq.same hs (by omega)
  refine z_pop dX7_countGoodParts_11 rfl ?_
  refine z_iconst (v := nI 0) dX7_countGoodParts_12 (by decide) ?_
  refine z_istore_n (lv' := [(1, _), (0, _)]) dX7_countGoodParts_13 rfl (by decide) rfl ?_
  refine z_iconst (v := nI 0) dX7_countGoodParts_14 (by decide) ?_
  refine z_istore_n (lv' := [(2, _), (1, _), (0, _)]) dX7_countGoodParts_15 rfl (by decide) rfl ?_
  refine z_sub (lv' := [(0, _), (1, _), (2, _)]) rfl ?_
  refine Zs.post ?_ (lp_X7_countGoodParts G hq h 6 0 rfl)
  rintro v u2 ⟨rfl, rfl⟩
  exact ⟨rfl, hs, h.x⟩
set_option maxRecDepth 100000 in
theorem ev_X7_whole_0 (G : Gt) {a b n : Nat} {E Q : Nat → Nat} {μ : Mm} (hq : seqOK μ 1 a b n E Q) (ht : tabX μ) : EVq G 6 Y_X7_whole [rf G 0, .int (nI 0)] μ (.int (nI a)) := by
  have hn := hq.le
  have hg := hq.g
  have hab := ab_le hg.2.2.2.1 hg.2.2.2.2.2
  have hE : okE a b E n := fun k hk => hq.el hk
  have hpw := p1024 hn
  have hpw1 := ppos n
  refine ev_of (by decide) (Nat.le_of_ble_eq_true rfl) ?_
  show Zs G 6 Y_X7_whole (fnN G _) 0 [(0, rf G 0), (1, .int (nI 0))] [] μ
  refine z_iload_n dX7_whole_0 rfl ?_
  refine z_tsw (tgt := 72) dX7_whole_1 (by decide) (by decide) (by decide) rfl (by decide) ?_
  refine z_aload_n dX7_whole_72 rfl ?_
  refine z_getR (j := 1) dX7_whole_73 fl_X7_12 ⟨by decide, _, rfl, rfl⟩ ?_
  refine z_getR (j := 2) dX7_whole_76 fl_X7_56 ⟨by decide, _, rfl, rfl⟩ ?_
  refine z_getI dX7_whole_79 fl_X7_199 ⟨by decide, _, rfl, rfl⟩ hq.g.1 ?_
  exact z_ret (ty := none) (v := none) rfl dX7_whole_82 ⟨rfl, sm.rf, ht⟩
set_option maxRecDepth 100000 in
theorem ev_X7_whole_1 (G : Gt) {a b n : Nat} {E Q : Nat → Nat} {μ : Mm} (hq : seqOK μ 1 a b n E Q) (ht : tabX μ) : EVq G 6 Y_X7_whole [rf G 0, .int (nI 1)] μ (.int (nI b)) := by
  have hn := hq.le
  have hg := hq.g
  have hab := ab_le hg.2.2.2.1 hg.2.2.2.2.2
  have hE : okE a b E n := fun k hk => hq.el hk
  have hpw := p1024 hn
  have hpw1 := ppos n
  refine ev_of (by decide) (Nat.le_of_ble_eq_true rfl) ?_
  show Zs G 6 Y_X7_whole (fnN G _) 0 [(0, rf G 0), (1, .int (nI 1))] [] μ
  refine z_iload_n dX7_whole_0 rfl ?_
  refine z_tsw (tgt := 83) dX7_whole_1 (by decide) (by decide) (by decide) rfl (by decide) ?_
  refine z_aload_n dX7_whole_83 rfl ?_
  refine z_getR (j := 1) dX7_whole_84 fl_X7_12 ⟨by decide, _, rfl, rfl⟩ ?_
  refine z_getR (j := 2) dX7_whole_87 fl_X7_56 ⟨by decide, _, rfl, rfl⟩ ?_
  refine z_getI dX7_whole_90 fl_X7_202 ⟨by decide, _, rfl, rfl⟩ hq.g.2.1 ?_
  exact z_ret (ty := none) (v := none) rfl dX7_whole_93 ⟨rfl, sm.rf, ht⟩
set_option maxRecDepth 100000 in
theorem ev_X7_whole_2 (G : Gt) {a b n : Nat} {E Q : Nat → Nat} {μ : Mm} (hq : seqOK μ 1 a b n E Q) (ht : tabX μ) : EVq G 6 Y_X7_whole [rf G 0, .int (nI 2)] μ (.int (nI (a * b))) := by
  have hn := hq.le
  have hg := hq.g
  have hab := ab_le hg.2.2.2.1 hg.2.2.2.2.2
  have hE : okE a b E n := fun k hk => hq.el hk
  have hpw := p1024 hn
  have hpw1 := ppos n
  refine ev_of (by decide) (Nat.le_of_ble_eq_true rfl) ?_
  show Zs G 6 Y_X7_whole (fnN G _) 0 [(0, rf G 0), (1, .int (nI 2))] [] μ
  refine z_iload_n dX7_whole_0 rfl ?_
  refine z_tsw (tgt := 94) dX7_whole_1 (by decide) (by decide) (by decide) rfl (by decide) ?_
  refine z_aload_n dX7_whole_94 rfl ?_
  refine z_getR (j := 1) dX7_whole_95 fl_X7_12 ⟨by decide, _, rfl, rfl⟩ ?_
  refine z_getR (j := 2) dX7_whole_98 fl_X7_56 ⟨by decide, _, rfl, rfl⟩ ?_
  refine z_cV0 dX7_whole_101 lk_X7_60 (by decide) ⟨by decide, _, rfl⟩ rfl (Nat.le_of_ble_eq_true rfl) (ev_X2_count G (isSeq.g seq1) hg) ?_
  exact z_ret (ty := none) (v := none) rfl dX7_whole_104 ⟨rfl, sm.rf, ht⟩
set_option maxRecDepth 100000 in
theorem ev_X7_whole_3 (G : Gt) {a b n : Nat} {E Q : Nat → Nat} {μ : Mm} (hq : seqOK μ 1 a b n E Q) (ht : tabX μ) : EVq G 6 Y_X7_whole [rf G 0, .int (nI 3)] μ (.int (nI (exN a b))) := by
  have hn := hq.le
  have hg := hq.g
  have hab := ab_le hg.2.2.2.1 hg.2.2.2.2.2
  have hE : okE a b E n := fun k hk => hq.el hk
  have hpw := p1024 hn
  have hpw1 := ppos n
  refine ev_of (by decide) (Nat.le_of_ble_eq_true rfl) ?_
  show Zs G 6 Y_X7_whole (fnN G _) 0 [(0, rf G 0), (1, .int (nI 3))] [] μ
  refine z_iload_n dX7_whole_0 rfl ?_
  refine z_tsw (tgt := 105) dX7_whole_1 (by decide) (by decide) (by decide) rfl (by decide) ?_
  refine z_aload_n dX7_whole_105 rfl ?_
  refine z_getR (j := 1) dX7_whole_106 fl_X7_12 ⟨by decide, _, rfl, rfl⟩ ?_
  refine z_getR (j := 2) dX7_whole_109 fl_X7_56 ⟨by decide, _, rfl, rfl⟩ ?_
  refine z_cV0 dX7_whole_112 lk_X7_146 (by decide) ⟨by decide, _, rfl⟩ rfl (Nat.le_of_ble_eq_true rfl) (ev_X2_exponent G (isSeq.g seq1) hg) ?_
  exact z_ret (ty := none) (v := none) rfl dX7_whole_115 ⟨rfl, sm.rf, ht⟩
set_option maxRecDepth 100000 in
theorem ev_X7_whole_4 (G : Gt) {a b n : Nat} {E Q : Nat → Nat} {μ : Mm} (hq : seqOK μ 1 a b n E Q) (ht : tabX μ) : EVq G 6 Y_X7_whole [rf G 0, .int (nI 4)] μ (.int (nI n)) := by
  have hn := hq.le
  have hg := hq.g
  have hab := ab_le hg.2.2.2.1 hg.2.2.2.2.2
  have hE : okE a b E n := fun k hk => hq.el hk
  have hpw := p1024 hn
  have hpw1 := ppos n
  refine ev_of (by decide) (Nat.le_of_ble_eq_true rfl) ?_
  show Zs G 6 Y_X7_whole (fnN G _) 0 [(0, rf G 0), (1, .int (nI 4))] [] μ
  refine z_iload_n dX7_whole_0 rfl ?_
  refine z_tsw (tgt := 116) dX7_whole_1 (by decide) (by decide) (by decide) rfl (by decide) ?_
  refine z_aload_n dX7_whole_116 rfl ?_
  refine z_getR (j := 1) dX7_whole_117 fl_X7_12 ⟨by decide, _, rfl, rfl⟩ ?_
  refine z_getI dX7_whole_120 fl_X7_87 ⟨by decide, _, rfl, rfl⟩ hq.n ?_
  exact z_ret (ty := none) (v := none) rfl dX7_whole_123 ⟨rfl, sm.rf, ht⟩
set_option maxRecDepth 100000 in
theorem ev_X7_whole_5 (G : Gt) {a b n : Nat} {E Q : Nat → Nat} {μ : Mm} (hq : seqOK μ 1 a b n E Q) (ht : tabX μ) : EVq G 6 Y_X7_whole [rf G 0, .int (nI 5)] μ (.int (nI (tot a b E (2 ^ n - 1)))) := by
  have hn := hq.le
  have hg := hq.g
  have hab := ab_le hg.2.2.2.1 hg.2.2.2.2.2
  have hE : okE a b E n := fun k hk => hq.el hk
  have hpw := p1024 hn
  have hpw1 := ppos n
  refine ev_of (by decide) (Nat.le_of_ble_eq_true rfl) ?_
  show Zs G 6 Y_X7_whole (fnN G _) 0 [(0, rf G 0), (1, .int (nI 5))] [] μ
  refine z_iload_n dX7_whole_0 rfl ?_
  refine z_tsw (tgt := 124) dX7_whole_1 (by decide) (by decide) (by decide) rfl (by decide) ?_
  refine z_aload_n dX7_whole_124 rfl ?_
  refine z_getR (j := 23) dX7_whole_125 fl_X7_26 ⟨by decide, _, rfl, rfl⟩ ?_
  refine z_aload_n dX7_whole_128 rfl ?_
  refine z_getR (j := 1) dX7_whole_129 fl_X7_12 ⟨by decide, _, rfl, rfl⟩ ?_
  refine z_cV1g dX7_whole_132 lk_X7_152 (by decide) ⟨by decide, _, rfl⟩ rfl (Nat.le_of_ble_eq_true rfl) (ev_fol G hq ht) ?_
  rintro v u ⟨rfl, hs, w, h⟩
  have hq := hq.same hs (by omega)
  refine z_aload_n dX7_whole_135 rfl ?_
  refine z_getR (j := 1) dX7_whole_136 fl_X7_12 ⟨by decide, _, rfl, rfl⟩ ?_
  refine z_cV0 dX7_whole_139 lk_X7_127 (by decide) ⟨by decide, _, rfl⟩ rfl (Nat.le_of_ble_eq_true rfl) (ev_X4_allPlaces G seq1 hq) ?_
  refine z_cV1 dX7_whole_142 lk_X7_172 (by decide) ⟨by decide, _, rfl⟩ rfl (Nat.le_of_ble_eq_true rfl) (ev_X5_totalOf G h (by omega)) ?_
  exact z_ret (ty := none) (v := none) rfl dX7_whole_145 ⟨rfl, hs, h.x⟩
set_option maxRecDepth 100000 in
theorem ev_X7_whole_6 (G : Gt) {a b n : Nat} {E Q : Nat → Nat} {μ : Mm} (hq : seqOK μ 1 a b n E Q) (ht : tabX μ) : EVq G 6 Y_X7_whole [rf G 0, .int (nI 6)] μ (.int (bI (!(suN a b E n).testBit 0))) := by
  have hn := hq.le
  have hg := hq.g
  have hab := ab_le hg.2.2.2.1 hg.2.2.2.2.2
  have hE : okE a b E n := fun k hk => hq.el hk
  have hpw := p1024 hn
  have hpw1 := ppos n
  have hsu := suN_lt hg.2.2.1 hg.2.2.2.2.1 hab hE n (Nat.le_refl _)
  refine ev_of (by decide) (Nat.le_of_ble_eq_true rfl) ?_
  show Zs G 6 Y_X7_whole (fnN G _) 0 [(0, rf G 0), (1, .int (nI 6))] [] μ
  refine z_iload_n dX7_whole_0 rfl ?_
  refine z_tsw (tgt := 146) dX7_whole_1 (by decide) (by decide) (by decide) rfl (by decide) ?_
  refine z_aload_n dX7_whole_146 rfl ?_
  refine z_cV0 dX7_whole_147 lk_X7_133 (by decide) ⟨by decide, _, rfl⟩ rfl (Nat.le_of_ble_eq_true rfl) (ev_X7_sums G hq) ?_
  refine z_iconst (v := nI 0) dX7_whole_150 (by decide) ?_
  refine z_cS2 dX7_whole_151 lk_X7_137 (by decide) (Nat.le_of_ble_eq_true rfl) (ev_X7_contains G (by omega) (by omega)) ?_
  refine z_ifB_eq (tgt := 161) dX7_whole_154 (by decide) (fun c154 => ?_) (fun c154 => ?_)
  · refine z_iconst (v := nI 1) dX7_whole_161 (by decide) ?_
    exact z_ret (ty := none) (v := none) rfl dX7_whole_162 ⟨by rw [c154]; rfl, sm.rf, ht⟩
  · refine z_iconst (v := nI 0) dX7_whole_157 (by decide) ?_
    refine z_goto (tgt := 162) dX7_whole_158 (by decide) ?_
    exact z_ret (ty := none) (v := none) rfl dX7_whole_162 ⟨by rw [c154]; rfl, sm.rf, ht⟩
set_option maxRecDepth 100000 in
theorem ev_X7_whole_7 (G : Gt) {a b n : Nat} {E Q : Nat → Nat} {μ : Mm} (hq : seqOK μ 1 a b n E Q) (ht : tabX μ) : EVq G 6 Y_X7_whole [rf G 0, .int (nI 7)] μ (.int (nI (cntN (blk a b E) (2 ^ n)))) := by
  have hn := hq.le
  have hg := hq.g
  have hab := ab_le hg.2.2.2.1 hg.2.2.2.2.2
  have hE : okE a b E n := fun k hk => hq.el hk
  have hpw := p1024 hn
  have hpw1 := ppos n
  refine ev_of (by decide) (Nat.le_of_ble_eq_true rfl) ?_
  show Zs G 6 Y_X7_whole (fnN G _) 0 [(0, rf G 0), (1, .int (nI 7))] [] μ
  refine z_iload_n dX7_whole_0 rfl ?_
  refine z_tsw (tgt := 163) dX7_whole_1 (by decide) (by decide) (by decide) rfl (by decide) ?_
  refine z_aload_n dX7_whole_163 rfl ?_
  refine z_getR (j := 23) dX7_whole_164 fl_X7_26 ⟨by decide, _, rfl, rfl⟩ ?_
  refine z_aload_n dX7_whole_167 rfl ?_
  refine z_getR (j := 1) dX7_whole_168 fl_X7_12 ⟨by decide, _, rfl, rfl⟩ ?_
  refine z_cV1g dX7_whole_171 lk_X7_152 (by decide) ⟨by decide, _, rfl⟩ rfl (Nat.le_of_ble_eq_true rfl) (ev_fol G hq ht) ?_
  rintro v u ⟨rfl, hs, w, h⟩
  have hq := hq.same hs (by omega)
  refine z_getI dX7_whole_174 fl_X7_205 ⟨by decide, _, rfl, rfl⟩ h.c ?_
  exact z_ret (ty := none) (v := none) rfl dX7_whole_177 ⟨rfl, hs, h.x⟩
set_option maxRecDepth 100000 in
theorem ev_X7_whole_8 (G : Gt) {a b n : Nat} {E Q : Nat → Nat} {μ : Mm} (hq : seqOK μ 1 a b n E Q) (ht : tabX μ) : EVq G 6 Y_X7_whole [rf G 0, .int (nI 8)] μ (.int (nI (smA (cPl a b E (2 ^ n - 1)) (2 ^ n)))) := by
  have hn := hq.le
  have hg := hq.g
  have hab := ab_le hg.2.2.2.1 hg.2.2.2.2.2
  have hE : okE a b E n := fun k hk => hq.el hk
  have hpw := p1024 hn
  have hpw1 := ppos n
  refine ev_of (by decide) (Nat.le_of_ble_eq_true rfl) ?_
  show Zs G 6 Y_X7_whole (fnN G _) 0 [(0, rf G 0), (1, .int (nI 8))] [] μ
  refine z_iload_n dX7_whole_0 rfl ?_
  refine z_tsw (tgt := 178) dX7_whole_1 (by decide) (by decide) (by decide) rfl (by decide) ?_
  refine z_aload_n dX7_whole_178 rfl ?_
  refine z_getR (j := 23) dX7_whole_179 fl_X7_26 ⟨by decide, _, rfl, rfl⟩ ?_
  refine z_aload_n dX7_whole_182 rfl ?_
  refine z_getR (j := 1) dX7_whole_183 fl_X7_12 ⟨by decide, _, rfl, rfl⟩ ?_
  refine z_cV1g dX7_whole_186 lk_X7_152 (by decide) ⟨by decide, _, rfl⟩ rfl (Nat.le_of_ble_eq_true rfl) (ev_fol G hq ht) ?_
  rintro v u ⟨rfl, hs, w, h⟩
  have hq := hq.same hs (by omega)
  refine z_aload_n dX7_whole_189 rfl ?_
  refine z_getR (j := 1) dX7_whole_190 fl_X7_12 ⟨by decide, _, rfl, rfl⟩ ?_
  refine z_cV0 dX7_whole_193 lk_X7_127 (by decide) ⟨by decide, _, rfl⟩ rfl (Nat.le_of_ble_eq_true rfl) (ev_X4_allPlaces G seq1 hq) ?_
  refine z_cV1 dX7_whole_196 lk_X7_159 (by decide) ⟨by decide, _, rfl⟩ rfl (Nat.le_of_ble_eq_true rfl) (ev_X5_smallestBlock G h (by omega)) ?_
  exact z_ret (ty := none) (v := none) rfl dX7_whole_199 ⟨rfl, hs, h.x⟩
set_option maxRecDepth 100000 in
theorem ev_X7_whole_9 (G : Gt) {a b n : Nat} {E Q : Nat → Nat} {μ : Mm} (hq : seqOK μ 1 a b n E Q) (ht : tabX μ) : EVq G 6 Y_X7_whole [rf G 0, .int (nI 9)] μ (.int (nI (gmA (blk a b E) (2 ^ n)))) := by
  have hn := hq.le
  have hg := hq.g
  have hab := ab_le hg.2.2.2.1 hg.2.2.2.2.2
  have hE : okE a b E n := fun k hk => hq.el hk
  have hpw := p1024 hn
  have hpw1 := ppos n
  refine ev_of (by decide) (Nat.le_of_ble_eq_true rfl) ?_
  show Zs G 6 Y_X7_whole (fnN G _) 0 [(0, rf G 0), (1, .int (nI 9))] [] μ
  refine z_iload_n dX7_whole_0 rfl ?_
  refine z_tsw (tgt := 200) dX7_whole_1 (by decide) (by decide) (by decide) rfl (by decide) ?_
  refine z_aload_n dX7_whole_200 rfl ?_
  refine z_getR (j := 23) dX7_whole_201 fl_X7_26 ⟨by decide, _, rfl, rfl⟩ ?_
  refine z_aload_n dX7_whole_204 rfl ?_
  refine z_getR (j := 1) dX7_whole_205 fl_X7_12 ⟨by decide, _, rfl, rfl⟩ ?_
  refine z_cV1g dX7_whole_208 lk_X7_152 (by decide) ⟨by decide, _, rfl⟩ rfl (Nat.le_of_ble_eq_true rfl) (ev_fol G hq ht) ?_
  rintro v u ⟨rfl, hs, w, h⟩
  have hq := hq.same hs (by omega)
  refine z_cV0 dX7_whole_211 lk_X7_208 (by decide) ⟨by decide, _, rfl⟩ rfl (Nat.le_of_ble_eq_true rfl) (ev_X5_greatestBlock G h) ?_
  exact z_ret (ty := none) (v := none) rfl dX7_whole_214 ⟨rfl, hs, h.x⟩
set_option maxRecDepth 100000 in
theorem ev_X7_whole_10 (G : Gt) {a b n : Nat} {E Q : Nat → Nat} {μ : Mm} (hq : seqOK μ 1 a b n E Q) (ht : tabX μ) : EVq G 6 Y_X7_whole [rf G 0, .int (nI 10)] μ (.int (nI (cntN (fun p => decide (poN Q p n ≠ 0)) 6))) := by
  have hn := hq.le
  have hg := hq.g
  have hab := ab_le hg.2.2.2.1 hg.2.2.2.2.2
  have hE : okE a b E n := fun k hk => hq.el hk
  have hpw := p1024 hn
  have hpw1 := ppos n
  refine ev_of (by decide) (Nat.le_of_ble_eq_true rfl) ?_
  show Zs G 6 Y_X7_whole (fnN G _) 0 [(0, rf G 0), (1, .int (nI 10))] [] μ
  refine z_iload_n dX7_whole_0 rfl ?_
  refine z_tsw (tgt := 215) dX7_whole_1 (by decide) (by decide) (by decide) rfl (by decide) ?_
  refine z_aload_n dX7_whole_215 rfl ?_
  refine z_cV0 dX7_whole_216 lk_X7_211 (by decide) ⟨by decide, _, rfl⟩ rfl (Nat.le_of_ble_eq_true rfl) (ev_X7_countLaidParts G hq) ?_
  exact z_ret (ty := none) (v := none) rfl dX7_whole_219 ⟨rfl, sm.rf, ht⟩
set_option maxRecDepth 100000 in
theorem ev_X7_whole_11 (G : Gt) {a b n : Nat} {E Q : Nat → Nat} {μ : Mm} (hq : seqOK μ 1 a b n E Q) (ht : tabX μ) : EVq G 6 Y_X7_whole [rf G 0, .int (nI 11)] μ (.int (nI (cntN (fun p => blk a b E (poN Q p n)) 6))) := by
  have hn := hq.le
  have hg := hq.g
  have hab := ab_le hg.2.2.2.1 hg.2.2.2.2.2
  have hE : okE a b E n := fun k hk => hq.el hk
  have hpw := p1024 hn
  have hpw1 := ppos n
  refine ev_of (by decide) (Nat.le_of_ble_eq_true rfl) ?_
  show Zs G 6 Y_X7_whole (fnN G _) 0 [(0, rf G 0), (1, .int (nI 11))] [] μ
  refine z_iload_n dX7_whole_0 rfl ?_
  refine z_tsw (tgt := 220) dX7_whole_1 (by decide) (by decide) (by decide) rfl (by decide) ?_
  refine z_aload_n dX7_whole_220 rfl ?_
  refine z_cV0g dX7_whole_221 lk_X7_214 (by decide) ⟨by decide, _, rfl⟩ rfl (Nat.le_of_ble_eq_true rfl) (ev_X7_countGoodParts G hq ht) ?_
  rintro v u ⟨rfl, hs, ht2⟩
  exact z_ret (ty := none) (v := none) rfl dX7_whole_224 ⟨rfl, hs, ht2⟩
set_option maxRecDepth 100000 in
theorem ev_X7_whole_12 (G : Gt) {a b n : Nat} {E Q : Nat → Nat} {μ : Mm} (hq : seqOK μ 1 a b n E Q) (ht : tabX μ) : EVq G 6 Y_X7_whole [rf G 0, .int (nI 12)] μ (.int (nI (cntN (suN a b E n).testBit 36))) := by
  have hn := hq.le
  have hg := hq.g
  have hab := ab_le hg.2.2.2.1 hg.2.2.2.2.2
  have hE : okE a b E n := fun k hk => hq.el hk
  have hpw := p1024 hn
  have hpw1 := ppos n
  have hsu := suN_lt hg.2.2.1 hg.2.2.2.2.1 hab hE n (Nat.le_refl _)
  refine ev_of (by decide) (Nat.le_of_ble_eq_true rfl) ?_
  show Zs G 6 Y_X7_whole (fnN G _) 0 [(0, rf G 0), (1, .int (nI 12))] [] μ
  refine z_iload_n dX7_whole_0 rfl ?_
  refine z_tsw (tgt := 225) dX7_whole_1 (by decide) (by decide) (by decide) rfl (by decide) ?_
  refine z_aload_n dX7_whole_225 rfl ?_
  refine z_cV0 dX7_whole_226 lk_X7_133 (by decide) ⟨by decide, _, rfl⟩ rfl (Nat.le_of_ble_eq_true rfl) (ev_X7_sums G hq) ?_
  refine z_cS1 dX7_whole_229 lk_X7_217 (by decide) (Nat.le_of_ble_eq_true rfl) (ev_J13_bitCount_95d88 G hsu) ?_
  exact z_ret (ty := none) (v := none) rfl dX7_whole_232 ⟨rfl, sm.rf, ht⟩
set_option maxRecDepth 100000 in
theorem ev_X7_whole_13 (G : Gt) {a b n : Nat} {E Q : Nat → Nat} {μ : Mm} (hq : seqOK μ 1 a b n E Q) (ht : tabX μ) {tn : Nat} {T : Nat → Nat} (htx : txOK μ tn T) : EVq G 6 Y_X7_whole [rf G 0, .int (nI 13)] μ (.int (nI tn)) := by
  have hn := hq.le
  have hg := hq.g
  have hab := ab_le hg.2.2.2.1 hg.2.2.2.2.2
  have hE : okE a b E n := fun k hk => hq.el hk
  have hpw := p1024 hn
  have hpw1 := ppos n
  refine ev_of (by decide) (Nat.le_of_ble_eq_true rfl) ?_
  show Zs G 6 Y_X7_whole (fnN G _) 0 [(0, rf G 0), (1, .int (nI 13))] [] μ
  refine z_iload_n dX7_whole_0 rfl ?_
  refine z_tsw (tgt := 233) dX7_whole_1 (by decide) (by decide) (by decide) rfl (by decide) ?_
  refine z_aload_n dX7_whole_233 rfl ?_
  refine z_getR (j := 33) dX7_whole_234 fl_X7_33 ⟨by decide, _, rfl, rfl⟩ ?_
  refine z_getI dX7_whole_237 fl_X7_222 ⟨by decide, _, rfl, rfl⟩ htx.n ?_
  exact z_ret (ty := none) (v := none) rfl dX7_whole_240 ⟨rfl, sm.rf, ht⟩
