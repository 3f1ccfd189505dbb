def mx (h v : Int64) : Int64 := lN 31 * h + v
set_option maxRecDepth 100000 in
theorem ev_X7_mixed (G : Gt) {h v : Int64} {μ : Mm} : EVr G 0 Y_X7_mixed [.long h, .long v] μ (.long (mx h v)) := by
  refine ev_of (by decide) (Nat.le_of_ble_eq_true rfl) ?_
  show Zs G 0 Y_X7_mixed (fnN G _) 0 [(0, .long h), (2, .long v)] [] μ
  refine z_ldc2N (n := 31) dX7_mixed_0 (tb_at 581 (by decide +kernel) rfl) rfl ?_
  refine z_lload_n dX7_mixed_3 rfl ?_
  refine z_lmul dX7_mixed_4 ?_
  refine z_lload_n dX7_mixed_5 rfl ?_
  refine z_ladd dX7_mixed_6 ?_
  exact z_lret rfl dX7_mixed_7 ⟨rfl, rfl⟩
/-- what places and parts add to a checksum -/
def mpL (a b n : Nat) (E Q : Nat → Nat) (h : Int64) : Nat → Int64
  | 0 => h
  | k + 1 => mx (mx (mx (mx (mpL a b n E Q h k) (lN (E k))) (lN (Q k))) (lN (cntN (fun B => blk a b E B && B.testBit k) (2 ^ n)))) (lN (smA (cPl a b E (2 ^ k)) (2 ^ n)))
def mqL (a b n : Nat) (E Q : Nat → Nat) (h : Int64) : Nat → Int64
  | 0 => h
  | p + 1 => mx (mx (mx (mqL a b n E Q h p) (lN (poN Q p n))) (lN (tot a b E (poN Q p n)))) (lN (if blk a b E (poN Q p n) then 1 else 0))
theorem bI_N (c : Bool) : bI c = nI (if c then 1 else 0) := by cases c <;> rfl
theorem bI_le (c : Bool) : (if c then 1 else 0 : Nat) < 2 ^ 31 := by cases c <;> decide
set_option maxRecDepth 100000 in
theorem lp_X7_mixedWithPlaces (G : Gt) {a b n : Nat} {E Q : Nat → Nat} {h0 : Int64} {μ0 : Mm} : ∀ (f k : Nat) (μ : Mm), k + f = n → seqOK μ 1 a b n E Q → tabX μ → sm 23 33 μ0 μ →
    Zs G 6 Y_X7_mixedWithPlaces (fnN G (fun v u => v = some (.long (mpL a b n E Q h0 n)) ∧ sm 23 33 μ0 u ∧ tabX u)) 5 [(0, rf G 0), (1, .long h0), (3, .long (mpL a b n E Q h0 k)), (5, .int (nI k))] [] μ := by
  intro f
  induction f with
  | zero =>
    intro k μ hf hq ht hz
    have hn := hq.le
    have hg := hq.g
    have hab := ab_le hg.2.2.2.1 hg.2.2.2.2.2
    have hE : okE a b E n := fun k hk => hq.el hk
    have hpw := p1024 hn
    have hpw1 := ppos n
    refine z_iload dX7_mixedWithPlaces_5 rfl ?_
    refine z_aload_n dX7_mixedWithPlaces_7 rfl ?_
    refine z_getR (j := 1) dX7_mixedWithPlaces_8 fl_X7_12 ⟨by decide, _, rfl, rfl⟩ ?_
    refine z_getI dX7_mixedWithPlaces_11 fl_X7_87 ⟨by decide, _, rfl, rfl⟩ hq.n ?_
    refine z_icmpN_ge (tgt := 52) dX7_mixedWithPlaces_14 (by decide) (by omega) (by omega) (fun c14 => ?_) (fun c14 => absurd c14 (by omega))
    refine z_lload_n dX7_mixedWithPlaces_52 rfl ?_
    exact z_lret rfl dX7_mixedWithPlaces_53 ⟨by rw [show k = n by omega], hz, ht⟩
  | succ f ih =>
    intro k μ hf hq ht hz
    have hn := hq.le
    have hg := hq.g
    have hab := ab_le hg.2.2.2.1 hg.2.2.2.2.2
    have hE : okE a b E n := fun k hk => hq.el hk
    have hpw := p1024 hn
    have hpw1 := ppos n
    refine z_iload dX7_mixedWithPlaces_5 rfl ?_
    refine z_aload_n dX7_mixedWithPlaces_7 rfl ?_
    refine z_getR (j := 1) dX7_mixedWithPlaces_8 fl_X7_12 ⟨by decide, _, rfl, rfl⟩ ?_
    refine z_getI dX7_mixedWithPlaces_11 fl_X7_87 ⟨by decide, _, rfl, rfl⟩ hq.n ?_
    refine z_icmpN_ge (tgt := 52) dX7_mixedWithPlaces_14 (by decide) (by omega) (by omega) (fun c14 => absurd c14 (by omega)) (fun c14 => ?_)
    have hc1 := cntN_le (fun B => blk a b E B && B.testBit k) (2 ^ n)
    have hc2 := smA_le (cPl a b E (2 ^ k)) (2 ^ n)
    have hek := hq.el (show k < n by omega)
    have hqk := hq.pl (show k < n by omega)
    refine z_iconst (v := nI 0) dX7_mixedWithPlaces_17 (by decide) ?_
    refine z_istore (lv' := [(6, _), (0, _), (1, _), (3, _), (5, _)]) dX7_mixedWithPlaces_18 (by decide) rfl ?_
    refine z_iload dX7_mixedWithPlaces_20 rfl ?_
    refine z_iconst (v := nI 3) dX7_mixedWithPlaces_22 (by decide) ?_
    refine z_icmpN_gt (tgt := 46) dX7_mixedWithPlaces_23 (by decide) (by omega) (by omega) (fun c23 => absurd c23 (by omega)) (fun c23 => ?_)
    refine z_lload_n dX7_mixedWithPlaces_26 rfl ?_
    refine z_aload_n dX7_mixedWithPlaces_27 rfl ?_
    refine z_iload dX7_mixedWithPlaces_28 rfl ?_
    refine z_iload dX7_mixedWithPlaces_30 rfl ?_
    refine z_cV2g dX7_mixedWithPlaces_32 lk_X7_309 (by decide) ⟨by decide, _, rfl⟩ rfl (Nat.le_of_ble_eq_true rfl) (ev_X7_at_0 G hq ht (show k < n by omega)) ?_
    rintro v u ⟨rfl, hs, ht⟩
    have hz := hz.trans hs
    have hq := hq.same hs (by omega)
    refine z_i2lN dX7_mixedWithPlaces_35 (by omega) ?_
    refine z_cS2 dX7_mixedWithPlaces_36 lk_X7_276 (by decide) (Nat.le_of_ble_eq_true rfl) (ev_X7_mixed G) ?_
    refine z_lstore_n (lv' := [(3, _), (6, _), (0, _), (1, _), (5, _)]) dX7_mixedWithPlaces_39 rfl (by decide) rfl ?_
    refine z_iinc (v := nI (0 + 1)) (lv' := [(6, _), (3, _), (0, _), (1, _), (5, _)]) dX7_mixedWithPlaces_40 rfl (nI_inc _ 1) (by decide) rfl ?_
    refine z_goto (tgt := 20) dX7_mixedWithPlaces_43 (by decide) ?_
    refine z_iload dX7_mixedWithPlaces_20 rfl ?_
    refine z_iconst (v := nI 3) dX7_mixedWithPlaces_22 (by decide) ?_
    refine z_icmpN_gt (tgt := 46) dX7_mixedWithPlaces_23 (by decide) (by omega) (by omega) (fun c23 => absurd c23 (by omega)) (fun c23 => ?_)
    refine z_lload_n dX7_mixedWithPlaces_26 rfl ?_
    refine z_aload_n dX7_mixedWithPlaces_27 rfl ?_
    refine z_iload dX7_mixedWithPlaces_28 rfl ?_
    refine z_iload dX7_mixedWithPlaces_30 rfl ?_
    refine z_cV2g dX7_mixedWithPlaces_32 lk_X7_309 (by decide) ⟨by decide, _, rfl⟩ rfl (Nat.le_of_ble_eq_true rfl) (ev_X7_at_1 G hq ht (show k < n by omega)) ?_
    rintro v u ⟨rfl, hs, ht⟩
    have hz := hz.trans hs
    have hq := hq.same hs (by omega)
    refine z_i2lN dX7_mixedWithPlaces_35 (by omega) ?_
    refine z_cS2 dX7_mixedWithPlaces_36 lk_X7_276 (by decide) (Nat.le_of_ble_eq_true rfl) (ev_X7_mixed G) ?_
    refine z_lstore_n (lv' := [(3, _), (6, _), (0, _), (1, _), (5, _)]) dX7_mixedWithPlaces_39 rfl (by decide) rfl ?_
    refine z_iinc (v := nI ((0 + 1) + 1)) (lv' := [(6, _), (3, _), (0, _), (1, _), (5, _)]) dX7_mixedWithPlaces_40 rfl (nI_inc _ 1) (by decide) rfl ?_
    refine z_goto (tgt := 20) dX7_mixedWithPlaces_43 (by decide) ?_
    refine z_iload dX7_mixedWithPlaces_20 rfl ?_
    refine z_iconst (v := nI 3) dX7_mixedWithPlaces_22 (by decide) ?_
    refine z_icmpN_gt (tgt := 46) dX7_mixedWithPlaces_23 (by decide) (by omega) (by omega) (fun c23 => absurd c23 (by omega)) (fun c23 => ?_)
    refine z_lload_n dX7_mixedWithPlaces_26 rfl ?_
    refine z_aload_n dX7_mixedWithPlaces_27 rfl ?_
    refine z_iload dX7_mixedWithPlaces_28 rfl ?_
    refine z_iload dX7_mixedWithPlaces_30 rfl ?_
    refine z_cV2g dX7_mixedWithPlaces_32 lk_X7_309 (by decide) ⟨by decide, _, rfl⟩ rfl (Nat.le_of_ble_eq_true rfl) (ev_X7_at_2 G hq ht (show k < n by omega)) ?_
    rintro v u ⟨rfl, hs, ht⟩
    have hz := hz.trans hs
    have hq := hq.same hs (by omega)
    refine z_i2lN dX7_mixedWithPlaces_35 (by omega) ?_
    refine z_cS2 dX7_mixedWithPlaces_36 lk_X7_276 (by decide) (Nat.le_of_ble_eq_true rfl) (ev_X7_mixed G) ?_
    refine z_lstore_n (lv' := [(3, _), (6, _), (0, _), (1, _), (5, _)]) dX7_mixedWithPlaces_39 rfl (by decide) rfl ?_
    refine z_iinc (v := nI (((0 + 1) + 1) + 1)) (lv' := [(6, _), (3, _), (0, _), (1, _), (5, _)]) dX7_mixedWithPlaces_40 rfl (nI_inc _ 1) (by decide) rfl ?_
    refine z_goto (tgt := 20) dX7_mixedWithPlaces_43 (by decide) ?_
    refine z_iload dX7_mixedWithPlaces_20 rfl ?_
    refine z_iconst (v := nI 3) dX7_mixedWithPlaces_22 (by decide) ?_
    refine z_icmpN_gt (tgt := 46) dX7_mixedWithPlaces_23 (by decide) (by omega) (by omega) (fun c23 => absurd c23 (by omega)) (fun c23 => ?_)
    refine z_lload_n dX7_mixedWithPlaces_26 rfl ?_
    refine z_aload_n dX7_mixedWithPlaces_27 rfl ?_
    refine z_iload dX7_mixedWithPlaces_28 rfl ?_
    refine z_iload dX7_mixedWithPlaces_30 rfl ?_
    refine z_cV2g dX7_mixedWithPlaces_32 lk_X7_309 (by decide) ⟨by decide, _, rfl⟩ rfl (Nat.le_of_ble_eq_true rfl) (ev_X7_at_3 G hq ht (show k < n by omega)) ?_
    rintro v u ⟨rfl, hs, ht⟩
    have hz := hz.trans hs
    have hq := hq.same hs (by omega)
    refine z_i2lN dX7_mixedWithPlaces_35 (by omega) ?_
    refine z_cS2 dX7_mixedWithPlaces_36 lk_X7_276 (by decide) (Nat.le_of_ble_eq_true rfl) (ev_X7_mixed G) ?_
    refine z_lstore_n (lv' := [(3, _), (6, _), (0, _), (1, _), (5, _)]) dX7_mixedWithPlaces_39 rfl (by decide) rfl ?_
    refine z_iinc (v := nI ((((0 + 1) + 1) + 1) + 1)) (lv' := [(6, _), (3, _), (0, _), (1, _), (5, _)]) dX7_mixedWithPlaces_40 rfl (nI_inc _ 1) (by decide) rfl ?_
    refine z_goto (tgt := 20) dX7_mixedWithPlaces_43 (by decide) ?_
    refine z_iload dX7_mixedWithPlaces_20 rfl ?_
    refine z_iconst (v := nI 3) dX7_mixedWithPlaces_22 (by decide) ?_
    refine z_icmpN_gt (tgt := 46) dX7_mixedWithPlaces_23 (by decide) (by omega) (by omega) (fun c23 => ?_) (fun c23 => absurd c23 (by omega))
    refine z_iinc (v := nI (k + 1)) (lv' := [(5, _), (6, _), (3, _), (0, _), (1, _)]) dX7_mixedWithPlaces_46 rfl (nI_inc _ 1) (by decide) rfl ?_
    refine z_goto (tgt := 5) dX7_mixedWithPlaces_49 (by decide) ?_
    refine z_sub (lv' := [(0, _), (1, _), (3, _), (5, _)]) rfl ?_
    exact ih (k + 1) _ (by omega) hq ht hz
set_option maxRecDepth 100000 in
theorem ev_X7_mixedWithPlaces (G : Gt) {a b n : Nat} {E Q : Nat → Nat} {μ : Mm} (hq : seqOK μ 1 a b n E Q) (ht : tabX μ) {h0 : Int64} : EVq G 6 Y_X7_mixedWithPlaces [rf G 0, .long h0] μ (.long (mpL a b n E Q h0 n)) := by
  refine ev_of (by decide) (Nat.le_of_ble_eq_true rfl) ?_
  show Zs G 6 Y_X7_mixedWithPlaces (fnN G _) 0 [(0, rf G 0), (1, .long h0)] [] μ
  refine z_lload_n dX7_mixedWithPlaces_0 rfl ?_
  refine z_lstore_n (lv' := [(3, _), (0, _), (1, _)]) dX7_mixedWithPlaces_1 rfl (by decide) rfl ?_
  refine z_iconst (v := nI 0) dX7_mixedWithPlaces_2 (by decide) ?_
  refine z_istore (lv' := [(5, _), (3, _), (0, _), (1, _)]) dX7_mixedWithPlaces_3 (by decide) rfl ?_
  refine z_sub (lv' := [(0, _), (1, _), (3, _), (5, _)]) rfl ?_
  exact lp_X7_mixedWithPlaces G n 0 μ (by omega) hq ht sm.rf
set_option maxRecDepth 100000 in
theorem lp_X7_mixedWithParts (G : Gt) {a b n : Nat} {E Q : Nat → Nat} {h0 : Int64} {μ0 : Mm} : ∀ (f k : Nat) (μ : Mm), k + f = 6 → seqOK μ 1 a b n E Q → tabX μ → sm 23 33 μ0 μ →
    Zs G 6 Y_X7_mixedWithParts (fnN G (fun v u => v = some (.long (mqL a b n E Q h0 6)) ∧ sm 23 33 μ0 u ∧ tabX u)) 5 [(0, rf G 0), (1, .long h0), (3, .long (mqL a b n E Q h0 k)), (5, .int (nI k))] [] μ := by
  intro f
  induction f with
  | zero =>
    intro k μ hf hq ht hz
    have hn := hq.le
    have hg := hq.g
    have hab := ab_le hg.2.2.2.1 hg.2.2.2.2.2
    have hE : okE a b E n := fun k hk => hq.el hk
    have hpw := p1024 hn
    have hpw1 := ppos n
    refine z_iload dX7_mixedWithParts_5 rfl ?_
    refine z_bipush (v := nI 6) dX7_mixedWithParts_7 (by decide) ?_
    refine z_icmpN_ge (tgt := 47) dX7_mixedWithParts_9 (by decide) (by omega) (by omega) (fun c9 => ?_) (fun c9 => absurd c9 (by omega))
    refine z_lload_n dX7_mixedWithParts_47 rfl ?_
    exact z_lret rfl dX7_mixedWithParts_48 ⟨by rw [show k = 6 by omega], hz, ht⟩
  | succ f ih =>
    intro k μ hf hq ht hz
    have hn := hq.le
    have hg := hq.g
    have hab := ab_le hg.2.2.2.1 hg.2.2.2.2.2
    have hE : okE a b E n := fun k hk => hq.el hk
    have hpw := p1024 hn
    have hpw1 := ppos n
    refine z_iload dX7_mixedWithParts_5 rfl ?_
    refine z_bipush (v := nI 6) dX7_mixedWithParts_7 (by decide) ?_
    refine z_icmpN_ge (tgt := 47) dX7_mixedWithParts_9 (by decide) (by omega) (by omega) (fun c9 => absurd c9 (by omega)) (fun c9 => ?_)
    have hpo : poN Q k n < 2 ^ n := setN_lt _ _
    have htt := tot_lt hg.2.2.1 hg.2.2.2.2.1 E (poN Q k n)
    have hbi := bI_le (blk a b E (poN Q k n))
    refine z_iconst (v := nI 0) dX7_mixedWithParts_12 (by decide) ?_
    refine z_istore (lv' := [(6, _), (0, _), (1, _), (3, _), (5, _)]) dX7_mixedWithParts_13 (by decide) rfl ?_
    refine z_iload dX7_mixedWithParts_15 rfl ?_
    refine z_iconst (v := nI 2) dX7_mixedWithParts_17 (by decide) ?_
    refine z_icmpN_gt (tgt := 41) dX7_mixedWithParts_18 (by decide) (by omega) (by omega) (fun c18 => absurd c18 (by omega)) (fun c18 => ?_)
    refine z_lload_n dX7_mixedWithParts_21 rfl ?_
    refine z_aload_n dX7_mixedWithParts_22 rfl ?_
    refine z_iload dX7_mixedWithParts_23 rfl ?_
    refine z_iload dX7_mixedWithParts_25 rfl ?_
    refine z_cV2g dX7_mixedWithParts_27 lk_X7_312 (by decide) ⟨by decide, _, rfl⟩ rfl (Nat.le_of_ble_eq_true rfl) (ev_X7_part_0 G hq ht (show k < 6 by omega)) ?_
    rintro v u ⟨rfl, hs, ht⟩
    have hz := hz.trans hs
    have hq := hq.same hs (by omega)
    refine z_i2lN dX7_mixedWithParts_30 (by omega) ?_
    refine z_cS2 dX7_mixedWithParts_31 lk_X7_276 (by decide) (Nat.le_of_ble_eq_true rfl) (ev_X7_mixed G) ?_
    refine z_lstore_n (lv' := [(3, _), (6, _), (0, _), (1, _), (5, _)]) dX7_mixedWithParts_34 rfl (by decide) rfl ?_
    refine z_iinc (v := nI (0 + 1)) (lv' := [(6, _), (3, _), (0, _), (1, _), (5, _)]) dX7_mixedWithParts_35 rfl (nI_inc _ 1) (by decide) rfl ?_
    refine z_goto (tgt := 15) dX7_mixedWithParts_38 (by decide) ?_
    refine z_iload dX7_mixedWithParts_15 rfl ?_
    refine z_iconst (v := nI 2) dX7_mixedWithParts_17 (by decide) ?_
    refine z_icmpN_gt (tgt := 41) dX7_mixedWithParts_18 (by decide) (by omega) (by omega) (fun c18 => absurd c18 (by omega)) (fun c18 => ?_)
    refine z_lload_n dX7_mixedWithParts_21 rfl ?_
    refine z_aload_n dX7_mixedWithParts_22 rfl ?_
    refine z_iload dX7_mixedWithParts_23 rfl ?_
    refine z_iload dX7_mixedWithParts_25 rfl ?_
    refine z_cV2g dX7_mixedWithParts_27 lk_X7_312 (by decide) ⟨by decide, _, rfl⟩ rfl (Nat.le_of_ble_eq_true rfl) (ev_X7_part_1 G hq ht (show k < 6 by omega)) ?_
    rintro v u ⟨rfl, hs, ht⟩
    have hz := hz.trans hs
    have hq := hq.same hs (by omega)
    refine z_i2lN dX7_mixedWithParts_30 (by omega) ?_
    refine z_cS2 dX7_mixedWithParts_31 lk_X7_276 (by decide) (Nat.le_of_ble_eq_true rfl) (ev_X7_mixed G) ?_
    refine z_lstore_n (lv' := [(3, _), (6, _), (0, _), (1, _), (5, _)]) dX7_mixedWithParts_34 rfl (by decide) rfl ?_
    refine z_iinc (v := nI ((0 + 1) + 1)) (lv' := [(6, _), (3, _), (0, _), (1, _), (5, _)]) dX7_mixedWithParts_35 rfl (nI_inc _ 1) (by decide) rfl ?_
    refine z_goto (tgt := 15) dX7_mixedWithParts_38 (by decide) ?_
    refine z_iload dX7_mixedWithParts_15 rfl ?_
    refine z_iconst (v := nI 2) dX7_mixedWithParts_17 (by decide) ?_
    refine z_icmpN_gt (tgt := 41) dX7_mixedWithParts_18 (by decide) (by omega) (by omega) (fun c18 => absurd c18 (by omega)) (fun c18 => ?_)
    refine z_lload_n dX7_mixedWithParts_21 rfl ?_
    refine z_aload_n dX7_mixedWithParts_22 rfl ?_
    refine z_iload dX7_mixedWithParts_23 rfl ?_
    refine z_iload dX7_mixedWithParts_25 rfl ?_
    refine z_cV2g dX7_mixedWithParts_27 lk_X7_312 (by decide) ⟨by decide, _, rfl⟩ rfl (Nat.le_of_ble_eq_true rfl) (ev_X7_part_2 G hq ht (show k < 6 by omega)) ?_
    rintro v u ⟨rfl, hs, ht⟩
    have hz := hz.trans hs
    have hq := hq.same hs (by omega)
    rw [bI_N]
    refine z_i2lN dX7_mixedWithParts_30 (by omega) ?_
    refine z_cS2 dX7_mixedWithParts_31 lk_X7_276 (by decide) (Nat.le_of_ble_eq_true rfl) (ev_X7_mixed G) ?_
    refine z_lstore_n (lv' := [(3, _), (6, _), (0, _), (1, _), (5, _)]) dX7_mixedWithParts_34 rfl (by decide) rfl ?_
    refine z_iinc (v := nI (((0 + 1) + 1) + 1)) (lv' := [(6, _), (3, _), (0, _), (1, _), (5, _)]) dX7_mixedWithParts_35 rfl (nI_inc _ 1) (by decide) rfl ?_
    refine z_goto (tgt := 15) dX7_mixedWithParts_38 (by decide) ?_
    refine z_iload dX7_mixedWithParts_15 rfl ?_
    refine z_iconst (v := nI 2) dX7_mixedWithParts_17 (by decide) ?_
    refine z_icmpN_gt (tgt := 41) dX7_mixedWithParts_18 (by decide) (by omega) (by omega) (fun c18 => ?_) (fun c18 => absurd c18 (by omega))
    refine z_iinc (v := nI (k + 1)) (lv' := [(5, _), (6, _), (3, _), (0, _), (1, _)]) dX7_mixedWithParts_41 rfl (nI_inc _ 1) (by decide) rfl ?_
    refine z_goto (tgt := 5) dX7_mixedWithParts_44 (by decide) ?_
    refine z_sub (lv' := [(0, _), (1, _), (3, _), (5, _)]) rfl ?_
    exact ih (k + 1) _ (by omega) hq ht hz
set_option maxRecDepth 100000 in
theorem ev_X7_mixedWithParts (G : Gt) {a b n : Nat} {E Q : Nat → Nat} {μ : Mm} (hq : seqOK μ 1 a b n E Q) (ht : tabX μ) {h0 : Int64} : EVq G 6 Y_X7_mixedWithParts [rf G 0, .long h0] μ (.long (mqL a b n E Q h0 6)) := by
  refine ev_of (by decide) (Nat.le_of_ble_eq_true rfl) ?_
  show Zs G 6 Y_X7_mixedWithParts (fnN G _) 0 [(0, rf G 0), (1, .long h0)] [] μ
  refine z_lload_n dX7_mixedWithParts_0 rfl ?_
  refine z_lstore_n (lv' := [(3, _), (0, _), (1, _)]) dX7_mixedWithParts_1 rfl (by decide) rfl ?_
  refine z_iconst (v := nI 0) dX7_mixedWithParts_2 (by decide) ?_
  refine z_istore (lv' := [(5, _), (3, _), (0, _), (1, _)]) dX7_mixedWithParts_3 (by decide) rfl ?_
  refine z_sub (lv' := [(0, _), (1, _), (3, _), (5, _)]) rfl ?_
  exact lp_X7_mixedWithParts G 6 0 μ (by omega) hq ht sm.rf
