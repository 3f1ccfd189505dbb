/-- a checksum: of the whole, then all -/
def dgW (a b n c tn : Nat) (E Q : Nat → Nat) : Int64 := (mx (mx (mx (mx (mx (mx (mx (mx (mx (mx (mx (mx (mx (mx (mx 43602 (lN c)) (lN a)) (lN b)) (lN (a * b))) (lN (exN a b))) (lN n)) (lN (tot a b E (2 ^ n - 1)))) (lN (if !(suN a b E n).testBit 0 then 1 else 0))) (lN (cntN (blk a b E) (2 ^ n)))) (lN (smA (cPl a b E (2 ^ n - 1)) (2 ^ n)))) (lN (gmA (blk a b E) (2 ^ n)))) (lN (cntN (fun p => decide (poN Q p n ≠ 0)) 6))) (lN (cntN (fun p => blk a b E (poN Q p n)) 6))) (lN (cntN (suN a b E n).testBit 36))) (lN tn))
def dgP (a b n c tn : Nat) (E Q : Nat → Nat) : Int64 := mqL a b n E Q (mpL a b n E Q (mx (dgW a b n c tn E Q) (lN (suN a b E n))) n) 6
def dgS (a b n c tn : Nat) (E Q : Nat → Nat) : Int64 := (mx (mx (mx (mx (mx (dgP a b n c tn E Q) (lN (tot a b E (2 ^ n - 1)))) (lN (if blk a b E (2 ^ n - 1) then 1 else 0))) (lN (lenN a b E (2 ^ n - 1)))) (nI (splN a b E (2 ^ n - 1))).toInt64) (lN (cntN (fun B => blk a b E B && sb B (2 ^ n - 1)) (2 ^ n))))
def bkL (a b : Nat) (E : Nat → Nat) (h : Int64) : Nat → Int64
  | 0 => h
  | S + 1 => if blk a b E S = true then mx (bkL a b E h S) (lN S) else bkL a b E h S
def dgN (a b n c tn : Nat) (E Q : Nat → Nat) : Int64 := mx (mx (mx (bkL a b E (dgS a b n c tn E Q) (2 ^ n)) (oI (lfN a b (suN a b E n))).toInt64) (lN (cntN (fun B => blk a b E B && tfN E B n) (2 ^ n)))) (Int64.ofNat (crN a b E n).toNat)
theorem bkL_flat {a b s : Nat} {E : Nat → Nat} {h : Int64} : ∀ {t : Nat}, s ≤ t → (∀ j, s ≤ j → j < t → blk a b E j = false) → bkL a b E h t = bkL a b E h s := by
  intro t
  induction t with
  | zero => intro h _; rw [show s = 0 by omega]
  | succ t ih =>
    intro h1 hf
    by_cases e : s = t + 1
    · rw [e]
    · show (if blk a b E t = true then mx (bkL a b E h t) (lN t) else bkL a b E h t) = _
      rw [if_neg (by rw [hf t (by omega) (by omega)]; decide), ih (by omega) (fun j h1 h2 => hf j h1 (by omega))]
theorem ex_le {a b : Nat} (h : a * b ≤ 36) : exN a b ≤ 36 := Nat.le_trans (Nat.div_le_self _ _) h
set_option maxRecDepth 100000 in
theorem lp_X7_digest (G : Gt) {a b n w : Nat} {E : Nat → Nat} {h0 : Int64} {F : Fn} {μ : Mm} (h : tabOK μ a b n E w) (hk : Zs G 7 Y_X7_digest F 138 [(0, rf G 0), (1, .long (bkL a b E h0 (2 ^ n)))] [] μ) : ∀ (f k s : Nat), k + f = cntN (blk a b E) (2 ^ n) → s ≤ 2 ^ n → k = cntN (blk a b E) s →
    Zs G 7 Y_X7_digest F 106 [(0, rf G 0), (1, .long (bkL a b E h0 s)), (3, .int (nI k))] [] μ := by
  intro f
  have hc := cntN_le (blk a b E) (2 ^ n)
  have hpw := p1024 h.le
  induction f with
  | zero =>
    intro k s hf hs hk2
    have hfl := cntN_none (f := blk a b E) hs (by omega)
    refine z_iload_n dX7_digest_106 rfl ?_
    refine z_aload_n dX7_digest_107 rfl ?_
    refine z_getR (j := 23) dX7_digest_108 fl_X7_26 ⟨by decide, _, rfl, rfl⟩ ?_
    refine z_getI dX7_digest_111 fl_X7_205 ⟨by decide, _, rfl, rfl⟩ h.c ?_
    refine z_icmpN_ge (tgt := 138) dX7_digest_114 (by decide) (by omega) (by omega) (fun c114 => ?_) (fun c114 => absurd c114 (by omega))
    rw [← bkL_flat (a := a) (b := b) (E := E) (h := h0) hs hfl]
    refine z_sub (lv' := [(0, _), (1, _)]) rfl ?_
    exact hk
  | succ f ih =>
    intro k s hf hs hk2
    obtain ⟨B, q1, q2, q3, q4, q5⟩ := cntN_next (f := blk a b E) hs (show cntN (blk a b E) s < cntN (blk a b E) (2 ^ n) by omega)
    have hbk := h.bk q2 q3 (q4.trans hk2.symm)
    have hnx : k + 1 = cntN (blk a b E) (B + 1) := by rw [cntN_succ, if_pos q3]; omega
    refine z_iload_n dX7_digest_106 rfl ?_
    refine z_aload_n dX7_digest_107 rfl ?_
    refine z_getR (j := 23) dX7_digest_108 fl_X7_26 ⟨by decide, _, rfl, rfl⟩ ?_
    refine z_getI dX7_digest_111 fl_X7_205 ⟨by decide, _, rfl, rfl⟩ h.c ?_
    refine z_icmpN_ge (tgt := 138) dX7_digest_114 (by decide) (by omega) (by omega) (fun c114 => absurd c114 (by omega)) (fun c114 => ?_)
    refine z_lload_n dX7_digest_117 rfl ?_
    refine z_aload_n dX7_digest_118 rfl ?_
    refine z_getR (j := 23) dX7_digest_119 fl_X7_26 ⟨by decide, _, rfl, rfl⟩ ?_
    refine z_getR (j := 32) dX7_digest_122 fl_X7_239 ⟨by decide, _, rfl, rfl⟩ ?_
    refine z_iload_n dX7_digest_125 rfl ?_
    refine z_ialdN dX7_digest_126 ⟨by decide, rfl⟩ (by omega) (by decide) hbk ?_
    refine z_i2lN dX7_digest_127 (by omega) ?_
    refine z_cS2 dX7_digest_128 lk_X7_276 (by decide) (Nat.le_of_ble_eq_true rfl) (ev_X7_mixed G) ?_
    refine z_lstore_n (lv' := [(1, _), (0, _), (3, _)]) dX7_digest_131 rfl (by decide) rfl ?_
    refine z_iinc (v := nI (k + 1)) (lv' := [(3, _), (1, _), (0, _)]) dX7_digest_132 rfl (nI_inc _ 1) (by decide) rfl ?_
    refine z_goto (tgt := 106) dX7_digest_135 (by decide) ?_
    have q := ih (k + 1) (B + 1) (by omega) (by omega) hnx
    rw [show bkL a b E h0 (B + 1) = mx (bkL a b E h0 s) (lN B) by show (if blk a b E B = true then mx (bkL a b E h0 B) (lN B) else bkL a b E h0 B) = _; rw [if_pos q3, bkL_flat q1 q5]] at q
    refine z_sub (lv' := [(0, _), (1, _), (3, _)]) rfl ?_
    exact q
set_option maxRecDepth 100000 in
theorem ev_X7_digest (G : Gt) {a b n c tn : Nat} {E Q T : Nat → Nat} {μ : Mm} (hq : seqOK μ 1 a b n E Q) (ht : tabX μ) (htx : txOK μ tn T) (hc : μ.1 5 1 = nI c) (hc4 : c ≤ 4) : EVq G 7 Y_X7_digest [rf G 0] μ (.long (dgN a b n c tn E Q)) := by
  have hn := hq.le
  have hg := hq.g
  obtain ⟨_, _, ha, ha6, hb, hb6⟩ := hq.g
  have hab := ab_le hg.2.2.2.1 hg.2.2.2.2.2
  have hE : okE a b E n := fun k hk => hq.el hk
  have hpw := p1024 hn
  have hpw1 := ppos n
  have htn := htx.le
  have f1 := ex_le hab
  have f2 := tot_lt hg.2.2.1 hg.2.2.2.2.1 E (2 ^ n - 1)
  have f3 := bI_le (!(suN a b E n).testBit 0)
  have f4 := cntN_le (blk a b E) (2 ^ n)
  have f5 := smA_le (cPl a b E (2 ^ n - 1)) (2 ^ n)
  have f6 := gmA_le (blk a b E) (2 ^ n)
  have f7 := cntN_le (fun p => decide (poN Q p n ≠ 0)) 6
  have f8 := cntN_le (fun p => blk a b E (poN Q p n)) 6
  have f9 := cntN_le (suN a b E n).testBit 36
  have g1 := bI_le (blk a b E (2 ^ n - 1))
  have g2 := len_lt2 (a := a) (b := b) (E := E) (S := 2 ^ n - 1) hn (by omega)
  have g4 := cntN_le (fun B => blk a b E B && sb B (2 ^ n - 1)) (2 ^ n)
  have g5 := cntN_le (fun B => blk a b E B && tfN E B n) (2 ^ n)
  have hz : sm 23 33 μ μ := sm.rf
  refine ev_of (by decide) (Nat.le_of_ble_eq_true rfl) ?_
  show Zs G 7 Y_X7_digest (fnN G _) 0 [(0, rf G 0)] [] μ
  refine z_ldc2N (n := 43602) dX7_digest_0 (tb_at 577 (by decide +kernel) rfl) rfl ?_
  refine z_aload_n dX7_digest_3 rfl ?_
  refine z_getR (j := 5) dX7_digest_4 fl_X7_19 ⟨by decide, _, rfl, rfl⟩ ?_
  refine z_getI dX7_digest_7 fl_X7_267 ⟨by decide, _, rfl, rfl⟩ hc ?_
  refine z_i2lN dX7_digest_10 (by omega) ?_
  refine z_cS2 dX7_digest_11 lk_X7_276 (by decide) (Nat.le_of_ble_eq_true rfl) (ev_X7_mixed G) ?_
  refine z_lstore_n (lv' := [(1, _), (0, _)]) dX7_digest_14 rfl (by decide) rfl ?_
  refine z_iconst (v := nI 0) dX7_digest_15 (by decide) ?_
  refine z_istore_n (lv' := [(3, _), (1, _), (0, _)]) dX7_digest_16 rfl (by decide) rfl ?_
  refine z_iload_n dX7_digest_17 rfl ?_
  refine z_bipush (v := nI 14) dX7_digest_18 (by decide) ?_
  refine z_icmpN_ge (tgt := 40) dX7_digest_20 (by decide) (by omega) (by omega) (fun c20 => absurd c20 (by omega)) (fun c20 => ?_)
  refine z_lload_n dX7_digest_23 rfl ?_
  refine z_aload_n dX7_digest_24 rfl ?_
  refine z_iload_n dX7_digest_25 rfl ?_
  refine z_cV1g dX7_digest_26 lk_X7_280 (by decide) ⟨by decide, _, rfl⟩ rfl (Nat.le_of_ble_eq_true rfl) (ev_X7_whole_0 G hq ht) ?_
  rintro v u ⟨rfl, hs, ht⟩
  have hz := hz.trans hs
  have hq := hq.same hs (by omega)
  have htx := htx.same hs.K (by omega)
  refine z_i2lN dX7_digest_29 (by omega) ?_
  refine z_cS2 dX7_digest_30 lk_X7_276 (by decide) (Nat.le_of_ble_eq_true rfl) (ev_X7_mixed G) ?_
  refine z_lstore_n (lv' := [(1, _), (3, _), (0, _)]) dX7_digest_33 rfl (by decide) rfl ?_
  refine z_iinc (v := nI (0 + 1)) (lv' := [(3, _), (1, _), (0, _)]) dX7_digest_34 rfl (nI_inc _ 1) (by decide) rfl ?_
  refine z_goto (tgt := 17) dX7_digest_37 (by decide) ?_
  refine z_iload_n dX7_digest_17 rfl ?_
  refine z_bipush (v := nI 14) dX7_digest_18 (by decide) ?_
  refine z_icmpN_ge (tgt := 40) dX7_digest_20 (by decide) (by omega) (by omega) (fun c20 => absurd c20 (by omega)) (fun c20 => ?_)
  refine z_lload_n dX7_digest_23 rfl ?_
  refine z_aload_n dX7_digest_24 rfl ?_
  refine z_iload_n dX7_digest_25 rfl ?_
  refine z_cV1g dX7_digest_26 lk_X7_280 (by decide) ⟨by decide, _, rfl⟩ rfl (Nat.le_of_ble_eq_true rfl) (ev_X7_whole_1 G hq ht) ?_
  rintro v u ⟨rfl, hs, ht⟩
  have hz := hz.trans hs
  have hq := hq.same hs (by omega)
  have htx := htx.same hs.K (by omega)
  refine z_i2lN dX7_digest_29 (by omega) ?_
  refine z_cS2 dX7_digest_30 lk_X7_276 (by decide) (Nat.le_of_ble_eq_true rfl) (ev_X7_mixed G) ?_
  refine z_lstore_n (lv' := [(1, _), (3, _), (0, _)]) dX7_digest_33 rfl (by decide) rfl ?_
  refine z_iinc (v := nI ((0 + 1) + 1)) (lv' := [(3, _), (1, _), (0, _)]) dX7_digest_34 rfl (nI_inc _ 1) (by decide) rfl ?_
  refine z_goto (tgt := 17) dX7_digest_37 (by decide) ?_
  refine z_iload_n dX7_digest_17 rfl ?_
  refine z_bipush (v := nI 14) dX7_digest_18 (by decide) ?_
  refine z_icmpN_ge (tgt := 40) dX7_digest_20 (by decide) (by omega) (by omega) (fun c20 => absurd c20 (by omega)) (fun c20 => ?_)
  refine z_lload_n dX7_digest_23 rfl ?_
  refine z_aload_n dX7_digest_24 rfl ?_
  refine z_iload_n dX7_digest_25 rfl ?_
  refine z_cV1g dX7_digest_26 lk_X7_280 (by decide) ⟨by decide, _, rfl⟩ rfl (Nat.le_of_ble_eq_true rfl) (ev_X7_whole_2 G hq ht) ?_
  rintro v u ⟨rfl, hs, ht⟩
  have hz := hz.trans hs
  have hq := hq.same hs (by omega)
  have htx := htx.same hs.K (by omega)
  refine z_i2lN dX7_digest_29 (by omega) ?_
  refine z_cS2 dX7_digest_30 lk_X7_276 (by decide) (Nat.le_of_ble_eq_true rfl) (ev_X7_mixed G) ?_
  refine z_lstore_n (lv' := [(1, _), (3, _), (0, _)]) dX7_digest_33 rfl (by decide) rfl ?_
  refine z_iinc (v := nI (((0 + 1) + 1) + 1)) (lv' := [(3, _), (1, _), (0, _)]) dX7_digest_34 rfl (nI_inc _ 1) (by decide) rfl ?_
  refine z_goto (tgt := 17) dX7_digest_37 (by decide) ?_
  refine z_iload_n dX7_digest_17 rfl ?_
  refine z_bipush (v := nI 14) dX7_digest_18 (by decide) ?_
  refine z_icmpN_ge (tgt := 40) dX7_digest_20 (by decide) (by omega) (by omega) (fun c20 => absurd c20 (by omega)) (fun c20 => ?_)
  refine z_lload_n dX7_digest_23 rfl ?_
  refine z_aload_n dX7_digest_24 rfl ?_
  refine z_iload_n dX7_digest_25 rfl ?_
  refine z_cV1g dX7_digest_26 lk_X7_280 (by decide) ⟨by decide, _, rfl⟩ rfl (Nat.le_of_ble_eq_true rfl) (ev_X7_whole_3 G hq ht) ?_
  rintro v u ⟨rfl, hs, ht⟩
  have hz := hz.trans hs
  have hq := hq.same hs (by omega)
  have htx := htx.same hs.K (by omega)
  refine z_i2lN dX7_digest_29 (by omega) ?_
  refine z_cS2 dX7_digest_30 lk_X7_276 (by decide) (Nat.le_of_ble_eq_true rfl) (ev_X7_mixed G) ?_
  refine z_lstore_n (lv' := [(1, _), (3, _), (0, _)]) dX7_digest_33 rfl (by decide) rfl ?_
  refine z_iinc (v := nI ((((0 + 1) + 1) + 1) + 1)) (lv' := [(3, _), (1, _), (0, _)]) dX7_digest_34 rfl (nI_inc _ 1) (by decide) rfl ?_
  refine z_goto (tgt := 17) dX7_digest_37 (by decide) ?_
  refine z_iload_n dX7_digest_17 rfl ?_
  refine z_bipush (v := nI 14) dX7_digest_18 (by decide) ?_
  refine z_icmpN_ge (tgt := 40) dX7_digest_20 (by decide) (by omega) (by omega) (fun c20 => absurd c20 (by omega)) (fun c20 => ?_)
  refine z_lload_n dX7_digest_23 rfl ?_
  refine z_aload_n dX7_digest_24 rfl ?_
  refine z_iload_n dX7_digest_25 rfl ?_
  refine z_cV1g dX7_digest_26 lk_X7_280 (by decide) ⟨by decide, _, rfl⟩ rfl (Nat.le_of_ble_eq_true rfl) (ev_X7_whole_4 G hq ht) ?_
  rintro v u ⟨rfl, hs, ht⟩
  have hz := hz.trans hs
  have hq := hq.same hs (by omega)
  have htx := htx.same hs.K (by omega)
  refine z_i2lN dX7_digest_29 (by omega) ?_
  refine z_cS2 dX7_digest_30 lk_X7_276 (by decide) (Nat.le_of_ble_eq_true rfl) (ev_X7_mixed G) ?_
  refine z_lstore_n (lv' := [(1, _), (3, _), (0, _)]) dX7_digest_33 rfl (by decide) rfl ?_
  refine z_iinc (v := nI (((((0 + 1) + 1) + 1) + 1) + 1)) (lv' := [(3, _), (1, _), (0, _)]) dX7_digest_34 rfl (nI_inc _ 1) (by decide) rfl ?_
  refine z_goto (tgt := 17) dX7_digest_37 (by decide) ?_
  refine z_iload_n dX7_digest_17 rfl ?_
  refine z_bipush (v := nI 14) dX7_digest_18 (by decide) ?_
  refine z_icmpN_ge (tgt := 40) dX7_digest_20 (by decide) (by omega) (by omega) (fun c20 => absurd c20 (by omega)) (fun c20 => ?_)
  refine z_lload_n dX7_digest_23 rfl ?_
  refine z_aload_n dX7_digest_24 rfl ?_
  refine z_iload_n dX7_digest_25 rfl ?_
  refine z_cV1g dX7_digest_26 lk_X7_280 (by decide) ⟨by decide, _, rfl⟩ rfl (Nat.le_of_ble_eq_true rfl) (ev_X7_whole_5 G hq ht) ?_
  rintro v u ⟨rfl, hs, ht⟩
  have hz := hz.trans hs
  have hq := hq.same hs (by omega)
  have htx := htx.same hs.K (by omega)
  refine z_i2lN dX7_digest_29 (by omega) ?_
  refine z_cS2 dX7_digest_30 lk_X7_276 (by decide) (Nat.le_of_ble_eq_true rfl) (ev_X7_mixed G) ?_
  refine z_lstore_n (lv' := [(1, _), (3, _), (0, _)]) dX7_digest_33 rfl (by decide) rfl ?_
  refine z_iinc (v := nI ((((((0 + 1) + 1) + 1) + 1) + 1) + 1)) (lv' := [(3, _), (1, _), (0, _)]) dX7_digest_34 rfl (nI_inc _ 1) (by decide) rfl ?_
  refine z_goto (tgt := 17) dX7_digest_37 (by decide) ?_
  refine z_iload_n dX7_digest_17 rfl ?_
  refine z_bipush (v := nI 14) dX7_digest_18 (by decide) ?_
  refine z_icmpN_ge (tgt := 40) dX7_digest_20 (by decide) (by omega) (by omega) (fun c20 => absurd c20 (by omega)) (fun c20 => ?_)
  refine z_lload_n dX7_digest_23 rfl ?_
  refine z_aload_n dX7_digest_24 rfl ?_
  refine z_iload_n dX7_digest_25 rfl ?_
  refine z_cV1g dX7_digest_26 lk_X7_280 (by decide) ⟨by decide, _, rfl⟩ rfl (Nat.le_of_ble_eq_true rfl) (ev_X7_whole_6 G hq ht) ?_
  rintro v u ⟨rfl, hs, ht⟩
  have hz := hz.trans hs
  have hq := hq.same hs (by omega)
  have htx := htx.same hs.K (by omega)
  rw [bI_N]
  refine z_i2lN dX7_digest_29 (by omega) ?_
  refine z_cS2 dX7_digest_30 lk_X7_276 (by decide) (Nat.le_of_ble_eq_true rfl) (ev_X7_mixed G) ?_
  refine z_lstore_n (lv' := [(1, _), (3, _), (0, _)]) dX7_digest_33 rfl (by decide) rfl ?_
  refine z_iinc (v := nI (((((((0 + 1) + 1) + 1) + 1) + 1) + 1) + 1)) (lv' := [(3, _), (1, _), (0, _)]) dX7_digest_34 rfl (nI_inc _ 1) (by decide) rfl ?_
  refine z_goto (tgt := 17) dX7_digest_37 (by decide) ?_
  refine z_iload_n dX7_digest_17 rfl ?_
  refine z_bipush (v := nI 14) dX7_digest_18 (by decide) ?_
  refine z_icmpN_ge (tgt := 40) dX7_digest_20 (by decide) (by omega) (by omega) (fun c20 => absurd c20 (by omega)) (fun c20 => ?_)
  refine z_lload_n dX7_digest_23 rfl ?_
  refine z_aload_n dX7_digest_24 rfl ?_
  refine z_iload_n dX7_digest_25 rfl ?_
  refine z_cV1g dX7_digest_26 lk_X7_280 (by decide) ⟨by decide, _, rfl⟩ rfl (Nat.le_of_ble_eq_true rfl) (ev_X7_whole_7 G hq ht) ?_
  rintro v u ⟨rfl, hs, ht⟩
  have hz := hz.trans hs
  have hq := hq.same hs (by omega)
  have htx := htx.same hs.K (by omega)
  refine z_i2lN dX7_digest_29 (by omega) ?_
  refine z_cS2 dX7_digest_30 lk_X7_276 (by decide) (Nat.le_of_ble_eq_true rfl) (ev_X7_mixed G) ?_
  refine z_lstore_n (lv' := [(1, _), (3, _), (0, _)]) dX7_digest_33 rfl (by decide) rfl ?_
  refine z_iinc (v := nI ((((((((0 + 1) + 1) + 1) + 1) + 1) + 1) + 1) + 1)) (lv' := [(3, _), (1, _), (0, _)]) dX7_digest_34 rfl (nI_inc _ 1) (by decide) rfl ?_
  refine z_goto (tgt := 17) dX7_digest_37 (by decide) ?_
  refine z_iload_n dX7_digest_17 rfl ?_
  refine z_bipush (v := nI 14) dX7_digest_18 (by decide) ?_
  refine z_icmpN_ge (tgt := 40) dX7_digest_20 (by decide) (by omega) (by omega) (fun c20 => absurd c20 (by omega)) (fun c20 => ?_)
  refine z_lload_n dX7_digest_23 rfl ?_
  refine z_aload_n dX7_digest_24 rfl ?_
  refine z_iload_n dX7_digest_25 rfl ?_
  refine z_cV1g dX7_digest_26 lk_X7_280 (by decide) ⟨by decide, _, rfl⟩ rfl (Nat.le_of_ble_eq_true rfl) (ev_X7_whole_8 G hq ht) ?_
  rintro v u ⟨rfl, hs, ht⟩
  have hz := hz.trans hs
  have hq := hq.same hs (by omega)
  have htx := htx.same hs.K (by omega)
  refine z_i2lN dX7_digest_29 (by omega) ?_
  refine z_cS2 dX7_digest_30 lk_X7_276 (by decide) (Nat.le_of_ble_eq_true rfl) (ev_X7_mixed G) ?_
  refine z_lstore_n (lv' := [(1, _), (3, _), (0, _)]) dX7_digest_33 rfl (by decide) rfl ?_
  refine z_iinc (v := nI (((((((((0 + 1) + 1) + 1) + 1) + 1) + 1) + 1) + 1) + 1)) (lv' := [(3, _), (1, _), (0, _)]) dX7_digest_34 rfl (nI_inc _ 1) (by decide) rfl ?_
  refine z_goto (tgt := 17) dX7_digest_37 (by decide) ?_
  refine z_iload_n dX7_digest_17 rfl ?_
  refine z_bipush (v := nI 14) dX7_digest_18 (by decide) ?_
  refine z_icmpN_ge (tgt := 40) dX7_digest_20 (by decide) (by omega) (by omega) (fun c20 => absurd c20 (by omega)) (fun c20 => ?_)
  refine z_lload_n dX7_digest_23 rfl ?_
  refine z_aload_n dX7_digest_24 rfl ?_
  refine z_iload_n dX7_digest_25 rfl ?_
  refine z_cV1g dX7_digest_26 lk_X7_280 (by decide) ⟨by decide, _, rfl⟩ rfl (Nat.le_of_ble_eq_true rfl) (ev_X7_whole_9 G hq ht) ?_
  rintro v u ⟨rfl, hs, ht⟩
  have hz := hz.trans hs
  have hq := hq.same hs (by omega)
  have htx := htx.same hs.K (by omega)
  refine z_i2lN dX7_digest_29 (by omega) ?_
  refine z_cS2 dX7_digest_30 lk_X7_276 (by decide) (Nat.le_of_ble_eq_true rfl) (ev_X7_mixed G) ?_
  refine z_lstore_n (lv' := [(1, _), (3, _), (0, _)]) dX7_digest_33 rfl (by decide) rfl ?_
  refine z_iinc (v := nI ((((((((((0 + 1) + 1) + 1) + 1) + 1) + 1) + 1) + 1) + 1) + 1)) (lv' := [(3, _), (1, _), (0, _)]) dX7_digest_34 rfl (nI_inc _ 1) (by decide) rfl ?_
  refine z_goto (tgt := 17) dX7_digest_37 (by decide) ?_
  refine z_iload_n dX7_digest_17 rfl ?_
  refine z_bipush (v := nI 14) dX7_digest_18 (by decide) ?_
  refine z_icmpN_ge (tgt := 40) dX7_digest_20 (by decide) (by omega) (by omega) (fun c20 => absurd c20 (by omega)) (fun c20 => ?_)
  refine z_lload_n dX7_digest_23 rfl ?_
  refine z_aload_n dX7_digest_24 rfl ?_
  refine z_iload_n dX7_digest_25 rfl ?_
  refine z_cV1g dX7_digest_26 lk_X7_280 (by decide) ⟨by decide, _, rfl⟩ rfl (Nat.le_of_ble_eq_true rfl) (ev_X7_whole_10 G hq ht) ?_
  rintro v u ⟨rfl, hs, ht⟩
  have hz := hz.trans hs
  have hq := hq.same hs (by omega)
  have htx := htx.same hs.K (by omega)
  refine z_i2lN dX7_digest_29 (by omega) ?_
  refine z_cS2 dX7_digest_30 lk_X7_276 (by decide) (Nat.le_of_ble_eq_true rfl) (ev_X7_mixed G) ?_
  refine z_lstore_n (lv' := [(1, _), (3, _), (0, _)]) dX7_digest_33 rfl (by decide) rfl ?_
  refine z_iinc (v := nI (((((((((((0 + 1) + 1) + 1) + 1) + 1) + 1) + 1) + 1) + 1) + 1) + 1)) (lv' := [(3, _), (1, _), (0, _)]) dX7_digest_34 rfl (nI_inc _ 1) (by decide) rfl ?_
  refine z_goto (tgt := 17) dX7_digest_37 (by decide) ?_
  refine z_iload_n dX7_digest_17 rfl ?_
  refine z_bipush (v := nI 14) dX7_digest_18 (by decide) ?_
  refine z_icmpN_ge (tgt := 40) dX7_digest_20 (by decide) (by omega) (by omega) (fun c20 => absurd c20 (by omega)) (fun c20 => ?_)
  refine z_lload_n dX7_digest_23 rfl ?_
  refine z_aload_n dX7_digest_24 rfl ?_
  refine z_iload_n dX7_digest_25 rfl ?_
  refine z_cV1g dX7_digest_26 lk_X7_280 (by decide) ⟨by decide, _, rfl⟩ rfl (Nat.le_of_ble_eq_true rfl) (ev_X7_whole_11 G hq ht) ?_
  rintro v u ⟨rfl, hs, ht⟩
  have hz := hz.trans hs
  have hq := hq.same hs (by omega)
  have htx := htx.same hs.K (by omega)
  refine z_i2lN dX7_digest_29 (by omega) ?_
  refine z_cS2 dX7_digest_30 lk_X7_276 (by decide) (Nat.le_of_ble_eq_true rfl) (ev_X7_mixed G) ?_
  refine z_lstore_n (lv' := [(1, _), (3, _), (0, _)]) dX7_digest_33 rfl (by decide) rfl ?_
  refine z_iinc (v := nI ((((((((((((0 + 1) + 1) + 1) + 1) + 1) + 1) + 1) + 1) + 1) + 1) + 1) + 1)) (lv' := [(3, _), (1, _), (0, _)]) dX7_digest_34 rfl (nI_inc _ 1) (by decide) rfl ?_
  refine z_goto (tgt := 17) dX7_digest_37 (by decide) ?_
  refine z_iload_n dX7_digest_17 rfl ?_
  refine z_bipush (v := nI 14) dX7_digest_18 (by decide) ?_
  refine z_icmpN_ge (tgt := 40) dX7_digest_20 (by decide) (by omega) (by omega) (fun c20 => absurd c20 (by omega)) (fun c20 => ?_)
  refine z_lload_n dX7_digest_23 rfl ?_
  refine z_aload_n dX7_digest_24 rfl ?_
  refine z_iload_n dX7_digest_25 rfl ?_
  refine z_cV1g dX7_digest_26 lk_X7_280 (by decide) ⟨by decide, _, rfl⟩ rfl (Nat.le_of_ble_eq_true rfl) (ev_X7_whole_12 G hq ht) ?_
  rintro v u ⟨rfl, hs, ht⟩
  have hz := hz.trans hs
  have hq := hq.same hs (by omega)
  have htx := htx.same hs.K (by omega)
  refine z_i2lN dX7_digest_29 (by omega) ?_
  refine z_cS2 dX7_digest_30 lk_X7_276 (by decide) (Nat.le_of_ble_eq_true rfl) (ev_X7_mixed G) ?_
  refine z_lstore_n (lv' := [(1, _), (3, _), (0, _)]) dX7_digest_33 rfl (by decide) rfl ?_
  refine z_iinc (v := nI (((((((((((((0 + 1) + 1) + 1) + 1) + 1) + 1) + 1) + 1) + 1) + 1) + 1) + 1) + 1)) (lv' := [(3, _), (1, _), (0, _)]) dX7_digest_34 rfl (nI_inc _ 1) (by decide) rfl ?_
  refine z_goto (tgt := 17) dX7_digest_37 (by decide) ?_
  refine z_iload_n dX7_digest_17 rfl ?_
  refine z_bipush (v := nI 14) dX7_digest_18 (by decide) ?_
  refine z_icmpN_ge (tgt := 40) dX7_digest_20 (by decide) (by omega) (by omega) (fun c20 => absurd c20 (by omega)) (fun c20 => ?_)
  refine z_lload_n dX7_digest_23 rfl ?_
  refine z_aload_n dX7_digest_24 rfl ?_
  refine z_iload_n dX7_digest_25 rfl ?_
  refine z_cV1g dX7_digest_26 lk_X7_280 (by decide) ⟨by decide, _, rfl⟩ rfl (Nat.le_of_ble_eq_true rfl) (ev_X7_whole_13 G hq ht htx) ?_
  rintro v u ⟨rfl, hs, ht⟩
  have hz := hz.trans hs
  have hq := hq.same hs (by omega)
  have htx := htx.same hs.K (by omega)
  refine z_i2lN dX7_digest_29 (by omega) ?_
  refine z_cS2 dX7_digest_30 lk_X7_276 (by decide) (Nat.le_of_ble_eq_true rfl) (ev_X7_mixed G) ?_
  refine z_lstore_n (lv' := [(1, _), (3, _), (0, _)]) dX7_digest_33 rfl (by decide) rfl ?_
  refine z_iinc (v := nI ((((((((((((((0 + 1) + 1) + 1) + 1) + 1) + 1) + 1) + 1) + 1) + 1) + 1) + 1) + 1) + 1)) (lv' := [(3, _), (1, _), (0, _)]) dX7_digest_34 rfl (nI_inc _ 1) (by decide) rfl ?_
  refine z_goto (tgt := 17) dX7_digest_37 (by decide) ?_
  refine z_iload_n dX7_digest_17 rfl ?_
  refine z_bipush (v := nI 14) dX7_digest_18 (by decide) ?_
  refine z_icmpN_ge (tgt := 40) dX7_digest_20 (by decide) (by omega) (by omega) (fun c20 => ?_) (fun c20 => absurd c20 (by omega))
  refine z_lload_n dX7_digest_40 rfl ?_
  refine z_aload_n dX7_digest_41 rfl ?_
  refine z_cV0 dX7_digest_42 lk_X7_133 (by decide) ⟨by decide, _, rfl⟩ rfl (Nat.le_of_ble_eq_true rfl) (ev_X7_sums G hq) ?_
  refine z_cS2 dX7_digest_45 lk_X7_276 (by decide) (Nat.le_of_ble_eq_true rfl) (ev_X7_mixed G) ?_
  refine z_lstore_n (lv' := [(1, _), (3, _), (0, _)]) dX7_digest_48 rfl (by decide) rfl ?_
  refine z_aload_n dX7_digest_49 rfl ?_
  refine z_lload_n dX7_digest_50 rfl ?_
  refine z_cV1g dX7_digest_51 lk_X7_283 (by decide) ⟨by decide, _, rfl⟩ rfl (Nat.le_of_ble_eq_true rfl) (ev_X7_mixedWithPlaces G hq ht) ?_
  rintro v u ⟨rfl, hs, ht⟩
  have hz := hz.trans hs
  have hq := hq.same hs (by omega)
  have htx := htx.same hs.K (by omega)
  refine z_lstore_n (lv' := [(1, _), (3, _), (0, _)]) dX7_digest_54 rfl (by decide) rfl ?_
  refine z_aload_n dX7_digest_55 rfl ?_
  refine z_lload_n dX7_digest_56 rfl ?_
  refine z_cV1g dX7_digest_57 lk_X7_287 (by decide) ⟨by decide, _, rfl⟩ rfl (Nat.le_of_ble_eq_true rfl) (ev_X7_mixedWithParts G hq ht) ?_
  rintro v u ⟨rfl, hs, ht⟩
  have hz := hz.trans hs
  have hq := hq.same hs (by omega)
  have htx := htx.same hs.K (by omega)
  refine z_lstore_n (lv' := [(1, _), (3, _), (0, _)]) dX7_digest_60 rfl (by decide) rfl ?_
  refine z_iconst (v := nI 1) dX7_digest_61 (by decide) ?_
  refine z_istore_n (lv' := [(3, _), (1, _), (0, _)]) dX7_digest_62 rfl (by decide) rfl ?_
  refine z_iload_n dX7_digest_63 rfl ?_
  refine z_iconst (v := nI 5) dX7_digest_64 (by decide) ?_
  refine z_icmpN_gt (tgt := 92) dX7_digest_65 (by decide) (by omega) (by omega) (fun c65 => absurd c65 (by omega)) (fun c65 => ?_)
  refine z_lload_n dX7_digest_68 rfl ?_
  refine z_aload_n dX7_digest_69 rfl ?_
  refine z_aload_n dX7_digest_70 rfl ?_
  refine z_getR (j := 1) dX7_digest_71 fl_X7_12 ⟨by decide, _, rfl, rfl⟩ ?_
  refine z_cV0 dX7_digest_74 lk_X7_127 (by decide) ⟨by decide, _, rfl⟩ rfl (Nat.le_of_ble_eq_true rfl) (ev_X4_allPlaces G seq1 hq) ?_
  refine z_iload_n dX7_digest_77 rfl ?_
  refine z_cV2g dX7_digest_78 lk_X7_290 (by decide) ⟨by decide, _, rfl⟩ rfl (Nat.le_of_ble_eq_true rfl) (ev_X7_set_1 G hq ht (show 2 ^ n - 1 < 2 ^ n by omega)) ?_
  rintro v u ⟨rfl, hs, ht⟩
  have hz := hz.trans hs
  have hq := hq.same hs (by omega)
  have htx := htx.same hs.K (by omega)
  refine z_i2lN dX7_digest_81 (by omega) ?_
  refine z_cS2 dX7_digest_82 lk_X7_276 (by decide) (Nat.le_of_ble_eq_true rfl) (ev_X7_mixed G) ?_
  refine z_lstore_n (lv' := [(1, _), (3, _), (0, _)]) dX7_digest_85 rfl (by decide) rfl ?_
  refine z_iinc (v := nI (1 + 1)) (lv' := [(3, _), (1, _), (0, _)]) dX7_digest_86 rfl (nI_inc _ 1) (by decide) rfl ?_
  refine z_goto (tgt := 63) dX7_digest_89 (by decide) ?_
  refine z_iload_n dX7_digest_63 rfl ?_
  refine z_iconst (v := nI 5) dX7_digest_64 (by decide) ?_
  refine z_icmpN_gt (tgt := 92) dX7_digest_65 (by decide) (by omega) (by omega) (fun c65 => absurd c65 (by omega)) (fun c65 => ?_)
  refine z_lload_n dX7_digest_68 rfl ?_
  refine z_aload_n dX7_digest_69 rfl ?_
  refine z_aload_n dX7_digest_70 rfl ?_
  refine z_getR (j := 1) dX7_digest_71 fl_X7_12 ⟨by decide, _, rfl, rfl⟩ ?_
  refine z_cV0 dX7_digest_74 lk_X7_127 (by decide) ⟨by decide, _, rfl⟩ rfl (Nat.le_of_ble_eq_true rfl) (ev_X4_allPlaces G seq1 hq) ?_
  refine z_iload_n dX7_digest_77 rfl ?_
  refine z_cV2g dX7_digest_78 lk_X7_290 (by decide) ⟨by decide, _, rfl⟩ rfl (Nat.le_of_ble_eq_true rfl) (ev_X7_set_2 G hq ht (show 2 ^ n - 1 < 2 ^ n by omega)) ?_
  rintro v u ⟨rfl, hs, ht⟩
  have hz := hz.trans hs
  have hq := hq.same hs (by omega)
  have htx := htx.same hs.K (by omega)
  rw [bI_N]
  refine z_i2lN dX7_digest_81 (by omega) ?_
  refine z_cS2 dX7_digest_82 lk_X7_276 (by decide) (Nat.le_of_ble_eq_true rfl) (ev_X7_mixed G) ?_
  refine z_lstore_n (lv' := [(1, _), (3, _), (0, _)]) dX7_digest_85 rfl (by decide) rfl ?_
  refine z_iinc (v := nI ((1 + 1) + 1)) (lv' := [(3, _), (1, _), (0, _)]) dX7_digest_86 rfl (nI_inc _ 1) (by decide) rfl ?_
  refine z_goto (tgt := 63) dX7_digest_89 (by decide) ?_
  refine z_iload_n dX7_digest_63 rfl ?_
  refine z_iconst (v := nI 5) dX7_digest_64 (by decide) ?_
  refine z_icmpN_gt (tgt := 92) dX7_digest_65 (by decide) (by omega) (by omega) (fun c65 => absurd c65 (by omega)) (fun c65 => ?_)
  refine z_lload_n dX7_digest_68 rfl ?_
  refine z_aload_n dX7_digest_69 rfl ?_
  refine z_aload_n dX7_digest_70 rfl ?_
  refine z_getR (j := 1) dX7_digest_71 fl_X7_12 ⟨by decide, _, rfl, rfl⟩ ?_
  refine z_cV0 dX7_digest_74 lk_X7_127 (by decide) ⟨by decide, _, rfl⟩ rfl (Nat.le_of_ble_eq_true rfl) (ev_X4_allPlaces G seq1 hq) ?_
  refine z_iload_n dX7_digest_77 rfl ?_
  refine z_cV2g dX7_digest_78 lk_X7_290 (by decide) ⟨by decide, _, rfl⟩ rfl (Nat.le_of_ble_eq_true rfl) (ev_X7_set_3 G hq ht (show 2 ^ n - 1 < 2 ^ n by omega)) ?_
  rintro v u ⟨rfl, hs, ht⟩
  have hz := hz.trans hs
  have hq := hq.same hs (by omega)
  have htx := htx.same hs.K (by omega)
  refine z_i2lN dX7_digest_81 (by omega) ?_
  refine z_cS2 dX7_digest_82 lk_X7_276 (by decide) (Nat.le_of_ble_eq_true rfl) (ev_X7_mixed G) ?_
  refine z_lstore_n (lv' := [(1, _), (3, _), (0, _)]) dX7_digest_85 rfl (by decide) rfl ?_
  refine z_iinc (v := nI (((1 + 1) + 1) + 1)) (lv' := [(3, _), (1, _), (0, _)]) dX7_digest_86 rfl (nI_inc _ 1) (by decide) rfl ?_
  refine z_goto (tgt := 63) dX7_digest_89 (by decide) ?_
  refine z_iload_n dX7_digest_63 rfl ?_
  refine z_iconst (v := nI 5) dX7_digest_64 (by decide) ?_
  refine z_icmpN_gt (tgt := 92) dX7_digest_65 (by decide) (by omega) (by omega) (fun c65 => absurd c65 (by omega)) (fun c65 => ?_)
  refine z_lload_n dX7_digest_68 rfl ?_
  refine z_aload_n dX7_digest_69 rfl ?_
  refine z_aload_n dX7_digest_70 rfl ?_
  refine z_getR (j := 1) dX7_digest_71 fl_X7_12 ⟨by decide, _, rfl, rfl⟩ ?_
  refine z_cV0 dX7_digest_74 lk_X7_127 (by decide) ⟨by decide, _, rfl⟩ rfl (Nat.le_of_ble_eq_true rfl) (ev_X4_allPlaces G seq1 hq) ?_
  refine z_iload_n dX7_digest_77 rfl ?_
  refine z_cV2g dX7_digest_78 lk_X7_290 (by decide) ⟨by decide, _, rfl⟩ rfl (Nat.le_of_ble_eq_true rfl) (ev_X7_set_4 G hq ht (show 2 ^ n - 1 < 2 ^ n by omega)) ?_
  rintro v u ⟨rfl, hs, ht⟩
  have hz := hz.trans hs
  have hq := hq.same hs (by omega)
  have htx := htx.same hs.K (by omega)
  refine z_i2l dX7_digest_81 rfl ?_
  refine z_cS2 dX7_digest_82 lk_X7_276 (by decide) (Nat.le_of_ble_eq_true rfl) (ev_X7_mixed G) ?_
  refine z_lstore_n (lv' := [(1, _), (3, _), (0, _)]) dX7_digest_85 rfl (by decide) rfl ?_
  refine z_iinc (v := nI ((((1 + 1) + 1) + 1) + 1)) (lv' := [(3, _), (1, _), (0, _)]) dX7_digest_86 rfl (nI_inc _ 1) (by decide) rfl ?_
  refine z_goto (tgt := 63) dX7_digest_89 (by decide) ?_
  refine z_iload_n dX7_digest_63 rfl ?_
  refine z_iconst (v := nI 5) dX7_digest_64 (by decide) ?_
  refine z_icmpN_gt (tgt := 92) dX7_digest_65 (by decide) (by omega) (by omega) (fun c65 => absurd c65 (by omega)) (fun c65 => ?_)
  refine z_lload_n dX7_digest_68 rfl ?_
  refine z_aload_n dX7_digest_69 rfl ?_
  refine z_aload_n dX7_digest_70 rfl ?_
  refine z_getR (j := 1) dX7_digest_71 fl_X7_12 ⟨by decide, _, rfl, rfl⟩ ?_
  refine z_cV0 dX7_digest_74 lk_X7_127 (by decide) ⟨by decide, _, rfl⟩ rfl (Nat.le_of_ble_eq_true rfl) (ev_X4_allPlaces G seq1 hq) ?_
  refine z_iload_n dX7_digest_77 rfl ?_
  refine z_cV2g dX7_digest_78 lk_X7_290 (by decide) ⟨by decide, _, rfl⟩ rfl (Nat.le_of_ble_eq_true rfl) (ev_X7_set_5 G hq ht (show 2 ^ n - 1 < 2 ^ n by omega)) ?_
  rintro v u ⟨rfl, hs, ht⟩
  have hz := hz.trans hs
  have hq := hq.same hs (by omega)
  have htx := htx.same hs.K (by omega)
  refine z_i2lN dX7_digest_81 (by omega) ?_
  refine z_cS2 dX7_digest_82 lk_X7_276 (by decide) (Nat.le_of_ble_eq_true rfl) (ev_X7_mixed G) ?_
  refine z_lstore_n (lv' := [(1, _), (3, _), (0, _)]) dX7_digest_85 rfl (by decide) rfl ?_
  refine z_iinc (v := nI (((((1 + 1) + 1) + 1) + 1) + 1)) (lv' := [(3, _), (1, _), (0, _)]) dX7_digest_86 rfl (nI_inc _ 1) (by decide) rfl ?_
  refine z_goto (tgt := 63) dX7_digest_89 (by decide) ?_
  refine z_iload_n dX7_digest_63 rfl ?_
  refine z_iconst (v := nI 5) dX7_digest_64 (by decide) ?_
  refine z_icmpN_gt (tgt := 92) dX7_digest_65 (by decide) (by omega) (by omega) (fun c65 => ?_) (fun c65 => absurd c65 (by omega))
  refine z_aload_n dX7_digest_92 rfl ?_
  refine z_getR (j := 23) dX7_digest_93 fl_X7_26 ⟨by decide, _, rfl, rfl⟩ ?_
  refine z_aload_n dX7_digest_96 rfl ?_
  refine z_getR (j := 1) dX7_digest_97 fl_X7_12 ⟨by decide, _, rfl, rfl⟩ ?_
  refine z_cV1g dX7_digest_100 lk_X7_152 (by decide) ⟨by decide, _, rfl⟩ rfl (Nat.le_of_ble_eq_true rfl) (ev_fol G hq ht) ?_
  rintro v u ⟨rfl, hs, w, h⟩
  have hz := hz.trans hs
  have hq := hq.same hs (by omega)
  have htx := htx.same hs.K (by omega)
  have ht := h.x
  refine z_pop dX7_digest_103 rfl ?_
  refine z_iconst (v := nI 0) dX7_digest_104 (by decide) ?_
  refine z_istore_n (lv' := [(3, _), (1, _), (0, _)]) dX7_digest_105 rfl (by decide) rfl ?_
  refine z_sub (lv' := [(0, _), (1, _), (3, _)]) rfl ?_
  refine lp_X7_digest G (h0 := dgS a b n c tn E Q) h ?_ (cntN (blk a b E) (2 ^ n)) 0 0 (by omega) (by omega) rfl
  refine z_lload_n dX7_digest_138 rfl ?_
  refine z_aload_n dX7_digest_139 rfl ?_
  refine z_cV0 dX7_digest_140 lk_X7_293 (by decide) ⟨by decide, _, rfl⟩ rfl (Nat.le_of_ble_eq_true rfl) (ev_X7_freeElement G hq) ?_
  refine z_i2l dX7_digest_143 rfl ?_
  refine z_cS2 dX7_digest_144 lk_X7_276 (by decide) (Nat.le_of_ble_eq_true rfl) (ev_X7_mixed G) ?_
  refine z_lstore_n (lv' := [(1, _), (0, _)]) dX7_digest_147 rfl (by decide) rfl ?_
  refine z_lload_n dX7_digest_148 rfl ?_
  refine z_aload_n dX7_digest_149 rfl ?_
  refine z_cV0g dX7_digest_150 lk_X7_296 (by decide) ⟨by decide, _, rfl⟩ rfl (Nat.le_of_ble_eq_true rfl) (ev_X7_unlikeBlocks G hq ht) ?_
  rintro v u ⟨rfl, hs, ht⟩
  have hz := hz.trans hs
  have hq := hq.same hs (by omega)
  have htx := htx.same hs.K (by omega)
  refine z_i2lN dX7_digest_153 (by omega) ?_
  refine z_cS2 dX7_digest_154 lk_X7_276 (by decide) (Nat.le_of_ble_eq_true rfl) (ev_X7_mixed G) ?_
  refine z_lstore_n (lv' := [(1, _), (0, _)]) dX7_digest_157 rfl (by decide) rfl ?_
  refine z_lload_n dX7_digest_158 rfl ?_
  refine z_aload_n dX7_digest_159 rfl ?_
  refine z_cV0 dX7_digest_160 lk_X7_299 (by decide) ⟨by decide, _, rfl⟩ rfl (Nat.le_of_ble_eq_true rfl) (ev_X7_cross G hq) ?_
  refine z_cS1 dX7_digest_163 lk_X7_303 (by decide) (Nat.le_of_ble_eq_true rfl) (ev_X7_bitsOf G (cr_bits ha ha6 hb hb6 hE hn)) ?_
  refine z_cS2 dX7_digest_166 lk_X7_276 (by decide) (Nat.le_of_ble_eq_true rfl) (ev_X7_mixed G) ?_
  exact z_lret rfl dX7_digest_169 ⟨rfl, hz, ht⟩
