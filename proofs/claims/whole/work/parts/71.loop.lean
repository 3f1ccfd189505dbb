theorem bl (c : Bool) : (bI c).toInt64 = lN (if c then 1 else 0) := by rw [bI_N, nI_l (bI_le c)]
theorem mg_w {a b n c tn : Nat} {E Q : Nat → Nat} (ha : 1 ≤ a) (ha6 : a ≤ 6) (hb : 1 ≤ b) (hb6 : b ≤ 6) (hE : okE a b E n) (hn : n ≤ 10) (htn : tn ≤ 150) : mdL (wtI a b n tn E Q) (lN (1351662 + c)) 14 = dgW a b n c tn E Q := by
  have hab := ab_le ha6 hb6
  have hpw := p1024 hn
  have hpw1 := ppos n
  have f1 := ex_le hab
  have f2 := tot_lt ha hb E (2 ^ n - 1)
  have f4 := cntN_le (fun B => blk a b E B && sb B (2 ^ n - 1)) (2 ^ n - 1 + 1)
  have f5 := smA_le (blk a b E) (2 ^ n)
  have f6 := gmA_le (blk a b E) (2 ^ n)
  have f7 := cntN_le (fun p => decide (poN Q p n ≠ 0) && (!false || blk a b E (poN Q p n))) 6
  have f8 := cntN_le (fun p => decide (poN Q p n ≠ 0) && (!true || blk a b E (poN Q p n))) 6
  have f9 := cntN_le (ssN a b E (2 ^ n)).testBit (a * b)
  have ec : lN (1351662 + c) = mx 43602 (lN c) := by
    show _ = lN 31 * 43602 + lN c
    rw [show (lN 31 * 43602 : Int64) = lN 1351662 from by decide, lN_add]
  show (mx (mx (mx (mx (mx (mx (mx (mx (mx (mx (mx (mx (mx (mx (lN (1351662 + c)) (nI a).toInt64) (nI b).toInt64) (nI (a * b)).toInt64) (nI (exN a b)).toInt64) (nI n).toInt64) (nI (tot a b E (2 ^ n - 1))).toInt64) (bI (!hld a b E (2 ^ n - 1))).toInt64) (nI (cntN (fun B => blk a b E B && sb B (2 ^ n - 1)) (2 ^ n - 1 + 1))).toInt64) (nI (bsW a b E false (2 ^ n))).toInt64) (nI (bsW a b E true (2 ^ n))).toInt64) (nI (cntN (fun p => decide (poN Q p n ≠ 0) && (!false || blk a b E (poN Q p n))) 6)).toInt64) (nI (cntN (fun p => decide (poN Q p n ≠ 0) && (!true || blk a b E (poN Q p n))) 6)).toInt64) (nI (cntN (ssN a b E (2 ^ n)).testBit (a * b))).toInt64) (nI tn).toInt64) = _
  rw [show bsW a b E false (2 ^ n) = smA (blk a b E) (2 ^ n) from rfl, show bsW a b E true (2 ^ n) = gmA (blk a b E) (2 ^ n) from rfl, bl, nI_l (show a < 2 ^ 31 by omega), nI_l (show b < 2 ^ 31 by omega), nI_l (show a * b < 2 ^ 31 by omega), nI_l (show exN a b < 2 ^ 31 by omega), nI_l (show n < 2 ^ 31 by omega), nI_l (show tot a b E (2 ^ n - 1) < 2 ^ 31 by omega), nI_l (show cntN (fun B => blk a b E B && sb B (2 ^ n - 1)) (2 ^ n - 1 + 1) < 2 ^ 31 by omega), nI_l (show smA (blk a b E) (2 ^ n) < 2 ^ 31 by omega), nI_l (show gmA (blk a b E) (2 ^ n) < 2 ^ 31 by omega), nI_l (show cntN (fun p => decide (poN Q p n ≠ 0) && (!false || blk a b E (poN Q p n))) 6 < 2 ^ 31 by omega), nI_l (show cntN (fun p => decide (poN Q p n ≠ 0) && (!true || blk a b E (poN Q p n))) 6 < 2 ^ 31 by omega), nI_l (show cntN (ssN a b E (2 ^ n)).testBit (a * b) < 2 ^ 31 by omega), nI_l (show tn < 2 ^ 31 by omega), ec, hld_su ha hb hE (by omega), bk_all, ← sm_all, ← lp_eq, ← gp_eq, ss_su ha hb hE (by omega), ← many_eq ha hb hab hE (by omega)]
  rfl
theorem mg_dg {a b n c tn : Nat} {E Q : Nat → Nat} (ha : 1 ≤ a) (ha6 : a ≤ 6) (hb : 1 ≤ b) (hb6 : b ≤ 6) (hE : okE a b E n) (hn : n ≤ 10) (htn : tn ≤ 150) : mgN a b n c tn E Q = dgN a b n c tn E Q := by
  have hab := ab_le ha6 hb6
  have hpw := p1024 hn
  have hpw1 := ppos n
  have f2 := tot_lt ha hb E (2 ^ n - 1)
  have g2 := len_lt2 (a := a) (b := b) (E := E) (S := 2 ^ n - 1) hn (by omega)
  have f4 := cntN_le (fun B => blk a b E B && sb B (2 ^ n - 1)) (2 ^ n - 1 + 1)
  have eP : mgP a b n c tn E Q = dgP a b n c tn E Q := by
    unfold mgP dgP
    rw [mg_w ha ha6 hb hb6 hE hn htn, ss_su ha hb hE (by omega)]
  have eS : mdL (stI a b n E) (dgP a b n c tn E Q) 5 = dgS a b n c tn E Q := by
    show (mx (mx (mx (mx (mx (dgP a b n c tn E Q) (nI (tot a b E (2 ^ n - 1))).toInt64) (bI (blk a b E (2 ^ n - 1))).toInt64) (nI (lenN a b E (2 ^ n - 1))).toInt64) (nI (splN a b E (2 ^ n - 1))).toInt64) (nI (cntN (fun B => blk a b E B && sb B (2 ^ n - 1)) (2 ^ n - 1 + 1))).toInt64) = _
    rw [bl, nI_l (show tot a b E (2 ^ n - 1) < 2 ^ 31 by omega), nI_l (show lenN a b E (2 ^ n - 1) < 2 ^ 31 by omega), nI_l (show cntN (fun B => blk a b E B && sb B (2 ^ n - 1)) (2 ^ n - 1 + 1) < 2 ^ 31 by omega), show 2 ^ n - 1 + 1 = 2 ^ n by omega]
    rfl
  unfold mgN dgN
  rw [eP, eS, ss_su ha hb hE (by omega), uq_cnt ha hb hE hn]
theorem un_digest (G : Gt) {μ : Mm} (hi : Inv μ) : UnOK Value.long G Y_X7_digest Y_X8_digest μ := by
  obtain ⟨⟨a, b, n, E, Q⟩, c, S, tn, T, hz, hm⟩ := hi
  have hq : seqOK μ 1 a b n E Q := hz.1
  have ht := hz.2.1
  have hn := hq.le
  obtain ⟨ha, ha6, hb, hb6⟩ := hq.g.2.2
  have hE : okE a b E n := fun k hk => hq.el hk
  have hc4 : c ≤ 4 := hm.2.1.2.1
  exact un_q (f := Value.long) hz hm (ev_X7_digest G hq ht hz.2.2.2 hz.2.2.1.1 hc4) (fun u hu => by rw [← mg_dg ha ha6 hb hb6 hE hn hz.2.2.2.le]; exact ev_X8_digest G hu.1 hu.2.1.1 hc4 hu.2.2.1.1) (show 7 ≤ 12 by decide) (show 4 ≤ 12 by decide)
set_option maxRecDepth 100000 in
theorem lc_digest (G : Gt) (hG : G.1.stackTraces = false) {b L : Nat} {xs : Nat → Int32} (hL : L ≤ 1536) {i : Nat} (hi : i + 2 < L) {a b2 k n : Nat} {μ : Mm} (hI : Inv μ) (hk : ∀ u, Inv u → Zs G 13 Y_L_law (a, b2, k, n, enL G b L xs) 1339 [(0, .ref b), (1, rf G 0), (2, rf G 35), (3, rf G 46), (4, .int (nI i))] [] u) : Zs G 13 Y_L_law (a, b2, k, n, enL G b L xs) 1325 [(0, .ref b), (1, rf G 0), (2, rf G 35), (3, rf G 46), (4, .int (nI i))] [] μ := by
  obtain ⟨r, PP, dc, dm, hdc, hdm, hw, hmm⟩ := un_digest G hI
  refine z_aload_n dL_law_1325 rfl ?_
  refine z_cV0g dL_law_1326 lk_L_166 (by omega) ⟨by decide, _, rfl⟩ rfl (Nat.le_of_ble_eq_true rfl) (hw) ?_
  rintro v u ⟨rfl, hp⟩
  refine z_aload_n dL_law_1329 rfl ?_
  refine z_cV0g dL_law_1330 lk_L_169 (by omega) ⟨by decide, _, rfl⟩ rfl (Nat.le_of_ble_eq_true rfl) (hmm u hp) ?_
  rintro v2 u2 ⟨rfl, hi2⟩
  refine z_lc_eq (tgt := 1339) dL_law_1333 dL_law_1334 (by decide) (fun c1333 => ?_) (fun c1333 => absurd rfl c1333)
  refine z_sub (lv' := [(0, _), (1, _), (2, _), (3, _), (4, _)]) rfl ?_
  exact hk _ hi2
/-- the law's loop -/
theorem law_loop (G : Gt) (hG : G.1.stackTraces = false) {b L : Nat} {xs : Nat → Int32} (hL : L ≤ 1536) : ∀ (f i a b2 k n : Nat) (μ : Mm), L ≤ i + 3 * f + 2 → i ≤ 1540 → k + (a + f) ≤ 601024 → n + (b2 + 6 * f) ≤ 7293034 → Inv μ → Zs G 13 Y_L_law (a + f, b2 + 6 * f, k, n, enL G b L xs) 23 [(0, .ref b), (1, rf G 0), (2, rf G 35), (3, rf G 46), (4, .int (nI i))] [] μ := by
  intro f
  induction f with
  | zero =>
    intro i a b2 k n μ hf hi h1 h2 hI
    refine z_iload dL_law_23 rfl ?_
    refine zr_aload_n dL_law_25 rfl ?_
    refine z_slen dL_law_26 ?_
    refine z_iconst (v := nI 3) dL_law_27 (by decide) ?_
    refine z_isub dL_law_28 ?_
    refine z_icmp_gt (tgt := 1345) dL_law_29 (by decide) (fun c29 => ?_) (fun c29 => absurd ((lw_cmp hL (by omega)).mpr (by omega)) c29)
    refine z_iconst (v := nI 1) dL_law_1345 (by decide) ?_
    exact z_lawret (by omega) (by omega) dL_law_1346
  | succ f ih =>
    intro i a b2 k n μ hf hi h1 h2 hI
    rw [show a + (f + 1) = a + f + 1 from rfl, show b2 + 6 * (f + 1) = b2 + 6 * f + 6 by omega]
    refine z_iload dL_law_23 rfl ?_
    refine zr_aload_n dL_law_25 rfl ?_
    refine z_slen dL_law_26 ?_
    refine z_iconst (v := nI 3) dL_law_27 (by decide) ?_
    refine z_isub dL_law_28 ?_
    refine z_icmp_gt (tgt := 1345) dL_law_29 (by decide) (fun c29 => ?_) (fun c29 => ?_)
    · refine z_iconst (v := nI 1) dL_law_1345 (by decide) ?_
      exact z_lawret (by omega) (by omega) dL_law_1346
    have hi2 : i + 2 < L := by
      have q : ¬ L < i + 3 := fun q => c29 ((lw_cmp hL (by omega)).mpr q)
      omega
    have key1 : ∀ u, Inv u → Zs G 13 Y_L_law (a + f, b2 + 6 * f, k + 1, n + 6, enL G b L xs) 1339 [(0, .ref b), (1, rf G 0), (2, rf G 35), (3, rf G 46), (4, .int (nI i))] [] u := by
      intro u hu
      refine z_iinc (v := nI (i + 3)) (lv' := [(4, _), (0, _), (1, _), (2, _), (3, _)]) dL_law_1339 rfl (nI_inc _ 3) (by decide) rfl ?_
      refine z_goto (tgt := 23) dL_law_1342 (by decide) ?_
      refine z_sub (lv' := [(0, _), (1, _), (2, _), (3, _), (4, _)]) rfl ?_
      exact ih (i + 3) a b2 (k + 1) (n + 6) u (by omega) (by omega) (by omega) (by omega) hu
    have key2 : ∀ u, Inv u → Zs G 13 Y_L_law (a + f + 1, b2 + 6 * f + 6, k, n, enL G b L xs) 1339 [(0, .ref b), (1, rf G 0), (2, rf G 35), (3, rf G 46), (4, .int (nI i))] [] u := by
      intro u hu
      refine z_iinc (v := nI (i + 3)) (lv' := [(4, _), (0, _), (1, _), (2, _), (3, _)]) dL_law_1339 rfl (nI_inc _ 3) (by decide) rfl ?_
      refine z_goto (tgt := 23) dL_law_1342 (by decide) ?_
      refine z_sub (lv' := [(0, _), (1, _), (2, _), (3, _), (4, _)]) rfl ?_
      rw [show a + f + 1 = a + 1 + f by omega, show b2 + 6 * f + 6 = b2 + 6 + 6 * f by omega]
      exact ih (i + 3) (a + 1) (b2 + 6) k n u (by omega) (by omega) (by omega) (by omega) hu
    refine zr_aload_n dL_law_32 rfl ?_
    refine z_iload dL_law_33 rfl ?_
    refine z_sld dL_law_35 (by omega) hL ?_
    refine z_bipush (v := nI 31) dL_law_36 (by decide) ?_
    refine z_iand dL_law_38 ?_
    obtain ⟨j, hj, ej⟩ := and31 (xs i)
    rw [ej]
    rcases (show j = 0 ∨ j = 1 ∨ j = 2 ∨ j = 3 ∨ j = 4 ∨ j = 5 ∨ j = 6 ∨ j = 7 ∨ j = 8 ∨ j = 9 ∨ j = 10 ∨ j = 11 ∨ j = 12 ∨ j = 13 ∨ j = 14 ∨ j = 15 ∨ j = 16 ∨ j = 17 ∨ j = 18 ∨ j = 19 ∨ j = 20 ∨ j = 21 ∨ j = 22 ∨ j = 23 ∨ j = 24 ∨ j = 25 ∨ 26 ≤ j by omega) with rfl | rfl | rfl | rfl | rfl | rfl | rfl | rfl | rfl | rfl | rfl | rfl | rfl | rfl | rfl | rfl | rfl | rfl | rfl | rfl | rfl | rfl | rfl | rfl | rfl | rfl | h26
    · refine z_tsw (tgt := 156) dL_law_39 (by decide) (by decide) (by decide) rfl (by decide) ?_
      exact lc_begin G hG hL hi2 hI key1
    · refine z_tsw (tgt := 224) dL_law_39 (by decide) (by decide) (by decide) rfl (by decide) ?_
      exact lc_add G hG hL hi2 hI key1
    · refine z_tsw (tgt := 280) dL_law_39 (by decide) (by decide) (by decide) rfl (by decide) ?_
      exact lc_removeAt G hG hL hi2 hI key1
    · refine z_tsw (tgt := 336) dL_law_39 (by decide) (by decide) (by decide) rfl (by decide) ?_
      exact lc_lay G hG hL hi2 hI key1
    · refine z_tsw (tgt := 404) dL_law_39 (by decide) (by decide) (by decide) rfl (by decide) ?_
      exact lc_laySplit G hG hL hi2 hI key1
    · refine z_tsw (tgt := 448) dL_law_39 (by decide) (by decide) (by decide) rfl (by decide) ?_
      exact lc_sum G hG hL hi2 hI key1
    · refine z_tsw (tgt := 516) dL_law_39 (by decide) (by decide) (by decide) rfl (by decide) ?_
      exact lc_element G hG hL hi2 hI key1
    · refine z_tsw (tgt := 584) dL_law_39 (by decide) (by decide) (by decide) rfl (by decide) ?_
      exact lc_bound G hG hL hi2 hI key2
    · refine z_tsw (tgt := 597) dL_law_39 (by decide) (by decide) (by decide) rfl (by decide) ?_
      exact lc_at G hG hL hi2 hI key1
    · refine z_tsw (tgt := 665) dL_law_39 (by decide) (by decide) (by decide) rfl (by decide) ?_
      exact lc_set G hG hL hi2 hI key1
    · refine z_tsw (tgt := 733) dL_law_39 (by decide) (by decide) (by decide) rfl (by decide) ?_
      exact lc_block G hG hL hi2 hI key1
    · refine z_tsw (tgt := 789) dL_law_39 (by decide) (by decide) (by decide) rfl (by decide) ?_
      exact lc_part G hG hL hi2 hI key1
    · refine z_tsw (tgt := 857) dL_law_39 (by decide) (by decide) (by decide) rfl (by decide) ?_
      exact lc_whole G hG hL hi2 hI key1
    · refine z_tsw (tgt := 913) dL_law_39 (by decide) (by decide) (by decide) rfl (by decide) ?_
      exact lc_sums G hG hL hi2 hI key2
    · refine z_tsw (tgt := 927) dL_law_39 (by decide) (by decide) (by decide) rfl (by decide) ?_
      exact lc_cross G hG hL hi2 hI key2
    · refine z_tsw (tgt := 968) dL_law_39 (by decide) (by decide) (by decide) rfl (by decide) ?_
      exact lc_reason G hG hL hi2 hI key1
    · refine z_tsw (tgt := 1024) dL_law_39 (by decide) (by decide) (by decide) rfl (by decide) ?_
      exact lc_freeElement G hG hL hi2 hI key2
    · refine z_tsw (tgt := 1037) dL_law_39 (by decide) (by decide) (by decide) rfl (by decide) ?_
      exact lc_freeFor G hG hL hi2 hI key2
    · refine z_tsw (tgt := 1050) dL_law_39 (by decide) (by decide) (by decide) rfl (by decide) ?_
      exact lc_blocksWith G hG hL hi2 hI key1
    · refine z_tsw (tgt := 1118) dL_law_39 (by decide) (by decide) (by decide) rfl (by decide) ?_
      exact lc_alike G hG hL hi2 hI key1
    · refine z_tsw (tgt := 1186) dL_law_39 (by decide) (by decide) (by decide) rfl (by decide) ?_
      exact lc_unlikeBlocks G hG hL hi2 hI key2
    · refine z_tsw (tgt := 1199) dL_law_39 (by decide) (by decide) (by decide) rfl (by decide) ?_
      exact lc_type G hG hL hi2 hI key1
    · refine z_tsw (tgt := 1255) dL_law_39 (by decide) (by decide) (by decide) rfl (by decide) ?_
      exact lc_clearCommands G hG hL hi2 hI key2
    · refine z_tsw (tgt := 1268) dL_law_39 (by decide) (by decide) (by decide) rfl (by decide) ?_
      exact lc_runCommands G hG hL hi2 hI key2
    · refine z_tsw (tgt := 1281) dL_law_39 (by decide) (by decide) (by decide) rfl (by decide) ?_
      exact lc_undo G hG hL hi2 hI key1
    · refine z_tsw (tgt := 1325) dL_law_39 (by decide) (by decide) (by decide) rfl (by decide) ?_
      exact lc_digest G hG hL hi2 hI key2
    · refine z_tswD (tgt := 1339) dL_law_39 (Or.inr (by rw [nI_toInt (by omega)]; omega)) (by decide) ?_
      exact key2 μ hI
