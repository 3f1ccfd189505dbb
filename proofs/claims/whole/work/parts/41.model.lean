theorem blk_0 (a b : Nat) (E : Nat → Nat) : blk a b E 0 = false := by unfold blk; simp
/-- the sums of the sets below N that are not empty -/
def ssN (a b : Nat) (E : Nat → Nat) : Nat → Nat
  | 0 => 0
  | k + 1 => if k = 0 then 0 else ssN a b E k ||| 2 ^ tot a b E k
set_option maxRecDepth 100000 in
theorem lp_X8_sumSet (G : Gt) {a b n : Nat} {E Q : Nat → Nat} {μ : Mm} (h : nwOK μ a b n E Q) (hl : lkE μ a b n E) (hs : lkS μ a b E (2 ^ n)) : ∀ (f s : Nat), s + f = 2 ^ n → 1 ≤ s →
    Zs G 1 Y_X8_sumSet (fnN G (fun v u => v = some (.long (lN (ssN a b E (2 ^ n)))) ∧ u = μ)) 4 [(0, rf G 35), (1, .long (lN (ssN a b E s))), (3, .int (nI s))] [] μ := by
  intro f
  have hn := h.le
  have hpw := p1024 hn
  have hpw1 := ppos n
  have hab := h.ab
  have htl := fun S : Nat => tot_lt (a := a) (b := b) h.g.1 h.g.2.2.1 E S
  induction f with
  | zero =>
    intro s hf h1
    refine z_iload_n dX8_sumSet_4 rfl ?_
    refine z_aload_n dX8_sumSet_5 rfl ?_
    refine z_cV0 dX8_sumSet_6 lk_X8_101 (by decide) ⟨by decide, _, rfl⟩ rfl (Nat.le_of_ble_eq_true rfl) (ev_X8_all G h) ?_
    refine z_icmpN_gt (tgt := 29) dX8_sumSet_9 (by decide) (by omega) (by omega) (fun c9 => ?_) (fun c9 => absurd c9 (by omega))
    refine z_lload_n dX8_sumSet_29 rfl ?_
    exact z_lret rfl dX8_sumSet_30 ⟨by rw [show s = 2 ^ n by omega], rfl⟩
  | succ f ih =>
    intro s hf h1
    have ht := htl s
    refine z_iload_n dX8_sumSet_4 rfl ?_
    refine z_aload_n dX8_sumSet_5 rfl ?_
    refine z_cV0 dX8_sumSet_6 lk_X8_101 (by decide) ⟨by decide, _, rfl⟩ rfl (Nat.le_of_ble_eq_true rfl) (ev_X8_all G h) ?_
    refine z_icmpN_gt (tgt := 29) dX8_sumSet_9 (by decide) (by omega) (by omega) (fun c9 => absurd c9 (by omega)) (fun c9 => ?_)
    refine z_lload_n dX8_sumSet_12 rfl ?_
    refine z_lconst (v := lN 1) dX8_sumSet_13 rfl ?_
    refine z_aload_n dX8_sumSet_14 rfl ?_
    refine z_getR (j := 41) dX8_sumSet_15 fl_X8_25 ⟨by decide, _, rfl, rfl⟩ ?_
    refine z_iload_n dX8_sumSet_18 rfl ?_
    refine z_ialdN dX8_sumSet_19 ⟨by decide, rfl⟩ (by omega) (by decide) ((hs s (by omega)).1) ?_
    refine z_lshlN dX8_sumSet_20 (by omega) ?_
    refine z_lorN dX8_sumSet_21 ?_
    refine z_lstore_n (lv' := [(1, _), (0, _), (3, _)]) dX8_sumSet_22 rfl (by decide) rfl ?_
    refine z_iinc (v := nI (s + 1)) (lv' := [(3, _), (1, _), (0, _)]) dX8_sumSet_23 rfl (nI_inc _ 1) (by decide) rfl ?_
    refine z_goto (tgt := 4) dX8_sumSet_26 (by decide) ?_
    have q := ih (s + 1) (by omega) (by omega)
    rw [show ssN a b E (s + 1) = ssN a b E s ||| 1 * 2 ^ tot a b E s by rw [show ssN a b E (s + 1) = if s = 0 then 0 else ssN a b E s ||| 2 ^ tot a b E s from rfl, if_neg (by omega), Nat.one_mul]] at q
    refine z_sub (lv' := [(0, _), (1, _), (3, _)]) rfl ?_
    exact q
set_option maxRecDepth 100000 in
theorem ev_X8_sumSet (G : Gt) {a b n : Nat} {E Q : Nat → Nat} {μ : Mm} (h : nwOK μ a b n E Q) (hl : lkE μ a b n E) (hs : lkS μ a b E (2 ^ n)) : EVr G 1 Y_X8_sumSet [rf G 35] μ (.long (lN (ssN a b E (2 ^ n)))) := by
  have hpw1 := ppos n
  refine ev_of (by decide) (Nat.le_of_ble_eq_true rfl) ?_
  show Zs G 1 Y_X8_sumSet (fnN G _) 0 [(0, rf G 35)] [] μ
  refine z_lconst (v := lN 0) dX8_sumSet_0 rfl ?_
  refine z_lstore_n (lv' := [(1, _), (0, _)]) dX8_sumSet_1 rfl (by decide) rfl ?_
  refine z_iconst (v := nI 1) dX8_sumSet_2 (by decide) ?_
  refine z_istore_n (lv' := [(3, _), (1, _), (0, _)]) dX8_sumSet_3 rfl (by decide) rfl ?_
  refine z_sub (lv' := [(0, _), (1, _), (3, _)]) rfl ?_
  exact lp_X8_sumSet G h hl hs (2 ^ n - 1) 1 (by omega) (Nat.le_refl _)
set_option maxRecDepth 100000 in
theorem lp_X8_blocksIn (G : Gt) {a b M : Nat} {E : Nat → Nat} {μ : Mm} (hab : a * b ≤ 36) (htl : ∀ S : Nat, tot a b E S < a * b) (hl : lkE μ a b M E) (hs : lkS μ a b E (2 ^ M)) {S : Nat} (hS : S < 2 ^ M) : ∀ (f s : Nat), s + f = S + 1 → 1 ≤ s →
    Zs G 2 Y_X8_blocksIn (fnN G (fun v u => v = some (.int (nI (cntN (fun B => blk a b E B && sb B S) (S + 1)))) ∧ u = μ)) 4 [(0, rf G 35), (1, .int (nI S)), (2, .int (nI (cntN (fun B => blk a b E B && sb B S) s))), (3, .int (nI s))] [] μ := by
  intro f
  have hM := hl.2.1
  have hpw := p2048 hM
  have hpw1 := ppos M
  induction f with
  | zero =>
    intro s hf h1
    refine z_iload_n dX8_blocksIn_4 rfl ?_
    refine z_iload_n dX8_blocksIn_5 rfl ?_
    refine z_icmpN_gt (tgt := 40) dX8_blocksIn_6 (by decide) (by omega) (by omega) (fun c6 => ?_) (fun c6 => absurd c6 (by omega))
    refine z_iload_n dX8_blocksIn_40 rfl ?_
    exact z_ret (ty := none) (v := none) rfl dX8_blocksIn_41 ⟨by rw [show s = S + 1 by omega], rfl⟩
  | succ f ih =>
    intro s hf h1
    refine z_iload_n dX8_blocksIn_4 rfl ?_
    refine z_iload_n dX8_blocksIn_5 rfl ?_
    refine z_icmpN_gt (tgt := 40) dX8_blocksIn_6 (by decide) (by omega) (by omega) (fun c6 => absurd c6 (by omega)) (fun c6 => ?_)
    refine z_iload_n dX8_blocksIn_9 rfl ?_
    refine z_aload_n dX8_blocksIn_10 rfl ?_
    refine z_iload_n dX8_blocksIn_11 rfl ?_
    refine z_iload_n dX8_blocksIn_12 rfl ?_
    refine z_cV2 dX8_blocksIn_13 lk_X8_88 (by decide) ⟨by decide, _, rfl⟩ rfl (Nat.le_of_ble_eq_true rfl) (ev_X8_isIn G (by omega)) ?_
    refine z_ifB_eq (tgt := 31) dX8_blocksIn_16 (by decide) (fun c16 => ?_) (fun c16 => ?_)
    · refine z_iconst (v := nI 0) dX8_blocksIn_31 (by decide) ?_
      refine z_iaddN dX8_blocksIn_32 ?_
      refine z_istore_n (lv' := [(2, _), (0, _), (1, _), (3, _)]) dX8_blocksIn_33 rfl (by decide) rfl ?_
      refine z_iinc (v := nI (s + 1)) (lv' := [(3, _), (2, _), (0, _), (1, _)]) dX8_blocksIn_34 rfl (nI_inc _ 1) (by decide) rfl ?_
      refine z_goto (tgt := 4) dX8_blocksIn_37 (by decide) ?_
      have q := ih (s + 1) (by omega) (by omega)
      rw [show cntN (fun B => blk a b E B && sb B S) (s + 1) = cntN (fun B => blk a b E B && sb B S) s + 0 by rw [cntN_succ]; simp [c16]] at q
      refine z_sub (lv' := [(0, _), (1, _), (2, _), (3, _)]) rfl ?_
      exact q
    · refine z_aload_n dX8_blocksIn_19 rfl ?_
      refine z_iload_n dX8_blocksIn_20 rfl ?_
      refine z_cV1 dX8_blocksIn_21 lk_X8_91 (by decide) ⟨by decide, _, rfl⟩ rfl (Nat.le_of_ble_eq_true rfl) (ev_X8_isBlock G hab htl hl hs (show s < 2 ^ M by omega)) ?_
      refine z_ifB_eq (tgt := 31) dX8_blocksIn_24 (by decide) (fun c24 => ?_) (fun c24 => ?_)
      · refine z_iconst (v := nI 0) dX8_blocksIn_31 (by decide) ?_
        refine z_iaddN dX8_blocksIn_32 ?_
        refine z_istore_n (lv' := [(2, _), (0, _), (1, _), (3, _)]) dX8_blocksIn_33 rfl (by decide) rfl ?_
        refine z_iinc (v := nI (s + 1)) (lv' := [(3, _), (2, _), (0, _), (1, _)]) dX8_blocksIn_34 rfl (nI_inc _ 1) (by decide) rfl ?_
        refine z_goto (tgt := 4) dX8_blocksIn_37 (by decide) ?_
        have q := ih (s + 1) (by omega) (by omega)
        rw [show cntN (fun B => blk a b E B && sb B S) (s + 1) = cntN (fun B => blk a b E B && sb B S) s + 0 by rw [cntN_succ]; simp [c24]] at q
        refine z_sub (lv' := [(0, _), (1, _), (2, _), (3, _)]) rfl ?_
        exact q
      · refine z_iconst (v := nI 1) dX8_blocksIn_27 (by decide) ?_
        refine z_goto (tgt := 32) dX8_blocksIn_28 (by decide) ?_
        refine z_iaddN dX8_blocksIn_32 ?_
        refine z_istore_n (lv' := [(2, _), (0, _), (1, _), (3, _)]) dX8_blocksIn_33 rfl (by decide) rfl ?_
        refine z_iinc (v := nI (s + 1)) (lv' := [(3, _), (2, _), (0, _), (1, _)]) dX8_blocksIn_34 rfl (nI_inc _ 1) (by decide) rfl ?_
        refine z_goto (tgt := 4) dX8_blocksIn_37 (by decide) ?_
        have q := ih (s + 1) (by omega) (by omega)
        rw [show cntN (fun B => blk a b E B && sb B S) (s + 1) = cntN (fun B => blk a b E B && sb B S) s + 1 by rw [cntN_succ]; simp [c16, c24]] at q
        refine z_sub (lv' := [(0, _), (1, _), (2, _), (3, _)]) rfl ?_
        exact q
set_option maxRecDepth 100000 in
theorem ev_X8_blocksIn (G : Gt) {a b M : Nat} {E : Nat → Nat} {μ : Mm} (hab : a * b ≤ 36) (htl : ∀ S : Nat, tot a b E S < a * b) (hl : lkE μ a b M E) (hs : lkS μ a b E (2 ^ M)) {S : Nat} (hS : S < 2 ^ M) : EVr G 2 Y_X8_blocksIn [rf G 35, .int (nI S)] μ (.int (nI (cntN (fun B => blk a b E B && sb B S) (S + 1)))) := by
  refine ev_of (by decide) (Nat.le_of_ble_eq_true rfl) ?_
  show Zs G 2 Y_X8_blocksIn (fnN G _) 0 [(0, rf G 35), (1, .int (nI S))] [] μ
  refine z_iconst (v := nI 0) dX8_blocksIn_0 (by decide) ?_
  refine z_istore_n (lv' := [(2, _), (0, _), (1, _)]) dX8_blocksIn_1 rfl (by decide) rfl ?_
  refine z_iconst (v := nI 1) dX8_blocksIn_2 (by decide) ?_
  refine z_istore_n (lv' := [(3, _), (2, _), (0, _), (1, _)]) dX8_blocksIn_3 rfl (by decide) rfl ?_
  have q := lp_X8_blocksIn G hab htl hl hs hS S 1 (by omega) (Nat.le_refl _)
  rw [show cntN (fun B => blk a b E B && sb B S) 1 = 0 by rw [show (1 : Nat) = 0 + 1 from rfl, cntN_succ]; simp [blk_0, cntN]] at q
  refine z_sub (lv' := [(0, _), (1, _), (2, _), (3, _)]) rfl ?_
  exact q
theorem cPl_p {a b p B : Nat} {E : Nat → Nat} : cPl a b E (2 ^ p) B = (blk a b E B && B.testBit p) := by
  unfold cPl
  cases q : B.testBit p with
  | true => rw [decide_eq_true (and_pow.mpr q)]
  | false => rw [decide_eq_false (fun k => by rw [and_pow.mp k] at q; cases q)]
theorem smA_s {c : Nat → Bool} {k : Nat} : smA c (k + 1) = if c k && (decide (smA c k = 0) || decide (pcN k < smA c k)) then pcN k else smA c k := rfl
set_option maxRecDepth 100000 in
theorem lp_X8_blocksAt (G : Gt) {a b n : Nat} {E Q : Nat → Nat} {μ : Mm} (h : nwOK μ a b n E Q) (hl : lkE μ a b n E) (hs : lkS μ a b E (2 ^ n)) {p : Nat} {z : Bool} (hp : p < n) : ∀ (f s : Nat), s + f = 2 ^ n → 1 ≤ s →
    Zs G 2 Y_X8_blocksAt (fnN G (fun v u => v = some (.int (nI (if z = true then smA (cPl a b E (2 ^ p)) (2 ^ n) else cntN (fun B => blk a b E B && B.testBit p) (2 ^ n)))) ∧ u = μ)) 8 [(0, rf G 35), (1, .int (nI p)), (2, .int (bI z)), (3, .int (nI (cntN (fun B => blk a b E B && B.testBit p) s))), (4, .int (nI (smA (cPl a b E (2 ^ p)) s))), (5, .int (nI s))] [] μ := by
  intro f
  have hn := h.le
  have hpw := p1024 hn
  have hpw1 := ppos n
  have hab := h.ab
  have htl := fun S : Nat => tot_lt (a := a) (b := b) h.g.1 h.g.2.2.1 E S
  induction f with
  | zero =>
    intro s hf h1
    refine z_iload dX8_blocksAt_8 rfl ?_
    refine z_aload_n dX8_blocksAt_10 rfl ?_
    refine z_cV0 dX8_blocksAt_11 lk_X8_101 (by decide) ⟨by decide, _, rfl⟩ rfl (Nat.le_of_ble_eq_true rfl) (ev_X8_all G h) ?_
    refine z_icmpN_gt (tgt := 71) dX8_blocksAt_14 (by decide) (by omega) (by omega) (fun c14 => ?_) (fun c14 => absurd c14 (by omega))
    refine z_iload_n dX8_blocksAt_71 rfl ?_
    refine z_ifB_eq (tgt := 80) dX8_blocksAt_72 (by decide) (fun c72 => ?_) (fun c72 => ?_)
    · refine z_iload_n dX8_blocksAt_80 rfl ?_
      exact z_ret (ty := none) (v := none) rfl dX8_blocksAt_81 ⟨by rw [c72, show s = 2 ^ n by omega]; rfl, rfl⟩
    · refine z_iload dX8_blocksAt_75 rfl ?_
      refine z_goto (tgt := 81) dX8_blocksAt_77 (by decide) ?_
      exact z_ret (ty := none) (v := none) rfl dX8_blocksAt_81 ⟨by rw [c72, show s = 2 ^ n by omega]; rfl, rfl⟩
  | succ f ih =>
    intro s hf h1
    have hsm := smA_le (cPl a b E (2 ^ p)) s
    have hpc := pcN_le s
    refine z_iload dX8_blocksAt_8 rfl ?_
    refine z_aload_n dX8_blocksAt_10 rfl ?_
    refine z_cV0 dX8_blocksAt_11 lk_X8_101 (by decide) ⟨by decide, _, rfl⟩ rfl (Nat.le_of_ble_eq_true rfl) (ev_X8_all G h) ?_
    refine z_icmpN_gt (tgt := 71) dX8_blocksAt_14 (by decide) (by omega) (by omega) (fun c14 => absurd c14 (by omega)) (fun c14 => ?_)
    refine z_iload dX8_blocksAt_17 rfl ?_
    refine z_iload_n dX8_blocksAt_19 rfl ?_
    refine z_cS2 dX8_blocksAt_20 lk_X8_84 (by decide) (Nat.le_of_ble_eq_true rfl) (ev_X8_has G (by omega) (by omega)) ?_
    refine z_ifB_eq (tgt := 65) dX8_blocksAt_23 (by decide) (fun c23 => ?_) (fun c23 => ?_)
    · refine z_iinc (v := nI (s + 1)) (lv' := [(5, _), (0, _), (1, _), (2, _), (3, _), (4, _)]) dX8_blocksAt_65 rfl (nI_inc _ 1) (by decide) rfl ?_
      refine z_goto (tgt := 8) dX8_blocksAt_68 (by decide) ?_
      have q := ih (s + 1) (by omega) (by omega)
      rw [show cntN (fun B => blk a b E B && B.testBit p) (s + 1) = cntN (fun B => blk a b E B && B.testBit p) s by rw [cntN_succ]; simp [c23], show smA (cPl a b E (2 ^ p)) (s + 1) = smA (cPl a b E (2 ^ p)) s by rw [smA_s, cPl_p]; simp [c23]] at q
      refine z_sub (lv' := [(0, _), (1, _), (2, _), (3, _), (4, _), (5, _)]) rfl ?_
      exact q
    · refine z_aload_n dX8_blocksAt_26 rfl ?_
      refine z_iload dX8_blocksAt_27 rfl ?_
      refine z_cV1 dX8_blocksAt_29 lk_X8_91 (by decide) ⟨by decide, _, rfl⟩ rfl (Nat.le_of_ble_eq_true rfl) (ev_X8_isBlock G hab htl hl hs (show s < 2 ^ n by omega)) ?_
      refine z_ifB_eq (tgt := 65) dX8_blocksAt_32 (by decide) (fun c32 => ?_) (fun c32 => ?_)
      · refine z_iinc (v := nI (s + 1)) (lv' := [(5, _), (0, _), (1, _), (2, _), (3, _), (4, _)]) dX8_blocksAt_65 rfl (nI_inc _ 1) (by decide) rfl ?_
        refine z_goto (tgt := 8) dX8_blocksAt_68 (by decide) ?_
        have q := ih (s + 1) (by omega) (by omega)
        rw [show cntN (fun B => blk a b E B && B.testBit p) (s + 1) = cntN (fun B => blk a b E B && B.testBit p) s by rw [cntN_succ]; simp [c32], show smA (cPl a b E (2 ^ p)) (s + 1) = smA (cPl a b E (2 ^ p)) s by rw [smA_s, cPl_p]; simp [c32]] at q
        refine z_sub (lv' := [(0, _), (1, _), (2, _), (3, _), (4, _), (5, _)]) rfl ?_
        exact q
      · refine z_iinc (v := nI ((cntN (fun B => blk a b E B && B.testBit p) s) + 1)) (lv' := [(3, _), (0, _), (1, _), (2, _), (4, _), (5, _)]) dX8_blocksAt_35 rfl (nI_inc _ 1) (by decide) rfl ?_
        refine z_iload dX8_blocksAt_38 rfl ?_
        refine z_ifN_eq (tgt := 53) dX8_blocksAt_40 (by decide) (by omega) (fun c40 => ?_) (fun c40 => ?_)
        · refine z_iload dX8_blocksAt_53 rfl ?_
          refine z_cS1 dX8_blocksAt_55 lk_X8_107 (by decide) (Nat.le_of_ble_eq_true rfl) (ev_X8_bits G (show s < 2 ^ 31 by omega)) ?_
          refine z_goto (tgt := 63) dX8_blocksAt_58 (by decide) ?_
          refine z_istore (lv' := [(4, _), (3, _), (0, _), (1, _), (2, _), (5, _)]) dX8_blocksAt_63 (by decide) rfl ?_
          refine z_iinc (v := nI (s + 1)) (lv' := [(5, _), (4, _), (3, _), (0, _), (1, _), (2, _)]) dX8_blocksAt_65 rfl (nI_inc _ 1) (by decide) rfl ?_
          refine z_goto (tgt := 8) dX8_blocksAt_68 (by decide) ?_
          have q := ih (s + 1) (by omega) (by omega)
          rw [show cntN (fun B => blk a b E B && B.testBit p) (s + 1) = cntN (fun B => blk a b E B && B.testBit p) s + 1 by rw [cntN_succ]; simp [c23, c32], show smA (cPl a b E (2 ^ p)) (s + 1) = pcN s by rw [smA_s, cPl_p]; simp [c23, c32, c40]] at q
          refine z_sub (lv' := [(0, _), (1, _), (2, _), (3, _), (4, _), (5, _)]) rfl ?_
          exact q
        · refine z_iload dX8_blocksAt_43 rfl ?_
          refine z_cS1 dX8_blocksAt_45 lk_X8_107 (by decide) (Nat.le_of_ble_eq_true rfl) (ev_X8_bits G (show s < 2 ^ 31 by omega)) ?_
          refine z_iload dX8_blocksAt_48 rfl ?_
          refine z_icmpN_ge (tgt := 61) dX8_blocksAt_50 (by decide) (by omega) (by omega) (fun c50 => ?_) (fun c50 => ?_)
          · refine z_iload dX8_blocksAt_61 rfl ?_
            refine z_istore (lv' := [(4, _), (3, _), (0, _), (1, _), (2, _), (5, _)]) dX8_blocksAt_63 (by decide) rfl ?_
            refine z_iinc (v := nI (s + 1)) (lv' := [(5, _), (4, _), (3, _), (0, _), (1, _), (2, _)]) dX8_blocksAt_65 rfl (nI_inc _ 1) (by decide) rfl ?_
            refine z_goto (tgt := 8) dX8_blocksAt_68 (by decide) ?_
            have q := ih (s + 1) (by omega) (by omega)
            rw [show cntN (fun B => blk a b E B && B.testBit p) (s + 1) = cntN (fun B => blk a b E B && B.testBit p) s + 1 by rw [cntN_succ]; simp [c23, c32], show smA (cPl a b E (2 ^ p)) (s + 1) = smA (cPl a b E (2 ^ p)) s by rw [smA_s, cPl_p, decide_eq_false c40, decide_eq_false (show ¬ pcN s < smA (cPl a b E (2 ^ p)) s by omega)]; simp] at q
            refine z_sub (lv' := [(0, _), (1, _), (2, _), (3, _), (4, _), (5, _)]) rfl ?_
            exact q
          · refine z_iload dX8_blocksAt_53 rfl ?_
            refine z_cS1 dX8_blocksAt_55 lk_X8_107 (by decide) (Nat.le_of_ble_eq_true rfl) (ev_X8_bits G (show s < 2 ^ 31 by omega)) ?_
            refine z_goto (tgt := 63) dX8_blocksAt_58 (by decide) ?_
            refine z_istore (lv' := [(4, _), (3, _), (0, _), (1, _), (2, _), (5, _)]) dX8_blocksAt_63 (by decide) rfl ?_
            refine z_iinc (v := nI (s + 1)) (lv' := [(5, _), (4, _), (3, _), (0, _), (1, _), (2, _)]) dX8_blocksAt_65 rfl (nI_inc _ 1) (by decide) rfl ?_
            refine z_goto (tgt := 8) dX8_blocksAt_68 (by decide) ?_
            have q := ih (s + 1) (by omega) (by omega)
            rw [show cntN (fun B => blk a b E B && B.testBit p) (s + 1) = cntN (fun B => blk a b E B && B.testBit p) s + 1 by rw [cntN_succ]; simp [c23, c32], show smA (cPl a b E (2 ^ p)) (s + 1) = pcN s by rw [smA_s, cPl_p]; simp [c23, c32, c50]] at q
            refine z_sub (lv' := [(0, _), (1, _), (2, _), (3, _), (4, _), (5, _)]) rfl ?_
            exact q
set_option maxRecDepth 100000 in
theorem ev_X8_blocksAt (G : Gt) {a b n : Nat} {E Q : Nat → Nat} {μ : Mm} (h : nwOK μ a b n E Q) (hl : lkE μ a b n E) (hs : lkS μ a b E (2 ^ n)) {p : Nat} {z : Bool} (hp : p < n) : EVr G 2 Y_X8_blocksAt [rf G 35, .int (nI p), .int (bI z)] μ (.int (nI (if z = true then smA (cPl a b E (2 ^ p)) (2 ^ n) else cntN (fun B => blk a b E B && B.testBit p) (2 ^ n)))) := by
  have hpw1 := ppos n
  refine ev_of (by decide) (Nat.le_of_ble_eq_true rfl) ?_
  show Zs G 2 Y_X8_blocksAt (fnN G _) 0 [(0, rf G 35), (1, .int (nI p)), (2, .int (bI z))] [] μ
  refine z_iconst (v := nI 0) dX8_blocksAt_0 (by decide) ?_
  refine z_istore_n (lv' := [(3, _), (0, _), (1, _), (2, _)]) dX8_blocksAt_1 rfl (by decide) rfl ?_
  refine z_iconst (v := nI 0) dX8_blocksAt_2 (by decide) ?_
  refine z_istore (lv' := [(4, _), (3, _), (0, _), (1, _), (2, _)]) dX8_blocksAt_3 (by decide) rfl ?_
  refine z_iconst (v := nI 1) dX8_blocksAt_5 (by decide) ?_
  refine z_istore (lv' := [(5, _), (4, _), (3, _), (0, _), (1, _), (2, _)]) dX8_blocksAt_6 (by decide) rfl ?_
  have q := lp_X8_blocksAt G h hl hs (z := z) hp (2 ^ n - 1) 1 (by omega) (Nat.le_refl _)
  rw [show cntN (fun B => blk a b E B && B.testBit p) 1 = 0 by rw [show (1 : Nat) = 0 + 1 from rfl, cntN_succ]; simp [blk_0, cntN], show smA (cPl a b E (2 ^ p)) 1 = 0 by rw [show (1 : Nat) = 0 + 1 from rfl, smA_s, cPl_p, blk_0]; rfl] at q
  refine z_sub (lv' := [(0, _), (1, _), (2, _), (3, _), (4, _), (5, _)]) rfl ?_
  exact q
set_option maxRecDepth 100000 in
theorem lp_X8_most (G : Gt) {S N : Nat} {μ : Mm} (hS : S < 1024) (hN : N < 2048) (hr : μ.2.1 44 S = nI N) : ∀ (f k : Nat), k + f = 11 →
    Zs G 1 Y_X8_most (fnN G (fun v u => v = some (.int (oI (hbN N 11))) ∧ u = μ)) 4 [(0, rf G 35), (1, .int (nI S)), (2, .int (oI (hbN N k))), (3, .int (nI k))] [] μ := by
  intro f
  induction f with
  | zero =>
    intro k hf
    refine z_iload_n dX8_most_4 rfl ?_
    refine z_bipush (v := nI 10) dX8_most_5 (by decide) ?_
    refine z_icmpN_gt (tgt := 35) dX8_most_7 (by decide) (by omega) (by omega) (fun c7 => ?_) (fun c7 => absurd c7 (by omega))
    refine z_iload_n dX8_most_35 rfl ?_
    exact z_ret (ty := none) (v := none) rfl dX8_most_36 ⟨by rw [show k = 11 by omega], rfl⟩
  | succ f ih =>
    intro k hf
    refine z_iload_n dX8_most_4 rfl ?_
    refine z_bipush (v := nI 10) dX8_most_5 (by decide) ?_
    refine z_icmpN_gt (tgt := 35) dX8_most_7 (by decide) (by omega) (by omega) (fun c7 => absurd c7 (by omega)) (fun c7 => ?_)
    refine z_aload_n dX8_most_10 rfl ?_
    refine z_getR (j := 44) dX8_most_11 fl_X8_35 ⟨by decide, _, rfl, rfl⟩ ?_
    refine z_iload_n dX8_most_14 rfl ?_
    refine z_ialdN dX8_most_15 ⟨by decide, rfl⟩ (by omega) (by decide) hr ?_
    refine z_iload_n dX8_most_16 rfl ?_
    refine z_cS2 dX8_most_17 lk_X8_84 (by decide) (Nat.le_of_ble_eq_true rfl) (ev_X8_has G (by omega) (by omega)) ?_
    refine z_ifB_eq (tgt := 27) dX8_most_20 (by decide) (fun c20 => ?_) (fun c20 => ?_)
    · refine z_iload_n dX8_most_27 rfl ?_
      refine z_istore_n (lv' := [(2, _), (0, _), (1, _), (3, _)]) dX8_most_28 rfl (by decide) rfl ?_
      refine z_iinc (v := nI (k + 1)) (lv' := [(3, _), (2, _), (0, _), (1, _)]) dX8_most_29 rfl (nI_inc _ 1) (by decide) rfl ?_
      refine z_goto (tgt := 4) dX8_most_32 (by decide) ?_
      have q := ih (k + 1) (by omega)
      rw [show oI (hbN N (k + 1)) = oI (hbN N k) by rw [show hbN N (k + 1) = if N.testBit k then some k else hbN N k from rfl, c20]; rfl] at q
      refine z_sub (lv' := [(0, _), (1, _), (2, _), (3, _)]) rfl ?_
      exact q
    · refine z_iload_n dX8_most_23 rfl ?_
      refine z_goto (tgt := 28) dX8_most_24 (by decide) ?_
      refine z_istore_n (lv' := [(2, _), (0, _), (1, _), (3, _)]) dX8_most_28 rfl (by decide) rfl ?_
      refine z_iinc (v := nI (k + 1)) (lv' := [(3, _), (2, _), (0, _), (1, _)]) dX8_most_29 rfl (nI_inc _ 1) (by decide) rfl ?_
      refine z_goto (tgt := 4) dX8_most_32 (by decide) ?_
      have q := ih (k + 1) (by omega)
      rw [show oI (hbN N (k + 1)) = nI k by rw [show hbN N (k + 1) = if N.testBit k then some k else hbN N k from rfl, c20]; rfl] at q
      refine z_sub (lv' := [(0, _), (1, _), (2, _), (3, _)]) rfl ?_
      exact q
set_option maxRecDepth 100000 in
theorem ev_X8_most (G : Gt) {S N : Nat} {μ : Mm} (hS : S < 1024) (hN : N < 2048) (hr : μ.2.1 44 S = nI N) : EVr G 1 Y_X8_most [rf G 35, .int (nI S)] μ (.int (oI (hbN N 11))) := by
  refine ev_of (by decide) (Nat.le_of_ble_eq_true rfl) ?_
  show Zs G 1 Y_X8_most (fnN G _) 0 [(0, rf G 35), (1, .int (nI S))] [] μ
  refine z_iconst (v := -1) dX8_most_0 (by decide) ?_
  refine z_istore_n (lv' := [(2, _), (0, _), (1, _)]) dX8_most_1 rfl (by decide) rfl ?_
  refine z_iconst (v := nI 0) dX8_most_2 (by decide) ?_
  refine z_istore_n (lv' := [(3, _), (2, _), (0, _), (1, _)]) dX8_most_3 rfl (by decide) rfl ?_
  refine z_sub (lv' := [(0, _), (1, _), (2, _), (3, _)]) rfl ?_
  exact lp_X8_most G hS hN hr 11 0 rfl
