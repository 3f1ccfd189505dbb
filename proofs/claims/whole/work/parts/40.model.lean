abbrev ibF (a b : Nat) (E : Nat → Nat) (S k : Nat) : Bool := (decide (S ≠ 0) && decide (tot a b E S = 0)) && !anyN (hsF a b E S) k
theorem ib_M {a b M S : Nat} {E : Nat → Nat} (hS : S < 2 ^ M) (hM : M ≤ 11) : ibF a b E S M = blk a b E S := by unfold ibF blk; rw [hs_flat hS hM]
theorem ib_f {a b M S k : Nat} {E : Nat → Nat} (hS : S < 2 ^ M) (hM : M ≤ 11) (hk : k ≤ M) (h : ibF a b E S k = false) : blk a b E S = false := by
  rw [← ib_M hS hM]
  unfold ibF at h ⊢
  cases q : (decide (S ≠ 0) && decide (tot a b E S = 0)) with
  | false => rfl
  | true =>
    rw [q, Bool.true_and] at h
    have h2 : anyN (hsF a b E S) k = true := by simpa using h
    obtain ⟨j, h3, h4⟩ := anyN_true.mp h2
    rw [show anyN (hsF a b E S) M = true from anyN_true.mpr ⟨j, by omega, h4⟩]; rfl
theorem ib_t {a b S k : Nat} {E : Nat → Nat} (h : ibF a b E S k = true) (v : Bool) (hv : (S.testBit k && hld a b E (S ^^^ 2 ^ k)) = v) : ibF a b E S (k + 1) = !v := by
  unfold ibF at h ⊢
  rw [Bool.and_eq_true] at h
  rw [h.1, show anyN (hsF a b E S) (k + 1) = (anyN (hsF a b E S) k || (S.testBit k && hld a b E (S ^^^ 2 ^ k))) from rfl, hv, show anyN (hsF a b E S) k = false by simpa using h.2]; rfl
set_option maxRecDepth 100000 in
theorem lp_X8_isBlock (G : Gt) {a b M : Nat} {E : Nat → Nat} {μ : Mm} (hab : a * b ≤ 36) (htl : ∀ S : Nat, tot a b E S < a * b) (hl : lkE μ a b M E) (hs : lkS μ a b E (2 ^ M)) {S : Nat} (hS : S < 2 ^ M) : ∀ (f k : Nat), k + f = M →
    Zs G 1 Y_X8_isBlock (fnN G (fun v u => v = some (.int (bI (blk a b E S))) ∧ u = μ)) 21 [(0, rf G 35), (1, .int (nI S)), (2, .int (bI (ibF a b E S k))), (3, .int (nI k))] [] μ := by
  intro f
  have hM := hl.2.1
  have hpw := p2048 hM
  have hpw1 := ppos M
  induction f with
  | zero =>
    intro k hf
    refine z_iload_n dX8_isBlock_21 rfl ?_
    refine z_aload_n dX8_isBlock_22 rfl ?_
    refine z_getI dX8_isBlock_23 fl_X8_81 ⟨by decide, _, rfl, rfl⟩ hl.1 ?_
    refine z_icmpN_ge (tgt := 66) dX8_isBlock_26 (by decide) (by omega) (by omega) (fun c26 => ?_) (fun c26 => absurd c26 (by omega))
    refine z_iload_n dX8_isBlock_66 rfl ?_
    exact z_zret rfl (bI_nar _) dX8_isBlock_67 ⟨by rw [show k = M by omega, ib_M hS hM], rfl⟩
  | succ f ih =>
    intro k hf
    have hk31 : 2 ^ k ≤ 2 ^ M := Nat.pow_le_pow_right (by decide) (by omega)
    refine z_iload_n dX8_isBlock_21 rfl ?_
    refine z_aload_n dX8_isBlock_22 rfl ?_
    refine z_getI dX8_isBlock_23 fl_X8_81 ⟨by decide, _, rfl, rfl⟩ hl.1 ?_
    refine z_icmpN_ge (tgt := 66) dX8_isBlock_26 (by decide) (by omega) (by omega) (fun c26 => absurd c26 (by omega)) (fun c26 => ?_)
    refine z_iload_n dX8_isBlock_29 rfl ?_
    refine z_ifB_eq (tgt := 66) dX8_isBlock_30 (by decide) (fun c30 => ?_) (fun c30 => ?_)
    · refine z_iload_n dX8_isBlock_66 rfl ?_
      exact z_zret rfl (bI_nar _) dX8_isBlock_67 ⟨by rw [c30, ib_f hS hM (show k ≤ M by omega) c30], rfl⟩
    · refine z_iload_n dX8_isBlock_33 rfl ?_
      refine z_iload_n dX8_isBlock_34 rfl ?_
      refine z_cS2 dX8_isBlock_35 lk_X8_84 (by decide) (Nat.le_of_ble_eq_true rfl) (ev_X8_has G (by omega) (by omega)) ?_
      refine z_ifB_eq (tgt := 54) dX8_isBlock_38 (by decide) (fun c38 => ?_) (fun c38 => ?_)
      · refine z_iconst (v := nI 1) dX8_isBlock_54 (by decide) ?_
        refine z_goto (tgt := 59) dX8_isBlock_55 (by decide) ?_
        refine z_istore_n (lv' := [(2, _), (0, _), (1, _), (3, _)]) dX8_isBlock_59 rfl (by decide) rfl ?_
        refine z_iinc (v := nI (k + 1)) (lv' := [(3, _), (2, _), (0, _), (1, _)]) dX8_isBlock_60 rfl (nI_inc _ 1) (by decide) rfl ?_
        refine z_goto (tgt := 21) dX8_isBlock_63 (by decide) ?_
        have q := ih (k + 1) (by omega)
        rw [show bI (ibF a b E S (k + 1)) = nI 1 by rw [ib_t c30 false (by rw [c38]; rfl)]; rfl] at q
        refine z_sub (lv' := [(0, _), (1, _), (2, _), (3, _)]) rfl ?_
        exact q
      · have hle := sb_le (sb_pow.mpr c38)
        refine z_aload_n dX8_isBlock_41 rfl ?_
        refine z_getR (j := 42) dX8_isBlock_42 fl_X8_28 ⟨by decide, _, rfl, rfl⟩ ?_
        refine z_iload_n dX8_isBlock_45 rfl ?_
        refine z_iconst (v := nI 1) dX8_isBlock_46 (by decide) ?_
        refine z_iload_n dX8_isBlock_47 rfl ?_
        refine z_ishlN dX8_isBlock_48 (by omega) (by omega) ?_
        refine z_isubN dX8_isBlock_49 (by omega) ?_
        refine z_zaldN dX8_isBlock_50 ⟨by decide, rfl⟩ (by omega) (by decide) (show μ.2.1 42 (S - 1 * 2 ^ k) = bI (hld a b E (S ^^^ 2 ^ k)) by rw [Nat.one_mul, ← xor_sub (sb_pow.mpr c38)]; exact (hs _ (Nat.lt_trans (xor_lt (sb_pow.mpr c38) (pow_ne0 k)) hS)).2) ?_
        refine z_ifB_ne (tgt := 58) dX8_isBlock_51 (by decide) (fun c51 => ?_) (fun c51 => ?_)
        · refine z_iconst (v := nI 0) dX8_isBlock_58 (by decide) ?_
          refine z_istore_n (lv' := [(2, _), (0, _), (1, _), (3, _)]) dX8_isBlock_59 rfl (by decide) rfl ?_
          refine z_iinc (v := nI (k + 1)) (lv' := [(3, _), (2, _), (0, _), (1, _)]) dX8_isBlock_60 rfl (nI_inc _ 1) (by decide) rfl ?_
          refine z_goto (tgt := 21) dX8_isBlock_63 (by decide) ?_
          have q := ih (k + 1) (by omega)
          rw [show bI (ibF a b E S (k + 1)) = nI 0 by rw [ib_t c30 true (by rw [c38, c51]; rfl)]; rfl] at q
          refine z_sub (lv' := [(0, _), (1, _), (2, _), (3, _)]) rfl ?_
          exact q
        · refine z_iconst (v := nI 1) dX8_isBlock_54 (by decide) ?_
          refine z_goto (tgt := 59) dX8_isBlock_55 (by decide) ?_
          refine z_istore_n (lv' := [(2, _), (0, _), (1, _), (3, _)]) dX8_isBlock_59 rfl (by decide) rfl ?_
          refine z_iinc (v := nI (k + 1)) (lv' := [(3, _), (2, _), (0, _), (1, _)]) dX8_isBlock_60 rfl (nI_inc _ 1) (by decide) rfl ?_
          refine z_goto (tgt := 21) dX8_isBlock_63 (by decide) ?_
          have q := ih (k + 1) (by omega)
          rw [show bI (ibF a b E S (k + 1)) = nI 1 by rw [ib_t c30 false (by rw [c38, c51]; rfl)]; rfl] at q
          refine z_sub (lv' := [(0, _), (1, _), (2, _), (3, _)]) rfl ?_
          exact q
set_option maxRecDepth 100000 in
theorem ev_X8_isBlock (G : Gt) {a b M : Nat} {E : Nat → Nat} {μ : Mm} (hab : a * b ≤ 36) (htl : ∀ S : Nat, tot a b E S < a * b) (hl : lkE μ a b M E) (hs : lkS μ a b E (2 ^ M)) {S : Nat} (hS : S < 2 ^ M) : EVr G 1 Y_X8_isBlock [rf G 35, .int (nI S)] μ (.int (bI (blk a b E S))) := by
  have hM := hl.2.1
  have hpw := p2048 hM
  have hpw1 := ppos M
  have ht := htl S
  refine ev_of (by decide) (Nat.le_of_ble_eq_true rfl) ?_
  show Zs G 1 Y_X8_isBlock (fnN G _) 0 [(0, rf G 35), (1, .int (nI S))] [] μ
  refine z_iload_n dX8_isBlock_0 rfl ?_
  refine z_ifN_eq (tgt := 17) dX8_isBlock_1 (by decide) (by omega) (fun c1 => ?_) (fun c1 => ?_)
  · refine z_iconst (v := nI 0) dX8_isBlock_17 (by decide) ?_
    refine z_istore_n (lv' := [(2, _), (0, _), (1, _)]) dX8_isBlock_18 rfl (by decide) rfl ?_
    refine z_iconst (v := nI 0) dX8_isBlock_19 (by decide) ?_
    refine z_istore_n (lv' := [(3, _), (2, _), (0, _), (1, _)]) dX8_isBlock_20 rfl (by decide) rfl ?_
    have q := lp_X8_isBlock G hab htl hl hs hS M 0 (by omega)
    rw [show bI (ibF a b E S 0) = nI 0 by unfold ibF; rw [decide_eq_false (fun q => q c1)]; rfl] at q
    refine z_sub (lv' := [(0, _), (1, _), (2, _), (3, _)]) rfl ?_
    exact q
  · refine z_aload_n dX8_isBlock_4 rfl ?_
    refine z_getR (j := 41) dX8_isBlock_5 fl_X8_25 ⟨by decide, _, rfl, rfl⟩ ?_
    refine z_iload_n dX8_isBlock_8 rfl ?_
    refine z_ialdN dX8_isBlock_9 ⟨by decide, rfl⟩ (by omega) (by decide) ((hs _ hS).1) ?_
    refine z_ifN_ne (tgt := 17) dX8_isBlock_10 (by decide) (by omega) (fun c10 => ?_) (fun c10 => ?_)
    · refine z_iconst (v := nI 0) dX8_isBlock_17 (by decide) ?_
      refine z_istore_n (lv' := [(2, _), (0, _), (1, _)]) dX8_isBlock_18 rfl (by decide) rfl ?_
      refine z_iconst (v := nI 0) dX8_isBlock_19 (by decide) ?_
      refine z_istore_n (lv' := [(3, _), (2, _), (0, _), (1, _)]) dX8_isBlock_20 rfl (by decide) rfl ?_
      have q := lp_X8_isBlock G hab htl hl hs hS M 0 (by omega)
      rw [show bI (ibF a b E S 0) = nI 0 by unfold ibF; rw [decide_eq_false c10, Bool.and_false]; rfl] at q
      refine z_sub (lv' := [(0, _), (1, _), (2, _), (3, _)]) rfl ?_
      exact q
    · refine z_iconst (v := nI 1) dX8_isBlock_13 (by decide) ?_
      refine z_goto (tgt := 18) dX8_isBlock_14 (by decide) ?_
      refine z_istore_n (lv' := [(2, _), (0, _), (1, _)]) dX8_isBlock_18 rfl (by decide) rfl ?_
      refine z_iconst (v := nI 0) dX8_isBlock_19 (by decide) ?_
      refine z_istore_n (lv' := [(3, _), (2, _), (0, _), (1, _)]) dX8_isBlock_20 rfl (by decide) rfl ?_
      have q := lp_X8_isBlock G hab htl hl hs hS M 0 (by omega)
      rw [show bI (ibF a b E S 0) = nI 1 by unfold ibF; rw [decide_eq_true c1, decide_eq_true c10]; rfl] at q
      refine z_sub (lv' := [(0, _), (1, _), (2, _), (3, _)]) rfl ?_
      exact q
set_option maxRecDepth 100000 in
theorem lp_X8_timesOf (G : Gt) {a b n : Nat} {E Q : Nat → Nat} {μ : Mm} (h : nwOK μ a b n E Q) {e : Nat} (he : e < 100) : ∀ (f k : Nat), k + f = n →
    Zs G 0 Y_X8_timesOf (fnN G (fun v u => v = some (.int (nI (cntN (fun k => decide (E k = e)) n))) ∧ u = μ)) 4 [(0, rf G 35), (1, .int (nI e)), (2, .int (nI (cntN (fun k => decide (E k = e)) k))), (3, .int (nI k))] [] μ := by
  intro f
  have hn := h.le
  have hab := h.ab
  induction f with
  | zero =>
    intro k hf
    refine z_iload_n dX8_timesOf_4 rfl ?_
    refine z_aload_n dX8_timesOf_5 rfl ?_
    refine z_getR (j := 36) dX8_timesOf_6 fl_X8_7 ⟨by decide, _, rfl, rfl⟩ ?_
    refine z_iconst (v := nI 2) dX8_timesOf_9 (by decide) ?_
    refine z_ialdN dX8_timesOf_10 ⟨by decide, rfl⟩ (by omega) (by decide) h.vn ?_
    refine z_icmpN_ge (tgt := 40) dX8_timesOf_11 (by decide) (by omega) (by omega) (fun c11 => ?_) (fun c11 => absurd c11 (by omega))
    refine z_iload_n dX8_timesOf_40 rfl ?_
    exact z_ret (ty := none) (v := none) rfl dX8_timesOf_41 ⟨by rw [show k = n by omega], rfl⟩
  | succ f ih =>
    intro k hf
    have hek := h.el (show k < n by omega)
    refine z_iload_n dX8_timesOf_4 rfl ?_
    refine z_aload_n dX8_timesOf_5 rfl ?_
    refine z_getR (j := 36) dX8_timesOf_6 fl_X8_7 ⟨by decide, _, rfl, rfl⟩ ?_
    refine z_iconst (v := nI 2) dX8_timesOf_9 (by decide) ?_
    refine z_ialdN dX8_timesOf_10 ⟨by decide, rfl⟩ (by omega) (by decide) h.vn ?_
    refine z_icmpN_ge (tgt := 40) dX8_timesOf_11 (by decide) (by omega) (by omega) (fun c11 => absurd c11 (by omega)) (fun c11 => ?_)
    refine z_iload_n dX8_timesOf_14 rfl ?_
    refine z_aload_n dX8_timesOf_15 rfl ?_
    refine z_getR (j := 36) dX8_timesOf_16 fl_X8_7 ⟨by decide, _, rfl, rfl⟩ ?_
    refine z_iconst (v := nI 3) dX8_timesOf_19 (by decide) ?_
    refine z_iload_n dX8_timesOf_20 rfl ?_
    refine z_iaddN dX8_timesOf_21 ?_
    refine z_ialdN dX8_timesOf_22 ⟨by decide, rfl⟩ (by omega) (by decide) (h.e (show k < n by omega)) ?_
    refine z_iload_n dX8_timesOf_23 rfl ?_
    refine z_icmpN_ne (tgt := 31) dX8_timesOf_24 (by decide) (by omega) (by omega) (fun c24 => ?_) (fun c24 => ?_)
    · refine z_iconst (v := nI 0) dX8_timesOf_31 (by decide) ?_
      refine z_iaddN dX8_timesOf_32 ?_
      refine z_istore_n (lv' := [(2, _), (0, _), (1, _), (3, _)]) dX8_timesOf_33 rfl (by decide) rfl ?_
      refine z_iinc (v := nI (k + 1)) (lv' := [(3, _), (2, _), (0, _), (1, _)]) dX8_timesOf_34 rfl (nI_inc _ 1) (by decide) rfl ?_
      refine z_goto (tgt := 4) dX8_timesOf_37 (by decide) ?_
      have q := ih (k + 1) (by omega)
      rw [show cntN (fun k => decide (E k = e)) (k + 1) = cntN (fun k => decide (E k = e)) k + 0 by rw [cntN_succ]; simp [c24]] at q
      refine z_sub (lv' := [(0, _), (1, _), (2, _), (3, _)]) rfl ?_
      exact q
    · refine z_iconst (v := nI 1) dX8_timesOf_27 (by decide) ?_
      refine z_goto (tgt := 32) dX8_timesOf_28 (by decide) ?_
      refine z_iaddN dX8_timesOf_32 ?_
      refine z_istore_n (lv' := [(2, _), (0, _), (1, _), (3, _)]) dX8_timesOf_33 rfl (by decide) rfl ?_
      refine z_iinc (v := nI (k + 1)) (lv' := [(3, _), (2, _), (0, _), (1, _)]) dX8_timesOf_34 rfl (nI_inc _ 1) (by decide) rfl ?_
      refine z_goto (tgt := 4) dX8_timesOf_37 (by decide) ?_
      have q := ih (k + 1) (by omega)
      rw [show cntN (fun k => decide (E k = e)) (k + 1) = cntN (fun k => decide (E k = e)) k + 1 by rw [cntN_succ]; simp [c24]] at q
      refine z_sub (lv' := [(0, _), (1, _), (2, _), (3, _)]) rfl ?_
      exact q
set_option maxRecDepth 100000 in
theorem ev_X8_timesOf (G : Gt) {a b n : Nat} {E Q : Nat → Nat} {μ : Mm} (h : nwOK μ a b n E Q) {e : Nat} (he : e < 100) : EVr G 0 Y_X8_timesOf [rf G 35, .int (nI e)] μ (.int (nI (cntN (fun k => decide (E k = e)) n))) := by
  refine ev_of (by decide) (Nat.le_of_ble_eq_true rfl) ?_
  show Zs G 0 Y_X8_timesOf (fnN G _) 0 [(0, rf G 35), (1, .int (nI e))] [] μ
  refine z_iconst (v := nI 0) dX8_timesOf_0 (by decide) ?_
  refine z_istore_n (lv' := [(2, _), (0, _), (1, _)]) dX8_timesOf_1 rfl (by decide) rfl ?_
  refine z_iconst (v := nI 0) dX8_timesOf_2 (by decide) ?_
  refine z_istore_n (lv' := [(3, _), (2, _), (0, _), (1, _)]) dX8_timesOf_3 rfl (by decide) rfl ?_
  refine z_sub (lv' := [(0, _), (1, _), (2, _), (3, _)]) rfl ?_
  exact lp_X8_timesOf G h he n 0 (by omega)
set_option maxRecDepth 100000 in
theorem lp_X8_partSet (G : Gt) {a b n : Nat} {E Q : Nat → Nat} {μ : Mm} (h : nwOK μ a b n E Q) {p : Nat} (hp : p < 100) : ∀ (f k : Nat), k + f = n →
    Zs G 0 Y_X8_partSet (fnN G (fun v u => v = some (.int (nI (poN Q p n))) ∧ u = μ)) 4 [(0, rf G 35), (1, .int (nI p)), (2, .int (nI (setN (fun k => decide (Q k = p)) k))), (3, .int (nI k))] [] μ := by
  intro f
  have hn := h.le
  induction f with
  | zero =>
    intro k hf
    refine z_iload_n dX8_partSet_4 rfl ?_
    refine z_aload_n dX8_partSet_5 rfl ?_
    refine z_getR (j := 36) dX8_partSet_6 fl_X8_7 ⟨by decide, _, rfl, rfl⟩ ?_
    refine z_iconst (v := nI 2) dX8_partSet_9 (by decide) ?_
    refine z_ialdN dX8_partSet_10 ⟨by decide, rfl⟩ (by omega) (by decide) h.vn ?_
    refine z_icmpN_ge (tgt := 43) dX8_partSet_11 (by decide) (by omega) (by omega) (fun c11 => ?_) (fun c11 => absurd c11 (by omega))
    refine z_iload_n dX8_partSet_43 rfl ?_
    exact z_ret (ty := none) (v := none) rfl dX8_partSet_44 ⟨by rw [show k = n by omega]; rfl, rfl⟩
  | succ f ih =>
    intro k hf
    have hpk := h.pl (show k < n by omega)
    have hk31 : 2 ^ k ≤ 1024 := p1024 (show k ≤ 10 by omega)
    refine z_iload_n dX8_partSet_4 rfl ?_
    refine z_aload_n dX8_partSet_5 rfl ?_
    refine z_getR (j := 36) dX8_partSet_6 fl_X8_7 ⟨by decide, _, rfl, rfl⟩ ?_
    refine z_iconst (v := nI 2) dX8_partSet_9 (by decide) ?_
    refine z_ialdN dX8_partSet_10 ⟨by decide, rfl⟩ (by omega) (by decide) h.vn ?_
    refine z_icmpN_ge (tgt := 43) dX8_partSet_11 (by decide) (by omega) (by omega) (fun c11 => absurd c11 (by omega)) (fun c11 => ?_)
    refine z_iload_n dX8_partSet_14 rfl ?_
    refine z_aload_n dX8_partSet_15 rfl ?_
    refine z_getR (j := 36) dX8_partSet_16 fl_X8_7 ⟨by decide, _, rfl, rfl⟩ ?_
    refine z_bipush (v := nI 13) dX8_partSet_19 (by decide) ?_
    refine z_iload_n dX8_partSet_21 rfl ?_
    refine z_iaddN dX8_partSet_22 ?_
    refine z_ialdN dX8_partSet_23 ⟨by decide, rfl⟩ (by omega) (by decide) (h.p (show k < n by omega)) ?_
    refine z_iload_n dX8_partSet_24 rfl ?_
    refine z_icmpN_ne (tgt := 34) dX8_partSet_25 (by decide) (by omega) (by omega) (fun c25 => ?_) (fun c25 => ?_)
    · refine z_iconst (v := nI 0) dX8_partSet_34 (by decide) ?_
      refine z_iorN dX8_partSet_35 ?_
      refine z_istore_n (lv' := [(2, _), (0, _), (1, _), (3, _)]) dX8_partSet_36 rfl (by decide) rfl ?_
      refine z_iinc (v := nI (k + 1)) (lv' := [(3, _), (2, _), (0, _), (1, _)]) dX8_partSet_37 rfl (nI_inc _ 1) (by decide) rfl ?_
      refine z_goto (tgt := 4) dX8_partSet_40 (by decide) ?_
      have q := ih (k + 1) (by omega)
      rw [show setN (fun k => decide (Q k = p)) (k + 1) = setN (fun k => decide (Q k = p)) k ||| 0 by rw [show setN (fun k => decide (Q k = p)) (k + 1) = if decide (Q k = p) = true then setN (fun k => decide (Q k = p)) k ||| 2 ^ k else setN (fun k => decide (Q k = p)) k from rfl]; rw [if_neg (by simp [c25]), Nat.or_zero]] at q
      refine z_sub (lv' := [(0, _), (1, _), (2, _), (3, _)]) rfl ?_
      exact q
    · refine z_iconst (v := nI 1) dX8_partSet_28 (by decide) ?_
      refine z_iload_n dX8_partSet_29 rfl ?_
      refine z_ishlN dX8_partSet_30 (by omega) (by omega) ?_
      refine z_goto (tgt := 35) dX8_partSet_31 (by decide) ?_
      refine z_iorN dX8_partSet_35 ?_
      refine z_istore_n (lv' := [(2, _), (0, _), (1, _), (3, _)]) dX8_partSet_36 rfl (by decide) rfl ?_
      refine z_iinc (v := nI (k + 1)) (lv' := [(3, _), (2, _), (0, _), (1, _)]) dX8_partSet_37 rfl (nI_inc _ 1) (by decide) rfl ?_
      refine z_goto (tgt := 4) dX8_partSet_40 (by decide) ?_
      have q := ih (k + 1) (by omega)
      rw [show setN (fun k => decide (Q k = p)) (k + 1) = setN (fun k => decide (Q k = p)) k ||| 1 * 2 ^ k by rw [show setN (fun k => decide (Q k = p)) (k + 1) = if decide (Q k = p) = true then setN (fun k => decide (Q k = p)) k ||| 2 ^ k else setN (fun k => decide (Q k = p)) k from rfl]; rw [if_pos (by simp [c25]), Nat.one_mul]] at q
      refine z_sub (lv' := [(0, _), (1, _), (2, _), (3, _)]) rfl ?_
      exact q
set_option maxRecDepth 100000 in
theorem ev_X8_partSet (G : Gt) {a b n : Nat} {E Q : Nat → Nat} {μ : Mm} (h : nwOK μ a b n E Q) {p : Nat} (hp : p < 100) : EVr G 0 Y_X8_partSet [rf G 35, .int (nI p)] μ (.int (nI (poN Q p n))) := by
  refine ev_of (by decide) (Nat.le_of_ble_eq_true rfl) ?_
  show Zs G 0 Y_X8_partSet (fnN G _) 0 [(0, rf G 35), (1, .int (nI p))] [] μ
  refine z_iconst (v := nI 0) dX8_partSet_0 (by decide) ?_
  refine z_istore_n (lv' := [(2, _), (0, _), (1, _)]) dX8_partSet_1 rfl (by decide) rfl ?_
  refine z_iconst (v := nI 0) dX8_partSet_2 (by decide) ?_
  refine z_istore_n (lv' := [(3, _), (2, _), (0, _), (1, _)]) dX8_partSet_3 rfl (by decide) rfl ?_
  refine z_sub (lv' := [(0, _), (1, _), (2, _), (3, _)]) rfl ?_
  exact lp_X8_partSet G h hp n 0 (by omega)
