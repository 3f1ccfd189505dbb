theorem lkS_step {μ : Mm} {a b S : Nat} {E : Nat → Nat} {v : Int32} (hs : lkS μ a b E S) (hv : v = bI (hld a b E S)) : lkS (uR (uR μ 41 S (nI (tot a b E S))) 42 S v) a b E (S + 1) := by
  intro T hT
  rw [uR_n _ _ _ (by decide), uR_s, uR_s]
  by_cases e : T = S
  · subst e; rw [upd_s, upd_s]; exact ⟨rfl, hv⟩
  · rw [upd_n _ _ e, upd_n _ _ e, uR_n _ _ _ (by decide)]; exact hs T (by omega)
set_option maxRecDepth 100000 in
theorem lp3_X8_looks (G : Gt) {a b M : Nat} {E : Nat → Nat} {μ0 : Mm} : ∀ (f S : Nat) (μ : Mm), S + f = 2 ^ M → 1 ≤ S → mqF μ0 μ → nwG μ a b → lkE μ a b M E → lkS μ a b E S →
    Zs G 1 Y_X8_looks (fnN G (fun v u => v = none ∧ mqF μ0 u ∧ lkE u a b M E ∧ lkS u a b E (2 ^ M))) 81 [(0, rf G 35), (2, .int (nI S))] [] μ := by
  intro f
  induction f with
  | zero =>
    intro S μ hf h1 hq hg hl hs
    have hM := hl.2.1
    have hpw := p2048 hM
    refine z_iload_n dX8_looks_81 rfl ?_
    refine z_iconst (v := nI 1) dX8_looks_82 (by decide) ?_
    refine z_aload_n dX8_looks_83 rfl ?_
    refine z_getI dX8_looks_84 fl_X8_81 ⟨by decide, _, rfl, rfl⟩ hl.1 ?_
    refine z_ishlN dX8_looks_87 (by omega) (by omega) ?_
    refine z_icmpN_ge (tgt := 208) dX8_looks_88 (by decide) (by omega) (by omega) (fun c88 => ?_) (fun c88 => absurd c88 (by omega))
    exact z_vret rfl dX8_looks_208 ⟨rfl, hq, hl, by rw [show 2 ^ M = S by omega]; exact hs⟩
  | succ f ih =>
    intro S μ hf h1 hq hg hl hs
    have hM := hl.2.1
    have hpw := p2048 hM
    have hab := hg.ab
    have hab1 := hg.p
    have ha := hg.2.2.1
    have ha6 := hg.2.2.2.1
    have hb := hg.2.2.2.2.1
    have hb6 := hg.2.2.2.2.2
    have htl := tot_lt ha hb E S
    have hrec := hld_rec (a := a) (b := b) (E := E) (S := S) (n := M) (by omega) hM
    refine z_iload_n dX8_looks_81 rfl ?_
    refine z_iconst (v := nI 1) dX8_looks_82 (by decide) ?_
    refine z_aload_n dX8_looks_83 rfl ?_
    refine z_getI dX8_looks_84 fl_X8_81 ⟨by decide, _, rfl, rfl⟩ hl.1 ?_
    refine z_ishlN dX8_looks_87 (by omega) (by omega) ?_
    refine z_icmpN_ge (tgt := 208) dX8_looks_88 (by decide) (by omega) (by omega) (fun c88 => absurd c88 (by omega)) (fun c88 => ?_)
    refine z_iconst (v := nI 0) dX8_looks_91 (by decide) ?_
    refine z_istore_n (lv' := [(3, _), (0, _), (2, _)]) dX8_looks_92 rfl (by decide) rfl ?_
    refine z_iconst (v := nI 0) dX8_looks_93 (by decide) ?_
    refine z_istore (lv' := [(4, _), (3, _), (0, _), (2, _)]) dX8_looks_94 (by decide) rfl ?_
    refine z_iconst (v := nI 0) dX8_looks_96 (by decide) ?_
    refine z_istore (lv' := [(5, _), (4, _), (3, _), (0, _), (2, _)]) dX8_looks_97 (by decide) rfl ?_
    refine z_sub (lv' := [(0, _), (2, _), (3, _), (4, _), (5, _)]) rfl ?_
    refine lp2_X8_looks G hg hl (by omega) hs ?_ M 0 (by omega)
    refine z_aload_n dX8_looks_175 rfl ?_
    refine z_getR (j := 41) dX8_looks_176 fl_X8_25 ⟨by decide, _, rfl, rfl⟩ ?_
    refine z_iload_n dX8_looks_179 rfl ?_
    refine z_iload_n dX8_looks_180 rfl ?_
    refine z_iastN dX8_looks_181 ⟨by decide, rfl⟩ (by omega) (by decide) ?_
    refine z_aload_n dX8_looks_182 rfl ?_
    refine z_getR (j := 42) dX8_looks_183 fl_X8_28 ⟨by decide, _, rfl, rfl⟩ ?_
    refine z_iload_n dX8_looks_186 rfl ?_
    refine z_iload dX8_looks_187 rfl ?_
    refine z_ifB_ne (tgt := 196) dX8_looks_189 (by decide) (fun c189 => ?_) (fun c189 => ?_)
    · refine z_iconst (v := nI 1) dX8_looks_196 (by decide) ?_
      refine z_goto (tgt := 201) dX8_looks_197 (by decide) ?_
      refine z_zastN dX8_looks_201 ⟨by decide, rfl⟩ (by omega) (by decide) rfl ?_
      refine z_iinc (v := nI (S + 1)) (lv' := [(2, _), (0, _), (3, _), (4, _)]) dX8_looks_202 rfl (nI_inc _ 1) (by decide) rfl ?_
      refine z_goto (tgt := 81) dX8_looks_205 (by decide) ?_
      have q := ih (S + 1) _ (by omega) (by omega) ((hq.uR (i := 41) (j := S) (x := nI (tot a b E S)) (by omega) (by omega)).uR (i := 42) (j := S) (x := nI 1) (by omega) (by omega)) (hg.q ((mqF.rf.uR (by omega) (by omega)).uR (by omega) (by omega))) (hl.same rfl (by rw [uR_n _ _ _ (by decide), uR_n _ _ _ (by decide)])) (lkS_step hs (by rw [hrec, c189, Bool.true_or]; rfl))
      refine z_sub (lv' := [(0, _), (2, _)]) rfl ?_
      exact q
    · refine z_iload_n dX8_looks_192 rfl ?_
      refine z_ifN_ne (tgt := 200) dX8_looks_193 (by decide) (by omega) (fun c193 => ?_) (fun c193 => ?_)
      · refine z_iconst (v := nI 0) dX8_looks_200 (by decide) ?_
        refine z_zastN dX8_looks_201 ⟨by decide, rfl⟩ (by omega) (by decide) rfl ?_
        refine z_iinc (v := nI (S + 1)) (lv' := [(2, _), (0, _), (3, _), (4, _)]) dX8_looks_202 rfl (nI_inc _ 1) (by decide) rfl ?_
        refine z_goto (tgt := 81) dX8_looks_205 (by decide) ?_
        have q := ih (S + 1) _ (by omega) (by omega) ((hq.uR (i := 41) (j := S) (x := nI (tot a b E S)) (by omega) (by omega)).uR (i := 42) (j := S) (x := nI 0) (by omega) (by omega)) (hg.q ((mqF.rf.uR (by omega) (by omega)).uR (by omega) (by omega))) (hl.same rfl (by rw [uR_n _ _ _ (by decide), uR_n _ _ _ (by decide)])) (lkS_step hs (by rw [hrec, c189, decide_eq_false c193, Bool.and_false, Bool.or_false]; rfl))
        refine z_sub (lv' := [(0, _), (2, _)]) rfl ?_
        exact q
      · refine z_iconst (v := nI 1) dX8_looks_196 (by decide) ?_
        refine z_goto (tgt := 201) dX8_looks_197 (by decide) ?_
        refine z_zastN dX8_looks_201 ⟨by decide, rfl⟩ (by omega) (by decide) rfl ?_
        refine z_iinc (v := nI (S + 1)) (lv' := [(2, _), (0, _), (3, _), (4, _)]) dX8_looks_202 rfl (nI_inc _ 1) (by decide) rfl ?_
        refine z_goto (tgt := 81) dX8_looks_205 (by decide) ?_
        have q := ih (S + 1) _ (by omega) (by omega) ((hq.uR (i := 41) (j := S) (x := nI (tot a b E S)) (by omega) (by omega)).uR (i := 42) (j := S) (x := nI 1) (by omega) (by omega)) (hg.q ((mqF.rf.uR (by omega) (by omega)).uR (by omega) (by omega))) (hl.same rfl (by rw [uR_n _ _ _ (by decide), uR_n _ _ _ (by decide)])) (lkS_step hs (by rw [hrec, c189, decide_eq_true c193, decide_eq_true (show S ≠ 0 by omega)]; rfl))
        refine z_sub (lv' := [(0, _), (2, _)]) rfl ?_
        exact q
set_option maxRecDepth 100000 in
theorem fi_X8_looks (G : Gt) {a b M : Nat} {E : Nat → Nat} {μ0 μ : Mm} (hq : mqF μ0 μ) (hg : nwG μ a b) (hl : lkE μ a b M E) : Zs G 1 Y_X8_looks (fnN G (fun v u => v = none ∧ mqF μ0 u ∧ lkE u a b M E ∧ lkS u a b E (2 ^ M))) 65 [(0, rf G 35)] [] μ := by
  refine z_aload_n dX8_looks_65 rfl ?_
  refine z_getR (j := 41) dX8_looks_66 fl_X8_25 ⟨by decide, _, rfl, rfl⟩ ?_
  refine z_iconst (v := nI 0) dX8_looks_69 (by decide) ?_
  refine z_iconst (v := nI 0) dX8_looks_70 (by decide) ?_
  refine z_iastN dX8_looks_71 ⟨by decide, rfl⟩ (by omega) (by decide) ?_
  refine z_aload_n dX8_looks_72 rfl ?_
  refine z_getR (j := 42) dX8_looks_73 fl_X8_28 ⟨by decide, _, rfl, rfl⟩ ?_
  refine z_iconst (v := nI 0) dX8_looks_76 (by decide) ?_
  refine z_iconst (v := nI 0) dX8_looks_77 (by decide) ?_
  refine z_zastN dX8_looks_78 ⟨by decide, rfl⟩ (by omega) (by decide) rfl ?_
  refine z_iconst (v := nI 1) dX8_looks_79 (by decide) ?_
  refine z_istore_n (lv' := [(2, _), (0, _)]) dX8_looks_80 rfl (by decide) rfl ?_
  refine z_sub (lv' := [(0, _), (2, _)]) rfl ?_
  have hs2 : lkS (uR (uR μ 41 0 (nI 0)) 42 0 (nI 0)) a b E 1 := by
    intro T hT
    rw [show T = 0 by omega, uR_n _ _ _ (by decide), uR_s, uR_s, upd_s, upd_s, tot_0, hld_0]; exact ⟨rfl, rfl⟩
  have hw1 := ppos M
  exact lp3_X8_looks G (2 ^ M - 1) 1 _ (by omega) (Nat.le_refl _) ((hq.uR (by omega) (by omega)).uR (by omega) (by omega)) (hg.q ((mqF.rf.uR (by omega) (by omega)).uR (by omega) (by omega))) (hl.same rfl (by rw [uR_n _ _ _ (by decide), uR_n _ _ _ (by decide)])) hs2
set_option maxRecDepth 100000 in
theorem lp_X8_looks_0 (G : Gt) {a b n : Nat} {E Q : Nat → Nat}  {μ0 : Mm} : ∀ (f k : Nat) (μ : Mm), k + f = n → mqF μ0 μ → nwOK μ a b n E Q → μ.1 35 12 = nI n → (∀ j : Nat, j < k → μ.2.1 40 j = nI (E j)) →
    Zs G 1 Y_X8_looks (fnN G (fun v u => v = none ∧ mqF μ0 u ∧ lkE u a b n E ∧ lkS u a b E (2 ^ n))) 12 [(0, rf G 35), (1, .int (-1)), (2, .int (nI k))] [] μ := by
  intro f
  induction f with
  | zero =>
    intro k μ hf hq h hm hk
    have hn := h.le
    refine z_iload_n dX8_looks_12 rfl ?_
    refine z_aload_n dX8_looks_13 rfl ?_
    refine z_getI dX8_looks_14 fl_X8_81 ⟨by decide, _, rfl, rfl⟩ hm ?_
    refine z_icmpN_ge (tgt := 40) dX8_looks_17 (by decide) (by omega) (by omega) (fun c17 => ?_) (fun c17 => absurd c17 (by omega))
    refine z_iload_n dX8_looks_40 rfl ?_
    refine z_iconst (v := -1) dX8_looks_41 (by decide) ?_
    refine z_icmp_eq (tgt := 65) dX8_looks_42 (by decide) (fun c42 => ?_) (fun c42 => absurd rfl c42)
    refine z_sub (lv' := [(0, _)]) rfl ?_
    exact fi_X8_looks G hq h.G ⟨hm, by omega, fun j hj => ⟨hk j (by omega), h.el hj⟩⟩
  | succ f ih =>
    intro k μ hf hq h hm hk
    have hn := h.le
    refine z_iload_n dX8_looks_12 rfl ?_
    refine z_aload_n dX8_looks_13 rfl ?_
    refine z_getI dX8_looks_14 fl_X8_81 ⟨by decide, _, rfl, rfl⟩ hm ?_
    refine z_icmpN_ge (tgt := 40) dX8_looks_17 (by decide) (by omega) (by omega) (fun c17 => absurd c17 (by omega)) (fun c17 => ?_)
    refine z_aload_n dX8_looks_20 rfl ?_
    refine z_getR (j := 40) dX8_looks_21 fl_X8_22 ⟨by decide, _, rfl, rfl⟩ ?_
    refine z_iload_n dX8_looks_24 rfl ?_
    refine z_aload_n dX8_looks_25 rfl ?_
    refine z_getR (j := 36) dX8_looks_26 fl_X8_7 ⟨by decide, _, rfl, rfl⟩ ?_
    refine z_iconst (v := nI 3) dX8_looks_29 (by decide) ?_
    refine z_iload_n dX8_looks_30 rfl ?_
    refine z_iaddN dX8_looks_31 ?_
    refine z_ialdN dX8_looks_32 ⟨by decide, rfl⟩ (by omega) (by decide) (h.e (show k < n by omega)) ?_
    refine z_iastN dX8_looks_33 ⟨by decide, rfl⟩ (by omega) (by decide) ?_
    refine z_iinc (v := nI (k + 1)) (lv' := [(2, _), (0, _), (1, _)]) dX8_looks_34 rfl (nI_inc _ 1) (by decide) rfl ?_
    refine z_goto (tgt := 12) dX8_looks_37 (by decide) ?_
    have hk2 : ∀ j : Nat, j < k + 1 → (uR μ 40 k (nI (E k))).2.1 40 j = nI (E j) := by
      intro j hj
      rw [uR_s]
      by_cases e : j = k
      · subst e; rw [upd_s]
      · rw [upd_n _ _ e]; exact hk j (by omega)
    have q := ih (k + 1) _ (by omega) (hq.uR (i := 40) (j := k) (x := nI (E k)) (by omega) (by omega)) (h.q (mqF.rf.uR (by omega) (by omega))) hm hk2
    refine z_sub (lv' := [(0, _), (1, _), (2, _)]) rfl ?_
    exact q
set_option maxRecDepth 100000 in
theorem lp_X8_looks_1 (G : Gt) {a b n : Nat} {E Q : Nat → Nat} {e : Nat} (he : e < 36) (hex : e < a * b) {μ0 : Mm} : ∀ (f k : Nat) (μ : Mm), k + f = n → mqF μ0 μ → nwOK μ a b n E Q → μ.1 35 12 = nI n → (∀ j : Nat, j < k → μ.2.1 40 j = nI (E j)) →
    Zs G 1 Y_X8_looks (fnN G (fun v u => v = none ∧ mqF μ0 u ∧ lkE u a b (n + 1) (upE E n e) ∧ lkS u a b (upE E n e) (2 ^ (n + 1)))) 12 [(0, rf G 35), (1, .int (nI e)), (2, .int (nI k))] [] μ := by
  intro f
  induction f with
  | zero =>
    intro k μ hf hq h hm hk
    have hn := h.le
    refine z_iload_n dX8_looks_12 rfl ?_
    refine z_aload_n dX8_looks_13 rfl ?_
    refine z_getI dX8_looks_14 fl_X8_81 ⟨by decide, _, rfl, rfl⟩ hm ?_
    refine z_icmpN_ge (tgt := 40) dX8_looks_17 (by decide) (by omega) (by omega) (fun c17 => ?_) (fun c17 => absurd c17 (by omega))
    refine z_iload_n dX8_looks_40 rfl ?_
    refine z_iconst (v := -1) dX8_looks_41 (by decide) ?_
    refine z_icmp_eq (tgt := 65) dX8_looks_42 (by decide) (fun c42 => absurd c42 (nI_m1 (by omega))) (fun c42 => ?_)
    refine z_aload_n dX8_looks_45 rfl ?_
    refine z_getR (j := 40) dX8_looks_46 fl_X8_22 ⟨by decide, _, rfl, rfl⟩ ?_
    refine z_aload_n dX8_looks_49 rfl ?_
    refine z_getI dX8_looks_50 fl_X8_81 ⟨by decide, _, rfl, rfl⟩ hm ?_
    refine z_iload_n dX8_looks_53 rfl ?_
    refine z_iastN dX8_looks_54 ⟨by decide, rfl⟩ (by omega) (by decide) ?_
    refine z_aload_n dX8_looks_55 rfl ?_
    refine z_dup dX8_looks_56 rfl ?_
    refine z_getI dX8_looks_57 fl_X8_81 ⟨by decide, _, rfl, rfl⟩ hm ?_
    refine z_iconst (v := nI 1) dX8_looks_60 (by decide) ?_
    refine z_iaddN dX8_looks_61 ?_
    refine z_putI dX8_looks_62 fp_X8_81 ⟨by decide, _, rfl, rfl⟩ ?_
    refine z_sub (lv' := [(0, _)]) rfl ?_
    have hl : lkE (uF (uR μ 40 n (nI e)) 35 12 (nI (n + 1))) a b (n + 1) (upE E n e) := by
      refine ⟨uF_s _ _ _ _, by omega, fun j hj => ?_⟩
      rw [show (uF (uR μ 40 n (nI e)) 35 12 (nI (n + 1))).2.1 40 = upd (μ.2.1 40) n (nI e) from uR_s _ _ _ _]
      unfold upE
      by_cases e2 : j = n
      · subst e2; rw [upd_s, if_pos rfl]; exact ⟨rfl, hex⟩
      · rw [upd_n _ _ e2, if_neg e2]; exact ⟨hk j (by omega), h.el (by omega)⟩
    exact fi_X8_looks G ((hq.uR (by omega) (by omega)).uF (Or.inr rfl)) (h.G.q ((mqF.rf.uR (by omega) (by omega)).uF (Or.inr rfl))) hl
  | succ f ih =>
    intro k μ hf hq h hm hk
    have hn := h.le
    refine z_iload_n dX8_looks_12 rfl ?_
    refine z_aload_n dX8_looks_13 rfl ?_
    refine z_getI dX8_looks_14 fl_X8_81 ⟨by decide, _, rfl, rfl⟩ hm ?_
    refine z_icmpN_ge (tgt := 40) dX8_looks_17 (by decide) (by omega) (by omega) (fun c17 => absurd c17 (by omega)) (fun c17 => ?_)
    refine z_aload_n dX8_looks_20 rfl ?_
    refine z_getR (j := 40) dX8_looks_21 fl_X8_22 ⟨by decide, _, rfl, rfl⟩ ?_
    refine z_iload_n dX8_looks_24 rfl ?_
    refine z_aload_n dX8_looks_25 rfl ?_
    refine z_getR (j := 36) dX8_looks_26 fl_X8_7 ⟨by decide, _, rfl, rfl⟩ ?_
    refine z_iconst (v := nI 3) dX8_looks_29 (by decide) ?_
    refine z_iload_n dX8_looks_30 rfl ?_
    refine z_iaddN dX8_looks_31 ?_
    refine z_ialdN dX8_looks_32 ⟨by decide, rfl⟩ (by omega) (by decide) (h.e (show k < n by omega)) ?_
    refine z_iastN dX8_looks_33 ⟨by decide, rfl⟩ (by omega) (by decide) ?_
    refine z_iinc (v := nI (k + 1)) (lv' := [(2, _), (0, _), (1, _)]) dX8_looks_34 rfl (nI_inc _ 1) (by decide) rfl ?_
    refine z_goto (tgt := 12) dX8_looks_37 (by decide) ?_
    have hk2 : ∀ j : Nat, j < k + 1 → (uR μ 40 k (nI (E k))).2.1 40 j = nI (E j) := by
      intro j hj
      rw [uR_s]
      by_cases e : j = k
      · subst e; rw [upd_s]
      · rw [upd_n _ _ e]; exact hk j (by omega)
    have q := ih (k + 1) _ (by omega) (hq.uR (i := 40) (j := k) (x := nI (E k)) (by omega) (by omega)) (h.q (mqF.rf.uR (by omega) (by omega))) hm hk2
    refine z_sub (lv' := [(0, _), (1, _), (2, _)]) rfl ?_
    exact q
set_option maxRecDepth 100000 in
theorem ev_X8_looks_0 (G : Gt) {a b n : Nat} {E Q : Nat → Nat} {μ : Mm} (h : nwOK μ a b n E Q) : EV G 1 Y_X8_looks [rf G 35, .int (-1)] μ (fun v u => v = none ∧ mqF μ u ∧ lkE u a b n E ∧ lkS u a b E (2 ^ n)) := by
  have hn := h.le
  refine ev_of (by decide) (Nat.le_of_ble_eq_true rfl) ?_
  show Zs G 1 Y_X8_looks (fnN G _) 0 [(0, rf G 35), (1, .int (-1))] [] μ
  refine z_aload_n dX8_looks_0 rfl ?_
  refine z_aload_n dX8_looks_1 rfl ?_
  refine z_getR (j := 36) dX8_looks_2 fl_X8_7 ⟨by decide, _, rfl, rfl⟩ ?_
  refine z_iconst (v := nI 2) dX8_looks_5 (by decide) ?_
  refine z_ialdN dX8_looks_6 ⟨by decide, rfl⟩ (by omega) (by decide) h.vn ?_
  refine z_putI dX8_looks_7 fp_X8_81 ⟨by decide, _, rfl, rfl⟩ ?_
  refine z_iconst (v := nI 0) dX8_looks_10 (by decide) ?_
  refine z_istore_n (lv' := [(2, _), (0, _), (1, _)]) dX8_looks_11 rfl (by decide) rfl ?_
  refine z_sub (lv' := [(0, _), (1, _), (2, _)]) rfl ?_
  exact lp_X8_looks_0 G n 0 _ (by omega) (mqF.rf.uF (Or.inr rfl)) (h.q (mqF.rf.uF (Or.inr rfl))) (uF_s _ _ _ _) (fun j hj => by omega)
set_option maxRecDepth 100000 in
theorem ev_X8_looks_1 (G : Gt) {a b n : Nat} {E Q : Nat → Nat} {μ : Mm} (h : nwOK μ a b n E Q) {e : Nat} (he : e < 36) (hex : e < a * b) : EV G 1 Y_X8_looks [rf G 35, .int (nI e)] μ (fun v u => v = none ∧ mqF μ u ∧ lkE u a b (n + 1) (upE E n e) ∧ lkS u a b (upE E n e) (2 ^ (n + 1))) := by
  have hn := h.le
  refine ev_of (by decide) (Nat.le_of_ble_eq_true rfl) ?_
  show Zs G 1 Y_X8_looks (fnN G _) 0 [(0, rf G 35), (1, .int (nI e))] [] μ
  refine z_aload_n dX8_looks_0 rfl ?_
  refine z_aload_n dX8_looks_1 rfl ?_
  refine z_getR (j := 36) dX8_looks_2 fl_X8_7 ⟨by decide, _, rfl, rfl⟩ ?_
  refine z_iconst (v := nI 2) dX8_looks_5 (by decide) ?_
  refine z_ialdN dX8_looks_6 ⟨by decide, rfl⟩ (by omega) (by decide) h.vn ?_
  refine z_putI dX8_looks_7 fp_X8_81 ⟨by decide, _, rfl, rfl⟩ ?_
  refine z_iconst (v := nI 0) dX8_looks_10 (by decide) ?_
  refine z_istore_n (lv' := [(2, _), (0, _), (1, _)]) dX8_looks_11 rfl (by decide) rfl ?_
  refine z_sub (lv' := [(0, _), (1, _), (2, _)]) rfl ?_
  exact lp_X8_looks_1 G he hex n 0 _ (by omega) (mqF.rf.uF (Or.inr rfl)) (h.q (mqF.rf.uF (Or.inr rfl))) (uF_s _ _ _ _) (fun j hj => by omega)
