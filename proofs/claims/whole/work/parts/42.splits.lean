/-- splits known below N -/
def lkP (μ : Mm) (a b : Nat) (E : Nat → Nat) (N : Nat) : Prop := ∀ S : Nat, S < N → μ.2.1 43 S = nI (splN a b E S) ∧ μ.2.1 44 S = nI (lenN a b E S)
theorem low_le {S B a b : Nat} {E : Nat → Nat} (h0 : S ≠ 0) (hS : S < 2048) (hB : B < lowN S) : cB a b E S B = false := by
  obtain ⟨j, q1, q2, q3⟩ := low_bit h0 hS
  unfold cB
  rw [q2] at hB ⊢
  have : B.testBit j = false := Nat.testBit_lt_two_pow hB
  rw [decide_eq_false (fun k => by rw [and_pow.mp k] at this; cases this), Bool.and_false, Bool.false_and]
theorem low_pos {S : Nat} (h0 : S ≠ 0) (hS : S < 2048) : 1 ≤ lowN S ∧ lowN S ≤ S := by
  obtain ⟨j, q1, q2, q3⟩ := low_bit h0 hS
  rw [q2]
  exact ⟨ppos j, sb_le (sb_pow.mpr q3)⟩
theorem lkE.q {μ u : Mm} {a b M : Nat} {E : Nat → Nat} (h : lkE μ a b M E) (h1 : u.1 = μ.1) (h2 : u.2.1 40 = μ.2.1 40) : lkE u a b M E := h.same (by rw [h1]) h2
theorem lkS.q {μ u : Mm} {a b N : Nat} {E : Nat → Nat} (h : lkS μ a b E N) (h1 : u.2.1 41 = μ.2.1 41) (h2 : u.2.1 42 = μ.2.1 42) : lkS u a b E N := by unfold lkS; rw [h1, h2]; exact h
set_option maxRecDepth 100000 in
theorem lp2_X8_splitsAll (G : Gt) {a b M : Nat} {E : Nat → Nat} (hab : a * b ≤ 36) (htl : ∀ S : Nat, tot a b E S < a * b) (hM10 : M ≤ 10) {S : Nat} {μ0 : Mm} {F : Fn} (h0 : S ≠ 0) (hS : S < 2 ^ M) (hk : ∀ μ : Mm, mqF μ0 μ → lkE μ a b M E → lkS μ a b E (2 ^ M) → lkP μ a b E (S + 1) → Zs G 2 Y_X8_splitsAll F 117 [(0, rf G 35), (1, .int (nI S))] [] μ) : ∀ (f B : Nat) (μ : Mm), B + f = S + 1 → mqF μ0 μ → lkE μ a b M E → lkS μ a b E (2 ^ M) → lkP μ a b E S → μ.2.1 43 S = nI (accS (cB a b E S) (fun B => splN a b E (S ^^^ B)) B) → μ.2.1 44 S = nI (accO (cB a b E S) (fun B => lenN a b E (S ^^^ B) * 2) B) →
    Zs G 2 Y_X8_splitsAll F 47 [(0, rf G 35), (1, .int (nI S)), (2, .int (nI (lowN S))), (3, .int (nI B))] [] μ := by
  intro f
  have hpw := p1024 hM10
  induction f with
  | zero =>
    intro B μ hf hq hl hs hp h3 h4
    refine z_iload_n dX8_splitsAll_47 rfl ?_
    refine z_iload_n dX8_splitsAll_48 rfl ?_
    refine z_icmpN_gt (tgt := 117) dX8_splitsAll_49 (by decide) (by omega) (by omega) (fun c49 => ?_) (fun c49 => absurd c49 (by omega))
    have hp2 : lkP μ a b E (S + 1) := by
      intro T hT
      by_cases e : T = S
      · subst e; rw [spl_rec h0, len_rec h0, ← show B = T + 1 by omega]; exact ⟨h3, h4⟩
      · exact hp T (by omega)
    refine z_sub (lv' := [(0, _), (1, _)]) rfl ?_
    exact hk μ hq hl hs hp2
  | succ f ih =>
    intro B μ hf hq hl hs hp h3 h4
    have hand : B &&& lowN S ≤ B := Nat.and_le_left
    refine z_iload_n dX8_splitsAll_47 rfl ?_
    refine z_iload_n dX8_splitsAll_48 rfl ?_
    refine z_icmpN_gt (tgt := 117) dX8_splitsAll_49 (by decide) (by omega) (by omega) (fun c49 => absurd c49 (by omega)) (fun c49 => ?_)
    refine z_aload_n dX8_splitsAll_52 rfl ?_
    refine z_iload_n dX8_splitsAll_53 rfl ?_
    refine z_iload_n dX8_splitsAll_54 rfl ?_
    refine z_cV2 dX8_splitsAll_55 lk_X8_88 (by decide) ⟨by decide, _, rfl⟩ rfl (Nat.le_of_ble_eq_true rfl) (ev_X8_isIn G (by omega)) ?_
    refine z_ifB_eq (tgt := 111) dX8_splitsAll_58 (by decide) (fun c58 => ?_) (fun c58 => ?_)
    · refine z_iinc (v := nI (B + 1)) (lv' := [(3, _), (0, _), (1, _), (2, _)]) dX8_splitsAll_111 rfl (nI_inc _ 1) (by decide) rfl ?_
      have hcb : cB a b E S B = false := by unfold cB; rw [c58, Bool.and_false]
      refine z_goto (tgt := 47) dX8_splitsAll_114 (by decide) ?_
      have q := ih (B + 1) μ (by omega) hq hl hs hp (by rw [h3, show accS (cB a b E S) (fun B => splN a b E (S ^^^ B)) (B + 1) = if cB a b E S B then accS (cB a b E S) (fun B => splN a b E (S ^^^ B)) B + splN a b E (S ^^^ B) else accS (cB a b E S) (fun B => splN a b E (S ^^^ B)) B from rfl, hcb]; rfl) (by rw [h4, show accO (cB a b E S) (fun B => lenN a b E (S ^^^ B) * 2) (B + 1) = if cB a b E S B then accO (cB a b E S) (fun B => lenN a b E (S ^^^ B) * 2) B ||| lenN a b E (S ^^^ B) * 2 else accO (cB a b E S) (fun B => lenN a b E (S ^^^ B) * 2) B from rfl, hcb]; rfl)
      refine z_sub (lv' := [(0, _), (1, _), (2, _), (3, _)]) rfl ?_
      exact q
    · refine z_iload_n dX8_splitsAll_61 rfl ?_
      refine z_iload_n dX8_splitsAll_62 rfl ?_
      refine z_iandN dX8_splitsAll_63 ?_
      refine z_ifN_eq (tgt := 111) dX8_splitsAll_64 (by decide) (by omega) (fun c64 => ?_) (fun c64 => ?_)
      · refine z_iinc (v := nI (B + 1)) (lv' := [(3, _), (0, _), (1, _), (2, _)]) dX8_splitsAll_111 rfl (nI_inc _ 1) (by decide) rfl ?_
        have hcb : cB a b E S B = false := by unfold cB; rw [c64]; simp
        refine z_goto (tgt := 47) dX8_splitsAll_114 (by decide) ?_
        have q := ih (B + 1) μ (by omega) hq hl hs hp (by rw [h3, show accS (cB a b E S) (fun B => splN a b E (S ^^^ B)) (B + 1) = if cB a b E S B then accS (cB a b E S) (fun B => splN a b E (S ^^^ B)) B + splN a b E (S ^^^ B) else accS (cB a b E S) (fun B => splN a b E (S ^^^ B)) B from rfl, hcb]; rfl) (by rw [h4, show accO (cB a b E S) (fun B => lenN a b E (S ^^^ B) * 2) (B + 1) = if cB a b E S B then accO (cB a b E S) (fun B => lenN a b E (S ^^^ B) * 2) B ||| lenN a b E (S ^^^ B) * 2 else accO (cB a b E S) (fun B => lenN a b E (S ^^^ B) * 2) B from rfl, hcb]; rfl)
        refine z_sub (lv' := [(0, _), (1, _), (2, _), (3, _)]) rfl ?_
        exact q
      · refine z_aload_n dX8_splitsAll_67 rfl ?_
        refine z_iload_n dX8_splitsAll_68 rfl ?_
        refine z_cV1 dX8_splitsAll_69 lk_X8_91 (by decide) ⟨by decide, _, rfl⟩ rfl (Nat.le_of_ble_eq_true rfl) (ev_X8_isBlock G hab htl hl hs (show B < 2 ^ M by omega)) ?_
        refine z_ifB_eq (tgt := 111) dX8_splitsAll_72 (by decide) (fun c72 => ?_) (fun c72 => ?_)
        · refine z_iinc (v := nI (B + 1)) (lv' := [(3, _), (0, _), (1, _), (2, _)]) dX8_splitsAll_111 rfl (nI_inc _ 1) (by decide) rfl ?_
          have hcb : cB a b E S B = false := by unfold cB; rw [c72]; rfl
          refine z_goto (tgt := 47) dX8_splitsAll_114 (by decide) ?_
          have q := ih (B + 1) μ (by omega) hq hl hs hp (by rw [h3, show accS (cB a b E S) (fun B => splN a b E (S ^^^ B)) (B + 1) = if cB a b E S B then accS (cB a b E S) (fun B => splN a b E (S ^^^ B)) B + splN a b E (S ^^^ B) else accS (cB a b E S) (fun B => splN a b E (S ^^^ B)) B from rfl, hcb]; rfl) (by rw [h4, show accO (cB a b E S) (fun B => lenN a b E (S ^^^ B) * 2) (B + 1) = if cB a b E S B then accO (cB a b E S) (fun B => lenN a b E (S ^^^ B) * 2) B ||| lenN a b E (S ^^^ B) * 2 else accO (cB a b E S) (fun B => lenN a b E (S ^^^ B) * 2) B from rfl, hcb]; rfl)
          refine z_sub (lv' := [(0, _), (1, _), (2, _), (3, _)]) rfl ?_
          exact q
        · have hcb : cB a b E S B = true := by unfold cB; rw [c72, c58, decide_eq_true c64]; rfl
          have hlt := cB_lt hcb
          have hxs := xor_sub c58
          have hlS := sb_le c58
          have hl2 := len_lt2 (a := a) (b := b) (E := E) (S := S ^^^ B) hM10 (by omega)
          refine z_aload_n dX8_splitsAll_75 rfl ?_
          refine z_getR (j := 43) dX8_splitsAll_76 fl_X8_32 ⟨by decide, _, rfl, rfl⟩ ?_
          refine z_iload_n dX8_splitsAll_79 rfl ?_
          refine z_dup2 dX8_splitsAll_80 rfl rfl ?_
          refine z_ialdN dX8_splitsAll_81 ⟨by decide, rfl⟩ (by omega) (by decide) h3 ?_
          refine z_aload_n dX8_splitsAll_82 rfl ?_
          refine z_getR (j := 43) dX8_splitsAll_83 fl_X8_32 ⟨by decide, _, rfl, rfl⟩ ?_
          refine z_iload_n dX8_splitsAll_86 rfl ?_
          refine z_iload_n dX8_splitsAll_87 rfl ?_
          refine z_isubN dX8_splitsAll_88 (by omega) ?_
          rw [← hxs]
          refine z_ialdN dX8_splitsAll_89 ⟨by decide, rfl⟩ (by omega) (by decide) (hp _ hlt).1 ?_
          refine z_iaddN dX8_splitsAll_90 ?_
          refine z_iastN dX8_splitsAll_91 ⟨by decide, rfl⟩ (by omega) (by decide) ?_
          refine z_aload_n dX8_splitsAll_92 rfl ?_
          refine z_getR (j := 44) dX8_splitsAll_93 fl_X8_35 ⟨by decide, _, rfl, rfl⟩ ?_
          refine z_iload_n dX8_splitsAll_96 rfl ?_
          refine z_dup2 dX8_splitsAll_97 rfl rfl ?_
          refine z_ialdN dX8_splitsAll_98 ⟨by decide, rfl⟩ (by omega) (by decide) (show (uR μ 43 S (nI (accS (cB a b E S) (fun B => splN a b E (S ^^^ B)) B + splN a b E (S ^^^ B)))).2.1 44 S = nI (accO (cB a b E S) (fun B => lenN a b E (S ^^^ B) * 2) B) by rw [uR_n _ _ _ (by decide)]; exact h4) ?_
          refine z_aload_n dX8_splitsAll_99 rfl ?_
          refine z_getR (j := 44) dX8_splitsAll_100 fl_X8_35 ⟨by decide, _, rfl, rfl⟩ ?_
          refine z_iload_n dX8_splitsAll_103 rfl ?_
          refine z_iload_n dX8_splitsAll_104 rfl ?_
          refine z_isubN dX8_splitsAll_105 (by omega) ?_
          rw [← hxs]
          refine z_ialdN dX8_splitsAll_106 ⟨by decide, rfl⟩ (by omega) (by decide) (show (uR μ 43 S (nI (accS (cB a b E S) (fun B => splN a b E (S ^^^ B)) B + splN a b E (S ^^^ B)))).2.1 44 (S ^^^ B) = nI (lenN a b E (S ^^^ B)) by rw [uR_n _ _ _ (by decide)]; exact (hp _ hlt).2) ?_
          refine z_iconst (v := nI 1) dX8_splitsAll_107 (by decide) ?_
          refine z_ishlN dX8_splitsAll_108 (by omega) (by omega) ?_
          refine z_iorN dX8_splitsAll_109 ?_
          refine z_iastN dX8_splitsAll_110 ⟨by decide, rfl⟩ (by omega) (by decide) ?_
          refine z_iinc (v := nI (B + 1)) (lv' := [(3, _), (0, _), (1, _), (2, _)]) dX8_splitsAll_111 rfl (nI_inc _ 1) (by decide) rfl ?_
          refine z_goto (tgt := 47) dX8_splitsAll_114 (by decide) ?_
          have q := ih (B + 1) _ (by omega) ((hq.uR (i := 43) (j := S) (x := nI (accS (cB a b E S) (fun B => splN a b E (S ^^^ B)) B + splN a b E (S ^^^ B))) (by omega) (by omega)).uR (i := 44) (j := S) (x := nI (accO (cB a b E S) (fun B => lenN a b E (S ^^^ B) * 2) B ||| lenN a b E (S ^^^ B) * 2 ^ 1)) (by omega) (by omega)) (hl.q rfl (by rw [uR_n _ _ _ (by decide), uR_n _ _ _ (by decide)])) (hs.q (by rw [uR_n _ _ _ (by decide), uR_n _ _ _ (by decide)]) (by rw [uR_n _ _ _ (by decide), uR_n _ _ _ (by decide)])) (fun T hT => by rw [uR_n _ _ _ (by decide), uR_s, uR_s, upd_n _ _ (show T ≠ S by omega), upd_n _ _ (show T ≠ S by omega), uR_n _ _ _ (by decide)]; exact hp T hT) (by rw [uR_n _ _ _ (by decide), uR_s, upd_s, show accS (cB a b E S) (fun B => splN a b E (S ^^^ B)) (B + 1) = if cB a b E S B then accS (cB a b E S) (fun B => splN a b E (S ^^^ B)) B + splN a b E (S ^^^ B) else accS (cB a b E S) (fun B => splN a b E (S ^^^ B)) B from rfl, hcb]; rfl) (by rw [uR_s, upd_s, show accO (cB a b E S) (fun B => lenN a b E (S ^^^ B) * 2) (B + 1) = if cB a b E S B then accO (cB a b E S) (fun B => lenN a b E (S ^^^ B) * 2) B ||| lenN a b E (S ^^^ B) * 2 else accO (cB a b E S) (fun B => lenN a b E (S ^^^ B) * 2) B from rfl, hcb]; rfl)
          refine z_sub (lv' := [(0, _), (1, _), (2, _), (3, _)]) rfl ?_
          exact q
set_option maxRecDepth 100000 in
theorem lp_X8_splitsAll (G : Gt) {a b M : Nat} {E : Nat → Nat} (hab : a * b ≤ 36) (htl : ∀ S : Nat, tot a b E S < a * b) (hM10 : M ≤ 10) {μ0 : Mm} : ∀ (f S : Nat) (μ : Mm), S + f = 2 ^ M → 1 ≤ S → mqF μ0 μ → lkE μ a b M E → lkS μ a b E (2 ^ M) → lkP μ a b E S →
    Zs G 2 Y_X8_splitsAll (fnN G (fun v u => v = none ∧ mqF μ0 u ∧ lkE u a b M E ∧ lkS u a b E (2 ^ M) ∧ lkP u a b E (2 ^ M))) 16 [(0, rf G 35), (1, .int (nI S))] [] μ := by
  intro f
  have hpw := p1024 hM10
  induction f with
  | zero =>
    intro S μ hf h1 hq hl hs hp
    refine z_iload_n dX8_splitsAll_16 rfl ?_
    refine z_iconst (v := nI 1) dX8_splitsAll_17 (by decide) ?_
    refine z_aload_n dX8_splitsAll_18 rfl ?_
    refine z_getI dX8_splitsAll_19 fl_X8_81 ⟨by decide, _, rfl, rfl⟩ hl.1 ?_
    refine z_ishlN dX8_splitsAll_22 (by omega) (by omega) ?_
    refine z_icmpN_ge (tgt := 123) dX8_splitsAll_23 (by decide) (by omega) (by omega) (fun c23 => ?_) (fun c23 => absurd c23 (by omega))
    exact z_vret rfl dX8_splitsAll_123 ⟨rfl, hq, hl, hs, by rw [show 2 ^ M = S by omega]; exact hp⟩
  | succ f ih =>
    intro S μ hf h1 hq hl hs hp
    have hlow := low_pos (S := S) (by omega) (by omega)
    refine z_iload_n dX8_splitsAll_16 rfl ?_
    refine z_iconst (v := nI 1) dX8_splitsAll_17 (by decide) ?_
    refine z_aload_n dX8_splitsAll_18 rfl ?_
    refine z_getI dX8_splitsAll_19 fl_X8_81 ⟨by decide, _, rfl, rfl⟩ hl.1 ?_
    refine z_ishlN dX8_splitsAll_22 (by omega) (by omega) ?_
    refine z_icmpN_ge (tgt := 123) dX8_splitsAll_23 (by decide) (by omega) (by omega) (fun c23 => absurd c23 (by omega)) (fun c23 => ?_)
    refine z_iload_n dX8_splitsAll_26 rfl ?_
    refine z_iload_n dX8_splitsAll_27 rfl ?_
    refine z_ineg dX8_splitsAll_28 ?_
    refine z_iand dX8_splitsAll_29 ?_
    rw [low_neg _ (by omega)]
    refine z_istore_n (lv' := [(2, _), (0, _), (1, _)]) dX8_splitsAll_30 rfl (by decide) rfl ?_
    refine z_aload_n dX8_splitsAll_31 rfl ?_
    refine z_getR (j := 43) dX8_splitsAll_32 fl_X8_32 ⟨by decide, _, rfl, rfl⟩ ?_
    refine z_iload_n dX8_splitsAll_35 rfl ?_
    refine z_iconst (v := nI 0) dX8_splitsAll_36 (by decide) ?_
    refine z_iastN dX8_splitsAll_37 ⟨by decide, rfl⟩ (by omega) (by decide) ?_
    refine z_aload_n dX8_splitsAll_38 rfl ?_
    refine z_getR (j := 44) dX8_splitsAll_39 fl_X8_35 ⟨by decide, _, rfl, rfl⟩ ?_
    refine z_iload_n dX8_splitsAll_42 rfl ?_
    refine z_iconst (v := nI 0) dX8_splitsAll_43 (by decide) ?_
    refine z_iastN dX8_splitsAll_44 ⟨by decide, rfl⟩ (by omega) (by decide) ?_
    refine z_iload_n dX8_splitsAll_45 rfl ?_
    refine z_istore_n (lv' := [(3, _), (2, _), (0, _), (1, _)]) dX8_splitsAll_46 rfl (by decide) rfl ?_
    refine z_sub (lv' := [(0, _), (1, _), (2, _), (3, _)]) rfl ?_
    refine lp2_X8_splitsAll G hab htl hM10 (show S ≠ 0 by omega) (by omega) ?_ (S + 1 - lowN S) (lowN S) _ (by omega) ((hq.uR (i := 43) (j := S) (x := nI 0) (by omega) (by omega)).uR (i := 44) (j := S) (x := nI 0) (by omega) (by omega)) (hl.q rfl (by rw [uR_n _ _ _ (by decide), uR_n _ _ _ (by decide)])) (hs.q (by rw [uR_n _ _ _ (by decide), uR_n _ _ _ (by decide)]) (by rw [uR_n _ _ _ (by decide), uR_n _ _ _ (by decide)])) (fun T hT => by rw [uR_n _ _ _ (by decide), uR_s, uR_s, upd_n _ _ (show T ≠ S by omega), upd_n _ _ (show T ≠ S by omega), uR_n _ _ _ (by decide)]; exact hp T hT) (by rw [uR_n _ _ _ (by decide), uR_s, upd_s, accS_flat (s := 0) (Nat.zero_le _) (fun j _ hj => low_le (by omega) (by omega) hj)]; rfl) (by rw [uR_s, upd_s, accO_flat (s := 0) (Nat.zero_le _) (fun j _ hj => low_le (by omega) (by omega) hj)]; rfl)
    intro u hqu hlu hsu hpu
    refine z_iinc (v := nI (S + 1)) (lv' := [(1, _), (0, _)]) dX8_splitsAll_117 rfl (nI_inc _ 1) (by decide) rfl ?_
    refine z_goto (tgt := 16) dX8_splitsAll_120 (by decide) ?_
    refine z_sub (lv' := [(0, _), (1, _)]) rfl ?_
    exact ih (S + 1) u (by omega) (by omega) hqu hlu hsu hpu
set_option maxRecDepth 100000 in
theorem ev_X8_splitsAll (G : Gt) {a b M : Nat} {E : Nat → Nat} (hab : a * b ≤ 36) (htl : ∀ S : Nat, tot a b E S < a * b) (hM10 : M ≤ 10) {μ : Mm} (hl : lkE μ a b M E) (hs : lkS μ a b E (2 ^ M)) : EV G 2 Y_X8_splitsAll [rf G 35] μ (fun v u => v = none ∧ mqF μ u ∧ lkE u a b M E ∧ lkS u a b E (2 ^ M) ∧ lkP u a b E (2 ^ M)) := by
  have hpw1 := ppos M
  refine ev_of (by decide) (Nat.le_of_ble_eq_true rfl) ?_
  show Zs G 2 Y_X8_splitsAll (fnN G _) 0 [(0, rf G 35)] [] μ
  refine z_aload_n dX8_splitsAll_0 rfl ?_
  refine z_getR (j := 43) dX8_splitsAll_1 fl_X8_32 ⟨by decide, _, rfl, rfl⟩ ?_
  refine z_iconst (v := nI 0) dX8_splitsAll_4 (by decide) ?_
  refine z_iconst (v := nI 1) dX8_splitsAll_5 (by decide) ?_
  refine z_iastN dX8_splitsAll_6 ⟨by decide, rfl⟩ (by omega) (by decide) ?_
  refine z_aload_n dX8_splitsAll_7 rfl ?_
  refine z_getR (j := 44) dX8_splitsAll_8 fl_X8_35 ⟨by decide, _, rfl, rfl⟩ ?_
  refine z_iconst (v := nI 0) dX8_splitsAll_11 (by decide) ?_
  refine z_iconst (v := nI 1) dX8_splitsAll_12 (by decide) ?_
  refine z_iastN dX8_splitsAll_13 ⟨by decide, rfl⟩ (by omega) (by decide) ?_
  refine z_iconst (v := nI 1) dX8_splitsAll_14 (by decide) ?_
  refine z_istore_n (lv' := [(1, _), (0, _)]) dX8_splitsAll_15 rfl (by decide) rfl ?_
  refine z_sub (lv' := [(0, _), (1, _)]) rfl ?_
  exact lp_X8_splitsAll G hab htl hM10 (2 ^ M - 1) 1 _ (by omega) (Nat.le_refl _) ((mqF.rf.uR (by omega) (by omega)).uR (by omega) (by omega)) (hl.q rfl (by rw [uR_n _ _ _ (by decide), uR_n _ _ _ (by decide)])) (hs.q (by rw [uR_n _ _ _ (by decide), uR_n _ _ _ (by decide)]) (by rw [uR_n _ _ _ (by decide), uR_n _ _ _ (by decide)])) (fun T hT => by rw [show T = 0 by omega, uR_n _ _ _ (by decide), uR_s, uR_s, upd_s, upd_s]; exact ⟨rfl, rfl⟩)
