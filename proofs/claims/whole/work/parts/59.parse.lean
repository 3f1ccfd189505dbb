/-- the reader of the reference changes its place, its command, its fault and its numbers -/
def psF (μ u : Mm) : Prop := (∀ i k : Nat, ¬ (i = 35 ∧ (k = 8 ∨ k = 9 ∨ k = 10)) → u.1 i k = μ.1 i k) ∧ (∀ i : Nat, ¬ i = 39 → u.2.1 i = μ.2.1 i) ∧ u.2.2 = μ.2.2
theorem psF.rf {μ : Mm} : psF μ μ := ⟨fun _ _ _ => rfl, fun _ _ => rfl, rfl⟩
theorem psF.trans {μ u u2 : Mm} (h : psF μ u) (h2 : psF u u2) : psF μ u2 := ⟨fun i k q => (h2.1 i k q).trans (h.1 i k q), fun i q => (h2.2.1 i q).trans (h.2.1 i q), h2.2.2.trans h.2.2⟩
theorem psF.u8 {μ u : Mm} (h : psF μ u) (x : Int32) : psF μ (uF u 35 8 x) := h.trans ⟨fun i k' q => uF_n _ _ (by omega), fun _ _ => rfl, rfl⟩
theorem psF.u9 {μ u : Mm} (h : psF μ u) (x : Int32) : psF μ (uF u 35 9 x) := h.trans ⟨fun i k' q => uF_n _ _ (by omega), fun _ _ => rfl, rfl⟩
theorem psF.u10 {μ u : Mm} (h : psF μ u) (x : Int32) : psF μ (uF u 35 10 x) := h.trans ⟨fun i k' q => uF_n _ _ (by omega), fun _ _ => rfl, rfl⟩
theorem psF.r {μ u : Mm} (h : psF μ u) (j : Nat) (x : Int32) : psF μ (uR u 39 j x) := h.trans ⟨fun _ _ _ => rfl, fun i' q => uR_n _ _ _ (by omega), rfl⟩
theorem mtOK.p {μ u : Mm} {n : Nat} {T : Nat → Nat} (h : mtOK μ n T) (hf : psF μ u) : mtOK u n T := by unfold mtOK; rw [hf.1 35 6 (by omega), hf.2.1 38 (by omega)]; exact h
theorem wi_pk {T : Nat → Nat} {n c l h : Nat} (hT : ∀ j, j < n → T j < 128) (hl : l < 128) (hh : h < 128) : wiN (pkN T n c) (nI l) (nI h) = (decide (c < n) && (decide (l ≤ T c) && decide (T c ≤ h))) := by
  by_cases e : c < n
  · have := hT c e
    rw [pkn_in e, wi_N (by omega) (by omega) (by omega), decide_eq_true e, Bool.true_and]
  · rw [pkn_out (by omega), decide_eq_false e, Bool.false_and]
    unfold wiN
    have e2 : ((-1 : Int32) < nI l) := by
      rw [Int32.lt_iff_toInt_lt, nI_toInt (by omega)]
      have : (-1 : Int32).toInt = -1 := by decide
      omega
    rw [decide_eq_true e2]; rfl
set_option maxRecDepth 100000 in
theorem ev_X8_here (G : Gt) {n : Nat} {T : Nat → Nat} {μ : Mm} (ht : mtOK μ n T) {c : Nat} (hc : μ.1 35 8 = nI c) (hcb : c < 2 ^ 31) : EVr G 0 Y_X8_here [rf G 35] μ (.int (pkN T n c)) := by
  have hn := ht.2.1
  refine ev_of (by decide) (Nat.le_of_ble_eq_true rfl) ?_
  show Zs G 0 Y_X8_here (fnN G _) 0 [(0, rf G 35)] [] μ
  refine z_aload_n dX8_here_0 rfl ?_
  refine z_getI dX8_here_1 fl_X8_166 ⟨by decide, _, rfl, rfl⟩ hc ?_
  refine z_aload_n dX8_here_4 rfl ?_
  refine z_getI dX8_here_5 fl_X8_149 ⟨by decide, _, rfl, rfl⟩ ht.1 ?_
  refine z_icmpN_ge (tgt := 23) dX8_here_8 (by decide) (by omega) (by omega) (fun c8 => ?_) (fun c8 => ?_)
  · refine z_iconst (v := -1) dX8_here_23 (by decide) ?_
    exact z_ret (ty := none) (v := none) rfl dX8_here_24 ⟨by rw [pkn_out c8], rfl⟩
  · refine z_aload_n dX8_here_11 rfl ?_
    refine z_getR (j := 38) dX8_here_12 fl_X8_16 ⟨by decide, _, rfl, rfl⟩ ?_
    refine z_aload_n dX8_here_15 rfl ?_
    refine z_getI dX8_here_16 fl_X8_166 ⟨by decide, _, rfl, rfl⟩ hc ?_
    refine z_ialdN dX8_here_19 ⟨by decide, rfl⟩ (by omega) (by decide) ((ht.2.2 c c8).1) ?_
    refine z_goto (tgt := 24) dX8_here_20 (by decide) ?_
    exact z_ret (ty := none) (v := none) rfl dX8_here_24 ⟨by rw [pkn_in c8], rfl⟩
set_option maxRecDepth 100000 in
theorem lp_X8_skips (G : Gt) {n : Nat} {T : Nat → Nat} {μ0 : Mm} (h0 : mtOK μ0 n T) : ∀ (f c : Nat), n - c = f → c ≤ n →
    Zs G 1 Y_X8_skips (fnN G (fun v u => v = none ∧ u = uF μ0 35 8 (nI (scL (fun k => isSp (T k)) n f c)))) 0 [(0, rf G 35)] [] (uF μ0 35 8 (nI c)) := by
  intro f
  have hn := h0.2.1
  induction f with
  | zero =>
    intro c hf hc
    have h := h0.p (psF.rf.u8 (nI c))
    refine z_aload_n dX8_skips_0 rfl ?_
    refine z_cV0 dX8_skips_1 lk_X8_169 (by decide) ⟨by decide, _, rfl⟩ rfl (Nat.le_of_ble_eq_true rfl) (ev_X8_here G h (uF_s _ _ _ _) (by omega)) ?_
    rw [pkn_out (by omega)]
    refine z_bipush (v := nI 32) dX8_skips_4 (by decide) ?_
    refine z_icmp_ne (tgt := 22) dX8_skips_6 (by decide) (fun c6 => ?_) (fun c6 => absurd c6 (by decide))
    exact z_vret rfl dX8_skips_22 ⟨rfl, rfl⟩
  | succ f ih =>
    intro c hf hc
    have h := h0.p (psF.rf.u8 (nI c))
    have hcn : c < n := by omega
    have htl := (h0.2.2 c hcn).2
    refine z_aload_n dX8_skips_0 rfl ?_
    refine z_cV0 dX8_skips_1 lk_X8_169 (by decide) ⟨by decide, _, rfl⟩ rfl (Nat.le_of_ble_eq_true rfl) (ev_X8_here G h (uF_s _ _ _ _) (by omega)) ?_
    rw [pkn_in hcn]
    refine z_bipush (v := nI 32) dX8_skips_4 (by decide) ?_
    refine z_icmpN_ne (tgt := 22) dX8_skips_6 (by decide) (by omega) (by omega) (fun c6 => ?_) (fun c6 => ?_)
    · exact z_vret rfl dX8_skips_22 ⟨rfl, by rw [scL_out (by rw [show isSp (T c) = false from decide_eq_false c6]; simp)]⟩
    · refine z_aload_n dX8_skips_9 rfl ?_
      refine z_dup dX8_skips_10 rfl ?_
      refine z_getI dX8_skips_11 fl_X8_166 ⟨by decide, _, rfl, rfl⟩ (uF_s _ _ _ _) ?_
      refine z_iconst (v := nI 1) dX8_skips_14 (by decide) ?_
      refine z_iaddN dX8_skips_15 ?_
      refine z_putI dX8_skips_16 fp_X8_166 ⟨by decide, _, rfl, rfl⟩ ?_
      rw [uF_uF]
      refine z_goto (tgt := 0) dX8_skips_19 (by decide) ?_
      have q := ih (c + 1) (by omega) (by omega)
      rw [show scL (fun k => isSp (T k)) n (f + 1) c = scL (fun k => isSp (T k)) n f (c + 1) from if_pos ⟨hcn, decide_eq_true c6⟩]
      exact q
theorem ev_X8_skips (G : Gt) {n : Nat} {T : Nat → Nat} {μ : Mm} (ht : mtOK μ n T) {c : Nat} (hc : μ.1 35 8 = nI c) (hcn : c ≤ n) : EVv G 1 Y_X8_skips [rf G 35] μ (uF μ 35 8 (nI (skS T n c))) := by
  refine ev_of (by decide) (Nat.le_of_ble_eq_true rfl) ?_
  have q := lp_X8_skips G ht (n - c) c rfl hcn
  rw [uF_id hc] at q
  exact q
set_option maxRecDepth 100000 in
theorem ev_X8_fails (G : Gt) {x : Int32} {μ : Mm} : EVw G 0 Y_X8_fails [rf G 35, .int x] μ (.int (bI false)) (uF μ 35 10 x) := by
  refine ev_of (by decide) (Nat.le_of_ble_eq_true rfl) ?_
  show Zs G 0 Y_X8_fails (fnN G _) 0 [(0, rf G 35), (1, .int x)] [] μ
  refine z_aload_n dX8_fails_0 rfl ?_
  refine z_iload_n dX8_fails_1 rfl ?_
  refine z_putI dX8_fails_2 fp_X8_172 ⟨by decide, _, rfl, rfl⟩ ?_
  refine z_iconst (v := nI 0) dX8_fails_5 (by decide) ?_
  exact z_zret rfl rfl dX8_fails_6 ⟨rfl, rfl⟩
set_option maxRecDepth 100000 in
theorem ev_X8_reads_3 (G : Gt) {n : Nat} {T : Nat → Nat} {μ : Mm} (ht : mtOK μ n T) {s e : Nat} (he : μ.1 35 8 = nI e) (hse : s ≤ e) (hen : e ≤ n) {a b c : Nat} (ha : a < 128) (hb : b < 128) (hc : c < 128) : EVr G 0 Y_X8_reads [rf G 35, .int (nI s), .int (nI a), .int (nI b), .int (nI c), .int (nI 0), .int (nI 0)] μ (.int (bI (decide (e - s = 3) && (decide (T s = a) && (decide (T (s + 1) = b) && decide (T (s + 2) = c)))))) := by
  have hn := ht.2.1
  refine ev_of (by decide) (Nat.le_of_ble_eq_true rfl) ?_
  show Zs G 0 Y_X8_reads (fnN G _) 0 [(0, rf G 35), (1, .int (nI s)), (2, .int (nI a)), (3, .int (nI b)), (4, .int (nI c)), (5, .int (nI 0)), (6, .int (nI 0))] [] μ
  refine z_aload_n dX8_reads_0 rfl ?_
  refine z_getI dX8_reads_1 fl_X8_166 ⟨by decide, _, rfl, rfl⟩ he ?_
  refine z_iload_n dX8_reads_4 rfl ?_
  refine z_isubN dX8_reads_5 (by omega) ?_
  refine z_iload dX8_reads_6 rfl ?_
  refine z_ifN_ne (tgt := 15) dX8_reads_8 (by decide) (by omega) (fun c8 => absurd rfl c8) (fun c8 => ?_)
  refine z_iconst (v := nI 3) dX8_reads_11 (by decide) ?_
  refine z_goto (tgt := 16) dX8_reads_12 (by decide) ?_
  refine z_icmpN_ne (tgt := 58) dX8_reads_16 (by decide) (by omega) (by omega) (fun c16 => ?_) (fun c16 => ?_)
  · refine z_iconst (v := nI 0) dX8_reads_58 (by decide) ?_
    refine z_istore (lv' := [(7, _), (0, _), (1, _), (2, _), (3, _), (4, _), (5, _), (6, _)]) dX8_reads_59 (by decide) rfl ?_
    refine z_iload dX8_reads_61 rfl ?_
    refine z_ifN_eq (tgt := 101) dX8_reads_63 (by decide) (by omega) (fun c63 => ?_) (fun c63 => absurd c63 (by decide))
    refine z_iconst (v := nI 0) dX8_reads_101 (by decide) ?_
    exact z_zret rfl rfl dX8_reads_102 ⟨by rw [show (decide (e - s = 3) && (decide (T s = a) && (decide (T (s + 1) = b) && decide (T (s + 2) = c)))) = false by rw [decide_eq_false c16]; rfl]; rfl, rfl⟩
  · refine z_aload_n dX8_reads_19 rfl ?_
    refine z_getR (j := 38) dX8_reads_20 fl_X8_16 ⟨by decide, _, rfl, rfl⟩ ?_
    refine z_iload_n dX8_reads_23 rfl ?_
    refine z_ialdN dX8_reads_24 ⟨by decide, rfl⟩ (by omega) (by decide) ((ht.2.2 s (by omega)).1) ?_
    refine z_iload_n dX8_reads_25 rfl ?_
    refine z_icmpN_ne (tgt := 58) dX8_reads_26 (by decide) (by have := (ht.2.2 (s) (by omega)).2; omega) (by omega) (fun c26 => ?_) (fun c26 => ?_)
    · refine z_iconst (v := nI 0) dX8_reads_58 (by decide) ?_
      refine z_istore (lv' := [(7, _), (0, _), (1, _), (2, _), (3, _), (4, _), (5, _), (6, _)]) dX8_reads_59 (by decide) rfl ?_
      refine z_iload dX8_reads_61 rfl ?_
      refine z_ifN_eq (tgt := 101) dX8_reads_63 (by decide) (by omega) (fun c63 => ?_) (fun c63 => absurd c63 (by decide))
      refine z_iconst (v := nI 0) dX8_reads_101 (by decide) ?_
      exact z_zret rfl rfl dX8_reads_102 ⟨by rw [show (decide (e - s = 3) && (decide (T s = a) && (decide (T (s + 1) = b) && decide (T (s + 2) = c)))) = false by rw [decide_eq_false (p := T s = a) c26]; simp]; rfl, rfl⟩
    · refine z_aload_n dX8_reads_29 rfl ?_
      refine z_getR (j := 38) dX8_reads_30 fl_X8_16 ⟨by decide, _, rfl, rfl⟩ ?_
      refine z_iload_n dX8_reads_33 rfl ?_
      refine z_iconst (v := nI 1) dX8_reads_34 (by decide) ?_
      refine z_iaddN dX8_reads_35 ?_
      refine z_ialdN dX8_reads_36 ⟨by decide, rfl⟩ (by omega) (by decide) ((ht.2.2 (s + 1) (by omega)).1) ?_
      refine z_iload_n dX8_reads_37 rfl ?_
      refine z_icmpN_ne (tgt := 58) dX8_reads_38 (by decide) (by have := (ht.2.2 (s + 1) (by omega)).2; omega) (by omega) (fun c38 => ?_) (fun c38 => ?_)
      · refine z_iconst (v := nI 0) dX8_reads_58 (by decide) ?_
        refine z_istore (lv' := [(7, _), (0, _), (1, _), (2, _), (3, _), (4, _), (5, _), (6, _)]) dX8_reads_59 (by decide) rfl ?_
        refine z_iload dX8_reads_61 rfl ?_
        refine z_ifN_eq (tgt := 101) dX8_reads_63 (by decide) (by omega) (fun c63 => ?_) (fun c63 => absurd c63 (by decide))
        refine z_iconst (v := nI 0) dX8_reads_101 (by decide) ?_
        exact z_zret rfl rfl dX8_reads_102 ⟨by rw [show (decide (e - s = 3) && (decide (T s = a) && (decide (T (s + 1) = b) && decide (T (s + 2) = c)))) = false by rw [decide_eq_false (p := T (s + 1) = b) c38]; simp]; rfl, rfl⟩
      · refine z_aload_n dX8_reads_41 rfl ?_
        refine z_getR (j := 38) dX8_reads_42 fl_X8_16 ⟨by decide, _, rfl, rfl⟩ ?_
        refine z_iload_n dX8_reads_45 rfl ?_
        refine z_iconst (v := nI 2) dX8_reads_46 (by decide) ?_
        refine z_iaddN dX8_reads_47 ?_
        refine z_ialdN dX8_reads_48 ⟨by decide, rfl⟩ (by omega) (by decide) ((ht.2.2 (s + 2) (by omega)).1) ?_
        refine z_iload dX8_reads_49 rfl ?_
        refine z_icmpN_ne (tgt := 58) dX8_reads_51 (by decide) (by have := (ht.2.2 (s + 2) (by omega)).2; omega) (by omega) (fun c51 => ?_) (fun c51 => ?_)
        · refine z_iconst (v := nI 0) dX8_reads_58 (by decide) ?_
          refine z_istore (lv' := [(7, _), (0, _), (1, _), (2, _), (3, _), (4, _), (5, _), (6, _)]) dX8_reads_59 (by decide) rfl ?_
          refine z_iload dX8_reads_61 rfl ?_
          refine z_ifN_eq (tgt := 101) dX8_reads_63 (by decide) (by omega) (fun c63 => ?_) (fun c63 => absurd c63 (by decide))
          refine z_iconst (v := nI 0) dX8_reads_101 (by decide) ?_
          exact z_zret rfl rfl dX8_reads_102 ⟨by rw [show (decide (e - s = 3) && (decide (T s = a) && (decide (T (s + 1) = b) && decide (T (s + 2) = c)))) = false by rw [decide_eq_false (p := T (s + 2) = c) c51]; simp]; rfl, rfl⟩
        · refine z_iconst (v := nI 1) dX8_reads_54 (by decide) ?_
          refine z_goto (tgt := 59) dX8_reads_55 (by decide) ?_
          refine z_istore (lv' := [(7, _), (0, _), (1, _), (2, _), (3, _), (4, _), (5, _), (6, _)]) dX8_reads_59 (by decide) rfl ?_
          refine z_iload dX8_reads_61 rfl ?_
          refine z_ifN_eq (tgt := 101) dX8_reads_63 (by decide) (by omega) (fun c63 => absurd c63 (by decide)) (fun c63 => ?_)
          refine z_iload dX8_reads_66 rfl ?_
          refine z_ifN_eq (tgt := 97) dX8_reads_68 (by decide) (by omega) (fun c68 => ?_) (fun c68 => absurd rfl c68)
          refine z_iconst (v := nI 1) dX8_reads_97 (by decide) ?_
          refine z_goto (tgt := 102) dX8_reads_98 (by decide) ?_
          exact z_zret rfl rfl dX8_reads_102 ⟨by rw [show (decide (e - s = 3) && (decide (T s = a) && (decide (T (s + 1) = b) && decide (T (s + 2) = c)))) = true by rw [decide_eq_true c16, decide_eq_true c26, decide_eq_true c38, decide_eq_true c51]; rfl]; rfl, rfl⟩
set_option maxRecDepth 100000 in
theorem ev_X8_reads_5 (G : Gt) {n : Nat} {T : Nat → Nat} {μ : Mm} (ht : mtOK μ n T) {s e : Nat} (he : μ.1 35 8 = nI e) (hse : s ≤ e) (hen : e ≤ n) {a b c d f : Nat} (ha : a < 128) (hb : b < 128) (hc : c < 128) (hd0 : d ≠ 0) (hd : d < 128) (hf : f < 128) : EVr G 0 Y_X8_reads [rf G 35, .int (nI s), .int (nI a), .int (nI b), .int (nI c), .int (nI d), .int (nI f)] μ (.int (bI (decide (e - s = 5) && (decide (T s = a) && (decide (T (s + 1) = b) && (decide (T (s + 2) = c) && (decide (T (s + 3) = d) && decide (T (s + 4) = f)))))))) := by
  have hn := ht.2.1
  refine ev_of (by decide) (Nat.le_of_ble_eq_true rfl) ?_
  show Zs G 0 Y_X8_reads (fnN G _) 0 [(0, rf G 35), (1, .int (nI s)), (2, .int (nI a)), (3, .int (nI b)), (4, .int (nI c)), (5, .int (nI d)), (6, .int (nI f))] [] μ
  refine z_aload_n dX8_reads_0 rfl ?_
  refine z_getI dX8_reads_1 fl_X8_166 ⟨by decide, _, rfl, rfl⟩ he ?_
  refine z_iload_n dX8_reads_4 rfl ?_
  refine z_isubN dX8_reads_5 (by omega) ?_
  refine z_iload dX8_reads_6 rfl ?_
  refine z_ifN_ne (tgt := 15) dX8_reads_8 (by decide) (by omega) (fun c8 => ?_) (fun c8 => absurd c8 hd0)
  refine z_iconst (v := nI 5) dX8_reads_15 (by decide) ?_
  refine z_icmpN_ne (tgt := 58) dX8_reads_16 (by decide) (by omega) (by omega) (fun c16 => ?_) (fun c16 => ?_)
  · refine z_iconst (v := nI 0) dX8_reads_58 (by decide) ?_
    refine z_istore (lv' := [(7, _), (0, _), (1, _), (2, _), (3, _), (4, _), (5, _), (6, _)]) dX8_reads_59 (by decide) rfl ?_
    refine z_iload dX8_reads_61 rfl ?_
    refine z_ifN_eq (tgt := 101) dX8_reads_63 (by decide) (by omega) (fun c63 => ?_) (fun c63 => absurd c63 (by decide))
    refine z_iconst (v := nI 0) dX8_reads_101 (by decide) ?_
    exact z_zret rfl rfl dX8_reads_102 ⟨by rw [show (decide (e - s = 5) && (decide (T s = a) && (decide (T (s + 1) = b) && (decide (T (s + 2) = c) && (decide (T (s + 3) = d) && decide (T (s + 4) = f)))))) = false by rw [decide_eq_false c16]; rfl]; rfl, rfl⟩
  · refine z_aload_n dX8_reads_19 rfl ?_
    refine z_getR (j := 38) dX8_reads_20 fl_X8_16 ⟨by decide, _, rfl, rfl⟩ ?_
    refine z_iload_n dX8_reads_23 rfl ?_
    refine z_ialdN dX8_reads_24 ⟨by decide, rfl⟩ (by omega) (by decide) ((ht.2.2 s (by omega)).1) ?_
    refine z_iload_n dX8_reads_25 rfl ?_
    refine z_icmpN_ne (tgt := 58) dX8_reads_26 (by decide) (by have := (ht.2.2 (s) (by omega)).2; omega) (by omega) (fun c26 => ?_) (fun c26 => ?_)
    · refine z_iconst (v := nI 0) dX8_reads_58 (by decide) ?_
      refine z_istore (lv' := [(7, _), (0, _), (1, _), (2, _), (3, _), (4, _), (5, _), (6, _)]) dX8_reads_59 (by decide) rfl ?_
      refine z_iload dX8_reads_61 rfl ?_
      refine z_ifN_eq (tgt := 101) dX8_reads_63 (by decide) (by omega) (fun c63 => ?_) (fun c63 => absurd c63 (by decide))
      refine z_iconst (v := nI 0) dX8_reads_101 (by decide) ?_
      exact z_zret rfl rfl dX8_reads_102 ⟨by rw [show (decide (e - s = 5) && (decide (T s = a) && (decide (T (s + 1) = b) && (decide (T (s + 2) = c) && (decide (T (s + 3) = d) && decide (T (s + 4) = f)))))) = false by rw [decide_eq_false (p := T s = a) c26]; simp]; rfl, rfl⟩
    · refine z_aload_n dX8_reads_29 rfl ?_
      refine z_getR (j := 38) dX8_reads_30 fl_X8_16 ⟨by decide, _, rfl, rfl⟩ ?_
      refine z_iload_n dX8_reads_33 rfl ?_
      refine z_iconst (v := nI 1) dX8_reads_34 (by decide) ?_
      refine z_iaddN dX8_reads_35 ?_
      refine z_ialdN dX8_reads_36 ⟨by decide, rfl⟩ (by omega) (by decide) ((ht.2.2 (s + 1) (by omega)).1) ?_
      refine z_iload_n dX8_reads_37 rfl ?_
      refine z_icmpN_ne (tgt := 58) dX8_reads_38 (by decide) (by have := (ht.2.2 (s + 1) (by omega)).2; omega) (by omega) (fun c38 => ?_) (fun c38 => ?_)
      · refine z_iconst (v := nI 0) dX8_reads_58 (by decide) ?_
        refine z_istore (lv' := [(7, _), (0, _), (1, _), (2, _), (3, _), (4, _), (5, _), (6, _)]) dX8_reads_59 (by decide) rfl ?_
        refine z_iload dX8_reads_61 rfl ?_
        refine z_ifN_eq (tgt := 101) dX8_reads_63 (by decide) (by omega) (fun c63 => ?_) (fun c63 => absurd c63 (by decide))
        refine z_iconst (v := nI 0) dX8_reads_101 (by decide) ?_
        exact z_zret rfl rfl dX8_reads_102 ⟨by rw [show (decide (e - s = 5) && (decide (T s = a) && (decide (T (s + 1) = b) && (decide (T (s + 2) = c) && (decide (T (s + 3) = d) && decide (T (s + 4) = f)))))) = false by rw [decide_eq_false (p := T (s + 1) = b) c38]; simp]; rfl, rfl⟩
      · refine z_aload_n dX8_reads_41 rfl ?_
        refine z_getR (j := 38) dX8_reads_42 fl_X8_16 ⟨by decide, _, rfl, rfl⟩ ?_
        refine z_iload_n dX8_reads_45 rfl ?_
        refine z_iconst (v := nI 2) dX8_reads_46 (by decide) ?_
        refine z_iaddN dX8_reads_47 ?_
        refine z_ialdN dX8_reads_48 ⟨by decide, rfl⟩ (by omega) (by decide) ((ht.2.2 (s + 2) (by omega)).1) ?_
        refine z_iload dX8_reads_49 rfl ?_
        refine z_icmpN_ne (tgt := 58) dX8_reads_51 (by decide) (by have := (ht.2.2 (s + 2) (by omega)).2; omega) (by omega) (fun c51 => ?_) (fun c51 => ?_)
        · refine z_iconst (v := nI 0) dX8_reads_58 (by decide) ?_
          refine z_istore (lv' := [(7, _), (0, _), (1, _), (2, _), (3, _), (4, _), (5, _), (6, _)]) dX8_reads_59 (by decide) rfl ?_
          refine z_iload dX8_reads_61 rfl ?_
          refine z_ifN_eq (tgt := 101) dX8_reads_63 (by decide) (by omega) (fun c63 => ?_) (fun c63 => absurd c63 (by decide))
          refine z_iconst (v := nI 0) dX8_reads_101 (by decide) ?_
          exact z_zret rfl rfl dX8_reads_102 ⟨by rw [show (decide (e - s = 5) && (decide (T s = a) && (decide (T (s + 1) = b) && (decide (T (s + 2) = c) && (decide (T (s + 3) = d) && decide (T (s + 4) = f)))))) = false by rw [decide_eq_false (p := T (s + 2) = c) c51]; simp]; rfl, rfl⟩
        · refine z_iconst (v := nI 1) dX8_reads_54 (by decide) ?_
          refine z_goto (tgt := 59) dX8_reads_55 (by decide) ?_
          refine z_istore (lv' := [(7, _), (0, _), (1, _), (2, _), (3, _), (4, _), (5, _), (6, _)]) dX8_reads_59 (by decide) rfl ?_
          refine z_iload dX8_reads_61 rfl ?_
          refine z_ifN_eq (tgt := 101) dX8_reads_63 (by decide) (by omega) (fun c63 => absurd c63 (by decide)) (fun c63 => ?_)
          refine z_iload dX8_reads_66 rfl ?_
          refine z_ifN_eq (tgt := 97) dX8_reads_68 (by decide) (by omega) (fun c68 => absurd c68 hd0) (fun c68 => ?_)
          refine z_aload_n dX8_reads_71 rfl ?_
          refine z_getR (j := 38) dX8_reads_72 fl_X8_16 ⟨by decide, _, rfl, rfl⟩ ?_
          refine z_iload_n dX8_reads_75 rfl ?_
          refine z_iconst (v := nI 3) dX8_reads_76 (by decide) ?_
          refine z_iaddN dX8_reads_77 ?_
          refine z_ialdN dX8_reads_78 ⟨by decide, rfl⟩ (by omega) (by decide) ((ht.2.2 (s + 3) (by omega)).1) ?_
          refine z_iload dX8_reads_79 rfl ?_
          refine z_icmpN_ne (tgt := 101) dX8_reads_81 (by decide) (by have := (ht.2.2 (s + 3) (by omega)).2; omega) (by omega) (fun c81 => ?_) (fun c81 => ?_)
          · refine z_iconst (v := nI 0) dX8_reads_101 (by decide) ?_
            exact z_zret rfl rfl dX8_reads_102 ⟨by rw [show (decide (e - s = 5) && (decide (T s = a) && (decide (T (s + 1) = b) && (decide (T (s + 2) = c) && (decide (T (s + 3) = d) && decide (T (s + 4) = f)))))) = false by rw [decide_eq_false (p := T (s + 3) = d) c81]; simp]; rfl, rfl⟩
          · refine z_aload_n dX8_reads_84 rfl ?_
            refine z_getR (j := 38) dX8_reads_85 fl_X8_16 ⟨by decide, _, rfl, rfl⟩ ?_
            refine z_iload_n dX8_reads_88 rfl ?_
            refine z_iconst (v := nI 4) dX8_reads_89 (by decide) ?_
            refine z_iaddN dX8_reads_90 ?_
            refine z_ialdN dX8_reads_91 ⟨by decide, rfl⟩ (by omega) (by decide) ((ht.2.2 (s + 4) (by omega)).1) ?_
            refine z_iload dX8_reads_92 rfl ?_
            refine z_icmpN_ne (tgt := 101) dX8_reads_94 (by decide) (by have := (ht.2.2 (s + 4) (by omega)).2; omega) (by omega) (fun c94 => ?_) (fun c94 => ?_)
            · refine z_iconst (v := nI 0) dX8_reads_101 (by decide) ?_
              exact z_zret rfl rfl dX8_reads_102 ⟨by rw [show (decide (e - s = 5) && (decide (T s = a) && (decide (T (s + 1) = b) && (decide (T (s + 2) = c) && (decide (T (s + 3) = d) && decide (T (s + 4) = f)))))) = false by rw [decide_eq_false (p := T (s + 4) = f) c94]; simp]; rfl, rfl⟩
            · refine z_iconst (v := nI 1) dX8_reads_97 (by decide) ?_
              refine z_goto (tgt := 102) dX8_reads_98 (by decide) ?_
              exact z_zret rfl rfl dX8_reads_102 ⟨by rw [show (decide (e - s = 5) && (decide (T s = a) && (decide (T (s + 1) = b) && (decide (T (s + 2) = c) && (decide (T (s + 3) = d) && decide (T (s + 4) = f)))))) = true by rw [decide_eq_true c16, decide_eq_true c26, decide_eq_true c38, decide_eq_true c51, decide_eq_true c81, decide_eq_true c94]; rfl]; rfl, rfl⟩
theorem rd_0 {T : Nat → Nat} {s e : Nat} : (decide (e - s = 5) && (decide (T s = 103) && (decide (T (s + 1) = 114) && (decide (T (s + 2) = 111) && (decide (T (s + 3) = 117) && (decide (T (s + 4) = 112))))))) = sdN T 0 s e := by
  have e0 : ∀ x y : Nat, decide (x = y) = decide (y = x) := fun x y => by by_cases q : x = y <;> simp [q, eq_comm]
  rw [show sdN T 0 s e = (decide (5 = e - s) && sdL T 0 s 5) from rfl]
  simp only [sdL, Bool.true_and, Nat.add_zero, Bool.and_assoc]
  rw [e0 (e - s) 5, e0 (T s) 103, e0 (T (s + 1)) 114, e0 (T (s + 2)) 111, e0 (T (s + 3)) 117, e0 (T (s + 4)) 112]
  rfl
theorem rd_1 {T : Nat → Nat} {s e : Nat} : (decide (e - s = 3) && (decide (T s = 97) && (decide (T (s + 1) = 100) && (decide (T (s + 2) = 100))))) = sdN T 1 s e := by
  have e0 : ∀ x y : Nat, decide (x = y) = decide (y = x) := fun x y => by by_cases q : x = y <;> simp [q, eq_comm]
  rw [show sdN T 1 s e = (decide (3 = e - s) && sdL T 1 s 3) from rfl]
  simp only [sdL, Bool.true_and, Nat.add_zero, Bool.and_assoc]
  rw [e0 (e - s) 3, e0 (T s) 97, e0 (T (s + 1)) 100, e0 (T (s + 2)) 100]
  rfl
theorem rd_2 {T : Nat → Nat} {s e : Nat} : (decide (e - s = 5) && (decide (T s = 109) && (decide (T (s + 1) = 105) && (decide (T (s + 2) = 110) && (decide (T (s + 3) = 117) && (decide (T (s + 4) = 115))))))) = sdN T 2 s e := by
  have e0 : ∀ x y : Nat, decide (x = y) = decide (y = x) := fun x y => by by_cases q : x = y <;> simp [q, eq_comm]
  rw [show sdN T 2 s e = (decide (5 = e - s) && sdL T 2 s 5) from rfl]
  simp only [sdL, Bool.true_and, Nat.add_zero, Bool.and_assoc]
  rw [e0 (e - s) 5, e0 (T s) 109, e0 (T (s + 1)) 105, e0 (T (s + 2)) 110, e0 (T (s + 3)) 117, e0 (T (s + 4)) 115]
  rfl
theorem rd_3 {T : Nat → Nat} {s e : Nat} : (decide (e - s = 3) && (decide (T s = 108) && (decide (T (s + 1) = 97) && (decide (T (s + 2) = 121))))) = sdN T 3 s e := by
  have e0 : ∀ x y : Nat, decide (x = y) = decide (y = x) := fun x y => by by_cases q : x = y <;> simp [q, eq_comm]
  rw [show sdN T 3 s e = (decide (3 = e - s) && sdL T 3 s 3) from rfl]
  simp only [sdL, Bool.true_and, Nat.add_zero, Bool.and_assoc]
  rw [e0 (e - s) 3, e0 (T s) 108, e0 (T (s + 1)) 97, e0 (T (s + 2)) 121]
  rfl
theorem rd_4 {T : Nat → Nat} {s e : Nat} : (decide (e - s = 5) && (decide (T s = 115) && (decide (T (s + 1) = 112) && (decide (T (s + 2) = 108) && (decide (T (s + 3) = 105) && (decide (T (s + 4) = 116))))))) = sdN T 4 s e := by
  have e0 : ∀ x y : Nat, decide (x = y) = decide (y = x) := fun x y => by by_cases q : x = y <;> simp [q, eq_comm]
  rw [show sdN T 4 s e = (decide (5 = e - s) && sdL T 4 s 5) from rfl]
  simp only [sdL, Bool.true_and, Nat.add_zero, Bool.and_assoc]
  rw [e0 (e - s) 5, e0 (T s) 115, e0 (T (s + 1)) 112, e0 (T (s + 2)) 108, e0 (T (s + 3)) 105, e0 (T (s + 4)) 116]
  rfl
set_option maxRecDepth 100000 in
theorem ev_X8_word (G : Gt) {n : Nat} {T : Nat → Nat} {μ : Mm} (ht : mtOK μ n T) {s e : Nat} (he : μ.1 35 8 = nI e) (hse : s ≤ e) (hen : e ≤ n) : EVr G 1 Y_X8_word [rf G 35, .int (nI s)] μ (.int (oI (wdN T s e 5))) := by
  refine ev_of (by decide) (Nat.le_of_ble_eq_true rfl) ?_
  show Zs G 1 Y_X8_word (fnN G _) 0 [(0, rf G 35), (1, .int (nI s))] [] μ
  refine z_aload_n dX8_word_0 rfl ?_
  refine z_iload_n dX8_word_1 rfl ?_
  refine z_bipush (v := nI 103) dX8_word_2 (by decide) ?_
  refine z_bipush (v := nI 114) dX8_word_4 (by decide) ?_
  refine z_bipush (v := nI 111) dX8_word_6 (by decide) ?_
  refine z_bipush (v := nI 117) dX8_word_8 (by decide) ?_
  refine z_bipush (v := nI 112) dX8_word_10 (by decide) ?_
  have rq0 := ev_X8_reads_5 G ht he hse hen (a := 103) (b := 114) (c := 111) (d := 117) (f := 112) (by decide) (by decide) (by decide) (by decide) (by decide) (by decide)
  rw [rd_0] at rq0
  refine z_cV6 dX8_word_12 lk_X8_175 (by decide) ⟨by decide, _, rfl⟩ rfl (Nat.le_of_ble_eq_true rfl) (rq0) ?_
  refine z_ifB_eq (tgt := 22) dX8_word_15 (by decide) (fun c15 => ?_) (fun c15 => ?_)
  · refine z_aload_n dX8_word_22 rfl ?_
    refine z_iload_n dX8_word_23 rfl ?_
    refine z_bipush (v := nI 97) dX8_word_24 (by decide) ?_
    refine z_bipush (v := nI 100) dX8_word_26 (by decide) ?_
    refine z_bipush (v := nI 100) dX8_word_28 (by decide) ?_
    refine z_iconst (v := nI 0) dX8_word_30 (by decide) ?_
    refine z_iconst (v := nI 0) dX8_word_31 (by decide) ?_
    have rq1 := ev_X8_reads_3 G ht he hse hen (a := 97) (b := 100) (c := 100) (by decide) (by decide) (by decide)
    rw [rd_1] at rq1
    refine z_cV6 dX8_word_32 lk_X8_175 (by decide) ⟨by decide, _, rfl⟩ rfl (Nat.le_of_ble_eq_true rfl) (rq1) ?_
    refine z_ifB_eq (tgt := 42) dX8_word_35 (by decide) (fun c35 => ?_) (fun c35 => ?_)
    · refine z_aload_n dX8_word_42 rfl ?_
      refine z_iload_n dX8_word_43 rfl ?_
      refine z_bipush (v := nI 109) dX8_word_44 (by decide) ?_
      refine z_bipush (v := nI 105) dX8_word_46 (by decide) ?_
      refine z_bipush (v := nI 110) dX8_word_48 (by decide) ?_
      refine z_bipush (v := nI 117) dX8_word_50 (by decide) ?_
      refine z_bipush (v := nI 115) dX8_word_52 (by decide) ?_
      have rq2 := ev_X8_reads_5 G ht he hse hen (a := 109) (b := 105) (c := 110) (d := 117) (f := 115) (by decide) (by decide) (by decide) (by decide) (by decide) (by decide)
      rw [rd_2] at rq2
      refine z_cV6 dX8_word_54 lk_X8_175 (by decide) ⟨by decide, _, rfl⟩ rfl (Nat.le_of_ble_eq_true rfl) (rq2) ?_
      refine z_ifB_eq (tgt := 64) dX8_word_57 (by decide) (fun c57 => ?_) (fun c57 => ?_)
      · refine z_aload_n dX8_word_64 rfl ?_
        refine z_iload_n dX8_word_65 rfl ?_
        refine z_bipush (v := nI 108) dX8_word_66 (by decide) ?_
        refine z_bipush (v := nI 97) dX8_word_68 (by decide) ?_
        refine z_bipush (v := nI 121) dX8_word_70 (by decide) ?_
        refine z_iconst (v := nI 0) dX8_word_72 (by decide) ?_
        refine z_iconst (v := nI 0) dX8_word_73 (by decide) ?_
        have rq3 := ev_X8_reads_3 G ht he hse hen (a := 108) (b := 97) (c := 121) (by decide) (by decide) (by decide)
        rw [rd_3] at rq3
        refine z_cV6 dX8_word_74 lk_X8_175 (by decide) ⟨by decide, _, rfl⟩ rfl (Nat.le_of_ble_eq_true rfl) (rq3) ?_
        refine z_ifB_eq (tgt := 84) dX8_word_77 (by decide) (fun c77 => ?_) (fun c77 => ?_)
        · refine z_aload_n dX8_word_84 rfl ?_
          refine z_iload_n dX8_word_85 rfl ?_
          refine z_bipush (v := nI 115) dX8_word_86 (by decide) ?_
          refine z_bipush (v := nI 112) dX8_word_88 (by decide) ?_
          refine z_bipush (v := nI 108) dX8_word_90 (by decide) ?_
          refine z_bipush (v := nI 105) dX8_word_92 (by decide) ?_
          refine z_bipush (v := nI 116) dX8_word_94 (by decide) ?_
          have rq4 := ev_X8_reads_5 G ht he hse hen (a := 115) (b := 112) (c := 108) (d := 105) (f := 116) (by decide) (by decide) (by decide) (by decide) (by decide) (by decide)
          rw [rd_4] at rq4
          refine z_cV6 dX8_word_96 lk_X8_175 (by decide) ⟨by decide, _, rfl⟩ rfl (Nat.le_of_ble_eq_true rfl) (rq4) ?_
          refine z_ifB_eq (tgt := 106) dX8_word_99 (by decide) (fun c99 => ?_) (fun c99 => ?_)
          · refine z_iconst (v := -1) dX8_word_106 (by decide) ?_
            exact z_ret (ty := none) (v := none) rfl dX8_word_107 ⟨by rw [show wdN T s e 5 = none by simp [wdN, c15, c35, c57, c77, c99]]; rfl, rfl⟩
          · refine z_iconst (v := nI 4) dX8_word_102 (by decide) ?_
            refine z_goto (tgt := 107) dX8_word_103 (by decide) ?_
            exact z_ret (ty := none) (v := none) rfl dX8_word_107 ⟨by rw [show wdN T s e 5 = some 4 by simp [wdN, c15, c35, c57, c77, c99]]; rfl, rfl⟩
        · refine z_iconst (v := nI 3) dX8_word_80 (by decide) ?_
          refine z_goto (tgt := 107) dX8_word_81 (by decide) ?_
          exact z_ret (ty := none) (v := none) rfl dX8_word_107 ⟨by rw [show wdN T s e 5 = some 3 by simp [wdN, c15, c35, c57, c77]]; rfl, rfl⟩
      · refine z_iconst (v := nI 2) dX8_word_60 (by decide) ?_
        refine z_goto (tgt := 107) dX8_word_61 (by decide) ?_
        exact z_ret (ty := none) (v := none) rfl dX8_word_107 ⟨by rw [show wdN T s e 5 = some 2 by simp [wdN, c15, c35, c57]]; rfl, rfl⟩
    · refine z_iconst (v := nI 1) dX8_word_38 (by decide) ?_
      refine z_goto (tgt := 107) dX8_word_39 (by decide) ?_
      exact z_ret (ty := none) (v := none) rfl dX8_word_107 ⟨by rw [show wdN T s e 5 = some 1 by simp [wdN, c15, c35]]; rfl, rfl⟩
  · refine z_iconst (v := nI 0) dX8_word_18 (by decide) ?_
    refine z_goto (tgt := 107) dX8_word_19 (by decide) ?_
    exact z_ret (ty := none) (v := none) rfl dX8_word_107 ⟨by rw [show wdN T s e 5 = some 0 by simp [wdN, c15]]; rfl, rfl⟩
set_option maxRecDepth 100000 in
theorem ev_X8_numbersOf (G : Gt) {i : Nat} {μ : Mm} (hi : i < 5) : EVr G 0 Y_X8_numbersOf [.int (nI i)] μ (.int (nI (wNum i))) := by
  refine ev_of (by decide) (Nat.le_of_ble_eq_true rfl) ?_
  show Zs G 0 Y_X8_numbersOf (fnN G _) 0 [(0, .int (nI i))] [] μ
  refine z_iload_n dX8_numbersOf_0 rfl ?_
  refine z_ifN_eq (tgt := 9) dX8_numbersOf_1 (by decide) (by omega) (fun c1 => ?_) (fun c1 => ?_)
  · refine z_iconst (v := nI 2) dX8_numbersOf_9 (by decide) ?_
    refine z_goto (tgt := 23) dX8_numbersOf_10 (by decide) ?_
    exact z_ret (ty := none) (v := none) rfl dX8_numbersOf_23 ⟨by rw [c1]; rfl, rfl⟩
  · refine z_iload_n dX8_numbersOf_4 rfl ?_
    refine z_iconst (v := nI 3) dX8_numbersOf_5 (by decide) ?_
    refine z_icmpN_ne (tgt := 13) dX8_numbersOf_6 (by decide) (by omega) (by omega) (fun c6 => ?_) (fun c6 => ?_)
    · refine z_iload_n dX8_numbersOf_13 rfl ?_
      refine z_iconst (v := nI 4) dX8_numbersOf_14 (by decide) ?_
      refine z_icmpN_ne (tgt := 22) dX8_numbersOf_15 (by decide) (by omega) (by omega) (fun c15 => ?_) (fun c15 => ?_)
      · refine z_iconst (v := nI 1) dX8_numbersOf_22 (by decide) ?_
        exact z_ret (ty := none) (v := none) rfl dX8_numbersOf_23 ⟨by rcases (show i = 1 ∨ i = 2 by omega) with q | q <;> rw [q] <;> rfl, rfl⟩
      · refine z_iconst (v := nI 0) dX8_numbersOf_18 (by decide) ?_
        refine z_goto (tgt := 23) dX8_numbersOf_19 (by decide) ?_
        exact z_ret (ty := none) (v := none) rfl dX8_numbersOf_23 ⟨by rw [c15]; rfl, rfl⟩
    · refine z_iconst (v := nI 2) dX8_numbersOf_9 (by decide) ?_
      refine z_goto (tgt := 23) dX8_numbersOf_10 (by decide) ?_
      exact z_ret (ty := none) (v := none) rfl dX8_numbersOf_23 ⟨by rw [c6]; rfl, rfl⟩
