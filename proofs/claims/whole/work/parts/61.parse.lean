def rcP (T : Nat → Nat) (n c : Nat) (μ : Mm) (v : Option Value) (u : Mm) : Prop := psF μ u ∧ match rcN T n c with
  | .inl o => v = some (.int (bI false)) ∧ ∀ p, o = some p → u.1 35 10 = nI p
  | .inr q => v = some (.int (bI true)) ∧ u.1 35 8 = nI q.2.2.2 ∧ u.1 35 9 = nI q.1 ∧ (1 ≤ wNum q.1 → u.2.1 39 0 = nI q.2.1) ∧ (2 ≤ wNum q.1 → u.2.1 39 1 = nI q.2.2.1) ∧ u.1 35 10 = μ.1 35 10
theorem rcP_n {T : Nat → Nat} {n c p : Nat} {μ u : Mm} {v : Option Value} (h : rcN T n c = .inl (some p)) (h1 : psF μ u) (h2 : v = some (.int (bI false))) (h3 : u.1 35 10 = nI p) : rcP T n c μ v u := by
  unfold rcP; rw [h]; exact ⟨h1, h2, fun p' e => by cases e; exact h3⟩
theorem rcP_s {T : Nat → Nat} {n c i x y c2 : Nat} {μ u : Mm} {v : Option Value} (h : rcN T n c = .inr (i, x, y, c2)) (h1 : psF μ u) (h2 : v = some (.int (bI true))) (h3 : u.1 35 8 = nI c2) (h4 : u.1 35 9 = nI i) (h5 : 1 ≤ wNum i → u.2.1 39 0 = nI x) (h6 : 2 ≤ wNum i → u.2.1 39 1 = nI y) (h7 : u.1 35 10 = μ.1 35 10) : rcP T n c μ v u := by
  unfold rcP; rw [h]; exact ⟨h1, h2, h3, h4, h5, h6, h7⟩
def tlP (T : Nat → Nat) (n p : Nat) (μ : Mm) (v : Option Value) (u : Mm) : Prop := psF μ u ∧ ((smN T n p = true ∧ v = some (.int (bI true)) ∧ u.1 35 8 = nI (skS T n p + 1) ∧ u.1 35 9 = μ.1 35 9 ∧ u.2.1 39 = μ.2.1 39 ∧ u.1 35 10 = μ.1 35 10) ∨ (smN T n p = false ∧ v = some (.int (bI false)) ∧ u.1 35 10 = nI (skS T n p)))
theorem ev_nums (G : Gt) {i v : Nat} {μ : Mm} (hi : i < 5) (hd : wNum i = v) : EVr G 0 Y_X8_numbersOf [.int (nI i)] μ (.int (nI v)) := by subst hd; exact ev_X8_numbersOf G hi
theorem rcP_t {T : Nat → Nat} {n c i x y p : Nat} {μ u u2 : Mm} {v : Option Value} (h : rcN T n c = if smN T n p then .inr (i, x, y, skS T n p + 1) else .inl (some (skS T n p))) (h1 : psF μ u) (h4 : u.1 35 9 = nI i) (h5 : 1 ≤ wNum i → u.2.1 39 0 = nI x) (h6 : 2 ≤ wNum i → u.2.1 39 1 = nI y) (h7 : u.1 35 10 = μ.1 35 10) (ht : tlP T n p u v u2) : rcP T n c μ v u2 := by
  obtain ⟨q, ⟨a1, a2, a3, a4, a5, a6⟩ | ⟨a1, a2, a3⟩⟩ := ht
  · rw [a1, if_pos rfl] at h
    exact rcP_s h (h1.trans q) a2 a3 (a4.trans h4) (fun e => by rw [a5]; exact h5 e) (fun e => by rw [a5]; exact h6 e) (a6.trans h7)
  · rw [a1] at h
    exact rcP_n (by rw [h]; rfl) (h1.trans q) a2 a3
set_option maxRecDepth 100000 in
theorem tl_X8_readsCommand (G : Gt) {n : Nat} {T : Nat → Nat} {μ : Mm} (ht : mtOK μ n T) {p : Nat} (hp : μ.1 35 8 = nI p) (hpn : p ≤ n) : Zs G 3 Y_X8_readsCommand (fnN G (tlP T n p μ)) 84 [(0, rf G 35)] [] μ := by
  have hn := ht.2.1
  have hT : ∀ j, j < n → T j < 128 := fun j hj => (ht.2.2 j hj).2
  have hsk : skS T n p ≤ n := scL_le (g := fun k => isSp (T k)) (n - p) p hpn
  refine z_aload_n dX8_readsCommand_84 rfl ?_
  refine z_cV0v dX8_readsCommand_85 lk_X8_182 (by decide) ⟨by decide, _, rfl⟩ rfl (Nat.le_of_ble_eq_true rfl) (ev_X8_skips G ht hp hpn) ?_
  refine z_aload_n dX8_readsCommand_88 rfl ?_
  refine z_cV0 dX8_readsCommand_89 lk_X8_169 (by decide) ⟨by decide, _, rfl⟩ rfl (Nat.le_of_ble_eq_true rfl) (ev_X8_here G (c := skS T n p) (ht.p (psF.rf.u8 _)) (uF_s _ _ _ _) (by omega)) ?_
  refine z_bipush (v := nI 59) dX8_readsCommand_92 (by decide) ?_
  refine z_icmp_eq (tgt := 106) dX8_readsCommand_94 (by decide) (fun c94 => ?_) (fun c94 => ?_)
  · have e1 := (pkn_eq hT (by decide)).mp c94
    refine z_aload_n dX8_readsCommand_106 rfl ?_
    refine z_dup dX8_readsCommand_107 rfl ?_
    refine z_getI dX8_readsCommand_108 fl_X8_166 ⟨by decide, _, rfl, rfl⟩ (uF_s _ _ _ _) ?_
    refine z_iconst (v := nI 1) dX8_readsCommand_111 (by decide) ?_
    refine z_iaddN dX8_readsCommand_112 ?_
    refine z_putI dX8_readsCommand_113 fp_X8_166 ⟨by decide, _, rfl, rfl⟩ ?_
    refine z_iconst (v := nI 1) dX8_readsCommand_116 (by decide) ?_
    exact z_zret rfl rfl dX8_readsCommand_117 ⟨(psF.rf.u8 _).u8 _, Or.inl ⟨by unfold smN; rw [decide_eq_true e1.1, decide_eq_true e1.2]; rfl, rfl, uF_s _ _ _ _, rfl, rfl, rfl⟩⟩
  · have e1 : smN T n p = false := by
      cases q : smN T n p with
      | false => rfl
      | true => unfold smN at q; rw [Bool.and_eq_true, decide_eq_true_eq, decide_eq_true_eq] at q; exact absurd ((pkn_eq hT (by decide)).mpr q) c94
    refine z_aload_n dX8_readsCommand_97 rfl ?_
    refine z_aload_n dX8_readsCommand_98 rfl ?_
    refine z_getI dX8_readsCommand_99 fl_X8_166 ⟨by decide, _, rfl, rfl⟩ (uF_s _ _ _ _) ?_
    refine z_cV1w dX8_readsCommand_102 lk_X8_179 (by decide) ⟨by decide, _, rfl⟩ rfl (Nat.le_of_ble_eq_true rfl) (ev_X8_fails G) ?_
    exact z_zret rfl rfl dX8_readsCommand_105 ⟨(psF.rf.u8 _).u10 _, Or.inr ⟨e1, rfl, uF_s _ _ _ _⟩⟩
set_option maxRecDepth 100000 in
theorem lp_X8_readsCommand (G : Gt) {n c : Nat} {T : Nat → Nat} {μ0 : Mm} {F : Fn} (h0 : mtOK μ0 n T) : ∀ (f d : Nat), n - d = f → d ≤ n → Zs G 3 Y_X8_readsCommand F 32 [(0, rf G 35), (1, .int (nI c))] [] (uF μ0 35 8 (nI (scL (fun k => isLt (T k)) n f d))) →
    Zs G 3 Y_X8_readsCommand F 5 [(0, rf G 35), (1, .int (nI c))] [] (uF μ0 35 8 (nI d)) := by
  intro f
  have hn := h0.2.1
  have hT : ∀ j, j < n → T j < 128 := fun j hj => (h0.2.2 j hj).2
  induction f with
  | zero =>
    intro d hf hd hk
    have h := h0.p (psF.rf.u8 (nI d))
    have hlt := ev_X8_lt G (n := n) (c := d) (μ := uF μ0 35 8 (nI d)) hT
    rw [decide_eq_false (show ¬ d < n by omega), Bool.false_and] at hlt
    refine z_aload_n dX8_readsCommand_5 rfl ?_
    refine z_cV0 dX8_readsCommand_6 lk_X8_169 (by decide) ⟨by decide, _, rfl⟩ rfl (Nat.le_of_ble_eq_true rfl) (ev_X8_here G h (uF_s _ _ _ _) (by omega)) ?_
    refine z_bipush (v := nI 97) dX8_readsCommand_9 (by decide) ?_
    refine z_bipush (v := nI 122) dX8_readsCommand_11 (by decide) ?_
    refine z_cS3 dX8_readsCommand_13 lk_X8_60 (by decide) (Nat.le_of_ble_eq_true rfl) (hlt) ?_
    refine z_ifB_eq (tgt := 32) dX8_readsCommand_16 (by decide) (fun c16 => ?_) (fun c16 => absurd c16 (by decide))
    exact hk
  | succ f ih =>
    intro d hf hd hk
    have h := h0.p (psF.rf.u8 (nI d))
    have hdn : d < n := by omega
    have hlt := ev_X8_lt G (n := n) (c := d) (μ := uF μ0 35 8 (nI d)) hT
    rw [decide_eq_true hdn, Bool.true_and] at hlt
    refine z_aload_n dX8_readsCommand_5 rfl ?_
    refine z_cV0 dX8_readsCommand_6 lk_X8_169 (by decide) ⟨by decide, _, rfl⟩ rfl (Nat.le_of_ble_eq_true rfl) (ev_X8_here G h (uF_s _ _ _ _) (by omega)) ?_
    refine z_bipush (v := nI 97) dX8_readsCommand_9 (by decide) ?_
    refine z_bipush (v := nI 122) dX8_readsCommand_11 (by decide) ?_
    refine z_cS3 dX8_readsCommand_13 lk_X8_60 (by decide) (Nat.le_of_ble_eq_true rfl) (hlt) ?_
    refine z_ifB_eq (tgt := 32) dX8_readsCommand_16 (by decide) (fun c16 => ?_) (fun c16 => ?_)
    · rw [scL_out (by rw [c16]; simp)] at hk
      exact hk
    · refine z_aload_n dX8_readsCommand_19 rfl ?_
      refine z_dup dX8_readsCommand_20 rfl ?_
      refine z_getI dX8_readsCommand_21 fl_X8_166 ⟨by decide, _, rfl, rfl⟩ (uF_s _ _ _ _) ?_
      refine z_iconst (v := nI 1) dX8_readsCommand_24 (by decide) ?_
      refine z_iaddN dX8_readsCommand_25 ?_
      refine z_putI dX8_readsCommand_26 fp_X8_166 ⟨by decide, _, rfl, rfl⟩ ?_
      rw [uF_uF]
      refine z_goto (tgt := 5) dX8_readsCommand_29 (by decide) ?_
      rw [show scL (fun k => isLt (T k)) n (f + 1) d = scL (fun k => isLt (T k)) n f (d + 1) from if_pos ⟨hdn, c16⟩] at hk
      exact ih (d + 1) (by omega) (by omega) hk
set_option maxRecDepth 100000 in
theorem nb_X8_readsCommand (G : Gt) {n : Nat} {T : Nat → Nat} {μ : Mm} (ht : mtOK μ n T) {c i : Nat} (hcn : c ≤ n) (h1 : skS T n c < n) (hi : i < 5) (hw : wdN T (skS T n c) (ltS T n (skS T n c)) 5 = some i) : Zs G 3 Y_X8_readsCommand (fnN G (rcP T n c μ)) 57 [(0, rf G 35), (2, .int (nI 0))] [] (uF (uF μ 35 8 (nI (ltS T n (skS T n c)))) 35 9 (nI i)) := by
  have hn := ht.2.1
  have hle : ltS T n (skS T n c) ≤ n := scL_le (g := fun k => isLt (T k)) (n - skS T n c) (skS T n c) (by omega)
  have hwl := wNum_le i
  have hp0 : psF μ (uF (uF μ 35 8 (nI (ltS T n (skS T n c)))) 35 9 (nI i)) := (psF.rf.u8 _).u9 _
  have h8 : (uF (uF μ 35 8 (nI (ltS T n (skS T n c)))) 35 9 (nI i)).1 35 8 = nI (ltS T n (skS T n c)) := (uF_n _ _ (by omega)).trans (uF_s _ _ _ _)
  have h9 : (uF (uF μ 35 8 (nI (ltS T n (skS T n c)))) 35 9 (nI i)).1 35 9 = nI i := uF_s _ _ _ _
  have h10 : (uF (uF μ 35 8 (nI (ltS T n (skS T n c)))) 35 9 (nI i)).1 35 10 = μ.1 35 10 := (uF_n _ _ (by omega)).trans (uF_n _ _ (by omega))
  have hnd := ht.p hp0
  generalize (uF (uF μ 35 8 (nI (ltS T n (skS T n c)))) 35 9 (nI i)) = m at hp0 h8 h9 h10 hnd ⊢
  rcases hd : wNum i with _ | d
  · refine z_iload_n dX8_readsCommand_57 rfl ?_
    refine z_aload_n dX8_readsCommand_58 rfl ?_
    refine z_getI dX8_readsCommand_59 fl_X8_188 ⟨by decide, _, rfl, rfl⟩ h9 ?_
    refine z_cS1 dX8_readsCommand_62 lk_X8_191 (by decide) (Nat.le_of_ble_eq_true rfl) (ev_nums G hi (show wNum i = 0 by omega)) ?_
    refine z_icmpN_ge (tgt := 84) dX8_readsCommand_65 (by decide) (by omega) (by omega) (fun c65 => ?_) (fun c65 => absurd c65 (by omega))
    refine z_sub (lv' := [(0, _)]) rfl ?_
    refine Zs.post ?_ (tl_X8_readsCommand G hnd h8 hle)
    intro v u2 hu2
    exact rcP_t (rc_0 h1 hw hd rfl) hp0 h9 (fun q => by omega) (fun q => by omega) h10 hu2
  · rcases hm : mnN T n (ltS T n (skS T n c)) with ⟨_ | x, p⟩
    · refine z_iload_n dX8_readsCommand_57 rfl ?_
      refine z_aload_n dX8_readsCommand_58 rfl ?_
      refine z_getI dX8_readsCommand_59 fl_X8_188 ⟨by decide, _, rfl, rfl⟩ h9 ?_
      refine z_cS1 dX8_readsCommand_62 lk_X8_191 (by decide) (Nat.le_of_ble_eq_true rfl) (ev_nums G hi (show wNum i = (d + 1) by omega)) ?_
      refine z_icmpN_ge (tgt := 84) dX8_readsCommand_65 (by decide) (by omega) (by omega) (fun c65 => absurd c65 (by omega)) (fun c65 => ?_)
      refine z_aload_n dX8_readsCommand_68 rfl ?_
      refine z_iload_n dX8_readsCommand_69 rfl ?_
      refine z_cV1g dX8_readsCommand_70 lk_X8_194 (by decide) ⟨by decide, _, rfl⟩ rfl (Nat.le_of_ble_eq_true rfl) (ev_X8_number G hnd h8 hle (k := 0) (by decide)) ?_
      intro v u hq
      obtain ⟨q1, rfl, q3⟩ := nmP_n' hm hq
      refine z_ifB_ne (tgt := 78) dX8_readsCommand_73 (by decide) (fun c73 => absurd c73 (by decide)) (fun c73 => ?_)
      refine z_iconst (v := nI 0) dX8_readsCommand_76 (by decide) ?_
      exact z_zret rfl rfl dX8_readsCommand_77 (rcP_n (rc_n1 h1 hw (by omega) hm) (hp0.trans q1) rfl q3)
    · have hpn : p ≤ n := by have q := nm_le (T := T) hle; rw [mn_s hm] at q; exact q
      rcases hd2 : d with _ | d2
      · subst hd2
        have hd1 : wNum i = 1 := hd
        refine z_iload_n dX8_readsCommand_57 rfl ?_
        refine z_aload_n dX8_readsCommand_58 rfl ?_
        refine z_getI dX8_readsCommand_59 fl_X8_188 ⟨by decide, _, rfl, rfl⟩ h9 ?_
        refine z_cS1 dX8_readsCommand_62 lk_X8_191 (by decide) (Nat.le_of_ble_eq_true rfl) (ev_nums G hi (show wNum i = (0 + 1) by omega)) ?_
        refine z_icmpN_ge (tgt := 84) dX8_readsCommand_65 (by decide) (by omega) (by omega) (fun c65 => absurd c65 (by omega)) (fun c65 => ?_)
        refine z_aload_n dX8_readsCommand_68 rfl ?_
        refine z_iload_n dX8_readsCommand_69 rfl ?_
        refine z_cV1g dX8_readsCommand_70 lk_X8_194 (by decide) ⟨by decide, _, rfl⟩ rfl (Nat.le_of_ble_eq_true rfl) (ev_X8_number G hnd h8 hle (k := 0) (by decide)) ?_
        intro v u hq
        obtain ⟨q1, rfl, q3, q4, q5, q6, q7⟩ := nmP_s' hm hq
        refine z_ifB_ne (tgt := 78) dX8_readsCommand_73 (by decide) (fun c73 => ?_) (fun c73 => absurd c73 (by decide))
        refine z_iinc (v := nI (0 + 1)) (lv' := [(2, _), (0, _)]) dX8_readsCommand_78 rfl (nI_inc _ 1) (by decide) rfl ?_
        refine z_goto (tgt := 57) dX8_readsCommand_81 (by decide) ?_
        refine z_iload_n dX8_readsCommand_57 rfl ?_
        refine z_aload_n dX8_readsCommand_58 rfl ?_
        refine z_getI dX8_readsCommand_59 fl_X8_188 ⟨by decide, _, rfl, rfl⟩ (q7.trans h9) ?_
        refine z_cS1 dX8_readsCommand_62 lk_X8_191 (by decide) (Nat.le_of_ble_eq_true rfl) (ev_nums G hi (show wNum i = (0 + 1) by omega)) ?_
        refine z_icmpN_ge (tgt := 84) dX8_readsCommand_65 (by decide) (by omega) (by omega) (fun c65 => ?_) (fun c65 => absurd c65 (by omega))
        refine z_sub (lv' := [(0, _)]) rfl ?_
        refine Zs.post ?_ (tl_X8_readsCommand G (hnd.p q1) q3 hpn)
        intro v u2 hu2
        exact rcP_t (rc_1 h1 hw hd1 hm) (hp0.trans q1) (q7.trans h9) (fun _ => q4) (fun q => by omega) (q6.trans h10) hu2
      · subst hd2
        have hd2 : wNum i = 2 := by omega
        rw [show d2 + 1 + 1 = 2 by omega] at hd
        rcases hm2 : mnN T n p with ⟨_ | y, p2⟩
        · refine z_iload_n dX8_readsCommand_57 rfl ?_
          refine z_aload_n dX8_readsCommand_58 rfl ?_
          refine z_getI dX8_readsCommand_59 fl_X8_188 ⟨by decide, _, rfl, rfl⟩ h9 ?_
          refine z_cS1 dX8_readsCommand_62 lk_X8_191 (by decide) (Nat.le_of_ble_eq_true rfl) (ev_nums G hi (show wNum i = 2 by omega)) ?_
          refine z_icmpN_ge (tgt := 84) dX8_readsCommand_65 (by decide) (by omega) (by omega) (fun c65 => absurd c65 (by omega)) (fun c65 => ?_)
          refine z_aload_n dX8_readsCommand_68 rfl ?_
          refine z_iload_n dX8_readsCommand_69 rfl ?_
          refine z_cV1g dX8_readsCommand_70 lk_X8_194 (by decide) ⟨by decide, _, rfl⟩ rfl (Nat.le_of_ble_eq_true rfl) (ev_X8_number G hnd h8 hle (k := 0) (by decide)) ?_
          intro v u hq
          obtain ⟨q1, rfl, q3, q4, q5, q6, q7⟩ := nmP_s' hm hq
          refine z_ifB_ne (tgt := 78) dX8_readsCommand_73 (by decide) (fun c73 => ?_) (fun c73 => absurd c73 (by decide))
          refine z_iinc (v := nI (0 + 1)) (lv' := [(2, _), (0, _)]) dX8_readsCommand_78 rfl (nI_inc _ 1) (by decide) rfl ?_
          refine z_goto (tgt := 57) dX8_readsCommand_81 (by decide) ?_
          refine z_iload_n dX8_readsCommand_57 rfl ?_
          refine z_aload_n dX8_readsCommand_58 rfl ?_
          refine z_getI dX8_readsCommand_59 fl_X8_188 ⟨by decide, _, rfl, rfl⟩ (q7.trans h9) ?_
          refine z_cS1 dX8_readsCommand_62 lk_X8_191 (by decide) (Nat.le_of_ble_eq_true rfl) (ev_nums G hi (show wNum i = 2 by omega)) ?_
          refine z_icmpN_ge (tgt := 84) dX8_readsCommand_65 (by decide) (by omega) (by omega) (fun c65 => absurd c65 (by omega)) (fun c65 => ?_)
          refine z_aload_n dX8_readsCommand_68 rfl ?_
          refine z_iload_n dX8_readsCommand_69 rfl ?_
          refine z_cV1g dX8_readsCommand_70 lk_X8_194 (by decide) ⟨by decide, _, rfl⟩ rfl (Nat.le_of_ble_eq_true rfl) (ev_X8_number G (hnd.p q1) q3 hpn (k := 0 + 1) (by decide)) ?_
          intro v u2 hq2
          obtain ⟨r1, rfl, r3⟩ := nmP_n' hm2 hq2
          refine z_ifB_ne (tgt := 78) dX8_readsCommand_73 (by decide) (fun c73 => absurd c73 (by decide)) (fun c73 => ?_)
          refine z_iconst (v := nI 0) dX8_readsCommand_76 (by decide) ?_
          exact z_zret rfl rfl dX8_readsCommand_77 (rcP_n (rc_n2 h1 hw hd2 hm hm2) ((hp0.trans q1).trans r1) rfl r3)
        · refine z_iload_n dX8_readsCommand_57 rfl ?_
          have hp2n : p2 ≤ n := by have q := nm_le (T := T) hpn; rw [mn_s hm2] at q; exact q
          refine z_aload_n dX8_readsCommand_58 rfl ?_
          refine z_getI dX8_readsCommand_59 fl_X8_188 ⟨by decide, _, rfl, rfl⟩ h9 ?_
          refine z_cS1 dX8_readsCommand_62 lk_X8_191 (by decide) (Nat.le_of_ble_eq_true rfl) (ev_nums G hi (show wNum i = 2 by omega)) ?_
          refine z_icmpN_ge (tgt := 84) dX8_readsCommand_65 (by decide) (by omega) (by omega) (fun c65 => absurd c65 (by omega)) (fun c65 => ?_)
          refine z_aload_n dX8_readsCommand_68 rfl ?_
          refine z_iload_n dX8_readsCommand_69 rfl ?_
          refine z_cV1g dX8_readsCommand_70 lk_X8_194 (by decide) ⟨by decide, _, rfl⟩ rfl (Nat.le_of_ble_eq_true rfl) (ev_X8_number G hnd h8 hle (k := 0) (by decide)) ?_
          intro v u hq
          obtain ⟨q1, rfl, q3, q4, q5, q6, q7⟩ := nmP_s' hm hq
          refine z_ifB_ne (tgt := 78) dX8_readsCommand_73 (by decide) (fun c73 => ?_) (fun c73 => absurd c73 (by decide))
          refine z_iinc (v := nI (0 + 1)) (lv' := [(2, _), (0, _)]) dX8_readsCommand_78 rfl (nI_inc _ 1) (by decide) rfl ?_
          refine z_goto (tgt := 57) dX8_readsCommand_81 (by decide) ?_
          refine z_iload_n dX8_readsCommand_57 rfl ?_
          refine z_aload_n dX8_readsCommand_58 rfl ?_
          refine z_getI dX8_readsCommand_59 fl_X8_188 ⟨by decide, _, rfl, rfl⟩ (q7.trans h9) ?_
          refine z_cS1 dX8_readsCommand_62 lk_X8_191 (by decide) (Nat.le_of_ble_eq_true rfl) (ev_nums G hi (show wNum i = 2 by omega)) ?_
          refine z_icmpN_ge (tgt := 84) dX8_readsCommand_65 (by decide) (by omega) (by omega) (fun c65 => absurd c65 (by omega)) (fun c65 => ?_)
          refine z_aload_n dX8_readsCommand_68 rfl ?_
          refine z_iload_n dX8_readsCommand_69 rfl ?_
          refine z_cV1g dX8_readsCommand_70 lk_X8_194 (by decide) ⟨by decide, _, rfl⟩ rfl (Nat.le_of_ble_eq_true rfl) (ev_X8_number G (hnd.p q1) q3 hpn (k := 0 + 1) (by decide)) ?_
          intro v u2 hq2
          obtain ⟨r1, rfl, r3, r4, r5, r6, r7⟩ := nmP_s' hm2 hq2
          refine z_ifB_ne (tgt := 78) dX8_readsCommand_73 (by decide) (fun c73 => ?_) (fun c73 => absurd c73 (by decide))
          refine z_iinc (v := nI (0 + 1 + 1)) (lv' := [(2, _), (0, _)]) dX8_readsCommand_78 rfl (nI_inc _ 1) (by decide) rfl ?_
          refine z_goto (tgt := 57) dX8_readsCommand_81 (by decide) ?_
          refine z_iload_n dX8_readsCommand_57 rfl ?_
          refine z_aload_n dX8_readsCommand_58 rfl ?_
          refine z_getI dX8_readsCommand_59 fl_X8_188 ⟨by decide, _, rfl, rfl⟩ (r7.trans (q7.trans h9)) ?_
          refine z_cS1 dX8_readsCommand_62 lk_X8_191 (by decide) (Nat.le_of_ble_eq_true rfl) (ev_nums G hi (show wNum i = 2 by omega)) ?_
          refine z_icmpN_ge (tgt := 84) dX8_readsCommand_65 (by decide) (by omega) (by omega) (fun c65 => ?_) (fun c65 => absurd c65 (by omega))
          refine z_sub (lv' := [(0, _)]) rfl ?_
          refine Zs.post ?_ (tl_X8_readsCommand G ((hnd.p q1).p r1) r3 hp2n)
          intro v u2 hu2
          exact rcP_t (rc_2 h1 hw hd2 hm hm2) ((hp0.trans q1).trans r1) (r7.trans (q7.trans h9)) (fun _ => (r5 0 (by decide)).trans q4) (fun _ => r4) (r6.trans (q6.trans h10)) hu2
set_option maxRecDepth 100000 in
theorem ev_X8_readsCommand (G : Gt) {n : Nat} {T : Nat → Nat} {μ : Mm} (ht : mtOK μ n T) {c : Nat} (hcn : c ≤ n) (hc : μ.1 35 8 = nI (skS T n c)) (h1 : skS T n c < n) : EV G 3 Y_X8_readsCommand [rf G 35] μ (rcP T n c μ) := by
  have hn := ht.2.1
  have hle : ltS T n (skS T n c) ≤ n := scL_le (g := fun k => isLt (T k)) (n - skS T n c) (skS T n c) (by omega)
  have hge : skS T n c ≤ ltS T n (skS T n c) := scL_ge _ _ _ _
  refine ev_of (by decide) (Nat.le_of_ble_eq_true rfl) ?_
  show Zs G 3 Y_X8_readsCommand (fnN G _) 0 [(0, rf G 35)] [] μ
  refine z_aload_n dX8_readsCommand_0 rfl ?_
  refine z_getI dX8_readsCommand_1 fl_X8_166 ⟨by decide, _, rfl, rfl⟩ hc ?_
  refine z_istore_n (lv' := [(1, _), (0, _)]) dX8_readsCommand_4 rfl (by decide) rfl ?_
  refine z_sub (lv' := [(0, _), (1, _)]) rfl ?_
  have q := lp_X8_readsCommand G (c := skS T n c) (F := fnN G (rcP T n c μ)) ht (n - skS T n c) (skS T n c) rfl (by omega) ?_
  · rw [uF_id hc] at q; exact q
  · show Zs G 3 Y_X8_readsCommand _ 32 _ [] (uF μ 35 8 (nI (ltS T n (skS T n c))))
    have hwd := ev_X8_word G (s := skS T n c) (e := (ltS T n (skS T n c))) (ht.p (psF.rf.u8 (nI (ltS T n (skS T n c))))) (uF_s _ _ _ _) hge hle
    rcases hw : wdN T (skS T n c) (ltS T n (skS T n c)) 5 with _ | i
    · rw [hw] at hwd
      refine z_aload_n dX8_readsCommand_32 rfl ?_
      refine z_aload_n dX8_readsCommand_33 rfl ?_
      refine z_iload_n dX8_readsCommand_34 rfl ?_
      refine z_cV1 dX8_readsCommand_35 lk_X8_185 (by decide) ⟨by decide, _, rfl⟩ rfl (Nat.le_of_ble_eq_true rfl) (hwd) ?_
      refine z_putI dX8_readsCommand_38 fp_X8_188 ⟨by decide, _, rfl, rfl⟩ ?_
      refine z_aload_n dX8_readsCommand_41 rfl ?_
      refine z_getI dX8_readsCommand_42 fl_X8_188 ⟨by decide, _, rfl, rfl⟩ (uF_s _ _ _ _) ?_
      refine z_iconst (v := -1) dX8_readsCommand_45 (by decide) ?_
      refine z_icmp_ne (tgt := 55) dX8_readsCommand_46 (by decide) (fun c46 => absurd rfl c46) (fun c46 => ?_)
      refine z_aload_n dX8_readsCommand_49 rfl ?_
      refine z_iload_n dX8_readsCommand_50 rfl ?_
      refine z_cV1w dX8_readsCommand_51 lk_X8_179 (by decide) ⟨by decide, _, rfl⟩ rfl (Nat.le_of_ble_eq_true rfl) (ev_X8_fails G) ?_
      exact z_zret rfl rfl dX8_readsCommand_54 (rcP_n (rc_w h1 hw) (((psF.rf.u8 _).u9 _).u10 _) rfl (uF_s _ _ _ _))
    · rw [hw] at hwd
      have hi := wdN_lt hw
      refine z_aload_n dX8_readsCommand_32 rfl ?_
      refine z_aload_n dX8_readsCommand_33 rfl ?_
      refine z_iload_n dX8_readsCommand_34 rfl ?_
      refine z_cV1 dX8_readsCommand_35 lk_X8_185 (by decide) ⟨by decide, _, rfl⟩ rfl (Nat.le_of_ble_eq_true rfl) (hwd) ?_
      refine z_putI dX8_readsCommand_38 fp_X8_188 ⟨by decide, _, rfl, rfl⟩ ?_
      refine z_aload_n dX8_readsCommand_41 rfl ?_
      refine z_getI dX8_readsCommand_42 fl_X8_188 ⟨by decide, _, rfl, rfl⟩ (uF_s _ _ _ _) ?_
      refine z_iconst (v := -1) dX8_readsCommand_45 (by decide) ?_
      refine z_icmp_ne (tgt := 55) dX8_readsCommand_46 (by decide) (fun c46 => ?_) (fun c46 => absurd c46 (nI_m1 (by omega)))
      refine z_iconst (v := nI 0) dX8_readsCommand_55 (by decide) ?_
      refine z_istore_n (lv' := [(2, _), (0, _), (1, _)]) dX8_readsCommand_56 rfl (by decide) rfl ?_
      refine z_sub (lv' := [(0, _), (2, _)]) rfl ?_
      exact nb_X8_readsCommand G ht hcn h1 hi hw
theorem rcN_nn {T : Nat → Nat} {n c : Nat} (h : skS T n c < n) : rcN T n c ≠ .inl none := by
  unfold rcN
  rw [if_pos h]
  rcases wrN T n (skS T n c) with _ | i
  · simp
  · simp only
    rcases nbN T n (wNum i) (ltS T n (skS T n c)) with ⟨_ | ⟨x, y⟩, p⟩
    · simp
    · simp only
      split <;> simp
theorem ff_out {T : Nat → Nat} {n c f : Nat} (h : n ≤ skS T n c) : ffL T n f c = none := by
  cases f with
  | zero => rfl
  | succ f => unfold ffL; rw [rcN_e h]
set_option maxRecDepth 100000 in
theorem lp_X8_findsFault (G : Gt) {n : Nat} {T : Nat → Nat} {μ0 : Mm} (h0 : mtOK μ0 n T) : ∀ (f k c : Nat) (μ : Mm), k + f = 150 → k ≤ c → c ≤ n → psF μ0 μ → μ.1 35 8 = nI (skS T n c) → μ.1 35 10 = -1 →
    Zs G 4 Y_X8_findsFault (fnN G (fun v u => psF μ0 u ∧ v = some (.int (oI (ffL T n f c))) ∧ u.1 35 10 = oI (ffL T n f c))) 14 [(0, rf G 35)] [] μ := by
  intro f
  have hn := h0.2.1
  induction f with
  | zero =>
    intro k c μ hf hkc hcn hp h8 h10
    have h := h0.p hp
    have hge := scL_ge (fun k => isSp (T k)) n (n - c) c
    have hge : c ≤ skS T n c := hge
    have hle : skS T n c ≤ n := scL_le (g := fun k => isSp (T k)) (n - c) c hcn
    refine z_aload_n dX8_findsFault_14 rfl ?_
    refine z_getI dX8_findsFault_15 fl_X8_166 ⟨by decide, _, rfl, rfl⟩ h8 ?_
    refine z_aload_n dX8_findsFault_18 rfl ?_
    refine z_getI dX8_findsFault_19 fl_X8_149 ⟨by decide, _, rfl, rfl⟩ h.1 ?_
    refine z_icmpN_ge (tgt := 39) dX8_findsFault_22 (by decide) (by omega) (by omega) (fun c22 => ?_) (fun c22 => absurd c22 (by omega))
    refine z_aload_n dX8_findsFault_39 rfl ?_
    refine z_getI dX8_findsFault_40 fl_X8_172 ⟨by decide, _, rfl, rfl⟩ h10 ?_
    exact z_ret (ty := none) (v := none) rfl dX8_findsFault_43 ⟨hp, rfl, h10⟩
  | succ f ih =>
    intro k c μ hf hkc hcn hp h8 h10
    have h := h0.p hp
    have hge := scL_ge (fun k => isSp (T k)) n (n - c) c
    have hge : c ≤ skS T n c := hge
    have hle : skS T n c ≤ n := scL_le (g := fun k => isSp (T k)) (n - c) c hcn
    refine z_aload_n dX8_findsFault_14 rfl ?_
    refine z_getI dX8_findsFault_15 fl_X8_166 ⟨by decide, _, rfl, rfl⟩ h8 ?_
    refine z_aload_n dX8_findsFault_18 rfl ?_
    refine z_getI dX8_findsFault_19 fl_X8_149 ⟨by decide, _, rfl, rfl⟩ h.1 ?_
    refine z_icmpN_ge (tgt := 39) dX8_findsFault_22 (by decide) (by omega) (by omega) (fun c22 => ?_) (fun c22 => ?_)
    · refine z_aload_n dX8_findsFault_39 rfl ?_
      refine z_getI dX8_findsFault_40 fl_X8_172 ⟨by decide, _, rfl, rfl⟩ h10 ?_
      exact z_ret (ty := none) (v := none) rfl dX8_findsFault_43 ⟨hp, by rw [ff_out c22]; rfl, by rw [ff_out c22]; exact h10⟩
    · refine z_aload_n dX8_findsFault_25 rfl ?_
      refine z_cV0g dX8_findsFault_26 lk_X8_197 (by decide) ⟨by decide, _, rfl⟩ rfl (Nat.le_of_ble_eq_true rfl) (ev_X8_readsCommand G h hcn h8 c22) ?_
      rintro v u ⟨hq, hq2⟩
      rcases hr : rcN T n c with o | q
      · rw [hr] at hq2
        obtain ⟨rfl, hq3⟩ := hq2
        rcases ho : o with _ | p
        · exact absurd (by rw [hr, ho]) (rcN_nn c22)
        · have hq4 := hq3 p ho
          rw [show ffL T n (f + 1) c = some p by unfold ffL; rw [hr]; exact ho]
          refine z_ifB_eq (tgt := 39) dX8_findsFault_29 (by decide) (fun c29 => ?_) (fun c29 => absurd c29 (by decide))
          refine z_aload_n dX8_findsFault_39 rfl ?_
          refine z_getI dX8_findsFault_40 fl_X8_172 ⟨by decide, _, rfl, rfl⟩ hq4 ?_
          exact z_ret (ty := none) (v := none) rfl dX8_findsFault_43 ⟨hp.trans hq, rfl, hq4⟩
      · rw [hr] at hq2
        obtain ⟨rfl, r8, r9, -, -, r10⟩ := hq2
        obtain ⟨i, x, y, c2⟩ := q
        have hrf := rc_facts hcn hr
        rw [show ffL T n (f + 1) c = ffL T n f c2 by show (match rcN T n c with | .inl o => o | .inr q => ffL T n f q.2.2.2) = _; rw [hr]]
        refine z_ifB_eq (tgt := 39) dX8_findsFault_29 (by decide) (fun c29 => absurd c29 (by decide)) (fun c29 => ?_)
        refine z_aload_n dX8_findsFault_32 rfl ?_
        refine z_cV0v dX8_findsFault_33 lk_X8_182 (by decide) ⟨by decide, _, rfl⟩ rfl (Nat.le_of_ble_eq_true rfl) (ev_X8_skips G (h.p hq) r8 hrf.2.2.2.2) ?_
        refine z_goto (tgt := 14) dX8_findsFault_36 (by decide) ?_
        exact ih (k + 1) c2 _ (by omega) (by omega) hrf.2.2.2.2 ((hp.trans hq).u8 _) (uF_s _ _ _ _) ((uF_n _ _ (by omega)).trans (r10.trans h10))
set_option maxRecDepth 100000 in
theorem ev_X8_findsFault (G : Gt) {n : Nat} {T : Nat → Nat} {μ : Mm} (ht : mtOK μ n T) : EV G 4 Y_X8_findsFault [rf G 35] μ (fun v u => psF μ u ∧ v = some (.int (oI (ffL T n 150 0))) ∧ u.1 35 10 = oI (ffL T n 150 0)) := by
  have hn := ht.2.1
  refine ev_of (by decide) (Nat.le_of_ble_eq_true rfl) ?_
  show Zs G 4 Y_X8_findsFault (fnN G _) 0 [(0, rf G 35)] [] μ
  refine z_aload_n dX8_findsFault_0 rfl ?_
  refine z_iconst (v := nI 0) dX8_findsFault_1 (by decide) ?_
  refine z_putI dX8_findsFault_2 fp_X8_166 ⟨by decide, _, rfl, rfl⟩ ?_
  refine z_aload_n dX8_findsFault_5 rfl ?_
  refine z_iconst (v := -1) dX8_findsFault_6 (by decide) ?_
  refine z_putI dX8_findsFault_7 fp_X8_172 ⟨by decide, _, rfl, rfl⟩ ?_
  refine z_aload_n dX8_findsFault_10 rfl ?_
  refine z_cV0v dX8_findsFault_11 lk_X8_182 (by decide) ⟨by decide, _, rfl⟩ rfl (Nat.le_of_ble_eq_true rfl) (ev_X8_skips G (ht.p ((psF.rf.u8 _).u10 _)) (c := 0) ((uF_n _ _ (by omega)).trans (uF_s _ _ _ _)) (Nat.zero_le _)) ?_
  exact lp_X8_findsFault G ht 150 0 0 _ rfl (Nat.le_refl _) (Nat.zero_le _) (((psF.rf.u8 _).u10 _).u8 _) (uF_s _ _ _ _) ((uF_n _ _ (by omega)).trans (uF_s _ _ _ _))
