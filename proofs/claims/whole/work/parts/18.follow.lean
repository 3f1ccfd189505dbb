set_option maxRecDepth 100000 in
theorem ev_X5_cutTo (G : Gt) {a b m w p : Nat} {E : Nat → Nat} {μ : Mm} (h : tabOK μ a b m E w) (hp : p < m) : EV G 1 Y_X5_cutTo [rf G 23, .int (nI p)] μ (fun v u => v = none ∧ sm 23 33 μ u ∧ tabOK u a b p E (min w (2 ^ p))) := by
  have hm := h.le
  have hp10 := p1024 (show p ≤ 10 by omega)
  have hw2 := h.w2
  have hp1 := p1024 hm
  have hpm : 2 ^ p ≤ 2 ^ m := Nat.pow_le_pow_right (by decide) (by omega)
  refine ev_of (by decide) (Nat.le_of_ble_eq_true rfl) ?_
  show Zs G 1 Y_X5_cutTo (fnN G _) 0 [(0, rf G 23), (1, .int (nI p))] [] μ
  refine z_aload_n dX5_cutTo_0 rfl ?_
  refine z_getR (j := 24) dX5_cutTo_1 fl_X5_12 ⟨by decide, _, rfl, rfl⟩ ?_
  refine z_iload_n dX5_cutTo_4 rfl ?_
  refine z_putI dX5_cutTo_5 fp_X5_45 ⟨by decide, _, rfl, rfl⟩ ?_
  refine z_iconst (v := nI 1) dX5_cutTo_8 (by decide) ?_
  refine z_iload_n dX5_cutTo_9 rfl ?_
  refine z_ishlN dX5_cutTo_10 (by omega) (by omega) ?_
  refine z_istore_n (lv' := [(2, _), (0, _), (1, _)]) dX5_cutTo_11 rfl (by decide) rfl ?_
  rw [Nat.one_mul]
  refine z_sub (lv' := [(0, _), (2, _)]) rfl ?_
  obtain ⟨⟨Q, hq⟩, h2, h3, h4, h5, h6, h7, h8, h9⟩ := h
  have hs0 : sm 24 25 μ (uF μ 24 3 (nI p)) := sm.rf.uF (by omega) (by omega)
  refine Zs.post ?_ (lp_X5_cutTo G (a := a) (b := b) (E := E) (N := 2 ^ m) (p := p) (w := w) (μ0 := uF μ 24 3 (nI p)) hp1 (by omega) (by rw [hs0.F _ (by omega)]; exact h6) (by omega) h5 (2 ^ m) _ (Nat.le_refl _) hpm (fun _ _ _ => rfl) rfl (by rw [hs0.F _ (by omega)]; exact h4))
  rintro v u ⟨rfl, hF, hR, hc, hw⟩
  have hR1 : u.2.1 = μ.2.1 := by rw [hR]; rfl
  have hFF : ∀ i k : Nat, ¬ (i = 23 ∧ k = 6) → ¬ (i = 23 ∧ k = 7) → ¬ (i = 24 ∧ k = 3) → u.1 i k = μ.1 i k := fun i k q1 q2 q3 => by rw [hF i k q1 q2, uF_n _ _ q3]
  refine ⟨rfl, ⟨fun i hi => ⟨fun k => hFF i k (by omega) (by omega) (by omega), by rw [hR1]⟩, by rw [hR]; rfl⟩, ⟨Q, ?_, by omega, ⟨?_, ?_, hq.g.2.2⟩, ?_, ?_⟩, ?_, ?_, hc, ?_, hw, ?_, ?_, ?_⟩
  · rw [hF 24 3 (by omega) (by omega)]; exact uF_s _ _ _ _
  · rw [hFF _ _ (by omega) (by omega) (by omega)]; exact hq.g.1
  · rw [hFF _ _ (by omega) (by omega) (by omega)]; exact hq.g.2.1
  · rw [hR1]; exact fun k hk => hq.2.2.2.1 k (by omega)
  · rw [hR1]; exact fun k hk => hq.2.2.2.2 k (by omega)
  · rw [hR1]; exact fun S hS => h2 S (by omega)
  · rw [hR1]; exact fun S hS => h3 S (by omega)
  · rw [hR1]; exact fun S hS hb => h5 S (by omega) hb
  · have := ppos p; omega
  · omega
  · rw [hR1]; exact fun S hS => h9 S (by omega)
set_option maxRecDepth 100000 in
theorem lp_X5_samePlaces (G : Gt) {a b m w a2 b2 n : Nat} {E E2 Q2 : Nat → Nat} {μ : Mm} (h : tabOK μ a b m E w) (h2 : seqOK μ 1 a2 b2 n E2 Q2) (ea : a = a2) (eb : b = b2) : ∀ (f k : Nat), k + f = min m n → (∀ j : Nat, j < k → E j = E2 j) →
    Zs G 1 Y_X5_samePlaces (fnN G (fun v u => (∃ k, v = some (.int (nI k)) ∧ k ≤ m ∧ k ≤ n ∧ (0 < k → a = a2 ∧ b = b2) ∧ ∀ j : Nat, j < k → E j = E2 j) ∧ u = μ)) 59 [(0, rf G 23), (1, rf G 1), (2, .int (nI (min m n))), (3, .int (nI k))] [] μ := by
  intro f
  have hm := h.le
  have hn := h2.le
  have hg := h.g
  have hg2 := h2.g
  have hab := ab_le hg.2.2.2.1 hg.2.2.2.2.2
  have hab2 := ab_le hg2.2.2.2.1 hg2.2.2.2.2.2
  induction f with
  | zero =>
    intro k hf hj
    refine z_iload_n dX5_samePlaces_59 rfl ?_
    refine z_iload_n dX5_samePlaces_60 rfl ?_
    refine z_icmpN_ge (tgt := 88) dX5_samePlaces_61 (by decide) (by omega) (by omega) (fun c61 => ?_) (fun c61 => absurd c61 (by omega))
    refine z_iload_n dX5_samePlaces_88 rfl ?_
    exact z_ret (ty := none) (v := none) rfl dX5_samePlaces_89 ⟨⟨k, rfl, by omega, by omega, fun _ => ⟨ea, eb⟩, hj⟩, rfl⟩
  | succ f ih =>
    intro k hf hj
    have he := h.el (show k < m by omega)
    have he2 := h2.el (show k < n by omega)
    refine z_iload_n dX5_samePlaces_59 rfl ?_
    refine z_iload_n dX5_samePlaces_60 rfl ?_
    refine z_icmpN_ge (tgt := 88) dX5_samePlaces_61 (by decide) (by omega) (by omega) (fun c61 => absurd c61 (by omega)) (fun c61 => ?_)
    refine z_aload_n dX5_samePlaces_64 rfl ?_
    refine z_getR (j := 24) dX5_samePlaces_65 fl_X5_12 ⟨by decide, _, rfl, rfl⟩ ?_
    refine z_getR (j := 26) dX5_samePlaces_68 fl_X5_68 ⟨by decide, _, rfl, rfl⟩ ?_
    refine z_iload_n dX5_samePlaces_71 rfl ?_
    refine z_ialdN dX5_samePlaces_72 ⟨by decide, rfl⟩ (by omega) (by decide) (h.e (by omega)) ?_
    refine z_aload_n dX5_samePlaces_73 rfl ?_
    refine z_getR (j := 3) dX5_samePlaces_74 fl_X5_68 ⟨by decide, _, rfl, rfl⟩ ?_
    refine z_iload_n dX5_samePlaces_77 rfl ?_
    refine z_ialdN dX5_samePlaces_78 ⟨by decide, rfl⟩ (by omega) (by decide) (h2.e (by omega)) ?_
    refine z_icmpN_ne (tgt := 88) dX5_samePlaces_79 (by decide) (by omega) (by omega) (fun c79 => ?_) (fun c79 => ?_)
    · refine z_iload_n dX5_samePlaces_88 rfl ?_
      exact z_ret (ty := none) (v := none) rfl dX5_samePlaces_89 ⟨⟨k, rfl, by omega, by omega, fun _ => ⟨ea, eb⟩, hj⟩, rfl⟩
    · refine z_iinc (v := nI (k + 1)) (lv' := [(3, _), (0, _), (1, _), (2, _)]) dX5_samePlaces_82 rfl (nI_inc _ 1) (by decide) rfl ?_
      refine z_goto (tgt := 59) dX5_samePlaces_85 (by decide) ?_
      have q := ih (k + 1) (by omega) (fun j hj2 => by
        by_cases e : j = k
        · subst e; exact c79
        · exact hj j (by omega))
      refine z_sub (lv' := [(0, _), (1, _), (2, _), (3, _)]) rfl ?_
      exact q
set_option maxRecDepth 100000 in
theorem ev_X5_samePlaces (G : Gt) {a b m w a2 b2 n : Nat} {E E2 Q2 : Nat → Nat} {μ : Mm} (h : tabOK μ a b m E w) (h2 : seqOK μ 1 a2 b2 n E2 Q2) : EV G 1 Y_X5_samePlaces [rf G 23, rf G 1] μ (fun v u => (∃ k, v = some (.int (nI k)) ∧ k ≤ m ∧ k ≤ n ∧ (0 < k → a = a2 ∧ b = b2) ∧ ∀ j : Nat, j < k → E j = E2 j) ∧ u = μ) := by
  have hm := h.le
  have hn := h2.le
  obtain ⟨_, _, ha1, ha6, hb1, hb6⟩ := h.g
  obtain ⟨_, _, hc1, hc6, hd1, hd6⟩ := h2.g
  refine ev_of (by decide) (Nat.le_of_ble_eq_true rfl) ?_
  show Zs G 1 Y_X5_samePlaces (fnN G _) 0 [(0, rf G 23), (1, rf G 1)] [] μ
  refine z_aload_n dX5_samePlaces_0 rfl ?_
  refine z_getR (j := 24) dX5_samePlaces_1 fl_X5_12 ⟨by decide, _, rfl, rfl⟩ ?_
  refine z_getR (j := 25) dX5_samePlaces_4 fl_X5_52 ⟨by decide, _, rfl, rfl⟩ ?_
  refine z_getI dX5_samePlaces_7 fl_X5_56 ⟨by decide, _, rfl, rfl⟩ h.g.1 ?_
  refine z_aload_n dX5_samePlaces_10 rfl ?_
  refine z_getR (j := 2) dX5_samePlaces_11 fl_X5_52 ⟨by decide, _, rfl, rfl⟩ ?_
  refine z_getI dX5_samePlaces_14 fl_X5_56 ⟨by decide, _, rfl, rfl⟩ h2.g.1 ?_
  refine z_icmpN_ne (tgt := 40) dX5_samePlaces_17 (by decide) (by omega) (by omega) (fun c17 => ?_) (fun c17 => ?_)
  · refine z_iconst (v := nI 0) dX5_samePlaces_40 (by decide) ?_
    exact z_ret (ty := none) (v := none) rfl dX5_samePlaces_41 ⟨⟨0, rfl, by omega, by omega, fun q => by omega, fun j q => by omega⟩, rfl⟩
  · refine z_aload_n dX5_samePlaces_20 rfl ?_
    refine z_getR (j := 24) dX5_samePlaces_21 fl_X5_12 ⟨by decide, _, rfl, rfl⟩ ?_
    refine z_getR (j := 25) dX5_samePlaces_24 fl_X5_52 ⟨by decide, _, rfl, rfl⟩ ?_
    refine z_getI dX5_samePlaces_27 fl_X5_61 ⟨by decide, _, rfl, rfl⟩ h.g.2.1 ?_
    refine z_aload_n dX5_samePlaces_30 rfl ?_
    refine z_getR (j := 2) dX5_samePlaces_31 fl_X5_52 ⟨by decide, _, rfl, rfl⟩ ?_
    refine z_getI dX5_samePlaces_34 fl_X5_61 ⟨by decide, _, rfl, rfl⟩ h2.g.2.1 ?_
    refine z_icmpN_eq (tgt := 42) dX5_samePlaces_37 (by decide) (by omega) (by omega) (fun c37 => ?_) (fun c37 => ?_)
    · refine z_aload_n dX5_samePlaces_42 rfl ?_
      refine z_getR (j := 24) dX5_samePlaces_43 fl_X5_12 ⟨by decide, _, rfl, rfl⟩ ?_
      refine z_getI dX5_samePlaces_46 fl_X5_45 ⟨by decide, _, rfl, rfl⟩ h.n ?_
      refine z_aload_n dX5_samePlaces_49 rfl ?_
      refine z_getI dX5_samePlaces_50 fl_X5_45 ⟨by decide, _, rfl, rfl⟩ h2.n ?_
      refine z_cS2 dX5_samePlaces_53 lk_X5_96 (by decide) (Nat.le_of_ble_eq_true rfl) (ev_J9_min_7cf53 G (by omega) (by omega)) ?_
      refine z_istore_n (lv' := [(2, _), (0, _), (1, _)]) dX5_samePlaces_56 rfl (by decide) rfl ?_
      refine z_iconst (v := nI 0) dX5_samePlaces_57 (by decide) ?_
      refine z_istore_n (lv' := [(3, _), (2, _), (0, _), (1, _)]) dX5_samePlaces_58 rfl (by decide) rfl ?_
      refine z_sub (lv' := [(0, _), (1, _), (2, _), (3, _)]) rfl ?_
      exact lp_X5_samePlaces G h h2 (by omega) (by omega) (min m n) 0 (by omega) (fun j q => by omega)
    · refine z_iconst (v := nI 0) dX5_samePlaces_40 (by decide) ?_
      exact z_ret (ty := none) (v := none) rfl dX5_samePlaces_41 ⟨⟨0, rfl, by omega, by omega, fun q => by omega, fun j q => by omega⟩, rfl⟩
set_option maxRecDepth 100000 in
theorem lp_X5_follow (G : Gt) {a2 b2 n : Nat} {E2 Q2 : Nat → Nat} {μ0 : Mm} (h2 : seqOK μ0 1 a2 b2 n E2 Q2) : ∀ (f k w : Nat) (s : Nat) (μ : Mm), k + f = n → sm 23 33 μ0 μ → tabOK μ a2 b2 k E2 w →
    Zs G 4 Y_X5_follow (fnN G (fun v u => v = some (rf G 23) ∧ sm 23 33 μ0 u ∧ ∃ w, tabOK u a2 b2 n E2 w)) 48 [(0, rf G 23), (1, rf G 1), (2, .int (nI s)), (3, .int (nI k))] [] μ := by
  intro f
  induction f with
  | zero =>
    intro k w s μ hf hs h
    have hq := h2.same hs (by omega)
    have hn := hq.le
    refine z_iload_n dX5_follow_48 rfl ?_
    refine z_aload_n dX5_follow_49 rfl ?_
    refine z_getI dX5_follow_50 fl_X5_45 ⟨by decide, _, rfl, rfl⟩ (hq.n) ?_
    refine z_icmpN_ge (tgt := 72) dX5_follow_53 (by decide) (by omega) (by omega) (fun c53 => ?_) (fun c53 => absurd c53 (by omega))
    refine z_aload_n dX5_follow_72 rfl ?_
    exact z_aret rfl (Or.inr ⟨_, rfl⟩) dX5_follow_73 ⟨rfl, hs, w, by rw [show n = k by omega]; exact h⟩
  | succ f ih =>
    intro k w s μ hf hs h
    have hq := h2.same hs (by omega)
    have hn := hq.le
    have hx := hq.el (show k < n by omega)
    refine z_iload_n dX5_follow_48 rfl ?_
    refine z_aload_n dX5_follow_49 rfl ?_
    refine z_getI dX5_follow_50 fl_X5_45 ⟨by decide, _, rfl, rfl⟩ (hq.n) ?_
    refine z_icmpN_ge (tgt := 72) dX5_follow_53 (by decide) (by omega) (by omega) (fun c53 => absurd c53 (by omega)) (fun c53 => ?_)
    refine z_aload_n dX5_follow_56 rfl ?_
    refine z_aload_n dX5_follow_57 rfl ?_
    refine z_getR (j := 3) dX5_follow_58 fl_X5_68 ⟨by decide, _, rfl, rfl⟩ ?_
    refine z_iload_n dX5_follow_61 rfl ?_
    refine z_ialdN dX5_follow_62 ⟨by decide, rfl⟩ (by omega) (by decide) (hq.e (by omega)) ?_
    refine z_cV1g dX5_follow_63 lk_X5_71 (by decide) ⟨by decide, _, rfl⟩ rfl (Nat.le_of_ble_eq_true rfl) (ev_X5_tablePlace G h (by omega) hx) ?_
    rintro v u ⟨rfl, hs2, ht⟩
    have ht2 : tabOK u a2 b2 (k + 1) E2 w := ht.cg (fun j hj => by
      unfold upE; split
      · next e => rw [e]
      · rfl)
    refine z_iinc (v := nI (k + 1)) (lv' := [(3, _), (0, _), (1, _), (2, _)]) dX5_follow_66 rfl (nI_inc _ 1) (by decide) rfl ?_
    refine z_goto (tgt := 48) dX5_follow_69 (by decide) ?_
    have q := ih (k + 1) w s u (by omega) (hs.trans hs2) ht2
    refine z_sub (lv' := [(0, _), (1, _), (2, _), (3, _)]) rfl ?_
    exact q
theorem tabOK.grp {μ : Mm} {a b k w a2 b2 : Nat} {E E2 : Nat → Nat} (h : tabOK μ a b k E w) (hg : 1 ≤ a2 ∧ a2 ≤ 6 ∧ 1 ≤ b2 ∧ b2 ≤ 6) (hab : 0 < k → a = a2 ∧ b = b2) (hE : ∀ j : Nat, j < k → E j = E2 j) : tabOK (uF (uF μ 25 0 (nI a2)) 25 1 (nI b2)) a2 b2 k E2 w := by
  have hs : sm 25 26 μ (uF (uF μ 25 0 (nI a2)) 25 1 (nI b2)) := (sm.rf.uF (by omega) (by omega)).uF (by omega) (by omega)
  have hG : grpOK (uF (uF μ 25 0 (nI a2)) 25 1 (nI b2)) 25 a2 b2 := ⟨by rw [uF_n _ _ (by omega)]; exact uF_s _ _ _ _, uF_s _ _ _ _, hg⟩
  rcases Nat.eq_zero_or_pos k with e | e
  · subst e
    obtain ⟨⟨Q, hq⟩, h2, h3, h4, h5, h6, h7, h8, h9⟩ := h
    have hb0 : ∀ (a b : Nat) (E : Nat → Nat), blk a b E 0 = false := fun a b E => by unfold blk; simp
    refine ⟨⟨Q, by rw [hs.F _ (by omega)]; exact hq.1, by omega, hG, fun j hj => by omega, fun j hj => by omega⟩, fun S hS => ?_, fun S hS => ?_, ?_, fun S hS hb => ?_, by rw [hs.F _ (by omega)]; exact h6, h7, h8, fun S hS => ?_⟩
    · have e0 : S = 0 := by omega
      subst e0; rw [hs.R (by omega), h2 0 hS, tot_0, tot_0]
    · have e0 : S = 0 := by omega
      subst e0; rw [hs.R (by omega), h3 0 hS, kind_0, kind_0]
    · rw [hs.F _ (by omega), h4, show (2 : Nat) ^ 0 = 0 + 1 from rfl, cntN_succ, cntN_succ, hb0, hb0]; rfl
    · have e0 : S = 0 := by omega
      subst e0; rw [hb0] at hb; cases hb
    · have e0 : S = 0 := by omega
      subst e0; rw [hs.R (by omega), hs.R (by omega), (h9 0 hS).1, (h9 0 hS).2]; exact ⟨rfl, rfl⟩
  · obtain ⟨rfl, rfl⟩ := hab e
    have h' := h.cg hE
    obtain ⟨⟨Q, hq⟩, h2, h3, h4, h5, h6, h7, h8, h9⟩ := h'
    refine ⟨⟨Q, by rw [hs.F _ (by omega)]; exact hq.1, hq.2.1, hG, by rw [hs.R (by omega)]; exact hq.2.2.2.1, by rw [hs.R (by omega)]; exact hq.2.2.2.2⟩, ?_, ?_, ?_, ?_, by rw [hs.F _ (by omega)]; exact h6, h7, h8, ?_⟩
    · rw [hs.R (by omega)]; exact h2
    · rw [hs.R (by omega)]; exact h3
    · rw [hs.F _ (by omega)]; exact h4
    · rw [hs.R (by omega)]; exact h5
    · rw [hs.R (by omega), hs.R (by omega)]; exact h9
set_option maxRecDepth 100000 in
theorem ev_X5_follow (G : Gt) {a b m w a2 b2 n : Nat} {E E2 Q2 : Nat → Nat} {μ : Mm} (h : tabOK μ a b m E w) (h2 : seqOK μ 1 a2 b2 n E2 Q2) : EV G 4 Y_X5_follow [rf G 23, rf G 1] μ (fun v u => v = some (rf G 23) ∧ sm 23 33 μ u ∧ ∃ w, tabOK u a2 b2 n E2 w) := by
  have hm := h.le
  have hn := h2.le
  refine ev_of (by decide) (Nat.le_of_ble_eq_true rfl) ?_
  show Zs G 4 Y_X5_follow (fnN G _) 0 [(0, rf G 23), (1, rf G 1)] [] μ
  refine z_aload_n dX5_follow_0 rfl ?_
  refine z_aload_n dX5_follow_1 rfl ?_
  refine z_cV1g dX5_follow_2 lk_X5_41 (by decide) ⟨by decide, _, rfl⟩ rfl (Nat.le_of_ble_eq_true rfl) (ev_X5_samePlaces G h h2) ?_
  rintro v u ⟨⟨k, rfl, hk1, hk2, hk3, hk4⟩, he⟩
  have he := he.symm
  subst he
  refine z_istore_n (lv' := [(2, _), (0, _), (1, _)]) dX5_follow_5 rfl (by decide) rfl ?_
  refine z_iload_n dX5_follow_6 rfl ?_
  refine z_aload_n dX5_follow_7 rfl ?_
  refine z_getR (j := 24) dX5_follow_8 fl_X5_12 ⟨by decide, _, rfl, rfl⟩ ?_
  refine z_getI dX5_follow_11 fl_X5_45 ⟨by decide, _, rfl, rfl⟩ h.n ?_
  refine z_icmpN_ge (tgt := 22) dX5_follow_14 (by decide) (by omega) (by omega) (fun c14 => ?_) (fun c14 => ?_)
  · have hkm : k = m := by omega
    subst hkm
    have ht := h
    have hs : sm 23 33 μ μ := sm.rf
    have hq := h2
    refine z_sub (lv' := [(0, _), (1, _), (2, _)]) rfl ?_
    refine z_aload_n dX5_follow_22 rfl ?_
    refine z_getR (j := 24) dX5_follow_23 fl_X5_12 ⟨by decide, _, rfl, rfl⟩ ?_
    refine z_getR (j := 25) dX5_follow_26 fl_X5_52 ⟨by decide, _, rfl, rfl⟩ ?_
    refine z_aload_n dX5_follow_29 rfl ?_
    refine z_getR (j := 2) dX5_follow_30 fl_X5_52 ⟨by decide, _, rfl, rfl⟩ ?_
    refine z_getI dX5_follow_33 fl_X5_56 ⟨by decide, _, rfl, rfl⟩ hq.g.1 ?_
    refine z_aload_n dX5_follow_36 rfl ?_
    refine z_getR (j := 2) dX5_follow_37 fl_X5_52 ⟨by decide, _, rfl, rfl⟩ ?_
    refine z_getI dX5_follow_40 fl_X5_61 ⟨by decide, _, rfl, rfl⟩ hq.g.2.1 ?_
    refine z_cV2v dX5_follow_43 lk_X5_64 (by decide) ⟨by decide, _, rfl⟩ rfl (Nat.le_of_ble_eq_true rfl) (ev_X2_become G (isSeq.g seq24)) ?_
    refine z_iload_n dX5_follow_46 rfl ?_
    refine z_istore_n (lv' := [(3, _), (0, _), (1, _), (2, _)]) dX5_follow_47 rfl (by decide) rfl ?_
    have hs3 := (hs.uF (i := 25) (k := 0) (x := nI a2) (by omega) (by omega)).uF (i := 25) (k := 1) (x := nI b2) (by omega) (by omega)
    refine z_sub (lv' := [(0, _), (1, _), (2, _), (3, _)]) rfl ?_
    exact lp_X5_follow G h2 (n - k) k w k _ (by omega) hs3 (ht.grp hq.g.2.2 hk3 hk4)
  · refine z_aload_n dX5_follow_17 rfl ?_
    refine z_iload_n dX5_follow_18 rfl ?_
    refine z_cV1g dX5_follow_19 lk_X5_48 (by decide) ⟨by decide, _, rfl⟩ rfl (Nat.le_of_ble_eq_true rfl) (ev_X5_cutTo G h (by omega)) ?_
    rintro v u ⟨rfl, hs, ht⟩
    have hq := h2.same hs (by omega)
    refine z_sub (lv' := [(0, _), (1, _), (2, _)]) rfl ?_
    refine z_aload_n dX5_follow_22 rfl ?_
    refine z_getR (j := 24) dX5_follow_23 fl_X5_12 ⟨by decide, _, rfl, rfl⟩ ?_
    refine z_getR (j := 25) dX5_follow_26 fl_X5_52 ⟨by decide, _, rfl, rfl⟩ ?_
    refine z_aload_n dX5_follow_29 rfl ?_
    refine z_getR (j := 2) dX5_follow_30 fl_X5_52 ⟨by decide, _, rfl, rfl⟩ ?_
    refine z_getI dX5_follow_33 fl_X5_56 ⟨by decide, _, rfl, rfl⟩ hq.g.1 ?_
    refine z_aload_n dX5_follow_36 rfl ?_
    refine z_getR (j := 2) dX5_follow_37 fl_X5_52 ⟨by decide, _, rfl, rfl⟩ ?_
    refine z_getI dX5_follow_40 fl_X5_61 ⟨by decide, _, rfl, rfl⟩ hq.g.2.1 ?_
    refine z_cV2v dX5_follow_43 lk_X5_64 (by decide) ⟨by decide, _, rfl⟩ rfl (Nat.le_of_ble_eq_true rfl) (ev_X2_become G (isSeq.g seq24)) ?_
    refine z_iload_n dX5_follow_46 rfl ?_
    refine z_istore_n (lv' := [(3, _), (0, _), (1, _), (2, _)]) dX5_follow_47 rfl (by decide) rfl ?_
    have hs3 := (hs.uF (i := 25) (k := 0) (x := nI a2) (by omega) (by omega)).uF (i := 25) (k := 1) (x := nI b2) (by omega) (by omega)
    refine z_sub (lv' := [(0, _), (1, _), (2, _), (3, _)]) rfl ?_
    exact lp_X5_follow G h2 (n - k) k (min w (2 ^ k)) k _ (by omega) hs3 (ht.grp hq.g.2.2 hk3 hk4)
