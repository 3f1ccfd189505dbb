/-- a table of some sequence -/
def tabX (μ : Mm) : Prop := ∃ (a b m : Nat) (E : Nat → Nat) (w : Nat), tabOK μ a b m E w
theorem tabX.same {μ μ' : Mm} {lo hi : Nat} (h : tabX μ) (hs : smK lo hi μ μ') (hd : 33 ≤ lo ∨ hi ≤ 23) : tabX μ' := by
  obtain ⟨a, b, m, E, w, h⟩ := h
  exact ⟨a, b, m, E, w, h.same hs hd⟩
theorem tabOK.x {μ : Mm} {a b m w : Nat} {E : Nat → Nat} (h : tabOK μ a b m E w) : tabX μ := ⟨a, b, m, E, w, h⟩
/-- a question: the answer, and nothing but the table is changed -/
abbrev EVq (G : Gt) (d : Nat) (Y : YC) (vs : List Value) (μ : Mm) (r : Value) : Prop := EV G d Y vs μ (fun v u => v = some r ∧ sm 23 33 μ u ∧ tabX u)
theorem ev_fol (G : Gt) {a b n : Nat} {E Q : Nat → Nat} {μ : Mm} (h : seqOK μ 1 a b n E Q) (t : tabX μ) : EV G 4 Y_X5_follow [rf G 23, rf G 1] μ (fun v u => v = some (rf G 23) ∧ sm 23 33 μ u ∧ ∃ w, tabOK u a b n E w) := by
  obtain ⟨a', b', m, E', w, ht⟩ := t
  exact ev_X5_follow G ht h
theorem neg_lt {x : Int32} (hx : x < 0) {k : Nat} (hk : k < 2 ^ 31) : x < nI k := by
  rw [Int32.lt_iff_toInt_lt] at hx ⊢
  rw [nI_toInt hk]
  have : (0 : Int32).toInt = 0 := rfl
  omega
def isM (x : Int32) : Bool := inR x 7 && decide (x ≠ nI 0)
theorem isM_N {x : Nat} (hx : x < 2 ^ 31) : isM (nI x) = (decide (1 ≤ x) && decide (x ≤ 6)) := by
  unfold isM
  rw [inR_N hx]
  by_cases h : x = 0
  · subst h; simp
  · have h2 : nI x ≠ nI 0 := fun q => h ((nI_eq hx (by omega)).mp q)
    rw [decide_eq_true h2, Bool.and_true, decide_eq_true (p := 1 ≤ x) (by omega), Bool.true_and]
    by_cases h3 : x < 7
    · rw [decide_eq_true h3, decide_eq_true (by omega)]
    · rw [decide_eq_false h3, decide_eq_false (by omega)]
/-- the sums that are reached -/
def suN (a b : Nat) (E : Nat → Nat) : Nat → Nat
  | 0 => 0
  | k + 1 => rwN a b (suN a b E k) (E k)
theorem suN_lt {a b n : Nat} {E : Nat → Nat} (ha : 1 ≤ a) (hb : 1 ≤ b) (hab : a * b ≤ 36) (hE : okE a b E n) : ∀ k, k ≤ n → suN a b E k < 2 ^ 36 := by
  intro k
  induction k with
  | zero => intro _; exact Nat.two_pow_pos 36
  | succ k ih => intro h; exact rwN_lt ha hb hab (ih (by omega)) (hE k (by omega))
def ffN (a b : Nat) (S : Nat) : Nat → Nat
  | 0 => 0
  | f + 1 => match lfN a b S with
    | none => 0
    | some e => ffN a b (rwN a b S e) f + 1
theorem ev_X7_isModulus (G : Gt) {e : Int32} {μ : Mm} : EVr G 0 Y_X7_isModulus [.int e] μ (.int (bI (isM e))) := by
  refine ev_of (by decide) (Nat.le_of_ble_eq_true rfl) ?_
  show Zs G 0 Y_X7_isModulus (fnN G _) 0 [(0, .int e)] [] μ
  by_cases c : e < 0
  · refine z_iload_n dX7_isModulus_0 rfl ?_
    refine z_iconst (v := nI 1) dX7_isModulus_1 (by decide) ?_
    refine z_icmp_lt (tgt := 15) dX7_isModulus_2 (by decide) (fun c2 => ?_) (fun c2 => absurd (neg_lt c (by decide)) c2)
    refine z_iconst (v := nI 0) dX7_isModulus_15 (by decide) ?_
    exact z_zret rfl rfl dX7_isModulus_16 ⟨by unfold isM; rw [inR_neg c]; rfl, rfl⟩
  · obtain ⟨x, hx, rfl⟩ := nI_of c
    refine z_iload_n dX7_isModulus_0 rfl ?_
    refine z_iconst (v := nI 1) dX7_isModulus_1 (by decide) ?_
    refine z_icmpN_lt (tgt := 15) dX7_isModulus_2 (by decide) (by omega) (by omega) (fun c2 => ?_) (fun c2 => ?_)
    · refine z_iconst (v := nI 0) dX7_isModulus_15 (by decide) ?_
      exact z_zret rfl rfl dX7_isModulus_16 ⟨by rw [isM_N hx, decide_eq_false (by omega)]; rfl, rfl⟩
    · refine z_iload_n dX7_isModulus_5 rfl ?_
      refine z_bipush (v := nI 6) dX7_isModulus_6 (by decide) ?_
      refine z_icmpN_gt (tgt := 15) dX7_isModulus_8 (by decide) (by omega) (by omega) (fun c8 => ?_) (fun c8 => ?_)
      · refine z_iconst (v := nI 0) dX7_isModulus_15 (by decide) ?_
        exact z_zret rfl rfl dX7_isModulus_16 ⟨by rw [isM_N hx, decide_eq_false (p := x ≤ 6) (by omega), Bool.and_false]; rfl, rfl⟩
      · refine z_iconst (v := nI 1) dX7_isModulus_11 (by decide) ?_
        refine z_goto (tgt := 16) dX7_isModulus_12 (by decide) ?_
        exact z_zret rfl rfl dX7_isModulus_16 ⟨by rw [isM_N hx, decide_eq_true (by omega), decide_eq_true (by omega)]; rfl, rfl⟩
set_option maxRecDepth 100000 in
theorem ev_X7_isPart (G : Gt) {e : Int32} {μ : Mm} : EVr G 0 Y_X7_isPart [.int e] μ (.int (bI (inR e 6))) := by
  refine ev_of (by decide) (Nat.le_of_ble_eq_true rfl) ?_
  show Zs G 0 Y_X7_isPart (fnN G _) 0 [(0, .int e)] [] μ
  refine z_iload_n dX7_isPart_0 rfl ?_
  refine z_if_lt (tgt := 14) dX7_isPart_1 (by decide) (fun c1 => ?_) (fun c1 => ?_)
  · refine z_iconst (v := nI 0) dX7_isPart_14 (by decide) ?_
    exact z_zret rfl rfl dX7_isPart_15 ⟨by rw [inR_neg c1]; rfl, rfl⟩
  · obtain ⟨y, hy, rfl⟩ := nI_of c1
    refine z_iload_n dX7_isPart_4 rfl ?_
    refine z_bipush (v := nI 6) dX7_isPart_5 (by decide) ?_
    refine z_icmpN_ge (tgt := 14) dX7_isPart_7 (by decide) (by omega) (by omega) (fun c7 => ?_) (fun c7 => ?_)
    · refine z_iconst (v := nI 0) dX7_isPart_14 (by decide) ?_
      exact z_zret rfl rfl dX7_isPart_15 ⟨by rw [inR_N hy, decide_eq_false (by omega)]; rfl, rfl⟩
    · refine z_iconst (v := nI 1) dX7_isPart_10 (by decide) ?_
      refine z_goto (tgt := 15) dX7_isPart_11 (by decide) ?_
      exact z_zret rfl rfl dX7_isPart_15 ⟨by rw [inR_N hy, decide_eq_true (by omega)]; rfl, rfl⟩
set_option maxRecDepth 100000 in
theorem lp_X7_sums (G : Gt) {a b n : Nat} {E Q : Nat → Nat} {μ : Mm} (hq : seqOK μ 1 a b n E Q) : ∀ (f k : Nat), k + f = n →
    Zs G 3 Y_X7_sums (fnN G (fun v u => v = some (.long (lN (suN a b E n))) ∧ u = μ)) 4 [(0, rf G 0), (1, .long (lN (suN a b E k))), (3, .int (nI k))] [] μ := by
  intro f
  have hn := hq.le
  have hg := hq.g
  have hab := ab_le hg.2.2.2.1 hg.2.2.2.2.2
  have hE : okE a b E n := fun k hk => hq.el hk
  have hsu := suN_lt hg.2.2.1 hg.2.2.2.2.1 hab hE
  induction f with
  | zero =>
    intro k hf
    refine z_iload_n dX7_sums_4 rfl ?_
    refine z_aload_n dX7_sums_5 rfl ?_
    refine z_getR (j := 1) dX7_sums_6 fl_X7_12 ⟨by decide, _, rfl, rfl⟩ ?_
    refine z_getI dX7_sums_9 fl_X7_87 ⟨by decide, _, rfl, rfl⟩ hq.n ?_
    refine z_icmpN_ge (tgt := 42) dX7_sums_12 (by decide) (by omega) (by omega) (fun c12 => ?_) (fun c12 => absurd c12 (by omega))
    refine z_lload_n dX7_sums_42 rfl ?_
    exact z_lret rfl dX7_sums_43 ⟨by rw [show n = k by omega], rfl⟩
  | succ f ih =>
    intro k hf
    refine z_iload_n dX7_sums_4 rfl ?_
    refine z_aload_n dX7_sums_5 rfl ?_
    refine z_getR (j := 1) dX7_sums_6 fl_X7_12 ⟨by decide, _, rfl, rfl⟩ ?_
    refine z_getI dX7_sums_9 fl_X7_87 ⟨by decide, _, rfl, rfl⟩ hq.n ?_
    refine z_icmpN_ge (tgt := 42) dX7_sums_12 (by decide) (by omega) (by omega) (fun c12 => absurd c12 (by omega)) (fun c12 => ?_)
    refine z_aload_n dX7_sums_15 rfl ?_
    refine z_getR (j := 1) dX7_sums_16 fl_X7_12 ⟨by decide, _, rfl, rfl⟩ ?_
    refine z_getR (j := 2) dX7_sums_19 fl_X7_56 ⟨by decide, _, rfl, rfl⟩ ?_
    refine z_lload_n dX7_sums_22 rfl ?_
    refine z_aload_n dX7_sums_23 rfl ?_
    refine z_getR (j := 1) dX7_sums_24 fl_X7_12 ⟨by decide, _, rfl, rfl⟩ ?_
    refine z_getR (j := 3) dX7_sums_27 fl_X7_149 ⟨by decide, _, rfl, rfl⟩ ?_
    refine z_iload_n dX7_sums_30 rfl ?_
    refine z_ialdN dX7_sums_31 ⟨by decide, rfl⟩ (by omega) (by decide) (hq.e (by omega)) ?_
    refine z_cV2 dX7_sums_32 lk_X7_227 (by decide) ⟨by decide, _, rfl⟩ rfl (Nat.le_of_ble_eq_true rfl) (ev_X2_reachedWith G (isSeq.g seq1) hg (hsu k (by omega)) (hE k (by omega))) ?_
    refine z_lstore_n (lv' := [(1, _), (0, _), (3, _)]) dX7_sums_35 rfl (by decide) rfl ?_
    refine z_iinc (v := nI (k + 1)) (lv' := [(3, _), (1, _), (0, _)]) dX7_sums_36 rfl (nI_inc _ 1) (by decide) rfl ?_
    refine z_goto (tgt := 4) dX7_sums_39 (by decide) ?_
    refine z_sub (lv' := [(0, _), (1, _), (3, _)]) rfl ?_
    exact ih (k + 1) (by omega)
set_option maxRecDepth 100000 in
theorem ev_X7_sums (G : Gt) {a b n : Nat} {E Q : Nat → Nat} {μ : Mm} (hq : seqOK μ 1 a b n E Q) : EVr G 3 Y_X7_sums [rf G 0] μ (.long (lN (suN a b E n))) := by
  refine ev_of (by decide) (Nat.le_of_ble_eq_true rfl) ?_
  show Zs G 3 Y_X7_sums (fnN G _) 0 [(0, rf G 0)] [] μ
  refine z_lconst (v := lN 0) dX7_sums_0 rfl ?_
  refine z_lstore_n (lv' := [(1, _), (0, _)]) dX7_sums_1 rfl (by decide) rfl ?_
  refine z_iconst (v := nI 0) dX7_sums_2 (by decide) ?_
  refine z_istore_n (lv' := [(3, _), (1, _), (0, _)]) dX7_sums_3 rfl (by decide) rfl ?_
  refine z_sub (lv' := [(0, _), (1, _), (3, _)]) rfl ?_
  exact lp_X7_sums G hq n 0 (by omega)
set_option maxRecDepth 100000 in
theorem ev_X7_freeElement (G : Gt) {a b n : Nat} {E Q : Nat → Nat} {μ : Mm} (hq : seqOK μ 1 a b n E Q) : EVr G 4 Y_X7_freeElement [rf G 0] μ (.int (oI (lfN a b (suN a b E n)))) := by
  have hn := hq.le
  have hg := hq.g
  have hab := ab_le hg.2.2.2.1 hg.2.2.2.2.2
  have hE : okE a b E n := fun k hk => hq.el hk
  have hsu := suN_lt hg.2.2.1 hg.2.2.2.2.1 hab hE n (Nat.le_refl _)
  refine ev_of (by decide) (Nat.le_of_ble_eq_true rfl) ?_
  show Zs G 4 Y_X7_freeElement (fnN G _) 0 [(0, rf G 0)] [] μ
  refine z_aload_n dX7_freeElement_0 rfl ?_
  refine z_getR (j := 1) dX7_freeElement_1 fl_X7_12 ⟨by decide, _, rfl, rfl⟩ ?_
  refine z_getR (j := 2) dX7_freeElement_4 fl_X7_56 ⟨by decide, _, rfl, rfl⟩ ?_
  refine z_aload_n dX7_freeElement_7 rfl ?_
  refine z_cV0 dX7_freeElement_8 lk_X7_133 (by decide) ⟨by decide, _, rfl⟩ rfl (Nat.le_of_ble_eq_true rfl) (ev_X7_sums G hq) ?_
  refine z_cV1 dX7_freeElement_11 lk_X7_231 (by decide) ⟨by decide, _, rfl⟩ rfl (Nat.le_of_ble_eq_true rfl) (ev_X2_lowestFree G (isSeq.g seq1) hg hsu) ?_
  exact z_ret (ty := none) (v := none) rfl dX7_freeElement_14 ⟨rfl, rfl⟩
theorem lf_lt {a b S e : Nat} (h : lfN a b S = some e) : e < a * b ∨ (a * b = 0 ∧ e = 1) := by
  have key : ∀ (f e0 : Nat), lfL a b S f e0 = some e → e < e0 + f := by
    intro f
    induction f with
    | zero => intro e0 h; cases h
    | succ f ih =>
      intro e0 h
      unfold lfL at h
      split at h
      · have := ih _ h; omega
      · cases h; omega
  unfold lfN at h
  split at h
  · cases h
  · have := key _ _ h
    by_cases q : a * b = 0
    · rw [q] at h this; cases h
    · exact Or.inl (by omega)
set_option maxRecDepth 100000 in
theorem lp_X7_freeFor (G : Gt) {a b n : Nat} {E Q : Nat → Nat} {μ : Mm} (hq : seqOK μ 1 a b n E Q) : ∀ (f k S : Nat), k + f = a * b → S < 2 ^ 36 →
    Zs G 4 Y_X7_freeFor (fnN G (fun v u => v = some (.int (nI (k + ffN a b S f))) ∧ u = μ)) 20 [(0, rf G 0), (1, .long (lN S)), (3, .int (nI k)), (4, .int (oI (lfN a b S)))] [] μ := by
  intro f
  have hn := hq.le
  have hg := hq.g
  have hab := ab_le hg.2.2.2.1 hg.2.2.2.2.2
  have hE : okE a b E n := fun k hk => hq.el hk
  induction f with
  | zero =>
    intro k S hf hS
    rcases hl : lfN a b S with _ | e
    · show Zs _ _ _ _ _ [(0, rf G 0), (1, .long (lN S)), (3, .int (nI k)), (4, .int (-1))] _ _
      refine z_iload dX7_freeFor_20 rfl ?_
      refine z_iconst (v := -1) dX7_freeFor_22 (by decide) ?_
      refine z_icmp_eq (tgt := 73) dX7_freeFor_23 (by decide) (fun c23 => ?_) (fun c23 => absurd rfl c23)
      refine z_iload_n dX7_freeFor_73 rfl ?_
      exact z_ret (ty := none) (v := none) rfl dX7_freeFor_74 ⟨rfl, rfl⟩
    · have he := lf_lt hl
      have he2 : e < 37 := by omega
      show Zs _ _ _ _ _ [(0, rf G 0), (1, .long (lN S)), (3, .int (nI k)), (4, .int (nI e))] _ _
      refine z_iload dX7_freeFor_20 rfl ?_
      refine z_iconst (v := -1) dX7_freeFor_22 (by decide) ?_
      refine z_icmp_eq (tgt := 73) dX7_freeFor_23 (by decide) (fun c23 => absurd c23 (nI_m1 (by omega))) (fun c23 => ?_)
      refine z_iload_n dX7_freeFor_26 rfl ?_
      refine z_aload_n dX7_freeFor_27 rfl ?_
      refine z_getR (j := 1) dX7_freeFor_28 fl_X7_12 ⟨by decide, _, rfl, rfl⟩ ?_
      refine z_getR (j := 2) dX7_freeFor_31 fl_X7_56 ⟨by decide, _, rfl, rfl⟩ ?_
      refine z_cV0 dX7_freeFor_34 lk_X7_60 (by decide) ⟨by decide, _, rfl⟩ rfl (Nat.le_of_ble_eq_true rfl) (ev_X2_count G (isSeq.g seq1) hg) ?_
      refine z_icmpN_ge (tgt := 73) dX7_freeFor_37 (by decide) (by omega) (by omega) (fun c37 => ?_) (fun c37 => absurd c37 (by omega))
      refine z_iload_n dX7_freeFor_73 rfl ?_
      exact z_ret (ty := none) (v := none) rfl dX7_freeFor_74 ⟨rfl, rfl⟩
  | succ f ih =>
    intro k S hf hS
    rcases hl : lfN a b S with _ | e
    · show Zs _ _ _ _ _ [(0, rf G 0), (1, .long (lN S)), (3, .int (nI k)), (4, .int (-1))] _ _
      refine z_iload dX7_freeFor_20 rfl ?_
      refine z_iconst (v := -1) dX7_freeFor_22 (by decide) ?_
      refine z_icmp_eq (tgt := 73) dX7_freeFor_23 (by decide) (fun c23 => ?_) (fun c23 => absurd rfl c23)
      refine z_iload_n dX7_freeFor_73 rfl ?_
      exact z_ret (ty := none) (v := none) rfl dX7_freeFor_74 ⟨by rw [show ffN a b S (f + 1) = 0 by unfold ffN; rw [hl], Nat.add_zero], rfl⟩
    · have he := lf_lt hl
      have he3 : e < a * b := by omega
      have hS2 := rwN_lt hg.2.2.1 hg.2.2.2.2.1 hab hS he3
      show Zs _ _ _ _ _ [(0, rf G 0), (1, .long (lN S)), (3, .int (nI k)), (4, .int (nI e))] _ _
      refine z_iload dX7_freeFor_20 rfl ?_
      refine z_iconst (v := -1) dX7_freeFor_22 (by decide) ?_
      refine z_icmp_eq (tgt := 73) dX7_freeFor_23 (by decide) (fun c23 => absurd c23 (nI_m1 (by omega))) (fun c23 => ?_)
      refine z_iload_n dX7_freeFor_26 rfl ?_
      refine z_aload_n dX7_freeFor_27 rfl ?_
      refine z_getR (j := 1) dX7_freeFor_28 fl_X7_12 ⟨by decide, _, rfl, rfl⟩ ?_
      refine z_getR (j := 2) dX7_freeFor_31 fl_X7_56 ⟨by decide, _, rfl, rfl⟩ ?_
      refine z_cV0 dX7_freeFor_34 lk_X7_60 (by decide) ⟨by decide, _, rfl⟩ rfl (Nat.le_of_ble_eq_true rfl) (ev_X2_count G (isSeq.g seq1) hg) ?_
      refine z_icmpN_ge (tgt := 73) dX7_freeFor_37 (by decide) (by omega) (by omega) (fun c37 => absurd c37 (by omega)) (fun c37 => ?_)
      refine z_aload_n dX7_freeFor_40 rfl ?_
      refine z_getR (j := 1) dX7_freeFor_41 fl_X7_12 ⟨by decide, _, rfl, rfl⟩ ?_
      refine z_getR (j := 2) dX7_freeFor_44 fl_X7_56 ⟨by decide, _, rfl, rfl⟩ ?_
      refine z_lload_n dX7_freeFor_47 rfl ?_
      refine z_iload dX7_freeFor_48 rfl ?_
      refine z_cV2 dX7_freeFor_50 lk_X7_227 (by decide) ⟨by decide, _, rfl⟩ rfl (Nat.le_of_ble_eq_true rfl) (ev_X2_reachedWith G (isSeq.g seq1) hg hS he3) ?_
      refine z_lstore_n (lv' := [(1, _), (0, _), (3, _), (4, _)]) dX7_freeFor_53 rfl (by decide) rfl ?_
      refine z_iinc (v := nI (k + 1)) (lv' := [(3, _), (1, _), (0, _), (4, _)]) dX7_freeFor_54 rfl (nI_inc _ 1) (by decide) rfl ?_
      refine z_aload_n dX7_freeFor_57 rfl ?_
      refine z_getR (j := 1) dX7_freeFor_58 fl_X7_12 ⟨by decide, _, rfl, rfl⟩ ?_
      refine z_getR (j := 2) dX7_freeFor_61 fl_X7_56 ⟨by decide, _, rfl, rfl⟩ ?_
      refine z_lload_n dX7_freeFor_64 rfl ?_
      refine z_cV1 dX7_freeFor_65 lk_X7_231 (by decide) ⟨by decide, _, rfl⟩ rfl (Nat.le_of_ble_eq_true rfl) (ev_X2_lowestFree G (isSeq.g seq1) hg hS2) ?_
      refine z_istore (lv' := [(4, _), (3, _), (1, _), (0, _)]) dX7_freeFor_68 (by decide) rfl ?_
      refine z_goto (tgt := 20) dX7_freeFor_70 (by decide) ?_
      have q := ih (k + 1) (rwN a b S e) (by omega) hS2
      rw [show k + 1 + ffN a b (rwN a b S e) f = k + ffN a b S (f + 1) by rw [show ffN a b S (f + 1) = ffN a b (rwN a b S e) f + 1 by show (match lfN a b S with | none => 0 | some e => ffN a b (rwN a b S e) f + 1) = _; rw [hl]]; omega] at q
      refine z_sub (lv' := [(0, _), (1, _), (3, _), (4, _)]) rfl ?_
      exact q
set_option maxRecDepth 100000 in
theorem ev_X7_freeFor (G : Gt) {a b n : Nat} {E Q : Nat → Nat} {μ : Mm} (hq : seqOK μ 1 a b n E Q) : EVr G 4 Y_X7_freeFor [rf G 0] μ (.int (nI (ffN a b (suN a b E n) (a * b)))) := by
  have hn := hq.le
  have hg := hq.g
  have hab := ab_le hg.2.2.2.1 hg.2.2.2.2.2
  have hE : okE a b E n := fun k hk => hq.el hk
  have hsu := suN_lt hg.2.2.1 hg.2.2.2.2.1 hab hE n (Nat.le_refl _)
  refine ev_of (by decide) (Nat.le_of_ble_eq_true rfl) ?_
  show Zs G 4 Y_X7_freeFor (fnN G _) 0 [(0, rf G 0)] [] μ
  refine z_aload_n dX7_freeFor_0 rfl ?_
  refine z_cV0 dX7_freeFor_1 lk_X7_133 (by decide) ⟨by decide, _, rfl⟩ rfl (Nat.le_of_ble_eq_true rfl) (ev_X7_sums G hq) ?_
  refine z_lstore_n (lv' := [(1, _), (0, _)]) dX7_freeFor_4 rfl (by decide) rfl ?_
  refine z_iconst (v := nI 0) dX7_freeFor_5 (by decide) ?_
  refine z_istore_n (lv' := [(3, _), (1, _), (0, _)]) dX7_freeFor_6 rfl (by decide) rfl ?_
  refine z_aload_n dX7_freeFor_7 rfl ?_
  refine z_getR (j := 1) dX7_freeFor_8 fl_X7_12 ⟨by decide, _, rfl, rfl⟩ ?_
  refine z_getR (j := 2) dX7_freeFor_11 fl_X7_56 ⟨by decide, _, rfl, rfl⟩ ?_
  refine z_lload_n dX7_freeFor_14 rfl ?_
  refine z_cV1 dX7_freeFor_15 lk_X7_231 (by decide) ⟨by decide, _, rfl⟩ rfl (Nat.le_of_ble_eq_true rfl) (ev_X2_lowestFree G (isSeq.g seq1) hg hsu) ?_
  refine z_istore (lv' := [(4, _), (3, _), (1, _), (0, _)]) dX7_freeFor_18 (by decide) rfl ?_
  refine z_sub (lv' := [(0, _), (1, _), (3, _), (4, _)]) rfl ?_
  have q := lp_X7_freeFor G hq (a * b) 0 (suN a b E n) (by omega) hsu
  rw [Nat.zero_add] at q
  exact q
theorem cd_pos (a b : Nat) : 1 ≤ cdN a b ∧ cdN a b ≤ a + 1 := by
  have key : ∀ (f d r : Nat), 1 ≤ r → 1 ≤ d → 1 ≤ cdL a b f d r ∧ cdL a b f d r ≤ max r (d + f) := by
    intro f
    induction f with
    | zero => intro d r h h2; exact ⟨h, by show r ≤ _; omega⟩
    | succ f ih =>
      intro d r h h2
      unfold cdL
      split
      · have := ih (d + 1) d h2 (by omega); omega
      · have := ih (d + 1) r h (by omega); omega
  have := key a 1 1 (by omega) (by omega)
  unfold cdN; omega
set_option maxRecDepth 100000 in
theorem ev_X7_bound (G : Gt) {a b n : Nat} {E Q : Nat → Nat} {μ : Mm} (hq : seqOK μ 1 a b n E Q) : EVr G 3 Y_X7_bound [rf G 0] μ (.int (nI (cdN a b + exN a b - 1))) := by
  have hn := hq.le
  have hg := hq.g
  have hab := ab_le hg.2.2.2.1 hg.2.2.2.2.2
  have hE : okE a b E n := fun k hk => hq.el hk
  have hcd := cd_pos a b
  refine ev_of (by decide) (Nat.le_of_ble_eq_true rfl) ?_
  show Zs G 3 Y_X7_bound (fnN G _) 0 [(0, rf G 0)] [] μ
  refine z_aload_n dX7_bound_0 rfl ?_
  refine z_getR (j := 1) dX7_bound_1 fl_X7_12 ⟨by decide, _, rfl, rfl⟩ ?_
  refine z_getR (j := 2) dX7_bound_4 fl_X7_56 ⟨by decide, _, rfl, rfl⟩ ?_
  refine z_cV0 dX7_bound_7 lk_X7_143 (by decide) ⟨by decide, _, rfl⟩ rfl (Nat.le_of_ble_eq_true rfl) (ev_X2_commonDivisor G (isSeq.g seq1) hg) ?_
  refine z_aload_n dX7_bound_10 rfl ?_
  refine z_getR (j := 1) dX7_bound_11 fl_X7_12 ⟨by decide, _, rfl, rfl⟩ ?_
  refine z_getR (j := 2) dX7_bound_14 fl_X7_56 ⟨by decide, _, rfl, rfl⟩ ?_
  refine z_cV0 dX7_bound_17 lk_X7_146 (by decide) ⟨by decide, _, rfl⟩ rfl (Nat.le_of_ble_eq_true rfl) (ev_X2_exponent G (isSeq.g seq1) hg) ?_
  refine z_iaddN dX7_bound_20 ?_
  refine z_iconst (v := nI 1) dX7_bound_21 (by decide) ?_
  refine z_isubN dX7_bound_22 (by omega) ?_
  exact z_ret (ty := none) (v := none) rfl dX7_bound_23 ⟨rfl, rfl⟩
