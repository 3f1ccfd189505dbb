set_option maxRecDepth 100000 in
theorem lp_X8_block (G : Gt) {a b n : Nat} {E Q : Nat → Nat} {μ : Mm} (h : nwOK μ a b n E Q) (hl : lkE μ a b n E) (hs : lkS μ a b E (2 ^ n)) {i : Nat} (hi : i < 2 ^ 31) : ∀ (f s : Nat), s + f = 2 ^ n → 1 ≤ s → cntN (blk a b E) s ≤ i →
    Zs G 2 Y_X8_block (fnN G (fun v u => v = some (.int (oI (nthN (blk a b E) i (2 ^ n)))) ∧ u = μ)) 27 [(0, rf G 35), (2, .int (nI (i - cntN (blk a b E) s))), (3, .int (nI s))] [] μ := by
  intro f
  have hn := h.le
  have hpw := p1024 hn
  have hpw1 := ppos n
  have hab := h.ab
  have htl := fun S : Nat => tot_lt (a := a) (b := b) h.g.1 h.g.2.2.1 E S
  induction f with
  | zero =>
    intro s hf h1 hc
    refine z_iload_n dX8_block_27 rfl ?_
    refine z_aload_n dX8_block_28 rfl ?_
    refine z_cV0 dX8_block_29 lk_X8_101 (by decide) ⟨by decide, _, rfl⟩ rfl (Nat.le_of_ble_eq_true rfl) (ev_X8_all G h) ?_
    refine z_icmpN_gt (tgt := 58) dX8_block_32 (by decide) (by omega) (by omega) (fun c32 => ?_) (fun c32 => absurd c32 (by omega))
    refine z_iconst (v := -1) dX8_block_58 (by decide) ?_
    exact z_ret (ty := none) (v := none) rfl dX8_block_59 ⟨by rw [nthN_none (by rw [← show s = 2 ^ n by omega]; exact hc)]; rfl, rfl⟩
  | succ f ih =>
    intro s hf h1 hc
    have hcs := cntN_succ (blk a b E) s
    refine z_iload_n dX8_block_27 rfl ?_
    refine z_aload_n dX8_block_28 rfl ?_
    refine z_cV0 dX8_block_29 lk_X8_101 (by decide) ⟨by decide, _, rfl⟩ rfl (Nat.le_of_ble_eq_true rfl) (ev_X8_all G h) ?_
    refine z_icmpN_gt (tgt := 58) dX8_block_32 (by decide) (by omega) (by omega) (fun c32 => absurd c32 (by omega)) (fun c32 => ?_)
    refine z_aload_n dX8_block_35 rfl ?_
    refine z_iload_n dX8_block_36 rfl ?_
    refine z_cV1 dX8_block_37 lk_X8_91 (by decide) ⟨by decide, _, rfl⟩ rfl (Nat.le_of_ble_eq_true rfl) (ev_X8_isBlock G hab htl hl hs (show s < 2 ^ n by omega)) ?_
    refine z_ifB_eq (tgt := 52) dX8_block_40 (by decide) (fun c40 => ?_) (fun c40 => ?_)
    · refine z_iinc (v := nI (s + 1)) (lv' := [(3, _), (0, _), (2, _)]) dX8_block_52 rfl (nI_inc _ 1) (by decide) rfl ?_
      refine z_goto (tgt := 27) dX8_block_55 (by decide) ?_
      rw [c40] at hcs
      simp only [Bool.false_eq_true, if_true, if_false] at hcs
      have q := ih (s + 1) (by omega) (by omega) (by omega)
      rw [show i - cntN (blk a b E) (s + 1) = i - cntN (blk a b E) s by omega] at q
      refine z_sub (lv' := [(0, _), (2, _), (3, _)]) rfl ?_
      exact q
    · refine z_iload_n dX8_block_43 rfl ?_
      refine z_ifN_ne (tgt := 49) dX8_block_44 (by decide) (by omega) (fun c44 => ?_) (fun c44 => ?_)
      · refine z_iinc (v := nI ((i - cntN (blk a b E) s) - 1)) (lv' := [(2, _), (0, _), (3, _)]) dX8_block_49 rfl (nI_dec (by omega)) (by decide) rfl ?_
        refine z_iinc (v := nI (s + 1)) (lv' := [(3, _), (2, _), (0, _)]) dX8_block_52 rfl (nI_inc _ 1) (by decide) rfl ?_
        refine z_goto (tgt := 27) dX8_block_55 (by decide) ?_
        rw [c40] at hcs
        simp only [Bool.false_eq_true, if_true, if_false] at hcs
        have q := ih (s + 1) (by omega) (by omega) (by omega)
        rw [show i - cntN (blk a b E) (s + 1) = i - cntN (blk a b E) s - 1 by omega] at q
        refine z_sub (lv' := [(0, _), (2, _), (3, _)]) rfl ?_
        exact q
      · refine z_iload_n dX8_block_47 rfl ?_
        exact z_ret (ty := none) (v := none) rfl dX8_block_48 ⟨by rw [nthN_some (i := i) c40 (by omega) (show s < 2 ^ n by omega)]; rfl, rfl⟩
set_option maxRecDepth 100000 in
theorem ev_X8_block_r1 (G : Gt) {a b n : Nat} {E Q : Nat → Nat} {μ : Mm} (h : nwOK μ a b n E Q) {x : Int32} (hr : x < 0) : EVw G 2 Y_X8_block [rf G 35, .int x] μ (.int (nI 0)) (uF μ 35 3 (nI 1)) := by
  have hab := h.ab
  have hn := h.le
  have hpw := p1024 hn
  have hpw1 := ppos n
  refine ev_of (by decide) (Nat.le_of_ble_eq_true rfl) ?_
  show Zs G 2 Y_X8_block (fnN G _) 0 [(0, rf G 35), (1, .int x)] [] μ
  refine z_aload_n dX8_block_0 rfl ?_
  refine z_iload_n dX8_block_1 rfl ?_
  refine z_if_ge (tgt := 9) dX8_block_2 (by decide) (fun c2 => absurd hr (by rw [Int32.not_lt]; exact c2)) (fun c2 => ?_)
  refine z_iconst (v := nI 1) dX8_block_5 (by decide) ?_
  refine z_goto (tgt := 10) dX8_block_6 (by decide) ?_
  refine z_cV1w dX8_block_10 lk_X8_52 (by decide) ⟨by decide, _, rfl⟩ rfl (Nat.le_of_ble_eq_true rfl) (ev_X8_refused G (w := 1) (by decide)) ?_
  refine z_ifB_eq (tgt := 18) dX8_block_13 (by decide) (fun c13 => absurd c13 (by decide)) (fun c13 => ?_)
  refine z_iconst (v := nI 0) dX8_block_16 (by decide) ?_
  exact z_ret (ty := none) (v := none) rfl dX8_block_17 ⟨rfl, rfl⟩
set_option maxRecDepth 100000 in
theorem ev_X8_block (G : Gt) {a b n : Nat} {E Q : Nat → Nat} {μ : Mm} (h : nwOK μ a b n E Q) {i : Nat} (hi : i < 2 ^ 31) : EV G 2 Y_X8_block [rf G 35, .int (nI i)] μ (fun v u => v = some (.int (oI (nthN (blk a b E) i (2 ^ n)))) ∧ mqF (uF μ 35 3 (nI 0)) u) := by
  have hab := h.ab
  have hn := h.le
  have hpw := p1024 hn
  have hpw1 := ppos n
  refine ev_of (by decide) (Nat.le_of_ble_eq_true rfl) ?_
  show Zs G 2 Y_X8_block (fnN G _) 0 [(0, rf G 35), (1, .int (nI i))] [] μ
  refine z_aload_n dX8_block_0 rfl ?_
  refine z_iload_n dX8_block_1 rfl ?_
  refine z_ifN_ge (tgt := 9) dX8_block_2 (by decide) (by omega) ?_
  refine z_iconst (v := nI 0) dX8_block_9 (by decide) ?_
  refine z_cV1w dX8_block_10 lk_X8_52 (by decide) ⟨by decide, _, rfl⟩ rfl (Nat.le_of_ble_eq_true rfl) (ev_X8_refused G (w := 0) (by decide)) ?_
  refine z_ifB_eq (tgt := 18) dX8_block_13 (by decide) (fun c13 => ?_) (fun c13 => absurd c13 (by decide))
  refine z_aload_n dX8_block_18 rfl ?_
  refine z_iconst (v := -1) dX8_block_19 (by decide) ?_
  refine z_cV1g dX8_block_20 lk_X8_94 (by decide) ⟨by decide, _, rfl⟩ rfl (Nat.le_of_ble_eq_true rfl) (ev_X8_looks_0 G (h.u3 _)) ?_
  rintro v u ⟨rfl, hq, hl, hs⟩
  have h := (h.u3 (nI 0)).q hq
  have htl := fun S : Nat => tot_lt (a := a) (b := b) h.g.1 h.g.2.2.1 E S
  refine z_iload_n dX8_block_23 rfl ?_
  refine z_istore_n (lv' := [(2, _), (0, _), (1, _)]) dX8_block_24 rfl (by decide) rfl ?_
  refine z_iconst (v := nI 1) dX8_block_25 (by decide) ?_
  refine z_istore_n (lv' := [(3, _), (2, _), (0, _), (1, _)]) dX8_block_26 rfl (by decide) rfl ?_
  have q := lp_X8_block G h hl hs hi (2 ^ n - 1) 1 (by omega) (Nat.le_refl _) (by rw [show cntN (blk a b E) 1 = 0 by rw [show (1 : Nat) = 0 + 1 from rfl, cntN_succ]; simp [blk_0, cntN]]; exact Nat.zero_le _)
  rw [show cntN (blk a b E) 1 = 0 by rw [show (1 : Nat) = 0 + 1 from rfl, cntN_succ]; simp [blk_0, cntN], Nat.sub_zero] at q
  refine z_sub (lv' := [(0, _), (2, _), (3, _)]) rfl ?_
  refine Zs.post ?_ q
  rintro v u2 ⟨rfl, rfl⟩
  exact ⟨rfl, hq⟩
/-- blocks with the new place, by their size -/
def bwF (a b : Nat) (E : Nat → Nat) (n p B : Nat) : Bool := decide (2 ^ n ≤ B) && decide (pcN B = p) && blk a b E B
theorem wi_1 {x : Int32} {n : Nat} (hn : n + 1 < 2 ^ 31) : wiN x (nI 1) (nI n) = (inR x (n + 1) && decide (x ≠ nI 0)) := by
  rcases inR_cases x (n + 1) hn with ⟨q, k, hk, rfl⟩ | q
  · rw [q, Bool.true_and]
    rw [wi_N (by omega) (by decide) (by omega)]
    by_cases hk0 : k = 0
    · subst hk0; simp
    · rw [decide_eq_true (show 1 ≤ k by omega), decide_eq_true (show k ≤ n by omega), decide_eq_true (show nI k ≠ nI 0 from fun e => hk0 ((nI_eq (by omega) (by omega)).mp e))]; rfl
  · rw [q, Bool.false_and]
    rcases hw : wiN x (nI 1) (nI n) with _ | _
    · rfl
    · exfalso
      unfold wiN at hw
      rw [Bool.and_eq_true, Bool.not_eq_true', Bool.not_eq_true', decide_eq_false_iff_not, decide_eq_false_iff_not, Int32.not_lt, Int32.not_lt, Int32.le_iff_toInt_le, Int32.le_iff_toInt_le] at hw
      have e1 : (nI n).toInt = n := by have := nI_toInt (n := n) (by omega); exact this
      have e0 : (nI 1).toInt = 1 := by decide
      rw [e1, e0] at hw
      unfold inR at q
      rw [decide_eq_false_iff_not] at q
      omega
theorem ev_X8_wi1 (G : Gt) {x : Int32} {n : Nat} {μ : Mm} (hn : n + 1 < 2 ^ 31) : EVr G 0 Y_X8_within [.int x, .int (nI 1), .int (nI n)] μ (.int (bI (inR x (n + 1) && decide (x ≠ nI 0)))) := by
  have q := ev_X8_within G (x := x) (l := nI 1) (h := nI n) (μ := μ)
  rw [wi_1 hn] at q
  exact q
set_option maxRecDepth 100000 in
theorem lp_X8_blocksWith (G : Gt) {a b n : Nat} {E Q : Nat → Nat} {x : Nat} {μ : Mm} (h : nwOK μ a b n E Q) (hl : lkE μ a b (n + 1) (upE E n x)) (hs : lkS μ a b (upE E n x) (2 ^ (n + 1))) {p : Nat} (hp : p < 100) : ∀ (f s : Nat), s + f = 2 ^ (n + 1) → 2 ^ n ≤ s →
    Zs G 2 Y_X8_blocksWith (fnN G (fun v u => v = some (.int (nI (cntN (bwF a b (upE E n x) n p) (2 ^ (n + 1))))) ∧ u = μ)) 53 [(0, rf G 35), (2, .int (nI p)), (3, .int (nI (cntN (bwF a b (upE E n x) n p) s))), (4, .int (nI s))] [] μ := by
  intro f
  have hn := h.le
  have hM := hl.2.1
  have hpw := p2048 hM
  have hpw1 := ppos n
  have hps : 2 ^ (n + 1) = 2 ^ n * 2 := Nat.pow_succ 2 n
  have hab := h.ab
  have htl := fun S : Nat => tot_lt (a := a) (b := b) h.g.1 h.g.2.2.1 (upE E n x) S
  induction f with
  | zero =>
    intro s hf h1
    refine z_iload dX8_blocksWith_53 rfl ?_
    refine z_iconst (v := nI 1) dX8_blocksWith_55 (by decide) ?_
    refine z_aload_n dX8_blocksWith_56 rfl ?_
    refine z_getI dX8_blocksWith_57 fl_X8_81 ⟨by decide, _, rfl, rfl⟩ hl.1 ?_
    refine z_ishlN dX8_blocksWith_60 (by omega) (by rw [Nat.one_mul]; omega) ?_
    refine z_icmpN_ge (tgt := 96) dX8_blocksWith_61 (by decide) (by omega) (by rw [Nat.one_mul]; omega) (fun c61 => ?_) (fun c61 => absurd c61 (by omega))
    refine z_iload_n dX8_blocksWith_96 rfl ?_
    exact z_ret (ty := none) (v := none) rfl dX8_blocksWith_97 ⟨by rw [show s = 2 ^ (n + 1) by omega], rfl⟩
  | succ f ih =>
    intro s hf h1
    have hpc := pcN_le s
    have hcs := cntN_succ (bwF a b (upE E n x) n p) s
    refine z_iload dX8_blocksWith_53 rfl ?_
    refine z_iconst (v := nI 1) dX8_blocksWith_55 (by decide) ?_
    refine z_aload_n dX8_blocksWith_56 rfl ?_
    refine z_getI dX8_blocksWith_57 fl_X8_81 ⟨by decide, _, rfl, rfl⟩ hl.1 ?_
    refine z_ishlN dX8_blocksWith_60 (by omega) (by rw [Nat.one_mul]; omega) ?_
    refine z_icmpN_ge (tgt := 96) dX8_blocksWith_61 (by decide) (by omega) (by rw [Nat.one_mul]; omega) (fun c61 => absurd c61 (by omega)) (fun c61 => ?_)
    refine z_iload_n dX8_blocksWith_64 rfl ?_
    refine z_iload dX8_blocksWith_65 rfl ?_
    refine z_cS1 dX8_blocksWith_67 lk_X8_107 (by decide) (Nat.le_of_ble_eq_true rfl) (ev_X8_bits G (show s < 2 ^ 31 by omega)) ?_
    refine z_iload_n dX8_blocksWith_70 rfl ?_
    refine z_icmpN_ne (tgt := 87) dX8_blocksWith_71 (by decide) (by omega) (by omega) (fun c71 => ?_) (fun c71 => ?_)
    · refine z_iconst (v := nI 0) dX8_blocksWith_87 (by decide) ?_
      refine z_iaddN dX8_blocksWith_88 ?_
      refine z_istore_n (lv' := [(3, _), (0, _), (2, _), (4, _)]) dX8_blocksWith_89 rfl (by decide) rfl ?_
      refine z_iinc (v := nI (s + 1)) (lv' := [(4, _), (3, _), (0, _), (2, _)]) dX8_blocksWith_90 rfl (nI_inc _ 1) (by decide) rfl ?_
      refine z_goto (tgt := 53) dX8_blocksWith_93 (by decide) ?_
      have q := ih (s + 1) (by omega) (by omega)
      rw [hcs, show bwF a b (upE E n x) n p s = false by unfold bwF; rw [decide_eq_false c71]; simp] at q
      simp only [Bool.false_eq_true, if_true, if_false] at q
      refine z_sub (lv' := [(0, _), (2, _), (3, _), (4, _)]) rfl ?_
      exact q
    · refine z_aload_n dX8_blocksWith_74 rfl ?_
      refine z_iload dX8_blocksWith_75 rfl ?_
      refine z_cV1 dX8_blocksWith_77 lk_X8_91 (by decide) ⟨by decide, _, rfl⟩ rfl (Nat.le_of_ble_eq_true rfl) (ev_X8_isBlock G hab htl hl hs (show s < 2 ^ (n + 1) by omega)) ?_
      refine z_ifB_eq (tgt := 87) dX8_blocksWith_80 (by decide) (fun c80 => ?_) (fun c80 => ?_)
      · refine z_iconst (v := nI 0) dX8_blocksWith_87 (by decide) ?_
        refine z_iaddN dX8_blocksWith_88 ?_
        refine z_istore_n (lv' := [(3, _), (0, _), (2, _), (4, _)]) dX8_blocksWith_89 rfl (by decide) rfl ?_
        refine z_iinc (v := nI (s + 1)) (lv' := [(4, _), (3, _), (0, _), (2, _)]) dX8_blocksWith_90 rfl (nI_inc _ 1) (by decide) rfl ?_
        refine z_goto (tgt := 53) dX8_blocksWith_93 (by decide) ?_
        have q := ih (s + 1) (by omega) (by omega)
        rw [hcs, show bwF a b (upE E n x) n p s = false by unfold bwF; rw [c80]; simp] at q
        simp only [Bool.false_eq_true, if_true, if_false] at q
        refine z_sub (lv' := [(0, _), (2, _), (3, _), (4, _)]) rfl ?_
        exact q
      · refine z_iconst (v := nI 1) dX8_blocksWith_83 (by decide) ?_
        refine z_goto (tgt := 88) dX8_blocksWith_84 (by decide) ?_
        refine z_iaddN dX8_blocksWith_88 ?_
        refine z_istore_n (lv' := [(3, _), (0, _), (2, _), (4, _)]) dX8_blocksWith_89 rfl (by decide) rfl ?_
        refine z_iinc (v := nI (s + 1)) (lv' := [(4, _), (3, _), (0, _), (2, _)]) dX8_blocksWith_90 rfl (nI_inc _ 1) (by decide) rfl ?_
        refine z_goto (tgt := 53) dX8_blocksWith_93 (by decide) ?_
        have q := ih (s + 1) (by omega) (by omega)
        rw [hcs, show bwF a b (upE E n x) n p s = true by unfold bwF; rw [decide_eq_true h1, decide_eq_true c71, c80]; rfl] at q
        simp only [Bool.false_eq_true, if_true, if_false] at q
        refine z_sub (lv' := [(0, _), (2, _), (3, _), (4, _)]) rfl ?_
        exact q
set_option maxRecDepth 100000 in
theorem ev_X8_blocksWith_r1 (G : Gt) {a b n : Nat} {E Q : Nat → Nat} {μ : Mm} (h : nwOK μ a b n E Q) {x y : Int32} (hr : inR x (a * b) = false) : EVw G 2 Y_X8_blocksWith [rf G 35, .int x, .int y] μ (.int (nI 0)) (uF μ 35 3 (nI 1)) := by
  have hab := h.ab
  have hn := h.le
  have hpw := p1024 hn
  have hpw1 := ppos n
  refine ev_of (by decide) (Nat.le_of_ble_eq_true rfl) ?_
  show Zs G 2 Y_X8_blocksWith (fnN G _) 0 [(0, rf G 35), (1, .int x), (2, .int y)] [] μ
  refine z_aload_n dX8_blocksWith_0 rfl ?_
  refine z_aload_n dX8_blocksWith_1 rfl ?_
  refine z_iload_n dX8_blocksWith_2 rfl ?_
  refine z_cV1 dX8_blocksWith_3 lk_X8_75 (by decide) ⟨by decide, _, rfl⟩ rfl (Nat.le_of_ble_eq_true rfl) (ev_X8_isElement G h.G) ?_
  refine z_ifB_ne (tgt := 13) dX8_blocksWith_6 (by decide) (fun c6 => (tf _ (c6) (hr)).elim) (fun c6 => ?_)
  refine z_iconst (v := nI 1) dX8_blocksWith_9 (by decide) ?_
  refine z_goto (tgt := 28) dX8_blocksWith_10 (by decide) ?_
  refine z_cV1w dX8_blocksWith_28 lk_X8_52 (by decide) ⟨by decide, _, rfl⟩ rfl (Nat.le_of_ble_eq_true rfl) (ev_X8_refused G (w := 1) (by decide)) ?_
  refine z_ifB_eq (tgt := 36) dX8_blocksWith_31 (by decide) (fun c31 => absurd c31 (by decide)) (fun c31 => ?_)
  refine z_iconst (v := nI 0) dX8_blocksWith_34 (by decide) ?_
  exact z_ret (ty := none) (v := none) rfl dX8_blocksWith_35 ⟨rfl, rfl⟩
set_option maxRecDepth 100000 in
theorem ev_X8_blocksWith_r2 (G : Gt) {a b n : Nat} {E Q : Nat → Nat} {μ : Mm} (h : nwOK μ a b n E Q) {x y : Int32} (hx : inR x (a * b) = true) (hr : (inR y 12 && decide (y ≠ nI 0)) = false) : EVw G 2 Y_X8_blocksWith [rf G 35, .int x, .int y] μ (.int (nI 0)) (uF μ 35 3 (nI 2)) := by
  have hab := h.ab
  have hn := h.le
  have hpw := p1024 hn
  have hpw1 := ppos n
  refine ev_of (by decide) (Nat.le_of_ble_eq_true rfl) ?_
  show Zs G 2 Y_X8_blocksWith (fnN G _) 0 [(0, rf G 35), (1, .int x), (2, .int y)] [] μ
  refine z_aload_n dX8_blocksWith_0 rfl ?_
  refine z_aload_n dX8_blocksWith_1 rfl ?_
  refine z_iload_n dX8_blocksWith_2 rfl ?_
  refine z_cV1 dX8_blocksWith_3 lk_X8_75 (by decide) ⟨by decide, _, rfl⟩ rfl (Nat.le_of_ble_eq_true rfl) (ev_X8_isElement G h.G) ?_
  refine z_ifB_ne (tgt := 13) dX8_blocksWith_6 (by decide) (fun c6 => ?_) (fun c6 => (tf _ (hx) (c6)).elim)
  refine z_iload_n dX8_blocksWith_13 rfl ?_
  refine z_iconst (v := nI 1) dX8_blocksWith_14 (by decide) ?_
  refine z_bipush (v := nI 11) dX8_blocksWith_15 (by decide) ?_
  refine z_cS3 dX8_blocksWith_17 lk_X8_60 (by decide) (Nat.le_of_ble_eq_true rfl) (ev_X8_wi1 G (n := 11) (by decide)) ?_
  refine z_ifB_ne (tgt := 27) dX8_blocksWith_20 (by decide) (fun c20 => (tf _ (c20) (hr)).elim) (fun c20 => ?_)
  refine z_iconst (v := nI 2) dX8_blocksWith_23 (by decide) ?_
  refine z_goto (tgt := 28) dX8_blocksWith_24 (by decide) ?_
  refine z_cV1w dX8_blocksWith_28 lk_X8_52 (by decide) ⟨by decide, _, rfl⟩ rfl (Nat.le_of_ble_eq_true rfl) (ev_X8_refused G (w := 2) (by decide)) ?_
  refine z_ifB_eq (tgt := 36) dX8_blocksWith_31 (by decide) (fun c31 => absurd c31 (by decide)) (fun c31 => ?_)
  refine z_iconst (v := nI 0) dX8_blocksWith_34 (by decide) ?_
  exact z_ret (ty := none) (v := none) rfl dX8_blocksWith_35 ⟨rfl, rfl⟩
theorem in12 {p : Nat} (h1 : 1 ≤ p) (h2 : p ≤ 11) : (inR (nI p) 12 && decide (nI p ≠ nI 0)) = true := by
  rw [inT (by omega) (by decide), Bool.true_and]
  exact decide_eq_true (fun e => by have := (nI_eq (a := p) (b := 0) (by omega) (by decide)).mp e; omega)
set_option maxRecDepth 100000 in
theorem ev_X8_blocksWith (G : Gt) {a b n : Nat} {E Q : Nat → Nat} {μ : Mm} (h : nwOK μ a b n E Q) {x p : Nat} (hx : x < a * b) (hp1 : 1 ≤ p) (hp2 : p ≤ 11) : EV G 2 Y_X8_blocksWith [rf G 35, .int (nI x), .int (nI p)] μ (fun v u => v = some (.int (nI (cntN (bwF a b (upE E n x) n p) (2 ^ (n + 1))))) ∧ mqF (uF μ 35 3 (nI 0)) u) := by
  have hab := h.ab
  have hn := h.le
  have hpw := p1024 hn
  have hpw1 := ppos n
  refine ev_of (by decide) (Nat.le_of_ble_eq_true rfl) ?_
  show Zs G 2 Y_X8_blocksWith (fnN G _) 0 [(0, rf G 35), (1, .int (nI x)), (2, .int (nI p))] [] μ
  refine z_aload_n dX8_blocksWith_0 rfl ?_
  refine z_aload_n dX8_blocksWith_1 rfl ?_
  refine z_iload_n dX8_blocksWith_2 rfl ?_
  refine z_cV1 dX8_blocksWith_3 lk_X8_75 (by decide) ⟨by decide, _, rfl⟩ rfl (Nat.le_of_ble_eq_true rfl) (ev_X8_isElement G h.G) ?_
  refine z_ifB_ne (tgt := 13) dX8_blocksWith_6 (by decide) (fun c6 => ?_) (fun c6 => (tf _ (inT hx (by omega)) (c6)).elim)
  refine z_iload_n dX8_blocksWith_13 rfl ?_
  refine z_iconst (v := nI 1) dX8_blocksWith_14 (by decide) ?_
  refine z_bipush (v := nI 11) dX8_blocksWith_15 (by decide) ?_
  refine z_cS3 dX8_blocksWith_17 lk_X8_60 (by decide) (Nat.le_of_ble_eq_true rfl) (ev_X8_wi1 G (n := 11) (by decide)) ?_
  refine z_ifB_ne (tgt := 27) dX8_blocksWith_20 (by decide) (fun c20 => ?_) (fun c20 => (tf _ (in12 hp1 hp2) (c20)).elim)
  refine z_iconst (v := nI 0) dX8_blocksWith_27 (by decide) ?_
  refine z_cV1w dX8_blocksWith_28 lk_X8_52 (by decide) ⟨by decide, _, rfl⟩ rfl (Nat.le_of_ble_eq_true rfl) (ev_X8_refused G (w := 0) (by decide)) ?_
  refine z_ifB_eq (tgt := 36) dX8_blocksWith_31 (by decide) (fun c31 => ?_) (fun c31 => absurd c31 (by decide))
  refine z_aload_n dX8_blocksWith_36 rfl ?_
  refine z_iload_n dX8_blocksWith_37 rfl ?_
  refine z_cV1g dX8_blocksWith_38 lk_X8_94 (by decide) ⟨by decide, _, rfl⟩ rfl (Nat.le_of_ble_eq_true rfl) (ev_X8_looks_1 G (h.u3 _) (show x < 36 by omega) hx) ?_
  rintro v u ⟨rfl, hq, hl, hs⟩
  have h := (h.u3 (nI 0)).q hq
  refine z_iconst (v := nI 0) dX8_blocksWith_41 (by decide) ?_
  refine z_istore_n (lv' := [(3, _), (0, _), (1, _), (2, _)]) dX8_blocksWith_42 rfl (by decide) rfl ?_
  refine z_iconst (v := nI 1) dX8_blocksWith_43 (by decide) ?_
  refine z_aload_n dX8_blocksWith_44 rfl ?_
  refine z_getR (j := 36) dX8_blocksWith_45 fl_X8_7 ⟨by decide, _, rfl, rfl⟩ ?_
  refine z_iconst (v := nI 2) dX8_blocksWith_48 (by decide) ?_
  refine z_ialdN dX8_blocksWith_49 ⟨by decide, rfl⟩ (by omega) (by decide) h.vn ?_
  refine z_ishlN dX8_blocksWith_50 (by omega) (by rw [Nat.one_mul]; omega) ?_
  refine z_istore (lv' := [(4, _), (3, _), (0, _), (1, _), (2, _)]) dX8_blocksWith_51 (by decide) rfl ?_
  have hps : 2 ^ (n + 1) = 2 ^ n * 2 := Nat.pow_succ 2 n
  have q := lp_X8_blocksWith G h hl hs (p := p) (by omega) (2 ^ n) (2 ^ n) (by omega) (Nat.le_refl _)
  rw [show cntN (bwF a b (upE E n x) n p) (2 ^ n) = 0 by rw [cntN_flat (s := 0) (Nat.zero_le _) (fun j _ hj => by unfold bwF; rw [decide_eq_false (by omega)]; rfl)]; rfl] at q
  refine z_sub (lv' := [(0, _), (2, _), (3, _), (4, _)]) rfl ?_
  refine Zs.post ?_ (by rw [Nat.one_mul]; exact q)
  rintro v u2 ⟨rfl, rfl⟩
  exact ⟨rfl, hq⟩
