set_option maxRecDepth 100000 in
theorem ev_X2_become (G : Gt) {g : Nat} {x y : Int32} {μ : Mm} (hg : isGrp g) : EVv G 0 Y_X2_become [rf G g, .int x, .int y] μ (uF (uF μ g 0 x) g 1 y) := by
  refine ev_of (by decide) (Nat.le_of_ble_eq_true rfl) ?_
  show Zs G 0 Y_X2_become (fnN G _) 0 [(0, rf G g), (1, .int x), (2, .int y)] [] μ
  refine z_aload_n dX2_become_0 rfl ?_
  refine z_iload_n dX2_become_1 rfl ?_
  refine z_putI dX2_become_2 fp_X2_9 (isGrp.f0 hg) ?_
  refine z_aload_n dX2_become_5 rfl ?_
  refine z_iload_n dX2_become_6 rfl ?_
  refine z_putI dX2_become_7 fp_X2_15 (isGrp.f1 hg) ?_
  exact z_vret rfl dX2_become_10 ⟨rfl, rfl⟩
set_option maxRecDepth 100000 in
theorem ev_X4_restart (G : Gt) {s : Nat} {x y : Int32} {μ : Mm} (hs : isSeq s) : EVv G 1 Y_X4_restart [rf G s, .int x, .int y] μ (uF (uF (uF μ (s + 1) 0 x) (s + 1) 1 y) s 3 (nI 0)) := by
  refine ev_of (by decide) (Nat.le_of_ble_eq_true rfl) ?_
  show Zs G 1 Y_X4_restart (fnN G _) 0 [(0, rf G s), (1, .int x), (2, .int y)] [] μ
  refine z_aload_n dX4_restart_0 rfl ?_
  refine z_getR (j := (s + 1)) dX4_restart_1 fl_X4_12 (isSeq.r0 hs) ?_
  refine z_iload_n dX4_restart_4 rfl ?_
  refine z_iload_n dX4_restart_5 rfl ?_
  refine z_cV2v dX4_restart_6 lk_X4_35 (by decide) (isGrp.o (isSeq.g hs)) rfl (Nat.le_of_ble_eq_true rfl) (ev_X2_become G hs.g) ?_
  refine z_aload_n dX4_restart_9 rfl ?_
  refine z_iconst (v := nI 0) dX4_restart_10 (by decide) ?_
  refine z_putI dX4_restart_11 fp_X4_25 (isSeq.f3 hs) ?_
  exact z_vret rfl dX4_restart_14 ⟨rfl, rfl⟩
set_option maxRecDepth 100000 in
theorem ev_X4_isFull (G : Gt) {s a b n : Nat} {E Q : Nat → Nat} {μ : Mm} (hs : isSeq s) (h : seqOK μ s a b n E Q) : EVr G 0 Y_X4_isFull [rf G s] μ (.int (bI (decide (10 ≤ n)))) := by
  have hn := h.le
  have hp := p1024 hn
  have hp1 := ppos n
  refine ev_of (by decide) (Nat.le_of_ble_eq_true rfl) ?_
  show Zs G 0 Y_X4_isFull (fnN G _) 0 [(0, rf G s)] [] μ
  refine z_aload_n dX4_isFull_0 rfl ?_
  refine z_getI dX4_isFull_1 fl_X4_25 (isSeq.f3 hs) h.n ?_
  refine z_bipush (v := nI 10) dX4_isFull_4 (by decide) ?_
  refine z_icmpN_lt (tgt := 13) dX4_isFull_6 (by decide) (by omega) (by omega) (fun c6 => ?_) (fun c6 => ?_)
  · refine z_iconst (v := nI 0) dX4_isFull_13 (by decide) ?_
    exact z_zret rfl rfl dX4_isFull_14 ⟨by rw [decide_eq_false (by omega)]; rfl, rfl⟩
  · refine z_iconst (v := nI 1) dX4_isFull_9 (by decide) ?_
    refine z_goto (tgt := 14) dX4_isFull_10 (by decide) ?_
    exact z_zret rfl rfl dX4_isFull_14 ⟨by rw [decide_eq_true c6]; rfl, rfl⟩
set_option maxRecDepth 100000 in
theorem ev_X4_hasPlace (G : Gt) {s a b n : Nat} {E Q : Nat → Nat} {x : Int32} {μ : Mm} (hs : isSeq s) (h : seqOK μ s a b n E Q) : EVr G 0 Y_X4_hasPlace [rf G s, .int x] μ (.int (bI (inR x n))) := by
  have hn := h.le
  have hp := p1024 hn
  have hp1 := ppos n
  refine ev_of (by decide) (Nat.le_of_ble_eq_true rfl) ?_
  show Zs G 0 Y_X4_hasPlace (fnN G _) 0 [(0, rf G s), (1, .int x)] [] μ
  refine z_iload_n dX4_hasPlace_0 rfl ?_
  refine z_if_lt (tgt := 16) dX4_hasPlace_1 (by decide) (fun c1 => ?_) (fun c1 => ?_)
  · refine z_iconst (v := nI 0) dX4_hasPlace_16 (by decide) ?_
    exact z_zret rfl rfl dX4_hasPlace_17 ⟨by rw [inR_neg c1]; rfl, rfl⟩
  · obtain ⟨y, hy, rfl⟩ := nI_of c1
    refine z_iload_n dX4_hasPlace_4 rfl ?_
    refine z_aload_n dX4_hasPlace_5 rfl ?_
    refine z_getI dX4_hasPlace_6 fl_X4_25 (isSeq.f3 hs) h.n ?_
    refine z_icmpN_ge (tgt := 16) dX4_hasPlace_9 (by decide) (by omega) (by omega) (fun c9 => ?_) (fun c9 => ?_)
    · refine z_iconst (v := nI 0) dX4_hasPlace_16 (by decide) ?_
      exact z_zret rfl rfl dX4_hasPlace_17 ⟨by rw [inR_N hy, decide_eq_false (by omega)]; rfl, rfl⟩
    · refine z_iconst (v := nI 1) dX4_hasPlace_12 (by decide) ?_
      refine z_goto (tgt := 17) dX4_hasPlace_13 (by decide) ?_
      exact z_zret rfl rfl dX4_hasPlace_17 ⟨by rw [inR_N hy, decide_eq_true c9]; rfl, rfl⟩
set_option maxRecDepth 100000 in
theorem ev_X4_allPlaces (G : Gt) {s a b n : Nat} {E Q : Nat → Nat} {μ : Mm} (hs : isSeq s) (h : seqOK μ s a b n E Q) : EVr G 0 Y_X4_allPlaces [rf G s] μ (.int (nI (2 ^ n - 1))) := by
  have hn := h.le
  have hp := p1024 hn
  have hp1 := ppos n
  refine ev_of (by decide) (Nat.le_of_ble_eq_true rfl) ?_
  show Zs G 0 Y_X4_allPlaces (fnN G _) 0 [(0, rf G s)] [] μ
  refine z_iconst (v := nI 1) dX4_allPlaces_0 (by decide) ?_
  refine z_aload_n dX4_allPlaces_1 rfl ?_
  refine z_getI dX4_allPlaces_2 fl_X4_25 (isSeq.f3 hs) h.n ?_
  refine z_ishlN dX4_allPlaces_5 (by omega) (by omega) ?_
  refine z_iconst (v := nI 1) dX4_allPlaces_6 (by decide) ?_
  refine z_isubN dX4_allPlaces_7 (by omega) ?_
  exact z_ret (ty := none) (v := none) rfl dX4_allPlaces_8 ⟨by rw [Nat.one_mul], rfl⟩
set_option maxRecDepth 100000 in
theorem ev_X4_hasPlaces (G : Gt) {s a b n : Nat} {E Q : Nat → Nat} {x : Int32} {μ : Mm} (hs : isSeq s) (h : seqOK μ s a b n E Q) : EVr G 1 Y_X4_hasPlaces [rf G s, .int x] μ (.int (bI (inR x (2 ^ n)))) := by
  have hn := h.le
  have hp := p1024 hn
  have hp1 := ppos n
  refine ev_of (by decide) (Nat.le_of_ble_eq_true rfl) ?_
  show Zs G 1 Y_X4_hasPlaces (fnN G _) 0 [(0, rf G s), (1, .int x)] [] μ
  refine z_iload_n dX4_hasPlaces_0 rfl ?_
  refine z_if_lt (tgt := 16) dX4_hasPlaces_1 (by decide) (fun c1 => ?_) (fun c1 => ?_)
  · refine z_iconst (v := nI 0) dX4_hasPlaces_16 (by decide) ?_
    exact z_zret rfl rfl dX4_hasPlaces_17 ⟨by rw [inR_neg c1]; rfl, rfl⟩
  · obtain ⟨y, hy, rfl⟩ := nI_of c1
    refine z_iload_n dX4_hasPlaces_4 rfl ?_
    refine z_aload_n dX4_hasPlaces_5 rfl ?_
    refine z_cV0 dX4_hasPlaces_6 lk_X4_39 (by decide) (isSeq.o hs) rfl (Nat.le_of_ble_eq_true rfl) (ev_X4_allPlaces G hs h) ?_
    refine z_icmpN_gt (tgt := 16) dX4_hasPlaces_9 (by decide) (by omega) (by omega) (fun c9 => ?_) (fun c9 => ?_)
    · refine z_iconst (v := nI 0) dX4_hasPlaces_16 (by decide) ?_
      exact z_zret rfl rfl dX4_hasPlaces_17 ⟨by rw [inR_N hy, decide_eq_false (by omega)]; rfl, rfl⟩
    · refine z_iconst (v := nI 1) dX4_hasPlaces_12 (by decide) ?_
      refine z_goto (tgt := 17) dX4_hasPlaces_13 (by decide) ?_
      exact z_zret rfl rfl dX4_hasPlaces_17 ⟨by rw [inR_N hy, decide_eq_true (by omega)]; rfl, rfl⟩
set_option maxRecDepth 100000 in
theorem ev_X4_append (G : Gt) {s a b n : Nat} {E Q : Nat → Nat} {x : Int32} {μ : Mm} (hs : isSeq s) (h : seqOK μ s a b n E Q) (hf : n < 10) : EVv G 1 Y_X4_append [rf G s, .int x] μ (uF (uR (uR μ (s + 2) n x) (s + 3) n (nI 0)) s 3 (nI (n + 1))) := by
  have hn := h.le
  have hp := p1024 hn
  have hp1 := ppos n
  refine ev_of (by decide) (Nat.le_of_ble_eq_true rfl) ?_
  show Zs G 1 Y_X4_append (fnN G _) 0 [(0, rf G s), (1, .int x)] [] μ
  refine z_aload_n dX4_append_0 rfl ?_
  refine z_cV0 dX4_append_1 lk_X4_43 (by decide) (isSeq.o hs) rfl (Nat.le_of_ble_eq_true rfl) (ev_X4_isFull G hs h) ?_
  refine z_ifB_eq (tgt := 8) dX4_append_4 (by decide) (fun c4 => ?_) (fun c4 => absurd (of_decide_eq_true c4) (by omega))
  refine z_aload_n dX4_append_8 rfl ?_
  refine z_getR (j := (s + 2)) dX4_append_9 fl_X4_18 (isSeq.r1 hs) ?_
  refine z_aload_n dX4_append_12 rfl ?_
  refine z_getI dX4_append_13 fl_X4_25 (isSeq.f3 hs) h.n ?_
  refine z_iload_n dX4_append_16 rfl ?_
  refine z_iastN dX4_append_17 (isSeq.e hs) (by omega) (by decide) ?_
  refine z_aload_n dX4_append_18 rfl ?_
  refine z_getR (j := (s + 3)) dX4_append_19 fl_X4_22 (isSeq.r2 hs) ?_
  refine z_aload_n dX4_append_22 rfl ?_
  refine z_getI dX4_append_23 fl_X4_25 (isSeq.f3 hs) h.n ?_
  refine z_iconst (v := nI 0) dX4_append_26 (by decide) ?_
  refine z_iastN dX4_append_27 (isSeq.p hs) (by omega) (by decide) ?_
  refine z_aload_n dX4_append_28 rfl ?_
  refine z_dup dX4_append_29 rfl ?_
  refine z_getI dX4_append_30 fl_X4_25 (isSeq.f3 hs) h.n ?_
  refine z_iconst (v := nI 1) dX4_append_33 (by decide) ?_
  refine z_iaddN dX4_append_34 ?_
  refine z_putI dX4_append_35 fp_X4_25 (isSeq.f3 hs) ?_
  exact z_vret rfl dX4_append_38 ⟨rfl, rfl⟩
def toN (E : Nat → Nat) (e S n : Nat) : Nat := cntN (fun k => decide (E k = e) && S.testBit k) n
set_option maxRecDepth 100000 in
theorem lp_X4_timesOf (G : Gt) {s a b n : Nat} {E Q : Nat → Nat} {e S : Nat} {μ : Mm} (hs : isSeq s) (h : seqOK μ s a b n E Q) (he : e < 2 ^ 31) (hS : S < 2 ^ 31) : ∀ (f k : Nat), k + f = n →
    Zs G 0 Y_X4_timesOf (fnN G (fun v m => v = some (.int (nI (toN E e S n))) ∧ m = μ)) 5 [(0, rf G s), (1, .int (nI e)), (2, .int (nI S)), (3, .int (nI (toN E e S k))), (4, .int (nI k))] [] μ := by
  intro f
  have hn := h.le
  have hp := p1024 hn
  have hp1 := ppos n
  have hg := h.g
  have hab := ab_le hg.2.2.2.1 hg.2.2.2.2.2
  induction f with
  | zero =>
    intro k hf
    refine z_iload dX4_timesOf_5 rfl ?_
    refine z_aload_n dX4_timesOf_7 rfl ?_
    refine z_getI dX4_timesOf_8 fl_X4_25 (isSeq.f3 hs) h.n ?_
    refine z_icmpN_ge (tgt := 43) dX4_timesOf_11 (by decide) (by omega) (by omega) (fun c11 => ?_) (fun c11 => absurd c11 (by omega))
    refine z_iload_n dX4_timesOf_43 rfl ?_
    exact z_ret (ty := none) (v := none) rfl dX4_timesOf_44 ⟨by rw [show k = n by omega], rfl⟩
  | succ f ih =>
    intro k hf
    refine z_iload dX4_timesOf_5 rfl ?_
    refine z_aload_n dX4_timesOf_7 rfl ?_
    refine z_getI dX4_timesOf_8 fl_X4_25 (isSeq.f3 hs) h.n ?_
    refine z_icmpN_ge (tgt := 43) dX4_timesOf_11 (by decide) (by omega) (by omega) (fun c11 => absurd c11 (by omega)) (fun c11 => ?_)
    refine z_aload_n dX4_timesOf_14 rfl ?_
    refine z_getR (j := (s + 2)) dX4_timesOf_15 fl_X4_18 (isSeq.r1 hs) ?_
    refine z_iload dX4_timesOf_18 rfl ?_
    refine z_ialdN dX4_timesOf_20 (isSeq.e hs) (by omega) (by decide) (h.e (by omega)) ?_
    refine z_iload_n dX4_timesOf_21 rfl ?_
    have q0 := h.el (show k < n by omega)
    refine z_icmpN_ne (tgt := 37) dX4_timesOf_22 (by decide) (by omega) (by omega) (fun c22 => ?_) (fun c22 => ?_)
    · refine z_iinc (v := nI (k + 1)) (lv' := [(4, _), (0, _), (1, _), (2, _), (3, _)]) dX4_timesOf_37 rfl (nI_inc _ 1) (by decide) rfl ?_
      refine z_goto (tgt := 5) dX4_timesOf_40 (by decide) ?_
      have q := ih (k + 1) (by omega)
      rw [show toN E e S (k + 1) = toN E e S k by simp [toN, cntN, c22]] at q
      refine z_sub (lv' := [(0, _), (1, _), (2, _), (3, _), (4, _)]) rfl ?_
      exact q
    · refine z_iload_n dX4_timesOf_25 rfl ?_
      refine z_iload dX4_timesOf_26 rfl ?_
      refine z_ishrN dX4_timesOf_28 (by omega) (by omega) ?_
      refine z_iconst (v := nI 1) dX4_timesOf_29 (by decide) ?_
      refine z_iandN dX4_timesOf_30 ?_
      refine z_ifT_eq (tgt := 37) dX4_timesOf_31 (by decide) (fun c31 => ?_) (fun c31 => ?_)
      · refine z_iinc (v := nI (k + 1)) (lv' := [(4, _), (0, _), (1, _), (2, _), (3, _)]) dX4_timesOf_37 rfl (nI_inc _ 1) (by decide) rfl ?_
        refine z_goto (tgt := 5) dX4_timesOf_40 (by decide) ?_
        have q := ih (k + 1) (by omega)
        rw [show toN E e S (k + 1) = toN E e S k by simp [toN, cntN, c31]] at q
        refine z_sub (lv' := [(0, _), (1, _), (2, _), (3, _), (4, _)]) rfl ?_
        exact q
      · refine z_iinc (v := nI (toN E e S k + 1)) (lv' := [(3, _), (0, _), (1, _), (2, _), (4, _)]) dX4_timesOf_34 rfl (nI_inc _ 1) (by decide) rfl ?_
        refine z_iinc (v := nI (k + 1)) (lv' := [(4, _), (3, _), (0, _), (1, _), (2, _)]) dX4_timesOf_37 rfl (nI_inc _ 1) (by decide) rfl ?_
        refine z_goto (tgt := 5) dX4_timesOf_40 (by decide) ?_
        have q := ih (k + 1) (by omega)
        rw [show toN E e S (k + 1) = toN E e S k + 1 by simp [toN, cntN, c22, c31]] at q
        refine z_sub (lv' := [(0, _), (1, _), (2, _), (3, _), (4, _)]) rfl ?_
        exact q
set_option maxRecDepth 100000 in
theorem ev_X4_timesOf (G : Gt) {s a b n : Nat} {E Q : Nat → Nat} {e S : Nat} {μ : Mm} (hs : isSeq s) (h : seqOK μ s a b n E Q) (he : e < 2 ^ 31) (hS : S < 2 ^ 31) : EVr G 0 Y_X4_timesOf [rf G s, .int (nI e), .int (nI S)] μ (.int (nI (toN E e S n))) := by
  have hn := h.le
  have hp := p1024 hn
  have hp1 := ppos n
  refine ev_of (by decide) (Nat.le_of_ble_eq_true rfl) ?_
  show Zs G 0 Y_X4_timesOf (fnN G _) 0 [(0, rf G s), (1, .int (nI e)), (2, .int (nI S))] [] μ
  refine z_iconst (v := nI 0) dX4_timesOf_0 (by decide) ?_
  refine z_istore_n (lv' := [(3, _), (0, _), (1, _), (2, _)]) dX4_timesOf_1 rfl (by decide) rfl ?_
  refine z_iconst (v := nI 0) dX4_timesOf_2 (by decide) ?_
  refine z_istore (lv' := [(4, _), (3, _), (0, _), (1, _), (2, _)]) dX4_timesOf_3 (by decide) rfl ?_
  refine z_sub (lv' := [(0, _), (1, _), (2, _), (3, _), (4, _)]) rfl ?_
  exact lp_X4_timesOf G hs h he hS n 0 (by omega)
def poN (Q : Nat → Nat) (p n : Nat) : Nat := setN (fun k => decide (Q k = p)) n
theorem poN_lt (Q : Nat → Nat) (p n : Nat) : poN Q p n < 2 ^ n := setN_lt _ n
set_option maxRecDepth 100000 in
theorem lp_X4_placesOf (G : Gt) {s a b n : Nat} {E Q : Nat → Nat} {p : Nat} {μ : Mm} (hs : isSeq s) (h : seqOK μ s a b n E Q) (hp6 : p < 6) : ∀ (f k : Nat), k + f = n →
    Zs G 0 Y_X4_placesOf (fnN G (fun v m => v = some (.int (nI (poN Q p n))) ∧ m = μ)) 4 [(0, rf G s), (1, .int (nI p)), (2, .int (nI (poN Q p k))), (3, .int (nI k))] [] μ := by
  intro f
  have hn := h.le
  have hp := p1024 hn
  have hp1 := ppos n
  have hg := h.g
  have hab := ab_le hg.2.2.2.1 hg.2.2.2.2.2
  induction f with
  | zero =>
    intro k hf
    refine z_iload_n dX4_placesOf_4 rfl ?_
    refine z_aload_n dX4_placesOf_5 rfl ?_
    refine z_getI dX4_placesOf_6 fl_X4_25 (isSeq.f3 hs) h.n ?_
    refine z_icmpN_ge (tgt := 34) dX4_placesOf_9 (by decide) (by omega) (by omega) (fun c9 => ?_) (fun c9 => absurd c9 (by omega))
    refine z_iload_n dX4_placesOf_34 rfl ?_
    exact z_ret (ty := none) (v := none) rfl dX4_placesOf_35 ⟨by rw [show k = n by omega], rfl⟩
  | succ f ih =>
    intro k hf
    have q0 := h.pl (show k < n by omega)
    have q9 := p1024 (show k ≤ 10 by omega)
    refine z_iload_n dX4_placesOf_4 rfl ?_
    refine z_aload_n dX4_placesOf_5 rfl ?_
    refine z_getI dX4_placesOf_6 fl_X4_25 (isSeq.f3 hs) h.n ?_
    refine z_icmpN_ge (tgt := 34) dX4_placesOf_9 (by decide) (by omega) (by omega) (fun c9 => absurd c9 (by omega)) (fun c9 => ?_)
    refine z_aload_n dX4_placesOf_12 rfl ?_
    refine z_getR (j := (s + 3)) dX4_placesOf_13 fl_X4_22 (isSeq.r2 hs) ?_
    refine z_iload_n dX4_placesOf_16 rfl ?_
    refine z_ialdN dX4_placesOf_17 (isSeq.p hs) (by omega) (by decide) (h.p (by omega)) ?_
    refine z_iload_n dX4_placesOf_18 rfl ?_
    refine z_icmpN_ne (tgt := 28) dX4_placesOf_19 (by decide) (by omega) (by omega) (fun c19 => ?_) (fun c19 => ?_)
    · refine z_iinc (v := nI (k + 1)) (lv' := [(3, _), (0, _), (1, _), (2, _)]) dX4_placesOf_28 rfl (nI_inc _ 1) (by decide) rfl ?_
      refine z_goto (tgt := 4) dX4_placesOf_31 (by decide) ?_
      have q := ih (k + 1) (by omega)
      rw [show poN Q p (k + 1) = poN Q p k by simp [poN, setN, c19]] at q
      refine z_sub (lv' := [(0, _), (1, _), (2, _), (3, _)]) rfl ?_
      exact q
    · refine z_iload_n dX4_placesOf_22 rfl ?_
      refine z_iconst (v := nI 1) dX4_placesOf_23 (by decide) ?_
      refine z_iload_n dX4_placesOf_24 rfl ?_
      refine z_ishlN dX4_placesOf_25 (by omega) (by omega) ?_
      refine z_iorN dX4_placesOf_26 ?_
      refine z_istore_n (lv' := [(2, _), (0, _), (1, _), (3, _)]) dX4_placesOf_27 rfl (by decide) rfl ?_
      refine z_iinc (v := nI (k + 1)) (lv' := [(3, _), (2, _), (0, _), (1, _)]) dX4_placesOf_28 rfl (nI_inc _ 1) (by decide) rfl ?_
      refine z_goto (tgt := 4) dX4_placesOf_31 (by decide) ?_
      have q := ih (k + 1) (by omega)
      rw [show poN Q p (k + 1) = poN Q p k ||| 1 * 2 ^ k by simp [poN, setN, c19]] at q
      refine z_sub (lv' := [(0, _), (1, _), (2, _), (3, _)]) rfl ?_
      exact q
set_option maxRecDepth 100000 in
theorem ev_X4_placesOf (G : Gt) {s a b n : Nat} {E Q : Nat → Nat} {p : Nat} {μ : Mm} (hs : isSeq s) (h : seqOK μ s a b n E Q) (hp6 : p < 6) : EVr G 0 Y_X4_placesOf [rf G s, .int (nI p)] μ (.int (nI (poN Q p n))) := by
  have hn := h.le
  have hp := p1024 hn
  have hp1 := ppos n
  refine ev_of (by decide) (Nat.le_of_ble_eq_true rfl) ?_
  show Zs G 0 Y_X4_placesOf (fnN G _) 0 [(0, rf G s), (1, .int (nI p))] [] μ
  refine z_iconst (v := nI 0) dX4_placesOf_0 (by decide) ?_
  refine z_istore_n (lv' := [(2, _), (0, _), (1, _)]) dX4_placesOf_1 rfl (by decide) rfl ?_
  refine z_iconst (v := nI 0) dX4_placesOf_2 (by decide) ?_
  refine z_istore_n (lv' := [(3, _), (2, _), (0, _), (1, _)]) dX4_placesOf_3 rfl (by decide) rfl ?_
  refine z_sub (lv' := [(0, _), (1, _), (2, _), (3, _)]) rfl ?_
  exact lp_X4_placesOf G hs h hp6 n 0 (by omega)
/-- an element that stands before the place p, alike, and not in S -/
def skL (E : Nat → Nat) (S p : Nat) : Nat → Bool
  | 0 => false
  | k + 1 => skL E S p k || (decide (E k = E p) && !S.testBit k)
def skN (E : Nat → Nat) (S p : Nat) : Bool := skL E S p p
theorem skL_true {E : Nat → Nat} {S p : Nat} : ∀ k, skL E S p k = true ↔ ∃ j, j < k ∧ E j = E p ∧ S.testBit j = false := by
  intro k
  induction k with
  | zero => simp [skL]
  | succ k ih =>
    unfold skL
    simp only [Bool.or_eq_true, ih, Bool.and_eq_true, decide_eq_true_eq, Bool.not_eq_true']
    constructor
    · rintro (⟨j, h1, h2⟩ | h)
      · exact ⟨j, by omega, h2⟩
      · exact ⟨k, by omega, h⟩
    · rintro ⟨j, h1, h2⟩
      by_cases hj : j = k
      · subst hj; exact Or.inr h2
      · exact Or.inl ⟨j, by omega, h2⟩
set_option maxRecDepth 100000 in
theorem lp_X4_skipsBefore (G : Gt) {s a b n : Nat} {E Q : Nat → Nat} {p S : Nat} {μ : Mm} (hs : isSeq s) (h : seqOK μ s a b n E Q) (hpn : p < n) (hS : S < 2 ^ 31) : ∀ (f k : Nat), k + f = p → skL E S p k = false →
    Zs G 0 Y_X4_skipsBefore (fnN G (fun v m => v = some (.int (bI (skN E S p))) ∧ m = μ)) 2 [(0, rf G s), (1, .int (nI p)), (2, .int (nI S)), (3, .int (nI k))] [] μ := by
  intro f
  have hn := h.le
  have hp := p1024 hn
  have hp1 := ppos n
  have hg := h.g
  have hab := ab_le hg.2.2.2.1 hg.2.2.2.2.2
  induction f with
  | zero =>
    intro k hf hk
    refine z_iload_n dX4_skipsBefore_2 rfl ?_
    refine z_iload_n dX4_skipsBefore_3 rfl ?_
    refine z_icmpN_ge (tgt := 38) dX4_skipsBefore_4 (by decide) (by omega) (by omega) (fun c4 => ?_) (fun c4 => absurd c4 (by omega))
    refine z_iconst (v := nI 0) dX4_skipsBefore_38 (by decide) ?_
    exact z_zret rfl rfl dX4_skipsBefore_39 ⟨by rw [show k = p by omega] at hk; rw [skN, hk]; rfl, rfl⟩
  | succ f ih =>
    intro k hf hk
    have q0 := h.el (show k < n by omega)
    have q1 := h.el hpn
    refine z_iload_n dX4_skipsBefore_2 rfl ?_
    refine z_iload_n dX4_skipsBefore_3 rfl ?_
    refine z_icmpN_ge (tgt := 38) dX4_skipsBefore_4 (by decide) (by omega) (by omega) (fun c4 => absurd c4 (by omega)) (fun c4 => ?_)
    refine z_aload_n dX4_skipsBefore_7 rfl ?_
    refine z_getR (j := (s + 2)) dX4_skipsBefore_8 fl_X4_18 (isSeq.r1 hs) ?_
    refine z_iload_n dX4_skipsBefore_11 rfl ?_
    refine z_ialdN dX4_skipsBefore_12 (isSeq.e hs) (by omega) (by decide) (h.e (by omega)) ?_
    refine z_aload_n dX4_skipsBefore_13 rfl ?_
    refine z_getR (j := (s + 2)) dX4_skipsBefore_14 fl_X4_18 (isSeq.r1 hs) ?_
    refine z_iload_n dX4_skipsBefore_17 rfl ?_
    refine z_ialdN dX4_skipsBefore_18 (isSeq.e hs) (by omega) (by decide) (h.e (by omega)) ?_
    refine z_icmpN_ne (tgt := 32) dX4_skipsBefore_19 (by decide) (by omega) (by omega) (fun c19 => ?_) (fun c19 => ?_)
    · refine z_iinc (v := nI (k + 1)) (lv' := [(3, _), (0, _), (1, _), (2, _)]) dX4_skipsBefore_32 rfl (nI_inc _ 1) (by decide) rfl ?_
      refine z_goto (tgt := 2) dX4_skipsBefore_35 (by decide) ?_
      refine z_sub (lv' := [(0, _), (1, _), (2, _), (3, _)]) rfl ?_
      exact ih (k + 1) (by omega) (by simp [skL, hk, c19])
    · refine z_iload_n dX4_skipsBefore_22 rfl ?_
      refine z_iload_n dX4_skipsBefore_23 rfl ?_
      refine z_ishrN dX4_skipsBefore_24 (by omega) (by omega) ?_
      refine z_iconst (v := nI 1) dX4_skipsBefore_25 (by decide) ?_
      refine z_iandN dX4_skipsBefore_26 ?_
      refine z_ifT_ne (tgt := 32) dX4_skipsBefore_27 (by decide) (fun c27 => ?_) (fun c27 => ?_)
      · refine z_iinc (v := nI (k + 1)) (lv' := [(3, _), (0, _), (1, _), (2, _)]) dX4_skipsBefore_32 rfl (nI_inc _ 1) (by decide) rfl ?_
        refine z_goto (tgt := 2) dX4_skipsBefore_35 (by decide) ?_
        refine z_sub (lv' := [(0, _), (1, _), (2, _), (3, _)]) rfl ?_
        exact ih (k + 1) (by omega) (by simp [skL, hk, c27])
      · refine z_iconst (v := nI 1) dX4_skipsBefore_30 (by decide) ?_
        exact z_zret rfl rfl dX4_skipsBefore_31 ⟨by rw [show skN E S p = true from (skL_true p).mpr ⟨k, by omega, c19, c27⟩]; rfl, rfl⟩
set_option maxRecDepth 100000 in
theorem ev_X4_skipsBefore (G : Gt) {s a b n : Nat} {E Q : Nat → Nat} {p S : Nat} {μ : Mm} (hs : isSeq s) (h : seqOK μ s a b n E Q) (hpn : p < n) (hS : S < 2 ^ 31) : EVr G 0 Y_X4_skipsBefore [rf G s, .int (nI p), .int (nI S)] μ (.int (bI (skN E S p))) := by
  have hn := h.le
  have hp := p1024 hn
  have hp1 := ppos n
  refine ev_of (by decide) (Nat.le_of_ble_eq_true rfl) ?_
  show Zs G 0 Y_X4_skipsBefore (fnN G _) 0 [(0, rf G s), (1, .int (nI p)), (2, .int (nI S))] [] μ
  refine z_iconst (v := nI 0) dX4_skipsBefore_0 (by decide) ?_
  refine z_istore_n (lv' := [(3, _), (0, _), (1, _), (2, _)]) dX4_skipsBefore_1 rfl (by decide) rfl ?_
  refine z_sub (lv' := [(0, _), (1, _), (2, _), (3, _)]) rfl ?_
  exact lp_X4_skipsBefore G hs h hpn hS p 0 (by omega) rfl
/-- no place of S has skipped an element alike -/
def tfL (E : Nat → Nat) (S : Nat) : Nat → Bool
  | 0 => true
  | k + 1 => tfL E S k && !(S.testBit k && skN E S k)
def tfN (E : Nat → Nat) (S n : Nat) : Bool := tfL E S n
theorem tfL_false {E : Nat → Nat} {S k : Nat} (h : tfL E S k = false) : ∀ j, k ≤ j → tfL E S j = false := by
  intro j hj
  induction j with
  | zero => rw [show k = 0 by omega] at h; exact h
  | succ j ih =>
    by_cases e : k = j + 1
    · rw [← e]; exact h
    · unfold tfL; rw [ih (by omega)]; rfl
set_option maxRecDepth 100000 in
theorem lp_X4_takesFirstOnes (G : Gt) {s a b n : Nat} {E Q : Nat → Nat} {S : Nat} {μ : Mm} (hs : isSeq s) (h : seqOK μ s a b n E Q) (hS : S < 2 ^ 31) : ∀ (f k : Nat), 1 ≤ k → k ≤ 11 → n - k = f → tfL E S k = true →
    Zs G 1 Y_X4_takesFirstOnes (fnN G (fun v m => v = some (.int (bI (tfN E S n))) ∧ m = μ)) 2 [(0, rf G s), (1, .int (nI S)), (2, .int (nI k))] [] μ := by
  intro f
  have hn := h.le
  have hp := p1024 hn
  have hp1 := ppos n
  have hg := h.g
  have hab := ab_le hg.2.2.2.1 hg.2.2.2.2.2
  induction f with
  | zero =>
    intro k hk1 hk2 hf hk
    refine z_iload_n dX4_takesFirstOnes_2 rfl ?_
    refine z_aload_n dX4_takesFirstOnes_3 rfl ?_
    refine z_getI dX4_takesFirstOnes_4 fl_X4_25 (isSeq.f3 hs) h.n ?_
    refine z_icmpN_ge (tgt := 35) dX4_takesFirstOnes_7 (by decide) (by omega) (by omega) (fun c7 => ?_) (fun c7 => absurd c7 (by omega))
    refine z_iconst (v := nI 1) dX4_takesFirstOnes_35 (by decide) ?_
    exact z_zret rfl rfl dX4_takesFirstOnes_36 ⟨by cases q : tfN E S n with
      | true => rfl
      | false => exact absurd (tfL_false q k (by omega)) (by rw [hk]; decide), rfl⟩
  | succ f ih =>
    intro k hk1 hk2 hf hk
    refine z_iload_n dX4_takesFirstOnes_2 rfl ?_
    refine z_aload_n dX4_takesFirstOnes_3 rfl ?_
    refine z_getI dX4_takesFirstOnes_4 fl_X4_25 (isSeq.f3 hs) h.n ?_
    refine z_icmpN_ge (tgt := 35) dX4_takesFirstOnes_7 (by decide) (by omega) (by omega) (fun c7 => absurd c7 (by omega)) (fun c7 => ?_)
    refine z_iload_n dX4_takesFirstOnes_10 rfl ?_
    refine z_iload_n dX4_takesFirstOnes_11 rfl ?_
    refine z_ishrN dX4_takesFirstOnes_12 (by omega) (by omega) ?_
    refine z_iconst (v := nI 1) dX4_takesFirstOnes_13 (by decide) ?_
    refine z_iandN dX4_takesFirstOnes_14 ?_
    refine z_ifT_eq (tgt := 29) dX4_takesFirstOnes_15 (by decide) (fun c15 => ?_) (fun c15 => ?_)
    · refine z_iinc (v := nI (k + 1)) (lv' := [(2, _), (0, _), (1, _)]) dX4_takesFirstOnes_29 rfl (nI_inc _ 1) (by decide) rfl ?_
      refine z_goto (tgt := 2) dX4_takesFirstOnes_32 (by decide) ?_
      refine z_sub (lv' := [(0, _), (1, _), (2, _)]) rfl ?_
      exact ih (k + 1) (by omega) (by omega) (by omega) (by unfold tfL; rw [hk, c15]; rfl)
    · refine z_aload_n dX4_takesFirstOnes_18 rfl ?_
      refine z_iload_n dX4_takesFirstOnes_19 rfl ?_
      refine z_iload_n dX4_takesFirstOnes_20 rfl ?_
      refine z_cV2 dX4_takesFirstOnes_21 lk_X4_51 (by decide) (isSeq.o hs) rfl (Nat.le_of_ble_eq_true rfl) (ev_X4_skipsBefore G hs h (by omega) (by omega)) ?_
      refine z_ifB_eq (tgt := 29) dX4_takesFirstOnes_24 (by decide) (fun c24 => ?_) (fun c24 => ?_)
      · refine z_iinc (v := nI (k + 1)) (lv' := [(2, _), (0, _), (1, _)]) dX4_takesFirstOnes_29 rfl (nI_inc _ 1) (by decide) rfl ?_
        refine z_goto (tgt := 2) dX4_takesFirstOnes_32 (by decide) ?_
        refine z_sub (lv' := [(0, _), (1, _), (2, _)]) rfl ?_
        exact ih (k + 1) (by omega) (by omega) (by omega) (by unfold tfL; rw [hk, c24, Bool.and_false]; rfl)
      · refine z_iconst (v := nI 0) dX4_takesFirstOnes_27 (by decide) ?_
        exact z_zret rfl rfl dX4_takesFirstOnes_28 ⟨by rw [show tfN E S n = false from tfL_false (k := k + 1) (by unfold tfL; rw [hk, c15, c24]; rfl) n (by omega)]; rfl, rfl⟩
set_option maxRecDepth 100000 in
theorem ev_X4_takesFirstOnes (G : Gt) {s a b n : Nat} {E Q : Nat → Nat} {S : Nat} {μ : Mm} (hs : isSeq s) (h : seqOK μ s a b n E Q) (hS : S < 2 ^ 31) : EVr G 1 Y_X4_takesFirstOnes [rf G s, .int (nI S)] μ (.int (bI (tfN E S n))) := by
  have hn := h.le
  have hp := p1024 hn
  have hp1 := ppos n
  refine ev_of (by decide) (Nat.le_of_ble_eq_true rfl) ?_
  show Zs G 1 Y_X4_takesFirstOnes (fnN G _) 0 [(0, rf G s), (1, .int (nI S))] [] μ
  refine z_iconst (v := nI 1) dX4_takesFirstOnes_0 (by decide) ?_
  refine z_istore_n (lv' := [(2, _), (0, _), (1, _)]) dX4_takesFirstOnes_1 rfl (by decide) rfl ?_
  refine z_sub (lv' := [(0, _), (1, _), (2, _)]) rfl ?_
  exact lp_X4_takesFirstOnes G hs h hS (n - 1) 1 (by omega) (by omega) (by omega) (by simp [tfL, skN, skL])
set_option maxRecDepth 100000 in
theorem lp_X4_layPlaces (G : Gt) {s a b n S p : Nat} {E Q : Nat → Nat} {μ0 : Mm} (hs : isSeq s) (h : seqOK μ0 s a b n E Q) (hS : S < 2 ^ 31) : ∀ (f k : Nat) (μ : Mm), k + f = n → sm (s + 3) (s + 4) μ0 μ →
    (∀ j : Nat, μ.2.1 (s + 3) j = if j < k ∧ S.testBit j = true then nI p else μ0.2.1 (s + 3) j) →
    Zs G 0 Y_X4_layPlaces (fnN G (fun v m => v = none ∧ sm (s + 3) (s + 4) μ0 m ∧ ∀ j : Nat, m.2.1 (s + 3) j = if j < n ∧ S.testBit j = true then nI p else μ0.2.1 (s + 3) j)) 2 [(0, rf G s), (1, .int (nI S)), (2, .int (nI p)), (3, .int (nI k))] [] μ := by
  intro f
  have hn := h.le
  induction f with
  | zero =>
    intro k μ hf hi hk
    refine z_iload_n dX4_layPlaces_2 rfl ?_
    refine z_aload_n dX4_layPlaces_3 rfl ?_
    refine z_getI dX4_layPlaces_4 fl_X4_25 (isSeq.f3 hs) ((hi.F 3 (by omega)).trans h.n) ?_
    refine z_icmpN_ge (tgt := 31) dX4_layPlaces_7 (by decide) (by omega) (by omega) (fun c7 => ?_) (fun c7 => absurd c7 (by omega))
    exact z_vret rfl dX4_layPlaces_31 ⟨rfl, hi, by rw [show n = k by omega]; exact hk⟩
  | succ f ih =>
    intro k μ hf hi hk
    refine z_iload_n dX4_layPlaces_2 rfl ?_
    refine z_aload_n dX4_layPlaces_3 rfl ?_
    refine z_getI dX4_layPlaces_4 fl_X4_25 (isSeq.f3 hs) ((hi.F 3 (by omega)).trans h.n) ?_
    refine z_icmpN_ge (tgt := 31) dX4_layPlaces_7 (by decide) (by omega) (by omega) (fun c7 => absurd c7 (by omega)) (fun c7 => ?_)
    refine z_iload_n dX4_layPlaces_10 rfl ?_
    refine z_iload_n dX4_layPlaces_11 rfl ?_
    refine z_ishrN dX4_layPlaces_12 (by omega) (by omega) ?_
    refine z_iconst (v := nI 1) dX4_layPlaces_13 (by decide) ?_
    refine z_iandN dX4_layPlaces_14 ?_
    refine z_ifT_eq (tgt := 25) dX4_layPlaces_15 (by decide) (fun c15 => ?_) (fun c15 => ?_)
    · refine z_iinc (v := nI (k + 1)) (lv' := [(3, _), (0, _), (1, _), (2, _)]) dX4_layPlaces_25 rfl (nI_inc _ 1) (by decide) rfl ?_
      refine z_goto (tgt := 2) dX4_layPlaces_28 (by decide) ?_
      refine z_sub (lv' := [(0, _), (1, _), (2, _), (3, _)]) rfl ?_
      refine ih (k + 1) μ (by omega) hi (fun j => ?_)
      rw [hk j]
      by_cases e : j = k
      · subst e; simp [c15]
      · have : j < k + 1 ↔ j < k := by omega
        simp [this]
    · refine z_aload_n dX4_layPlaces_18 rfl ?_
      refine z_getR (j := (s + 3)) dX4_layPlaces_19 fl_X4_22 (isSeq.r2 hs) ?_
      refine z_iload_n dX4_layPlaces_22 rfl ?_
      refine z_iload_n dX4_layPlaces_23 rfl ?_
      refine z_iastN dX4_layPlaces_24 (isSeq.p hs) (by omega) (by decide) ?_
      refine z_iinc (v := nI (k + 1)) (lv' := [(3, _), (0, _), (1, _), (2, _)]) dX4_layPlaces_25 rfl (nI_inc _ 1) (by decide) rfl ?_
      refine z_goto (tgt := 2) dX4_layPlaces_28 (by decide) ?_
      refine z_sub (lv' := [(0, _), (1, _), (2, _), (3, _)]) rfl ?_
      refine ih (k + 1) _ (by omega) (hi.uR (by omega) (by omega)) (fun j => ?_)
      rw [uR_s]
      by_cases e : j = k
      · subst e; rw [upd_s]; simp [c15]
      · rw [upd_n _ _ e, hk j]
        have : j < k + 1 ↔ j < k := by omega
        simp [this]
set_option maxRecDepth 100000 in
theorem ev_X4_layPlaces (G : Gt) {s a b n S p : Nat} {E Q : Nat → Nat} {μ : Mm} (hs : isSeq s) (h : seqOK μ s a b n E Q) (hS : S < 2 ^ 31) : EV G 0 Y_X4_layPlaces [rf G s, .int (nI S), .int (nI p)] μ (fun v m => v = none ∧ sm (s + 3) (s + 4) μ m ∧ ∀ j : Nat, m.2.1 (s + 3) j = if j < n ∧ S.testBit j = true then nI p else μ.2.1 (s + 3) j) := by
  refine ev_of (by decide) (Nat.le_of_ble_eq_true rfl) ?_
  show Zs G 0 Y_X4_layPlaces (fnN G _) 0 [(0, rf G s), (1, .int (nI S)), (2, .int (nI p))] [] μ
  refine z_iconst (v := nI 0) dX4_layPlaces_0 (by decide) ?_
  refine z_istore_n (lv' := [(3, _), (0, _), (1, _), (2, _)]) dX4_layPlaces_1 rfl (by decide) rfl ?_
  refine z_sub (lv' := [(0, _), (1, _), (2, _), (3, _)]) rfl ?_
  exact lp_X4_layPlaces G hs h hS n 0 μ (by omega) sm.rf (fun j => by simp)
/-- a row from which the place p is taken out, up to the place k -/
def tkN (E : Nat → Nat) (p k j : Nat) : Nat := if p ≤ j ∧ j < k then E (j + 1) else E j
def rmN (E : Nat → Nat) (p j : Nat) : Nat := if j < p then E j else E (j + 1)
set_option maxRecDepth 100000 in
theorem lp_X4_takeOut (G : Gt) {s n p : Nat} {e : Int32} {E Q : Nat → Nat} {μ0 : Mm} (hs : isSeq s) (hn : n ≤ 10) (hp : p < n) : ∀ (f k : Nat) (μ : Mm), k + f = n - 1 → p ≤ k → sm (s + 2) (s + 4) μ0 μ → μ0.1 s 3 = nI (n - 1) →
    (∀ j : Nat, j < n → μ.2.1 (s + 2) j = nI (tkN E p k j)) → (∀ j : Nat, j < n → μ.2.1 (s + 3) j = nI (tkN Q p k j)) →
    Zs G 1 Y_X4_takeOut (fnN G (fun v m => v = some (.int e) ∧ sm (s + 2) (s + 4) μ0 m ∧ (∀ j : Nat, j < n → m.2.1 (s + 2) j = nI (tkN E p (n - 1) j)) ∧ (∀ j : Nat, j < n → m.2.1 (s + 3) j = nI (tkN Q p (n - 1) j)))) 29 [(0, rf G s), (2, .int e), (3, .int (nI k))] [] μ := by
  intro f
  induction f with
  | zero =>
    intro k μ hf hpk hi h0 h1 h2
    refine z_iload_n dX4_takeOut_29 rfl ?_
    refine z_aload_n dX4_takeOut_30 rfl ?_
    refine z_getI dX4_takeOut_31 fl_X4_25 (isSeq.f3 hs) ((hi.F 3 (by omega)).trans h0) ?_
    refine z_icmpN_ge (tgt := 71) dX4_takeOut_34 (by decide) (by omega) (by omega) (fun c34 => ?_) (fun c34 => absurd c34 (by omega))
    refine z_iload_n dX4_takeOut_71 rfl ?_
    exact z_ret (ty := none) (v := none) rfl dX4_takeOut_72 ⟨rfl, hi, by rw [show n - 1 = k by omega]; exact h1, by rw [show n - 1 = k by omega]; exact h2⟩
  | succ f ih =>
    intro k μ hf hpk hi h0 h1 h2
    refine z_iload_n dX4_takeOut_29 rfl ?_
    refine z_aload_n dX4_takeOut_30 rfl ?_
    refine z_getI dX4_takeOut_31 fl_X4_25 (isSeq.f3 hs) ((hi.F 3 (by omega)).trans h0) ?_
    refine z_icmpN_ge (tgt := 71) dX4_takeOut_34 (by decide) (by omega) (by omega) (fun c34 => absurd c34 (by omega)) (fun c34 => ?_)
    refine z_aload_n dX4_takeOut_37 rfl ?_
    refine z_getR (j := (s + 2)) dX4_takeOut_38 fl_X4_18 (isSeq.r1 hs) ?_
    refine z_iload_n dX4_takeOut_41 rfl ?_
    refine z_aload_n dX4_takeOut_42 rfl ?_
    refine z_getR (j := (s + 2)) dX4_takeOut_43 fl_X4_18 (isSeq.r1 hs) ?_
    refine z_iload_n dX4_takeOut_46 rfl ?_
    refine z_iconst (v := nI 1) dX4_takeOut_47 (by decide) ?_
    refine z_iaddN dX4_takeOut_48 ?_
    refine z_ialdN dX4_takeOut_49 (isSeq.e hs) (by omega) (by decide) rfl ?_
    refine z_iastN dX4_takeOut_50 (isSeq.e hs) (by omega) (by decide) ?_
    refine z_aload_n dX4_takeOut_51 rfl ?_
    refine z_getR (j := (s + 3)) dX4_takeOut_52 fl_X4_22 (isSeq.r2 hs) ?_
    refine z_iload_n dX4_takeOut_55 rfl ?_
    refine z_aload_n dX4_takeOut_56 rfl ?_
    refine z_getR (j := (s + 3)) dX4_takeOut_57 fl_X4_22 (isSeq.r2 hs) ?_
    refine z_iload_n dX4_takeOut_60 rfl ?_
    refine z_iconst (v := nI 1) dX4_takeOut_61 (by decide) ?_
    refine z_iaddN dX4_takeOut_62 ?_
    refine z_ialdN dX4_takeOut_63 (isSeq.p hs) (by omega) (by decide) rfl ?_
    refine z_iastN dX4_takeOut_64 (isSeq.p hs) (by omega) (by decide) ?_
    refine z_iinc (v := nI (k + 1)) (lv' := [(3, _), (0, _), (2, _)]) dX4_takeOut_65 rfl (nI_inc _ 1) (by decide) rfl ?_
    refine z_goto (tgt := 29) dX4_takeOut_68 (by decide) ?_
    refine z_sub (lv' := [(0, _), (2, _), (3, _)]) rfl ?_
    refine ih (k + 1) _ (by omega) (by omega) ((hi.uR (by omega) (by omega)).uR (by omega) (by omega)) h0 ?_ ?_
    · intro j hj
      rw [uR_n _ _ _ (by omega), uR_s]
      by_cases e : j = k
      · subst e
        rw [upd_s, h1 (j + 1) (by omega)]
        simp [tkN, hpk, show ¬ (j + 1 < j) by omega]
      · rw [upd_n _ _ e, h1 j hj]
        have : (p ≤ j ∧ j < k + 1) ↔ (p ≤ j ∧ j < k) := by omega
        simp [tkN, this]
    · intro j hj
      rw [uR_s]
      by_cases e : j = k
      · subst e
        rw [upd_s, uR_n _ _ _ (by omega), h2 (j + 1) (by omega)]
        simp [tkN, hpk, show ¬ (j + 1 < j) by omega]
      · rw [upd_n _ _ e, uR_n _ _ _ (by omega), h2 j hj]
        have : (p ≤ j ∧ j < k + 1) ↔ (p ≤ j ∧ j < k) := by omega
        simp [tkN, this]
theorem Zs.post {G : Gt} {d : Nat} {Y : YC} {P P' : Option Value → Mm → Prop} {pc : Nat} {lv : List (Nat × Value)} {st : List Value} {μ : Mm} (h : ∀ v m, P v m → P' v m) (k : Zs G d Y (fnN G P) pc lv st μ) : Zs G d Y (fnN G P') pc lv st μ := by
  intro p e s m args below meth c H locs ls E hP hD hS hl T hT X
  obtain ⟨t, a1, o, b1, b2, ⟨⟨v, μ', c1, c2, c3⟩, c4⟩, b4⟩ := k p e s m args below meth c H locs ls E hP hD hS hl T hT X
  exact ⟨t, a1, o, b1, b2, ⟨⟨v, μ', c1, h v μ' c2, c3⟩, c4⟩, b4⟩
theorem EV.post {G : Gt} {d : Nat} {Y : YC} {vs : List Value} {P P' : Option Value → Mm → Prop} {μ : Mm} (h : ∀ v m, P v m → P' v m) (k : EV G d Y vs μ P) : EV G d Y vs μ P' := by
  intro sz p e ha hc hk s m args below hf hfit hheap happ
  obtain ⟨n, o, w, r, en, ⟨⟨v, μ', c1, c2, c3⟩, c4⟩, fr⟩ := k sz p e ha hc hk s m args below hf hfit hheap happ
  exact ⟨n, o, w, r, en, ⟨⟨v, μ', c1, h v μ' c2, c3⟩, c4⟩, fr⟩
set_option maxRecDepth 100000 in
theorem ev_X4_takeOut (G : Gt) {s a b n : Nat} {E Q : Nat → Nat} {p : Nat} {μ : Mm} (hs : isSeq s) (h : seqOK μ s a b n E Q) (hpn : p < n) : EV G 1 Y_X4_takeOut [rf G s, .int (nI p)] μ (fun v m => v = some (.int (nI (E p))) ∧ sm s (s + 4) μ m ∧ seqOK m s a b (n - 1) (rmN E p) (rmN Q p)) := by
  have hn := h.le
  have hp := p1024 hn
  have hp1 := ppos n
  refine ev_of (by decide) (Nat.le_of_ble_eq_true rfl) ?_
  show Zs G 1 Y_X4_takeOut (fnN G _) 0 [(0, rf G s), (1, .int (nI p))] [] μ
  refine z_aload_n dX4_takeOut_0 rfl ?_
  refine z_iload_n dX4_takeOut_1 rfl ?_
  refine z_cV1 dX4_takeOut_2 lk_X4_47 (by decide) (isSeq.o hs) rfl (Nat.le_of_ble_eq_true rfl) (ev_X4_hasPlace G hs h) ?_
  refine z_ifB_ne (tgt := 10) dX4_takeOut_5 (by decide) (fun c5 => ?_) (fun c5 => absurd c5 (by rw [inR_N (by omega), decide_eq_true hpn]; decide))
  refine z_aload_n dX4_takeOut_10 rfl ?_
  refine z_getR (j := (s + 2)) dX4_takeOut_11 fl_X4_18 (isSeq.r1 hs) ?_
  refine z_iload_n dX4_takeOut_14 rfl ?_
  refine z_ialdN dX4_takeOut_15 (isSeq.e hs) (by omega) (by decide) (h.e (by omega)) ?_
  refine z_istore_n (lv' := [(2, _), (0, _), (1, _)]) dX4_takeOut_16 rfl (by decide) rfl ?_
  refine z_aload_n dX4_takeOut_17 rfl ?_
  refine z_dup dX4_takeOut_18 rfl ?_
  refine z_getI dX4_takeOut_19 fl_X4_25 (isSeq.f3 hs) h.n ?_
  refine z_iconst (v := nI 1) dX4_takeOut_22 (by decide) ?_
  refine z_isubN dX4_takeOut_23 (by omega) ?_
  refine z_putI dX4_takeOut_24 fp_X4_25 (isSeq.f3 hs) ?_
  refine z_iload_n dX4_takeOut_27 rfl ?_
  refine z_istore_n (lv' := [(3, _), (2, _), (0, _), (1, _)]) dX4_takeOut_28 rfl (by decide) rfl ?_
  refine z_sub (lv' := [(0, _), (2, _), (3, _)]) rfl ?_
  refine Zs.post ?_ (lp_X4_takeOut G (E := E) (Q := Q) (μ0 := uF μ s 3 (nI (n - 1))) hs hn hpn (n - 1 - p) p _ (by omega) (by omega) sm.rf (uF_s _ _ _ _) (fun j hj => ?_) (fun j hj => ?_))
  · rintro v m ⟨hv, h1, h2, h3⟩
    have h9 := (sm.rf (μ := μ) (lo := s) (hi := s + 4)).uF (i := s) (k := 3) (x := nI (n - 1)) (by omega) (by omega)
    refine ⟨hv, h9.trans (h1.mono (by omega) (by omega)), ?_, by omega, ⟨?_, ?_, h.g.2.2⟩, ?_, ?_⟩
    · rw [h1.F 3 (by omega)]; exact uF_s _ _ _ _
    · rw [h1.F 0 (by omega), uF_n _ _ (by omega)]; exact h.g.1
    · rw [h1.F 1 (by omega), uF_n _ _ (by omega)]; exact h.g.2.1
    · intro k hk
      rw [h2 k (by omega)]
      by_cases e : k < p
      · simp [tkN, rmN, e, show ¬ p ≤ k by omega]; exact h.el (by omega)
      · simp [tkN, rmN, e, show p ≤ k by omega, hk]; exact h.el (by omega)
    · intro k hk
      rw [h3 k (by omega)]
      by_cases e : k < p
      · simp [tkN, rmN, e, show ¬ p ≤ k by omega]; exact h.pl (by omega)
      · simp [tkN, rmN, e, show p ≤ k by omega, hk]; exact h.pl (by omega)
  · rw [R_uF, h.e hj]; simp [tkN, show ¬ (p ≤ j ∧ j < p) by omega]
  · rw [R_uF, h.p hj]; simp [tkN, show ¬ (p ≤ j ∧ j < p) by omega]
/-- the sequence at s in m is that at o in μ -/
def cpy (m : Mm) (s : Nat) (μ : Mm) (o : Nat) : Prop := m.1 s 3 = μ.1 o 3 ∧ m.1 (s + 1) 0 = μ.1 (o + 1) 0 ∧ m.1 (s + 1) 1 = μ.1 (o + 1) 1 ∧ (∀ j : Nat, j < 10 → m.2.1 (s + 2) j = μ.2.1 (o + 2) j) ∧ (∀ j : Nat, j < 10 → m.2.1 (s + 3) j = μ.2.1 (o + 3) j)
theorem cpy.ok {m μ : Mm} {s o a b n : Nat} {E Q : Nat → Nat} (h : cpy m s μ o) (k : seqOK μ o a b n E Q) : seqOK m s a b n E Q := by
  obtain ⟨h1, h2, h3, h4, h5⟩ := h
  obtain ⟨k1, k2, ⟨k3, k4, k5⟩, k6, k7⟩ := k
  exact ⟨h1.trans k1, k2, ⟨h2.trans k3, h3.trans k4, k5⟩, fun j hj => ⟨(h4 j (by omega)).trans (k6 j hj).1, (k6 j hj).2⟩, fun j hj => ⟨(h5 j (by omega)).trans (k7 j hj).1, (k7 j hj).2⟩⟩
set_option maxRecDepth 100000 in
theorem lp_X4_copyFrom (G : Gt) {s o : Nat} {μ0 μ1 : Mm} (hs : isSeq s) (ho : isSeq o) (hd : o + 4 ≤ s ∨ s + 4 ≤ o) (h1 : sm s (s + 2) μ0 μ1) (h2 : μ1.1 s 3 = μ0.1 o 3) (h3 : μ1.1 (s + 1) 0 = μ0.1 (o + 1) 0) (h4 : μ1.1 (s + 1) 1 = μ0.1 (o + 1) 1) : ∀ (f k : Nat) (μ : Mm), k + f = 10 → sm (s + 2) (s + 4) μ1 μ →
    (∀ j : Nat, j < k → μ.2.1 (s + 2) j = μ0.2.1 (o + 2) j) → (∀ j : Nat, j < k → μ.2.1 (s + 3) j = μ0.2.1 (o + 3) j) →
    Zs G 2 Y_X4_copyFrom (fnN G (fun v m => v = none ∧ sm s (s + 4) μ0 m ∧ cpy m s μ0 o)) 31 [(0, rf G s), (1, rf G o), (2, .int (nI k))] [] μ := by
  intro f
  induction f with
  | zero =>
    intro k μ hf hi q1 q2
    refine z_iload_n dX4_copyFrom_31 rfl ?_
    refine z_bipush (v := nI 10) dX4_copyFrom_32 (by decide) ?_
    refine z_icmpN_ge (tgt := 67) dX4_copyFrom_34 (by decide) (by omega) (by omega) (fun c34 => ?_) (fun c34 => absurd c34 (by omega))
    exact z_vret rfl dX4_copyFrom_67 ⟨rfl, (h1.mono (by omega) (by omega)).trans (hi.mono (by omega) (by omega)), (hi.F 3 (by omega)).trans h2, (hi.F 0 (by omega)).trans h3, (hi.F 1 (by omega)).trans h4, fun j hj => q1 j (by omega), fun j hj => q2 j (by omega)⟩
  | succ f ih =>
    intro k μ hf hi q1 q2
    have e1 : μ.2.1 (o + 2) = μ0.2.1 (o + 2) := (hi.R (by omega)).trans (h1.R (by omega))
    have e2 : μ.2.1 (o + 3) = μ0.2.1 (o + 3) := (hi.R (by omega)).trans (h1.R (by omega))
    refine z_iload_n dX4_copyFrom_31 rfl ?_
    refine z_bipush (v := nI 10) dX4_copyFrom_32 (by decide) ?_
    refine z_icmpN_ge (tgt := 67) dX4_copyFrom_34 (by decide) (by omega) (by omega) (fun c34 => absurd c34 (by omega)) (fun c34 => ?_)
    refine z_aload_n dX4_copyFrom_37 rfl ?_
    refine z_getR (j := (s + 2)) dX4_copyFrom_38 fl_X4_18 (isSeq.r1 hs) ?_
    refine z_iload_n dX4_copyFrom_41 rfl ?_
    refine z_aload_n dX4_copyFrom_42 rfl ?_
    refine z_getR (j := (o + 2)) dX4_copyFrom_43 fl_X4_18 (isSeq.r1 ho) ?_
    refine z_iload_n dX4_copyFrom_46 rfl ?_
    refine z_ialdN dX4_copyFrom_47 (isSeq.e ho) (by omega) (by decide) rfl ?_
    refine z_iastN dX4_copyFrom_48 (isSeq.e hs) (by omega) (by decide) ?_
    refine z_aload_n dX4_copyFrom_49 rfl ?_
    refine z_getR (j := (s + 3)) dX4_copyFrom_50 fl_X4_22 (isSeq.r2 hs) ?_
    refine z_iload_n dX4_copyFrom_53 rfl ?_
    refine z_aload_n dX4_copyFrom_54 rfl ?_
    refine z_getR (j := (o + 3)) dX4_copyFrom_55 fl_X4_22 (isSeq.r2 ho) ?_
    refine z_iload_n dX4_copyFrom_58 rfl ?_
    refine z_ialdN dX4_copyFrom_59 (isSeq.p ho) (by omega) (by decide) rfl ?_
    refine z_iastN dX4_copyFrom_60 (isSeq.p hs) (by omega) (by decide) ?_
    refine z_iinc (v := nI (k + 1)) (lv' := [(2, _), (0, _), (1, _)]) dX4_copyFrom_61 rfl (nI_inc _ 1) (by decide) rfl ?_
    refine z_goto (tgt := 31) dX4_copyFrom_64 (by decide) ?_
    refine z_sub (lv' := [(0, _), (1, _), (2, _)]) rfl ?_
    refine ih (k + 1) _ (by omega) ((hi.uR (by omega) (by omega)).uR (by omega) (by omega)) ?_ ?_
    · intro j hj
      rw [uR_n _ _ _ (by omega), uR_s]
      by_cases e : j = k
      · subst e; rw [upd_s, e1]
      · rw [upd_n _ _ e]; exact q1 j (by omega)
    · intro j hj
      rw [uR_s]
      by_cases e : j = k
      · subst e; rw [upd_s, uR_n _ _ _ (by omega), e2]
      · rw [upd_n _ _ e, uR_n _ _ _ (by omega)]; exact q2 j (by omega)
set_option maxRecDepth 100000 in
theorem ev_X4_copyFrom (G : Gt) {s o : Nat} {μ : Mm} (hs : isSeq s) (ho : isSeq o) (hd : o + 4 ≤ s ∨ s + 4 ≤ o) : EV G 2 Y_X4_copyFrom [rf G s, rf G o] μ (fun v m => v = none ∧ sm s (s + 4) μ m ∧ cpy m s μ o) := by
  refine ev_of (by decide) (Nat.le_of_ble_eq_true rfl) ?_
  show Zs G 2 Y_X4_copyFrom (fnN G _) 0 [(0, rf G s), (1, rf G o)] [] μ
  refine z_aload_n dX4_copyFrom_0 rfl ?_
  refine z_getR (j := (s + 1)) dX4_copyFrom_1 fl_X4_12 (isSeq.r0 hs) ?_
  refine z_aload_n dX4_copyFrom_4 rfl ?_
  refine z_getR (j := (o + 1)) dX4_copyFrom_5 fl_X4_12 (isSeq.r0 ho) ?_
  refine z_getI dX4_copyFrom_8 fl_X4_29 (isGrp.f0 (isSeq.g ho)) rfl ?_
  refine z_aload_n dX4_copyFrom_11 rfl ?_
  refine z_getR (j := (o + 1)) dX4_copyFrom_12 fl_X4_12 (isSeq.r0 ho) ?_
  refine z_getI dX4_copyFrom_15 fl_X4_32 (isGrp.f1 (isSeq.g ho)) rfl ?_
  refine z_cV2v dX4_copyFrom_18 lk_X4_35 (by decide) (isGrp.o (isSeq.g hs)) rfl (Nat.le_of_ble_eq_true rfl) (ev_X2_become G hs.g) ?_
  refine z_aload_n dX4_copyFrom_21 rfl ?_
  refine z_aload_n dX4_copyFrom_22 rfl ?_
  refine z_getI dX4_copyFrom_23 fl_X4_25 (isSeq.f3 ho) rfl ?_
  refine z_putI dX4_copyFrom_26 fp_X4_25 (isSeq.f3 hs) ?_
  refine z_iconst (v := nI 0) dX4_copyFrom_29 (by decide) ?_
  refine z_istore_n (lv' := [(2, _), (0, _), (1, _)]) dX4_copyFrom_30 rfl (by decide) rfl ?_
  refine z_sub (lv' := [(0, _), (1, _), (2, _)]) rfl ?_
  refine lp_X4_copyFrom G hs ho hd (((sm.rf.uF (by omega) (by omega)).uF (by omega) (by omega)).uF (by omega) (by omega)) ?_ ?_ ?_ 10 0 _ (by omega) sm.rf (fun j hj => absurd hj (by omega)) (fun j hj => absurd hj (by omega))
  · rw [uF_s, uF_n _ _ (by omega), uF_n _ _ (by omega)]
  · rw [uF_n _ _ (by omega), uF_n _ _ (by omega), uF_s]
  · rw [uF_n _ _ (by omega), uF_s]
