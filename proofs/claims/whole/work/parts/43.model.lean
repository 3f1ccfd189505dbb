/-- the greatest, or the least size of the blocks below s -/
def bsW (a b : Nat) (E : Nat → Nat) (z : Bool) (s : Nat) : Nat := if z = true then gmA (blk a b E) s else smA (blk a b E) s
theorem gmA_s {c : Nat → Bool} {k : Nat} : gmA c (k + 1) = if c k then max (gmA c k) (pcN k) else gmA c k := rfl
theorem bs_le (a b : Nat) (E : Nat → Nat) (z : Bool) (s : Nat) : bsW a b E z s ≤ 11 := by
  unfold bsW
  split
  · exact gmA_le _ _
  · exact smA_le _ _
theorem bs_no {a b s : Nat} {E : Nat → Nat} {z : Bool} (h : blk a b E s = false) : bsW a b E z (s + 1) = bsW a b E z s := by
  unfold bsW
  rw [gmA_s, smA_s, h]; rfl
theorem bs_yes {a b s : Nat} {E : Nat → Nat} {z : Bool} (h : blk a b E s = true) (hb : bsW a b E z s = 0 ∨ (z = true ∧ bsW a b E z s < pcN s) ∨ (z = false ∧ pcN s < bsW a b E z s)) : bsW a b E z (s + 1) = pcN s := by
  unfold bsW at hb ⊢
  rw [gmA_s, smA_s, h]
  cases z with
  | true =>
    simp only [if_true] at hb ⊢
    rcases hb with q | ⟨_, q⟩ | ⟨q, _⟩
    · rw [q]; omega
    · omega
    · cases q
  | false =>
    simp only [Bool.false_eq_true, if_false] at hb ⊢
    rcases hb with q | ⟨q, _⟩ | ⟨_, q⟩
    · simp [q]
    · cases q
    · simp [q]
theorem bs_keep {a b s : Nat} {E : Nat → Nat} {z : Bool} (h : blk a b E s = true) (h0 : bsW a b E z s ≠ 0) (hb : (z = true ∧ pcN s ≤ bsW a b E z s) ∨ (z = false ∧ bsW a b E z s ≤ pcN s)) : bsW a b E z (s + 1) = bsW a b E z s := by
  unfold bsW at hb h0 ⊢
  rw [gmA_s, smA_s, h]
  cases z with
  | true =>
    simp only [if_true] at hb h0 ⊢
    rcases hb with ⟨_, q⟩ | ⟨q, _⟩
    · omega
    · cases q
  | false =>
    simp only [Bool.false_eq_true, if_false] at hb h0 ⊢
    rcases hb with ⟨q, _⟩ | ⟨_, q⟩
    · cases q
    · rw [decide_eq_false h0, decide_eq_false (show ¬ pcN s < smA (blk a b E) s by omega)]; rfl
set_option maxRecDepth 100000 in
theorem lp_X8_blockSize (G : Gt) {a b n : Nat} {E Q : Nat → Nat} {μ : Mm} (h : nwOK μ a b n E Q) (hl : lkE μ a b n E) (hs : lkS μ a b E (2 ^ n)) {z : Bool} : ∀ (f s : Nat), s + f = 2 ^ n → 1 ≤ s →
    Zs G 2 Y_X8_blockSize (fnN G (fun v u => v = some (.int (nI (bsW a b E z (2 ^ n)))) ∧ u = μ)) 4 [(0, rf G 35), (1, .int (bI z)), (2, .int (nI (bsW a b E z s))), (3, .int (nI s))] [] μ := by
  intro f
  have hn := h.le
  have hpw := p1024 hn
  have hpw1 := ppos n
  have hab := h.ab
  have htl := fun S : Nat => tot_lt (a := a) (b := b) h.g.1 h.g.2.2.1 E S
  induction f with
  | zero =>
    intro s hf h1
    refine z_iload_n dX8_blockSize_4 rfl ?_
    refine z_aload_n dX8_blockSize_5 rfl ?_
    refine z_cV0 dX8_blockSize_6 lk_X8_101 (by decide) ⟨by decide, _, rfl⟩ rfl (Nat.le_of_ble_eq_true rfl) (ev_X8_all G h) ?_
    refine z_icmpN_gt (tgt := 74) dX8_blockSize_9 (by decide) (by omega) (by omega) (fun c9 => ?_) (fun c9 => absurd c9 (by omega))
    refine z_iload_n dX8_blockSize_74 rfl ?_
    exact z_ret (ty := none) (v := none) rfl dX8_blockSize_75 ⟨by rw [show s = 2 ^ n by omega], rfl⟩
  | succ f ih =>
    intro s hf h1
    have hbs := bs_le a b E z s
    have hpc := pcN_le s
    refine z_iload_n dX8_blockSize_4 rfl ?_
    refine z_aload_n dX8_blockSize_5 rfl ?_
    refine z_cV0 dX8_blockSize_6 lk_X8_101 (by decide) ⟨by decide, _, rfl⟩ rfl (Nat.le_of_ble_eq_true rfl) (ev_X8_all G h) ?_
    refine z_icmpN_gt (tgt := 74) dX8_blockSize_9 (by decide) (by omega) (by omega) (fun c9 => absurd c9 (by omega)) (fun c9 => ?_)
    refine z_iload_n dX8_blockSize_12 rfl ?_
    refine z_ifN_eq (tgt := 39) dX8_blockSize_13 (by decide) (by omega) (fun c13 => ?_) (fun c13 => ?_)
    · refine z_iconst (v := nI 1) dX8_blockSize_39 (by decide) ?_
      refine z_goto (tgt := 44) dX8_blockSize_40 (by decide) ?_
      refine z_istore (lv' := [(4, _), (0, _), (1, _), (2, _), (3, _)]) dX8_blockSize_44 (by decide) rfl ?_
      refine z_aload_n dX8_blockSize_46 rfl ?_
      refine z_iload_n dX8_blockSize_47 rfl ?_
      refine z_cV1 dX8_blockSize_48 lk_X8_91 (by decide) ⟨by decide, _, rfl⟩ rfl (Nat.le_of_ble_eq_true rfl) (ev_X8_isBlock G hab htl hl hs (show s < 2 ^ n by omega)) ?_
      refine z_ifB_eq (tgt := 66) dX8_blockSize_51 (by decide) (fun c51 => ?_) (fun c51 => ?_)
      · refine z_iload_n dX8_blockSize_66 rfl ?_
        refine z_istore_n (lv' := [(2, _), (4, _), (0, _), (1, _), (3, _)]) dX8_blockSize_67 rfl (by decide) rfl ?_
        refine z_iinc (v := nI (s + 1)) (lv' := [(3, _), (2, _), (4, _), (0, _), (1, _)]) dX8_blockSize_68 rfl (nI_inc _ 1) (by decide) rfl ?_
        refine z_goto (tgt := 4) dX8_blockSize_71 (by decide) ?_
        have q := ih (s + 1) (by omega) (by omega)
        rw [show bsW a b E z (s + 1) = (bsW a b E z s) from bs_no c51] at q
        refine z_sub (lv' := [(0, _), (1, _), (2, _), (3, _)]) rfl ?_
        exact q
      · refine z_iload dX8_blockSize_54 rfl ?_
        refine z_ifN_eq (tgt := 66) dX8_blockSize_56 (by decide) (by omega) (fun c56 => absurd c56 (by omega)) (fun c56 => ?_)
        refine z_iload_n dX8_blockSize_59 rfl ?_
        refine z_cS1 dX8_blockSize_60 lk_X8_107 (by decide) (Nat.le_of_ble_eq_true rfl) (ev_X8_bits G (show s < 2 ^ 31 by omega)) ?_
        refine z_goto (tgt := 67) dX8_blockSize_63 (by decide) ?_
        refine z_istore_n (lv' := [(2, _), (4, _), (0, _), (1, _), (3, _)]) dX8_blockSize_67 rfl (by decide) rfl ?_
        refine z_iinc (v := nI (s + 1)) (lv' := [(3, _), (2, _), (4, _), (0, _), (1, _)]) dX8_blockSize_68 rfl (nI_inc _ 1) (by decide) rfl ?_
        refine z_goto (tgt := 4) dX8_blockSize_71 (by decide) ?_
        have q := ih (s + 1) (by omega) (by omega)
        rw [show bsW a b E z (s + 1) = pcN s from bs_yes c51 (Or.inl c13)] at q
        refine z_sub (lv' := [(0, _), (1, _), (2, _), (3, _)]) rfl ?_
        exact q
    · refine z_iload_n dX8_blockSize_16 rfl ?_
      refine z_ifB_eq (tgt := 31) dX8_blockSize_17 (by decide) (fun c17 => ?_) (fun c17 => ?_)
      · refine z_iload_n dX8_blockSize_31 rfl ?_
        refine z_cS1 dX8_blockSize_32 lk_X8_107 (by decide) (Nat.le_of_ble_eq_true rfl) (ev_X8_bits G (show s < 2 ^ 31 by omega)) ?_
        refine z_iload_n dX8_blockSize_35 rfl ?_
        refine z_icmpN_ge (tgt := 43) dX8_blockSize_36 (by decide) (by omega) (by omega) (fun c36 => ?_) (fun c36 => ?_)
        · refine z_iconst (v := nI 0) dX8_blockSize_43 (by decide) ?_
          refine z_istore (lv' := [(4, _), (0, _), (1, _), (2, _), (3, _)]) dX8_blockSize_44 (by decide) rfl ?_
          refine z_aload_n dX8_blockSize_46 rfl ?_
          refine z_iload_n dX8_blockSize_47 rfl ?_
          refine z_cV1 dX8_blockSize_48 lk_X8_91 (by decide) ⟨by decide, _, rfl⟩ rfl (Nat.le_of_ble_eq_true rfl) (ev_X8_isBlock G hab htl hl hs (show s < 2 ^ n by omega)) ?_
          refine z_ifB_eq (tgt := 66) dX8_blockSize_51 (by decide) (fun c51 => ?_) (fun c51 => ?_)
          · refine z_iload_n dX8_blockSize_66 rfl ?_
            refine z_istore_n (lv' := [(2, _), (4, _), (0, _), (1, _), (3, _)]) dX8_blockSize_67 rfl (by decide) rfl ?_
            refine z_iinc (v := nI (s + 1)) (lv' := [(3, _), (2, _), (4, _), (0, _), (1, _)]) dX8_blockSize_68 rfl (nI_inc _ 1) (by decide) rfl ?_
            refine z_goto (tgt := 4) dX8_blockSize_71 (by decide) ?_
            have q := ih (s + 1) (by omega) (by omega)
            rw [show bsW a b E z (s + 1) = (bsW a b E z s) from bs_no c51] at q
            refine z_sub (lv' := [(0, _), (1, _), (2, _), (3, _)]) rfl ?_
            exact q
          · refine z_iload dX8_blockSize_54 rfl ?_
            refine z_ifN_eq (tgt := 66) dX8_blockSize_56 (by decide) (by omega) (fun c56 => ?_) (fun c56 => absurd c56 (by omega))
            refine z_iload_n dX8_blockSize_66 rfl ?_
            refine z_istore_n (lv' := [(2, _), (4, _), (0, _), (1, _), (3, _)]) dX8_blockSize_67 rfl (by decide) rfl ?_
            refine z_iinc (v := nI (s + 1)) (lv' := [(3, _), (2, _), (4, _), (0, _), (1, _)]) dX8_blockSize_68 rfl (nI_inc _ 1) (by decide) rfl ?_
            refine z_goto (tgt := 4) dX8_blockSize_71 (by decide) ?_
            have q := ih (s + 1) (by omega) (by omega)
            rw [show bsW a b E z (s + 1) = (bsW a b E z s) from bs_keep c51 c13 (Or.inr ⟨c17, by omega⟩)] at q
            refine z_sub (lv' := [(0, _), (1, _), (2, _), (3, _)]) rfl ?_
            exact q
        · refine z_iconst (v := nI 1) dX8_blockSize_39 (by decide) ?_
          refine z_goto (tgt := 44) dX8_blockSize_40 (by decide) ?_
          refine z_istore (lv' := [(4, _), (0, _), (1, _), (2, _), (3, _)]) dX8_blockSize_44 (by decide) rfl ?_
          refine z_aload_n dX8_blockSize_46 rfl ?_
          refine z_iload_n dX8_blockSize_47 rfl ?_
          refine z_cV1 dX8_blockSize_48 lk_X8_91 (by decide) ⟨by decide, _, rfl⟩ rfl (Nat.le_of_ble_eq_true rfl) (ev_X8_isBlock G hab htl hl hs (show s < 2 ^ n by omega)) ?_
          refine z_ifB_eq (tgt := 66) dX8_blockSize_51 (by decide) (fun c51 => ?_) (fun c51 => ?_)
          · refine z_iload_n dX8_blockSize_66 rfl ?_
            refine z_istore_n (lv' := [(2, _), (4, _), (0, _), (1, _), (3, _)]) dX8_blockSize_67 rfl (by decide) rfl ?_
            refine z_iinc (v := nI (s + 1)) (lv' := [(3, _), (2, _), (4, _), (0, _), (1, _)]) dX8_blockSize_68 rfl (nI_inc _ 1) (by decide) rfl ?_
            refine z_goto (tgt := 4) dX8_blockSize_71 (by decide) ?_
            have q := ih (s + 1) (by omega) (by omega)
            rw [show bsW a b E z (s + 1) = (bsW a b E z s) from bs_no c51] at q
            refine z_sub (lv' := [(0, _), (1, _), (2, _), (3, _)]) rfl ?_
            exact q
          · refine z_iload dX8_blockSize_54 rfl ?_
            refine z_ifN_eq (tgt := 66) dX8_blockSize_56 (by decide) (by omega) (fun c56 => absurd c56 (by omega)) (fun c56 => ?_)
            refine z_iload_n dX8_blockSize_59 rfl ?_
            refine z_cS1 dX8_blockSize_60 lk_X8_107 (by decide) (Nat.le_of_ble_eq_true rfl) (ev_X8_bits G (show s < 2 ^ 31 by omega)) ?_
            refine z_goto (tgt := 67) dX8_blockSize_63 (by decide) ?_
            refine z_istore_n (lv' := [(2, _), (4, _), (0, _), (1, _), (3, _)]) dX8_blockSize_67 rfl (by decide) rfl ?_
            refine z_iinc (v := nI (s + 1)) (lv' := [(3, _), (2, _), (4, _), (0, _), (1, _)]) dX8_blockSize_68 rfl (nI_inc _ 1) (by decide) rfl ?_
            refine z_goto (tgt := 4) dX8_blockSize_71 (by decide) ?_
            have q := ih (s + 1) (by omega) (by omega)
            rw [show bsW a b E z (s + 1) = pcN s from bs_yes c51 (Or.inr (Or.inr ⟨c17, by omega⟩))] at q
            refine z_sub (lv' := [(0, _), (1, _), (2, _), (3, _)]) rfl ?_
            exact q
      · refine z_iload_n dX8_blockSize_20 rfl ?_
        refine z_cS1 dX8_blockSize_21 lk_X8_107 (by decide) (Nat.le_of_ble_eq_true rfl) (ev_X8_bits G (show s < 2 ^ 31 by omega)) ?_
        refine z_iload_n dX8_blockSize_24 rfl ?_
        refine z_icmpN_le (tgt := 43) dX8_blockSize_25 (by decide) (by omega) (by omega) (fun c25 => ?_) (fun c25 => ?_)
        · refine z_iconst (v := nI 0) dX8_blockSize_43 (by decide) ?_
          refine z_istore (lv' := [(4, _), (0, _), (1, _), (2, _), (3, _)]) dX8_blockSize_44 (by decide) rfl ?_
          refine z_aload_n dX8_blockSize_46 rfl ?_
          refine z_iload_n dX8_blockSize_47 rfl ?_
          refine z_cV1 dX8_blockSize_48 lk_X8_91 (by decide) ⟨by decide, _, rfl⟩ rfl (Nat.le_of_ble_eq_true rfl) (ev_X8_isBlock G hab htl hl hs (show s < 2 ^ n by omega)) ?_
          refine z_ifB_eq (tgt := 66) dX8_blockSize_51 (by decide) (fun c51 => ?_) (fun c51 => ?_)
          · refine z_iload_n dX8_blockSize_66 rfl ?_
            refine z_istore_n (lv' := [(2, _), (4, _), (0, _), (1, _), (3, _)]) dX8_blockSize_67 rfl (by decide) rfl ?_
            refine z_iinc (v := nI (s + 1)) (lv' := [(3, _), (2, _), (4, _), (0, _), (1, _)]) dX8_blockSize_68 rfl (nI_inc _ 1) (by decide) rfl ?_
            refine z_goto (tgt := 4) dX8_blockSize_71 (by decide) ?_
            have q := ih (s + 1) (by omega) (by omega)
            rw [show bsW a b E z (s + 1) = (bsW a b E z s) from bs_no c51] at q
            refine z_sub (lv' := [(0, _), (1, _), (2, _), (3, _)]) rfl ?_
            exact q
          · refine z_iload dX8_blockSize_54 rfl ?_
            refine z_ifN_eq (tgt := 66) dX8_blockSize_56 (by decide) (by omega) (fun c56 => ?_) (fun c56 => absurd c56 (by omega))
            refine z_iload_n dX8_blockSize_66 rfl ?_
            refine z_istore_n (lv' := [(2, _), (4, _), (0, _), (1, _), (3, _)]) dX8_blockSize_67 rfl (by decide) rfl ?_
            refine z_iinc (v := nI (s + 1)) (lv' := [(3, _), (2, _), (4, _), (0, _), (1, _)]) dX8_blockSize_68 rfl (nI_inc _ 1) (by decide) rfl ?_
            refine z_goto (tgt := 4) dX8_blockSize_71 (by decide) ?_
            have q := ih (s + 1) (by omega) (by omega)
            rw [show bsW a b E z (s + 1) = (bsW a b E z s) from bs_keep c51 c13 (Or.inl ⟨c17, by omega⟩)] at q
            refine z_sub (lv' := [(0, _), (1, _), (2, _), (3, _)]) rfl ?_
            exact q
        · refine z_goto (tgt := 39) dX8_blockSize_28 (by decide) ?_
          refine z_iconst (v := nI 1) dX8_blockSize_39 (by decide) ?_
          refine z_goto (tgt := 44) dX8_blockSize_40 (by decide) ?_
          refine z_istore (lv' := [(4, _), (0, _), (1, _), (2, _), (3, _)]) dX8_blockSize_44 (by decide) rfl ?_
          refine z_aload_n dX8_blockSize_46 rfl ?_
          refine z_iload_n dX8_blockSize_47 rfl ?_
          refine z_cV1 dX8_blockSize_48 lk_X8_91 (by decide) ⟨by decide, _, rfl⟩ rfl (Nat.le_of_ble_eq_true rfl) (ev_X8_isBlock G hab htl hl hs (show s < 2 ^ n by omega)) ?_
          refine z_ifB_eq (tgt := 66) dX8_blockSize_51 (by decide) (fun c51 => ?_) (fun c51 => ?_)
          · refine z_iload_n dX8_blockSize_66 rfl ?_
            refine z_istore_n (lv' := [(2, _), (4, _), (0, _), (1, _), (3, _)]) dX8_blockSize_67 rfl (by decide) rfl ?_
            refine z_iinc (v := nI (s + 1)) (lv' := [(3, _), (2, _), (4, _), (0, _), (1, _)]) dX8_blockSize_68 rfl (nI_inc _ 1) (by decide) rfl ?_
            refine z_goto (tgt := 4) dX8_blockSize_71 (by decide) ?_
            have q := ih (s + 1) (by omega) (by omega)
            rw [show bsW a b E z (s + 1) = (bsW a b E z s) from bs_no c51] at q
            refine z_sub (lv' := [(0, _), (1, _), (2, _), (3, _)]) rfl ?_
            exact q
          · refine z_iload dX8_blockSize_54 rfl ?_
            refine z_ifN_eq (tgt := 66) dX8_blockSize_56 (by decide) (by omega) (fun c56 => absurd c56 (by omega)) (fun c56 => ?_)
            refine z_iload_n dX8_blockSize_59 rfl ?_
            refine z_cS1 dX8_blockSize_60 lk_X8_107 (by decide) (Nat.le_of_ble_eq_true rfl) (ev_X8_bits G (show s < 2 ^ 31 by omega)) ?_
            refine z_goto (tgt := 67) dX8_blockSize_63 (by decide) ?_
            refine z_istore_n (lv' := [(2, _), (4, _), (0, _), (1, _), (3, _)]) dX8_blockSize_67 rfl (by decide) rfl ?_
            refine z_iinc (v := nI (s + 1)) (lv' := [(3, _), (2, _), (4, _), (0, _), (1, _)]) dX8_blockSize_68 rfl (nI_inc _ 1) (by decide) rfl ?_
            refine z_goto (tgt := 4) dX8_blockSize_71 (by decide) ?_
            have q := ih (s + 1) (by omega) (by omega)
            rw [show bsW a b E z (s + 1) = pcN s from bs_yes c51 (Or.inr (Or.inl ⟨c17, by omega⟩))] at q
            refine z_sub (lv' := [(0, _), (1, _), (2, _), (3, _)]) rfl ?_
            exact q
set_option maxRecDepth 100000 in
theorem ev_X8_blockSize (G : Gt) {a b n : Nat} {E Q : Nat → Nat} {μ : Mm} (h : nwOK μ a b n E Q) (hl : lkE μ a b n E) (hs : lkS μ a b E (2 ^ n)) {z : Bool} : EVr G 2 Y_X8_blockSize [rf G 35, .int (bI z)] μ (.int (nI (bsW a b E z (2 ^ n)))) := by
  have hpw1 := ppos n
  refine ev_of (by decide) (Nat.le_of_ble_eq_true rfl) ?_
  show Zs G 2 Y_X8_blockSize (fnN G _) 0 [(0, rf G 35), (1, .int (bI z))] [] μ
  refine z_iconst (v := nI 0) dX8_blockSize_0 (by decide) ?_
  refine z_istore_n (lv' := [(2, _), (0, _), (1, _)]) dX8_blockSize_1 rfl (by decide) rfl ?_
  refine z_iconst (v := nI 1) dX8_blockSize_2 (by decide) ?_
  refine z_istore_n (lv' := [(3, _), (2, _), (0, _), (1, _)]) dX8_blockSize_3 rfl (by decide) rfl ?_
  have q := lp_X8_blockSize G h hl hs (z := z) (2 ^ n - 1) 1 (by omega) (Nat.le_refl _)
  rw [show bsW a b E z 1 = 0 by rw [show (1 : Nat) = 0 + 1 from rfl, bs_no (blk_0 a b E)]; cases z <;> rfl] at q
  refine z_sub (lv' := [(0, _), (1, _), (2, _), (3, _)]) rfl ?_
  exact q
set_option maxRecDepth 100000 in
theorem lp_X8_partsThat (G : Gt) {a b n : Nat} {E Q : Nat → Nat} {μ : Mm} (h : nwOK μ a b n E Q) (hl : lkE μ a b n E) (hs : lkS μ a b E (2 ^ n)) {z : Bool} : ∀ (f p : Nat), p + f = 6 →
    Zs G 2 Y_X8_partsThat (fnN G (fun v u => v = some (.int (nI (cntN (fun p => decide (poN Q p n ≠ 0) && (!z || blk a b E (poN Q p n))) 6))) ∧ u = μ)) 4 [(0, rf G 35), (1, .int (bI z)), (2, .int (nI (cntN (fun p => decide (poN Q p n ≠ 0) && (!z || blk a b E (poN Q p n))) p))), (3, .int (nI p))] [] μ := by
  intro f
  have hn := h.le
  have hpw := p1024 hn
  have hpw1 := ppos n
  have hab := h.ab
  have htl := fun S : Nat => tot_lt (a := a) (b := b) h.g.1 h.g.2.2.1 E S
  induction f with
  | zero =>
    intro p hf
    refine z_iload_n dX8_partsThat_4 rfl ?_
    refine z_bipush (v := nI 6) dX8_partsThat_5 (by decide) ?_
    refine z_icmpN_ge (tgt := 49) dX8_partsThat_7 (by decide) (by omega) (by omega) (fun c7 => ?_) (fun c7 => absurd c7 (by omega))
    refine z_iload_n dX8_partsThat_49 rfl ?_
    exact z_ret (ty := none) (v := none) rfl dX8_partsThat_50 ⟨by rw [show p = 6 by omega], rfl⟩
  | succ f ih =>
    intro p hf
    have hpo : poN Q p n < 2 ^ n := setN_lt _ _
    refine z_iload_n dX8_partsThat_4 rfl ?_
    refine z_bipush (v := nI 6) dX8_partsThat_5 (by decide) ?_
    refine z_icmpN_ge (tgt := 49) dX8_partsThat_7 (by decide) (by omega) (by omega) (fun c7 => absurd c7 (by omega)) (fun c7 => ?_)
    refine z_aload_n dX8_partsThat_10 rfl ?_
    refine z_iload_n dX8_partsThat_11 rfl ?_
    refine z_cV1 dX8_partsThat_12 lk_X8_133 (by decide) ⟨by decide, _, rfl⟩ rfl (Nat.le_of_ble_eq_true rfl) (ev_X8_partSet G h (by omega)) ?_
    refine z_istore (lv' := [(4, _), (0, _), (1, _), (2, _), (3, _)]) dX8_partsThat_15 (by decide) rfl ?_
    refine z_iload_n dX8_partsThat_17 rfl ?_
    refine z_iload dX8_partsThat_18 rfl ?_
    refine z_ifN_eq (tgt := 40) dX8_partsThat_20 (by decide) (by omega) (fun c20 => ?_) (fun c20 => ?_)
    · refine z_iconst (v := nI 0) dX8_partsThat_40 (by decide) ?_
      refine z_iaddN dX8_partsThat_41 ?_
      refine z_istore_n (lv' := [(2, _), (4, _), (0, _), (1, _), (3, _)]) dX8_partsThat_42 rfl (by decide) rfl ?_
      refine z_iinc (v := nI (p + 1)) (lv' := [(3, _), (2, _), (4, _), (0, _), (1, _)]) dX8_partsThat_43 rfl (nI_inc _ 1) (by decide) rfl ?_
      refine z_goto (tgt := 4) dX8_partsThat_46 (by decide) ?_
      have q := ih (p + 1) (by omega)
      rw [show cntN (fun p => decide (poN Q p n ≠ 0) && (!z || blk a b E (poN Q p n))) (p + 1) = cntN (fun p => decide (poN Q p n ≠ 0) && (!z || blk a b E (poN Q p n))) p + 0 by rw [cntN_succ]; simp [c20]] at q
      refine z_sub (lv' := [(0, _), (1, _), (2, _), (3, _)]) rfl ?_
      exact q
    · refine z_iload_n dX8_partsThat_23 rfl ?_
      refine z_ifB_eq (tgt := 36) dX8_partsThat_24 (by decide) (fun c24 => ?_) (fun c24 => ?_)
      · refine z_iconst (v := nI 1) dX8_partsThat_36 (by decide) ?_
        refine z_goto (tgt := 41) dX8_partsThat_37 (by decide) ?_
        refine z_iaddN dX8_partsThat_41 ?_
        refine z_istore_n (lv' := [(2, _), (4, _), (0, _), (1, _), (3, _)]) dX8_partsThat_42 rfl (by decide) rfl ?_
        refine z_iinc (v := nI (p + 1)) (lv' := [(3, _), (2, _), (4, _), (0, _), (1, _)]) dX8_partsThat_43 rfl (nI_inc _ 1) (by decide) rfl ?_
        refine z_goto (tgt := 4) dX8_partsThat_46 (by decide) ?_
        have q := ih (p + 1) (by omega)
        rw [show cntN (fun p => decide (poN Q p n ≠ 0) && (!z || blk a b E (poN Q p n))) (p + 1) = cntN (fun p => decide (poN Q p n ≠ 0) && (!z || blk a b E (poN Q p n))) p + 1 by rw [cntN_succ]; simp [c20, c24]] at q
        refine z_sub (lv' := [(0, _), (1, _), (2, _), (3, _)]) rfl ?_
        exact q
      · refine z_aload_n dX8_partsThat_27 rfl ?_
        refine z_iload dX8_partsThat_28 rfl ?_
        refine z_cV1 dX8_partsThat_30 lk_X8_91 (by decide) ⟨by decide, _, rfl⟩ rfl (Nat.le_of_ble_eq_true rfl) (ev_X8_isBlock G hab htl hl hs hpo) ?_
        refine z_ifB_eq (tgt := 40) dX8_partsThat_33 (by decide) (fun c33 => ?_) (fun c33 => ?_)
        · refine z_iconst (v := nI 0) dX8_partsThat_40 (by decide) ?_
          refine z_iaddN dX8_partsThat_41 ?_
          refine z_istore_n (lv' := [(2, _), (4, _), (0, _), (1, _), (3, _)]) dX8_partsThat_42 rfl (by decide) rfl ?_
          refine z_iinc (v := nI (p + 1)) (lv' := [(3, _), (2, _), (4, _), (0, _), (1, _)]) dX8_partsThat_43 rfl (nI_inc _ 1) (by decide) rfl ?_
          refine z_goto (tgt := 4) dX8_partsThat_46 (by decide) ?_
          have q := ih (p + 1) (by omega)
          rw [show cntN (fun p => decide (poN Q p n ≠ 0) && (!z || blk a b E (poN Q p n))) (p + 1) = cntN (fun p => decide (poN Q p n ≠ 0) && (!z || blk a b E (poN Q p n))) p + 0 by rw [cntN_succ]; simp [c20, c24, c33]] at q
          refine z_sub (lv' := [(0, _), (1, _), (2, _), (3, _)]) rfl ?_
          exact q
        · refine z_iconst (v := nI 1) dX8_partsThat_36 (by decide) ?_
          refine z_goto (tgt := 41) dX8_partsThat_37 (by decide) ?_
          refine z_iaddN dX8_partsThat_41 ?_
          refine z_istore_n (lv' := [(2, _), (4, _), (0, _), (1, _), (3, _)]) dX8_partsThat_42 rfl (by decide) rfl ?_
          refine z_iinc (v := nI (p + 1)) (lv' := [(3, _), (2, _), (4, _), (0, _), (1, _)]) dX8_partsThat_43 rfl (nI_inc _ 1) (by decide) rfl ?_
          refine z_goto (tgt := 4) dX8_partsThat_46 (by decide) ?_
          have q := ih (p + 1) (by omega)
          rw [show cntN (fun p => decide (poN Q p n ≠ 0) && (!z || blk a b E (poN Q p n))) (p + 1) = cntN (fun p => decide (poN Q p n ≠ 0) && (!z || blk a b E (poN Q p n))) p + 1 by rw [cntN_succ]; simp [c20, c24, c33]] at q
          refine z_sub (lv' := [(0, _), (1, _), (2, _), (3, _)]) rfl ?_
          exact q
set_option maxRecDepth 100000 in
theorem ev_X8_partsThat (G : Gt) {a b n : Nat} {E Q : Nat → Nat} {μ : Mm} (h : nwOK μ a b n E Q) (hl : lkE μ a b n E) (hs : lkS μ a b E (2 ^ n)) {z : Bool} : EVr G 2 Y_X8_partsThat [rf G 35, .int (bI z)] μ (.int (nI (cntN (fun p => decide (poN Q p n ≠ 0) && (!z || blk a b E (poN Q p n))) 6))) := by
  refine ev_of (by decide) (Nat.le_of_ble_eq_true rfl) ?_
  show Zs G 2 Y_X8_partsThat (fnN G _) 0 [(0, rf G 35), (1, .int (bI z))] [] μ
  refine z_iconst (v := nI 0) dX8_partsThat_0 (by decide) ?_
  refine z_istore_n (lv' := [(2, _), (0, _), (1, _)]) dX8_partsThat_1 rfl (by decide) rfl ?_
  refine z_iconst (v := nI 0) dX8_partsThat_2 (by decide) ?_
  refine z_istore_n (lv' := [(3, _), (2, _), (0, _), (1, _)]) dX8_partsThat_3 rfl (by decide) rfl ?_
  refine z_sub (lv' := [(0, _), (1, _), (2, _), (3, _)]) rfl ?_
  exact lp_X8_partsThat G h hl hs 6 0 rfl
theorem ssN_lt {a b : Nat} {E : Nat → Nat} (h : ∀ S : Nat, tot a b E S < 36) : ∀ k, ssN a b E k < 2 ^ 36 := by
  intro k
  induction k with
  | zero => exact Nat.two_pow_pos 36
  | succ k ih =>
    unfold ssN
    split
    · exact Nat.two_pow_pos 36
    · exact Nat.or_lt_two_pow ih (Nat.pow_lt_pow_right (by decide) (h k))
set_option maxRecDepth 100000 in
theorem lp_X8_sumMany (G : Gt) {a b n : Nat} {E Q : Nat → Nat} {μ : Mm} (h : nwOK μ a b n E Q) (hl : lkE μ a b n E) (hs : lkS μ a b E (2 ^ n)) : ∀ (f e : Nat), e + f = a * b →
    Zs G 2 Y_X8_sumMany (fnN G (fun v u => v = some (.int (nI (cntN (ssN a b E (2 ^ n)).testBit (a * b)))) ∧ u = μ)) 10 [(0, rf G 35), (1, .long (lN (ssN a b E (2 ^ n)))), (3, .int (nI (cntN (ssN a b E (2 ^ n)).testBit e))), (4, .int (nI e))] [] μ := by
  intro f
  have hn := h.le
  have hpw := p1024 hn
  have hpw1 := ppos n
  have hab := h.ab
  have htl := fun S : Nat => tot_lt (a := a) (b := b) h.g.1 h.g.2.2.1 E S
  have hss := ssN_lt (a := a) (b := b) (E := E) (fun S => by have := htl S; omega) (2 ^ n)
  induction f with
  | zero =>
    intro e hf
    refine z_iload dX8_sumMany_10 rfl ?_
    refine z_aload_n dX8_sumMany_12 rfl ?_
    refine z_cV0 dX8_sumMany_13 lk_X8_56 (by decide) ⟨by decide, _, rfl⟩ rfl (Nat.le_of_ble_eq_true rfl) (ev_X8_size G h.G) ?_
    refine z_icmpN_ge (tgt := 35) dX8_sumMany_16 (by decide) (by omega) (by omega) (fun c16 => ?_) (fun c16 => absurd c16 (by omega))
    refine z_iload_n dX8_sumMany_35 rfl ?_
    exact z_ret (ty := none) (v := none) rfl dX8_sumMany_36 ⟨by rw [show e = a * b by omega], rfl⟩
  | succ f ih =>
    intro e hf
    refine z_iload dX8_sumMany_10 rfl ?_
    refine z_aload_n dX8_sumMany_12 rfl ?_
    refine z_cV0 dX8_sumMany_13 lk_X8_56 (by decide) ⟨by decide, _, rfl⟩ rfl (Nat.le_of_ble_eq_true rfl) (ev_X8_size G h.G) ?_
    refine z_icmpN_ge (tgt := 35) dX8_sumMany_16 (by decide) (by omega) (by omega) (fun c16 => absurd c16 (by omega)) (fun c16 => ?_)
    refine z_iload_n dX8_sumMany_19 rfl ?_
    refine z_lload_n dX8_sumMany_20 rfl ?_
    refine z_iload dX8_sumMany_21 rfl ?_
    refine z_lshrN dX8_sumMany_23 (by omega) (by omega) ?_
    refine z_lconst (v := lN 1) dX8_sumMany_24 rfl ?_
    refine z_landN dX8_sumMany_25 ?_
    refine z_l2iN dX8_sumMany_26 ?_
    refine z_iaddN dX8_sumMany_27 ?_
    refine z_istore_n (lv' := [(3, _), (0, _), (1, _), (4, _)]) dX8_sumMany_28 rfl (by decide) rfl ?_
    refine z_iinc (v := nI (e + 1)) (lv' := [(4, _), (3, _), (0, _), (1, _)]) dX8_sumMany_29 rfl (nI_inc _ 1) (by decide) rfl ?_
    refine z_goto (tgt := 10) dX8_sumMany_32 (by decide) ?_
    have q := ih (e + 1) (by omega)
    rw [show cntN (ssN a b E (2 ^ n)).testBit (e + 1) = cntN (ssN a b E (2 ^ n)).testBit e + ((ssN a b E (2 ^ n)) / 2 ^ e &&& 1) by
      rw [cntN_succ]
      by_cases c : (ssN a b E (2 ^ n)).testBit e = true
      · rw [if_pos c, (tb_div _ e).1.mpr c]
      · rw [if_neg c, (tb_div _ e).2.mpr (by simpa using c), Nat.add_zero]] at q
    refine z_sub (lv' := [(0, _), (1, _), (3, _), (4, _)]) rfl ?_
    exact q
set_option maxRecDepth 100000 in
theorem ev_X8_sumMany (G : Gt) {a b n : Nat} {E Q : Nat → Nat} {μ : Mm} (h : nwOK μ a b n E Q) (hl : lkE μ a b n E) (hs : lkS μ a b E (2 ^ n)) : EVr G 2 Y_X8_sumMany [rf G 35] μ (.int (nI (cntN (ssN a b E (2 ^ n)).testBit (a * b)))) := by
  refine ev_of (by decide) (Nat.le_of_ble_eq_true rfl) ?_
  show Zs G 2 Y_X8_sumMany (fnN G _) 0 [(0, rf G 35)] [] μ
  refine z_aload_n dX8_sumMany_0 rfl ?_
  refine z_cV0 dX8_sumMany_1 lk_X8_119 (by decide) ⟨by decide, _, rfl⟩ rfl (Nat.le_of_ble_eq_true rfl) (ev_X8_sumSet G h hl hs) ?_
  refine z_lstore_n (lv' := [(1, _), (0, _)]) dX8_sumMany_4 rfl (by decide) rfl ?_
  refine z_iconst (v := nI 0) dX8_sumMany_5 (by decide) ?_
  refine z_istore_n (lv' := [(3, _), (1, _), (0, _)]) dX8_sumMany_6 rfl (by decide) rfl ?_
  refine z_iconst (v := nI 0) dX8_sumMany_7 (by decide) ?_
  refine z_istore (lv' := [(4, _), (3, _), (1, _), (0, _)]) dX8_sumMany_8 (by decide) rfl ?_
  refine z_sub (lv' := [(0, _), (1, _), (3, _), (4, _)]) rfl ?_
  exact lp_X8_sumMany G h hl hs (a * b) 0 (by omega)
