/-- a block that is like none below it -/
def uqF (a b : Nat) (E : Nat → Nat) (n s o : Nat) : Bool := blk a b E o && alN a b E n s o
def uqL (a b : Nat) (E : Nat → Nat) (n s o : Nat) : Bool := blk a b E s && !anyN (uqF a b E n s) o
def uqN (a b : Nat) (E : Nat → Nat) (n s : Nat) : Bool := uqL a b E n s s
theorem anyN_s (f : Nat → Bool) (k : Nat) : anyN f (k + 1) = (anyN f k || f k) := rfl
theorem uqL_f {a b n s : Nat} {E : Nat → Nat} {o t : Nat} (h : uqL a b E n s o = false) (ht : o ≤ t) : uqL a b E n s t = false := by
  unfold uqL at h ⊢
  rcases hb : blk a b E s with _ | _
  · rfl
  · rw [hb, Bool.true_and, Bool.not_eq_false'] at h
    rw [Bool.true_and, Bool.not_eq_false']
    obtain ⟨j, h1, h2⟩ := anyN_true.mp h
    exact anyN_true.mpr ⟨j, by omega, h2⟩
theorem uqL_t {a b n s : Nat} {E : Nat → Nat} {o : Nat} (h : uqL a b E n s o = true) : uqL a b E n s (o + 1) = !(blk a b E o && alN a b E n s o) := by
  unfold uqL at h ⊢
  rw [Bool.and_eq_true, Bool.not_eq_true'] at h
  rw [h.1, anyN_s, h.2, Bool.true_and, Bool.false_or]; rfl
theorem uqL_1 (a b : Nat) (E : Nat → Nat) (n s : Nat) : uqL a b E n s 1 = blk a b E s := by
  unfold uqL
  rw [show anyN (uqF a b E n s) 1 = (anyN (uqF a b E n s) 0 || uqF a b E n s 0) from rfl]
  rw [show anyN (uqF a b E n s) 0 = false from rfl, show uqF a b E n s 0 = false by unfold uqF; rw [blk_0]; rfl]
  simp
set_option maxRecDepth 100000 in
theorem lp2_X8_unlikeBlocks (G : Gt) {a b n : Nat} {E Q : Nat → Nat} {μ0 : Mm} {s c : Nat} {F : Fn} (hsn : s < 2 ^ n) (hk : ∀ μ : Mm, aqF μ0 μ → Zs G 2 Y_X8_unlikeBlocks F 72 [(0, rf G 35), (1, .int (nI c)), (2, .int (nI s)), (3, .int (bI (uqN a b E n s)))] [] μ) : ∀ (f o : Nat) (μ : Mm), o + f = s → 1 ≤ o → aqF μ0 μ → nwOK μ a b n E Q → lkE μ a b n E → lkS μ a b E (2 ^ n) →
    Zs G 2 Y_X8_unlikeBlocks F 31 [(0, rf G 35), (1, .int (nI c)), (2, .int (nI s)), (3, .int (bI (uqL a b E n s o))), (4, .int (nI o))] [] μ := by
  intro f
  induction f with
  | zero =>
    intro o μ hf h1 hq h hl hs
    have hn := h.le
    have hpw := p1024 hn
    have hpw1 := ppos n
    have hab := h.ab
    have htl := fun S : Nat => tot_lt (a := a) (b := b) h.g.1 h.g.2.2.1 E S
    refine z_iload dX8_unlikeBlocks_31 rfl ?_
    refine z_iload_n dX8_unlikeBlocks_33 rfl ?_
    refine z_icmpN_ge (tgt := 72) dX8_unlikeBlocks_34 (by decide) (by omega) (by omega) (fun c34 => ?_) (fun c34 => absurd c34 (by omega))
    have q := hk μ hq
    unfold uqN at q
    rw [show uqL a b E n s s = uqL a b E n s o by rw [show o = s by omega]] at q
    refine z_sub (lv' := [(0, _), (1, _), (2, _), (3, _)]) rfl ?_
    exact q
  | succ f ih =>
    intro o μ hf h1 hq h hl hs
    have hn := h.le
    have hpw := p1024 hn
    have hpw1 := ppos n
    have hab := h.ab
    have htl := fun S : Nat => tot_lt (a := a) (b := b) h.g.1 h.g.2.2.1 E S
    refine z_iload dX8_unlikeBlocks_31 rfl ?_
    refine z_iload_n dX8_unlikeBlocks_33 rfl ?_
    refine z_icmpN_ge (tgt := 72) dX8_unlikeBlocks_34 (by decide) (by omega) (by omega) (fun c34 => absurd c34 (by omega)) (fun c34 => ?_)
    refine z_iload_n dX8_unlikeBlocks_37 rfl ?_
    refine z_ifB_eq (tgt := 72) dX8_unlikeBlocks_38 (by decide) (fun c38 => ?_) (fun c38 => ?_)
    · have q := hk μ hq
      unfold uqN at q
      rw [show uqL a b E n s s = uqL a b E n s o by rw [c38, uqL_f c38 (by omega)]] at q
      refine z_sub (lv' := [(0, _), (1, _), (2, _), (3, _)]) rfl ?_
      exact q
    · refine z_aload_n dX8_unlikeBlocks_41 rfl ?_
      refine z_iload dX8_unlikeBlocks_42 rfl ?_
      refine z_cV1 dX8_unlikeBlocks_44 lk_X8_91 (by decide) ⟨by decide, _, rfl⟩ rfl (Nat.le_of_ble_eq_true rfl) (ev_X8_isBlock G hab htl hl hs (show o < 2 ^ n by omega)) ?_
      refine z_ifB_eq (tgt := 60) dX8_unlikeBlocks_47 (by decide) (fun c47 => ?_) (fun c47 => ?_)
      · refine z_iconst (v := nI 1) dX8_unlikeBlocks_60 (by decide) ?_
        refine z_goto (tgt := 65) dX8_unlikeBlocks_61 (by decide) ?_
        refine z_istore_n (lv' := [(3, _), (0, _), (1, _), (2, _), (4, _)]) dX8_unlikeBlocks_65 rfl (by decide) rfl ?_
        refine z_iinc (v := nI (o + 1)) (lv' := [(4, _), (3, _), (0, _), (1, _), (2, _)]) dX8_unlikeBlocks_66 rfl (nI_inc _ 1) (by decide) rfl ?_
        refine z_goto (tgt := 31) dX8_unlikeBlocks_69 (by decide) ?_
        have q := ih (o + 1) μ (by omega) (by omega) hq h hl hs
        rw [show bI (uqL a b E n s (o + 1)) = nI 1 by rw [uqL_t c38, c47, Bool.false_and]; rfl] at q
        refine z_sub (lv' := [(0, _), (1, _), (2, _), (3, _), (4, _)]) rfl ?_
        exact q
      · refine z_aload_n dX8_unlikeBlocks_50 rfl ?_
        refine z_iload_n dX8_unlikeBlocks_51 rfl ?_
        refine z_iload dX8_unlikeBlocks_52 rfl ?_
        refine z_cV2g dX8_unlikeBlocks_54 lk_X8_163 (by decide) ⟨by decide, _, rfl⟩ rfl (Nat.le_of_ble_eq_true rfl) (ev_X8_areAlike G h (show s < 2 ^ 31 by omega) (show o < 2 ^ 31 by omega)) ?_
        rintro v u ⟨rfl, hq2⟩
        refine z_ifB_ne (tgt := 64) dX8_unlikeBlocks_57 (by decide) (fun c57 => ?_) (fun c57 => ?_)
        · refine z_iconst (v := nI 0) dX8_unlikeBlocks_64 (by decide) ?_
          refine z_istore_n (lv' := [(3, _), (0, _), (1, _), (2, _), (4, _)]) dX8_unlikeBlocks_65 rfl (by decide) rfl ?_
          refine z_iinc (v := nI (o + 1)) (lv' := [(4, _), (3, _), (0, _), (1, _), (2, _)]) dX8_unlikeBlocks_66 rfl (nI_inc _ 1) (by decide) rfl ?_
          refine z_goto (tgt := 31) dX8_unlikeBlocks_69 (by decide) ?_
          have q := ih (o + 1) u (by omega) (by omega) (hq.trans hq2) (h.q hq2.q) (hl.a hq2) (hs.a hq2)
          rw [show bI (uqL a b E n s (o + 1)) = nI 0 by rw [uqL_t c38, c47, c57]; rfl] at q
          refine z_sub (lv' := [(0, _), (1, _), (2, _), (3, _), (4, _)]) rfl ?_
          exact q
        · refine z_iconst (v := nI 1) dX8_unlikeBlocks_60 (by decide) ?_
          refine z_goto (tgt := 65) dX8_unlikeBlocks_61 (by decide) ?_
          refine z_istore_n (lv' := [(3, _), (0, _), (1, _), (2, _), (4, _)]) dX8_unlikeBlocks_65 rfl (by decide) rfl ?_
          refine z_iinc (v := nI (o + 1)) (lv' := [(4, _), (3, _), (0, _), (1, _), (2, _)]) dX8_unlikeBlocks_66 rfl (nI_inc _ 1) (by decide) rfl ?_
          refine z_goto (tgt := 31) dX8_unlikeBlocks_69 (by decide) ?_
          have q := ih (o + 1) u (by omega) (by omega) (hq.trans hq2) (h.q hq2.q) (hl.a hq2) (hs.a hq2)
          rw [show bI (uqL a b E n s (o + 1)) = nI 1 by rw [uqL_t c38, c47, c57]; rfl] at q
          refine z_sub (lv' := [(0, _), (1, _), (2, _), (3, _), (4, _)]) rfl ?_
          exact q
set_option maxRecDepth 100000 in
theorem lp_X8_unlikeBlocks (G : Gt) {a b n : Nat} {E Q : Nat → Nat} {μ0 : Mm} : ∀ (f s : Nat) (μ : Mm), s + f = 2 ^ n → 1 ≤ s → aqF μ0 μ → nwOK μ a b n E Q → lkE μ a b n E → lkS μ a b E (2 ^ n) →
    Zs G 2 Y_X8_unlikeBlocks (fnN G (fun v u => v = some (.int (nI (cntN (uqN a b E n) (2 ^ n)))) ∧ aqF μ0 u)) 14 [(0, rf G 35), (1, .int (nI (cntN (uqN a b E n) s))), (2, .int (nI s))] [] μ := by
  intro f
  induction f with
  | zero =>
    intro s μ hf h1 hq h hl hs
    have hn := h.le
    have hpw := p1024 hn
    have hpw1 := ppos n
    have hab := h.ab
    have htl := fun S : Nat => tot_lt (a := a) (b := b) h.g.1 h.g.2.2.1 E S
    refine z_iload_n dX8_unlikeBlocks_14 rfl ?_
    refine z_aload_n dX8_unlikeBlocks_15 rfl ?_
    refine z_cV0 dX8_unlikeBlocks_16 lk_X8_101 (by decide) ⟨by decide, _, rfl⟩ rfl (Nat.le_of_ble_eq_true rfl) (ev_X8_all G h) ?_
    refine z_icmpN_gt (tgt := 90) dX8_unlikeBlocks_19 (by decide) (by omega) (by omega) (fun c19 => ?_) (fun c19 => absurd c19 (by omega))
    refine z_iload_n dX8_unlikeBlocks_90 rfl ?_
    exact z_ret (ty := none) (v := none) rfl dX8_unlikeBlocks_91 ⟨by rw [show s = 2 ^ n by omega], hq⟩
  | succ f ih =>
    intro s μ hf h1 hq h hl hs
    have hcs := cntN_succ (uqN a b E n) s
    have hn := h.le
    have hpw := p1024 hn
    have hpw1 := ppos n
    have hab := h.ab
    have htl := fun S : Nat => tot_lt (a := a) (b := b) h.g.1 h.g.2.2.1 E S
    refine z_iload_n dX8_unlikeBlocks_14 rfl ?_
    refine z_aload_n dX8_unlikeBlocks_15 rfl ?_
    refine z_cV0 dX8_unlikeBlocks_16 lk_X8_101 (by decide) ⟨by decide, _, rfl⟩ rfl (Nat.le_of_ble_eq_true rfl) (ev_X8_all G h) ?_
    refine z_icmpN_gt (tgt := 90) dX8_unlikeBlocks_19 (by decide) (by omega) (by omega) (fun c19 => absurd c19 (by omega)) (fun c19 => ?_)
    refine z_aload_n dX8_unlikeBlocks_22 rfl ?_
    refine z_iload_n dX8_unlikeBlocks_23 rfl ?_
    refine z_cV1 dX8_unlikeBlocks_24 lk_X8_91 (by decide) ⟨by decide, _, rfl⟩ rfl (Nat.le_of_ble_eq_true rfl) (ev_X8_isBlock G hab htl hl hs (show s < 2 ^ n by omega)) ?_
    refine z_istore_n (lv' := [(3, _), (0, _), (1, _), (2, _)]) dX8_unlikeBlocks_27 rfl (by decide) rfl ?_
    refine z_iconst (v := nI 1) dX8_unlikeBlocks_28 (by decide) ?_
    refine z_istore (lv' := [(4, _), (3, _), (0, _), (1, _), (2, _)]) dX8_unlikeBlocks_29 (by decide) rfl ?_
    have q := lp2_X8_unlikeBlocks G (a := a) (b := b) (E := E) (Q := Q) (n := n) (μ0 := μ) (s := s) (c := cntN (uqN a b E n) s) (F := fnN G (fun v u => v = some (.int (nI (cntN (uqN a b E n) (2 ^ n)))) ∧ aqF μ0 u)) (by omega) ?_ (s - 1) 1 μ (by omega) (Nat.le_refl _) aqF.rf h hl hs
    · rw [uqL_1] at q
      refine z_sub (lv' := [(0, _), (1, _), (2, _), (3, _), (4, _)]) rfl ?_
      exact q
    · intro u hq2
      refine z_iload_n dX8_unlikeBlocks_72 rfl ?_
      refine z_iload_n dX8_unlikeBlocks_73 rfl ?_
      refine z_ifB_eq (tgt := 81) dX8_unlikeBlocks_74 (by decide) (fun c74 => ?_) (fun c74 => ?_)
      · refine z_iconst (v := nI 0) dX8_unlikeBlocks_81 (by decide) ?_
        refine z_iaddN dX8_unlikeBlocks_82 ?_
        refine z_istore_n (lv' := [(1, _), (0, _), (2, _), (3, _)]) dX8_unlikeBlocks_83 rfl (by decide) rfl ?_
        refine z_iinc (v := nI (s + 1)) (lv' := [(2, _), (1, _), (0, _), (3, _)]) dX8_unlikeBlocks_84 rfl (nI_inc _ 1) (by decide) rfl ?_
        refine z_goto (tgt := 14) dX8_unlikeBlocks_87 (by decide) ?_
        have q := ih (s + 1) u (by omega) (by omega) (hq.trans hq2) (h.q hq2.q) (hl.a hq2) (hs.a hq2)
        rw [hcs, c74] at q
        simp only [Bool.false_eq_true, if_true, if_false] at q
        refine z_sub (lv' := [(0, _), (1, _), (2, _)]) rfl ?_
        exact q
      · refine z_iconst (v := nI 1) dX8_unlikeBlocks_77 (by decide) ?_
        refine z_goto (tgt := 82) dX8_unlikeBlocks_78 (by decide) ?_
        refine z_iaddN dX8_unlikeBlocks_82 ?_
        refine z_istore_n (lv' := [(1, _), (0, _), (2, _), (3, _)]) dX8_unlikeBlocks_83 rfl (by decide) rfl ?_
        refine z_iinc (v := nI (s + 1)) (lv' := [(2, _), (1, _), (0, _), (3, _)]) dX8_unlikeBlocks_84 rfl (nI_inc _ 1) (by decide) rfl ?_
        refine z_goto (tgt := 14) dX8_unlikeBlocks_87 (by decide) ?_
        have q := ih (s + 1) u (by omega) (by omega) (hq.trans hq2) (h.q hq2.q) (hl.a hq2) (hs.a hq2)
        rw [hcs, c74] at q
        simp only [Bool.false_eq_true, if_true, if_false] at q
        refine z_sub (lv' := [(0, _), (1, _), (2, _)]) rfl ?_
        exact q
set_option maxRecDepth 100000 in
theorem ev_X8_unlikeBlocks (G : Gt) {a b n : Nat} {E Q : Nat → Nat} {μ : Mm} (h : nwOK μ a b n E Q)  : EV G 2 Y_X8_unlikeBlocks [rf G 35] μ (fun v u => v = some (.int (nI (cntN (uqN a b E n) (2 ^ n)))) ∧ mqF (uF μ 35 3 (nI 0)) u) := by
  have hab := h.ab
  have hn := h.le
  have hpw := p1024 hn
  have hpw1 := ppos n
  refine ev_of (by decide) (Nat.le_of_ble_eq_true rfl) ?_
  show Zs G 2 Y_X8_unlikeBlocks (fnN G _) 0 [(0, rf G 35)] [] μ
  refine z_aload_n dX8_unlikeBlocks_0 rfl ?_
  refine z_iconst (v := nI 0) dX8_unlikeBlocks_1 (by decide) ?_
  refine z_putI dX8_unlikeBlocks_2 fp_X8_41 ⟨by decide, _, rfl, rfl⟩ ?_
  refine z_aload_n dX8_unlikeBlocks_5 rfl ?_
  refine z_iconst (v := -1) dX8_unlikeBlocks_6 (by decide) ?_
  refine z_cV1g dX8_unlikeBlocks_7 lk_X8_94 (by decide) ⟨by decide, _, rfl⟩ rfl (Nat.le_of_ble_eq_true rfl) (ev_X8_looks_0 G (h.u3 _)) ?_
  rintro v u ⟨rfl, hq, hl, hs⟩
  have h := (h.u3 (nI 0)).q hq
  have htl := fun S : Nat => tot_lt (a := a) (b := b) h.g.1 h.g.2.2.1 E S
  refine z_iconst (v := nI 0) dX8_unlikeBlocks_10 (by decide) ?_
  refine z_istore_n (lv' := [(1, _), (0, _)]) dX8_unlikeBlocks_11 rfl (by decide) rfl ?_
  refine z_iconst (v := nI 1) dX8_unlikeBlocks_12 (by decide) ?_
  refine z_istore_n (lv' := [(2, _), (1, _), (0, _)]) dX8_unlikeBlocks_13 rfl (by decide) rfl ?_
  have q := lp_X8_unlikeBlocks G (μ0 := u) (2 ^ n - 1) 1 u (by omega) (Nat.le_refl _) aqF.rf h hl hs
  rw [show cntN (uqN a b E n) 1 = 0 by rw [show (1 : Nat) = 0 + 1 from rfl, cntN_succ, show uqN a b E n 0 = false by unfold uqN uqL; rw [blk_0]; rfl]; rfl] at q
  refine z_sub (lv' := [(0, _), (1, _), (2, _)]) rfl ?_
  refine Zs.post ?_ q
  rintro v u2 ⟨rfl, hq2⟩
  exact ⟨rfl, hq.trans hq2.q⟩
