set_option maxRecDepth 100000 in
theorem lp_X8_freeFor (G : Gt) {a b : Nat} {μ : Mm} (hg : nwG μ a b) : ∀ (f k S : Nat), a * b ≤ cntN S.testBit (a * b) + f → S < 2 ^ 36 →
    Zs G 3 Y_X8_freeFor (fnN G (fun v u => v = some (.int (nI (k + ffN a b S f))) ∧ u = μ)) 24 [(0, rf G 35), (1, .long (lN S)), (3, .int (nI k)), (4, .int (oI (lfN a b S)))] [] μ := by
  intro f
  have hab := hg.ab
  have hab1 := hg.p
  have ha := hg.2.2.1
  have ha6 := hg.2.2.2.1
  have hb := hg.2.2.2.2.1
  have hb6 := hg.2.2.2.2.2
  induction f with
  | zero =>
    intro k S hf hS
    rcases hl : lfN a b S with _ | e
    · show Zs _ _ _ _ _ [(0, rf G 35), (1, .long (lN S)), (3, .int (nI k)), (4, .int (-1))] _ _
      refine z_iload dX8_freeFor_24 rfl ?_
      refine z_iconst (v := -1) dX8_freeFor_26 (by decide) ?_
      refine z_icmp_eq (tgt := 51) dX8_freeFor_27 (by decide) (fun c27 => ?_) (fun c27 => absurd rfl c27)
      refine z_iload_n dX8_freeFor_51 rfl ?_
      exact z_ret (ty := none) (v := none) rfl dX8_freeFor_52 ⟨rfl, rfl⟩
    · have he := lf_lt hl
      have hgr := grow ha ha6 hb hb6 hl (by omega)
      have hle := cntN_le (rwN a b S e).testBit (a * b)
      omega
  | succ f ih =>
    intro k S hf hS
    rcases hl : lfN a b S with _ | e
    · show Zs _ _ _ _ _ [(0, rf G 35), (1, .long (lN S)), (3, .int (nI k)), (4, .int (-1))] _ _
      refine z_iload dX8_freeFor_24 rfl ?_
      refine z_iconst (v := -1) dX8_freeFor_26 (by decide) ?_
      refine z_icmp_eq (tgt := 51) dX8_freeFor_27 (by decide) (fun c27 => ?_) (fun c27 => absurd rfl c27)
      refine z_iload_n dX8_freeFor_51 rfl ?_
      exact z_ret (ty := none) (v := none) rfl dX8_freeFor_52 ⟨by rw [show ffN a b S (f + 1) = 0 by unfold ffN; rw [hl], Nat.add_zero], rfl⟩
    · have he := lf_lt hl
      have he3 : e < a * b := by omega
      have hS2 := rwN_lt ha hb hab hS he3
      have hgr := grow ha ha6 hb hb6 hl he3
      show Zs _ _ _ _ _ [(0, rf G 35), (1, .long (lN S)), (3, .int (nI k)), (4, .int (nI e))] _ _
      refine z_iload dX8_freeFor_24 rfl ?_
      refine z_iconst (v := -1) dX8_freeFor_26 (by decide) ?_
      refine z_icmp_eq (tgt := 51) dX8_freeFor_27 (by decide) (fun c27 => absurd c27 (nI_m1 (by omega))) (fun c27 => ?_)
      refine z_aload_n dX8_freeFor_30 rfl ?_
      refine z_lload_n dX8_freeFor_31 rfl ?_
      refine z_iload dX8_freeFor_32 rfl ?_
      refine z_cV2 dX8_freeFor_34 lk_X8_155 (by decide) ⟨by decide, _, rfl⟩ rfl (Nat.le_of_ble_eq_true rfl) (ev_X8_with G hg hS he3) ?_
      refine z_lstore_n (lv' := [(1, _), (0, _), (3, _), (4, _)]) dX8_freeFor_37 rfl (by decide) rfl ?_
      refine z_iinc (v := nI (k + 1)) (lv' := [(3, _), (1, _), (0, _), (4, _)]) dX8_freeFor_38 rfl (nI_inc _ 1) (by decide) rfl ?_
      refine z_aload_n dX8_freeFor_41 rfl ?_
      refine z_lload_n dX8_freeFor_42 rfl ?_
      refine z_cV1 dX8_freeFor_43 lk_X8_159 (by decide) ⟨by decide, _, rfl⟩ rfl (Nat.le_of_ble_eq_true rfl) (ev_X8_freeBy G hg hS2) ?_
      refine z_istore (lv' := [(4, _), (3, _), (1, _), (0, _)]) dX8_freeFor_46 (by decide) rfl ?_
      refine z_goto (tgt := 24) dX8_freeFor_48 (by decide) ?_
      have q := ih (k + 1) (rwN a b S e) (by omega) hS2
      rw [show k + 1 + ffN a b (rwN a b S e) f = k + ffN a b S (f + 1) by rw [show ffN a b S (f + 1) = ffN a b (rwN a b S e) f + 1 by show (match lfN a b S with | none => 0 | some e => ffN a b (rwN a b S e) f + 1) = _; rw [hl]]; omega] at q
      refine z_sub (lv' := [(0, _), (1, _), (3, _), (4, _)]) rfl ?_
      rw [fb_eq ha ha6 hb hb6]
      exact q
set_option maxRecDepth 100000 in
theorem ev_X8_freeFor (G : Gt) {a b n : Nat} {E Q : Nat → Nat} {μ : Mm} (h : nwOK μ a b n E Q) : EV G 3 Y_X8_freeFor [rf G 35] μ (fun v u => v = some (.int (nI (ffN a b (ssN a b E (2 ^ n)) (a * b)))) ∧ mqF (uF μ 35 3 (nI 0)) u) := by
  refine ev_of (by decide) (Nat.le_of_ble_eq_true rfl) ?_
  show Zs G 3 Y_X8_freeFor (fnN G _) 0 [(0, rf G 35)] [] μ
  refine z_aload_n dX8_freeFor_0 rfl ?_
  refine z_iconst (v := nI 0) dX8_freeFor_1 (by decide) ?_
  refine z_putI dX8_freeFor_2 fp_X8_41 ⟨by decide, _, rfl, rfl⟩ ?_
  refine z_aload_n dX8_freeFor_5 rfl ?_
  refine z_iconst (v := -1) dX8_freeFor_6 (by decide) ?_
  refine z_cV1g dX8_freeFor_7 lk_X8_94 (by decide) ⟨by decide, _, rfl⟩ rfl (Nat.le_of_ble_eq_true rfl) (ev_X8_looks_0 G (h.u3 _)) ?_
  rintro v u ⟨rfl, hq, hl, hs⟩
  have h := (h.u3 (nI 0)).q hq
  have htl := fun S : Nat => tot_lt (a := a) (b := b) h.g.1 h.g.2.2.1 E S
  have hab := h.ab
  have hss := ssN_lt (a := a) (b := b) (E := E) (fun S => by have := htl S; omega) (2 ^ n)
  refine z_aload_n dX8_freeFor_10 rfl ?_
  refine z_cV0 dX8_freeFor_11 lk_X8_119 (by decide) ⟨by decide, _, rfl⟩ rfl (Nat.le_of_ble_eq_true rfl) (ev_X8_sumSet G h hl hs) ?_
  refine z_lstore_n (lv' := [(1, _), (0, _)]) dX8_freeFor_14 rfl (by decide) rfl ?_
  refine z_iconst (v := nI 0) dX8_freeFor_15 (by decide) ?_
  refine z_istore_n (lv' := [(3, _), (1, _), (0, _)]) dX8_freeFor_16 rfl (by decide) rfl ?_
  refine z_aload_n dX8_freeFor_17 rfl ?_
  refine z_lload_n dX8_freeFor_18 rfl ?_
  refine z_cV1 dX8_freeFor_19 lk_X8_159 (by decide) ⟨by decide, _, rfl⟩ rfl (Nat.le_of_ble_eq_true rfl) (ev_X8_freeBy G h.G hss) ?_
  refine z_istore (lv' := [(4, _), (3, _), (1, _), (0, _)]) dX8_freeFor_22 (by decide) rfl ?_
  refine z_sub (lv' := [(0, _), (1, _), (3, _), (4, _)]) rfl ?_
  rw [fb_eq h.g.1 h.g.2.1 h.g.2.2.1 h.g.2.2.2]
  refine Zs.post ?_ (lp_X8_freeFor G h.G (a * b) 0 (ssN a b E (2 ^ n)) (by omega) hss)
  rintro v u2 ⟨rfl, rfl⟩
  exact ⟨by rw [Nat.zero_add], hq⟩
