/-- the highest bit below k; the first one below N that a test picks -/
def hbN (n : Nat) : Nat → Option Nat
  | 0 => none
  | k + 1 => if n.testBit k then some k else hbN n k
def fsN (f : Nat → Bool) : Nat → Option Nat
  | 0 => none
  | N + 1 => match fsN f N with
    | some x => some x
    | none => if f N then some N else none
theorem fsN_none {f : Nat → Bool} : ∀ {N : Nat}, (∀ j, j < N → f j = false) → fsN f N = none := by
  intro N
  induction N with
  | zero => intro _; rfl
  | succ N ih =>
    intro h
    unfold fsN
    rw [ih (fun j hj => h j (by omega)), h N (by omega)]; rfl
theorem fsN_some {f : Nat → Bool} {x : Nat} (hx : f x = true) (h : ∀ j, j < x → f j = false) : ∀ {N : Nat}, x < N → fsN f N = some x := by
  intro N
  induction N with
  | zero => intro q; omega
  | succ N ih =>
    intro q
    unfold fsN
    by_cases e : x = N
    · subst e; rw [fsN_none h, hx]; rfl
    · rw [ih (by omega)]
theorem fl1 {c : Nat → Bool} {s B : Nat} (h : c B = false) (h2 : ∀ j, s ≤ j → j < B → c j = false) : ∀ j, s ≤ j → j < B + 1 → c j = false := by
  intro j q1 q2
  by_cases e : j = B
  · subst e; exact h
  · exact h2 j q1 (by omega)
theorem okE_tab {a b m w : Nat} {E : Nat → Nat} {μ : Mm} (h : tabOK μ a b m E w) : okE a b E m := fun _ hk => h.el hk
set_option maxRecDepth 100000 in
theorem fi_X5_tableSplitsOf (G : Gt) {a b m w : Nat} {E : Nat → Nat} {μ0 : Mm} (h : tabOK μ0 a b m E w) {S : Nat} (h0 : S ≠ 0) (hS : S < 2 ^ m) {μ : Mm} (hs : sm 30 32 μ0 μ) (hr : ∀ T : Nat, T < S → μ.2.1 30 T = nI (lenN a b E T) ∧ μ.2.1 31 T = nI (splN a b E T)) : Zs G 0 Y_X5_tableSplitsOf (fnN G (fun v u => v = none ∧ u = (uR (uR μ 30 S (nI (lenN a b E S))) 31 S (nI (splN a b E S))))) 101 [(0, rf G 23), (1, .int (nI S)), (3, .int (nI (lenN a b E S))), (4, .int (nI (splN a b E S)))] [] μ := by
  have hm := h.le
  have hp := p1024 hm
  have hc := cntN_le (blk a b E) (2 ^ m)
  refine z_aload_n dX5_tableSplitsOf_101 rfl ?_
  refine z_getR (j := 30) dX5_tableSplitsOf_102 fl_X5_25 ⟨by decide, _, rfl, rfl⟩ ?_
  refine z_iload_n dX5_tableSplitsOf_105 rfl ?_
  refine z_iload_n dX5_tableSplitsOf_106 rfl ?_
  refine z_iastN dX5_tableSplitsOf_107 ⟨by decide, rfl⟩ (by omega) (by decide) ?_
  refine z_aload_n dX5_tableSplitsOf_108 rfl ?_
  refine z_getR (j := 31) dX5_tableSplitsOf_109 fl_X5_28 ⟨by decide, _, rfl, rfl⟩ ?_
  refine z_iload_n dX5_tableSplitsOf_112 rfl ?_
  refine z_iload dX5_tableSplitsOf_113 rfl ?_
  refine z_iastN dX5_tableSplitsOf_115 ⟨by decide, rfl⟩ (by omega) (by decide) ?_
  exact z_vret rfl dX5_tableSplitsOf_116 ⟨rfl, rfl⟩
theorem fi2_X5_tableSplitsOf (G : Gt) {a b m w : Nat} {E : Nat → Nat} {μ0 : Mm} (h : tabOK μ0 a b m E w) {S : Nat} (h0 : S ≠ 0) (hS : S < 2 ^ m) {μ : Mm} (hs : sm 30 32 μ0 μ) (hr : ∀ T : Nat, T < S → μ.2.1 30 T = nI (lenN a b E T) ∧ μ.2.1 31 T = nI (splN a b E T)) {x y : Nat} (hx : x = lenN a b E S) (hy : y = splN a b E S) : Zs G 0 Y_X5_tableSplitsOf (fnN G (fun v u => v = none ∧ u = (uR (uR μ 30 S (nI (lenN a b E S))) 31 S (nI (splN a b E S))))) 101 [(0, rf G 23), (1, .int (nI S)), (3, .int (nI x)), (4, .int (nI y))] [] μ := by
  subst hx; subst hy
  exact fi_X5_tableSplitsOf G h h0 hS hs hr
set_option maxRecDepth 100000 in
theorem lp_X5_tableSplitsOf (G : Gt) {a b m w : Nat} {E : Nat → Nat} {μ0 : Mm} (h : tabOK μ0 a b m E w) {S : Nat} (h0 : S ≠ 0) (hS : S < 2 ^ m) {μ : Mm} (hs : sm 30 32 μ0 μ) (hr : ∀ T : Nat, T < S → μ.2.1 30 T = nI (lenN a b E T) ∧ μ.2.1 31 T = nI (splN a b E T)) : ∀ (f k s : Nat), k + f = cntN (blk a b E) (2 ^ m) → s ≤ 2 ^ m → s ≤ S + 1 → k = cntN (blk a b E) s →
    Zs G 0 Y_X5_tableSplitsOf (fnN G (fun v u => v = none ∧ u = (uR (uR μ 30 S (nI (lenN a b E S))) 31 S (nI (splN a b E S))))) 22 [(0, rf G 23), (1, .int (nI S)), (2, .int (nI (lowN S))), (3, .int (nI (accO (cB a b E S) (fun B => lenN a b E (S ^^^ B) * 2) s))), (4, .int (nI (accS (cB a b E S) (fun B => splN a b E (S ^^^ B)) s))), (5, .int (nI k))] [] μ := by
  intro f
  have hm := h.le
  have hp := p1024 hm
  have hc := cntN_le (blk a b E) (2 ^ m)
  induction f with
  | zero =>
    intro k s hf hsm hsS hk
    have hfl := cntN_none (f := blk a b E) hsm (by omega)
    refine z_iload dX5_tableSplitsOf_22 rfl ?_
    refine z_aload_n dX5_tableSplitsOf_24 rfl ?_
    refine z_getI dX5_tableSplitsOf_25 fl_X5_34 ⟨by decide, _, rfl, rfl⟩ ((hs.F 6 (by omega)).trans h.c) ?_
    refine z_icmpN_ge (tgt := 101) dX5_tableSplitsOf_28 (by decide) (by omega) (by omega) (fun c28 => ?_) (fun c28 => absurd c28 (by omega))
    have e1 : accO (cB a b E S) (fun B => lenN a b E (S ^^^ B) * 2) s = lenN a b E S := by rw [len_rec h0]; exact (accO_flat hsS (fun B h1 h2 => by unfold cB; rw [hfl B h1 (by omega)]; rfl)).symm
    have e2 : accS (cB a b E S) (fun B => splN a b E (S ^^^ B)) s = splN a b E S := by rw [spl_rec h0]; exact (accS_flat hsS (fun B h1 h2 => by unfold cB; rw [hfl B h1 (by omega)]; rfl)).symm
    have q := fi_X5_tableSplitsOf G h h0 hS hs hr
    refine z_sub (lv' := [(0, _), (1, _), (3, _), (4, _)]) rfl ?_
    rw [e1, e2]
    exact q
  | succ f ih =>
    intro k s hf hsm hsS hk
    obtain ⟨B, q1, q2, q3, q4, q5⟩ := cntN_next (f := blk a b E) hsm (show cntN (blk a b E) s < cntN (blk a b E) (2 ^ m) by omega)
    have hbk : μ.2.1 32 k = nI B := (congrFun (hs.R (by omega)) k).trans (h.bk q2 q3 (q4.trans hk.symm))
    have hnx : k + 1 = cntN (blk a b E) (B + 1) := by rw [cntN_succ, if_pos q3]; omega
    have hand : B &&& lowN S ≤ B := Nat.and_le_left
    refine z_iload dX5_tableSplitsOf_22 rfl ?_
    refine z_aload_n dX5_tableSplitsOf_24 rfl ?_
    refine z_getI dX5_tableSplitsOf_25 fl_X5_34 ⟨by decide, _, rfl, rfl⟩ ((hs.F 6 (by omega)).trans h.c) ?_
    refine z_icmpN_ge (tgt := 101) dX5_tableSplitsOf_28 (by decide) (by omega) (by omega) (fun c28 => absurd c28 (by omega)) (fun c28 => ?_)
    refine z_aload_n dX5_tableSplitsOf_31 rfl ?_
    refine z_getR (j := 32) dX5_tableSplitsOf_32 fl_X5_31 ⟨by decide, _, rfl, rfl⟩ ?_
    refine z_iload dX5_tableSplitsOf_35 rfl ?_
    refine z_ialdN dX5_tableSplitsOf_37 ⟨by decide, rfl⟩ (by omega) (by decide) hbk ?_
    refine z_iload_n dX5_tableSplitsOf_38 rfl ?_
    refine z_icmpN_gt (tgt := 101) dX5_tableSplitsOf_39 (by decide) (by omega) (by omega) (fun c39 => ?_) (fun c39 => ?_)
    · have e1 : accO (cB a b E S) (fun B => lenN a b E (S ^^^ B) * 2) s = lenN a b E S := by rw [len_rec h0]; exact (accO_flat hsS (fun B h1 h2 => by unfold cB; rw [q5 B h1 (by omega)]; rfl)).symm
      have e2 : accS (cB a b E S) (fun B => splN a b E (S ^^^ B)) s = splN a b E S := by rw [spl_rec h0]; exact (accS_flat hsS (fun B h1 h2 => by unfold cB; rw [q5 B h1 (by omega)]; rfl)).symm
      have q := fi_X5_tableSplitsOf G h h0 hS hs hr
      refine z_sub (lv' := [(0, _), (1, _), (3, _), (4, _)]) rfl ?_
      rw [e1, e2]
      exact q
    · refine z_aload_n dX5_tableSplitsOf_42 rfl ?_
      refine z_getR (j := 32) dX5_tableSplitsOf_43 fl_X5_31 ⟨by decide, _, rfl, rfl⟩ ?_
      refine z_iload dX5_tableSplitsOf_46 rfl ?_
      refine z_ialdN dX5_tableSplitsOf_48 ⟨by decide, rfl⟩ (by omega) (by decide) hbk ?_
      refine z_istore (lv' := [(6, _), (0, _), (1, _), (2, _), (3, _), (4, _), (5, _)]) dX5_tableSplitsOf_49 (by decide) rfl ?_
      refine z_iload dX5_tableSplitsOf_51 rfl ?_
      refine z_iload_n dX5_tableSplitsOf_53 rfl ?_
      refine z_iandN dX5_tableSplitsOf_54 ?_
      refine z_ifN_eq (tgt := 95) dX5_tableSplitsOf_55 (by decide) (by omega) (fun c55 => ?_) (fun c55 => ?_)
      · refine z_iinc (v := nI (k + 1)) (lv' := [(5, _), (6, _), (0, _), (1, _), (2, _), (3, _), (4, _)]) dX5_tableSplitsOf_95 rfl (nI_inc _ 1) (by decide) rfl ?_
        have hcb : cB a b E S B = false := by unfold cB; rw [c55]; simp
        have e1 : accO (cB a b E S) (fun B => lenN a b E (S ^^^ B) * 2) (B + 1) = accO (cB a b E S) (fun B => lenN a b E (S ^^^ B) * 2) s := by rw [accO_flat (s := s) (t := B + 1) (by omega) (fl1 hcb (fun B h1 h2 => by unfold cB; rw [q5 B h1 (by omega)]; rfl))]
        have e2 : accS (cB a b E S) (fun B => splN a b E (S ^^^ B)) (B + 1) = accS (cB a b E S) (fun B => splN a b E (S ^^^ B)) s := by rw [accS_flat (s := s) (t := B + 1) (by omega) (fl1 hcb (fun B h1 h2 => by unfold cB; rw [q5 B h1 (by omega)]; rfl))]
        refine z_goto (tgt := 22) dX5_tableSplitsOf_98 (by decide) ?_
        have q := ih (k + 1) (B + 1) (by omega) (by omega) (by omega) hnx
        rw [e1, e2] at q
        refine z_sub (lv' := [(0, _), (1, _), (2, _), (3, _), (4, _), (5, _)]) rfl ?_
        exact q
      · refine z_iload dX5_tableSplitsOf_58 rfl ?_
        refine z_iload_n dX5_tableSplitsOf_60 rfl ?_
        refine z_iconst (v := -1) dX5_tableSplitsOf_61 (by decide) ?_
        refine z_ixor dX5_tableSplitsOf_62 ?_
        refine z_iand dX5_tableSplitsOf_63 ?_
        rw [nI_andn]
        have hle := andn_le B S
        refine z_ifN_ne (tgt := 95) dX5_tableSplitsOf_64 (by decide) (by omega) (fun c64 => ?_) (fun c64 => ?_)
        · refine z_iinc (v := nI (k + 1)) (lv' := [(5, _), (6, _), (0, _), (1, _), (2, _), (3, _), (4, _)]) dX5_tableSplitsOf_95 rfl (nI_inc _ 1) (by decide) rfl ?_
          have hcb : cB a b E S B = false := by cases e : cB a b E S B with
      | false => rfl
      | true => exact absurd (andn_zero.mpr (cB_sb e)) c64
          have e1 : accO (cB a b E S) (fun B => lenN a b E (S ^^^ B) * 2) (B + 1) = accO (cB a b E S) (fun B => lenN a b E (S ^^^ B) * 2) s := by rw [accO_flat (s := s) (t := B + 1) (by omega) (fl1 hcb (fun B h1 h2 => by unfold cB; rw [q5 B h1 (by omega)]; rfl))]
          have e2 : accS (cB a b E S) (fun B => splN a b E (S ^^^ B)) (B + 1) = accS (cB a b E S) (fun B => splN a b E (S ^^^ B)) s := by rw [accS_flat (s := s) (t := B + 1) (by omega) (fl1 hcb (fun B h1 h2 => by unfold cB; rw [q5 B h1 (by omega)]; rfl))]
          refine z_goto (tgt := 22) dX5_tableSplitsOf_98 (by decide) ?_
          have q := ih (k + 1) (B + 1) (by omega) (by omega) (by omega) hnx
          rw [e1, e2] at q
          refine z_sub (lv' := [(0, _), (1, _), (2, _), (3, _), (4, _), (5, _)]) rfl ?_
          exact q
        · have hcb : cB a b E S B = true := by unfold cB; rw [q3, decide_eq_true c55, andn_zero.mp c64]; rfl
          have hlt := cB_lt hcb
          have hl2 := len_lt2 (a := a) (b := b) (E := E) (S := S ^^^ B) hm (by omega)
          refine z_iload_n dX5_tableSplitsOf_67 rfl ?_
          refine z_aload_n dX5_tableSplitsOf_68 rfl ?_
          refine z_getR (j := 30) dX5_tableSplitsOf_69 fl_X5_25 ⟨by decide, _, rfl, rfl⟩ ?_
          refine z_iload_n dX5_tableSplitsOf_72 rfl ?_
          refine z_iload dX5_tableSplitsOf_73 rfl ?_
          refine z_ixorN dX5_tableSplitsOf_75 ?_
          refine z_ialdN dX5_tableSplitsOf_76 ⟨by decide, rfl⟩ (by omega) (by decide) (hr _ hlt).1 ?_
          refine z_iconst (v := nI 1) dX5_tableSplitsOf_77 (by decide) ?_
          refine z_ishlN dX5_tableSplitsOf_78 (by omega) (by omega) ?_
          refine z_iorN dX5_tableSplitsOf_79 ?_
          refine z_istore_n (lv' := [(3, _), (6, _), (0, _), (1, _), (2, _), (4, _), (5, _)]) dX5_tableSplitsOf_80 rfl (by decide) rfl ?_
          refine z_iload dX5_tableSplitsOf_81 rfl ?_
          refine z_aload_n dX5_tableSplitsOf_83 rfl ?_
          refine z_getR (j := 31) dX5_tableSplitsOf_84 fl_X5_28 ⟨by decide, _, rfl, rfl⟩ ?_
          refine z_iload_n dX5_tableSplitsOf_87 rfl ?_
          refine z_iload dX5_tableSplitsOf_88 rfl ?_
          refine z_ixorN dX5_tableSplitsOf_90 ?_
          refine z_ialdN dX5_tableSplitsOf_91 ⟨by decide, rfl⟩ (by omega) (by decide) (hr _ hlt).2 ?_
          refine z_iaddN dX5_tableSplitsOf_92 ?_
          refine z_istore (lv' := [(4, _), (3, _), (6, _), (0, _), (1, _), (2, _), (5, _)]) dX5_tableSplitsOf_93 (by decide) rfl ?_
          refine z_iinc (v := nI (k + 1)) (lv' := [(5, _), (4, _), (3, _), (6, _), (0, _), (1, _), (2, _)]) dX5_tableSplitsOf_95 rfl (nI_inc _ 1) (by decide) rfl ?_
          have e1 : accO (cB a b E S) (fun B => lenN a b E (S ^^^ B) * 2) (B + 1) = accO (cB a b E S) (fun B => lenN a b E (S ^^^ B) * 2) s ||| lenN a b E (S ^^^ B) * 2 ^ 1 := by
            have e9 : accO (cB a b E S) (fun B => lenN a b E (S ^^^ B) * 2) (B + 1) = if cB a b E S B then accO (cB a b E S) (fun B => lenN a b E (S ^^^ B) * 2) B ||| lenN a b E (S ^^^ B) * 2 else accO (cB a b E S) (fun B => lenN a b E (S ^^^ B) * 2) B := rfl
            rw [e9, if_pos hcb, accO_flat (s := s) q1 (fun B h1 h2 => by unfold cB; rw [q5 B h1 (by omega)]; rfl)]
          have e2 : accS (cB a b E S) (fun B => splN a b E (S ^^^ B)) (B + 1) = accS (cB a b E S) (fun B => splN a b E (S ^^^ B)) s + splN a b E (S ^^^ B) := by
            have e9 : accS (cB a b E S) (fun B => splN a b E (S ^^^ B)) (B + 1) = if cB a b E S B then accS (cB a b E S) (fun B => splN a b E (S ^^^ B)) B + splN a b E (S ^^^ B) else accS (cB a b E S) (fun B => splN a b E (S ^^^ B)) B := rfl
            rw [e9, if_pos hcb, accS_flat (s := s) q1 (fun B h1 h2 => by unfold cB; rw [q5 B h1 (by omega)]; rfl)]
          refine z_goto (tgt := 22) dX5_tableSplitsOf_98 (by decide) ?_
          have q := ih (k + 1) (B + 1) (by omega) (by omega) (by omega) hnx
          rw [e1, e2] at q
          refine z_sub (lv' := [(0, _), (1, _), (2, _), (3, _), (4, _), (5, _)]) rfl ?_
          exact q
set_option maxRecDepth 100000 in
theorem ev_X5_tableSplitsOf (G : Gt) {a b m w : Nat} {E : Nat → Nat} {μ0 : Mm} (h : tabOK μ0 a b m E w) {S : Nat} (h0 : S ≠ 0) (hS : S < 2 ^ m) {μ : Mm} (hs : sm 30 32 μ0 μ) (hr : ∀ T : Nat, T < S → μ.2.1 30 T = nI (lenN a b E T) ∧ μ.2.1 31 T = nI (splN a b E T)) : EV G 0 Y_X5_tableSplitsOf [rf G 23, .int (nI S)] μ (fun v u => v = none ∧ u = (uR (uR μ 30 S (nI (lenN a b E S))) 31 S (nI (splN a b E S)))) := by
  have hm := h.le
  have hp := p1024 hm
  have hc := cntN_le (blk a b E) (2 ^ m)
  refine ev_of (by decide) (Nat.le_of_ble_eq_true rfl) ?_
  show Zs G 0 Y_X5_tableSplitsOf (fnN G _) 0 [(0, rf G 23), (1, .int (nI S))] [] μ
  refine z_iload_n dX5_tableSplitsOf_0 rfl ?_
  refine z_iload_n dX5_tableSplitsOf_1 rfl ?_
  refine z_ineg dX5_tableSplitsOf_2 ?_
  refine z_iand dX5_tableSplitsOf_3 ?_
  rw [low_neg _ (by omega)]
  refine z_istore_n (lv' := [(2, _), (0, _), (1, _)]) dX5_tableSplitsOf_4 rfl (by decide) rfl ?_
  refine z_iconst (v := nI 0) dX5_tableSplitsOf_5 (by decide) ?_
  refine z_istore_n (lv' := [(3, _), (2, _), (0, _), (1, _)]) dX5_tableSplitsOf_6 rfl (by decide) rfl ?_
  refine z_iconst (v := nI 0) dX5_tableSplitsOf_7 (by decide) ?_
  refine z_istore (lv' := [(4, _), (3, _), (2, _), (0, _), (1, _)]) dX5_tableSplitsOf_8 (by decide) rfl ?_
  refine z_aload_n dX5_tableSplitsOf_10 rfl ?_
  refine z_getR (j := 28) dX5_tableSplitsOf_11 fl_X5_18 ⟨by decide, _, rfl, rfl⟩ ?_
  refine z_iload_n dX5_tableSplitsOf_14 rfl ?_
  refine z_ialdN dX5_tableSplitsOf_15 ⟨by decide, rfl⟩ (by omega) (by decide) ((congrFun (hs.R (by omega)) S).trans (h.t hS)) ?_
  refine z_ifN_ne (tgt := 101) dX5_tableSplitsOf_16 (by decide) (by have := tot_lt h.g.2.2.1 h.g.2.2.2.2.1 E S; have := ab_le h.g.2.2.2.1 h.g.2.2.2.2.2; omega) (fun c16 => ?_) (fun c16 => ?_)
  · have hz := len_zero h.g.2.2.1 h.g.2.2.2.2.1 (okE_tab h) (S + 1) S (by omega) hS c16
    refine z_sub (lv' := [(0, _), (1, _), (3, _), (4, _)]) rfl ?_
    exact fi2_X5_tableSplitsOf G h h0 hS hs hr hz.1.symm hz.2.symm
  · refine z_iconst (v := nI 0) dX5_tableSplitsOf_19 (by decide) ?_
    refine z_istore (lv' := [(5, _), (4, _), (3, _), (2, _), (0, _), (1, _)]) dX5_tableSplitsOf_20 (by decide) rfl ?_
    refine z_sub (lv' := [(0, _), (1, _), (2, _), (3, _), (4, _), (5, _)]) rfl ?_
    exact lp_X5_tableSplitsOf G h h0 hS hs hr (cntN (blk a b E) (2 ^ m)) 0 0 (by omega) (by omega) (by omega) rfl
set_option maxRecDepth 100000 in
theorem lp_X5_tableSplits (G : Gt) {a b m w : Nat} {E : Nat → Nat} {μ0 : Mm} (h : tabOK μ0 a b m E w) : ∀ (f S : Nat) (μ : Mm), S + f = 2 ^ m → w ≤ S → sm 30 32 μ0 μ → (∀ T : Nat, T < S → μ.2.1 30 T = nI (lenN a b E T) ∧ μ.2.1 31 T = nI (splN a b E T)) →
    Zs G 1 Y_X5_tableSplits (fnN G (fun v u => v = none ∧ sm 23 33 μ0 u ∧ tabOK u a b m E (2 ^ m))) 15 [(0, rf G 23), (1, .int (nI (2 ^ m))), (2, .int (nI S))] [] μ := by
  intro f
  have hm := h.le
  have hp := p1024 hm
  have hp1 := ppos m
  have hw1 := h.w1
  induction f with
  | zero =>
    intro S μ hf hw hs hr
    refine z_iload_n dX5_tableSplits_15 rfl ?_
    refine z_iload_n dX5_tableSplits_16 rfl ?_
    refine z_icmpN_ge (tgt := 31) dX5_tableSplits_17 (by decide) (by omega) (by omega) (fun c17 => ?_) (fun c17 => absurd c17 (by omega))
    refine z_aload_n dX5_tableSplits_31 rfl ?_
    refine z_iload_n dX5_tableSplits_32 rfl ?_
    refine z_putI dX5_tableSplits_33 fp_X5_38 ⟨by decide, _, rfl, rfl⟩ ?_
    exact z_vret rfl dX5_tableSplits_36 ⟨rfl, (hs.mono (by omega) (by omega)).uF (by omega) (by omega), by
      obtain ⟨⟨Q, hq⟩, h2, h3, h4, h5, h6, h7, h8, h9⟩ := h
      have hF : ∀ i k : Nat, ¬ (i = 23 ∧ k = 7) → (i < 30 ∨ 32 ≤ i) → (uF μ 23 7 (nI (2 ^ m))).1 i k = μ0.1 i k := fun i k q1 q2 => by rw [uF_n _ _ q1]; exact hs.F k q2
      have hR : ∀ i : Nat, (i < 30 ∨ 32 ≤ i) → (uF μ 23 7 (nI (2 ^ m))).2.1 i = μ0.2.1 i := fun i q => hs.R q
      refine ⟨⟨Q, by rw [hF _ _ (by omega) (by omega)]; exact hq.1, hq.2.1, ⟨by rw [hF _ _ (by omega) (by omega)]; exact hq.2.2.1.1, by rw [hF _ _ (by omega) (by omega)]; exact hq.2.2.1.2.1, hq.2.2.1.2.2⟩, by rw [hR _ (by omega)]; exact hq.2.2.2.1, by rw [hR _ (by omega)]; exact hq.2.2.2.2⟩, ?_, ?_, ?_, ?_, uF_s _ _ _ _, hp1, Nat.le_refl _, fun T hT => hr T (by omega)⟩
      · rw [hR _ (by omega)]; exact h2
      · rw [hR _ (by omega)]; exact h3
      · rw [hF _ _ (by omega) (by omega)]; exact h4
      · rw [hR _ (by omega)]; exact h5⟩
  | succ f ih =>
    intro S μ hf hw hs hr
    refine z_iload_n dX5_tableSplits_15 rfl ?_
    refine z_iload_n dX5_tableSplits_16 rfl ?_
    refine z_icmpN_ge (tgt := 31) dX5_tableSplits_17 (by decide) (by omega) (by omega) (fun c17 => absurd c17 (by omega)) (fun c17 => ?_)
    refine z_aload_n dX5_tableSplits_20 rfl ?_
    refine z_iload_n dX5_tableSplits_21 rfl ?_
    refine z_cV1g dX5_tableSplits_22 lk_X5_112 (by decide) ⟨by decide, _, rfl⟩ rfl (Nat.le_of_ble_eq_true rfl) (ev_X5_tableSplitsOf G h (by omega) (by omega) hs hr) ?_
    rintro v u ⟨rfl, rfl⟩
    refine z_iinc (v := nI (S + 1)) (lv' := [(2, _), (0, _), (1, _)]) dX5_tableSplits_25 rfl (nI_inc _ 1) (by decide) rfl ?_
    refine z_goto (tgt := 15) dX5_tableSplits_28 (by decide) ?_
    have hr2 : ∀ T : Nat, T < S + 1 → (uR (uR μ 30 S (nI (lenN a b E S))) 31 S (nI (splN a b E S))).2.1 30 T = nI (lenN a b E T) ∧ (uR (uR μ 30 S (nI (lenN a b E S))) 31 S (nI (splN a b E S))).2.1 31 T = nI (splN a b E T) := by
      intro T hT
      rw [uR_n _ _ _ (by decide), uR_s, uR_s]
      by_cases e : T = S
      · subst e; rw [upd_s, upd_s]; exact ⟨rfl, rfl⟩
      · rw [upd_n _ _ e, upd_n _ _ e, uR_n _ _ _ (by decide)]; exact hr T (by omega)
    have q := ih (S + 1) _ (by omega) (by omega) ((hs.uR (by omega) (by omega)).uR (by omega) (by omega)) hr2
    refine z_sub (lv' := [(0, _), (1, _), (2, _)]) rfl ?_
    exact q
set_option maxRecDepth 100000 in
theorem ev_X5_tableSplits (G : Gt) {a b m w : Nat} {E : Nat → Nat} {μ : Mm} (h : tabOK μ a b m E w) : EV G 1 Y_X5_tableSplits [rf G 23] μ (fun v u => v = none ∧ sm 23 33 μ u ∧ tabOK u a b m E (2 ^ m)) := by
  have hm := h.le
  have hp := p1024 hm
  have hw2 := h.w2
  refine ev_of (by decide) (Nat.le_of_ble_eq_true rfl) ?_
  show Zs G 1 Y_X5_tableSplits (fnN G _) 0 [(0, rf G 23)] [] μ
  refine z_iconst (v := nI 1) dX5_tableSplits_0 (by decide) ?_
  refine z_aload_n dX5_tableSplits_1 rfl ?_
  refine z_getR (j := 24) dX5_tableSplits_2 fl_X5_12 ⟨by decide, _, rfl, rfl⟩ ?_
  refine z_getI dX5_tableSplits_5 fl_X5_45 ⟨by decide, _, rfl, rfl⟩ h.n ?_
  refine z_ishlN dX5_tableSplits_8 (by omega) (by omega) ?_
  refine z_istore_n (lv' := [(1, _), (0, _)]) dX5_tableSplits_9 rfl (by decide) rfl ?_
  refine z_aload_n dX5_tableSplits_10 rfl ?_
  refine z_getI dX5_tableSplits_11 fl_X5_38 ⟨by decide, _, rfl, rfl⟩ h.ws ?_
  refine z_istore_n (lv' := [(2, _), (1, _), (0, _)]) dX5_tableSplits_14 rfl (by decide) rfl ?_
  rw [Nat.one_mul]
  refine z_sub (lv' := [(0, _), (1, _), (2, _)]) rfl ?_
  exact lp_X5_tableSplits G h (2 ^ m - w) w μ (by omega) (Nat.le_refl _) sm.rf (fun T hT => ⟨h.ln hT, h.sp hT⟩)
set_option maxRecDepth 100000 in
theorem ev_X5_lengthsOf (G : Gt) {a b m w : Nat} {E : Nat → Nat} {μ : Mm} (h : tabOK μ a b m E w) {S : Nat} (hS : S < 2 ^ m) : EV G 2 Y_X5_lengthsOf [rf G 23, .int (nI S)] μ (fun v u => v = some (.int (nI (lenN a b E S))) ∧ sm 23 33 μ u ∧ tabOK u a b m E (2 ^ m)) := by
  have hm := h.le
  have hp := p1024 hm
  refine ev_of (by decide) (Nat.le_of_ble_eq_true rfl) ?_
  show Zs G 2 Y_X5_lengthsOf (fnN G _) 0 [(0, rf G 23), (1, .int (nI S))] [] μ
  refine z_aload_n dX5_lengthsOf_0 rfl ?_
  refine z_cV0g dX5_lengthsOf_1 lk_X5_90 (by decide) ⟨by decide, _, rfl⟩ rfl (Nat.le_of_ble_eq_true rfl) (ev_X5_tableSplits G h) ?_
  rintro v u ⟨rfl, hs, ht⟩
  refine z_iload_n dX5_lengthsOf_4 rfl ?_
  refine z_cS1 dX5_lengthsOf_5 lk_X5_74 (by decide) (Nat.le_of_ble_eq_true rfl) (ev_X5_isSet G (by omega)) ?_
  refine z_ifB_eq (tgt := 20) dX5_lengthsOf_8 (by decide) (fun c8 => Bool.noConfusion c8) (fun c8 => ?_)
  refine z_aload_n dX5_lengthsOf_11 rfl ?_
  refine z_getR (j := 30) dX5_lengthsOf_12 fl_X5_25 ⟨by decide, _, rfl, rfl⟩ ?_
  refine z_iload_n dX5_lengthsOf_15 rfl ?_
  refine z_ialdN dX5_lengthsOf_16 ⟨by decide, rfl⟩ (by omega) (by decide) (ht.ln hS) ?_
  refine z_goto (tgt := 21) dX5_lengthsOf_17 (by decide) ?_
  exact z_ret (ty := none) (v := none) rfl dX5_lengthsOf_21 ⟨rfl, hs, ht⟩
set_option maxRecDepth 100000 in
theorem ev_X5_splitsOf (G : Gt) {a b m w : Nat} {E : Nat → Nat} {μ : Mm} (h : tabOK μ a b m E w) {S : Nat} (hS : S < 2 ^ m) : EV G 2 Y_X5_splitsOf [rf G 23, .int (nI S)] μ (fun v u => v = some (.int (nI (splN a b E S))) ∧ sm 23 33 μ u ∧ tabOK u a b m E (2 ^ m)) := by
  have hm := h.le
  have hp := p1024 hm
  refine ev_of (by decide) (Nat.le_of_ble_eq_true rfl) ?_
  show Zs G 2 Y_X5_splitsOf (fnN G _) 0 [(0, rf G 23), (1, .int (nI S))] [] μ
  refine z_aload_n dX5_splitsOf_0 rfl ?_
  refine z_cV0g dX5_splitsOf_1 lk_X5_90 (by decide) ⟨by decide, _, rfl⟩ rfl (Nat.le_of_ble_eq_true rfl) (ev_X5_tableSplits G h) ?_
  rintro v u ⟨rfl, hs, ht⟩
  refine z_iload_n dX5_splitsOf_4 rfl ?_
  refine z_cS1 dX5_splitsOf_5 lk_X5_74 (by decide) (Nat.le_of_ble_eq_true rfl) (ev_X5_isSet G (by omega)) ?_
  refine z_ifB_eq (tgt := 20) dX5_splitsOf_8 (by decide) (fun c8 => Bool.noConfusion c8) (fun c8 => ?_)
  refine z_aload_n dX5_splitsOf_11 rfl ?_
  refine z_getR (j := 31) dX5_splitsOf_12 fl_X5_28 ⟨by decide, _, rfl, rfl⟩ ?_
  refine z_iload_n dX5_splitsOf_15 rfl ?_
  refine z_ialdN dX5_splitsOf_16 ⟨by decide, rfl⟩ (by omega) (by decide) (ht.sp hS) ?_
  refine z_goto (tgt := 21) dX5_splitsOf_17 (by decide) ?_
  exact z_ret (ty := none) (v := none) rfl dX5_splitsOf_21 ⟨rfl, hs, ht⟩
theorem z_dec0 : nI 0 + Int32.ofInt (-1) = -1 := by decide
set_option maxRecDepth 100000 in
theorem lp_X5_mostBlocks (G : Gt) {S n : Nat} {μ : Mm} (hn : n < 2048) : ∀ (f : Nat), f ≤ 11 →
    Zs G 3 Y_X5_mostBlocks (fnN G (fun v u => v = some (.int (oI (hbN n f))) ∧ u = μ)) 9 [(0, rf G 23), (1, .int (nI S)), (2, .int (nI n)), (3, .int (nI f + Int32.ofInt (-1)))] [] μ := by
  intro f
  induction f with
  | zero =>
    intro hf
    rw [z_dec0]
    refine z_iload_n dX5_mostBlocks_9 rfl ?_
    refine z_if_lt (tgt := 29) dX5_mostBlocks_10 (by decide) (fun c10 => ?_) (fun c10 => absurd c10 (by decide))
    refine z_iconst (v := -1) dX5_mostBlocks_29 (by decide) ?_
    exact z_ret (ty := none) (v := none) rfl dX5_mostBlocks_30 ⟨rfl, rfl⟩
  | succ f ih =>
    intro hf
    rw [nI_dec (show 0 < f + 1 by omega), show f + 1 - 1 = f by omega]
    refine z_iload_n dX5_mostBlocks_9 rfl ?_
    refine z_ifN_lt (tgt := 29) dX5_mostBlocks_10 (by decide) (by omega) ?_
    refine z_iload_n dX5_mostBlocks_13 rfl ?_
    refine z_iload_n dX5_mostBlocks_14 rfl ?_
    refine z_ishrN dX5_mostBlocks_15 (by omega) (by omega) ?_
    refine z_iconst (v := nI 1) dX5_mostBlocks_16 (by decide) ?_
    refine z_iandN dX5_mostBlocks_17 ?_
    refine z_ifT_eq (tgt := 23) dX5_mostBlocks_18 (by decide) (fun c18 => ?_) (fun c18 => ?_)
    · refine z_iinc (lv' := [(3, _), (0, _), (1, _), (2, _)]) dX5_mostBlocks_23 rfl rfl (by decide) rfl ?_
      refine z_goto (tgt := 9) dX5_mostBlocks_26 (by decide) ?_
      have q := ih (by omega)
      rw [show hbN n (f + 1) = if n.testBit f then some f else hbN n f from rfl, c18]
      refine z_sub (lv' := [(0, _), (1, _), (2, _), (3, _)]) rfl ?_
      exact q
    · refine z_iload_n dX5_mostBlocks_21 rfl ?_
      exact z_ret (ty := none) (v := none) rfl dX5_mostBlocks_22 ⟨by rw [show hbN n (f + 1) = if n.testBit f then some f else hbN n f from rfl, c18]; rfl, rfl⟩
set_option maxRecDepth 100000 in
theorem ev_X5_mostBlocks (G : Gt) {a b m w : Nat} {E : Nat → Nat} {μ : Mm} (h : tabOK μ a b m E w) {S : Nat} (hS : S < 2 ^ m) : EV G 3 Y_X5_mostBlocks [rf G 23, .int (nI S)] μ (fun v u => v = some (.int (oI (hbN (lenN a b E S) 11))) ∧ sm 23 33 μ u ∧ tabOK u a b m E (2 ^ m)) := by
  refine ev_of (by decide) (Nat.le_of_ble_eq_true rfl) ?_
  show Zs G 3 Y_X5_mostBlocks (fnN G _) 0 [(0, rf G 23), (1, .int (nI S))] [] μ
  refine z_aload_n dX5_mostBlocks_0 rfl ?_
  refine z_iload_n dX5_mostBlocks_1 rfl ?_
  refine z_cV1g dX5_mostBlocks_2 lk_X5_93 (by decide) ⟨by decide, _, rfl⟩ rfl (Nat.le_of_ble_eq_true rfl) (ev_X5_lengthsOf G h hS) ?_
  rintro v u ⟨rfl, hs, ht⟩
  refine z_istore_n (lv' := [(2, _), (0, _), (1, _)]) dX5_mostBlocks_5 rfl (by decide) rfl ?_
  refine z_bipush (v := nI 10) dX5_mostBlocks_6 (by decide) ?_
  refine z_istore_n (lv' := [(3, _), (2, _), (0, _), (1, _)]) dX5_mostBlocks_8 rfl (by decide) rfl ?_
  refine z_sub (lv' := [(0, _), (1, _), (2, _), (3, _)]) rfl ?_
  refine Zs.post ?_ (lp_X5_mostBlocks G (S := S) (n := lenN a b E S) (len_lt2 h.le hS) 11 (Nat.le_refl _))
  rintro v u2 ⟨rfl, rfl⟩
  exact ⟨rfl, hs, ht⟩
set_option maxRecDepth 100000 in
theorem lp_X5_firstBlockOfSplit (G : Gt) {a b m : Nat} {E : Nat → Nat} {S c : Nat} {μ0 : Mm} (hS : S < 2 ^ m) (hc1 : 1 ≤ c) (hc2 : c ≤ 31) : ∀ (f k s : Nat) (μ : Mm), k + f = cntN (blk a b E) (2 ^ m) → s ≤ 2 ^ m → k = cntN (blk a b E) s → (∀ j, j < s → (fun B => cB a b E S B && (lenN a b E (S ^^^ B)).testBit (c - 1)) j = false) → sm 23 33 μ0 μ → tabOK μ a b m E (2 ^ m) →
    Zs G 3 Y_X5_firstBlockOfSplit (fnN G (fun v u => v = some (.int (nI ((fsN (fun B => cB a b E S B && (lenN a b E (S ^^^ B)).testBit (c - 1)) (2 ^ m)).getD 0))) ∧ sm 23 33 μ0 u ∧ tabOK u a b m E (2 ^ m))) 8 [(0, rf G 23), (1, .int (nI S)), (2, .int (nI c)), (3, .int (nI (lowN S))), (4, .int (nI k))] [] μ := by
  intro f
  induction f with
  | zero =>
    intro k s μ hf hsm hk hno hs h
    have hm := h.le
    have hp := p1024 hm
    have hc := cntN_le (blk a b E) (2 ^ m)
    have hfl := cntN_none (f := blk a b E) hsm (by omega)
    refine z_iload dX5_firstBlockOfSplit_8 rfl ?_
    refine z_aload_n dX5_firstBlockOfSplit_10 rfl ?_
    refine z_getI dX5_firstBlockOfSplit_11 fl_X5_34 ⟨by decide, _, rfl, rfl⟩ h.c ?_
    refine z_icmpN_ge (tgt := 70) dX5_firstBlockOfSplit_14 (by decide) (by omega) (by omega) (fun c14 => ?_) (fun c14 => absurd c14 (by omega))
    refine z_iconst (v := nI 0) dX5_firstBlockOfSplit_70 (by decide) ?_
    exact z_ret (ty := none) (v := none) rfl dX5_firstBlockOfSplit_71 ⟨by
      rw [fsN_none (f := (fun B => cB a b E S B && (lenN a b E (S ^^^ B)).testBit (c - 1))) (fun j hj => by
        by_cases e : j < s
        · exact hno j e
        · show (cB a b E S j && _) = false
          unfold cB; rw [hfl j (by omega) hj]; rfl)]; rfl, hs, h⟩
  | succ f ih =>
    intro k s μ hf hsm hk hno hs h
    have hm := h.le
    have hp := p1024 hm
    have hc := cntN_le (blk a b E) (2 ^ m)
    obtain ⟨B, q1, q2, q3, q4, q5⟩ := cntN_next (f := blk a b E) hsm (show cntN (blk a b E) s < cntN (blk a b E) (2 ^ m) by omega)
    have hbk : μ.2.1 32 k = nI B := h.bk q2 q3 (q4.trans hk.symm)
    have hnx : k + 1 = cntN (blk a b E) (B + 1) := by rw [cntN_succ, if_pos q3]; omega
    have hand : B &&& lowN S ≤ B := Nat.and_le_left
    have hno2 : ∀ j, j < B → (fun B => cB a b E S B && (lenN a b E (S ^^^ B)).testBit (c - 1)) j = false := fun j hj => by
      by_cases e : j < s
      · exact hno j e
      · show (cB a b E S j && _) = false
        unfold cB; rw [q5 j (by omega) hj]; rfl
    have hno3 : (fun B => cB a b E S B && (lenN a b E (S ^^^ B)).testBit (c - 1)) B = false → ∀ j, j < B + 1 → (fun B => cB a b E S B && (lenN a b E (S ^^^ B)).testBit (c - 1)) j = false := fun q j hj => by
      by_cases e : j = B
      · subst e; exact q
      · exact hno2 j (by omega)
    refine z_iload dX5_firstBlockOfSplit_8 rfl ?_
    refine z_aload_n dX5_firstBlockOfSplit_10 rfl ?_
    refine z_getI dX5_firstBlockOfSplit_11 fl_X5_34 ⟨by decide, _, rfl, rfl⟩ h.c ?_
    refine z_icmpN_ge (tgt := 70) dX5_firstBlockOfSplit_14 (by decide) (by omega) (by omega) (fun c14 => absurd c14 (by omega)) (fun c14 => ?_)
    refine z_aload_n dX5_firstBlockOfSplit_17 rfl ?_
    refine z_getR (j := 32) dX5_firstBlockOfSplit_18 fl_X5_31 ⟨by decide, _, rfl, rfl⟩ ?_
    refine z_iload dX5_firstBlockOfSplit_21 rfl ?_
    refine z_ialdN dX5_firstBlockOfSplit_23 ⟨by decide, rfl⟩ (by omega) (by decide) hbk ?_
    refine z_istore (lv' := [(5, _), (0, _), (1, _), (2, _), (3, _), (4, _)]) dX5_firstBlockOfSplit_24 (by decide) rfl ?_
    refine z_iload dX5_firstBlockOfSplit_26 rfl ?_
    refine z_iload_n dX5_firstBlockOfSplit_28 rfl ?_
    refine z_iandN dX5_firstBlockOfSplit_29 ?_
    refine z_ifN_eq (tgt := 64) dX5_firstBlockOfSplit_30 (by decide) (by omega) (fun c30 => ?_) (fun c30 => ?_)
    · refine z_iinc (v := nI (k + 1)) (lv' := [(4, _), (5, _), (0, _), (1, _), (2, _), (3, _)]) dX5_firstBlockOfSplit_64 rfl (nI_inc _ 1) (by decide) rfl ?_
      have hcb : (fun B => cB a b E S B && (lenN a b E (S ^^^ B)).testBit (c - 1)) B = false := by show (cB a b E S B && _) = false; unfold cB; rw [c30]; simp
      refine z_goto (tgt := 8) dX5_firstBlockOfSplit_67 (by decide) ?_
      have q := ih (k + 1) (B + 1) μ (by omega) (by omega) hnx (hno3 hcb) hs h
      refine z_sub (lv' := [(0, _), (1, _), (2, _), (3, _), (4, _)]) rfl ?_
      exact q
    · refine z_iload dX5_firstBlockOfSplit_33 rfl ?_
      refine z_iload_n dX5_firstBlockOfSplit_35 rfl ?_
      refine z_iconst (v := -1) dX5_firstBlockOfSplit_36 (by decide) ?_
      refine z_ixor dX5_firstBlockOfSplit_37 ?_
      refine z_iand dX5_firstBlockOfSplit_38 ?_
      rw [nI_andn]
      have hle := andn_le B S
      refine z_ifN_ne (tgt := 64) dX5_firstBlockOfSplit_39 (by decide) (by omega) (fun c39 => ?_) (fun c39 => ?_)
      · refine z_iinc (v := nI (k + 1)) (lv' := [(4, _), (5, _), (0, _), (1, _), (2, _), (3, _)]) dX5_firstBlockOfSplit_64 rfl (nI_inc _ 1) (by decide) rfl ?_
        have hcb : (fun B => cB a b E S B && (lenN a b E (S ^^^ B)).testBit (c - 1)) B = false := by cases e : cB a b E S B with
      | false => show (cB a b E S B && _) = false; rw [e]; rfl
      | true => exact absurd (andn_zero.mpr (cB_sb e)) c39
        refine z_goto (tgt := 8) dX5_firstBlockOfSplit_67 (by decide) ?_
        have q := ih (k + 1) (B + 1) μ (by omega) (by omega) hnx (hno3 hcb) hs h
        refine z_sub (lv' := [(0, _), (1, _), (2, _), (3, _), (4, _)]) rfl ?_
        exact q
      · have hcb2 : cB a b E S B = true := by unfold cB; rw [q3, decide_eq_true c30, andn_zero.mp c39]; rfl
        have hlt := cB_lt hcb2
        have hl2 := len_lt2 (a := a) (b := b) (E := E) (S := S ^^^ B) hm (by omega)
        have hsbb : S ^^^ (S &&& B) = S ^^^ B := by have := cB_sb hcb2; unfold sb at this; rw [Nat.and_comm, of_decide_eq_true this]
        refine z_aload_n dX5_firstBlockOfSplit_42 rfl ?_
        refine z_iload_n dX5_firstBlockOfSplit_43 rfl ?_
        refine z_iload dX5_firstBlockOfSplit_44 rfl ?_
        refine z_iconst (v := -1) dX5_firstBlockOfSplit_46 (by decide) ?_
        refine z_ixor dX5_firstBlockOfSplit_47 ?_
        refine z_iand dX5_firstBlockOfSplit_48 ?_
        rw [nI_andn, hsbb]
        refine z_cV1g dX5_firstBlockOfSplit_49 lk_X5_93 (by decide) ⟨by decide, _, rfl⟩ rfl (Nat.le_of_ble_eq_true rfl) (ev_X5_lengthsOf G h (by omega)) ?_
        rintro v u ⟨rfl, hs2, h2⟩
        refine z_iload_n dX5_firstBlockOfSplit_52 rfl ?_
        refine z_iconst (v := nI 1) dX5_firstBlockOfSplit_53 (by decide) ?_
        refine z_isubN dX5_firstBlockOfSplit_54 (by omega) ?_
        refine z_ishrN dX5_firstBlockOfSplit_55 (by omega) (by omega) ?_
        refine z_iconst (v := nI 1) dX5_firstBlockOfSplit_56 (by decide) ?_
        refine z_iandN dX5_firstBlockOfSplit_57 ?_
        refine z_ifT_eq (tgt := 64) dX5_firstBlockOfSplit_58 (by decide) (fun c58 => ?_) (fun c58 => ?_)
        · refine z_iinc (v := nI (k + 1)) (lv' := [(4, _), (5, _), (0, _), (1, _), (2, _), (3, _)]) dX5_firstBlockOfSplit_64 rfl (nI_inc _ 1) (by decide) rfl ?_
          have hcb : (fun B => cB a b E S B && (lenN a b E (S ^^^ B)).testBit (c - 1)) B = false := by show (cB a b E S B && (lenN a b E (S ^^^ B)).testBit (c - 1)) = false; rw [c58, Bool.and_false]
          refine z_goto (tgt := 8) dX5_firstBlockOfSplit_67 (by decide) ?_
          have q := ih (k + 1) (B + 1) u (by omega) (by omega) hnx (hno3 hcb) (hs.trans hs2) h2
          refine z_sub (lv' := [(0, _), (1, _), (2, _), (3, _), (4, _)]) rfl ?_
          exact q
        · refine z_iload dX5_firstBlockOfSplit_61 rfl ?_
          exact z_ret (ty := none) (v := none) rfl dX5_firstBlockOfSplit_63 ⟨by rw [fsN_some (f := (fun B => cB a b E S B && (lenN a b E (S ^^^ B)).testBit (c - 1))) (x := B) (by show (cB a b E S B && (lenN a b E (S ^^^ B)).testBit (c - 1)) = true; rw [c58, hcb2]; rfl) hno2 q2]; rfl, hs.trans hs2, h2⟩
set_option maxRecDepth 100000 in
theorem ev_X5_firstBlockOfSplit (G : Gt) {a b m : Nat} {E : Nat → Nat} {S c : Nat} {μ : Mm} (h : tabOK μ a b m E (2 ^ m)) (hS : S < 2 ^ m) (hc1 : 1 ≤ c) (hc2 : c ≤ 31) : EV G 3 Y_X5_firstBlockOfSplit [rf G 23, .int (nI S), .int (nI c)] μ (fun v u => v = some (.int (nI ((fsN (fun B => cB a b E S B && (lenN a b E (S ^^^ B)).testBit (c - 1)) (2 ^ m)).getD 0))) ∧ sm 23 33 μ u ∧ tabOK u a b m E (2 ^ m)) := by
  have hm := h.le
  have hp := p1024 hm
  refine ev_of (by decide) (Nat.le_of_ble_eq_true rfl) ?_
  show Zs G 3 Y_X5_firstBlockOfSplit (fnN G _) 0 [(0, rf G 23), (1, .int (nI S)), (2, .int (nI c))] [] μ
  refine z_iload_n dX5_firstBlockOfSplit_0 rfl ?_
  refine z_iload_n dX5_firstBlockOfSplit_1 rfl ?_
  refine z_ineg dX5_firstBlockOfSplit_2 ?_
  refine z_iand dX5_firstBlockOfSplit_3 ?_
  rw [low_neg _ (by omega)]
  refine z_istore_n (lv' := [(3, _), (0, _), (1, _), (2, _)]) dX5_firstBlockOfSplit_4 rfl (by decide) rfl ?_
  refine z_iconst (v := nI 0) dX5_firstBlockOfSplit_5 (by decide) ?_
  refine z_istore (lv' := [(4, _), (3, _), (0, _), (1, _), (2, _)]) dX5_firstBlockOfSplit_6 (by decide) rfl ?_
  refine z_sub (lv' := [(0, _), (1, _), (2, _), (3, _), (4, _)]) rfl ?_
  exact lp_X5_firstBlockOfSplit G hS hc1 hc2 (cntN (blk a b E) (2 ^ m)) 0 0 μ (by omega) (by omega) rfl (fun j hj => by omega) sm.rf h
