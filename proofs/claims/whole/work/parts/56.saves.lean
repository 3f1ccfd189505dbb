/-- a state in a row of the reference's -/
def rowOK (r : Nat → Int32) (o : Nat) (x : St) : Prop := r o = nI x.1 ∧ r (o + 1) = nI x.2.1 ∧ r (o + 2) = nI x.2.2.1 ∧ x.2.2.1 ≤ 10 ∧ (1 ≤ x.1 ∧ x.1 ≤ 6 ∧ 1 ≤ x.2.1 ∧ x.2.1 ≤ 6) ∧ (∀ k : Nat, k < x.2.2.1 → r (o + (3 + k)) = nI (x.2.2.2.1 k) ∧ x.2.2.2.1 k < x.1 * x.2.1) ∧ ∀ k : Nat, k < x.2.2.1 → r (o + (13 + k)) = nI (x.2.2.2.2 k) ∧ x.2.2.2.2 k < 6
theorem rowOK.cp {r r' : Nat → Int32} {o o' : Nat} {x : St} (h : rowOK r o x) (hc : ∀ k : Nat, k < 23 → r' (o' + k) = r (o + k)) : rowOK r' o' x := by
  obtain ⟨h1, h2, h3, h4, h5, h6, h7⟩ := h
  exact ⟨(hc 0 (by omega)).trans h1, (hc 1 (by omega)).trans h2, (hc 2 (by omega)).trans h3, h4, h5, fun k hk => ⟨(hc (3 + k) (by omega)).trans (h6 k hk).1, (h6 k hk).2⟩, fun k hk => ⟨(hc (13 + k) (by omega)).trans (h7 k hk).1, (h7 k hk).2⟩⟩
abbrev nwSt (μ : Mm) (x : St) : Prop := nwOK μ x.1 x.2.1 x.2.2.1 x.2.2.2.1 x.2.2.2.2
theorem nw_row {μ : Mm} {x : St} (h : nwSt μ x) : rowOK (μ.2.1 36) 0 x := by
  obtain ⟨h1, h2, h3, h4, h5, h6, h7⟩ := h
  exact ⟨h1, h2, h3, h4, h5, fun k hk => by rw [Nat.zero_add]; exact h6 k hk, fun k hk => by rw [Nat.zero_add]; exact h7 k hk⟩
theorem row_nw {μ : Mm} {x : St} (h : rowOK (μ.2.1 36) 0 x) : nwSt μ x := by
  obtain ⟨h1, h2, h3, h4, h5, h6, h7⟩ := h
  exact ⟨h1, h2, h3, h4, h5, fun k hk => by have := h6 k hk; rw [Nat.zero_add] at this; exact this, fun k hk => by have := h7 k hk; rw [Nat.zero_add] at this; exact this⟩
/-- the reference's undo stack; its text -/
def hsOK (μ : Mm) (c : Nat) (S : Nat → St) : Prop := μ.1 35 2 = nI c ∧ c ≤ 4 ∧ ∀ j : Nat, j < c → rowOK (μ.2.1 37) (23 * j) (S j)
def mtOK (μ : Mm) (n : Nat) (T : Nat → Nat) : Prop := μ.1 35 6 = nI n ∧ n ≤ 150 ∧ ∀ k : Nat, k < n → μ.2.1 38 k = nI (T k) ∧ T k < 128
/-- what an operation of the reference may change -/
def opF (μ u : Mm) : Prop := (∀ i k : Nat, ¬ (i = 35 ∧ (k = 2 ∨ k = 3 ∨ k = 12)) → u.1 i k = μ.1 i k) ∧ (∀ i : Nat, i < 36 ∨ i = 38 ∨ i = 39 ∨ 46 ≤ i → u.2.1 i = μ.2.1 i) ∧ u.2.2 = μ.2.2
theorem opF.rf {μ : Mm} : opF μ μ := ⟨fun _ _ _ => rfl, fun _ _ => rfl, rfl⟩
theorem opF.trans {μ u u2 : Mm} (h : opF μ u) (h2 : opF u u2) : opF μ u2 := ⟨fun i k q => (h2.1 i k q).trans (h.1 i k q), fun i q => (h2.2.1 i q).trans (h.2.1 i q), h2.2.2.trans h.2.2⟩
theorem opF.u3 {μ u : Mm} (h : opF μ u) (x : Int32) : opF μ (uF u 35 3 x) := h.trans ⟨fun i k' q => uF_n _ _ (by omega), fun _ _ => rfl, rfl⟩
theorem opF.u2 {μ u : Mm} (h : opF μ u) (x : Int32) : opF μ (uF u 35 2 x) := h.trans ⟨fun i k' q => uF_n _ _ (by omega), fun _ _ => rfl, rfl⟩
theorem opF.r36 {μ u : Mm} (h : opF μ u) (j : Nat) (x : Int32) : opF μ (uR u 36 j x) := h.trans ⟨fun _ _ _ => rfl, fun i' q => uR_n _ _ _ (by omega), rfl⟩
theorem mqF.o {μ u : Mm} (h : mqF μ u) : opF μ u := ⟨fun i k q => h.1 i k (by omega), fun i q => by
  by_cases e : i < 40 ∨ 46 ≤ i
  · exact h.2.1 i e
  · omega, h.2.2⟩
theorem opF.z {μ u : Mm} (h : opF μ u) : sm 35 46 μ u := ⟨fun i hi => ⟨fun k => h.1 i k (by omega), h.2.1 i (by omega)⟩, h.2.2⟩
theorem mtOK.o {μ u : Mm} {n : Nat} {T : Nat → Nat} (h : mtOK μ n T) (hf : opF μ u) : mtOK u n T := by unfold mtOK; rw [hf.1 35 6 (by omega), hf.2.1 38 (by omega)]; exact h
theorem hsOK.q {μ u : Mm} {c : Nat} {S : Nat → St} (h : hsOK μ c S) (h1 : u.1 35 2 = μ.1 35 2) (h2 : u.2.1 37 = μ.2.1 37) : hsOK u c S := by unfold hsOK; rw [h1, h2]; exact h
theorem hsOK.m {μ u : Mm} {c : Nat} {S : Nat → St} (h : hsOK μ c S) (hf : mqF μ u) : hsOK u c S := h.q (hf.1 35 2 (by omega)) (hf.2.1 37 (by omega))
/-- saves: the stack alone is changed -/
def svF (μ u : Mm) : Prop := (∀ i k : Nat, ¬ (i = 35 ∧ k = 2) → u.1 i k = μ.1 i k) ∧ (∀ i : Nat, ¬ i = 37 → u.2.1 i = μ.2.1 i) ∧ u.2.2 = μ.2.2
theorem svF.rf {μ : Mm} : svF μ μ := ⟨fun _ _ _ => rfl, fun _ _ => rfl, rfl⟩
theorem svF.trans {μ u u2 : Mm} (h : svF μ u) (h2 : svF u u2) : svF μ u2 := ⟨fun i k q => (h2.1 i k q).trans (h.1 i k q), fun i q => (h2.2.1 i q).trans (h.2.1 i q), h2.2.2.trans h.2.2⟩
theorem svF.u2 {μ u : Mm} (h : svF μ u) (x : Int32) : svF μ (uF u 35 2 x) := h.trans ⟨fun i k' q => uF_n _ _ (by omega), fun _ _ => rfl, rfl⟩
theorem svF.r {μ u : Mm} (h : svF μ u) (j : Nat) (x : Int32) : svF μ (uR u 37 j x) := h.trans ⟨fun _ _ _ => rfl, fun i' q => uR_n _ _ _ (by omega), rfl⟩
theorem svF.o {μ u : Mm} (h : svF μ u) : opF μ u := ⟨fun i k q => h.1 i k (by omega), fun i q => h.2.1 i (by omega), h.2.2⟩
theorem nwOK.s {μ u : Mm} {a b n : Nat} {E Q : Nat → Nat} (h : nwOK μ a b n E Q) (hf : svF μ u) : nwOK u a b n E Q := h.same (hf.2.1 36 (by omega))
def kqC (ru : Bool) (c : Nat) : Nat := if ru then c else kpC c
def kqS (ru : Bool) (c : Nat) (S : Nat → St) (x : St) : Nat → St := if ru then S else kpS c S x
set_option maxRecDepth 100000 in
theorem lp2_X8_saves (G : Gt) {c : Nat} (hc : c ≤ 3) {μ0 : Mm} : ∀ (f k : Nat) (μ : Mm), k + f = 23 → svF μ0 μ → μ.1 35 2 = nI c → (∀ j : Nat, μ.2.1 37 j = if 23 * c ≤ j ∧ j < 23 * c + k then μ0.2.1 36 (j - 23 * c) else μ0.2.1 37 j) →
    Zs G 0 Y_X8_saves (fnN G (fun v u => v = none ∧ svF μ0 u ∧ u.1 35 2 = nI (c + 1) ∧ (∀ j : Nat, u.2.1 37 j = if 23 * c ≤ j ∧ j < 23 * c + 23 then μ0.2.1 36 (j - 23 * c) else μ0.2.1 37 j))) 57 [(0, rf G 35), (1, .int (nI k))] [] μ := by
  intro f
  induction f with
  | zero =>
    intro k μ hf hq h2 hr
    have hk : k = 23 := by omega
    subst hk
    refine z_iload_n dX8_saves_57 rfl ?_
    refine z_bipush (v := nI 23) dX8_saves_58 (by decide) ?_
    refine z_icmpN_ge (tgt := 89) dX8_saves_60 (by decide) (by omega) (by omega) (fun c60 => ?_) (fun c60 => absurd c60 (by omega))
    refine z_aload_n dX8_saves_89 rfl ?_
    refine z_dup dX8_saves_90 rfl ?_
    refine z_getI dX8_saves_91 fl_X8_49 ⟨by decide, _, rfl, rfl⟩ h2 ?_
    refine z_iconst (v := nI 1) dX8_saves_94 (by decide) ?_
    refine z_iaddN dX8_saves_95 ?_
    refine z_putI dX8_saves_96 fp_X8_49 ⟨by decide, _, rfl, rfl⟩ ?_
    exact z_vret rfl dX8_saves_99 ⟨rfl, hq.u2 _, uF_s _ _ _ _, hr⟩
  | succ f ih =>
    intro k μ hf hq h2 hr
    refine z_iload_n dX8_saves_57 rfl ?_
    refine z_bipush (v := nI 23) dX8_saves_58 (by decide) ?_
    refine z_icmpN_ge (tgt := 89) dX8_saves_60 (by decide) (by omega) (by omega) (fun c60 => absurd c60 (by omega)) (fun c60 => ?_)
    refine z_aload_n dX8_saves_63 rfl ?_
    refine z_getR (j := 37) dX8_saves_64 fl_X8_13 ⟨by decide, _, rfl, rfl⟩ ?_
    refine z_bipush (v := nI 23) dX8_saves_67 (by decide) ?_
    refine z_aload_n dX8_saves_69 rfl ?_
    refine z_getI dX8_saves_70 fl_X8_49 ⟨by decide, _, rfl, rfl⟩ h2 ?_
    refine z_imulN dX8_saves_73 ?_
    refine z_iload_n dX8_saves_74 rfl ?_
    refine z_iaddN dX8_saves_75 ?_
    refine z_aload_n dX8_saves_76 rfl ?_
    refine z_getR (j := 36) dX8_saves_77 fl_X8_7 ⟨by decide, _, rfl, rfl⟩ ?_
    refine z_iload_n dX8_saves_80 rfl ?_
    refine z_ialdN dX8_saves_81 ⟨by decide, rfl⟩ (by omega) (by decide) rfl ?_
    refine z_iastN dX8_saves_82 ⟨by decide, rfl⟩ (by omega) (by decide) ?_
    refine z_iinc (v := nI (k + 1)) (lv' := [(1, _), (0, _)]) dX8_saves_83 rfl (nI_inc _ 1) (by decide) rfl ?_
    refine z_goto (tgt := 57) dX8_saves_86 (by decide) ?_
    have q := ih (k + 1) (uR μ 37 (23 * c + k) (μ.2.1 36 k)) (by omega) (hq.r _ _) h2 (fun j => by
      rw [uR_s]
      by_cases e : j = 23 * c + k
      · subst e; rw [upd_s, if_pos (by omega), hq.2.1 36 (by omega), show 23 * c + k - 23 * c = k by omega]
      · rw [upd_n _ _ e, hr j]
        by_cases e2 : 23 * c ≤ j ∧ j < 23 * c + k
        · rw [if_pos e2, if_pos (by omega)]
        · rw [if_neg e2, if_neg (by omega)])
    refine z_sub (lv' := [(0, _), (1, _)]) rfl ?_
    exact q
set_option maxRecDepth 100000 in
theorem lp1_X8_saves (G : Gt) {μ0 : Mm} {F : Fn} (hk : ∀ μ : Mm, svF μ0 μ → μ.1 35 2 = μ0.1 35 2 → (∀ j : Nat, j < 69 → μ.2.1 37 j = μ0.2.1 37 (j + 23)) → Zs G 0 Y_X8_saves F 45 [(0, rf G 35)] [] μ) : ∀ (f k : Nat) (μ : Mm), k + f = 69 → svF μ0 μ → μ.1 35 2 = μ0.1 35 2 → (∀ j : Nat, μ.2.1 37 j = if j < k then μ0.2.1 37 (j + 23) else μ0.2.1 37 j) →
    Zs G 0 Y_X8_saves F 18 [(0, rf G 35), (1, .int (nI k))] [] μ := by
  intro f
  induction f with
  | zero =>
    intro k μ hf hq h2 hr
    refine z_iload_n dX8_saves_18 rfl ?_
    refine z_bipush (v := nI 69) dX8_saves_19 (by decide) ?_
    refine z_icmpN_ge (tgt := 45) dX8_saves_21 (by decide) (by omega) (by omega) (fun c21 => ?_) (fun c21 => absurd c21 (by omega))
    have q := hk μ hq h2 (fun j hj => by rw [hr j, if_pos (by omega)])
    refine z_sub (lv' := [(0, _)]) rfl ?_
    exact q
  | succ f ih =>
    intro k μ hf hq h2 hr
    refine z_iload_n dX8_saves_18 rfl ?_
    refine z_bipush (v := nI 69) dX8_saves_19 (by decide) ?_
    refine z_icmpN_ge (tgt := 45) dX8_saves_21 (by decide) (by omega) (by omega) (fun c21 => absurd c21 (by omega)) (fun c21 => ?_)
    refine z_aload_n dX8_saves_24 rfl ?_
    refine z_getR (j := 37) dX8_saves_25 fl_X8_13 ⟨by decide, _, rfl, rfl⟩ ?_
    refine z_iload_n dX8_saves_28 rfl ?_
    refine z_aload_n dX8_saves_29 rfl ?_
    refine z_getR (j := 37) dX8_saves_30 fl_X8_13 ⟨by decide, _, rfl, rfl⟩ ?_
    refine z_iload_n dX8_saves_33 rfl ?_
    refine z_bipush (v := nI 23) dX8_saves_34 (by decide) ?_
    refine z_iaddN dX8_saves_36 ?_
    refine z_ialdN dX8_saves_37 ⟨by decide, rfl⟩ (by omega) (by decide) rfl ?_
    refine z_iastN dX8_saves_38 ⟨by decide, rfl⟩ (by omega) (by decide) ?_
    refine z_iinc (v := nI (k + 1)) (lv' := [(1, _), (0, _)]) dX8_saves_39 rfl (nI_inc _ 1) (by decide) rfl ?_
    refine z_goto (tgt := 18) dX8_saves_42 (by decide) ?_
    have q := ih (k + 1) (uR μ 37 k (μ.2.1 37 (k + 23))) (by omega) (hq.r _ _) h2 (fun j => by
      rw [uR_s]
      by_cases e : j = k
      · subst e; rw [upd_s, if_pos (by omega), hr (j + 23), if_neg (by omega)]
      · rw [upd_n _ _ e, hr j]
        by_cases e2 : j < k
        · rw [if_pos e2, if_pos (by omega)]
        · rw [if_neg e2, if_neg (by omega)])
    refine z_sub (lv' := [(0, _), (1, _)]) rfl ?_
    exact q
/-- a state put on the stack of fewer than four -/
theorem hs_put {μ u : Mm} {c : Nat} {S : Nat → St} {x : St} (hc : c ≤ 3) (hS : ∀ j : Nat, j < c → rowOK (μ.2.1 37) (23 * j) (S j)) (hx : nwSt μ x) (h2 : u.1 35 2 = nI (c + 1)) (hr : (∀ j : Nat, u.2.1 37 j = if 23 * c ≤ j ∧ j < 23 * c + 23 then μ.2.1 36 (j - 23 * c) else μ.2.1 37 j)) : hsOK u (c + 1) (fun j => if j = c then x else S j) := by
  refine ⟨h2, by omega, fun j hj => ?_⟩
  show rowOK _ _ (if j = c then x else S j)
  by_cases e : j = c
  · subst e
    rw [if_pos rfl]
    exact (nw_row hx).cp (fun k hk => by rw [hr, if_pos (by omega), Nat.zero_add, show 23 * j + k - 23 * j = k by omega])
  · rw [if_neg e]
    exact (hS j (by omega)).cp (fun k hk => by rw [hr, if_neg (by omega)])
set_option maxRecDepth 100000 in
theorem ev_X8_saves_a (G : Gt) {x : St} {c : Nat} {S : Nat → St} {μ : Mm} (h : nwSt μ x) (hh : hsOK μ c S) (h4 : μ.1 35 4 = bI false) : EV G 0 Y_X8_saves [rf G 35] μ (fun v u => v = none ∧ svF μ u ∧ hsOK u (kpC c) (kpS c S x)) := by
  refine ev_of (by decide) (Nat.le_of_ble_eq_true rfl) ?_
  show Zs G 0 Y_X8_saves (fnN G _) 0 [(0, rf G 35)] [] μ
  obtain ⟨h2, hc4, hS⟩ := id hh
  refine z_aload_n dX8_saves_0 rfl ?_
  refine z_getI dX8_saves_1 fl_X8_45 ⟨by decide, _, rfl, rfl⟩ h4 ?_
  refine z_ifB_eq (tgt := 8) dX8_saves_4 (by decide) (fun c4 => ?_) (fun c4 => absurd c4 (by decide))
  refine z_aload_n dX8_saves_8 rfl ?_
  refine z_getI dX8_saves_9 fl_X8_49 ⟨by decide, _, rfl, rfl⟩ h2 ?_
  refine z_iconst (v := nI 4) dX8_saves_12 (by decide) ?_
  refine z_icmpN_ne (tgt := 55) dX8_saves_13 (by decide) (by omega) (by omega) (fun c13 => ?_) (fun c13 => ?_)
  · refine z_iconst (v := nI 0) dX8_saves_55 (by decide) ?_
    refine z_istore_n (lv' := [(1, _), (0, _)]) dX8_saves_56 rfl (by decide) rfl ?_
    have hc3 : c ≤ 3 := by omega
    have q := lp2_X8_saves G hc3 (μ0 := μ) 23 0 μ (by omega) svF.rf h2 (fun j => by rw [if_neg (by omega)])
    refine z_sub (lv' := [(0, _), (1, _)]) rfl ?_
    refine Zs.post ?_ q
    rintro v u ⟨rfl, h3, h5, h6⟩
    refine ⟨rfl, h3, ?_⟩
    unfold kpC kpS
    rw [if_neg c13, if_neg c13]
    exact hs_put hc3 hS h h5 h6
  · refine z_iconst (v := nI 0) dX8_saves_16 (by decide) ?_
    refine z_istore_n (lv' := [(1, _), (0, _)]) dX8_saves_17 rfl (by decide) rfl ?_
    have c4 : c = 4 := c13
    subst c4
    refine z_sub (lv' := [(0, _), (1, _)]) rfl ?_
    refine lp1_X8_saves G (μ0 := μ) ?_ 69 0 μ (by omega) svF.rf rfl (fun j => by rw [if_neg (by omega)])
    intro m hm hm2 hm3
    have hm2 := hm2.trans h2
    refine z_aload_n dX8_saves_45 rfl ?_
    refine z_dup dX8_saves_46 rfl ?_
    refine z_getI dX8_saves_47 fl_X8_49 ⟨by decide, _, rfl, rfl⟩ hm2 ?_
    refine z_iconst (v := nI 1) dX8_saves_50 (by decide) ?_
    refine z_isubN dX8_saves_51 (by omega) ?_
    refine z_putI dX8_saves_52 fp_X8_49 ⟨by decide, _, rfl, rfl⟩ ?_
    refine z_iconst (v := nI 0) dX8_saves_55 (by decide) ?_
    refine z_istore_n (lv' := [(1, _), (0, _)]) dX8_saves_56 rfl (by decide) rfl ?_
    have q := lp2_X8_saves G (show 3 ≤ 3 by decide) (μ0 := uF m 35 2 (nI 3)) 23 0 _ (by omega) svF.rf (uF_s _ _ _ _) (fun j => by rw [if_neg (by omega)])
    refine z_sub (lv' := [(0, _), (1, _)]) rfl ?_
    refine Zs.post ?_ q
    rintro v u ⟨rfl, h3, h5, h6⟩
    refine ⟨rfl, (hm.u2 _).trans h3, ?_⟩
    show hsOK u 4 (fun j => if j = 3 then x else S (j + 1))
    refine hs_put (μ := uF m 35 2 (nI 3)) (c := 3) (S := fun j => S (j + 1)) (Nat.le_refl _) (fun j hj => ?_) (h.same (hm.2.1 36 (by omega))) h5 h6
    exact (hS (j + 1) (by omega)).cp (fun k hk => by
      show m.2.1 37 (23 * j + k) = _
      rw [hm3 (23 * j + k) (by omega), show 23 * j + k + 23 = 23 * (j + 1) + k by omega])
set_option maxRecDepth 100000 in
theorem ev_X8_saves_r (G : Gt) {μ : Mm} (h4 : μ.1 35 4 = bI true) : EVv G 0 Y_X8_saves [rf G 35] μ μ := by
  refine ev_of (by decide) (Nat.le_of_ble_eq_true rfl) ?_
  show Zs G 0 Y_X8_saves (fnN G _) 0 [(0, rf G 35)] [] μ
  refine z_aload_n dX8_saves_0 rfl ?_
  refine z_getI dX8_saves_1 fl_X8_45 ⟨by decide, _, rfl, rfl⟩ h4 ?_
  refine z_ifB_eq (tgt := 8) dX8_saves_4 (by decide) (fun c4 => absurd c4 (by decide)) (fun c4 => ?_)
  exact z_vret rfl dX8_saves_7 ⟨rfl, rfl⟩
theorem ev_X8_saves (G : Gt) {x : St} {c : Nat} {S : Nat → St} {ru : Bool} {μ : Mm} (h : nwSt μ x) (hh : hsOK μ c S) (h4 : μ.1 35 4 = bI ru) : EV G 0 Y_X8_saves [rf G 35] μ (fun v u => v = none ∧ svF μ u ∧ hsOK u (kqC ru c) (kqS ru c S x)) := by
  cases ru with
  | false => exact ev_X8_saves_a G h hh h4
  | true => exact (ev_X8_saves_r G h4).post (fun v u q => ⟨q.1, by rw [q.2]; exact svF.rf, by rw [q.2]; exact hh⟩)
/-- row 36 alone is changed -/
def nwF (μ u : Mm) : Prop := u.1 = μ.1 ∧ (∀ i : Nat, ¬ i = 36 → u.2.1 i = μ.2.1 i) ∧ u.2.2 = μ.2.2
theorem nwF.rf {μ : Mm} : nwF μ μ := ⟨rfl, fun _ _ => rfl, rfl⟩
theorem nwF.trans {μ u u2 : Mm} (h : nwF μ u) (h2 : nwF u u2) : nwF μ u2 := ⟨h2.1.trans h.1, fun i q => (h2.2.1 i q).trans (h.2.1 i q), h2.2.2.trans h.2.2⟩
theorem nwF.r {μ u : Mm} (h : nwF μ u) (j : Nat) (x : Int32) : nwF μ (uR u 36 j x) := h.trans ⟨rfl, fun i' q => uR_n _ _ _ (by omega), rfl⟩
theorem nwF.o {μ u : Mm} (h : nwF μ u) : opF μ u := ⟨fun i k q => by rw [h.1], fun i q => h.2.1 i (by omega), h.2.2⟩
theorem hsOK.n {μ u : Mm} {c : Nat} {S : Nat → St} (h : hsOK μ c S) (hf : nwF μ u) : hsOK u c S := h.q (by rw [hf.1]) (hf.2.1 37 (by omega))
set_option maxRecDepth 100000 in
theorem lp_X8_undo (G : Gt) {c : Nat} (hc : c ≤ 3) {μ0 : Mm} (h2 : μ0.1 35 2 = nI c) : ∀ (f k : Nat) (μ : Mm), k + f = 23 → nwF μ0 μ → (∀ j : Nat, μ.2.1 36 j = if j < k then μ0.2.1 37 (23 * c + j) else μ0.2.1 36 j) →
    Zs G 1 Y_X8_undo (fnN G (fun v u => v = some (.int (nI c)) ∧ nwF μ0 u ∧ (∀ j : Nat, u.2.1 36 j = if j < 23 then μ0.2.1 37 (23 * c + j) else μ0.2.1 36 j))) 33 [(0, rf G 35), (1, .int (nI k))] [] μ := by
  intro f
  induction f with
  | zero =>
    intro k μ hf hq hr
    have hk : k = 23 := by omega
    subst hk
    refine z_iload_n dX8_undo_33 rfl ?_
    refine z_bipush (v := nI 23) dX8_undo_34 (by decide) ?_
    refine z_icmpN_ge (tgt := 65) dX8_undo_36 (by decide) (by omega) (by omega) (fun c36 => ?_) (fun c36 => absurd c36 (by omega))
    refine z_aload_n dX8_undo_65 rfl ?_
    refine z_getI dX8_undo_66 fl_X8_49 ⟨by decide, _, rfl, rfl⟩ ((congrFun (congrFun hq.1 35) 2).trans h2) ?_
    exact z_ret (ty := none) (v := none) rfl dX8_undo_69 ⟨rfl, hq, hr⟩
  | succ f ih =>
    intro k μ hf hq hr
    refine z_iload_n dX8_undo_33 rfl ?_
    refine z_bipush (v := nI 23) dX8_undo_34 (by decide) ?_
    refine z_icmpN_ge (tgt := 65) dX8_undo_36 (by decide) (by omega) (by omega) (fun c36 => absurd c36 (by omega)) (fun c36 => ?_)
    refine z_aload_n dX8_undo_39 rfl ?_
    refine z_getR (j := 36) dX8_undo_40 fl_X8_7 ⟨by decide, _, rfl, rfl⟩ ?_
    refine z_iload_n dX8_undo_43 rfl ?_
    refine z_aload_n dX8_undo_44 rfl ?_
    refine z_getR (j := 37) dX8_undo_45 fl_X8_13 ⟨by decide, _, rfl, rfl⟩ ?_
    refine z_bipush (v := nI 23) dX8_undo_48 (by decide) ?_
    refine z_aload_n dX8_undo_50 rfl ?_
    refine z_getI dX8_undo_51 fl_X8_49 ⟨by decide, _, rfl, rfl⟩ ((congrFun (congrFun hq.1 35) 2).trans h2) ?_
    refine z_imulN dX8_undo_54 ?_
    refine z_iload_n dX8_undo_55 rfl ?_
    refine z_iaddN dX8_undo_56 ?_
    refine z_ialdN dX8_undo_57 ⟨by decide, rfl⟩ (by omega) (by decide) rfl ?_
    refine z_iastN dX8_undo_58 ⟨by decide, rfl⟩ (by omega) (by decide) ?_
    refine z_iinc (v := nI (k + 1)) (lv' := [(1, _), (0, _)]) dX8_undo_59 rfl (nI_inc _ 1) (by decide) rfl ?_
    refine z_goto (tgt := 33) dX8_undo_62 (by decide) ?_
    have q := ih (k + 1) (uR μ 36 k (μ.2.1 37 (23 * c + k))) (by omega) (hq.r _ _) (fun j => by
      rw [uR_s]
      by_cases e : j = k
      · subst e; rw [upd_s, if_pos (by omega), hq.2.1 37 (by omega)]
      · rw [upd_n _ _ e, hr j]
        by_cases e2 : j < k
        · rw [if_pos e2, if_pos (by omega)]
        · rw [if_neg e2, if_neg (by omega)])
    refine z_sub (lv' := [(0, _), (1, _)]) rfl ?_
    exact q
set_option maxRecDepth 100000 in
theorem ev_X8_undo_r1 (G : Gt) {S : Nat → St} {μ : Mm} (hh : hsOK μ 0 S) : EVw G 1 Y_X8_undo [rf G 35] μ (.int (nI 0)) (uF μ 35 3 (nI 1)) := by
  refine ev_of (by decide) (Nat.le_of_ble_eq_true rfl) ?_
  show Zs G 1 Y_X8_undo (fnN G _) 0 [(0, rf G 35)] [] μ
  refine z_aload_n dX8_undo_0 rfl ?_
  refine z_aload_n dX8_undo_1 rfl ?_
  refine z_getI dX8_undo_2 fl_X8_49 ⟨by decide, _, rfl, rfl⟩ hh.1 ?_
  refine z_ifN_ne (tgt := 12) dX8_undo_5 (by decide) (by omega) (fun c5 => absurd rfl c5) (fun c5 => ?_)
  refine z_iconst (v := nI 1) dX8_undo_8 (by decide) ?_
  refine z_goto (tgt := 13) dX8_undo_9 (by decide) ?_
  refine z_cV1w dX8_undo_13 lk_X8_52 (by decide) ⟨by decide, _, rfl⟩ rfl (Nat.le_of_ble_eq_true rfl) (ev_X8_refused G (w := 1) (by decide)) ?_
  refine z_ifB_eq (tgt := 21) dX8_undo_16 (by decide) (fun c16 => absurd c16 (by decide)) (fun c16 => ?_)
  refine z_iconst (v := nI 0) dX8_undo_19 (by decide) ?_
  exact z_ret (ty := none) (v := none) rfl dX8_undo_20 ⟨rfl, rfl⟩
set_option maxRecDepth 100000 in
theorem ev_X8_undo (G : Gt) {c : Nat} {S : Nat → St} {μ : Mm} (hh : hsOK μ (c + 1) S) : EV G 1 Y_X8_undo [rf G 35] μ (fun v u => v = some (.int (nI c)) ∧ opF μ u ∧ nwSt u (S c) ∧ hsOK u c S ∧ u.1 35 3 = nI 0) := by
  have hc := hh.2.1
  refine ev_of (by decide) (Nat.le_of_ble_eq_true rfl) ?_
  show Zs G 1 Y_X8_undo (fnN G _) 0 [(0, rf G 35)] [] μ
  refine z_aload_n dX8_undo_0 rfl ?_
  refine z_aload_n dX8_undo_1 rfl ?_
  refine z_getI dX8_undo_2 fl_X8_49 ⟨by decide, _, rfl, rfl⟩ hh.1 ?_
  refine z_ifN_ne (tgt := 12) dX8_undo_5 (by decide) (by omega) (fun c5 => ?_) (fun c5 => absurd c5 (by omega))
  refine z_iconst (v := nI 0) dX8_undo_12 (by decide) ?_
  refine z_cV1w dX8_undo_13 lk_X8_52 (by decide) ⟨by decide, _, rfl⟩ rfl (Nat.le_of_ble_eq_true rfl) (ev_X8_refused G (w := 0) (by decide)) ?_
  refine z_ifB_eq (tgt := 21) dX8_undo_16 (by decide) (fun c16 => ?_) (fun c16 => absurd c16 (by decide))
  refine z_aload_n dX8_undo_21 rfl ?_
  refine z_dup dX8_undo_22 rfl ?_
  refine z_getI dX8_undo_23 fl_X8_49 ⟨by decide, _, rfl, rfl⟩ hh.1 ?_
  refine z_iconst (v := nI 1) dX8_undo_26 (by decide) ?_
  refine z_isubN dX8_undo_27 (by omega) ?_
  refine z_putI dX8_undo_28 fp_X8_49 ⟨by decide, _, rfl, rfl⟩ ?_
  refine z_iconst (v := nI 0) dX8_undo_31 (by decide) ?_
  refine z_istore_n (lv' := [(1, _), (0, _)]) dX8_undo_32 rfl (by decide) rfl ?_
  have q := lp_X8_undo G (c := c) (by omega) (μ0 := uF (uF μ 35 3 (nI 0)) 35 2 (nI (c + 1 - 1))) (uF_s _ _ _ _) 23 0 _ (by omega) nwF.rf (fun j => by rw [if_neg (by omega)])
  refine z_sub (lv' := [(0, _), (1, _)]) rfl ?_
  refine Zs.post ?_ q
  rintro v u ⟨rfl, h1, h2⟩
  refine ⟨rfl, ((opF.rf.u3 _).u2 _).trans h1.o, row_nw ((hh.2.2 c (by omega)).cp (fun k hk => by rw [Nat.zero_add, h2, if_pos (by omega)]; rfl)), ⟨(congrFun (congrFun h1.1 35) 2).trans (uF_s _ _ _ _), by omega, fun j hj => ?_⟩, ?_⟩
  · rw [h1.2.1 37 (by omega)]; exact hh.2.2 j (by omega)
  · rw [h1.1, uF_n _ _ (by omega)]; exact uF_s _ _ _ _
