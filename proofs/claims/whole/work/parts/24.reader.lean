def wrN (T : Nat → Nat) (n c : Nat) : Option Nat := wdN T c (ltS T n c) 5
def wrW (c : Nat) (o : Option Nat) (e : Nat) (μ : Mm) : Mm := match o with
  | some _ => uF μ 33 2 (nI e)
  | none => uF (uF μ 33 2 (nI e)) 33 3 (nI c)
theorem wdN_lt {T : Nat → Nat} {s e i : Nat} : ∀ {k : Nat}, wdN T s e k = some i → i < k := by
  intro k
  induction k with
  | zero => intro h; cases h
  | succ k ih =>
    intro h
    unfold wdN at h
    split at h
    · next j e1 => cases h; exact Nat.lt_succ_of_lt (ih e1)
    · split at h
      · cases h; exact Nat.lt_succ_self _
      · cases h
set_option maxRecDepth 100000 in
theorem fi_X1_readWord (G : Gt) {n c : Nat} {T : Nat → Nat} {μ0 : Mm} (h0 : txOK μ0 n T) {e : Nat} (hce : c ≤ e) (hen : e ≤ n) : Zs G 6 Y_X1_readWord (fnN G (fun v u => v = some (wv G ((wdN T c e 5).map (10 + ·))) ∧ u = wrW c (wdN T c e 5) e μ0)) 39 [(0, rf G 33), (1, .int (nI c))] [] (uF μ0 33 2 (nI e)) := by
  have h := h0.u (k := 2) (by decide) (nI e)
  have hn := h.le
  refine z_aload_n dX1_readWord_39 rfl ?_
  refine z_iload_n dX1_readWord_40 rfl ?_
  refine z_aload_n dX1_readWord_41 rfl ?_
  refine z_getI dX1_readWord_42 fl_X1_19 ⟨by decide, _, rfl, rfl⟩ (uF_s _ _ _ _) ?_
  refine z_cV2 dX1_readWord_45 lk_X1_68 (by decide) ⟨by decide, _, rfl⟩ rfl (Nat.le_of_ble_eq_true rfl) (ev_X1_wordBetween G h hce hen) ?_
  rcases hw : wdN T c e 5 with _ | i
  · show Zs _ _ _ _ _ _ (.null :: []) _
    refine z_nstore_n (lv' := [(2, _), (0, _), (1, _)]) dX1_readWord_48 rfl (by decide) rfl ?_
    refine z_nload_n dX1_readWord_49 rfl ?_
    refine z_ifnonnullN dX1_readWord_50 ?_
    refine z_aload_n dX1_readWord_53 rfl ?_
    refine z_iload_n dX1_readWord_54 rfl ?_
    refine z_cV1v dX1_readWord_55 lk_X1_72 (by decide) ⟨by decide, _, rfl⟩ rfl (Nat.le_of_ble_eq_true rfl) (ev_X1_failAt G) ?_
    refine z_nload_n dX1_readWord_58 rfl ?_
    exact z_aret rfl (Or.inl rfl) dX1_readWord_59 ⟨rfl, rfl⟩
  · show Zs _ _ _ _ _ _ (kf G (10 + i) :: []) _
    refine z_kstore_n (lv' := [(2, _), (0, _), (1, _)]) dX1_readWord_48 rfl (by decide) rfl ?_
    refine z_kload_n dX1_readWord_49 rfl ?_
    refine z_ifnonnullK (tgt := 58) dX1_readWord_50 (by decide) ?_
    refine z_kload_n dX1_readWord_58 rfl ?_
    exact z_aret rfl (Or.inr ⟨_, rfl⟩) dX1_readWord_59 ⟨rfl, rfl⟩
set_option maxRecDepth 100000 in
theorem lp_X1_readWord (G : Gt) {n c : Nat} {T : Nat → Nat} {μ0 : Mm} (h0 : txOK μ0 n T) : ∀ (f e : Nat), n - e = f → c ≤ e → e ≤ n →
    Zs G 6 Y_X1_readWord (fnN G (fun v u => v = some (wv G ((wdN T c (scL (fun k => isLt (T k)) n f e) 5).map (10 + ·))) ∧ u = wrW c (wdN T c (scL (fun k => isLt (T k)) n f e) 5) (scL (fun k => isLt (T k)) n f e) μ0)) 5 [(0, rf G 33), (1, .int (nI c))] [] (uF μ0 33 2 (nI e)) := by
  intro f
  have h := fun e : Nat => h0.u (k := 2) (by decide) (nI e)
  have hn := h0.le
  induction f with
  | zero =>
    intro e hf hce hen
    have h := h e
    refine z_aload_n dX1_readWord_5 rfl ?_
    refine z_getI dX1_readWord_6 fl_X1_19 ⟨by decide, _, rfl, rfl⟩ (uF_s _ _ _ _) ?_
    refine z_aload_n dX1_readWord_9 rfl ?_
    refine z_getI dX1_readWord_10 fl_X1_15 ⟨by decide, _, rfl, rfl⟩ h.n ?_
    refine z_icmpN_ge (tgt := 39) dX1_readWord_13 (by decide) (by omega) (by omega) (fun c13 => ?_) (fun c13 => absurd c13 (by omega))
    rw [scL_out (g := (fun k => isLt (T k))) (by omega) _]
    refine z_sub (lv' := [(0, _), (1, _)]) rfl ?_
    exact fi_X1_readWord G h0 hce hen
  | succ f ih =>
    intro e hf hce hen
    have h := h e
    refine z_aload_n dX1_readWord_5 rfl ?_
    refine z_getI dX1_readWord_6 fl_X1_19 ⟨by decide, _, rfl, rfl⟩ (uF_s _ _ _ _) ?_
    refine z_aload_n dX1_readWord_9 rfl ?_
    refine z_getI dX1_readWord_10 fl_X1_15 ⟨by decide, _, rfl, rfl⟩ h.n ?_
    refine z_icmpN_ge (tgt := 39) dX1_readWord_13 (by decide) (by omega) (by omega) (fun c13 => absurd c13 (by omega)) (fun c13 => ?_)
    refine z_aload_n dX1_readWord_16 rfl ?_
    refine z_cV0 dX1_readWord_17 lk_X1_45 (by decide) ⟨by decide, _, rfl⟩ rfl (Nat.le_of_ble_eq_true rfl) (ev_X1_peek G h (uF_s _ _ _ _) hen) ?_
    rw [pkn_in c13]
    have htl := h.tl c13
    refine z_cS1 dX1_readWord_20 lk_X1_65 (by decide) (Nat.le_of_ble_eq_true rfl) (ev_X1_isLetter G (by omega)) ?_
    refine z_ifB_eq (tgt := 39) dX1_readWord_23 (by decide) (fun c23 => ?_) (fun c23 => ?_)
    · rw [scL_out (g := (fun k => isLt (T k))) (by rw [c23]; simp) _]
      refine z_sub (lv' := [(0, _), (1, _)]) rfl ?_
      exact fi_X1_readWord G h0 hce hen
    · refine z_aload_n dX1_readWord_26 rfl ?_
      refine z_dup dX1_readWord_27 rfl ?_
      refine z_getI dX1_readWord_28 fl_X1_19 ⟨by decide, _, rfl, rfl⟩ (uF_s _ _ _ _) ?_
      refine z_iconst (v := nI 1) dX1_readWord_31 (by decide) ?_
      refine z_iaddN dX1_readWord_32 ?_
      refine z_putI dX1_readWord_33 fp_X1_19 ⟨by decide, _, rfl, rfl⟩ ?_
      rw [uF_uF]
      refine z_goto (tgt := 5) dX1_readWord_36 (by decide) ?_
      have q := ih (e + 1) (by omega) (by omega) (by omega)
      rw [show scL (fun k => isLt (T k)) n (f + 1) e = scL (fun k => isLt (T k)) n f (e + 1) from if_pos ⟨c13, c23⟩]
      refine z_sub (lv' := [(0, _), (1, _)]) rfl ?_
      exact q
theorem ev_X1_readWord (G : Gt) {n c : Nat} {T : Nat → Nat} {μ : Mm} (h : txOK μ n T) (hc : μ.1 33 2 = nI c) (hcn : c ≤ n) : EVw G 6 Y_X1_readWord [rf G 33] μ (wv G ((wrN T n c).map (10 + ·))) (wrW c (wrN T n c) (ltS T n c) μ) := by
  refine ev_of (by decide) (Nat.le_of_ble_eq_true rfl) ?_
  show Zs G 6 Y_X1_readWord (fnN G _) 0 [(0, rf G 33)] [] μ
  refine z_aload_n dX1_readWord_0 rfl ?_
  refine z_getI dX1_readWord_1 fl_X1_19 ⟨by decide, _, rfl, rfl⟩ hc ?_
  refine z_istore_n (lv' := [(1, _), (0, _)]) dX1_readWord_4 rfl (by decide) rfl ?_
  have q := lp_X1_readWord G (c := c) h (n - c) c rfl (Nat.le_refl _) hcn
  rw [uF_id hc] at q
  refine z_sub (lv' := [(0, _), (1, _)]) rfl ?_
  exact q
def rcN (T : Nat → Nat) (n c : Nat) : Option Nat ⊕ (Nat × Nat × Nat × Nat) :=
  if skS T n c < n then match wrN T n (skS T n c) with
    | none => .inl (some (skS T n c))
    | some i => match nbN T n (wNum i) (ltS T n (skS T n c)) with
      | (none, p) => .inl (some p)
      | (some (x, y), c2) => if smN T n c2 then .inr (i, x, y, skS T n c2 + 1) else .inl (some (skS T n c2))
  else .inl none
theorem rcN_e {T : Nat → Nat} {n c : Nat} (h1 : n ≤ skS T n c) : rcN T n c = .inl none := by unfold rcN; rw [if_neg (by omega)]
theorem rcN_w {T : Nat → Nat} {n c : Nat} (h1 : skS T n c < n) (hw : wrN T n (skS T n c) = none) : rcN T n c = .inl (some (skS T n c)) := by unfold rcN; simp [h1, hw]
theorem rcN_n {T : Nat → Nat} {n c i p : Nat} (h1 : skS T n c < n) (hw : wrN T n (skS T n c) = some i) (hb : nbN T n (wNum i) (ltS T n (skS T n c)) = (none, p)) : rcN T n c = .inl (some p) := by unfold rcN; simp [h1, hw, hb]
theorem rcN_s {T : Nat → Nat} {n c i x y p : Nat} (h1 : skS T n c < n) (hw : wrN T n (skS T n c) = some i) (hb : nbN T n (wNum i) (ltS T n (skS T n c)) = (some (x, y), p)) (hs : smN T n p = false) : rcN T n c = .inl (some (skS T n p)) := by unfold rcN; simp [h1, hw, hb, hs]
theorem rcN_ok {T : Nat → Nat} {n c i x y p : Nat} (h1 : skS T n c < n) (hw : wrN T n (skS T n c) = some i) (hb : nbN T n (wNum i) (ltS T n (skS T n c)) = (some (x, y), p)) (hs : smN T n p = true) : rcN T n c = .inr (i, x, y, skS T n p + 1) := by unfold rcN; simp [h1, hw, hb, hs]
theorem pkn_m1 {T : Nat → Nat} {n c : Nat} (hT : ∀ j, j < n → T j < 128) : pkN T n c = -1 ↔ n ≤ c := by
  by_cases h : c < n
  · rw [pkn_in h]
    exact ⟨fun q => absurd q (nI_m1 (by have := hT c h; omega)), fun q => by omega⟩
  · rw [pkn_out (by omega)]
    exact ⟨fun _ => by omega, fun _ => rfl⟩
theorem wNum_le : ∀ i, wNum i ≤ 2 := by
  intro i
  unfold wNum
  split <;> decide
theorem rc_facts {T : Nat → Nat} {n c i x y c' : Nat} (hcn : c ≤ n) (h : rcN T n c = .inr (i, x, y, c')) : i < 5 ∧ x < 100 ∧ y < 100 ∧ c < c' ∧ c' ≤ n := by
  unfold rcN at h
  split at h
  · next h1 =>
    split at h
    · cases h
    · next j e1 =>
      split at h
      · cases h
      · next x1 y1 c2 e2 =>
        have k1 : c ≤ skS T n c := scL_ge (fun k => isSp (T k)) n (n - c) c
        have k2 : skS T n c ≤ ltS T n (skS T n c) := scL_ge (fun k => isLt (T k)) n _ _
        have k3 : ltS T n (skS T n c) ≤ n := scL_le (g := fun k => isLt (T k)) _ _ (by omega)
        obtain ⟨a1, a2, a3, a4⟩ := nb_facts k3 e2
        have k4 : c2 ≤ skS T n c2 := scL_ge (fun k => isSp (T k)) n _ _
        split at h
        · next e3 =>
          cases h
          unfold smN at e3
          rw [Bool.and_eq_true, decide_eq_true_eq] at e3
          exact ⟨wdN_lt e1, a1, a2, by omega, by omega⟩
        · cases h
  · cases h
set_option maxRecDepth 100000 in
theorem ev_X1_readCommand (G : Gt) {n c : Nat} {T : Nat → Nat} {μ : Mm} (h : txOK μ n T) (hc : μ.1 33 2 = nI c) (hcn : c ≤ n) : EV G 7 Y_X1_readCommand [rf G 33] μ (fun v u => fx μ u ∧ match rcN T n c with | .inl none => v = some (.int (bI false)) ∧ u.1 33 3 = μ.1 33 3 | .inl (some p) => v = some (.int (bI false)) ∧ u.1 33 3 = nI p | .inr (i, x, y, c2) => v = some (.int (bI true)) ∧ u.1 33 3 = μ.1 33 3 ∧ u.2.2.2.1 = some (10 + i) ∧ u.1 33 5 = nI x ∧ u.1 33 6 = nI y ∧ u.1 33 2 = nI c2) := by
  have hn := h.le
  have hT : ∀ j, j < n → T j < 128 := fun j hj => h.tl hj
  refine ev_of (by decide) (Nat.le_of_ble_eq_true rfl) ?_
  show Zs G 7 Y_X1_readCommand (fnN G _) 0 [(0, rf G 33)] [] μ
  refine z_aload_n dX1_readCommand_0 rfl ?_
  refine z_cV0v dX1_readCommand_1 lk_X1_42 (by decide) ⟨by decide, _, rfl⟩ rfl (Nat.le_of_ble_eq_true rfl) (ev_X1_skipSpaces G h hc hcn) ?_
  have hk := scL_le (g := fun k => isSp (T k)) (n - c) c hcn
  have h2 := h.u (k := 2) (by decide) (nI (skS T n c))
  refine z_aload_n dX1_readCommand_4 rfl ?_
  refine z_cV0 dX1_readCommand_5 lk_X1_45 (by decide) ⟨by decide, _, rfl⟩ rfl (Nat.le_of_ble_eq_true rfl) (ev_X1_peek G h2 (uF_s _ _ _ _) hk) ?_
  refine z_iconst (v := -1) dX1_readCommand_8 (by decide) ?_
  refine z_icmp_ne (tgt := 14) dX1_readCommand_9 (by decide) (fun c9 => ?_) (fun c9 => ?_)
  · have c1n : skS T n c < n := by
      apply Classical.byContradiction
      intro q
      exact c9 ((pkn_m1 hT).mpr (by omega))
    have k3 : ltS T n (skS T n c) ≤ n := scL_le (g := fun k => isLt (T k)) _ _ (by omega)
    refine z_aload_n dX1_readCommand_14 rfl ?_
    refine z_aload_n dX1_readCommand_15 rfl ?_
    have q := ev_X1_readWord G h2 (uF_s _ _ _ _) hk
    rcases hw : wrN T n (skS T n c) with _ | i
    · rw [hw] at q
      refine z_cV0w dX1_readCommand_16 lk_X1_49 (by decide) ⟨by decide, _, rfl⟩ rfl (Nat.le_of_ble_eq_true rfl) q ?_
      refine z_putW (w := none) dX1_readCommand_19 fp_X1_25 ?_
      refine z_aload_n dX1_readCommand_22 rfl ?_
      refine z_getW (w := none) dX1_readCommand_23 fl_X1_25 ⟨by decide, _, rfl, rfl⟩ rfl ?_
      show Zs _ _ _ _ _ _ (.null :: []) _
      refine z_ifnullN (tgt := 54) dX1_readCommand_26 (by decide) ?_
      refine z_iconst (v := nI 0) dX1_readCommand_54 (by decide) ?_
      exact z_zret rfl rfl dX1_readCommand_55 ⟨((fx.rf.uF (by omega)).uF (by omega)).uF (by omega) |>.uW, by rw [rcN_w c1n hw]; exact ⟨rfl, by simp [uF, uW, wrW]⟩⟩
    · rw [hw] at q
      have hi : i < 5 := wdN_lt hw
      refine z_cV0w dX1_readCommand_16 lk_X1_49 (by decide) ⟨by decide, _, rfl⟩ rfl (Nat.le_of_ble_eq_true rfl) q ?_
      refine z_putW (w := some (10 + i)) dX1_readCommand_19 fp_X1_25 ?_
      refine z_aload_n dX1_readCommand_22 rfl ?_
      refine z_getW (w := some (10 + i)) dX1_readCommand_23 fl_X1_25 ⟨by decide, _, rfl, rfl⟩ rfl ?_
      show Zs _ _ _ _ _ _ (kf G (10 + i) :: []) _
      refine z_ifnullK dX1_readCommand_26 ?_
      refine z_aload_n dX1_readCommand_29 rfl ?_
      refine z_aload_n dX1_readCommand_30 rfl ?_
      refine z_getW (w := some (10 + i)) dX1_readCommand_31 fl_X1_25 ⟨by decide, _, rfl, rfl⟩ rfl ?_
      show Zs _ _ _ _ _ _ (kf G (10 + i) :: rf G 33 :: []) _
      refine z_wnum (i := i) hi dX1_readCommand_34 nl_num ?_
      refine z_cV1g dX1_readCommand_37 lk_X1_58 (by decide) ⟨by decide, _, rfl⟩ rfl (Nat.le_of_ble_eq_true rfl) (ev_X1_readNumbers G (h.fx (((fx.rf.uF (k := 2) (x := nI (skS T n c)) (by omega)).uF (k := 2) (x := nI (ltS T n (skS T n c))) (by omega)).uW (w := some (10 + i)))) (show (uW (uF (uF μ 33 2 (nI (skS T n c))) 33 2 (nI (ltS T n (skS T n c)))) (some (10 + i))).1 33 2 = nI (ltS T n (skS T n c)) by simp [uF, uW]) k3 (wNum_le i)) ?_
      rintro v u ⟨hf2, hw2, hm⟩
      have hf3 : fx μ u := ((((fx.rf.uF (by omega)).uF (by omega)).uW)).trans hf2
      have hww : u.2.2.2.1 = some (10 + i) := hw2
      rcases hb : nbN T n (wNum i) (ltS T n (skS T n c)) with ⟨_ | ⟨x, y⟩, p⟩
      · rw [hb] at hm
        obtain ⟨rfl, hm⟩ := hm
        have hm := (⟨trivial, hm⟩ : True ∧ _)
        refine z_ifB_eq (tgt := 54) dX1_readCommand_40 (by decide) (fun c40 => ?_) (fun c40 => Bool.noConfusion c40)
        refine z_iconst (v := nI 0) dX1_readCommand_54 (by decide) ?_
        exact z_zret rfl rfl dX1_readCommand_55 ⟨hf3, by rw [rcN_n c1n hw hb]; exact ⟨rfl, hm.2⟩⟩
      · rw [hb] at hm
        obtain ⟨rfl, hm2, hm3, hm4, hm5⟩ := hm
        obtain ⟨_, _, _, hb4⟩ := nb_facts k3 hb
        have hff : (uF (uF μ 33 2 (nI (skS T n c))) 33 2 (nI (ltS T n (skS T n c)))).1 33 3 = μ.1 33 3 := by simp [uF]
        refine z_ifB_eq (tgt := 54) dX1_readCommand_40 (by decide) (fun c40 => Bool.noConfusion c40) (fun c40 => ?_)
        refine z_aload_n dX1_readCommand_43 rfl ?_
        refine z_cV0w dX1_readCommand_44 lk_X1_62 (by decide) ⟨by decide, _, rfl⟩ rfl (Nat.le_of_ble_eq_true rfl) (ev_X1_readSemicolon G (h.fx hf3) hm2 hb4) ?_
        refine z_ifB_eq (tgt := 54) dX1_readCommand_47 (by decide) (fun hsm => ?_) (fun hsm => ?_)
        · refine z_iconst (v := nI 0) dX1_readCommand_54 (by decide) ?_
          exact z_zret rfl rfl dX1_readCommand_55 ⟨hf3.trans (by unfold smW; rw [hsm]; exact (fx.rf.uF (by omega)).uF (by omega)), by rw [rcN_s c1n hw hb hsm]; exact ⟨rfl, by unfold smW; rw [hsm]; exact uF_s _ _ _ _⟩⟩
        · refine z_iconst (v := nI 1) dX1_readCommand_50 (by decide) ?_
          refine z_goto (tgt := 55) dX1_readCommand_51 (by decide) ?_
          exact z_zret rfl rfl dX1_readCommand_55 ⟨hf3.trans (by unfold smW; rw [hsm]; exact fx.rf.uF (by omega)), by rw [rcN_ok c1n hw hb hsm]; unfold smW; rw [hsm]; exact ⟨rfl, by rw [if_pos rfl, uF_n _ _ (by omega)]; exact hm3.trans hff, hww, by rw [if_pos rfl, uF_n _ _ (by omega)]; exact hm4, by rw [if_pos rfl, uF_n _ _ (by omega)]; exact hm5, by rw [if_pos rfl]; exact uF_s _ _ _ _⟩⟩
  · have c1n := (pkn_m1 hT).mp c9
    refine z_iconst (v := nI 0) dX1_readCommand_12 (by decide) ?_
    exact z_zret rfl rfl dX1_readCommand_13 ⟨fx.rf.uF (by omega), by rw [rcN_e c1n]; exact ⟨rfl, by simp [uF]⟩⟩
def ffL (T : Nat → Nat) (n : Nat) : Nat → Nat → Option Nat
  | 0, _ => none
  | f + 1, c => match rcN T n c with
    | .inl o => o
    | .inr q => ffL T n f q.2.2.2
theorem oI_none : (-1 : Int32) = oI none := rfl
set_option maxRecDepth 100000 in
theorem lp_X1_findFault (G : Gt) {n : Nat} {T : Nat → Nat} {μ0 : Mm} (h0 : txOK μ0 n T) : ∀ (f k c : Nat) (μ : Mm), k + f = 150 → c ≤ n → fx μ0 μ → μ.1 33 2 = nI c → μ.1 33 3 = -1 →
    Zs G 8 Y_X1_findFault (fnN G (fun v u => v = some (.int (oI (ffL T n f c))) ∧ fx μ0 u)) 6 [(0, rf G 33), (1, .int (nI k))] [] μ := by
  intro f
  induction f with
  | zero =>
    intro k c μ hf hcn hfx hc hm
    refine z_iload_n dX1_findFault_6 rfl ?_
    refine z_sipush (v := nI 150) dX1_findFault_7 (by decide) ?_
    refine z_icmpN_ge (tgt := 26) dX1_findFault_10 (by decide) (by omega) (by omega) (fun c10 => ?_) (fun c10 => absurd c10 (by omega))
    refine z_aload_n dX1_findFault_26 rfl ?_
    refine z_getI dX1_findFault_27 fl_X1_22 ⟨by decide, _, rfl, rfl⟩ hm ?_
    exact z_ret (ty := none) (v := none) rfl dX1_findFault_30 ⟨rfl, hfx⟩
  | succ f ih =>
    intro k c μ hf hcn hfx hc hm
    have h := h0.fx hfx
    refine z_iload_n dX1_findFault_6 rfl ?_
    refine z_sipush (v := nI 150) dX1_findFault_7 (by decide) ?_
    refine z_icmpN_ge (tgt := 26) dX1_findFault_10 (by decide) (by omega) (by omega) (fun c10 => absurd c10 (by omega)) (fun c10 => ?_)
    refine z_aload_n dX1_findFault_13 rfl ?_
    refine z_cV0g dX1_findFault_14 lk_X1_38 (by decide) ⟨by decide, _, rfl⟩ rfl (Nat.le_of_ble_eq_true rfl) (ev_X1_readCommand G h hc hcn) ?_
    rintro v u ⟨hf2, hb⟩
    rcases hr : rcN T n c with (_ | p) | ⟨i, x, y, c2⟩
    · rw [hr] at hb
      obtain ⟨rfl, hb⟩ := hb
      refine z_ifB_eq (tgt := 26) dX1_findFault_17 (by decide) (fun c17 => ?_) (fun c17 => Bool.noConfusion c17)
      refine z_aload_n dX1_findFault_26 rfl ?_
      refine z_getI dX1_findFault_27 fl_X1_22 ⟨by decide, _, rfl, rfl⟩ (hb.trans hm) ?_
      exact z_ret (ty := none) (v := none) rfl dX1_findFault_30 ⟨by rw [show ffL T n (f + 1) c = (match rcN T n c with | .inl o => o | .inr q => ffL T n f q.2.2.2) from rfl, hr]; rfl, hfx.trans hf2⟩
    · rw [hr] at hb
      obtain ⟨rfl, hb⟩ := hb
      refine z_ifB_eq (tgt := 26) dX1_findFault_17 (by decide) (fun c17 => ?_) (fun c17 => Bool.noConfusion c17)
      refine z_aload_n dX1_findFault_26 rfl ?_
      refine z_getI dX1_findFault_27 fl_X1_22 ⟨by decide, _, rfl, rfl⟩ hb ?_
      exact z_ret (ty := none) (v := none) rfl dX1_findFault_30 ⟨by rw [show ffL T n (f + 1) c = (match rcN T n c with | .inl o => o | .inr q => ffL T n f q.2.2.2) from rfl, hr]; rfl, hfx.trans hf2⟩
    · rw [hr] at hb
      obtain ⟨rfl, hb2, hb3, hb4, hb5, hb6⟩ := hb
      obtain ⟨_, _, _, _, hr5⟩ := rc_facts hcn hr
      refine z_ifB_eq (tgt := 26) dX1_findFault_17 (by decide) (fun c17 => Bool.noConfusion c17) (fun c17 => ?_)
      refine z_iinc (v := nI (k + 1)) (lv' := [(1, _), (0, _)]) dX1_findFault_20 rfl (nI_inc _ 1) (by decide) rfl ?_
      refine z_goto (tgt := 6) dX1_findFault_23 (by decide) ?_
      have q := ih (k + 1) c2 u (by omega) hr5 (hfx.trans hf2) hb6 (by rw [hb2, hm])
      rw [show ffL T n (f + 1) c = (match rcN T n c with | .inl o => o | .inr q => ffL T n f q.2.2.2) from rfl, hr]
      refine z_sub (lv' := [(0, _), (1, _)]) rfl ?_
      exact q
set_option maxRecDepth 100000 in
theorem ev_X1_findFault (G : Gt) {n : Nat} {T : Nat → Nat} {μ0 : Mm} (h0 : txOK μ0 n T) : EV G 8 Y_X1_findFault [rf G 33] μ0 (fun v u => v = some (.int (oI (ffL T n 150 0))) ∧ fx μ0 u) := by
  refine ev_of (by decide) (Nat.le_of_ble_eq_true rfl) ?_
  show Zs G 8 Y_X1_findFault (fnN G _) 0 [(0, rf G 33)] [] μ0
  refine z_aload_n dX1_findFault_0 rfl ?_
  refine z_cV0v dX1_findFault_1 lk_X1_35 (by decide) ⟨by decide, _, rfl⟩ rfl (Nat.le_of_ble_eq_true rfl) (ev_X1_rewind G) ?_
  refine z_iconst (v := nI 0) dX1_findFault_4 (by decide) ?_
  refine z_istore_n (lv' := [(1, _), (0, _)]) dX1_findFault_5 rfl (by decide) rfl ?_
  refine z_sub (lv' := [(0, _), (1, _)]) rfl ?_
  exact lp_X1_findFault G h0 150 0 0 _ rfl (Nat.zero_le _) ((fx.rf.uF (by omega)).uF (by omega)) (by simp [uF]) (uF_s _ _ _ _)
