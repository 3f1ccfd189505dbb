theorem zpOK.fx {μ u : Mm} {x : St} {c : Nat} {S : Nat → St} {tn : Nat} {T : Nat → Nat} (h : zpOK μ x c S tn T) (hf : fx μ u) : zpOK u x c S tn T := ⟨h.1.fx hf (by omega), h.2.1.fx hf, h.2.2.1.fx hf, h.2.2.2.fx hf⟩
theorem zpOK.R {μ u : Mm} {x x' : St} {c : Nat} {S : Nat → St} {tn : Nat} {T : Nat → Nat} (h : zpOK μ x c S tn T) (hr : smR μ u) (ht : tabX u) (hx : seqSt u 1 x') : zpOK u x' c S tn T := ⟨hx, ht, h.2.2.1.R hr, h.2.2.2.R hr⟩
theorem zpOK.keep {μ u : Mm} {x : St} {c c' : Nat} {S S' : Nat → St} {tn : Nat} {T : Nat → Nat} (h : zpOK μ x c S tn T) (hk : smK 5 23 μ u) (hh : histOK u c' S') : zpOK u x c' S' tn T := ⟨h.1.sameK hk (by omega), h.2.1.same hk (by omega), hh, h.2.2.2.same hk (by omega)⟩
theorem zpOK.q {μ u : Mm} {x : St} {c : Nat} {S : Nat → St} {tn : Nat} {T : Nat → Nat} (h : zpOK μ x c S tn T) (hs : sm 23 33 μ u) (ht : tabX u) : zpOK u x c S tn T := ⟨h.1.same hs (by omega), ht, h.2.2.1.same hs (by omega), h.2.2.2.same hs.K (by omega)⟩
/-- commands carried out: how many, and the state behind -/
def rnL (T : Nat → Nat) (n : Nat) : Nat → Nat → St → Nat × St
  | 0, _, s => (0, s)
  | f + 1, c, s => match rcN T n c with
    | .inl _ => (0, s)
    | .inr q => match xqS q.1 q.2.1 q.2.2.1 s with
      | none => (0, s)
      | some s' => ((rnL T n f q.2.2.2 s').1 + 1, (rnL T n f q.2.2.2 s').2)
theorem rnL_e {T : Nat → Nat} {n f c : Nat} {s : St} {o : Option Nat} (h : rcN T n c = .inl o) : rnL T n (f + 1) c s = (0, s) := by unfold rnL; rw [h]
theorem rnL_n {T : Nat → Nat} {n f c : Nat} {s : St} {i x y c2 : Nat} (h : rcN T n c = .inr (i, x, y, c2)) (h2 : xqS i x y s = none) : rnL T n (f + 1) c s = (0, s) := by
  have e : rnL T n (f + 1) c s = (match rcN T n c with | .inl _ => (0, s) | .inr q => match xqS q.1 q.2.1 q.2.2.1 s with | none => (0, s) | some s' => ((rnL T n f q.2.2.2 s').1 + 1, (rnL T n f q.2.2.2 s').2)) := rfl
  rw [e, h]; show (match xqS i x y s with | none => (0, s) | some s' => ((rnL T n f c2 s').1 + 1, (rnL T n f c2 s').2)) = _; rw [h2]
theorem rnL_s {T : Nat → Nat} {n f c : Nat} {s s' : St} {i x y c2 : Nat} (h : rcN T n c = .inr (i, x, y, c2)) (h2 : xqS i x y s = some s') : rnL T n (f + 1) c s = ((rnL T n f c2 s').1 + 1, (rnL T n f c2 s').2) := by
  have e : rnL T n (f + 1) c s = (match rcN T n c with | .inl _ => (0, s) | .inr q => match xqS q.1 q.2.1 q.2.2.1 s with | none => (0, s) | some s' => ((rnL T n f q.2.2.2 s').1 + 1, (rnL T n f q.2.2.2 s').2)) := rfl
  rw [e, h]; show (match xqS i x y s with | none => (0, s) | some s' => ((rnL T n f c2 s').1 + 1, (rnL T n f c2 s').2)) = _; rw [h2]
set_option maxRecDepth 100000 in
theorem lp_X7_runCommands (G : Gt) {c tn : Nat} {S : Nat → St} {T : Nat → Nat} {μ0 : Mm} : ∀ (f k cu : Nat) (x : St) (μ : Mm), k + f = 150 → cu ≤ tn → zpOK μ x c S tn T → μ.1 33 2 = nI cu → smZ μ0 μ →
    Zs G 9 Y_X7_runCommands (fnN G (fun v u => v = some (.int (nI (k + (rnL T tn f cu x).1))) ∧ zpOK u (rnL T tn f cu x).2 c S tn T ∧ smZ μ0 u)) 38 [(0, rf G 0), (2, .int (nI k))] [] μ := by
  intro f
  induction f with
  | zero =>
    intro k cu x μ hf hcu h hc hz
    refine z_iload_n dX7_runCommands_38 rfl ?_
    refine z_sipush (v := nI 150) dX7_runCommands_39 (by decide) ?_
    refine z_icmpN_ge (tgt := 75) dX7_runCommands_42 (by decide) (by omega) (by omega) (fun c42 => ?_) (fun c42 => absurd c42 (by omega))
    refine z_iload_n dX7_runCommands_75 rfl ?_
    exact z_ret (ty := none) (v := none) rfl dX7_runCommands_76 ⟨rfl, h, hz⟩
  | succ f ih =>
    intro k cu x μ hf hcu h hc hz
    refine z_iload_n dX7_runCommands_38 rfl ?_
    refine z_sipush (v := nI 150) dX7_runCommands_39 (by decide) ?_
    refine z_icmpN_ge (tgt := 75) dX7_runCommands_42 (by decide) (by omega) (by omega) (fun c42 => absurd c42 (by omega)) (fun c42 => ?_)
    refine z_aload_n dX7_runCommands_45 rfl ?_
    refine z_getR (j := 33) dX7_runCommands_46 fl_X7_33 ⟨by decide, _, rfl, rfl⟩ ?_
    refine z_cV0g dX7_runCommands_49 lk_X7_256 (by decide) ⟨by decide, _, rfl⟩ rfl (Nat.le_of_ble_eq_true rfl) (ev_X1_readCommand G h.2.2.2 hc hcu) ?_
    rintro v u ⟨hfx, hb⟩
    rcases hr : rcN T tn cu with (_ | p) | ⟨i, x1, y1, c2⟩
    · rw [hr] at hb
      obtain ⟨rfl, hb⟩ := hb
      refine z_ifB_eq (tgt := 75) dX7_runCommands_52 (by decide) (fun c52 => ?_) (fun c52 => Bool.noConfusion c52)
      refine z_iload_n dX7_runCommands_75 rfl ?_
      exact z_ret (ty := none) (v := none) rfl dX7_runCommands_76 ⟨by rw [rnL_e hr]; rfl, by rw [rnL_e hr]; exact h.fx hfx, hz.trans hfx.Z⟩
    · rw [hr] at hb
      obtain ⟨rfl, hb⟩ := hb
      refine z_ifB_eq (tgt := 75) dX7_runCommands_52 (by decide) (fun c52 => ?_) (fun c52 => Bool.noConfusion c52)
      refine z_iload_n dX7_runCommands_75 rfl ?_
      exact z_ret (ty := none) (v := none) rfl dX7_runCommands_76 ⟨by rw [rnL_e hr]; rfl, by rw [rnL_e hr]; exact h.fx hfx, hz.trans hfx.Z⟩
    · rw [hr] at hb
      obtain ⟨rfl, h3, hw, h5, h6, h7⟩ := hb
      obtain ⟨hr1, hr2, hr3, hr4, hr5⟩ := rc_facts hcu hr
      refine z_ifB_eq (tgt := 75) dX7_runCommands_52 (by decide) (fun c52 => Bool.noConfusion c52) (fun c52 => ?_)
      refine z_aload_n dX7_runCommands_55 rfl ?_
      refine z_aload_n dX7_runCommands_56 rfl ?_
      refine z_getR (j := 33) dX7_runCommands_57 fl_X7_33 ⟨by decide, _, rfl, rfl⟩ ?_
      refine z_getW (w := some (10 + i)) dX7_runCommands_60 fl_X7_259 ⟨by decide, _, rfl, rfl⟩ hw ?_
      show Zs _ _ _ _ _ _ (kf G (10 + i) :: rf G 0 :: []) _
      have h2 := h.fx hfx
      refine z_cV1g dX7_runCommands_63 lk_X7_263 (by decide) ⟨by decide, _, rfl⟩ rfl (Nat.le_of_ble_eq_true rfl) (ev_X7_carryOut G h2.1 h2.2.1 hr2 hr3 h5 h6 hr1) ?_
      rintro v u2 ⟨hR, ht2, hm⟩
      rcases hx : xqS i x1 y1 x with _ | s'
      · rw [show xqS i x1 y1 (x.1, x.2.1, x.2.2.1, x.2.2.2.1, x.2.2.2.2) = none from hx] at hm
        obtain ⟨rfl, hq⟩ := hm
        refine z_ifB_eq (tgt := 75) dX7_runCommands_66 (by decide) (fun c66 => ?_) (fun c66 => Bool.noConfusion c66)
        refine z_iload_n dX7_runCommands_75 rfl ?_
        exact z_ret (ty := none) (v := none) rfl dX7_runCommands_76 ⟨by rw [rnL_n hr hx]; rfl, by rw [rnL_n hr hx]; exact h2.R hR ht2 hq, (hz.trans hfx.Z).trans hR.Z⟩
      · rw [show xqS i x1 y1 (x.1, x.2.1, x.2.2.1, x.2.2.2.1, x.2.2.2.2) = some s' from hx] at hm
        obtain ⟨rfl, hq⟩ := hm
        refine z_ifB_eq (tgt := 75) dX7_runCommands_66 (by decide) (fun c66 => Bool.noConfusion c66) (fun c66 => ?_)
        refine z_iinc (v := nI (k + 1)) (lv' := [(2, _), (0, _)]) dX7_runCommands_69 rfl (nI_inc _ 1) (by decide) rfl ?_
        refine z_goto (tgt := 38) dX7_runCommands_72 (by decide) ?_
        have q := ih (k + 1) c2 s' u2 (by omega) hr5 (h2.R hR ht2 hq) (by rw [(hR.1 33 (by omega)).1 2]; exact h7) ((hz.trans hfx.Z).trans hR.Z)
        rw [rnL_s hr hx]
        rw [show k + 1 + (rnL T tn f c2 s').1 = k + ((rnL T tn f c2 s').1 + 1) by omega] at q
        refine z_sub (lv' := [(0, _), (2, _)]) rfl ?_
        exact q
theorem oI_some {p : Nat} : oI (some p) = nI p := rfl
theorem ff_lt {T : Nat → Nat} {n : Nat} : ∀ {f c p : Nat}, c ≤ n → ffL T n f c = some p → p ≤ n := by
  intro f
  induction f with
  | zero => intro c p _ h; cases h
  | succ f ih =>
    intro c p hc h
    have e : ffL T n (f + 1) c = (match rcN T n c with | .inl o => o | .inr q => ffL T n f q.2.2.2) := rfl
    rw [e] at h
    rcases hr : rcN T n c with (_ | q) | ⟨i, x, y, c2⟩
    · rw [hr] at h; cases h
    · rw [hr] at h
      cases h
      have k1 := scL_le (g := fun k => isSp (T k)) (n - c) c hc
      unfold rcN at hr
      split at hr
      · have k3 : ltS T n (skS T n c) ≤ n := scL_le (g := fun k => isLt (T k)) _ _ (by omega)
        split at hr
        · cases hr; exact k1
        · split at hr
          · next e2 =>
            cases hr
            unfold nbN at e2
            split at e2
            · cases e2
            · have l1 := nm_le (T := T) k3
              split at e2
              · next e3 => rw [e3] at l1; cases e2; exact l1
              · next e3 =>
                rw [e3] at l1
                split at e2
                · cases e2
                · have l2 := nm_le (T := T) l1
                  split at e2
                  · next e4 => rw [e4] at l2; cases e2; exact l2
                  · cases e2
          · next x1 y1 c2 e2 =>
            obtain ⟨a1, a2, a3, a4⟩ := nb_facts k3 e2
            split at hr
            · cases hr
            · cases hr; exact scL_le (g := fun k => isSp (T k)) _ _ a4
      · cases hr
    · rw [hr] at h
      obtain ⟨_, _, _, _, h5⟩ := rc_facts hc hr
      exact ih h5 h
set_option maxRecDepth 100000 in
theorem ev_X7_runCommands (G : Gt) {x : St} {c tn : Nat} {S : Nat → St} {T : Nat → Nat} {μ : Mm} (h : zpOK μ x c S tn T) : EV G 9 Y_X7_runCommands [rf G 0] μ (fun v u => smZ μ u ∧ match ffL T tn 150 0 with | some p => v = some (.int (-10 - nI p)) ∧ zpOK u x c S tn T | none => v = some (.int (nI (rnL T tn 150 0 x).1)) ∧ zpOK u (rnL T tn 150 0 x).2 (kpC c) (kpS c S x) tn T) := by
  refine ev_of (by decide) (Nat.le_of_ble_eq_true rfl) ?_
  show Zs G 9 Y_X7_runCommands (fnN G _) 0 [(0, rf G 0)] [] μ
  refine z_aload_n dX7_runCommands_0 rfl ?_
  refine z_getR (j := 33) dX7_runCommands_1 fl_X7_33 ⟨by decide, _, rfl, rfl⟩ ?_
  refine z_cV0g dX7_runCommands_4 lk_X7_250 (by decide) ⟨by decide, _, rfl⟩ rfl (Nat.le_of_ble_eq_true rfl) (ev_X1_findFault G h.2.2.2) ?_
  rintro v u ⟨rfl, hfx⟩
  refine z_istore_n (lv' := [(1, _), (0, _)]) dX7_runCommands_7 rfl (by decide) rfl ?_
  refine z_iload_n dX7_runCommands_8 rfl ?_
  refine z_iconst (v := -1) dX7_runCommands_9 (by decide) ?_
  have htn := h.2.2.2.le
  rcases hf : ffL T tn 150 0 with _ | p
  · show Zs _ _ _ _ _ [(1, .int (-1)), (0, rf G 0)] (.int (-1) :: .int (-1) :: []) _
    refine z_sub (lv' := [(0, _), (1, _)]) rfl ?_
    refine z_icmp_eq (tgt := 18) dX7_runCommands_10 (by decide) (fun c10 => ?_) (fun c10 => absurd rfl c10)
    refine z_aload_n dX7_runCommands_18 rfl ?_
    refine z_getR (j := 5) dX7_runCommands_19 fl_X7_19 ⟨by decide, _, rfl, rfl⟩ ?_
    refine z_aload_n dX7_runCommands_22 rfl ?_
    refine z_getR (j := 1) dX7_runCommands_23 fl_X7_12 ⟨by decide, _, rfl, rfl⟩ ?_
    have h2 := h.fx hfx
    refine z_cV1g dX7_runCommands_26 lk_X7_48 (by decide) ⟨by decide, _, rfl⟩ rfl (Nat.le_of_ble_eq_true rfl) (ev_X3_keep G h2.2.2.1 seq1 (by omega) h2.1) ?_
    rintro v u2 ⟨rfl, hk, hh⟩
    have h3 := h2.keep hk hh
    refine z_aload_n dX7_runCommands_29 rfl ?_
    refine z_getR (j := 33) dX7_runCommands_30 fl_X7_33 ⟨by decide, _, rfl, rfl⟩ ?_
    refine z_cV0v dX7_runCommands_33 lk_X7_253 (by decide) ⟨by decide, _, rfl⟩ rfl (Nat.le_of_ble_eq_true rfl) (ev_X1_rewind G) ?_
    refine z_iconst (v := nI 0) dX7_runCommands_36 (by decide) ?_
    refine z_istore_n (lv' := [(2, _), (0, _), (1, _)]) dX7_runCommands_37 rfl (by decide) rfl ?_
    refine z_sub (lv' := [(0, _), (2, _)]) rfl ?_
    have hf2 : fx u2 (uF (uF u2 33 2 (nI 0)) 33 3 (-1)) := (fx.rf.uF (by omega)).uF (by omega)
    refine Zs.post ?_ (lp_X7_runCommands G (μ0 := μ) 150 0 0 x _ rfl (Nat.zero_le _) (h3.fx hf2) (by simp [uF]) ((hfx.Z.trans (hk.Z (by omega))).trans hf2.Z))
    rintro v u3 ⟨rfl, h4, h5⟩
    exact ⟨h5, ⟨by rw [Nat.zero_add], h4⟩⟩
  · have hp := ff_lt (Nat.zero_le _) hf
    show Zs _ _ _ _ _ [(1, .int (nI p)), (0, rf G 0)] (.int (-1) :: .int (nI p) :: []) _
    refine z_sub (lv' := [(0, _), (1, _)]) rfl ?_
    refine z_icmp_eq (tgt := 18) dX7_runCommands_10 (by decide) (fun c10 => absurd c10 (nI_m1 (by omega))) (fun c10 => ?_)
    refine z_bipush (v := -10) dX7_runCommands_13 (by decide) ?_
    refine z_iload_n dX7_runCommands_15 rfl ?_
    refine z_isub dX7_runCommands_16 ?_
    exact z_ret (ty := none) (v := none) rfl dX7_runCommands_17 ⟨hfx.Z, ⟨rfl, h.fx hfx⟩⟩
