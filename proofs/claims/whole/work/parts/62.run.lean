theorem nwOK.p' {μ u : Mm} {a b n : Nat} {E Q : Nat → Nat} (h : nwOK μ a b n E Q) (hf : psF μ u) : nwOK u a b n E Q := h.same (hf.2.1 36 (by omega))
theorem hsOK.p {μ u : Mm} {c : Nat} {S : Nat → St} (h : hsOK μ c S) (hf : psF μ u) : hsOK u c S := h.q (hf.1 35 2 (by omega)) (hf.2.1 37 (by omega))
theorem psF.z {μ u : Mm} (h : psF μ u) : sm 35 46 μ u := ⟨fun i hi => ⟨fun k => h.1 i k (by omega), h.2.1 i (by omega)⟩, h.2.2⟩
/-- a command's answer, the state behind it -/
def dsP (i p q : Nat) (x : St) (c : Nat) (S : Nat → St) (μ : Mm) (v : Option Value) (u : Mm) : Prop := opF μ u ∧ hsOK u c S ∧ match xqS i p q x with
  | some s => v = some (.int (bI true)) ∧ nwSt u s
  | none => v = some (.int (bI false)) ∧ nwSt u x
theorem dsP_s {i p q c : Nat} {x s : St} {S : Nat → St} {μ u : Mm} {v : Option Value} (h : xqS i p q x = some s) (h1 : opF μ u) (h2 : hsOK u c S) (h3 : v = some (.int (bI true))) (h4 : nwSt u s) : dsP i p q x c S μ v u := by
  unfold dsP; rw [h]; exact ⟨h1, h2, h3, h4⟩
theorem dsP_n {i p q c : Nat} {x : St} {S : Nat → St} {μ u : Mm} {v : Option Value} (h : xqS i p q x = none) (h1 : opF μ u) (h2 : hsOK u c S) (h3 : v = some (.int (bI false))) (h4 : nwSt u x) : dsP i p q x c S μ v u := by
  unfold dsP; rw [h]; exact ⟨h1, h2, h3, h4⟩
theorem inF {x n : Nat} (h : ¬ x < n) (hx : x < 2 ^ 31) : inR (nI x) n = false := by rw [inR_N hx, decide_eq_false h]
set_option maxRecDepth 100000 in
theorem ev_X8_does_0 (G : Gt) {a b n c p q : Nat} {E Q : Nat → Nat} {S : Nat → St} {μ : Mm} (h : nwOK μ a b n E Q) (hh : hsOK μ c S) (h4 : μ.1 35 4 = bI true) (hp : p < 100) (hq : q < 100) (h9 : μ.1 35 9 = nI 0) (r0 : μ.2.1 39 0 = nI p) (r1 : μ.2.1 39 1 = nI q) : EV G 5 Y_X8_does [rf G 35] μ (dsP 0 p q (a, b, n, E, Q) c S μ) := by
  have hn := h.le
  have hab := h.ab
  have hpw := p1024 hn
  refine ev_of (by decide) (Nat.le_of_ble_eq_true rfl) ?_
  show Zs G 5 Y_X8_does (fnN G _) 0 [(0, rf G 35)] [] μ
  rcases h1 : isM (nI p) with _ | _
  ·
    have hx : xqS 0 p q (a, b, n, E, Q) = none := if_neg (fun e => by rw [h1] at e; cases e.1)
    refine z_aload_n dX8_does_0 rfl ?_
    refine z_getI dX8_does_1 fl_X8_188 ⟨by decide, _, rfl, rfl⟩ h9 ?_
    refine z_tsw (tgt := 36) dX8_does_4 (by decide) (by decide) (by decide) rfl (by decide) ?_
    refine z_aload_n dX8_does_36 rfl ?_
    refine z_aload_n dX8_does_37 rfl ?_
    refine z_getR (j := 39) dX8_does_38 fl_X8_19 ⟨by decide, _, rfl, rfl⟩ ?_
    refine z_iconst (v := nI 0) dX8_does_41 (by decide) ?_
    refine z_ialdN dX8_does_42 ⟨by decide, rfl⟩ (by omega) (by decide) r0 ?_
    refine z_aload_n dX8_does_43 rfl ?_
    refine z_getR (j := 39) dX8_does_44 fl_X8_19 ⟨by decide, _, rfl, rfl⟩ ?_
    refine z_iconst (v := nI 1) dX8_does_47 (by decide) ?_
    refine z_ialdN dX8_does_48 ⟨by decide, rfl⟩ (by omega) (by decide) r1 ?_
    refine z_cV2w dX8_does_49 lk_X8_201 (by decide) ⟨by decide, _, rfl⟩ rfl (Nat.le_of_ble_eq_true rfl) (ev_X8_begin_r1 G h h1) ?_
    refine z_pop dX8_does_52 rfl ?_
    refine z_goto (tgt := 109) dX8_does_53 (by decide) ?_
    refine z_aload_n dX8_does_109 rfl ?_
    refine z_getI dX8_does_110 fl_X8_41 ⟨by decide, _, rfl, rfl⟩ (uF_s _ _ _ _) ?_
    refine z_ifN_ne (tgt := 120) dX8_does_113 (by decide) (by omega) (fun c113 => ?_) (fun c113 => absurd c113 (by decide))
    refine z_iconst (v := nI 0) dX8_does_120 (by decide) ?_
    exact z_zret rfl rfl dX8_does_121 (dsP_n hx (opF.rf.u3 _) (hh.u3 _) rfl (h.u3 _))
  rcases h2 : isM (nI q) with _ | _
  ·
    have hx : xqS 0 p q (a, b, n, E, Q) = none := if_neg (fun e => by rw [h2] at e; cases e.2)
    refine z_aload_n dX8_does_0 rfl ?_
    refine z_getI dX8_does_1 fl_X8_188 ⟨by decide, _, rfl, rfl⟩ h9 ?_
    refine z_tsw (tgt := 36) dX8_does_4 (by decide) (by decide) (by decide) rfl (by decide) ?_
    refine z_aload_n dX8_does_36 rfl ?_
    refine z_aload_n dX8_does_37 rfl ?_
    refine z_getR (j := 39) dX8_does_38 fl_X8_19 ⟨by decide, _, rfl, rfl⟩ ?_
    refine z_iconst (v := nI 0) dX8_does_41 (by decide) ?_
    refine z_ialdN dX8_does_42 ⟨by decide, rfl⟩ (by omega) (by decide) r0 ?_
    refine z_aload_n dX8_does_43 rfl ?_
    refine z_getR (j := 39) dX8_does_44 fl_X8_19 ⟨by decide, _, rfl, rfl⟩ ?_
    refine z_iconst (v := nI 1) dX8_does_47 (by decide) ?_
    refine z_ialdN dX8_does_48 ⟨by decide, rfl⟩ (by omega) (by decide) r1 ?_
    refine z_cV2w dX8_does_49 lk_X8_201 (by decide) ⟨by decide, _, rfl⟩ rfl (Nat.le_of_ble_eq_true rfl) (ev_X8_begin_r2 G h h1 h2) ?_
    refine z_pop dX8_does_52 rfl ?_
    refine z_goto (tgt := 109) dX8_does_53 (by decide) ?_
    refine z_aload_n dX8_does_109 rfl ?_
    refine z_getI dX8_does_110 fl_X8_41 ⟨by decide, _, rfl, rfl⟩ (uF_s _ _ _ _) ?_
    refine z_ifN_ne (tgt := 120) dX8_does_113 (by decide) (by omega) (fun c113 => ?_) (fun c113 => absurd c113 (by decide))
    refine z_iconst (v := nI 0) dX8_does_120 (by decide) ?_
    exact z_zret rfl rfl dX8_does_121 (dsP_n hx (opF.rf.u3 _) (hh.u3 _) rfl (h.u3 _))
  ·
    have hx : xqS 0 p q (a, b, n, E, Q) = some (p, q, 0, E, Q) := if_pos ⟨h1, h2⟩
    have e1 := isM_of (by omega) h1
    have e2 := isM_of (by omega) h2
    refine z_aload_n dX8_does_0 rfl ?_
    refine z_getI dX8_does_1 fl_X8_188 ⟨by decide, _, rfl, rfl⟩ h9 ?_
    refine z_tsw (tgt := 36) dX8_does_4 (by decide) (by decide) (by decide) rfl (by decide) ?_
    refine z_aload_n dX8_does_36 rfl ?_
    refine z_aload_n dX8_does_37 rfl ?_
    refine z_getR (j := 39) dX8_does_38 fl_X8_19 ⟨by decide, _, rfl, rfl⟩ ?_
    refine z_iconst (v := nI 0) dX8_does_41 (by decide) ?_
    refine z_ialdN dX8_does_42 ⟨by decide, rfl⟩ (by omega) (by decide) r0 ?_
    refine z_aload_n dX8_does_43 rfl ?_
    refine z_getR (j := 39) dX8_does_44 fl_X8_19 ⟨by decide, _, rfl, rfl⟩ ?_
    refine z_iconst (v := nI 1) dX8_does_47 (by decide) ?_
    refine z_ialdN dX8_does_48 ⟨by decide, rfl⟩ (by omega) (by decide) r1 ?_
    refine z_cV2g dX8_does_49 lk_X8_201 (by decide) ⟨by decide, _, rfl⟩ rfl (Nat.le_of_ble_eq_true rfl) (ev_X8_begin G h hh h4 e1.1 e1.2 e2.1 e2.2) ?_
    rintro v u ⟨rfl, q1, q2, q3, q5⟩
    refine z_pop dX8_does_52 rfl ?_
    refine z_goto (tgt := 109) dX8_does_53 (by decide) ?_
    refine z_aload_n dX8_does_109 rfl ?_
    refine z_getI dX8_does_110 fl_X8_41 ⟨by decide, _, rfl, rfl⟩ q5 ?_
    refine z_ifN_ne (tgt := 120) dX8_does_113 (by decide) (by omega) (fun c113 => absurd rfl c113) (fun c113 => ?_)
    refine z_iconst (v := nI 1) dX8_does_116 (by decide) ?_
    refine z_goto (tgt := 121) dX8_does_117 (by decide) ?_
    exact z_zret rfl rfl dX8_does_121 (dsP_s hx q1 q3 rfl q2)
set_option maxRecDepth 100000 in
theorem ev_X8_does_1 (G : Gt) {a b n c p q : Nat} {E Q : Nat → Nat} {S : Nat → St} {μ : Mm} (h : nwOK μ a b n E Q) (hh : hsOK μ c S) (h4 : μ.1 35 4 = bI true) (hp : p < 100) (hq : q < 100) (h9 : μ.1 35 9 = nI 1) (r0 : μ.2.1 39 0 = nI p) : EV G 5 Y_X8_does [rf G 35] μ (dsP 1 p q (a, b, n, E, Q) c S μ) := by
  have hn := h.le
  have hab := h.ab
  have hpw := p1024 hn
  refine ev_of (by decide) (Nat.le_of_ble_eq_true rfl) ?_
  show Zs G 5 Y_X8_does (fnN G _) 0 [(0, rf G 35)] [] μ
  by_cases h1 : p < a * b
  · by_cases h2 : n < 10
    ·
      have hx : xqS 1 p q (a, b, n, E, Q) = some (a, b, n + 1, upE E n p, upE Q n 0) := if_pos ⟨h1, h2⟩
      refine z_aload_n dX8_does_0 rfl ?_
      refine z_getI dX8_does_1 fl_X8_188 ⟨by decide, _, rfl, rfl⟩ h9 ?_
      refine z_tsw (tgt := 56) dX8_does_4 (by decide) (by decide) (by decide) rfl (by decide) ?_
      refine z_aload_n dX8_does_56 rfl ?_
      refine z_aload_n dX8_does_57 rfl ?_
      refine z_getR (j := 39) dX8_does_58 fl_X8_19 ⟨by decide, _, rfl, rfl⟩ ?_
      refine z_iconst (v := nI 0) dX8_does_61 (by decide) ?_
      refine z_ialdN dX8_does_62 ⟨by decide, rfl⟩ (by omega) (by decide) r0 ?_
      refine z_cV1g dX8_does_63 lk_X8_204 (by decide) ⟨by decide, _, rfl⟩ rfl (Nat.le_of_ble_eq_true rfl) (ev_X8_add G h hh h4 h1 h2) ?_
      rintro v u ⟨rfl, q1, q2, q3, q5⟩
      refine z_pop dX8_does_66 rfl ?_
      refine z_goto (tgt := 109) dX8_does_67 (by decide) ?_
      refine z_aload_n dX8_does_109 rfl ?_
      refine z_getI dX8_does_110 fl_X8_41 ⟨by decide, _, rfl, rfl⟩ q5 ?_
      refine z_ifN_ne (tgt := 120) dX8_does_113 (by decide) (by omega) (fun c113 => absurd rfl c113) (fun c113 => ?_)
      refine z_iconst (v := nI 1) dX8_does_116 (by decide) ?_
      refine z_goto (tgt := 121) dX8_does_117 (by decide) ?_
      exact z_zret rfl rfl dX8_does_121 (dsP_s hx q1 q3 rfl q2)
    ·
      have hx : xqS 1 p q (a, b, n, E, Q) = none := if_neg (fun e => h2 e.2)
      refine z_aload_n dX8_does_0 rfl ?_
      refine z_getI dX8_does_1 fl_X8_188 ⟨by decide, _, rfl, rfl⟩ h9 ?_
      refine z_tsw (tgt := 56) dX8_does_4 (by decide) (by decide) (by decide) rfl (by decide) ?_
      refine z_aload_n dX8_does_56 rfl ?_
      refine z_aload_n dX8_does_57 rfl ?_
      refine z_getR (j := 39) dX8_does_58 fl_X8_19 ⟨by decide, _, rfl, rfl⟩ ?_
      refine z_iconst (v := nI 0) dX8_does_61 (by decide) ?_
      refine z_ialdN dX8_does_62 ⟨by decide, rfl⟩ (by omega) (by decide) r0 ?_
      refine z_cV1w dX8_does_63 lk_X8_204 (by decide) ⟨by decide, _, rfl⟩ rfl (Nat.le_of_ble_eq_true rfl) (ev_X8_add_r2 G h (inT h1 (by omega)) (by omega)) ?_
      refine z_pop dX8_does_66 rfl ?_
      refine z_goto (tgt := 109) dX8_does_67 (by decide) ?_
      refine z_aload_n dX8_does_109 rfl ?_
      refine z_getI dX8_does_110 fl_X8_41 ⟨by decide, _, rfl, rfl⟩ (uF_s _ _ _ _) ?_
      refine z_ifN_ne (tgt := 120) dX8_does_113 (by decide) (by omega) (fun c113 => ?_) (fun c113 => absurd c113 (by decide))
      refine z_iconst (v := nI 0) dX8_does_120 (by decide) ?_
      exact z_zret rfl rfl dX8_does_121 (dsP_n hx (opF.rf.u3 _) (hh.u3 _) rfl (h.u3 _))
  ·
    have hx : xqS 1 p q (a, b, n, E, Q) = none := if_neg (fun e => h1 e.1)
    refine z_aload_n dX8_does_0 rfl ?_
    refine z_getI dX8_does_1 fl_X8_188 ⟨by decide, _, rfl, rfl⟩ h9 ?_
    refine z_tsw (tgt := 56) dX8_does_4 (by decide) (by decide) (by decide) rfl (by decide) ?_
    refine z_aload_n dX8_does_56 rfl ?_
    refine z_aload_n dX8_does_57 rfl ?_
    refine z_getR (j := 39) dX8_does_58 fl_X8_19 ⟨by decide, _, rfl, rfl⟩ ?_
    refine z_iconst (v := nI 0) dX8_does_61 (by decide) ?_
    refine z_ialdN dX8_does_62 ⟨by decide, rfl⟩ (by omega) (by decide) r0 ?_
    refine z_cV1w dX8_does_63 lk_X8_204 (by decide) ⟨by decide, _, rfl⟩ rfl (Nat.le_of_ble_eq_true rfl) (ev_X8_add_r1 G h (inF h1 (by omega))) ?_
    refine z_pop dX8_does_66 rfl ?_
    refine z_goto (tgt := 109) dX8_does_67 (by decide) ?_
    refine z_aload_n dX8_does_109 rfl ?_
    refine z_getI dX8_does_110 fl_X8_41 ⟨by decide, _, rfl, rfl⟩ (uF_s _ _ _ _) ?_
    refine z_ifN_ne (tgt := 120) dX8_does_113 (by decide) (by omega) (fun c113 => ?_) (fun c113 => absurd c113 (by decide))
    refine z_iconst (v := nI 0) dX8_does_120 (by decide) ?_
    exact z_zret rfl rfl dX8_does_121 (dsP_n hx (opF.rf.u3 _) (hh.u3 _) rfl (h.u3 _))
set_option maxRecDepth 100000 in
theorem ev_X8_does_2 (G : Gt) {a b n c p q : Nat} {E Q : Nat → Nat} {S : Nat → St} {μ : Mm} (h : nwOK μ a b n E Q) (hh : hsOK μ c S) (h4 : μ.1 35 4 = bI true) (hp : p < 100) (hq : q < 100) (h9 : μ.1 35 9 = nI 2) (r0 : μ.2.1 39 0 = nI p) : EV G 5 Y_X8_does [rf G 35] μ (dsP 2 p q (a, b, n, E, Q) c S μ) := by
  have hn := h.le
  have hab := h.ab
  have hpw := p1024 hn
  refine ev_of (by decide) (Nat.le_of_ble_eq_true rfl) ?_
  show Zs G 5 Y_X8_does (fnN G _) 0 [(0, rf G 35)] [] μ
  by_cases h1 : p < n
  ·
    have hx : xqS 2 p q (a, b, n, E, Q) = some (a, b, n - 1, rmN E p, rmN Q p) := if_pos h1
    refine z_aload_n dX8_does_0 rfl ?_
    refine z_getI dX8_does_1 fl_X8_188 ⟨by decide, _, rfl, rfl⟩ h9 ?_
    refine z_tsw (tgt := 70) dX8_does_4 (by decide) (by decide) (by decide) rfl (by decide) ?_
    refine z_aload_n dX8_does_70 rfl ?_
    refine z_aload_n dX8_does_71 rfl ?_
    refine z_getR (j := 39) dX8_does_72 fl_X8_19 ⟨by decide, _, rfl, rfl⟩ ?_
    refine z_iconst (v := nI 0) dX8_does_75 (by decide) ?_
    refine z_ialdN dX8_does_76 ⟨by decide, rfl⟩ (by omega) (by decide) r0 ?_
    refine z_cV1g dX8_does_77 lk_X8_207 (by decide) ⟨by decide, _, rfl⟩ rfl (Nat.le_of_ble_eq_true rfl) (ev_X8_removeAt G h hh h4 h1) ?_
    rintro v u ⟨rfl, q1, q2, q3, q5⟩
    refine z_pop dX8_does_80 rfl ?_
    refine z_goto (tgt := 109) dX8_does_81 (by decide) ?_
    refine z_aload_n dX8_does_109 rfl ?_
    refine z_getI dX8_does_110 fl_X8_41 ⟨by decide, _, rfl, rfl⟩ q5 ?_
    refine z_ifN_ne (tgt := 120) dX8_does_113 (by decide) (by omega) (fun c113 => absurd rfl c113) (fun c113 => ?_)
    refine z_iconst (v := nI 1) dX8_does_116 (by decide) ?_
    refine z_goto (tgt := 121) dX8_does_117 (by decide) ?_
    exact z_zret rfl rfl dX8_does_121 (dsP_s hx q1 q3 rfl q2)
  ·
    have hx : xqS 2 p q (a, b, n, E, Q) = none := if_neg h1
    refine z_aload_n dX8_does_0 rfl ?_
    refine z_getI dX8_does_1 fl_X8_188 ⟨by decide, _, rfl, rfl⟩ h9 ?_
    refine z_tsw (tgt := 70) dX8_does_4 (by decide) (by decide) (by decide) rfl (by decide) ?_
    refine z_aload_n dX8_does_70 rfl ?_
    refine z_aload_n dX8_does_71 rfl ?_
    refine z_getR (j := 39) dX8_does_72 fl_X8_19 ⟨by decide, _, rfl, rfl⟩ ?_
    refine z_iconst (v := nI 0) dX8_does_75 (by decide) ?_
    refine z_ialdN dX8_does_76 ⟨by decide, rfl⟩ (by omega) (by decide) r0 ?_
    refine z_cV1w dX8_does_77 lk_X8_207 (by decide) ⟨by decide, _, rfl⟩ rfl (Nat.le_of_ble_eq_true rfl) (ev_X8_removeAt_r1 G h (inF h1 (by omega))) ?_
    refine z_pop dX8_does_80 rfl ?_
    refine z_goto (tgt := 109) dX8_does_81 (by decide) ?_
    refine z_aload_n dX8_does_109 rfl ?_
    refine z_getI dX8_does_110 fl_X8_41 ⟨by decide, _, rfl, rfl⟩ (uF_s _ _ _ _) ?_
    refine z_ifN_ne (tgt := 120) dX8_does_113 (by decide) (by omega) (fun c113 => ?_) (fun c113 => absurd c113 (by decide))
    refine z_iconst (v := nI 0) dX8_does_120 (by decide) ?_
    exact z_zret rfl rfl dX8_does_121 (dsP_n hx (opF.rf.u3 _) (hh.u3 _) rfl (h.u3 _))
set_option maxRecDepth 100000 in
theorem ev_X8_does_3 (G : Gt) {a b n c p q : Nat} {E Q : Nat → Nat} {S : Nat → St} {μ : Mm} (h : nwOK μ a b n E Q) (hh : hsOK μ c S) (h4 : μ.1 35 4 = bI true) (hp : p < 100) (hq : q < 100) (h9 : μ.1 35 9 = nI 3) (r0 : μ.2.1 39 0 = nI p) (r1 : μ.2.1 39 1 = nI q) : EV G 5 Y_X8_does [rf G 35] μ (dsP 3 p q (a, b, n, E, Q) c S μ) := by
  have hn := h.le
  have hab := h.ab
  have hpw := p1024 hn
  refine ev_of (by decide) (Nat.le_of_ble_eq_true rfl) ?_
  show Zs G 5 Y_X8_does (fnN G _) 0 [(0, rf G 35)] [] μ
  by_cases h1 : p < n
  · by_cases h2 : q < 6
    ·
      have hx : xqS 3 p q (a, b, n, E, Q) = some (a, b, n, E, upE Q p q) := if_pos ⟨h1, h2⟩
      refine z_aload_n dX8_does_0 rfl ?_
      refine z_getI dX8_does_1 fl_X8_188 ⟨by decide, _, rfl, rfl⟩ h9 ?_
      refine z_tsw (tgt := 84) dX8_does_4 (by decide) (by decide) (by decide) rfl (by decide) ?_
      refine z_aload_n dX8_does_84 rfl ?_
      refine z_aload_n dX8_does_85 rfl ?_
      refine z_getR (j := 39) dX8_does_86 fl_X8_19 ⟨by decide, _, rfl, rfl⟩ ?_
      refine z_iconst (v := nI 0) dX8_does_89 (by decide) ?_
      refine z_ialdN dX8_does_90 ⟨by decide, rfl⟩ (by omega) (by decide) r0 ?_
      refine z_aload_n dX8_does_91 rfl ?_
      refine z_getR (j := 39) dX8_does_92 fl_X8_19 ⟨by decide, _, rfl, rfl⟩ ?_
      refine z_iconst (v := nI 1) dX8_does_95 (by decide) ?_
      refine z_ialdN dX8_does_96 ⟨by decide, rfl⟩ (by omega) (by decide) r1 ?_
      refine z_cV2g dX8_does_97 lk_X8_210 (by decide) ⟨by decide, _, rfl⟩ rfl (Nat.le_of_ble_eq_true rfl) (ev_X8_lay G h hh h4 h1 h2) ?_
      rintro v u ⟨rfl, q1, q2, q3, q5⟩
      refine z_pop dX8_does_100 rfl ?_
      refine z_goto (tgt := 109) dX8_does_101 (by decide) ?_
      refine z_aload_n dX8_does_109 rfl ?_
      refine z_getI dX8_does_110 fl_X8_41 ⟨by decide, _, rfl, rfl⟩ q5 ?_
      refine z_ifN_ne (tgt := 120) dX8_does_113 (by decide) (by omega) (fun c113 => absurd rfl c113) (fun c113 => ?_)
      refine z_iconst (v := nI 1) dX8_does_116 (by decide) ?_
      refine z_goto (tgt := 121) dX8_does_117 (by decide) ?_
      exact z_zret rfl rfl dX8_does_121 (dsP_s hx q1 q3 rfl q2)
    ·
      have hx : xqS 3 p q (a, b, n, E, Q) = none := if_neg (fun e => h2 e.2)
      refine z_aload_n dX8_does_0 rfl ?_
      refine z_getI dX8_does_1 fl_X8_188 ⟨by decide, _, rfl, rfl⟩ h9 ?_
      refine z_tsw (tgt := 84) dX8_does_4 (by decide) (by decide) (by decide) rfl (by decide) ?_
      refine z_aload_n dX8_does_84 rfl ?_
      refine z_aload_n dX8_does_85 rfl ?_
      refine z_getR (j := 39) dX8_does_86 fl_X8_19 ⟨by decide, _, rfl, rfl⟩ ?_
      refine z_iconst (v := nI 0) dX8_does_89 (by decide) ?_
      refine z_ialdN dX8_does_90 ⟨by decide, rfl⟩ (by omega) (by decide) r0 ?_
      refine z_aload_n dX8_does_91 rfl ?_
      refine z_getR (j := 39) dX8_does_92 fl_X8_19 ⟨by decide, _, rfl, rfl⟩ ?_
      refine z_iconst (v := nI 1) dX8_does_95 (by decide) ?_
      refine z_ialdN dX8_does_96 ⟨by decide, rfl⟩ (by omega) (by decide) r1 ?_
      refine z_cV2w dX8_does_97 lk_X8_210 (by decide) ⟨by decide, _, rfl⟩ rfl (Nat.le_of_ble_eq_true rfl) (ev_X8_lay_r2 G h (inT h1 (by omega)) (inF h2 (by omega))) ?_
      refine z_pop dX8_does_100 rfl ?_
      refine z_goto (tgt := 109) dX8_does_101 (by decide) ?_
      refine z_aload_n dX8_does_109 rfl ?_
      refine z_getI dX8_does_110 fl_X8_41 ⟨by decide, _, rfl, rfl⟩ (uF_s _ _ _ _) ?_
      refine z_ifN_ne (tgt := 120) dX8_does_113 (by decide) (by omega) (fun c113 => ?_) (fun c113 => absurd c113 (by decide))
      refine z_iconst (v := nI 0) dX8_does_120 (by decide) ?_
      exact z_zret rfl rfl dX8_does_121 (dsP_n hx (opF.rf.u3 _) (hh.u3 _) rfl (h.u3 _))
  ·
    have hx : xqS 3 p q (a, b, n, E, Q) = none := if_neg (fun e => h1 e.1)
    refine z_aload_n dX8_does_0 rfl ?_
    refine z_getI dX8_does_1 fl_X8_188 ⟨by decide, _, rfl, rfl⟩ h9 ?_
    refine z_tsw (tgt := 84) dX8_does_4 (by decide) (by decide) (by decide) rfl (by decide) ?_
    refine z_aload_n dX8_does_84 rfl ?_
    refine z_aload_n dX8_does_85 rfl ?_
    refine z_getR (j := 39) dX8_does_86 fl_X8_19 ⟨by decide, _, rfl, rfl⟩ ?_
    refine z_iconst (v := nI 0) dX8_does_89 (by decide) ?_
    refine z_ialdN dX8_does_90 ⟨by decide, rfl⟩ (by omega) (by decide) r0 ?_
    refine z_aload_n dX8_does_91 rfl ?_
    refine z_getR (j := 39) dX8_does_92 fl_X8_19 ⟨by decide, _, rfl, rfl⟩ ?_
    refine z_iconst (v := nI 1) dX8_does_95 (by decide) ?_
    refine z_ialdN dX8_does_96 ⟨by decide, rfl⟩ (by omega) (by decide) r1 ?_
    refine z_cV2w dX8_does_97 lk_X8_210 (by decide) ⟨by decide, _, rfl⟩ rfl (Nat.le_of_ble_eq_true rfl) (ev_X8_lay_r1 G h (inF h1 (by omega))) ?_
    refine z_pop dX8_does_100 rfl ?_
    refine z_goto (tgt := 109) dX8_does_101 (by decide) ?_
    refine z_aload_n dX8_does_109 rfl ?_
    refine z_getI dX8_does_110 fl_X8_41 ⟨by decide, _, rfl, rfl⟩ (uF_s _ _ _ _) ?_
    refine z_ifN_ne (tgt := 120) dX8_does_113 (by decide) (by omega) (fun c113 => ?_) (fun c113 => absurd c113 (by decide))
    refine z_iconst (v := nI 0) dX8_does_120 (by decide) ?_
    exact z_zret rfl rfl dX8_does_121 (dsP_n hx (opF.rf.u3 _) (hh.u3 _) rfl (h.u3 _))
set_option maxRecDepth 100000 in
theorem ev_X8_does_4 (G : Gt) {a b n c p q : Nat} {E Q : Nat → Nat} {S : Nat → St} {μ : Mm} (h : nwOK μ a b n E Q) (hh : hsOK μ c S) (h4 : μ.1 35 4 = bI true) (hp : p < 100) (hq : q < 100) (h9 : μ.1 35 9 = nI 4) : EV G 5 Y_X8_does [rf G 35] μ (dsP 4 p q (a, b, n, E, Q) c S μ) := by
  have hn := h.le
  have hab := h.ab
  have hpw := p1024 hn
  refine ev_of (by decide) (Nat.le_of_ble_eq_true rfl) ?_
  show Zs G 5 Y_X8_does (fnN G _) 0 [(0, rf G 35)] [] μ
  rcases h1 : spO a b n E with _ | M
  ·
    have hx : xqS 4 p q (a, b, n, E, Q) = none := if_neg (fun e => by unfold clN at e; rw [h1] at e; cases e)
    refine z_aload_n dX8_does_0 rfl ?_
    refine z_getI dX8_does_1 fl_X8_188 ⟨by decide, _, rfl, rfl⟩ h9 ?_
    refine z_tswD (tgt := 104) dX8_does_4 (Or.inr (by decide)) (by decide) ?_
    refine z_aload_n dX8_does_104 rfl ?_
    refine z_cV0g dX8_does_105 lk_X8_213 (by decide) ⟨by decide, _, rfl⟩ rfl (Nat.le_of_ble_eq_true rfl) (ev_X8_laySplit_r1 G h hh h1) ?_
    rintro v u ⟨rfl, q1, q2, q3, q5⟩
    refine z_pop dX8_does_108 rfl ?_
    refine z_aload_n dX8_does_109 rfl ?_
    refine z_getI dX8_does_110 fl_X8_41 ⟨by decide, _, rfl, rfl⟩ q5 ?_
    refine z_ifN_ne (tgt := 120) dX8_does_113 (by decide) (by omega) (fun c113 => ?_) (fun c113 => absurd c113 (by decide))
    refine z_iconst (v := nI 0) dX8_does_120 (by decide) ?_
    exact z_zret rfl rfl dX8_does_121 (dsP_n hx q1 q3 rfl q2)
  by_cases h2 : M ≤ 6
  ·
    have hx : xqS 4 p q (a, b, n, E, Q) = some (a, b, n, E, lsL a b n E M 0 (2 ^ n - 1) Q) := by
      show (if clN a b n E = true then some (a, b, n, E, lsL a b n E ((spO a b n E).getD 0) 0 (2 ^ n - 1) Q) else none) = _
      rw [if_pos (by unfold clN; rw [h1]; exact decide_eq_true h2), h1]; rfl
    refine z_aload_n dX8_does_0 rfl ?_
    refine z_getI dX8_does_1 fl_X8_188 ⟨by decide, _, rfl, rfl⟩ h9 ?_
    refine z_tswD (tgt := 104) dX8_does_4 (Or.inr (by decide)) (by decide) ?_
    refine z_aload_n dX8_does_104 rfl ?_
    refine z_cV0g dX8_does_105 lk_X8_213 (by decide) ⟨by decide, _, rfl⟩ rfl (Nat.le_of_ble_eq_true rfl) (ev_X8_laySplit G h hh h4 h1 h2) ?_
    rintro v u ⟨rfl, q1, q2, q3, q5⟩
    refine z_pop dX8_does_108 rfl ?_
    refine z_aload_n dX8_does_109 rfl ?_
    refine z_getI dX8_does_110 fl_X8_41 ⟨by decide, _, rfl, rfl⟩ q5 ?_
    refine z_ifN_ne (tgt := 120) dX8_does_113 (by decide) (by omega) (fun c113 => absurd rfl c113) (fun c113 => ?_)
    refine z_iconst (v := nI 1) dX8_does_116 (by decide) ?_
    refine z_goto (tgt := 121) dX8_does_117 (by decide) ?_
    exact z_zret rfl rfl dX8_does_121 (dsP_s hx q1 q3 rfl q2)
  ·
    have hx : xqS 4 p q (a, b, n, E, Q) = none := if_neg (fun e => by unfold clN at e; rw [h1] at e; exact h2 (of_decide_eq_true e))
    refine z_aload_n dX8_does_0 rfl ?_
    refine z_getI dX8_does_1 fl_X8_188 ⟨by decide, _, rfl, rfl⟩ h9 ?_
    refine z_tswD (tgt := 104) dX8_does_4 (Or.inr (by decide)) (by decide) ?_
    refine z_aload_n dX8_does_104 rfl ?_
    refine z_cV0g dX8_does_105 lk_X8_213 (by decide) ⟨by decide, _, rfl⟩ rfl (Nat.le_of_ble_eq_true rfl) (ev_X8_laySplit_r2 G h hh h1 (by omega)) ?_
    rintro v u ⟨rfl, q1, q2, q3, q5⟩
    refine z_pop dX8_does_108 rfl ?_
    refine z_aload_n dX8_does_109 rfl ?_
    refine z_getI dX8_does_110 fl_X8_41 ⟨by decide, _, rfl, rfl⟩ q5 ?_
    refine z_ifN_ne (tgt := 120) dX8_does_113 (by decide) (by omega) (fun c113 => ?_) (fun c113 => absurd c113 (by decide))
    refine z_iconst (v := nI 0) dX8_does_120 (by decide) ?_
    exact z_zret rfl rfl dX8_does_121 (dsP_n hx q1 q3 rfl q2)
theorem ev_X8_does (G : Gt) {i c p q : Nat} {x : St} {S : Nat → St} {μ : Mm} (h : nwSt μ x) (hh : hsOK μ c S) (h4 : μ.1 35 4 = bI true) (hp : p < 100) (hq : q < 100) (h9 : μ.1 35 9 = nI i) (hi : i < 5) (r0 : 1 ≤ wNum i → μ.2.1 39 0 = nI p) (r1 : 2 ≤ wNum i → μ.2.1 39 1 = nI q) : EV G 5 Y_X8_does [rf G 35] μ (dsP i p q x c S μ) := by
  obtain ⟨a, b, n, E, Q⟩ := x
  rcases (show i = 0 ∨ i = 1 ∨ i = 2 ∨ i = 3 ∨ i = 4 by omega) with rfl | rfl | rfl | rfl | rfl
  · exact ev_X8_does_0 G h hh h4 hp hq h9 (r0 (by decide)) (r1 (by decide))
  · exact ev_X8_does_1 G h hh h4 hp hq h9 (r0 (by decide))
  · exact ev_X8_does_2 G h hh h4 hp hq h9 (r0 (by decide))
  · exact ev_X8_does_3 G h hh h4 hp hq h9 (r0 (by decide)) (r1 (by decide))
  · exact ev_X8_does_4 G h hh h4 hp hq h9
/-- behind runCommands -/
def ruP (T : Nat → Nat) (n c : Nat) (S : Nat → St) (μ : Mm) (k : Nat) (x : St) (v : Option Value) (u : Mm) : Prop := sm 35 46 μ u ∧ mtOK u n T ∧ u.1 35 4 = bI false ∧ v = some (.int (nI k)) ∧ nwSt u x ∧ hsOK u c S
theorem zz3 {μ u : Mm} (h : sm 35 46 μ u) (k : Nat) (x : Int32) : sm 35 46 μ (uF u 35 k x) := h.uF (by omega) (by omega)
set_option maxRecDepth 100000 in
theorem ex_X8_runCommands (G : Gt) {n c k : Nat} {T : Nat → Nat} {S : Nat → St} {x : St} {μ0 μ : Mm} (hz : sm 35 46 μ0 μ) (ht : mtOK μ n T) (h : nwSt μ x) (hh : hsOK μ c S) : Zs G 6 Y_X8_runCommands (fnN G (ruP T n c S μ0 k x)) 87 [(0, rf G 35), (1, .int (nI k))] [] μ := by
  refine z_aload_n dX8_runCommands_87 rfl ?_
  refine z_iconst (v := nI 0) dX8_runCommands_88 (by decide) ?_
  refine z_putZ dX8_runCommands_89 fp_X8_45 ⟨by decide, _, rfl, rfl⟩ rfl rfl ?_
  refine z_aload_n dX8_runCommands_92 rfl ?_
  refine z_iconst (v := nI 0) dX8_runCommands_93 (by decide) ?_
  refine z_putI dX8_runCommands_94 fp_X8_41 ⟨by decide, _, rfl, rfl⟩ ?_
  refine z_iload_n dX8_runCommands_97 rfl ?_
  exact z_ret (ty := none) (v := none) rfl dX8_runCommands_98 ⟨zz3 (zz3 hz _ _) _ _, ⟨(uF_n _ _ (by omega)).trans ((uF_n _ _ (by omega)).trans ht.1), ht.2⟩, (uF_n _ _ (by omega)).trans (uF_s _ _ _ _), rfl, (h.same rfl), hh.q ((uF_n _ _ (by omega)).trans (uF_n _ _ (by omega))) rfl⟩
set_option maxRecDepth 100000 in
theorem ex2_X8_runCommands (G : Gt) {n c k cu : Nat} {T : Nat → Nat} {S : Nat → St} {x : St} {μ0 μ : Mm} (hcu : cu ≤ n) (h8 : μ.1 35 8 = nI (skS T n cu)) (hz : sm 35 46 μ0 μ) (ht : mtOK μ n T) (h : nwSt μ x) (hh : hsOK μ c S) : Zs G 6 Y_X8_runCommands (fnN G (ruP T n c S μ0 k x)) 43 [(0, rf G 35), (1, .int (nI k)), (2, .int (bI false))] [] μ := by
  have hn := ht.2.1
  have hle : skS T n cu ≤ n := scL_le (g := fun k => isSp (T k)) (n - cu) cu hcu
  refine z_aload_n dX8_runCommands_43 rfl ?_
  refine z_getI dX8_runCommands_44 fl_X8_166 ⟨by decide, _, rfl, rfl⟩ h8 ?_
  refine z_aload_n dX8_runCommands_47 rfl ?_
  refine z_getI dX8_runCommands_48 fl_X8_149 ⟨by decide, _, rfl, rfl⟩ ht.1 ?_
  refine z_icmpN_ge (tgt := 87) dX8_runCommands_51 (by decide) (by omega) (by omega) (fun c51 => ?_) (fun c51 => ?_)
  · refine z_sub (lv' := [(0, _), (1, _)]) rfl ?_
    exact ex_X8_runCommands G hz ht h hh
  · refine z_iload_n dX8_runCommands_54 rfl ?_
    refine z_ifB_eq (tgt := 87) dX8_runCommands_55 (by decide) (fun c55 => ?_) (fun c55 => absurd c55 (by decide))
    refine z_sub (lv' := [(0, _), (1, _)]) rfl ?_
    exact ex_X8_runCommands G hz ht h hh
set_option maxRecDepth 100000 in
theorem lp_X8_runCommands (G : Gt) {n c : Nat} {T : Nat → Nat} {S : Nat → St} {μ0 : Mm} : ∀ (f k cu m : Nat) (x : St) (μ : Mm), k + f = 150 → k ≤ cu → cu ≤ n → μ.1 35 8 = nI (skS T n cu) → ffL T n f cu = none → sm 35 46 μ0 μ → mtOK μ n T → nwSt μ x → hsOK μ c S → μ.1 35 4 = bI true →
    Zs G 6 Y_X8_runCommands (fnN G (ruP T n c S μ0 (m + (rnL T n f cu x).1) (rnL T n f cu x).2)) 43 [(0, rf G 35), (1, .int (nI m)), (2, .int (bI true))] [] μ := by
  intro f
  induction f with
  | zero =>
    intro k cu m x μ hf hkc hcn h8 hff hz ht h hh h4
    have hn := ht.2.1
    have hge : cu ≤ skS T n cu := scL_ge (fun k => isSp (T k)) n (n - cu) cu
    have hle : skS T n cu ≤ n := scL_le (g := fun k => isSp (T k)) (n - cu) cu hcn
    refine z_aload_n dX8_runCommands_43 rfl ?_
    refine z_getI dX8_runCommands_44 fl_X8_166 ⟨by decide, _, rfl, rfl⟩ h8 ?_
    refine z_aload_n dX8_runCommands_47 rfl ?_
    refine z_getI dX8_runCommands_48 fl_X8_149 ⟨by decide, _, rfl, rfl⟩ ht.1 ?_
    refine z_icmpN_ge (tgt := 87) dX8_runCommands_51 (by decide) (by omega) (by omega) (fun c51 => ?_) (fun c51 => absurd c51 (by omega))
    refine z_sub (lv' := [(0, _), (1, _)]) rfl ?_
    exact ex_X8_runCommands G hz ht h hh
  | succ f ih =>
    intro k cu m x μ hf hkc hcn h8 hff hz ht h hh h4
    have hn := ht.2.1
    have hge : cu ≤ skS T n cu := scL_ge (fun k => isSp (T k)) n (n - cu) cu
    have hle : skS T n cu ≤ n := scL_le (g := fun k => isSp (T k)) (n - cu) cu hcn
    refine z_aload_n dX8_runCommands_43 rfl ?_
    refine z_getI dX8_runCommands_44 fl_X8_166 ⟨by decide, _, rfl, rfl⟩ h8 ?_
    refine z_aload_n dX8_runCommands_47 rfl ?_
    refine z_getI dX8_runCommands_48 fl_X8_149 ⟨by decide, _, rfl, rfl⟩ ht.1 ?_
    refine z_icmpN_ge (tgt := 87) dX8_runCommands_51 (by decide) (by omega) (by omega) (fun c51 => ?_) (fun c51 => ?_)
    · refine z_sub (lv' := [(0, _), (1, _)]) rfl ?_
      rw [rnL_e (rcN_e c51)]
      exact ex_X8_runCommands G hz ht h hh
    · refine z_iload_n dX8_runCommands_54 rfl ?_
      refine z_ifB_eq (tgt := 87) dX8_runCommands_55 (by decide) (fun c55 => absurd c55 (by decide)) (fun c55 => ?_)
      refine z_aload_n dX8_runCommands_58 rfl ?_
      refine z_cV0g dX8_runCommands_59 lk_X8_197 (by decide) ⟨by decide, _, rfl⟩ rfl (Nat.le_of_ble_eq_true rfl) (ev_X8_readsCommand G ht hcn h8 c51) ?_
      rintro v u ⟨hq, hq2⟩
      rcases hr : rcN T n cu with o | q
      · exfalso
        rcases ho : o with _ | p
        · exact rcN_nn c51 (by rw [hr, ho])
        · unfold ffL at hff; rw [hr, ho] at hff; cases hff
      · rw [hr] at hq2
        obtain ⟨rfl, r8, r9, r5, r6, r10⟩ := hq2
        obtain ⟨i, p, q, c2⟩ := q
        have hrf := rc_facts hcn hr
        have hff2 : ffL T n f c2 = none := by unfold ffL at hff; rw [hr] at hff; exact hff
        have ht2 := ht.p hq
        refine z_pop dX8_runCommands_62 rfl ?_
        refine z_aload_n dX8_runCommands_63 rfl ?_
        refine z_cV0g dX8_runCommands_64 lk_X8_219 (by decide) ⟨by decide, _, rfl⟩ rfl (Nat.le_of_ble_eq_true rfl) (ev_X8_does G (x := x) (nwOK.p' h hq) (hh.p hq) ((hq.1 35 4 (by omega)).trans h4) hrf.2.1 hrf.2.2.1 r9 hrf.1 r5 r6) ?_
        rintro v u2 ⟨d1, d2, d3⟩
        rcases hs : xqS i p q x with _ | s
        · rw [hs] at d3
          obtain ⟨rfl, d3⟩ := d3
          rw [rnL_n hr hs]
          refine z_istore_n (lv' := [(2, _), (0, _), (1, _)]) dX8_runCommands_67 rfl (by decide) rfl ?_
          refine z_iload_n dX8_runCommands_68 rfl ?_
          refine z_iload_n dX8_runCommands_69 rfl ?_
          refine z_ifB_eq (tgt := 77) dX8_runCommands_70 (by decide) (fun c70 => ?_) (fun c70 => absurd c70 (by decide))
          refine z_iconst (v := nI 0) dX8_runCommands_77 (by decide) ?_
          refine z_iaddN dX8_runCommands_78 ?_
          refine z_istore_n (lv' := [(1, _), (2, _), (0, _)]) dX8_runCommands_79 rfl (by decide) rfl ?_
          refine z_aload_n dX8_runCommands_80 rfl ?_
          refine z_cV0v dX8_runCommands_81 lk_X8_182 (by decide) ⟨by decide, _, rfl⟩ rfl (Nat.le_of_ble_eq_true rfl) (ev_X8_skips G (ht2.o d1) ((d1.1 35 8 (by omega)).trans r8) hrf.2.2.2.2) ?_
          refine z_goto (tgt := 43) dX8_runCommands_84 (by decide) ?_
          have q3 := ex2_X8_runCommands G (x := x) (S := S) (k := m + 0) hrf.2.2.2.2 (uF_s _ _ _ _) (zz3 ((hz.trans hq.z).trans d1.z) _ _) (mtOK.p (ht2.o d1) (psF.rf.u8 _)) (nwOK.p' d3 (psF.rf.u8 _)) (d2.p (psF.rf.u8 _))
          refine z_sub (lv' := [(0, _), (1, _), (2, _)]) rfl ?_
          exact q3
        · rw [hs] at d3
          obtain ⟨rfl, d3⟩ := d3
          rw [rnL_s hr hs]
          refine z_istore_n (lv' := [(2, _), (0, _), (1, _)]) dX8_runCommands_67 rfl (by decide) rfl ?_
          refine z_iload_n dX8_runCommands_68 rfl ?_
          refine z_iload_n dX8_runCommands_69 rfl ?_
          refine z_ifB_eq (tgt := 77) dX8_runCommands_70 (by decide) (fun c70 => absurd c70 (by decide)) (fun c70 => ?_)
          refine z_iconst (v := nI 1) dX8_runCommands_73 (by decide) ?_
          refine z_goto (tgt := 78) dX8_runCommands_74 (by decide) ?_
          refine z_iaddN dX8_runCommands_78 ?_
          refine z_istore_n (lv' := [(1, _), (2, _), (0, _)]) dX8_runCommands_79 rfl (by decide) rfl ?_
          refine z_aload_n dX8_runCommands_80 rfl ?_
          refine z_cV0v dX8_runCommands_81 lk_X8_182 (by decide) ⟨by decide, _, rfl⟩ rfl (Nat.le_of_ble_eq_true rfl) (ev_X8_skips G (ht2.o d1) ((d1.1 35 8 (by omega)).trans r8) hrf.2.2.2.2) ?_
          refine z_goto (tgt := 43) dX8_runCommands_84 (by decide) ?_
          have q3 := ih (k + 1) c2 (m + 1) s _ (by omega) (by omega) hrf.2.2.2.2 (uF_s _ _ _ _) hff2 (zz3 ((hz.trans hq.z).trans d1.z) _ _) (mtOK.p (ht2.o d1) (psF.rf.u8 _)) (nwOK.p' d3 (psF.rf.u8 _)) (d2.p (psF.rf.u8 _)) ((uF_n _ _ (by omega)).trans ((d1.1 35 4 (by omega)).trans ((hq.1 35 4 (by omega)).trans h4)))
          rw [show m + 1 + (rnL T n f c2 s).1 = m + ((rnL T n f c2 s).1 + 1) by omega] at q3
          refine z_sub (lv' := [(0, _), (1, _), (2, _)]) rfl ?_
          exact q3
set_option maxRecDepth 100000 in
theorem ev_X8_runCommands (G : Gt) {n c : Nat} {T : Nat → Nat} {S : Nat → St} {x : St} {μ : Mm} (h : nwSt μ x) (hh : hsOK μ c S) (ht : mtOK μ n T) (h4 : μ.1 35 4 = bI false) : EV G 6 Y_X8_runCommands [rf G 35] μ (fun v u => match ffL T n 150 0 with
    | some p => sm 35 46 μ u ∧ mtOK u n T ∧ u.1 35 4 = bI false ∧ v = some (.int (-10 - nI p)) ∧ nwSt u x ∧ hsOK u c S
    | none => ruP T n (kpC c) (kpS c S x) μ (rnL T n 150 0 x).1 (rnL T n 150 0 x).2 v u) := by
  have hn := ht.2.1
  rcases hff : ffL T n 150 0 with _ | p
  · refine ev_of (by decide) (Nat.le_of_ble_eq_true rfl) ?_
    show Zs G 6 Y_X8_runCommands (fnN G _) 0 [(0, rf G 35)] [] μ
    refine z_aload_n dX8_runCommands_0 rfl ?_
    refine z_iconst (v := nI 0) dX8_runCommands_1 (by decide) ?_
    refine z_putI dX8_runCommands_2 fp_X8_41 ⟨by decide, _, rfl, rfl⟩ ?_
    refine z_aload_n dX8_runCommands_5 rfl ?_
    refine z_cV0g dX8_runCommands_6 lk_X8_216 (by decide) ⟨by decide, _, rfl⟩ rfl (Nat.le_of_ble_eq_true rfl) (ev_X8_findsFault G (μ := uF μ 35 3 (nI 0)) ⟨(uF_n _ _ (by omega)).trans ht.1, ht.2⟩) ?_
    rintro v u ⟨f1, rfl, f3⟩
    rw [hff] at f3 ⊢
    refine z_iconst (v := -1) dX8_runCommands_9 (by decide) ?_
    refine z_icmp_eq (tgt := 21) dX8_runCommands_10 (by decide) (fun c10 => ?_) (fun c10 => absurd rfl c10)
    refine z_aload_n dX8_runCommands_21 rfl ?_
    refine z_cV0g dX8_runCommands_22 lk_X8_72 (by decide) ⟨by decide, _, rfl⟩ rfl (Nat.le_of_ble_eq_true rfl) (ev_X8_saves G (x := x) (ru := false) (nwOK.p' (h.u3 _) f1) ((hh.u3 _).p f1) ((f1.1 35 4 (by omega)).trans (f4_u3 h4 _))) ?_
    rintro v u2 ⟨rfl, s1, s2⟩
    have ht2 : mtOK u2 n T := (mtOK.p (show mtOK (uF μ 35 3 (nI 0)) n T from ⟨(uF_n _ _ (by omega)).trans ht.1, ht.2⟩) f1).o s1.o
    have hw2 : nwSt u2 x := (nwOK.p' (h.u3 _) f1).s s1
    refine z_aload_n dX8_runCommands_25 rfl ?_
    refine z_iconst (v := nI 1) dX8_runCommands_26 (by decide) ?_
    refine z_putZ dX8_runCommands_27 fp_X8_45 ⟨by decide, _, rfl, rfl⟩ rfl rfl ?_
    refine z_aload_n dX8_runCommands_30 rfl ?_
    refine z_iconst (v := nI 0) dX8_runCommands_31 (by decide) ?_
    refine z_putI dX8_runCommands_32 fp_X8_166 ⟨by decide, _, rfl, rfl⟩ ?_
    refine z_iconst (v := nI 0) dX8_runCommands_35 (by decide) ?_
    refine z_istore_n (lv' := [(1, _), (0, _)]) dX8_runCommands_36 rfl (by decide) rfl ?_
    refine z_iconst (v := nI 1) dX8_runCommands_37 (by decide) ?_
    refine z_istore_n (lv' := [(2, _), (1, _), (0, _)]) dX8_runCommands_38 rfl (by decide) rfl ?_
    refine z_aload_n dX8_runCommands_39 rfl ?_
    have ht3 : mtOK (uF (uF u2 35 4 (nI 1)) 35 8 (nI 0)) n T := ⟨(uF_n _ _ (by omega)).trans ((uF_n _ _ (by omega)).trans ht2.1), ht2.2⟩
    refine z_cV0v dX8_runCommands_40 lk_X8_182 (by decide) ⟨by decide, _, rfl⟩ rfl (Nat.le_of_ble_eq_true rfl) (ev_X8_skips G ht3 (c := 0) (uF_s _ _ _ _) (Nat.zero_le _)) ?_
    have q3 := lp_X8_runCommands G (n := n) (T := T) (c := kpC c) (S := kpS c S x) (μ0 := μ) 150 0 0 0 x _ rfl (Nat.le_refl _) (Nat.zero_le _) (uF_s _ _ _ _) hff (zz3 (zz3 (zz3 (((zz3 sm.rf 3 (nI 0)).trans f1.z).trans s1.o.z) 4 (nI 1)) 8 (nI 0)) 8 (nI (skS T n 0))) (mtOK.p ht3 (psF.rf.u8 _)) (hw2.same rfl) (s2.q ((uF_n _ _ (by omega)).trans ((uF_n _ _ (by omega)).trans (uF_n _ _ (by omega)))) rfl) ((uF_n _ _ (by omega)).trans ((uF_n _ _ (by omega)).trans (uF_s _ _ _ _)))
    rw [Nat.zero_add] at q3
    refine z_sub (lv' := [(0, _), (1, _), (2, _)]) rfl ?_
    exact q3
  · refine ev_of (by decide) (Nat.le_of_ble_eq_true rfl) ?_
    show Zs G 6 Y_X8_runCommands (fnN G _) 0 [(0, rf G 35)] [] μ
    have hpl := ff_lt (Nat.zero_le _) hff
    refine z_aload_n dX8_runCommands_0 rfl ?_
    refine z_iconst (v := nI 0) dX8_runCommands_1 (by decide) ?_
    refine z_putI dX8_runCommands_2 fp_X8_41 ⟨by decide, _, rfl, rfl⟩ ?_
    refine z_aload_n dX8_runCommands_5 rfl ?_
    refine z_cV0g dX8_runCommands_6 lk_X8_216 (by decide) ⟨by decide, _, rfl⟩ rfl (Nat.le_of_ble_eq_true rfl) (ev_X8_findsFault G (μ := uF μ 35 3 (nI 0)) ⟨(uF_n _ _ (by omega)).trans ht.1, ht.2⟩) ?_
    rintro v u ⟨f1, rfl, f3⟩
    rw [hff] at f3 ⊢
    refine z_iconst (v := -1) dX8_runCommands_9 (by decide) ?_
    refine z_icmp_eq (tgt := 21) dX8_runCommands_10 (by decide) (fun c10 => absurd c10 (nI_m1 (by omega))) (fun c10 => ?_)
    refine z_bipush (v := -10) dX8_runCommands_13 (by decide) ?_
    refine z_aload_n dX8_runCommands_15 rfl ?_
    refine z_getI dX8_runCommands_16 fl_X8_172 ⟨by decide, _, rfl, rfl⟩ f3 ?_
    refine z_isub dX8_runCommands_19 ?_
    exact z_ret (ty := none) (v := none) rfl dX8_runCommands_20 ⟨((zz3 sm.rf 3 (nI 0)).trans f1.z), mtOK.p (show mtOK (uF μ 35 3 (nI 0)) n T from ⟨(uF_n _ _ (by omega)).trans ht.1, ht.2⟩) f1, (f1.1 35 4 (by omega)).trans (f4_u3 h4 _), rfl, nwOK.p' (h.u3 _) f1, (hh.u3 _).p f1⟩
