set_option maxRecDepth 100000 in
theorem ev_X7_begin (G : Gt) {a b n c tn : Nat} {E Q : Nat → Nat} {S : Nat → St} {T : Nat → Nat} {μ : Mm} (h : zpOK μ (a, b, n, E, Q) c S tn T) {x y : Nat} (hx : 1 ≤ x) (hx6 : x ≤ 6) (hy : 1 ≤ y) (hy6 : y ≤ 6) : EV G 4 Y_X7_begin [rf G 0, .int (nI x), .int (nI y)] μ (fun v u => v = some (.int (nI (x * y))) ∧ zpOK u (x, y, 0, E, Q) (kpC c) (kpS c S (a, b, n, E, Q)) tn T ∧ smZ μ u) := by
  have hq : seqOK μ 1 a b n E Q := h.1
  have hn := hq.le
  have hg := hq.g
  have hab := ab_le hg.2.2.2.1 hg.2.2.2.2.2
  have hpw := p1024 hn
  have hpw1 := ppos n
  have i_x : isM (nI x) = true := by rw [isM_N (by omega), decide_eq_true hx, decide_eq_true hx6]; rfl
  have i_y : isM (nI y) = true := by rw [isM_N (by omega), decide_eq_true hy, decide_eq_true hy6]; rfl
  refine ev_of (by decide) (Nat.le_of_ble_eq_true rfl) ?_
  show Zs G 4 Y_X7_begin (fnN G _) 0 [(0, rf G 0), (1, .int (nI x)), (2, .int (nI y))] [] μ
  refine z_iload_n dX7_begin_0 rfl ?_
  refine z_cS1 dX7_begin_1 lk_X7_37 (by decide) (Nat.le_of_ble_eq_true rfl) (ev_X7_isModulus G) ?_
  refine z_ifB_eq (tgt := 14) dX7_begin_4 (by decide) (fun c4 => by rw [i_x] at c4; cases c4) (fun c4 => ?_)
  refine z_iload_n dX7_begin_7 rfl ?_
  refine z_cS1 dX7_begin_8 lk_X7_37 (by decide) (Nat.le_of_ble_eq_true rfl) (ev_X7_isModulus G) ?_
  refine z_ifB_ne (tgt := 24) dX7_begin_11 (by decide) (fun c11 => ?_) (fun c11 => by rw [i_y] at c11; cases c11)
  refine z_aload_n dX7_begin_24 rfl ?_
  refine z_getR (j := 5) dX7_begin_25 fl_X7_19 ⟨by decide, _, rfl, rfl⟩ ?_
  refine z_aload_n dX7_begin_28 rfl ?_
  refine z_getR (j := 1) dX7_begin_29 fl_X7_12 ⟨by decide, _, rfl, rfl⟩ ?_
  refine z_cV1g dX7_begin_32 lk_X7_48 (by decide) ⟨by decide, _, rfl⟩ rfl (Nat.le_of_ble_eq_true rfl) (ev_X3_keep G h.2.2.1 seq1 (by omega) h.1) ?_
  rintro v u ⟨rfl, hk, hh⟩
  have h2 := h.keep hk hh
  have hq2 : seqOK u 1 a b n E Q := h2.1
  have hz := hk.Z (by omega)
  refine z_aload_n dX7_begin_35 rfl ?_
  refine z_getR (j := 1) dX7_begin_36 fl_X7_12 ⟨by decide, _, rfl, rfl⟩ ?_
  refine z_iload_n dX7_begin_39 rfl ?_
  refine z_iload_n dX7_begin_40 rfl ?_
  refine z_cV2v dX7_begin_41 lk_X7_52 (by decide) ⟨by decide, _, rfl⟩ rfl (Nat.le_of_ble_eq_true rfl) (ev_X4_restart G seq1) ?_
  refine z_aload_n dX7_begin_44 rfl ?_
  refine z_getR (j := 1) dX7_begin_45 fl_X7_12 ⟨by decide, _, rfl, rfl⟩ ?_
  refine z_getR (j := 2) dX7_begin_48 fl_X7_56 ⟨by decide, _, rfl, rfl⟩ ?_
  refine z_cV0 dX7_begin_51 lk_X7_60 (by decide) ⟨by decide, _, rfl⟩ rfl (Nat.le_of_ble_eq_true rfl) (ev_X2_count G (isSeq.g seq1) (restart_ok (μ := u) E Q hx hx6 hy hy6).g) ?_
  exact z_ret (ty := none) (v := none) rfl dX7_begin_54 ⟨rfl, h2.R (smR.p (restart_sm _ _)) (h2.2.1.same (restart_sm _ _).K (by omega)) (restart_ok E Q hx hx6 hy hy6), hz.trans ((restart_sm _ _).Z (by omega))⟩
set_option maxRecDepth 100000 in
theorem ev_X7_add (G : Gt) {a b n c tn : Nat} {E Q : Nat → Nat} {S : Nat → St} {T : Nat → Nat} {μ : Mm} (h : zpOK μ (a, b, n, E, Q) c S tn T) {x : Nat} (hx : x < a * b) (hn10 : n < 10) : EV G 4 Y_X7_add [rf G 0, .int (nI x)] μ (fun v u => v = some (.int (nI n)) ∧ zpOK u (a, b, n + 1, upE E n x, upE Q n 0) (kpC c) (kpS c S (a, b, n, E, Q)) tn T ∧ smZ μ u) := by
  have hq : seqOK μ 1 a b n E Q := h.1
  have hn := hq.le
  have hg := hq.g
  have hab := ab_le hg.2.2.2.1 hg.2.2.2.2.2
  have hpw := p1024 hn
  have hpw1 := ppos n
  have i_x : inR (nI x) (a * b) = true := by rw [inR_N (by omega), decide_eq_true hx]
  refine ev_of (by decide) (Nat.le_of_ble_eq_true rfl) ?_
  show Zs G 4 Y_X7_add (fnN G _) 0 [(0, rf G 0), (1, .int (nI x))] [] μ
  refine z_aload_n dX7_add_0 rfl ?_
  refine z_getR (j := 1) dX7_add_1 fl_X7_12 ⟨by decide, _, rfl, rfl⟩ ?_
  refine z_getR (j := 2) dX7_add_4 fl_X7_56 ⟨by decide, _, rfl, rfl⟩ ?_
  refine z_iload_n dX7_add_7 rfl ?_
  refine z_cV1 dX7_add_8 lk_X7_66 (by decide) ⟨by decide, _, rfl⟩ rfl (Nat.le_of_ble_eq_true rfl) (ev_X2_has G (isSeq.g seq1) hg) ?_
  refine z_ifB_ne (tgt := 24) dX7_add_11 (by decide) (fun c11 => ?_) (fun c11 => by rw [i_x] at c11; cases c11)
  refine z_aload_n dX7_add_24 rfl ?_
  refine z_getR (j := 1) dX7_add_25 fl_X7_12 ⟨by decide, _, rfl, rfl⟩ ?_
  refine z_cV0 dX7_add_28 lk_X7_74 (by decide) ⟨by decide, _, rfl⟩ rfl (Nat.le_of_ble_eq_true rfl) (ev_X4_isFull G seq1 hq) ?_
  refine z_ifB_eq (tgt := 44) dX7_add_31 (by decide) (fun c31 => ?_) (fun c31 => absurd (of_decide_eq_true c31) (by omega))
  refine z_aload_n dX7_add_44 rfl ?_
  refine z_getR (j := 5) dX7_add_45 fl_X7_19 ⟨by decide, _, rfl, rfl⟩ ?_
  refine z_aload_n dX7_add_48 rfl ?_
  refine z_getR (j := 1) dX7_add_49 fl_X7_12 ⟨by decide, _, rfl, rfl⟩ ?_
  refine z_cV1g dX7_add_52 lk_X7_48 (by decide) ⟨by decide, _, rfl⟩ rfl (Nat.le_of_ble_eq_true rfl) (ev_X3_keep G h.2.2.1 seq1 (by omega) h.1) ?_
  rintro v u ⟨rfl, hk, hh⟩
  have h2 := h.keep hk hh
  have hq2 : seqOK u 1 a b n E Q := h2.1
  have hz := hk.Z (by omega)
  refine z_aload_n dX7_add_55 rfl ?_
  refine z_getR (j := 1) dX7_add_56 fl_X7_12 ⟨by decide, _, rfl, rfl⟩ ?_
  refine z_iload_n dX7_add_59 rfl ?_
  refine z_cV1v dX7_add_60 lk_X7_83 (by decide) ⟨by decide, _, rfl⟩ rfl (Nat.le_of_ble_eq_true rfl) (ev_X4_append G seq1 hq2 hn10) ?_
  refine z_aload_n dX7_add_63 rfl ?_
  refine z_getR (j := 1) dX7_add_64 fl_X7_12 ⟨by decide, _, rfl, rfl⟩ ?_
  refine z_getI dX7_add_67 fl_X7_87 ⟨by decide, _, rfl, rfl⟩ (uF_s _ _ _ _) ?_
  refine z_iconst (v := nI 1) dX7_add_70 (by decide) ?_
  refine z_isubN dX7_add_71 (by omega) ?_
  exact z_ret (ty := none) (v := none) rfl dX7_add_72 ⟨rfl, h2.R (smR.p (((sm.rf.uR (by omega) (by omega)).uR (by omega) (by omega)).uF (by omega) (by omega) : sm 1 5 u (uF (uR (uR u (1 + 2) n (nI x)) (1 + 3) n (nI 0)) 1 3 (nI (n + 1))))) (h2.2.1.same (sm.K (((sm.rf.uR (by omega) (by omega)).uR (by omega) (by omega)).uF (by omega) (by omega) : sm 1 5 u (uF (uR (uR u (1 + 2) n (nI x)) (1 + 3) n (nI 0)) 1 3 (nI (n + 1))))) (by omega)) (app_ok hq2 hn10 hx), hz.trans (sm.Z (((sm.rf.uR (by omega) (by omega)).uR (by omega) (by omega)).uF (by omega) (by omega) : sm 1 5 u (uF (uR (uR u (1 + 2) n (nI x)) (1 + 3) n (nI 0)) 1 3 (nI (n + 1)))) (by omega))⟩
set_option maxRecDepth 100000 in
theorem ev_X7_removeAt (G : Gt) {a b n c tn : Nat} {E Q : Nat → Nat} {S : Nat → St} {T : Nat → Nat} {μ : Mm} (h : zpOK μ (a, b, n, E, Q) c S tn T) {p : Nat} (hp : p < n) : EV G 4 Y_X7_removeAt [rf G 0, .int (nI p)] μ (fun v u => v = some (.int (nI (E p))) ∧ zpOK u (a, b, n - 1, rmN E p, rmN Q p) (kpC c) (kpS c S (a, b, n, E, Q)) tn T ∧ smZ μ u) := by
  have hq : seqOK μ 1 a b n E Q := h.1
  have hn := hq.le
  have hg := hq.g
  have hab := ab_le hg.2.2.2.1 hg.2.2.2.2.2
  have hpw := p1024 hn
  have hpw1 := ppos n
  have i_p : inR (nI p) n = true := by rw [inR_N (by omega), decide_eq_true hp]
  refine ev_of (by decide) (Nat.le_of_ble_eq_true rfl) ?_
  show Zs G 4 Y_X7_removeAt (fnN G _) 0 [(0, rf G 0), (1, .int (nI p))] [] μ
  refine z_aload_n dX7_removeAt_0 rfl ?_
  refine z_getR (j := 1) dX7_removeAt_1 fl_X7_12 ⟨by decide, _, rfl, rfl⟩ ?_
  refine z_iload_n dX7_removeAt_4 rfl ?_
  refine z_cV1 dX7_removeAt_5 lk_X7_91 (by decide) ⟨by decide, _, rfl⟩ rfl (Nat.le_of_ble_eq_true rfl) (ev_X4_hasPlace G seq1 hq) ?_
  refine z_ifB_ne (tgt := 21) dX7_removeAt_8 (by decide) (fun c8 => ?_) (fun c8 => by rw [i_p] at c8; cases c8)
  refine z_aload_n dX7_removeAt_21 rfl ?_
  refine z_getR (j := 5) dX7_removeAt_22 fl_X7_19 ⟨by decide, _, rfl, rfl⟩ ?_
  refine z_aload_n dX7_removeAt_25 rfl ?_
  refine z_getR (j := 1) dX7_removeAt_26 fl_X7_12 ⟨by decide, _, rfl, rfl⟩ ?_
  refine z_cV1g dX7_removeAt_29 lk_X7_48 (by decide) ⟨by decide, _, rfl⟩ rfl (Nat.le_of_ble_eq_true rfl) (ev_X3_keep G h.2.2.1 seq1 (by omega) h.1) ?_
  rintro v u ⟨rfl, hk, hh⟩
  have h2 := h.keep hk hh
  have hq2 : seqOK u 1 a b n E Q := h2.1
  have hz := hk.Z (by omega)
  refine z_aload_n dX7_removeAt_32 rfl ?_
  refine z_getR (j := 1) dX7_removeAt_33 fl_X7_12 ⟨by decide, _, rfl, rfl⟩ ?_
  refine z_iload_n dX7_removeAt_36 rfl ?_
  refine z_cV1g dX7_removeAt_37 lk_X7_96 (by decide) ⟨by decide, _, rfl⟩ rfl (Nat.le_of_ble_eq_true rfl) (ev_X4_takeOut G seq1 hq2 hp) ?_
  rintro v u2 ⟨rfl, hs, hq3⟩
  exact z_ret (ty := none) (v := none) rfl dX7_removeAt_40 ⟨rfl, h2.R (smR.p hs) (h2.2.1.same hs.K (by omega)) hq3, hz.trans (hs.Z (by omega))⟩
set_option maxRecDepth 100000 in
theorem ev_X7_lay (G : Gt) {a b n c tn : Nat} {E Q : Nat → Nat} {S : Nat → St} {T : Nat → Nat} {μ : Mm} (h : zpOK μ (a, b, n, E, Q) c S tn T) {p y : Nat} (hp : p < n) (hy : y < 6) : EV G 4 Y_X7_lay [rf G 0, .int (nI p), .int (nI y)] μ (fun v u => v = some (.int (nI (Q p))) ∧ zpOK u (a, b, n, E, upE Q p y) (kpC c) (kpS c S (a, b, n, E, Q)) tn T ∧ smZ μ u) := by
  have hq : seqOK μ 1 a b n E Q := h.1
  have hn := hq.le
  have hg := hq.g
  have hab := ab_le hg.2.2.2.1 hg.2.2.2.2.2
  have hpw := p1024 hn
  have hpw1 := ppos n
  have i_p : inR (nI p) n = true := by rw [inR_N (by omega), decide_eq_true hp]
  have i_y : inR (nI y) 6 = true := by rw [inR_N (by omega), decide_eq_true hy]
  refine ev_of (by decide) (Nat.le_of_ble_eq_true rfl) ?_
  show Zs G 4 Y_X7_lay (fnN G _) 0 [(0, rf G 0), (1, .int (nI p)), (2, .int (nI y))] [] μ
  refine z_aload_n dX7_lay_0 rfl ?_
  refine z_getR (j := 1) dX7_lay_1 fl_X7_12 ⟨by decide, _, rfl, rfl⟩ ?_
  refine z_iload_n dX7_lay_4 rfl ?_
  refine z_cV1 dX7_lay_5 lk_X7_91 (by decide) ⟨by decide, _, rfl⟩ rfl (Nat.le_of_ble_eq_true rfl) (ev_X4_hasPlace G seq1 hq) ?_
  refine z_ifB_ne (tgt := 21) dX7_lay_8 (by decide) (fun c8 => ?_) (fun c8 => by rw [i_p] at c8; cases c8)
  refine z_iload_n dX7_lay_21 rfl ?_
  refine z_cS1 dX7_lay_22 lk_X7_100 (by decide) (Nat.le_of_ble_eq_true rfl) (ev_X7_isPart G) ?_
  refine z_ifB_ne (tgt := 38) dX7_lay_25 (by decide) (fun c25 => ?_) (fun c25 => by rw [i_y] at c25; cases c25)
  refine z_aload_n dX7_lay_38 rfl ?_
  refine z_getR (j := 5) dX7_lay_39 fl_X7_19 ⟨by decide, _, rfl, rfl⟩ ?_
  refine z_aload_n dX7_lay_42 rfl ?_
  refine z_getR (j := 1) dX7_lay_43 fl_X7_12 ⟨by decide, _, rfl, rfl⟩ ?_
  refine z_cV1g dX7_lay_46 lk_X7_48 (by decide) ⟨by decide, _, rfl⟩ rfl (Nat.le_of_ble_eq_true rfl) (ev_X3_keep G h.2.2.1 seq1 (by omega) h.1) ?_
  rintro v u ⟨rfl, hk, hh⟩
  have h2 := h.keep hk hh
  have hq2 : seqOK u 1 a b n E Q := h2.1
  have hz := hk.Z (by omega)
  refine z_aload_n dX7_lay_49 rfl ?_
  refine z_getR (j := 1) dX7_lay_50 fl_X7_12 ⟨by decide, _, rfl, rfl⟩ ?_
  refine z_getR (j := 4) dX7_lay_53 fl_X7_105 ⟨by decide, _, rfl, rfl⟩ ?_
  refine z_iload_n dX7_lay_56 rfl ?_
  refine z_ialdN dX7_lay_57 ⟨by decide, rfl⟩ (by omega) (by decide) (hq2.p hp) ?_
  refine z_istore_n (lv' := [(3, _), (0, _), (1, _), (2, _)]) dX7_lay_58 rfl (by decide) rfl ?_
  refine z_aload_n dX7_lay_59 rfl ?_
  refine z_getR (j := 1) dX7_lay_60 fl_X7_12 ⟨by decide, _, rfl, rfl⟩ ?_
  refine z_getR (j := 4) dX7_lay_63 fl_X7_105 ⟨by decide, _, rfl, rfl⟩ ?_
  refine z_iload_n dX7_lay_66 rfl ?_
  refine z_iload_n dX7_lay_67 rfl ?_
  refine z_iastN dX7_lay_68 ⟨by decide, rfl⟩ (by omega) (by decide) ?_
  refine z_iload_n dX7_lay_69 rfl ?_
  exact z_ret (ty := none) (v := none) rfl dX7_lay_70 ⟨rfl, h2.R (smR.p (sm.rf.uR (by omega) (by omega) : sm 1 5 u (uR u 4 p (nI y)))) (h2.2.1.same (sm.K (sm.rf.uR (by omega) (by omega) : sm 1 5 u (uR u 4 p (nI y)))) (by omega)) (lay_ok hq2 hp hy), hz.trans (sm.Z (sm.rf.uR (by omega) (by omega) : sm 1 5 u (uR u 4 p (nI y))) (by omega))⟩
set_option maxRecDepth 100000 in
theorem ev_X7_laySplit (G : Gt) {a b n c tn : Nat} {E Q : Nat → Nat} {S : Nat → St} {T : Nat → Nat} {μ : Mm} (h : zpOK μ (a, b, n, E, Q) c S tn T) {M : Nat} (hm : spO a b n E = some M) (hM : M ≤ 6) : EV G 6 Y_X7_laySplit [rf G 0] μ (fun v u => v = some (.int (nI M)) ∧ zpOK u (a, b, n, E, lsL a b n E M 0 (2 ^ n - 1) Q) (kpC c) (kpS c S (a, b, n, E, Q)) tn T ∧ smZ μ u) := by
  have hq : seqOK μ 1 a b n E Q := h.1
  have hn := hq.le
  have hg := hq.g
  have hab := ab_le hg.2.2.2.1 hg.2.2.2.2.2
  have hpw := p1024 hn
  have hpw1 := ppos n
  have i_c : clN a b n E = true := by unfold clN; rw [hm]; exact decide_eq_true hM
  refine ev_of (by decide) (Nat.le_of_ble_eq_true rfl) ?_
  show Zs G 6 Y_X7_laySplit (fnN G _) 0 [(0, rf G 0)] [] μ
  refine z_aload_n dX7_laySplit_0 rfl ?_
  refine z_cV0g dX7_laySplit_1 lk_X7_109 (by decide) ⟨by decide, _, rfl⟩ rfl (Nat.le_of_ble_eq_true rfl) (ev_X7_canLaySplit G hq h.2.1) ?_
  rintro v u0 ⟨rfl, hs0, ht0⟩
  have h := h.q hs0 ht0
  refine z_ifB_ne (tgt := 17) dX7_laySplit_4 (by decide) (fun c4 => ?_) (fun c4 => by rw [i_c] at c4; cases c4)
  refine z_aload_n dX7_laySplit_17 rfl ?_
  refine z_getR (j := 5) dX7_laySplit_18 fl_X7_19 ⟨by decide, _, rfl, rfl⟩ ?_
  refine z_aload_n dX7_laySplit_21 rfl ?_
  refine z_getR (j := 1) dX7_laySplit_22 fl_X7_12 ⟨by decide, _, rfl, rfl⟩ ?_
  refine z_cV1g dX7_laySplit_25 lk_X7_48 (by decide) ⟨by decide, _, rfl⟩ rfl (Nat.le_of_ble_eq_true rfl) (ev_X3_keep G h.2.2.1 seq1 (by omega) h.1) ?_
  rintro v u ⟨rfl, hk, hh⟩
  have h2 := h.keep hk hh
  have hq2 : seqOK u 1 a b n E Q := h2.1
  have hz := hk.Z (by omega)
  refine z_aload_n dX7_laySplit_28 rfl ?_
  refine z_cV0g dX7_laySplit_29 lk_X7_114 (by decide) ⟨by decide, _, rfl⟩ rfl (Nat.le_of_ble_eq_true rfl) (ev_X7_laySplitNow G hq2 h2.2.1 hm hM) ?_
  rintro v u2 ⟨rfl, hl, hq3, ht3⟩
  exact z_ret (ty := none) (v := none) rfl dX7_laySplit_32 ⟨rfl, h2.R hl.R ht3 hq3, (hs0.Z (by omega)).trans (hz.trans hl.R.Z)⟩
theorem type_ok {μ : Mm} {n x : Nat} {T : Nat → Nat} (h : txOK μ n T) (hn : n < 150) (hx : x < 128) : txOK (uF (uR μ 34 n (nI x)) 33 1 (nI (n + 1))) (n + 1) (upE T n x) := by
  refine ⟨uF_s _ _ _ _, by omega, fun k hk => ?_⟩
  rw [show (uF (uR μ 34 n (nI x)) 33 1 (nI (n + 1))).2.1 34 = upd (μ.2.1 34) n (nI x) from uR_s _ _ _ _]
  unfold upE
  by_cases e : k = n
  · subst e; rw [upd_s, if_pos rfl]; exact ⟨rfl, hx⟩
  · rw [upd_n _ _ e, if_neg e]; exact h.2.2 k (by omega)
theorem zpOK.t {μ u : Mm} {x : St} {c : Nat} {S : Nat → St} {tn tn' : Nat} {T T' : Nat → Nat} (h : zpOK μ x c S tn T) (hs : sm 33 35 μ u) (ht : txOK u tn' T') : zpOK u x c S tn' T' := ⟨h.1.same hs (by omega), h.2.1.same hs.K (by omega), h.2.2.1.same hs (by omega), ht⟩
set_option maxRecDepth 100000 in
theorem ev_X7_type (G : Gt) {a b n c tn : Nat} {E Q : Nat → Nat} {S : Nat → St} {T : Nat → Nat} {μ : Mm} (h : zpOK μ (a, b, n, E, Q) c S tn T) {x : Nat} (hx : x < 128) (htn : tn < 150) : EV G 3 Y_X7_type [rf G 0, .int (nI x)] μ (fun v u => v = some (.int (nI (tn + 1))) ∧ zpOK u (a, b, n, E, Q) c S (tn + 1) (upE T tn x) ∧ smZ μ u) := by
  have hq : seqOK μ 1 a b n E Q := h.1
  have hn := hq.le
  have hg := hq.g
  have hab := ab_le hg.2.2.2.1 hg.2.2.2.2.2
  have hpw := p1024 hn
  have hpw1 := ppos n
  refine ev_of (by decide) (Nat.le_of_ble_eq_true rfl) ?_
  show Zs G 3 Y_X7_type (fnN G _) 0 [(0, rf G 0), (1, .int (nI x))] [] μ
  refine z_iload_n dX7_type_0 rfl ?_
  refine z_ifN_lt (tgt := 10) dX7_type_1 (by decide) (by omega) ?_
  refine z_iload_n dX7_type_4 rfl ?_
  refine z_bipush (v := nI 127) dX7_type_5 (by decide) ?_
  refine z_icmpN_le (tgt := 20) dX7_type_7 (by decide) (by omega) (by omega) (fun c7 => ?_) (fun c7 => absurd c7 (by omega))
  refine z_aload_n dX7_type_20 rfl ?_
  refine z_getR (j := 33) dX7_type_21 fl_X7_33 ⟨by decide, _, rfl, rfl⟩ ?_
  refine z_getI dX7_type_24 fl_X7_222 ⟨by decide, _, rfl, rfl⟩ h.2.2.2.n ?_
  refine z_sipush (v := nI 150) dX7_type_27 (by decide) ?_
  refine z_icmpN_lt (tgt := 43) dX7_type_30 (by decide) (by omega) (by omega) (fun c30 => ?_) (fun c30 => absurd c30 (by omega))
  refine z_aload_n dX7_type_43 rfl ?_
  refine z_getR (j := 33) dX7_type_44 fl_X7_33 ⟨by decide, _, rfl, rfl⟩ ?_
  refine z_iload_n dX7_type_47 rfl ?_
  refine z_cV1v dX7_type_48 lk_X7_249 (by decide) ⟨by decide, _, rfl⟩ rfl (Nat.le_of_ble_eq_true rfl) (ev_X1_append G h.2.2.2 htn) ?_
  refine z_aload_n dX7_type_51 rfl ?_
  refine z_getR (j := 33) dX7_type_52 fl_X7_33 ⟨by decide, _, rfl, rfl⟩ ?_
  refine z_getI dX7_type_55 fl_X7_222 ⟨by decide, _, rfl, rfl⟩ (uF_s _ _ _ _) ?_
  exact z_ret (ty := none) (v := none) rfl dX7_type_58 ⟨rfl, h.t ((sm.rf.uR (by omega) (by omega)).uF (by omega) (by omega) : sm 33 35 μ (uF (uR μ 34 tn (nI x)) 33 1 (nI (tn + 1)))) (type_ok h.2.2.2 htn hx), sm.Z ((sm.rf.uR (by omega) (by omega)).uF (by omega) (by omega) : sm 33 35 μ (uF (uR μ 34 tn (nI x)) 33 1 (nI (tn + 1)))) (by omega)⟩
set_option maxRecDepth 100000 in
theorem ev_X7_clearCommands (G : Gt) {a b n c tn : Nat} {E Q : Nat → Nat} {S : Nat → St} {T : Nat → Nat} {μ : Mm} (h : zpOK μ (a, b, n, E, Q) c S tn T) : EV G 1 Y_X7_clearCommands [rf G 0] μ (fun v u => v = some (.int (nI tn)) ∧ zpOK u (a, b, n, E, Q) c S 0 T ∧ smZ μ u) := by
  have hq : seqOK μ 1 a b n E Q := h.1
  have hn := hq.le
  have hg := hq.g
  have hab := ab_le hg.2.2.2.1 hg.2.2.2.2.2
  have hpw := p1024 hn
  have hpw1 := ppos n
  refine ev_of (by decide) (Nat.le_of_ble_eq_true rfl) ?_
  show Zs G 1 Y_X7_clearCommands (fnN G _) 0 [(0, rf G 0)] [] μ
  refine z_aload_n dX7_clearCommands_0 rfl ?_
  refine z_getR (j := 33) dX7_clearCommands_1 fl_X7_33 ⟨by decide, _, rfl, rfl⟩ ?_
  refine z_getI dX7_clearCommands_4 fl_X7_222 ⟨by decide, _, rfl, rfl⟩ h.2.2.2.n ?_
  refine z_istore_n (lv' := [(1, _), (0, _)]) dX7_clearCommands_7 rfl (by decide) rfl ?_
  refine z_aload_n dX7_clearCommands_8 rfl ?_
  refine z_getR (j := 33) dX7_clearCommands_9 fl_X7_33 ⟨by decide, _, rfl, rfl⟩ ?_
  refine z_iconst (v := nI 0) dX7_clearCommands_12 (by decide) ?_
  refine z_putI dX7_clearCommands_13 fp_X7_222 ⟨by decide, _, rfl, rfl⟩ ?_
  refine z_iload_n dX7_clearCommands_16 rfl ?_
  exact z_ret (ty := none) (v := none) rfl dX7_clearCommands_17 ⟨rfl, h.t (sm.rf.uF (by omega) (by omega) : sm 33 35 μ (uF μ 33 1 (nI 0))) ⟨uF_s _ _ _ _, by omega, fun k hk => by omega⟩, sm.Z (sm.rf.uF (by omega) (by omega) : sm 33 35 μ (uF μ 33 1 (nI 0))) (by omega)⟩
set_option maxRecDepth 100000 in
theorem ev_X7_undo (G : Gt) {x : St} {c tn : Nat} {S : Nat → St} {T : Nat → Nat} {μ : Mm} (h : zpOK μ x (c + 1) S tn T) : EV G 4 Y_X7_undo [rf G 0] μ (fun v u => v = some (.int (nI c)) ∧ zpOK u (S c) c S tn T ∧ smZ μ u) := by
  have hc4 := h.2.2.1.2.1
  refine ev_of (by decide) (Nat.le_of_ble_eq_true rfl) ?_
  show Zs G 4 Y_X7_undo (fnN G _) 0 [(0, rf G 0)] [] μ
  refine z_aload_n dX7_undo_0 rfl ?_
  refine z_getR (j := 5) dX7_undo_1 fl_X7_19 ⟨by decide, _, rfl, rfl⟩ ?_
  refine z_getI dX7_undo_4 fl_X7_267 ⟨by decide, _, rfl, rfl⟩ h.2.2.1.1 ?_
  refine z_ifN_ne (tgt := 21) dX7_undo_7 (by decide) (by omega) (fun c7 => ?_) (fun c7 => absurd c7 (by omega))
  refine z_aload_n dX7_undo_21 rfl ?_
  refine z_getR (j := 5) dX7_undo_22 fl_X7_19 ⟨by decide, _, rfl, rfl⟩ ?_
  refine z_aload_n dX7_undo_25 rfl ?_
  refine z_getR (j := 1) dX7_undo_26 fl_X7_12 ⟨by decide, _, rfl, rfl⟩ ?_
  refine z_cV1g dX7_undo_29 lk_X7_271 (by decide) ⟨by decide, _, rfl⟩ rfl (Nat.le_of_ble_eq_true rfl) (ev_X3_bringBack G h.2.2.1) ?_
  rintro v u ⟨rfl, hs, hh, hq⟩
  refine z_aload_n dX7_undo_32 rfl ?_
  refine z_getR (j := 5) dX7_undo_33 fl_X7_19 ⟨by decide, _, rfl, rfl⟩ ?_
  refine z_getI dX7_undo_36 fl_X7_267 ⟨by decide, _, rfl, rfl⟩ hh.1 ?_
  exact z_ret (ty := none) (v := none) rfl dX7_undo_39 ⟨rfl, ⟨hq, h.2.1.same hs (by omega), hh, h.2.2.2.same hs (by omega)⟩, hs.Z (by omega)⟩
