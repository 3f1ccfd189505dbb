/-- the sequence and the table are changed alone -/
def smR (μ u : Mm) : Prop := (∀ i : Nat, i < 1 ∨ (5 ≤ i ∧ i < 23) ∨ 33 ≤ i → (∀ k : Nat, u.1 i k = μ.1 i k) ∧ u.2.1 i = μ.2.1 i) ∧ u.2.2 = μ.2.2
theorem smR.rf {μ : Mm} : smR μ μ := ⟨fun _ _ => ⟨fun _ => rfl, rfl⟩, rfl⟩
theorem smR.trans {μ u u2 : Mm} (h : smR μ u) (h2 : smR u u2) : smR μ u2 := ⟨fun i hi => ⟨fun k => ((h2.1 i hi).1 k).trans ((h.1 i hi).1 k), (h2.1 i hi).2.trans (h.1 i hi).2⟩, h2.2.trans h.2⟩
theorem smR.t {μ u : Mm} (h : sm 23 33 μ u) : smR μ u := ⟨fun i hi => h.1 i (by omega), h.2⟩
theorem smR.p {μ u : Mm} (h : sm 1 5 μ u) : smR μ u := ⟨fun i hi => h.1 i (by omega), h.2⟩
theorem smL.R {μ u : Mm} (h : smL μ u) : smR μ u := ⟨fun i hi => h.1 i (by omega) (by omega), h.2⟩
theorem smR.split {μ u : Mm} (h : smR μ u) : ∃ m, sm 1 5 μ m ∧ sm 23 33 m u := by
  refine ⟨((fun i k => if 1 ≤ i ∧ i < 5 then u.1 i k else μ.1 i k), (fun i => if 1 ≤ i ∧ i < 5 then u.2.1 i else μ.2.1 i), μ.2.2), ⟨fun i hi => ⟨fun k => if_neg (by omega), if_neg (by omega)⟩, rfl⟩, ⟨fun i hi => ⟨fun k => ?_, ?_⟩, h.2⟩⟩
  · by_cases e : 1 ≤ i ∧ i < 5
    · exact (if_pos e).symm
    · exact ((h.1 i (by omega)).1 k).trans (if_neg e).symm
  · by_cases e : 1 ≤ i ∧ i < 5
    · exact (if_pos e).symm
    · exact (h.1 i (by omega)).2.trans (if_neg e).symm
theorem histOK.R {μ u : Mm} {c : Nat} {S : Nat → St} (h : histOK μ c S) (hr : smR μ u) : histOK u c S := by
  obtain ⟨m, h1, h2⟩ := hr.split
  exact (h.same h1 (by omega)).same h2 (by omega)
theorem txOK.R {μ u : Mm} {n : Nat} {T : Nat → Nat} (h : txOK μ n T) (hr : smR μ u) : txOK u n T := by
  obtain ⟨m, h1, h2⟩ := hr.split
  exact (h.same h1.K (by omega)).same h2.K (by omega)
theorem smR.Z {μ u : Mm} (h : smR μ u) : smZ μ u := ⟨fun i hi => h.1 i (by omega), by rw [h.2]⟩
/-- what a command does to a state; none: it is refused -/
def xqS (i x y : Nat) (s : St) : Option St := match s with
  | (a, b, n, E, Q) => match i with
    | 0 => if isM (nI x) = true ∧ isM (nI y) = true then some (x, y, 0, E, Q) else none
    | 1 => if x < a * b ∧ n < 10 then some (a, b, n + 1, upE E n x, upE Q n 0) else none
    | 2 => if x < n then some (a, b, n - 1, rmN E x, rmN Q x) else none
    | 3 => if x < n ∧ y < 6 then some (a, b, n, E, upE Q x y) else none
    | _ => if clN a b n E = true then some (a, b, n, E, lsL a b n E ((spO a b n E).getD 0) 0 (2 ^ n - 1) Q) else none
theorem isM_of {x : Nat} (hx : x < 2 ^ 31) (h : isM (nI x) = true) : 1 ≤ x ∧ x ≤ 6 := by
  rw [isM_N hx, Bool.and_eq_true, decide_eq_true_eq, decide_eq_true_eq] at h; exact h
theorem cl_of {a b n : Nat} {E : Nat → Nat} (h : clN a b n E = true) : ∃ M, spO a b n E = some M ∧ M ≤ 6 := by
  unfold clN at h
  cases e : spO a b n E with
  | none => rw [e] at h; cases h
  | some M => rw [e] at h; exact ⟨M, rfl, of_decide_eq_true h⟩
set_option maxRecDepth 100000 in
theorem ev_X7_runGroup (G : Gt) {a b n x y : Nat} {E Q : Nat → Nat} {μ : Mm} (hq : seqOK μ 1 a b n E Q) (ht : tabX μ) (hx : x < 100) (hy : y < 100) : EV G 2 Y_X7_runGroup [rf G 0, .int (nI x), .int (nI y)] μ (fun v u => smR μ u ∧ tabX u ∧ match xqS 0 x y (a, b, n, E, Q) with | some s => v = some (.int (bI true)) ∧ seqSt u 1 s | none => v = some (.int (bI false)) ∧ seqSt u 1 (a, b, n, E, Q)) := by
  have hn := hq.le
  have hg := hq.g
  have hab := ab_le hg.2.2.2.1 hg.2.2.2.2.2
  have hE : okE a b E n := fun k hk => hq.el hk
  have hpw := p1024 hn
  have hpw1 := ppos n
  refine ev_of (by decide) (Nat.le_of_ble_eq_true rfl) ?_
  show Zs G 2 Y_X7_runGroup (fnN G _) 0 [(0, rf G 0), (1, .int (nI x)), (2, .int (nI y))] [] μ
  refine z_iload_n dX7_runGroup_0 rfl ?_
  refine z_cS1 dX7_runGroup_1 lk_X7_37 (by decide) (Nat.le_of_ble_eq_true rfl) (ev_X7_isModulus G) ?_
  refine z_ifB_eq (tgt := 14) dX7_runGroup_4 (by decide) (fun c4 => ?_) (fun c4 => ?_)
  · refine z_iconst (v := nI 0) dX7_runGroup_14 (by decide) ?_
    exact z_zret rfl rfl dX7_runGroup_15 ⟨smR.rf, ht, by rw [show xqS 0 x y (a, b, n, E, Q) = none from if_neg (fun q => by rw [c4] at q; cases q.1)]; exact ⟨rfl, hq⟩⟩
  · refine z_iload_n dX7_runGroup_7 rfl ?_
    refine z_cS1 dX7_runGroup_8 lk_X7_37 (by decide) (Nat.le_of_ble_eq_true rfl) (ev_X7_isModulus G) ?_
    refine z_ifB_ne (tgt := 16) dX7_runGroup_11 (by decide) (fun c11 => ?_) (fun c11 => ?_)
    · have k1 := isM_of (by omega) c4
      have k2 := isM_of (by omega) c11
      refine z_aload_n dX7_runGroup_16 rfl ?_
      refine z_getR (j := 1) dX7_runGroup_17 fl_X7_12 ⟨by decide, _, rfl, rfl⟩ ?_
      refine z_iload_n dX7_runGroup_20 rfl ?_
      refine z_iload_n dX7_runGroup_21 rfl ?_
      refine z_cV2v dX7_runGroup_22 lk_X7_52 (by decide) ⟨by decide, _, rfl⟩ rfl (Nat.le_of_ble_eq_true rfl) (ev_X4_restart G seq1) ?_
      refine z_iconst (v := nI 1) dX7_runGroup_25 (by decide) ?_
      exact z_zret rfl rfl dX7_runGroup_26 ⟨smR.p (restart_sm _ _), ht.same (restart_sm _ _).K (by omega), by rw [show xqS 0 x y (a, b, n, E, Q) = some (x, y, 0, E, Q) from if_pos ⟨c4, c11⟩]; exact ⟨rfl, restart_ok E Q k1.1 k1.2 k2.1 k2.2⟩⟩
    · refine z_iconst (v := nI 0) dX7_runGroup_14 (by decide) ?_
      exact z_zret rfl rfl dX7_runGroup_15 ⟨smR.rf, ht, by rw [show xqS 0 x y (a, b, n, E, Q) = none from if_neg (fun q => by rw [c11] at q; cases q.2)]; exact ⟨rfl, hq⟩⟩
set_option maxRecDepth 100000 in
theorem ev_X7_runAdd (G : Gt) {a b n x y : Nat} {E Q : Nat → Nat} {μ : Mm} (hq : seqOK μ 1 a b n E Q) (ht : tabX μ) (hx : x < 100) (hy : y < 100) : EV G 2 Y_X7_runAdd [rf G 0, .int (nI x)] μ (fun v u => smR μ u ∧ tabX u ∧ match xqS 1 x y (a, b, n, E, Q) with | some s => v = some (.int (bI true)) ∧ seqSt u 1 s | none => v = some (.int (bI false)) ∧ seqSt u 1 (a, b, n, E, Q)) := by
  have hn := hq.le
  have hg := hq.g
  have hab := ab_le hg.2.2.2.1 hg.2.2.2.2.2
  have hE : okE a b E n := fun k hk => hq.el hk
  have hpw := p1024 hn
  have hpw1 := ppos n
  refine ev_of (by decide) (Nat.le_of_ble_eq_true rfl) ?_
  show Zs G 2 Y_X7_runAdd (fnN G _) 0 [(0, rf G 0), (1, .int (nI x))] [] μ
  refine z_aload_n dX7_runAdd_0 rfl ?_
  refine z_getR (j := 1) dX7_runAdd_1 fl_X7_12 ⟨by decide, _, rfl, rfl⟩ ?_
  refine z_getR (j := 2) dX7_runAdd_4 fl_X7_56 ⟨by decide, _, rfl, rfl⟩ ?_
  refine z_iload_n dX7_runAdd_7 rfl ?_
  refine z_cV1 dX7_runAdd_8 lk_X7_66 (by decide) ⟨by decide, _, rfl⟩ rfl (Nat.le_of_ble_eq_true rfl) (ev_X2_has G (isSeq.g seq1) hg) ?_
  rw [inR_N (show x < 2 ^ 31 by omega)]
  refine z_ifB_eq (tgt := 24) dX7_runAdd_11 (by decide) (fun c11 => ?_) (fun c11 => ?_)
  · refine z_iconst (v := nI 0) dX7_runAdd_24 (by decide) ?_
    exact z_zret rfl rfl dX7_runAdd_25 ⟨smR.rf, ht, by rw [show xqS 1 x y (a, b, n, E, Q) = none from if_neg (fun q => by rw [decide_eq_true q.1] at c11; cases c11)]; exact ⟨rfl, hq⟩⟩
  · refine z_aload_n dX7_runAdd_14 rfl ?_
    refine z_getR (j := 1) dX7_runAdd_15 fl_X7_12 ⟨by decide, _, rfl, rfl⟩ ?_
    refine z_cV0 dX7_runAdd_18 lk_X7_74 (by decide) ⟨by decide, _, rfl⟩ rfl (Nat.le_of_ble_eq_true rfl) (ev_X4_isFull G seq1 hq) ?_
    refine z_ifB_eq (tgt := 26) dX7_runAdd_21 (by decide) (fun c21 => ?_) (fun c21 => ?_)
    · have k1 := of_decide_eq_true c11
      have k2 : n < 10 := by have := of_decide_eq_false c21; omega
      refine z_aload_n dX7_runAdd_26 rfl ?_
      refine z_getR (j := 1) dX7_runAdd_27 fl_X7_12 ⟨by decide, _, rfl, rfl⟩ ?_
      refine z_iload_n dX7_runAdd_30 rfl ?_
      refine z_cV1v dX7_runAdd_31 lk_X7_83 (by decide) ⟨by decide, _, rfl⟩ rfl (Nat.le_of_ble_eq_true rfl) (ev_X4_append G seq1 hq k2) ?_
      refine z_iconst (v := nI 1) dX7_runAdd_34 (by decide) ?_
      exact z_zret rfl rfl dX7_runAdd_35 ⟨smR.p (((sm.rf.uR (by omega) (by omega)).uR (by omega) (by omega)).uF (by omega) (by omega) : sm 1 5 μ (uF (uR (uR μ (1 + 2) n (nI x)) (1 + 3) n (nI 0)) 1 3 (nI (n + 1)))), ht.same (sm.K (((sm.rf.uR (by omega) (by omega)).uR (by omega) (by omega)).uF (by omega) (by omega) : sm 1 5 μ (uF (uR (uR μ (1 + 2) n (nI x)) (1 + 3) n (nI 0)) 1 3 (nI (n + 1))))) (by omega), by rw [show xqS 1 x y (a, b, n, E, Q) = some (a, b, n + 1, upE E n x, upE Q n 0) from if_pos ⟨k1, k2⟩]; exact ⟨rfl, app_ok hq k2 k1⟩⟩
    · refine z_iconst (v := nI 0) dX7_runAdd_24 (by decide) ?_
      exact z_zret rfl rfl dX7_runAdd_25 ⟨smR.rf, ht, by rw [show xqS 1 x y (a, b, n, E, Q) = none from if_neg (fun q => by have := of_decide_eq_true c21; omega)]; exact ⟨rfl, hq⟩⟩
set_option maxRecDepth 100000 in
theorem ev_X7_runMinus (G : Gt) {a b n x y : Nat} {E Q : Nat → Nat} {μ : Mm} (hq : seqOK μ 1 a b n E Q) (ht : tabX μ) (hx : x < 100) (hy : y < 100) : EV G 2 Y_X7_runMinus [rf G 0, .int (nI x)] μ (fun v u => smR μ u ∧ tabX u ∧ match xqS 2 x y (a, b, n, E, Q) with | some s => v = some (.int (bI true)) ∧ seqSt u 1 s | none => v = some (.int (bI false)) ∧ seqSt u 1 (a, b, n, E, Q)) := by
  have hn := hq.le
  have hg := hq.g
  have hab := ab_le hg.2.2.2.1 hg.2.2.2.2.2
  have hE : okE a b E n := fun k hk => hq.el hk
  have hpw := p1024 hn
  have hpw1 := ppos n
  refine ev_of (by decide) (Nat.le_of_ble_eq_true rfl) ?_
  show Zs G 2 Y_X7_runMinus (fnN G _) 0 [(0, rf G 0), (1, .int (nI x))] [] μ
  refine z_aload_n dX7_runMinus_0 rfl ?_
  refine z_getR (j := 1) dX7_runMinus_1 fl_X7_12 ⟨by decide, _, rfl, rfl⟩ ?_
  refine z_iload_n dX7_runMinus_4 rfl ?_
  refine z_cV1 dX7_runMinus_5 lk_X7_91 (by decide) ⟨by decide, _, rfl⟩ rfl (Nat.le_of_ble_eq_true rfl) (ev_X4_hasPlace G seq1 hq) ?_
  rw [inR_N (show x < 2 ^ 31 by omega)]
  refine z_ifB_ne (tgt := 13) dX7_runMinus_8 (by decide) (fun c8 => ?_) (fun c8 => ?_)
  · have k1 := of_decide_eq_true c8
    refine z_aload_n dX7_runMinus_13 rfl ?_
    refine z_getR (j := 1) dX7_runMinus_14 fl_X7_12 ⟨by decide, _, rfl, rfl⟩ ?_
    refine z_iload_n dX7_runMinus_17 rfl ?_
    refine z_cV1g dX7_runMinus_18 lk_X7_96 (by decide) ⟨by decide, _, rfl⟩ rfl (Nat.le_of_ble_eq_true rfl) (ev_X4_takeOut G seq1 hq k1) ?_
    rintro v u ⟨rfl, hs, hq2⟩
    refine z_pop dX7_runMinus_21 rfl ?_
    refine z_iconst (v := nI 1) dX7_runMinus_22 (by decide) ?_
    exact z_zret rfl rfl dX7_runMinus_23 ⟨smR.p hs, ht.same hs.K (by omega), by rw [show xqS 2 x y (a, b, n, E, Q) = some (a, b, n - 1, rmN E x, rmN Q x) from if_pos k1]; exact ⟨rfl, hq2⟩⟩
  · refine z_iconst (v := nI 0) dX7_runMinus_11 (by decide) ?_
    exact z_zret rfl rfl dX7_runMinus_12 ⟨smR.rf, ht, by rw [show xqS 2 x y (a, b, n, E, Q) = none from if_neg (fun q => by rw [decide_eq_true q] at c8; cases c8)]; exact ⟨rfl, hq⟩⟩
set_option maxRecDepth 100000 in
theorem ev_X7_runLay (G : Gt) {a b n x y : Nat} {E Q : Nat → Nat} {μ : Mm} (hq : seqOK μ 1 a b n E Q) (ht : tabX μ) (hx : x < 100) (hy : y < 100) : EV G 2 Y_X7_runLay [rf G 0, .int (nI x), .int (nI y)] μ (fun v u => smR μ u ∧ tabX u ∧ match xqS 3 x y (a, b, n, E, Q) with | some s => v = some (.int (bI true)) ∧ seqSt u 1 s | none => v = some (.int (bI false)) ∧ seqSt u 1 (a, b, n, E, Q)) := by
  have hn := hq.le
  have hg := hq.g
  have hab := ab_le hg.2.2.2.1 hg.2.2.2.2.2
  have hE : okE a b E n := fun k hk => hq.el hk
  have hpw := p1024 hn
  have hpw1 := ppos n
  refine ev_of (by decide) (Nat.le_of_ble_eq_true rfl) ?_
  show Zs G 2 Y_X7_runLay (fnN G _) 0 [(0, rf G 0), (1, .int (nI x)), (2, .int (nI y))] [] μ
  refine z_aload_n dX7_runLay_0 rfl ?_
  refine z_getR (j := 1) dX7_runLay_1 fl_X7_12 ⟨by decide, _, rfl, rfl⟩ ?_
  refine z_iload_n dX7_runLay_4 rfl ?_
  refine z_cV1 dX7_runLay_5 lk_X7_91 (by decide) ⟨by decide, _, rfl⟩ rfl (Nat.le_of_ble_eq_true rfl) (ev_X4_hasPlace G seq1 hq) ?_
  rw [inR_N (show x < 2 ^ 31 by omega)]
  refine z_ifB_eq (tgt := 18) dX7_runLay_8 (by decide) (fun c8 => ?_) (fun c8 => ?_)
  · refine z_iconst (v := nI 0) dX7_runLay_18 (by decide) ?_
    exact z_zret rfl rfl dX7_runLay_19 ⟨smR.rf, ht, by rw [show xqS 3 x y (a, b, n, E, Q) = none from if_neg (fun q => by rw [decide_eq_true q.1] at c8; cases c8)]; exact ⟨rfl, hq⟩⟩
  · refine z_iload_n dX7_runLay_11 rfl ?_
    refine z_cS1 dX7_runLay_12 lk_X7_100 (by decide) (Nat.le_of_ble_eq_true rfl) (ev_X7_isPart G) ?_
    rw [inR_N (show y < 2 ^ 31 by omega)]
    refine z_ifB_ne (tgt := 20) dX7_runLay_15 (by decide) (fun c15 => ?_) (fun c15 => ?_)
    · have k1 := of_decide_eq_true c8
      have k2 := of_decide_eq_true c15
      refine z_aload_n dX7_runLay_20 rfl ?_
      refine z_getR (j := 1) dX7_runLay_21 fl_X7_12 ⟨by decide, _, rfl, rfl⟩ ?_
      refine z_getR (j := 4) dX7_runLay_24 fl_X7_105 ⟨by decide, _, rfl, rfl⟩ ?_
      refine z_iload_n dX7_runLay_27 rfl ?_
      refine z_iload_n dX7_runLay_28 rfl ?_
      refine z_iastN dX7_runLay_29 ⟨by decide, rfl⟩ (by omega) (by decide) ?_
      refine z_iconst (v := nI 1) dX7_runLay_30 (by decide) ?_
      exact z_zret rfl rfl dX7_runLay_31 ⟨smR.p (sm.rf.uR (by omega) (by omega) : sm 1 5 μ (uR μ 4 x (nI y))), ht.same (sm.K (sm.rf.uR (by omega) (by omega) : sm 1 5 μ (uR μ 4 x (nI y)))) (by omega), by rw [show xqS 3 x y (a, b, n, E, Q) = some (a, b, n, E, upE Q x y) from if_pos ⟨k1, k2⟩]; exact ⟨rfl, lay_ok hq k1 k2⟩⟩
    · refine z_iconst (v := nI 0) dX7_runLay_18 (by decide) ?_
      exact z_zret rfl rfl dX7_runLay_19 ⟨smR.rf, ht, by rw [show xqS 3 x y (a, b, n, E, Q) = none from if_neg (fun q => by rw [decide_eq_true q.2] at c15; cases c15)]; exact ⟨rfl, hq⟩⟩
set_option maxRecDepth 100000 in
theorem ev_X7_carryOut_0 (G : Gt) {a b n x y : Nat} {E Q : Nat → Nat} {μ : Mm} (hq : seqOK μ 1 a b n E Q) (ht : tabX μ) (hx : x < 100) (hy : y < 100) (h5 : μ.1 33 5 = nI x) (h6 : μ.1 33 6 = nI y) : EV G 6 Y_X7_carryOut [rf G 0, kf G (10 + 0)] μ (fun v u => smR μ u ∧ tabX u ∧ match xqS 0 x y (a, b, n, E, Q) with | some s => v = some (.int (bI true)) ∧ seqSt u 1 s | none => v = some (.int (bI false)) ∧ seqSt u 1 (a, b, n, E, Q)) := by
  have hn := hq.le
  have hg := hq.g
  have hab := ab_le hg.2.2.2.1 hg.2.2.2.2.2
  have hE : okE a b E n := fun k hk => hq.el hk
  have hpw := p1024 hn
  have hpw1 := ppos n
  refine ev_of (by decide) (Nat.le_of_ble_eq_true rfl) ?_
  show Zs G 6 Y_X7_carryOut (fnN G _) 0 [(0, rf G 0), (1, kf G (10 + 0))] [] μ
  refine z_kload_n dX7_carryOut_0 rfl ?_
  refine z_ifnonnullK (tgt := 6) dX7_carryOut_1 (by decide) ?_
  refine z_swmap dX7_carryOut_6 (tb_at 485 (by decide +kernel) rfl) ?_
  refine z_kload_n dX7_carryOut_9 rfl ?_
  refine z_ord (i := 0) (by decide) dX7_carryOut_10 (tb_at 487 (by decide +kernel) rfl) (by decide) (Nat.le_of_ble_eq_true rfl) ?_
  refine z_swat (i := 0) (by decide) dX7_carryOut_13 ?_
  refine z_tsw (tgt := 48) dX7_carryOut_14 (by decide) (by decide) (by decide) rfl (by decide) ?_
  refine z_aload_n dX7_carryOut_48 rfl ?_
  refine z_aload_n dX7_carryOut_49 rfl ?_
  refine z_getR (j := 33) dX7_carryOut_50 fl_X7_33 ⟨by decide, _, rfl, rfl⟩ ?_
  refine z_getI dX7_carryOut_53 fl_X7_338 ⟨by decide, _, rfl, rfl⟩ h5 ?_
  refine z_aload_n dX7_carryOut_56 rfl ?_
  refine z_getR (j := 33) dX7_carryOut_57 fl_X7_33 ⟨by decide, _, rfl, rfl⟩ ?_
  refine z_getI dX7_carryOut_60 fl_X7_341 ⟨by decide, _, rfl, rfl⟩ h6 ?_
  refine z_cV2g dX7_carryOut_63 lk_X7_344 (by decide) ⟨by decide, _, rfl⟩ rfl (Nat.le_of_ble_eq_true rfl) (ev_X7_runGroup G hq ht hx hy) ?_
  rintro v u hh
  have hv : ∃ z : Int32, v = some (.int z) ∧ narrow .boolean (.int z) = .int z := by
    rcases hm : xqS 0 x y (a, b, n, E, Q) with _ | s
    · rw [hm] at hh; exact ⟨_, hh.2.2.1, rfl⟩
    · rw [hm] at hh; exact ⟨_, hh.2.2.1, rfl⟩
  obtain ⟨z, rfl, hz⟩ := hv
  exact z_zret rfl hz dX7_carryOut_66 hh
set_option maxRecDepth 100000 in
theorem ev_X7_carryOut_1 (G : Gt) {a b n x y : Nat} {E Q : Nat → Nat} {μ : Mm} (hq : seqOK μ 1 a b n E Q) (ht : tabX μ) (hx : x < 100) (hy : y < 100) (h5 : μ.1 33 5 = nI x) (h6 : μ.1 33 6 = nI y) : EV G 6 Y_X7_carryOut [rf G 0, kf G (10 + 1)] μ (fun v u => smR μ u ∧ tabX u ∧ match xqS 1 x y (a, b, n, E, Q) with | some s => v = some (.int (bI true)) ∧ seqSt u 1 s | none => v = some (.int (bI false)) ∧ seqSt u 1 (a, b, n, E, Q)) := by
  have hn := hq.le
  have hg := hq.g
  have hab := ab_le hg.2.2.2.1 hg.2.2.2.2.2
  have hE : okE a b E n := fun k hk => hq.el hk
  have hpw := p1024 hn
  have hpw1 := ppos n
  refine ev_of (by decide) (Nat.le_of_ble_eq_true rfl) ?_
  show Zs G 6 Y_X7_carryOut (fnN G _) 0 [(0, rf G 0), (1, kf G (10 + 1))] [] μ
  refine z_kload_n dX7_carryOut_0 rfl ?_
  refine z_ifnonnullK (tgt := 6) dX7_carryOut_1 (by decide) ?_
  refine z_swmap dX7_carryOut_6 (tb_at 485 (by decide +kernel) rfl) ?_
  refine z_kload_n dX7_carryOut_9 rfl ?_
  refine z_ord (i := 1) (by decide) dX7_carryOut_10 (tb_at 487 (by decide +kernel) rfl) (by decide) (Nat.le_of_ble_eq_true rfl) ?_
  refine z_swat (i := 1) (by decide) dX7_carryOut_13 ?_
  refine z_tsw (tgt := 67) dX7_carryOut_14 (by decide) (by decide) (by decide) rfl (by decide) ?_
  refine z_aload_n dX7_carryOut_67 rfl ?_
  refine z_aload_n dX7_carryOut_68 rfl ?_
  refine z_getR (j := 33) dX7_carryOut_69 fl_X7_33 ⟨by decide, _, rfl, rfl⟩ ?_
  refine z_getI dX7_carryOut_72 fl_X7_338 ⟨by decide, _, rfl, rfl⟩ h5 ?_
  refine z_cV1g dX7_carryOut_75 lk_X7_348 (by decide) ⟨by decide, _, rfl⟩ rfl (Nat.le_of_ble_eq_true rfl) (ev_X7_runAdd G hq ht hx hy) ?_
  rintro v u hh
  have hv : ∃ z : Int32, v = some (.int z) ∧ narrow .boolean (.int z) = .int z := by
    rcases hm : xqS 1 x y (a, b, n, E, Q) with _ | s
    · rw [hm] at hh; exact ⟨_, hh.2.2.1, rfl⟩
    · rw [hm] at hh; exact ⟨_, hh.2.2.1, rfl⟩
  obtain ⟨z, rfl, hz⟩ := hv
  exact z_zret rfl hz dX7_carryOut_78 hh
set_option maxRecDepth 100000 in
theorem ev_X7_carryOut_2 (G : Gt) {a b n x y : Nat} {E Q : Nat → Nat} {μ : Mm} (hq : seqOK μ 1 a b n E Q) (ht : tabX μ) (hx : x < 100) (hy : y < 100) (h5 : μ.1 33 5 = nI x) (h6 : μ.1 33 6 = nI y) : EV G 6 Y_X7_carryOut [rf G 0, kf G (10 + 2)] μ (fun v u => smR μ u ∧ tabX u ∧ match xqS 2 x y (a, b, n, E, Q) with | some s => v = some (.int (bI true)) ∧ seqSt u 1 s | none => v = some (.int (bI false)) ∧ seqSt u 1 (a, b, n, E, Q)) := by
  have hn := hq.le
  have hg := hq.g
  have hab := ab_le hg.2.2.2.1 hg.2.2.2.2.2
  have hE : okE a b E n := fun k hk => hq.el hk
  have hpw := p1024 hn
  have hpw1 := ppos n
  refine ev_of (by decide) (Nat.le_of_ble_eq_true rfl) ?_
  show Zs G 6 Y_X7_carryOut (fnN G _) 0 [(0, rf G 0), (1, kf G (10 + 2))] [] μ
  refine z_kload_n dX7_carryOut_0 rfl ?_
  refine z_ifnonnullK (tgt := 6) dX7_carryOut_1 (by decide) ?_
  refine z_swmap dX7_carryOut_6 (tb_at 485 (by decide +kernel) rfl) ?_
  refine z_kload_n dX7_carryOut_9 rfl ?_
  refine z_ord (i := 2) (by decide) dX7_carryOut_10 (tb_at 487 (by decide +kernel) rfl) (by decide) (Nat.le_of_ble_eq_true rfl) ?_
  refine z_swat (i := 2) (by decide) dX7_carryOut_13 ?_
  refine z_tsw (tgt := 79) dX7_carryOut_14 (by decide) (by decide) (by decide) rfl (by decide) ?_
  refine z_aload_n dX7_carryOut_79 rfl ?_
  refine z_aload_n dX7_carryOut_80 rfl ?_
  refine z_getR (j := 33) dX7_carryOut_81 fl_X7_33 ⟨by decide, _, rfl, rfl⟩ ?_
  refine z_getI dX7_carryOut_84 fl_X7_338 ⟨by decide, _, rfl, rfl⟩ h5 ?_
  refine z_cV1g dX7_carryOut_87 lk_X7_351 (by decide) ⟨by decide, _, rfl⟩ rfl (Nat.le_of_ble_eq_true rfl) (ev_X7_runMinus G hq ht hx hy) ?_
  rintro v u hh
  have hv : ∃ z : Int32, v = some (.int z) ∧ narrow .boolean (.int z) = .int z := by
    rcases hm : xqS 2 x y (a, b, n, E, Q) with _ | s
    · rw [hm] at hh; exact ⟨_, hh.2.2.1, rfl⟩
    · rw [hm] at hh; exact ⟨_, hh.2.2.1, rfl⟩
  obtain ⟨z, rfl, hz⟩ := hv
  exact z_zret rfl hz dX7_carryOut_90 hh
set_option maxRecDepth 100000 in
theorem ev_X7_carryOut_3 (G : Gt) {a b n x y : Nat} {E Q : Nat → Nat} {μ : Mm} (hq : seqOK μ 1 a b n E Q) (ht : tabX μ) (hx : x < 100) (hy : y < 100) (h5 : μ.1 33 5 = nI x) (h6 : μ.1 33 6 = nI y) : EV G 6 Y_X7_carryOut [rf G 0, kf G (10 + 3)] μ (fun v u => smR μ u ∧ tabX u ∧ match xqS 3 x y (a, b, n, E, Q) with | some s => v = some (.int (bI true)) ∧ seqSt u 1 s | none => v = some (.int (bI false)) ∧ seqSt u 1 (a, b, n, E, Q)) := by
  have hn := hq.le
  have hg := hq.g
  have hab := ab_le hg.2.2.2.1 hg.2.2.2.2.2
  have hE : okE a b E n := fun k hk => hq.el hk
  have hpw := p1024 hn
  have hpw1 := ppos n
  refine ev_of (by decide) (Nat.le_of_ble_eq_true rfl) ?_
  show Zs G 6 Y_X7_carryOut (fnN G _) 0 [(0, rf G 0), (1, kf G (10 + 3))] [] μ
  refine z_kload_n dX7_carryOut_0 rfl ?_
  refine z_ifnonnullK (tgt := 6) dX7_carryOut_1 (by decide) ?_
  refine z_swmap dX7_carryOut_6 (tb_at 485 (by decide +kernel) rfl) ?_
  refine z_kload_n dX7_carryOut_9 rfl ?_
  refine z_ord (i := 3) (by decide) dX7_carryOut_10 (tb_at 487 (by decide +kernel) rfl) (by decide) (Nat.le_of_ble_eq_true rfl) ?_
  refine z_swat (i := 3) (by decide) dX7_carryOut_13 ?_
  refine z_tsw (tgt := 91) dX7_carryOut_14 (by decide) (by decide) (by decide) rfl (by decide) ?_
  refine z_aload_n dX7_carryOut_91 rfl ?_
  refine z_aload_n dX7_carryOut_92 rfl ?_
  refine z_getR (j := 33) dX7_carryOut_93 fl_X7_33 ⟨by decide, _, rfl, rfl⟩ ?_
  refine z_getI dX7_carryOut_96 fl_X7_338 ⟨by decide, _, rfl, rfl⟩ h5 ?_
  refine z_aload_n dX7_carryOut_99 rfl ?_
  refine z_getR (j := 33) dX7_carryOut_100 fl_X7_33 ⟨by decide, _, rfl, rfl⟩ ?_
  refine z_getI dX7_carryOut_103 fl_X7_341 ⟨by decide, _, rfl, rfl⟩ h6 ?_
  refine z_cV2g dX7_carryOut_106 lk_X7_354 (by decide) ⟨by decide, _, rfl⟩ rfl (Nat.le_of_ble_eq_true rfl) (ev_X7_runLay G hq ht hx hy) ?_
  rintro v u hh
  have hv : ∃ z : Int32, v = some (.int z) ∧ narrow .boolean (.int z) = .int z := by
    rcases hm : xqS 3 x y (a, b, n, E, Q) with _ | s
    · rw [hm] at hh; exact ⟨_, hh.2.2.1, rfl⟩
    · rw [hm] at hh; exact ⟨_, hh.2.2.1, rfl⟩
  obtain ⟨z, rfl, hz⟩ := hv
  exact z_zret rfl hz dX7_carryOut_109 hh
set_option maxRecDepth 100000 in
theorem ev_X7_carryOut_4 (G : Gt) {a b n x y : Nat} {E Q : Nat → Nat} {μ : Mm} (hq : seqOK μ 1 a b n E Q) (ht : tabX μ) (hx : x < 100) (hy : y < 100) (h5 : μ.1 33 5 = nI x) (h6 : μ.1 33 6 = nI y) : EV G 6 Y_X7_carryOut [rf G 0, kf G (10 + 4)] μ (fun v u => smR μ u ∧ tabX u ∧ match xqS 4 x y (a, b, n, E, Q) with | some s => v = some (.int (bI true)) ∧ seqSt u 1 s | none => v = some (.int (bI false)) ∧ seqSt u 1 (a, b, n, E, Q)) := by
  have hn := hq.le
  have hg := hq.g
  have hab := ab_le hg.2.2.2.1 hg.2.2.2.2.2
  have hE : okE a b E n := fun k hk => hq.el hk
  have hpw := p1024 hn
  have hpw1 := ppos n
  refine ev_of (by decide) (Nat.le_of_ble_eq_true rfl) ?_
  show Zs G 6 Y_X7_carryOut (fnN G _) 0 [(0, rf G 0), (1, kf G (10 + 4))] [] μ
  refine z_kload_n dX7_carryOut_0 rfl ?_
  refine z_ifnonnullK (tgt := 6) dX7_carryOut_1 (by decide) ?_
  refine z_swmap dX7_carryOut_6 (tb_at 485 (by decide +kernel) rfl) ?_
  refine z_kload_n dX7_carryOut_9 rfl ?_
  refine z_ord (i := 4) (by decide) dX7_carryOut_10 (tb_at 487 (by decide +kernel) rfl) (by decide) (Nat.le_of_ble_eq_true rfl) ?_
  refine z_swat (i := 4) (by decide) dX7_carryOut_13 ?_
  refine z_tsw (tgt := 110) dX7_carryOut_14 (by decide) (by decide) (by decide) rfl (by decide) ?_
  refine z_aload_n dX7_carryOut_110 rfl ?_
  refine z_cV0g dX7_carryOut_111 lk_X7_109 (by decide) ⟨by decide, _, rfl⟩ rfl (Nat.le_of_ble_eq_true rfl) (ev_X7_canLaySplit G hq ht) ?_
  rintro v u ⟨rfl, hs, ht2⟩
  have hq2 := hq.same hs (by omega)
  refine z_ifB_eq (tgt := 129) dX7_carryOut_114 (by decide) (fun c114 => ?_) (fun c114 => ?_)
  · refine z_iconst (v := nI 0) dX7_carryOut_129 (by decide) ?_
    exact z_zret rfl rfl dX7_carryOut_130 ⟨smR.t hs, ht2, by rw [show xqS 4 x y (a, b, n, E, Q) = none from if_neg (fun q => by rw [c114] at q; cases q)]; exact ⟨rfl, hq2⟩⟩
  · obtain ⟨M, hm, hM⟩ := cl_of c114
    refine z_aload_n dX7_carryOut_117 rfl ?_
    refine z_cV0g dX7_carryOut_118 lk_X7_114 (by decide) ⟨by decide, _, rfl⟩ rfl (Nat.le_of_ble_eq_true rfl) (ev_X7_laySplitNow G hq2 ht2 hm hM) ?_
    rintro v u2 ⟨rfl, hl, hq3, ht3⟩
    refine z_iconst (v := -1) dX7_carryOut_121 (by decide) ?_
    refine z_icmp_eq (tgt := 129) dX7_carryOut_122 (by decide) (fun c122 => absurd c122 (nI_m1 (by omega))) (fun c122 => ?_)
    refine z_iconst (v := nI 1) dX7_carryOut_125 (by decide) ?_
    refine z_goto (tgt := 130) dX7_carryOut_126 (by decide) ?_
    exact z_zret rfl rfl dX7_carryOut_130 ⟨(smR.t hs).trans hl.R, ht3, by rw [show xqS 4 x y (a, b, n, E, Q) = some (a, b, n, E, lsL a b n E ((spO a b n E).getD 0) 0 (2 ^ n - 1) Q) from if_pos c114, hm]; exact ⟨rfl, hq3⟩⟩
theorem ev_X7_carryOut (G : Gt) {a b n x y : Nat} {E Q : Nat → Nat} {μ : Mm} (hq : seqOK μ 1 a b n E Q) (ht : tabX μ) (hx : x < 100) (hy : y < 100) (h5 : μ.1 33 5 = nI x) (h6 : μ.1 33 6 = nI y) {i : Nat} (hi : i < 5) : EV G 6 Y_X7_carryOut [rf G 0, kf G (10 + i)] μ (fun v u => smR μ u ∧ tabX u ∧ match xqS i x y (a, b, n, E, Q) with | some s => v = some (.int (bI true)) ∧ seqSt u 1 s | none => v = some (.int (bI false)) ∧ seqSt u 1 (a, b, n, E, Q)) := by
  rcases (show i = 0 ∨ i = 1 ∨ i = 2 ∨ i = 3 ∨ i = 4 by omega) with rfl | rfl | rfl | rfl | rfl
  · exact ev_X7_carryOut_0 G hq ht hx hy h5 h6
  · exact ev_X7_carryOut_1 G hq ht hx hy h5 h6
  · exact ev_X7_carryOut_2 G hq ht hx hy h5 h6
  · exact ev_X7_carryOut_3 G hq ht hx hy h5 h6
  · exact ev_X7_carryOut_4 G hq ht hx hy h5 h6
