theorem inR_out {x : Int32} {n : Nat} (h : inR x n = false) : ¬ (0 ≤ x.toInt ∧ x.toInt < n) := of_decide_eq_false h
theorem in_lh {y : Int32} {n : Nat} (hn : n < 2 ^ 30) (h1 : ¬ y < nI 1) (h2 : y ≤ nI n) : (inR y (n + 1) && decide (y ≠ nI 0)) = true := by
  rw [Int32.lt_iff_toInt_lt, show (nI 1).toInt = 1 from by decide] at h1
  rw [Int32.le_iff_toInt_le, nI_toInt (by omega)] at h2
  rw [Bool.and_eq_true]
  refine ⟨decide_eq_true ⟨by omega, by omega⟩, decide_eq_true (fun e => ?_)⟩
  rw [e, show (nI 0).toInt = 0 from by decide] at h1
  omega
theorem in_0h {y : Int32} {n : Nat} (hn : n < 2 ^ 30) (h1 : ¬ y < 0) (h2 : y ≤ nI n) : inR y (n + 1) = true := by
  rw [Int32.lt_iff_toInt_lt, show (0 : Int32).toInt = 0 from by decide] at h1
  rw [Int32.le_iff_toInt_le, nI_toInt (by omega)] at h2
  exact decide_eq_true ⟨by omega, by omega⟩
theorem z_throwW {G : Gt} {d : Nat} {Y : YC} {pc : Nat} {lv : List (Nat × Value)} {μ : Mm} {P : Mm → Prop} {E text : String} {ik is ic : Nat} (hG : G.1.stackTraces = false) (hx : xOK ik ic E) (hY : Y.1.cls = "ZeroParts") (hd : 6 ≤ d) (hs : (is, text) ∈ thrS)
    (d0 : decode Y.2.1 pc = .ok (.new ik, 3)) (d3 : decode Y.2.1 (pc + 3) = .ok (.dup, 1)) (d4 : decode Y.2.1 (pc + 4) = .ok (.ldc_w is, 3)) (d6 : decode Y.2.1 (pc + 7) = .ok (.invokespecial ic, 3)) (d9 : decode Y.2.1 (pc + 10) = .ok (.athrow, 1)) (hp : P μ) : Zs G d Y (fnX G P E) pc lv [] μ := by
  intro p e s m args below meth c H locs ls En hP hD hS hl
  by_cases hh : ∀ x ∈ c.exceptionTable.toList, False
  · have hat : ∀ w ∈ vx_atS "ZeroParts" ic E xnm, w.before args s = true := fun w hw => (hx.2.2.2.1 w hw).elim (fun q => En.t w q) (fun q => va_Nw.use (castW_on w q) (En.c.1.2.1 w q))
    have q := vx_throwSW (A := aA G s.heap.size) (p := p) (l := G.1) (e := e) (R := rmF d (fnX G P E)) (s := s) (m := m) (args := args) (below := below) (meth := meth) (c := c) (H := H) (locs := locs) (cells := 0) (slots := 0) (ls := ls) (rest := []) (Qc := fun _ _ _ _ => False) (XC := xC G P E) (free := aA G s.heap.size) (mc := 1) (ms := 6) (names := xnm) (own := "ZeroParts") (cls := E) (text := text) (ik := ik) (is := is) (ic := ic) (pc := pc)
      En.x En.b hG (by rw [← hY]; exact En.o) hx.1 (by decide +kernel) (En.t _ hx.2.1) (En.t _ hx.2.2.1) (En.c.2.1 _ hs) hat hx.2.2.2.2 En.c.2.2.1 En.c.2.2.2.1 hS (hl.1.trans En.ml.symm) d0 d3 d4 d6 d9 (fun x h => absurd (hh x h) id) (by show 2 + 3 < d; omega) (by show 0 + (13 * (2 + 1) + 43) ≤ 27 * d; omega) (Nat.le_refl _) (Nat.le_refl _) En.lk
      (fun t _ h2 h3 => ⟨rfl, ⟨μ, hp, wl_kept hP h3⟩, Nat.le_trans hS.1 h2, fun q a1 a2 => (h3 q (Nat.lt_of_lt_of_le a1 hS.1)).trans (hS.2.1 q a1 a2)⟩) hS.2.2 (Nat.le_refl _) (Nat.le_refl _)
    intro T hT X
    obtain ⟨t, a1, b1⟩ := q T hT X
    exact ⟨t, a1, fun _ => b1⟩
  · intro T hT X
    exact ⟨_, Steps.refl _, fun q => absurd q hh⟩
set_option maxRecDepth 100000 in
theorem evx_X7_begin_1 (G : Gt) (hG : G.1.stackTraces = false) {a b n : Nat} {E Q : Nat → Nat} {μ : Mm} (hq : seqOK μ 1 a b n E Q) {x y : Int32} (hr : isM x = false) : EVx G 8 Y_X7_begin [rf G 0, .int x, .int y] μ (fun u => u = μ) "java/lang/IllegalArgumentException" := by
  have hn := hq.le
  have hg := hq.g
  have hab := ab_le hg.2.2.2.1 hg.2.2.2.2.2
  have hpw := p1024 hn
  have hpw1 := ppos n
  refine evx_of (by decide) (Nat.le_of_ble_eq_true rfl) ?_
  show Zs G 8 Y_X7_begin (fnX G _ _) 0 [(0, rf G 0), (1, .int x), (2, .int y)] [] μ
  refine z_iload_n dX7_begin_0 rfl ?_
  refine z_cS1 dX7_begin_1 lk_X7_37 (by decide) (Nat.le_of_ble_eq_true rfl) (ev_X7_isModulus G) ?_
  refine z_ifB_eq (tgt := 14) dX7_begin_4 (by decide) (fun c4 => ?_) (fun c4 => (tf _ (c4) (hr)).elim)
  exact z_throw hG x_a rfl (by decide) (List.mem_of_getElem? (i := 7) rfl) dX7_begin_14 dX7_begin_17 dX7_begin_18 dX7_begin_20 dX7_begin_23 rfl
set_option maxRecDepth 100000 in
theorem evx_X7_begin_2 (G : Gt) (hG : G.1.stackTraces = false) {a b n : Nat} {E Q : Nat → Nat} {μ : Mm} (hq : seqOK μ 1 a b n E Q) {x y : Int32} (hx : isM x = true) (hr : isM y = false) : EVx G 8 Y_X7_begin [rf G 0, .int x, .int y] μ (fun u => u = μ) "java/lang/IllegalArgumentException" := by
  have hn := hq.le
  have hg := hq.g
  have hab := ab_le hg.2.2.2.1 hg.2.2.2.2.2
  have hpw := p1024 hn
  have hpw1 := ppos n
  refine evx_of (by decide) (Nat.le_of_ble_eq_true rfl) ?_
  show Zs G 8 Y_X7_begin (fnX G _ _) 0 [(0, rf G 0), (1, .int x), (2, .int y)] [] μ
  refine z_iload_n dX7_begin_0 rfl ?_
  refine z_cS1 dX7_begin_1 lk_X7_37 (by decide) (Nat.le_of_ble_eq_true rfl) (ev_X7_isModulus G) ?_
  refine z_ifB_eq (tgt := 14) dX7_begin_4 (by decide) (fun c4 => (tf _ (hx) (c4)).elim) (fun c4 => ?_)
  refine z_iload_n dX7_begin_7 rfl ?_
  refine z_cS1 dX7_begin_8 lk_X7_37 (by decide) (Nat.le_of_ble_eq_true rfl) (ev_X7_isModulus G) ?_
  refine z_ifB_ne (tgt := 24) dX7_begin_11 (by decide) (fun c11 => (tf _ (c11) (hr)).elim) (fun c11 => ?_)
  exact z_throw hG x_a rfl (by decide) (List.mem_of_getElem? (i := 7) rfl) dX7_begin_14 dX7_begin_17 dX7_begin_18 dX7_begin_20 dX7_begin_23 rfl
set_option maxRecDepth 100000 in
theorem evx_X7_add_1 (G : Gt) (hG : G.1.stackTraces = false) {a b n : Nat} {E Q : Nat → Nat} {μ : Mm} (hq : seqOK μ 1 a b n E Q) {x : Int32} (hr : inR x (a * b) = false) : EVx G 8 Y_X7_add [rf G 0, .int x] μ (fun u => u = μ) "java/lang/IndexOutOfBoundsException" := by
  have hn := hq.le
  have hg := hq.g
  have hab := ab_le hg.2.2.2.1 hg.2.2.2.2.2
  have hpw := p1024 hn
  have hpw1 := ppos n
  refine evx_of (by decide) (Nat.le_of_ble_eq_true rfl) ?_
  show Zs G 8 Y_X7_add (fnX G _ _) 0 [(0, rf G 0), (1, .int x)] [] μ
  refine z_aload_n dX7_add_0 rfl ?_
  refine z_getR (j := 1) dX7_add_1 fl_X7_12 ⟨by decide, _, rfl, rfl⟩ ?_
  refine z_getR (j := 2) dX7_add_4 fl_X7_56 ⟨by decide, _, rfl, rfl⟩ ?_
  refine z_iload_n dX7_add_7 rfl ?_
  refine z_cV1 dX7_add_8 lk_X7_66 (by decide) ⟨by decide, _, rfl⟩ rfl (Nat.le_of_ble_eq_true rfl) (ev_X2_has G (isSeq.g seq1) hq.g) ?_
  refine z_ifB_ne (tgt := 24) dX7_add_11 (by decide) (fun c11 => (tf _ (c11) (hr)).elim) (fun c11 => ?_)
  exact z_throw hG x_i rfl (by decide) (List.mem_of_getElem? (i := 8) rfl) dX7_add_14 dX7_add_17 dX7_add_18 dX7_add_20 dX7_add_23 rfl
set_option maxRecDepth 100000 in
theorem evx_X7_add_2 (G : Gt) (hG : G.1.stackTraces = false) {a b n : Nat} {E Q : Nat → Nat} {μ : Mm} (hq : seqOK μ 1 a b n E Q) {x : Int32} (hx : inR x (a * b) = true) (hr : n = 10) : EVx G 8 Y_X7_add [rf G 0, .int x] μ (fun u => u = μ) "java/lang/IllegalStateException" := by
  have hn := hq.le
  have hg := hq.g
  have hab := ab_le hg.2.2.2.1 hg.2.2.2.2.2
  have hpw := p1024 hn
  have hpw1 := ppos n
  refine evx_of (by decide) (Nat.le_of_ble_eq_true rfl) ?_
  show Zs G 8 Y_X7_add (fnX G _ _) 0 [(0, rf G 0), (1, .int x)] [] μ
  refine z_aload_n dX7_add_0 rfl ?_
  refine z_getR (j := 1) dX7_add_1 fl_X7_12 ⟨by decide, _, rfl, rfl⟩ ?_
  refine z_getR (j := 2) dX7_add_4 fl_X7_56 ⟨by decide, _, rfl, rfl⟩ ?_
  refine z_iload_n dX7_add_7 rfl ?_
  refine z_cV1 dX7_add_8 lk_X7_66 (by decide) ⟨by decide, _, rfl⟩ rfl (Nat.le_of_ble_eq_true rfl) (ev_X2_has G (isSeq.g seq1) hq.g) ?_
  refine z_ifB_ne (tgt := 24) dX7_add_11 (by decide) (fun c11 => ?_) (fun c11 => (tf _ (hx) (c11)).elim)
  refine z_aload_n dX7_add_24 rfl ?_
  refine z_getR (j := 1) dX7_add_25 fl_X7_12 ⟨by decide, _, rfl, rfl⟩ ?_
  refine z_cV0 dX7_add_28 lk_X7_74 (by decide) ⟨by decide, _, rfl⟩ rfl (Nat.le_of_ble_eq_true rfl) (ev_X4_isFull G seq1 hq) ?_
  refine z_ifB_eq (tgt := 44) dX7_add_31 (by decide) (fun c31 => absurd (of_decide_eq_false c31) (by omega)) (fun c31 => ?_)
  exact z_throw hG x_s rfl (by decide) (List.mem_of_getElem? (i := 9) rfl) dX7_add_34 dX7_add_37 dX7_add_38 dX7_add_40 dX7_add_43 rfl
set_option maxRecDepth 100000 in
theorem evx_X7_removeAt_1 (G : Gt) (hG : G.1.stackTraces = false) {a b n : Nat} {E Q : Nat → Nat} {μ : Mm} (hq : seqOK μ 1 a b n E Q) {x : Int32} (hr : inR x n = false) : EVx G 8 Y_X7_removeAt [rf G 0, .int x] μ (fun u => u = μ) "java/lang/IndexOutOfBoundsException" := by
  have hn := hq.le
  have hg := hq.g
  have hab := ab_le hg.2.2.2.1 hg.2.2.2.2.2
  have hpw := p1024 hn
  have hpw1 := ppos n
  refine evx_of (by decide) (Nat.le_of_ble_eq_true rfl) ?_
  show Zs G 8 Y_X7_removeAt (fnX G _ _) 0 [(0, rf G 0), (1, .int x)] [] μ
  refine z_aload_n dX7_removeAt_0 rfl ?_
  refine z_getR (j := 1) dX7_removeAt_1 fl_X7_12 ⟨by decide, _, rfl, rfl⟩ ?_
  refine z_iload_n dX7_removeAt_4 rfl ?_
  refine z_cV1 dX7_removeAt_5 lk_X7_91 (by decide) ⟨by decide, _, rfl⟩ rfl (Nat.le_of_ble_eq_true rfl) (ev_X4_hasPlace G seq1 hq) ?_
  refine z_ifB_ne (tgt := 21) dX7_removeAt_8 (by decide) (fun c8 => (tf _ (c8) (hr)).elim) (fun c8 => ?_)
  exact z_throw hG x_i rfl (by decide) (List.mem_of_getElem? (i := 1) rfl) dX7_removeAt_11 dX7_removeAt_14 dX7_removeAt_15 dX7_removeAt_17 dX7_removeAt_20 rfl
set_option maxRecDepth 100000 in
theorem evx_X7_lay_1 (G : Gt) (hG : G.1.stackTraces = false) {a b n : Nat} {E Q : Nat → Nat} {μ : Mm} (hq : seqOK μ 1 a b n E Q) {x y : Int32} (hr : inR x n = false) : EVx G 8 Y_X7_lay [rf G 0, .int x, .int y] μ (fun u => u = μ) "java/lang/IndexOutOfBoundsException" := by
  have hn := hq.le
  have hg := hq.g
  have hab := ab_le hg.2.2.2.1 hg.2.2.2.2.2
  have hpw := p1024 hn
  have hpw1 := ppos n
  refine evx_of (by decide) (Nat.le_of_ble_eq_true rfl) ?_
  show Zs G 8 Y_X7_lay (fnX G _ _) 0 [(0, rf G 0), (1, .int x), (2, .int y)] [] μ
  refine z_aload_n dX7_lay_0 rfl ?_
  refine z_getR (j := 1) dX7_lay_1 fl_X7_12 ⟨by decide, _, rfl, rfl⟩ ?_
  refine z_iload_n dX7_lay_4 rfl ?_
  refine z_cV1 dX7_lay_5 lk_X7_91 (by decide) ⟨by decide, _, rfl⟩ rfl (Nat.le_of_ble_eq_true rfl) (ev_X4_hasPlace G seq1 hq) ?_
  refine z_ifB_ne (tgt := 21) dX7_lay_8 (by decide) (fun c8 => (tf _ (c8) (hr)).elim) (fun c8 => ?_)
  exact z_throw hG x_i rfl (by decide) (List.mem_of_getElem? (i := 1) rfl) dX7_lay_11 dX7_lay_14 dX7_lay_15 dX7_lay_17 dX7_lay_20 rfl
set_option maxRecDepth 100000 in
theorem evx_X7_lay_2 (G : Gt) (hG : G.1.stackTraces = false) {a b n : Nat} {E Q : Nat → Nat} {μ : Mm} (hq : seqOK μ 1 a b n E Q) {x y : Int32} (hx : inR x n = true) (hr : inR y 6 = false) : EVx G 8 Y_X7_lay [rf G 0, .int x, .int y] μ (fun u => u = μ) "java/lang/IllegalArgumentException" := by
  have hn := hq.le
  have hg := hq.g
  have hab := ab_le hg.2.2.2.1 hg.2.2.2.2.2
  have hpw := p1024 hn
  have hpw1 := ppos n
  refine evx_of (by decide) (Nat.le_of_ble_eq_true rfl) ?_
  show Zs G 8 Y_X7_lay (fnX G _ _) 0 [(0, rf G 0), (1, .int x), (2, .int y)] [] μ
  refine z_aload_n dX7_lay_0 rfl ?_
  refine z_getR (j := 1) dX7_lay_1 fl_X7_12 ⟨by decide, _, rfl, rfl⟩ ?_
  refine z_iload_n dX7_lay_4 rfl ?_
  refine z_cV1 dX7_lay_5 lk_X7_91 (by decide) ⟨by decide, _, rfl⟩ rfl (Nat.le_of_ble_eq_true rfl) (ev_X4_hasPlace G seq1 hq) ?_
  refine z_ifB_ne (tgt := 21) dX7_lay_8 (by decide) (fun c8 => ?_) (fun c8 => (tf _ (hx) (c8)).elim)
  refine z_iload_n dX7_lay_21 rfl ?_
  refine z_cS1 dX7_lay_22 lk_X7_100 (by decide) (Nat.le_of_ble_eq_true rfl) (ev_X7_isPart G) ?_
  refine z_ifB_ne (tgt := 38) dX7_lay_25 (by decide) (fun c25 => (tf _ (c25) (hr)).elim) (fun c25 => ?_)
  exact z_throw hG x_a rfl (by decide) (List.mem_of_getElem? (i := 3) rfl) dX7_lay_28 dX7_lay_31 dX7_lay_32 dX7_lay_34 dX7_lay_37 rfl
set_option maxRecDepth 100000 in
theorem evx_X7_laySplit_1 (G : Gt) (hG : G.1.stackTraces = false) {a b n : Nat} {E Q : Nat → Nat} {μ : Mm} (hq : seqOK μ 1 a b n E Q) (ht : tabX μ) (hr : clN a b n E = false) : EVx G 8 Y_X7_laySplit [rf G 0] μ (fun u => sm 23 33 μ u ∧ tabX u) "java/lang/IllegalStateException" := by
  have hn := hq.le
  have hg := hq.g
  have hab := ab_le hg.2.2.2.1 hg.2.2.2.2.2
  have hpw := p1024 hn
  have hpw1 := ppos n
  refine evx_of (by decide) (Nat.le_of_ble_eq_true rfl) ?_
  show Zs G 8 Y_X7_laySplit (fnX G _ _) 0 [(0, rf G 0)] [] μ
  refine z_aload_n dX7_laySplit_0 rfl ?_
  refine z_cV0g dX7_laySplit_1 lk_X7_109 (by decide) ⟨by decide, _, rfl⟩ rfl (Nat.le_of_ble_eq_true rfl) (ev_X7_canLaySplit G hq ht) ?_
  rintro v u ⟨rfl, hs, ht2⟩
  refine z_ifB_ne (tgt := 17) dX7_laySplit_4 (by decide) (fun c4 => (tf _ (c4) (hr)).elim) (fun c4 => ?_)
  exact z_throw hG x_s rfl (by decide) (List.mem_of_getElem? (i := 10) rfl) dX7_laySplit_7 dX7_laySplit_10 dX7_laySplit_11 dX7_laySplit_13 dX7_laySplit_16 ⟨hs, ht2⟩
set_option maxRecDepth 100000 in
theorem evx_X7_sum_1 (G : Gt) (hG : G.1.stackTraces = false) {a b n : Nat} {E Q : Nat → Nat} {μ : Mm} (hq : seqOK μ 1 a b n E Q) {x y : Int32} (hr : inR x (a * b) = false) : EVx G 8 Y_X7_sum [rf G 0, .int x, .int y] μ (fun u => u = μ) "java/lang/IndexOutOfBoundsException" := by
  have hn := hq.le
  have hg := hq.g
  have hab := ab_le hg.2.2.2.1 hg.2.2.2.2.2
  have hpw := p1024 hn
  have hpw1 := ppos n
  refine evx_of (by decide) (Nat.le_of_ble_eq_true rfl) ?_
  show Zs G 8 Y_X7_sum (fnX G _ _) 0 [(0, rf G 0), (1, .int x), (2, .int y)] [] μ
  refine z_aload_n dX7_sum_0 rfl ?_
  refine z_getR (j := 1) dX7_sum_1 fl_X7_12 ⟨by decide, _, rfl, rfl⟩ ?_
  refine z_getR (j := 2) dX7_sum_4 fl_X7_56 ⟨by decide, _, rfl, rfl⟩ ?_
  refine z_iload_n dX7_sum_7 rfl ?_
  refine z_cV1 dX7_sum_8 lk_X7_66 (by decide) ⟨by decide, _, rfl⟩ rfl (Nat.le_of_ble_eq_true rfl) (ev_X2_has G (isSeq.g seq1) hq.g) ?_
  refine z_ifB_eq (tgt := 28) dX7_sum_11 (by decide) (fun c11 => ?_) (fun c11 => (tf _ (c11) (hr)).elim)
  exact z_throw hG x_i rfl (by decide) (List.mem_of_getElem? (i := 8) rfl) dX7_sum_28 dX7_sum_31 dX7_sum_32 dX7_sum_34 dX7_sum_37 rfl
set_option maxRecDepth 100000 in
theorem evx_X7_sum_2 (G : Gt) (hG : G.1.stackTraces = false) {a b n : Nat} {E Q : Nat → Nat} {μ : Mm} (hq : seqOK μ 1 a b n E Q) {x y : Int32} (hx : inR x (a * b) = true) (hr : inR y (a * b) = false) : EVx G 8 Y_X7_sum [rf G 0, .int x, .int y] μ (fun u => u = μ) "java/lang/IndexOutOfBoundsException" := by
  have hn := hq.le
  have hg := hq.g
  have hab := ab_le hg.2.2.2.1 hg.2.2.2.2.2
  have hpw := p1024 hn
  have hpw1 := ppos n
  refine evx_of (by decide) (Nat.le_of_ble_eq_true rfl) ?_
  show Zs G 8 Y_X7_sum (fnX G _ _) 0 [(0, rf G 0), (1, .int x), (2, .int y)] [] μ
  refine z_aload_n dX7_sum_0 rfl ?_
  refine z_getR (j := 1) dX7_sum_1 fl_X7_12 ⟨by decide, _, rfl, rfl⟩ ?_
  refine z_getR (j := 2) dX7_sum_4 fl_X7_56 ⟨by decide, _, rfl, rfl⟩ ?_
  refine z_iload_n dX7_sum_7 rfl ?_
  refine z_cV1 dX7_sum_8 lk_X7_66 (by decide) ⟨by decide, _, rfl⟩ rfl (Nat.le_of_ble_eq_true rfl) (ev_X2_has G (isSeq.g seq1) hq.g) ?_
  refine z_ifB_eq (tgt := 28) dX7_sum_11 (by decide) (fun c11 => (tf _ (hx) (c11)).elim) (fun c11 => ?_)
  refine z_aload_n dX7_sum_14 rfl ?_
  refine z_getR (j := 1) dX7_sum_15 fl_X7_12 ⟨by decide, _, rfl, rfl⟩ ?_
  refine z_getR (j := 2) dX7_sum_18 fl_X7_56 ⟨by decide, _, rfl, rfl⟩ ?_
  refine z_iload_n dX7_sum_21 rfl ?_
  refine z_cV1 dX7_sum_22 lk_X7_66 (by decide) ⟨by decide, _, rfl⟩ rfl (Nat.le_of_ble_eq_true rfl) (ev_X2_has G (isSeq.g seq1) hq.g) ?_
  refine z_ifB_ne (tgt := 38) dX7_sum_25 (by decide) (fun c25 => (tf _ (c25) (hr)).elim) (fun c25 => ?_)
  exact z_throw hG x_i rfl (by decide) (List.mem_of_getElem? (i := 8) rfl) dX7_sum_28 dX7_sum_31 dX7_sum_32 dX7_sum_34 dX7_sum_37 rfl
set_option maxRecDepth 100000 in
theorem evx_X7_element_1 (G : Gt) (hG : G.1.stackTraces = false) {a b n : Nat} {E Q : Nat → Nat} {μ : Mm} (hq : seqOK μ 1 a b n E Q) {x y : Int32} (hr : inR x (a * b) = false) : EVx G 8 Y_X7_element [rf G 0, .int x, .int y] μ (fun u => u = μ) "java/lang/IndexOutOfBoundsException" := by
  have hn := hq.le
  have hg := hq.g
  have hab := ab_le hg.2.2.2.1 hg.2.2.2.2.2
  have hpw := p1024 hn
  have hpw1 := ppos n
  refine evx_of (by decide) (Nat.le_of_ble_eq_true rfl) ?_
  show Zs G 8 Y_X7_element (fnX G _ _) 0 [(0, rf G 0), (1, .int x), (2, .int y)] [] μ
  refine z_aload_n dX7_element_0 rfl ?_
  refine z_getR (j := 1) dX7_element_1 fl_X7_12 ⟨by decide, _, rfl, rfl⟩ ?_
  refine z_getR (j := 2) dX7_element_4 fl_X7_56 ⟨by decide, _, rfl, rfl⟩ ?_
  refine z_iload_n dX7_element_7 rfl ?_
  refine z_cV1 dX7_element_8 lk_X7_66 (by decide) ⟨by decide, _, rfl⟩ rfl (Nat.le_of_ble_eq_true rfl) (ev_X2_has G (isSeq.g seq1) hq.g) ?_
  refine z_ifB_ne (tgt := 24) dX7_element_11 (by decide) (fun c11 => (tf _ (c11) (hr)).elim) (fun c11 => ?_)
  exact z_throw hG x_i rfl (by decide) (List.mem_of_getElem? (i := 8) rfl) dX7_element_14 dX7_element_17 dX7_element_18 dX7_element_20 dX7_element_23 rfl
set_option maxRecDepth 100000 in
theorem evx_X7_element_2 (G : Gt) (hG : G.1.stackTraces = false) {a b n : Nat} {E Q : Nat → Nat} {μ : Mm} (hq : seqOK μ 1 a b n E Q) {x y : Int32} (hx : inR x (a * b) = true) (hr : inR y 4 = false) : EVx G 8 Y_X7_element [rf G 0, .int x, .int y] μ (fun u => u = μ) "java/lang/IllegalArgumentException" := by
  have hn := hq.le
  have hg := hq.g
  have hab := ab_le hg.2.2.2.1 hg.2.2.2.2.2
  have hpw := p1024 hn
  have hpw1 := ppos n
  refine evx_of (by decide) (Nat.le_of_ble_eq_true rfl) ?_
  show Zs G 8 Y_X7_element (fnX G _ _) 0 [(0, rf G 0), (1, .int x), (2, .int y)] [] μ
  refine z_aload_n dX7_element_0 rfl ?_
  refine z_getR (j := 1) dX7_element_1 fl_X7_12 ⟨by decide, _, rfl, rfl⟩ ?_
  refine z_getR (j := 2) dX7_element_4 fl_X7_56 ⟨by decide, _, rfl, rfl⟩ ?_
  refine z_iload_n dX7_element_7 rfl ?_
  refine z_cV1 dX7_element_8 lk_X7_66 (by decide) ⟨by decide, _, rfl⟩ rfl (Nat.le_of_ble_eq_true rfl) (ev_X2_has G (isSeq.g seq1) hq.g) ?_
  refine z_ifB_ne (tgt := 24) dX7_element_11 (by decide) (fun c11 => ?_) (fun c11 => (tf _ (hx) (c11)).elim)
  refine z_iload_n dX7_element_24 rfl ?_
  refine z_tswD (tgt := 113) dX7_element_25 (by have q := inR_out hr; omega) (by decide) ?_
  exact z_throw hG x_a rfl (by decide) (List.mem_of_getElem? (i := 2) rfl) dX7_element_113 dX7_element_116 dX7_element_117 dX7_element_119 dX7_element_122 rfl
set_option maxRecDepth 100000 in
theorem evx_X7_at_1 (G : Gt) (hG : G.1.stackTraces = false) {a b n : Nat} {E Q : Nat → Nat} {μ : Mm} (hq : seqOK μ 1 a b n E Q) {x y : Int32} (hr : inR x n = false) : EVx G 8 Y_X7_at [rf G 0, .int x, .int y] μ (fun u => u = μ) "java/lang/IndexOutOfBoundsException" := by
  have hn := hq.le
  have hg := hq.g
  have hab := ab_le hg.2.2.2.1 hg.2.2.2.2.2
  have hpw := p1024 hn
  have hpw1 := ppos n
  refine evx_of (by decide) (Nat.le_of_ble_eq_true rfl) ?_
  show Zs G 8 Y_X7_at (fnX G _ _) 0 [(0, rf G 0), (1, .int x), (2, .int y)] [] μ
  refine z_aload_n dX7_at_0 rfl ?_
  refine z_getR (j := 1) dX7_at_1 fl_X7_12 ⟨by decide, _, rfl, rfl⟩ ?_
  refine z_iload_n dX7_at_4 rfl ?_
  refine z_cV1 dX7_at_5 lk_X7_91 (by decide) ⟨by decide, _, rfl⟩ rfl (Nat.le_of_ble_eq_true rfl) (ev_X4_hasPlace G seq1 hq) ?_
  refine z_ifB_ne (tgt := 21) dX7_at_8 (by decide) (fun c8 => (tf _ (c8) (hr)).elim) (fun c8 => ?_)
  exact z_throw hG x_i rfl (by decide) (List.mem_of_getElem? (i := 1) rfl) dX7_at_11 dX7_at_14 dX7_at_15 dX7_at_17 dX7_at_20 rfl
set_option maxRecDepth 100000 in
theorem evx_X7_at_2 (G : Gt) (hG : G.1.stackTraces = false) {a b n : Nat} {E Q : Nat → Nat} {μ : Mm} (hq : seqOK μ 1 a b n E Q) {x y : Int32} (hx : inR x n = true) (hr : inR y 4 = false) : EVx G 8 Y_X7_at [rf G 0, .int x, .int y] μ (fun u => u = μ) "java/lang/IllegalArgumentException" := by
  have hn := hq.le
  have hg := hq.g
  have hab := ab_le hg.2.2.2.1 hg.2.2.2.2.2
  have hpw := p1024 hn
  have hpw1 := ppos n
  refine evx_of (by decide) (Nat.le_of_ble_eq_true rfl) ?_
  show Zs G 8 Y_X7_at (fnX G _ _) 0 [(0, rf G 0), (1, .int x), (2, .int y)] [] μ
  refine z_aload_n dX7_at_0 rfl ?_
  refine z_getR (j := 1) dX7_at_1 fl_X7_12 ⟨by decide, _, rfl, rfl⟩ ?_
  refine z_iload_n dX7_at_4 rfl ?_
  refine z_cV1 dX7_at_5 lk_X7_91 (by decide) ⟨by decide, _, rfl⟩ rfl (Nat.le_of_ble_eq_true rfl) (ev_X4_hasPlace G seq1 hq) ?_
  refine z_ifB_ne (tgt := 21) dX7_at_8 (by decide) (fun c8 => ?_) (fun c8 => (tf _ (hx) (c8)).elim)
  refine z_iload_n dX7_at_21 rfl ?_
  refine z_tswD (tgt := 106) dX7_at_22 (by have q := inR_out hr; omega) (by decide) ?_
  exact z_throw hG x_a rfl (by decide) (List.mem_of_getElem? (i := 2) rfl) dX7_at_106 dX7_at_109 dX7_at_110 dX7_at_112 dX7_at_115 rfl
set_option maxRecDepth 100000 in
theorem evx_X7_set_1 (G : Gt) (hG : G.1.stackTraces = false) {a b n : Nat} {E Q : Nat → Nat} {μ : Mm} (hq : seqOK μ 1 a b n E Q) {x y : Int32} (hr : inR x (2 ^ n) = false) : EVx G 8 Y_X7_set [rf G 0, .int x, .int y] μ (fun u => u = μ) "java/lang/IllegalArgumentException" := by
  have hn := hq.le
  have hg := hq.g
  have hab := ab_le hg.2.2.2.1 hg.2.2.2.2.2
  have hpw := p1024 hn
  have hpw1 := ppos n
  refine evx_of (by decide) (Nat.le_of_ble_eq_true rfl) ?_
  show Zs G 8 Y_X7_set (fnX G _ _) 0 [(0, rf G 0), (1, .int x), (2, .int y)] [] μ
  refine z_aload_n dX7_set_0 rfl ?_
  refine z_getR (j := 1) dX7_set_1 fl_X7_12 ⟨by decide, _, rfl, rfl⟩ ?_
  refine z_iload_n dX7_set_4 rfl ?_
  refine z_cV1 dX7_set_5 lk_X7_162 (by decide) ⟨by decide, _, rfl⟩ rfl (Nat.le_of_ble_eq_true rfl) (ev_X4_hasPlaces G seq1 hq) ?_
  refine z_ifB_ne (tgt := 21) dX7_set_8 (by decide) (fun c8 => (tf _ (c8) (hr)).elim) (fun c8 => ?_)
  exact z_throw hG x_a rfl (by decide) (List.mem_of_getElem? (i := 5) rfl) dX7_set_11 dX7_set_14 dX7_set_15 dX7_set_17 dX7_set_20 rfl
set_option maxRecDepth 100000 in
theorem evx_X7_set_2 (G : Gt) (hG : G.1.stackTraces = false) {a b n : Nat} {E Q : Nat → Nat} {μ : Mm} (hq : seqOK μ 1 a b n E Q) {x y : Int32} (hx : inR x (2 ^ n) = true) (hr : inR y 6 = false) : EVx G 8 Y_X7_set [rf G 0, .int x, .int y] μ (fun u => u = μ) "java/lang/IllegalArgumentException" := by
  have hn := hq.le
  have hg := hq.g
  have hab := ab_le hg.2.2.2.1 hg.2.2.2.2.2
  have hpw := p1024 hn
  have hpw1 := ppos n
  refine evx_of (by decide) (Nat.le_of_ble_eq_true rfl) ?_
  show Zs G 8 Y_X7_set (fnX G _ _) 0 [(0, rf G 0), (1, .int x), (2, .int y)] [] μ
  refine z_aload_n dX7_set_0 rfl ?_
  refine z_getR (j := 1) dX7_set_1 fl_X7_12 ⟨by decide, _, rfl, rfl⟩ ?_
  refine z_iload_n dX7_set_4 rfl ?_
  refine z_cV1 dX7_set_5 lk_X7_162 (by decide) ⟨by decide, _, rfl⟩ rfl (Nat.le_of_ble_eq_true rfl) (ev_X4_hasPlaces G seq1 hq) ?_
  refine z_ifB_ne (tgt := 21) dX7_set_8 (by decide) (fun c8 => ?_) (fun c8 => (tf _ (hx) (c8)).elim)
  refine z_iload_n dX7_set_21 rfl ?_
  refine z_tswD (tgt := 153) dX7_set_22 (by have q := inR_out hr; omega) (by decide) ?_
  exact z_throw hG x_a rfl (by decide) (List.mem_of_getElem? (i := 6) rfl) dX7_set_153 dX7_set_156 dX7_set_157 dX7_set_159 dX7_set_162 rfl
set_option maxRecDepth 100000 in
theorem evx_X7_block_1 (G : Gt) (hG : G.1.stackTraces = false) {a b n : Nat} {E Q : Nat → Nat} {μ : Mm} (hq : seqOK μ 1 a b n E Q) {x : Int32} (hr : x < 0) : EVx G 8 Y_X7_block [rf G 0, .int x] μ (fun u => u = μ) "java/lang/IllegalArgumentException" := by
  have hn := hq.le
  have hg := hq.g
  have hab := ab_le hg.2.2.2.1 hg.2.2.2.2.2
  have hpw := p1024 hn
  have hpw1 := ppos n
  refine evx_of (by decide) (Nat.le_of_ble_eq_true rfl) ?_
  show Zs G 8 Y_X7_block (fnX G _ _) 0 [(0, rf G 0), (1, .int x)] [] μ
  refine z_iload_n dX7_block_0 rfl ?_
  refine z_if_ge (tgt := 14) dX7_block_1 (by decide) (fun c1 => absurd hr (by rw [Int32.not_lt]; exact c1)) (fun c1 => ?_)
  exact z_throw hG x_a rfl (by decide) (List.mem_of_getElem? (i := 11) rfl) dX7_block_4 dX7_block_7 dX7_block_8 dX7_block_10 dX7_block_13 rfl
set_option maxRecDepth 100000 in
theorem evx_X7_part_1 (G : Gt) (hG : G.1.stackTraces = false) {a b n : Nat} {E Q : Nat → Nat} {μ : Mm} (hq : seqOK μ 1 a b n E Q) {x y : Int32} (hr : inR x 6 = false) : EVx G 8 Y_X7_part [rf G 0, .int x, .int y] μ (fun u => u = μ) "java/lang/IllegalArgumentException" := by
  have hn := hq.le
  have hg := hq.g
  have hab := ab_le hg.2.2.2.1 hg.2.2.2.2.2
  have hpw := p1024 hn
  have hpw1 := ppos n
  refine evx_of (by decide) (Nat.le_of_ble_eq_true rfl) ?_
  show Zs G 8 Y_X7_part (fnX G _ _) 0 [(0, rf G 0), (1, .int x), (2, .int y)] [] μ
  refine z_iload_n dX7_part_0 rfl ?_
  refine z_cS1 dX7_part_1 lk_X7_100 (by decide) (Nat.le_of_ble_eq_true rfl) (ev_X7_isPart G) ?_
  refine z_ifB_ne (tgt := 17) dX7_part_4 (by decide) (fun c4 => (tf _ (c4) (hr)).elim) (fun c4 => ?_)
  exact z_throw hG x_a rfl (by decide) (List.mem_of_getElem? (i := 3) rfl) dX7_part_7 dX7_part_10 dX7_part_11 dX7_part_13 dX7_part_16 rfl
set_option maxRecDepth 100000 in
theorem evx_X7_part_2 (G : Gt) (hG : G.1.stackTraces = false) {a b n : Nat} {E Q : Nat → Nat} {μ : Mm} (hq : seqOK μ 1 a b n E Q) {x : Nat} {y : Int32} (hx : x < 6) (hr : inR y 3 = false) : EVx G 8 Y_X7_part [rf G 0, .int (nI x), .int y] μ (fun u => u = μ) "java/lang/IllegalArgumentException" := by
  have hn := hq.le
  have hg := hq.g
  have hab := ab_le hg.2.2.2.1 hg.2.2.2.2.2
  have hpw := p1024 hn
  have hpw1 := ppos n
  refine evx_of (by decide) (Nat.le_of_ble_eq_true rfl) ?_
  show Zs G 8 Y_X7_part (fnX G _ _) 0 [(0, rf G 0), (1, .int (nI x)), (2, .int y)] [] μ
  refine z_iload_n dX7_part_0 rfl ?_
  refine z_cS1 dX7_part_1 lk_X7_100 (by decide) (Nat.le_of_ble_eq_true rfl) (ev_X7_isPart G) ?_
  refine z_ifB_ne (tgt := 17) dX7_part_4 (by decide) (fun c4 => ?_) (fun c4 => (tf _ (inT hx (by decide)) (c4)).elim)
  refine z_aload_n dX7_part_17 rfl ?_
  refine z_getR (j := 1) dX7_part_18 fl_X7_12 ⟨by decide, _, rfl, rfl⟩ ?_
  refine z_iload_n dX7_part_21 rfl ?_
  refine z_cV1 dX7_part_22 lk_X7_194 (by decide) ⟨by decide, _, rfl⟩ rfl (Nat.le_of_ble_eq_true rfl) (ev_X4_placesOf G seq1 hq (by omega)) ?_
  refine z_istore_n (lv' := [(3, _), (0, _), (1, _), (2, _)]) dX7_part_25 rfl (by decide) rfl ?_
  refine z_iload_n dX7_part_26 rfl ?_
  refine z_tswD (tgt := 94) dX7_part_27 (by have q := inR_out hr; omega) (by decide) ?_
  exact z_throw hG x_a rfl (by decide) (List.mem_of_getElem? (i := 4) rfl) dX7_part_94 dX7_part_97 dX7_part_98 dX7_part_100 dX7_part_103 rfl
set_option maxRecDepth 100000 in
theorem evx_X7_whole_1 (G : Gt) (hG : G.1.stackTraces = false) {a b n : Nat} {E Q : Nat → Nat} {μ : Mm} (hq : seqOK μ 1 a b n E Q) {x : Int32} (hr : inR x 14 = false) : EVx G 8 Y_X7_whole [rf G 0, .int x] μ (fun u => u = μ) "java/lang/IllegalArgumentException" := by
  have hn := hq.le
  have hg := hq.g
  have hab := ab_le hg.2.2.2.1 hg.2.2.2.2.2
  have hpw := p1024 hn
  have hpw1 := ppos n
  refine evx_of (by decide) (Nat.le_of_ble_eq_true rfl) ?_
  show Zs G 8 Y_X7_whole (fnX G _ _) 0 [(0, rf G 0), (1, .int x)] [] μ
  refine z_iload_n dX7_whole_0 rfl ?_
  refine z_tswD (tgt := 241) dX7_whole_1 (by have q := inR_out hr; omega) (by decide) ?_
  exact z_throw hG x_a rfl (by decide) (List.mem_of_getElem? (i := 0) rfl) dX7_whole_241 dX7_whole_244 dX7_whole_245 dX7_whole_247 dX7_whole_250 rfl
set_option maxRecDepth 100000 in
theorem evx_X7_reason_1 (G : Gt) (hG : G.1.stackTraces = false) {a b n : Nat} {E Q : Nat → Nat} {μ : Mm} (hq : seqOK μ 1 a b n E Q) {x : Int32} (hr : inR x 6 = false) : EVx G 8 Y_X7_reason [rf G 0, .int x] μ (fun u => u = μ) "java/lang/IllegalArgumentException" := by
  have hn := hq.le
  have hg := hq.g
  have hab := ab_le hg.2.2.2.1 hg.2.2.2.2.2
  have hpw := p1024 hn
  have hpw1 := ppos n
  refine evx_of (by decide) (Nat.le_of_ble_eq_true rfl) ?_
  show Zs G 8 Y_X7_reason (fnX G _ _) 0 [(0, rf G 0), (1, .int x)] [] μ
  refine z_iload_n dX7_reason_0 rfl ?_
  refine z_cS1 dX7_reason_1 lk_X7_100 (by decide) (Nat.le_of_ble_eq_true rfl) (ev_X7_isPart G) ?_
  refine z_ifB_ne (tgt := 17) dX7_reason_4 (by decide) (fun c4 => (tf _ (c4) (hr)).elim) (fun c4 => ?_)
  exact z_throw hG x_a rfl (by decide) (List.mem_of_getElem? (i := 3) rfl) dX7_reason_7 dX7_reason_10 dX7_reason_11 dX7_reason_13 dX7_reason_16 rfl
set_option maxRecDepth 100000 in
theorem evx_X7_blocksWith_1 (G : Gt) (hG : G.1.stackTraces = false) {a b n : Nat} {E Q : Nat → Nat} {μ : Mm} (hq : seqOK μ 1 a b n E Q) {x y : Int32} (hr : inR x (a * b) = false) : EVx G 8 Y_X7_blocksWith [rf G 0, .int x, .int y] μ (fun u => u = μ) "java/lang/IndexOutOfBoundsException" := by
  have hn := hq.le
  have hg := hq.g
  have hab := ab_le hg.2.2.2.1 hg.2.2.2.2.2
  have hpw := p1024 hn
  have hpw1 := ppos n
  refine evx_of (by decide) (Nat.le_of_ble_eq_true rfl) ?_
  show Zs G 8 Y_X7_blocksWith (fnX G _ _) 0 [(0, rf G 0), (1, .int x), (2, .int y)] [] μ
  refine z_aload_n dX7_blocksWith_0 rfl ?_
  refine z_getR (j := 1) dX7_blocksWith_1 fl_X7_12 ⟨by decide, _, rfl, rfl⟩ ?_
  refine z_getR (j := 2) dX7_blocksWith_4 fl_X7_56 ⟨by decide, _, rfl, rfl⟩ ?_
  refine z_iload_n dX7_blocksWith_7 rfl ?_
  refine z_cV1 dX7_blocksWith_8 lk_X7_66 (by decide) ⟨by decide, _, rfl⟩ rfl (Nat.le_of_ble_eq_true rfl) (ev_X2_has G (isSeq.g seq1) hq.g) ?_
  refine z_ifB_ne (tgt := 24) dX7_blocksWith_11 (by decide) (fun c11 => (tf _ (c11) (hr)).elim) (fun c11 => ?_)
  exact z_throw hG x_i rfl (by decide) (List.mem_of_getElem? (i := 8) rfl) dX7_blocksWith_14 dX7_blocksWith_17 dX7_blocksWith_18 dX7_blocksWith_20 dX7_blocksWith_23 rfl
set_option maxRecDepth 100000 in
theorem evx_X7_blocksWith_2 (G : Gt) (hG : G.1.stackTraces = false) {a b n : Nat} {E Q : Nat → Nat} {μ : Mm} (hq : seqOK μ 1 a b n E Q) {x y : Int32} (hx : inR x (a * b) = true) (hr : (inR y 12 && decide (y ≠ nI 0)) = false) : EVx G 8 Y_X7_blocksWith [rf G 0, .int x, .int y] μ (fun u => u = μ) "java/lang/IllegalArgumentException" := by
  have hn := hq.le
  have hg := hq.g
  have hab := ab_le hg.2.2.2.1 hg.2.2.2.2.2
  have hpw := p1024 hn
  have hpw1 := ppos n
  refine evx_of (by decide) (Nat.le_of_ble_eq_true rfl) ?_
  show Zs G 8 Y_X7_blocksWith (fnX G _ _) 0 [(0, rf G 0), (1, .int x), (2, .int y)] [] μ
  refine z_aload_n dX7_blocksWith_0 rfl ?_
  refine z_getR (j := 1) dX7_blocksWith_1 fl_X7_12 ⟨by decide, _, rfl, rfl⟩ ?_
  refine z_getR (j := 2) dX7_blocksWith_4 fl_X7_56 ⟨by decide, _, rfl, rfl⟩ ?_
  refine z_iload_n dX7_blocksWith_7 rfl ?_
  refine z_cV1 dX7_blocksWith_8 lk_X7_66 (by decide) ⟨by decide, _, rfl⟩ rfl (Nat.le_of_ble_eq_true rfl) (ev_X2_has G (isSeq.g seq1) hq.g) ?_
  refine z_ifB_ne (tgt := 24) dX7_blocksWith_11 (by decide) (fun c11 => ?_) (fun c11 => (tf _ (hx) (c11)).elim)
  refine z_iload_n dX7_blocksWith_24 rfl ?_
  refine z_iconst (v := nI 1) dX7_blocksWith_25 (by decide) ?_
  refine z_icmp_lt (tgt := 35) dX7_blocksWith_26 (by decide) (fun c26 => ?_) (fun c26 => ?_)
  · exact z_throw hG x_a rfl (by decide) (List.mem_of_getElem? (i := 12) rfl) dX7_blocksWith_35 dX7_blocksWith_38 dX7_blocksWith_39 dX7_blocksWith_41 dX7_blocksWith_44 rfl
  · refine z_iload_n dX7_blocksWith_29 rfl ?_
    refine z_bipush (v := nI 11) dX7_blocksWith_30 (by decide) ?_
    refine z_icmp_le (tgt := 45) dX7_blocksWith_32 (by decide) (fun c32 => (tf _ (in_lh (n := 11) (by decide) c26 c32) hr).elim) (fun c32 => ?_)
    exact z_throw hG x_a rfl (by decide) (List.mem_of_getElem? (i := 12) rfl) dX7_blocksWith_35 dX7_blocksWith_38 dX7_blocksWith_39 dX7_blocksWith_41 dX7_blocksWith_44 rfl
set_option maxRecDepth 100000 in
theorem evx_X7_alike_1 (G : Gt) (hG : G.1.stackTraces = false) {a b n : Nat} {E Q : Nat → Nat} {μ : Mm} (hq : seqOK μ 1 a b n E Q) {x y : Int32} (hr : inR x (2 ^ n) = false) : EVx G 8 Y_X7_alike [rf G 0, .int x, .int y] μ (fun u => u = μ) "java/lang/IllegalArgumentException" := by
  have hn := hq.le
  have hg := hq.g
  have hab := ab_le hg.2.2.2.1 hg.2.2.2.2.2
  have hpw := p1024 hn
  have hpw1 := ppos n
  refine evx_of (by decide) (Nat.le_of_ble_eq_true rfl) ?_
  show Zs G 8 Y_X7_alike (fnX G _ _) 0 [(0, rf G 0), (1, .int x), (2, .int y)] [] μ
  refine z_aload_n dX7_alike_0 rfl ?_
  refine z_getR (j := 1) dX7_alike_1 fl_X7_12 ⟨by decide, _, rfl, rfl⟩ ?_
  refine z_iload_n dX7_alike_4 rfl ?_
  refine z_cV1 dX7_alike_5 lk_X7_162 (by decide) ⟨by decide, _, rfl⟩ rfl (Nat.le_of_ble_eq_true rfl) (ev_X4_hasPlaces G seq1 hq) ?_
  refine z_ifB_eq (tgt := 22) dX7_alike_8 (by decide) (fun c8 => ?_) (fun c8 => (tf _ (c8) (hr)).elim)
  exact z_throw hG x_a rfl (by decide) (List.mem_of_getElem? (i := 5) rfl) dX7_alike_22 dX7_alike_25 dX7_alike_26 dX7_alike_28 dX7_alike_31 rfl
set_option maxRecDepth 100000 in
theorem evx_X7_alike_2 (G : Gt) (hG : G.1.stackTraces = false) {a b n : Nat} {E Q : Nat → Nat} {μ : Mm} (hq : seqOK μ 1 a b n E Q) {x y : Int32} (hx : inR x (2 ^ n) = true) (hr : inR y (2 ^ n) = false) : EVx G 8 Y_X7_alike [rf G 0, .int x, .int y] μ (fun u => u = μ) "java/lang/IllegalArgumentException" := by
  have hn := hq.le
  have hg := hq.g
  have hab := ab_le hg.2.2.2.1 hg.2.2.2.2.2
  have hpw := p1024 hn
  have hpw1 := ppos n
  refine evx_of (by decide) (Nat.le_of_ble_eq_true rfl) ?_
  show Zs G 8 Y_X7_alike (fnX G _ _) 0 [(0, rf G 0), (1, .int x), (2, .int y)] [] μ
  refine z_aload_n dX7_alike_0 rfl ?_
  refine z_getR (j := 1) dX7_alike_1 fl_X7_12 ⟨by decide, _, rfl, rfl⟩ ?_
  refine z_iload_n dX7_alike_4 rfl ?_
  refine z_cV1 dX7_alike_5 lk_X7_162 (by decide) ⟨by decide, _, rfl⟩ rfl (Nat.le_of_ble_eq_true rfl) (ev_X4_hasPlaces G seq1 hq) ?_
  refine z_ifB_eq (tgt := 22) dX7_alike_8 (by decide) (fun c8 => (tf _ (hx) (c8)).elim) (fun c8 => ?_)
  refine z_aload_n dX7_alike_11 rfl ?_
  refine z_getR (j := 1) dX7_alike_12 fl_X7_12 ⟨by decide, _, rfl, rfl⟩ ?_
  refine z_iload_n dX7_alike_15 rfl ?_
  refine z_cV1 dX7_alike_16 lk_X7_162 (by decide) ⟨by decide, _, rfl⟩ rfl (Nat.le_of_ble_eq_true rfl) (ev_X4_hasPlaces G seq1 hq) ?_
  refine z_ifB_ne (tgt := 32) dX7_alike_19 (by decide) (fun c19 => (tf _ (c19) (hr)).elim) (fun c19 => ?_)
  exact z_throw hG x_a rfl (by decide) (List.mem_of_getElem? (i := 5) rfl) dX7_alike_22 dX7_alike_25 dX7_alike_26 dX7_alike_28 dX7_alike_31 rfl
set_option maxRecDepth 100000 in
theorem evx_X7_type_1 (G : Gt) (hG : G.1.stackTraces = false) {tn : Nat} {T : Nat → Nat} {μ : Mm} (htx : txOK μ tn T) {x : Int32} (hr : inR x 128 = false) : EVx G 8 Y_X7_type [rf G 0, .int x] μ (fun u => u = μ) "java/lang/IllegalArgumentException" := by
  refine evx_of (by decide) (Nat.le_of_ble_eq_true rfl) ?_
  show Zs G 8 Y_X7_type (fnX G _ _) 0 [(0, rf G 0), (1, .int x)] [] μ
  refine z_iload_n dX7_type_0 rfl ?_
  refine z_if_lt (tgt := 10) dX7_type_1 (by decide) (fun c1 => ?_) (fun c1 => ?_)
  · exact z_throw hG x_a rfl (by decide) (List.mem_of_getElem? (i := 13) rfl) dX7_type_10 dX7_type_13 dX7_type_14 dX7_type_16 dX7_type_19 rfl
  · refine z_iload_n dX7_type_4 rfl ?_
    refine z_bipush (v := nI 127) dX7_type_5 (by decide) ?_
    refine z_icmp_le (tgt := 20) dX7_type_7 (by decide) (fun c7 => (tf _ (in_0h (n := 127) (by decide) c1 c7) hr).elim) (fun c7 => ?_)
    exact z_throw hG x_a rfl (by decide) (List.mem_of_getElem? (i := 13) rfl) dX7_type_10 dX7_type_13 dX7_type_14 dX7_type_16 dX7_type_19 rfl
set_option maxRecDepth 100000 in
theorem evx_X7_type_2 (G : Gt) (hG : G.1.stackTraces = false) {tn : Nat} {T : Nat → Nat} {μ : Mm} (htx : txOK μ tn T) {x : Nat} (hx : x < 128) (hr : tn = 150) : EVx G 8 Y_X7_type [rf G 0, .int (nI x)] μ (fun u => u = μ) "java/lang/IllegalStateException" := by
  refine evx_of (by decide) (Nat.le_of_ble_eq_true rfl) ?_
  show Zs G 8 Y_X7_type (fnX G _ _) 0 [(0, rf G 0), (1, .int (nI x))] [] μ
  refine z_iload_n dX7_type_0 rfl ?_
  refine z_ifN_lt (tgt := 10) dX7_type_1 (by decide) (by omega) ?_
  refine z_iload_n dX7_type_4 rfl ?_
  refine z_bipush (v := nI 127) dX7_type_5 (by decide) ?_
  refine z_icmpN_le (tgt := 20) dX7_type_7 (by decide) (by omega) (by omega) (fun c7 => ?_) (fun c7 => absurd c7 (by omega))
  refine z_aload_n dX7_type_20 rfl ?_
  refine z_getR (j := 33) dX7_type_21 fl_X7_33 ⟨by decide, _, rfl, rfl⟩ ?_
  refine z_getI dX7_type_24 fl_X7_222 ⟨by decide, _, rfl, rfl⟩ htx.n ?_
  refine z_sipush (v := nI 150) dX7_type_27 (by decide) ?_
  refine z_icmpN_lt (tgt := 43) dX7_type_30 (by decide) (by omega) (by omega) (fun c30 => absurd c30 (by omega)) (fun c30 => ?_)
  exact z_throw hG x_s rfl (by decide) (List.mem_of_getElem? (i := 14) rfl) dX7_type_33 dX7_type_36 dX7_type_37 dX7_type_39 dX7_type_42 rfl
set_option maxRecDepth 100000 in
theorem evx_X7_undo_1 (G : Gt) (hG : G.1.stackTraces = false) {μ : Mm} (hc : μ.1 5 1 = nI 0) : EVx G 8 Y_X7_undo [rf G 0] μ (fun u => u = μ) "java/lang/IllegalStateException" := by
  refine evx_of (by decide) (Nat.le_of_ble_eq_true rfl) ?_
  show Zs G 8 Y_X7_undo (fnX G _ _) 0 [(0, rf G 0)] [] μ
  refine z_aload_n dX7_undo_0 rfl ?_
  refine z_getR (j := 5) dX7_undo_1 fl_X7_19 ⟨by decide, _, rfl, rfl⟩ ?_
  refine z_getI dX7_undo_4 fl_X7_267 ⟨by decide, _, rfl, rfl⟩ hc ?_
  refine z_ifN_ne (tgt := 21) dX7_undo_7 (by decide) (by omega) (fun c7 => absurd rfl c7) (fun c7 => ?_)
  exact z_throwW hG x_s rfl (by decide) (List.mem_of_getElem? (i := 15) rfl) dX7_undo_10 dX7_undo_13 dX7_undo_14 dX7_undo_17 dX7_undo_20 rfl
