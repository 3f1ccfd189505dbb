theorem hsOK.u3 {μ : Mm} {c : Nat} {S : Nat → St} (h : hsOK μ c S) (x : Int32) : hsOK (uF μ 35 3 x) c S := h.q (uF_n _ _ (by omega)) rfl
theorem f4_u3 {μ : Mm} {v : Int32} (h : μ.1 35 4 = v) (x : Int32) : (uF μ 35 3 x).1 35 4 = v := by rw [uF_n _ _ (by omega)]; exact h
/-- behind an operation that saved and wrote row 36 -/
theorem op_post {μ u u2 : Mm} {c : Nat} {S : Nat → St} {x : St} (hs : svF (uF μ 35 3 (nI 0)) u) (hh : hsOK u c S) (hn : nwF u u2) (hx : nwSt u2 x) : opF μ u2 ∧ nwSt u2 x ∧ hsOK u2 c S ∧ u2.1 35 3 = nI 0 := by
  refine ⟨((opF.rf.u3 _).trans hs.o).trans hn.o, hx, hh.n hn, ?_⟩
  rw [hn.1, hs.1 35 3 (by omega)]; exact uF_s _ _ _ _
theorem nw_begin {μ : Mm} {a b x y n : Nat} {E Q : Nat → Nat} (hx : 1 ≤ x) (hx6 : x ≤ 6) (hy : 1 ≤ y) (hy6 : y ≤ 6) : nwOK (uR (uR (uR μ 36 0 (nI x)) 36 1 (nI y)) 36 2 (nI 0)) x y 0 E Q := by
  refine ⟨?_, ?_, ?_, by omega, ⟨hx, hx6, hy, hy6⟩, fun k hk => by omega, fun k hk => by omega⟩
  · rw [uR_s, upd_n _ _ (by decide), uR_s, upd_n _ _ (by decide), uR_s, upd_s]
  · rw [uR_s, upd_n _ _ (by decide), uR_s, upd_s]
  · rw [uR_s, upd_s]
theorem nw_add {μ : Mm} {a b n x : Nat} {E Q : Nat → Nat} (h : nwOK μ a b n E Q) (hx : x < a * b) (hn : n < 10) : nwOK (uR (uR (uR μ 36 (3 + n) (nI x)) 36 (13 + n) (nI 0)) 36 2 (nI (n + 1))) a b (n + 1) (upE E n x) (upE Q n 0) := by
  refine ⟨?_, ?_, ?_, by omega, h.g, fun k hk => ?_, fun k hk => ?_⟩
  · rw [uR_s, upd_n _ _ (by omega), uR_s, upd_n _ _ (by omega), uR_s, upd_n _ _ (by omega)]; exact h.va
  · rw [uR_s, upd_n _ _ (by omega), uR_s, upd_n _ _ (by omega), uR_s, upd_n _ _ (by omega)]; exact h.vb
  · rw [uR_s, upd_s]
  · rw [uR_s, upd_n _ _ (by omega), uR_s, upd_n _ _ (by omega), uR_s]
    unfold upE
    by_cases e : k = n
    · subst e; rw [upd_s, if_pos rfl]; exact ⟨rfl, hx⟩
    · rw [upd_n _ _ (by omega), if_neg e]; exact ⟨h.e (by omega), h.el (by omega)⟩
  · rw [uR_s, upd_n _ _ (by omega), uR_s]
    unfold upE
    by_cases e : k = n
    · subst e; rw [upd_s, if_pos rfl]; exact ⟨rfl, by omega⟩
    · rw [upd_n _ _ (by omega), if_neg e, uR_s, upd_n _ _ (by omega)]; exact ⟨h.p (by omega), h.pl (by omega)⟩
theorem nw_lay {μ : Mm} {a b n p y : Nat} {E Q : Nat → Nat} (h : nwOK μ a b n E Q) (hp : p < n) (hy : y < 6) : nwOK (uR μ 36 (13 + p) (nI y)) a b n E (upE Q p y) := by
  have hn := h.le
  refine ⟨?_, ?_, ?_, h.le, h.g, fun k hk => ?_, fun k hk => ?_⟩
  · rw [uR_s, upd_n _ _ (by omega)]; exact h.va
  · rw [uR_s, upd_n _ _ (by omega)]; exact h.vb
  · rw [uR_s, upd_n _ _ (by omega)]; exact h.vn
  · rw [uR_s, upd_n _ _ (by omega)]; exact ⟨h.e hk, h.el hk⟩
  · rw [uR_s]
    unfold upE
    by_cases e : k = p
    · subst e; rw [upd_s, if_pos rfl]; exact ⟨rfl, hy⟩
    · rw [upd_n _ _ (by omega), if_neg e]; exact ⟨h.p hk, h.pl hk⟩
theorem tk_step {E : Nat → Nat} {p k j : Nat} (hp : p ≤ k) : tkN E p (k + 1) j = if j = k then E (k + 1) else tkN E p k j := by
  unfold tkN
  by_cases e : j = k
  · subst e; rw [if_pos (by omega), if_pos rfl]
  · rw [if_neg e]
    by_cases e2 : p ≤ j ∧ j < k
    · rw [if_pos (by omega), if_pos e2]
    · rw [if_neg (by omega), if_neg e2]
/-- row 36 while an element is taken out -/
def rmI (μ : Mm) (a b n p k : Nat) (E Q : Nat → Nat) : Prop := μ.2.1 36 0 = nI a ∧ μ.2.1 36 1 = nI b ∧ μ.2.1 36 2 = nI (n - 1) ∧ (∀ j : Nat, j < n → μ.2.1 36 (3 + j) = nI (tkN E p k j)) ∧ ∀ j : Nat, j < n → μ.2.1 36 (13 + j) = nI (tkN Q p k j)
theorem rm_step {μ : Mm} {a b n p k : Nat} {E Q : Nat → Nat} (h : rmI μ a b n p k E Q) (hp : p ≤ k) (hk : k + 1 < n) (hn : n ≤ 10) : rmI (uR (uR μ 36 (3 + k) (nI (E (k + 1)))) 36 (13 + k) (nI (Q (k + 1)))) a b n p (k + 1) E Q := by
  obtain ⟨h1, h2, h3, h4, h5⟩ := h
  refine ⟨?_, ?_, ?_, fun j hj => ?_, fun j hj => ?_⟩
  · rw [uR_s, upd_n _ _ (by omega), uR_s, upd_n _ _ (by omega)]; exact h1
  · rw [uR_s, upd_n _ _ (by omega), uR_s, upd_n _ _ (by omega)]; exact h2
  · rw [uR_s, upd_n _ _ (by omega), uR_s, upd_n _ _ (by omega)]; exact h3
  · rw [uR_s, upd_n _ _ (by omega), uR_s, tk_step hp]
    by_cases e : j = k
    · subst e; rw [upd_s, if_pos rfl]
    · rw [upd_n _ _ (by omega), if_neg e]; exact h4 j hj
  · rw [uR_s, tk_step hp]
    by_cases e : j = k
    · subst e; rw [upd_s, if_pos rfl]
    · rw [upd_n _ _ (by omega), if_neg e, uR_s, upd_n _ _ (by omega)]; exact h5 j hj
theorem rm_at {μ : Mm} {a b n p k : Nat} {E Q : Nat → Nat} (h : rmI μ a b n p k E Q) (hk : k + 1 < n) : μ.2.1 36 (3 + k + 1) = nI (E (k + 1)) := by
  rw [show 3 + k + 1 = 3 + (k + 1) by omega, h.2.2.2.1 (k + 1) hk]
  unfold tkN; rw [if_neg (by omega)]
theorem rm_at2 {μ : Mm} {a b n p k : Nat} {E Q : Nat → Nat} (h : rmI μ a b n p k E Q) (hk : k + 1 < n) : μ.2.1 36 (13 + k + 1) = nI (Q (k + 1)) := by
  rw [show 13 + k + 1 = 13 + (k + 1) by omega, h.2.2.2.2 (k + 1) hk]
  unfold tkN; rw [if_neg (by omega)]
theorem rm_end {μ0 μ : Mm} {a b n p : Nat} {E Q : Nat → Nat} (h0 : nwOK μ0 a b n E Q) (h : rmI μ a b n p (n - 1) E Q) (hp : p < n) : nwOK μ a b (n - 1) (rmN E p) (rmN Q p) := by
  have hn := h0.le
  obtain ⟨h1, h2, h3, h4, h5⟩ := h
  have tk : ∀ (F : Nat → Nat) (k : Nat), k < n - 1 → tkN F p (n - 1) k = rmN F p k := by
    intro F k hk
    unfold tkN rmN
    by_cases e : k < p
    · rw [if_neg (by omega), if_pos e]
    · rw [if_pos (by omega), if_neg e]
  have rl : ∀ (F : Nat → Nat) (B : Nat) (k : Nat), (∀ j : Nat, j < n → F j < B) → k < n - 1 → rmN F p k < B := by
    intro F B k hF hk
    unfold rmN
    split
    · exact hF _ (by omega)
    · exact hF _ (by omega)
  exact ⟨h1, h2, h3, by omega, h0.g, fun k hk => ⟨by rw [h4 k (by omega), tk E k hk], rl E _ k (fun j hj => h0.el hj) hk⟩, fun k hk => ⟨by rw [h5 k (by omega), tk Q k hk], rl Q _ k (fun j hj => h0.pl hj) hk⟩⟩
theorem isM_T {x : Nat} (h1 : 1 ≤ x) (h2 : x ≤ 6) : (inR (nI x) 7 && decide (nI x ≠ nI 0)) = true := by
  rw [inT (by omega) (by decide), Bool.true_and]
  exact decide_eq_true (fun e => by have := (nI_eq (a := x) (b := 0) (by omega) (by decide)).mp e; omega)
set_option maxRecDepth 100000 in
theorem ev_X8_begin_r1 (G : Gt) {a b n : Nat} {E Q : Nat → Nat} {μ : Mm} (h : nwOK μ a b n E Q) {x y : Int32} (hr : isM x = false) : EVw G 1 Y_X8_begin [rf G 35, .int x, .int y] μ (.int (nI 0)) (uF μ 35 3 (nI 1)) := by
  have hab := h.ab
  have hn := h.le
  have hpw := p1024 hn
  have hpw1 := ppos n
  refine ev_of (by decide) (Nat.le_of_ble_eq_true rfl) ?_
  show Zs G 1 Y_X8_begin (fnN G _) 0 [(0, rf G 35), (1, .int x), (2, .int y)] [] μ
  refine z_aload_n dX8_begin_0 rfl ?_
  refine z_iload_n dX8_begin_1 rfl ?_
  refine z_iconst (v := nI 1) dX8_begin_2 (by decide) ?_
  refine z_bipush (v := nI 6) dX8_begin_3 (by decide) ?_
  refine z_cS3 dX8_begin_5 lk_X8_60 (by decide) (Nat.le_of_ble_eq_true rfl) (ev_X8_wi1 G (n := 6) (by decide)) ?_
  refine z_ifB_eq (tgt := 21) dX8_begin_8 (by decide) (fun c8 => ?_) (fun c8 => (tf _ (c8) (hr)).elim)
  refine z_iconst (v := nI 1) dX8_begin_21 (by decide) ?_
  refine z_goto (tgt := 26) dX8_begin_22 (by decide) ?_
  refine z_cV1w dX8_begin_26 lk_X8_52 (by decide) ⟨by decide, _, rfl⟩ rfl (Nat.le_of_ble_eq_true rfl) (ev_X8_refused G (w := 1) (by decide)) ?_
  refine z_ifB_eq (tgt := 34) dX8_begin_29 (by decide) (fun c29 => absurd c29 (by decide)) (fun c29 => ?_)
  refine z_iconst (v := nI 0) dX8_begin_32 (by decide) ?_
  exact z_ret (ty := none) (v := none) rfl dX8_begin_33 ⟨rfl, rfl⟩
set_option maxRecDepth 100000 in
theorem ev_X8_begin_r2 (G : Gt) {a b n : Nat} {E Q : Nat → Nat} {μ : Mm} (h : nwOK μ a b n E Q) {x y : Int32} (hx : isM x = true) (hr : isM y = false) : EVw G 1 Y_X8_begin [rf G 35, .int x, .int y] μ (.int (nI 0)) (uF μ 35 3 (nI 1)) := by
  have hab := h.ab
  have hn := h.le
  have hpw := p1024 hn
  have hpw1 := ppos n
  refine ev_of (by decide) (Nat.le_of_ble_eq_true rfl) ?_
  show Zs G 1 Y_X8_begin (fnN G _) 0 [(0, rf G 35), (1, .int x), (2, .int y)] [] μ
  refine z_aload_n dX8_begin_0 rfl ?_
  refine z_iload_n dX8_begin_1 rfl ?_
  refine z_iconst (v := nI 1) dX8_begin_2 (by decide) ?_
  refine z_bipush (v := nI 6) dX8_begin_3 (by decide) ?_
  refine z_cS3 dX8_begin_5 lk_X8_60 (by decide) (Nat.le_of_ble_eq_true rfl) (ev_X8_wi1 G (n := 6) (by decide)) ?_
  refine z_ifB_eq (tgt := 21) dX8_begin_8 (by decide) (fun c8 => (tf _ (hx) (c8)).elim) (fun c8 => ?_)
  refine z_iload_n dX8_begin_11 rfl ?_
  refine z_iconst (v := nI 1) dX8_begin_12 (by decide) ?_
  refine z_bipush (v := nI 6) dX8_begin_13 (by decide) ?_
  refine z_cS3 dX8_begin_15 lk_X8_60 (by decide) (Nat.le_of_ble_eq_true rfl) (ev_X8_wi1 G (n := 6) (by decide)) ?_
  refine z_ifB_ne (tgt := 25) dX8_begin_18 (by decide) (fun c18 => (tf _ (c18) (hr)).elim) (fun c18 => ?_)
  refine z_iconst (v := nI 1) dX8_begin_21 (by decide) ?_
  refine z_goto (tgt := 26) dX8_begin_22 (by decide) ?_
  refine z_cV1w dX8_begin_26 lk_X8_52 (by decide) ⟨by decide, _, rfl⟩ rfl (Nat.le_of_ble_eq_true rfl) (ev_X8_refused G (w := 1) (by decide)) ?_
  refine z_ifB_eq (tgt := 34) dX8_begin_29 (by decide) (fun c29 => absurd c29 (by decide)) (fun c29 => ?_)
  refine z_iconst (v := nI 0) dX8_begin_32 (by decide) ?_
  exact z_ret (ty := none) (v := none) rfl dX8_begin_33 ⟨rfl, rfl⟩
set_option maxRecDepth 100000 in
theorem ev_X8_begin (G : Gt) {a b n c : Nat} {E Q : Nat → Nat} {S : Nat → St} {ru : Bool} {μ : Mm} (h : nwOK μ a b n E Q) (hh : hsOK μ c S) (h4 : μ.1 35 4 = bI ru) {x y : Nat} (hx : 1 ≤ x) (hx6 : x ≤ 6) (hy : 1 ≤ y) (hy6 : y ≤ 6) : EV G 1 Y_X8_begin [rf G 35, .int (nI x), .int (nI y)] μ (fun v u => v = some (.int (nI (x * y))) ∧ opF μ u ∧ nwSt u (x, y, 0, E, Q) ∧ hsOK u (kqC ru c) (kqS ru c S (a, b, n, E, Q)) ∧ u.1 35 3 = nI 0) := by
  have hab := h.ab
  have hn := h.le
  have hpw := p1024 hn
  have hpw1 := ppos n
  refine ev_of (by decide) (Nat.le_of_ble_eq_true rfl) ?_
  show Zs G 1 Y_X8_begin (fnN G _) 0 [(0, rf G 35), (1, .int (nI x)), (2, .int (nI y))] [] μ
  refine z_aload_n dX8_begin_0 rfl ?_
  refine z_iload_n dX8_begin_1 rfl ?_
  refine z_iconst (v := nI 1) dX8_begin_2 (by decide) ?_
  refine z_bipush (v := nI 6) dX8_begin_3 (by decide) ?_
  refine z_cS3 dX8_begin_5 lk_X8_60 (by decide) (Nat.le_of_ble_eq_true rfl) (ev_X8_wi1 G (n := 6) (by decide)) ?_
  refine z_ifB_eq (tgt := 21) dX8_begin_8 (by decide) (fun c8 => (tf _ (isM_T hx hx6) (c8)).elim) (fun c8 => ?_)
  refine z_iload_n dX8_begin_11 rfl ?_
  refine z_iconst (v := nI 1) dX8_begin_12 (by decide) ?_
  refine z_bipush (v := nI 6) dX8_begin_13 (by decide) ?_
  refine z_cS3 dX8_begin_15 lk_X8_60 (by decide) (Nat.le_of_ble_eq_true rfl) (ev_X8_wi1 G (n := 6) (by decide)) ?_
  refine z_ifB_ne (tgt := 25) dX8_begin_18 (by decide) (fun c18 => ?_) (fun c18 => (tf _ (isM_T hy hy6) (c18)).elim)
  refine z_iconst (v := nI 0) dX8_begin_25 (by decide) ?_
  refine z_cV1w dX8_begin_26 lk_X8_52 (by decide) ⟨by decide, _, rfl⟩ rfl (Nat.le_of_ble_eq_true rfl) (ev_X8_refused G (w := 0) (by decide)) ?_
  refine z_ifB_eq (tgt := 34) dX8_begin_29 (by decide) (fun c29 => ?_) (fun c29 => absurd c29 (by decide))
  refine z_aload_n dX8_begin_34 rfl ?_
  refine z_cV0g dX8_begin_35 lk_X8_72 (by decide) ⟨by decide, _, rfl⟩ rfl (Nat.le_of_ble_eq_true rfl) (ev_X8_saves G (x := (a, b, n, E, Q)) (ru := ru) (h.u3 _) (hh.u3 _) (f4_u3 h4 _)) ?_
  rintro v u ⟨rfl, hs, hh2⟩
  have hu : nwOK u a b n E Q := (h.u3 (nI 0)).s hs
  refine z_aload_n dX8_begin_38 rfl ?_
  refine z_getR (j := 36) dX8_begin_39 fl_X8_7 ⟨by decide, _, rfl, rfl⟩ ?_
  refine z_iconst (v := nI 0) dX8_begin_42 (by decide) ?_
  refine z_iload_n dX8_begin_43 rfl ?_
  refine z_iastN dX8_begin_44 ⟨by decide, rfl⟩ (by omega) (by decide) ?_
  refine z_aload_n dX8_begin_45 rfl ?_
  refine z_getR (j := 36) dX8_begin_46 fl_X8_7 ⟨by decide, _, rfl, rfl⟩ ?_
  refine z_iconst (v := nI 1) dX8_begin_49 (by decide) ?_
  refine z_iload_n dX8_begin_50 rfl ?_
  refine z_iastN dX8_begin_51 ⟨by decide, rfl⟩ (by omega) (by decide) ?_
  refine z_aload_n dX8_begin_52 rfl ?_
  refine z_getR (j := 36) dX8_begin_53 fl_X8_7 ⟨by decide, _, rfl, rfl⟩ ?_
  refine z_iconst (v := nI 2) dX8_begin_56 (by decide) ?_
  refine z_iconst (v := nI 0) dX8_begin_57 (by decide) ?_
  refine z_iastN dX8_begin_58 ⟨by decide, rfl⟩ (by omega) (by decide) ?_
  refine z_aload_n dX8_begin_59 rfl ?_
  have hb := nw_begin (μ := u) (a := a) (b := b) (n := n) (E := E) (Q := Q) hx hx6 hy hy6
  refine z_cV0 dX8_begin_60 lk_X8_56 (by decide) ⟨by decide, _, rfl⟩ rfl (Nat.le_of_ble_eq_true rfl) (ev_X8_size G hb.G) ?_
  exact z_ret (ty := none) (v := none) rfl dX8_begin_63 ⟨rfl, op_post hs hh2 (((nwF.rf.r _ _).r _ _).r _ _) hb⟩
set_option maxRecDepth 100000 in
theorem ev_X8_add_r1 (G : Gt) {a b n : Nat} {E Q : Nat → Nat} {μ : Mm} (h : nwOK μ a b n E Q) {x : Int32} (hr : inR x (a * b) = false) : EVw G 2 Y_X8_add [rf G 35, .int x] μ (.int (nI 0)) (uF μ 35 3 (nI 1)) := by
  have hab := h.ab
  have hn := h.le
  have hpw := p1024 hn
  have hpw1 := ppos n
  refine ev_of (by decide) (Nat.le_of_ble_eq_true rfl) ?_
  show Zs G 2 Y_X8_add (fnN G _) 0 [(0, rf G 35), (1, .int x)] [] μ
  refine z_aload_n dX8_add_0 rfl ?_
  refine z_aload_n dX8_add_1 rfl ?_
  refine z_iload_n dX8_add_2 rfl ?_
  refine z_cV1 dX8_add_3 lk_X8_75 (by decide) ⟨by decide, _, rfl⟩ rfl (Nat.le_of_ble_eq_true rfl) (ev_X8_isElement G h.G) ?_
  refine z_ifB_ne (tgt := 13) dX8_add_6 (by decide) (fun c6 => (tf _ (c6) (hr)).elim) (fun c6 => ?_)
  refine z_iconst (v := nI 1) dX8_add_9 (by decide) ?_
  refine z_goto (tgt := 29) dX8_add_10 (by decide) ?_
  refine z_cV1w dX8_add_29 lk_X8_52 (by decide) ⟨by decide, _, rfl⟩ rfl (Nat.le_of_ble_eq_true rfl) (ev_X8_refused G (w := 1) (by decide)) ?_
  refine z_ifB_eq (tgt := 37) dX8_add_32 (by decide) (fun c32 => absurd c32 (by decide)) (fun c32 => ?_)
  refine z_iconst (v := nI 0) dX8_add_35 (by decide) ?_
  exact z_ret (ty := none) (v := none) rfl dX8_add_36 ⟨rfl, rfl⟩
set_option maxRecDepth 100000 in
theorem ev_X8_add_r2 (G : Gt) {a b n : Nat} {E Q : Nat → Nat} {μ : Mm} (h : nwOK μ a b n E Q) {x : Int32} (hx : inR x (a * b) = true) (hr : n = 10) : EVw G 2 Y_X8_add [rf G 35, .int x] μ (.int (nI 0)) (uF μ 35 3 (nI 2)) := by
  have hab := h.ab
  have hn := h.le
  have hpw := p1024 hn
  have hpw1 := ppos n
  refine ev_of (by decide) (Nat.le_of_ble_eq_true rfl) ?_
  show Zs G 2 Y_X8_add (fnN G _) 0 [(0, rf G 35), (1, .int x)] [] μ
  refine z_aload_n dX8_add_0 rfl ?_
  refine z_aload_n dX8_add_1 rfl ?_
  refine z_iload_n dX8_add_2 rfl ?_
  refine z_cV1 dX8_add_3 lk_X8_75 (by decide) ⟨by decide, _, rfl⟩ rfl (Nat.le_of_ble_eq_true rfl) (ev_X8_isElement G h.G) ?_
  refine z_ifB_ne (tgt := 13) dX8_add_6 (by decide) (fun c6 => ?_) (fun c6 => (tf _ (hx) (c6)).elim)
  refine z_aload_n dX8_add_13 rfl ?_
  refine z_getR (j := 36) dX8_add_14 fl_X8_7 ⟨by decide, _, rfl, rfl⟩ ?_
  refine z_iconst (v := nI 2) dX8_add_17 (by decide) ?_
  refine z_ialdN dX8_add_18 ⟨by decide, rfl⟩ (by omega) (by decide) h.vn ?_
  refine z_bipush (v := nI 10) dX8_add_19 (by decide) ?_
  refine z_icmpN_ne (tgt := 28) dX8_add_21 (by decide) (by omega) (by omega) (fun c21 => absurd hr c21) (fun c21 => ?_)
  refine z_iconst (v := nI 2) dX8_add_24 (by decide) ?_
  refine z_goto (tgt := 29) dX8_add_25 (by decide) ?_
  refine z_cV1w dX8_add_29 lk_X8_52 (by decide) ⟨by decide, _, rfl⟩ rfl (Nat.le_of_ble_eq_true rfl) (ev_X8_refused G (w := 2) (by decide)) ?_
  refine z_ifB_eq (tgt := 37) dX8_add_32 (by decide) (fun c32 => absurd c32 (by decide)) (fun c32 => ?_)
  refine z_iconst (v := nI 0) dX8_add_35 (by decide) ?_
  exact z_ret (ty := none) (v := none) rfl dX8_add_36 ⟨rfl, rfl⟩
set_option maxRecDepth 100000 in
theorem ev_X8_add (G : Gt) {a b n c : Nat} {E Q : Nat → Nat} {S : Nat → St} {ru : Bool} {μ : Mm} (h : nwOK μ a b n E Q) (hh : hsOK μ c S) (h4 : μ.1 35 4 = bI ru) {x : Nat} (hx : x < a * b) (hn10 : n < 10) : EV G 2 Y_X8_add [rf G 35, .int (nI x)] μ (fun v u => v = some (.int (nI n)) ∧ opF μ u ∧ nwSt u (a, b, n + 1, upE E n x, upE Q n 0) ∧ hsOK u (kqC ru c) (kqS ru c S (a, b, n, E, Q)) ∧ u.1 35 3 = nI 0) := by
  have hab := h.ab
  have hn := h.le
  have hpw := p1024 hn
  have hpw1 := ppos n
  refine ev_of (by decide) (Nat.le_of_ble_eq_true rfl) ?_
  show Zs G 2 Y_X8_add (fnN G _) 0 [(0, rf G 35), (1, .int (nI x))] [] μ
  refine z_aload_n dX8_add_0 rfl ?_
  refine z_aload_n dX8_add_1 rfl ?_
  refine z_iload_n dX8_add_2 rfl ?_
  refine z_cV1 dX8_add_3 lk_X8_75 (by decide) ⟨by decide, _, rfl⟩ rfl (Nat.le_of_ble_eq_true rfl) (ev_X8_isElement G h.G) ?_
  refine z_ifB_ne (tgt := 13) dX8_add_6 (by decide) (fun c6 => ?_) (fun c6 => (tf _ (inT hx (by omega)) (c6)).elim)
  refine z_aload_n dX8_add_13 rfl ?_
  refine z_getR (j := 36) dX8_add_14 fl_X8_7 ⟨by decide, _, rfl, rfl⟩ ?_
  refine z_iconst (v := nI 2) dX8_add_17 (by decide) ?_
  refine z_ialdN dX8_add_18 ⟨by decide, rfl⟩ (by omega) (by decide) h.vn ?_
  refine z_bipush (v := nI 10) dX8_add_19 (by decide) ?_
  refine z_icmpN_ne (tgt := 28) dX8_add_21 (by decide) (by omega) (by omega) (fun c21 => ?_) (fun c21 => absurd c21 (by omega))
  refine z_iconst (v := nI 0) dX8_add_28 (by decide) ?_
  refine z_cV1w dX8_add_29 lk_X8_52 (by decide) ⟨by decide, _, rfl⟩ rfl (Nat.le_of_ble_eq_true rfl) (ev_X8_refused G (w := 0) (by decide)) ?_
  refine z_ifB_eq (tgt := 37) dX8_add_32 (by decide) (fun c32 => ?_) (fun c32 => absurd c32 (by decide))
  refine z_aload_n dX8_add_37 rfl ?_
  refine z_cV0g dX8_add_38 lk_X8_72 (by decide) ⟨by decide, _, rfl⟩ rfl (Nat.le_of_ble_eq_true rfl) (ev_X8_saves G (x := (a, b, n, E, Q)) (ru := ru) (h.u3 _) (hh.u3 _) (f4_u3 h4 _)) ?_
  rintro v u ⟨rfl, hs, hh2⟩
  have hu : nwOK u a b n E Q := (h.u3 (nI 0)).s hs
  refine z_aload_n dX8_add_41 rfl ?_
  refine z_getR (j := 36) dX8_add_42 fl_X8_7 ⟨by decide, _, rfl, rfl⟩ ?_
  refine z_iconst (v := nI 2) dX8_add_45 (by decide) ?_
  refine z_ialdN dX8_add_46 ⟨by decide, rfl⟩ (by omega) (by decide) hu.vn ?_
  refine z_istore_n (lv' := [(2, _), (0, _), (1, _)]) dX8_add_47 rfl (by decide) rfl ?_
  refine z_aload_n dX8_add_48 rfl ?_
  refine z_getR (j := 36) dX8_add_49 fl_X8_7 ⟨by decide, _, rfl, rfl⟩ ?_
  refine z_iconst (v := nI 3) dX8_add_52 (by decide) ?_
  refine z_iload_n dX8_add_53 rfl ?_
  refine z_iaddN dX8_add_54 ?_
  refine z_iload_n dX8_add_55 rfl ?_
  refine z_iastN dX8_add_56 ⟨by decide, rfl⟩ (by omega) (by decide) ?_
  refine z_aload_n dX8_add_57 rfl ?_
  refine z_getR (j := 36) dX8_add_58 fl_X8_7 ⟨by decide, _, rfl, rfl⟩ ?_
  refine z_bipush (v := nI 13) dX8_add_61 (by decide) ?_
  refine z_iload_n dX8_add_63 rfl ?_
  refine z_iaddN dX8_add_64 ?_
  refine z_iconst (v := nI 0) dX8_add_65 (by decide) ?_
  refine z_iastN dX8_add_66 ⟨by decide, rfl⟩ (by omega) (by decide) ?_
  refine z_aload_n dX8_add_67 rfl ?_
  refine z_getR (j := 36) dX8_add_68 fl_X8_7 ⟨by decide, _, rfl, rfl⟩ ?_
  refine z_iconst (v := nI 2) dX8_add_71 (by decide) ?_
  refine z_dup2 dX8_add_72 rfl rfl ?_
  refine z_ialdN dX8_add_73 ⟨by decide, rfl⟩ (by omega) (by decide) (show _ = nI n by rw [uR_s, upd_n _ _ (by omega), uR_s, upd_n _ _ (by omega)]; exact hu.vn) ?_
  refine z_iconst (v := nI 1) dX8_add_74 (by decide) ?_
  refine z_iaddN dX8_add_75 ?_
  refine z_iastN dX8_add_76 ⟨by decide, rfl⟩ (by omega) (by decide) ?_
  refine z_iload_n dX8_add_77 rfl ?_
  exact z_ret (ty := none) (v := none) rfl dX8_add_78 ⟨rfl, op_post hs hh2 (((nwF.rf.r _ _).r _ _).r _ _) (nw_add hu hx hn10)⟩
set_option maxRecDepth 100000 in
theorem ev_X8_lay_r1 (G : Gt) {a b n : Nat} {E Q : Nat → Nat} {μ : Mm} (h : nwOK μ a b n E Q) {x y : Int32} (hr : inR x n = false) : EVw G 2 Y_X8_lay [rf G 35, .int x, .int y] μ (.int (nI 0)) (uF μ 35 3 (nI 1)) := by
  have hab := h.ab
  have hn := h.le
  have hpw := p1024 hn
  have hpw1 := ppos n
  refine ev_of (by decide) (Nat.le_of_ble_eq_true rfl) ?_
  show Zs G 2 Y_X8_lay (fnN G _) 0 [(0, rf G 35), (1, .int x), (2, .int y)] [] μ
  refine z_aload_n dX8_lay_0 rfl ?_
  refine z_aload_n dX8_lay_1 rfl ?_
  refine z_iload_n dX8_lay_2 rfl ?_
  refine z_cV1 dX8_lay_3 lk_X8_78 (by decide) ⟨by decide, _, rfl⟩ rfl (Nat.le_of_ble_eq_true rfl) (ev_X8_isPlace G h) ?_
  refine z_ifB_ne (tgt := 13) dX8_lay_6 (by decide) (fun c6 => (tf _ (c6) (hr)).elim) (fun c6 => ?_)
  refine z_iconst (v := nI 1) dX8_lay_9 (by decide) ?_
  refine z_goto (tgt := 27) dX8_lay_10 (by decide) ?_
  refine z_cV1w dX8_lay_27 lk_X8_52 (by decide) ⟨by decide, _, rfl⟩ rfl (Nat.le_of_ble_eq_true rfl) (ev_X8_refused G (w := 1) (by decide)) ?_
  refine z_ifB_eq (tgt := 35) dX8_lay_30 (by decide) (fun c30 => absurd c30 (by decide)) (fun c30 => ?_)
  refine z_iconst (v := nI 0) dX8_lay_33 (by decide) ?_
  exact z_ret (ty := none) (v := none) rfl dX8_lay_34 ⟨rfl, rfl⟩
set_option maxRecDepth 100000 in
theorem ev_X8_lay_r2 (G : Gt) {a b n : Nat} {E Q : Nat → Nat} {μ : Mm} (h : nwOK μ a b n E Q) {x y : Int32} (hx : inR x n = true) (hr : inR y 6 = false) : EVw G 2 Y_X8_lay [rf G 35, .int x, .int y] μ (.int (nI 0)) (uF μ 35 3 (nI 2)) := by
  have hab := h.ab
  have hn := h.le
  have hpw := p1024 hn
  have hpw1 := ppos n
  refine ev_of (by decide) (Nat.le_of_ble_eq_true rfl) ?_
  show Zs G 2 Y_X8_lay (fnN G _) 0 [(0, rf G 35), (1, .int x), (2, .int y)] [] μ
  refine z_aload_n dX8_lay_0 rfl ?_
  refine z_aload_n dX8_lay_1 rfl ?_
  refine z_iload_n dX8_lay_2 rfl ?_
  refine z_cV1 dX8_lay_3 lk_X8_78 (by decide) ⟨by decide, _, rfl⟩ rfl (Nat.le_of_ble_eq_true rfl) (ev_X8_isPlace G h) ?_
  refine z_ifB_ne (tgt := 13) dX8_lay_6 (by decide) (fun c6 => ?_) (fun c6 => (tf _ (hx) (c6)).elim)
  refine z_iload_n dX8_lay_13 rfl ?_
  refine z_iconst (v := nI 0) dX8_lay_14 (by decide) ?_
  refine z_iconst (v := nI 5) dX8_lay_15 (by decide) ?_
  refine z_cS3 dX8_lay_16 lk_X8_60 (by decide) (Nat.le_of_ble_eq_true rfl) (ev_X8_wi G (n := 5) (by decide)) ?_
  refine z_ifB_ne (tgt := 26) dX8_lay_19 (by decide) (fun c19 => (tf _ (c19) (hr)).elim) (fun c19 => ?_)
  refine z_iconst (v := nI 2) dX8_lay_22 (by decide) ?_
  refine z_goto (tgt := 27) dX8_lay_23 (by decide) ?_
  refine z_cV1w dX8_lay_27 lk_X8_52 (by decide) ⟨by decide, _, rfl⟩ rfl (Nat.le_of_ble_eq_true rfl) (ev_X8_refused G (w := 2) (by decide)) ?_
  refine z_ifB_eq (tgt := 35) dX8_lay_30 (by decide) (fun c30 => absurd c30 (by decide)) (fun c30 => ?_)
  refine z_iconst (v := nI 0) dX8_lay_33 (by decide) ?_
  exact z_ret (ty := none) (v := none) rfl dX8_lay_34 ⟨rfl, rfl⟩
set_option maxRecDepth 100000 in
theorem ev_X8_lay (G : Gt) {a b n c : Nat} {E Q : Nat → Nat} {S : Nat → St} {ru : Bool} {μ : Mm} (h : nwOK μ a b n E Q) (hh : hsOK μ c S) (h4 : μ.1 35 4 = bI ru) {p y : Nat} (hp : p < n) (hy : y < 6) : EV G 2 Y_X8_lay [rf G 35, .int (nI p), .int (nI y)] μ (fun v u => v = some (.int (nI (Q p))) ∧ opF μ u ∧ nwSt u (a, b, n, E, upE Q p y) ∧ hsOK u (kqC ru c) (kqS ru c S (a, b, n, E, Q)) ∧ u.1 35 3 = nI 0) := by
  have hab := h.ab
  have hn := h.le
  have hpw := p1024 hn
  have hpw1 := ppos n
  refine ev_of (by decide) (Nat.le_of_ble_eq_true rfl) ?_
  show Zs G 2 Y_X8_lay (fnN G _) 0 [(0, rf G 35), (1, .int (nI p)), (2, .int (nI y))] [] μ
  refine z_aload_n dX8_lay_0 rfl ?_
  refine z_aload_n dX8_lay_1 rfl ?_
  refine z_iload_n dX8_lay_2 rfl ?_
  refine z_cV1 dX8_lay_3 lk_X8_78 (by decide) ⟨by decide, _, rfl⟩ rfl (Nat.le_of_ble_eq_true rfl) (ev_X8_isPlace G h) ?_
  refine z_ifB_ne (tgt := 13) dX8_lay_6 (by decide) (fun c6 => ?_) (fun c6 => (tf _ (inT hp (by omega)) (c6)).elim)
  refine z_iload_n dX8_lay_13 rfl ?_
  refine z_iconst (v := nI 0) dX8_lay_14 (by decide) ?_
  refine z_iconst (v := nI 5) dX8_lay_15 (by decide) ?_
  refine z_cS3 dX8_lay_16 lk_X8_60 (by decide) (Nat.le_of_ble_eq_true rfl) (ev_X8_wi G (n := 5) (by decide)) ?_
  refine z_ifB_ne (tgt := 26) dX8_lay_19 (by decide) (fun c19 => ?_) (fun c19 => (tf _ (inT hy (by decide)) (c19)).elim)
  refine z_iconst (v := nI 0) dX8_lay_26 (by decide) ?_
  refine z_cV1w dX8_lay_27 lk_X8_52 (by decide) ⟨by decide, _, rfl⟩ rfl (Nat.le_of_ble_eq_true rfl) (ev_X8_refused G (w := 0) (by decide)) ?_
  refine z_ifB_eq (tgt := 35) dX8_lay_30 (by decide) (fun c30 => ?_) (fun c30 => absurd c30 (by decide))
  refine z_aload_n dX8_lay_35 rfl ?_
  refine z_cV0g dX8_lay_36 lk_X8_72 (by decide) ⟨by decide, _, rfl⟩ rfl (Nat.le_of_ble_eq_true rfl) (ev_X8_saves G (x := (a, b, n, E, Q)) (ru := ru) (h.u3 _) (hh.u3 _) (f4_u3 h4 _)) ?_
  rintro v u ⟨rfl, hs, hh2⟩
  have hu : nwOK u a b n E Q := (h.u3 (nI 0)).s hs
  refine z_aload_n dX8_lay_39 rfl ?_
  refine z_getR (j := 36) dX8_lay_40 fl_X8_7 ⟨by decide, _, rfl, rfl⟩ ?_
  refine z_bipush (v := nI 13) dX8_lay_43 (by decide) ?_
  refine z_iload_n dX8_lay_45 rfl ?_
  refine z_iaddN dX8_lay_46 ?_
  refine z_ialdN dX8_lay_47 ⟨by decide, rfl⟩ (by omega) (by decide) (hu.p hp) ?_
  refine z_istore_n (lv' := [(3, _), (0, _), (1, _), (2, _)]) dX8_lay_48 rfl (by decide) rfl ?_
  refine z_aload_n dX8_lay_49 rfl ?_
  refine z_getR (j := 36) dX8_lay_50 fl_X8_7 ⟨by decide, _, rfl, rfl⟩ ?_
  refine z_bipush (v := nI 13) dX8_lay_53 (by decide) ?_
  refine z_iload_n dX8_lay_55 rfl ?_
  refine z_iaddN dX8_lay_56 ?_
  refine z_iload_n dX8_lay_57 rfl ?_
  refine z_iastN dX8_lay_58 ⟨by decide, rfl⟩ (by omega) (by decide) ?_
  refine z_iload_n dX8_lay_59 rfl ?_
  exact z_ret (ty := none) (v := none) rfl dX8_lay_60 ⟨rfl, op_post hs hh2 (nwF.rf.r _ _) (nw_lay hu hp hy)⟩
set_option maxRecDepth 100000 in
theorem ev_X8_removeAt_r1 (G : Gt) {a b n : Nat} {E Q : Nat → Nat} {μ : Mm} (h : nwOK μ a b n E Q) {x : Int32} (hr : inR x n = false) : EVw G 2 Y_X8_removeAt [rf G 35, .int x] μ (.int (nI 0)) (uF μ 35 3 (nI 1)) := by
  have hab := h.ab
  have hn := h.le
  have hpw := p1024 hn
  have hpw1 := ppos n
  refine ev_of (by decide) (Nat.le_of_ble_eq_true rfl) ?_
  show Zs G 2 Y_X8_removeAt (fnN G _) 0 [(0, rf G 35), (1, .int x)] [] μ
  refine z_aload_n dX8_removeAt_0 rfl ?_
  refine z_aload_n dX8_removeAt_1 rfl ?_
  refine z_iload_n dX8_removeAt_2 rfl ?_
  refine z_cV1 dX8_removeAt_3 lk_X8_78 (by decide) ⟨by decide, _, rfl⟩ rfl (Nat.le_of_ble_eq_true rfl) (ev_X8_isPlace G h) ?_
  refine z_ifB_ne (tgt := 13) dX8_removeAt_6 (by decide) (fun c6 => (tf _ (c6) (hr)).elim) (fun c6 => ?_)
  refine z_iconst (v := nI 1) dX8_removeAt_9 (by decide) ?_
  refine z_goto (tgt := 14) dX8_removeAt_10 (by decide) ?_
  refine z_cV1w dX8_removeAt_14 lk_X8_52 (by decide) ⟨by decide, _, rfl⟩ rfl (Nat.le_of_ble_eq_true rfl) (ev_X8_refused G (w := 1) (by decide)) ?_
  refine z_ifB_eq (tgt := 22) dX8_removeAt_17 (by decide) (fun c17 => absurd c17 (by decide)) (fun c17 => ?_)
  refine z_iconst (v := nI 0) dX8_removeAt_20 (by decide) ?_
  exact z_ret (ty := none) (v := none) rfl dX8_removeAt_21 ⟨rfl, rfl⟩
set_option maxRecDepth 100000 in
theorem lp_X8_removeAt (G : Gt) {a b n p e : Nat} {E Q : Nat → Nat} (hn : n ≤ 10) (hp : p < n) {μ0 : Mm} : ∀ (f k : Nat) (μ : Mm), k + f = n - 1 → p ≤ k → nwF μ0 μ → rmI μ a b n p k E Q →
    Zs G 2 Y_X8_removeAt (fnN G (fun v u => v = some (.int (nI e)) ∧ nwF μ0 u ∧ rmI u a b n p (n - 1) E Q)) 47 [(0, rf G 35), (2, .int (nI e)), (3, .int (nI k))] [] μ := by
  intro f
  induction f with
  | zero =>
    intro k μ hf hpk hq hr
    have hk : k = n - 1 := by omega
    subst hk
    refine z_iload_n dX8_removeAt_47 rfl ?_
    refine z_aload_n dX8_removeAt_48 rfl ?_
    refine z_getR (j := 36) dX8_removeAt_49 fl_X8_7 ⟨by decide, _, rfl, rfl⟩ ?_
    refine z_iconst (v := nI 2) dX8_removeAt_52 (by decide) ?_
    refine z_ialdN dX8_removeAt_53 ⟨by decide, rfl⟩ (by omega) (by decide) hr.2.2.1 ?_
    refine z_icmpN_ge (tgt := 101) dX8_removeAt_54 (by decide) (by omega) (by omega) (fun c54 => ?_) (fun c54 => absurd c54 (by omega))
    refine z_iload_n dX8_removeAt_101 rfl ?_
    exact z_ret (ty := none) (v := none) rfl dX8_removeAt_102 ⟨rfl, hq, hr⟩
  | succ f ih =>
    intro k μ hf hpk hq hr
    refine z_iload_n dX8_removeAt_47 rfl ?_
    refine z_aload_n dX8_removeAt_48 rfl ?_
    refine z_getR (j := 36) dX8_removeAt_49 fl_X8_7 ⟨by decide, _, rfl, rfl⟩ ?_
    refine z_iconst (v := nI 2) dX8_removeAt_52 (by decide) ?_
    refine z_ialdN dX8_removeAt_53 ⟨by decide, rfl⟩ (by omega) (by decide) hr.2.2.1 ?_
    refine z_icmpN_ge (tgt := 101) dX8_removeAt_54 (by decide) (by omega) (by omega) (fun c54 => absurd c54 (by omega)) (fun c54 => ?_)
    refine z_aload_n dX8_removeAt_57 rfl ?_
    refine z_getR (j := 36) dX8_removeAt_58 fl_X8_7 ⟨by decide, _, rfl, rfl⟩ ?_
    refine z_iconst (v := nI 3) dX8_removeAt_61 (by decide) ?_
    refine z_iload_n dX8_removeAt_62 rfl ?_
    refine z_iaddN dX8_removeAt_63 ?_
    refine z_aload_n dX8_removeAt_64 rfl ?_
    refine z_getR (j := 36) dX8_removeAt_65 fl_X8_7 ⟨by decide, _, rfl, rfl⟩ ?_
    refine z_iconst (v := nI 3) dX8_removeAt_68 (by decide) ?_
    refine z_iload_n dX8_removeAt_69 rfl ?_
    refine z_iaddN dX8_removeAt_70 ?_
    refine z_iconst (v := nI 1) dX8_removeAt_71 (by decide) ?_
    refine z_iaddN dX8_removeAt_72 ?_
    refine z_ialdN dX8_removeAt_73 ⟨by decide, rfl⟩ (by omega) (by decide) (rm_at hr (by omega)) ?_
    refine z_iastN dX8_removeAt_74 ⟨by decide, rfl⟩ (by omega) (by decide) ?_
    refine z_aload_n dX8_removeAt_75 rfl ?_
    refine z_getR (j := 36) dX8_removeAt_76 fl_X8_7 ⟨by decide, _, rfl, rfl⟩ ?_
    refine z_bipush (v := nI 13) dX8_removeAt_79 (by decide) ?_
    refine z_iload_n dX8_removeAt_81 rfl ?_
    refine z_iaddN dX8_removeAt_82 ?_
    refine z_aload_n dX8_removeAt_83 rfl ?_
    refine z_getR (j := 36) dX8_removeAt_84 fl_X8_7 ⟨by decide, _, rfl, rfl⟩ ?_
    refine z_bipush (v := nI 13) dX8_removeAt_87 (by decide) ?_
    refine z_iload_n dX8_removeAt_89 rfl ?_
    refine z_iaddN dX8_removeAt_90 ?_
    refine z_iconst (v := nI 1) dX8_removeAt_91 (by decide) ?_
    refine z_iaddN dX8_removeAt_92 ?_
    refine z_ialdN dX8_removeAt_93 ⟨by decide, rfl⟩ (by omega) (by decide) (show _ = nI (Q (k + 1)) by rw [uR_s, upd_n _ _ (by omega)]; exact rm_at2 hr (by omega)) ?_
    refine z_iastN dX8_removeAt_94 ⟨by decide, rfl⟩ (by omega) (by decide) ?_
    refine z_iinc (v := nI (k + 1)) (lv' := [(3, _), (0, _), (2, _)]) dX8_removeAt_95 rfl (nI_inc _ 1) (by decide) rfl ?_
    refine z_goto (tgt := 47) dX8_removeAt_98 (by decide) ?_
    have q := ih (k + 1) _ (by omega) (by omega) ((hq.r (3 + k) (nI (E (k + 1)))).r (13 + k) (nI (Q (k + 1)))) (rm_step hr hpk (by omega) hn)
    refine z_sub (lv' := [(0, _), (2, _), (3, _)]) rfl ?_
    exact q
set_option maxRecDepth 100000 in
theorem ev_X8_removeAt (G : Gt) {a b n c : Nat} {E Q : Nat → Nat} {S : Nat → St} {ru : Bool} {μ : Mm} (h : nwOK μ a b n E Q) (hh : hsOK μ c S) (h4 : μ.1 35 4 = bI ru) {p : Nat} (hp : p < n) : EV G 2 Y_X8_removeAt [rf G 35, .int (nI p)] μ (fun v u => v = some (.int (nI (E p))) ∧ opF μ u ∧ nwSt u (a, b, n - 1, rmN E p, rmN Q p) ∧ hsOK u (kqC ru c) (kqS ru c S (a, b, n, E, Q)) ∧ u.1 35 3 = nI 0) := by
  have hab := h.ab
  have hn := h.le
  have hpw := p1024 hn
  have hpw1 := ppos n
  refine ev_of (by decide) (Nat.le_of_ble_eq_true rfl) ?_
  show Zs G 2 Y_X8_removeAt (fnN G _) 0 [(0, rf G 35), (1, .int (nI p))] [] μ
  refine z_aload_n dX8_removeAt_0 rfl ?_
  refine z_aload_n dX8_removeAt_1 rfl ?_
  refine z_iload_n dX8_removeAt_2 rfl ?_
  refine z_cV1 dX8_removeAt_3 lk_X8_78 (by decide) ⟨by decide, _, rfl⟩ rfl (Nat.le_of_ble_eq_true rfl) (ev_X8_isPlace G h) ?_
  refine z_ifB_ne (tgt := 13) dX8_removeAt_6 (by decide) (fun c6 => ?_) (fun c6 => (tf _ (inT hp (by omega)) (c6)).elim)
  refine z_iconst (v := nI 0) dX8_removeAt_13 (by decide) ?_
  refine z_cV1w dX8_removeAt_14 lk_X8_52 (by decide) ⟨by decide, _, rfl⟩ rfl (Nat.le_of_ble_eq_true rfl) (ev_X8_refused G (w := 0) (by decide)) ?_
  refine z_ifB_eq (tgt := 22) dX8_removeAt_17 (by decide) (fun c17 => ?_) (fun c17 => absurd c17 (by decide))
  refine z_aload_n dX8_removeAt_22 rfl ?_
  refine z_cV0g dX8_removeAt_23 lk_X8_72 (by decide) ⟨by decide, _, rfl⟩ rfl (Nat.le_of_ble_eq_true rfl) (ev_X8_saves G (x := (a, b, n, E, Q)) (ru := ru) (h.u3 _) (hh.u3 _) (f4_u3 h4 _)) ?_
  rintro v u ⟨rfl, hs, hh2⟩
  have hu : nwOK u a b n E Q := (h.u3 (nI 0)).s hs
  refine z_aload_n dX8_removeAt_26 rfl ?_
  refine z_getR (j := 36) dX8_removeAt_27 fl_X8_7 ⟨by decide, _, rfl, rfl⟩ ?_
  refine z_iconst (v := nI 3) dX8_removeAt_30 (by decide) ?_
  refine z_iload_n dX8_removeAt_31 rfl ?_
  refine z_iaddN dX8_removeAt_32 ?_
  refine z_ialdN dX8_removeAt_33 ⟨by decide, rfl⟩ (by omega) (by decide) (hu.e hp) ?_
  refine z_istore_n (lv' := [(2, _), (0, _), (1, _)]) dX8_removeAt_34 rfl (by decide) rfl ?_
  refine z_aload_n dX8_removeAt_35 rfl ?_
  refine z_getR (j := 36) dX8_removeAt_36 fl_X8_7 ⟨by decide, _, rfl, rfl⟩ ?_
  refine z_iconst (v := nI 2) dX8_removeAt_39 (by decide) ?_
  refine z_dup2 dX8_removeAt_40 rfl rfl ?_
  refine z_ialdN dX8_removeAt_41 ⟨by decide, rfl⟩ (by omega) (by decide) hu.vn ?_
  refine z_iconst (v := nI 1) dX8_removeAt_42 (by decide) ?_
  refine z_isubN dX8_removeAt_43 (by omega) ?_
  refine z_iastN dX8_removeAt_44 ⟨by decide, rfl⟩ (by omega) (by decide) ?_
  refine z_iload_n dX8_removeAt_45 rfl ?_
  refine z_istore_n (lv' := [(3, _), (2, _), (0, _), (1, _)]) dX8_removeAt_46 rfl (by decide) rfl ?_
  have hi : rmI (uR u 36 2 (nI (n - 1))) a b n p p E Q := by
    have tk : ∀ (F : Nat → Nat) (j : Nat), tkN F p p j = F j := fun F j => by unfold tkN; rw [if_neg (by omega)]
    refine ⟨?_, ?_, ?_, fun j hj => ?_, fun j hj => ?_⟩
    · rw [uR_s, upd_n _ _ (by omega)]; exact hu.va
    · rw [uR_s, upd_n _ _ (by omega)]; exact hu.vb
    · rw [uR_s, upd_s]
    · rw [uR_s, upd_n _ _ (by omega), tk]; exact hu.e hj
    · rw [uR_s, upd_n _ _ (by omega), tk]; exact hu.p hj
  have q := lp_X8_removeAt G (e := E p) hn hp (μ0 := u) (n - 1 - p) p _ (by omega) (Nat.le_refl _) (nwF.rf.r 2 (nI (n - 1))) hi
  refine z_sub (lv' := [(0, _), (2, _), (3, _)]) rfl ?_
  refine Zs.post ?_ q
  rintro v u2 ⟨rfl, hq, hr⟩
  exact ⟨rfl, op_post hs hh2 hq (rm_end hu hr hp)⟩
set_option maxRecDepth 100000 in
theorem ev_X8_type_r1 (G : Gt) {tn : Nat} {T : Nat → Nat} {μ : Mm} (ht : mtOK μ tn T) {x : Int32} (hr : inR x 128 = false) : EVw G 1 Y_X8_type [rf G 35, .int x] μ (.int (nI 0)) (uF μ 35 3 (nI 1)) := by
  have htn := ht.2.1
  refine ev_of (by decide) (Nat.le_of_ble_eq_true rfl) ?_
  show Zs G 1 Y_X8_type (fnN G _) 0 [(0, rf G 35), (1, .int x)] [] μ
  refine z_aload_n dX8_type_0 rfl ?_
  refine z_iload_n dX8_type_1 rfl ?_
  refine z_iconst (v := nI 0) dX8_type_2 (by decide) ?_
  refine z_bipush (v := nI 127) dX8_type_3 (by decide) ?_
  refine z_cS3 dX8_type_5 lk_X8_60 (by decide) (Nat.le_of_ble_eq_true rfl) (ev_X8_wi G (n := 127) (by decide)) ?_
  refine z_ifB_ne (tgt := 15) dX8_type_8 (by decide) (fun c8 => (tf _ (c8) (hr)).elim) (fun c8 => ?_)
  refine z_iconst (v := nI 1) dX8_type_11 (by decide) ?_
  refine z_goto (tgt := 30) dX8_type_12 (by decide) ?_
  refine z_cV1w dX8_type_30 lk_X8_52 (by decide) ⟨by decide, _, rfl⟩ rfl (Nat.le_of_ble_eq_true rfl) (ev_X8_refused G (w := 1) (by decide)) ?_
  refine z_ifB_eq (tgt := 38) dX8_type_33 (by decide) (fun c33 => absurd c33 (by decide)) (fun c33 => ?_)
  refine z_iconst (v := nI 0) dX8_type_36 (by decide) ?_
  exact z_ret (ty := none) (v := none) rfl dX8_type_37 ⟨rfl, rfl⟩
set_option maxRecDepth 100000 in
theorem ev_X8_type_r2 (G : Gt) {tn : Nat} {T : Nat → Nat} {μ : Mm} (ht : mtOK μ tn T) {x : Int32} (hx : inR x 128 = true) (hr : tn = 150) : EVw G 1 Y_X8_type [rf G 35, .int x] μ (.int (nI 0)) (uF μ 35 3 (nI 2)) := by
  have htn := ht.2.1
  refine ev_of (by decide) (Nat.le_of_ble_eq_true rfl) ?_
  show Zs G 1 Y_X8_type (fnN G _) 0 [(0, rf G 35), (1, .int x)] [] μ
  refine z_aload_n dX8_type_0 rfl ?_
  refine z_iload_n dX8_type_1 rfl ?_
  refine z_iconst (v := nI 0) dX8_type_2 (by decide) ?_
  refine z_bipush (v := nI 127) dX8_type_3 (by decide) ?_
  refine z_cS3 dX8_type_5 lk_X8_60 (by decide) (Nat.le_of_ble_eq_true rfl) (ev_X8_wi G (n := 127) (by decide)) ?_
  refine z_ifB_ne (tgt := 15) dX8_type_8 (by decide) (fun c8 => ?_) (fun c8 => (tf _ (hx) (c8)).elim)
  refine z_aload_n dX8_type_15 rfl ?_
  refine z_getI dX8_type_16 fl_X8_149 ⟨by decide, _, rfl, rfl⟩ ht.1 ?_
  refine z_sipush (v := nI 150) dX8_type_19 (by decide) ?_
  refine z_icmpN_ne (tgt := 29) dX8_type_22 (by decide) (by omega) (by omega) (fun c22 => absurd hr c22) (fun c22 => ?_)
  refine z_iconst (v := nI 2) dX8_type_25 (by decide) ?_
  refine z_goto (tgt := 30) dX8_type_26 (by decide) ?_
  refine z_cV1w dX8_type_30 lk_X8_52 (by decide) ⟨by decide, _, rfl⟩ rfl (Nat.le_of_ble_eq_true rfl) (ev_X8_refused G (w := 2) (by decide)) ?_
  refine z_ifB_eq (tgt := 38) dX8_type_33 (by decide) (fun c33 => absurd c33 (by decide)) (fun c33 => ?_)
  refine z_iconst (v := nI 0) dX8_type_36 (by decide) ?_
  exact z_ret (ty := none) (v := none) rfl dX8_type_37 ⟨rfl, rfl⟩
set_option maxRecDepth 100000 in
theorem ev_X8_type (G : Gt) {tn : Nat} {T : Nat → Nat} {μ : Mm} (ht : mtOK μ tn T) {x : Nat} (hx : x < 128) (htl : tn < 150) : EVw G 1 Y_X8_type [rf G 35, .int (nI x)] μ (.int (nI (tn + 1))) (uF (uR (uF μ 35 3 (nI 0)) 38 tn (nI x)) 35 6 (nI (tn + 1))) := by
  have htn := ht.2.1
  refine ev_of (by decide) (Nat.le_of_ble_eq_true rfl) ?_
  show Zs G 1 Y_X8_type (fnN G _) 0 [(0, rf G 35), (1, .int (nI x))] [] μ
  refine z_aload_n dX8_type_0 rfl ?_
  refine z_iload_n dX8_type_1 rfl ?_
  refine z_iconst (v := nI 0) dX8_type_2 (by decide) ?_
  refine z_bipush (v := nI 127) dX8_type_3 (by decide) ?_
  refine z_cS3 dX8_type_5 lk_X8_60 (by decide) (Nat.le_of_ble_eq_true rfl) (ev_X8_wi G (n := 127) (by decide)) ?_
  refine z_ifB_ne (tgt := 15) dX8_type_8 (by decide) (fun c8 => ?_) (fun c8 => (tf _ (inT hx (by decide)) (c8)).elim)
  refine z_aload_n dX8_type_15 rfl ?_
  refine z_getI dX8_type_16 fl_X8_149 ⟨by decide, _, rfl, rfl⟩ ht.1 ?_
  refine z_sipush (v := nI 150) dX8_type_19 (by decide) ?_
  refine z_icmpN_ne (tgt := 29) dX8_type_22 (by decide) (by omega) (by omega) (fun c22 => ?_) (fun c22 => absurd c22 (by omega))
  refine z_iconst (v := nI 0) dX8_type_29 (by decide) ?_
  refine z_cV1w dX8_type_30 lk_X8_52 (by decide) ⟨by decide, _, rfl⟩ rfl (Nat.le_of_ble_eq_true rfl) (ev_X8_refused G (w := 0) (by decide)) ?_
  refine z_ifB_eq (tgt := 38) dX8_type_33 (by decide) (fun c33 => ?_) (fun c33 => absurd c33 (by decide))
  refine z_aload_n dX8_type_38 rfl ?_
  refine z_getR (j := 38) dX8_type_39 fl_X8_16 ⟨by decide, _, rfl, rfl⟩ ?_
  refine z_aload_n dX8_type_42 rfl ?_
  refine z_getI dX8_type_43 fl_X8_149 ⟨by decide, _, rfl, rfl⟩ (show (uF μ 35 3 (nI 0)).1 35 6 = nI tn from (uF_n _ _ (by omega)).trans ht.1) ?_
  refine z_iload_n dX8_type_46 rfl ?_
  refine z_iastN dX8_type_47 ⟨by decide, rfl⟩ (by omega) (by decide) ?_
  refine z_aload_n dX8_type_48 rfl ?_
  refine z_dup dX8_type_49 rfl ?_
  refine z_getI dX8_type_50 fl_X8_149 ⟨by decide, _, rfl, rfl⟩ (show (uF μ 35 3 (nI 0)).1 35 6 = nI tn from (uF_n _ _ (by omega)).trans ht.1) ?_
  refine z_iconst (v := nI 1) dX8_type_53 (by decide) ?_
  refine z_iaddN dX8_type_54 ?_
  refine z_putI dX8_type_55 fp_X8_149 ⟨by decide, _, rfl, rfl⟩ ?_
  refine z_aload_n dX8_type_58 rfl ?_
  refine z_getI dX8_type_59 fl_X8_149 ⟨by decide, _, rfl, rfl⟩ (uF_s _ _ _ _) ?_
  exact z_ret (ty := none) (v := none) rfl dX8_type_62 ⟨rfl, rfl⟩
theorem mt_type {μ : Mm} {n x : Nat} {T : Nat → Nat} (h : mtOK μ n T) (hn : n < 150) (hx : x < 128) : mtOK (uF (uR (uF μ 35 3 (nI 0)) 38 n (nI x)) 35 6 (nI (n + 1))) (n + 1) (upE T n x) := by
  refine ⟨uF_s _ _ _ _, by omega, fun k hk => ?_⟩
  rw [show (uF (uR (uF μ 35 3 (nI 0)) 38 n (nI x)) 35 6 (nI (n + 1))).2.1 38 = upd (μ.2.1 38) n (nI x) from uR_s _ _ _ _]
  unfold upE
  by_cases e : k = n
  · subst e; rw [upd_s, if_pos rfl]; exact ⟨rfl, hx⟩
  · rw [upd_n _ _ e, if_neg e]; exact h.2.2 k (by omega)
set_option maxRecDepth 100000 in
theorem ev_X8_clearCommands (G : Gt) {tn : Nat} {T : Nat → Nat} {μ : Mm} (ht : mtOK μ tn T) : EVw G 0 Y_X8_clearCommands [rf G 35] μ (.int (nI tn)) (uF (uF μ 35 3 (nI 0)) 35 6 (nI 0)) := by
  have htn := ht.2.1
  refine ev_of (by decide) (Nat.le_of_ble_eq_true rfl) ?_
  show Zs G 0 Y_X8_clearCommands (fnN G _) 0 [(0, rf G 35)] [] μ
  refine z_aload_n dX8_clearCommands_0 rfl ?_
  refine z_iconst (v := nI 0) dX8_clearCommands_1 (by decide) ?_
  refine z_putI dX8_clearCommands_2 fp_X8_41 ⟨by decide, _, rfl, rfl⟩ ?_
  refine z_aload_n dX8_clearCommands_5 rfl ?_
  refine z_getI dX8_clearCommands_6 fl_X8_149 ⟨by decide, _, rfl, rfl⟩ (show (uF μ 35 3 (nI 0)).1 35 6 = nI tn from (uF_n _ _ (by omega)).trans ht.1) ?_
  refine z_istore_n (lv' := [(1, _), (0, _)]) dX8_clearCommands_9 rfl (by decide) rfl ?_
  refine z_aload_n dX8_clearCommands_10 rfl ?_
  refine z_iconst (v := nI 0) dX8_clearCommands_11 (by decide) ?_
  refine z_putI dX8_clearCommands_12 fp_X8_149 ⟨by decide, _, rfl, rfl⟩ ?_
  refine z_iload_n dX8_clearCommands_15 rfl ?_
  exact z_ret (ty := none) (v := none) rfl dX8_clearCommands_16 ⟨rfl, rfl⟩
