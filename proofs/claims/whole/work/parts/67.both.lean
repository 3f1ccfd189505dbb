/-- the reference's world of a state -/
def mdOK (μ : Mm) (x : St) (c : Nat) (S : Nat → St) (tn : Nat) (T : Nat → Nat) : Prop := nwSt μ x ∧ hsOK μ c S ∧ mtOK μ tn T ∧ μ.1 35 4 = bI false
/-- what holds between the law's calls: class and reference are in one state -/
def Inv (μ : Mm) : Prop := ∃ (x : St) (c : Nat) (S : Nat → St) (tn : Nat) (T : Nat → Nat), zpOK μ x c S tn T ∧ mdOK μ x c S tn T
section INV
variable {μ u : Mm} {x x' : St} {c c' : Nat} {S S' : Nat → St} {tn : Nat} {T : Nat → Nat}
theorem mdOK.Z (h : mdOK μ x c S tn T) (hf : smZ μ u) : mdOK u x c S tn T := by
  refine ⟨h.1.same (hf.1 36 (by omega)).2, h.2.1.q ((hf.1 35 (by omega)).1 2) (hf.1 37 (by omega)).2, ?_, ((hf.1 35 (by omega)).1 4).trans h.2.2.2⟩
  unfold mtOK
  rw [(hf.1 35 (by omega)).1 6, (hf.1 38 (by omega)).2]; exact h.2.2.1
theorem mdOK.O (h : mdOK μ x c S tn T) (v : Int64) : mdOK (uO μ v) x c S tn T := h
theorem zpOK.O (h : zpOK μ x c S tn T) (v : Int64) : zpOK (uO μ v) x c S tn T := h
theorem zpOK.M (h : zpOK μ x c S tn T) (hf : sm 35 46 μ u) : zpOK u x c S tn T := ⟨h.1.same hf (by omega), h.2.1.same hf.K (by omega), h.2.2.1.same hf (by omega), h.2.2.2.same hf.K (by omega)⟩
theorem mdOK.o (h : mdOK μ x c S tn T) (hf : opF μ u) (h1 : nwSt u x') (h2 : hsOK u c' S') : mdOK u x' c' S' tn T := ⟨h1, h2, h.2.2.1.o hf, (hf.1 35 4 (by omega)).trans h.2.2.2⟩
theorem q_o {w : Int32} (hf : mqF (uF μ 35 3 w) u) : opF μ u := (opF.rf.u3 _).trans hf.o
theorem mdOK.q (h : mdOK μ x c S tn T) {w : Int32} (hf : mqF (uF μ 35 3 w) u) : mdOK u x c S tn T := h.o (q_o hf) ((h.1.u3 w).q hf) ((h.2.1.u3 w).m hf)
theorem evr_q {G : Gt} {d : Nat} {Y : YC} {vs : List Value} {r : Value} (ht : tabX μ) (h : EVr G d Y vs μ r) : EV G d Y vs μ (fun v u => v = some r ∧ sm 23 33 μ u ∧ tabX u) := h.post (fun v u q => ⟨q.1, by rw [q.2]; exact sm.rf, by rw [q.2]; exact ht⟩)
theorem evw_q {G : Gt} {d : Nat} {Y : YC} {vs : List Value} {r : Value} (h : EVw G d Y vs μ r (uF μ 35 3 (nI 0))) : EV G d Y vs μ (fun v u => v = some r ∧ mqF (uF μ 35 3 (nI 0)) u) := h.post (fun v u q => ⟨q.1, by rw [q.2]; exact mqF.rf⟩)
end INV
/-- a call of the law's: what the class's wrapper answers, the reference answers -/
def OpOK (G : Gt) (Yw : YC) (hh : List (Nat × Nat × Nat × Nat)) (wa : List Value) (Ym : YC) (ma : List Value) (μ : Mm) : Prop := ∃ (k : Nat) (PP : Mm → Prop) (dm : Nat), k < 3 ∧ dm ≤ 12 ∧ EVc G 9 Yw hh wa μ (fun v u => v = some (.int (nI k)) ∧ PP u) ∧ ∀ u, PP u → EV G dm Ym ma u (fun v u2 => ∃ b : Int32, v = some (.int b) ∧ u2.1 35 3 = nI k ∧ (k = 0 → u2.2.2.2.2 = b.toInt64) ∧ Inv u2)
section OP
variable {G : Gt} {Yw Ym : YC} {hh : List (Nat × Nat × Nat × Nat)} {wa ma : List Value} {dm : Nat} {μ : Mm} {R : Int32} {x x' : St} {c c' : Nat} {S S' : Nat → St} {tn tn' : Nat} {T T' : Nat → Nat}
theorem q_ok (hz : zpOK μ x c S tn T) (hm : mdOK μ x c S tn T) (hw : EVc G 9 Yw hh wa μ (fun v u => v = some (.int (nI 0)) ∧ ∃ u0, (sm 23 33 μ u0 ∧ tabX u0) ∧ u = uO u0 R.toInt64)) (hmod : ∀ u, mdOK u x c S tn T → EV G dm Ym ma u (fun v u2 => v = some (.int R) ∧ mqF (uF u 35 3 (nI 0)) u2)) (hd : dm ≤ 12) : OpOK G Yw hh wa Ym ma μ := by
  refine ⟨0, _, dm, by decide, hd, hw, ?_⟩
  rintro u ⟨u0, ⟨h1, h2⟩, rfl⟩
  have hm' : mdOK (uO u0 R.toInt64) x c S tn T := (hm.Z (h1.Z (by omega))).O _
  have hz' : zpOK (uO u0 R.toInt64) x c S tn T := (hz.q h1 h2).O _
  refine (hmod _ hm').post (fun v u2 => ?_)
  rintro ⟨rfl, hq⟩
  exact ⟨R, rfl, hq.r3.trans (uF_s _ _ _ _), fun _ => by rw [hq.2.2]; rfl, x, c, S, tn, T, hz'.M (q_o hq).z, hm'.q hq⟩
theorem x_ok {k : Nat} {PP : Mm → Prop} (hk : k < 3) (hk0 : k ≠ 0) (hz : zpOK μ x c S tn T) (hm : mdOK μ x c S tn T) (hw : EVc G 9 Yw hh wa μ (fun v u => v = some (.int (nI k)) ∧ PP u)) (hP : ∀ u, PP u → sm 23 33 μ u ∧ tabX u) (hmod : ∀ u, mdOK u x c S tn T → EVw G dm Ym ma u (.int (nI 0)) (uF u 35 3 (nI k))) (hd : dm ≤ 12) : OpOK G Yw hh wa Ym ma μ := by
  refine ⟨k, _, dm, hk, hd, hw, fun u hu => ?_⟩
  obtain ⟨h1, h2⟩ := hP u hu
  have hm' : mdOK u x c S tn T := hm.Z (h1.Z (by omega))
  have hz' : zpOK u x c S tn T := hz.q h1 h2
  refine (hmod _ hm').post (fun v u2 => ?_)
  rintro ⟨rfl, rfl⟩
  exact ⟨nI 0, rfl, uF_s _ _ _ _, fun q => absurd q hk0, x, c, S, tn, T, hz'.M (opF.rf.u3 _).z, hm'.q mqF.rf⟩
theorem g_ok {PP : Mm → Prop} (hw : EVc G 9 Yw hh wa μ (fun v u => v = some (.int (nI 0)) ∧ ∃ u0, PP u0 ∧ u = uO u0 R.toInt64)) (hmod : ∀ u, PP u → EV G dm Ym ma (uO u R.toInt64) (fun v u2 => v = some (.int R) ∧ u2.1 35 3 = nI 0 ∧ sm 35 46 (uO u R.toInt64) u2 ∧ Inv u2)) (hd : dm ≤ 12) : OpOK G Yw hh wa Ym ma μ := by
  refine ⟨0, _, dm, by decide, hd, hw, ?_⟩
  rintro u ⟨u0, h1, rfl⟩
  refine (hmod _ h1).post (fun v u2 => ?_)
  rintro ⟨rfl, h2, h3, h4⟩
  exact ⟨R, rfl, h2, fun _ => by rw [h3.2]; rfl, h4⟩
theorem o_ok (hm : mdOK μ x c S tn T) (hw : EVc G 9 Yw hh wa μ (fun v u => v = some (.int (nI 0)) ∧ ∃ u0, (zpOK u0 x' c' S' tn T ∧ smZ μ u0) ∧ u = uO u0 R.toInt64)) (hmod : ∀ u, mdOK u x c S tn T → EV G dm Ym ma u (fun v u2 => v = some (.int R) ∧ opF u u2 ∧ nwSt u2 x' ∧ hsOK u2 c' S' ∧ u2.1 35 3 = nI 0)) (hd : dm ≤ 12) : OpOK G Yw hh wa Ym ma μ := by
  refine g_ok hw (fun u h => ?_) hd
  have hm' : mdOK (uO u R.toInt64) x c S tn T := (hm.Z h.2).O _
  refine (hmod _ hm').post (fun v u2 => ?_)
  rintro ⟨rfl, h2, h3, h4, h5⟩
  exact ⟨rfl, h5, h2.z, x', c', S', tn, T, (h.1.O _).M h2.z, hm'.o h2 h3 h4⟩
theorem eq_ok (hz : zpOK μ x c S tn T) : ∀ u : Mm, u = μ → sm 23 33 μ u ∧ tabX u := fun u h => by rw [h]; exact ⟨sm.rf, hz.2.1⟩
end OP
theorem op_sum (G : Gt) (hG : G.1.stackTraces = false) {μ : Mm} (hi : Inv μ) (x y : Int32) : OpOK G Y_L_sum H_L_sum [rf G 0, .int x, .int y, rf G 46] Y_X8_sum [rf G 35, .int x, .int y] μ := by
  obtain ⟨⟨a, b, n, E, Q⟩, c, S, tn, T, hz, hm⟩ := hi
  have hq : seqOK μ 1 a b n E Q := hz.1
  have ht := hz.2.1
  have hn := hq.le
  obtain ⟨ha, ha6, hb, hb6⟩ := hq.g.2.2
  have hab := ab_le ha6 hb6
  have hE : okE a b E n := fun k hk => hq.el hk
  have hpw := p1024 hn
  have hpw1 := ppos n
  rcases inR_cases x (a * b) (by omega) with ⟨hx, k, hk, rfl⟩ | hx
  · rcases inR_cases y (a * b) (by omega) with ⟨hy, j, hj, rfl⟩ | hy
    · exact q_ok hz hm (ok_L_sum G (evr_q ht (ev_X7_sum G hq hk hj))) (fun u hu => evw_q (ev_X8_sum G hu.1 hk hj)) (show 2 ≤ 12 by decide)
    · exact x_ok (k := 1) (by decide) (by decide) hz hm (th_L_sum_1 G (evx_X7_sum_2 G hG hq hx hy)) (eq_ok hz) (fun u hu => ev_X8_sum_r2 G hu.1 hx hy) (show 2 ≤ 12 by decide)
  · exact x_ok (k := 1) (by decide) (by decide) hz hm (th_L_sum_1 G (evx_X7_sum_1 G hG hq hx)) (eq_ok hz) (fun u hu => ev_X8_sum_r1 G hu.1 hx) (show 2 ≤ 12 by decide)
theorem op_element (G : Gt) (hG : G.1.stackTraces = false) {μ : Mm} (hi : Inv μ) (x y : Int32) : OpOK G Y_L_element H_L_element [rf G 0, .int x, .int y, rf G 46] Y_X8_element [rf G 35, .int x, .int y] μ := by
  obtain ⟨⟨a, b, n, E, Q⟩, c, S, tn, T, hz, hm⟩ := hi
  have hq : seqOK μ 1 a b n E Q := hz.1
  have ht := hz.2.1
  have hn := hq.le
  obtain ⟨ha, ha6, hb, hb6⟩ := hq.g.2.2
  have hab := ab_le ha6 hb6
  have hE : okE a b E n := fun k hk => hq.el hk
  have hpw := p1024 hn
  have hpw1 := ppos n
  rcases inR_cases x (a * b) (by omega) with ⟨hx, k, hk, rfl⟩ | hx
  · rcases inR_cases y 4 (by omega) with ⟨hy, j, hj, rfl⟩ | hy
    · rcases (show j = 0 ∨ j = 1 ∨ j = 2 ∨ j = 3 by omega) with rfl | rfl | rfl | rfl
      · exact q_ok hz hm (ok_L_element G (evr_q ht (ev_X7_element_0 G hq hk))) (fun u hu => ev_X8_element_0 G hu.1 hk) (show 2 ≤ 12 by decide)
      · exact q_ok hz hm (ok_L_element G (evr_q ht (ev_X7_element_1 G hq hk))) (fun u hu => ev_X8_element_1 G hu.1 hk) (show 2 ≤ 12 by decide)
      · exact q_ok hz hm (ok_L_element G (evr_q ht (ev_X7_element_2 G hq hk))) (fun u hu => by rw [to_all]; exact ev_X8_element_2 G hu.1 hk) (show 2 ≤ 12 by decide)
      · exact q_ok hz hm (ok_L_element G (evr_q ht (ev_X7_element_3 G hq hk))) (fun u hu => by rw [← ss_su ha hb hE (by omega)]; exact ev_X8_element_3 G hu.1 hk) (show 2 ≤ 12 by decide)
    · exact x_ok (k := 2) (by decide) (by decide) hz hm (th_L_element_2 G (evx_X7_element_2 G hG hq hx hy)) (eq_ok hz) (fun u hu => ev_X8_element_r2 G hu.1 hx hy) (show 2 ≤ 12 by decide)
  · exact x_ok (k := 1) (by decide) (by decide) hz hm (th_L_element_1 G (evx_X7_element_1 G hG hq hx)) (eq_ok hz) (fun u hu => ev_X8_element_r1 G hu.1 hx) (show 2 ≤ 12 by decide)
theorem op_at (G : Gt) (hG : G.1.stackTraces = false) {μ : Mm} (hi : Inv μ) (x y : Int32) : OpOK G Y_L_at H_L_at [rf G 0, .int x, .int y, rf G 46] Y_X8_at [rf G 35, .int x, .int y] μ := by
  obtain ⟨⟨a, b, n, E, Q⟩, c, S, tn, T, hz, hm⟩ := hi
  have hq : seqOK μ 1 a b n E Q := hz.1
  have ht := hz.2.1
  have hn := hq.le
  obtain ⟨ha, ha6, hb, hb6⟩ := hq.g.2.2
  have hab := ab_le ha6 hb6
  have hE : okE a b E n := fun k hk => hq.el hk
  have hpw := p1024 hn
  have hpw1 := ppos n
  rcases inR_cases x n (by omega) with ⟨hx, k, hk, rfl⟩ | hx
  · rcases inR_cases y 4 (by omega) with ⟨hy, j, hj, rfl⟩ | hy
    · rcases (show j = 0 ∨ j = 1 ∨ j = 2 ∨ j = 3 by omega) with rfl | rfl | rfl | rfl
      · exact q_ok hz hm (ok_L_at G (ev_X7_at_0 G hq ht hk)) (fun u hu => ev_X8_at_0 G hu.1 hk) (show 3 ≤ 12 by decide)
      · exact q_ok hz hm (ok_L_at G (ev_X7_at_1 G hq ht hk)) (fun u hu => ev_X8_at_1 G hu.1 hk) (show 3 ≤ 12 by decide)
      · exact q_ok hz hm (ok_L_at G (ev_X7_at_2 G hq ht hk)) (fun u hu => ev_X8_at_2 G hu.1 hk) (show 3 ≤ 12 by decide)
      · exact q_ok hz hm (ok_L_at G (ev_X7_at_3 G hq ht hk)) (fun u hu => ev_X8_at_3 G hu.1 hk) (show 3 ≤ 12 by decide)
    · exact x_ok (k := 2) (by decide) (by decide) hz hm (th_L_at_2 G (evx_X7_at_2 G hG hq hx hy)) (eq_ok hz) (fun u hu => ev_X8_at_r2 G hu.1 hx hy) (show 3 ≤ 12 by decide)
  · exact x_ok (k := 1) (by decide) (by decide) hz hm (th_L_at_1 G (evx_X7_at_1 G hG hq hx)) (eq_ok hz) (fun u hu => ev_X8_at_r1 G hu.1 hx) (show 3 ≤ 12 by decide)
theorem op_set (G : Gt) (hG : G.1.stackTraces = false) {μ : Mm} (hi : Inv μ) (x y : Int32) : OpOK G Y_L_set H_L_set [rf G 0, .int x, .int y, rf G 46] Y_X8_set [rf G 35, .int x, .int y] μ := by
  obtain ⟨⟨a, b, n, E, Q⟩, c, S, tn, T, hz, hm⟩ := hi
  have hq : seqOK μ 1 a b n E Q := hz.1
  have ht := hz.2.1
  have hn := hq.le
  obtain ⟨ha, ha6, hb, hb6⟩ := hq.g.2.2
  have hab := ab_le ha6 hb6
  have hE : okE a b E n := fun k hk => hq.el hk
  have hpw := p1024 hn
  have hpw1 := ppos n
  rcases inR_cases x (2 ^ n) (by omega) with ⟨hx, k, hk, rfl⟩ | hx
  · rcases inR_cases y 6 (by omega) with ⟨hy, j, hj, rfl⟩ | hy
    · rcases (show j = 0 ∨ j = 1 ∨ j = 2 ∨ j = 3 ∨ j = 4 ∨ j = 5 by omega) with rfl | rfl | rfl | rfl | rfl | rfl
      · exact q_ok hz hm (ok_L_set G (ev_X7_set_0 G hq ht hk)) (fun u hu => ev_X8_set_0 G hu.1 hk) (show 4 ≤ 12 by decide)
      · exact q_ok hz hm (ok_L_set G (ev_X7_set_1 G hq ht hk)) (fun u hu => ev_X8_set_1 G hu.1 hk) (show 4 ≤ 12 by decide)
      · exact q_ok hz hm (ok_L_set G (ev_X7_set_2 G hq ht hk)) (fun u hu => ev_X8_set_2 G hu.1 hk) (show 4 ≤ 12 by decide)
      · exact q_ok hz hm (ok_L_set G (ev_X7_set_3 G hq ht hk)) (fun u hu => ev_X8_set_3 G hu.1 hk) (show 4 ≤ 12 by decide)
      · exact q_ok hz hm (ok_L_set G (ev_X7_set_4 G hq ht hk)) (fun u hu => ev_X8_set_4 G hu.1 hk) (show 4 ≤ 12 by decide)
      · exact q_ok hz hm (ok_L_set G (ev_X7_set_5 G hq ht hk)) (fun u hu => by rw [bi_eq hk]; exact ev_X8_set_5 G hu.1 hk) (show 4 ≤ 12 by decide)
    · exact x_ok (k := 1) (by decide) (by decide) hz hm (th_L_set_1 G (evx_X7_set_2 G hG hq hx hy)) (eq_ok hz) (fun u hu => ev_X8_set_r2 G hu.1 hx hy) (show 4 ≤ 12 by decide)
  · exact x_ok (k := 1) (by decide) (by decide) hz hm (th_L_set_1 G (evx_X7_set_1 G hG hq hx)) (eq_ok hz) (fun u hu => ev_X8_set_r1 G hu.1 hx) (show 4 ≤ 12 by decide)
theorem op_block (G : Gt) (hG : G.1.stackTraces = false) {μ : Mm} (hi : Inv μ) (x : Int32) : OpOK G Y_L_block H_L_block [rf G 0, .int x, rf G 46] Y_X8_block [rf G 35, .int x] μ := by
  obtain ⟨⟨a, b, n, E, Q⟩, c, S, tn, T, hz, hm⟩ := hi
  have hq : seqOK μ 1 a b n E Q := hz.1
  have ht := hz.2.1
  have hn := hq.le
  obtain ⟨ha, ha6, hb, hb6⟩ := hq.g.2.2
  have hab := ab_le ha6 hb6
  have hE : okE a b E n := fun k hk => hq.el hk
  have hpw := p1024 hn
  have hpw1 := ppos n
  by_cases hx : x < 0
  · exact x_ok (k := 1) (by decide) (by decide) hz hm (th_L_block_1 G (evx_X7_block_1 G hG hq hx)) (eq_ok hz) (fun u hu => ev_X8_block_r1 G hu.1 hx) (show 2 ≤ 12 by decide)
  · obtain ⟨k, hk, rfl⟩ : ∃ k : Nat, k < 2 ^ 31 ∧ x = nI k := by
      rw [Int32.lt_iff_toInt_lt, show (0 : Int32).toInt = 0 from by decide] at hx
      have h2 := Int32.toInt_lt x
      refine ⟨x.toInt.toNat, by omega, Int32.toInt_inj.mp ?_⟩
      rw [nI_toInt (by omega)]; omega
    exact q_ok hz hm (ok_L_block G (ev_X7_block G hq ht hk)) (fun u hu => ev_X8_block G hu.1 hk) (show 2 ≤ 12 by decide)
theorem op_part (G : Gt) (hG : G.1.stackTraces = false) {μ : Mm} (hi : Inv μ) (x y : Int32) : OpOK G Y_L_part H_L_part [rf G 0, .int x, .int y, rf G 46] Y_X8_part [rf G 35, .int x, .int y] μ := by
  obtain ⟨⟨a, b, n, E, Q⟩, c, S, tn, T, hz, hm⟩ := hi
  have hq : seqOK μ 1 a b n E Q := hz.1
  have ht := hz.2.1
  have hn := hq.le
  obtain ⟨ha, ha6, hb, hb6⟩ := hq.g.2.2
  have hab := ab_le ha6 hb6
  have hE : okE a b E n := fun k hk => hq.el hk
  have hpw := p1024 hn
  have hpw1 := ppos n
  rcases inR_cases x 6 (by omega) with ⟨hx, k, hk, rfl⟩ | hx
  · rcases inR_cases y 3 (by omega) with ⟨hy, j, hj, rfl⟩ | hy
    · rcases (show j = 0 ∨ j = 1 ∨ j = 2 by omega) with rfl | rfl | rfl
      · exact q_ok hz hm (ok_L_part G (ev_X7_part_0 G hq ht hk)) (fun u hu => ev_X8_part_0 G hu.1 hk) (show 2 ≤ 12 by decide)
      · exact q_ok hz hm (ok_L_part G (ev_X7_part_1 G hq ht hk)) (fun u hu => ev_X8_part_1 G hu.1 hk) (show 2 ≤ 12 by decide)
      · exact q_ok hz hm (ok_L_part G (ev_X7_part_2 G hq ht hk)) (fun u hu => ev_X8_part_2 G hu.1 hk) (show 2 ≤ 12 by decide)
    · exact x_ok (k := 1) (by decide) (by decide) hz hm (th_L_part_1 G (evx_X7_part_2 G hG hq hk hy)) (eq_ok hz) (fun u hu => ev_X8_part_r2 G hu.1 hx hy) (show 2 ≤ 12 by decide)
  · exact x_ok (k := 1) (by decide) (by decide) hz hm (th_L_part_1 G (evx_X7_part_1 G hG hq hx)) (eq_ok hz) (fun u hu => ev_X8_part_r1 G hu.1 hx) (show 2 ≤ 12 by decide)
theorem op_reason (G : Gt) (hG : G.1.stackTraces = false) {μ : Mm} (hi : Inv μ) (x : Int32) : OpOK G Y_L_reason H_L_reason [rf G 0, .int x, rf G 46] Y_X8_reason [rf G 35, .int x] μ := by
  obtain ⟨⟨a, b, n, E, Q⟩, c, S, tn, T, hz, hm⟩ := hi
  have hq : seqOK μ 1 a b n E Q := hz.1
  have ht := hz.2.1
  have hn := hq.le
  obtain ⟨ha, ha6, hb, hb6⟩ := hq.g.2.2
  have hab := ab_le ha6 hb6
  have hE : okE a b E n := fun k hk => hq.el hk
  have hpw := p1024 hn
  have hpw1 := ppos n
  rcases inR_cases x 6 (by omega) with ⟨hx, k, hk, rfl⟩ | hx
  · exact q_ok hz hm (ok_L_reason G (ev_X7_reason G hq ht hk)) (fun u hu => ev_X8_reason G hu.1 hk) (show 2 ≤ 12 by decide)
  · exact x_ok (k := 1) (by decide) (by decide) hz hm (th_L_reason_1 G (evx_X7_reason_1 G hG hq hx)) (eq_ok hz) (fun u hu => ev_X8_reason_r1 G hu.1 hx) (show 2 ≤ 12 by decide)
theorem op_whole (G : Gt) (hG : G.1.stackTraces = false) {μ : Mm} (hi : Inv μ) (x : Int32) : OpOK G Y_L_whole H_L_whole [rf G 0, .int x, rf G 46] Y_X8_whole [rf G 35, .int x] μ := by
  obtain ⟨⟨a, b, n, E, Q⟩, c, S, tn, T, hz, hm⟩ := hi
  have hq : seqOK μ 1 a b n E Q := hz.1
  have ht := hz.2.1
  have hn := hq.le
  obtain ⟨ha, ha6, hb, hb6⟩ := hq.g.2.2
  have hab := ab_le ha6 hb6
  have hE : okE a b E n := fun k hk => hq.el hk
  have hpw := p1024 hn
  have hpw1 := ppos n
  rcases inR_cases x 14 (by omega) with ⟨hx, k, hk, rfl⟩ | hx
  · rcases (show k = 0 ∨ k = 1 ∨ k = 2 ∨ k = 3 ∨ k = 4 ∨ k = 5 ∨ k = 6 ∨ k = 7 ∨ k = 8 ∨ k = 9 ∨ k = 10 ∨ k = 11 ∨ k = 12 ∨ k = 13 by omega) with rfl | rfl | rfl | rfl | rfl | rfl | rfl | rfl | rfl | rfl | rfl | rfl | rfl | rfl
    · exact q_ok hz hm (ok_L_whole G (ev_X7_whole_0 G hq ht)) (fun u hu => ev_X8_whole_0 G hu.1) (show 4 ≤ 12 by decide)
    · exact q_ok hz hm (ok_L_whole G (ev_X7_whole_1 G hq ht)) (fun u hu => ev_X8_whole_1 G hu.1) (show 4 ≤ 12 by decide)
    · exact q_ok hz hm (ok_L_whole G (ev_X7_whole_2 G hq ht)) (fun u hu => ev_X8_whole_2 G hu.1) (show 4 ≤ 12 by decide)
    · exact q_ok hz hm (ok_L_whole G (ev_X7_whole_3 G hq ht)) (fun u hu => ev_X8_whole_3 G hu.1) (show 4 ≤ 12 by decide)
    · exact q_ok hz hm (ok_L_whole G (ev_X7_whole_4 G hq ht)) (fun u hu => ev_X8_whole_4 G hu.1) (show 4 ≤ 12 by decide)
    · exact q_ok hz hm (ok_L_whole G (ev_X7_whole_5 G hq ht)) (fun u hu => ev_X8_whole_5 G hu.1) (show 4 ≤ 12 by decide)
    · exact q_ok hz hm (ok_L_whole G (ev_X7_whole_6 G hq ht)) (fun u hu => by rw [← hld_su ha hb hE (by omega)]; exact ev_X8_whole_6 G hu.1) (show 4 ≤ 12 by decide)
    · exact q_ok hz hm (ok_L_whole G (ev_X7_whole_7 G hq ht)) (fun u hu => by rw [← bk_all]; exact ev_X8_whole_7 G hu.1) (show 4 ≤ 12 by decide)
    · exact q_ok hz hm (ok_L_whole G (ev_X7_whole_8 G hq ht)) (fun u hu => by rw [sm_all]; exact ev_X8_whole_8 G hu.1) (show 4 ≤ 12 by decide)
    · exact q_ok hz hm (ok_L_whole G (ev_X7_whole_9 G hq ht)) (fun u hu => ev_X8_whole_9 G hu.1) (show 4 ≤ 12 by decide)
    · exact q_ok hz hm (ok_L_whole G (ev_X7_whole_10 G hq ht)) (fun u hu => by rw [lp_eq]; exact ev_X8_whole_10 G hu.1) (show 4 ≤ 12 by decide)
    · exact q_ok hz hm (ok_L_whole G (ev_X7_whole_11 G hq ht)) (fun u hu => by rw [gp_eq]; exact ev_X8_whole_11 G hu.1) (show 4 ≤ 12 by decide)
    · exact q_ok hz hm (ok_L_whole G (ev_X7_whole_12 G hq ht)) (fun u hu => by rw [many_eq ha hb hab hE (by omega), ← ss_su ha hb hE (by omega)]; exact ev_X8_whole_12 G hu.1) (show 4 ≤ 12 by decide)
    · exact q_ok hz hm (ok_L_whole G (ev_X7_whole_13 G hq ht hz.2.2.2)) (fun u hu => ev_X8_whole_13 G hu.1 hu.2.2.1.1) (show 4 ≤ 12 by decide)
  · exact x_ok (k := 1) (by decide) (by decide) hz hm (th_L_whole_1 G (evx_X7_whole_1 G hG hq hx)) (eq_ok hz) (fun u hu => ev_X8_whole_r1 G hu.1 hx) (show 4 ≤ 12 by decide)
theorem op_blocksWith (G : Gt) (hG : G.1.stackTraces = false) {μ : Mm} (hi : Inv μ) (x y : Int32) : OpOK G Y_L_blocksWith H_L_blocksWith [rf G 0, .int x, .int y, rf G 46] Y_X8_blocksWith [rf G 35, .int x, .int y] μ := by
  obtain ⟨⟨a, b, n, E, Q⟩, c, S, tn, T, hz, hm⟩ := hi
  have hq : seqOK μ 1 a b n E Q := hz.1
  have ht := hz.2.1
  have hn := hq.le
  obtain ⟨ha, ha6, hb, hb6⟩ := hq.g.2.2
  have hab := ab_le ha6 hb6
  have hE : okE a b E n := fun k hk => hq.el hk
  have hpw := p1024 hn
  have hpw1 := ppos n
  rcases inR_cases x (a * b) (by omega) with ⟨hx, k, hk, rfl⟩ | hx
  · rcases hy : (inR y 12 && decide (y ≠ nI 0)) with _ | _
    · exact x_ok (k := 2) (by decide) (by decide) hz hm (th_L_blocksWith_2 G (evx_X7_blocksWith_2 G hG hq hx hy)) (eq_ok hz) (fun u hu => ev_X8_blocksWith_r2 G hu.1 hx hy) (show 2 ≤ 12 by decide)
    · rw [Bool.and_eq_true, decide_eq_true_eq] at hy
      rcases inR_cases y 12 (by omega) with ⟨hy2, j, hj, rfl⟩ | hy2
      · have hj1 : 1 ≤ j := by
          rcases Nat.eq_zero_or_pos j with e | e
          · subst e; exact absurd rfl hy.2
          · exact e
        exact q_ok hz hm (ok_L_blocksWith G (ev_X7_blocksWith G hq ht hk hj1 (by omega))) (fun u hu => by rw [← bw_eq ha hb hE (by omega) hk hj1]; exact ev_X8_blocksWith G hu.1 hk hj1 (by omega)) (show 2 ≤ 12 by decide)
      · rw [hy2] at hy; exact absurd hy.1 (by decide)
  · exact x_ok (k := 1) (by decide) (by decide) hz hm (th_L_blocksWith_1 G (evx_X7_blocksWith_1 G hG hq hx)) (eq_ok hz) (fun u hu => ev_X8_blocksWith_r1 G hu.1 hx) (show 2 ≤ 12 by decide)
theorem op_alike (G : Gt) (hG : G.1.stackTraces = false) {μ : Mm} (hi : Inv μ) (x y : Int32) : OpOK G Y_L_alike H_L_alike [rf G 0, .int x, .int y, rf G 46] Y_X8_alike [rf G 35, .int x, .int y] μ := by
  obtain ⟨⟨a, b, n, E, Q⟩, c, S, tn, T, hz, hm⟩ := hi
  have hq : seqOK μ 1 a b n E Q := hz.1
  have ht := hz.2.1
  have hn := hq.le
  obtain ⟨ha, ha6, hb, hb6⟩ := hq.g.2.2
  have hab := ab_le ha6 hb6
  have hE : okE a b E n := fun k hk => hq.el hk
  have hpw := p1024 hn
  have hpw1 := ppos n
  rcases inR_cases x (2 ^ n) (by omega) with ⟨hx, k, hk, rfl⟩ | hx
  · rcases inR_cases y (2 ^ n) (by omega) with ⟨hy, j, hj, rfl⟩ | hy
    · exact q_ok hz hm (ok_L_alike G (evr_q ht (ev_X7_alike G hq hk hj))) (fun u hu => by rw [← ak_eq (a := a) (b := b) hE hn hk hj]; exact ev_X8_alike G hu.1 hk hj) (show 2 ≤ 12 by decide)
    · exact x_ok (k := 1) (by decide) (by decide) hz hm (th_L_alike_1 G (evx_X7_alike_2 G hG hq hx hy)) (eq_ok hz) (fun u hu => ev_X8_alike_r2 G hu.1 hx hy) (show 2 ≤ 12 by decide)
  · exact x_ok (k := 1) (by decide) (by decide) hz hm (th_L_alike_1 G (evx_X7_alike_1 G hG hq hx)) (eq_ok hz) (fun u hu => ev_X8_alike_r1 G hu.1 hx) (show 2 ≤ 12 by decide)
theorem isM_cases (x : Int32) : (isM x = true ∧ ∃ k, 1 ≤ k ∧ k ≤ 6 ∧ x = nI k) ∨ isM x = false := by
  rcases h : isM x with _ | _
  · exact Or.inr rfl
  · refine Or.inl ⟨rfl, ?_⟩
    unfold isM at h
    rw [Bool.and_eq_true, decide_eq_true_eq] at h
    rcases inR_cases x 7 (by decide) with ⟨_, k, hk, rfl⟩ | h2
    · refine ⟨k, ?_, by omega, rfl⟩
      rcases Nat.eq_zero_or_pos k with e | e
      · subst e; exact absurd rfl h.2
      · exact e
    · rw [h2] at h; exact absurd h.1 (by decide)
theorem op_begin (G : Gt) (hG : G.1.stackTraces = false) {μ : Mm} (hi : Inv μ) (x y : Int32) : OpOK G Y_L_begin H_L_begin [rf G 0, .int x, .int y, rf G 46] Y_X8_begin [rf G 35, .int x, .int y] μ := by
  obtain ⟨⟨a, b, n, E, Q⟩, c, S, tn, T, hz, hm⟩ := hi
  have hq : seqOK μ 1 a b n E Q := hz.1
  have ht := hz.2.1
  have hn := hq.le
  obtain ⟨ha, ha6, hb, hb6⟩ := hq.g.2.2
  have hab := ab_le ha6 hb6
  have hE : okE a b E n := fun k hk => hq.el hk
  have hpw := p1024 hn
  have hpw1 := ppos n
  rcases isM_cases x with ⟨hx, k, hk1, hk6, rfl⟩ | hx
  · rcases isM_cases y with ⟨hy, j, hj1, hj6, rfl⟩ | hy
    · exact o_ok hm (ok_L_begin G (ev_X7_begin G hz hk1 hk6 hj1 hj6)) (fun u hu => ev_X8_begin G hu.1 hu.2.1 (ru := false) hu.2.2.2 hk1 hk6 hj1 hj6) (show 1 ≤ 12 by decide)
    · exact x_ok (k := 1) (by decide) (by decide) hz hm (th_L_begin_1 G (evx_X7_begin_2 G hG hq hx hy)) (eq_ok hz) (fun u hu => ev_X8_begin_r2 G hu.1 hx hy) (show 1 ≤ 12 by decide)
  · exact x_ok (k := 1) (by decide) (by decide) hz hm (th_L_begin_1 G (evx_X7_begin_1 G hG hq hx)) (eq_ok hz) (fun u hu => ev_X8_begin_r1 G hu.1 hx) (show 1 ≤ 12 by decide)
theorem op_add (G : Gt) (hG : G.1.stackTraces = false) {μ : Mm} (hi : Inv μ) (x : Int32) : OpOK G Y_L_add H_L_add [rf G 0, .int x, rf G 46] Y_X8_add [rf G 35, .int x] μ := by
  obtain ⟨⟨a, b, n, E, Q⟩, c, S, tn, T, hz, hm⟩ := hi
  have hq : seqOK μ 1 a b n E Q := hz.1
  have ht := hz.2.1
  have hn := hq.le
  obtain ⟨ha, ha6, hb, hb6⟩ := hq.g.2.2
  have hab := ab_le ha6 hb6
  have hE : okE a b E n := fun k hk => hq.el hk
  have hpw := p1024 hn
  have hpw1 := ppos n
  rcases inR_cases x (a * b) (by omega) with ⟨hx, k, hk, rfl⟩ | hx
  · by_cases h10 : n = 10
    · exact x_ok (k := 2) (by decide) (by decide) hz hm (th_L_add_2 G (evx_X7_add_2 G hG hq hx h10)) (eq_ok hz) (fun u hu => ev_X8_add_r2 G hu.1 hx h10) (show 2 ≤ 12 by decide)
    · have h9 : n < 10 := by omega
      exact o_ok hm (ok_L_add G (ev_X7_add G hz hk h9)) (fun u hu => ev_X8_add G hu.1 hu.2.1 (ru := false) hu.2.2.2 hk h9) (show 2 ≤ 12 by decide)
  · exact x_ok (k := 1) (by decide) (by decide) hz hm (th_L_add_1 G (evx_X7_add_1 G hG hq hx)) (eq_ok hz) (fun u hu => ev_X8_add_r1 G hu.1 hx) (show 2 ≤ 12 by decide)
theorem op_removeAt (G : Gt) (hG : G.1.stackTraces = false) {μ : Mm} (hi : Inv μ) (x : Int32) : OpOK G Y_L_removeAt H_L_removeAt [rf G 0, .int x, rf G 46] Y_X8_removeAt [rf G 35, .int x] μ := by
  obtain ⟨⟨a, b, n, E, Q⟩, c, S, tn, T, hz, hm⟩ := hi
  have hq : seqOK μ 1 a b n E Q := hz.1
  have ht := hz.2.1
  have hn := hq.le
  obtain ⟨ha, ha6, hb, hb6⟩ := hq.g.2.2
  have hab := ab_le ha6 hb6
  have hE : okE a b E n := fun k hk => hq.el hk
  have hpw := p1024 hn
  have hpw1 := ppos n
  rcases inR_cases x n (by omega) with ⟨hx, k, hk, rfl⟩ | hx
  · exact o_ok hm (ok_L_removeAt G (ev_X7_removeAt G hz hk)) (fun u hu => ev_X8_removeAt G hu.1 hu.2.1 (ru := false) hu.2.2.2 hk) (show 2 ≤ 12 by decide)
  · exact x_ok (k := 1) (by decide) (by decide) hz hm (th_L_removeAt_1 G (evx_X7_removeAt_1 G hG hq hx)) (eq_ok hz) (fun u hu => ev_X8_removeAt_r1 G hu.1 hx) (show 2 ≤ 12 by decide)
theorem op_lay (G : Gt) (hG : G.1.stackTraces = false) {μ : Mm} (hi : Inv μ) (x y : Int32) : OpOK G Y_L_lay H_L_lay [rf G 0, .int x, .int y, rf G 46] Y_X8_lay [rf G 35, .int x, .int y] μ := by
  obtain ⟨⟨a, b, n, E, Q⟩, c, S, tn, T, hz, hm⟩ := hi
  have hq : seqOK μ 1 a b n E Q := hz.1
  have ht := hz.2.1
  have hn := hq.le
  obtain ⟨ha, ha6, hb, hb6⟩ := hq.g.2.2
  have hab := ab_le ha6 hb6
  have hE : okE a b E n := fun k hk => hq.el hk
  have hpw := p1024 hn
  have hpw1 := ppos n
  rcases inR_cases x n (by omega) with ⟨hx, k, hk, rfl⟩ | hx
  · rcases inR_cases y 6 (by omega) with ⟨hy, j, hj, rfl⟩ | hy
    · exact o_ok hm (ok_L_lay G (ev_X7_lay G hz hk hj)) (fun u hu => ev_X8_lay G hu.1 hu.2.1 (ru := false) hu.2.2.2 hk hj) (show 2 ≤ 12 by decide)
    · exact x_ok (k := 2) (by decide) (by decide) hz hm (th_L_lay_2 G (evx_X7_lay_2 G hG hq hx hy)) (eq_ok hz) (fun u hu => ev_X8_lay_r2 G hu.1 hx hy) (show 2 ≤ 12 by decide)
  · exact x_ok (k := 1) (by decide) (by decide) hz hm (th_L_lay_1 G (evx_X7_lay_1 G hG hq hx)) (eq_ok hz) (fun u hu => ev_X8_lay_r1 G hu.1 hx) (show 2 ≤ 12 by decide)
/-- laySplit refused: the tables of the reference are changed -/
theorem xl_ok {G : Gt} {Yw Ym : YC} {hh : List (Nat × Nat × Nat × Nat)} {wa ma : List Value} {dm : Nat} {μ : Mm} {x : St} {c : Nat} {S : Nat → St} {tn : Nat} {T : Nat → Nat} (hz : zpOK μ x c S tn T) (hm : mdOK μ x c S tn T) (hw : EVc G 9 Yw hh wa μ (fun v u => v = some (.int (nI 1)) ∧ sm 23 33 μ u ∧ tabX u)) (hmod : ∀ u, mdOK u x c S tn T → EV G dm Ym ma u (fun v u2 => v = some (.int (nI 0)) ∧ opF u u2 ∧ nwSt u2 x ∧ hsOK u2 c S ∧ u2.1 35 3 = nI 1)) (hd : dm ≤ 12) : OpOK G Yw hh wa Ym ma μ := by
  refine ⟨1, _, dm, by decide, hd, hw, fun u hu => ?_⟩
  have hm' : mdOK u x c S tn T := hm.Z (hu.1.Z (by omega))
  have hz' : zpOK u x c S tn T := hz.q hu.1 hu.2
  refine (hmod _ hm').post (fun v u2 => ?_)
  rintro ⟨rfl, h1, h2, h3, h4⟩
  exact ⟨nI 0, rfl, h4, fun q => absurd q (by decide), x, c, S, tn, T, hz'.M h1.z, hm'.o h1 h2 h3⟩
theorem op_laySplit (G : Gt) (hG : G.1.stackTraces = false) {μ : Mm} (hi : Inv μ) : OpOK G Y_L_laySplit H_L_laySplit [rf G 0, rf G 46] Y_X8_laySplit [rf G 35] μ := by
  obtain ⟨⟨a, b, n, E, Q⟩, c, S, tn, T, hz, hm⟩ := hi
  have hq : seqOK μ 1 a b n E Q := hz.1
  have ht := hz.2.1
  have hn := hq.le
  obtain ⟨ha, ha6, hb, hb6⟩ := hq.g.2.2
  have hab := ab_le ha6 hb6
  have hE : okE a b E n := fun k hk => hq.el hk
  have hpw := p1024 hn
  have hpw1 := ppos n
  rcases hsp : spO a b n E with _ | M
  · exact xl_ok hz hm (th_L_laySplit_1 G (evx_X7_laySplit_1 G hG hq ht (by unfold clN; rw [hsp]))) (fun u hu => ev_X8_laySplit_r1 G hu.1 hu.2.1 hsp) (show 4 ≤ 12 by decide)
  · by_cases hM : M ≤ 6
    · exact o_ok hm (ok_L_laySplit G (ev_X7_laySplit G hz hsp hM)) (fun u hu => ev_X8_laySplit G hu.1 hu.2.1 (ru := false) hu.2.2.2 hsp hM) (show 4 ≤ 12 by decide)
    · exact xl_ok hz hm (th_L_laySplit_1 G (evx_X7_laySplit_1 G hG hq ht (by unfold clN; rw [hsp]; exact decide_eq_false hM))) (fun u hu => ev_X8_laySplit_r2 G hu.1 hu.2.1 hsp (by omega)) (show 4 ≤ 12 by decide)
theorem ty_f (μ : Mm) (t : Nat) (v w : Int32) (j : Nat) (h6 : j ≠ 6) (h3 : j ≠ 3) : (uF (uR (uF μ 35 3 (nI 0)) 38 t v) 35 6 w).1 35 j = μ.1 35 j := (uF_n _ _ (by omega)).trans (show (uF μ 35 3 (nI 0)).1 35 j = _ from uF_n _ _ (by omega))
theorem ty_3 (μ : Mm) (t : Nat) (v w : Int32) : (uF (uR (uF μ 35 3 (nI 0)) 38 t v) 35 6 w).1 35 3 = nI 0 := (uF_n _ _ (by omega)).trans (show (uF μ 35 3 (nI 0)).1 35 3 = _ from uF_s _ _ _ _)
theorem op_type (G : Gt) (hG : G.1.stackTraces = false) {μ : Mm} (hi : Inv μ) (x : Int32) : OpOK G Y_L_type H_L_type [rf G 0, .int x, rf G 46] Y_X8_type [rf G 35, .int x] μ := by
  obtain ⟨⟨a, b, n, E, Q⟩, c, S, tn, T, hz, hm⟩ := hi
  have hq : seqOK μ 1 a b n E Q := hz.1
  have ht := hz.2.1
  have hn := hq.le
  obtain ⟨ha, ha6, hb, hb6⟩ := hq.g.2.2
  have hab := ab_le ha6 hb6
  have hE : okE a b E n := fun k hk => hq.el hk
  have hpw := p1024 hn
  have hpw1 := ppos n
  rcases inR_cases x 128 (by omega) with ⟨hx, k, hk, rfl⟩ | hx
  · by_cases h150 : tn = 150
    · exact x_ok (k := 2) (by decide) (by decide) hz hm (th_L_type_2 G (evx_X7_type_2 G hG hz.2.2.2 hk h150)) (eq_ok hz) (fun u hu => ev_X8_type_r2 G hu.2.2.1 hx h150) (show 1 ≤ 12 by decide)
    · have hl := hz.2.2.2.le
      refine g_ok (ok_L_type G (ev_X7_type G hz hk (by omega))) (fun u hu => ?_) (show 1 ≤ 12 by decide)
      have hm' : mdOK (uO u (nI (tn + 1)).toInt64) (a, b, n, E, Q) c S tn T := (hm.Z hu.2).O _
      refine (ev_X8_type G hm'.2.2.1 hk (by omega)).post (fun v u2 => ?_)
      rintro ⟨rfl, rfl⟩
      exact ⟨rfl, ty_3 _ _ _ _, zz3 ((zz3 sm.rf 3 _).uR (by omega) (by omega)) 6 _, (a, b, n, E, Q), c, S, tn + 1, upE T tn k, (hu.1.O _).M (zz3 ((zz3 sm.rf 3 _).uR (by omega) (by omega)) 6 _), hm'.1.same rfl, hm'.2.1.q (ty_f _ _ _ _ 2 (by decide) (by decide)) rfl, mt_type hm'.2.2.1 (by omega) hk, (ty_f _ _ _ _ 4 (by decide) (by decide)).trans hm'.2.2.2⟩
  · exact x_ok (k := 1) (by decide) (by decide) hz hm (th_L_type_1 G (evx_X7_type_1 G hG hz.2.2.2 hx)) (eq_ok hz) (fun u hu => ev_X8_type_r1 G hu.2.2.1 hx) (show 1 ≤ 12 by decide)
theorem op_undo (G : Gt) (hG : G.1.stackTraces = false) {μ : Mm} (hi : Inv μ) : OpOK G Y_L_undo H_L_undo [rf G 0, rf G 46] Y_X8_undo [rf G 35] μ := by
  obtain ⟨⟨a, b, n, E, Q⟩, c, S, tn, T, hz, hm⟩ := hi
  have hq : seqOK μ 1 a b n E Q := hz.1
  have ht := hz.2.1
  have hn := hq.le
  obtain ⟨ha, ha6, hb, hb6⟩ := hq.g.2.2
  have hab := ab_le ha6 hb6
  have hE : okE a b E n := fun k hk => hq.el hk
  have hpw := p1024 hn
  have hpw1 := ppos n
  rcases c with _ | c
  · exact x_ok (k := 1) (by decide) (by decide) hz hm (th_L_undo_1 G (evx_X7_undo_1 G hG hz.2.2.1.1)) (eq_ok hz) (fun u hu => ev_X8_undo_r1 G hu.2.1) (show 1 ≤ 12 by decide)
  · refine g_ok (ok_L_undo G (ev_X7_undo G hz)) (fun u hu => ?_) (show 1 ≤ 12 by decide)
    have hm' : mdOK (uO u (nI c).toInt64) (a, b, n, E, Q) (c + 1) S tn T := (hm.Z hu.2).O _
    refine (ev_X8_undo G hm'.2.1).post (fun v u2 => ?_)
    rintro ⟨rfl, h1, h2, h3, h4⟩
    exact ⟨rfl, h4, h1.z, S c, c, S, tn, T, (hu.1.O _).M h1.z, hm'.o h1 h2 h3⟩
def UnOK {α : Type} (f : α → Value) (G : Gt) (Yc Ym : YC) (μ : Mm) : Prop := ∃ (r : α) (PP : Mm → Prop) (dc dm : Nat), dc ≤ 12 ∧ dm ≤ 12 ∧ EV G dc Yc [rf G 0] μ (fun v u => v = some (f r) ∧ PP u) ∧ ∀ u, PP u → EV G dm Ym [rf G 35] u (fun v u2 => v = some (f r) ∧ Inv u2)
theorem un_q {α : Type} {f : α → Value} {G : Gt} {Yc Ym : YC} {dc dm : Nat} {μ : Mm} {r : α} {x : St} {c : Nat} {S : Nat → St} {tn : Nat} {T : Nat → Nat} (hz : zpOK μ x c S tn T) (hm : mdOK μ x c S tn T) (h1 : EV G dc Yc [rf G 0] μ (fun v u => v = some (f r) ∧ sm 23 33 μ u ∧ tabX u)) (h2 : ∀ u, mdOK u x c S tn T → EV G dm Ym [rf G 35] u (fun v u2 => v = some (f r) ∧ mqF (uF u 35 3 (nI 0)) u2)) (hdc : dc ≤ 12) (hdm : dm ≤ 12) : UnOK f G Yc Ym μ := by
  refine ⟨r, _, dc, dm, hdc, hdm, h1, fun u hu => ?_⟩
  have hm' : mdOK u x c S tn T := hm.Z (hu.1.Z (by omega))
  refine (h2 u hm').post (fun v u2 => ?_)
  rintro ⟨rfl, hq⟩
  exact ⟨rfl, x, c, S, tn, T, (hz.q hu.1 hu.2).M (q_o hq).z, hm'.q hq⟩
theorem un_bound (G : Gt) {μ : Mm} (hi : Inv μ) : UnOK Value.int G Y_X7_bound Y_X8_bound μ := by
  obtain ⟨⟨a, b, n, E, Q⟩, c, S, tn, T, hz, hm⟩ := hi
  have hq : seqOK μ 1 a b n E Q := hz.1
  have ht := hz.2.1
  have hn := hq.le
  obtain ⟨ha, ha6, hb, hb6⟩ := hq.g.2.2
  have hab := ab_le ha6 hb6
  have hE : okE a b E n := fun k hk => hq.el hk
  exact un_q (f := Value.int) hz hm (evr_q ht (ev_X7_bound G hq)) (fun u hu => evw_q (ev_X8_bound G (nwOK.G hu.1))) (show 3 ≤ 12 by decide) (show 1 ≤ 12 by decide)
theorem un_sums (G : Gt) {μ : Mm} (hi : Inv μ) : UnOK Value.long G Y_X7_sums Y_X8_sums μ := by
  obtain ⟨⟨a, b, n, E, Q⟩, c, S, tn, T, hz, hm⟩ := hi
  have hq : seqOK μ 1 a b n E Q := hz.1
  have ht := hz.2.1
  have hn := hq.le
  obtain ⟨ha, ha6, hb, hb6⟩ := hq.g.2.2
  have hab := ab_le ha6 hb6
  have hE : okE a b E n := fun k hk => hq.el hk
  exact un_q (f := Value.long) hz hm (evr_q ht (ev_X7_sums G hq)) (fun u hu => by rw [← ss_su ha hb hE (by omega)]; exact ev_X8_sums G hu.1) (show 3 ≤ 12 by decide) (show 2 ≤ 12 by decide)
theorem un_freeElement (G : Gt) {μ : Mm} (hi : Inv μ) : UnOK Value.int G Y_X7_freeElement Y_X8_freeElement μ := by
  obtain ⟨⟨a, b, n, E, Q⟩, c, S, tn, T, hz, hm⟩ := hi
  have hq : seqOK μ 1 a b n E Q := hz.1
  have ht := hz.2.1
  have hn := hq.le
  obtain ⟨ha, ha6, hb, hb6⟩ := hq.g.2.2
  have hab := ab_le ha6 hb6
  have hE : okE a b E n := fun k hk => hq.el hk
  exact un_q (f := Value.int) hz hm (evr_q ht (ev_X7_freeElement G hq)) (fun u hu => by rw [← ss_su ha hb hE (by omega)]; exact ev_X8_freeElement G hu.1) (show 4 ≤ 12 by decide) (show 3 ≤ 12 by decide)
theorem un_freeFor (G : Gt) {μ : Mm} (hi : Inv μ) : UnOK Value.int G Y_X7_freeFor Y_X8_freeFor μ := by
  obtain ⟨⟨a, b, n, E, Q⟩, c, S, tn, T, hz, hm⟩ := hi
  have hq : seqOK μ 1 a b n E Q := hz.1
  have ht := hz.2.1
  have hn := hq.le
  obtain ⟨ha, ha6, hb, hb6⟩ := hq.g.2.2
  have hab := ab_le ha6 hb6
  have hE : okE a b E n := fun k hk => hq.el hk
  exact un_q (f := Value.int) hz hm (evr_q ht (ev_X7_freeFor G hq)) (fun u hu => by rw [← ss_su ha hb hE (by omega)]; exact ev_X8_freeFor G hu.1) (show 4 ≤ 12 by decide) (show 3 ≤ 12 by decide)
theorem un_unlikeBlocks (G : Gt) {μ : Mm} (hi : Inv μ) : UnOK Value.int G Y_X7_unlikeBlocks Y_X8_unlikeBlocks μ := by
  obtain ⟨⟨a, b, n, E, Q⟩, c, S, tn, T, hz, hm⟩ := hi
  have hq : seqOK μ 1 a b n E Q := hz.1
  have ht := hz.2.1
  have hn := hq.le
  obtain ⟨ha, ha6, hb, hb6⟩ := hq.g.2.2
  have hab := ab_le ha6 hb6
  have hE : okE a b E n := fun k hk => hq.el hk
  exact un_q (f := Value.int) hz hm (ev_X7_unlikeBlocks G hq ht) (fun u hu => by rw [← uq_cnt ha hb hE hn]; exact ev_X8_unlikeBlocks G hu.1) (show 5 ≤ 12 by decide) (show 2 ≤ 12 by decide)
theorem un_cross (G : Gt) {μ : Mm} (hi : Inv μ) : UnOK Value.double G Y_X7_cross Y_X8_cross μ := by
  obtain ⟨⟨a, b, n, E, Q⟩, c, S, tn, T, hz, hm⟩ := hi
  have hq : seqOK μ 1 a b n E Q := hz.1
  have ht := hz.2.1
  have hn := hq.le
  obtain ⟨ha, ha6, hb, hb6⟩ := hq.g.2.2
  have hab := ab_le ha6 hb6
  have hE : okE a b E n := fun k hk => hq.el hk
  exact un_q (f := Value.double) hz hm (evr_q ht (ev_X7_cross G hq)) (fun u hu => evw_q (ev_X8_cross G hu.1)) (show 3 ≤ 12 by decide) (show 2 ≤ 12 by decide)
theorem un_clearCommands (G : Gt) {μ : Mm} (hi : Inv μ) : UnOK Value.int G Y_X7_clearCommands Y_X8_clearCommands μ := by
  obtain ⟨⟨a, b, n, E, Q⟩, c, S, tn, T, hz, hm⟩ := hi
  have hq : seqOK μ 1 a b n E Q := hz.1
  have ht := hz.2.1
  have hn := hq.le
  obtain ⟨ha, ha6, hb, hb6⟩ := hq.g.2.2
  have hab := ab_le ha6 hb6
  have hE : okE a b E n := fun k hk => hq.el hk
  refine ⟨_, _, 1, 0, by decide, by decide, ev_X7_clearCommands G hz, fun u hu => ?_⟩
  have hm' : mdOK u (a, b, n, E, Q) c S tn T := hm.Z hu.2
  refine (ev_X8_clearCommands G hm'.2.2.1).post (fun v u2 => ?_)
  rintro ⟨rfl, rfl⟩
  exact ⟨rfl, (a, b, n, E, Q), c, S, 0, T, hu.1.M (zz3 (zz3 sm.rf 3 _) 6 _), hm'.1.same rfl, hm'.2.1.q ((uF_n _ _ (by omega)).trans (uF_n _ _ (by omega))) rfl, ⟨uF_s _ _ _ _, Nat.zero_le _, fun k hk => absurd hk (by omega)⟩, (uF_n _ _ (by omega)).trans ((uF_n _ _ (by omega)).trans hm'.2.2.2)⟩
theorem un_runCommands (G : Gt) {μ : Mm} (hi : Inv μ) : UnOK Value.int G Y_X7_runCommands Y_X8_runCommands μ := by
  obtain ⟨⟨a, b, n, E, Q⟩, c, S, tn, T, hz, hm⟩ := hi
  have hq : seqOK μ 1 a b n E Q := hz.1
  have ht := hz.2.1
  have hn := hq.le
  obtain ⟨ha, ha6, hb, hb6⟩ := hq.g.2.2
  have hab := ab_le ha6 hb6
  have hE : okE a b E n := fun k hk => hq.el hk
  have h1 := ev_X7_runCommands G hz
  rcases hff : ffL T tn 150 0 with _ | p
  · refine ⟨_, _, 9, 6, by decide, by decide, h1.post (P' := fun v u => v = some (.int (nI (rnL T tn 150 0 (a, b, n, E, Q)).1)) ∧ zpOK u (rnL T tn 150 0 (a, b, n, E, Q)).2 (kpC c) (kpS c S (a, b, n, E, Q)) tn T ∧ smZ μ u) (fun v u => ?_), fun u hu => ?_⟩
    · rw [hff]; rintro ⟨q1, q2, q3⟩; exact ⟨q2, q3, q1⟩
    · have hm' : mdOK u (a, b, n, E, Q) c S tn T := hm.Z hu.2
      refine (ev_X8_runCommands G hm'.1 hm'.2.1 hm'.2.2.1 hm'.2.2.2).post (fun v u2 => ?_)
      rw [hff]
      rintro ⟨q1, q2, q3, q4, q5, q6⟩
      exact ⟨q4, _, _, _, tn, T, hu.1.M q1, q5, q6, q2, q3⟩
  · refine ⟨_, _, 9, 6, by decide, by decide, h1.post (P' := fun v u => v = some (.int (-10 - nI p)) ∧ zpOK u (a, b, n, E, Q) c S tn T ∧ smZ μ u) (fun v u => ?_), fun u hu => ?_⟩
    · rw [hff]; rintro ⟨q1, q2, q3⟩; exact ⟨q2, q3, q1⟩
    · have hm' : mdOK u (a, b, n, E, Q) c S tn T := hm.Z hu.2
      refine (ev_X8_runCommands G hm'.1 hm'.2.1 hm'.2.2.1 hm'.2.2.2).post (fun v u2 => ?_)
      rw [hff]
      rintro ⟨q1, q2, q3, q4, q5, q6⟩
      exact ⟨q4, _, _, _, tn, T, hu.1.M q1, q5, q6, q2, q3⟩
