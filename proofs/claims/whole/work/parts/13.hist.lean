/-- nothing is changed but cells from lo to hi, and which rows are kept -/
def smK (lo hi : Nat) (μ μ' : Mm) : Prop := (∀ i : Nat, i < lo ∨ hi ≤ i → (∀ k : Nat, μ'.1 i k = μ.1 i k) ∧ μ'.2.1 i = μ.2.1 i) ∧ μ'.2.2.2 = μ.2.2.2
theorem sm.K {lo hi : Nat} {μ μ' : Mm} (h : sm lo hi μ μ') : smK lo hi μ μ' := ⟨h.1, by rw [h.2]⟩
theorem smK.rf {lo hi : Nat} {μ : Mm} : smK lo hi μ μ := sm.rf.K
theorem smK.trans {lo hi : Nat} {μ μ1 μ2 : Mm} (h : smK lo hi μ μ1) (h2 : smK lo hi μ1 μ2) : smK lo hi μ μ2 :=
  ⟨fun i hi => ⟨fun k => ((h2.1 i hi).1 k).trans ((h.1 i hi).1 k), ((h2.1 i hi).2).trans (h.1 i hi).2⟩, h2.2.trans h.2⟩
theorem smK.mono {lo hi lo' hi' : Nat} {μ μ1 : Mm} (h : smK lo hi μ μ1) (h1 : lo' ≤ lo) (h2 : hi ≤ hi') : smK lo' hi' μ μ1 := ⟨fun i hi => h.1 i (by omega), h.2⟩
theorem smK.F {lo hi i : Nat} {μ μ1 : Mm} (h : smK lo hi μ μ1) (k : Nat) (hi' : i < lo ∨ hi ≤ i) : μ1.1 i k = μ.1 i k := (h.1 i hi').1 k
theorem smK.R {lo hi i : Nat} {μ μ1 : Mm} (h : smK lo hi μ μ1) (hi' : i < lo ∨ hi ≤ i) : μ1.2.1 i = μ.2.1 i := (h.1 i hi').2
theorem seqOK.sameK {μ μ' : Mm} {s a b n : Nat} {E Q : Nat → Nat} (h : seqOK μ s a b n E Q) {lo hi : Nat} (hs : smK lo hi μ μ') (hd : s + 4 ≤ lo ∨ hi ≤ s) : seqOK μ' s a b n E Q := by
  obtain ⟨h1, h2, ⟨h3, h4, h5⟩, h6, h7⟩ := h
  refine ⟨by rw [hs.F 3 (by omega)]; exact h1, h2, ⟨by rw [hs.F 0 (by omega)]; exact h3, by rw [hs.F 1 (by omega)]; exact h4, h5⟩, ?_, ?_⟩
  · rw [hs.R (by omega)]; exact h6
  · rw [hs.R (by omega)]; exact h7
/-- a state: the group's numbers, how many elements, the elements, the parts -/
abbrev St : Type := Nat × Nat × Nat × (Nat → Nat) × (Nat → Nat)
abbrev seqSt (μ : Mm) (s : Nat) (x : St) : Prop := seqOK μ s x.1 x.2.1 x.2.2.1 x.2.2.2.1 x.2.2.2.2
def isKp (x : Nat) : Prop := x = 7 ∨ x = 11 ∨ x = 15 ∨ x = 19
theorem isKp.s {x : Nat} (h : isKp x) : isSeq x := by
  rcases h with rfl | rfl | rfl | rfl
  · exact seq7
  · exact seq11
  · exact seq15
  · exact seq19
theorem isKp.bd {x : Nat} (h : isKp x) : 7 ≤ x ∧ x + 4 ≤ 23 := by rcases h with rfl | rfl | rfl | rfl <;> decide
theorem isKp.ap {x y : Nat} (h : isKp x) (k : isKp y) (hn : x ≠ y) : x + 4 ≤ y ∨ y + 4 ≤ x := by
  rcases h with rfl | rfl | rfl | rfl <;> rcases k with rfl | rfl | rfl | rfl <;> first | omega | exact absurd rfl hn
/-- the history: c states, the oldest first -/
def histOK (μ : Mm) (c : Nat) (S : Nat → St) : Prop := μ.1 5 1 = nI c ∧ c ≤ 4 ∧ (∀ j : Nat, j < 4 → isKp (μ.2.2.1 j)) ∧ (∀ i j : Nat, i < 4 → j < 4 → μ.2.2.1 i = μ.2.2.1 j → i = j) ∧ ∀ j : Nat, j < c → seqSt μ (μ.2.2.1 j) (S j)
def kpC (c : Nat) : Nat := if c = 4 then 4 else c + 1
def kpS (c : Nat) (S : Nat → St) (x : St) : Nat → St := if c = 4 then (fun j => if j = 3 then x else S (j + 1)) else (fun j => if j = c then x else S j)
theorem histOK.same {μ μ' : Mm} {c : Nat} {S : Nat → St} (h : histOK μ c S) {lo hi : Nat} (hs : sm lo hi μ μ') (hd : 23 ≤ lo ∨ hi ≤ 5) : histOK μ' c S := by
  obtain ⟨h1, h2, h3, h4, h5⟩ := h
  have e : μ'.2.2.1 = μ.2.2.1 := by rw [hs.2]
  refine ⟨by rw [hs.F 1 (by omega)]; exact h1, h2, by rw [e]; exact h3, by rw [e]; exact h4, fun j hj => ?_⟩
  rw [e]
  have := (h3 j (by omega)).bd
  exact (h5 j hj).same hs (by omega)
theorem kp_uK (μ : Mm) (j v k : Nat) : (uK μ j v).2.2.1 k = if k = j then v else μ.2.2.1 k := rfl
abbrev drop4 (μ : Mm) : Mm := uF (uK (uK (uK (uK μ 0 (μ.2.2.1 1)) 1 (μ.2.2.1 2)) 2 (μ.2.2.1 3)) 3 (μ.2.2.1 0)) 5 1 (nI 3)
set_option maxRecDepth 100000 in
theorem ev_X3_dropOldest (G : Gt) {μ : Mm} (hk : ∀ j : Nat, j < 4 → isKp (μ.2.2.1 j)) : EVv G 0 Y_X3_dropOldest [rf G 5] μ (drop4 μ) := by
  refine ev_of (by decide) (Nat.le_of_ble_eq_true rfl) ?_
  show Zs G 0 Y_X3_dropOldest (fnN G _) 0 [(0, rf G 5)] [] μ
  refine z_aload_n dX3_dropOldest_0 rfl ?_
  refine z_getR (j := 6) dX3_dropOldest_1 fl_X3_11 ⟨by decide, _, rfl, rfl⟩ ?_
  refine z_iconst (v := nI 0) dX3_dropOldest_4 (by decide) ?_
  refine z_aaldN (j := (μ.2.2.1 0)) dX3_dropOldest_5 ⟨by decide, rfl⟩ (by omega) (by decide) rfl ?_
  refine z_astore_n (lv' := [(1, _), (0, _)]) dX3_dropOldest_6 rfl (by decide) rfl ?_
  refine z_iconst (v := nI 1) dX3_dropOldest_7 (by decide) ?_
  refine z_istore_n (lv' := [(2, _), (1, _), (0, _)]) dX3_dropOldest_8 rfl (by decide) rfl ?_
  refine z_iload_n dX3_dropOldest_9 rfl ?_
  refine z_iconst (v := nI 4) dX3_dropOldest_10 (by decide) ?_
  refine z_icmpN_ge (tgt := 34) dX3_dropOldest_11 (by decide) (by omega) (by omega) (fun c11 => absurd c11 (by omega)) (fun c11 => ?_)
  refine z_aload_n dX3_dropOldest_14 rfl ?_
  refine z_getR (j := 6) dX3_dropOldest_15 fl_X3_11 ⟨by decide, _, rfl, rfl⟩ ?_
  refine z_iload_n dX3_dropOldest_18 rfl ?_
  refine z_iconst (v := nI 1) dX3_dropOldest_19 (by decide) ?_
  refine z_isubN dX3_dropOldest_20 (by omega) ?_
  refine z_aload_n dX3_dropOldest_21 rfl ?_
  refine z_getR (j := 6) dX3_dropOldest_22 fl_X3_11 ⟨by decide, _, rfl, rfl⟩ ?_
  refine z_iload_n dX3_dropOldest_25 rfl ?_
  refine z_aaldN (j := (μ.2.2.1 1)) dX3_dropOldest_26 ⟨by decide, rfl⟩ (by omega) (by decide) (by first | rfl | simp [kp_uK]) ?_
  refine z_aastN dX3_dropOldest_27 (by omega) (isSeq.o (isKp.s (hk 1 (by decide)))) ?_
  refine z_iinc (v := nI (1 + 1)) (lv' := [(2, _), (1, _), (0, _)]) dX3_dropOldest_28 rfl (nI_inc _ 1) (by decide) rfl ?_
  refine z_goto (tgt := 9) dX3_dropOldest_31 (by decide) ?_
  refine z_iload_n dX3_dropOldest_9 rfl ?_
  refine z_iconst (v := nI 4) dX3_dropOldest_10 (by decide) ?_
  refine z_icmpN_ge (tgt := 34) dX3_dropOldest_11 (by decide) (by omega) (by omega) (fun c11 => absurd c11 (by omega)) (fun c11 => ?_)
  refine z_aload_n dX3_dropOldest_14 rfl ?_
  refine z_getR (j := 6) dX3_dropOldest_15 fl_X3_11 ⟨by decide, _, rfl, rfl⟩ ?_
  refine z_iload_n dX3_dropOldest_18 rfl ?_
  refine z_iconst (v := nI 1) dX3_dropOldest_19 (by decide) ?_
  refine z_isubN dX3_dropOldest_20 (by omega) ?_
  refine z_aload_n dX3_dropOldest_21 rfl ?_
  refine z_getR (j := 6) dX3_dropOldest_22 fl_X3_11 ⟨by decide, _, rfl, rfl⟩ ?_
  refine z_iload_n dX3_dropOldest_25 rfl ?_
  refine z_aaldN (j := (μ.2.2.1 2)) dX3_dropOldest_26 ⟨by decide, rfl⟩ (by omega) (by decide) (by first | rfl | simp [kp_uK]) ?_
  refine z_aastN dX3_dropOldest_27 (by omega) (isSeq.o (isKp.s (hk 2 (by decide)))) ?_
  refine z_iinc (v := nI ((1 + 1) + 1)) (lv' := [(2, _), (1, _), (0, _)]) dX3_dropOldest_28 rfl (nI_inc _ 1) (by decide) rfl ?_
  refine z_goto (tgt := 9) dX3_dropOldest_31 (by decide) ?_
  refine z_iload_n dX3_dropOldest_9 rfl ?_
  refine z_iconst (v := nI 4) dX3_dropOldest_10 (by decide) ?_
  refine z_icmpN_ge (tgt := 34) dX3_dropOldest_11 (by decide) (by omega) (by omega) (fun c11 => absurd c11 (by omega)) (fun c11 => ?_)
  refine z_aload_n dX3_dropOldest_14 rfl ?_
  refine z_getR (j := 6) dX3_dropOldest_15 fl_X3_11 ⟨by decide, _, rfl, rfl⟩ ?_
  refine z_iload_n dX3_dropOldest_18 rfl ?_
  refine z_iconst (v := nI 1) dX3_dropOldest_19 (by decide) ?_
  refine z_isubN dX3_dropOldest_20 (by omega) ?_
  refine z_aload_n dX3_dropOldest_21 rfl ?_
  refine z_getR (j := 6) dX3_dropOldest_22 fl_X3_11 ⟨by decide, _, rfl, rfl⟩ ?_
  refine z_iload_n dX3_dropOldest_25 rfl ?_
  refine z_aaldN (j := (μ.2.2.1 3)) dX3_dropOldest_26 ⟨by decide, rfl⟩ (by omega) (by decide) (by first | rfl | simp [kp_uK]) ?_
  refine z_aastN dX3_dropOldest_27 (by omega) (isSeq.o (isKp.s (hk 3 (by decide)))) ?_
  refine z_iinc (v := nI (((1 + 1) + 1) + 1)) (lv' := [(2, _), (1, _), (0, _)]) dX3_dropOldest_28 rfl (nI_inc _ 1) (by decide) rfl ?_
  refine z_goto (tgt := 9) dX3_dropOldest_31 (by decide) ?_
  refine z_iload_n dX3_dropOldest_9 rfl ?_
  refine z_iconst (v := nI 4) dX3_dropOldest_10 (by decide) ?_
  refine z_icmpN_ge (tgt := 34) dX3_dropOldest_11 (by decide) (by omega) (by omega) (fun c11 => ?_) (fun c11 => absurd c11 (by omega))
  refine z_aload_n dX3_dropOldest_34 rfl ?_
  refine z_getR (j := 6) dX3_dropOldest_35 fl_X3_11 ⟨by decide, _, rfl, rfl⟩ ?_
  refine z_iconst (v := nI 3) dX3_dropOldest_38 (by decide) ?_
  refine z_aload_n dX3_dropOldest_39 rfl ?_
  refine z_aastN dX3_dropOldest_40 (by omega) (isSeq.o (isKp.s (hk 0 (by decide)))) ?_
  refine z_aload_n dX3_dropOldest_41 rfl ?_
  refine z_iconst (v := nI 3) dX3_dropOldest_42 (by decide) ?_
  refine z_putI dX3_dropOldest_43 fp_X3_18 ⟨by decide, _, rfl, rfl⟩ ?_
  exact z_vret rfl dX3_dropOldest_46 ⟨rfl, rfl⟩
theorem drop4_ok {μ : Mm} {S : Nat → St} (h : histOK μ 4 S) : histOK (drop4 μ) 3 (fun j => S (j + 1)) ∧ smK 5 23 μ (drop4 μ) := by
  obtain ⟨h1, h2, h3, h4, h5⟩ := h
  have e : ∀ k, (drop4 μ).2.2.1 k = if k = 3 then μ.2.2.1 0 else if k = 2 then μ.2.2.1 3 else if k = 1 then μ.2.2.1 2 else if k = 0 then μ.2.2.1 1 else μ.2.2.1 k := fun k => rfl
  have hs : smK 5 23 μ (drop4 μ) := ⟨fun i hi => ⟨fun k => uF_n _ _ (by omega), rfl⟩, rfl⟩
  have hF : ∀ i k : Nat, ¬ (i = 5 ∧ k = 1) → (drop4 μ).1 i k = μ.1 i k := fun i k hi => uF_n _ _ hi
  refine ⟨⟨uF_s _ _ _ _, by decide, fun j hj => ?_, fun i j hi hj hij => ?_, fun j hj => ?_⟩, hs⟩
  · rcases (show j = 0 ∨ j = 1 ∨ j = 2 ∨ j = 3 by omega) with rfl | rfl | rfl | rfl
    · exact h3 1 (by decide)
    · exact h3 2 (by decide)
    · exact h3 3 (by decide)
    · exact h3 0 (by decide)
  · rcases (show i = 0 ∨ i = 1 ∨ i = 2 ∨ i = 3 by omega) with rfl | rfl | rfl | rfl <;> rcases (show j = 0 ∨ j = 1 ∨ j = 2 ∨ j = 3 by omega) with rfl | rfl | rfl | rfl <;> first | rfl | exact absurd (h4 _ _ (by decide) (by decide) hij) (by decide)
  · have e2 : (drop4 μ).2.2.1 j = μ.2.2.1 (j + 1) := by
      rcases (show j = 0 ∨ j = 1 ∨ j = 2 by omega) with rfl | rfl | rfl <;> rfl
    rw [e2]
    have hb := (h3 (j + 1) (by omega)).bd
    obtain ⟨k1, k2, ⟨k3, k4, k5⟩, k6, k7⟩ := h5 (j + 1) (by omega)
    exact ⟨by rw [hF _ _ (by omega)]; exact k1, k2, ⟨by rw [hF _ _ (by omega)]; exact k3, by rw [hF _ _ (by omega)]; exact k4, k5⟩, k6, k7⟩
/-- a state is put on top of c states that are fewer than four -/
theorem keep_ok {μ m : Mm} {c o : Nat} {S : Nat → St} {x : St} (h : histOK μ c S) (hc : c < 4) (ho : seqSt μ o x) (h1 : sm (μ.2.2.1 c) (μ.2.2.1 c + 4) μ m) (h2 : cpy m (μ.2.2.1 c) μ o) :
    smK 5 23 μ (uF m 5 1 (nI (c + 1))) ∧ histOK (uF m 5 1 (nI (c + 1))) (c + 1) (fun j => if j = c then x else S j) := by
  obtain ⟨k1, k2, k3, k4, k5⟩ := h
  have hb := (k3 c hc).bd
  have hs : smK 5 23 μ (uF m 5 1 (nI (c + 1))) := ((h1.mono (by omega) (by omega)).uF (by omega) (by omega)).K
  have e : (uF m 5 1 (nI (c + 1))).2.2.1 = μ.2.2.1 := by show m.2.2.1 = _; rw [h1.2]
  refine ⟨hs, uF_s _ _ _ _, by omega, by rw [e]; exact k3, by rw [e]; exact k4, fun j hj => ?_⟩
  rw [e]
  have h5 : sm 5 6 m (uF m 5 1 (nI (c + 1))) := sm.rf.uF (by omega) (by omega)
  by_cases hjc : j = c
  · subst hjc
    show seqSt _ _ (if j = j then x else S j)
    rw [if_pos rfl]
    exact (h2.ok ho).same h5 (by omega)
  · show seqSt _ _ (if j = c then x else S j)
    rw [if_neg hjc]
    have hb2 := (k3 j (by omega)).bd
    have ha := (k3 j (by omega)).ap (k3 c hc) (fun q => hjc (k4 j c (by omega) hc q))
    exact ((k5 j (by omega)).same h1 (by omega)).same h5 (by omega)
set_option maxRecDepth 100000 in
theorem ev_X3_keep_a (G : Gt) {μ : Mm} {c o : Nat} {S : Nat → St} {x : St} (h : histOK μ c S) (hso : isSeq o) (hoo : o + 4 ≤ 5 ∨ 23 ≤ o) (ho : seqSt μ o x) (hc : c < 4) : EV G 3 Y_X3_keep [rf G 5, rf G o] μ (fun v m => v = none ∧ smK 5 23 μ m ∧ histOK m (kpC c) (kpS c S x)) := by
  refine ev_of (by decide) (Nat.le_of_ble_eq_true rfl) ?_
  show Zs G 3 Y_X3_keep (fnN G _) 0 [(0, rf G 5), (1, rf G o)] [] μ
  refine z_aload_n dX3_keep_0 rfl ?_
  refine z_getI dX3_keep_1 fl_X3_18 ⟨by decide, _, rfl, rfl⟩ h.1 ?_
  refine z_iconst (v := nI 4) dX3_keep_4 (by decide) ?_
  refine z_icmpN_lt (tgt := 12) dX3_keep_5 (by decide) (by omega) (by omega) (fun c5 => ?_) (fun c5 => absurd c5 (by omega))
  refine z_aload_n dX3_keep_12 rfl ?_
  refine z_getR (j := 6) dX3_keep_13 fl_X3_11 ⟨by decide, _, rfl, rfl⟩ ?_
  refine z_aload_n dX3_keep_16 rfl ?_
  refine z_getI dX3_keep_17 fl_X3_18 ⟨by decide, _, rfl, rfl⟩ h.1 ?_
  refine z_aaldN (j := (μ.2.2.1 c)) dX3_keep_20 ⟨by decide, rfl⟩ (by omega) (by decide) rfl ?_
  refine z_aload_n dX3_keep_21 rfl ?_
  refine z_cV1g dX3_keep_22 lk_X3_25 (by decide) (isSeq.o (isKp.s (h.2.2.1 c hc))) rfl (Nat.le_of_ble_eq_true rfl) (ev_X4_copyFrom G (isKp.s (h.2.2.1 c hc)) hso (by have := isKp.bd (h.2.2.1 c hc); omega)) ?_
  rintro _ m ⟨rfl, h1, h2⟩
  refine z_aload_n dX3_keep_25 rfl ?_
  refine z_dup dX3_keep_26 rfl ?_
  refine z_getI dX3_keep_27 fl_X3_18 ⟨by decide, _, rfl, rfl⟩ ((h1.F 1 (by have := (h.2.2.1 c hc).bd; omega)).trans h.1) ?_
  refine z_iconst (v := nI 1) dX3_keep_30 (by decide) ?_
  refine z_iaddN dX3_keep_31 ?_
  refine z_putI dX3_keep_32 fp_X3_18 ⟨by decide, _, rfl, rfl⟩ ?_
  exact z_vret rfl dX3_keep_35 ⟨rfl, (keep_ok h hc ho h1 h2).1, by rw [show kpC c = c + 1 by simp [kpC]; omega, show kpS c S x = (fun j => if j = c then x else S j) by simp [kpS]; omega]; exact (keep_ok h hc ho h1 h2).2⟩
set_option maxRecDepth 100000 in
theorem ev_X3_keep_b (G : Gt) {μ : Mm} {o : Nat} {S : Nat → St} {x : St} (h : histOK μ 4 S) (hso : isSeq o) (hoo : o + 4 ≤ 5 ∨ 23 ≤ o) (ho : seqSt μ o x) : EV G 3 Y_X3_keep [rf G 5, rf G o] μ (fun v m => v = none ∧ smK 5 23 μ m ∧ histOK m (kpC 4) (kpS 4 S x)) := by
  have hd := drop4_ok h
  have ho2 : seqSt (drop4 μ) o x := ho.sameK hd.2 (by omega)
  refine ev_of (by decide) (Nat.le_of_ble_eq_true rfl) ?_
  show Zs G 3 Y_X3_keep (fnN G _) 0 [(0, rf G 5), (1, rf G o)] [] μ
  refine z_aload_n dX3_keep_0 rfl ?_
  refine z_getI dX3_keep_1 fl_X3_18 ⟨by decide, _, rfl, rfl⟩ h.1 ?_
  refine z_iconst (v := nI 4) dX3_keep_4 (by decide) ?_
  refine z_icmpN_lt (tgt := 12) dX3_keep_5 (by decide) (by omega) (by omega) (fun c5 => absurd c5 (by omega)) (fun c5 => ?_)
  refine z_aload_n dX3_keep_8 rfl ?_
  refine z_cV0v dX3_keep_9 lk_X3_22 (by decide) ⟨by decide, _, rfl⟩ rfl (Nat.le_of_ble_eq_true rfl) (ev_X3_dropOldest G (fun j hj => h.2.2.1 j hj)) ?_
  refine z_aload_n dX3_keep_12 rfl ?_
  refine z_getR (j := 6) dX3_keep_13 fl_X3_11 ⟨by decide, _, rfl, rfl⟩ ?_
  refine z_aload_n dX3_keep_16 rfl ?_
  refine z_getI dX3_keep_17 fl_X3_18 ⟨by decide, _, rfl, rfl⟩ (uF_s _ _ _ _) ?_
  refine z_aaldN (j := ((drop4 μ).2.2.1 3)) dX3_keep_20 ⟨by decide, rfl⟩ (by omega) (by decide) rfl ?_
  refine z_aload_n dX3_keep_21 rfl ?_
  refine z_cV1g dX3_keep_22 lk_X3_25 (by decide) (isSeq.o (isKp.s (hd.1.2.2.1 3 (by decide)))) rfl (Nat.le_of_ble_eq_true rfl) (ev_X4_copyFrom G (isKp.s (hd.1.2.2.1 3 (by decide))) hso (by have := isKp.bd (hd.1.2.2.1 3 (by decide)); omega)) ?_
  rintro _ m ⟨rfl, h1, h2⟩
  refine z_aload_n dX3_keep_25 rfl ?_
  refine z_dup dX3_keep_26 rfl ?_
  refine z_getI dX3_keep_27 fl_X3_18 ⟨by decide, _, rfl, rfl⟩ ((h1.F 1 (by have := (hd.1.2.2.1 3 (by decide)).bd; omega)).trans (uF_s _ _ _ _)) ?_
  refine z_iconst (v := nI 1) dX3_keep_30 (by decide) ?_
  refine z_iaddN dX3_keep_31 ?_
  refine z_putI dX3_keep_32 fp_X3_18 ⟨by decide, _, rfl, rfl⟩ ?_
  exact z_vret rfl dX3_keep_35 ⟨rfl, hd.2.trans (keep_ok hd.1 (by decide) ho2 h1 h2).1, (keep_ok hd.1 (by decide) ho2 h1 h2).2⟩
theorem ev_X3_keep (G : Gt) {μ : Mm} {c o : Nat} {S : Nat → St} {x : St} (h : histOK μ c S) (hso : isSeq o) (hoo : o + 4 ≤ 5 ∨ 23 ≤ o) (ho : seqSt μ o x) : EV G 3 Y_X3_keep [rf G 5, rf G o] μ (fun v m => v = none ∧ smK 5 23 μ m ∧ histOK m (kpC c) (kpS c S x)) := by
  by_cases hc : c = 4
  · subst hc; exact ev_X3_keep_b G h hso hoo ho
  · exact ev_X3_keep_a G h hso hoo ho (by have := h.2.1; omega)
set_option maxRecDepth 100000 in
theorem ev_X3_bringBack (G : Gt) {μ : Mm} {c : Nat} {S : Nat → St} (h : histOK μ (c + 1) S) : EV G 3 Y_X3_bringBack [rf G 5, rf G 1] μ (fun v m => v = none ∧ smK 1 6 μ m ∧ histOK m c S ∧ seqSt m 1 (S c)) := by
  have hc := h.2.1
  have hb := (h.2.2.1 c (by omega)).bd
  refine ev_of (by decide) (Nat.le_of_ble_eq_true rfl) ?_
  show Zs G 3 Y_X3_bringBack (fnN G _) 0 [(0, rf G 5), (1, rf G 1)] [] μ
  refine z_aload_n dX3_bringBack_0 rfl ?_
  refine z_getI dX3_bringBack_1 fl_X3_18 ⟨by decide, _, rfl, rfl⟩ h.1 ?_
  refine z_ifN_le (tgt := 30) dX3_bringBack_4 (by decide) (by omega) (fun c4 => absurd c4 (by omega)) (fun c4 => ?_)
  refine z_aload_n dX3_bringBack_7 rfl ?_
  refine z_dup dX3_bringBack_8 rfl ?_
  refine z_getI dX3_bringBack_9 fl_X3_18 ⟨by decide, _, rfl, rfl⟩ h.1 ?_
  refine z_iconst (v := nI 1) dX3_bringBack_12 (by decide) ?_
  refine z_isubN dX3_bringBack_13 (by omega) ?_
  refine z_putI dX3_bringBack_14 fp_X3_18 ⟨by decide, _, rfl, rfl⟩ ?_
  refine z_aload_n dX3_bringBack_17 rfl ?_
  refine z_aload_n dX3_bringBack_18 rfl ?_
  refine z_getR (j := 6) dX3_bringBack_19 fl_X3_11 ⟨by decide, _, rfl, rfl⟩ ?_
  refine z_aload_n dX3_bringBack_22 rfl ?_
  refine z_getI dX3_bringBack_23 fl_X3_18 ⟨by decide, _, rfl, rfl⟩ (uF_s _ _ _ _) ?_
  refine z_aaldN (j := (μ.2.2.1 c)) dX3_bringBack_26 ⟨by decide, rfl⟩ (by omega) (by decide) (rfl : μ.2.2.1 (c + 1 - 1) = μ.2.2.1 c) ?_
  refine z_cV1g dX3_bringBack_27 lk_X3_25 (by decide) ⟨by decide, _, rfl⟩ rfl (Nat.le_of_ble_eq_true rfl) (ev_X4_copyFrom G seq1 (isKp.s (h.2.2.1 c (by omega))) (by omega)) ?_
  rintro _ m ⟨rfl, h1, h2⟩
  exact z_vret rfl dX3_bringBack_30 (by
      have h3 : sm 5 6 μ (uF μ 5 1 (nI (c + 1 - 1))) := sm.rf.uF (by omega) (by omega)
      have h4 : sm 1 6 μ m := (h3.mono (by omega) (by omega)).trans (h1.mono (by omega) (by omega))
      have e : m.2.2.1 = μ.2.2.1 := by rw [h4.2]
      refine ⟨rfl, h4.K, ⟨?_, by omega, by rw [e]; exact h.2.2.1, by rw [e]; exact h.2.2.2.1, fun j hj => ?_⟩, h2.ok ((h.2.2.2.2 c (by omega)).same h3 (by omega))⟩
      · rw [h1.F 1 (by omega)]; exact uF_s _ _ _ _
      · rw [e]
        have hb2 := (h.2.2.1 j (by omega)).bd
        exact ((h.2.2.2.2 j (by omega)).same h3 (by omega)).same h1 (by omega))
