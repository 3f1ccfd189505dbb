/-- of the reference's cells, and of what the law keeps, nothing is changed -/
def smZ (μ u : Mm) : Prop := (∀ i : Nat, 35 ≤ i → (∀ k : Nat, u.1 i k = μ.1 i k) ∧ u.2.1 i = μ.2.1 i) ∧ u.2.2.2.2 = μ.2.2.2.2
theorem smZ.rf {μ : Mm} : smZ μ μ := ⟨fun _ _ => ⟨fun _ => rfl, rfl⟩, rfl⟩
theorem smZ.trans {μ u u2 : Mm} (h : smZ μ u) (h2 : smZ u u2) : smZ μ u2 := ⟨fun i hi => ⟨fun k => ((h2.1 i hi).1 k).trans ((h.1 i hi).1 k), (h2.1 i hi).2.trans (h.1 i hi).2⟩, h2.2.trans h.2⟩
theorem smK.Z {lo hi : Nat} {μ u : Mm} (h : smK lo hi μ u) (hh : hi ≤ 35) : smZ μ u := ⟨fun i hi => h.1 i (by omega), by rw [h.2]⟩
theorem sm.Z {lo hi : Nat} {μ u : Mm} (h : sm lo hi μ u) (hh : hi ≤ 35) : smZ μ u := h.K.Z hh
theorem fx.Z {μ u : Mm} (h : fx μ u) : smZ μ u := ⟨fun i hi => ⟨fun k => h.1 i k (by omega), by rw [h.2.1]⟩, h.2.2.2⟩
theorem txOK.same {μ μ' : Mm} {n : Nat} {T : Nat → Nat} (h : txOK μ n T) {lo hi : Nat} (hs : smK lo hi μ μ') (hd : 35 ≤ lo ∨ hi ≤ 33) : txOK μ' n T := ⟨by rw [hs.F _ (by omega)]; exact h.1, h.2.1, by rw [hs.R (by omega)]; exact h.2.2⟩
/-- the whole of what the class keeps -/
def zpOK (μ : Mm) (x : St) (c : Nat) (S : Nat → St) (tn : Nat) (T : Nat → Nat) : Prop := seqSt μ 1 x ∧ tabX μ ∧ histOK μ c S ∧ txOK μ tn T
theorem histOK.fx {μ u : Mm} {c : Nat} {S : Nat → St} (h : histOK μ c S) (hf : fx μ u) : histOK u c S := by
  have hs : sm 33 34 μ (u.1, u.2.1, μ.2.2) := ⟨fun i hi => ⟨fun k => hf.1 i k (by omega), by rw [hf.2.1]⟩, rfl⟩
  have h1 := h.same hs (by omega)
  obtain ⟨a1, a2, a3, a4, a5⟩ := h1
  exact ⟨a1, a2, by rw [hf.2.2.1]; exact a3, by rw [hf.2.2.1]; exact a4, by rw [hf.2.2.1]; exact a5⟩
theorem seqOK.fx {μ u : Mm} {s a b n : Nat} {E Q : Nat → Nat} (h : seqOK μ s a b n E Q) (hf : fx μ u) (hs : s + 4 ≤ 33) : seqOK u s a b n E Q :=
  ⟨by rw [hf.1 _ _ (by omega)]; exact h.1, h.2.1, ⟨by rw [hf.1 _ _ (by omega)]; exact h.2.2.1.1, by rw [hf.1 _ _ (by omega)]; exact h.2.2.1.2.1, h.2.2.1.2.2⟩, by rw [hf.2.1]; exact h.2.2.2.1, by rw [hf.2.1]; exact h.2.2.2.2⟩
theorem tabX.fx {μ u : Mm} (h : tabX μ) (hf : fx μ u) : tabX u := by
  obtain ⟨a, b, m, E, w, ⟨Q, h1⟩, h2, h3, h4, h5, h6, h7, h8, h9⟩ := h
  refine ⟨a, b, m, E, w, ⟨Q, h1.fx hf (by omega)⟩, ?_, ?_, ?_, ?_, ?_, h7, h8, ?_⟩
  · rw [hf.2.1]; exact h2
  · rw [hf.2.1]; exact h3
  · rw [hf.1 _ _ (by omega)]; exact h4
  · rw [hf.2.1]; exact h5
  · rw [hf.1 _ _ (by omega)]; exact h6
  · rw [hf.2.1]; exact h9
/-- the parts and the table are changed alone -/
def smL (μ u : Mm) : Prop := (∀ i : Nat, i ≠ 4 → (i < 23 ∨ 33 ≤ i) → (∀ k : Nat, u.1 i k = μ.1 i k) ∧ u.2.1 i = μ.2.1 i) ∧ u.2.2 = μ.2.2
theorem smL.rf {μ : Mm} : smL μ μ := ⟨fun _ _ _ => ⟨fun _ => rfl, rfl⟩, rfl⟩
theorem smL.trans {μ u u2 : Mm} (h : smL μ u) (h2 : smL u u2) : smL μ u2 := ⟨fun i h0 hi => ⟨fun k => ((h2.1 i h0 hi).1 k).trans ((h.1 i h0 hi).1 k), (h2.1 i h0 hi).2.trans (h.1 i h0 hi).2⟩, h2.2.trans h.2⟩
theorem smL.t {μ u : Mm} (h : sm 23 33 μ u) : smL μ u := ⟨fun i _ hi => h.1 i (by omega), h.2⟩
theorem smL.p {μ u : Mm} (h : sm 4 5 μ u) : smL μ u := ⟨fun i h0 _ => h.1 i (by omega), h.2⟩
theorem smL.split {μ u : Mm} (h : smL μ u) : ∃ m, sm 4 5 μ m ∧ sm 23 33 m u := by
  refine ⟨((fun i k => if i = 4 then u.1 i k else μ.1 i k), (fun i => if i = 4 then u.2.1 i else μ.2.1 i), μ.2.2), ⟨fun i hi => ⟨fun k => if_neg (by omega), if_neg (by omega)⟩, rfl⟩, ⟨fun i hi => ⟨fun k => ?_, ?_⟩, h.2⟩⟩
  · by_cases e : i = 4
    · exact (if_pos e).symm
    · exact ((h.1 i e hi).1 k).trans (if_neg e).symm
  · by_cases e : i = 4
    · exact (if_pos e).symm
    · exact (h.1 i e hi).2.trans (if_neg e).symm
theorem restart_ok {μ : Mm} {a b : Nat} (E Q : Nat → Nat) (ha : 1 ≤ a) (ha6 : a ≤ 6) (hb : 1 ≤ b) (hb6 : b ≤ 6) : seqOK (uF (uF (uF μ (1 + 1) 0 (nI a)) (1 + 1) 1 (nI b)) 1 3 (nI 0)) 1 a b 0 E Q :=
  ⟨uF_s _ _ _ _, by omega, ⟨by simp [uF], by simp [uF], ha, ha6, hb, hb6⟩, fun k hk => by omega, fun k hk => by omega⟩
theorem restart_sm {μ : Mm} (x y : Int32) : sm 1 5 μ (uF (uF (uF μ (1 + 1) 0 x) (1 + 1) 1 y) 1 3 (nI 0)) := ((sm.rf.uF (by omega) (by omega)).uF (by omega) (by omega)).uF (by omega) (by omega)
theorem lay_ok {μ : Mm} {a b n p q : Nat} {E Q : Nat → Nat} (h : seqOK μ 1 a b n E Q) (hp : p < n) (hq : q < 6) : seqOK (uR μ 4 p (nI q)) 1 a b n E (upE Q p q) := by
  refine ⟨h.1, h.2.1, h.2.2.1, ?_, fun k hk => ?_⟩
  · rw [show (uR μ 4 p (nI q)).2.1 (1 + 2) = μ.2.1 3 from uR_n _ _ _ (by decide)]; exact h.2.2.2.1
  · rw [show (uR μ 4 p (nI q)).2.1 (1 + 3) = upd (μ.2.1 4) p (nI q) from uR_s _ _ _ _]
    unfold upE
    by_cases e : k = p
    · subst e; rw [upd_s, if_pos rfl]; exact ⟨rfl, hq⟩
    · rw [upd_n _ _ e, if_neg e]; exact h.2.2.2.2 k hk
/-- the greatest number of blocks; the split that is laid -/
def spO (a b n : Nat) (E : Nat → Nat) : Option Nat := hbN (lenN a b E (2 ^ n - 1)) 11
def clN (a b n : Nat) (E : Nat → Nat) : Bool := match spO a b n E with
  | none => false
  | some k => decide (k ≤ 6)
def fbB (a b n : Nat) (E : Nat → Nat) (S c : Nat) : Nat := (fsN (fun B => cB a b E S B && (lenN a b E (S ^^^ B)).testBit (c - 1)) (2 ^ n)).getD 0
def lsL (a b n : Nat) (E : Nat → Nat) : Nat → Nat → Nat → (Nat → Nat) → (Nat → Nat)
  | 0, _, _, Q => Q
  | f + 1, k, S, Q => lsL a b n E f (k + 1) (S ^^^ (S &&& fbB a b n E S (f + 1))) (fun j => if j < n ∧ (fbB a b n E S (f + 1)).testBit j = true then k else Q j)
theorem fsN_lt {f : Nat → Bool} : ∀ {N x : Nat}, fsN f N = some x → x < N := by
  intro N
  induction N with
  | zero => intro x h; cases h
  | succ N ih =>
    intro x h
    unfold fsN at h
    split at h
    · next y e => cases h; exact Nat.lt_succ_of_lt (ih e)
    · split at h
      · cases h; exact Nat.lt_succ_self _
      · cases h
theorem fbB_lt (a b n : Nat) (E : Nat → Nat) (S c : Nat) : fbB a b n E S c < 2 ^ n := by
  unfold fbB
  cases h : fsN (fun B => cB a b E S B && (lenN a b E (S ^^^ B)).testBit (c - 1)) (2 ^ n) with
  | none => exact ppos n
  | some x => exact fsN_lt h
theorem hbN_lt {n x : Nat} : ∀ {k : Nat}, hbN n k = some x → x < k := by
  intro k
  induction k with
  | zero => intro h; cases h
  | succ k ih =>
    intro h
    unfold hbN at h
    split at h
    · cases h; exact Nat.lt_succ_self _
    · exact Nat.lt_succ_of_lt (ih h)
set_option maxRecDepth 100000 in
theorem ev_X7_canLaySplit (G : Gt) {a b n : Nat} {E Q : Nat → Nat} {μ : Mm} (hq : seqOK μ 1 a b n E Q) (ht : tabX μ) : EVq G 5 Y_X7_canLaySplit [rf G 0] μ (.int (bI (clN a b n E))) := by
  have hn := hq.le
  have hg := hq.g
  have hab := ab_le hg.2.2.2.1 hg.2.2.2.2.2
  have hE : okE a b E n := fun k hk => hq.el hk
  have hpw := p1024 hn
  have hpw1 := ppos n
  refine ev_of (by decide) (Nat.le_of_ble_eq_true rfl) ?_
  show Zs G 5 Y_X7_canLaySplit (fnN G _) 0 [(0, rf G 0)] [] μ
  refine z_aload_n dX7_canLaySplit_0 rfl ?_
  refine z_getR (j := 23) dX7_canLaySplit_1 fl_X7_26 ⟨by decide, _, rfl, rfl⟩ ?_
  refine z_aload_n dX7_canLaySplit_4 rfl ?_
  refine z_getR (j := 1) dX7_canLaySplit_5 fl_X7_12 ⟨by decide, _, rfl, rfl⟩ ?_
  refine z_cV1g dX7_canLaySplit_8 lk_X7_152 (by decide) ⟨by decide, _, rfl⟩ rfl (Nat.le_of_ble_eq_true rfl) (ev_fol G hq ht) ?_
  rintro v u ⟨rfl, hs, w, h⟩
  have hq := hq.same hs (by omega)
  refine z_aload_n dX7_canLaySplit_11 rfl ?_
  refine z_getR (j := 1) dX7_canLaySplit_12 fl_X7_12 ⟨by decide, _, rfl, rfl⟩ ?_
  refine z_cV0 dX7_canLaySplit_15 lk_X7_127 (by decide) ⟨by decide, _, rfl⟩ rfl (Nat.le_of_ble_eq_true rfl) (ev_X4_allPlaces G seq1 hq) ?_
  refine z_cV1g dX7_canLaySplit_18 lk_X7_319 (by decide) ⟨by decide, _, rfl⟩ rfl (Nat.le_of_ble_eq_true rfl) (ev_X5_mostBlocks G h (by omega)) ?_
  rintro v u2 ⟨rfl, hs2, h2⟩
  refine z_istore_n (lv' := [(1, _), (0, _)]) dX7_canLaySplit_21 rfl (by decide) rfl ?_
  refine z_iload_n dX7_canLaySplit_22 rfl ?_
  refine z_iconst (v := -1) dX7_canLaySplit_23 (by decide) ?_
  rcases hm : hbN (lenN a b E (2 ^ n - 1)) 11 with _ | M
  · show Zs _ _ _ _ _ [(1, .int (-1)), (0, rf G 0)] (.int (-1) :: .int (-1) :: []) _
    refine z_sub (lv' := [(0, _), (1, _)]) rfl ?_
    refine z_icmp_eq (tgt := 37) dX7_canLaySplit_24 (by decide) (fun c24 => ?_) (fun c24 => absurd rfl c24)
    refine z_iconst (v := nI 0) dX7_canLaySplit_37 (by decide) ?_
    exact z_zret rfl rfl dX7_canLaySplit_38 ⟨by unfold clN spO; rw [hm]; rfl, hs.trans hs2, h2.x⟩
  · have hM := hbN_lt hm
    show Zs _ _ _ _ _ [(1, .int (nI M)), (0, rf G 0)] (.int (-1) :: .int (nI M) :: []) _
    refine z_sub (lv' := [(0, _), (1, _)]) rfl ?_
    refine z_icmp_eq (tgt := 37) dX7_canLaySplit_24 (by decide) (fun c24 => absurd c24 (nI_m1 (by omega))) (fun c24 => ?_)
    refine z_iload_n dX7_canLaySplit_27 rfl ?_
    refine z_bipush (v := nI 6) dX7_canLaySplit_28 (by decide) ?_
    refine z_icmpN_gt (tgt := 37) dX7_canLaySplit_30 (by decide) (by omega) (by omega) (fun c30 => ?_) (fun c30 => ?_)
    · refine z_iconst (v := nI 0) dX7_canLaySplit_37 (by decide) ?_
      exact z_zret rfl rfl dX7_canLaySplit_38 ⟨by unfold clN spO; rw [hm]; show _ = some (Value.int (bI (decide (M ≤ 6)))); rw [decide_eq_false (by omega)]; rfl, hs.trans hs2, h2.x⟩
    · refine z_iconst (v := nI 1) dX7_canLaySplit_33 (by decide) ?_
      refine z_goto (tgt := 38) dX7_canLaySplit_34 (by decide) ?_
      exact z_zret rfl rfl dX7_canLaySplit_38 ⟨by unfold clN spO; rw [hm]; show _ = some (Value.int (bI (decide (M ≤ 6)))); rw [decide_eq_true (by omega)]; rfl, hs.trans hs2, h2.x⟩
set_option maxRecDepth 100000 in
theorem lp_X7_laySplitNow (G : Gt) {a b n M : Nat} {E : Nat → Nat} {μ0 : Mm} (hM : M ≤ 6) : ∀ (f k S : Nat) (Q : Nat → Nat) (μ : Mm), k + f = M → S < 2 ^ n → smL μ0 μ → seqOK μ 1 a b n E Q → tabOK μ a b n E (2 ^ n) →
    Zs G 5 Y_X7_laySplitNow (fnN G (fun v u => v = some (.int (nI M)) ∧ smL μ0 u ∧ seqOK u 1 a b n E (lsL a b n E f k S Q) ∧ tabX u)) 32 [(0, rf G 0), (1, .int (nI M)), (2, .int (nI S)), (3, .int (nI k))] [] μ := by
  intro f
  induction f with
  | zero =>
    intro k S Q μ hf hS hl hq h
    refine z_iload_n dX7_laySplitNow_32 rfl ?_
    refine z_iload_n dX7_laySplitNow_33 rfl ?_
    refine z_icmpN_ge (tgt := 73) dX7_laySplitNow_34 (by decide) (by omega) (by omega) (fun c34 => ?_) (fun c34 => absurd c34 (by omega))
    refine z_iload_n dX7_laySplitNow_73 rfl ?_
    exact z_ret (ty := none) (v := none) rfl dX7_laySplitNow_74 ⟨rfl, hl, hq, h.x⟩
  | succ f ih =>
    intro k S Q μ hf hS hl hq h
    have hpw := p1024 hq.le
    have hB := fbB_lt a b n E S (f + 1)
    refine z_iload_n dX7_laySplitNow_32 rfl ?_
    refine z_iload_n dX7_laySplitNow_33 rfl ?_
    refine z_icmpN_ge (tgt := 73) dX7_laySplitNow_34 (by decide) (by omega) (by omega) (fun c34 => absurd c34 (by omega)) (fun c34 => ?_)
    refine z_aload_n dX7_laySplitNow_37 rfl ?_
    refine z_getR (j := 23) dX7_laySplitNow_38 fl_X7_26 ⟨by decide, _, rfl, rfl⟩ ?_
    refine z_iload_n dX7_laySplitNow_41 rfl ?_
    refine z_iload_n dX7_laySplitNow_42 rfl ?_
    refine z_iload_n dX7_laySplitNow_43 rfl ?_
    refine z_isubN dX7_laySplitNow_44 (by omega) ?_
    rw [show M - k = f + 1 by omega]
    refine z_cV2g dX7_laySplitNow_45 lk_X7_322 (by decide) ⟨by decide, _, rfl⟩ rfl (Nat.le_of_ble_eq_true rfl) (ev_X5_firstBlockOfSplit G h hS (show 1 ≤ f + 1 by omega) (by omega)) ?_
    rintro v u ⟨rfl, hs, h2⟩
    have hq2 := hq.same hs (by omega)
    refine z_istore (lv' := [(4, _), (0, _), (1, _), (2, _), (3, _)]) dX7_laySplitNow_48 (by decide) rfl ?_
    refine z_aload_n dX7_laySplitNow_50 rfl ?_
    refine z_getR (j := 1) dX7_laySplitNow_51 fl_X7_12 ⟨by decide, _, rfl, rfl⟩ ?_
    refine z_iload dX7_laySplitNow_54 rfl ?_
    refine z_iload_n dX7_laySplitNow_56 rfl ?_
    refine z_cV2g dX7_laySplitNow_57 lk_X7_325 (by decide) ⟨by decide, _, rfl⟩ rfl (Nat.le_of_ble_eq_true rfl) (ev_X4_layPlaces G (p := k) seq1 hq2 (show (fbB a b n E S (f + 1)) < 2 ^ 31 by omega)) ?_
    rintro v u2 ⟨rfl, hs3, hpt⟩
    refine z_iload_n dX7_laySplitNow_60 rfl ?_
    refine z_iload dX7_laySplitNow_61 rfl ?_
    refine z_iconst (v := -1) dX7_laySplitNow_63 (by decide) ?_
    refine z_ixor dX7_laySplitNow_64 ?_
    refine z_iand dX7_laySplitNow_65 ?_
    rw [nI_andn]
    have hle := andn_le S (fbB a b n E S (f + 1))
    refine z_istore_n (lv' := [(2, _), (4, _), (0, _), (1, _), (3, _)]) dX7_laySplitNow_66 rfl (by decide) rfl ?_
    refine z_iinc (v := nI (k + 1)) (lv' := [(3, _), (2, _), (4, _), (0, _), (1, _)]) dX7_laySplitNow_67 rfl (nI_inc _ 1) (by decide) rfl ?_
    refine z_goto (tgt := 32) dX7_laySplitNow_70 (by decide) ?_
    have hq3 : seqOK u2 1 a b n E (fun j => if j < n ∧ (fbB a b n E S (f + 1)).testBit j = true then k else Q j) := by
      refine ⟨by rw [hs3.F _ (by omega)]; exact hq2.1, hq2.2.1, ⟨by rw [hs3.F _ (by omega)]; exact hq2.2.2.1.1, by rw [hs3.F _ (by omega)]; exact hq2.2.2.1.2.1, hq2.2.2.1.2.2⟩, by rw [hs3.R (by omega)]; exact hq2.2.2.2.1, fun j hj => ?_⟩
      rw [hpt j]
      show (if j < n ∧ (fbB a b n E S (f + 1)).testBit j = true then nI k else u.2.1 (1 + 3) j) = nI (if j < n ∧ (fbB a b n E S (f + 1)).testBit j = true then k else Q j) ∧ (if j < n ∧ (fbB a b n E S (f + 1)).testBit j = true then k else Q j) < 6
      by_cases e : j < n ∧ (fbB a b n E S (f + 1)).testBit j = true
      · rw [if_pos e, if_pos e]; exact ⟨rfl, by omega⟩
      · rw [if_neg e, if_neg e]; exact hq2.2.2.2.2 j hj
    have q := ih (k + 1) (S ^^^ (S &&& (fbB a b n E S (f + 1)))) _ u2 (by omega) (by omega) ((hl.trans (smL.t hs)).trans (smL.p hs3)) hq3 (h2.same hs3.K (by omega))
    refine z_sub (lv' := [(0, _), (1, _), (2, _), (3, _)]) rfl ?_
    exact q
set_option maxRecDepth 100000 in
theorem ev_X7_laySplitNow (G : Gt) {a b n : Nat} {E Q : Nat → Nat} {μ : Mm} (hq : seqOK μ 1 a b n E Q) (ht : tabX μ) {M : Nat} (hm : spO a b n E = some M) (hM : M ≤ 6) : EV G 5 Y_X7_laySplitNow [rf G 0] μ (fun v u => v = some (.int (nI M)) ∧ smL μ u ∧ seqOK u 1 a b n E (lsL a b n E M 0 (2 ^ n - 1) Q) ∧ tabX u) := by
  have hn := hq.le
  have hg := hq.g
  have hab := ab_le hg.2.2.2.1 hg.2.2.2.2.2
  have hE : okE a b E n := fun k hk => hq.el hk
  have hpw := p1024 hn
  have hpw1 := ppos n
  refine ev_of (by decide) (Nat.le_of_ble_eq_true rfl) ?_
  show Zs G 5 Y_X7_laySplitNow (fnN G _) 0 [(0, rf G 0)] [] μ
  refine z_aload_n dX7_laySplitNow_0 rfl ?_
  refine z_getR (j := 23) dX7_laySplitNow_1 fl_X7_26 ⟨by decide, _, rfl, rfl⟩ ?_
  refine z_aload_n dX7_laySplitNow_4 rfl ?_
  refine z_getR (j := 1) dX7_laySplitNow_5 fl_X7_12 ⟨by decide, _, rfl, rfl⟩ ?_
  refine z_cV1g dX7_laySplitNow_8 lk_X7_152 (by decide) ⟨by decide, _, rfl⟩ rfl (Nat.le_of_ble_eq_true rfl) (ev_fol G hq ht) ?_
  rintro v u ⟨rfl, hs, w, h⟩
  have hq := hq.same hs (by omega)
  refine z_aload_n dX7_laySplitNow_11 rfl ?_
  refine z_getR (j := 1) dX7_laySplitNow_12 fl_X7_12 ⟨by decide, _, rfl, rfl⟩ ?_
  refine z_cV0 dX7_laySplitNow_15 lk_X7_127 (by decide) ⟨by decide, _, rfl⟩ rfl (Nat.le_of_ble_eq_true rfl) (ev_X4_allPlaces G seq1 hq) ?_
  refine z_cV1g dX7_laySplitNow_18 lk_X7_319 (by decide) ⟨by decide, _, rfl⟩ rfl (Nat.le_of_ble_eq_true rfl) (ev_X5_mostBlocks G h (by omega)) ?_
  rintro v u2 ⟨rfl, hs2, h2⟩
  have hq := hq.same hs2 (by omega)
  rw [show hbN (lenN a b E (2 ^ n - 1)) 11 = some M from hm]
  show Zs _ _ _ _ _ _ (.int (nI M) :: []) _
  refine z_istore_n (lv' := [(1, _), (0, _)]) dX7_laySplitNow_21 rfl (by decide) rfl ?_
  refine z_aload_n dX7_laySplitNow_22 rfl ?_
  refine z_getR (j := 1) dX7_laySplitNow_23 fl_X7_12 ⟨by decide, _, rfl, rfl⟩ ?_
  refine z_cV0 dX7_laySplitNow_26 lk_X7_127 (by decide) ⟨by decide, _, rfl⟩ rfl (Nat.le_of_ble_eq_true rfl) (ev_X4_allPlaces G seq1 hq) ?_
  refine z_istore_n (lv' := [(2, _), (1, _), (0, _)]) dX7_laySplitNow_29 rfl (by decide) rfl ?_
  refine z_iconst (v := nI 0) dX7_laySplitNow_30 (by decide) ?_
  refine z_istore_n (lv' := [(3, _), (2, _), (1, _), (0, _)]) dX7_laySplitNow_31 rfl (by decide) rfl ?_
  refine z_sub (lv' := [(0, _), (1, _), (2, _), (3, _)]) rfl ?_
  exact lp_X7_laySplitNow G hM M 0 (2 ^ n - 1) _ u2 (by omega) (by omega) (smL.t (hs.trans hs2)) hq h2
