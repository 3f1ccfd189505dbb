def upE (E : Nat → Nat) (m x : Nat) : Nat → Nat := fun k => if k = m then x else E k
theorem upE_lt (E : Nat → Nat) (m x : Nat) : ∀ k, k < m → E k = upE E m x k := fun k hk => by unfold upE; rw [if_neg (by omega)]
theorem upE_s (E : Nat → Nat) (m x : Nat) : upE E m x m = x := by unfold upE; rw [if_pos rfl]
/-- the table with sums, kinds and blocks below N -/
def tabP (μ : Mm) (a b m : Nat) (E : Nat → Nat) (N w : Nat) : Prop :=
  (∃ Q : Nat → Nat, seqOK μ 24 a b m E Q) ∧ (∀ S : Nat, S < N → μ.2.1 28 S = nI (tot a b E S)) ∧ (∀ S : Nat, S < N → μ.2.1 29 S = nI (kindN a b E S)) ∧
  μ.1 23 6 = nI (cntN (blk a b E) N) ∧ (∀ S : Nat, S < N → blk a b E S = true → μ.2.1 32 (cntN (blk a b E) S) = nI S) ∧
  μ.1 23 7 = nI w ∧ 1 ≤ w ∧ w ≤ N ∧ ∀ S : Nat, S < w → μ.2.1 30 S = nI (lenN a b E S) ∧ μ.2.1 31 S = nI (splN a b E S)
theorem tabP_ok {μ : Mm} {a b m w : Nat} {E : Nat → Nat} : tabP μ a b m E (2 ^ m) w ↔ tabOK μ a b m E w := Iff.rfl
def tabR (μ : Mm) (a b : Nat) (E : Nat → Nat) (N w : Nat) : Prop :=
  (∀ S : Nat, S < N → μ.2.1 28 S = nI (tot a b E S)) ∧ (∀ S : Nat, S < N → μ.2.1 29 S = nI (kindN a b E S)) ∧
  μ.1 23 6 = nI (cntN (blk a b E) N) ∧ (∀ S : Nat, S < N → blk a b E S = true → μ.2.1 32 (cntN (blk a b E) S) = nI S) ∧
  μ.1 23 7 = nI w ∧ 1 ≤ w ∧ w ≤ N ∧ ∀ S : Nat, S < w → μ.2.1 30 S = nI (lenN a b E S) ∧ μ.2.1 31 S = nI (splN a b E S)
theorem cntN_cg {f g : Nat → Bool} {N : Nat} (h : ∀ k, k < N → f k = g k) : ∀ n, n ≤ N → cntN f n = cntN g n := fun n hn => cntN_congr n (fun k hk => h k (by omega))
theorem tabR.cg {μ : Mm} {a b m w n : Nat} {E E' : Nat → Nat} (h : tabR μ a b E (2 ^ n) w) (hE : ∀ k, k < n → E k = E' k) (hs : ∃ Q : Nat → Nat, seqOK μ 24 a b m E' Q) : tabP μ a b m E' (2 ^ n) w := by
  obtain ⟨h2, h3, h4, h5, h6, h7, h8, h9⟩ := h
  have hb : ∀ S, S < 2 ^ n → blk a b E S = blk a b E' S := fun S hS => blk_cg hE hS
  refine ⟨hs, fun S hS => ?_, fun S hS => ?_, ?_, fun S hS q => ?_, h6, h7, h8, fun S hS => ?_⟩
  · rw [h2 S hS, tot_cg hE hS]
  · rw [h3 S hS, kind_cg hE hS]
  · rw [h4, cntN_cg hb _ (Nat.le_refl _)]
  · rw [← cntN_cg hb S (by omega)]; exact h5 S hS (by rw [hb S hS]; exact q)
  · rw [(h9 S hS).1, (h9 S hS).2, len_cg hE (S + 1) S (by omega) (by omega), spl_cg hE (S + 1) S (by omega) (by omega)]
    exact ⟨rfl, rfl⟩
theorem seqOK.cgE {μ : Mm} {s a b n : Nat} {E E' Q : Nat → Nat} (h : seqOK μ s a b n E Q) (hE : ∀ k, k < n → E k = E' k) : seqOK μ s a b n E' Q :=
  ⟨h.1, h.2.1, h.2.2.1, fun k hk => by rw [← hE k hk]; exact h.2.2.2.1 k hk, h.2.2.2.2⟩
theorem tabOK.cg {μ : Mm} {a b m w : Nat} {E E' : Nat → Nat} (h : tabOK μ a b m E w) (hE : ∀ k, k < m → E k = E' k) : tabOK μ a b m E' w :=
  tabR.cg h.2 hE (by obtain ⟨Q, hq⟩ := h.1; exact ⟨Q, hq.cgE hE⟩)
theorem app_ok {μ : Mm} {s a b n x : Nat} {E Q : Nat → Nat} (h : seqOK μ s a b n E Q) (hn : n < 10) (hx : x < a * b) : seqOK (uF (uR (uR μ (s + 2) n (nI x)) (s + 3) n (nI 0)) s 3 (nI (n + 1))) s a b (n + 1) (upE E n x) (upE Q n 0) := by
  refine ⟨uF_s _ _ _ _, by omega, ⟨by rw [uF_n _ _ (by omega)]; exact h.g.1, by rw [uF_n _ _ (by omega)]; exact h.g.2.1, h.g.2.2⟩, fun k hk => ?_, fun k hk => ?_⟩
  · show (uR (uR μ (s + 2) n _) (s + 3) n _).2.1 (s + 2) k = _ ∧ _
    rw [uR_n _ _ _ (by omega), uR_s]
    unfold upE
    by_cases e : k = n
    · subst e; rw [upd_s, if_pos rfl]; exact ⟨rfl, hx⟩
    · rw [upd_n _ _ e, if_neg e]; exact ⟨h.e (by omega), h.el (by omega)⟩
  · show (uR (uR μ (s + 2) n _) (s + 3) n _).2.1 (s + 3) k = _ ∧ _
    rw [uR_s]
    unfold upE
    by_cases e : k = n
    · subst e; rw [upd_s, if_pos rfl]; exact ⟨rfl, by omega⟩
    · rw [upd_n _ _ e, if_neg e, uR_n _ _ _ (by omega)]; exact ⟨h.p (by omega), h.pl (by omega)⟩
/-- one set more -/
def tabS (μ : Mm) (a b : Nat) (E : Nat → Nat) (N : Nat) : Mm := uR (uR μ 28 N (nI (tot a b E N))) 29 N (nI (kindN a b E N))
def tabB (μ : Mm) (a b : Nat) (E : Nat → Nat) (N : Nat) : Mm := uF (uR (tabS μ a b E N) 32 (cntN (blk a b E) N) (nI N)) 23 6 (nI (cntN (blk a b E) N + 1))
theorem tabS_ok {μ : Mm} {a b m w N : Nat} {E : Nat → Nat} (h : tabP μ a b m E N w) (hb : blk a b E N = false) : tabP (tabS μ a b E N) a b m E (N + 1) w := by
  obtain ⟨⟨Q, h1⟩, h2, h3, h4, h5, h6, h7, h8, h9⟩ := h
  have hs : sm 28 30 μ (tabS μ a b E N) := (sm.rf.uR (by omega) (by omega)).uR (by omega) (by omega)
  refine ⟨⟨Q, h1.same hs (by omega)⟩, fun S hS => ?_, fun S hS => ?_, ?_, fun S hS q => ?_, ?_, h7, by omega, ?_⟩
  · show (uR (uR μ 28 N _) 29 N _).2.1 28 S = _
    rw [uR_n _ _ _ (by decide), uR_s]
    by_cases e : S = N
    · subst e; rw [upd_s]
    · rw [upd_n _ _ e]; exact h2 S (by omega)
  · show (uR (uR μ 28 N _) 29 N _).2.1 29 S = _
    rw [uR_s]
    by_cases e : S = N
    · subst e; rw [upd_s]
    · rw [upd_n _ _ e, uR_n _ _ _ (by decide)]; exact h3 S (by omega)
  · rw [hs.F 6 (by omega), h4, cntN_succ, hb]; rfl
  · rw [hs.R (by omega)]
    by_cases e : S = N
    · subst e; rw [hb] at q; cases q
    · exact h5 S (by omega) q
  · rw [hs.F 7 (by omega)]; exact h6
  · rw [hs.R (by omega), hs.R (by omega)]; exact h9
theorem tabB_ok {μ : Mm} {a b m w N : Nat} {E : Nat → Nat} (h : tabP μ a b m E N w) (hb : blk a b E N = true) : tabP (tabB μ a b E N) a b m E (N + 1) w := by
  obtain ⟨⟨Q, h1⟩, h2, h3, h4, h5, h6, h7, h8, h9⟩ := h
  have hs : sm 28 30 μ (tabS μ a b E N) := (sm.rf.uR (by omega) (by omega)).uR (by omega) (by omega)
  have hs2 : sm 32 33 (tabS μ a b E N) (uR (tabS μ a b E N) 32 (cntN (blk a b E) N) (nI N)) := sm.rf.uR (by omega) (by omega)
  have hF : ∀ i k : Nat, ¬ (i = 23 ∧ k = 6) → (tabB μ a b E N).1 i k = μ.1 i k := fun i k hik => uF_n _ _ hik
  have hR : ∀ i : Nat, ¬ (28 ≤ i ∧ i < 30) → ¬ i = 32 → (tabB μ a b E N).2.1 i = μ.2.1 i := fun i hi hi2 => (hs2.R (by omega)).trans (hs.R (by omega))
  obtain ⟨k1, k2, ⟨k3, k4, k5⟩, k6, k7⟩ := h1
  refine ⟨⟨Q, by rw [hF _ _ (by omega)]; exact k1, k2, ⟨by rw [hF _ _ (by omega)]; exact k3, by rw [hF _ _ (by omega)]; exact k4, k5⟩, by rw [hR _ (by omega) (by omega)]; exact k6, by rw [hR _ (by omega) (by omega)]; exact k7⟩, fun S hS => ?_, fun S hS => ?_, ?_, fun S hS q => ?_, ?_, h7, by omega, ?_⟩
  · show (uR (uR (uR μ 28 N _) 29 N _) 32 _ _).2.1 28 S = _
    rw [uR_n _ _ _ (by decide), uR_n _ _ _ (by decide), uR_s]
    by_cases e : S = N
    · subst e; rw [upd_s]
    · rw [upd_n _ _ e]; exact h2 S (by omega)
  · show (uR (uR (uR μ 28 N _) 29 N _) 32 _ _).2.1 29 S = _
    rw [uR_n _ _ _ (by decide), uR_s]
    by_cases e : S = N
    · subst e; rw [upd_s]
    · rw [upd_n _ _ e, uR_n _ _ _ (by decide)]; exact h3 S (by omega)
  · rw [cntN_succ, if_pos hb]; exact uF_s _ _ _ _
  · show (uR (tabS μ a b E N) 32 _ _).2.1 32 _ = _
    rw [uR_s]
    by_cases e : S = N
    · subst e; rw [upd_s]
    · have hlt : cntN (blk a b E) S < cntN (blk a b E) N := by
        have := cntN_mono (blk a b E) (show S + 1 ≤ N by omega)
        rw [cntN_succ, if_pos q] at this; omega
      rw [upd_n _ _ (by omega), hs.R (by omega)]; exact h5 S (by omega) q
  · rw [hF _ _ (by omega)]; exact h6
  · rw [hR _ (by omega) (by omega), hR _ (by omega) (by omega)]; exact h9
set_option maxRecDepth 100000 in
theorem lp_X5_kindOf (G : Gt) {a b m S : Nat} {E : Nat → Nat} {μ : Mm} (hn : μ.1 24 3 = nI m) (hm : m ≤ 10) (h0 : S ≠ 0) (hS : S < 2 ^ m) (hk : ∀ T : Nat, T < S → μ.2.1 29 T = nI (kindN a b E T)) (ht : μ.2.1 28 S = nI (tot a b E S)) (hab : a * b ≤ 36) (hlt : tot a b E S < a * b) : ∀ (f k : Nat), k + f = m → anyN (fun j => S.testBit j && hld a b E (S ^^^ 2 ^ j)) k = false →
    Zs G 0 Y_X5_kindOf (fnN G (fun v u => v = some (.int (nI (kindN a b E S))) ∧ u = μ)) 2 [(0, rf G 23), (1, .int (nI S)), (2, .int (nI k))] [] μ := by
  intro f
  have hp := p1024 hm
  induction f with
  | zero =>
    intro k hf hh
    have hkm : k = m := by omega
    subst hkm
    have hz : hsub a b E S = false := by
      cases e : hsub a b E S with
      | false => rfl
      | true =>
        obtain ⟨j, q1, q2⟩ := anyN_true.mp e
        have q3 : S.testBit j = true := by rw [Bool.and_eq_true] at q2; exact q2.1
        have q4 := sb_nz (sb_rf S) hS q3
        have : anyN (fun j => S.testBit j && hld a b E (S ^^^ 2 ^ j)) k = true := anyN_true.mpr ⟨j, q4, q2⟩
        rw [hh] at this; cases this
    refine z_iload_n dX5_kindOf_2 rfl ?_
    refine z_aload_n dX5_kindOf_3 rfl ?_
    refine z_getR (j := 24) dX5_kindOf_4 fl_X5_12 ⟨by decide, _, rfl, rfl⟩ ?_
    refine z_getI dX5_kindOf_7 fl_X5_45 ⟨by decide, _, rfl, rfl⟩ hn ?_
    refine z_icmpN_ge (tgt := 44) dX5_kindOf_10 (by decide) (by omega) (by omega) (fun c10 => ?_) (fun c10 => absurd c10 (by omega))
    refine z_aload_n dX5_kindOf_44 rfl ?_
    refine z_getR (j := 28) dX5_kindOf_45 fl_X5_18 ⟨by decide, _, rfl, rfl⟩ ?_
    refine z_iload_n dX5_kindOf_48 rfl ?_
    refine z_ialdN dX5_kindOf_49 ⟨by decide, rfl⟩ (by omega) (by decide) ht ?_
    refine z_ifN_ne (tgt := 57) dX5_kindOf_50 (by decide) (by omega) (fun c50 => ?_) (fun c50 => ?_)
    · refine z_iconst (v := nI 0) dX5_kindOf_57 (by decide) ?_
      exact z_ret (ty := none) (v := none) rfl dX5_kindOf_58 ⟨by rw [show kindN a b E S = 0 by unfold kindN; rw [hz]; simp [c50]], rfl⟩
    · refine z_iconst (v := nI 1) dX5_kindOf_53 (by decide) ?_
      refine z_goto (tgt := 58) dX5_kindOf_54 (by decide) ?_
      exact z_ret (ty := none) (v := none) rfl dX5_kindOf_58 ⟨by rw [show kindN a b E S = 1 by unfold kindN; rw [hz]; simp [c50, h0]], rfl⟩
  | succ f ih =>
    intro k hf hh
    have hk31 : 2 ^ k ≤ 1024 := p1024 (by omega)
    refine z_iload_n dX5_kindOf_2 rfl ?_
    refine z_aload_n dX5_kindOf_3 rfl ?_
    refine z_getR (j := 24) dX5_kindOf_4 fl_X5_12 ⟨by decide, _, rfl, rfl⟩ ?_
    refine z_getI dX5_kindOf_7 fl_X5_45 ⟨by decide, _, rfl, rfl⟩ hn ?_
    refine z_icmpN_ge (tgt := 44) dX5_kindOf_10 (by decide) (by omega) (by omega) (fun c10 => absurd c10 (by omega)) (fun c10 => ?_)
    refine z_iload_n dX5_kindOf_13 rfl ?_
    refine z_iload_n dX5_kindOf_14 rfl ?_
    refine z_ishrN dX5_kindOf_15 (by omega) (by omega) ?_
    refine z_iconst (v := nI 1) dX5_kindOf_16 (by decide) ?_
    refine z_iandN dX5_kindOf_17 ?_
    refine z_ifT_eq (tgt := 38) dX5_kindOf_18 (by decide) (fun c18 => ?_) (fun c18 => ?_)
    · refine z_iinc (v := nI (k + 1)) (lv' := [(2, _), (0, _), (1, _)]) dX5_kindOf_38 rfl (nI_inc _ 1) (by decide) rfl ?_
      refine z_goto (tgt := 2) dX5_kindOf_41 (by decide) ?_
      refine z_sub (lv' := [(0, _), (1, _), (2, _)]) rfl ?_
      exact ih (k + 1) (by omega) (by show (anyN (fun j => S.testBit j && hld a b E (S ^^^ 2 ^ j)) k || _) = false; rw [hh]; simp [c18])
    · refine z_aload_n dX5_kindOf_21 rfl ?_
      refine z_getR (j := 29) dX5_kindOf_22 fl_X5_22 ⟨by decide, _, rfl, rfl⟩ ?_
      refine z_iload_n dX5_kindOf_25 rfl ?_
      refine z_iconst (v := nI 1) dX5_kindOf_26 (by decide) ?_
      refine z_iload_n dX5_kindOf_27 rfl ?_
      refine z_ishlN dX5_kindOf_28 (by omega) (by omega) ?_
      refine z_iconst (v := -1) dX5_kindOf_29 (by decide) ?_
      refine z_ixor dX5_kindOf_30 ?_
      refine z_iand dX5_kindOf_31 ?_
      rw [nI_andn, Nat.one_mul, and_one_bit c18]
      have hx := xor_lt (sb_pow.mpr c18) (pow_ne0 k)
      have hkd := kind_le a b E (S ^^^ 2 ^ k)
      have hkh := kind_hld (a := a) (b := b) (E := E) (S := S ^^^ 2 ^ k) (n := m) (by omega) (by omega)
      refine z_ialdN dX5_kindOf_32 ⟨by decide, rfl⟩ (by omega) (by decide) (hk _ hx) ?_
      refine z_ifN_eq (tgt := 38) dX5_kindOf_33 (by decide) (by omega) (fun c33 => ?_) (fun c33 => ?_)
      · refine z_iinc (v := nI (k + 1)) (lv' := [(2, _), (0, _), (1, _)]) dX5_kindOf_38 rfl (nI_inc _ 1) (by decide) rfl ?_
        refine z_goto (tgt := 2) dX5_kindOf_41 (by decide) ?_
        refine z_sub (lv' := [(0, _), (1, _), (2, _)]) rfl ?_
        exact ih (k + 1) (by omega) (by show (anyN (fun j => S.testBit j && hld a b E (S ^^^ 2 ^ j)) k || _) = false; rw [hh]; simp [hkh.mp c33])
      · refine z_iconst (v := nI 2) dX5_kindOf_36 (by decide) ?_
        exact z_ret (ty := none) (v := none) rfl dX5_kindOf_37 ⟨by
      have e9 : hld a b E (S ^^^ 2 ^ k) = true := by
        cases e : hld a b E (S ^^^ 2 ^ k) with
        | true => rfl
        | false => exact absurd (hkh.mpr e) c33
      rw [show kindN a b E S = 2 by unfold kindN; rw [show hsub a b E S = true from anyN_true.mpr ⟨k, by omega, by rw [c18, e9]; rfl⟩]; rfl], rfl⟩
set_option maxRecDepth 100000 in
theorem ev_X5_kindOf (G : Gt) {a b m S : Nat} {E : Nat → Nat} {μ : Mm} (hn : μ.1 24 3 = nI m) (hm : m ≤ 10) (h0 : S ≠ 0) (hS : S < 2 ^ m) (hk : ∀ T : Nat, T < S → μ.2.1 29 T = nI (kindN a b E T)) (ht : μ.2.1 28 S = nI (tot a b E S)) (hab : a * b ≤ 36) (hlt : tot a b E S < a * b) : EVr G 0 Y_X5_kindOf [rf G 23, .int (nI S)] μ (.int (nI (kindN a b E S))) := by
  refine ev_of (by decide) (Nat.le_of_ble_eq_true rfl) ?_
  show Zs G 0 Y_X5_kindOf (fnN G _) 0 [(0, rf G 23), (1, .int (nI S))] [] μ
  refine z_iconst (v := nI 0) dX5_kindOf_0 (by decide) ?_
  refine z_istore_n (lv' := [(2, _), (0, _), (1, _)]) dX5_kindOf_1 rfl (by decide) rfl ?_
  refine z_sub (lv' := [(0, _), (1, _), (2, _)]) rfl ?_
  exact lp_X5_kindOf G hn hm h0 hS hk ht hab hlt m 0 (by omega) rfl
set_option maxRecDepth 100000 in
theorem lp_X5_tablePlace (G : Gt) {a b m w : Nat} {E : Nat → Nat} {μ0 : Mm} (hm : m < 10) : ∀ (f S : Nat) (μ : Mm), S + f = 2 ^ (m + 1) → 2 ^ m ≤ S → sm 23 33 μ0 μ → tabP μ a b (m + 1) E S w →
    Zs G 3 Y_X5_tablePlace (fnN G (fun v u => v = none ∧ sm 23 33 μ0 u ∧ tabP u a b (m + 1) E (2 ^ (m + 1)) w)) 31 [(0, rf G 23), (1, .int (nI (E m))), (2, .int (nI (2 ^ m))), (3, .int (nI S))] [] μ := by
  intro f
  have hp := p1024 (show m + 1 ≤ 10 by omega)
  have hp2 : 2 ^ (m + 1) = 2 ^ m * 2 := Nat.pow_succ _ _
  have hp0 := ppos m
  induction f with
  | zero =>
    intro S μ hf hS hs h
    refine z_iload_n dX5_tablePlace_31 rfl ?_
    refine z_iload_n dX5_tablePlace_32 rfl ?_
    refine z_iconst (v := nI 1) dX5_tablePlace_33 (by decide) ?_
    refine z_ishlN dX5_tablePlace_34 (by omega) (by omega) ?_
    refine z_icmpN_ge (tgt := 120) dX5_tablePlace_35 (by decide) (by omega) (by omega) (fun c35 => ?_) (fun c35 => absurd c35 (by omega))
    exact z_vret rfl dX5_tablePlace_120 ⟨rfl, hs, by rw [show 2 ^ (m + 1) = S by omega]; exact h⟩
  | succ f ih =>
    intro S μ hf hS hs h
    obtain ⟨Q, hq⟩ := h.1
    have hg := hq.g
    have hab := ab_le hg.2.2.2.1 hg.2.2.2.2.2
    have hx := xor_top_lt hS (show S < 2 ^ (m + 1) by omega)
    have htl := tot_lt hg.2.2.1 hg.2.2.2.2.1 E (S ^^^ 2 ^ m)
    have htl2 := tot_lt hg.2.2.1 hg.2.2.2.2.1 E S
    have htt := tot_top (a := a) (b := b) (E := E) (show m < 11 by omega) hS (show S < 2 ^ (m + 1) by omega)
    have hem := hq.el (show m < m + 1 by omega)
    have hkd := kind_le a b E S
    have hcn := cntN_le (blk a b E) S
    refine z_iload_n dX5_tablePlace_31 rfl ?_
    refine z_iload_n dX5_tablePlace_32 rfl ?_
    refine z_iconst (v := nI 1) dX5_tablePlace_33 (by decide) ?_
    refine z_ishlN dX5_tablePlace_34 (by omega) (by omega) ?_
    refine z_icmpN_ge (tgt := 120) dX5_tablePlace_35 (by decide) (by omega) (by omega) (fun c35 => absurd c35 (by omega)) (fun c35 => ?_)
    refine z_aload_n dX5_tablePlace_38 rfl ?_
    refine z_getR (j := 28) dX5_tablePlace_39 fl_X5_18 ⟨by decide, _, rfl, rfl⟩ ?_
    refine z_iload_n dX5_tablePlace_42 rfl ?_
    refine z_aload_n dX5_tablePlace_43 rfl ?_
    refine z_getR (j := 24) dX5_tablePlace_44 fl_X5_12 ⟨by decide, _, rfl, rfl⟩ ?_
    refine z_getR (j := 25) dX5_tablePlace_47 fl_X5_52 ⟨by decide, _, rfl, rfl⟩ ?_
    refine z_aload_n dX5_tablePlace_50 rfl ?_
    refine z_getR (j := 28) dX5_tablePlace_51 fl_X5_18 ⟨by decide, _, rfl, rfl⟩ ?_
    refine z_iload_n dX5_tablePlace_54 rfl ?_
    refine z_iload_n dX5_tablePlace_55 rfl ?_
    refine z_ixorN dX5_tablePlace_56 ?_
    refine z_ialdN dX5_tablePlace_57 ⟨by decide, rfl⟩ (by omega) (by decide) (h.2.1 _ (by omega)) ?_
    refine z_iload_n dX5_tablePlace_58 rfl ?_
    refine z_cV2 dX5_tablePlace_59 lk_X5_106 (by decide) ⟨by decide, _, rfl⟩ rfl (Nat.le_of_ble_eq_true rfl) (ev_X2_plus G (isSeq.g seq24) hg (by omega) (by omega)) ?_
    rw [← htt]
    refine z_iastN dX5_tablePlace_62 ⟨by decide, rfl⟩ (by omega) (by decide) ?_
    refine z_aload_n dX5_tablePlace_63 rfl ?_
    refine z_getR (j := 29) dX5_tablePlace_64 fl_X5_22 ⟨by decide, _, rfl, rfl⟩ ?_
    refine z_iload_n dX5_tablePlace_67 rfl ?_
    refine z_aload_n dX5_tablePlace_68 rfl ?_
    refine z_iload_n dX5_tablePlace_69 rfl ?_
    refine z_cV1 dX5_tablePlace_70 lk_X5_109 (by decide) ⟨by decide, _, rfl⟩ rfl (Nat.le_of_ble_eq_true rfl) (ev_X5_kindOf (a := a) (b := b) (E := E) G (hq.n) (by omega) (by omega) (by omega) (fun T hT => by rw [uR_n _ _ _ (by decide)]; exact h.2.2.1 T hT) (by rw [uR_s, upd_s]) hab htl2) ?_
    refine z_iastN dX5_tablePlace_73 ⟨by decide, rfl⟩ (by omega) (by decide) ?_
    refine z_aload_n dX5_tablePlace_74 rfl ?_
    refine z_getR (j := 29) dX5_tablePlace_75 fl_X5_22 ⟨by decide, _, rfl, rfl⟩ ?_
    refine z_iload_n dX5_tablePlace_78 rfl ?_
    refine z_ialdN dX5_tablePlace_79 ⟨by decide, rfl⟩ (by omega) (by decide) (by rw [uR_s, upd_s]) ?_
    refine z_iconst (v := nI 1) dX5_tablePlace_80 (by decide) ?_
    refine z_icmpN_ne (tgt := 114) dX5_tablePlace_81 (by decide) (by omega) (by omega) (fun c81 => ?_) (fun c81 => ?_)
    · refine z_iinc (v := nI (S + 1)) (lv' := [(3, _), (0, _), (1, _), (2, _)]) dX5_tablePlace_114 rfl (nI_inc _ 1) (by decide) rfl ?_
      refine z_goto (tgt := 31) dX5_tablePlace_117 (by decide) ?_
      refine z_sub (lv' := [(0, _), (1, _), (2, _), (3, _)]) rfl ?_
      exact ih (S + 1) _ (by omega) (by omega) ((hs.uR (by omega) (by omega)).uR (by omega) (by omega)) (tabS_ok h (by cases q : blk a b E S with
        | true => exact absurd (kind_blk.mpr q) c81
        | false => rfl))
    · refine z_aload_n dX5_tablePlace_84 rfl ?_
      refine z_getI dX5_tablePlace_85 fl_X5_34 ⟨by decide, _, rfl, rfl⟩ h.2.2.2.1 ?_
      refine z_sipush (v := nI 1024) dX5_tablePlace_88 (by decide) ?_
      refine z_icmpN_ge (tgt := 114) dX5_tablePlace_91 (by decide) (by omega) (by omega) (fun c91 => absurd c91 (by omega)) (fun c91 => ?_)
      refine z_aload_n dX5_tablePlace_94 rfl ?_
      refine z_getR (j := 32) dX5_tablePlace_95 fl_X5_31 ⟨by decide, _, rfl, rfl⟩ ?_
      refine z_aload_n dX5_tablePlace_98 rfl ?_
      refine z_getI dX5_tablePlace_99 fl_X5_34 ⟨by decide, _, rfl, rfl⟩ h.2.2.2.1 ?_
      refine z_iload_n dX5_tablePlace_102 rfl ?_
      refine z_iastN dX5_tablePlace_103 ⟨by decide, rfl⟩ (by omega) (by decide) ?_
      refine z_aload_n dX5_tablePlace_104 rfl ?_
      refine z_dup dX5_tablePlace_105 rfl ?_
      refine z_getI dX5_tablePlace_106 fl_X5_34 ⟨by decide, _, rfl, rfl⟩ h.2.2.2.1 ?_
      refine z_iconst (v := nI 1) dX5_tablePlace_109 (by decide) ?_
      refine z_iaddN dX5_tablePlace_110 ?_
      refine z_putI dX5_tablePlace_111 fp_X5_34 ⟨by decide, _, rfl, rfl⟩ ?_
      refine z_iinc (v := nI (S + 1)) (lv' := [(3, _), (0, _), (1, _), (2, _)]) dX5_tablePlace_114 rfl (nI_inc _ 1) (by decide) rfl ?_
      refine z_goto (tgt := 31) dX5_tablePlace_117 (by decide) ?_
      refine z_sub (lv' := [(0, _), (1, _), (2, _), (3, _)]) rfl ?_
      exact ih (S + 1) _ (by omega) (by omega) ((((hs.uR (by omega) (by omega)).uR (by omega) (by omega)).uR (by omega) (by omega)).uF (by omega) (by omega)) (tabB_ok h (kind_blk.mp c81))
set_option maxRecDepth 100000 in
theorem ev_X5_tablePlace (G : Gt) {a b m w x : Nat} {E : Nat → Nat} {μ : Mm} (h : tabOK μ a b m E w) (hm : m < 10) (hx : x < a * b) : EV G 3 Y_X5_tablePlace [rf G 23, .int (nI x)] μ (fun v u => v = none ∧ sm 23 33 μ u ∧ tabOK u a b (m + 1) (upE E m x) w) := by
  obtain ⟨Q, hq⟩ := h.1
  have hp := p1024 h.le
  have hp0 := ppos m
  refine ev_of (by decide) (Nat.le_of_ble_eq_true rfl) ?_
  show Zs G 3 Y_X5_tablePlace (fnN G _) 0 [(0, rf G 23), (1, .int (nI x))] [] μ
  refine z_aload_n dX5_tablePlace_0 rfl ?_
  refine z_getR (j := 24) dX5_tablePlace_1 fl_X5_12 ⟨by decide, _, rfl, rfl⟩ ?_
  refine z_cV0 dX5_tablePlace_4 lk_X5_99 (by decide) ⟨by decide, _, rfl⟩ rfl (Nat.le_of_ble_eq_true rfl) (ev_X4_isFull G seq24 hq) ?_
  refine z_ifB_eq (tgt := 11) dX5_tablePlace_7 (by decide) (fun c7 => ?_) (fun c7 => absurd (of_decide_eq_true c7) (by omega))
  refine z_iconst (v := nI 1) dX5_tablePlace_11 (by decide) ?_
  refine z_aload_n dX5_tablePlace_12 rfl ?_
  refine z_getR (j := 24) dX5_tablePlace_13 fl_X5_12 ⟨by decide, _, rfl, rfl⟩ ?_
  refine z_getI dX5_tablePlace_16 fl_X5_45 ⟨by decide, _, rfl, rfl⟩ h.n ?_
  refine z_ishlN dX5_tablePlace_19 (by omega) (by omega) ?_
  refine z_istore_n (lv' := [(2, _), (0, _), (1, _)]) dX5_tablePlace_20 rfl (by decide) rfl ?_
  refine z_aload_n dX5_tablePlace_21 rfl ?_
  refine z_getR (j := 24) dX5_tablePlace_22 fl_X5_12 ⟨by decide, _, rfl, rfl⟩ ?_
  refine z_iload_n dX5_tablePlace_25 rfl ?_
  refine z_cV1v dX5_tablePlace_26 lk_X5_103 (by decide) ⟨by decide, _, rfl⟩ rfl (Nat.le_of_ble_eq_true rfl) (ev_X4_append G seq24 hq hm) ?_
  refine z_iload_n dX5_tablePlace_29 rfl ?_
  refine z_istore_n (lv' := [(3, _), (2, _), (0, _), (1, _)]) dX5_tablePlace_30 rfl (by decide) rfl ?_
  have hs : sm 23 33 μ (uF (uR (uR μ (24 + 2) m (nI x)) (24 + 3) m (nI 0)) 24 3 (nI (m + 1))) := ((sm.rf.uR (by omega) (by omega)).uR (by omega) (by omega)).uF (by omega) (by omega)
  have hs2 : sm 24 28 μ (uF (uR (uR μ (24 + 2) m (nI x)) (24 + 3) m (nI 0)) 24 3 (nI (m + 1))) := ((sm.rf.uR (by omega) (by omega)).uR (by omega) (by omega)).uF (by omega) (by omega)
  have hP : tabP (uF (uR (uR μ (24 + 2) m (nI x)) (24 + 3) m (nI 0)) 24 3 (nI (m + 1))) a b (m + 1) (upE E m x) (2 ^ m) w := by
    refine tabR.cg (E := E) (n := m) ?_ (upE_lt E m x) ⟨_, app_ok hq hm hx⟩
    obtain ⟨-, h2, h3, h4, h5, h6, h7, h8, h9⟩ := h
    refine ⟨?_, ?_, ?_, ?_, ?_, h7, h8, ?_⟩
    · rw [hs2.R (by omega)]; exact h2
    · rw [hs2.R (by omega)]; exact h3
    · rw [hs2.F 6 (by omega)]; exact h4
    · rw [hs2.R (by omega)]; exact h5
    · rw [hs2.F 7 (by omega)]; exact h6
    · rw [hs2.R (by omega), hs2.R (by omega)]; exact h9
  have q := lp_X5_tablePlace G (μ0 := μ) (E := upE E m x) (w := w) (a := a) (b := b) hm (2 ^ m) (2 ^ m) _ (by rw [Nat.pow_succ]; omega) (Nat.le_refl _) hs hP
  rw [upE_s, ← Nat.one_mul (2 ^ m)] at q
  refine z_sub (lv' := [(0, _), (1, _), (2, _), (3, _)]) rfl ?_
  exact q
theorem cntN_last {f : Nat → Bool} {c : Nat} : ∀ {s : Nat}, cntN f s = c + 1 → ∃ S, S < s ∧ f S = true ∧ cntN f S = c ∧ ∀ j, S < j → j < s → f j = false := by
  intro s
  induction s with
  | zero => intro h; exact absurd h (by simp [cntN])
  | succ s ih =>
    intro h
    rw [cntN_succ] at h
    by_cases e : f s = true
    · rw [if_pos e] at h
      exact ⟨s, by omega, e, by omega, fun j h1 h2 => by omega⟩
    · rw [if_neg e] at h
      obtain ⟨S, q1, q2, q3, q4⟩ := ih h
      refine ⟨S, by omega, q2, q3, fun j h1 h2 => ?_⟩
      by_cases e2 : j = s
      · subst e2; simpa using e
      · exact q4 j h1 (by omega)
set_option maxRecDepth 100000 in
theorem lp_X5_cutTo (G : Gt) {a b p N w : Nat} {E : Nat → Nat} {μ0 : Mm} (hN : N ≤ 1024) (hp10 : p ≤ 10) (hw : μ0.1 23 7 = nI w) (hw2 : w ≤ 1024) (hb0 : ∀ S : Nat, S < N → blk a b E S = true → μ0.2.1 32 (cntN (blk a b E) S) = nI S) : ∀ (s : Nat) (μ : Mm), s ≤ N → 2 ^ p ≤ s → (∀ i k : Nat, ¬ (i = 23 ∧ k = 6) → μ.1 i k = μ0.1 i k) → μ.2 = μ0.2 → μ.1 23 6 = nI (cntN (blk a b E) s) →
    Zs G 1 Y_X5_cutTo (fnN G (fun v u => v = none ∧ (∀ i k : Nat, ¬ (i = 23 ∧ k = 6) → ¬ (i = 23 ∧ k = 7) → u.1 i k = μ0.1 i k) ∧ u.2 = μ0.2 ∧ u.1 23 6 = nI (cntN (blk a b E) (2 ^ p)) ∧ u.1 23 7 = nI (min w (2 ^ p)))) 12 [(0, rf G 23), (2, .int (nI (2 ^ p)))] [] μ := by
  intro s
  have hp := p1024 hp10
  induction s using Nat.strongRecOn with
  | _ s ih =>
    intro μ hs hps hF hR hc
    have hcn := cntN_le (blk a b E) s
    have hfin : ∀ (ct : cntN (blk a b E) s = cntN (blk a b E) (2 ^ p)), Zs G 1 Y_X5_cutTo (fnN G (fun v u => v = none ∧ (∀ i k : Nat, ¬ (i = 23 ∧ k = 6) → ¬ (i = 23 ∧ k = 7) → u.1 i k = μ0.1 i k) ∧ u.2 = μ0.2 ∧ u.1 23 6 = nI (cntN (blk a b E) (2 ^ p)) ∧ u.1 23 7 = nI (min w (2 ^ p)))) 47 [(0, rf G 23), (2, .int (nI (2 ^ p)))] [] μ := by
      intro ct
      refine z_aload_n dX5_cutTo_47 rfl ?_
      refine z_aload_n dX5_cutTo_48 rfl ?_
      refine z_getI dX5_cutTo_49 fl_X5_38 ⟨by decide, _, rfl, rfl⟩ ((hF _ _ (by omega)).trans hw) ?_
      refine z_iload_n dX5_cutTo_52 rfl ?_
      refine z_cS2 dX5_cutTo_53 lk_X5_96 (by decide) (Nat.le_of_ble_eq_true rfl) (ev_J9_min_7cf53 G (by omega) (by omega)) ?_
      refine z_putI dX5_cutTo_56 fp_X5_38 ⟨by decide, _, rfl, rfl⟩ ?_
      exact z_vret rfl dX5_cutTo_59 ⟨rfl, fun i k h1 h2 => by rw [uF_n _ _ h2]; exact hF i k h1, hR, by rw [uF_n _ _ (by omega), hc, ct], uF_s _ _ _ _⟩
    rcases Nat.eq_zero_or_pos (cntN (blk a b E) s) with hz | hz
    · have hpz : cntN (blk a b E) (2 ^ p) = 0 := by have := cntN_mono (blk a b E) hps; omega
      refine z_aload_n dX5_cutTo_12 rfl ?_
      refine z_getI dX5_cutTo_13 fl_X5_34 ⟨by decide, _, rfl, rfl⟩ hc ?_
      refine z_ifN_le (tgt := 47) dX5_cutTo_16 (by decide) (by omega) (fun c16 => ?_) (fun c16 => absurd c16 (by omega))
      exact hfin (by omega)
    · obtain ⟨c, hcc⟩ : ∃ c, cntN (blk a b E) s = c + 1 := ⟨cntN (blk a b E) s - 1, by omega⟩
      obtain ⟨S, q1, q2, q3, q4⟩ := cntN_last hcc
      rw [hcc] at hc
      have hbk := hb0 S (by omega) q2
      rw [q3] at hbk
      have hR1 : μ.2.1 = μ0.2.1 := by rw [hR]
      refine z_aload_n dX5_cutTo_12 rfl ?_
      refine z_getI dX5_cutTo_13 fl_X5_34 ⟨by decide, _, rfl, rfl⟩ hc ?_
      refine z_ifN_le (tgt := 47) dX5_cutTo_16 (by decide) (by omega) (fun c16 => absurd c16 (by omega)) (fun c16 => ?_)
      refine z_aload_n dX5_cutTo_19 rfl ?_
      refine z_getR (j := 32) dX5_cutTo_20 fl_X5_31 ⟨by decide, _, rfl, rfl⟩ ?_
      refine z_aload_n dX5_cutTo_23 rfl ?_
      refine z_getI dX5_cutTo_24 fl_X5_34 ⟨by decide, _, rfl, rfl⟩ hc ?_
      refine z_iconst (v := nI 1) dX5_cutTo_27 (by decide) ?_
      refine z_isubN dX5_cutTo_28 (by omega) ?_
      rw [show c + 1 - 1 = c by omega]
      refine z_ialdN dX5_cutTo_29 ⟨by decide, rfl⟩ (by omega) (by decide) ((congrFun (congrFun hR1 32) c).trans hbk) ?_
      refine z_iload_n dX5_cutTo_30 rfl ?_
      refine z_icmpN_lt (tgt := 47) dX5_cutTo_31 (by decide) (by omega) (by omega) (fun c31 => ?_) (fun c31 => ?_)
      · refine hfin ?_
        rw [cntN_flat (f := blk a b E) (s := S + 1) (t := s) (by omega) (fun j h1 h2 => q4 j (by omega) h2), cntN_flat (f := blk a b E) (s := S + 1) (t := 2 ^ p) (by omega) (fun j h1 h2 => q4 j (by omega) (by omega))]
      · refine z_aload_n dX5_cutTo_34 rfl ?_
        refine z_dup dX5_cutTo_35 rfl ?_
        refine z_getI dX5_cutTo_36 fl_X5_34 ⟨by decide, _, rfl, rfl⟩ hc ?_
        refine z_iconst (v := nI 1) dX5_cutTo_39 (by decide) ?_
        refine z_isubN dX5_cutTo_40 (by omega) ?_
        refine z_putI dX5_cutTo_41 fp_X5_34 ⟨by decide, _, rfl, rfl⟩ ?_
        refine z_goto (tgt := 12) dX5_cutTo_44 (by decide) ?_
        exact ih S q1 _ (by omega) c31 (fun i k h1 => by rw [uF_n _ _ h1]; exact hF i k h1) hR (by rw [uF_s, q3]; rfl)
