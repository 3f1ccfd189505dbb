theorem hb_s (N k : Nat) : hbN N (k + 1) = if N.testBit k then some k else hbN N k := rfl
theorem hb_spec {N c : Nat} : ∀ {K : Nat}, hbN N K = some c → N.testBit c = true ∧ c < K ∧ ∀ j, c < j → j < K → N.testBit j = false := by
  intro K
  induction K with
  | zero => intro h; cases h
  | succ K ih =>
    intro h
    rw [hb_s] at h
    rcases q : N.testBit K with _ | _
    · rw [q] at h
      simp only [Bool.false_eq_true, if_false] at h
      obtain ⟨h1, h2, h3⟩ := ih h
      refine ⟨h1, by omega, fun j hj hj2 => ?_⟩
      by_cases e : j = K
      · subst e; exact q
      · exact h3 j hj (by omega)
    · rw [q] at h
      simp only [if_true] at h
      cases h
      exact ⟨q, by omega, fun j hj hj2 => by omega⟩
theorem hb_none {N : Nat} : ∀ {K : Nat}, hbN N K = none → ∀ j, j < K → N.testBit j = false := by
  intro K
  induction K with
  | zero => intro h j hj; omega
  | succ K ih =>
    intro h j hj
    rw [hb_s] at h
    rcases q : N.testBit K with _ | _
    · rw [q] at h
      simp only [Bool.false_eq_true, if_false] at h
      by_cases e : j = K
      · subst e; exact q
      · exact ih h j (by omega)
    · rw [q] at h; simp at h
theorem hb_of {N c : Nat} (h : N.testBit c = true) (hh : ∀ j, c < j → N.testBit j = false) : ∀ {K : Nat}, c < K → hbN N K = some c := by
  intro K
  induction K with
  | zero => intro q; omega
  | succ K ih =>
    intro q
    rw [hb_s]
    by_cases e : c = K
    · subst e; rw [if_pos h]
    · rw [hh K (by omega)]
      simp only [Bool.false_eq_true, if_false]
      exact ih (by omega)
theorem fs_s (f : Nat → Bool) (N : Nat) : fsN f (N + 1) = (match fsN f N with | some y => some y | none => if f N then some N else none) := rfl
theorem fs_spec {f : Nat → Bool} {x : Nat} : ∀ {N : Nat}, fsN f N = some x → f x = true ∧ ∀ j, j < x → f j = false := by
  intro N
  induction N generalizing x with
  | zero => intro h; cases h
  | succ N ih =>
    intro h
    rw [fs_s] at h
    rcases q : fsN f N with _ | y
    · rw [q] at h
      simp only at h
      rcases q2 : f N with _ | _
      · rw [q2] at h; simp at h
      · rw [q2] at h
        simp only [if_true] at h
        cases h
        refine ⟨q2, fun j hj => ?_⟩
        rcases q3 : f j with _ | _
        · rfl
        · exfalso
          have hmin : ∀ M, M ≤ N → fsN f M = none := by
            intro M hM
            rcases q4 : fsN f M with _ | z
            · rfl
            · exfalso
              have : ∀ d, fsN f (M + d) = some z := by
                intro d
                induction d with
                | zero => exact q4
                | succ d ihd => rw [← Nat.add_assoc, fs_s, ihd]
              have q5 := this (N - M)
              rw [show M + (N - M) = N by omega, q] at q5
              cases q5
          have q6 := hmin (j + 1) (by omega)
          rw [fs_s, hmin j (by omega), q3] at q6
          simp at q6
    · rw [q] at h
      simp only at h
      cases h
      exact ih q
theorem fs_none {f : Nat → Bool} : ∀ {N : Nat}, fsN f N = none → ∀ j, j < N → f j = false := by
  intro N
  induction N with
  | zero => intro h j hj; omega
  | succ N ih =>
    intro h j hj
    rw [fs_s] at h
    rcases q : fsN f N with _ | y
    · rw [q] at h
      simp only at h
      rcases q2 : f N with _ | _
      · by_cases e : j = N
        · subst e; exact q2
        · exact ih q j (by omega)
      · rw [q2] at h; simp at h
    · rw [q] at h; simp at h
theorem tb_2 (x i : Nat) : (x * 2).testBit (i + 1) = x.testBit i := by rw [Nat.testBit_succ, Nat.mul_div_cancel _ (by decide)]
theorem oI_eq {o : Option Nat} {f : Nat} (hf : f < 2 ^ 31) (ho : ∀ k, o = some k → k < 2 ^ 31) : oI o = nI f ↔ o = some f := by
  rcases o with _ | k
  · constructor
    · intro h; exact absurd h.symm (nI_m1 hf)
    · intro h; cases h
  · constructor
    · intro h; rw [(nI_eq (ho k rfl) hf).mp h]
    · intro h; cases h; rfl
/-- bits of the lengths of what a block leaves -/
theorem len_bit {a b n S B j : Nat} {E : Nat → Nat} (hn : n ≤ 10) (hS : S < 2 ^ n) (hc : cB a b E S B = true) (hj : (lenN a b E (S ^^^ B)).testBit j = true) : (lenN a b E S).testBit (j + 1) = true := by
  have h0 : S ≠ 0 := fun e => by
    have := cB_lt hc; omega
  rw [len_rec h0]
  exact accO_tb.mpr ⟨B, by have := sb_le (cB_sb hc); omega, hc, by rw [tb_2]; exact hj⟩
theorem len_b11 {a b n S j : Nat} {E : Nat → Nat} (hn : n ≤ 10) (hS : S < 2 ^ n) (hj : 11 ≤ j) : (lenN a b E S).testBit j = false :=
  Nat.testBit_lt_two_pow (Nat.lt_of_lt_of_le (len_lt2 hn hS) (Nat.le_trans (show 2048 ≤ 2 ^ 11 by decide) (Nat.pow_le_pow_right (by decide) hj)))
theorem len_hi {a b n S B f j : Nat} {E : Nat → Nat} (hn : n ≤ 10) (hS : S < 2 ^ n) (h : hbN (lenN a b E S) 11 = some (f + 1)) (hc : cB a b E S B = true) (hj : f < j) : (lenN a b E (S ^^^ B)).testBit j = false := by
  rcases q : (lenN a b E (S ^^^ B)).testBit j with _ | _
  · rfl
  · exfalso
    have q2 := len_bit hn hS hc q
    by_cases e : j + 1 < 11
    · rw [(hb_spec h).2.2 (j + 1) (by omega) e] at q2; cases q2
    · rw [len_b11 hn hS (by omega)] at q2; cases q2
theorem len_most {a b n S B f : Nat} {E : Nat → Nat} (hn : n ≤ 10) (hS : S < 2 ^ n) (h : hbN (lenN a b E S) 11 = some (f + 1)) (hc : cB a b E S B = true) : oI (hbN (lenN a b E (S ^^^ B)) 11) = nI f ↔ (lenN a b E (S ^^^ B)).testBit f = true := by
  have hf := (hb_spec h).2.1
  rw [oI_eq (by omega) (fun k hk => by have := hbN_lt hk; omega)]
  constructor
  · intro q; exact (hb_spec q).1
  · intro q; exact hb_of q (fun j hj => len_hi hn hS h hc hj) (by omega)
abbrev fbF (a b : Nat) (E : Nat → Nat) (S f : Nat) : Nat → Bool := fun B => cB a b E S B && (lenN a b E (S ^^^ B)).testBit (f + 1 - 1)
theorem fb_spec {a b n S f : Nat} {E : Nat → Nat} (hn : n ≤ 10) (hS : S < 2 ^ n) (h : hbN (lenN a b E S) 11 = some (f + 1)) : cB a b E S (fbB a b n E S (f + 1)) = true ∧ (lenN a b E (S ^^^ fbB a b n E S (f + 1))).testBit f = true ∧ (∀ j, j < fbB a b n E S (f + 1) → fbF a b E S f j = false) ∧ hbN (lenN a b E (S ^^^ fbB a b n E S (f + 1))) 11 = some f := by
  have h0 : S ≠ 0 := by
    rintro rfl
    rw [len_0] at h
    have := (hb_spec h).1
    rw [Nat.testBit_succ] at this
    simp at this
  have h1 := (hb_spec h).1
  rw [len_rec h0] at h1
  obtain ⟨j, j1, j2, j3⟩ := accO_tb.mp h1
  rw [tb_2] at j3
  unfold fbB
  rcases q : fsN (fun B => cB a b E S B && (lenN a b E (S ^^^ B)).testBit (f + 1 - 1)) (2 ^ n) with _ | x
  · have q2 : (cB a b E S j && (lenN a b E (S ^^^ j)).testBit (f + 1 - 1)) = false := fs_none q j (by omega)
    rw [j2, Nat.add_sub_cancel, j3] at q2
    cases q2
  · obtain ⟨q2, q3⟩ := fs_spec q
    rw [Bool.and_eq_true, Nat.add_sub_cancel] at q2
    exact ⟨q2.1, q2.2, q3, hb_of q2.2 (fun j hj => len_hi hn hS h q2.1 hj) (by have := (hb_spec h).2.1; omega)⟩
theorem sp_tot {a b n M : Nat} {E : Nat → Nat} (ha : 1 ≤ a) (hb : 1 ≤ b) (hE : okE a b E n) (h : spO a b n E = some M) : tot a b E (2 ^ n - 1) = 0 := by
  have hp := ppos n
  by_cases e : tot a b E (2 ^ n - 1) = 0
  · exact e
  · exfalso
    have q := (len_zero ha hb hE (2 ^ n) (2 ^ n - 1) (by omega) (by omega) e).1
    unfold spO at h
    rw [q] at h
    have := (hb_spec h).1
    simp at this
theorem sp_non {a b n : Nat} {E : Nat → Nat} (ha : 1 ≤ a) (hb : 1 ≤ b) (hE : okE a b E n) (hn : n ≤ 10) (h : spO a b n E = none) : tot a b E (2 ^ n - 1) ≠ 0 := by
  intro e
  have hp := ppos n
  have q := len_pos ha hb hE (by omega) (2 ^ n) (2 ^ n - 1) (by omega) (by omega) e
  apply q
  apply Nat.eq_of_testBit_eq
  intro j
  rw [Nat.zero_testBit]
  by_cases e2 : j < 11
  · exact hb_none h j e2
  · exact len_b11 hn (by omega) (by omega)
theorem nwOK.cq {μ : Mm} {a b n : Nat} {E Q Q' : Nat → Nat} (h : nwOK μ a b n E Q) (hq : ∀ k, k < n → Q k = Q' k) : nwOK μ a b n E Q' := ⟨h.1, h.2.1, h.2.2.1, h.2.2.2.1, h.2.2.2.2.1, h.2.2.2.2.2.1, fun k hk => by rw [← hq k hk]; exact h.2.2.2.2.2.2 k hk⟩
/-- sums, parts that sum to nothing and splits, found -/
def lk3 (μ : Mm) (a b n : Nat) (E : Nat → Nat) : Prop := lkE μ a b n E ∧ lkS μ a b E (2 ^ n) ∧ lkP μ a b E (2 ^ n)
theorem lk3.same {μ u : Mm} {a b n : Nat} {E : Nat → Nat} (h : lk3 μ a b n E) (h1 : u.1 35 12 = μ.1 35 12) (h2 : ∀ i : Nat, 40 ≤ i → i < 46 → u.2.1 i = μ.2.1 i) : lk3 u a b n E := by
  refine ⟨h.1.same h1 (h2 40 (by omega) (by omega)), ?_, ?_⟩
  · unfold lkS; rw [h2 41 (by omega) (by omega), h2 42 (by omega) (by omega)]; exact h.2.1
  · unfold lkP; rw [h2 43 (by omega) (by omega), h2 44 (by omega) (by omega)]; exact h.2.2
theorem lk3.n {μ u : Mm} {a b n : Nat} {E : Nat → Nat} (h : lk3 μ a b n E) (hf : nwF μ u) : lk3 u a b n E := h.same (by rw [hf.1]) (fun i h1 h2 => hf.2.1 i (by omega))
theorem lk3.s {μ u : Mm} {a b n : Nat} {E : Nat → Nat} (h : lk3 μ a b n E) (hf : svF μ u) : lk3 u a b n E := h.same (hf.1 35 12 (by omega)) (fun i h1 h2 => hf.2.1 i (by omega))
theorem lk3.u3 {μ : Mm} {a b n : Nat} {E : Nat → Nat} (h : lk3 μ a b n E) (x : Int32) : lk3 (uF μ 35 3 x) a b n E := h.same (uF_n _ _ (by omega)) (fun i h1 h2 => rfl)
def layF (Q : Nat → Nat) (B p k : Nat) : Nat → Nat := fun j => if j < k ∧ B.testBit j = true then p else Q j
theorem layF_0 (Q : Nat → Nat) (B p : Nat) : layF Q B p 0 = Q := by funext j; unfold layF; rw [if_neg (by omega)]
theorem nw_lf {μ : Mm} {a b n B p k : Nat} {E Q : Nat → Nat} (h : nwOK μ a b n E (layF Q B p k)) (hk : k < n) {v : Nat} (hv : v < 6) (he : v = layF Q B p (k + 1) k) : nwOK (uR μ 36 (13 + k) (nI v)) a b n E (layF Q B p (k + 1)) := by
  refine (nw_lay h hk hv).cq (fun j hj => ?_)
  unfold upE
  by_cases e : j = k
  · subst e; rw [if_pos rfl]; exact he
  · rw [if_neg e]
    unfold layF
    by_cases e2 : j < k ∧ B.testBit j = true
    · rw [if_pos e2, if_pos ⟨by omega, e2.2⟩]
    · rw [if_neg e2, if_neg (fun q => e2 ⟨by omega, q.2⟩)]
set_option maxRecDepth 100000 in
theorem lp3_X8_laySplit (G : Gt) {a b n S M p B : Nat} {E Q : Nat → Nat} {F : Fn} (hp : p < 6) (hB : B < 2 ^ n) {μ0 : Mm} (hk : ∀ μ : Mm, nwF μ0 μ → nwOK μ a b n E (layF Q B p n) → Zs G 4 Y_X8_laySplit F 171 [(0, rf G 35), (1, .int (nI S)), (2, .int (nI M)), (3, .int (nI p)), (5, .int (nI B))] [] μ) : ∀ (g k : Nat) (μ : Mm), k + g = n → nwF μ0 μ → nwOK μ a b n E (layF Q B p k) → μ.1 35 12 = nI n →
    Zs G 4 Y_X8_laySplit F 122 [(0, rf G 35), (1, .int (nI S)), (2, .int (nI M)), (3, .int (nI p)), (5, .int (nI B)), (6, .int (nI k))] [] μ := by
  intro g
  induction g with
  | zero =>
    intro k μ hf hq h hm
    have hn := h.le
    have hpw := p1024 hn
    have hkn : k = n := by omega
    subst hkn
    refine z_iload dX8_laySplit_122 rfl ?_
    refine z_aload_n dX8_laySplit_124 rfl ?_
    refine z_getI dX8_laySplit_125 fl_X8_81 ⟨by decide, _, rfl, rfl⟩ hm ?_
    refine z_icmpN_ge (tgt := 171) dX8_laySplit_128 (by decide) (by omega) (by omega) (fun c128 => ?_) (fun c128 => absurd c128 (by omega))
    have q := hk μ hq h
    refine z_sub (lv' := [(0, _), (1, _), (2, _), (3, _), (5, _)]) rfl ?_
    exact q
  | succ g ih =>
    intro k μ hf hq h hm
    have hn := h.le
    have hpw := p1024 hn
    refine z_iload dX8_laySplit_122 rfl ?_
    refine z_aload_n dX8_laySplit_124 rfl ?_
    refine z_getI dX8_laySplit_125 fl_X8_81 ⟨by decide, _, rfl, rfl⟩ hm ?_
    refine z_icmpN_ge (tgt := 171) dX8_laySplit_128 (by decide) (by omega) (by omega) (fun c128 => absurd c128 (by omega)) (fun c128 => ?_)
    refine z_aload_n dX8_laySplit_131 rfl ?_
    refine z_getR (j := 36) dX8_laySplit_132 fl_X8_7 ⟨by decide, _, rfl, rfl⟩ ?_
    refine z_bipush (v := nI 13) dX8_laySplit_135 (by decide) ?_
    refine z_iload dX8_laySplit_137 rfl ?_
    refine z_iaddN dX8_laySplit_139 ?_
    refine z_iload dX8_laySplit_140 rfl ?_
    refine z_iload dX8_laySplit_142 rfl ?_
    refine z_cS2 dX8_laySplit_144 lk_X8_84 (by decide) (Nat.le_of_ble_eq_true rfl) (ev_X8_has G (by omega) (by omega)) ?_
    refine z_ifB_eq (tgt := 154) dX8_laySplit_147 (by decide) (fun c147 => ?_) (fun c147 => ?_)
    · refine z_aload_n dX8_laySplit_154 rfl ?_
      refine z_getR (j := 36) dX8_laySplit_155 fl_X8_7 ⟨by decide, _, rfl, rfl⟩ ?_
      refine z_bipush (v := nI 13) dX8_laySplit_158 (by decide) ?_
      refine z_iload dX8_laySplit_160 rfl ?_
      refine z_iaddN dX8_laySplit_162 ?_
      refine z_ialdN dX8_laySplit_163 ⟨by decide, rfl⟩ (by omega) (by decide) (h.p (by omega)) ?_
      refine z_iastN dX8_laySplit_164 ⟨by decide, rfl⟩ (by omega) (by decide) ?_
      refine z_iinc (v := nI (k + 1)) (lv' := [(6, _), (0, _), (1, _), (2, _), (3, _), (5, _)]) dX8_laySplit_165 rfl (nI_inc _ 1) (by decide) rfl ?_
      refine z_goto (tgt := 122) dX8_laySplit_168 (by decide) ?_
      have q := ih (k + 1) _ (by omega) (hq.r (13 + k) (nI (layF Q B p k k))) (nw_lf h (by omega) (h.pl (by omega)) (by unfold layF; rw [if_neg (by omega), if_neg (fun q => by rw [c147] at q; cases q.2)])) hm
      refine z_sub (lv' := [(0, _), (1, _), (2, _), (3, _), (5, _), (6, _)]) rfl ?_
      exact q
    · refine z_iload_n dX8_laySplit_150 rfl ?_
      refine z_goto (tgt := 164) dX8_laySplit_151 (by decide) ?_
      refine z_iastN dX8_laySplit_164 ⟨by decide, rfl⟩ (by omega) (by decide) ?_
      refine z_iinc (v := nI (k + 1)) (lv' := [(6, _), (0, _), (1, _), (2, _), (3, _), (5, _)]) dX8_laySplit_165 rfl (nI_inc _ 1) (by decide) rfl ?_
      refine z_goto (tgt := 122) dX8_laySplit_168 (by decide) ?_
      have q := ih (k + 1) _ (by omega) (hq.r (13 + k) (nI p)) (nw_lf h (by omega) hp (by unfold layF; rw [if_pos ⟨by omega, c147⟩])) hm
      refine z_sub (lv' := [(0, _), (1, _), (2, _), (3, _), (5, _), (6, _)]) rfl ?_
      exact q
set_option maxRecDepth 100000 in
theorem lp2_X8_laySplit (G : Gt) {a b n S M p f : Nat} {E Q : Nat → Nat} {F : Fn} {μ : Mm} (h : nwOK μ a b n E Q) (h3 : lk3 μ a b n E) (hS : S < 2 ^ n) (hM : M < 100) (hpf : p + (f + 1) = M) (hb : hbN (lenN a b E S) 11 = some (f + 1)) (hk : Zs G 4 Y_X8_laySplit F 119 [(0, rf G 35), (1, .int (nI S)), (2, .int (nI M)), (3, .int (nI p)), (5, .int (nI (fbB a b n E S (f + 1))))] [] μ) : ∀ (g x : Nat), x + g = (fbB a b n E S (f + 1)) →
    Zs G 4 Y_X8_laySplit F 70 [(0, rf G 35), (1, .int (nI S)), (2, .int (nI M)), (3, .int (nI p)), (4, .int (nI (lowN S))), (5, .int (nI x))] [] μ := by
  have hn := h.le
  have hpw := p1024 hn
  have hpw1 := ppos n
  have hab := h.ab
  have htl := fun S : Nat => tot_lt (a := a) (b := b) h.g.1 h.g.2.2.1 E S
  obtain ⟨hl, hs, hp3⟩ := h3
  obtain ⟨f1, f2, f3, f4⟩ := fb_spec (n := n) hn hS hb
  have hBl := fbB_lt a b n E S (f + 1)
  intro g
  induction g with
  | zero =>
    intro x hf
    have hx : x = fbB a b n E S (f + 1) := by omega
    subst hx
    have hsb := cB_sb f1
    have hsl := sb_le hsb
    have hc2 := f1
    unfold cB at hc2
    rw [Bool.and_eq_true, Bool.and_eq_true, decide_eq_true_eq] at hc2
    have hxl := xor_sub hsb
    have hxlt := cB_lt f1
    have hln := len_lt2 (a := a) (b := b) (E := E) hn (show S ^^^ fbB a b n E S (f + 1) < 2 ^ n by omega)
    have hmost := ev_X8_most G (μ := μ) (S := S - fbB a b n E S (f + 1)) (N := lenN a b E (S ^^^ fbB a b n E S (f + 1))) (by omega) hln (by rw [← hxl]; exact (hp3 _ (by omega)).2)
    refine z_aload_n dX8_laySplit_70 rfl ?_
    refine z_iload dX8_laySplit_71 rfl ?_
    refine z_iload_n dX8_laySplit_73 rfl ?_
    refine z_cV2 dX8_laySplit_74 lk_X8_88 (by decide) ⟨by decide, _, rfl⟩ rfl (Nat.le_of_ble_eq_true rfl) (ev_X8_isIn G (by omega)) ?_
    refine z_ifB_eq (tgt := 113) dX8_laySplit_77 (by decide) (fun c77 => (tf _ hsb c77).elim) (fun c77 => ?_)
    refine z_iload dX8_laySplit_80 rfl ?_
    refine z_iload dX8_laySplit_82 rfl ?_
    refine z_iandN dX8_laySplit_84 ?_
    refine z_ifN_eq (tgt := 113) dX8_laySplit_85 (by decide) (Nat.lt_of_le_of_lt Nat.and_le_left (by omega)) (fun c85 => absurd c85 hc2.1.2) (fun c85 => ?_)
    refine z_aload_n dX8_laySplit_88 rfl ?_
    refine z_iload dX8_laySplit_89 rfl ?_
    refine z_cV1 dX8_laySplit_91 lk_X8_91 (by decide) ⟨by decide, _, rfl⟩ rfl (Nat.le_of_ble_eq_true rfl) (ev_X8_isBlock G hab htl hl hs hBl) ?_
    refine z_ifB_eq (tgt := 113) dX8_laySplit_94 (by decide) (fun c94 => (tf _ hc2.1.1 c94).elim) (fun c94 => ?_)
    refine z_aload_n dX8_laySplit_97 rfl ?_
    refine z_iload_n dX8_laySplit_98 rfl ?_
    refine z_iload dX8_laySplit_99 rfl ?_
    refine z_isubN dX8_laySplit_101 (by omega) ?_
    refine z_cV1 dX8_laySplit_102 lk_X8_104 (by decide) ⟨by decide, _, rfl⟩ rfl (Nat.le_of_ble_eq_true rfl) (hmost) ?_
    refine z_iload_n dX8_laySplit_105 rfl ?_
    refine z_iload_n dX8_laySplit_106 rfl ?_
    refine z_isubN dX8_laySplit_107 (by omega) ?_
    refine z_iconst (v := nI 1) dX8_laySplit_108 (by decide) ?_
    refine z_isubN dX8_laySplit_109 (by omega) ?_
    refine z_icmp_eq (tgt := 119) dX8_laySplit_110 (by decide) (fun c110 => ?_) (fun c110 => absurd (by rw [show M - p - 1 = f by omega]; exact (len_most hn hS hb f1).mpr f2) c110)
    refine z_sub (lv' := [(0, _), (1, _), (2, _), (3, _), (5, _)]) rfl ?_
    exact hk
  | succ g ih =>
    intro x hf
    have hxl2 : (cB a b E S x && (lenN a b E (S ^^^ x)).testBit (f + 1 - 1)) = false := f3 x (by omega)
    refine z_aload_n dX8_laySplit_70 rfl ?_
    refine z_iload dX8_laySplit_71 rfl ?_
    refine z_iload_n dX8_laySplit_73 rfl ?_
    refine z_cV2 dX8_laySplit_74 lk_X8_88 (by decide) ⟨by decide, _, rfl⟩ rfl (Nat.le_of_ble_eq_true rfl) (ev_X8_isIn G (by omega)) ?_
    refine z_ifB_eq (tgt := 113) dX8_laySplit_77 (by decide) (fun c77 => ?_) (fun c77 => ?_)
    · refine z_iinc (v := nI (x + 1)) (lv' := [(5, _), (0, _), (1, _), (2, _), (3, _), (4, _)]) dX8_laySplit_113 rfl (nI_inc _ 1) (by decide) rfl ?_
      refine z_goto (tgt := 70) dX8_laySplit_116 (by decide) ?_
      have q := ih (x + 1) (by omega)
      refine z_sub (lv' := [(0, _), (1, _), (2, _), (3, _), (4, _), (5, _)]) rfl ?_
      exact q
    · refine z_iload dX8_laySplit_80 rfl ?_
      refine z_iload dX8_laySplit_82 rfl ?_
      refine z_iandN dX8_laySplit_84 ?_
      refine z_ifN_eq (tgt := 113) dX8_laySplit_85 (by decide) (Nat.lt_of_le_of_lt Nat.and_le_left (by omega)) (fun c85 => ?_) (fun c85 => ?_)
      · refine z_iinc (v := nI (x + 1)) (lv' := [(5, _), (0, _), (1, _), (2, _), (3, _), (4, _)]) dX8_laySplit_113 rfl (nI_inc _ 1) (by decide) rfl ?_
        refine z_goto (tgt := 70) dX8_laySplit_116 (by decide) ?_
        have q := ih (x + 1) (by omega)
        refine z_sub (lv' := [(0, _), (1, _), (2, _), (3, _), (4, _), (5, _)]) rfl ?_
        exact q
      · refine z_aload_n dX8_laySplit_88 rfl ?_
        refine z_iload dX8_laySplit_89 rfl ?_
        refine z_cV1 dX8_laySplit_91 lk_X8_91 (by decide) ⟨by decide, _, rfl⟩ rfl (Nat.le_of_ble_eq_true rfl) (ev_X8_isBlock G hab htl hl hs (show x < 2 ^ n by omega)) ?_
        refine z_ifB_eq (tgt := 113) dX8_laySplit_94 (by decide) (fun c94 => ?_) (fun c94 => ?_)
        · refine z_iinc (v := nI (x + 1)) (lv' := [(5, _), (0, _), (1, _), (2, _), (3, _), (4, _)]) dX8_laySplit_113 rfl (nI_inc _ 1) (by decide) rfl ?_
          refine z_goto (tgt := 70) dX8_laySplit_116 (by decide) ?_
          have q := ih (x + 1) (by omega)
          refine z_sub (lv' := [(0, _), (1, _), (2, _), (3, _), (4, _), (5, _)]) rfl ?_
          exact q
        · have hcx : cB a b E S x = true := by unfold cB; rw [c94, decide_eq_true c85, c77]; rfl
          have hsl := sb_le c77
          have hxl := xor_sub c77
          have hxlt := cB_lt hcx
          have hln := len_lt2 (a := a) (b := b) (E := E) hn (show S ^^^ x < 2 ^ n by omega)
          have hmost := ev_X8_most G (μ := μ) (S := S - x) (N := lenN a b E (S ^^^ x)) (by omega) hln (by rw [← hxl]; exact (hp3 _ (by omega)).2)
          refine z_aload_n dX8_laySplit_97 rfl ?_
          refine z_iload_n dX8_laySplit_98 rfl ?_
          refine z_iload dX8_laySplit_99 rfl ?_
          refine z_isubN dX8_laySplit_101 (by omega) ?_
          refine z_cV1 dX8_laySplit_102 lk_X8_104 (by decide) ⟨by decide, _, rfl⟩ rfl (Nat.le_of_ble_eq_true rfl) (hmost) ?_
          refine z_iload_n dX8_laySplit_105 rfl ?_
          refine z_iload_n dX8_laySplit_106 rfl ?_
          refine z_isubN dX8_laySplit_107 (by omega) ?_
          refine z_iconst (v := nI 1) dX8_laySplit_108 (by decide) ?_
          refine z_isubN dX8_laySplit_109 (by omega) ?_
          refine z_icmp_eq (tgt := 119) dX8_laySplit_110 (by decide) (fun c110 => (tf _ ((len_most hn hS hb hcx).mp (by rw [show f = M - p - 1 by omega]; exact c110)) (by rw [hcx, Bool.true_and, Nat.add_sub_cancel] at hxl2; exact hxl2)).elim) (fun c110 => ?_)
          refine z_iinc (v := nI (x + 1)) (lv' := [(5, _), (0, _), (1, _), (2, _), (3, _), (4, _)]) dX8_laySplit_113 rfl (nI_inc _ 1) (by decide) rfl ?_
          refine z_goto (tgt := 70) dX8_laySplit_116 (by decide) ?_
          have q := ih (x + 1) (by omega)
          refine z_sub (lv' := [(0, _), (1, _), (2, _), (3, _), (4, _), (5, _)]) rfl ?_
          exact q
theorem and_sb {B S : Nat} (h : sb B S = true) : S &&& B = B := by
  have q : B &&& S = B := of_decide_eq_true h
  rw [Nat.and_comm]; exact q
theorem lowB_le {a b S B : Nat} {E : Nat → Nat} (h : cB a b E S B = true) (hS : S < 2048) : lowN S ≤ B := by
  have h0 : S ≠ 0 := fun e => by have := cB_lt h; omega
  obtain ⟨j, j1, j2, j3⟩ := low_bit h0 hS
  unfold cB at h
  rw [Bool.and_eq_true, Bool.and_eq_true, decide_eq_true_eq, j2] at h
  rw [j2]
  exact Nat.ge_two_pow_of_testBit (and_pow.mp h.1.2)
set_option maxRecDepth 100000 in
theorem lp1_X8_laySplit (G : Gt) {a b n M : Nat} {E : Nat → Nat} (hM : M ≤ 6) {μ0 : Mm} : ∀ (f p S : Nat) (Q : Nat → Nat) (μ : Mm), p + f = M → S < 2 ^ n → hbN (lenN a b E S) 11 = some f → nwF μ0 μ → nwOK μ a b n E Q → lk3 μ a b n E →
    Zs G 4 Y_X8_laySplit (fnN G (fun v u => v = some (.int (nI M)) ∧ nwF μ0 u ∧ nwOK u a b n E (lsL a b n E f p S Q))) 55 [(0, rf G 35), (1, .int (nI S)), (2, .int (nI M)), (3, .int (nI p))] [] μ := by
  intro f
  induction f with
  | zero =>
    intro p S Q μ hf hS hb hq h h3
    refine z_iload_n dX8_laySplit_55 rfl ?_
    refine z_iload_n dX8_laySplit_56 rfl ?_
    refine z_icmpN_ge (tgt := 182) dX8_laySplit_57 (by decide) (by omega) (by omega) (fun c57 => ?_) (fun c57 => absurd c57 (by omega))
    refine z_iload_n dX8_laySplit_182 rfl ?_
    exact z_ret (ty := none) (v := none) rfl dX8_laySplit_183 ⟨rfl, hq, h⟩
  | succ f ih =>
    intro p S Q μ hf hS hb hq h h3
    have hn := h.le
    have hpw := p1024 hn
    have hpw1 := ppos n
    have hab := h.ab
    have htl := fun S : Nat => tot_lt (a := a) (b := b) h.g.1 h.g.2.2.1 E S
    obtain ⟨f1, f2, f3, f4⟩ := fb_spec (n := n) hn hS hb
    have hBl := fbB_lt a b n E S (f + 1)
    have hsb := cB_sb f1
    have hsl := sb_le hsb
    have hxl := xor_sub hsb
    have hxlt := cB_lt f1
    have hlow := low_neg S (by omega)
    refine z_iload_n dX8_laySplit_55 rfl ?_
    refine z_iload_n dX8_laySplit_56 rfl ?_
    refine z_icmpN_ge (tgt := 182) dX8_laySplit_57 (by decide) (by omega) (by omega) (fun c57 => absurd c57 (by omega)) (fun c57 => ?_)
    refine z_iload_n dX8_laySplit_60 rfl ?_
    refine z_iload_n dX8_laySplit_61 rfl ?_
    refine z_ineg dX8_laySplit_62 ?_
    refine z_iand dX8_laySplit_63 ?_
    rw [hlow]
    refine z_istore (lv' := [(4, _), (0, _), (1, _), (2, _), (3, _)]) dX8_laySplit_64 (by decide) rfl ?_
    refine z_iload dX8_laySplit_66 rfl ?_
    refine z_istore (lv' := [(5, _), (4, _), (0, _), (1, _), (2, _), (3, _)]) dX8_laySplit_68 (by decide) rfl ?_
    refine z_sub (lv' := [(0, _), (1, _), (2, _), (3, _), (4, _), (5, _)]) rfl ?_
    refine lp2_X8_laySplit G h h3 hS (by omega) hf hb ?_ ((fbB a b n E S (f + 1)) - lowN S) (lowN S) (by have := lowB_le f1 (show S < 2048 by omega); omega)
    refine z_iconst (v := nI 0) dX8_laySplit_119 (by decide) ?_
    refine z_istore (lv' := [(6, _), (0, _), (1, _), (2, _), (3, _), (5, _)]) dX8_laySplit_120 (by decide) rfl ?_
    refine z_sub (lv' := [(0, _), (1, _), (2, _), (3, _), (5, _), (6, _)]) rfl ?_
    refine lp3_X8_laySplit G (Q := Q) (μ0 := μ) (show p < 6 by omega) hBl ?_ n 0 μ (by omega) nwF.rf (by rw [layF_0]; exact h) h3.1.1
    intro u hu hw
    refine z_iload_n dX8_laySplit_171 rfl ?_
    refine z_iload dX8_laySplit_172 rfl ?_
    refine z_isubN dX8_laySplit_174 (by omega) ?_
    refine z_istore_n (lv' := [(1, _), (0, _), (2, _), (3, _), (5, _)]) dX8_laySplit_175 rfl (by decide) rfl ?_
    refine z_iinc (v := nI (p + 1)) (lv' := [(3, _), (1, _), (0, _), (2, _), (5, _)]) dX8_laySplit_176 rfl (nI_inc _ 1) (by decide) rfl ?_
    refine z_goto (tgt := 55) dX8_laySplit_179 (by decide) ?_
    have q := ih (p + 1) (S ^^^ (S &&& (fbB a b n E S (f + 1)))) (layF Q (fbB a b n E S (f + 1)) p n) u (by omega) (by rw [and_sb hsb]; omega) (by rw [and_sb hsb]; exact f4) (hq.trans hu) hw (h3.n hu)
    rw [show S ^^^ (S &&& (fbB a b n E S (f + 1))) = S - (fbB a b n E S (f + 1)) by rw [and_sb hsb]; exact hxl] at q
    have e : lsL a b n E (f + 1) p S Q = lsL a b n E f (p + 1) (S - fbB a b n E S (f + 1)) (layF Q (fbB a b n E S (f + 1)) p n) := by
      show lsL a b n E f (p + 1) (S ^^^ (S &&& fbB a b n E S (f + 1))) _ = _
      rw [and_sb hsb, hxl]; rfl
    rw [e]
    refine z_sub (lv' := [(0, _), (1, _), (2, _), (3, _)]) rfl ?_
    exact q
set_option maxRecDepth 100000 in
theorem ev_X8_laySplit_r1 (G : Gt) {a b n c : Nat} {E Q : Nat → Nat} {S : Nat → St} {μ : Mm} (h : nwOK μ a b n E Q) (hh : hsOK μ c S) (hsp : spO a b n E = none) : EV G 4 Y_X8_laySplit [rf G 35] μ (fun v u => v = some (.int (nI 0)) ∧ opF μ u ∧ nwOK u a b n E Q ∧ hsOK u c S ∧ u.1 35 3 = nI 1) := by
  have hab := h.ab
  have hn := h.le
  have hpw := p1024 hn
  have hpw1 := ppos n
  have hE : okE a b E n := fun k hk => h.el hk
  have hg := h.g
  refine ev_of (by decide) (Nat.le_of_ble_eq_true rfl) ?_
  show Zs G 4 Y_X8_laySplit (fnN G _) 0 [(0, rf G 35)] [] μ
  refine z_aload_n dX8_laySplit_0 rfl ?_
  refine z_iconst (v := -1) dX8_laySplit_1 (by decide) ?_
  refine z_cV1g dX8_laySplit_2 lk_X8_94 (by decide) ⟨by decide, _, rfl⟩ rfl (Nat.le_of_ble_eq_true rfl) (ev_X8_looks_0 G h) ?_
  rintro v u ⟨rfl, hq, hl, hs⟩
  have h := h.q hq
  have hh := hh.m hq
  have htl := fun S : Nat => tot_lt (a := a) (b := b) h.g.1 h.g.2.2.1 E S
  refine z_aload_n dX8_laySplit_5 rfl ?_
  refine z_cV0g dX8_laySplit_6 lk_X8_98 (by decide) ⟨by decide, _, rfl⟩ rfl (Nat.le_of_ble_eq_true rfl) (ev_X8_splitsAll G hab htl h.le hl hs) ?_
  rintro v u2 ⟨rfl, hq2, hl, hs, hp⟩
  have h := h.q hq2
  have hh := hh.m hq2
  have hq := hq.trans hq2
  have hln := len_lt2 (a := a) (b := b) (E := E) hn (show 2 ^ n - 1 < 2 ^ n by omega)
  have htl1 := htl (2 ^ n - 1)
  have hmost := ev_X8_most G (μ := u2) (S := 2 ^ n - 1) (N := lenN a b E (2 ^ n - 1)) (by omega) hln ((hp _ (by omega)).2)
  rw [show hbN (lenN a b E (2 ^ n - 1)) 11 = spO a b n E from rfl, hsp] at hmost
  refine z_aload_n dX8_laySplit_9 rfl ?_
  refine z_cV0 dX8_laySplit_10 lk_X8_101 (by decide) ⟨by decide, _, rfl⟩ rfl (Nat.le_of_ble_eq_true rfl) (ev_X8_all G h) ?_
  refine z_istore_n (lv' := [(1, _), (0, _)]) dX8_laySplit_13 rfl (by decide) rfl ?_
  refine z_aload_n dX8_laySplit_14 rfl ?_
  refine z_iload_n dX8_laySplit_15 rfl ?_
  refine z_cV1 dX8_laySplit_16 lk_X8_104 (by decide) ⟨by decide, _, rfl⟩ rfl (Nat.le_of_ble_eq_true rfl) (hmost) ?_
  refine z_istore_n (lv' := [(2, _), (1, _), (0, _)]) dX8_laySplit_19 rfl (by decide) rfl ?_
  refine z_aload_n dX8_laySplit_20 rfl ?_
  refine z_aload_n dX8_laySplit_21 rfl ?_
  refine z_getR (j := 41) dX8_laySplit_22 fl_X8_25 ⟨by decide, _, rfl, rfl⟩ ?_
  refine z_iload_n dX8_laySplit_25 rfl ?_
  refine z_ialdN dX8_laySplit_26 ⟨by decide, rfl⟩ (by omega) (by decide) ((hs _ (by omega)).1) ?_
  refine z_ifN_ne (tgt := 36) dX8_laySplit_27 (by decide) (by omega) (fun c27 => ?_) (fun c27 => absurd c27 (sp_non hg.1 hg.2.2.1 hE hn hsp))
  refine z_iconst (v := nI 1) dX8_laySplit_36 (by decide) ?_
  refine z_goto (tgt := 41) dX8_laySplit_37 (by decide) ?_
  refine z_cV1w dX8_laySplit_41 lk_X8_52 (by decide) ⟨by decide, _, rfl⟩ rfl (Nat.le_of_ble_eq_true rfl) (ev_X8_refused G (w := 1) (by decide)) ?_
  refine z_ifB_eq (tgt := 49) dX8_laySplit_44 (by decide) (fun c44 => absurd c44 (by decide)) (fun c44 => ?_)
  refine z_iconst (v := nI 0) dX8_laySplit_47 (by decide) ?_
  exact z_ret (ty := none) (v := none) rfl dX8_laySplit_48 ⟨rfl, hq.o.u3 _, h.u3 _, hh.u3 _, uF_s _ _ _ _⟩
set_option maxRecDepth 100000 in
theorem ev_X8_laySplit_r2 (G : Gt) {a b n c : Nat} {E Q : Nat → Nat} {S : Nat → St} {μ : Mm} (h : nwOK μ a b n E Q) (hh : hsOK μ c S) {M : Nat} (hsp : spO a b n E = some M) (hM6 : 6 < M) : EV G 4 Y_X8_laySplit [rf G 35] μ (fun v u => v = some (.int (nI 0)) ∧ opF μ u ∧ nwOK u a b n E Q ∧ hsOK u c S ∧ u.1 35 3 = nI 1) := by
  have hab := h.ab
  have hn := h.le
  have hpw := p1024 hn
  have hpw1 := ppos n
  have hE : okE a b E n := fun k hk => h.el hk
  have hg := h.g
  have hM11 := hbN_lt hsp
  refine ev_of (by decide) (Nat.le_of_ble_eq_true rfl) ?_
  show Zs G 4 Y_X8_laySplit (fnN G _) 0 [(0, rf G 35)] [] μ
  refine z_aload_n dX8_laySplit_0 rfl ?_
  refine z_iconst (v := -1) dX8_laySplit_1 (by decide) ?_
  refine z_cV1g dX8_laySplit_2 lk_X8_94 (by decide) ⟨by decide, _, rfl⟩ rfl (Nat.le_of_ble_eq_true rfl) (ev_X8_looks_0 G h) ?_
  rintro v u ⟨rfl, hq, hl, hs⟩
  have h := h.q hq
  have hh := hh.m hq
  have htl := fun S : Nat => tot_lt (a := a) (b := b) h.g.1 h.g.2.2.1 E S
  refine z_aload_n dX8_laySplit_5 rfl ?_
  refine z_cV0g dX8_laySplit_6 lk_X8_98 (by decide) ⟨by decide, _, rfl⟩ rfl (Nat.le_of_ble_eq_true rfl) (ev_X8_splitsAll G hab htl h.le hl hs) ?_
  rintro v u2 ⟨rfl, hq2, hl, hs, hp⟩
  have h := h.q hq2
  have hh := hh.m hq2
  have hq := hq.trans hq2
  have hln := len_lt2 (a := a) (b := b) (E := E) hn (show 2 ^ n - 1 < 2 ^ n by omega)
  have htl1 := htl (2 ^ n - 1)
  have hmost := ev_X8_most G (μ := u2) (S := 2 ^ n - 1) (N := lenN a b E (2 ^ n - 1)) (by omega) hln ((hp _ (by omega)).2)
  rw [show hbN (lenN a b E (2 ^ n - 1)) 11 = spO a b n E from rfl, hsp] at hmost
  refine z_aload_n dX8_laySplit_9 rfl ?_
  refine z_cV0 dX8_laySplit_10 lk_X8_101 (by decide) ⟨by decide, _, rfl⟩ rfl (Nat.le_of_ble_eq_true rfl) (ev_X8_all G h) ?_
  refine z_istore_n (lv' := [(1, _), (0, _)]) dX8_laySplit_13 rfl (by decide) rfl ?_
  refine z_aload_n dX8_laySplit_14 rfl ?_
  refine z_iload_n dX8_laySplit_15 rfl ?_
  refine z_cV1 dX8_laySplit_16 lk_X8_104 (by decide) ⟨by decide, _, rfl⟩ rfl (Nat.le_of_ble_eq_true rfl) (hmost) ?_
  refine z_istore_n (lv' := [(2, _), (1, _), (0, _)]) dX8_laySplit_19 rfl (by decide) rfl ?_
  refine z_aload_n dX8_laySplit_20 rfl ?_
  refine z_aload_n dX8_laySplit_21 rfl ?_
  refine z_getR (j := 41) dX8_laySplit_22 fl_X8_25 ⟨by decide, _, rfl, rfl⟩ ?_
  refine z_iload_n dX8_laySplit_25 rfl ?_
  refine z_ialdN dX8_laySplit_26 ⟨by decide, rfl⟩ (by omega) (by decide) ((hs _ (by omega)).1) ?_
  refine z_ifN_ne (tgt := 36) dX8_laySplit_27 (by decide) (by omega) (fun c27 => absurd (sp_tot hg.1 hg.2.2.1 hE hsp) c27) (fun c27 => ?_)
  refine z_iload_n dX8_laySplit_30 rfl ?_
  refine z_bipush (v := nI 6) dX8_laySplit_31 (by decide) ?_
  refine z_icmpN_le (tgt := 40) dX8_laySplit_33 (by decide) (by omega) (by omega) (fun c33 => absurd c33 (by omega)) (fun c33 => ?_)
  refine z_iconst (v := nI 1) dX8_laySplit_36 (by decide) ?_
  refine z_goto (tgt := 41) dX8_laySplit_37 (by decide) ?_
  refine z_cV1w dX8_laySplit_41 lk_X8_52 (by decide) ⟨by decide, _, rfl⟩ rfl (Nat.le_of_ble_eq_true rfl) (ev_X8_refused G (w := 1) (by decide)) ?_
  refine z_ifB_eq (tgt := 49) dX8_laySplit_44 (by decide) (fun c44 => absurd c44 (by decide)) (fun c44 => ?_)
  refine z_iconst (v := nI 0) dX8_laySplit_47 (by decide) ?_
  exact z_ret (ty := none) (v := none) rfl dX8_laySplit_48 ⟨rfl, hq.o.u3 _, h.u3 _, hh.u3 _, uF_s _ _ _ _⟩
set_option maxRecDepth 100000 in
theorem ev_X8_laySplit (G : Gt) {a b n c : Nat} {E Q : Nat → Nat} {S : Nat → St} {μ : Mm} (h : nwOK μ a b n E Q) (hh : hsOK μ c S) {ru : Bool} (h4 : μ.1 35 4 = bI ru) {M : Nat} (hsp : spO a b n E = some M) (hM6 : M ≤ 6) : EV G 4 Y_X8_laySplit [rf G 35] μ (fun v u => v = some (.int (nI M)) ∧ opF μ u ∧ nwSt u (a, b, n, E, lsL a b n E M 0 (2 ^ n - 1) Q) ∧ hsOK u (kqC ru c) (kqS ru c S (a, b, n, E, Q)) ∧ u.1 35 3 = nI 0) := by
  have hab := h.ab
  have hn := h.le
  have hpw := p1024 hn
  have hpw1 := ppos n
  have hE : okE a b E n := fun k hk => h.el hk
  have hg := h.g
  refine ev_of (by decide) (Nat.le_of_ble_eq_true rfl) ?_
  show Zs G 4 Y_X8_laySplit (fnN G _) 0 [(0, rf G 35)] [] μ
  refine z_aload_n dX8_laySplit_0 rfl ?_
  refine z_iconst (v := -1) dX8_laySplit_1 (by decide) ?_
  refine z_cV1g dX8_laySplit_2 lk_X8_94 (by decide) ⟨by decide, _, rfl⟩ rfl (Nat.le_of_ble_eq_true rfl) (ev_X8_looks_0 G h) ?_
  rintro v u ⟨rfl, hq, hl, hs⟩
  have h := h.q hq
  have hh := hh.m hq
  have htl := fun S : Nat => tot_lt (a := a) (b := b) h.g.1 h.g.2.2.1 E S
  refine z_aload_n dX8_laySplit_5 rfl ?_
  refine z_cV0g dX8_laySplit_6 lk_X8_98 (by decide) ⟨by decide, _, rfl⟩ rfl (Nat.le_of_ble_eq_true rfl) (ev_X8_splitsAll G hab htl h.le hl hs) ?_
  rintro v u2 ⟨rfl, hq2, hl, hs, hp⟩
  have h := h.q hq2
  have hh := hh.m hq2
  have hq := hq.trans hq2
  have hln := len_lt2 (a := a) (b := b) (E := E) hn (show 2 ^ n - 1 < 2 ^ n by omega)
  have htl1 := htl (2 ^ n - 1)
  have hmost := ev_X8_most G (μ := u2) (S := 2 ^ n - 1) (N := lenN a b E (2 ^ n - 1)) (by omega) hln ((hp _ (by omega)).2)
  rw [show hbN (lenN a b E (2 ^ n - 1)) 11 = spO a b n E from rfl, hsp] at hmost
  refine z_aload_n dX8_laySplit_9 rfl ?_
  refine z_cV0 dX8_laySplit_10 lk_X8_101 (by decide) ⟨by decide, _, rfl⟩ rfl (Nat.le_of_ble_eq_true rfl) (ev_X8_all G h) ?_
  refine z_istore_n (lv' := [(1, _), (0, _)]) dX8_laySplit_13 rfl (by decide) rfl ?_
  refine z_aload_n dX8_laySplit_14 rfl ?_
  refine z_iload_n dX8_laySplit_15 rfl ?_
  refine z_cV1 dX8_laySplit_16 lk_X8_104 (by decide) ⟨by decide, _, rfl⟩ rfl (Nat.le_of_ble_eq_true rfl) (hmost) ?_
  refine z_istore_n (lv' := [(2, _), (1, _), (0, _)]) dX8_laySplit_19 rfl (by decide) rfl ?_
  refine z_aload_n dX8_laySplit_20 rfl ?_
  refine z_aload_n dX8_laySplit_21 rfl ?_
  refine z_getR (j := 41) dX8_laySplit_22 fl_X8_25 ⟨by decide, _, rfl, rfl⟩ ?_
  refine z_iload_n dX8_laySplit_25 rfl ?_
  refine z_ialdN dX8_laySplit_26 ⟨by decide, rfl⟩ (by omega) (by decide) ((hs _ (by omega)).1) ?_
  refine z_ifN_ne (tgt := 36) dX8_laySplit_27 (by decide) (by omega) (fun c27 => absurd (sp_tot hg.1 hg.2.2.1 hE hsp) c27) (fun c27 => ?_)
  refine z_iload_n dX8_laySplit_30 rfl ?_
  refine z_bipush (v := nI 6) dX8_laySplit_31 (by decide) ?_
  refine z_icmpN_le (tgt := 40) dX8_laySplit_33 (by decide) (by omega) (by omega) (fun c33 => ?_) (fun c33 => absurd hM6 (by omega))
  refine z_iconst (v := nI 0) dX8_laySplit_40 (by decide) ?_
  refine z_cV1w dX8_laySplit_41 lk_X8_52 (by decide) ⟨by decide, _, rfl⟩ rfl (Nat.le_of_ble_eq_true rfl) (ev_X8_refused G (w := 0) (by decide)) ?_
  refine z_ifB_eq (tgt := 49) dX8_laySplit_44 (by decide) (fun c44 => ?_) (fun c44 => absurd c44 (by decide))
  refine z_aload_n dX8_laySplit_49 rfl ?_
  refine z_cV0g dX8_laySplit_50 lk_X8_72 (by decide) ⟨by decide, _, rfl⟩ rfl (Nat.le_of_ble_eq_true rfl) (ev_X8_saves G (x := (a, b, n, E, Q)) (ru := ru) (h.u3 _) (hh.u3 _) (f4_u3 ((hq.1 35 4 (by omega)).trans h4) _)) ?_
  rintro v u3 ⟨rfl, hs3, hh2⟩
  have hu : nwOK u3 a b n E Q := (h.u3 (nI 0)).s hs3
  have h3 : lk3 u3 a b n E := ((show lk3 u2 a b n E from ⟨hl, hs, hp⟩).u3 (nI 0)).s hs3
  refine z_iconst (v := nI 0) dX8_laySplit_53 (by decide) ?_
  refine z_istore_n (lv' := [(3, _), (2, _), (1, _), (0, _)]) dX8_laySplit_54 rfl (by decide) rfl ?_
  have q := lp1_X8_laySplit G hM6 (μ0 := u3) M 0 (2 ^ n - 1) Q u3 (by omega) (by omega) hsp nwF.rf hu h3
  refine z_sub (lv' := [(0, _), (1, _), (2, _), (3, _)]) rfl ?_
  refine Zs.post ?_ q
  rintro v u4 ⟨rfl, hn4, hw4⟩
  have q2 := op_post hs3 hh2 hn4 (x := (a, b, n, E, lsL a b n E M 0 (2 ^ n - 1) Q)) hw4
  exact ⟨rfl, hq.o.trans q2.1, q2.2⟩
