set_option maxRecDepth 100000 in
theorem lp_X8_with (G : Gt) {a b : Nat} {μ : Mm} (hg : nwG μ a b) {S e : Nat} (hS : S < 2 ^ 36) (he : e < a * b) : ∀ (f k : Nat), k + f = a * b →
    Zs G 1 Y_X8_with (fnN G (fun v u => v = some (.long (lN (rwN a b S e))) ∧ u = μ)) 10 [(0, rf G 35), (1, .long (lN S)), (3, .int (nI e)), (4, .long (lN (rwL a b S e k))), (6, .int (nI k))] [] μ := by
  intro f
  have hab := hg.ab
  have hab1 := hg.p
  have ha := hg.2.2.1
  have ha6 := hg.2.2.2.1
  have hb := hg.2.2.2.2.1
  have hb6 := hg.2.2.2.2.2
  induction f with
  | zero =>
    intro k hf
    refine z_iload dX8_with_10 rfl ?_
    refine z_aload_n dX8_with_12 rfl ?_
    refine z_cV0 dX8_with_13 lk_X8_56 (by decide) ⟨by decide, _, rfl⟩ rfl (Nat.le_of_ble_eq_true rfl) (ev_X8_size G hg) ?_
    refine z_icmpN_ge (tgt := 54) dX8_with_16 (by decide) (by omega) (by omega) (fun c16 => ?_) (fun c16 => absurd c16 (by omega))
    refine z_lload dX8_with_54 rfl ?_
    exact z_lret rfl dX8_with_56 ⟨by rw [show k = a * b by omega]; rfl, rfl⟩
  | succ f ih =>
    intro k hf
    have hpl := plN_lt ha hb k e
    have hand : S / 2 ^ k &&& 1 ≤ 1 := Nat.and_le_right
    refine z_iload dX8_with_10 rfl ?_
    refine z_aload_n dX8_with_12 rfl ?_
    refine z_cV0 dX8_with_13 lk_X8_56 (by decide) ⟨by decide, _, rfl⟩ rfl (Nat.le_of_ble_eq_true rfl) (ev_X8_size G hg) ?_
    refine z_icmpN_ge (tgt := 54) dX8_with_16 (by decide) (by omega) (by omega) (fun c16 => absurd c16 (by omega)) (fun c16 => ?_)
    refine z_lload dX8_with_19 rfl ?_
    refine z_lload_n dX8_with_21 rfl ?_
    refine z_iload dX8_with_22 rfl ?_
    refine z_lshrN dX8_with_24 (by omega) (by omega) ?_
    refine z_lconst (v := lN 1) dX8_with_25 rfl ?_
    refine z_landN dX8_with_26 ?_
    refine z_lconst (v := lN 1) dX8_with_27 rfl ?_
    refine z_lcN_ne (tgt := 44) dX8_with_28 dX8_with_29 (by decide) (by omega) (by omega) (fun cc => ?_) (fun cc => ?_)
    · refine z_lconst (v := lN 0) dX8_with_44 rfl ?_
      refine z_lorN dX8_with_45 ?_
      refine z_lstore (lv' := [(4, _), (0, _), (1, _), (3, _), (6, _)]) dX8_with_46 (by decide) rfl ?_
      refine z_iinc (v := nI (k + 1)) (lv' := [(6, _), (4, _), (0, _), (1, _), (3, _)]) dX8_with_48 rfl (nI_inc _ 1) (by decide) rfl ?_
      refine z_goto (tgt := 10) dX8_with_51 (by decide) ?_
      have q := ih (k + 1) (by omega)
      rw [show rwL a b S e (k + 1) = rwL a b S e k ||| 0 by rw [show rwL a b S e (k + 1) = if S.testBit k then rwL a b S e k ||| 2 ^ plN a b k e else rwL a b S e k from rfl, if_neg (fun q => cc ((tb_div S k).1.mpr q)), Nat.or_zero]] at q
      refine z_sub (lv' := [(0, _), (1, _), (3, _), (4, _), (6, _)]) rfl ?_
      exact q
    · refine z_lconst (v := lN 1) dX8_with_32 rfl ?_
      refine z_aload_n dX8_with_33 rfl ?_
      refine z_iload dX8_with_34 rfl ?_
      refine z_iload_n dX8_with_36 rfl ?_
      refine z_cV2 dX8_with_37 lk_X8_64 (by decide) ⟨by decide, _, rfl⟩ rfl (Nat.le_of_ble_eq_true rfl) (ev_X8_plus G hg (by omega) (by omega)) ?_
      refine z_lshlN dX8_with_40 (by omega) ?_
      refine z_goto (tgt := 45) dX8_with_41 (by decide) ?_
      refine z_lorN dX8_with_45 ?_
      refine z_lstore (lv' := [(4, _), (0, _), (1, _), (3, _), (6, _)]) dX8_with_46 (by decide) rfl ?_
      refine z_iinc (v := nI (k + 1)) (lv' := [(6, _), (4, _), (0, _), (1, _), (3, _)]) dX8_with_48 rfl (nI_inc _ 1) (by decide) rfl ?_
      refine z_goto (tgt := 10) dX8_with_51 (by decide) ?_
      have q := ih (k + 1) (by omega)
      rw [show rwL a b S e (k + 1) = rwL a b S e k ||| 1 * 2 ^ plN a b k e by rw [show rwL a b S e (k + 1) = if S.testBit k then rwL a b S e k ||| 2 ^ plN a b k e else rwL a b S e k from rfl, if_pos ((tb_div S k).1.mp cc), Nat.one_mul]] at q
      refine z_sub (lv' := [(0, _), (1, _), (3, _), (4, _), (6, _)]) rfl ?_
      exact q
set_option maxRecDepth 100000 in
theorem ev_X8_with (G : Gt) {a b : Nat} {μ : Mm} (hg : nwG μ a b) {S e : Nat} (hS : S < 2 ^ 36) (he : e < a * b) : EVr G 1 Y_X8_with [rf G 35, .long (lN S), .int (nI e)] μ (.long (lN (rwN a b S e))) := by
  have hab := hg.ab
  have hab1 := hg.p
  have ha := hg.2.2.1
  have ha6 := hg.2.2.2.1
  have hb := hg.2.2.2.2.1
  have hb6 := hg.2.2.2.2.2
  refine ev_of (by decide) (Nat.le_of_ble_eq_true rfl) ?_
  show Zs G 1 Y_X8_with (fnN G _) 0 [(0, rf G 35), (1, .long (lN S)), (3, .int (nI e))] [] μ
  refine z_lload_n dX8_with_0 rfl ?_
  refine z_lconst (v := lN 1) dX8_with_1 rfl ?_
  refine z_iload_n dX8_with_2 rfl ?_
  refine z_lshlN dX8_with_3 (by omega) ?_
  refine z_lorN dX8_with_4 ?_
  refine z_lstore (lv' := [(4, _), (0, _), (1, _), (3, _)]) dX8_with_5 (by decide) rfl ?_
  refine z_iconst (v := nI 0) dX8_with_7 (by decide) ?_
  refine z_istore (lv' := [(6, _), (4, _), (0, _), (1, _), (3, _)]) dX8_with_8 (by decide) rfl ?_
  have q := lp_X8_with G hg hS he (a * b) 0 (by omega)
  rw [show rwL a b S e 0 = S ||| 1 * 2 ^ e by rw [Nat.one_mul]; rfl] at q
  refine z_sub (lv' := [(0, _), (1, _), (3, _), (4, _), (6, _)]) rfl ?_
  exact q
def fbL (a b S : Nat) : Nat → Nat → Option Nat
  | 0, _ => none
  | f + 1, e => if (rwN a b S e).testBit 0 then fbL a b S f (e + 1) else some e
theorem tb0 (X : Nat) : (X &&& 1 = 0 ↔ X.testBit 0 = false) := by
  have := (tb_div X 0).2
  rw [Nat.pow_zero, Nat.div_one] at this
  exact this
set_option maxRecDepth 100000 in
theorem lp_X8_freeBy (G : Gt) {a b : Nat} {μ : Mm} (hg : nwG μ a b) {S : Nat} (hS : S < 2 ^ 36) : ∀ (f e : Nat), e + f = a * b →
    Zs G 2 Y_X8_freeBy (fnN G (fun v u => v = some (.int (oI (fbL a b S f e))) ∧ u = μ)) 2 [(0, rf G 35), (1, .long (lN S)), (3, .int (nI e))] [] μ := by
  intro f
  have hab := hg.ab
  have hab1 := hg.p
  have ha := hg.2.2.1
  have ha6 := hg.2.2.2.1
  have hb := hg.2.2.2.2.1
  have hb6 := hg.2.2.2.2.2
  induction f with
  | zero =>
    intro e hf
    refine z_iload_n dX8_freeBy_2 rfl ?_
    refine z_aload_n dX8_freeBy_3 rfl ?_
    refine z_cV0 dX8_freeBy_4 lk_X8_56 (by decide) ⟨by decide, _, rfl⟩ rfl (Nat.le_of_ble_eq_true rfl) (ev_X8_size G hg) ?_
    refine z_icmpN_ge (tgt := 31) dX8_freeBy_7 (by decide) (by omega) (by omega) (fun c7 => ?_) (fun c7 => absurd c7 (by omega))
    refine z_iconst (v := -1) dX8_freeBy_31 (by decide) ?_
    exact z_ret (ty := none) (v := none) rfl dX8_freeBy_32 ⟨rfl, rfl⟩
  | succ f ih =>
    intro e hf
    have hand : rwN a b S e &&& 1 ≤ 1 := Nat.and_le_right
    refine z_iload_n dX8_freeBy_2 rfl ?_
    refine z_aload_n dX8_freeBy_3 rfl ?_
    refine z_cV0 dX8_freeBy_4 lk_X8_56 (by decide) ⟨by decide, _, rfl⟩ rfl (Nat.le_of_ble_eq_true rfl) (ev_X8_size G hg) ?_
    refine z_icmpN_ge (tgt := 31) dX8_freeBy_7 (by decide) (by omega) (by omega) (fun c7 => absurd c7 (by omega)) (fun c7 => ?_)
    refine z_aload_n dX8_freeBy_10 rfl ?_
    refine z_lload_n dX8_freeBy_11 rfl ?_
    refine z_iload_n dX8_freeBy_12 rfl ?_
    refine z_cV2 dX8_freeBy_13 lk_X8_155 (by decide) ⟨by decide, _, rfl⟩ rfl (Nat.le_of_ble_eq_true rfl) (ev_X8_with G hg hS (show e < a * b by omega)) ?_
    refine z_lconst (v := lN 1) dX8_freeBy_16 rfl ?_
    refine z_landN dX8_freeBy_17 ?_
    refine z_lconst (v := lN 0) dX8_freeBy_18 rfl ?_
    refine z_lcN_ne (tgt := 25) dX8_freeBy_19 dX8_freeBy_20 (by decide) (by omega) (by omega) (fun cc => ?_) (fun cc => ?_)
    · refine z_iinc (v := nI (e + 1)) (lv' := [(3, _), (0, _), (1, _)]) dX8_freeBy_25 rfl (nI_inc _ 1) (by decide) rfl ?_
      refine z_goto (tgt := 2) dX8_freeBy_28 (by decide) ?_
      have hb0 : (rwN a b S e).testBit 0 = true := by
        cases q : (rwN a b S e).testBit 0 with
        | true => rfl
        | false => exact absurd ((tb0 _).mpr q) cc
      rw [show fbL a b S (f + 1) e = if (rwN a b S e).testBit 0 then fbL a b S f (e + 1) else some e from rfl, if_pos hb0]
      refine z_sub (lv' := [(0, _), (1, _), (3, _)]) rfl ?_
      exact ih (e + 1) (by omega)
    · refine z_iload_n dX8_freeBy_23 rfl ?_
      exact z_ret (ty := none) (v := none) rfl dX8_freeBy_24 ⟨by rw [show fbL a b S (f + 1) e = if (rwN a b S e).testBit 0 then fbL a b S f (e + 1) else some e from rfl, (tb0 _).mp cc]; rfl, rfl⟩
set_option maxRecDepth 100000 in
theorem ev_X8_freeBy (G : Gt) {a b : Nat} {μ : Mm} (hg : nwG μ a b) {S : Nat} (hS : S < 2 ^ 36) : EVr G 2 Y_X8_freeBy [rf G 35, .long (lN S)] μ (.int (oI (fbL a b S (a * b) 0))) := by
  refine ev_of (by decide) (Nat.le_of_ble_eq_true rfl) ?_
  show Zs G 2 Y_X8_freeBy (fnN G _) 0 [(0, rf G 35), (1, .long (lN S))] [] μ
  refine z_iconst (v := nI 0) dX8_freeBy_0 (by decide) ?_
  refine z_istore_n (lv' := [(3, _), (0, _), (1, _)]) dX8_freeBy_1 rfl (by decide) rfl ?_
  refine z_sub (lv' := [(0, _), (1, _), (3, _)]) rfl ?_
  exact lp_X8_freeBy G hg hS (a * b) 0 (by omega)
/-- what the reference finds free is what the class finds -/
theorem rw_0 {a b S e : Nat} (h1 : 1 ≤ a) (h2 : a ≤ 6) (h3 : 1 ≤ b) (h4 : b ≤ 6) (he : e < a * b) : ∀ k, k ≤ a * b → ((rwL a b S e k).testBit 0 = true ↔ S.testBit 0 = true ∨ e = 0 ∨ (opN a b e < k ∧ S.testBit (opN a b e) = true)) := by
  intro k
  induction k with
  | zero =>
    intro _
    show (S ||| 2 ^ e).testBit 0 = true ↔ _
    rw [Nat.testBit_or, Bool.or_eq_true, Nat.testBit_two_pow, decide_eq_true_eq]
    constructor
    · rintro (q | q)
      · exact Or.inl q
      · exact Or.inr (Or.inl q)
    · rintro (q | q | ⟨q, _⟩)
      · exact Or.inl q
      · exact Or.inr q
      · omega
  | succ k ih =>
    intro hk
    rw [show rwL a b S e (k + 1) = if S.testBit k then rwL a b S e k ||| 2 ^ plN a b k e else rwL a b S e k from rfl]
    have hcm : plN a b k e = plN a b e k := plN_comm a b k e
    have ho := op_all (o := k) h1 h2 h3 h4 he (by omega)
    by_cases c : S.testBit k = true
    · rw [if_pos c, Nat.testBit_or, Bool.or_eq_true, ih (by omega), Nat.testBit_two_pow, decide_eq_true_eq, hcm]
      constructor
      · rintro ((q | q | ⟨q1, q2⟩) | q)
        · exact Or.inl q
        · exact Or.inr (Or.inl q)
        · exact Or.inr (Or.inr ⟨by omega, q2⟩)
        · have := ho.mp q; exact Or.inr (Or.inr ⟨by omega, by rw [← this]; exact c⟩)
      · rintro (q | q | ⟨q1, q2⟩)
        · exact Or.inl (Or.inl q)
        · exact Or.inl (Or.inr (Or.inl q))
        · by_cases e2 : opN a b e = k
          · exact Or.inr (ho.mpr e2.symm)
          · exact Or.inl (Or.inr (Or.inr ⟨by omega, q2⟩))
    · rw [if_neg c, ih (by omega)]
      constructor
      · rintro (q | q | ⟨q1, q2⟩)
        · exact Or.inl q
        · exact Or.inr (Or.inl q)
        · exact Or.inr (Or.inr ⟨by omega, q2⟩)
      · rintro (q | q | ⟨q1, q2⟩)
        · exact Or.inl q
        · exact Or.inr (Or.inl q)
        · by_cases e2 : opN a b e = k
          · rw [e2] at q2; exact absurd q2 c
          · exact Or.inr (Or.inr ⟨by omega, q2⟩)
theorem fb_eq {a b S : Nat} (h1 : 1 ≤ a) (h2 : a ≤ 6) (h3 : 1 ≤ b) (h4 : b ≤ 6) : fbL a b S (a * b) 0 = lfN a b S := by
  have hab := ab_pos h1 h3
  have e0 : ∀ f e, fbL a b S (f + 1) e = if (rwN a b S e).testBit 0 then fbL a b S f (e + 1) else some e := fun _ _ => rfl
  by_cases c : S.testBit 0 = true
  · have key : ∀ f e, e + f = a * b → fbL a b S f e = none := by
      intro f
      induction f with
      | zero => intro e _; rfl
      | succ f ih =>
        intro e he
        rw [e0, if_pos (show (rwN a b S e).testBit 0 = true from (rw_0 h1 h2 h3 h4 (show e < a * b by omega) (a * b) (Nat.le_refl _)).mpr (Or.inl c))]
        exact ih (e + 1) (by omega)
    rw [key _ 0 (by omega)]
    unfold lfN
    rw [if_pos c]
  · have key : ∀ f e, 1 ≤ e → e + f = a * b → fbL a b S f e = lfL a b S f e := by
      intro f
      induction f with
      | zero => intro e _ _; rfl
      | succ f ih =>
        intro e h5 he
        have hop := opN_lt h1 h3 e
        have hr := rw_0 (S := S) h1 h2 h3 h4 (show e < a * b by omega) (a * b) (Nat.le_refl _)
        rw [e0, show lfL a b S (f + 1) e = if S.testBit (opN a b e) then lfL a b S f (e + 1) else some e from rfl]
        by_cases c2 : S.testBit (opN a b e) = true
        · rw [if_pos c2, if_pos (show (rwN a b S e).testBit 0 = true from hr.mpr (Or.inr (Or.inr ⟨hop, c2⟩)))]
          exact ih (e + 1) (by omega) (by omega)
        · rw [if_neg c2, if_neg (fun q => by
            rcases hr.mp q with q2 | q2 | ⟨_, q2⟩
            · exact c q2
            · omega
            · exact c2 q2)]
    obtain ⟨m, hm⟩ : ∃ m, a * b = m + 1 := ⟨a * b - 1, by omega⟩
    have h0 : (rwN a b S 0).testBit 0 = true := (rw_0 (S := S) h1 h2 h3 h4 (show 0 < a * b by omega) (a * b) (Nat.le_refl _)).mpr (Or.inr (Or.inl rfl))
    unfold lfN
    rw [if_neg c]
    rw [show fbL a b S (a * b) 0 = fbL a b S (m + 1) 0 by rw [hm], e0, if_pos h0, show a * b - 1 = m by omega]
    exact key m 1 (Nat.le_refl _) (by omega)
